abbrev R_W : String := "WatchRows2"
abbrev R_P : String := "WatchRows2$Part"
abbrev R_D : String := "WatchRows2$Deadline"
abbrev R_Q : String := "WatchRows2$Question"
abbrev R_M : String := "WatchRows2Model"
abbrev R_L : String := "WatchRows2Law"
abbrev R_A : String := "java/util/ArrayList"
abbrev R_AL : String := "java/util/AbstractList"
abbrev R_AC : String := "java/util/AbstractCollection"
abbrev R_AR : String := "java/util/Arrays"
abbrev R_AS : String := "jdk/internal/util/ArraysSupport"
abbrev R_OB : String := "java/util/Objects"
abbrev R_PC : String := "jdk/internal/util/Preconditions"
abbrev R_AE : String := "java/lang/ArithmeticException"
abbrev R_RE : String := "java/lang/RuntimeException"
abbrev R_EX : String := "java/lang/Exception"
abbrev R_TH : String := "java/lang/Throwable"
abbrev R_O : String := "java/lang/Object"
abbrev R_MA : String := "java/lang/Math"
abbrev R_SY : String := "java/lang/System"
abbrev R_S : String := "java/lang/String"
def y_W_init : MethodName := ⟨"WatchRows2", "<init>", "()V"⟩
def y_O_init : MethodName := ⟨"java/lang/Object", "<init>", "()V"⟩
def y_A_init : MethodName := ⟨"java/util/ArrayList", "<init>", "()V"⟩
def y_AL_init : MethodName := ⟨"java/util/AbstractList", "<init>", "()V"⟩
def y_AC_init : MethodName := ⟨"java/util/AbstractCollection", "<init>", "()V"⟩
def y_Q_init : MethodName := ⟨"WatchRows2$Question", "<init>", "()V"⟩
def y_W_edge : MethodName := ⟨"WatchRows2", "edge", "(III)I"⟩
def y_W_findPart : MethodName := ⟨"WatchRows2", "findPart", "(I)LWatchRows2$Part;"⟩
def y_A_size : MethodName := ⟨"java/util/ArrayList", "size", "()I"⟩
def y_W_isWithin : MethodName := ⟨"WatchRows2", "isWithin", "(JJJ)Z"⟩
def y_A_get : MethodName := ⟨"java/util/ArrayList", "get", "(I)Ljava/lang/Object;"⟩
def y_OB_checkIndex : MethodName := ⟨"java/util/Objects", "checkIndex", "(II)I"⟩
def y_PC_checkIndex : MethodName := ⟨"jdk/internal/util/Preconditions", "checkIndex", "(IILjava/util/function/BiFunction;)I"⟩
def y_A_elementData : MethodName := ⟨"java/util/ArrayList", "elementData", "(I)Ljava/lang/Object;"⟩
def y_W_isPoint : MethodName := ⟨"WatchRows2", "isPoint", "(I)Z"⟩
def y_P_addEdge : MethodName := ⟨"WatchRows2$Part", "addEdge", "(III)Z"⟩
def y_P_rowOf : MethodName := ⟨"WatchRows2$Part", "rowOf", "(II)I"⟩
def y_P_hasEdge : MethodName := ⟨"WatchRows2$Part", "hasEdge", "(III)Z"⟩
def y_W_deadline : MethodName := ⟨"WatchRows2", "deadline", "(IIIJJ)I"⟩
def y_D_init : MethodName := ⟨"WatchRows2$Deadline", "<init>", "(IIIJJ)V"⟩
def y_A_add0 : MethodName := ⟨"java/util/ArrayList", "add", "(Ljava/lang/Object;)Z"⟩
def y_A_add1 : MethodName := ⟨"java/util/ArrayList", "add", "(Ljava/lang/Object;[Ljava/lang/Object;I)V"⟩
def y_A_grow0 : MethodName := ⟨"java/util/ArrayList", "grow", "()[Ljava/lang/Object;"⟩
def y_A_grow1 : MethodName := ⟨"java/util/ArrayList", "grow", "(I)[Ljava/lang/Object;"⟩
def y_AS_newLength : MethodName := ⟨"jdk/internal/util/ArraysSupport", "newLength", "(III)I"⟩
def y_MA_max : MethodName := ⟨"java/lang/Math", "max", "(II)I"⟩
def y_AS_hugeLength : MethodName := ⟨"jdk/internal/util/ArraysSupport", "hugeLength", "(II)I"⟩
def y_AR_copyOf0 : MethodName := ⟨"java/util/Arrays", "copyOf", "([Ljava/lang/Object;I)[Ljava/lang/Object;"⟩
def y_AR_copyOf1 : MethodName := ⟨"java/util/Arrays", "copyOf", "([Ljava/lang/Object;ILjava/lang/Class;)[Ljava/lang/Object;"⟩
def y_MA_min : MethodName := ⟨"java/lang/Math", "min", "(II)I"⟩
def y_W_point : MethodName := ⟨"WatchRows2", "point", "(IIJ)I"⟩
def y_W_isTime : MethodName := ⟨"WatchRows2", "isTime", "(J)Z"⟩
def y_P_passPoint : MethodName := ⟨"WatchRows2$Part", "passPoint", "(IIJ)V"⟩
def y_P_endDeadlines : MethodName := ⟨"WatchRows2$Part", "endDeadlines", "(IJ)V"⟩
def y_P_beginDeadlines : MethodName := ⟨"WatchRows2$Part", "beginDeadlines", "(IIJ)V"⟩
def y_W_cycle : MethodName := ⟨"WatchRows2", "cycle", "(J)I"⟩
def y_P_passCycle : MethodName := ⟨"WatchRows2$Part", "passCycle", "(IJ)V"⟩
def y_P_stopLateDeadlines : MethodName := ⟨"WatchRows2$Part", "stopLateDeadlines", "(J)V"⟩
def y_P_checkAliveCount : MethodName := ⟨"WatchRows2$Part", "checkAliveCount", "(I)V"⟩
def y_P_judge : MethodName := ⟨"WatchRows2$Part", "judge", "()V"⟩
def y_W_worstCondition : MethodName := ⟨"WatchRows2", "worstCondition", "()I"⟩
def y_W_restart : MethodName := ⟨"WatchRows2", "restart", "(I)V"⟩
def y_P_beginAnew : MethodName := ⟨"WatchRows2$Part", "beginAnew", "()V"⟩
def y_P_forgetCourse : MethodName := ⟨"WatchRows2$Part", "forgetCourse", "()V"⟩
def y_Q_beginAnew : MethodName := ⟨"WatchRows2$Question", "beginAnew", "(J)V"⟩
def y_W_tolerance : MethodName := ⟨"WatchRows2", "tolerance", "(II)I"⟩
def y_W_answer : MethodName := ⟨"WatchRows2", "answer", "(IJJ)I"⟩
def y_Q_isRight : MethodName := ⟨"WatchRows2$Question", "isRight", "(IJJ)Z"⟩
def y_Q_rightValue : MethodName := ⟨"WatchRows2$Question", "rightValue", "(I)J"⟩
def y_Q_isInTime : MethodName := ⟨"WatchRows2$Question", "isInTime", "(J)Z"⟩
def y_Q_takeRight : MethodName := ⟨"WatchRows2$Question", "takeRight", "(IJ)V"⟩
def y_Q_takeWrong : MethodName := ⟨"WatchRows2$Question", "takeWrong", "(J)V"⟩
def y_W_mode : MethodName := ⟨"WatchRows2", "mode", "(I)I"⟩
def y_W_reset : MethodName := ⟨"WatchRows2", "reset", "(I)I"⟩
def y_W_outer : MethodName := ⟨"WatchRows2", "outer", "(J)I"⟩
def y_W_state : MethodName := ⟨"WatchRows2", "state", "(I)I"⟩
def y_W_part : MethodName := ⟨"WatchRows2", "part", "(IIJ)I"⟩
def y_TH_init0 : MethodName := ⟨"java/lang/Throwable", "<init>", "()V"⟩
def y_TH_init1 : MethodName := ⟨"java/lang/Throwable", "<init>", "(Ljava/lang/String;)V"⟩
def y_AE_init : MethodName := ⟨"java/lang/ArithmeticException", "<init>", "(Ljava/lang/String;)V"⟩
def y_RE_init : MethodName := ⟨"java/lang/RuntimeException", "<init>", "(Ljava/lang/String;)V"⟩
def y_EX_init : MethodName := ⟨"java/lang/Exception", "<init>", "(Ljava/lang/String;)V"⟩
def y_P_init : MethodName := ⟨"WatchRows2$Part", "<init>", "(IIJ)V"⟩
def y_M_init : MethodName := ⟨"WatchRows2Model", "<init>", "()V"⟩
def y_M_thrown : MethodName := ⟨"WatchRows2Model", "thrown", "()I"⟩
def y_M_part : MethodName := ⟨"WatchRows2Model", "part", "(IIJ)I"⟩
def y_M_edge : MethodName := ⟨"WatchRows2Model", "edge", "(III)I"⟩
def y_M_isPart : MethodName := ⟨"WatchRows2Model", "isPart", "(I)Z"⟩
def y_M_edgeAt : MethodName := ⟨"WatchRows2Model", "edgeAt", "(III)I"⟩
def y_M_deadline : MethodName := ⟨"WatchRows2Model", "deadline", "(IIIJJ)I"⟩
def y_M_point : MethodName := ⟨"WatchRows2Model", "point", "(IIJ)I"⟩
def y_M_isTime : MethodName := ⟨"WatchRows2Model", "isTime", "(J)Z"⟩
def y_M_cycle : MethodName := ⟨"WatchRows2Model", "cycle", "(J)I"⟩
def y_M_judge : MethodName := ⟨"WatchRows2Model", "judge", "(I)V"⟩
def y_M_reset0 : MethodName := ⟨"WatchRows2Model", "reset0", "(I)V"⟩
def y_M_clear : MethodName := ⟨"WatchRows2Model", "clear", "(I)V"⟩
def y_M_tolerance : MethodName := ⟨"WatchRows2Model", "tolerance", "(II)I"⟩
def y_M_answer : MethodName := ⟨"WatchRows2Model", "answer", "(IJJ)I"⟩
def y_M_mode : MethodName := ⟨"WatchRows2Model", "mode", "(I)I"⟩
def y_M_reset : MethodName := ⟨"WatchRows2Model", "reset", "(I)I"⟩
def y_M_outer : MethodName := ⟨"WatchRows2Model", "outer", "(J)I"⟩
def y_M_state : MethodName := ⟨"WatchRows2Model", "state", "(I)I"⟩
def y_L_part : MethodName := ⟨"WatchRows2Law", "part", "(LWatchRows2;IIJ[J)I"⟩
abbrev c_W_init : ByteArray := prog_1_method_1_code
abbrev c_O_init : ByteArray := object_method_1_code
abbrev c_A_init : ByteArray := prog_19_method_2_code
abbrev c_AL_init : ByteArray := prog_18_method_1_code
abbrev c_AC_init : ByteArray := prog_17_method_1_code
abbrev c_Q_init : ByteArray := prog_4_method_1_code
abbrev c_W_edge : ByteArray := prog_1_method_3_code
abbrev c_W_findPart : ByteArray := prog_1_method_16_code
abbrev c_A_size : ByteArray := prog_19_method_8_code
abbrev c_W_isWithin : ByteArray := prog_1_method_13_code
abbrev c_A_get : ByteArray := prog_19_method_20_code
abbrev c_OB_checkIndex : ByteArray := prog_23_method_17_code
abbrev c_PC_checkIndex : ByteArray := prog_27_method_11_code
abbrev c_A_elementData : ByteArray := prog_19_method_18_code
abbrev c_W_isPoint : ByteArray := prog_1_method_14_code
abbrev c_P_addEdge : ByteArray := prog_3_method_2_code
abbrev c_P_rowOf : ByteArray := prog_3_method_4_code
abbrev c_P_hasEdge : ByteArray := prog_3_method_3_code
abbrev c_W_deadline : ByteArray := prog_1_method_4_code
abbrev c_D_init : ByteArray := prog_2_method_1_code
abbrev c_A_add0 : ByteArray := prog_19_method_25_code
abbrev c_A_add1 : ByteArray := prog_19_method_24_code
abbrev c_A_grow0 : ByteArray := prog_19_method_7_code
abbrev c_A_grow1 : ByteArray := prog_19_method_6_code
abbrev c_AS_newLength : ByteArray := prog_26_method_27_code
abbrev c_MA_max : ByteArray := prog_12_method_65_code
abbrev c_AS_hugeLength : ByteArray := prog_26_method_28_code
abbrev c_AR_copyOf0 : ByteArray := prog_20_method_119_code
abbrev c_AR_copyOf1 : ByteArray := prog_20_method_120_code
abbrev c_MA_min : ByteArray := prog_12_method_69_code
abbrev c_W_point : ByteArray := prog_1_method_5_code
abbrev c_W_isTime : ByteArray := prog_1_method_15_code
abbrev c_P_passPoint : ByteArray := prog_3_method_5_code
abbrev c_P_endDeadlines : ByteArray := prog_3_method_6_code
abbrev c_P_beginDeadlines : ByteArray := prog_3_method_7_code
abbrev c_W_cycle : ByteArray := prog_1_method_6_code
abbrev c_P_passCycle : ByteArray := prog_3_method_8_code
abbrev c_P_stopLateDeadlines : ByteArray := prog_3_method_9_code
abbrev c_P_checkAliveCount : ByteArray := prog_3_method_10_code
abbrev c_P_judge : ByteArray := prog_3_method_11_code
abbrev c_W_worstCondition : ByteArray := prog_1_method_17_code
abbrev c_W_restart : ByteArray := prog_1_method_18_code
abbrev c_P_beginAnew : ByteArray := prog_3_method_13_code
abbrev c_P_forgetCourse : ByteArray := prog_3_method_12_code
abbrev c_Q_beginAnew : ByteArray := prog_4_method_7_code
abbrev c_W_tolerance : ByteArray := prog_1_method_7_code
abbrev c_W_answer : ByteArray := prog_1_method_8_code
abbrev c_Q_isRight : ByteArray := prog_4_method_2_code
abbrev c_Q_rightValue : ByteArray := prog_4_method_3_code
abbrev c_Q_isInTime : ByteArray := prog_4_method_4_code
abbrev c_Q_takeRight : ByteArray := prog_4_method_5_code
abbrev c_Q_takeWrong : ByteArray := prog_4_method_6_code
abbrev c_W_mode : ByteArray := prog_1_method_9_code
abbrev c_W_reset : ByteArray := prog_1_method_10_code
abbrev c_W_outer : ByteArray := prog_1_method_11_code
abbrev c_W_state : ByteArray := prog_1_method_12_code
abbrev c_W_part : ByteArray := prog_1_method_2_code
abbrev c_TH_init0 : ByteArray := prog_16_method_1_code
abbrev c_AE_init : ByteArray := prog_8_method_2_code
abbrev c_RE_init : ByteArray := prog_13_method_2_code
abbrev c_EX_init : ByteArray := prog_10_method_2_code
abbrev c_TH_init1 : ByteArray := prog_16_method_2_code
abbrev c_P_init : ByteArray := prog_3_method_1_code
abbrev c_M_init : ByteArray := prog_6_method_1_code
abbrev c_M_thrown : ByteArray := prog_6_method_2_code
abbrev c_M_part : ByteArray := prog_6_method_5_code
abbrev c_M_edge : ByteArray := prog_6_method_7_code
abbrev c_M_isPart : ByteArray := prog_6_method_3_code
abbrev c_M_edgeAt : ByteArray := prog_6_method_6_code
abbrev c_M_deadline : ByteArray := prog_6_method_8_code
abbrev c_M_point : ByteArray := prog_6_method_9_code
abbrev c_M_isTime : ByteArray := prog_6_method_4_code
abbrev c_M_cycle : ByteArray := prog_6_method_13_code
abbrev c_M_judge : ByteArray := prog_6_method_12_code
abbrev c_M_reset0 : ByteArray := prog_6_method_11_code
abbrev c_M_clear : ByteArray := prog_6_method_10_code
abbrev c_M_tolerance : ByteArray := prog_6_method_14_code
abbrev c_M_answer : ByteArray := prog_6_method_15_code
abbrev c_M_mode : ByteArray := prog_6_method_16_code
abbrev c_M_reset : ByteArray := prog_6_method_17_code
abbrev c_M_outer : ByteArray := prog_6_method_18_code
abbrev c_M_state : ByteArray := prog_6_method_19_code
abbrev c_L_part : ByteArray := method_3_code
/-- the words that every method here may use -/
def wsA : List Cond := lw_tbl.filter goodWord
theorem wsA_good : ∀ w ∈ wsA, goodWord w = true := fun w h => (List.mem_filter.mp h).2
theorem wsA_in : ∀ w ∈ wsA, w ∈ lw_tbl := fun w h => (List.mem_filter.mp h).1
theorem wsA_of {w : Cond} (i : Nat) (h : tables_1[i]? = some w) (hg : goodWord w = true) : w ∈ wsA := List.mem_filter.mpr ⟨List.mem_append_right _ (List.mem_of_getElem? h), hg⟩
theorem wsA_1 {w : Cond} (i : Nat) (h : tables_1_1[i]? = some w) (hg : goodWord w = true) : w ∈ wsA := List.mem_filter.mpr ⟨List.mem_append_right _ (List.mem_append_left _ (List.mem_of_getElem? h)), hg⟩
theorem wsA_2 {w : Cond} (i : Nat) (h : tables_1_2[i]? = some w) (hg : goodWord w = true) : w ∈ wsA := List.mem_filter.mpr ⟨List.mem_append_right _ (List.mem_append_right _ (List.mem_append_left _ (List.mem_of_getElem? h))), hg⟩
theorem wsA_3 {w : Cond} (i : Nat) (h : tables_1_3[i]? = some w) (hg : goodWord w = true) : w ∈ wsA := List.mem_filter.mpr ⟨List.mem_append_right _ (List.mem_append_right _ (List.mem_append_right _ (List.mem_of_getElem? h))), hg⟩
theorem wsA_sel {q : MethodName × Nat} (i : Nat) (h : lw_privs[i]? = some q) (hg : goodWord (Cond.selects q.1.cls q.1 q.1) = true) : Cond.selects q.1.cls q.1 q.1 ∈ wsA := List.mem_filter.mpr ⟨List.mem_append_left _ (List.mem_map.mpr ⟨q, List.mem_of_getElem? h, rfl⟩), hg⟩
theorem m_0 : Cond.initialized "WatchRows2Law" ∈ wsA := wsA_1 0 rfl rfl
theorem m_1 : Cond.initialized "WatchRows2" ∈ wsA := wsA_1 1 rfl rfl
theorem m_2 : Cond.initialized "java/util/AbstractCollection" ∈ wsA := wsA_1 2 rfl rfl
theorem m_3 : Cond.initialized "java/util/AbstractList" ∈ wsA := wsA_1 3 rfl rfl
theorem m_4 : Cond.initialized "java/util/ArrayList" ∈ wsA := wsA_1 4 rfl rfl
theorem m_5 : Cond.initialized "WatchRows2$Question" ∈ wsA := wsA_1 5 rfl rfl
theorem m_6 : Cond.initialized "WatchRows2Model" ∈ wsA := wsA_1 6 rfl rfl
theorem m_7 : Cond.initialized "java/lang/Throwable" ∈ wsA := wsA_1 7 rfl rfl
theorem m_8 : Cond.initialized "java/lang/Exception" ∈ wsA := wsA_1 8 rfl rfl
theorem m_9 : Cond.initialized "java/lang/RuntimeException" ∈ wsA := wsA_1 9 rfl rfl
theorem m_10 : Cond.initialized "java/lang/ArithmeticException" ∈ wsA := wsA_1 10 rfl rfl
theorem m_11 : Cond.initialized "WatchRows2$Part" ∈ wsA := wsA_1 11 rfl rfl
theorem m_12 : Cond.initialized "jdk/internal/util/ArraysSupport" ∈ wsA := wsA_1 12 rfl rfl
theorem m_13 : Cond.initialized "java/lang/Math" ∈ wsA := wsA_1 13 rfl rfl
theorem m_14 : Cond.initialized "java/util/Arrays" ∈ wsA := wsA_1 14 rfl rfl
theorem m_15 : Cond.initialized "java/lang/System" ∈ wsA := wsA_1 15 rfl rfl
theorem m_16 : Cond.initialized "java/util/Objects" ∈ wsA := wsA_1 16 rfl rfl
theorem m_17 : Cond.initialized "jdk/internal/util/Preconditions" ∈ wsA := wsA_1 17 rfl rfl
theorem m_18 : Cond.initialized "WatchRows2$Deadline" ∈ wsA := wsA_1 18 rfl rfl
theorem m_19 : Cond.classLink "WatchRows2Law" 8 "WatchRows2" ∈ wsA := wsA_1 19 rfl rfl
theorem m_20 : Cond.instantiable "WatchRows2" 10 ∈ wsA := wsA_1 20 rfl rfl
theorem m_21 : Cond.methodLink "WatchRows2Law" 15 y_W_init ∈ wsA := wsA_1 21 rfl rfl
theorem m_22 : Cond.instanceMethod y_W_init ∈ wsA := wsA_1 22 rfl rfl
theorem m_23 : Cond.code y_W_init c_W_init 1 (none : Option FieldType) ∈ wsA := wsA_1 23 rfl rfl
theorem m_24 : Cond.methodLink "WatchRows2" 1 y_O_init ∈ wsA := wsA_1 24 rfl rfl
theorem m_25 : Cond.instanceMethod y_O_init ∈ wsA := wsA_1 25 rfl rfl
theorem m_26 : Cond.code y_O_init c_O_init 1 (none : Option FieldType) ∈ wsA := wsA_1 26 rfl rfl
theorem m_27 : Cond.classLink "WatchRows2" 7 "java/util/ArrayList" ∈ wsA := wsA_1 27 rfl rfl
theorem m_28 : Cond.instantiable "java/util/ArrayList" 3 ∈ wsA := wsA_1 28 rfl rfl
theorem m_29 : Cond.methodLink "WatchRows2" 9 y_A_init ∈ wsA := wsA_1 29 rfl rfl
theorem m_30 : Cond.instanceMethod y_A_init ∈ wsA := wsA_1 30 rfl rfl
theorem m_31 : Cond.code y_A_init c_A_init 1 (none : Option FieldType) ∈ wsA := wsA_1 31 rfl rfl
theorem m_32 : Cond.methodLink "java/util/ArrayList" 1 y_AL_init ∈ wsA := wsA_1 32 rfl rfl
theorem m_33 : Cond.instanceMethod y_AL_init ∈ wsA := wsA_1 33 rfl rfl
theorem m_34 : Cond.code y_AL_init c_AL_init 1 (none : Option FieldType) ∈ wsA := wsA_1 34 rfl rfl
theorem m_35 : Cond.methodLink "java/util/AbstractList" 1 y_AC_init ∈ wsA := wsA_1 35 rfl rfl
theorem m_36 : Cond.instanceMethod y_AC_init ∈ wsA := wsA_1 36 rfl rfl
theorem m_37 : Cond.code y_AC_init c_AC_init 1 (none : Option FieldType) ∈ wsA := wsA_1 37 rfl rfl
theorem m_38 : Cond.methodLink "java/util/AbstractCollection" 1 y_O_init ∈ wsA := wsA_1 38 rfl rfl
theorem m_39 : Cond.fieldLink "java/util/ArrayList" 39 "java/util/ArrayList" "DEFAULTCAPACITY_EMPTY_ELEMENTDATA" "[Ljava/lang/Object;" ∈ wsA := wsA_1 39 rfl rfl
theorem m_41 : Cond.fieldLink "java/util/ArrayList" 9 "java/util/ArrayList" "elementData" "[Ljava/lang/Object;" ∈ wsA := wsA_1 41 rfl rfl
theorem m_42 : Cond.fieldLink "java/util/ArrayList" 48 "java/util/ArrayList" "size" "I" ∈ wsA := wsA_1 42 rfl rfl
theorem m_43 : Cond.fieldLink "java/util/AbstractList" 7 "java/util/AbstractList" "modCount" "I" ∈ wsA := wsA_1 43 rfl rfl
theorem m_44 : Cond.fieldLink "java/util/ArrayList" 63 "java/util/ArrayList" "modCount" "I" ∈ wsA := wsA_1 44 rfl rfl
theorem m_45 : Cond.sameField "java/util/ArrayList" "java/util/AbstractList" "modCount" "I" ∈ wsA := wsA_1 45 rfl rfl
theorem m_53 : Cond.classLink "WatchRows2" 16 "WatchRows2$Question" ∈ wsA := wsA_1 53 rfl rfl
theorem m_54 : Cond.instantiable "WatchRows2$Question" 4 ∈ wsA := wsA_1 54 rfl rfl
theorem m_55 : Cond.methodLink "WatchRows2" 18 y_Q_init ∈ wsA := wsA_1 55 rfl rfl
theorem m_56 : Cond.instanceMethod y_Q_init ∈ wsA := wsA_1 56 rfl rfl
theorem m_57 : Cond.code y_Q_init c_Q_init 1 (none : Option FieldType) ∈ wsA := wsA_1 57 rfl rfl
theorem m_58 : Cond.methodLink "WatchRows2$Question" 3 y_O_init ∈ wsA := wsA_1 58 rfl rfl
theorem m_59 : Cond.fieldLink "WatchRows2$Question" 9 "WatchRows2$Question" "number" "I" ∈ wsA := wsA_1 59 rfl rfl
theorem m_60 : Cond.fieldLink "WatchRows2" 146 "WatchRows2$Question" "number" "I" ∈ wsA := wsA_1 60 rfl rfl
theorem m_61 : Cond.fieldLink "WatchRows2$Question" 15 "WatchRows2$Question" "nextStep" "I" ∈ wsA := wsA_1 61 rfl rfl
theorem m_62 : Cond.fieldLink "WatchRows2$Question" 18 "WatchRows2$Question" "errors" "I" ∈ wsA := wsA_1 62 rfl rfl
theorem m_63 : Cond.fieldLink "WatchRows2" 140 "WatchRows2$Question" "errors" "I" ∈ wsA := wsA_1 63 rfl rfl
theorem m_64 : Cond.fieldLink "WatchRows2$Question" 21 "WatchRows2$Question" "since" "J" ∈ wsA := wsA_1 64 rfl rfl
theorem m_74 : Cond.fieldLink "WatchRows2" 10 "WatchRows2" "parts" "Ljava/util/ArrayList;" ∈ wsA := wsA_1 74 rfl rfl
theorem m_75 : Cond.fieldLink "WatchRows2" 19 "WatchRows2" "question" "LWatchRows2$Question;" ∈ wsA := wsA_1 75 rfl rfl
theorem m_76 : Cond.fieldLink "WatchRows2" 23 "WatchRows2" "currentMode" "I" ∈ wsA := wsA_1 76 rfl rfl
theorem m_77 : Cond.fieldLink "WatchRows2" 27 "WatchRows2" "age" "I" ∈ wsA := wsA_1 77 rfl rfl
theorem m_78 : Cond.fieldLink "WatchRows2" 30 "WatchRows2" "now" "J" ∈ wsA := wsA_1 78 rfl rfl
theorem m_79 : Cond.fieldLink "WatchRows2" 34 "WatchRows2" "outerSince" "J" ∈ wsA := wsA_1 79 rfl rfl
theorem m_80 : Cond.fieldLink "WatchRows2" 37 "WatchRows2" "globalTolerance" "I" ∈ wsA := wsA_1 80 rfl rfl
theorem m_81 : Cond.fieldLink "WatchRows2" 40 "WatchRows2" "expiredCycles" "I" ∈ wsA := wsA_1 81 rfl rfl
theorem m_82 : Cond.fieldLink "WatchRows2" 43 "WatchRows2" "resets" "I" ∈ wsA := wsA_1 82 rfl rfl
theorem m_83 : Cond.fieldLink "WatchRows2" 46 "WatchRows2" "lastReason" "I" ∈ wsA := wsA_1 83 rfl rfl
theorem m_105 : Cond.methodLink "WatchRows2Law" 31 y_W_edge ∈ wsA := wsA_1 105 rfl rfl
theorem m_106 : Cond.instanceMethod y_W_edge ∈ wsA := wsA_1 106 rfl rfl
theorem m_107 : Cond.selects "WatchRows2" y_W_edge y_W_edge ∈ wsA := wsA_1 107 rfl rfl
theorem m_108 : Cond.code y_W_edge c_W_edge 5 (some .int) ∈ wsA := wsA_1 108 rfl rfl
theorem m_109 : Cond.methodLink "WatchRows2" 77 y_W_findPart ∈ wsA := wsA_1 109 rfl rfl
theorem m_111 : Cond.instanceMethod y_W_findPart ∈ wsA := wsA_1 111 rfl rfl
theorem m_112 : Cond.code y_W_findPart c_W_findPart 2 (some (.object "WatchRows2$Part")) ∈ wsA := wsA_1 112 rfl rfl
theorem m_113 : Cond.methodLink "WatchRows2" 57 y_A_size ∈ wsA := wsA_1 113 rfl rfl
theorem m_114 : Cond.instanceMethod y_A_size ∈ wsA := wsA_1 114 rfl rfl
theorem m_115 : Cond.selects "java/util/ArrayList" y_A_size y_A_size ∈ wsA := wsA_1 115 rfl rfl
theorem m_116 : Cond.code y_A_size c_A_size 1 (some .int) ∈ wsA := wsA_1 116 rfl rfl
theorem m_117 : Cond.methodLink "WatchRows2" 51 y_W_isWithin ∈ wsA := wsA_1 117 rfl rfl
theorem m_118 : Cond.static y_W_isWithin ∈ wsA := wsA_1 118 rfl rfl
theorem m_119 : Cond.code y_W_isWithin c_W_isWithin 6 (some .boolean) ∈ wsA := wsA_1 119 rfl rfl
theorem m_120 : Cond.methodLink "WatchRows2" 109 y_A_get ∈ wsA := wsA_1 120 rfl rfl
theorem m_121 : Cond.instanceMethod y_A_get ∈ wsA := wsA_1 121 rfl rfl
theorem m_122 : Cond.selects "java/util/ArrayList" y_A_get y_A_get ∈ wsA := wsA_1 122 rfl rfl
theorem m_123 : Cond.code y_A_get c_A_get 2 (some (.object "java/lang/Object")) ∈ wsA := wsA_1 123 rfl rfl
theorem m_124 : Cond.methodLink "java/util/ArrayList" 118 y_OB_checkIndex ∈ wsA := wsA_1 124 rfl rfl
theorem m_125 : Cond.static y_OB_checkIndex ∈ wsA := wsA_1 125 rfl rfl
theorem m_126 : Cond.code y_OB_checkIndex c_OB_checkIndex 2 (some .int) ∈ wsA := wsA_1 126 rfl rfl
theorem m_127 : Cond.methodLink "java/util/Objects" 105 y_PC_checkIndex ∈ wsA := wsA_1 127 rfl rfl
theorem m_128 : Cond.static y_PC_checkIndex ∈ wsA := wsA_1 128 rfl rfl
theorem m_129 : Cond.code y_PC_checkIndex c_PC_checkIndex 3 (some .int) ∈ wsA := wsA_1 129 rfl rfl
theorem m_130 : Cond.methodLink "java/util/ArrayList" 123 y_A_elementData ∈ wsA := wsA_1 130 rfl rfl
theorem m_131 : Cond.instanceMethod y_A_elementData ∈ wsA := wsA_1 131 rfl rfl
theorem m_132 : Cond.selects "java/util/ArrayList" y_A_elementData y_A_elementData ∈ wsA := wsA_1 132 rfl rfl
theorem m_133 : Cond.code y_A_elementData c_A_elementData 2 (some (.object "java/lang/Object")) ∈ wsA := wsA_1 133 rfl rfl
theorem m_134 : Cond.classLink "WatchRows2" 68 "WatchRows2$Part" ∈ wsA := wsA_1 134 rfl rfl
theorem m_135 : Cond.methodLink "WatchRows2" 81 y_W_isPoint ∈ wsA := wsA_1 135 rfl rfl
theorem m_136 : Cond.static y_W_isPoint ∈ wsA := wsA_1 136 rfl rfl
theorem m_137 : Cond.code y_W_isPoint c_W_isPoint 1 (some .boolean) ∈ wsA := wsA_1 137 rfl rfl
theorem m_138 : Cond.constantLong "WatchRows2" 149 (30) ∈ wsA := wsA_1 138 rfl rfl
theorem m_139 : Cond.methodLink "WatchRows2" 85 y_P_addEdge ∈ wsA := wsA_1 139 rfl rfl
theorem m_140 : Cond.instanceMethod y_P_addEdge ∈ wsA := wsA_1 140 rfl rfl
theorem m_141 : Cond.selects "WatchRows2$Part" y_P_addEdge y_P_addEdge ∈ wsA := wsA_1 141 rfl rfl
theorem m_142 : Cond.code y_P_addEdge c_P_addEdge 5 (some .boolean) ∈ wsA := wsA_1 142 rfl rfl
theorem m_143 : Cond.methodLink "WatchRows2$Part" 52 y_P_rowOf ∈ wsA := wsA_1 143 rfl rfl
theorem m_144 : Cond.static y_P_rowOf ∈ wsA := wsA_1 144 rfl rfl
theorem m_145 : Cond.code y_P_rowOf c_P_rowOf 2 (some .int) ∈ wsA := wsA_1 145 rfl rfl
theorem m_146 : Cond.methodLink "WatchRows2$Part" 56 y_P_hasEdge ∈ wsA := wsA_1 146 rfl rfl
theorem m_147 : Cond.instanceMethod y_P_hasEdge ∈ wsA := wsA_1 147 rfl rfl
theorem m_148 : Cond.selects "WatchRows2$Part" y_P_hasEdge y_P_hasEdge ∈ wsA := wsA_1 148 rfl rfl
theorem m_149 : Cond.code y_P_hasEdge c_P_hasEdge 5 (some .boolean) ∈ wsA := wsA_1 149 rfl rfl
theorem m_151 : Cond.methodLink "WatchRows2Law" 36 y_W_deadline ∈ wsA := wsA_1 151 rfl rfl
theorem m_152 : Cond.instanceMethod y_W_deadline ∈ wsA := wsA_1 152 rfl rfl
theorem m_153 : Cond.selects "WatchRows2" y_W_deadline y_W_deadline ∈ wsA := wsA_1 153 rfl rfl
theorem m_154 : Cond.code y_W_deadline c_W_deadline 9 (some .int) ∈ wsA := wsA_1 154 rfl rfl
theorem m_155 : Cond.constantLong "WatchRows2" 89 (100000) ∈ wsA := wsA_1 155 rfl rfl
theorem m_156 : Cond.classLink "WatchRows2" 94 "WatchRows2$Deadline" ∈ wsA := wsA_1 156 rfl rfl
theorem m_157 : Cond.instantiable "WatchRows2$Deadline" 7 ∈ wsA := wsA_1 157 rfl rfl
theorem m_158 : Cond.methodLink "WatchRows2" 96 y_D_init ∈ wsA := wsA_1 158 rfl rfl
theorem m_159 : Cond.instanceMethod y_D_init ∈ wsA := wsA_1 159 rfl rfl
theorem m_160 : Cond.code y_D_init c_D_init 8 (none : Option FieldType) ∈ wsA := wsA_1 160 rfl rfl
theorem m_161 : Cond.methodLink "WatchRows2$Deadline" 1 y_O_init ∈ wsA := wsA_1 161 rfl rfl
theorem m_162 : Cond.fieldLink "WatchRows2$Deadline" 7 "WatchRows2$Deadline" "ofMode" "I" ∈ wsA := wsA_1 162 rfl rfl
theorem m_163 : Cond.fieldLink "WatchRows2$Part" 95 "WatchRows2$Deadline" "ofMode" "I" ∈ wsA := wsA_1 163 rfl rfl
theorem m_164 : Cond.fieldLink "WatchRows2$Deadline" 13 "WatchRows2$Deadline" "from" "I" ∈ wsA := wsA_1 164 rfl rfl
theorem m_165 : Cond.fieldLink "WatchRows2$Part" 98 "WatchRows2$Deadline" "from" "I" ∈ wsA := wsA_1 165 rfl rfl
theorem m_166 : Cond.fieldLink "WatchRows2$Deadline" 16 "WatchRows2$Deadline" "to" "I" ∈ wsA := wsA_1 166 rfl rfl
theorem m_167 : Cond.fieldLink "WatchRows2$Part" 85 "WatchRows2$Deadline" "to" "I" ∈ wsA := wsA_1 167 rfl rfl
theorem m_168 : Cond.fieldLink "WatchRows2$Deadline" 19 "WatchRows2$Deadline" "least" "J" ∈ wsA := wsA_1 168 rfl rfl
theorem m_169 : Cond.fieldLink "WatchRows2$Part" 91 "WatchRows2$Deadline" "least" "J" ∈ wsA := wsA_1 169 rfl rfl
theorem m_170 : Cond.fieldLink "WatchRows2$Deadline" 23 "WatchRows2$Deadline" "most" "J" ∈ wsA := wsA_1 170 rfl rfl
theorem m_171 : Cond.fieldLink "WatchRows2$Part" 93 "WatchRows2$Deadline" "most" "J" ∈ wsA := wsA_1 171 rfl rfl
theorem m_172 : Cond.fieldLink "WatchRows2$Deadline" 26 "WatchRows2$Deadline" "running" "Z" ∈ wsA := wsA_1 172 rfl rfl
theorem m_173 : Cond.fieldLink "WatchRows2$Part" 82 "WatchRows2$Deadline" "running" "Z" ∈ wsA := wsA_1 173 rfl rfl
theorem m_174 : Cond.fieldLink "WatchRows2$Deadline" 30 "WatchRows2$Deadline" "begun" "J" ∈ wsA := wsA_1 174 rfl rfl
theorem m_175 : Cond.fieldLink "WatchRows2$Part" 88 "WatchRows2$Deadline" "begun" "J" ∈ wsA := wsA_1 175 rfl rfl
theorem m_191 : Cond.methodLink "WatchRows2" 73 y_A_add0 ∈ wsA := wsA_1 191 rfl rfl
theorem m_192 : Cond.instanceMethod y_A_add0 ∈ wsA := wsA_1 192 rfl rfl
theorem m_193 : Cond.selects "java/util/ArrayList" y_A_add0 y_A_add0 ∈ wsA := wsA_1 193 rfl rfl
theorem m_194 : Cond.code y_A_add0 c_A_add0 2 (some .boolean) ∈ wsA := wsA_1 194 rfl rfl
theorem m_195 : Cond.methodLink "java/util/ArrayList" 131 y_A_add1 ∈ wsA := wsA_1 195 rfl rfl
theorem m_197 : Cond.instanceMethod y_A_add1 ∈ wsA := wsA_1 197 rfl rfl
theorem m_198 : Cond.code y_A_add1 c_A_add1 4 (none : Option FieldType) ∈ wsA := wsA_1 198 rfl rfl
theorem m_199 : Cond.methodLink "java/util/ArrayList" 129 y_A_grow0 ∈ wsA := wsA_1 199 rfl rfl
theorem m_201 : Cond.instanceMethod y_A_grow0 ∈ wsA := wsA_1 201 rfl rfl
theorem m_202 : Cond.code y_A_grow0 c_A_grow0 1 (some (.array (.object "java/lang/Object"))) ∈ wsA := wsA_1 202 rfl rfl
theorem m_203 : Cond.methodLink "java/util/ArrayList" 69 y_A_grow1 ∈ wsA := wsA_1 203 rfl rfl
theorem m_205 : Cond.instanceMethod y_A_grow1 ∈ wsA := wsA_1 205 rfl rfl
theorem m_206 : Cond.code y_A_grow1 c_A_grow1 4 (some (.array (.object "java/lang/Object"))) ∈ wsA := wsA_1 206 rfl rfl
theorem m_207 : Cond.methodLink "java/util/ArrayList" 73 y_AS_newLength ∈ wsA := wsA_1 207 rfl rfl
theorem m_208 : Cond.static y_AS_newLength ∈ wsA := wsA_1 208 rfl rfl
theorem m_209 : Cond.code y_AS_newLength c_AS_newLength 4 (some .int) ∈ wsA := wsA_1 209 rfl rfl
theorem m_210 : Cond.methodLink "jdk/internal/util/ArraysSupport" 194 y_MA_max ∈ wsA := wsA_1 210 rfl rfl
theorem m_211 : Cond.static y_MA_max ∈ wsA := wsA_1 211 rfl rfl
theorem m_212 : Cond.code y_MA_max c_MA_max 2 (some .int) ∈ wsA := wsA_1 212 rfl rfl
theorem m_213 : Cond.constant "jdk/internal/util/ArraysSupport" 200 (2147483639) ∈ wsA := wsA_1 213 rfl rfl
theorem m_214 : Cond.methodLink "jdk/internal/util/ArraysSupport" 201 y_AS_hugeLength ∈ wsA := wsA_1 214 rfl rfl
theorem m_215 : Cond.static y_AS_hugeLength ∈ wsA := wsA_1 215 rfl rfl
theorem m_216 : Cond.code y_AS_hugeLength c_AS_hugeLength 3 (some .int) ∈ wsA := wsA_1 216 rfl rfl
theorem m_217 : Cond.methodLink "java/util/ArrayList" 66 y_AR_copyOf0 ∈ wsA := wsA_1 217 rfl rfl
theorem m_218 : Cond.static y_AR_copyOf0 ∈ wsA := wsA_1 218 rfl rfl
theorem m_219 : Cond.code y_AR_copyOf0 c_AR_copyOf0 2 (some (.array (.object "java/lang/Object"))) ∈ wsA := wsA_1 219 rfl rfl
theorem m_220 : Cond.methodLink "java/util/Arrays" 86 ⟨"java/lang/Object", "getClass", "()Ljava/lang/Class;"⟩ ∈ wsA := wsA_1 220 rfl rfl
theorem m_221 : Cond.instanceMethod ⟨"java/lang/Object", "getClass", "()Ljava/lang/Class;"⟩ ∈ wsA := wsA_1 221 rfl rfl
theorem m_222 : Cond.sameMethod "java/lang/Object" "java/lang/Object" "getClass" "()Ljava/lang/Class;" ∈ wsA := wsA_1 222 rfl rfl
theorem m_223 : Cond.selects "WatchRows2" ⟨"java/lang/Object", "getClass", "()Ljava/lang/Class;"⟩ ⟨"java/lang/Object", "getClass", "()Ljava/lang/Class;"⟩ ∈ wsA := wsA_1 223 rfl rfl
theorem m_224 : Cond.selects "WatchRows2$Deadline" ⟨"java/lang/Object", "getClass", "()Ljava/lang/Class;"⟩ ⟨"java/lang/Object", "getClass", "()Ljava/lang/Class;"⟩ ∈ wsA := wsA_1 224 rfl rfl
theorem m_225 : Cond.selects "WatchRows2$Part" ⟨"java/lang/Object", "getClass", "()Ljava/lang/Class;"⟩ ⟨"java/lang/Object", "getClass", "()Ljava/lang/Class;"⟩ ∈ wsA := wsA_1 225 rfl rfl
theorem m_226 : Cond.selects "WatchRows2$Question" ⟨"java/lang/Object", "getClass", "()Ljava/lang/Class;"⟩ ⟨"java/lang/Object", "getClass", "()Ljava/lang/Class;"⟩ ∈ wsA := wsA_1 226 rfl rfl
theorem m_227 : Cond.selects "WatchRows2Model" ⟨"java/lang/Object", "getClass", "()Ljava/lang/Class;"⟩ ⟨"java/lang/Object", "getClass", "()Ljava/lang/Class;"⟩ ∈ wsA := wsA_1 227 rfl rfl
theorem m_228 : Cond.selects "java/lang/ArithmeticException" ⟨"java/lang/Object", "getClass", "()Ljava/lang/Class;"⟩ ⟨"java/lang/Object", "getClass", "()Ljava/lang/Class;"⟩ ∈ wsA := wsA_1 228 rfl rfl
theorem m_229 : Cond.selects "java/util/ArrayList" ⟨"java/lang/Object", "getClass", "()Ljava/lang/Class;"⟩ ⟨"java/lang/Object", "getClass", "()Ljava/lang/Class;"⟩ ∈ wsA := wsA_1 229 rfl rfl
theorem m_230 : Cond.native ⟨"java/lang/Object", "getClass", "()Ljava/lang/Class;"⟩ ∈ wsA := wsA_1 230 rfl rfl
theorem m_231 : Cond.methodLink "java/util/Arrays" 300 y_AR_copyOf1 ∈ wsA := wsA_1 231 rfl rfl
theorem m_232 : Cond.static y_AR_copyOf1 ∈ wsA := wsA_1 232 rfl rfl
theorem m_233 : Cond.code y_AR_copyOf1 c_AR_copyOf1 4 (some (.array (.object "java/lang/Object"))) ∈ wsA := wsA_1 233 rfl rfl
theorem m_234 : Cond.classLink "java/util/Arrays" 110 "[Ljava/lang/Object;" ∈ wsA := wsA_1 234 rfl rfl
theorem m_236 : Cond.classLink "java/util/Arrays" 2 "java/lang/Object" ∈ wsA := wsA_1 236 rfl rfl
theorem m_237 : Cond.methodLink "java/util/Arrays" 304 y_MA_min ∈ wsA := wsA_1 237 rfl rfl
theorem m_238 : Cond.static y_MA_min ∈ wsA := wsA_1 238 rfl rfl
theorem m_239 : Cond.code y_MA_min c_MA_min 2 (some .int) ∈ wsA := wsA_1 239 rfl rfl
theorem m_240 : Cond.methodLink "java/util/Arrays" 150 ⟨"java/lang/System", "arraycopy", "(Ljava/lang/Object;ILjava/lang/Object;II)V"⟩ ∈ wsA := wsA_2 0 rfl rfl
theorem m_241 : Cond.static ⟨"java/lang/System", "arraycopy", "(Ljava/lang/Object;ILjava/lang/Object;II)V"⟩ ∈ wsA := wsA_2 1 rfl rfl
theorem m_242 : Cond.native ⟨"java/lang/System", "arraycopy", "(Ljava/lang/Object;ILjava/lang/Object;II)V"⟩ ∈ wsA := wsA_2 2 rfl rfl
theorem m_243 : Cond.methodLink "java/util/ArrayList" 79 y_MA_max ∈ wsA := wsA_2 3 rfl rfl
theorem m_244 : Cond.classLink "java/util/ArrayList" 7 "java/lang/Object" ∈ wsA := wsA_2 4 rfl rfl
theorem m_245 : Cond.methodLink "WatchRows2Law" 41 y_W_point ∈ wsA := wsA_2 5 rfl rfl
theorem m_246 : Cond.instanceMethod y_W_point ∈ wsA := wsA_2 6 rfl rfl
theorem m_247 : Cond.selects "WatchRows2" y_W_point y_W_point ∈ wsA := wsA_2 7 rfl rfl
theorem m_248 : Cond.code y_W_point c_W_point 6 (some .int) ∈ wsA := wsA_2 8 rfl rfl
theorem m_249 : Cond.methodLink "WatchRows2" 99 y_W_isTime ∈ wsA := wsA_2 9 rfl rfl
theorem m_251 : Cond.instanceMethod y_W_isTime ∈ wsA := wsA_2 11 rfl rfl
theorem m_252 : Cond.code y_W_isTime c_W_isTime 3 (some .boolean) ∈ wsA := wsA_2 12 rfl rfl
theorem m_253 : Cond.constantLong "WatchRows2" 151 (1152921504606846976) ∈ wsA := wsA_2 13 rfl rfl
theorem m_254 : Cond.methodLink "WatchRows2" 103 y_P_passPoint ∈ wsA := wsA_2 14 rfl rfl
theorem m_255 : Cond.instanceMethod y_P_passPoint ∈ wsA := wsA_2 15 rfl rfl
theorem m_256 : Cond.selects "WatchRows2$Part" y_P_passPoint y_P_passPoint ∈ wsA := wsA_2 16 rfl rfl
theorem m_257 : Cond.code y_P_passPoint c_P_passPoint 6 (none : Option FieldType) ∈ wsA := wsA_2 17 rfl rfl
theorem m_258 : Cond.methodLink "WatchRows2$Part" 64 y_P_endDeadlines ∈ wsA := wsA_2 18 rfl rfl
theorem m_260 : Cond.instanceMethod y_P_endDeadlines ∈ wsA := wsA_2 20 rfl rfl
theorem m_261 : Cond.instantiable "WatchRows2$Part" 11 ∈ wsA := wsA_2 21 rfl rfl
theorem m_262 : Cond.code y_P_endDeadlines c_P_endDeadlines 6 (none : Option FieldType) ∈ wsA := wsA_2 22 rfl rfl
theorem m_263 : Cond.methodLink "WatchRows2$Part" 72 y_A_size ∈ wsA := wsA_2 23 rfl rfl
theorem m_264 : Cond.methodLink "WatchRows2$Part" 76 y_A_get ∈ wsA := wsA_2 24 rfl rfl
theorem m_265 : Cond.classLink "WatchRows2$Part" 80 "WatchRows2$Deadline" ∈ wsA := wsA_2 25 rfl rfl
theorem m_266 : Cond.methodLink "WatchRows2$Part" 68 y_P_beginDeadlines ∈ wsA := wsA_2 26 rfl rfl
theorem m_268 : Cond.instanceMethod y_P_beginDeadlines ∈ wsA := wsA_2 28 rfl rfl
theorem m_269 : Cond.code y_P_beginDeadlines c_P_beginDeadlines 7 (none : Option FieldType) ∈ wsA := wsA_2 29 rfl rfl
theorem m_270 : Cond.methodLink "WatchRows2Law" 45 y_W_cycle ∈ wsA := wsA_2 30 rfl rfl
theorem m_271 : Cond.instanceMethod y_W_cycle ∈ wsA := wsA_2 31 rfl rfl
theorem m_272 : Cond.selects "WatchRows2" y_W_cycle y_W_cycle ∈ wsA := wsA_2 32 rfl rfl
theorem m_273 : Cond.code y_W_cycle c_W_cycle 4 (some .int) ∈ wsA := wsA_2 33 rfl rfl
theorem m_274 : Cond.methodLink "WatchRows2" 113 y_P_passCycle ∈ wsA := wsA_2 34 rfl rfl
theorem m_275 : Cond.instanceMethod y_P_passCycle ∈ wsA := wsA_2 35 rfl rfl
theorem m_276 : Cond.selects "WatchRows2$Part" y_P_passCycle y_P_passCycle ∈ wsA := wsA_2 36 rfl rfl
theorem m_277 : Cond.code y_P_passCycle c_P_passCycle 4 (none : Option FieldType) ∈ wsA := wsA_2 37 rfl rfl
theorem m_278 : Cond.methodLink "WatchRows2$Part" 101 y_P_stopLateDeadlines ∈ wsA := wsA_2 38 rfl rfl
theorem m_280 : Cond.instanceMethod y_P_stopLateDeadlines ∈ wsA := wsA_2 40 rfl rfl
theorem m_281 : Cond.code y_P_stopLateDeadlines c_P_stopLateDeadlines 5 (none : Option FieldType) ∈ wsA := wsA_2 41 rfl rfl
theorem m_282 : Cond.methodLink "WatchRows2$Part" 105 y_P_checkAliveCount ∈ wsA := wsA_2 42 rfl rfl
theorem m_284 : Cond.instanceMethod y_P_checkAliveCount ∈ wsA := wsA_2 44 rfl rfl
theorem m_285 : Cond.code y_P_checkAliveCount c_P_checkAliveCount 2 (none : Option FieldType) ∈ wsA := wsA_2 45 rfl rfl
theorem m_286 : Cond.methodLink "WatchRows2$Part" 109 y_P_judge ∈ wsA := wsA_2 46 rfl rfl
theorem m_288 : Cond.instanceMethod y_P_judge ∈ wsA := wsA_2 48 rfl rfl
theorem m_289 : Cond.code y_P_judge c_P_judge 1 (none : Option FieldType) ∈ wsA := wsA_2 49 rfl rfl
theorem m_290 : Cond.methodLink "WatchRows2" 117 y_W_worstCondition ∈ wsA := wsA_2 50 rfl rfl
theorem m_292 : Cond.instanceMethod y_W_worstCondition ∈ wsA := wsA_2 52 rfl rfl
theorem m_293 : Cond.code y_W_worstCondition c_W_worstCondition 3 (some .int) ∈ wsA := wsA_2 53 rfl rfl
theorem m_294 : Cond.methodLink "WatchRows2" 153 y_MA_max ∈ wsA := wsA_2 54 rfl rfl
theorem m_295 : Cond.methodLink "WatchRows2" 120 y_W_restart ∈ wsA := wsA_2 55 rfl rfl
theorem m_297 : Cond.instanceMethod y_W_restart ∈ wsA := wsA_2 57 rfl rfl
theorem m_298 : Cond.code y_W_restart c_W_restart 3 (none : Option FieldType) ∈ wsA := wsA_2 58 rfl rfl
theorem m_299 : Cond.methodLink "WatchRows2" 159 y_P_beginAnew ∈ wsA := wsA_2 59 rfl rfl
theorem m_300 : Cond.instanceMethod y_P_beginAnew ∈ wsA := wsA_2 60 rfl rfl
theorem m_301 : Cond.selects "WatchRows2$Part" y_P_beginAnew y_P_beginAnew ∈ wsA := wsA_2 61 rfl rfl
theorem m_302 : Cond.code y_P_beginAnew c_P_beginAnew 1 (none : Option FieldType) ∈ wsA := wsA_2 62 rfl rfl
theorem m_303 : Cond.methodLink "WatchRows2$Part" 112 y_P_forgetCourse ∈ wsA := wsA_2 63 rfl rfl
theorem m_304 : Cond.instanceMethod y_P_forgetCourse ∈ wsA := wsA_2 64 rfl rfl
theorem m_305 : Cond.selects "WatchRows2$Part" y_P_forgetCourse y_P_forgetCourse ∈ wsA := wsA_2 65 rfl rfl
theorem m_306 : Cond.code y_P_forgetCourse c_P_forgetCourse 2 (none : Option FieldType) ∈ wsA := wsA_2 66 rfl rfl
theorem m_307 : Cond.methodLink "WatchRows2" 162 y_Q_beginAnew ∈ wsA := wsA_2 67 rfl rfl
theorem m_308 : Cond.instanceMethod y_Q_beginAnew ∈ wsA := wsA_2 68 rfl rfl
theorem m_309 : Cond.selects "WatchRows2$Question" y_Q_beginAnew y_Q_beginAnew ∈ wsA := wsA_2 69 rfl rfl
theorem m_310 : Cond.code y_Q_beginAnew c_Q_beginAnew 3 (none : Option FieldType) ∈ wsA := wsA_2 70 rfl rfl
theorem m_311 : Cond.methodLink "WatchRows2Law" 50 y_W_tolerance ∈ wsA := wsA_2 71 rfl rfl
theorem m_312 : Cond.instanceMethod y_W_tolerance ∈ wsA := wsA_2 72 rfl rfl
theorem m_313 : Cond.selects "WatchRows2" y_W_tolerance y_W_tolerance ∈ wsA := wsA_2 73 rfl rfl
theorem m_314 : Cond.code y_W_tolerance c_W_tolerance 4 (some .int) ∈ wsA := wsA_2 74 rfl rfl
theorem m_315 : Cond.constantLong "WatchRows2" 55 (100) ∈ wsA := wsA_2 75 rfl rfl
theorem m_316 : Cond.methodLink "WatchRows2Law" 55 y_W_answer ∈ wsA := wsA_2 76 rfl rfl
theorem m_317 : Cond.instanceMethod y_W_answer ∈ wsA := wsA_2 77 rfl rfl
theorem m_318 : Cond.selects "WatchRows2" y_W_answer y_W_answer ∈ wsA := wsA_2 78 rfl rfl
theorem m_319 : Cond.code y_W_answer c_W_answer 6 (some .int) ∈ wsA := wsA_2 79 rfl rfl
theorem m_320 : Cond.constantLong "WatchRows2" 127 (3) ∈ wsA := wsA_2 80 rfl rfl
theorem m_321 : Cond.methodLink "WatchRows2" 129 y_Q_isRight ∈ wsA := wsA_2 81 rfl rfl
theorem m_322 : Cond.instanceMethod y_Q_isRight ∈ wsA := wsA_2 82 rfl rfl
theorem m_323 : Cond.selects "WatchRows2$Question" y_Q_isRight y_Q_isRight ∈ wsA := wsA_2 83 rfl rfl
theorem m_324 : Cond.code y_Q_isRight c_Q_isRight 6 (some .boolean) ∈ wsA := wsA_2 84 rfl rfl
theorem m_325 : Cond.methodLink "WatchRows2$Question" 25 y_Q_rightValue ∈ wsA := wsA_2 85 rfl rfl
theorem m_327 : Cond.instanceMethod y_Q_rightValue ∈ wsA := wsA_2 87 rfl rfl
theorem m_328 : Cond.code y_Q_rightValue c_Q_rightValue 2 (some .long) ∈ wsA := wsA_2 88 rfl rfl
theorem m_329 : Cond.methodLink "WatchRows2$Question" 29 y_Q_isInTime ∈ wsA := wsA_2 89 rfl rfl
theorem m_331 : Cond.instanceMethod y_Q_isInTime ∈ wsA := wsA_2 91 rfl rfl
theorem m_332 : Cond.code y_Q_isInTime c_Q_isInTime 3 (some .boolean) ∈ wsA := wsA_2 92 rfl rfl
theorem m_333 : Cond.constantLong "WatchRows2$Question" 33 (10) ∈ wsA := wsA_2 93 rfl rfl
theorem m_334 : Cond.constantLong "WatchRows2$Question" 35 (50) ∈ wsA := wsA_2 94 rfl rfl
theorem m_336 : Cond.methodLink "WatchRows2" 133 y_Q_takeRight ∈ wsA := wsA_2 96 rfl rfl
theorem m_337 : Cond.instanceMethod y_Q_takeRight ∈ wsA := wsA_2 97 rfl rfl
theorem m_338 : Cond.selects "WatchRows2$Question" y_Q_takeRight y_Q_takeRight ∈ wsA := wsA_2 98 rfl rfl
theorem m_339 : Cond.code y_Q_takeRight c_Q_takeRight 4 (none : Option FieldType) ∈ wsA := wsA_2 99 rfl rfl
theorem m_340 : Cond.methodLink "WatchRows2$Question" 41 y_MA_max ∈ wsA := wsA_2 100 rfl rfl
theorem m_341 : Cond.methodLink "WatchRows2" 136 y_Q_takeWrong ∈ wsA := wsA_2 101 rfl rfl
theorem m_342 : Cond.instanceMethod y_Q_takeWrong ∈ wsA := wsA_2 102 rfl rfl
theorem m_343 : Cond.selects "WatchRows2$Question" y_Q_takeWrong y_Q_takeWrong ∈ wsA := wsA_2 103 rfl rfl
theorem m_344 : Cond.code y_Q_takeWrong c_Q_takeWrong 3 (none : Option FieldType) ∈ wsA := wsA_2 104 rfl rfl
theorem m_345 : Cond.methodLink "WatchRows2Law" 60 y_W_mode ∈ wsA := wsA_2 105 rfl rfl
theorem m_346 : Cond.instanceMethod y_W_mode ∈ wsA := wsA_2 106 rfl rfl
theorem m_347 : Cond.selects "WatchRows2" y_W_mode y_W_mode ∈ wsA := wsA_2 107 rfl rfl
theorem m_348 : Cond.code y_W_mode c_W_mode 4 (some .int) ∈ wsA := wsA_2 108 rfl rfl
theorem m_349 : Cond.methodLink "WatchRows2" 143 y_P_forgetCourse ∈ wsA := wsA_2 109 rfl rfl
theorem m_350 : Cond.methodLink "WatchRows2Law" 65 y_W_reset ∈ wsA := wsA_2 110 rfl rfl
theorem m_351 : Cond.instanceMethod y_W_reset ∈ wsA := wsA_2 111 rfl rfl
theorem m_352 : Cond.selects "WatchRows2" y_W_reset y_W_reset ∈ wsA := wsA_2 112 rfl rfl
theorem m_353 : Cond.code y_W_reset c_W_reset 2 (some .int) ∈ wsA := wsA_2 113 rfl rfl
theorem m_354 : Cond.methodLink "WatchRows2Law" 69 y_W_outer ∈ wsA := wsA_2 114 rfl rfl
theorem m_355 : Cond.instanceMethod y_W_outer ∈ wsA := wsA_2 115 rfl rfl
theorem m_356 : Cond.selects "WatchRows2" y_W_outer y_W_outer ∈ wsA := wsA_2 116 rfl rfl
theorem m_357 : Cond.code y_W_outer c_W_outer 3 (some .int) ∈ wsA := wsA_2 117 rfl rfl
theorem m_358 : Cond.methodLink "WatchRows2Law" 73 y_W_state ∈ wsA := wsA_2 118 rfl rfl
theorem m_359 : Cond.instanceMethod y_W_state ∈ wsA := wsA_2 119 rfl rfl
theorem m_360 : Cond.selects "WatchRows2" y_W_state y_W_state ∈ wsA := wsA_2 120 rfl rfl
theorem m_361 : Cond.code y_W_state c_W_state 3 (some .int) ∈ wsA := wsA_2 121 rfl rfl
theorem m_362 : Cond.methodLink "WatchRows2Law" 21 y_L_part ∈ wsA := wsA_2 122 rfl rfl
theorem m_363 : Cond.static y_L_part ∈ wsA := wsA_2 123 rfl rfl
theorem m_365 : Cond.classLink "WatchRows2Law" 13 "java/lang/ArithmeticException" ∈ wsA := wsA_2 125 rfl rfl
theorem m_366 : Cond.methodLink "WatchRows2Law" 7 y_W_part ∈ wsA := wsA_2 126 rfl rfl
theorem m_367 : Cond.instanceMethod y_W_part ∈ wsA := wsA_2 127 rfl rfl
theorem m_368 : Cond.selects "WatchRows2" y_W_part y_W_part ∈ wsA := wsA_2 128 rfl rfl
theorem m_369 : Cond.code y_W_part c_W_part 5 (some .int) ∈ wsA := wsA_2 129 rfl rfl
theorem m_370 : Cond.constantLong "WatchRows2" 49 (1000) ∈ wsA := wsA_2 130 rfl rfl
theorem m_371 : Cond.classLink "WatchRows2" 61 "java/lang/ArithmeticException" ∈ wsA := wsA_2 131 rfl rfl
theorem m_372 : Cond.instantiable "java/lang/ArithmeticException" 6 ∈ wsA := wsA_2 132 rfl rfl
theorem m_380 : Cond.selects "java/lang/ArithmeticException" ⟨"java/lang/Throwable", "fillInStackTrace", "(I)Ljava/lang/Throwable;"⟩ ⟨"java/lang/Throwable", "fillInStackTrace", "(I)Ljava/lang/Throwable;"⟩ ∈ wsA := wsA_2 140 rfl rfl
theorem m_381 : Cond.selects "java/lang/ArithmeticException" ⟨"java/lang/Throwable", "fillInStackTrace", "()Ljava/lang/Throwable;"⟩ ⟨"java/lang/Throwable", "fillInStackTrace", "()Ljava/lang/Throwable;"⟩ ∈ wsA := wsA_2 141 rfl rfl
theorem m_392 : Cond.fieldLink "java/lang/Throwable" 198 "java/lang/Throwable" "backtrace" "Ljava/lang/Object;" ∈ wsA := wsA_2 152 rfl rfl
theorem m_394 : Cond.instanceMethod y_TH_init0 ∈ wsA := wsA_2 154 rfl rfl
theorem m_395 : Cond.code y_TH_init0 c_TH_init0 1 (none : Option FieldType) ∈ wsA := wsA_2 155 rfl rfl
theorem m_396 : Cond.methodLink "java/lang/Throwable" 1 y_O_init ∈ wsA := wsA_2 156 rfl rfl
theorem m_397 : Cond.fieldLink "java/lang/Throwable" 13 "java/lang/Throwable" "UNASSIGNED_STACK" "[Ljava/lang/StackTraceElement;" ∈ wsA := wsA_2 157 rfl rfl
theorem m_399 : Cond.fieldLink "java/lang/Throwable" 20 "java/lang/Throwable" "SUPPRESSED_SENTINEL" "Ljava/util/List;" ∈ wsA := wsA_2 159 rfl rfl
theorem m_401 : Cond.methodLink "java/lang/Throwable" 27 ⟨"java/lang/Throwable", "fillInStackTrace", "()Ljava/lang/Throwable;"⟩ ∈ wsA := wsA_2 161 rfl rfl
theorem m_402 : Cond.instanceMethod ⟨"java/lang/Throwable", "fillInStackTrace", "()Ljava/lang/Throwable;"⟩ ∈ wsA := wsA_2 162 rfl rfl
theorem m_403 : Cond.sameMethod "java/lang/Throwable" "java/lang/Throwable" "fillInStackTrace" "()Ljava/lang/Throwable;" ∈ wsA := wsA_2 163 rfl rfl
theorem m_405 : Cond.methodLink "java/lang/Throwable" 202 ⟨"java/lang/Throwable", "fillInStackTrace", "(I)Ljava/lang/Throwable;"⟩ ∈ wsA := wsA_2 165 rfl rfl
theorem m_407 : Cond.instanceMethod ⟨"java/lang/Throwable", "fillInStackTrace", "(I)Ljava/lang/Throwable;"⟩ ∈ wsA := wsA_2 167 rfl rfl
theorem m_408 : Cond.instantiable "java/lang/Throwable" 6 ∈ wsA := wsA_2 168 rfl rfl
theorem m_409 : Cond.native ⟨"java/lang/Throwable", "fillInStackTrace", "(I)Ljava/lang/Throwable;"⟩ ∈ wsA := wsA_2 169 rfl rfl
theorem m_411 : Cond.methodLink "WatchRows2" 65 y_AE_init ∈ wsA := wsA_2 171 rfl rfl
theorem m_412 : Cond.instanceMethod y_AE_init ∈ wsA := wsA_2 172 rfl rfl
theorem m_413 : Cond.code y_AE_init c_AE_init 2 (none : Option FieldType) ∈ wsA := wsA_2 173 rfl rfl
theorem m_414 : Cond.methodLink "java/lang/ArithmeticException" 7 y_RE_init ∈ wsA := wsA_2 174 rfl rfl
theorem m_415 : Cond.instanceMethod y_RE_init ∈ wsA := wsA_2 175 rfl rfl
theorem m_416 : Cond.code y_RE_init c_RE_init 2 (none : Option FieldType) ∈ wsA := wsA_2 176 rfl rfl
theorem m_417 : Cond.methodLink "java/lang/RuntimeException" 7 y_EX_init ∈ wsA := wsA_2 177 rfl rfl
theorem m_418 : Cond.instanceMethod y_EX_init ∈ wsA := wsA_2 178 rfl rfl
theorem m_419 : Cond.code y_EX_init c_EX_init 2 (none : Option FieldType) ∈ wsA := wsA_2 179 rfl rfl
theorem m_420 : Cond.methodLink "java/lang/Exception" 7 y_TH_init1 ∈ wsA := wsA_2 180 rfl rfl
theorem m_421 : Cond.instanceMethod y_TH_init1 ∈ wsA := wsA_2 181 rfl rfl
theorem m_422 : Cond.code y_TH_init1 c_TH_init1 2 (none : Option FieldType) ∈ wsA := wsA_2 182 rfl rfl
theorem m_424 : Cond.fieldLink "java/lang/Throwable" 31 "java/lang/Throwable" "detailMessage" "Ljava/lang/String;" ∈ wsA := wsA_2 184 rfl rfl
theorem m_425 : Cond.fieldLink "java/lang/Throwable" 7 "java/lang/Throwable" "cause" "Ljava/lang/Throwable;" ∈ wsA := wsA_2 185 rfl rfl
theorem m_426 : Cond.fieldLink "java/lang/Throwable" 17 "java/lang/Throwable" "stackTrace" "[Ljava/lang/StackTraceElement;" ∈ wsA := wsA_2 186 rfl rfl
theorem m_427 : Cond.fieldLink "java/lang/Throwable" 24 "java/lang/Throwable" "suppressedExceptions" "Ljava/util/List;" ∈ wsA := wsA_2 187 rfl rfl
theorem m_436 : Cond.arrayClass .byte ∈ wsA := wsA_2 196 rfl rfl
theorem m_437 : Cond.methodLink "WatchRows2" 70 y_P_init ∈ wsA := wsA_2 197 rfl rfl
theorem m_438 : Cond.instanceMethod y_P_init ∈ wsA := wsA_2 198 rfl rfl
theorem m_439 : Cond.code y_P_init c_P_init 5 (none : Option FieldType) ∈ wsA := wsA_2 199 rfl rfl
theorem m_440 : Cond.methodLink "WatchRows2$Part" 3 y_O_init ∈ wsA := wsA_2 200 rfl rfl
theorem m_441 : Cond.classLink "WatchRows2$Part" 26 "java/util/ArrayList" ∈ wsA := wsA_2 201 rfl rfl
theorem m_442 : Cond.methodLink "WatchRows2$Part" 28 y_A_init ∈ wsA := wsA_2 202 rfl rfl
theorem m_443 : Cond.fieldLink "WatchRows2$Part" 9 "WatchRows2$Part" "least" "I" ∈ wsA := wsA_2 203 rfl rfl
theorem m_444 : Cond.fieldLink "WatchRows2$Part" 15 "WatchRows2$Part" "most" "I" ∈ wsA := wsA_2 204 rfl rfl
theorem m_445 : Cond.fieldLink "WatchRows2$Part" 18 "WatchRows2$Part" "span" "J" ∈ wsA := wsA_2 205 rfl rfl
theorem m_446 : Cond.fieldLink "WatchRows2$Part" 22 "WatchRows2$Part" "edgeRows" "[I" ∈ wsA := wsA_2 206 rfl rfl
theorem m_447 : Cond.fieldLink "WatchRows2$Part" 29 "WatchRows2$Part" "deadlines" "Ljava/util/ArrayList;" ∈ wsA := wsA_2 207 rfl rfl
theorem m_448 : Cond.fieldLink "WatchRows2" 91 "WatchRows2$Part" "deadlines" "Ljava/util/ArrayList;" ∈ wsA := wsA_2 208 rfl rfl
theorem m_449 : Cond.fieldLink "WatchRows2$Part" 33 "WatchRows2$Part" "tolerated" "I" ∈ wsA := wsA_2 209 rfl rfl
theorem m_450 : Cond.fieldLink "WatchRows2" 124 "WatchRows2$Part" "tolerated" "I" ∈ wsA := wsA_2 210 rfl rfl
theorem m_451 : Cond.fieldLink "WatchRows2$Part" 36 "WatchRows2$Part" "condition" "I" ∈ wsA := wsA_2 211 rfl rfl
theorem m_452 : Cond.fieldLink "WatchRows2" 106 "WatchRows2$Part" "condition" "I" ∈ wsA := wsA_2 212 rfl rfl
theorem m_453 : Cond.fieldLink "WatchRows2$Part" 39 "WatchRows2$Part" "failures" "I" ∈ wsA := wsA_2 213 rfl rfl
theorem m_454 : Cond.fieldLink "WatchRows2$Part" 42 "WatchRows2$Part" "aliveCount" "I" ∈ wsA := wsA_2 214 rfl rfl
theorem m_455 : Cond.fieldLink "WatchRows2$Part" 45 "WatchRows2$Part" "pointBefore" "I" ∈ wsA := wsA_2 215 rfl rfl
theorem m_456 : Cond.fieldLink "WatchRows2$Part" 48 "WatchRows2$Part" "flawed" "Z" ∈ wsA := wsA_2 216 rfl rfl
theorem m_480 : Cond.arrayClass .int ∈ wsA := wsA_3 0 rfl rfl
theorem m_481 : Cond.classLink "WatchRows2Law" 16 "WatchRows2Model" ∈ wsA := wsA_3 1 rfl rfl
theorem m_482 : Cond.instantiable "WatchRows2Model" 31 ∈ wsA := wsA_3 2 rfl rfl
theorem m_483 : Cond.methodLink "WatchRows2Law" 18 y_M_init ∈ wsA := wsA_3 3 rfl rfl
theorem m_484 : Cond.instanceMethod y_M_init ∈ wsA := wsA_3 4 rfl rfl
theorem m_485 : Cond.code y_M_init c_M_init 2 (none : Option FieldType) ∈ wsA := wsA_3 5 rfl rfl
theorem m_486 : Cond.methodLink "WatchRows2Model" 1 y_O_init ∈ wsA := wsA_3 6 rfl rfl
theorem m_487 : Cond.constant "WatchRows2Model" 38 (80724) ∈ wsA := wsA_3 7 rfl rfl
theorem m_488 : Cond.constantLong "WatchRows2Model" 64 (-1) ∈ wsA := wsA_3 8 rfl rfl
theorem m_489 : Cond.fieldLink "WatchRows2Model" 66 "WatchRows2Model" "code" "I" ∈ wsA := wsA_3 9 rfl rfl
theorem m_490 : Cond.fieldLink "WatchRows2Model" 70 "WatchRows2Model" "parts" "I" ∈ wsA := wsA_3 10 rfl rfl
theorem m_491 : Cond.fieldLink "WatchRows2Model" 7 "WatchRows2Model" "least" "[I" ∈ wsA := wsA_3 11 rfl rfl
theorem m_492 : Cond.fieldLink "WatchRows2Model" 13 "WatchRows2Model" "most" "[I" ∈ wsA := wsA_3 12 rfl rfl
theorem m_493 : Cond.fieldLink "WatchRows2Model" 16 "WatchRows2Model" "span" "[I" ∈ wsA := wsA_3 13 rfl rfl
theorem m_494 : Cond.fieldLink "WatchRows2Model" 19 "WatchRows2Model" "state" "[I" ∈ wsA := wsA_3 14 rfl rfl
theorem m_495 : Cond.fieldLink "WatchRows2Model" 22 "WatchRows2Model" "failures" "[I" ∈ wsA := wsA_3 15 rfl rfl
theorem m_496 : Cond.fieldLink "WatchRows2Model" 25 "WatchRows2Model" "tolerance" "[I" ∈ wsA := wsA_3 16 rfl rfl
theorem m_497 : Cond.fieldLink "WatchRows2Model" 28 "WatchRows2Model" "alive" "[I" ∈ wsA := wsA_3 17 rfl rfl
theorem m_498 : Cond.fieldLink "WatchRows2Model" 31 "WatchRows2Model" "flaw" "[Z" ∈ wsA := wsA_3 18 rfl rfl
theorem m_499 : Cond.fieldLink "WatchRows2Model" 35 "WatchRows2Model" "before" "[I" ∈ wsA := wsA_3 19 rfl rfl
theorem m_500 : Cond.fieldLink "WatchRows2Model" 39 "WatchRows2Model" "edge" "[Z" ∈ wsA := wsA_3 20 rfl rfl
theorem m_501 : Cond.fieldLink "WatchRows2Model" 42 "WatchRows2Model" "deadlines" "[I" ∈ wsA := wsA_3 21 rfl rfl
theorem m_502 : Cond.fieldLink "WatchRows2Model" 45 "WatchRows2Model" "deadMode" "[I" ∈ wsA := wsA_3 22 rfl rfl
theorem m_503 : Cond.fieldLink "WatchRows2Model" 48 "WatchRows2Model" "deadFrom" "[I" ∈ wsA := wsA_3 23 rfl rfl
theorem m_504 : Cond.fieldLink "WatchRows2Model" 51 "WatchRows2Model" "deadTo" "[I" ∈ wsA := wsA_3 24 rfl rfl
theorem m_505 : Cond.fieldLink "WatchRows2Model" 54 "WatchRows2Model" "deadLeast" "[J" ∈ wsA := wsA_3 25 rfl rfl
theorem m_506 : Cond.fieldLink "WatchRows2Model" 58 "WatchRows2Model" "deadMost" "[J" ∈ wsA := wsA_3 26 rfl rfl
theorem m_507 : Cond.fieldLink "WatchRows2Model" 61 "WatchRows2Model" "began" "[J" ∈ wsA := wsA_3 27 rfl rfl
theorem m_508 : Cond.fieldLink "WatchRows2Model" 81 "WatchRows2Model" "mode" "I" ∈ wsA := wsA_3 28 rfl rfl
theorem m_509 : Cond.fieldLink "WatchRows2Model" 108 "WatchRows2Model" "age" "I" ∈ wsA := wsA_3 29 rfl rfl
theorem m_510 : Cond.fieldLink "WatchRows2Model" 73 "WatchRows2Model" "now" "J" ∈ wsA := wsA_3 30 rfl rfl
theorem m_511 : Cond.fieldLink "WatchRows2Model" 111 "WatchRows2Model" "worst" "I" ∈ wsA := wsA_3 31 rfl rfl
theorem m_512 : Cond.fieldLink "WatchRows2Model" 132 "WatchRows2Model" "globalTolerance" "I" ∈ wsA := wsA_3 32 rfl rfl
theorem m_513 : Cond.fieldLink "WatchRows2Model" 101 "WatchRows2Model" "resets" "I" ∈ wsA := wsA_3 33 rfl rfl
theorem m_514 : Cond.fieldLink "WatchRows2Model" 98 "WatchRows2Model" "reason" "I" ∈ wsA := wsA_3 34 rfl rfl
theorem m_515 : Cond.fieldLink "WatchRows2Model" 114 "WatchRows2Model" "question" "I" ∈ wsA := wsA_3 35 rfl rfl
theorem m_516 : Cond.fieldLink "WatchRows2Model" 117 "WatchRows2Model" "step" "I" ∈ wsA := wsA_3 36 rfl rfl
theorem m_517 : Cond.fieldLink "WatchRows2Model" 120 "WatchRows2Model" "errors" "I" ∈ wsA := wsA_3 37 rfl rfl
theorem m_518 : Cond.fieldLink "WatchRows2Model" 123 "WatchRows2Model" "asked" "J" ∈ wsA := wsA_3 38 rfl rfl
theorem m_519 : Cond.fieldLink "WatchRows2Model" 126 "WatchRows2Model" "outer" "J" ∈ wsA := wsA_3 39 rfl rfl
theorem m_583 : Cond.arrayClass .boolean ∈ wsA := wsA_3 103 rfl rfl
theorem m_584 : Cond.arrayClass .long ∈ wsA := wsA_3 104 rfl rfl
theorem m_585 : Cond.methodLink "WatchRows2Law" 27 y_M_thrown ∈ wsA := wsA_3 105 rfl rfl
theorem m_586 : Cond.instanceMethod y_M_thrown ∈ wsA := wsA_3 106 rfl rfl
theorem m_587 : Cond.selects "WatchRows2Model" y_M_thrown y_M_thrown ∈ wsA := wsA_3 107 rfl rfl
theorem m_588 : Cond.code y_M_thrown c_M_thrown 1 (some .int) ∈ wsA := wsA_3 108 rfl rfl
theorem m_589 : Cond.methodLink "WatchRows2Law" 26 y_M_part ∈ wsA := wsA_3 109 rfl rfl
theorem m_590 : Cond.instanceMethod y_M_part ∈ wsA := wsA_3 110 rfl rfl
theorem m_591 : Cond.selects "WatchRows2Model" y_M_part y_M_part ∈ wsA := wsA_3 111 rfl rfl
theorem m_592 : Cond.code y_M_part c_M_part 5 (some .int) ∈ wsA := wsA_3 112 rfl rfl
theorem m_593 : Cond.constantLong "WatchRows2Model" 79 (100) ∈ wsA := wsA_3 113 rfl rfl
theorem m_594 : Cond.methodLink "WatchRows2Law" 35 y_M_edge ∈ wsA := wsA_3 114 rfl rfl
theorem m_595 : Cond.instanceMethod y_M_edge ∈ wsA := wsA_3 115 rfl rfl
theorem m_596 : Cond.selects "WatchRows2Model" y_M_edge y_M_edge ∈ wsA := wsA_3 116 rfl rfl
theorem m_597 : Cond.code y_M_edge c_M_edge 5 (some .int) ∈ wsA := wsA_3 117 rfl rfl
theorem m_598 : Cond.methodLink "WatchRows2Model" 84 y_M_isPart ∈ wsA := wsA_3 118 rfl rfl
theorem m_600 : Cond.instanceMethod y_M_isPart ∈ wsA := wsA_3 120 rfl rfl
theorem m_601 : Cond.code y_M_isPart c_M_isPart 2 (some .boolean) ∈ wsA := wsA_3 121 rfl rfl
theorem m_602 : Cond.methodLink "WatchRows2Model" 88 y_M_edgeAt ∈ wsA := wsA_3 122 rfl rfl
theorem m_604 : Cond.instanceMethod y_M_edgeAt ∈ wsA := wsA_3 124 rfl rfl
theorem m_605 : Cond.code y_M_edgeAt c_M_edgeAt 4 (some .int) ∈ wsA := wsA_3 125 rfl rfl
theorem m_606 : Cond.methodLink "WatchRows2Law" 40 y_M_deadline ∈ wsA := wsA_3 126 rfl rfl
theorem m_607 : Cond.instanceMethod y_M_deadline ∈ wsA := wsA_3 127 rfl rfl
theorem m_608 : Cond.selects "WatchRows2Model" y_M_deadline y_M_deadline ∈ wsA := wsA_3 128 rfl rfl
theorem m_609 : Cond.code y_M_deadline c_M_deadline 9 (some .int) ∈ wsA := wsA_3 129 rfl rfl
theorem m_610 : Cond.constantLong "WatchRows2Model" 92 (100000) ∈ wsA := wsA_3 130 rfl rfl
theorem m_611 : Cond.methodLink "WatchRows2Law" 44 y_M_point ∈ wsA := wsA_3 131 rfl rfl
theorem m_612 : Cond.instanceMethod y_M_point ∈ wsA := wsA_3 132 rfl rfl
theorem m_613 : Cond.selects "WatchRows2Model" y_M_point y_M_point ∈ wsA := wsA_3 133 rfl rfl
theorem m_614 : Cond.code y_M_point c_M_point 9 (some .int) ∈ wsA := wsA_3 134 rfl rfl
theorem m_615 : Cond.methodLink "WatchRows2Model" 94 y_M_isTime ∈ wsA := wsA_3 135 rfl rfl
theorem m_617 : Cond.instanceMethod y_M_isTime ∈ wsA := wsA_3 137 rfl rfl
theorem m_618 : Cond.code y_M_isTime c_M_isTime 3 (some .boolean) ∈ wsA := wsA_3 138 rfl rfl
theorem m_619 : Cond.constantLong "WatchRows2Model" 77 (1152921504606846976) ∈ wsA := wsA_3 139 rfl rfl
theorem m_620 : Cond.methodLink "WatchRows2Law" 49 y_M_cycle ∈ wsA := wsA_3 140 rfl rfl
theorem m_621 : Cond.instanceMethod y_M_cycle ∈ wsA := wsA_3 141 rfl rfl
theorem m_622 : Cond.selects "WatchRows2Model" y_M_cycle y_M_cycle ∈ wsA := wsA_3 142 rfl rfl
theorem m_623 : Cond.code y_M_cycle c_M_cycle 5 (some .int) ∈ wsA := wsA_3 143 rfl rfl
theorem m_624 : Cond.methodLink "WatchRows2Model" 129 y_M_judge ∈ wsA := wsA_3 144 rfl rfl
theorem m_626 : Cond.instanceMethod y_M_judge ∈ wsA := wsA_3 146 rfl rfl
theorem m_627 : Cond.code y_M_judge c_M_judge 3 (none : Option FieldType) ∈ wsA := wsA_3 147 rfl rfl
theorem m_628 : Cond.methodLink "WatchRows2Model" 135 y_M_reset0 ∈ wsA := wsA_3 148 rfl rfl
theorem m_630 : Cond.instanceMethod y_M_reset0 ∈ wsA := wsA_3 150 rfl rfl
theorem m_631 : Cond.code y_M_reset0 c_M_reset0 3 (none : Option FieldType) ∈ wsA := wsA_3 151 rfl rfl
theorem m_632 : Cond.methodLink "WatchRows2Model" 104 y_M_clear ∈ wsA := wsA_3 152 rfl rfl
theorem m_634 : Cond.instanceMethod y_M_clear ∈ wsA := wsA_3 154 rfl rfl
theorem m_635 : Cond.code y_M_clear c_M_clear 3 (none : Option FieldType) ∈ wsA := wsA_3 155 rfl rfl
theorem m_636 : Cond.methodLink "WatchRows2Law" 54 y_M_tolerance ∈ wsA := wsA_3 156 rfl rfl
theorem m_637 : Cond.instanceMethod y_M_tolerance ∈ wsA := wsA_3 157 rfl rfl
theorem m_638 : Cond.selects "WatchRows2Model" y_M_tolerance y_M_tolerance ∈ wsA := wsA_3 158 rfl rfl
theorem m_639 : Cond.code y_M_tolerance c_M_tolerance 3 (some .int) ∈ wsA := wsA_3 159 rfl rfl
theorem m_640 : Cond.methodLink "WatchRows2Law" 59 y_M_answer ∈ wsA := wsA_3 160 rfl rfl
theorem m_641 : Cond.instanceMethod y_M_answer ∈ wsA := wsA_3 161 rfl rfl
theorem m_642 : Cond.selects "WatchRows2Model" y_M_answer y_M_answer ∈ wsA := wsA_3 162 rfl rfl
theorem m_643 : Cond.code y_M_answer c_M_answer 8 (some .int) ∈ wsA := wsA_3 163 rfl rfl
theorem m_644 : Cond.constantLong "WatchRows2Model" 138 (10) ∈ wsA := wsA_3 164 rfl rfl
theorem m_645 : Cond.constantLong "WatchRows2Model" 140 (50) ∈ wsA := wsA_3 165 rfl rfl
theorem m_646 : Cond.methodLink "WatchRows2Law" 64 y_M_mode ∈ wsA := wsA_3 166 rfl rfl
theorem m_647 : Cond.instanceMethod y_M_mode ∈ wsA := wsA_3 167 rfl rfl
theorem m_648 : Cond.selects "WatchRows2Model" y_M_mode y_M_mode ∈ wsA := wsA_3 168 rfl rfl
theorem m_649 : Cond.code y_M_mode c_M_mode 4 (some .int) ∈ wsA := wsA_3 169 rfl rfl
theorem m_650 : Cond.methodLink "WatchRows2Law" 68 y_M_reset ∈ wsA := wsA_3 170 rfl rfl
theorem m_651 : Cond.instanceMethod y_M_reset ∈ wsA := wsA_3 171 rfl rfl
theorem m_652 : Cond.selects "WatchRows2Model" y_M_reset y_M_reset ∈ wsA := wsA_3 172 rfl rfl
theorem m_653 : Cond.code y_M_reset c_M_reset 2 (some .int) ∈ wsA := wsA_3 173 rfl rfl
theorem m_654 : Cond.methodLink "WatchRows2Law" 72 y_M_outer ∈ wsA := wsA_3 174 rfl rfl
theorem m_655 : Cond.instanceMethod y_M_outer ∈ wsA := wsA_3 175 rfl rfl
theorem m_656 : Cond.selects "WatchRows2Model" y_M_outer y_M_outer ∈ wsA := wsA_3 176 rfl rfl
theorem m_657 : Cond.code y_M_outer c_M_outer 4 (some .int) ∈ wsA := wsA_3 177 rfl rfl
theorem m_658 : Cond.methodLink "WatchRows2Law" 76 y_M_state ∈ wsA := wsA_3 178 rfl rfl
theorem m_659 : Cond.instanceMethod y_M_state ∈ wsA := wsA_3 179 rfl rfl
theorem m_660 : Cond.selects "WatchRows2Model" y_M_state y_M_state ∈ wsA := wsA_3 180 rfl rfl
theorem m_661 : Cond.code y_M_state c_M_state 2 (some .int) ∈ wsA := wsA_3 181 rfl rfl
theorem m_662 : Cond.constantLong "WatchRows2Law" 19 (4294967295) ∈ wsA := wsA_3 182 rfl rfl
theorem m_663 : Cond.sameMethod "java/lang/Throwable" "java/lang/Throwable" "fillInStackTrace" "(I)Ljava/lang/Throwable;" ∈ wsA := wsA_3 183 rfl rfl
theorem m_666 : Cond.sameMethod "[Ljava/lang/Object;" "java/lang/Object" "getClass" "()Ljava/lang/Class;" ∈ wsA := wsA_3 186 rfl rfl
theorem m_667 : Cond.selects "[Ljava/lang/Object;" ⟨"java/lang/Object", "getClass", "()Ljava/lang/Class;"⟩ ⟨"java/lang/Object", "getClass", "()Ljava/lang/Class;"⟩ ∈ wsA := wsA_3 187 rfl rfl
theorem ms_W_findPart : Cond.selects "WatchRows2" y_W_findPart y_W_findPart ∈ wsA := wsA_sel 0 rfl rfl
theorem ms_A_add1 : Cond.selects "java/util/ArrayList" y_A_add1 y_A_add1 ∈ wsA := wsA_sel 1 rfl rfl
theorem ms_A_grow0 : Cond.selects "java/util/ArrayList" y_A_grow0 y_A_grow0 ∈ wsA := wsA_sel 2 rfl rfl
theorem ms_A_grow1 : Cond.selects "java/util/ArrayList" y_A_grow1 y_A_grow1 ∈ wsA := wsA_sel 3 rfl rfl
theorem ms_W_isTime : Cond.selects "WatchRows2" y_W_isTime y_W_isTime ∈ wsA := wsA_sel 4 rfl rfl
theorem ms_P_endDeadlines : Cond.selects "WatchRows2$Part" y_P_endDeadlines y_P_endDeadlines ∈ wsA := wsA_sel 5 rfl rfl
theorem ms_P_beginDeadlines : Cond.selects "WatchRows2$Part" y_P_beginDeadlines y_P_beginDeadlines ∈ wsA := wsA_sel 6 rfl rfl
theorem ms_P_stopLateDeadlines : Cond.selects "WatchRows2$Part" y_P_stopLateDeadlines y_P_stopLateDeadlines ∈ wsA := wsA_sel 7 rfl rfl
theorem ms_P_checkAliveCount : Cond.selects "WatchRows2$Part" y_P_checkAliveCount y_P_checkAliveCount ∈ wsA := wsA_sel 8 rfl rfl
theorem ms_P_judge : Cond.selects "WatchRows2$Part" y_P_judge y_P_judge ∈ wsA := wsA_sel 9 rfl rfl
theorem ms_W_worstCondition : Cond.selects "WatchRows2" y_W_worstCondition y_W_worstCondition ∈ wsA := wsA_sel 10 rfl rfl
theorem ms_W_restart : Cond.selects "WatchRows2" y_W_restart y_W_restart ∈ wsA := wsA_sel 11 rfl rfl
theorem ms_Q_rightValue : Cond.selects "WatchRows2$Question" y_Q_rightValue y_Q_rightValue ∈ wsA := wsA_sel 12 rfl rfl
theorem ms_Q_isInTime : Cond.selects "WatchRows2$Question" y_Q_isInTime y_Q_isInTime ∈ wsA := wsA_sel 13 rfl rfl
theorem ms_M_isPart : Cond.selects "WatchRows2Model" y_M_isPart y_M_isPart ∈ wsA := wsA_sel 15 rfl rfl
theorem ms_M_edgeAt : Cond.selects "WatchRows2Model" y_M_edgeAt y_M_edgeAt ∈ wsA := wsA_sel 16 rfl rfl
theorem ms_M_isTime : Cond.selects "WatchRows2Model" y_M_isTime y_M_isTime ∈ wsA := wsA_sel 17 rfl rfl
theorem ms_M_judge : Cond.selects "WatchRows2Model" y_M_judge y_M_judge ∈ wsA := wsA_sel 18 rfl rfl
theorem ms_M_reset0 : Cond.selects "WatchRows2Model" y_M_reset0 y_M_reset0 ∈ wsA := wsA_sel 19 rfl rfl
theorem ms_M_clear : Cond.selects "WatchRows2Model" y_M_clear y_M_clear ∈ wsA := wsA_sel 20 rfl rfl
def T_A : u_T := fun k => match k with
  | 0 => ("java/util/ArrayList", "elementData", "[Ljava/lang/Object;", false)
  | 1 => ("java/util/ArrayList", "size", "I", false)
  | _ => ("java/util/AbstractList", "modCount", "I", false)
def ty_A : Nat → FieldType := fun k => match k with
  | 0 => .array (.object "java/lang/Object")
  | 1 => .int
  | _ => .int
theorem nm_A : ∀ a, a < 3 → ∀ b, b < 3 → a ≠ b → (T_A a).2.1 ≠ (T_A b).2.1 := by decide +kernel
theorem ty_A_ok : ∀ k, k < 3 → parseFieldDescriptor (T_A k).2.2.1 = some (ty_A k) := by decide +kernel
theorem hu_A : ∀ w ∈ u_ws R_A T_A 3, w ∈ wsA := by
  intro w h
  have h : w ∈ [u_lay R_A T_A 0, u_lay R_A T_A 1, u_lay R_A T_A 2] := h
  simp only [List.mem_cons, List.not_mem_nil, or_false] at h
  rcases h with rfl | rfl | rfl
  · exact wsA_1 46 rfl rfl
  · exact wsA_1 48 rfl rfl
  · exact wsA_1 50 rfl rfl
def T_Q : u_T := fun k => match k with
  | 0 => ("WatchRows2$Question", "number", "I", false)
  | 1 => ("WatchRows2$Question", "nextStep", "I", false)
  | 2 => ("WatchRows2$Question", "errors", "I", false)
  | _ => ("WatchRows2$Question", "since", "J", false)
def ty_Q : Nat → FieldType := fun k => match k with
  | 0 => .int
  | 1 => .int
  | 2 => .int
  | _ => .long
theorem nm_Q : ∀ a, a < 4 → ∀ b, b < 4 → a ≠ b → (T_Q a).2.1 ≠ (T_Q b).2.1 := by decide +kernel
theorem ty_Q_ok : ∀ k, k < 4 → parseFieldDescriptor (T_Q k).2.2.1 = some (ty_Q k) := by decide +kernel
theorem hu_Q : ∀ w ∈ u_ws R_Q T_Q 4, w ∈ wsA := by
  intro w h
  have h : w ∈ [u_lay R_Q T_Q 0, u_lay R_Q T_Q 1, u_lay R_Q T_Q 2, u_lay R_Q T_Q 3] := h
  simp only [List.mem_cons, List.not_mem_nil, or_false] at h
  rcases h with rfl | rfl | rfl | rfl
  · exact wsA_1 65 rfl rfl
  · exact wsA_1 67 rfl rfl
  · exact wsA_1 69 rfl rfl
  · exact wsA_1 71 rfl rfl
def T_W : u_T := fun k => match k with
  | 0 => ("WatchRows2", "parts", "Ljava/util/ArrayList;", true)
  | 1 => ("WatchRows2", "question", "LWatchRows2$Question;", true)
  | 2 => ("WatchRows2", "currentMode", "I", false)
  | 3 => ("WatchRows2", "age", "I", false)
  | 4 => ("WatchRows2", "now", "J", false)
  | 5 => ("WatchRows2", "outerSince", "J", false)
  | 6 => ("WatchRows2", "globalTolerance", "I", false)
  | 7 => ("WatchRows2", "expiredCycles", "I", false)
  | 8 => ("WatchRows2", "resets", "I", false)
  | _ => ("WatchRows2", "lastReason", "I", false)
def ty_W : Nat → FieldType := fun k => match k with
  | 0 => .object "java/util/ArrayList"
  | 1 => .object "WatchRows2$Question"
  | 2 => .int
  | 3 => .int
  | 4 => .long
  | 5 => .long
  | 6 => .int
  | 7 => .int
  | 8 => .int
  | _ => .int
theorem nm_W : ∀ a, a < 10 → ∀ b, b < 10 → a ≠ b → (T_W a).2.1 ≠ (T_W b).2.1 := by decide +kernel
theorem ty_W_ok : ∀ k, k < 10 → parseFieldDescriptor (T_W k).2.2.1 = some (ty_W k) := by decide +kernel
theorem hu_W : ∀ w ∈ u_ws R_W T_W 10, w ∈ wsA := by
  intro w h
  have h : w ∈ [u_lay R_W T_W 0, u_lay R_W T_W 1, u_lay R_W T_W 2, u_lay R_W T_W 3, u_lay R_W T_W 4, u_lay R_W T_W 5, u_lay R_W T_W 6, u_lay R_W T_W 7, u_lay R_W T_W 8, u_lay R_W T_W 9] := h
  simp only [List.mem_cons, List.not_mem_nil, or_false] at h
  rcases h with rfl | rfl | rfl | rfl | rfl | rfl | rfl | rfl | rfl | rfl
  · exact wsA_1 84 rfl rfl
  · exact wsA_1 86 rfl rfl
  · exact wsA_1 88 rfl rfl
  · exact wsA_1 90 rfl rfl
  · exact wsA_1 92 rfl rfl
  · exact wsA_1 94 rfl rfl
  · exact wsA_1 96 rfl rfl
  · exact wsA_1 98 rfl rfl
  · exact wsA_1 100 rfl rfl
  · exact wsA_1 102 rfl rfl
def T_D : u_T := fun k => match k with
  | 0 => ("WatchRows2$Deadline", "ofMode", "I", true)
  | 1 => ("WatchRows2$Deadline", "from", "I", true)
  | 2 => ("WatchRows2$Deadline", "to", "I", true)
  | 3 => ("WatchRows2$Deadline", "least", "J", true)
  | 4 => ("WatchRows2$Deadline", "most", "J", true)
  | 5 => ("WatchRows2$Deadline", "running", "Z", false)
  | _ => ("WatchRows2$Deadline", "begun", "J", false)
def ty_D : Nat → FieldType := fun k => match k with
  | 0 => .int
  | 1 => .int
  | 2 => .int
  | 3 => .long
  | 4 => .long
  | 5 => .boolean
  | _ => .long
theorem nm_D : ∀ a, a < 7 → ∀ b, b < 7 → a ≠ b → (T_D a).2.1 ≠ (T_D b).2.1 := by decide +kernel
theorem ty_D_ok : ∀ k, k < 7 → parseFieldDescriptor (T_D k).2.2.1 = some (ty_D k) := by decide +kernel
theorem hu_D : ∀ w ∈ u_ws R_D T_D 7, w ∈ wsA := by
  intro w h
  have h : w ∈ [u_lay R_D T_D 0, u_lay R_D T_D 1, u_lay R_D T_D 2, u_lay R_D T_D 3, u_lay R_D T_D 4, u_lay R_D T_D 5, u_lay R_D T_D 6] := h
  simp only [List.mem_cons, List.not_mem_nil, or_false] at h
  rcases h with rfl | rfl | rfl | rfl | rfl | rfl | rfl
  · exact wsA_1 176 rfl rfl
  · exact wsA_1 178 rfl rfl
  · exact wsA_1 180 rfl rfl
  · exact wsA_1 182 rfl rfl
  · exact wsA_1 184 rfl rfl
  · exact wsA_1 186 rfl rfl
  · exact wsA_1 188 rfl rfl
def T_AE : u_T := fun k => match k with
  | 0 => ("java/lang/Throwable", "cause", "Ljava/lang/Throwable;", false)
  | 1 => ("java/lang/Throwable", "stackTrace", "[Ljava/lang/StackTraceElement;", false)
  | 2 => ("java/lang/Throwable", "suppressedExceptions", "Ljava/util/List;", false)
  | 3 => ("java/lang/Throwable", "detailMessage", "Ljava/lang/String;", false)
  | 4 => ("java/lang/Throwable", "backtrace", "Ljava/lang/Object;", false)
  | _ => ("java/lang/Throwable", "depth", "I", false)
def ty_AE : Nat → FieldType := fun k => match k with
  | 0 => .object "java/lang/Throwable"
  | 1 => .array (.object "java/lang/StackTraceElement")
  | 2 => .object "java/util/List"
  | 3 => .object "java/lang/String"
  | 4 => .object "java/lang/Object"
  | _ => .int
theorem nm_AE : ∀ a, a < 6 → ∀ b, b < 6 → a ≠ b → (T_AE a).2.1 ≠ (T_AE b).2.1 := by decide +kernel
theorem ty_AE_ok : ∀ k, k < 6 → parseFieldDescriptor (T_AE k).2.2.1 = some (ty_AE k) := by decide +kernel
theorem hu_AE : ∀ w ∈ u_ws R_AE T_AE 6, w ∈ wsA := by
  intro w h
  have h : w ∈ [u_lay R_AE T_AE 0, u_lay R_AE T_AE 1, u_lay R_AE T_AE 2, u_lay R_AE T_AE 3, u_lay R_AE T_AE 4, u_lay R_AE T_AE 5] := h
  simp only [List.mem_cons, List.not_mem_nil, or_false] at h
  rcases h with rfl | rfl | rfl | rfl | rfl | rfl
  · exact wsA_2 142 rfl rfl
  · exact wsA_2 144 rfl rfl
  · exact wsA_2 146 rfl rfl
  · exact wsA_2 148 rfl rfl
  · exact wsA_2 150 rfl rfl
  · exact wsA_2 192 rfl rfl
def T_P : u_T := fun k => match k with
  | 0 => ("WatchRows2$Part", "least", "I", true)
  | 1 => ("WatchRows2$Part", "most", "I", true)
  | 2 => ("WatchRows2$Part", "span", "J", true)
  | 3 => ("WatchRows2$Part", "edgeRows", "[I", true)
  | 4 => ("WatchRows2$Part", "deadlines", "Ljava/util/ArrayList;", true)
  | 5 => ("WatchRows2$Part", "tolerated", "I", false)
  | 6 => ("WatchRows2$Part", "condition", "I", false)
  | 7 => ("WatchRows2$Part", "failures", "I", false)
  | 8 => ("WatchRows2$Part", "aliveCount", "I", false)
  | 9 => ("WatchRows2$Part", "pointBefore", "I", false)
  | _ => ("WatchRows2$Part", "flawed", "Z", false)
def ty_P : Nat → FieldType := fun k => match k with
  | 0 => .int
  | 1 => .int
  | 2 => .long
  | 3 => .array (.int)
  | 4 => .object "java/util/ArrayList"
  | 5 => .int
  | 6 => .int
  | 7 => .int
  | 8 => .int
  | 9 => .int
  | _ => .boolean
theorem nm_P : ∀ a, a < 11 → ∀ b, b < 11 → a ≠ b → (T_P a).2.1 ≠ (T_P b).2.1 := by decide +kernel
theorem ty_P_ok : ∀ k, k < 11 → parseFieldDescriptor (T_P k).2.2.1 = some (ty_P k) := by decide +kernel
theorem hu_P : ∀ w ∈ u_ws R_P T_P 11, w ∈ wsA := by
  intro w h
  have h : w ∈ [u_lay R_P T_P 0, u_lay R_P T_P 1, u_lay R_P T_P 2, u_lay R_P T_P 3, u_lay R_P T_P 4, u_lay R_P T_P 5, u_lay R_P T_P 6, u_lay R_P T_P 7, u_lay R_P T_P 8, u_lay R_P T_P 9, u_lay R_P T_P 10] := h
  simp only [List.mem_cons, List.not_mem_nil, or_false] at h
  rcases h with rfl | rfl | rfl | rfl | rfl | rfl | rfl | rfl | rfl | rfl | rfl
  · exact wsA_2 217 rfl rfl
  · exact wsA_2 219 rfl rfl
  · exact wsA_2 221 rfl rfl
  · exact wsA_2 223 rfl rfl
  · exact wsA_2 225 rfl rfl
  · exact wsA_2 227 rfl rfl
  · exact wsA_2 229 rfl rfl
  · exact wsA_2 231 rfl rfl
  · exact wsA_2 233 rfl rfl
  · exact wsA_2 235 rfl rfl
  · exact wsA_2 237 rfl rfl
def T_M : u_T := fun k => match k with
  | 0 => ("WatchRows2Model", "code", "I", false)
  | 1 => ("WatchRows2Model", "parts", "I", false)
  | 2 => ("WatchRows2Model", "least", "[I", true)
  | 3 => ("WatchRows2Model", "most", "[I", true)
  | 4 => ("WatchRows2Model", "span", "[I", true)
  | 5 => ("WatchRows2Model", "state", "[I", true)
  | 6 => ("WatchRows2Model", "failures", "[I", true)
  | 7 => ("WatchRows2Model", "tolerance", "[I", true)
  | 8 => ("WatchRows2Model", "alive", "[I", true)
  | 9 => ("WatchRows2Model", "flaw", "[Z", true)
  | 10 => ("WatchRows2Model", "before", "[I", true)
  | 11 => ("WatchRows2Model", "edge", "[Z", true)
  | 12 => ("WatchRows2Model", "deadlines", "[I", true)
  | 13 => ("WatchRows2Model", "deadMode", "[I", true)
  | 14 => ("WatchRows2Model", "deadFrom", "[I", true)
  | 15 => ("WatchRows2Model", "deadTo", "[I", true)
  | 16 => ("WatchRows2Model", "deadLeast", "[J", true)
  | 17 => ("WatchRows2Model", "deadMost", "[J", true)
  | 18 => ("WatchRows2Model", "began", "[J", true)
  | 19 => ("WatchRows2Model", "mode", "I", false)
  | 20 => ("WatchRows2Model", "age", "I", false)
  | 21 => ("WatchRows2Model", "now", "J", false)
  | 22 => ("WatchRows2Model", "worst", "I", false)
  | 23 => ("WatchRows2Model", "globalTolerance", "I", false)
  | 24 => ("WatchRows2Model", "resets", "I", false)
  | 25 => ("WatchRows2Model", "reason", "I", false)
  | 26 => ("WatchRows2Model", "question", "I", false)
  | 27 => ("WatchRows2Model", "step", "I", false)
  | 28 => ("WatchRows2Model", "errors", "I", false)
  | 29 => ("WatchRows2Model", "asked", "J", false)
  | _ => ("WatchRows2Model", "outer", "J", false)
def ty_M : Nat → FieldType := fun k => match k with
  | 0 => .int
  | 1 => .int
  | 2 => .array (.int)
  | 3 => .array (.int)
  | 4 => .array (.int)
  | 5 => .array (.int)
  | 6 => .array (.int)
  | 7 => .array (.int)
  | 8 => .array (.int)
  | 9 => .array (.boolean)
  | 10 => .array (.int)
  | 11 => .array (.boolean)
  | 12 => .array (.int)
  | 13 => .array (.int)
  | 14 => .array (.int)
  | 15 => .array (.int)
  | 16 => .array (.long)
  | 17 => .array (.long)
  | 18 => .array (.long)
  | 19 => .int
  | 20 => .int
  | 21 => .long
  | 22 => .int
  | 23 => .int
  | 24 => .int
  | 25 => .int
  | 26 => .int
  | 27 => .int
  | 28 => .int
  | 29 => .long
  | _ => .long
theorem nm_M : ∀ a, a < 31 → ∀ b, b < 31 → a ≠ b → (T_M a).2.1 ≠ (T_M b).2.1 := by decide +kernel
theorem ty_M_ok : ∀ k, k < 31 → parseFieldDescriptor (T_M k).2.2.1 = some (ty_M k) := by decide +kernel
theorem hu_M : ∀ w ∈ u_ws R_M T_M 31, w ∈ wsA := by
  intro w h
  have h : w ∈ [u_lay R_M T_M 0, u_lay R_M T_M 1, u_lay R_M T_M 2, u_lay R_M T_M 3, u_lay R_M T_M 4, u_lay R_M T_M 5, u_lay R_M T_M 6, u_lay R_M T_M 7, u_lay R_M T_M 8, u_lay R_M T_M 9, u_lay R_M T_M 10, u_lay R_M T_M 11, u_lay R_M T_M 12, u_lay R_M T_M 13, u_lay R_M T_M 14, u_lay R_M T_M 15, u_lay R_M T_M 16, u_lay R_M T_M 17, u_lay R_M T_M 18, u_lay R_M T_M 19, u_lay R_M T_M 20, u_lay R_M T_M 21, u_lay R_M T_M 22, u_lay R_M T_M 23, u_lay R_M T_M 24, u_lay R_M T_M 25, u_lay R_M T_M 26, u_lay R_M T_M 27, u_lay R_M T_M 28, u_lay R_M T_M 29, u_lay R_M T_M 30] := h
  simp only [List.mem_cons, List.not_mem_nil, or_false] at h
  rcases h with rfl | rfl | rfl | rfl | rfl | rfl | rfl | rfl | rfl | rfl | rfl | rfl | rfl | rfl | rfl | rfl | rfl | rfl | rfl | rfl | rfl | rfl | rfl | rfl | rfl | rfl | rfl | rfl | rfl | rfl | rfl
  · exact wsA_3 40 rfl rfl
  · exact wsA_3 42 rfl rfl
  · exact wsA_3 44 rfl rfl
  · exact wsA_3 46 rfl rfl
  · exact wsA_3 48 rfl rfl
  · exact wsA_3 50 rfl rfl
  · exact wsA_3 52 rfl rfl
  · exact wsA_3 54 rfl rfl
  · exact wsA_3 56 rfl rfl
  · exact wsA_3 58 rfl rfl
  · exact wsA_3 60 rfl rfl
  · exact wsA_3 62 rfl rfl
  · exact wsA_3 64 rfl rfl
  · exact wsA_3 66 rfl rfl
  · exact wsA_3 68 rfl rfl
  · exact wsA_3 70 rfl rfl
  · exact wsA_3 72 rfl rfl
  · exact wsA_3 74 rfl rfl
  · exact wsA_3 76 rfl rfl
  · exact wsA_3 78 rfl rfl
  · exact wsA_3 80 rfl rfl
  · exact wsA_3 82 rfl rfl
  · exact wsA_3 84 rfl rfl
  · exact wsA_3 86 rfl rfl
  · exact wsA_3 88 rfl rfl
  · exact wsA_3 90 rfl rfl
  · exact wsA_3 92 rfl rfl
  · exact wsA_3 94 rfl rfl
  · exact wsA_3 96 rfl rfl
  · exact wsA_3 98 rfl rfl
  · exact wsA_3 100 rfl rfl
abbrev cls : List vw_C := [(R_W, T_W, 10), (R_P, T_P, 11), (R_D, T_D, 7), (R_Q, T_Q, 4), (R_A, T_A, 3), (R_M, T_M, 31)]
