section
-- ===== PART A: goes FIRST, ahead of the names: the tables' words, and 'selects' of the private methods out of them =====
/-- a private method of a class that the tables say can be made, by its rows of tables_1 -/
def lw_okq (q : MethodName × Nat) : Prop := (q.1.cls ≠ "java/lang/invoke/MethodHandle" ∧ q.1.cls ≠ "java/lang/invoke/VarHandle") ∧ Cond.instantiable q.1.cls q.2 ∈ tables_1 ∧ Cond.privateMethod q.1 ∈ tables_1 ∧ Cond.instanceMethod q.1 ∈ tables_1
theorem lw_p0 : lw_okq (⟨"WatchRows2", "findPart", "(I)LWatchRows2$Part;"⟩, 10) := ⟨⟨by decide +kernel, by decide +kernel⟩, List.mem_of_getElem? (i := 20) (by decide +kernel), List.mem_of_getElem? (i := 110) (by decide +kernel), List.mem_of_getElem? (i := 111) (by decide +kernel)⟩
theorem lw_p1 : lw_okq (⟨"java/util/ArrayList", "add", "(Ljava/lang/Object;[Ljava/lang/Object;I)V"⟩, 3) := ⟨⟨by decide +kernel, by decide +kernel⟩, List.mem_of_getElem? (i := 28) (by decide +kernel), List.mem_of_getElem? (i := 196) (by decide +kernel), List.mem_of_getElem? (i := 197) (by decide +kernel)⟩
theorem lw_p2 : lw_okq (⟨"java/util/ArrayList", "grow", "()[Ljava/lang/Object;"⟩, 3) := ⟨⟨by decide +kernel, by decide +kernel⟩, List.mem_of_getElem? (i := 28) (by decide +kernel), List.mem_of_getElem? (i := 200) (by decide +kernel), List.mem_of_getElem? (i := 201) (by decide +kernel)⟩
theorem lw_p3 : lw_okq (⟨"java/util/ArrayList", "grow", "(I)[Ljava/lang/Object;"⟩, 3) := ⟨⟨by decide +kernel, by decide +kernel⟩, List.mem_of_getElem? (i := 28) (by decide +kernel), List.mem_of_getElem? (i := 204) (by decide +kernel), List.mem_of_getElem? (i := 205) (by decide +kernel)⟩
theorem lw_p4 : lw_okq (⟨"WatchRows2", "isTime", "(J)Z"⟩, 10) := ⟨⟨by decide +kernel, by decide +kernel⟩, List.mem_of_getElem? (i := 20) (by decide +kernel), List.mem_of_getElem? (i := 250) (by decide +kernel), List.mem_of_getElem? (i := 251) (by decide +kernel)⟩
theorem lw_p5 : lw_okq (⟨"WatchRows2$Part", "endDeadlines", "(IJ)V"⟩, 11) := ⟨⟨by decide +kernel, by decide +kernel⟩, List.mem_of_getElem? (i := 261) (by decide +kernel), List.mem_of_getElem? (i := 259) (by decide +kernel), List.mem_of_getElem? (i := 260) (by decide +kernel)⟩
theorem lw_p6 : lw_okq (⟨"WatchRows2$Part", "beginDeadlines", "(IIJ)V"⟩, 11) := ⟨⟨by decide +kernel, by decide +kernel⟩, List.mem_of_getElem? (i := 261) (by decide +kernel), List.mem_of_getElem? (i := 267) (by decide +kernel), List.mem_of_getElem? (i := 268) (by decide +kernel)⟩
theorem lw_p7 : lw_okq (⟨"WatchRows2$Part", "stopLateDeadlines", "(J)V"⟩, 11) := ⟨⟨by decide +kernel, by decide +kernel⟩, List.mem_of_getElem? (i := 261) (by decide +kernel), List.mem_of_getElem? (i := 279) (by decide +kernel), List.mem_of_getElem? (i := 280) (by decide +kernel)⟩
theorem lw_p8 : lw_okq (⟨"WatchRows2$Part", "checkAliveCount", "(I)V"⟩, 11) := ⟨⟨by decide +kernel, by decide +kernel⟩, List.mem_of_getElem? (i := 261) (by decide +kernel), List.mem_of_getElem? (i := 283) (by decide +kernel), List.mem_of_getElem? (i := 284) (by decide +kernel)⟩
theorem lw_p9 : lw_okq (⟨"WatchRows2$Part", "judge", "()V"⟩, 11) := ⟨⟨by decide +kernel, by decide +kernel⟩, List.mem_of_getElem? (i := 261) (by decide +kernel), List.mem_of_getElem? (i := 287) (by decide +kernel), List.mem_of_getElem? (i := 288) (by decide +kernel)⟩
theorem lw_p10 : lw_okq (⟨"WatchRows2", "worstCondition", "()I"⟩, 10) := ⟨⟨by decide +kernel, by decide +kernel⟩, List.mem_of_getElem? (i := 20) (by decide +kernel), List.mem_of_getElem? (i := 291) (by decide +kernel), List.mem_of_getElem? (i := 292) (by decide +kernel)⟩
theorem lw_p11 : lw_okq (⟨"WatchRows2", "restart", "(I)V"⟩, 10) := ⟨⟨by decide +kernel, by decide +kernel⟩, List.mem_of_getElem? (i := 20) (by decide +kernel), List.mem_of_getElem? (i := 296) (by decide +kernel), List.mem_of_getElem? (i := 297) (by decide +kernel)⟩
theorem lw_p12 : lw_okq (⟨"WatchRows2$Question", "rightValue", "(I)J"⟩, 4) := ⟨⟨by decide +kernel, by decide +kernel⟩, List.mem_of_getElem? (i := 54) (by decide +kernel), List.mem_of_getElem? (i := 326) (by decide +kernel), List.mem_of_getElem? (i := 327) (by decide +kernel)⟩
theorem lw_p13 : lw_okq (⟨"WatchRows2$Question", "isInTime", "(J)Z"⟩, 4) := ⟨⟨by decide +kernel, by decide +kernel⟩, List.mem_of_getElem? (i := 54) (by decide +kernel), List.mem_of_getElem? (i := 330) (by decide +kernel), List.mem_of_getElem? (i := 331) (by decide +kernel)⟩
theorem lw_p14 : lw_okq (⟨"java/lang/Throwable", "fillInStackTrace", "(I)Ljava/lang/Throwable;"⟩, 6) := ⟨⟨by decide +kernel, by decide +kernel⟩, List.mem_of_getElem? (i := 408) (by decide +kernel), List.mem_of_getElem? (i := 406) (by decide +kernel), List.mem_of_getElem? (i := 407) (by decide +kernel)⟩
theorem lw_p15 : lw_okq (⟨"WatchRows2Model", "isPart", "(I)Z"⟩, 31) := ⟨⟨by decide +kernel, by decide +kernel⟩, List.mem_of_getElem? (i := 482) (by decide +kernel), List.mem_of_getElem? (i := 599) (by decide +kernel), List.mem_of_getElem? (i := 600) (by decide +kernel)⟩
def lw_privs_1 : List (MethodName × Nat) := [(⟨"WatchRows2", "findPart", "(I)LWatchRows2$Part;"⟩, 10), (⟨"java/util/ArrayList", "add", "(Ljava/lang/Object;[Ljava/lang/Object;I)V"⟩, 3), (⟨"java/util/ArrayList", "grow", "()[Ljava/lang/Object;"⟩, 3), (⟨"java/util/ArrayList", "grow", "(I)[Ljava/lang/Object;"⟩, 3), (⟨"WatchRows2", "isTime", "(J)Z"⟩, 10), (⟨"WatchRows2$Part", "endDeadlines", "(IJ)V"⟩, 11), (⟨"WatchRows2$Part", "beginDeadlines", "(IIJ)V"⟩, 11), (⟨"WatchRows2$Part", "stopLateDeadlines", "(J)V"⟩, 11), (⟨"WatchRows2$Part", "checkAliveCount", "(I)V"⟩, 11), (⟨"WatchRows2$Part", "judge", "()V"⟩, 11), (⟨"WatchRows2", "worstCondition", "()I"⟩, 10), (⟨"WatchRows2", "restart", "(I)V"⟩, 10), (⟨"WatchRows2$Question", "rightValue", "(I)J"⟩, 4), (⟨"WatchRows2$Question", "isInTime", "(J)Z"⟩, 4), (⟨"java/lang/Throwable", "fillInStackTrace", "(I)Ljava/lang/Throwable;"⟩, 6), (⟨"WatchRows2Model", "isPart", "(I)Z"⟩, 31)]
theorem lw_r1 : ∀ q ∈ lw_privs_1, lw_okq q := List.forall_mem_cons.mpr ⟨lw_p0, List.forall_mem_cons.mpr ⟨lw_p1, List.forall_mem_cons.mpr ⟨lw_p2, List.forall_mem_cons.mpr ⟨lw_p3, List.forall_mem_cons.mpr ⟨lw_p4, List.forall_mem_cons.mpr ⟨lw_p5, List.forall_mem_cons.mpr ⟨lw_p6, List.forall_mem_cons.mpr ⟨lw_p7, List.forall_mem_cons.mpr ⟨lw_p8, List.forall_mem_cons.mpr ⟨lw_p9, List.forall_mem_cons.mpr ⟨lw_p10, List.forall_mem_cons.mpr ⟨lw_p11, List.forall_mem_cons.mpr ⟨lw_p12, List.forall_mem_cons.mpr ⟨lw_p13, List.forall_mem_cons.mpr ⟨lw_p14, List.forall_mem_cons.mpr ⟨lw_p15, fun _ h => absurd h List.not_mem_nil⟩⟩⟩⟩⟩⟩⟩⟩⟩⟩⟩⟩⟩⟩⟩⟩
theorem lw_p16 : lw_okq (⟨"WatchRows2Model", "edgeAt", "(III)I"⟩, 31) := ⟨⟨by decide +kernel, by decide +kernel⟩, List.mem_of_getElem? (i := 482) (by decide +kernel), List.mem_of_getElem? (i := 603) (by decide +kernel), List.mem_of_getElem? (i := 604) (by decide +kernel)⟩
theorem lw_p17 : lw_okq (⟨"WatchRows2Model", "isTime", "(J)Z"⟩, 31) := ⟨⟨by decide +kernel, by decide +kernel⟩, List.mem_of_getElem? (i := 482) (by decide +kernel), List.mem_of_getElem? (i := 616) (by decide +kernel), List.mem_of_getElem? (i := 617) (by decide +kernel)⟩
theorem lw_p18 : lw_okq (⟨"WatchRows2Model", "judge", "(I)V"⟩, 31) := ⟨⟨by decide +kernel, by decide +kernel⟩, List.mem_of_getElem? (i := 482) (by decide +kernel), List.mem_of_getElem? (i := 625) (by decide +kernel), List.mem_of_getElem? (i := 626) (by decide +kernel)⟩
theorem lw_p19 : lw_okq (⟨"WatchRows2Model", "reset0", "(I)V"⟩, 31) := ⟨⟨by decide +kernel, by decide +kernel⟩, List.mem_of_getElem? (i := 482) (by decide +kernel), List.mem_of_getElem? (i := 629) (by decide +kernel), List.mem_of_getElem? (i := 630) (by decide +kernel)⟩
theorem lw_p20 : lw_okq (⟨"WatchRows2Model", "clear", "(I)V"⟩, 31) := ⟨⟨by decide +kernel, by decide +kernel⟩, List.mem_of_getElem? (i := 482) (by decide +kernel), List.mem_of_getElem? (i := 633) (by decide +kernel), List.mem_of_getElem? (i := 634) (by decide +kernel)⟩
def lw_privs_2 : List (MethodName × Nat) := [(⟨"WatchRows2Model", "edgeAt", "(III)I"⟩, 31), (⟨"WatchRows2Model", "isTime", "(J)Z"⟩, 31), (⟨"WatchRows2Model", "judge", "(I)V"⟩, 31), (⟨"WatchRows2Model", "reset0", "(I)V"⟩, 31), (⟨"WatchRows2Model", "clear", "(I)V"⟩, 31)]
theorem lw_r2 : ∀ q ∈ lw_privs_2, lw_okq q := List.forall_mem_cons.mpr ⟨lw_p16, List.forall_mem_cons.mpr ⟨lw_p17, List.forall_mem_cons.mpr ⟨lw_p18, List.forall_mem_cons.mpr ⟨lw_p19, List.forall_mem_cons.mpr ⟨lw_p20, fun _ h => absurd h List.not_mem_nil⟩⟩⟩⟩⟩
def lw_privs : List (MethodName × Nat) := lw_privs_1 ++ (lw_privs_2)
def lw_tbl : List Cond := k2_sels lw_privs ++ tables_1
theorem lw_privs_ok : ∀ q ∈ lw_privs, lw_okq q := by
  show ∀ q ∈ lw_privs_1 ++ (lw_privs_2), lw_okq q
  exact List.forall_mem_append.mpr ⟨lw_r1, lw_r2⟩
end
section
abbrev R_W : String := "WatchRows2"
abbrev R_P : String := "WatchRows2$Part"
abbrev R_D : String := "WatchRows2$Deadline"
abbrev R_Q : String := "WatchRows2$Question"
abbrev R_M : String := "WatchRows2Model"
abbrev R_L : String := "WatchRows2Law"
abbrev R_A : String := "java/util/ArrayList"
abbrev R_AL : String := "java/util/AbstractList"
abbrev R_AC : String := "java/util/AbstractCollection"
abbrev R_AR : String := "java/util/Arrays"
abbrev R_AS : String := "jdk/internal/util/ArraysSupport"
abbrev R_OB : String := "java/util/Objects"
abbrev R_PC : String := "jdk/internal/util/Preconditions"
abbrev R_AE : String := "java/lang/ArithmeticException"
abbrev R_RE : String := "java/lang/RuntimeException"
abbrev R_EX : String := "java/lang/Exception"
abbrev R_TH : String := "java/lang/Throwable"
abbrev R_O : String := "java/lang/Object"
abbrev R_MA : String := "java/lang/Math"
abbrev R_SY : String := "java/lang/System"
abbrev R_S : String := "java/lang/String"
def y_W_init : MethodName := ⟨"WatchRows2", "<init>", "()V"⟩
def y_O_init : MethodName := ⟨"java/lang/Object", "<init>", "()V"⟩
def y_A_init : MethodName := ⟨"java/util/ArrayList", "<init>", "()V"⟩
def y_AL_init : MethodName := ⟨"java/util/AbstractList", "<init>", "()V"⟩
def y_AC_init : MethodName := ⟨"java/util/AbstractCollection", "<init>", "()V"⟩
def y_Q_init : MethodName := ⟨"WatchRows2$Question", "<init>", "()V"⟩
def y_W_edge : MethodName := ⟨"WatchRows2", "edge", "(III)I"⟩
def y_W_findPart : MethodName := ⟨"WatchRows2", "findPart", "(I)LWatchRows2$Part;"⟩
def y_A_size : MethodName := ⟨"java/util/ArrayList", "size", "()I"⟩
def y_W_isWithin : MethodName := ⟨"WatchRows2", "isWithin", "(JJJ)Z"⟩
def y_A_get : MethodName := ⟨"java/util/ArrayList", "get", "(I)Ljava/lang/Object;"⟩
def y_OB_checkIndex : MethodName := ⟨"java/util/Objects", "checkIndex", "(II)I"⟩
def y_PC_checkIndex : MethodName := ⟨"jdk/internal/util/Preconditions", "checkIndex", "(IILjava/util/function/BiFunction;)I"⟩
def y_A_elementData : MethodName := ⟨"java/util/ArrayList", "elementData", "(I)Ljava/lang/Object;"⟩
def y_W_isPoint : MethodName := ⟨"WatchRows2", "isPoint", "(I)Z"⟩
def y_P_addEdge : MethodName := ⟨"WatchRows2$Part", "addEdge", "(III)Z"⟩
def y_P_rowOf : MethodName := ⟨"WatchRows2$Part", "rowOf", "(II)I"⟩
def y_P_hasEdge : MethodName := ⟨"WatchRows2$Part", "hasEdge", "(III)Z"⟩
def y_W_deadline : MethodName := ⟨"WatchRows2", "deadline", "(IIIJJ)I"⟩
def y_D_init : MethodName := ⟨"WatchRows2$Deadline", "<init>", "(IIIJJ)V"⟩
def y_A_add0 : MethodName := ⟨"java/util/ArrayList", "add", "(Ljava/lang/Object;)Z"⟩
def y_A_add1 : MethodName := ⟨"java/util/ArrayList", "add", "(Ljava/lang/Object;[Ljava/lang/Object;I)V"⟩
def y_A_grow0 : MethodName := ⟨"java/util/ArrayList", "grow", "()[Ljava/lang/Object;"⟩
def y_A_grow1 : MethodName := ⟨"java/util/ArrayList", "grow", "(I)[Ljava/lang/Object;"⟩
def y_AS_newLength : MethodName := ⟨"jdk/internal/util/ArraysSupport", "newLength", "(III)I"⟩
def y_MA_max : MethodName := ⟨"java/lang/Math", "max", "(II)I"⟩
def y_AS_hugeLength : MethodName := ⟨"jdk/internal/util/ArraysSupport", "hugeLength", "(II)I"⟩
def y_AR_copyOf0 : MethodName := ⟨"java/util/Arrays", "copyOf", "([Ljava/lang/Object;I)[Ljava/lang/Object;"⟩
def y_AR_copyOf1 : MethodName := ⟨"java/util/Arrays", "copyOf", "([Ljava/lang/Object;ILjava/lang/Class;)[Ljava/lang/Object;"⟩
def y_MA_min : MethodName := ⟨"java/lang/Math", "min", "(II)I"⟩
def y_W_point : MethodName := ⟨"WatchRows2", "point", "(IIJ)I"⟩
def y_W_isTime : MethodName := ⟨"WatchRows2", "isTime", "(J)Z"⟩
def y_P_passPoint : MethodName := ⟨"WatchRows2$Part", "passPoint", "(IIJ)V"⟩
def y_P_endDeadlines : MethodName := ⟨"WatchRows2$Part", "endDeadlines", "(IJ)V"⟩
def y_P_beginDeadlines : MethodName := ⟨"WatchRows2$Part", "beginDeadlines", "(IIJ)V"⟩
def y_W_cycle : MethodName := ⟨"WatchRows2", "cycle", "(J)I"⟩
def y_P_passCycle : MethodName := ⟨"WatchRows2$Part", "passCycle", "(IJ)V"⟩
def y_P_stopLateDeadlines : MethodName := ⟨"WatchRows2$Part", "stopLateDeadlines", "(J)V"⟩
def y_P_checkAliveCount : MethodName := ⟨"WatchRows2$Part", "checkAliveCount", "(I)V"⟩
def y_P_judge : MethodName := ⟨"WatchRows2$Part", "judge", "()V"⟩
def y_W_worstCondition : MethodName := ⟨"WatchRows2", "worstCondition", "()I"⟩
def y_W_restart : MethodName := ⟨"WatchRows2", "restart", "(I)V"⟩
def y_P_beginAnew : MethodName := ⟨"WatchRows2$Part", "beginAnew", "()V"⟩
def y_P_forgetCourse : MethodName := ⟨"WatchRows2$Part", "forgetCourse", "()V"⟩
def y_Q_beginAnew : MethodName := ⟨"WatchRows2$Question", "beginAnew", "(J)V"⟩
def y_W_tolerance : MethodName := ⟨"WatchRows2", "tolerance", "(II)I"⟩
def y_W_answer : MethodName := ⟨"WatchRows2", "answer", "(IJJ)I"⟩
def y_Q_isRight : MethodName := ⟨"WatchRows2$Question", "isRight", "(IJJ)Z"⟩
def y_Q_rightValue : MethodName := ⟨"WatchRows2$Question", "rightValue", "(I)J"⟩
def y_Q_isInTime : MethodName := ⟨"WatchRows2$Question", "isInTime", "(J)Z"⟩
def y_Q_takeRight : MethodName := ⟨"WatchRows2$Question", "takeRight", "(IJ)V"⟩
def y_Q_takeWrong : MethodName := ⟨"WatchRows2$Question", "takeWrong", "(J)V"⟩
def y_W_mode : MethodName := ⟨"WatchRows2", "mode", "(I)I"⟩
def y_W_reset : MethodName := ⟨"WatchRows2", "reset", "(I)I"⟩
def y_W_outer : MethodName := ⟨"WatchRows2", "outer", "(J)I"⟩
def y_W_state : MethodName := ⟨"WatchRows2", "state", "(I)I"⟩
def y_W_part : MethodName := ⟨"WatchRows2", "part", "(IIJ)I"⟩
def y_TH_init0 : MethodName := ⟨"java/lang/Throwable", "<init>", "()V"⟩
def y_TH_init1 : MethodName := ⟨"java/lang/Throwable", "<init>", "(Ljava/lang/String;)V"⟩
def y_AE_init : MethodName := ⟨"java/lang/ArithmeticException", "<init>", "(Ljava/lang/String;)V"⟩
def y_RE_init : MethodName := ⟨"java/lang/RuntimeException", "<init>", "(Ljava/lang/String;)V"⟩
def y_EX_init : MethodName := ⟨"java/lang/Exception", "<init>", "(Ljava/lang/String;)V"⟩
def y_P_init : MethodName := ⟨"WatchRows2$Part", "<init>", "(IIJ)V"⟩
def y_M_init : MethodName := ⟨"WatchRows2Model", "<init>", "()V"⟩
def y_M_thrown : MethodName := ⟨"WatchRows2Model", "thrown", "()I"⟩
def y_M_part : MethodName := ⟨"WatchRows2Model", "part", "(IIJ)I"⟩
def y_M_edge : MethodName := ⟨"WatchRows2Model", "edge", "(III)I"⟩
def y_M_isPart : MethodName := ⟨"WatchRows2Model", "isPart", "(I)Z"⟩
def y_M_edgeAt : MethodName := ⟨"WatchRows2Model", "edgeAt", "(III)I"⟩
def y_M_deadline : MethodName := ⟨"WatchRows2Model", "deadline", "(IIIJJ)I"⟩
def y_M_point : MethodName := ⟨"WatchRows2Model", "point", "(IIJ)I"⟩
def y_M_isTime : MethodName := ⟨"WatchRows2Model", "isTime", "(J)Z"⟩
def y_M_cycle : MethodName := ⟨"WatchRows2Model", "cycle", "(J)I"⟩
def y_M_judge : MethodName := ⟨"WatchRows2Model", "judge", "(I)V"⟩
def y_M_reset0 : MethodName := ⟨"WatchRows2Model", "reset0", "(I)V"⟩
def y_M_clear : MethodName := ⟨"WatchRows2Model", "clear", "(I)V"⟩
def y_M_tolerance : MethodName := ⟨"WatchRows2Model", "tolerance", "(II)I"⟩
def y_M_answer : MethodName := ⟨"WatchRows2Model", "answer", "(IJJ)I"⟩
def y_M_mode : MethodName := ⟨"WatchRows2Model", "mode", "(I)I"⟩
def y_M_reset : MethodName := ⟨"WatchRows2Model", "reset", "(I)I"⟩
def y_M_outer : MethodName := ⟨"WatchRows2Model", "outer", "(J)I"⟩
def y_M_state : MethodName := ⟨"WatchRows2Model", "state", "(I)I"⟩
def y_L_part : MethodName := ⟨"WatchRows2Law", "part", "(LWatchRows2;IIJ[J)I"⟩
abbrev c_W_init : ByteArray := prog_1_method_1_code
abbrev c_O_init : ByteArray := object_method_1_code
abbrev c_A_init : ByteArray := prog_19_method_2_code
abbrev c_AL_init : ByteArray := prog_18_method_1_code
abbrev c_AC_init : ByteArray := prog_17_method_1_code
abbrev c_Q_init : ByteArray := prog_4_method_1_code
abbrev c_W_edge : ByteArray := prog_1_method_3_code
abbrev c_W_findPart : ByteArray := prog_1_method_16_code
abbrev c_A_size : ByteArray := prog_19_method_8_code
abbrev c_W_isWithin : ByteArray := prog_1_method_13_code
abbrev c_A_get : ByteArray := prog_19_method_20_code
abbrev c_OB_checkIndex : ByteArray := prog_23_method_17_code
abbrev c_PC_checkIndex : ByteArray := prog_27_method_11_code
abbrev c_A_elementData : ByteArray := prog_19_method_18_code
abbrev c_W_isPoint : ByteArray := prog_1_method_14_code
abbrev c_P_addEdge : ByteArray := prog_3_method_2_code
abbrev c_P_rowOf : ByteArray := prog_3_method_4_code
abbrev c_P_hasEdge : ByteArray := prog_3_method_3_code
abbrev c_W_deadline : ByteArray := prog_1_method_4_code
abbrev c_D_init : ByteArray := prog_2_method_1_code
abbrev c_A_add0 : ByteArray := prog_19_method_25_code
abbrev c_A_add1 : ByteArray := prog_19_method_24_code
abbrev c_A_grow0 : ByteArray := prog_19_method_7_code
abbrev c_A_grow1 : ByteArray := prog_19_method_6_code
abbrev c_AS_newLength : ByteArray := prog_26_method_27_code
abbrev c_MA_max : ByteArray := prog_12_method_65_code
abbrev c_AS_hugeLength : ByteArray := prog_26_method_28_code
abbrev c_AR_copyOf0 : ByteArray := prog_20_method_119_code
abbrev c_AR_copyOf1 : ByteArray := prog_20_method_120_code
abbrev c_MA_min : ByteArray := prog_12_method_69_code
abbrev c_W_point : ByteArray := prog_1_method_5_code
abbrev c_W_isTime : ByteArray := prog_1_method_15_code
abbrev c_P_passPoint : ByteArray := prog_3_method_5_code
abbrev c_P_endDeadlines : ByteArray := prog_3_method_6_code
abbrev c_P_beginDeadlines : ByteArray := prog_3_method_7_code
abbrev c_W_cycle : ByteArray := prog_1_method_6_code
abbrev c_P_passCycle : ByteArray := prog_3_method_8_code
abbrev c_P_stopLateDeadlines : ByteArray := prog_3_method_9_code
abbrev c_P_checkAliveCount : ByteArray := prog_3_method_10_code
abbrev c_P_judge : ByteArray := prog_3_method_11_code
abbrev c_W_worstCondition : ByteArray := prog_1_method_17_code
abbrev c_W_restart : ByteArray := prog_1_method_18_code
abbrev c_P_beginAnew : ByteArray := prog_3_method_13_code
abbrev c_P_forgetCourse : ByteArray := prog_3_method_12_code
abbrev c_Q_beginAnew : ByteArray := prog_4_method_7_code
abbrev c_W_tolerance : ByteArray := prog_1_method_7_code
abbrev c_W_answer : ByteArray := prog_1_method_8_code
abbrev c_Q_isRight : ByteArray := prog_4_method_2_code
abbrev c_Q_rightValue : ByteArray := prog_4_method_3_code
abbrev c_Q_isInTime : ByteArray := prog_4_method_4_code
abbrev c_Q_takeRight : ByteArray := prog_4_method_5_code
abbrev c_Q_takeWrong : ByteArray := prog_4_method_6_code
abbrev c_W_mode : ByteArray := prog_1_method_9_code
abbrev c_W_reset : ByteArray := prog_1_method_10_code
abbrev c_W_outer : ByteArray := prog_1_method_11_code
abbrev c_W_state : ByteArray := prog_1_method_12_code
abbrev c_W_part : ByteArray := prog_1_method_2_code
abbrev c_TH_init0 : ByteArray := prog_16_method_1_code
abbrev c_AE_init : ByteArray := prog_8_method_2_code
abbrev c_RE_init : ByteArray := prog_13_method_2_code
abbrev c_EX_init : ByteArray := prog_10_method_2_code
abbrev c_TH_init1 : ByteArray := prog_16_method_2_code
abbrev c_P_init : ByteArray := prog_3_method_1_code
abbrev c_M_init : ByteArray := prog_6_method_1_code
abbrev c_M_thrown : ByteArray := prog_6_method_2_code
abbrev c_M_part : ByteArray := prog_6_method_5_code
abbrev c_M_edge : ByteArray := prog_6_method_7_code
abbrev c_M_isPart : ByteArray := prog_6_method_3_code
abbrev c_M_edgeAt : ByteArray := prog_6_method_6_code
abbrev c_M_deadline : ByteArray := prog_6_method_8_code
abbrev c_M_point : ByteArray := prog_6_method_9_code
abbrev c_M_isTime : ByteArray := prog_6_method_4_code
abbrev c_M_cycle : ByteArray := prog_6_method_13_code
abbrev c_M_judge : ByteArray := prog_6_method_12_code
abbrev c_M_reset0 : ByteArray := prog_6_method_11_code
abbrev c_M_clear : ByteArray := prog_6_method_10_code
abbrev c_M_tolerance : ByteArray := prog_6_method_14_code
abbrev c_M_answer : ByteArray := prog_6_method_15_code
abbrev c_M_mode : ByteArray := prog_6_method_16_code
abbrev c_M_reset : ByteArray := prog_6_method_17_code
abbrev c_M_outer : ByteArray := prog_6_method_18_code
abbrev c_M_state : ByteArray := prog_6_method_19_code
abbrev c_L_part : ByteArray := method_3_code
/-- the words that every method here may use -/
def wsA : List Cond := lw_tbl.filter goodWord
theorem wsA_good : ∀ w ∈ wsA, goodWord w = true := fun w h => (List.mem_filter.mp h).2
theorem wsA_in : ∀ w ∈ wsA, w ∈ lw_tbl := fun w h => (List.mem_filter.mp h).1
theorem wsA_of {w : Cond} (i : Nat) (h : tables_1[i]? = some w) (hg : goodWord w = true) : w ∈ wsA := List.mem_filter.mpr ⟨List.mem_append_right _ (List.mem_of_getElem? h), hg⟩
theorem wsA_1 {w : Cond} (i : Nat) (h : tables_1_1[i]? = some w) (hg : goodWord w = true) : w ∈ wsA := List.mem_filter.mpr ⟨List.mem_append_right _ (List.mem_append_left _ (List.mem_of_getElem? h)), hg⟩
theorem wsA_2 {w : Cond} (i : Nat) (h : tables_1_2[i]? = some w) (hg : goodWord w = true) : w ∈ wsA := List.mem_filter.mpr ⟨List.mem_append_right _ (List.mem_append_right _ (List.mem_append_left _ (List.mem_of_getElem? h))), hg⟩
theorem wsA_3 {w : Cond} (i : Nat) (h : tables_1_3[i]? = some w) (hg : goodWord w = true) : w ∈ wsA := List.mem_filter.mpr ⟨List.mem_append_right _ (List.mem_append_right _ (List.mem_append_right _ (List.mem_of_getElem? h))), hg⟩
theorem wsA_sel {q : MethodName × Nat} (i : Nat) (h : lw_privs[i]? = some q) (hg : goodWord (Cond.selects q.1.cls q.1 q.1) = true) : Cond.selects q.1.cls q.1 q.1 ∈ wsA := List.mem_filter.mpr ⟨List.mem_append_left _ (List.mem_map.mpr ⟨q, List.mem_of_getElem? h, rfl⟩), hg⟩
theorem m_0 : Cond.initialized "WatchRows2Law" ∈ wsA := wsA_1 0 rfl rfl
theorem m_1 : Cond.initialized "WatchRows2" ∈ wsA := wsA_1 1 rfl rfl
theorem m_2 : Cond.initialized "java/util/AbstractCollection" ∈ wsA := wsA_1 2 rfl rfl
theorem m_3 : Cond.initialized "java/util/AbstractList" ∈ wsA := wsA_1 3 rfl rfl
theorem m_4 : Cond.initialized "java/util/ArrayList" ∈ wsA := wsA_1 4 rfl rfl
theorem m_5 : Cond.initialized "WatchRows2$Question" ∈ wsA := wsA_1 5 rfl rfl
theorem m_6 : Cond.initialized "WatchRows2Model" ∈ wsA := wsA_1 6 rfl rfl
theorem m_7 : Cond.initialized "java/lang/Throwable" ∈ wsA := wsA_1 7 rfl rfl
theorem m_8 : Cond.initialized "java/lang/Exception" ∈ wsA := wsA_1 8 rfl rfl
theorem m_9 : Cond.initialized "java/lang/RuntimeException" ∈ wsA := wsA_1 9 rfl rfl
theorem m_10 : Cond.initialized "java/lang/ArithmeticException" ∈ wsA := wsA_1 10 rfl rfl
theorem m_11 : Cond.initialized "WatchRows2$Part" ∈ wsA := wsA_1 11 rfl rfl
theorem m_12 : Cond.initialized "jdk/internal/util/ArraysSupport" ∈ wsA := wsA_1 12 rfl rfl
theorem m_13 : Cond.initialized "java/lang/Math" ∈ wsA := wsA_1 13 rfl rfl
theorem m_14 : Cond.initialized "java/util/Arrays" ∈ wsA := wsA_1 14 rfl rfl
theorem m_15 : Cond.initialized "java/lang/System" ∈ wsA := wsA_1 15 rfl rfl
theorem m_16 : Cond.initialized "java/util/Objects" ∈ wsA := wsA_1 16 rfl rfl
theorem m_17 : Cond.initialized "jdk/internal/util/Preconditions" ∈ wsA := wsA_1 17 rfl rfl
theorem m_18 : Cond.initialized "WatchRows2$Deadline" ∈ wsA := wsA_1 18 rfl rfl
theorem m_19 : Cond.classLink "WatchRows2Law" 8 "WatchRows2" ∈ wsA := wsA_1 19 rfl rfl
theorem m_20 : Cond.instantiable "WatchRows2" 10 ∈ wsA := wsA_1 20 rfl rfl
theorem m_21 : Cond.methodLink "WatchRows2Law" 15 y_W_init ∈ wsA := wsA_1 21 rfl rfl
theorem m_22 : Cond.instanceMethod y_W_init ∈ wsA := wsA_1 22 rfl rfl
theorem m_23 : Cond.code y_W_init c_W_init 1 (none : Option FieldType) ∈ wsA := wsA_1 23 rfl rfl
theorem m_24 : Cond.methodLink "WatchRows2" 1 y_O_init ∈ wsA := wsA_1 24 rfl rfl
theorem m_25 : Cond.instanceMethod y_O_init ∈ wsA := wsA_1 25 rfl rfl
theorem m_26 : Cond.code y_O_init c_O_init 1 (none : Option FieldType) ∈ wsA := wsA_1 26 rfl rfl
theorem m_27 : Cond.classLink "WatchRows2" 7 "java/util/ArrayList" ∈ wsA := wsA_1 27 rfl rfl
theorem m_28 : Cond.instantiable "java/util/ArrayList" 3 ∈ wsA := wsA_1 28 rfl rfl
theorem m_29 : Cond.methodLink "WatchRows2" 9 y_A_init ∈ wsA := wsA_1 29 rfl rfl
theorem m_30 : Cond.instanceMethod y_A_init ∈ wsA := wsA_1 30 rfl rfl
theorem m_31 : Cond.code y_A_init c_A_init 1 (none : Option FieldType) ∈ wsA := wsA_1 31 rfl rfl
theorem m_32 : Cond.methodLink "java/util/ArrayList" 1 y_AL_init ∈ wsA := wsA_1 32 rfl rfl
theorem m_33 : Cond.instanceMethod y_AL_init ∈ wsA := wsA_1 33 rfl rfl
theorem m_34 : Cond.code y_AL_init c_AL_init 1 (none : Option FieldType) ∈ wsA := wsA_1 34 rfl rfl
theorem m_35 : Cond.methodLink "java/util/AbstractList" 1 y_AC_init ∈ wsA := wsA_1 35 rfl rfl
theorem m_36 : Cond.instanceMethod y_AC_init ∈ wsA := wsA_1 36 rfl rfl
theorem m_37 : Cond.code y_AC_init c_AC_init 1 (none : Option FieldType) ∈ wsA := wsA_1 37 rfl rfl
theorem m_38 : Cond.methodLink "java/util/AbstractCollection" 1 y_O_init ∈ wsA := wsA_1 38 rfl rfl
theorem m_39 : Cond.fieldLink "java/util/ArrayList" 39 "java/util/ArrayList" "DEFAULTCAPACITY_EMPTY_ELEMENTDATA" "[Ljava/lang/Object;" ∈ wsA := wsA_1 39 rfl rfl
theorem m_41 : Cond.fieldLink "java/util/ArrayList" 9 "java/util/ArrayList" "elementData" "[Ljava/lang/Object;" ∈ wsA := wsA_1 41 rfl rfl
theorem m_42 : Cond.fieldLink "java/util/ArrayList" 48 "java/util/ArrayList" "size" "I" ∈ wsA := wsA_1 42 rfl rfl
theorem m_43 : Cond.fieldLink "java/util/AbstractList" 7 "java/util/AbstractList" "modCount" "I" ∈ wsA := wsA_1 43 rfl rfl
theorem m_44 : Cond.fieldLink "java/util/ArrayList" 63 "java/util/ArrayList" "modCount" "I" ∈ wsA := wsA_1 44 rfl rfl
theorem m_45 : Cond.sameField "java/util/ArrayList" "java/util/AbstractList" "modCount" "I" ∈ wsA := wsA_1 45 rfl rfl
theorem m_53 : Cond.classLink "WatchRows2" 16 "WatchRows2$Question" ∈ wsA := wsA_1 53 rfl rfl
theorem m_54 : Cond.instantiable "WatchRows2$Question" 4 ∈ wsA := wsA_1 54 rfl rfl
theorem m_55 : Cond.methodLink "WatchRows2" 18 y_Q_init ∈ wsA := wsA_1 55 rfl rfl
theorem m_56 : Cond.instanceMethod y_Q_init ∈ wsA := wsA_1 56 rfl rfl
theorem m_57 : Cond.code y_Q_init c_Q_init 1 (none : Option FieldType) ∈ wsA := wsA_1 57 rfl rfl
theorem m_58 : Cond.methodLink "WatchRows2$Question" 3 y_O_init ∈ wsA := wsA_1 58 rfl rfl
theorem m_59 : Cond.fieldLink "WatchRows2$Question" 9 "WatchRows2$Question" "number" "I" ∈ wsA := wsA_1 59 rfl rfl
theorem m_60 : Cond.fieldLink "WatchRows2" 146 "WatchRows2$Question" "number" "I" ∈ wsA := wsA_1 60 rfl rfl
theorem m_61 : Cond.fieldLink "WatchRows2$Question" 15 "WatchRows2$Question" "nextStep" "I" ∈ wsA := wsA_1 61 rfl rfl
theorem m_62 : Cond.fieldLink "WatchRows2$Question" 18 "WatchRows2$Question" "errors" "I" ∈ wsA := wsA_1 62 rfl rfl
theorem m_63 : Cond.fieldLink "WatchRows2" 140 "WatchRows2$Question" "errors" "I" ∈ wsA := wsA_1 63 rfl rfl
theorem m_64 : Cond.fieldLink "WatchRows2$Question" 21 "WatchRows2$Question" "since" "J" ∈ wsA := wsA_1 64 rfl rfl
theorem m_74 : Cond.fieldLink "WatchRows2" 10 "WatchRows2" "parts" "Ljava/util/ArrayList;" ∈ wsA := wsA_1 74 rfl rfl
theorem m_75 : Cond.fieldLink "WatchRows2" 19 "WatchRows2" "question" "LWatchRows2$Question;" ∈ wsA := wsA_1 75 rfl rfl
theorem m_76 : Cond.fieldLink "WatchRows2" 23 "WatchRows2" "currentMode" "I" ∈ wsA := wsA_1 76 rfl rfl
theorem m_77 : Cond.fieldLink "WatchRows2" 27 "WatchRows2" "age" "I" ∈ wsA := wsA_1 77 rfl rfl
theorem m_78 : Cond.fieldLink "WatchRows2" 30 "WatchRows2" "now" "J" ∈ wsA := wsA_1 78 rfl rfl
theorem m_79 : Cond.fieldLink "WatchRows2" 34 "WatchRows2" "outerSince" "J" ∈ wsA := wsA_1 79 rfl rfl
theorem m_80 : Cond.fieldLink "WatchRows2" 37 "WatchRows2" "globalTolerance" "I" ∈ wsA := wsA_1 80 rfl rfl
theorem m_81 : Cond.fieldLink "WatchRows2" 40 "WatchRows2" "expiredCycles" "I" ∈ wsA := wsA_1 81 rfl rfl
theorem m_82 : Cond.fieldLink "WatchRows2" 43 "WatchRows2" "resets" "I" ∈ wsA := wsA_1 82 rfl rfl
theorem m_83 : Cond.fieldLink "WatchRows2" 46 "WatchRows2" "lastReason" "I" ∈ wsA := wsA_1 83 rfl rfl
theorem m_105 : Cond.methodLink "WatchRows2Law" 31 y_W_edge ∈ wsA := wsA_1 105 rfl rfl
theorem m_106 : Cond.instanceMethod y_W_edge ∈ wsA := wsA_1 106 rfl rfl
theorem m_107 : Cond.selects "WatchRows2" y_W_edge y_W_edge ∈ wsA := wsA_1 107 rfl rfl
theorem m_108 : Cond.code y_W_edge c_W_edge 5 (some .int) ∈ wsA := wsA_1 108 rfl rfl
theorem m_109 : Cond.methodLink "WatchRows2" 77 y_W_findPart ∈ wsA := wsA_1 109 rfl rfl
theorem m_111 : Cond.instanceMethod y_W_findPart ∈ wsA := wsA_1 111 rfl rfl
theorem m_112 : Cond.code y_W_findPart c_W_findPart 2 (some (.object "WatchRows2$Part")) ∈ wsA := wsA_1 112 rfl rfl
theorem m_113 : Cond.methodLink "WatchRows2" 57 y_A_size ∈ wsA := wsA_1 113 rfl rfl
theorem m_114 : Cond.instanceMethod y_A_size ∈ wsA := wsA_1 114 rfl rfl
theorem m_115 : Cond.selects "java/util/ArrayList" y_A_size y_A_size ∈ wsA := wsA_1 115 rfl rfl
theorem m_116 : Cond.code y_A_size c_A_size 1 (some .int) ∈ wsA := wsA_1 116 rfl rfl
theorem m_117 : Cond.methodLink "WatchRows2" 51 y_W_isWithin ∈ wsA := wsA_1 117 rfl rfl
theorem m_118 : Cond.static y_W_isWithin ∈ wsA := wsA_1 118 rfl rfl
theorem m_119 : Cond.code y_W_isWithin c_W_isWithin 6 (some .boolean) ∈ wsA := wsA_1 119 rfl rfl
theorem m_120 : Cond.methodLink "WatchRows2" 109 y_A_get ∈ wsA := wsA_1 120 rfl rfl
theorem m_121 : Cond.instanceMethod y_A_get ∈ wsA := wsA_1 121 rfl rfl
theorem m_122 : Cond.selects "java/util/ArrayList" y_A_get y_A_get ∈ wsA := wsA_1 122 rfl rfl
theorem m_123 : Cond.code y_A_get c_A_get 2 (some (.object "java/lang/Object")) ∈ wsA := wsA_1 123 rfl rfl
theorem m_124 : Cond.methodLink "java/util/ArrayList" 118 y_OB_checkIndex ∈ wsA := wsA_1 124 rfl rfl
theorem m_125 : Cond.static y_OB_checkIndex ∈ wsA := wsA_1 125 rfl rfl
theorem m_126 : Cond.code y_OB_checkIndex c_OB_checkIndex 2 (some .int) ∈ wsA := wsA_1 126 rfl rfl
theorem m_127 : Cond.methodLink "java/util/Objects" 105 y_PC_checkIndex ∈ wsA := wsA_1 127 rfl rfl
theorem m_128 : Cond.static y_PC_checkIndex ∈ wsA := wsA_1 128 rfl rfl
theorem m_129 : Cond.code y_PC_checkIndex c_PC_checkIndex 3 (some .int) ∈ wsA := wsA_1 129 rfl rfl
theorem m_130 : Cond.methodLink "java/util/ArrayList" 123 y_A_elementData ∈ wsA := wsA_1 130 rfl rfl
theorem m_131 : Cond.instanceMethod y_A_elementData ∈ wsA := wsA_1 131 rfl rfl
theorem m_132 : Cond.selects "java/util/ArrayList" y_A_elementData y_A_elementData ∈ wsA := wsA_1 132 rfl rfl
theorem m_133 : Cond.code y_A_elementData c_A_elementData 2 (some (.object "java/lang/Object")) ∈ wsA := wsA_1 133 rfl rfl
theorem m_134 : Cond.classLink "WatchRows2" 68 "WatchRows2$Part" ∈ wsA := wsA_1 134 rfl rfl
theorem m_135 : Cond.methodLink "WatchRows2" 81 y_W_isPoint ∈ wsA := wsA_1 135 rfl rfl
theorem m_136 : Cond.static y_W_isPoint ∈ wsA := wsA_1 136 rfl rfl
theorem m_137 : Cond.code y_W_isPoint c_W_isPoint 1 (some .boolean) ∈ wsA := wsA_1 137 rfl rfl
theorem m_138 : Cond.constantLong "WatchRows2" 149 (30) ∈ wsA := wsA_1 138 rfl rfl
theorem m_139 : Cond.methodLink "WatchRows2" 85 y_P_addEdge ∈ wsA := wsA_1 139 rfl rfl
theorem m_140 : Cond.instanceMethod y_P_addEdge ∈ wsA := wsA_1 140 rfl rfl
theorem m_141 : Cond.selects "WatchRows2$Part" y_P_addEdge y_P_addEdge ∈ wsA := wsA_1 141 rfl rfl
theorem m_142 : Cond.code y_P_addEdge c_P_addEdge 5 (some .boolean) ∈ wsA := wsA_1 142 rfl rfl
theorem m_143 : Cond.methodLink "WatchRows2$Part" 52 y_P_rowOf ∈ wsA := wsA_1 143 rfl rfl
theorem m_144 : Cond.static y_P_rowOf ∈ wsA := wsA_1 144 rfl rfl
theorem m_145 : Cond.code y_P_rowOf c_P_rowOf 2 (some .int) ∈ wsA := wsA_1 145 rfl rfl
theorem m_146 : Cond.methodLink "WatchRows2$Part" 56 y_P_hasEdge ∈ wsA := wsA_1 146 rfl rfl
theorem m_147 : Cond.instanceMethod y_P_hasEdge ∈ wsA := wsA_1 147 rfl rfl
theorem m_148 : Cond.selects "WatchRows2$Part" y_P_hasEdge y_P_hasEdge ∈ wsA := wsA_1 148 rfl rfl
theorem m_149 : Cond.code y_P_hasEdge c_P_hasEdge 5 (some .boolean) ∈ wsA := wsA_1 149 rfl rfl
theorem m_151 : Cond.methodLink "WatchRows2Law" 36 y_W_deadline ∈ wsA := wsA_1 151 rfl rfl
theorem m_152 : Cond.instanceMethod y_W_deadline ∈ wsA := wsA_1 152 rfl rfl
theorem m_153 : Cond.selects "WatchRows2" y_W_deadline y_W_deadline ∈ wsA := wsA_1 153 rfl rfl
theorem m_154 : Cond.code y_W_deadline c_W_deadline 9 (some .int) ∈ wsA := wsA_1 154 rfl rfl
theorem m_155 : Cond.constantLong "WatchRows2" 89 (100000) ∈ wsA := wsA_1 155 rfl rfl
theorem m_156 : Cond.classLink "WatchRows2" 94 "WatchRows2$Deadline" ∈ wsA := wsA_1 156 rfl rfl
theorem m_157 : Cond.instantiable "WatchRows2$Deadline" 7 ∈ wsA := wsA_1 157 rfl rfl
theorem m_158 : Cond.methodLink "WatchRows2" 96 y_D_init ∈ wsA := wsA_1 158 rfl rfl
theorem m_159 : Cond.instanceMethod y_D_init ∈ wsA := wsA_1 159 rfl rfl
theorem m_160 : Cond.code y_D_init c_D_init 8 (none : Option FieldType) ∈ wsA := wsA_1 160 rfl rfl
theorem m_161 : Cond.methodLink "WatchRows2$Deadline" 1 y_O_init ∈ wsA := wsA_1 161 rfl rfl
theorem m_162 : Cond.fieldLink "WatchRows2$Deadline" 7 "WatchRows2$Deadline" "ofMode" "I" ∈ wsA := wsA_1 162 rfl rfl
theorem m_163 : Cond.fieldLink "WatchRows2$Part" 95 "WatchRows2$Deadline" "ofMode" "I" ∈ wsA := wsA_1 163 rfl rfl
theorem m_164 : Cond.fieldLink "WatchRows2$Deadline" 13 "WatchRows2$Deadline" "from" "I" ∈ wsA := wsA_1 164 rfl rfl
theorem m_165 : Cond.fieldLink "WatchRows2$Part" 98 "WatchRows2$Deadline" "from" "I" ∈ wsA := wsA_1 165 rfl rfl
theorem m_166 : Cond.fieldLink "WatchRows2$Deadline" 16 "WatchRows2$Deadline" "to" "I" ∈ wsA := wsA_1 166 rfl rfl
theorem m_167 : Cond.fieldLink "WatchRows2$Part" 85 "WatchRows2$Deadline" "to" "I" ∈ wsA := wsA_1 167 rfl rfl
theorem m_168 : Cond.fieldLink "WatchRows2$Deadline" 19 "WatchRows2$Deadline" "least" "J" ∈ wsA := wsA_1 168 rfl rfl
theorem m_169 : Cond.fieldLink "WatchRows2$Part" 91 "WatchRows2$Deadline" "least" "J" ∈ wsA := wsA_1 169 rfl rfl
theorem m_170 : Cond.fieldLink "WatchRows2$Deadline" 23 "WatchRows2$Deadline" "most" "J" ∈ wsA := wsA_1 170 rfl rfl
theorem m_171 : Cond.fieldLink "WatchRows2$Part" 93 "WatchRows2$Deadline" "most" "J" ∈ wsA := wsA_1 171 rfl rfl
theorem m_172 : Cond.fieldLink "WatchRows2$Deadline" 26 "WatchRows2$Deadline" "running" "Z" ∈ wsA := wsA_1 172 rfl rfl
theorem m_173 : Cond.fieldLink "WatchRows2$Part" 82 "WatchRows2$Deadline" "running" "Z" ∈ wsA := wsA_1 173 rfl rfl
theorem m_174 : Cond.fieldLink "WatchRows2$Deadline" 30 "WatchRows2$Deadline" "begun" "J" ∈ wsA := wsA_1 174 rfl rfl
theorem m_175 : Cond.fieldLink "WatchRows2$Part" 88 "WatchRows2$Deadline" "begun" "J" ∈ wsA := wsA_1 175 rfl rfl
theorem m_191 : Cond.methodLink "WatchRows2" 73 y_A_add0 ∈ wsA := wsA_1 191 rfl rfl
theorem m_192 : Cond.instanceMethod y_A_add0 ∈ wsA := wsA_1 192 rfl rfl
theorem m_193 : Cond.selects "java/util/ArrayList" y_A_add0 y_A_add0 ∈ wsA := wsA_1 193 rfl rfl
theorem m_194 : Cond.code y_A_add0 c_A_add0 2 (some .boolean) ∈ wsA := wsA_1 194 rfl rfl
theorem m_195 : Cond.methodLink "java/util/ArrayList" 131 y_A_add1 ∈ wsA := wsA_1 195 rfl rfl
theorem m_197 : Cond.instanceMethod y_A_add1 ∈ wsA := wsA_1 197 rfl rfl
theorem m_198 : Cond.code y_A_add1 c_A_add1 4 (none : Option FieldType) ∈ wsA := wsA_1 198 rfl rfl
theorem m_199 : Cond.methodLink "java/util/ArrayList" 129 y_A_grow0 ∈ wsA := wsA_1 199 rfl rfl
theorem m_201 : Cond.instanceMethod y_A_grow0 ∈ wsA := wsA_1 201 rfl rfl
theorem m_202 : Cond.code y_A_grow0 c_A_grow0 1 (some (.array (.object "java/lang/Object"))) ∈ wsA := wsA_1 202 rfl rfl
theorem m_203 : Cond.methodLink "java/util/ArrayList" 69 y_A_grow1 ∈ wsA := wsA_1 203 rfl rfl
theorem m_205 : Cond.instanceMethod y_A_grow1 ∈ wsA := wsA_1 205 rfl rfl
theorem m_206 : Cond.code y_A_grow1 c_A_grow1 4 (some (.array (.object "java/lang/Object"))) ∈ wsA := wsA_1 206 rfl rfl
theorem m_207 : Cond.methodLink "java/util/ArrayList" 73 y_AS_newLength ∈ wsA := wsA_1 207 rfl rfl
theorem m_208 : Cond.static y_AS_newLength ∈ wsA := wsA_1 208 rfl rfl
theorem m_209 : Cond.code y_AS_newLength c_AS_newLength 4 (some .int) ∈ wsA := wsA_1 209 rfl rfl
theorem m_210 : Cond.methodLink "jdk/internal/util/ArraysSupport" 194 y_MA_max ∈ wsA := wsA_1 210 rfl rfl
theorem m_211 : Cond.static y_MA_max ∈ wsA := wsA_1 211 rfl rfl
theorem m_212 : Cond.code y_MA_max c_MA_max 2 (some .int) ∈ wsA := wsA_1 212 rfl rfl
theorem m_213 : Cond.constant "jdk/internal/util/ArraysSupport" 200 (2147483639) ∈ wsA := wsA_1 213 rfl rfl
theorem m_214 : Cond.methodLink "jdk/internal/util/ArraysSupport" 201 y_AS_hugeLength ∈ wsA := wsA_1 214 rfl rfl
theorem m_215 : Cond.static y_AS_hugeLength ∈ wsA := wsA_1 215 rfl rfl
theorem m_216 : Cond.code y_AS_hugeLength c_AS_hugeLength 3 (some .int) ∈ wsA := wsA_1 216 rfl rfl
theorem m_217 : Cond.methodLink "java/util/ArrayList" 66 y_AR_copyOf0 ∈ wsA := wsA_1 217 rfl rfl
theorem m_218 : Cond.static y_AR_copyOf0 ∈ wsA := wsA_1 218 rfl rfl
theorem m_219 : Cond.code y_AR_copyOf0 c_AR_copyOf0 2 (some (.array (.object "java/lang/Object"))) ∈ wsA := wsA_1 219 rfl rfl
theorem m_220 : Cond.methodLink "java/util/Arrays" 86 ⟨"java/lang/Object", "getClass", "()Ljava/lang/Class;"⟩ ∈ wsA := wsA_1 220 rfl rfl
theorem m_221 : Cond.instanceMethod ⟨"java/lang/Object", "getClass", "()Ljava/lang/Class;"⟩ ∈ wsA := wsA_1 221 rfl rfl
theorem m_222 : Cond.sameMethod "java/lang/Object" "java/lang/Object" "getClass" "()Ljava/lang/Class;" ∈ wsA := wsA_1 222 rfl rfl
theorem m_223 : Cond.selects "WatchRows2" ⟨"java/lang/Object", "getClass", "()Ljava/lang/Class;"⟩ ⟨"java/lang/Object", "getClass", "()Ljava/lang/Class;"⟩ ∈ wsA := wsA_1 223 rfl rfl
theorem m_224 : Cond.selects "WatchRows2$Deadline" ⟨"java/lang/Object", "getClass", "()Ljava/lang/Class;"⟩ ⟨"java/lang/Object", "getClass", "()Ljava/lang/Class;"⟩ ∈ wsA := wsA_1 224 rfl rfl
theorem m_225 : Cond.selects "WatchRows2$Part" ⟨"java/lang/Object", "getClass", "()Ljava/lang/Class;"⟩ ⟨"java/lang/Object", "getClass", "()Ljava/lang/Class;"⟩ ∈ wsA := wsA_1 225 rfl rfl
theorem m_226 : Cond.selects "WatchRows2$Question" ⟨"java/lang/Object", "getClass", "()Ljava/lang/Class;"⟩ ⟨"java/lang/Object", "getClass", "()Ljava/lang/Class;"⟩ ∈ wsA := wsA_1 226 rfl rfl
theorem m_227 : Cond.selects "WatchRows2Model" ⟨"java/lang/Object", "getClass", "()Ljava/lang/Class;"⟩ ⟨"java/lang/Object", "getClass", "()Ljava/lang/Class;"⟩ ∈ wsA := wsA_1 227 rfl rfl
theorem m_228 : Cond.selects "java/lang/ArithmeticException" ⟨"java/lang/Object", "getClass", "()Ljava/lang/Class;"⟩ ⟨"java/lang/Object", "getClass", "()Ljava/lang/Class;"⟩ ∈ wsA := wsA_1 228 rfl rfl
theorem m_229 : Cond.selects "java/util/ArrayList" ⟨"java/lang/Object", "getClass", "()Ljava/lang/Class;"⟩ ⟨"java/lang/Object", "getClass", "()Ljava/lang/Class;"⟩ ∈ wsA := wsA_1 229 rfl rfl
theorem m_230 : Cond.native ⟨"java/lang/Object", "getClass", "()Ljava/lang/Class;"⟩ ∈ wsA := wsA_1 230 rfl rfl
theorem m_231 : Cond.methodLink "java/util/Arrays" 300 y_AR_copyOf1 ∈ wsA := wsA_1 231 rfl rfl
theorem m_232 : Cond.static y_AR_copyOf1 ∈ wsA := wsA_1 232 rfl rfl
theorem m_233 : Cond.code y_AR_copyOf1 c_AR_copyOf1 4 (some (.array (.object "java/lang/Object"))) ∈ wsA := wsA_1 233 rfl rfl
theorem m_234 : Cond.classLink "java/util/Arrays" 110 "[Ljava/lang/Object;" ∈ wsA := wsA_1 234 rfl rfl
theorem m_236 : Cond.classLink "java/util/Arrays" 2 "java/lang/Object" ∈ wsA := wsA_1 236 rfl rfl
theorem m_237 : Cond.methodLink "java/util/Arrays" 304 y_MA_min ∈ wsA := wsA_1 237 rfl rfl
theorem m_238 : Cond.static y_MA_min ∈ wsA := wsA_1 238 rfl rfl
theorem m_239 : Cond.code y_MA_min c_MA_min 2 (some .int) ∈ wsA := wsA_1 239 rfl rfl
theorem m_240 : Cond.methodLink "java/util/Arrays" 150 ⟨"java/lang/System", "arraycopy", "(Ljava/lang/Object;ILjava/lang/Object;II)V"⟩ ∈ wsA := wsA_2 0 rfl rfl
theorem m_241 : Cond.static ⟨"java/lang/System", "arraycopy", "(Ljava/lang/Object;ILjava/lang/Object;II)V"⟩ ∈ wsA := wsA_2 1 rfl rfl
theorem m_242 : Cond.native ⟨"java/lang/System", "arraycopy", "(Ljava/lang/Object;ILjava/lang/Object;II)V"⟩ ∈ wsA := wsA_2 2 rfl rfl
theorem m_243 : Cond.methodLink "java/util/ArrayList" 79 y_MA_max ∈ wsA := wsA_2 3 rfl rfl
theorem m_244 : Cond.classLink "java/util/ArrayList" 7 "java/lang/Object" ∈ wsA := wsA_2 4 rfl rfl
theorem m_245 : Cond.methodLink "WatchRows2Law" 41 y_W_point ∈ wsA := wsA_2 5 rfl rfl
theorem m_246 : Cond.instanceMethod y_W_point ∈ wsA := wsA_2 6 rfl rfl
theorem m_247 : Cond.selects "WatchRows2" y_W_point y_W_point ∈ wsA := wsA_2 7 rfl rfl
theorem m_248 : Cond.code y_W_point c_W_point 6 (some .int) ∈ wsA := wsA_2 8 rfl rfl
theorem m_249 : Cond.methodLink "WatchRows2" 99 y_W_isTime ∈ wsA := wsA_2 9 rfl rfl
theorem m_251 : Cond.instanceMethod y_W_isTime ∈ wsA := wsA_2 11 rfl rfl
theorem m_252 : Cond.code y_W_isTime c_W_isTime 3 (some .boolean) ∈ wsA := wsA_2 12 rfl rfl
theorem m_253 : Cond.constantLong "WatchRows2" 151 (1152921504606846976) ∈ wsA := wsA_2 13 rfl rfl
theorem m_254 : Cond.methodLink "WatchRows2" 103 y_P_passPoint ∈ wsA := wsA_2 14 rfl rfl
theorem m_255 : Cond.instanceMethod y_P_passPoint ∈ wsA := wsA_2 15 rfl rfl
theorem m_256 : Cond.selects "WatchRows2$Part" y_P_passPoint y_P_passPoint ∈ wsA := wsA_2 16 rfl rfl
theorem m_257 : Cond.code y_P_passPoint c_P_passPoint 6 (none : Option FieldType) ∈ wsA := wsA_2 17 rfl rfl
theorem m_258 : Cond.methodLink "WatchRows2$Part" 64 y_P_endDeadlines ∈ wsA := wsA_2 18 rfl rfl
theorem m_260 : Cond.instanceMethod y_P_endDeadlines ∈ wsA := wsA_2 20 rfl rfl
theorem m_261 : Cond.instantiable "WatchRows2$Part" 11 ∈ wsA := wsA_2 21 rfl rfl
theorem m_262 : Cond.code y_P_endDeadlines c_P_endDeadlines 6 (none : Option FieldType) ∈ wsA := wsA_2 22 rfl rfl
theorem m_263 : Cond.methodLink "WatchRows2$Part" 72 y_A_size ∈ wsA := wsA_2 23 rfl rfl
theorem m_264 : Cond.methodLink "WatchRows2$Part" 76 y_A_get ∈ wsA := wsA_2 24 rfl rfl
theorem m_265 : Cond.classLink "WatchRows2$Part" 80 "WatchRows2$Deadline" ∈ wsA := wsA_2 25 rfl rfl
theorem m_266 : Cond.methodLink "WatchRows2$Part" 68 y_P_beginDeadlines ∈ wsA := wsA_2 26 rfl rfl
theorem m_268 : Cond.instanceMethod y_P_beginDeadlines ∈ wsA := wsA_2 28 rfl rfl
theorem m_269 : Cond.code y_P_beginDeadlines c_P_beginDeadlines 7 (none : Option FieldType) ∈ wsA := wsA_2 29 rfl rfl
theorem m_270 : Cond.methodLink "WatchRows2Law" 45 y_W_cycle ∈ wsA := wsA_2 30 rfl rfl
theorem m_271 : Cond.instanceMethod y_W_cycle ∈ wsA := wsA_2 31 rfl rfl
theorem m_272 : Cond.selects "WatchRows2" y_W_cycle y_W_cycle ∈ wsA := wsA_2 32 rfl rfl
theorem m_273 : Cond.code y_W_cycle c_W_cycle 4 (some .int) ∈ wsA := wsA_2 33 rfl rfl
theorem m_274 : Cond.methodLink "WatchRows2" 113 y_P_passCycle ∈ wsA := wsA_2 34 rfl rfl
theorem m_275 : Cond.instanceMethod y_P_passCycle ∈ wsA := wsA_2 35 rfl rfl
theorem m_276 : Cond.selects "WatchRows2$Part" y_P_passCycle y_P_passCycle ∈ wsA := wsA_2 36 rfl rfl
theorem m_277 : Cond.code y_P_passCycle c_P_passCycle 4 (none : Option FieldType) ∈ wsA := wsA_2 37 rfl rfl
theorem m_278 : Cond.methodLink "WatchRows2$Part" 101 y_P_stopLateDeadlines ∈ wsA := wsA_2 38 rfl rfl
theorem m_280 : Cond.instanceMethod y_P_stopLateDeadlines ∈ wsA := wsA_2 40 rfl rfl
theorem m_281 : Cond.code y_P_stopLateDeadlines c_P_stopLateDeadlines 5 (none : Option FieldType) ∈ wsA := wsA_2 41 rfl rfl
theorem m_282 : Cond.methodLink "WatchRows2$Part" 105 y_P_checkAliveCount ∈ wsA := wsA_2 42 rfl rfl
theorem m_284 : Cond.instanceMethod y_P_checkAliveCount ∈ wsA := wsA_2 44 rfl rfl
theorem m_285 : Cond.code y_P_checkAliveCount c_P_checkAliveCount 2 (none : Option FieldType) ∈ wsA := wsA_2 45 rfl rfl
theorem m_286 : Cond.methodLink "WatchRows2$Part" 109 y_P_judge ∈ wsA := wsA_2 46 rfl rfl
theorem m_288 : Cond.instanceMethod y_P_judge ∈ wsA := wsA_2 48 rfl rfl
theorem m_289 : Cond.code y_P_judge c_P_judge 1 (none : Option FieldType) ∈ wsA := wsA_2 49 rfl rfl
theorem m_290 : Cond.methodLink "WatchRows2" 117 y_W_worstCondition ∈ wsA := wsA_2 50 rfl rfl
theorem m_292 : Cond.instanceMethod y_W_worstCondition ∈ wsA := wsA_2 52 rfl rfl
theorem m_293 : Cond.code y_W_worstCondition c_W_worstCondition 3 (some .int) ∈ wsA := wsA_2 53 rfl rfl
theorem m_294 : Cond.methodLink "WatchRows2" 153 y_MA_max ∈ wsA := wsA_2 54 rfl rfl
theorem m_295 : Cond.methodLink "WatchRows2" 120 y_W_restart ∈ wsA := wsA_2 55 rfl rfl
theorem m_297 : Cond.instanceMethod y_W_restart ∈ wsA := wsA_2 57 rfl rfl
theorem m_298 : Cond.code y_W_restart c_W_restart 3 (none : Option FieldType) ∈ wsA := wsA_2 58 rfl rfl
theorem m_299 : Cond.methodLink "WatchRows2" 159 y_P_beginAnew ∈ wsA := wsA_2 59 rfl rfl
theorem m_300 : Cond.instanceMethod y_P_beginAnew ∈ wsA := wsA_2 60 rfl rfl
theorem m_301 : Cond.selects "WatchRows2$Part" y_P_beginAnew y_P_beginAnew ∈ wsA := wsA_2 61 rfl rfl
theorem m_302 : Cond.code y_P_beginAnew c_P_beginAnew 1 (none : Option FieldType) ∈ wsA := wsA_2 62 rfl rfl
theorem m_303 : Cond.methodLink "WatchRows2$Part" 112 y_P_forgetCourse ∈ wsA := wsA_2 63 rfl rfl
theorem m_304 : Cond.instanceMethod y_P_forgetCourse ∈ wsA := wsA_2 64 rfl rfl
theorem m_305 : Cond.selects "WatchRows2$Part" y_P_forgetCourse y_P_forgetCourse ∈ wsA := wsA_2 65 rfl rfl
theorem m_306 : Cond.code y_P_forgetCourse c_P_forgetCourse 2 (none : Option FieldType) ∈ wsA := wsA_2 66 rfl rfl
theorem m_307 : Cond.methodLink "WatchRows2" 162 y_Q_beginAnew ∈ wsA := wsA_2 67 rfl rfl
theorem m_308 : Cond.instanceMethod y_Q_beginAnew ∈ wsA := wsA_2 68 rfl rfl
theorem m_309 : Cond.selects "WatchRows2$Question" y_Q_beginAnew y_Q_beginAnew ∈ wsA := wsA_2 69 rfl rfl
theorem m_310 : Cond.code y_Q_beginAnew c_Q_beginAnew 3 (none : Option FieldType) ∈ wsA := wsA_2 70 rfl rfl
theorem m_311 : Cond.methodLink "WatchRows2Law" 50 y_W_tolerance ∈ wsA := wsA_2 71 rfl rfl
theorem m_312 : Cond.instanceMethod y_W_tolerance ∈ wsA := wsA_2 72 rfl rfl
theorem m_313 : Cond.selects "WatchRows2" y_W_tolerance y_W_tolerance ∈ wsA := wsA_2 73 rfl rfl
theorem m_314 : Cond.code y_W_tolerance c_W_tolerance 4 (some .int) ∈ wsA := wsA_2 74 rfl rfl
theorem m_315 : Cond.constantLong "WatchRows2" 55 (100) ∈ wsA := wsA_2 75 rfl rfl
theorem m_316 : Cond.methodLink "WatchRows2Law" 55 y_W_answer ∈ wsA := wsA_2 76 rfl rfl
theorem m_317 : Cond.instanceMethod y_W_answer ∈ wsA := wsA_2 77 rfl rfl
theorem m_318 : Cond.selects "WatchRows2" y_W_answer y_W_answer ∈ wsA := wsA_2 78 rfl rfl
theorem m_319 : Cond.code y_W_answer c_W_answer 6 (some .int) ∈ wsA := wsA_2 79 rfl rfl
theorem m_320 : Cond.constantLong "WatchRows2" 127 (3) ∈ wsA := wsA_2 80 rfl rfl
theorem m_321 : Cond.methodLink "WatchRows2" 129 y_Q_isRight ∈ wsA := wsA_2 81 rfl rfl
theorem m_322 : Cond.instanceMethod y_Q_isRight ∈ wsA := wsA_2 82 rfl rfl
theorem m_323 : Cond.selects "WatchRows2$Question" y_Q_isRight y_Q_isRight ∈ wsA := wsA_2 83 rfl rfl
theorem m_324 : Cond.code y_Q_isRight c_Q_isRight 6 (some .boolean) ∈ wsA := wsA_2 84 rfl rfl
theorem m_325 : Cond.methodLink "WatchRows2$Question" 25 y_Q_rightValue ∈ wsA := wsA_2 85 rfl rfl
theorem m_327 : Cond.instanceMethod y_Q_rightValue ∈ wsA := wsA_2 87 rfl rfl
theorem m_328 : Cond.code y_Q_rightValue c_Q_rightValue 2 (some .long) ∈ wsA := wsA_2 88 rfl rfl
theorem m_329 : Cond.methodLink "WatchRows2$Question" 29 y_Q_isInTime ∈ wsA := wsA_2 89 rfl rfl
theorem m_331 : Cond.instanceMethod y_Q_isInTime ∈ wsA := wsA_2 91 rfl rfl
theorem m_332 : Cond.code y_Q_isInTime c_Q_isInTime 3 (some .boolean) ∈ wsA := wsA_2 92 rfl rfl
theorem m_333 : Cond.constantLong "WatchRows2$Question" 33 (10) ∈ wsA := wsA_2 93 rfl rfl
theorem m_334 : Cond.constantLong "WatchRows2$Question" 35 (50) ∈ wsA := wsA_2 94 rfl rfl
theorem m_336 : Cond.methodLink "WatchRows2" 133 y_Q_takeRight ∈ wsA := wsA_2 96 rfl rfl
theorem m_337 : Cond.instanceMethod y_Q_takeRight ∈ wsA := wsA_2 97 rfl rfl
theorem m_338 : Cond.selects "WatchRows2$Question" y_Q_takeRight y_Q_takeRight ∈ wsA := wsA_2 98 rfl rfl
theorem m_339 : Cond.code y_Q_takeRight c_Q_takeRight 4 (none : Option FieldType) ∈ wsA := wsA_2 99 rfl rfl
theorem m_340 : Cond.methodLink "WatchRows2$Question" 41 y_MA_max ∈ wsA := wsA_2 100 rfl rfl
theorem m_341 : Cond.methodLink "WatchRows2" 136 y_Q_takeWrong ∈ wsA := wsA_2 101 rfl rfl
theorem m_342 : Cond.instanceMethod y_Q_takeWrong ∈ wsA := wsA_2 102 rfl rfl
theorem m_343 : Cond.selects "WatchRows2$Question" y_Q_takeWrong y_Q_takeWrong ∈ wsA := wsA_2 103 rfl rfl
theorem m_344 : Cond.code y_Q_takeWrong c_Q_takeWrong 3 (none : Option FieldType) ∈ wsA := wsA_2 104 rfl rfl
theorem m_345 : Cond.methodLink "WatchRows2Law" 60 y_W_mode ∈ wsA := wsA_2 105 rfl rfl
theorem m_346 : Cond.instanceMethod y_W_mode ∈ wsA := wsA_2 106 rfl rfl
theorem m_347 : Cond.selects "WatchRows2" y_W_mode y_W_mode ∈ wsA := wsA_2 107 rfl rfl
theorem m_348 : Cond.code y_W_mode c_W_mode 4 (some .int) ∈ wsA := wsA_2 108 rfl rfl
theorem m_349 : Cond.methodLink "WatchRows2" 143 y_P_forgetCourse ∈ wsA := wsA_2 109 rfl rfl
theorem m_350 : Cond.methodLink "WatchRows2Law" 65 y_W_reset ∈ wsA := wsA_2 110 rfl rfl
theorem m_351 : Cond.instanceMethod y_W_reset ∈ wsA := wsA_2 111 rfl rfl
theorem m_352 : Cond.selects "WatchRows2" y_W_reset y_W_reset ∈ wsA := wsA_2 112 rfl rfl
theorem m_353 : Cond.code y_W_reset c_W_reset 2 (some .int) ∈ wsA := wsA_2 113 rfl rfl
theorem m_354 : Cond.methodLink "WatchRows2Law" 69 y_W_outer ∈ wsA := wsA_2 114 rfl rfl
theorem m_355 : Cond.instanceMethod y_W_outer ∈ wsA := wsA_2 115 rfl rfl
theorem m_356 : Cond.selects "WatchRows2" y_W_outer y_W_outer ∈ wsA := wsA_2 116 rfl rfl
theorem m_357 : Cond.code y_W_outer c_W_outer 3 (some .int) ∈ wsA := wsA_2 117 rfl rfl
theorem m_358 : Cond.methodLink "WatchRows2Law" 73 y_W_state ∈ wsA := wsA_2 118 rfl rfl
theorem m_359 : Cond.instanceMethod y_W_state ∈ wsA := wsA_2 119 rfl rfl
theorem m_360 : Cond.selects "WatchRows2" y_W_state y_W_state ∈ wsA := wsA_2 120 rfl rfl
theorem m_361 : Cond.code y_W_state c_W_state 3 (some .int) ∈ wsA := wsA_2 121 rfl rfl
theorem m_362 : Cond.methodLink "WatchRows2Law" 21 y_L_part ∈ wsA := wsA_2 122 rfl rfl
theorem m_363 : Cond.static y_L_part ∈ wsA := wsA_2 123 rfl rfl
theorem m_365 : Cond.classLink "WatchRows2Law" 13 "java/lang/ArithmeticException" ∈ wsA := wsA_2 125 rfl rfl
theorem m_366 : Cond.methodLink "WatchRows2Law" 7 y_W_part ∈ wsA := wsA_2 126 rfl rfl
theorem m_367 : Cond.instanceMethod y_W_part ∈ wsA := wsA_2 127 rfl rfl
theorem m_368 : Cond.selects "WatchRows2" y_W_part y_W_part ∈ wsA := wsA_2 128 rfl rfl
theorem m_369 : Cond.code y_W_part c_W_part 5 (some .int) ∈ wsA := wsA_2 129 rfl rfl
theorem m_370 : Cond.constantLong "WatchRows2" 49 (1000) ∈ wsA := wsA_2 130 rfl rfl
theorem m_371 : Cond.classLink "WatchRows2" 61 "java/lang/ArithmeticException" ∈ wsA := wsA_2 131 rfl rfl
theorem m_372 : Cond.instantiable "java/lang/ArithmeticException" 6 ∈ wsA := wsA_2 132 rfl rfl
theorem m_380 : Cond.selects "java/lang/ArithmeticException" ⟨"java/lang/Throwable", "fillInStackTrace", "(I)Ljava/lang/Throwable;"⟩ ⟨"java/lang/Throwable", "fillInStackTrace", "(I)Ljava/lang/Throwable;"⟩ ∈ wsA := wsA_2 140 rfl rfl
theorem m_381 : Cond.selects "java/lang/ArithmeticException" ⟨"java/lang/Throwable", "fillInStackTrace", "()Ljava/lang/Throwable;"⟩ ⟨"java/lang/Throwable", "fillInStackTrace", "()Ljava/lang/Throwable;"⟩ ∈ wsA := wsA_2 141 rfl rfl
theorem m_392 : Cond.fieldLink "java/lang/Throwable" 198 "java/lang/Throwable" "backtrace" "Ljava/lang/Object;" ∈ wsA := wsA_2 152 rfl rfl
theorem m_394 : Cond.instanceMethod y_TH_init0 ∈ wsA := wsA_2 154 rfl rfl
theorem m_395 : Cond.code y_TH_init0 c_TH_init0 1 (none : Option FieldType) ∈ wsA := wsA_2 155 rfl rfl
theorem m_396 : Cond.methodLink "java/lang/Throwable" 1 y_O_init ∈ wsA := wsA_2 156 rfl rfl
theorem m_397 : Cond.fieldLink "java/lang/Throwable" 13 "java/lang/Throwable" "UNASSIGNED_STACK" "[Ljava/lang/StackTraceElement;" ∈ wsA := wsA_2 157 rfl rfl
theorem m_399 : Cond.fieldLink "java/lang/Throwable" 20 "java/lang/Throwable" "SUPPRESSED_SENTINEL" "Ljava/util/List;" ∈ wsA := wsA_2 159 rfl rfl
theorem m_401 : Cond.methodLink "java/lang/Throwable" 27 ⟨"java/lang/Throwable", "fillInStackTrace", "()Ljava/lang/Throwable;"⟩ ∈ wsA := wsA_2 161 rfl rfl
theorem m_402 : Cond.instanceMethod ⟨"java/lang/Throwable", "fillInStackTrace", "()Ljava/lang/Throwable;"⟩ ∈ wsA := wsA_2 162 rfl rfl
theorem m_403 : Cond.sameMethod "java/lang/Throwable" "java/lang/Throwable" "fillInStackTrace" "()Ljava/lang/Throwable;" ∈ wsA := wsA_2 163 rfl rfl
theorem m_405 : Cond.methodLink "java/lang/Throwable" 202 ⟨"java/lang/Throwable", "fillInStackTrace", "(I)Ljava/lang/Throwable;"⟩ ∈ wsA := wsA_2 165 rfl rfl
theorem m_407 : Cond.instanceMethod ⟨"java/lang/Throwable", "fillInStackTrace", "(I)Ljava/lang/Throwable;"⟩ ∈ wsA := wsA_2 167 rfl rfl
theorem m_408 : Cond.instantiable "java/lang/Throwable" 6 ∈ wsA := wsA_2 168 rfl rfl
theorem m_409 : Cond.native ⟨"java/lang/Throwable", "fillInStackTrace", "(I)Ljava/lang/Throwable;"⟩ ∈ wsA := wsA_2 169 rfl rfl
theorem m_411 : Cond.methodLink "WatchRows2" 65 y_AE_init ∈ wsA := wsA_2 171 rfl rfl
theorem m_412 : Cond.instanceMethod y_AE_init ∈ wsA := wsA_2 172 rfl rfl
theorem m_413 : Cond.code y_AE_init c_AE_init 2 (none : Option FieldType) ∈ wsA := wsA_2 173 rfl rfl
theorem m_414 : Cond.methodLink "java/lang/ArithmeticException" 7 y_RE_init ∈ wsA := wsA_2 174 rfl rfl
theorem m_415 : Cond.instanceMethod y_RE_init ∈ wsA := wsA_2 175 rfl rfl
theorem m_416 : Cond.code y_RE_init c_RE_init 2 (none : Option FieldType) ∈ wsA := wsA_2 176 rfl rfl
theorem m_417 : Cond.methodLink "java/lang/RuntimeException" 7 y_EX_init ∈ wsA := wsA_2 177 rfl rfl
theorem m_418 : Cond.instanceMethod y_EX_init ∈ wsA := wsA_2 178 rfl rfl
theorem m_419 : Cond.code y_EX_init c_EX_init 2 (none : Option FieldType) ∈ wsA := wsA_2 179 rfl rfl
theorem m_420 : Cond.methodLink "java/lang/Exception" 7 y_TH_init1 ∈ wsA := wsA_2 180 rfl rfl
theorem m_421 : Cond.instanceMethod y_TH_init1 ∈ wsA := wsA_2 181 rfl rfl
theorem m_422 : Cond.code y_TH_init1 c_TH_init1 2 (none : Option FieldType) ∈ wsA := wsA_2 182 rfl rfl
theorem m_424 : Cond.fieldLink "java/lang/Throwable" 31 "java/lang/Throwable" "detailMessage" "Ljava/lang/String;" ∈ wsA := wsA_2 184 rfl rfl
theorem m_425 : Cond.fieldLink "java/lang/Throwable" 7 "java/lang/Throwable" "cause" "Ljava/lang/Throwable;" ∈ wsA := wsA_2 185 rfl rfl
theorem m_426 : Cond.fieldLink "java/lang/Throwable" 17 "java/lang/Throwable" "stackTrace" "[Ljava/lang/StackTraceElement;" ∈ wsA := wsA_2 186 rfl rfl
theorem m_427 : Cond.fieldLink "java/lang/Throwable" 24 "java/lang/Throwable" "suppressedExceptions" "Ljava/util/List;" ∈ wsA := wsA_2 187 rfl rfl
theorem m_436 : Cond.arrayClass .byte ∈ wsA := wsA_2 196 rfl rfl
theorem m_437 : Cond.methodLink "WatchRows2" 70 y_P_init ∈ wsA := wsA_2 197 rfl rfl
theorem m_438 : Cond.instanceMethod y_P_init ∈ wsA := wsA_2 198 rfl rfl
theorem m_439 : Cond.code y_P_init c_P_init 5 (none : Option FieldType) ∈ wsA := wsA_2 199 rfl rfl
theorem m_440 : Cond.methodLink "WatchRows2$Part" 3 y_O_init ∈ wsA := wsA_2 200 rfl rfl
theorem m_441 : Cond.classLink "WatchRows2$Part" 26 "java/util/ArrayList" ∈ wsA := wsA_2 201 rfl rfl
theorem m_442 : Cond.methodLink "WatchRows2$Part" 28 y_A_init ∈ wsA := wsA_2 202 rfl rfl
theorem m_443 : Cond.fieldLink "WatchRows2$Part" 9 "WatchRows2$Part" "least" "I" ∈ wsA := wsA_2 203 rfl rfl
theorem m_444 : Cond.fieldLink "WatchRows2$Part" 15 "WatchRows2$Part" "most" "I" ∈ wsA := wsA_2 204 rfl rfl
theorem m_445 : Cond.fieldLink "WatchRows2$Part" 18 "WatchRows2$Part" "span" "J" ∈ wsA := wsA_2 205 rfl rfl
theorem m_446 : Cond.fieldLink "WatchRows2$Part" 22 "WatchRows2$Part" "edgeRows" "[I" ∈ wsA := wsA_2 206 rfl rfl
theorem m_447 : Cond.fieldLink "WatchRows2$Part" 29 "WatchRows2$Part" "deadlines" "Ljava/util/ArrayList;" ∈ wsA := wsA_2 207 rfl rfl
theorem m_448 : Cond.fieldLink "WatchRows2" 91 "WatchRows2$Part" "deadlines" "Ljava/util/ArrayList;" ∈ wsA := wsA_2 208 rfl rfl
theorem m_449 : Cond.fieldLink "WatchRows2$Part" 33 "WatchRows2$Part" "tolerated" "I" ∈ wsA := wsA_2 209 rfl rfl
theorem m_450 : Cond.fieldLink "WatchRows2" 124 "WatchRows2$Part" "tolerated" "I" ∈ wsA := wsA_2 210 rfl rfl
theorem m_451 : Cond.fieldLink "WatchRows2$Part" 36 "WatchRows2$Part" "condition" "I" ∈ wsA := wsA_2 211 rfl rfl
theorem m_452 : Cond.fieldLink "WatchRows2" 106 "WatchRows2$Part" "condition" "I" ∈ wsA := wsA_2 212 rfl rfl
theorem m_453 : Cond.fieldLink "WatchRows2$Part" 39 "WatchRows2$Part" "failures" "I" ∈ wsA := wsA_2 213 rfl rfl
theorem m_454 : Cond.fieldLink "WatchRows2$Part" 42 "WatchRows2$Part" "aliveCount" "I" ∈ wsA := wsA_2 214 rfl rfl
theorem m_455 : Cond.fieldLink "WatchRows2$Part" 45 "WatchRows2$Part" "pointBefore" "I" ∈ wsA := wsA_2 215 rfl rfl
theorem m_456 : Cond.fieldLink "WatchRows2$Part" 48 "WatchRows2$Part" "flawed" "Z" ∈ wsA := wsA_2 216 rfl rfl
theorem m_480 : Cond.arrayClass .int ∈ wsA := wsA_3 0 rfl rfl
theorem m_481 : Cond.classLink "WatchRows2Law" 16 "WatchRows2Model" ∈ wsA := wsA_3 1 rfl rfl
theorem m_482 : Cond.instantiable "WatchRows2Model" 31 ∈ wsA := wsA_3 2 rfl rfl
theorem m_483 : Cond.methodLink "WatchRows2Law" 18 y_M_init ∈ wsA := wsA_3 3 rfl rfl
theorem m_484 : Cond.instanceMethod y_M_init ∈ wsA := wsA_3 4 rfl rfl
theorem m_485 : Cond.code y_M_init c_M_init 2 (none : Option FieldType) ∈ wsA := wsA_3 5 rfl rfl
theorem m_486 : Cond.methodLink "WatchRows2Model" 1 y_O_init ∈ wsA := wsA_3 6 rfl rfl
theorem m_487 : Cond.constant "WatchRows2Model" 38 (80724) ∈ wsA := wsA_3 7 rfl rfl
theorem m_488 : Cond.constantLong "WatchRows2Model" 64 (-1) ∈ wsA := wsA_3 8 rfl rfl
theorem m_489 : Cond.fieldLink "WatchRows2Model" 66 "WatchRows2Model" "code" "I" ∈ wsA := wsA_3 9 rfl rfl
theorem m_490 : Cond.fieldLink "WatchRows2Model" 70 "WatchRows2Model" "parts" "I" ∈ wsA := wsA_3 10 rfl rfl
theorem m_491 : Cond.fieldLink "WatchRows2Model" 7 "WatchRows2Model" "least" "[I" ∈ wsA := wsA_3 11 rfl rfl
theorem m_492 : Cond.fieldLink "WatchRows2Model" 13 "WatchRows2Model" "most" "[I" ∈ wsA := wsA_3 12 rfl rfl
theorem m_493 : Cond.fieldLink "WatchRows2Model" 16 "WatchRows2Model" "span" "[I" ∈ wsA := wsA_3 13 rfl rfl
theorem m_494 : Cond.fieldLink "WatchRows2Model" 19 "WatchRows2Model" "state" "[I" ∈ wsA := wsA_3 14 rfl rfl
theorem m_495 : Cond.fieldLink "WatchRows2Model" 22 "WatchRows2Model" "failures" "[I" ∈ wsA := wsA_3 15 rfl rfl
theorem m_496 : Cond.fieldLink "WatchRows2Model" 25 "WatchRows2Model" "tolerance" "[I" ∈ wsA := wsA_3 16 rfl rfl
theorem m_497 : Cond.fieldLink "WatchRows2Model" 28 "WatchRows2Model" "alive" "[I" ∈ wsA := wsA_3 17 rfl rfl
theorem m_498 : Cond.fieldLink "WatchRows2Model" 31 "WatchRows2Model" "flaw" "[Z" ∈ wsA := wsA_3 18 rfl rfl
theorem m_499 : Cond.fieldLink "WatchRows2Model" 35 "WatchRows2Model" "before" "[I" ∈ wsA := wsA_3 19 rfl rfl
theorem m_500 : Cond.fieldLink "WatchRows2Model" 39 "WatchRows2Model" "edge" "[Z" ∈ wsA := wsA_3 20 rfl rfl
theorem m_501 : Cond.fieldLink "WatchRows2Model" 42 "WatchRows2Model" "deadlines" "[I" ∈ wsA := wsA_3 21 rfl rfl
theorem m_502 : Cond.fieldLink "WatchRows2Model" 45 "WatchRows2Model" "deadMode" "[I" ∈ wsA := wsA_3 22 rfl rfl
theorem m_503 : Cond.fieldLink "WatchRows2Model" 48 "WatchRows2Model" "deadFrom" "[I" ∈ wsA := wsA_3 23 rfl rfl
theorem m_504 : Cond.fieldLink "WatchRows2Model" 51 "WatchRows2Model" "deadTo" "[I" ∈ wsA := wsA_3 24 rfl rfl
theorem m_505 : Cond.fieldLink "WatchRows2Model" 54 "WatchRows2Model" "deadLeast" "[J" ∈ wsA := wsA_3 25 rfl rfl
theorem m_506 : Cond.fieldLink "WatchRows2Model" 58 "WatchRows2Model" "deadMost" "[J" ∈ wsA := wsA_3 26 rfl rfl
theorem m_507 : Cond.fieldLink "WatchRows2Model" 61 "WatchRows2Model" "began" "[J" ∈ wsA := wsA_3 27 rfl rfl
theorem m_508 : Cond.fieldLink "WatchRows2Model" 81 "WatchRows2Model" "mode" "I" ∈ wsA := wsA_3 28 rfl rfl
theorem m_509 : Cond.fieldLink "WatchRows2Model" 108 "WatchRows2Model" "age" "I" ∈ wsA := wsA_3 29 rfl rfl
theorem m_510 : Cond.fieldLink "WatchRows2Model" 73 "WatchRows2Model" "now" "J" ∈ wsA := wsA_3 30 rfl rfl
theorem m_511 : Cond.fieldLink "WatchRows2Model" 111 "WatchRows2Model" "worst" "I" ∈ wsA := wsA_3 31 rfl rfl
theorem m_512 : Cond.fieldLink "WatchRows2Model" 132 "WatchRows2Model" "globalTolerance" "I" ∈ wsA := wsA_3 32 rfl rfl
theorem m_513 : Cond.fieldLink "WatchRows2Model" 101 "WatchRows2Model" "resets" "I" ∈ wsA := wsA_3 33 rfl rfl
theorem m_514 : Cond.fieldLink "WatchRows2Model" 98 "WatchRows2Model" "reason" "I" ∈ wsA := wsA_3 34 rfl rfl
theorem m_515 : Cond.fieldLink "WatchRows2Model" 114 "WatchRows2Model" "question" "I" ∈ wsA := wsA_3 35 rfl rfl
theorem m_516 : Cond.fieldLink "WatchRows2Model" 117 "WatchRows2Model" "step" "I" ∈ wsA := wsA_3 36 rfl rfl
theorem m_517 : Cond.fieldLink "WatchRows2Model" 120 "WatchRows2Model" "errors" "I" ∈ wsA := wsA_3 37 rfl rfl
theorem m_518 : Cond.fieldLink "WatchRows2Model" 123 "WatchRows2Model" "asked" "J" ∈ wsA := wsA_3 38 rfl rfl
theorem m_519 : Cond.fieldLink "WatchRows2Model" 126 "WatchRows2Model" "outer" "J" ∈ wsA := wsA_3 39 rfl rfl
theorem m_583 : Cond.arrayClass .boolean ∈ wsA := wsA_3 103 rfl rfl
theorem m_584 : Cond.arrayClass .long ∈ wsA := wsA_3 104 rfl rfl
theorem m_585 : Cond.methodLink "WatchRows2Law" 27 y_M_thrown ∈ wsA := wsA_3 105 rfl rfl
theorem m_586 : Cond.instanceMethod y_M_thrown ∈ wsA := wsA_3 106 rfl rfl
theorem m_587 : Cond.selects "WatchRows2Model" y_M_thrown y_M_thrown ∈ wsA := wsA_3 107 rfl rfl
theorem m_588 : Cond.code y_M_thrown c_M_thrown 1 (some .int) ∈ wsA := wsA_3 108 rfl rfl
theorem m_589 : Cond.methodLink "WatchRows2Law" 26 y_M_part ∈ wsA := wsA_3 109 rfl rfl
theorem m_590 : Cond.instanceMethod y_M_part ∈ wsA := wsA_3 110 rfl rfl
theorem m_591 : Cond.selects "WatchRows2Model" y_M_part y_M_part ∈ wsA := wsA_3 111 rfl rfl
theorem m_592 : Cond.code y_M_part c_M_part 5 (some .int) ∈ wsA := wsA_3 112 rfl rfl
theorem m_593 : Cond.constantLong "WatchRows2Model" 79 (100) ∈ wsA := wsA_3 113 rfl rfl
theorem m_594 : Cond.methodLink "WatchRows2Law" 35 y_M_edge ∈ wsA := wsA_3 114 rfl rfl
theorem m_595 : Cond.instanceMethod y_M_edge ∈ wsA := wsA_3 115 rfl rfl
theorem m_596 : Cond.selects "WatchRows2Model" y_M_edge y_M_edge ∈ wsA := wsA_3 116 rfl rfl
theorem m_597 : Cond.code y_M_edge c_M_edge 5 (some .int) ∈ wsA := wsA_3 117 rfl rfl
theorem m_598 : Cond.methodLink "WatchRows2Model" 84 y_M_isPart ∈ wsA := wsA_3 118 rfl rfl
theorem m_600 : Cond.instanceMethod y_M_isPart ∈ wsA := wsA_3 120 rfl rfl
theorem m_601 : Cond.code y_M_isPart c_M_isPart 2 (some .boolean) ∈ wsA := wsA_3 121 rfl rfl
theorem m_602 : Cond.methodLink "WatchRows2Model" 88 y_M_edgeAt ∈ wsA := wsA_3 122 rfl rfl
theorem m_604 : Cond.instanceMethod y_M_edgeAt ∈ wsA := wsA_3 124 rfl rfl
theorem m_605 : Cond.code y_M_edgeAt c_M_edgeAt 4 (some .int) ∈ wsA := wsA_3 125 rfl rfl
theorem m_606 : Cond.methodLink "WatchRows2Law" 40 y_M_deadline ∈ wsA := wsA_3 126 rfl rfl
theorem m_607 : Cond.instanceMethod y_M_deadline ∈ wsA := wsA_3 127 rfl rfl
theorem m_608 : Cond.selects "WatchRows2Model" y_M_deadline y_M_deadline ∈ wsA := wsA_3 128 rfl rfl
theorem m_609 : Cond.code y_M_deadline c_M_deadline 9 (some .int) ∈ wsA := wsA_3 129 rfl rfl
theorem m_610 : Cond.constantLong "WatchRows2Model" 92 (100000) ∈ wsA := wsA_3 130 rfl rfl
theorem m_611 : Cond.methodLink "WatchRows2Law" 44 y_M_point ∈ wsA := wsA_3 131 rfl rfl
theorem m_612 : Cond.instanceMethod y_M_point ∈ wsA := wsA_3 132 rfl rfl
theorem m_613 : Cond.selects "WatchRows2Model" y_M_point y_M_point ∈ wsA := wsA_3 133 rfl rfl
theorem m_614 : Cond.code y_M_point c_M_point 9 (some .int) ∈ wsA := wsA_3 134 rfl rfl
theorem m_615 : Cond.methodLink "WatchRows2Model" 94 y_M_isTime ∈ wsA := wsA_3 135 rfl rfl
theorem m_617 : Cond.instanceMethod y_M_isTime ∈ wsA := wsA_3 137 rfl rfl
theorem m_618 : Cond.code y_M_isTime c_M_isTime 3 (some .boolean) ∈ wsA := wsA_3 138 rfl rfl
theorem m_619 : Cond.constantLong "WatchRows2Model" 77 (1152921504606846976) ∈ wsA := wsA_3 139 rfl rfl
theorem m_620 : Cond.methodLink "WatchRows2Law" 49 y_M_cycle ∈ wsA := wsA_3 140 rfl rfl
theorem m_621 : Cond.instanceMethod y_M_cycle ∈ wsA := wsA_3 141 rfl rfl
theorem m_622 : Cond.selects "WatchRows2Model" y_M_cycle y_M_cycle ∈ wsA := wsA_3 142 rfl rfl
theorem m_623 : Cond.code y_M_cycle c_M_cycle 5 (some .int) ∈ wsA := wsA_3 143 rfl rfl
theorem m_624 : Cond.methodLink "WatchRows2Model" 129 y_M_judge ∈ wsA := wsA_3 144 rfl rfl
theorem m_626 : Cond.instanceMethod y_M_judge ∈ wsA := wsA_3 146 rfl rfl
theorem m_627 : Cond.code y_M_judge c_M_judge 3 (none : Option FieldType) ∈ wsA := wsA_3 147 rfl rfl
theorem m_628 : Cond.methodLink "WatchRows2Model" 135 y_M_reset0 ∈ wsA := wsA_3 148 rfl rfl
theorem m_630 : Cond.instanceMethod y_M_reset0 ∈ wsA := wsA_3 150 rfl rfl
theorem m_631 : Cond.code y_M_reset0 c_M_reset0 3 (none : Option FieldType) ∈ wsA := wsA_3 151 rfl rfl
theorem m_632 : Cond.methodLink "WatchRows2Model" 104 y_M_clear ∈ wsA := wsA_3 152 rfl rfl
theorem m_634 : Cond.instanceMethod y_M_clear ∈ wsA := wsA_3 154 rfl rfl
theorem m_635 : Cond.code y_M_clear c_M_clear 3 (none : Option FieldType) ∈ wsA := wsA_3 155 rfl rfl
theorem m_636 : Cond.methodLink "WatchRows2Law" 54 y_M_tolerance ∈ wsA := wsA_3 156 rfl rfl
theorem m_637 : Cond.instanceMethod y_M_tolerance ∈ wsA := wsA_3 157 rfl rfl
theorem m_638 : Cond.selects "WatchRows2Model" y_M_tolerance y_M_tolerance ∈ wsA := wsA_3 158 rfl rfl
theorem m_639 : Cond.code y_M_tolerance c_M_tolerance 3 (some .int) ∈ wsA := wsA_3 159 rfl rfl
theorem m_640 : Cond.methodLink "WatchRows2Law" 59 y_M_answer ∈ wsA := wsA_3 160 rfl rfl
theorem m_641 : Cond.instanceMethod y_M_answer ∈ wsA := wsA_3 161 rfl rfl
theorem m_642 : Cond.selects "WatchRows2Model" y_M_answer y_M_answer ∈ wsA := wsA_3 162 rfl rfl
theorem m_643 : Cond.code y_M_answer c_M_answer 8 (some .int) ∈ wsA := wsA_3 163 rfl rfl
theorem m_644 : Cond.constantLong "WatchRows2Model" 138 (10) ∈ wsA := wsA_3 164 rfl rfl
theorem m_645 : Cond.constantLong "WatchRows2Model" 140 (50) ∈ wsA := wsA_3 165 rfl rfl
theorem m_646 : Cond.methodLink "WatchRows2Law" 64 y_M_mode ∈ wsA := wsA_3 166 rfl rfl
theorem m_647 : Cond.instanceMethod y_M_mode ∈ wsA := wsA_3 167 rfl rfl
theorem m_648 : Cond.selects "WatchRows2Model" y_M_mode y_M_mode ∈ wsA := wsA_3 168 rfl rfl
theorem m_649 : Cond.code y_M_mode c_M_mode 4 (some .int) ∈ wsA := wsA_3 169 rfl rfl
theorem m_650 : Cond.methodLink "WatchRows2Law" 68 y_M_reset ∈ wsA := wsA_3 170 rfl rfl
theorem m_651 : Cond.instanceMethod y_M_reset ∈ wsA := wsA_3 171 rfl rfl
theorem m_652 : Cond.selects "WatchRows2Model" y_M_reset y_M_reset ∈ wsA := wsA_3 172 rfl rfl
theorem m_653 : Cond.code y_M_reset c_M_reset 2 (some .int) ∈ wsA := wsA_3 173 rfl rfl
theorem m_654 : Cond.methodLink "WatchRows2Law" 72 y_M_outer ∈ wsA := wsA_3 174 rfl rfl
theorem m_655 : Cond.instanceMethod y_M_outer ∈ wsA := wsA_3 175 rfl rfl
theorem m_656 : Cond.selects "WatchRows2Model" y_M_outer y_M_outer ∈ wsA := wsA_3 176 rfl rfl
theorem m_657 : Cond.code y_M_outer c_M_outer 4 (some .int) ∈ wsA := wsA_3 177 rfl rfl
theorem m_658 : Cond.methodLink "WatchRows2Law" 76 y_M_state ∈ wsA := wsA_3 178 rfl rfl
theorem m_659 : Cond.instanceMethod y_M_state ∈ wsA := wsA_3 179 rfl rfl
theorem m_660 : Cond.selects "WatchRows2Model" y_M_state y_M_state ∈ wsA := wsA_3 180 rfl rfl
theorem m_661 : Cond.code y_M_state c_M_state 2 (some .int) ∈ wsA := wsA_3 181 rfl rfl
theorem m_662 : Cond.constantLong "WatchRows2Law" 19 (4294967295) ∈ wsA := wsA_3 182 rfl rfl
theorem m_663 : Cond.sameMethod "java/lang/Throwable" "java/lang/Throwable" "fillInStackTrace" "(I)Ljava/lang/Throwable;" ∈ wsA := wsA_3 183 rfl rfl
theorem m_666 : Cond.sameMethod "[Ljava/lang/Object;" "java/lang/Object" "getClass" "()Ljava/lang/Class;" ∈ wsA := wsA_3 186 rfl rfl
theorem m_667 : Cond.selects "[Ljava/lang/Object;" ⟨"java/lang/Object", "getClass", "()Ljava/lang/Class;"⟩ ⟨"java/lang/Object", "getClass", "()Ljava/lang/Class;"⟩ ∈ wsA := wsA_3 187 rfl rfl
theorem ms_W_findPart : Cond.selects "WatchRows2" y_W_findPart y_W_findPart ∈ wsA := wsA_sel 0 rfl rfl
theorem ms_A_add1 : Cond.selects "java/util/ArrayList" y_A_add1 y_A_add1 ∈ wsA := wsA_sel 1 rfl rfl
theorem ms_A_grow0 : Cond.selects "java/util/ArrayList" y_A_grow0 y_A_grow0 ∈ wsA := wsA_sel 2 rfl rfl
theorem ms_A_grow1 : Cond.selects "java/util/ArrayList" y_A_grow1 y_A_grow1 ∈ wsA := wsA_sel 3 rfl rfl
theorem ms_W_isTime : Cond.selects "WatchRows2" y_W_isTime y_W_isTime ∈ wsA := wsA_sel 4 rfl rfl
theorem ms_P_endDeadlines : Cond.selects "WatchRows2$Part" y_P_endDeadlines y_P_endDeadlines ∈ wsA := wsA_sel 5 rfl rfl
theorem ms_P_beginDeadlines : Cond.selects "WatchRows2$Part" y_P_beginDeadlines y_P_beginDeadlines ∈ wsA := wsA_sel 6 rfl rfl
theorem ms_P_stopLateDeadlines : Cond.selects "WatchRows2$Part" y_P_stopLateDeadlines y_P_stopLateDeadlines ∈ wsA := wsA_sel 7 rfl rfl
theorem ms_P_checkAliveCount : Cond.selects "WatchRows2$Part" y_P_checkAliveCount y_P_checkAliveCount ∈ wsA := wsA_sel 8 rfl rfl
theorem ms_P_judge : Cond.selects "WatchRows2$Part" y_P_judge y_P_judge ∈ wsA := wsA_sel 9 rfl rfl
theorem ms_W_worstCondition : Cond.selects "WatchRows2" y_W_worstCondition y_W_worstCondition ∈ wsA := wsA_sel 10 rfl rfl
theorem ms_W_restart : Cond.selects "WatchRows2" y_W_restart y_W_restart ∈ wsA := wsA_sel 11 rfl rfl
theorem ms_Q_rightValue : Cond.selects "WatchRows2$Question" y_Q_rightValue y_Q_rightValue ∈ wsA := wsA_sel 12 rfl rfl
theorem ms_Q_isInTime : Cond.selects "WatchRows2$Question" y_Q_isInTime y_Q_isInTime ∈ wsA := wsA_sel 13 rfl rfl
theorem ms_M_isPart : Cond.selects "WatchRows2Model" y_M_isPart y_M_isPart ∈ wsA := wsA_sel 15 rfl rfl
theorem ms_M_edgeAt : Cond.selects "WatchRows2Model" y_M_edgeAt y_M_edgeAt ∈ wsA := wsA_sel 16 rfl rfl
theorem ms_M_isTime : Cond.selects "WatchRows2Model" y_M_isTime y_M_isTime ∈ wsA := wsA_sel 17 rfl rfl
theorem ms_M_judge : Cond.selects "WatchRows2Model" y_M_judge y_M_judge ∈ wsA := wsA_sel 18 rfl rfl
theorem ms_M_reset0 : Cond.selects "WatchRows2Model" y_M_reset0 y_M_reset0 ∈ wsA := wsA_sel 19 rfl rfl
theorem ms_M_clear : Cond.selects "WatchRows2Model" y_M_clear y_M_clear ∈ wsA := wsA_sel 20 rfl rfl
def T_A : u_T := fun k => match k with
  | 0 => ("java/util/ArrayList", "elementData", "[Ljava/lang/Object;", false)
  | 1 => ("java/util/ArrayList", "size", "I", false)
  | _ => ("java/util/AbstractList", "modCount", "I", false)
def ty_A : Nat → FieldType := fun k => match k with
  | 0 => .array (.object "java/lang/Object")
  | 1 => .int
  | _ => .int
theorem nm_A : ∀ a, a < 3 → ∀ b, b < 3 → a ≠ b → (T_A a).2.1 ≠ (T_A b).2.1 := by decide +kernel
theorem ty_A_ok : ∀ k, k < 3 → parseFieldDescriptor (T_A k).2.2.1 = some (ty_A k) := by decide +kernel
theorem hu_A : ∀ w ∈ u_ws R_A T_A 3, w ∈ wsA := by
  intro w h
  have h : w ∈ [u_lay R_A T_A 0, u_lay R_A T_A 1, u_lay R_A T_A 2] := h
  simp only [List.mem_cons, List.not_mem_nil, or_false] at h
  rcases h with rfl | rfl | rfl
  · exact wsA_1 46 rfl rfl
  · exact wsA_1 48 rfl rfl
  · exact wsA_1 50 rfl rfl
def T_Q : u_T := fun k => match k with
  | 0 => ("WatchRows2$Question", "number", "I", false)
  | 1 => ("WatchRows2$Question", "nextStep", "I", false)
  | 2 => ("WatchRows2$Question", "errors", "I", false)
  | _ => ("WatchRows2$Question", "since", "J", false)
def ty_Q : Nat → FieldType := fun k => match k with
  | 0 => .int
  | 1 => .int
  | 2 => .int
  | _ => .long
theorem nm_Q : ∀ a, a < 4 → ∀ b, b < 4 → a ≠ b → (T_Q a).2.1 ≠ (T_Q b).2.1 := by decide +kernel
theorem ty_Q_ok : ∀ k, k < 4 → parseFieldDescriptor (T_Q k).2.2.1 = some (ty_Q k) := by decide +kernel
theorem hu_Q : ∀ w ∈ u_ws R_Q T_Q 4, w ∈ wsA := by
  intro w h
  have h : w ∈ [u_lay R_Q T_Q 0, u_lay R_Q T_Q 1, u_lay R_Q T_Q 2, u_lay R_Q T_Q 3] := h
  simp only [List.mem_cons, List.not_mem_nil, or_false] at h
  rcases h with rfl | rfl | rfl | rfl
  · exact wsA_1 65 rfl rfl
  · exact wsA_1 67 rfl rfl
  · exact wsA_1 69 rfl rfl
  · exact wsA_1 71 rfl rfl
def T_W : u_T := fun k => match k with
  | 0 => ("WatchRows2", "parts", "Ljava/util/ArrayList;", true)
  | 1 => ("WatchRows2", "question", "LWatchRows2$Question;", true)
  | 2 => ("WatchRows2", "currentMode", "I", false)
  | 3 => ("WatchRows2", "age", "I", false)
  | 4 => ("WatchRows2", "now", "J", false)
  | 5 => ("WatchRows2", "outerSince", "J", false)
  | 6 => ("WatchRows2", "globalTolerance", "I", false)
  | 7 => ("WatchRows2", "expiredCycles", "I", false)
  | 8 => ("WatchRows2", "resets", "I", false)
  | _ => ("WatchRows2", "lastReason", "I", false)
def ty_W : Nat → FieldType := fun k => match k with
  | 0 => .object "java/util/ArrayList"
  | 1 => .object "WatchRows2$Question"
  | 2 => .int
  | 3 => .int
  | 4 => .long
  | 5 => .long
  | 6 => .int
  | 7 => .int
  | 8 => .int
  | _ => .int
theorem nm_W : ∀ a, a < 10 → ∀ b, b < 10 → a ≠ b → (T_W a).2.1 ≠ (T_W b).2.1 := by decide +kernel
theorem ty_W_ok : ∀ k, k < 10 → parseFieldDescriptor (T_W k).2.2.1 = some (ty_W k) := by decide +kernel
theorem hu_W : ∀ w ∈ u_ws R_W T_W 10, w ∈ wsA := by
  intro w h
  have h : w ∈ [u_lay R_W T_W 0, u_lay R_W T_W 1, u_lay R_W T_W 2, u_lay R_W T_W 3, u_lay R_W T_W 4, u_lay R_W T_W 5, u_lay R_W T_W 6, u_lay R_W T_W 7, u_lay R_W T_W 8, u_lay R_W T_W 9] := h
  simp only [List.mem_cons, List.not_mem_nil, or_false] at h
  rcases h with rfl | rfl | rfl | rfl | rfl | rfl | rfl | rfl | rfl | rfl
  · exact wsA_1 84 rfl rfl
  · exact wsA_1 86 rfl rfl
  · exact wsA_1 88 rfl rfl
  · exact wsA_1 90 rfl rfl
  · exact wsA_1 92 rfl rfl
  · exact wsA_1 94 rfl rfl
  · exact wsA_1 96 rfl rfl
  · exact wsA_1 98 rfl rfl
  · exact wsA_1 100 rfl rfl
  · exact wsA_1 102 rfl rfl
def T_D : u_T := fun k => match k with
  | 0 => ("WatchRows2$Deadline", "ofMode", "I", true)
  | 1 => ("WatchRows2$Deadline", "from", "I", true)
  | 2 => ("WatchRows2$Deadline", "to", "I", true)
  | 3 => ("WatchRows2$Deadline", "least", "J", true)
  | 4 => ("WatchRows2$Deadline", "most", "J", true)
  | 5 => ("WatchRows2$Deadline", "running", "Z", false)
  | _ => ("WatchRows2$Deadline", "begun", "J", false)
def ty_D : Nat → FieldType := fun k => match k with
  | 0 => .int
  | 1 => .int
  | 2 => .int
  | 3 => .long
  | 4 => .long
  | 5 => .boolean
  | _ => .long
theorem nm_D : ∀ a, a < 7 → ∀ b, b < 7 → a ≠ b → (T_D a).2.1 ≠ (T_D b).2.1 := by decide +kernel
theorem ty_D_ok : ∀ k, k < 7 → parseFieldDescriptor (T_D k).2.2.1 = some (ty_D k) := by decide +kernel
theorem hu_D : ∀ w ∈ u_ws R_D T_D 7, w ∈ wsA := by
  intro w h
  have h : w ∈ [u_lay R_D T_D 0, u_lay R_D T_D 1, u_lay R_D T_D 2, u_lay R_D T_D 3, u_lay R_D T_D 4, u_lay R_D T_D 5, u_lay R_D T_D 6] := h
  simp only [List.mem_cons, List.not_mem_nil, or_false] at h
  rcases h with rfl | rfl | rfl | rfl | rfl | rfl | rfl
  · exact wsA_1 176 rfl rfl
  · exact wsA_1 178 rfl rfl
  · exact wsA_1 180 rfl rfl
  · exact wsA_1 182 rfl rfl
  · exact wsA_1 184 rfl rfl
  · exact wsA_1 186 rfl rfl
  · exact wsA_1 188 rfl rfl
def T_AE : u_T := fun k => match k with
  | 0 => ("java/lang/Throwable", "cause", "Ljava/lang/Throwable;", false)
  | 1 => ("java/lang/Throwable", "stackTrace", "[Ljava/lang/StackTraceElement;", false)
  | 2 => ("java/lang/Throwable", "suppressedExceptions", "Ljava/util/List;", false)
  | 3 => ("java/lang/Throwable", "detailMessage", "Ljava/lang/String;", false)
  | 4 => ("java/lang/Throwable", "backtrace", "Ljava/lang/Object;", false)
  | _ => ("java/lang/Throwable", "depth", "I", false)
def ty_AE : Nat → FieldType := fun k => match k with
  | 0 => .object "java/lang/Throwable"
  | 1 => .array (.object "java/lang/StackTraceElement")
  | 2 => .object "java/util/List"
  | 3 => .object "java/lang/String"
  | 4 => .object "java/lang/Object"
  | _ => .int
theorem nm_AE : ∀ a, a < 6 → ∀ b, b < 6 → a ≠ b → (T_AE a).2.1 ≠ (T_AE b).2.1 := by decide +kernel
theorem ty_AE_ok : ∀ k, k < 6 → parseFieldDescriptor (T_AE k).2.2.1 = some (ty_AE k) := by decide +kernel
theorem hu_AE : ∀ w ∈ u_ws R_AE T_AE 6, w ∈ wsA := by
  intro w h
  have h : w ∈ [u_lay R_AE T_AE 0, u_lay R_AE T_AE 1, u_lay R_AE T_AE 2, u_lay R_AE T_AE 3, u_lay R_AE T_AE 4, u_lay R_AE T_AE 5] := h
  simp only [List.mem_cons, List.not_mem_nil, or_false] at h
  rcases h with rfl | rfl | rfl | rfl | rfl | rfl
  · exact wsA_2 142 rfl rfl
  · exact wsA_2 144 rfl rfl
  · exact wsA_2 146 rfl rfl
  · exact wsA_2 148 rfl rfl
  · exact wsA_2 150 rfl rfl
  · exact wsA_2 192 rfl rfl
def T_P : u_T := fun k => match k with
  | 0 => ("WatchRows2$Part", "least", "I", true)
  | 1 => ("WatchRows2$Part", "most", "I", true)
  | 2 => ("WatchRows2$Part", "span", "J", true)
  | 3 => ("WatchRows2$Part", "edgeRows", "[I", true)
  | 4 => ("WatchRows2$Part", "deadlines", "Ljava/util/ArrayList;", true)
  | 5 => ("WatchRows2$Part", "tolerated", "I", false)
  | 6 => ("WatchRows2$Part", "condition", "I", false)
  | 7 => ("WatchRows2$Part", "failures", "I", false)
  | 8 => ("WatchRows2$Part", "aliveCount", "I", false)
  | 9 => ("WatchRows2$Part", "pointBefore", "I", false)
  | _ => ("WatchRows2$Part", "flawed", "Z", false)
def ty_P : Nat → FieldType := fun k => match k with
  | 0 => .int
  | 1 => .int
  | 2 => .long
  | 3 => .array (.int)
  | 4 => .object "java/util/ArrayList"
  | 5 => .int
  | 6 => .int
  | 7 => .int
  | 8 => .int
  | 9 => .int
  | _ => .boolean
theorem nm_P : ∀ a, a < 11 → ∀ b, b < 11 → a ≠ b → (T_P a).2.1 ≠ (T_P b).2.1 := by decide +kernel
theorem ty_P_ok : ∀ k, k < 11 → parseFieldDescriptor (T_P k).2.2.1 = some (ty_P k) := by decide +kernel
theorem hu_P : ∀ w ∈ u_ws R_P T_P 11, w ∈ wsA := by
  intro w h
  have h : w ∈ [u_lay R_P T_P 0, u_lay R_P T_P 1, u_lay R_P T_P 2, u_lay R_P T_P 3, u_lay R_P T_P 4, u_lay R_P T_P 5, u_lay R_P T_P 6, u_lay R_P T_P 7, u_lay R_P T_P 8, u_lay R_P T_P 9, u_lay R_P T_P 10] := h
  simp only [List.mem_cons, List.not_mem_nil, or_false] at h
  rcases h with rfl | rfl | rfl | rfl | rfl | rfl | rfl | rfl | rfl | rfl | rfl
  · exact wsA_2 217 rfl rfl
  · exact wsA_2 219 rfl rfl
  · exact wsA_2 221 rfl rfl
  · exact wsA_2 223 rfl rfl
  · exact wsA_2 225 rfl rfl
  · exact wsA_2 227 rfl rfl
  · exact wsA_2 229 rfl rfl
  · exact wsA_2 231 rfl rfl
  · exact wsA_2 233 rfl rfl
  · exact wsA_2 235 rfl rfl
  · exact wsA_2 237 rfl rfl
def T_M : u_T := fun k => match k with
  | 0 => ("WatchRows2Model", "code", "I", false)
  | 1 => ("WatchRows2Model", "parts", "I", false)
  | 2 => ("WatchRows2Model", "least", "[I", true)
  | 3 => ("WatchRows2Model", "most", "[I", true)
  | 4 => ("WatchRows2Model", "span", "[I", true)
  | 5 => ("WatchRows2Model", "state", "[I", true)
  | 6 => ("WatchRows2Model", "failures", "[I", true)
  | 7 => ("WatchRows2Model", "tolerance", "[I", true)
  | 8 => ("WatchRows2Model", "alive", "[I", true)
  | 9 => ("WatchRows2Model", "flaw", "[Z", true)
  | 10 => ("WatchRows2Model", "before", "[I", true)
  | 11 => ("WatchRows2Model", "edge", "[Z", true)
  | 12 => ("WatchRows2Model", "deadlines", "[I", true)
  | 13 => ("WatchRows2Model", "deadMode", "[I", true)
  | 14 => ("WatchRows2Model", "deadFrom", "[I", true)
  | 15 => ("WatchRows2Model", "deadTo", "[I", true)
  | 16 => ("WatchRows2Model", "deadLeast", "[J", true)
  | 17 => ("WatchRows2Model", "deadMost", "[J", true)
  | 18 => ("WatchRows2Model", "began", "[J", true)
  | 19 => ("WatchRows2Model", "mode", "I", false)
  | 20 => ("WatchRows2Model", "age", "I", false)
  | 21 => ("WatchRows2Model", "now", "J", false)
  | 22 => ("WatchRows2Model", "worst", "I", false)
  | 23 => ("WatchRows2Model", "globalTolerance", "I", false)
  | 24 => ("WatchRows2Model", "resets", "I", false)
  | 25 => ("WatchRows2Model", "reason", "I", false)
  | 26 => ("WatchRows2Model", "question", "I", false)
  | 27 => ("WatchRows2Model", "step", "I", false)
  | 28 => ("WatchRows2Model", "errors", "I", false)
  | 29 => ("WatchRows2Model", "asked", "J", false)
  | _ => ("WatchRows2Model", "outer", "J", false)
def ty_M : Nat → FieldType := fun k => match k with
  | 0 => .int
  | 1 => .int
  | 2 => .array (.int)
  | 3 => .array (.int)
  | 4 => .array (.int)
  | 5 => .array (.int)
  | 6 => .array (.int)
  | 7 => .array (.int)
  | 8 => .array (.int)
  | 9 => .array (.boolean)
  | 10 => .array (.int)
  | 11 => .array (.boolean)
  | 12 => .array (.int)
  | 13 => .array (.int)
  | 14 => .array (.int)
  | 15 => .array (.int)
  | 16 => .array (.long)
  | 17 => .array (.long)
  | 18 => .array (.long)
  | 19 => .int
  | 20 => .int
  | 21 => .long
  | 22 => .int
  | 23 => .int
  | 24 => .int
  | 25 => .int
  | 26 => .int
  | 27 => .int
  | 28 => .int
  | 29 => .long
  | _ => .long
theorem nm_M : ∀ a, a < 31 → ∀ b, b < 31 → a ≠ b → (T_M a).2.1 ≠ (T_M b).2.1 := by decide +kernel
theorem ty_M_ok : ∀ k, k < 31 → parseFieldDescriptor (T_M k).2.2.1 = some (ty_M k) := by decide +kernel
theorem hu_M : ∀ w ∈ u_ws R_M T_M 31, w ∈ wsA := by
  intro w h
  have h : w ∈ [u_lay R_M T_M 0, u_lay R_M T_M 1, u_lay R_M T_M 2, u_lay R_M T_M 3, u_lay R_M T_M 4, u_lay R_M T_M 5, u_lay R_M T_M 6, u_lay R_M T_M 7, u_lay R_M T_M 8, u_lay R_M T_M 9, u_lay R_M T_M 10, u_lay R_M T_M 11, u_lay R_M T_M 12, u_lay R_M T_M 13, u_lay R_M T_M 14, u_lay R_M T_M 15, u_lay R_M T_M 16, u_lay R_M T_M 17, u_lay R_M T_M 18, u_lay R_M T_M 19, u_lay R_M T_M 20, u_lay R_M T_M 21, u_lay R_M T_M 22, u_lay R_M T_M 23, u_lay R_M T_M 24, u_lay R_M T_M 25, u_lay R_M T_M 26, u_lay R_M T_M 27, u_lay R_M T_M 28, u_lay R_M T_M 29, u_lay R_M T_M 30] := h
  simp only [List.mem_cons, List.not_mem_nil, or_false] at h
  rcases h with rfl | rfl | rfl | rfl | rfl | rfl | rfl | rfl | rfl | rfl | rfl | rfl | rfl | rfl | rfl | rfl | rfl | rfl | rfl | rfl | rfl | rfl | rfl | rfl | rfl | rfl | rfl | rfl | rfl | rfl | rfl
  · exact wsA_3 40 rfl rfl
  · exact wsA_3 42 rfl rfl
  · exact wsA_3 44 rfl rfl
  · exact wsA_3 46 rfl rfl
  · exact wsA_3 48 rfl rfl
  · exact wsA_3 50 rfl rfl
  · exact wsA_3 52 rfl rfl
  · exact wsA_3 54 rfl rfl
  · exact wsA_3 56 rfl rfl
  · exact wsA_3 58 rfl rfl
  · exact wsA_3 60 rfl rfl
  · exact wsA_3 62 rfl rfl
  · exact wsA_3 64 rfl rfl
  · exact wsA_3 66 rfl rfl
  · exact wsA_3 68 rfl rfl
  · exact wsA_3 70 rfl rfl
  · exact wsA_3 72 rfl rfl
  · exact wsA_3 74 rfl rfl
  · exact wsA_3 76 rfl rfl
  · exact wsA_3 78 rfl rfl
  · exact wsA_3 80 rfl rfl
  · exact wsA_3 82 rfl rfl
  · exact wsA_3 84 rfl rfl
  · exact wsA_3 86 rfl rfl
  · exact wsA_3 88 rfl rfl
  · exact wsA_3 90 rfl rfl
  · exact wsA_3 92 rfl rfl
  · exact wsA_3 94 rfl rfl
  · exact wsA_3 96 rfl rfl
  · exact wsA_3 98 rfl rfl
  · exact wsA_3 100 rfl rfl
abbrev cls : List vw_C := [(R_W, T_W, 10), (R_P, T_P, 11), (R_D, T_D, 7), (R_Q, T_Q, 4), (R_A, T_A, 3), (R_M, T_M, 31)]
end
section
theorem d_W_init_0 : decode c_W_init 0 = .ok (.aload_n 0, 1) := by decide +kernel
theorem d_W_init_1 : decode c_W_init 1 = .ok (.invokespecial 1, 3) := by decide +kernel
theorem d_W_init_4 : decode c_W_init 4 = .ok (.aload_n 0, 1) := by decide +kernel
theorem d_W_init_5 : decode c_W_init 5 = .ok (.new 7, 3) := by decide +kernel
theorem d_W_init_8 : decode c_W_init 8 = .ok (.dup, 1) := by decide +kernel
theorem d_W_init_9 : decode c_W_init 9 = .ok (.invokespecial 9, 3) := by decide +kernel
theorem d_W_init_12 : decode c_W_init 12 = .ok (.putfield 10, 3) := by decide +kernel
theorem d_W_init_15 : decode c_W_init 15 = .ok (.aload_n 0, 1) := by decide +kernel
theorem d_W_init_16 : decode c_W_init 16 = .ok (.new 16, 3) := by decide +kernel
theorem d_W_init_19 : decode c_W_init 19 = .ok (.dup, 1) := by decide +kernel
theorem d_W_init_20 : decode c_W_init 20 = .ok (.invokespecial 18, 3) := by decide +kernel
theorem d_W_init_23 : decode c_W_init 23 = .ok (.putfield 19, 3) := by decide +kernel
theorem d_W_init_26 : decode c_W_init 26 = .ok (.aload_n 0, 1) := by decide +kernel
theorem d_W_init_27 : decode c_W_init 27 = .ok (.iconst 0, 1) := by decide +kernel
theorem d_W_init_28 : decode c_W_init 28 = .ok (.putfield 23, 3) := by decide +kernel
theorem d_W_init_31 : decode c_W_init 31 = .ok (.aload_n 0, 1) := by decide +kernel
theorem d_W_init_32 : decode c_W_init 32 = .ok (.iconst 0, 1) := by decide +kernel
theorem d_W_init_33 : decode c_W_init 33 = .ok (.putfield 27, 3) := by decide +kernel
theorem d_W_init_36 : decode c_W_init 36 = .ok (.aload_n 0, 1) := by decide +kernel
theorem d_W_init_37 : decode c_W_init 37 = .ok (.lconst 0, 1) := by decide +kernel
theorem d_W_init_38 : decode c_W_init 38 = .ok (.putfield 30, 3) := by decide +kernel
theorem d_W_init_41 : decode c_W_init 41 = .ok (.aload_n 0, 1) := by decide +kernel
theorem d_W_init_42 : decode c_W_init 42 = .ok (.lconst 0, 1) := by decide +kernel
theorem d_W_init_43 : decode c_W_init 43 = .ok (.putfield 34, 3) := by decide +kernel
theorem d_W_init_46 : decode c_W_init 46 = .ok (.aload_n 0, 1) := by decide +kernel
theorem d_W_init_47 : decode c_W_init 47 = .ok (.iconst 0, 1) := by decide +kernel
theorem d_W_init_48 : decode c_W_init 48 = .ok (.putfield 37, 3) := by decide +kernel
theorem d_W_init_51 : decode c_W_init 51 = .ok (.aload_n 0, 1) := by decide +kernel
theorem d_W_init_52 : decode c_W_init 52 = .ok (.iconst 0, 1) := by decide +kernel
theorem d_W_init_53 : decode c_W_init 53 = .ok (.putfield 40, 3) := by decide +kernel
theorem d_W_init_56 : decode c_W_init 56 = .ok (.aload_n 0, 1) := by decide +kernel
theorem d_W_init_57 : decode c_W_init 57 = .ok (.iconst 0, 1) := by decide +kernel
theorem d_W_init_58 : decode c_W_init 58 = .ok (.putfield 43, 3) := by decide +kernel
theorem d_W_init_61 : decode c_W_init 61 = .ok (.aload_n 0, 1) := by decide +kernel
theorem d_W_init_62 : decode c_W_init 62 = .ok (.iconst 0, 1) := by decide +kernel
theorem d_W_init_63 : decode c_W_init 63 = .ok (.putfield 46, 3) := by decide +kernel
theorem d_W_init_66 : decode c_W_init 66 = .ok (.return_, 1) := by decide +kernel
theorem d_W_part_0 : decode c_W_part 0 = .ok (.iload_n 1, 1) := by decide +kernel
theorem d_W_part_1 : decode c_W_part 1 = .ok (.i2l, 1) := by decide +kernel
theorem d_W_part_2 : decode c_W_part 2 = .ok (.lconst 0, 1) := by decide +kernel
theorem d_W_part_3 : decode c_W_part 3 = .ok (.ldc2_w 49, 3) := by decide +kernel
theorem d_W_part_6 : decode c_W_part 6 = .ok (.invokestatic 51, 3) := by decide +kernel
theorem d_W_part_9 : decode c_W_part 9 = .ok (.ifCond .eq 27, 3) := by decide +kernel
theorem d_W_part_12 : decode c_W_part 12 = .ok (.iload_n 2, 1) := by decide +kernel
theorem d_W_part_13 : decode c_W_part 13 = .ok (.i2l, 1) := by decide +kernel
theorem d_W_part_14 : decode c_W_part 14 = .ok (.iload_n 1, 1) := by decide +kernel
theorem d_W_part_15 : decode c_W_part 15 = .ok (.i2l, 1) := by decide +kernel
theorem d_W_part_16 : decode c_W_part 16 = .ok (.ldc2_w 49, 3) := by decide +kernel
theorem d_W_part_19 : decode c_W_part 19 = .ok (.invokestatic 51, 3) := by decide +kernel
theorem d_W_part_22 : decode c_W_part 22 = .ok (.ifCond .eq 14, 3) := by decide +kernel
theorem d_W_part_25 : decode c_W_part 25 = .ok (.lload_n 3, 1) := by decide +kernel
theorem d_W_part_26 : decode c_W_part 26 = .ok (.lconst 0, 1) := by decide +kernel
theorem d_W_part_27 : decode c_W_part 27 = .ok (.ldc2_w 55, 3) := by decide +kernel
theorem d_W_part_30 : decode c_W_part 30 = .ok (.invokestatic 51, 3) := by decide +kernel
theorem d_W_part_33 : decode c_W_part 33 = .ok (.ifCond .ne 6, 3) := by decide +kernel
theorem d_W_part_36 : decode c_W_part 36 = .ok (.bipush (-2), 2) := by decide +kernel
theorem d_W_part_38 : decode c_W_part 38 = .ok (.ireturn, 1) := by decide +kernel
theorem d_W_part_39 : decode c_W_part 39 = .ok (.aload_n 0, 1) := by decide +kernel
theorem d_W_part_40 : decode c_W_part 40 = .ok (.getfield 10, 3) := by decide +kernel
theorem d_W_part_43 : decode c_W_part 43 = .ok (.invokevirtual 57, 3) := by decide +kernel
theorem d_W_part_46 : decode c_W_part 46 = .ok (.bipush 20, 2) := by decide +kernel
theorem d_W_part_48 : decode c_W_part 48 = .ok (.if_icmp .lt 6, 3) := by decide +kernel
theorem d_W_part_51 : decode c_W_part 51 = .ok (.bipush (-4), 2) := by decide +kernel
theorem d_W_part_53 : decode c_W_part 53 = .ok (.ireturn, 1) := by decide +kernel
theorem d_W_part_54 : decode c_W_part 54 = .ok (.lload_n 3, 1) := by decide +kernel
theorem d_W_part_55 : decode c_W_part 55 = .ok (.lconst 0, 1) := by decide +kernel
theorem d_W_part_56 : decode c_W_part 56 = .ok (.lcmp, 1) := by decide +kernel
theorem d_W_part_57 : decode c_W_part 57 = .ok (.ifCond .ne 13, 3) := by decide +kernel
theorem d_W_part_60 : decode c_W_part 60 = .ok (.new 61, 3) := by decide +kernel
theorem d_W_part_63 : decode c_W_part 63 = .ok (.dup, 1) := by decide +kernel
theorem d_W_part_64 : decode c_W_part 64 = .ok (.ldc 63, 2) := by decide +kernel
theorem d_W_part_66 : decode c_W_part 66 = .ok (.invokespecial 65, 3) := by decide +kernel
theorem d_W_part_69 : decode c_W_part 69 = .ok (.athrow, 1) := by decide +kernel
theorem d_W_part_70 : decode c_W_part 70 = .ok (.aload_n 0, 1) := by decide +kernel
theorem d_W_part_71 : decode c_W_part 71 = .ok (.getfield 10, 3) := by decide +kernel
theorem d_W_part_74 : decode c_W_part 74 = .ok (.new 68, 3) := by decide +kernel
theorem d_W_part_77 : decode c_W_part 77 = .ok (.dup, 1) := by decide +kernel
theorem d_W_part_78 : decode c_W_part 78 = .ok (.iload_n 1, 1) := by decide +kernel
theorem d_W_part_79 : decode c_W_part 79 = .ok (.iload_n 2, 1) := by decide +kernel
theorem d_W_part_80 : decode c_W_part 80 = .ok (.lload_n 3, 1) := by decide +kernel
theorem d_W_part_81 : decode c_W_part 81 = .ok (.invokespecial 70, 3) := by decide +kernel
theorem d_W_part_84 : decode c_W_part 84 = .ok (.invokevirtual 73, 3) := by decide +kernel
theorem d_W_part_87 : decode c_W_part 87 = .ok (.pop, 1) := by decide +kernel
theorem d_W_part_88 : decode c_W_part 88 = .ok (.aload_n 0, 1) := by decide +kernel
theorem d_W_part_89 : decode c_W_part 89 = .ok (.getfield 10, 3) := by decide +kernel
theorem d_W_part_92 : decode c_W_part 92 = .ok (.invokevirtual 57, 3) := by decide +kernel
theorem d_W_part_95 : decode c_W_part 95 = .ok (.ireturn, 1) := by decide +kernel
theorem d_W_edge_0 : decode c_W_edge 0 = .ok (.aload_n 0, 1) := by decide +kernel
theorem d_W_edge_1 : decode c_W_edge 1 = .ok (.iload_n 1, 1) := by decide +kernel
theorem d_W_edge_2 : decode c_W_edge 2 = .ok (.invokevirtual 77, 3) := by decide +kernel
theorem d_W_edge_5 : decode c_W_edge 5 = .ok (.astore 4, 2) := by decide +kernel
theorem d_W_edge_7 : decode c_W_edge 7 = .ok (.aload 4, 2) := by decide +kernel
theorem d_W_edge_9 : decode c_W_edge 9 = .ok (.ifnonnull 5, 3) := by decide +kernel
theorem d_W_edge_12 : decode c_W_edge 12 = .ok (.iconst (-1), 1) := by decide +kernel
theorem d_W_edge_13 : decode c_W_edge 13 = .ok (.ireturn, 1) := by decide +kernel
theorem d_W_edge_14 : decode c_W_edge 14 = .ok (.iload_n 2, 1) := by decide +kernel
theorem d_W_edge_15 : decode c_W_edge 15 = .ok (.ifCond .eq 10, 3) := by decide +kernel
theorem d_W_edge_18 : decode c_W_edge 18 = .ok (.iload_n 2, 1) := by decide +kernel
theorem d_W_edge_19 : decode c_W_edge 19 = .ok (.invokestatic 81, 3) := by decide +kernel
theorem d_W_edge_22 : decode c_W_edge 22 = .ok (.ifCond .eq 10, 3) := by decide +kernel
theorem d_W_edge_25 : decode c_W_edge 25 = .ok (.iload_n 3, 1) := by decide +kernel
theorem d_W_edge_26 : decode c_W_edge 26 = .ok (.invokestatic 81, 3) := by decide +kernel
theorem d_W_edge_29 : decode c_W_edge 29 = .ok (.ifCond .ne 6, 3) := by decide +kernel
theorem d_W_edge_32 : decode c_W_edge 32 = .ok (.bipush (-2), 2) := by decide +kernel
theorem d_W_edge_34 : decode c_W_edge 34 = .ok (.ireturn, 1) := by decide +kernel
theorem d_W_edge_35 : decode c_W_edge 35 = .ok (.aload 4, 2) := by decide +kernel
theorem d_W_edge_37 : decode c_W_edge 37 = .ok (.aload_n 0, 1) := by decide +kernel
theorem d_W_edge_38 : decode c_W_edge 38 = .ok (.getfield 23, 3) := by decide +kernel
theorem d_W_edge_41 : decode c_W_edge 41 = .ok (.iload_n 2, 1) := by decide +kernel
theorem d_W_edge_42 : decode c_W_edge 42 = .ok (.iload_n 3, 1) := by decide +kernel
theorem d_W_edge_43 : decode c_W_edge 43 = .ok (.invokevirtual 85, 3) := by decide +kernel
theorem d_W_edge_46 : decode c_W_edge 46 = .ok (.ifCond .eq 7, 3) := by decide +kernel
theorem d_W_edge_49 : decode c_W_edge 49 = .ok (.iconst 1, 1) := by decide +kernel
theorem d_W_edge_50 : decode c_W_edge 50 = .ok (.goto 4, 3) := by decide +kernel
theorem d_W_edge_53 : decode c_W_edge 53 = .ok (.iconst 0, 1) := by decide +kernel
theorem d_W_edge_54 : decode c_W_edge 54 = .ok (.ireturn, 1) := by decide +kernel
theorem d_W_deadline_0 : decode c_W_deadline 0 = .ok (.aload_n 0, 1) := by decide +kernel
theorem d_W_deadline_1 : decode c_W_deadline 1 = .ok (.iload_n 1, 1) := by decide +kernel
theorem d_W_deadline_2 : decode c_W_deadline 2 = .ok (.invokevirtual 77, 3) := by decide +kernel
theorem d_W_deadline_5 : decode c_W_deadline 5 = .ok (.astore 8, 2) := by decide +kernel
theorem d_W_deadline_7 : decode c_W_deadline 7 = .ok (.aload 8, 2) := by decide +kernel
theorem d_W_deadline_9 : decode c_W_deadline 9 = .ok (.ifnonnull 5, 3) := by decide +kernel
theorem d_W_deadline_12 : decode c_W_deadline 12 = .ok (.iconst (-1), 1) := by decide +kernel
theorem d_W_deadline_13 : decode c_W_deadline 13 = .ok (.ireturn, 1) := by decide +kernel
theorem d_W_deadline_14 : decode c_W_deadline 14 = .ok (.iload_n 2, 1) := by decide +kernel
theorem d_W_deadline_15 : decode c_W_deadline 15 = .ok (.invokestatic 81, 3) := by decide +kernel
theorem d_W_deadline_18 : decode c_W_deadline 18 = .ok (.ifCond .eq 35, 3) := by decide +kernel
theorem d_W_deadline_21 : decode c_W_deadline 21 = .ok (.iload_n 3, 1) := by decide +kernel
theorem d_W_deadline_22 : decode c_W_deadline 22 = .ok (.invokestatic 81, 3) := by decide +kernel
theorem d_W_deadline_25 : decode c_W_deadline 25 = .ok (.ifCond .eq 28, 3) := by decide +kernel
theorem d_W_deadline_28 : decode c_W_deadline 28 = .ok (.lload 4, 2) := by decide +kernel
theorem d_W_deadline_30 : decode c_W_deadline 30 = .ok (.lconst 0, 1) := by decide +kernel
theorem d_W_deadline_31 : decode c_W_deadline 31 = .ok (.ldc2_w 89, 3) := by decide +kernel
theorem d_W_deadline_34 : decode c_W_deadline 34 = .ok (.invokestatic 51, 3) := by decide +kernel
theorem d_W_deadline_37 : decode c_W_deadline 37 = .ok (.ifCond .eq 16, 3) := by decide +kernel
theorem d_W_deadline_40 : decode c_W_deadline 40 = .ok (.lload 6, 2) := by decide +kernel
theorem d_W_deadline_42 : decode c_W_deadline 42 = .ok (.lload 4, 2) := by decide +kernel
theorem d_W_deadline_44 : decode c_W_deadline 44 = .ok (.ldc2_w 89, 3) := by decide +kernel
theorem d_W_deadline_47 : decode c_W_deadline 47 = .ok (.invokestatic 51, 3) := by decide +kernel
theorem d_W_deadline_50 : decode c_W_deadline 50 = .ok (.ifCond .ne 6, 3) := by decide +kernel
theorem d_W_deadline_53 : decode c_W_deadline 53 = .ok (.bipush (-2), 2) := by decide +kernel
theorem d_W_deadline_55 : decode c_W_deadline 55 = .ok (.ireturn, 1) := by decide +kernel
theorem d_W_deadline_56 : decode c_W_deadline 56 = .ok (.aload 8, 2) := by decide +kernel
theorem d_W_deadline_58 : decode c_W_deadline 58 = .ok (.getfield 91, 3) := by decide +kernel
theorem d_W_deadline_61 : decode c_W_deadline 61 = .ok (.invokevirtual 57, 3) := by decide +kernel
theorem d_W_deadline_64 : decode c_W_deadline 64 = .ok (.bipush 10, 2) := by decide +kernel
theorem d_W_deadline_66 : decode c_W_deadline 66 = .ok (.if_icmp .lt 6, 3) := by decide +kernel
theorem d_W_deadline_69 : decode c_W_deadline 69 = .ok (.bipush (-4), 2) := by decide +kernel
theorem d_W_deadline_71 : decode c_W_deadline 71 = .ok (.ireturn, 1) := by decide +kernel
theorem d_W_deadline_72 : decode c_W_deadline 72 = .ok (.aload 8, 2) := by decide +kernel
theorem d_W_deadline_74 : decode c_W_deadline 74 = .ok (.getfield 91, 3) := by decide +kernel
theorem d_W_deadline_77 : decode c_W_deadline 77 = .ok (.new 94, 3) := by decide +kernel
theorem d_W_deadline_80 : decode c_W_deadline 80 = .ok (.dup, 1) := by decide +kernel
theorem d_W_deadline_81 : decode c_W_deadline 81 = .ok (.aload_n 0, 1) := by decide +kernel
theorem d_W_deadline_82 : decode c_W_deadline 82 = .ok (.getfield 23, 3) := by decide +kernel
theorem d_W_deadline_85 : decode c_W_deadline 85 = .ok (.iload_n 2, 1) := by decide +kernel
theorem d_W_deadline_86 : decode c_W_deadline 86 = .ok (.iload_n 3, 1) := by decide +kernel
theorem d_W_deadline_87 : decode c_W_deadline 87 = .ok (.lload 4, 2) := by decide +kernel
theorem d_W_deadline_89 : decode c_W_deadline 89 = .ok (.lload 6, 2) := by decide +kernel
theorem d_W_deadline_91 : decode c_W_deadline 91 = .ok (.invokespecial 96, 3) := by decide +kernel
theorem d_W_deadline_94 : decode c_W_deadline 94 = .ok (.invokevirtual 73, 3) := by decide +kernel
theorem d_W_deadline_97 : decode c_W_deadline 97 = .ok (.pop, 1) := by decide +kernel
theorem d_W_deadline_98 : decode c_W_deadline 98 = .ok (.aload 8, 2) := by decide +kernel
theorem d_W_deadline_100 : decode c_W_deadline 100 = .ok (.getfield 91, 3) := by decide +kernel
theorem d_W_deadline_103 : decode c_W_deadline 103 = .ok (.invokevirtual 57, 3) := by decide +kernel
theorem d_W_deadline_106 : decode c_W_deadline 106 = .ok (.ireturn, 1) := by decide +kernel
theorem d_W_point_0 : decode c_W_point 0 = .ok (.aload_n 0, 1) := by decide +kernel
theorem d_W_point_1 : decode c_W_point 1 = .ok (.iload_n 1, 1) := by decide +kernel
theorem d_W_point_2 : decode c_W_point 2 = .ok (.invokevirtual 77, 3) := by decide +kernel
theorem d_W_point_5 : decode c_W_point 5 = .ok (.astore 5, 2) := by decide +kernel
theorem d_W_point_7 : decode c_W_point 7 = .ok (.aload 5, 2) := by decide +kernel
theorem d_W_point_9 : decode c_W_point 9 = .ok (.ifnonnull 5, 3) := by decide +kernel
theorem d_W_point_12 : decode c_W_point 12 = .ok (.iconst (-1), 1) := by decide +kernel
theorem d_W_point_13 : decode c_W_point 13 = .ok (.ireturn, 1) := by decide +kernel
theorem d_W_point_14 : decode c_W_point 14 = .ok (.iload_n 2, 1) := by decide +kernel
theorem d_W_point_15 : decode c_W_point 15 = .ok (.invokestatic 81, 3) := by decide +kernel
theorem d_W_point_18 : decode c_W_point 18 = .ok (.ifCond .eq 11, 3) := by decide +kernel
theorem d_W_point_21 : decode c_W_point 21 = .ok (.aload_n 0, 1) := by decide +kernel
theorem d_W_point_22 : decode c_W_point 22 = .ok (.lload_n 3, 1) := by decide +kernel
theorem d_W_point_23 : decode c_W_point 23 = .ok (.invokevirtual 99, 3) := by decide +kernel
theorem d_W_point_26 : decode c_W_point 26 = .ok (.ifCond .ne 6, 3) := by decide +kernel
theorem d_W_point_29 : decode c_W_point 29 = .ok (.bipush (-2), 2) := by decide +kernel
theorem d_W_point_31 : decode c_W_point 31 = .ok (.ireturn, 1) := by decide +kernel
theorem d_W_point_32 : decode c_W_point 32 = .ok (.aload_n 0, 1) := by decide +kernel
theorem d_W_point_33 : decode c_W_point 33 = .ok (.lload_n 3, 1) := by decide +kernel
theorem d_W_point_34 : decode c_W_point 34 = .ok (.putfield 30, 3) := by decide +kernel
theorem d_W_point_37 : decode c_W_point 37 = .ok (.aload 5, 2) := by decide +kernel
theorem d_W_point_39 : decode c_W_point 39 = .ok (.aload_n 0, 1) := by decide +kernel
theorem d_W_point_40 : decode c_W_point 40 = .ok (.getfield 23, 3) := by decide +kernel
theorem d_W_point_43 : decode c_W_point 43 = .ok (.iload_n 2, 1) := by decide +kernel
theorem d_W_point_44 : decode c_W_point 44 = .ok (.lload_n 3, 1) := by decide +kernel
theorem d_W_point_45 : decode c_W_point 45 = .ok (.invokevirtual 103, 3) := by decide +kernel
theorem d_W_point_48 : decode c_W_point 48 = .ok (.aload 5, 2) := by decide +kernel
theorem d_W_point_50 : decode c_W_point 50 = .ok (.getfield 106, 3) := by decide +kernel
theorem d_W_point_53 : decode c_W_point 53 = .ok (.ireturn, 1) := by decide +kernel
theorem d_W_cycle_0 : decode c_W_cycle 0 = .ok (.aload_n 0, 1) := by decide +kernel
theorem d_W_cycle_1 : decode c_W_cycle 1 = .ok (.lload_n 1, 1) := by decide +kernel
theorem d_W_cycle_2 : decode c_W_cycle 2 = .ok (.invokevirtual 99, 3) := by decide +kernel
theorem d_W_cycle_5 : decode c_W_cycle 5 = .ok (.ifCond .ne 6, 3) := by decide +kernel
theorem d_W_cycle_8 : decode c_W_cycle 8 = .ok (.bipush (-2), 2) := by decide +kernel
theorem d_W_cycle_10 : decode c_W_cycle 10 = .ok (.ireturn, 1) := by decide +kernel
theorem d_W_cycle_11 : decode c_W_cycle 11 = .ok (.aload_n 0, 1) := by decide +kernel
theorem d_W_cycle_12 : decode c_W_cycle 12 = .ok (.lload_n 1, 1) := by decide +kernel
theorem d_W_cycle_13 : decode c_W_cycle 13 = .ok (.putfield 30, 3) := by decide +kernel
theorem d_W_cycle_16 : decode c_W_cycle 16 = .ok (.aload_n 0, 1) := by decide +kernel
theorem d_W_cycle_17 : decode c_W_cycle 17 = .ok (.dup, 1) := by decide +kernel
theorem d_W_cycle_18 : decode c_W_cycle 18 = .ok (.getfield 27, 3) := by decide +kernel
theorem d_W_cycle_21 : decode c_W_cycle 21 = .ok (.iconst 1, 1) := by decide +kernel
theorem d_W_cycle_22 : decode c_W_cycle 22 = .ok (.iadd, 1) := by decide +kernel
theorem d_W_cycle_23 : decode c_W_cycle 23 = .ok (.putfield 27, 3) := by decide +kernel
theorem d_W_cycle_26 : decode c_W_cycle 26 = .ok (.iconst 0, 1) := by decide +kernel
theorem d_W_cycle_27 : decode c_W_cycle 27 = .ok (.istore_n 3, 1) := by decide +kernel
theorem d_W_cycle_28 : decode c_W_cycle 28 = .ok (.iload_n 3, 1) := by decide +kernel
theorem d_W_cycle_29 : decode c_W_cycle 29 = .ok (.aload_n 0, 1) := by decide +kernel
theorem d_W_cycle_30 : decode c_W_cycle 30 = .ok (.getfield 10, 3) := by decide +kernel
theorem d_W_cycle_33 : decode c_W_cycle 33 = .ok (.invokevirtual 57, 3) := by decide +kernel
theorem d_W_cycle_36 : decode c_W_cycle 36 = .ok (.if_icmp .ge 28, 3) := by decide +kernel
theorem d_W_cycle_39 : decode c_W_cycle 39 = .ok (.aload_n 0, 1) := by decide +kernel
theorem d_W_cycle_40 : decode c_W_cycle 40 = .ok (.getfield 10, 3) := by decide +kernel
theorem d_W_cycle_43 : decode c_W_cycle 43 = .ok (.iload_n 3, 1) := by decide +kernel
theorem d_W_cycle_44 : decode c_W_cycle 44 = .ok (.invokevirtual 109, 3) := by decide +kernel
theorem d_W_cycle_47 : decode c_W_cycle 47 = .ok (.checkcast 68, 3) := by decide +kernel
theorem d_W_cycle_50 : decode c_W_cycle 50 = .ok (.aload_n 0, 1) := by decide +kernel
theorem d_W_cycle_51 : decode c_W_cycle 51 = .ok (.getfield 27, 3) := by decide +kernel
theorem d_W_cycle_54 : decode c_W_cycle 54 = .ok (.lload_n 1, 1) := by decide +kernel
theorem d_W_cycle_55 : decode c_W_cycle 55 = .ok (.invokevirtual 113, 3) := by decide +kernel
theorem d_W_cycle_58 : decode c_W_cycle 58 = .ok (.iinc 3 1, 3) := by decide +kernel
theorem d_W_cycle_61 : decode c_W_cycle 61 = .ok (.goto (-33), 3) := by decide +kernel
theorem d_W_cycle_64 : decode c_W_cycle 64 = .ok (.aload_n 0, 1) := by decide +kernel
theorem d_W_cycle_65 : decode c_W_cycle 65 = .ok (.invokevirtual 117, 3) := by decide +kernel
theorem d_W_cycle_68 : decode c_W_cycle 68 = .ok (.istore_n 3, 1) := by decide +kernel
theorem d_W_cycle_69 : decode c_W_cycle 69 = .ok (.aload_n 0, 1) := by decide +kernel
theorem d_W_cycle_70 : decode c_W_cycle 70 = .ok (.iload_n 3, 1) := by decide +kernel
theorem d_W_cycle_71 : decode c_W_cycle 71 = .ok (.iconst 2, 1) := by decide +kernel
theorem d_W_cycle_72 : decode c_W_cycle 72 = .ok (.if_icmp .ne 12, 3) := by decide +kernel
theorem d_W_cycle_75 : decode c_W_cycle 75 = .ok (.aload_n 0, 1) := by decide +kernel
theorem d_W_cycle_76 : decode c_W_cycle 76 = .ok (.getfield 40, 3) := by decide +kernel
theorem d_W_cycle_79 : decode c_W_cycle 79 = .ok (.iconst 1, 1) := by decide +kernel
theorem d_W_cycle_80 : decode c_W_cycle 80 = .ok (.iadd, 1) := by decide +kernel
theorem d_W_cycle_81 : decode c_W_cycle 81 = .ok (.goto 4, 3) := by decide +kernel
theorem d_W_cycle_84 : decode c_W_cycle 84 = .ok (.iconst 0, 1) := by decide +kernel
theorem d_W_cycle_85 : decode c_W_cycle 85 = .ok (.putfield 40, 3) := by decide +kernel
theorem d_W_cycle_88 : decode c_W_cycle 88 = .ok (.aload_n 0, 1) := by decide +kernel
theorem d_W_cycle_89 : decode c_W_cycle 89 = .ok (.getfield 40, 3) := by decide +kernel
theorem d_W_cycle_92 : decode c_W_cycle 92 = .ok (.aload_n 0, 1) := by decide +kernel
theorem d_W_cycle_93 : decode c_W_cycle 93 = .ok (.getfield 37, 3) := by decide +kernel
theorem d_W_cycle_96 : decode c_W_cycle 96 = .ok (.if_icmp .le 10, 3) := by decide +kernel
theorem d_W_cycle_99 : decode c_W_cycle 99 = .ok (.aload_n 0, 1) := by decide +kernel
theorem d_W_cycle_100 : decode c_W_cycle 100 = .ok (.iconst 1, 1) := by decide +kernel
theorem d_W_cycle_101 : decode c_W_cycle 101 = .ok (.invokevirtual 120, 3) := by decide +kernel
theorem d_W_cycle_104 : decode c_W_cycle 104 = .ok (.iconst 3, 1) := by decide +kernel
theorem d_W_cycle_105 : decode c_W_cycle 105 = .ok (.ireturn, 1) := by decide +kernel
theorem d_W_cycle_106 : decode c_W_cycle 106 = .ok (.iload_n 3, 1) := by decide +kernel
theorem d_W_cycle_107 : decode c_W_cycle 107 = .ok (.ireturn, 1) := by decide +kernel
theorem d_W_tolerance_0 : decode c_W_tolerance 0 = .ok (.aload_n 0, 1) := by decide +kernel
theorem d_W_tolerance_1 : decode c_W_tolerance 1 = .ok (.iload_n 1, 1) := by decide +kernel
theorem d_W_tolerance_2 : decode c_W_tolerance 2 = .ok (.invokevirtual 77, 3) := by decide +kernel
theorem d_W_tolerance_5 : decode c_W_tolerance 5 = .ok (.astore_n 3, 1) := by decide +kernel
theorem d_W_tolerance_6 : decode c_W_tolerance 6 = .ok (.aload_n 3, 1) := by decide +kernel
theorem d_W_tolerance_7 : decode c_W_tolerance 7 = .ok (.ifnonnull 9, 3) := by decide +kernel
theorem d_W_tolerance_10 : decode c_W_tolerance 10 = .ok (.iload_n 1, 1) := by decide +kernel
theorem d_W_tolerance_11 : decode c_W_tolerance 11 = .ok (.ifCond .eq 5, 3) := by decide +kernel
theorem d_W_tolerance_14 : decode c_W_tolerance 14 = .ok (.iconst (-1), 1) := by decide +kernel
theorem d_W_tolerance_15 : decode c_W_tolerance 15 = .ok (.ireturn, 1) := by decide +kernel
theorem d_W_tolerance_16 : decode c_W_tolerance 16 = .ok (.iload_n 2, 1) := by decide +kernel
theorem d_W_tolerance_17 : decode c_W_tolerance 17 = .ok (.i2l, 1) := by decide +kernel
theorem d_W_tolerance_18 : decode c_W_tolerance 18 = .ok (.lconst 0, 1) := by decide +kernel
theorem d_W_tolerance_19 : decode c_W_tolerance 19 = .ok (.ldc2_w 55, 3) := by decide +kernel
theorem d_W_tolerance_22 : decode c_W_tolerance 22 = .ok (.invokestatic 51, 3) := by decide +kernel
theorem d_W_tolerance_25 : decode c_W_tolerance 25 = .ok (.ifCond .ne 6, 3) := by decide +kernel
theorem d_W_tolerance_28 : decode c_W_tolerance 28 = .ok (.bipush (-2), 2) := by decide +kernel
theorem d_W_tolerance_30 : decode c_W_tolerance 30 = .ok (.ireturn, 1) := by decide +kernel
theorem d_W_tolerance_31 : decode c_W_tolerance 31 = .ok (.aload_n 3, 1) := by decide +kernel
theorem d_W_tolerance_32 : decode c_W_tolerance 32 = .ok (.ifnonnull 11, 3) := by decide +kernel
theorem d_W_tolerance_35 : decode c_W_tolerance 35 = .ok (.aload_n 0, 1) := by decide +kernel
theorem d_W_tolerance_36 : decode c_W_tolerance 36 = .ok (.iload_n 2, 1) := by decide +kernel
theorem d_W_tolerance_37 : decode c_W_tolerance 37 = .ok (.putfield 37, 3) := by decide +kernel
theorem d_W_tolerance_40 : decode c_W_tolerance 40 = .ok (.goto 8, 3) := by decide +kernel
theorem d_W_tolerance_43 : decode c_W_tolerance 43 = .ok (.aload_n 3, 1) := by decide +kernel
theorem d_W_tolerance_44 : decode c_W_tolerance 44 = .ok (.iload_n 2, 1) := by decide +kernel
theorem d_W_tolerance_45 : decode c_W_tolerance 45 = .ok (.putfield 124, 3) := by decide +kernel
theorem d_W_tolerance_48 : decode c_W_tolerance 48 = .ok (.iconst 1, 1) := by decide +kernel
theorem d_W_tolerance_49 : decode c_W_tolerance 49 = .ok (.ireturn, 1) := by decide +kernel
theorem d_W_answer_0 : decode c_W_answer 0 = .ok (.iload_n 1, 1) := by decide +kernel
theorem d_W_answer_1 : decode c_W_answer 1 = .ok (.i2l, 1) := by decide +kernel
theorem d_W_answer_2 : decode c_W_answer 2 = .ok (.lconst 0, 1) := by decide +kernel
theorem d_W_answer_3 : decode c_W_answer 3 = .ok (.ldc2_w 127, 3) := by decide +kernel
theorem d_W_answer_6 : decode c_W_answer 6 = .ok (.invokestatic 51, 3) := by decide +kernel
theorem d_W_answer_9 : decode c_W_answer 9 = .ok (.ifCond .eq 12, 3) := by decide +kernel
theorem d_W_answer_12 : decode c_W_answer 12 = .ok (.aload_n 0, 1) := by decide +kernel
theorem d_W_answer_13 : decode c_W_answer 13 = .ok (.lload 4, 2) := by decide +kernel
theorem d_W_answer_15 : decode c_W_answer 15 = .ok (.invokevirtual 99, 3) := by decide +kernel
theorem d_W_answer_18 : decode c_W_answer 18 = .ok (.ifCond .ne 6, 3) := by decide +kernel
theorem d_W_answer_21 : decode c_W_answer 21 = .ok (.bipush (-2), 2) := by decide +kernel
theorem d_W_answer_23 : decode c_W_answer 23 = .ok (.ireturn, 1) := by decide +kernel
theorem d_W_answer_24 : decode c_W_answer 24 = .ok (.aload_n 0, 1) := by decide +kernel
theorem d_W_answer_25 : decode c_W_answer 25 = .ok (.lload 4, 2) := by decide +kernel
theorem d_W_answer_27 : decode c_W_answer 27 = .ok (.putfield 30, 3) := by decide +kernel
theorem d_W_answer_30 : decode c_W_answer 30 = .ok (.aload_n 0, 1) := by decide +kernel
theorem d_W_answer_31 : decode c_W_answer 31 = .ok (.getfield 19, 3) := by decide +kernel
theorem d_W_answer_34 : decode c_W_answer 34 = .ok (.iload_n 1, 1) := by decide +kernel
theorem d_W_answer_35 : decode c_W_answer 35 = .ok (.lload_n 2, 1) := by decide +kernel
theorem d_W_answer_36 : decode c_W_answer 36 = .ok (.lload 4, 2) := by decide +kernel
theorem d_W_answer_38 : decode c_W_answer 38 = .ok (.invokevirtual 129, 3) := by decide +kernel
theorem d_W_answer_41 : decode c_W_answer 41 = .ok (.ifCond .eq 15, 3) := by decide +kernel
theorem d_W_answer_44 : decode c_W_answer 44 = .ok (.aload_n 0, 1) := by decide +kernel
theorem d_W_answer_45 : decode c_W_answer 45 = .ok (.getfield 19, 3) := by decide +kernel
theorem d_W_answer_48 : decode c_W_answer 48 = .ok (.iload_n 1, 1) := by decide +kernel
theorem d_W_answer_49 : decode c_W_answer 49 = .ok (.lload 4, 2) := by decide +kernel
theorem d_W_answer_51 : decode c_W_answer 51 = .ok (.invokevirtual 133, 3) := by decide +kernel
theorem d_W_answer_54 : decode c_W_answer 54 = .ok (.iconst 1, 1) := by decide +kernel
theorem d_W_answer_55 : decode c_W_answer 55 = .ok (.ireturn, 1) := by decide +kernel
theorem d_W_answer_56 : decode c_W_answer 56 = .ok (.aload_n 0, 1) := by decide +kernel
theorem d_W_answer_57 : decode c_W_answer 57 = .ok (.getfield 19, 3) := by decide +kernel
theorem d_W_answer_60 : decode c_W_answer 60 = .ok (.lload 4, 2) := by decide +kernel
theorem d_W_answer_62 : decode c_W_answer 62 = .ok (.invokevirtual 136, 3) := by decide +kernel
theorem d_W_answer_65 : decode c_W_answer 65 = .ok (.aload_n 0, 1) := by decide +kernel
theorem d_W_answer_66 : decode c_W_answer 66 = .ok (.getfield 19, 3) := by decide +kernel
theorem d_W_answer_69 : decode c_W_answer 69 = .ok (.getfield 140, 3) := by decide +kernel
theorem d_W_answer_72 : decode c_W_answer 72 = .ok (.bipush 8, 2) := by decide +kernel
theorem d_W_answer_74 : decode c_W_answer 74 = .ok (.if_icmp .lt 8, 3) := by decide +kernel
theorem d_W_answer_77 : decode c_W_answer 77 = .ok (.aload_n 0, 1) := by decide +kernel
theorem d_W_answer_78 : decode c_W_answer 78 = .ok (.iconst 2, 1) := by decide +kernel
theorem d_W_answer_79 : decode c_W_answer 79 = .ok (.invokevirtual 120, 3) := by decide +kernel
theorem d_W_answer_82 : decode c_W_answer 82 = .ok (.iconst 0, 1) := by decide +kernel
theorem d_W_answer_83 : decode c_W_answer 83 = .ok (.ireturn, 1) := by decide +kernel
theorem d_W_mode_0 : decode c_W_mode 0 = .ok (.iload_n 1, 1) := by decide +kernel
theorem d_W_mode_1 : decode c_W_mode 1 = .ok (.i2l, 1) := by decide +kernel
theorem d_W_mode_2 : decode c_W_mode 2 = .ok (.lconst 0, 1) := by decide +kernel
theorem d_W_mode_3 : decode c_W_mode 3 = .ok (.ldc2_w 127, 3) := by decide +kernel
theorem d_W_mode_6 : decode c_W_mode 6 = .ok (.invokestatic 51, 3) := by decide +kernel
theorem d_W_mode_9 : decode c_W_mode 9 = .ok (.ifCond .ne 6, 3) := by decide +kernel
theorem d_W_mode_12 : decode c_W_mode 12 = .ok (.bipush (-2), 2) := by decide +kernel
theorem d_W_mode_14 : decode c_W_mode 14 = .ok (.ireturn, 1) := by decide +kernel
theorem d_W_mode_15 : decode c_W_mode 15 = .ok (.aload_n 0, 1) := by decide +kernel
theorem d_W_mode_16 : decode c_W_mode 16 = .ok (.getfield 23, 3) := by decide +kernel
theorem d_W_mode_19 : decode c_W_mode 19 = .ok (.istore_n 2, 1) := by decide +kernel
theorem d_W_mode_20 : decode c_W_mode 20 = .ok (.iload_n 1, 1) := by decide +kernel
theorem d_W_mode_21 : decode c_W_mode 21 = .ok (.iload_n 2, 1) := by decide +kernel
theorem d_W_mode_22 : decode c_W_mode 22 = .ok (.if_icmp .eq 41, 3) := by decide +kernel
theorem d_W_mode_25 : decode c_W_mode 25 = .ok (.aload_n 0, 1) := by decide +kernel
theorem d_W_mode_26 : decode c_W_mode 26 = .ok (.iload_n 1, 1) := by decide +kernel
theorem d_W_mode_27 : decode c_W_mode 27 = .ok (.putfield 23, 3) := by decide +kernel
theorem d_W_mode_30 : decode c_W_mode 30 = .ok (.iconst 0, 1) := by decide +kernel
theorem d_W_mode_31 : decode c_W_mode 31 = .ok (.istore_n 3, 1) := by decide +kernel
theorem d_W_mode_32 : decode c_W_mode 32 = .ok (.iload_n 3, 1) := by decide +kernel
theorem d_W_mode_33 : decode c_W_mode 33 = .ok (.aload_n 0, 1) := by decide +kernel
theorem d_W_mode_34 : decode c_W_mode 34 = .ok (.getfield 10, 3) := by decide +kernel
theorem d_W_mode_37 : decode c_W_mode 37 = .ok (.invokevirtual 57, 3) := by decide +kernel
theorem d_W_mode_40 : decode c_W_mode 40 = .ok (.if_icmp .ge 23, 3) := by decide +kernel
theorem d_W_mode_43 : decode c_W_mode 43 = .ok (.aload_n 0, 1) := by decide +kernel
theorem d_W_mode_44 : decode c_W_mode 44 = .ok (.getfield 10, 3) := by decide +kernel
theorem d_W_mode_47 : decode c_W_mode 47 = .ok (.iload_n 3, 1) := by decide +kernel
theorem d_W_mode_48 : decode c_W_mode 48 = .ok (.invokevirtual 109, 3) := by decide +kernel
theorem d_W_mode_51 : decode c_W_mode 51 = .ok (.checkcast 68, 3) := by decide +kernel
theorem d_W_mode_54 : decode c_W_mode 54 = .ok (.invokevirtual 143, 3) := by decide +kernel
theorem d_W_mode_57 : decode c_W_mode 57 = .ok (.iinc 3 1, 3) := by decide +kernel
theorem d_W_mode_60 : decode c_W_mode 60 = .ok (.goto (-28), 3) := by decide +kernel
theorem d_W_mode_63 : decode c_W_mode 63 = .ok (.iload_n 2, 1) := by decide +kernel
theorem d_W_mode_64 : decode c_W_mode 64 = .ok (.ireturn, 1) := by decide +kernel
theorem d_W_reset_0 : decode c_W_reset 0 = .ok (.iload_n 1, 1) := by decide +kernel
theorem d_W_reset_1 : decode c_W_reset 1 = .ok (.tableswitch 80 0 5 #[39, 49, 54, 59, 67, 75], 39) := by decide +kernel
theorem d_W_reset_40 : decode c_W_reset 40 = .ok (.aload_n 0, 1) := by decide +kernel
theorem d_W_reset_41 : decode c_W_reset 41 = .ok (.iconst 4, 1) := by decide +kernel
theorem d_W_reset_42 : decode c_W_reset 42 = .ok (.invokevirtual 120, 3) := by decide +kernel
theorem d_W_reset_45 : decode c_W_reset 45 = .ok (.aload_n 0, 1) := by decide +kernel
theorem d_W_reset_46 : decode c_W_reset 46 = .ok (.getfield 43, 3) := by decide +kernel
theorem d_W_reset_49 : decode c_W_reset 49 = .ok (.ireturn, 1) := by decide +kernel
theorem d_W_reset_50 : decode c_W_reset 50 = .ok (.aload_n 0, 1) := by decide +kernel
theorem d_W_reset_51 : decode c_W_reset 51 = .ok (.getfield 43, 3) := by decide +kernel
theorem d_W_reset_54 : decode c_W_reset 54 = .ok (.ireturn, 1) := by decide +kernel
theorem d_W_reset_55 : decode c_W_reset 55 = .ok (.aload_n 0, 1) := by decide +kernel
theorem d_W_reset_56 : decode c_W_reset 56 = .ok (.getfield 46, 3) := by decide +kernel
theorem d_W_reset_59 : decode c_W_reset 59 = .ok (.ireturn, 1) := by decide +kernel
theorem d_W_reset_60 : decode c_W_reset 60 = .ok (.aload_n 0, 1) := by decide +kernel
theorem d_W_reset_61 : decode c_W_reset 61 = .ok (.getfield 19, 3) := by decide +kernel
theorem d_W_reset_64 : decode c_W_reset 64 = .ok (.getfield 146, 3) := by decide +kernel
theorem d_W_reset_67 : decode c_W_reset 67 = .ok (.ireturn, 1) := by decide +kernel
theorem d_W_reset_68 : decode c_W_reset 68 = .ok (.aload_n 0, 1) := by decide +kernel
theorem d_W_reset_69 : decode c_W_reset 69 = .ok (.getfield 19, 3) := by decide +kernel
theorem d_W_reset_72 : decode c_W_reset 72 = .ok (.getfield 140, 3) := by decide +kernel
theorem d_W_reset_75 : decode c_W_reset 75 = .ok (.ireturn, 1) := by decide +kernel
theorem d_W_reset_76 : decode c_W_reset 76 = .ok (.aload_n 0, 1) := by decide +kernel
theorem d_W_reset_77 : decode c_W_reset 77 = .ok (.getfield 27, 3) := by decide +kernel
theorem d_W_reset_80 : decode c_W_reset 80 = .ok (.ireturn, 1) := by decide +kernel
theorem d_W_reset_81 : decode c_W_reset 81 = .ok (.bipush (-2), 2) := by decide +kernel
theorem d_W_reset_83 : decode c_W_reset 83 = .ok (.ireturn, 1) := by decide +kernel
theorem d_W_outer_0 : decode c_W_outer 0 = .ok (.aload_n 0, 1) := by decide +kernel
theorem d_W_outer_1 : decode c_W_outer 1 = .ok (.lload_n 1, 1) := by decide +kernel
theorem d_W_outer_2 : decode c_W_outer 2 = .ok (.invokevirtual 99, 3) := by decide +kernel
theorem d_W_outer_5 : decode c_W_outer 5 = .ok (.ifCond .ne 6, 3) := by decide +kernel
theorem d_W_outer_8 : decode c_W_outer 8 = .ok (.bipush (-2), 2) := by decide +kernel
theorem d_W_outer_10 : decode c_W_outer 10 = .ok (.ireturn, 1) := by decide +kernel
theorem d_W_outer_11 : decode c_W_outer 11 = .ok (.aload_n 0, 1) := by decide +kernel
theorem d_W_outer_12 : decode c_W_outer 12 = .ok (.lload_n 1, 1) := by decide +kernel
theorem d_W_outer_13 : decode c_W_outer 13 = .ok (.putfield 30, 3) := by decide +kernel
theorem d_W_outer_16 : decode c_W_outer 16 = .ok (.lload_n 1, 1) := by decide +kernel
theorem d_W_outer_17 : decode c_W_outer 17 = .ok (.aload_n 0, 1) := by decide +kernel
theorem d_W_outer_18 : decode c_W_outer 18 = .ok (.getfield 34, 3) := by decide +kernel
theorem d_W_outer_21 : decode c_W_outer 21 = .ok (.lsub, 1) := by decide +kernel
theorem d_W_outer_22 : decode c_W_outer 22 = .ok (.ldc2_w 55, 3) := by decide +kernel
theorem d_W_outer_25 : decode c_W_outer 25 = .ok (.lcmp, 1) := by decide +kernel
theorem d_W_outer_26 : decode c_W_outer 26 = .ok (.ifCond .le 10, 3) := by decide +kernel
theorem d_W_outer_29 : decode c_W_outer 29 = .ok (.aload_n 0, 1) := by decide +kernel
theorem d_W_outer_30 : decode c_W_outer 30 = .ok (.iconst 3, 1) := by decide +kernel
theorem d_W_outer_31 : decode c_W_outer 31 = .ok (.invokevirtual 120, 3) := by decide +kernel
theorem d_W_outer_34 : decode c_W_outer 34 = .ok (.iconst 0, 1) := by decide +kernel
theorem d_W_outer_35 : decode c_W_outer 35 = .ok (.ireturn, 1) := by decide +kernel
theorem d_W_outer_36 : decode c_W_outer 36 = .ok (.aload_n 0, 1) := by decide +kernel
theorem d_W_outer_37 : decode c_W_outer 37 = .ok (.lload_n 1, 1) := by decide +kernel
theorem d_W_outer_38 : decode c_W_outer 38 = .ok (.putfield 34, 3) := by decide +kernel
theorem d_W_outer_41 : decode c_W_outer 41 = .ok (.iconst 1, 1) := by decide +kernel
theorem d_W_outer_42 : decode c_W_outer 42 = .ok (.ireturn, 1) := by decide +kernel
theorem d_W_state_0 : decode c_W_state 0 = .ok (.aload_n 0, 1) := by decide +kernel
theorem d_W_state_1 : decode c_W_state 1 = .ok (.iload_n 1, 1) := by decide +kernel
theorem d_W_state_2 : decode c_W_state 2 = .ok (.invokevirtual 77, 3) := by decide +kernel
theorem d_W_state_5 : decode c_W_state 5 = .ok (.astore_n 2, 1) := by decide +kernel
theorem d_W_state_6 : decode c_W_state 6 = .ok (.aload_n 2, 1) := by decide +kernel
theorem d_W_state_7 : decode c_W_state 7 = .ok (.ifnonnull 7, 3) := by decide +kernel
theorem d_W_state_10 : decode c_W_state 10 = .ok (.iconst (-1), 1) := by decide +kernel
theorem d_W_state_11 : decode c_W_state 11 = .ok (.goto 7, 3) := by decide +kernel
theorem d_W_state_14 : decode c_W_state 14 = .ok (.aload_n 2, 1) := by decide +kernel
theorem d_W_state_15 : decode c_W_state 15 = .ok (.getfield 106, 3) := by decide +kernel
theorem d_W_state_18 : decode c_W_state 18 = .ok (.ireturn, 1) := by decide +kernel
theorem d_W_isWithin_0 : decode c_W_isWithin 0 = .ok (.lload_n 0, 1) := by decide +kernel
theorem d_W_isWithin_1 : decode c_W_isWithin 1 = .ok (.lload_n 2, 1) := by decide +kernel
theorem d_W_isWithin_2 : decode c_W_isWithin 2 = .ok (.lcmp, 1) := by decide +kernel
theorem d_W_isWithin_3 : decode c_W_isWithin 3 = .ok (.ifCond .lt 14, 3) := by decide +kernel
theorem d_W_isWithin_6 : decode c_W_isWithin 6 = .ok (.lload_n 0, 1) := by decide +kernel
theorem d_W_isWithin_7 : decode c_W_isWithin 7 = .ok (.lload 4, 2) := by decide +kernel
theorem d_W_isWithin_9 : decode c_W_isWithin 9 = .ok (.lcmp, 1) := by decide +kernel
theorem d_W_isWithin_10 : decode c_W_isWithin 10 = .ok (.ifCond .gt 7, 3) := by decide +kernel
theorem d_W_isWithin_13 : decode c_W_isWithin 13 = .ok (.iconst 1, 1) := by decide +kernel
theorem d_W_isWithin_14 : decode c_W_isWithin 14 = .ok (.goto 4, 3) := by decide +kernel
theorem d_W_isWithin_17 : decode c_W_isWithin 17 = .ok (.iconst 0, 1) := by decide +kernel
theorem d_W_isWithin_18 : decode c_W_isWithin 18 = .ok (.ireturn, 1) := by decide +kernel
theorem d_W_isPoint_0 : decode c_W_isPoint 0 = .ok (.iload_n 0, 1) := by decide +kernel
theorem d_W_isPoint_1 : decode c_W_isPoint 1 = .ok (.i2l, 1) := by decide +kernel
theorem d_W_isPoint_2 : decode c_W_isPoint 2 = .ok (.lconst 1, 1) := by decide +kernel
theorem d_W_isPoint_3 : decode c_W_isPoint 3 = .ok (.ldc2_w 149, 3) := by decide +kernel
theorem d_W_isPoint_6 : decode c_W_isPoint 6 = .ok (.invokestatic 51, 3) := by decide +kernel
theorem d_W_isPoint_9 : decode c_W_isPoint 9 = .ok (.ireturn, 1) := by decide +kernel
theorem d_W_isTime_0 : decode c_W_isTime 0 = .ok (.lload_n 1, 1) := by decide +kernel
theorem d_W_isTime_1 : decode c_W_isTime 1 = .ok (.aload_n 0, 1) := by decide +kernel
theorem d_W_isTime_2 : decode c_W_isTime 2 = .ok (.getfield 30, 3) := by decide +kernel
theorem d_W_isTime_5 : decode c_W_isTime 5 = .ok (.ldc2_w 151, 3) := by decide +kernel
theorem d_W_isTime_8 : decode c_W_isTime 8 = .ok (.invokestatic 51, 3) := by decide +kernel
theorem d_W_isTime_11 : decode c_W_isTime 11 = .ok (.ireturn, 1) := by decide +kernel
theorem d_W_findPart_0 : decode c_W_findPart 0 = .ok (.iload_n 1, 1) := by decide +kernel
theorem d_W_findPart_1 : decode c_W_findPart 1 = .ok (.i2l, 1) := by decide +kernel
theorem d_W_findPart_2 : decode c_W_findPart 2 = .ok (.lconst 1, 1) := by decide +kernel
theorem d_W_findPart_3 : decode c_W_findPart 3 = .ok (.aload_n 0, 1) := by decide +kernel
theorem d_W_findPart_4 : decode c_W_findPart 4 = .ok (.getfield 10, 3) := by decide +kernel
theorem d_W_findPart_7 : decode c_W_findPart 7 = .ok (.invokevirtual 57, 3) := by decide +kernel
theorem d_W_findPart_10 : decode c_W_findPart 10 = .ok (.i2l, 1) := by decide +kernel
theorem d_W_findPart_11 : decode c_W_findPart 11 = .ok (.invokestatic 51, 3) := by decide +kernel
theorem d_W_findPart_14 : decode c_W_findPart 14 = .ok (.ifCond .eq 19, 3) := by decide +kernel
theorem d_W_findPart_17 : decode c_W_findPart 17 = .ok (.aload_n 0, 1) := by decide +kernel
theorem d_W_findPart_18 : decode c_W_findPart 18 = .ok (.getfield 10, 3) := by decide +kernel
theorem d_W_findPart_21 : decode c_W_findPart 21 = .ok (.iload_n 1, 1) := by decide +kernel
theorem d_W_findPart_22 : decode c_W_findPart 22 = .ok (.iconst 1, 1) := by decide +kernel
theorem d_W_findPart_23 : decode c_W_findPart 23 = .ok (.isub, 1) := by decide +kernel
theorem d_W_findPart_24 : decode c_W_findPart 24 = .ok (.invokevirtual 109, 3) := by decide +kernel
theorem d_W_findPart_27 : decode c_W_findPart 27 = .ok (.checkcast 68, 3) := by decide +kernel
theorem d_W_findPart_30 : decode c_W_findPart 30 = .ok (.goto 4, 3) := by decide +kernel
theorem d_W_findPart_33 : decode c_W_findPart 33 = .ok (.aconst_null, 1) := by decide +kernel
theorem d_W_findPart_34 : decode c_W_findPart 34 = .ok (.areturn, 1) := by decide +kernel
theorem d_W_worstCondition_0 : decode c_W_worstCondition 0 = .ok (.iconst 0, 1) := by decide +kernel
theorem d_W_worstCondition_1 : decode c_W_worstCondition 1 = .ok (.istore_n 1, 1) := by decide +kernel
theorem d_W_worstCondition_2 : decode c_W_worstCondition 2 = .ok (.iconst 0, 1) := by decide +kernel
theorem d_W_worstCondition_3 : decode c_W_worstCondition 3 = .ok (.istore_n 2, 1) := by decide +kernel
theorem d_W_worstCondition_4 : decode c_W_worstCondition 4 = .ok (.iload_n 2, 1) := by decide +kernel
theorem d_W_worstCondition_5 : decode c_W_worstCondition 5 = .ok (.aload_n 0, 1) := by decide +kernel
theorem d_W_worstCondition_6 : decode c_W_worstCondition 6 = .ok (.getfield 10, 3) := by decide +kernel
theorem d_W_worstCondition_9 : decode c_W_worstCondition 9 = .ok (.invokevirtual 57, 3) := by decide +kernel
theorem d_W_worstCondition_12 : decode c_W_worstCondition 12 = .ok (.if_icmp .ge 28, 3) := by decide +kernel
theorem d_W_worstCondition_15 : decode c_W_worstCondition 15 = .ok (.iload_n 1, 1) := by decide +kernel
theorem d_W_worstCondition_16 : decode c_W_worstCondition 16 = .ok (.aload_n 0, 1) := by decide +kernel
theorem d_W_worstCondition_17 : decode c_W_worstCondition 17 = .ok (.getfield 10, 3) := by decide +kernel
theorem d_W_worstCondition_20 : decode c_W_worstCondition 20 = .ok (.iload_n 2, 1) := by decide +kernel
theorem d_W_worstCondition_21 : decode c_W_worstCondition 21 = .ok (.invokevirtual 109, 3) := by decide +kernel
theorem d_W_worstCondition_24 : decode c_W_worstCondition 24 = .ok (.checkcast 68, 3) := by decide +kernel
theorem d_W_worstCondition_27 : decode c_W_worstCondition 27 = .ok (.getfield 106, 3) := by decide +kernel
theorem d_W_worstCondition_30 : decode c_W_worstCondition 30 = .ok (.invokestatic 153, 3) := by decide +kernel
theorem d_W_worstCondition_33 : decode c_W_worstCondition 33 = .ok (.istore_n 1, 1) := by decide +kernel
theorem d_W_worstCondition_34 : decode c_W_worstCondition 34 = .ok (.iinc 2 1, 3) := by decide +kernel
theorem d_W_worstCondition_37 : decode c_W_worstCondition 37 = .ok (.goto (-33), 3) := by decide +kernel
theorem d_W_worstCondition_40 : decode c_W_worstCondition 40 = .ok (.iload_n 1, 1) := by decide +kernel
theorem d_W_worstCondition_41 : decode c_W_worstCondition 41 = .ok (.ireturn, 1) := by decide +kernel
theorem d_W_restart_0 : decode c_W_restart 0 = .ok (.aload_n 0, 1) := by decide +kernel
theorem d_W_restart_1 : decode c_W_restart 1 = .ok (.iload_n 1, 1) := by decide +kernel
theorem d_W_restart_2 : decode c_W_restart 2 = .ok (.putfield 46, 3) := by decide +kernel
theorem d_W_restart_5 : decode c_W_restart 5 = .ok (.aload_n 0, 1) := by decide +kernel
theorem d_W_restart_6 : decode c_W_restart 6 = .ok (.dup, 1) := by decide +kernel
theorem d_W_restart_7 : decode c_W_restart 7 = .ok (.getfield 43, 3) := by decide +kernel
theorem d_W_restart_10 : decode c_W_restart 10 = .ok (.iconst 1, 1) := by decide +kernel
theorem d_W_restart_11 : decode c_W_restart 11 = .ok (.iadd, 1) := by decide +kernel
theorem d_W_restart_12 : decode c_W_restart 12 = .ok (.putfield 43, 3) := by decide +kernel
theorem d_W_restart_15 : decode c_W_restart 15 = .ok (.iconst 0, 1) := by decide +kernel
theorem d_W_restart_16 : decode c_W_restart 16 = .ok (.istore_n 2, 1) := by decide +kernel
theorem d_W_restart_17 : decode c_W_restart 17 = .ok (.iload_n 2, 1) := by decide +kernel
theorem d_W_restart_18 : decode c_W_restart 18 = .ok (.aload_n 0, 1) := by decide +kernel
theorem d_W_restart_19 : decode c_W_restart 19 = .ok (.getfield 10, 3) := by decide +kernel
theorem d_W_restart_22 : decode c_W_restart 22 = .ok (.invokevirtual 57, 3) := by decide +kernel
theorem d_W_restart_25 : decode c_W_restart 25 = .ok (.if_icmp .ge 23, 3) := by decide +kernel
theorem d_W_restart_28 : decode c_W_restart 28 = .ok (.aload_n 0, 1) := by decide +kernel
theorem d_W_restart_29 : decode c_W_restart 29 = .ok (.getfield 10, 3) := by decide +kernel
theorem d_W_restart_32 : decode c_W_restart 32 = .ok (.iload_n 2, 1) := by decide +kernel
theorem d_W_restart_33 : decode c_W_restart 33 = .ok (.invokevirtual 109, 3) := by decide +kernel
theorem d_W_restart_36 : decode c_W_restart 36 = .ok (.checkcast 68, 3) := by decide +kernel
theorem d_W_restart_39 : decode c_W_restart 39 = .ok (.invokevirtual 159, 3) := by decide +kernel
theorem d_W_restart_42 : decode c_W_restart 42 = .ok (.iinc 2 1, 3) := by decide +kernel
theorem d_W_restart_45 : decode c_W_restart 45 = .ok (.goto (-28), 3) := by decide +kernel
theorem d_W_restart_48 : decode c_W_restart 48 = .ok (.aload_n 0, 1) := by decide +kernel
theorem d_W_restart_49 : decode c_W_restart 49 = .ok (.iconst 0, 1) := by decide +kernel
theorem d_W_restart_50 : decode c_W_restart 50 = .ok (.putfield 23, 3) := by decide +kernel
theorem d_W_restart_53 : decode c_W_restart 53 = .ok (.aload_n 0, 1) := by decide +kernel
theorem d_W_restart_54 : decode c_W_restart 54 = .ok (.iconst 0, 1) := by decide +kernel
theorem d_W_restart_55 : decode c_W_restart 55 = .ok (.putfield 27, 3) := by decide +kernel
theorem d_W_restart_58 : decode c_W_restart 58 = .ok (.aload_n 0, 1) := by decide +kernel
theorem d_W_restart_59 : decode c_W_restart 59 = .ok (.iconst 0, 1) := by decide +kernel
theorem d_W_restart_60 : decode c_W_restart 60 = .ok (.putfield 40, 3) := by decide +kernel
theorem d_W_restart_63 : decode c_W_restart 63 = .ok (.aload_n 0, 1) := by decide +kernel
theorem d_W_restart_64 : decode c_W_restart 64 = .ok (.getfield 19, 3) := by decide +kernel
theorem d_W_restart_67 : decode c_W_restart 67 = .ok (.aload_n 0, 1) := by decide +kernel
theorem d_W_restart_68 : decode c_W_restart 68 = .ok (.getfield 30, 3) := by decide +kernel
theorem d_W_restart_71 : decode c_W_restart 71 = .ok (.invokevirtual 162, 3) := by decide +kernel
theorem d_W_restart_74 : decode c_W_restart 74 = .ok (.aload_n 0, 1) := by decide +kernel
theorem d_W_restart_75 : decode c_W_restart 75 = .ok (.aload_n 0, 1) := by decide +kernel
theorem d_W_restart_76 : decode c_W_restart 76 = .ok (.getfield 30, 3) := by decide +kernel
theorem d_W_restart_79 : decode c_W_restart 79 = .ok (.putfield 34, 3) := by decide +kernel
theorem d_W_restart_82 : decode c_W_restart 82 = .ok (.return_, 1) := by decide +kernel
theorem d_M_init_0 : decode c_M_init 0 = .ok (.aload_n 0, 1) := by decide +kernel
theorem d_M_init_1 : decode c_M_init 1 = .ok (.invokespecial 1, 3) := by decide +kernel
theorem d_M_init_4 : decode c_M_init 4 = .ok (.aload_n 0, 1) := by decide +kernel
theorem d_M_init_5 : decode c_M_init 5 = .ok (.bipush 21, 2) := by decide +kernel
theorem d_M_init_7 : decode c_M_init 7 = .ok (.newarray .int, 2) := by decide +kernel
theorem d_M_init_9 : decode c_M_init 9 = .ok (.putfield 7, 3) := by decide +kernel
theorem d_M_init_12 : decode c_M_init 12 = .ok (.aload_n 0, 1) := by decide +kernel
theorem d_M_init_13 : decode c_M_init 13 = .ok (.bipush 21, 2) := by decide +kernel
theorem d_M_init_15 : decode c_M_init 15 = .ok (.newarray .int, 2) := by decide +kernel
theorem d_M_init_17 : decode c_M_init 17 = .ok (.putfield 13, 3) := by decide +kernel
theorem d_M_init_20 : decode c_M_init 20 = .ok (.aload_n 0, 1) := by decide +kernel
theorem d_M_init_21 : decode c_M_init 21 = .ok (.bipush 21, 2) := by decide +kernel
theorem d_M_init_23 : decode c_M_init 23 = .ok (.newarray .int, 2) := by decide +kernel
theorem d_M_init_25 : decode c_M_init 25 = .ok (.putfield 16, 3) := by decide +kernel
theorem d_M_init_28 : decode c_M_init 28 = .ok (.aload_n 0, 1) := by decide +kernel
theorem d_M_init_29 : decode c_M_init 29 = .ok (.bipush 21, 2) := by decide +kernel
theorem d_M_init_31 : decode c_M_init 31 = .ok (.newarray .int, 2) := by decide +kernel
theorem d_M_init_33 : decode c_M_init 33 = .ok (.putfield 19, 3) := by decide +kernel
theorem d_M_init_36 : decode c_M_init 36 = .ok (.aload_n 0, 1) := by decide +kernel
theorem d_M_init_37 : decode c_M_init 37 = .ok (.bipush 21, 2) := by decide +kernel
theorem d_M_init_39 : decode c_M_init 39 = .ok (.newarray .int, 2) := by decide +kernel
theorem d_M_init_41 : decode c_M_init 41 = .ok (.putfield 22, 3) := by decide +kernel
theorem d_M_init_44 : decode c_M_init 44 = .ok (.aload_n 0, 1) := by decide +kernel
theorem d_M_init_45 : decode c_M_init 45 = .ok (.bipush 21, 2) := by decide +kernel
theorem d_M_init_47 : decode c_M_init 47 = .ok (.newarray .int, 2) := by decide +kernel
theorem d_M_init_49 : decode c_M_init 49 = .ok (.putfield 25, 3) := by decide +kernel
theorem d_M_init_52 : decode c_M_init 52 = .ok (.aload_n 0, 1) := by decide +kernel
theorem d_M_init_53 : decode c_M_init 53 = .ok (.bipush 21, 2) := by decide +kernel
theorem d_M_init_55 : decode c_M_init 55 = .ok (.newarray .int, 2) := by decide +kernel
theorem d_M_init_57 : decode c_M_init 57 = .ok (.putfield 28, 3) := by decide +kernel
theorem d_M_init_60 : decode c_M_init 60 = .ok (.aload_n 0, 1) := by decide +kernel
theorem d_M_init_61 : decode c_M_init 61 = .ok (.bipush 21, 2) := by decide +kernel
theorem d_M_init_63 : decode c_M_init 63 = .ok (.newarray .boolean, 2) := by decide +kernel
theorem d_M_init_65 : decode c_M_init 65 = .ok (.putfield 31, 3) := by decide +kernel
theorem d_M_init_68 : decode c_M_init 68 = .ok (.aload_n 0, 1) := by decide +kernel
theorem d_M_init_69 : decode c_M_init 69 = .ok (.bipush 21, 2) := by decide +kernel
theorem d_M_init_71 : decode c_M_init 71 = .ok (.newarray .int, 2) := by decide +kernel
theorem d_M_init_73 : decode c_M_init 73 = .ok (.putfield 35, 3) := by decide +kernel
theorem d_M_init_76 : decode c_M_init 76 = .ok (.aload_n 0, 1) := by decide +kernel
theorem d_M_init_77 : decode c_M_init 77 = .ok (.ldc 38, 2) := by decide +kernel
theorem d_M_init_79 : decode c_M_init 79 = .ok (.newarray .boolean, 2) := by decide +kernel
theorem d_M_init_81 : decode c_M_init 81 = .ok (.putfield 39, 3) := by decide +kernel
theorem d_M_init_84 : decode c_M_init 84 = .ok (.aload_n 0, 1) := by decide +kernel
theorem d_M_init_85 : decode c_M_init 85 = .ok (.bipush 21, 2) := by decide +kernel
theorem d_M_init_87 : decode c_M_init 87 = .ok (.newarray .int, 2) := by decide +kernel
theorem d_M_init_89 : decode c_M_init 89 = .ok (.putfield 42, 3) := by decide +kernel
theorem d_M_init_92 : decode c_M_init 92 = .ok (.aload_n 0, 1) := by decide +kernel
theorem d_M_init_93 : decode c_M_init 93 = .ok (.sipush 210, 3) := by decide +kernel
theorem d_M_init_96 : decode c_M_init 96 = .ok (.newarray .int, 2) := by decide +kernel
theorem d_M_init_98 : decode c_M_init 98 = .ok (.putfield 45, 3) := by decide +kernel
theorem d_M_init_101 : decode c_M_init 101 = .ok (.aload_n 0, 1) := by decide +kernel
theorem d_M_init_102 : decode c_M_init 102 = .ok (.sipush 210, 3) := by decide +kernel
theorem d_M_init_105 : decode c_M_init 105 = .ok (.newarray .int, 2) := by decide +kernel
theorem d_M_init_107 : decode c_M_init 107 = .ok (.putfield 48, 3) := by decide +kernel
theorem d_M_init_110 : decode c_M_init 110 = .ok (.aload_n 0, 1) := by decide +kernel
theorem d_M_init_111 : decode c_M_init 111 = .ok (.sipush 210, 3) := by decide +kernel
theorem d_M_init_114 : decode c_M_init 114 = .ok (.newarray .int, 2) := by decide +kernel
theorem d_M_init_116 : decode c_M_init 116 = .ok (.putfield 51, 3) := by decide +kernel
theorem d_M_init_119 : decode c_M_init 119 = .ok (.aload_n 0, 1) := by decide +kernel
theorem d_M_init_120 : decode c_M_init 120 = .ok (.sipush 210, 3) := by decide +kernel
theorem d_M_init_123 : decode c_M_init 123 = .ok (.newarray .long, 2) := by decide +kernel
theorem d_M_init_125 : decode c_M_init 125 = .ok (.putfield 54, 3) := by decide +kernel
theorem d_M_init_128 : decode c_M_init 128 = .ok (.aload_n 0, 1) := by decide +kernel
theorem d_M_init_129 : decode c_M_init 129 = .ok (.sipush 210, 3) := by decide +kernel
theorem d_M_init_132 : decode c_M_init 132 = .ok (.newarray .long, 2) := by decide +kernel
theorem d_M_init_134 : decode c_M_init 134 = .ok (.putfield 58, 3) := by decide +kernel
theorem d_M_init_137 : decode c_M_init 137 = .ok (.aload_n 0, 1) := by decide +kernel
theorem d_M_init_138 : decode c_M_init 138 = .ok (.sipush 210, 3) := by decide +kernel
theorem d_M_init_141 : decode c_M_init 141 = .ok (.newarray .long, 2) := by decide +kernel
theorem d_M_init_143 : decode c_M_init 143 = .ok (.putfield 61, 3) := by decide +kernel
theorem d_M_init_146 : decode c_M_init 146 = .ok (.iconst 0, 1) := by decide +kernel
theorem d_M_init_147 : decode c_M_init 147 = .ok (.istore_n 1, 1) := by decide +kernel
theorem d_M_init_148 : decode c_M_init 148 = .ok (.iload_n 1, 1) := by decide +kernel
theorem d_M_init_149 : decode c_M_init 149 = .ok (.sipush 210, 3) := by decide +kernel
theorem d_M_init_152 : decode c_M_init 152 = .ok (.if_icmp .ge 18, 3) := by decide +kernel
theorem d_M_init_155 : decode c_M_init 155 = .ok (.aload_n 0, 1) := by decide +kernel
theorem d_M_init_156 : decode c_M_init 156 = .ok (.getfield 61, 3) := by decide +kernel
theorem d_M_init_159 : decode c_M_init 159 = .ok (.iload_n 1, 1) := by decide +kernel
theorem d_M_init_160 : decode c_M_init 160 = .ok (.ldc2_w 64, 3) := by decide +kernel
theorem d_M_init_163 : decode c_M_init 163 = .ok (.lastore, 1) := by decide +kernel
theorem d_M_init_164 : decode c_M_init 164 = .ok (.iinc 1 1, 3) := by decide +kernel
theorem d_M_init_167 : decode c_M_init 167 = .ok (.goto (-19), 3) := by decide +kernel
theorem d_M_init_170 : decode c_M_init 170 = .ok (.return_, 1) := by decide +kernel
theorem d_M_thrown_0 : decode c_M_thrown 0 = .ok (.aload_n 0, 1) := by decide +kernel
theorem d_M_thrown_1 : decode c_M_thrown 1 = .ok (.getfield 66, 3) := by decide +kernel
theorem d_M_thrown_4 : decode c_M_thrown 4 = .ok (.ireturn, 1) := by decide +kernel
theorem d_M_isPart_0 : decode c_M_isPart 0 = .ok (.iload_n 1, 1) := by decide +kernel
theorem d_M_isPart_1 : decode c_M_isPart 1 = .ok (.iconst 1, 1) := by decide +kernel
theorem d_M_isPart_2 : decode c_M_isPart 2 = .ok (.if_icmp .lt 15, 3) := by decide +kernel
theorem d_M_isPart_5 : decode c_M_isPart 5 = .ok (.iload_n 1, 1) := by decide +kernel
theorem d_M_isPart_6 : decode c_M_isPart 6 = .ok (.aload_n 0, 1) := by decide +kernel
theorem d_M_isPart_7 : decode c_M_isPart 7 = .ok (.getfield 70, 3) := by decide +kernel
theorem d_M_isPart_10 : decode c_M_isPart 10 = .ok (.if_icmp .gt 7, 3) := by decide +kernel
theorem d_M_isPart_13 : decode c_M_isPart 13 = .ok (.iconst 1, 1) := by decide +kernel
theorem d_M_isPart_14 : decode c_M_isPart 14 = .ok (.goto 4, 3) := by decide +kernel
theorem d_M_isPart_17 : decode c_M_isPart 17 = .ok (.iconst 0, 1) := by decide +kernel
theorem d_M_isPart_18 : decode c_M_isPart 18 = .ok (.ireturn, 1) := by decide +kernel
theorem d_M_isTime_0 : decode c_M_isTime 0 = .ok (.lload_n 1, 1) := by decide +kernel
theorem d_M_isTime_1 : decode c_M_isTime 1 = .ok (.aload_n 0, 1) := by decide +kernel
theorem d_M_isTime_2 : decode c_M_isTime 2 = .ok (.getfield 73, 3) := by decide +kernel
theorem d_M_isTime_5 : decode c_M_isTime 5 = .ok (.lcmp, 1) := by decide +kernel
theorem d_M_isTime_6 : decode c_M_isTime 6 = .ok (.ifCond .lt 15, 3) := by decide +kernel
theorem d_M_isTime_9 : decode c_M_isTime 9 = .ok (.lload_n 1, 1) := by decide +kernel
theorem d_M_isTime_10 : decode c_M_isTime 10 = .ok (.ldc2_w 77, 3) := by decide +kernel
theorem d_M_isTime_13 : decode c_M_isTime 13 = .ok (.lcmp, 1) := by decide +kernel
theorem d_M_isTime_14 : decode c_M_isTime 14 = .ok (.ifCond .gt 7, 3) := by decide +kernel
theorem d_M_isTime_17 : decode c_M_isTime 17 = .ok (.iconst 1, 1) := by decide +kernel
theorem d_M_isTime_18 : decode c_M_isTime 18 = .ok (.goto 4, 3) := by decide +kernel
theorem d_M_isTime_21 : decode c_M_isTime 21 = .ok (.iconst 0, 1) := by decide +kernel
theorem d_M_isTime_22 : decode c_M_isTime 22 = .ok (.ireturn, 1) := by decide +kernel
theorem d_M_part_0 : decode c_M_part 0 = .ok (.aload_n 0, 1) := by decide +kernel
theorem d_M_part_1 : decode c_M_part 1 = .ok (.iconst 0, 1) := by decide +kernel
theorem d_M_part_2 : decode c_M_part 2 = .ok (.putfield 66, 3) := by decide +kernel
theorem d_M_part_5 : decode c_M_part 5 = .ok (.iload_n 1, 1) := by decide +kernel
theorem d_M_part_6 : decode c_M_part 6 = .ok (.ifCond .lt 36, 3) := by decide +kernel
theorem d_M_part_9 : decode c_M_part 9 = .ok (.iload_n 1, 1) := by decide +kernel
theorem d_M_part_10 : decode c_M_part 10 = .ok (.sipush 1000, 3) := by decide +kernel
theorem d_M_part_13 : decode c_M_part 13 = .ok (.if_icmp .gt 29, 3) := by decide +kernel
theorem d_M_part_16 : decode c_M_part 16 = .ok (.iload_n 2, 1) := by decide +kernel
theorem d_M_part_17 : decode c_M_part 17 = .ok (.iload_n 1, 1) := by decide +kernel
theorem d_M_part_18 : decode c_M_part 18 = .ok (.if_icmp .lt 24, 3) := by decide +kernel
theorem d_M_part_21 : decode c_M_part 21 = .ok (.iload_n 2, 1) := by decide +kernel
theorem d_M_part_22 : decode c_M_part 22 = .ok (.sipush 1000, 3) := by decide +kernel
theorem d_M_part_25 : decode c_M_part 25 = .ok (.if_icmp .gt 17, 3) := by decide +kernel
theorem d_M_part_28 : decode c_M_part 28 = .ok (.lload_n 3, 1) := by decide +kernel
theorem d_M_part_29 : decode c_M_part 29 = .ok (.lconst 0, 1) := by decide +kernel
theorem d_M_part_30 : decode c_M_part 30 = .ok (.lcmp, 1) := by decide +kernel
theorem d_M_part_31 : decode c_M_part 31 = .ok (.ifCond .lt 11, 3) := by decide +kernel
theorem d_M_part_34 : decode c_M_part 34 = .ok (.lload_n 3, 1) := by decide +kernel
theorem d_M_part_35 : decode c_M_part 35 = .ok (.ldc2_w 79, 3) := by decide +kernel
theorem d_M_part_38 : decode c_M_part 38 = .ok (.lcmp, 1) := by decide +kernel
theorem d_M_part_39 : decode c_M_part 39 = .ok (.ifCond .le 6, 3) := by decide +kernel
theorem d_M_part_42 : decode c_M_part 42 = .ok (.bipush (-2), 2) := by decide +kernel
theorem d_M_part_44 : decode c_M_part 44 = .ok (.ireturn, 1) := by decide +kernel
theorem d_M_part_45 : decode c_M_part 45 = .ok (.aload_n 0, 1) := by decide +kernel
theorem d_M_part_46 : decode c_M_part 46 = .ok (.getfield 70, 3) := by decide +kernel
theorem d_M_part_49 : decode c_M_part 49 = .ok (.bipush 20, 2) := by decide +kernel
theorem d_M_part_51 : decode c_M_part 51 = .ok (.if_icmp .ne 6, 3) := by decide +kernel
theorem d_M_part_54 : decode c_M_part 54 = .ok (.bipush (-4), 2) := by decide +kernel
theorem d_M_part_56 : decode c_M_part 56 = .ok (.ireturn, 1) := by decide +kernel
theorem d_M_part_57 : decode c_M_part 57 = .ok (.aload_n 0, 1) := by decide +kernel
theorem d_M_part_58 : decode c_M_part 58 = .ok (.lload_n 3, 1) := by decide +kernel
theorem d_M_part_59 : decode c_M_part 59 = .ok (.lconst 0, 1) := by decide +kernel
theorem d_M_part_60 : decode c_M_part 60 = .ok (.lcmp, 1) := by decide +kernel
theorem d_M_part_61 : decode c_M_part 61 = .ok (.ifCond .ne 7, 3) := by decide +kernel
theorem d_M_part_64 : decode c_M_part 64 = .ok (.iconst 1, 1) := by decide +kernel
theorem d_M_part_65 : decode c_M_part 65 = .ok (.goto 4, 3) := by decide +kernel
theorem d_M_part_68 : decode c_M_part 68 = .ok (.iconst 0, 1) := by decide +kernel
theorem d_M_part_69 : decode c_M_part 69 = .ok (.putfield 66, 3) := by decide +kernel
theorem d_M_part_72 : decode c_M_part 72 = .ok (.aload_n 0, 1) := by decide +kernel
theorem d_M_part_73 : decode c_M_part 73 = .ok (.getfield 66, 3) := by decide +kernel
theorem d_M_part_76 : decode c_M_part 76 = .ok (.ifCond .le 5, 3) := by decide +kernel
theorem d_M_part_79 : decode c_M_part 79 = .ok (.iconst 0, 1) := by decide +kernel
theorem d_M_part_80 : decode c_M_part 80 = .ok (.ireturn, 1) := by decide +kernel
theorem d_M_part_81 : decode c_M_part 81 = .ok (.aload_n 0, 1) := by decide +kernel
theorem d_M_part_82 : decode c_M_part 82 = .ok (.dup, 1) := by decide +kernel
theorem d_M_part_83 : decode c_M_part 83 = .ok (.getfield 70, 3) := by decide +kernel
theorem d_M_part_86 : decode c_M_part 86 = .ok (.iconst 1, 1) := by decide +kernel
theorem d_M_part_87 : decode c_M_part 87 = .ok (.iadd, 1) := by decide +kernel
theorem d_M_part_88 : decode c_M_part 88 = .ok (.putfield 70, 3) := by decide +kernel
theorem d_M_part_91 : decode c_M_part 91 = .ok (.aload_n 0, 1) := by decide +kernel
theorem d_M_part_92 : decode c_M_part 92 = .ok (.getfield 7, 3) := by decide +kernel
theorem d_M_part_95 : decode c_M_part 95 = .ok (.aload_n 0, 1) := by decide +kernel
theorem d_M_part_96 : decode c_M_part 96 = .ok (.getfield 70, 3) := by decide +kernel
theorem d_M_part_99 : decode c_M_part 99 = .ok (.iload_n 1, 1) := by decide +kernel
theorem d_M_part_100 : decode c_M_part 100 = .ok (.iastore, 1) := by decide +kernel
theorem d_M_part_101 : decode c_M_part 101 = .ok (.aload_n 0, 1) := by decide +kernel
theorem d_M_part_102 : decode c_M_part 102 = .ok (.getfield 13, 3) := by decide +kernel
theorem d_M_part_105 : decode c_M_part 105 = .ok (.aload_n 0, 1) := by decide +kernel
theorem d_M_part_106 : decode c_M_part 106 = .ok (.getfield 70, 3) := by decide +kernel
theorem d_M_part_109 : decode c_M_part 109 = .ok (.iload_n 2, 1) := by decide +kernel
theorem d_M_part_110 : decode c_M_part 110 = .ok (.iastore, 1) := by decide +kernel
theorem d_M_part_111 : decode c_M_part 111 = .ok (.aload_n 0, 1) := by decide +kernel
theorem d_M_part_112 : decode c_M_part 112 = .ok (.getfield 16, 3) := by decide +kernel
theorem d_M_part_115 : decode c_M_part 115 = .ok (.aload_n 0, 1) := by decide +kernel
theorem d_M_part_116 : decode c_M_part 116 = .ok (.getfield 70, 3) := by decide +kernel
theorem d_M_part_119 : decode c_M_part 119 = .ok (.lload_n 3, 1) := by decide +kernel
theorem d_M_part_120 : decode c_M_part 120 = .ok (.l2i, 1) := by decide +kernel
theorem d_M_part_121 : decode c_M_part 121 = .ok (.iastore, 1) := by decide +kernel
theorem d_M_part_122 : decode c_M_part 122 = .ok (.aload_n 0, 1) := by decide +kernel
theorem d_M_part_123 : decode c_M_part 123 = .ok (.getfield 70, 3) := by decide +kernel
theorem d_M_part_126 : decode c_M_part 126 = .ok (.ireturn, 1) := by decide +kernel
theorem d_M_edgeAt_0 : decode c_M_edgeAt 0 = .ok (.iconst 4, 1) := by decide +kernel
theorem d_M_edgeAt_1 : decode c_M_edgeAt 1 = .ok (.iload_n 1, 1) := by decide +kernel
theorem d_M_edgeAt_2 : decode c_M_edgeAt 2 = .ok (.imul, 1) := by decide +kernel
theorem d_M_edgeAt_3 : decode c_M_edgeAt 3 = .ok (.aload_n 0, 1) := by decide +kernel
theorem d_M_edgeAt_4 : decode c_M_edgeAt 4 = .ok (.getfield 81, 3) := by decide +kernel
theorem d_M_edgeAt_7 : decode c_M_edgeAt 7 = .ok (.iadd, 1) := by decide +kernel
theorem d_M_edgeAt_8 : decode c_M_edgeAt 8 = .ok (.bipush 31, 2) := by decide +kernel
theorem d_M_edgeAt_10 : decode c_M_edgeAt 10 = .ok (.imul, 1) := by decide +kernel
theorem d_M_edgeAt_11 : decode c_M_edgeAt 11 = .ok (.iload_n 2, 1) := by decide +kernel
theorem d_M_edgeAt_12 : decode c_M_edgeAt 12 = .ok (.iadd, 1) := by decide +kernel
theorem d_M_edgeAt_13 : decode c_M_edgeAt 13 = .ok (.bipush 31, 2) := by decide +kernel
theorem d_M_edgeAt_15 : decode c_M_edgeAt 15 = .ok (.imul, 1) := by decide +kernel
theorem d_M_edgeAt_16 : decode c_M_edgeAt 16 = .ok (.iload_n 3, 1) := by decide +kernel
theorem d_M_edgeAt_17 : decode c_M_edgeAt 17 = .ok (.iadd, 1) := by decide +kernel
theorem d_M_edgeAt_18 : decode c_M_edgeAt 18 = .ok (.ireturn, 1) := by decide +kernel
theorem d_M_edge_0 : decode c_M_edge 0 = .ok (.aload_n 0, 1) := by decide +kernel
theorem d_M_edge_1 : decode c_M_edge 1 = .ok (.iconst 0, 1) := by decide +kernel
theorem d_M_edge_2 : decode c_M_edge 2 = .ok (.putfield 66, 3) := by decide +kernel
theorem d_M_edge_5 : decode c_M_edge 5 = .ok (.aload_n 0, 1) := by decide +kernel
theorem d_M_edge_6 : decode c_M_edge 6 = .ok (.iload_n 1, 1) := by decide +kernel
theorem d_M_edge_7 : decode c_M_edge 7 = .ok (.invokevirtual 84, 3) := by decide +kernel
theorem d_M_edge_10 : decode c_M_edge 10 = .ok (.ifCond .ne 5, 3) := by decide +kernel
theorem d_M_edge_13 : decode c_M_edge 13 = .ok (.iconst (-1), 1) := by decide +kernel
theorem d_M_edge_14 : decode c_M_edge 14 = .ok (.ireturn, 1) := by decide +kernel
theorem d_M_edge_15 : decode c_M_edge 15 = .ok (.iload_n 2, 1) := by decide +kernel
theorem d_M_edge_16 : decode c_M_edge 16 = .ok (.ifCond .lt 20, 3) := by decide +kernel
theorem d_M_edge_19 : decode c_M_edge 19 = .ok (.iload_n 2, 1) := by decide +kernel
theorem d_M_edge_20 : decode c_M_edge 20 = .ok (.bipush 30, 2) := by decide +kernel
theorem d_M_edge_22 : decode c_M_edge 22 = .ok (.if_icmp .gt 14, 3) := by decide +kernel
theorem d_M_edge_25 : decode c_M_edge 25 = .ok (.iload_n 3, 1) := by decide +kernel
theorem d_M_edge_26 : decode c_M_edge 26 = .ok (.iconst 1, 1) := by decide +kernel
theorem d_M_edge_27 : decode c_M_edge 27 = .ok (.if_icmp .lt 9, 3) := by decide +kernel
theorem d_M_edge_30 : decode c_M_edge 30 = .ok (.iload_n 3, 1) := by decide +kernel
theorem d_M_edge_31 : decode c_M_edge 31 = .ok (.bipush 30, 2) := by decide +kernel
theorem d_M_edge_33 : decode c_M_edge 33 = .ok (.if_icmp .le 6, 3) := by decide +kernel
theorem d_M_edge_36 : decode c_M_edge 36 = .ok (.bipush (-2), 2) := by decide +kernel
theorem d_M_edge_38 : decode c_M_edge 38 = .ok (.ireturn, 1) := by decide +kernel
theorem d_M_edge_39 : decode c_M_edge 39 = .ok (.aload_n 0, 1) := by decide +kernel
theorem d_M_edge_40 : decode c_M_edge 40 = .ok (.getfield 39, 3) := by decide +kernel
theorem d_M_edge_43 : decode c_M_edge 43 = .ok (.aload_n 0, 1) := by decide +kernel
theorem d_M_edge_44 : decode c_M_edge 44 = .ok (.iload_n 1, 1) := by decide +kernel
theorem d_M_edge_45 : decode c_M_edge 45 = .ok (.iload_n 2, 1) := by decide +kernel
theorem d_M_edge_46 : decode c_M_edge 46 = .ok (.iload_n 3, 1) := by decide +kernel
theorem d_M_edge_47 : decode c_M_edge 47 = .ok (.invokevirtual 88, 3) := by decide +kernel
theorem d_M_edge_50 : decode c_M_edge 50 = .ok (.baload, 1) := by decide +kernel
theorem d_M_edge_51 : decode c_M_edge 51 = .ok (.istore 4, 2) := by decide +kernel
theorem d_M_edge_53 : decode c_M_edge 53 = .ok (.aload_n 0, 1) := by decide +kernel
theorem d_M_edge_54 : decode c_M_edge 54 = .ok (.getfield 39, 3) := by decide +kernel
theorem d_M_edge_57 : decode c_M_edge 57 = .ok (.aload_n 0, 1) := by decide +kernel
theorem d_M_edge_58 : decode c_M_edge 58 = .ok (.iload_n 1, 1) := by decide +kernel
theorem d_M_edge_59 : decode c_M_edge 59 = .ok (.iload_n 2, 1) := by decide +kernel
theorem d_M_edge_60 : decode c_M_edge 60 = .ok (.iload_n 3, 1) := by decide +kernel
theorem d_M_edge_61 : decode c_M_edge 61 = .ok (.invokevirtual 88, 3) := by decide +kernel
theorem d_M_edge_64 : decode c_M_edge 64 = .ok (.iconst 1, 1) := by decide +kernel
theorem d_M_edge_65 : decode c_M_edge 65 = .ok (.bastore, 1) := by decide +kernel
theorem d_M_edge_66 : decode c_M_edge 66 = .ok (.iload 4, 2) := by decide +kernel
theorem d_M_edge_68 : decode c_M_edge 68 = .ok (.ifCond .eq 7, 3) := by decide +kernel
theorem d_M_edge_71 : decode c_M_edge 71 = .ok (.iconst 0, 1) := by decide +kernel
theorem d_M_edge_72 : decode c_M_edge 72 = .ok (.goto 4, 3) := by decide +kernel
theorem d_M_edge_75 : decode c_M_edge 75 = .ok (.iconst 1, 1) := by decide +kernel
theorem d_M_edge_76 : decode c_M_edge 76 = .ok (.ireturn, 1) := by decide +kernel
theorem d_M_deadline_0 : decode c_M_deadline 0 = .ok (.aload_n 0, 1) := by decide +kernel
theorem d_M_deadline_1 : decode c_M_deadline 1 = .ok (.iconst 0, 1) := by decide +kernel
theorem d_M_deadline_2 : decode c_M_deadline 2 = .ok (.putfield 66, 3) := by decide +kernel
theorem d_M_deadline_5 : decode c_M_deadline 5 = .ok (.aload_n 0, 1) := by decide +kernel
theorem d_M_deadline_6 : decode c_M_deadline 6 = .ok (.iload_n 1, 1) := by decide +kernel
theorem d_M_deadline_7 : decode c_M_deadline 7 = .ok (.invokevirtual 84, 3) := by decide +kernel
theorem d_M_deadline_10 : decode c_M_deadline 10 = .ok (.ifCond .ne 5, 3) := by decide +kernel
theorem d_M_deadline_13 : decode c_M_deadline 13 = .ok (.iconst (-1), 1) := by decide +kernel
theorem d_M_deadline_14 : decode c_M_deadline 14 = .ok (.ireturn, 1) := by decide +kernel
theorem d_M_deadline_15 : decode c_M_deadline 15 = .ok (.iload_n 2, 1) := by decide +kernel
theorem d_M_deadline_16 : decode c_M_deadline 16 = .ok (.iconst 1, 1) := by decide +kernel
theorem d_M_deadline_17 : decode c_M_deadline 17 = .ok (.if_icmp .lt 53, 3) := by decide +kernel
theorem d_M_deadline_20 : decode c_M_deadline 20 = .ok (.iload_n 2, 1) := by decide +kernel
theorem d_M_deadline_21 : decode c_M_deadline 21 = .ok (.bipush 30, 2) := by decide +kernel
theorem d_M_deadline_23 : decode c_M_deadline 23 = .ok (.if_icmp .gt 47, 3) := by decide +kernel
theorem d_M_deadline_26 : decode c_M_deadline 26 = .ok (.iload_n 3, 1) := by decide +kernel
theorem d_M_deadline_27 : decode c_M_deadline 27 = .ok (.iconst 1, 1) := by decide +kernel
theorem d_M_deadline_28 : decode c_M_deadline 28 = .ok (.if_icmp .lt 42, 3) := by decide +kernel
theorem d_M_deadline_31 : decode c_M_deadline 31 = .ok (.iload_n 3, 1) := by decide +kernel
theorem d_M_deadline_32 : decode c_M_deadline 32 = .ok (.bipush 30, 2) := by decide +kernel
theorem d_M_deadline_34 : decode c_M_deadline 34 = .ok (.if_icmp .gt 36, 3) := by decide +kernel
theorem d_M_deadline_37 : decode c_M_deadline 37 = .ok (.lload 4, 2) := by decide +kernel
theorem d_M_deadline_39 : decode c_M_deadline 39 = .ok (.lconst 0, 1) := by decide +kernel
theorem d_M_deadline_40 : decode c_M_deadline 40 = .ok (.lcmp, 1) := by decide +kernel
theorem d_M_deadline_41 : decode c_M_deadline 41 = .ok (.ifCond .lt 29, 3) := by decide +kernel
end
section
theorem d_M_deadline_44 : decode c_M_deadline 44 = .ok (.lload 4, 2) := by decide +kernel
theorem d_M_deadline_46 : decode c_M_deadline 46 = .ok (.ldc2_w 92, 3) := by decide +kernel
theorem d_M_deadline_49 : decode c_M_deadline 49 = .ok (.lcmp, 1) := by decide +kernel
theorem d_M_deadline_50 : decode c_M_deadline 50 = .ok (.ifCond .gt 20, 3) := by decide +kernel
theorem d_M_deadline_53 : decode c_M_deadline 53 = .ok (.lload 6, 2) := by decide +kernel
theorem d_M_deadline_55 : decode c_M_deadline 55 = .ok (.lload 4, 2) := by decide +kernel
theorem d_M_deadline_57 : decode c_M_deadline 57 = .ok (.lcmp, 1) := by decide +kernel
theorem d_M_deadline_58 : decode c_M_deadline 58 = .ok (.ifCond .lt 12, 3) := by decide +kernel
theorem d_M_deadline_61 : decode c_M_deadline 61 = .ok (.lload 6, 2) := by decide +kernel
theorem d_M_deadline_63 : decode c_M_deadline 63 = .ok (.ldc2_w 92, 3) := by decide +kernel
theorem d_M_deadline_66 : decode c_M_deadline 66 = .ok (.lcmp, 1) := by decide +kernel
theorem d_M_deadline_67 : decode c_M_deadline 67 = .ok (.ifCond .le 6, 3) := by decide +kernel
theorem d_M_deadline_70 : decode c_M_deadline 70 = .ok (.bipush (-2), 2) := by decide +kernel
theorem d_M_deadline_72 : decode c_M_deadline 72 = .ok (.ireturn, 1) := by decide +kernel
theorem d_M_deadline_73 : decode c_M_deadline 73 = .ok (.aload_n 0, 1) := by decide +kernel
theorem d_M_deadline_74 : decode c_M_deadline 74 = .ok (.getfield 42, 3) := by decide +kernel
theorem d_M_deadline_77 : decode c_M_deadline 77 = .ok (.iload_n 1, 1) := by decide +kernel
theorem d_M_deadline_78 : decode c_M_deadline 78 = .ok (.iaload, 1) := by decide +kernel
theorem d_M_deadline_79 : decode c_M_deadline 79 = .ok (.bipush 10, 2) := by decide +kernel
theorem d_M_deadline_81 : decode c_M_deadline 81 = .ok (.if_icmp .ne 6, 3) := by decide +kernel
theorem d_M_deadline_84 : decode c_M_deadline 84 = .ok (.bipush (-4), 2) := by decide +kernel
theorem d_M_deadline_86 : decode c_M_deadline 86 = .ok (.ireturn, 1) := by decide +kernel
theorem d_M_deadline_87 : decode c_M_deadline 87 = .ok (.bipush 10, 2) := by decide +kernel
theorem d_M_deadline_89 : decode c_M_deadline 89 = .ok (.iload_n 1, 1) := by decide +kernel
theorem d_M_deadline_90 : decode c_M_deadline 90 = .ok (.imul, 1) := by decide +kernel
theorem d_M_deadline_91 : decode c_M_deadline 91 = .ok (.aload_n 0, 1) := by decide +kernel
theorem d_M_deadline_92 : decode c_M_deadline 92 = .ok (.getfield 42, 3) := by decide +kernel
theorem d_M_deadline_95 : decode c_M_deadline 95 = .ok (.iload_n 1, 1) := by decide +kernel
theorem d_M_deadline_96 : decode c_M_deadline 96 = .ok (.iaload, 1) := by decide +kernel
theorem d_M_deadline_97 : decode c_M_deadline 97 = .ok (.iadd, 1) := by decide +kernel
theorem d_M_deadline_98 : decode c_M_deadline 98 = .ok (.istore 8, 2) := by decide +kernel
theorem d_M_deadline_100 : decode c_M_deadline 100 = .ok (.aload_n 0, 1) := by decide +kernel
theorem d_M_deadline_101 : decode c_M_deadline 101 = .ok (.getfield 45, 3) := by decide +kernel
theorem d_M_deadline_104 : decode c_M_deadline 104 = .ok (.iload 8, 2) := by decide +kernel
theorem d_M_deadline_106 : decode c_M_deadline 106 = .ok (.aload_n 0, 1) := by decide +kernel
theorem d_M_deadline_107 : decode c_M_deadline 107 = .ok (.getfield 81, 3) := by decide +kernel
theorem d_M_deadline_110 : decode c_M_deadline 110 = .ok (.iastore, 1) := by decide +kernel
theorem d_M_deadline_111 : decode c_M_deadline 111 = .ok (.aload_n 0, 1) := by decide +kernel
theorem d_M_deadline_112 : decode c_M_deadline 112 = .ok (.getfield 48, 3) := by decide +kernel
theorem d_M_deadline_115 : decode c_M_deadline 115 = .ok (.iload 8, 2) := by decide +kernel
theorem d_M_deadline_117 : decode c_M_deadline 117 = .ok (.iload_n 2, 1) := by decide +kernel
theorem d_M_deadline_118 : decode c_M_deadline 118 = .ok (.iastore, 1) := by decide +kernel
theorem d_M_deadline_119 : decode c_M_deadline 119 = .ok (.aload_n 0, 1) := by decide +kernel
theorem d_M_deadline_120 : decode c_M_deadline 120 = .ok (.getfield 51, 3) := by decide +kernel
theorem d_M_deadline_123 : decode c_M_deadline 123 = .ok (.iload 8, 2) := by decide +kernel
theorem d_M_deadline_125 : decode c_M_deadline 125 = .ok (.iload_n 3, 1) := by decide +kernel
theorem d_M_deadline_126 : decode c_M_deadline 126 = .ok (.iastore, 1) := by decide +kernel
theorem d_M_deadline_127 : decode c_M_deadline 127 = .ok (.aload_n 0, 1) := by decide +kernel
theorem d_M_deadline_128 : decode c_M_deadline 128 = .ok (.getfield 54, 3) := by decide +kernel
theorem d_M_deadline_131 : decode c_M_deadline 131 = .ok (.iload 8, 2) := by decide +kernel
theorem d_M_deadline_133 : decode c_M_deadline 133 = .ok (.lload 4, 2) := by decide +kernel
theorem d_M_deadline_135 : decode c_M_deadline 135 = .ok (.lastore, 1) := by decide +kernel
theorem d_M_deadline_136 : decode c_M_deadline 136 = .ok (.aload_n 0, 1) := by decide +kernel
theorem d_M_deadline_137 : decode c_M_deadline 137 = .ok (.getfield 58, 3) := by decide +kernel
theorem d_M_deadline_140 : decode c_M_deadline 140 = .ok (.iload 8, 2) := by decide +kernel
theorem d_M_deadline_142 : decode c_M_deadline 142 = .ok (.lload 6, 2) := by decide +kernel
theorem d_M_deadline_144 : decode c_M_deadline 144 = .ok (.lastore, 1) := by decide +kernel
theorem d_M_deadline_145 : decode c_M_deadline 145 = .ok (.aload_n 0, 1) := by decide +kernel
theorem d_M_deadline_146 : decode c_M_deadline 146 = .ok (.getfield 61, 3) := by decide +kernel
theorem d_M_deadline_149 : decode c_M_deadline 149 = .ok (.iload 8, 2) := by decide +kernel
theorem d_M_deadline_151 : decode c_M_deadline 151 = .ok (.ldc2_w 64, 3) := by decide +kernel
theorem d_M_deadline_154 : decode c_M_deadline 154 = .ok (.lastore, 1) := by decide +kernel
theorem d_M_deadline_155 : decode c_M_deadline 155 = .ok (.aload_n 0, 1) := by decide +kernel
theorem d_M_deadline_156 : decode c_M_deadline 156 = .ok (.getfield 42, 3) := by decide +kernel
theorem d_M_deadline_159 : decode c_M_deadline 159 = .ok (.iload_n 1, 1) := by decide +kernel
theorem d_M_deadline_160 : decode c_M_deadline 160 = .ok (.dup2, 1) := by decide +kernel
theorem d_M_deadline_161 : decode c_M_deadline 161 = .ok (.iaload, 1) := by decide +kernel
theorem d_M_deadline_162 : decode c_M_deadline 162 = .ok (.iconst 1, 1) := by decide +kernel
theorem d_M_deadline_163 : decode c_M_deadline 163 = .ok (.iadd, 1) := by decide +kernel
theorem d_M_deadline_164 : decode c_M_deadline 164 = .ok (.iastore, 1) := by decide +kernel
theorem d_M_deadline_165 : decode c_M_deadline 165 = .ok (.aload_n 0, 1) := by decide +kernel
theorem d_M_deadline_166 : decode c_M_deadline 166 = .ok (.getfield 42, 3) := by decide +kernel
theorem d_M_deadline_169 : decode c_M_deadline 169 = .ok (.iload_n 1, 1) := by decide +kernel
theorem d_M_deadline_170 : decode c_M_deadline 170 = .ok (.iaload, 1) := by decide +kernel
theorem d_M_deadline_171 : decode c_M_deadline 171 = .ok (.ireturn, 1) := by decide +kernel
theorem d_M_point_0 : decode c_M_point 0 = .ok (.aload_n 0, 1) := by decide +kernel
theorem d_M_point_1 : decode c_M_point 1 = .ok (.iconst 0, 1) := by decide +kernel
theorem d_M_point_2 : decode c_M_point 2 = .ok (.putfield 66, 3) := by decide +kernel
theorem d_M_point_5 : decode c_M_point 5 = .ok (.aload_n 0, 1) := by decide +kernel
theorem d_M_point_6 : decode c_M_point 6 = .ok (.iload_n 1, 1) := by decide +kernel
theorem d_M_point_7 : decode c_M_point 7 = .ok (.invokevirtual 84, 3) := by decide +kernel
theorem d_M_point_10 : decode c_M_point 10 = .ok (.ifCond .ne 5, 3) := by decide +kernel
theorem d_M_point_13 : decode c_M_point 13 = .ok (.iconst (-1), 1) := by decide +kernel
theorem d_M_point_14 : decode c_M_point 14 = .ok (.ireturn, 1) := by decide +kernel
theorem d_M_point_15 : decode c_M_point 15 = .ok (.iload_n 2, 1) := by decide +kernel
theorem d_M_point_16 : decode c_M_point 16 = .ok (.iconst 1, 1) := by decide +kernel
theorem d_M_point_17 : decode c_M_point 17 = .ok (.if_icmp .lt 17, 3) := by decide +kernel
theorem d_M_point_20 : decode c_M_point 20 = .ok (.iload_n 2, 1) := by decide +kernel
theorem d_M_point_21 : decode c_M_point 21 = .ok (.bipush 30, 2) := by decide +kernel
theorem d_M_point_23 : decode c_M_point 23 = .ok (.if_icmp .gt 11, 3) := by decide +kernel
theorem d_M_point_26 : decode c_M_point 26 = .ok (.aload_n 0, 1) := by decide +kernel
theorem d_M_point_27 : decode c_M_point 27 = .ok (.lload_n 3, 1) := by decide +kernel
theorem d_M_point_28 : decode c_M_point 28 = .ok (.invokevirtual 94, 3) := by decide +kernel
theorem d_M_point_31 : decode c_M_point 31 = .ok (.ifCond .ne 6, 3) := by decide +kernel
theorem d_M_point_34 : decode c_M_point 34 = .ok (.bipush (-2), 2) := by decide +kernel
theorem d_M_point_36 : decode c_M_point 36 = .ok (.ireturn, 1) := by decide +kernel
theorem d_M_point_37 : decode c_M_point 37 = .ok (.aload_n 0, 1) := by decide +kernel
theorem d_M_point_38 : decode c_M_point 38 = .ok (.lload_n 3, 1) := by decide +kernel
theorem d_M_point_39 : decode c_M_point 39 = .ok (.putfield 73, 3) := by decide +kernel
theorem d_M_point_42 : decode c_M_point 42 = .ok (.aload_n 0, 1) := by decide +kernel
theorem d_M_point_43 : decode c_M_point 43 = .ok (.getfield 39, 3) := by decide +kernel
theorem d_M_point_46 : decode c_M_point 46 = .ok (.aload_n 0, 1) := by decide +kernel
theorem d_M_point_47 : decode c_M_point 47 = .ok (.iload_n 1, 1) := by decide +kernel
theorem d_M_point_48 : decode c_M_point 48 = .ok (.aload_n 0, 1) := by decide +kernel
theorem d_M_point_49 : decode c_M_point 49 = .ok (.getfield 35, 3) := by decide +kernel
theorem d_M_point_52 : decode c_M_point 52 = .ok (.iload_n 1, 1) := by decide +kernel
theorem d_M_point_53 : decode c_M_point 53 = .ok (.iaload, 1) := by decide +kernel
theorem d_M_point_54 : decode c_M_point 54 = .ok (.iload_n 2, 1) := by decide +kernel
theorem d_M_point_55 : decode c_M_point 55 = .ok (.invokevirtual 88, 3) := by decide +kernel
theorem d_M_point_58 : decode c_M_point 58 = .ok (.baload, 1) := by decide +kernel
theorem d_M_point_59 : decode c_M_point 59 = .ok (.istore 5, 2) := by decide +kernel
theorem d_M_point_61 : decode c_M_point 61 = .ok (.aload_n 0, 1) := by decide +kernel
theorem d_M_point_62 : decode c_M_point 62 = .ok (.getfield 35, 3) := by decide +kernel
theorem d_M_point_65 : decode c_M_point 65 = .ok (.iload_n 1, 1) := by decide +kernel
theorem d_M_point_66 : decode c_M_point 66 = .ok (.iload_n 2, 1) := by decide +kernel
theorem d_M_point_67 : decode c_M_point 67 = .ok (.iastore, 1) := by decide +kernel
theorem d_M_point_68 : decode c_M_point 68 = .ok (.aload_n 0, 1) := by decide +kernel
theorem d_M_point_69 : decode c_M_point 69 = .ok (.getfield 19, 3) := by decide +kernel
theorem d_M_point_72 : decode c_M_point 72 = .ok (.iload_n 1, 1) := by decide +kernel
theorem d_M_point_73 : decode c_M_point 73 = .ok (.iaload, 1) := by decide +kernel
theorem d_M_point_74 : decode c_M_point 74 = .ok (.iconst 2, 1) := by decide +kernel
theorem d_M_point_75 : decode c_M_point 75 = .ok (.if_icmp .ne 5, 3) := by decide +kernel
theorem d_M_point_78 : decode c_M_point 78 = .ok (.iconst 2, 1) := by decide +kernel
theorem d_M_point_79 : decode c_M_point 79 = .ok (.ireturn, 1) := by decide +kernel
theorem d_M_point_80 : decode c_M_point 80 = .ok (.iload 5, 2) := by decide +kernel
theorem d_M_point_82 : decode c_M_point 82 = .ok (.ifCond .ne 12, 3) := by decide +kernel
theorem d_M_point_85 : decode c_M_point 85 = .ok (.aload_n 0, 1) := by decide +kernel
theorem d_M_point_86 : decode c_M_point 86 = .ok (.getfield 19, 3) := by decide +kernel
theorem d_M_point_89 : decode c_M_point 89 = .ok (.iload_n 1, 1) := by decide +kernel
theorem d_M_point_90 : decode c_M_point 90 = .ok (.iconst 2, 1) := by decide +kernel
theorem d_M_point_91 : decode c_M_point 91 = .ok (.iastore, 1) := by decide +kernel
theorem d_M_point_92 : decode c_M_point 92 = .ok (.iconst 2, 1) := by decide +kernel
theorem d_M_point_93 : decode c_M_point 93 = .ok (.ireturn, 1) := by decide +kernel
theorem d_M_point_94 : decode c_M_point 94 = .ok (.bipush 10, 2) := by decide +kernel
theorem d_M_point_96 : decode c_M_point 96 = .ok (.iload_n 1, 1) := by decide +kernel
theorem d_M_point_97 : decode c_M_point 97 = .ok (.imul, 1) := by decide +kernel
theorem d_M_point_98 : decode c_M_point 98 = .ok (.istore 6, 2) := by decide +kernel
theorem d_M_point_100 : decode c_M_point 100 = .ok (.iload 6, 2) := by decide +kernel
theorem d_M_point_102 : decode c_M_point 102 = .ok (.bipush 10, 2) := by decide +kernel
theorem d_M_point_104 : decode c_M_point 104 = .ok (.iload_n 1, 1) := by decide +kernel
theorem d_M_point_105 : decode c_M_point 105 = .ok (.imul, 1) := by decide +kernel
theorem d_M_point_106 : decode c_M_point 106 = .ok (.aload_n 0, 1) := by decide +kernel
theorem d_M_point_107 : decode c_M_point 107 = .ok (.getfield 42, 3) := by decide +kernel
theorem d_M_point_110 : decode c_M_point 110 = .ok (.iload_n 1, 1) := by decide +kernel
theorem d_M_point_111 : decode c_M_point 111 = .ok (.iaload, 1) := by decide +kernel
theorem d_M_point_112 : decode c_M_point 112 = .ok (.iadd, 1) := by decide +kernel
theorem d_M_point_113 : decode c_M_point 113 = .ok (.if_icmp .ge 103, 3) := by decide +kernel
theorem d_M_point_116 : decode c_M_point 116 = .ok (.aload_n 0, 1) := by decide +kernel
theorem d_M_point_117 : decode c_M_point 117 = .ok (.getfield 45, 3) := by decide +kernel
theorem d_M_point_120 : decode c_M_point 120 = .ok (.iload 6, 2) := by decide +kernel
theorem d_M_point_122 : decode c_M_point 122 = .ok (.iaload, 1) := by decide +kernel
theorem d_M_point_123 : decode c_M_point 123 = .ok (.aload_n 0, 1) := by decide +kernel
theorem d_M_point_124 : decode c_M_point 124 = .ok (.getfield 81, 3) := by decide +kernel
theorem d_M_point_127 : decode c_M_point 127 = .ok (.if_icmp .ne 83, 3) := by decide +kernel
theorem d_M_point_130 : decode c_M_point 130 = .ok (.aload_n 0, 1) := by decide +kernel
theorem d_M_point_131 : decode c_M_point 131 = .ok (.getfield 51, 3) := by decide +kernel
theorem d_M_point_134 : decode c_M_point 134 = .ok (.iload 6, 2) := by decide +kernel
theorem d_M_point_136 : decode c_M_point 136 = .ok (.iaload, 1) := by decide +kernel
theorem d_M_point_137 : decode c_M_point 137 = .ok (.iload_n 2, 1) := by decide +kernel
theorem d_M_point_138 : decode c_M_point 138 = .ok (.if_icmp .ne 72, 3) := by decide +kernel
theorem d_M_point_141 : decode c_M_point 141 = .ok (.aload_n 0, 1) := by decide +kernel
theorem d_M_point_142 : decode c_M_point 142 = .ok (.getfield 61, 3) := by decide +kernel
theorem d_M_point_145 : decode c_M_point 145 = .ok (.iload 6, 2) := by decide +kernel
theorem d_M_point_147 : decode c_M_point 147 = .ok (.laload, 1) := by decide +kernel
theorem d_M_point_148 : decode c_M_point 148 = .ok (.lconst 0, 1) := by decide +kernel
theorem d_M_point_149 : decode c_M_point 149 = .ok (.lcmp, 1) := by decide +kernel
theorem d_M_point_150 : decode c_M_point 150 = .ok (.ifCond .ge 6, 3) := by decide +kernel
theorem d_M_point_153 : decode c_M_point 153 = .ok (.goto 57, 3) := by decide +kernel
theorem d_M_point_156 : decode c_M_point 156 = .ok (.lload_n 3, 1) := by decide +kernel
theorem d_M_point_157 : decode c_M_point 157 = .ok (.aload_n 0, 1) := by decide +kernel
theorem d_M_point_158 : decode c_M_point 158 = .ok (.getfield 61, 3) := by decide +kernel
theorem d_M_point_161 : decode c_M_point 161 = .ok (.iload 6, 2) := by decide +kernel
theorem d_M_point_163 : decode c_M_point 163 = .ok (.laload, 1) := by decide +kernel
theorem d_M_point_164 : decode c_M_point 164 = .ok (.lsub, 1) := by decide +kernel
theorem d_M_point_165 : decode c_M_point 165 = .ok (.lstore 7, 2) := by decide +kernel
theorem d_M_point_167 : decode c_M_point 167 = .ok (.lload 7, 2) := by decide +kernel
theorem d_M_point_169 : decode c_M_point 169 = .ok (.aload_n 0, 1) := by decide +kernel
theorem d_M_point_170 : decode c_M_point 170 = .ok (.getfield 54, 3) := by decide +kernel
theorem d_M_point_173 : decode c_M_point 173 = .ok (.iload 6, 2) := by decide +kernel
theorem d_M_point_175 : decode c_M_point 175 = .ok (.laload, 1) := by decide +kernel
theorem d_M_point_176 : decode c_M_point 176 = .ok (.lcmp, 1) := by decide +kernel
theorem d_M_point_177 : decode c_M_point 177 = .ok (.ifCond .lt 16, 3) := by decide +kernel
theorem d_M_point_180 : decode c_M_point 180 = .ok (.lload 7, 2) := by decide +kernel
theorem d_M_point_182 : decode c_M_point 182 = .ok (.aload_n 0, 1) := by decide +kernel
theorem d_M_point_183 : decode c_M_point 183 = .ok (.getfield 58, 3) := by decide +kernel
theorem d_M_point_186 : decode c_M_point 186 = .ok (.iload 6, 2) := by decide +kernel
theorem d_M_point_188 : decode c_M_point 188 = .ok (.laload, 1) := by decide +kernel
theorem d_M_point_189 : decode c_M_point 189 = .ok (.lcmp, 1) := by decide +kernel
theorem d_M_point_190 : decode c_M_point 190 = .ok (.ifCond .le 10, 3) := by decide +kernel
theorem d_M_point_193 : decode c_M_point 193 = .ok (.aload_n 0, 1) := by decide +kernel
theorem d_M_point_194 : decode c_M_point 194 = .ok (.getfield 31, 3) := by decide +kernel
theorem d_M_point_197 : decode c_M_point 197 = .ok (.iload_n 1, 1) := by decide +kernel
theorem d_M_point_198 : decode c_M_point 198 = .ok (.iconst 1, 1) := by decide +kernel
theorem d_M_point_199 : decode c_M_point 199 = .ok (.bastore, 1) := by decide +kernel
theorem d_M_point_200 : decode c_M_point 200 = .ok (.aload_n 0, 1) := by decide +kernel
theorem d_M_point_201 : decode c_M_point 201 = .ok (.getfield 61, 3) := by decide +kernel
theorem d_M_point_204 : decode c_M_point 204 = .ok (.iload 6, 2) := by decide +kernel
theorem d_M_point_206 : decode c_M_point 206 = .ok (.ldc2_w 64, 3) := by decide +kernel
theorem d_M_point_209 : decode c_M_point 209 = .ok (.lastore, 1) := by decide +kernel
theorem d_M_point_210 : decode c_M_point 210 = .ok (.iinc 6 1, 3) := by decide +kernel
theorem d_M_point_213 : decode c_M_point 213 = .ok (.goto (-113), 3) := by decide +kernel
theorem d_M_point_216 : decode c_M_point 216 = .ok (.bipush 10, 2) := by decide +kernel
theorem d_M_point_218 : decode c_M_point 218 = .ok (.iload_n 1, 1) := by decide +kernel
theorem d_M_point_219 : decode c_M_point 219 = .ok (.imul, 1) := by decide +kernel
theorem d_M_point_220 : decode c_M_point 220 = .ok (.istore 6, 2) := by decide +kernel
theorem d_M_point_222 : decode c_M_point 222 = .ok (.iload 6, 2) := by decide +kernel
theorem d_M_point_224 : decode c_M_point 224 = .ok (.bipush 10, 2) := by decide +kernel
theorem d_M_point_226 : decode c_M_point 226 = .ok (.iload_n 1, 1) := by decide +kernel
theorem d_M_point_227 : decode c_M_point 227 = .ok (.imul, 1) := by decide +kernel
theorem d_M_point_228 : decode c_M_point 228 = .ok (.aload_n 0, 1) := by decide +kernel
theorem d_M_point_229 : decode c_M_point 229 = .ok (.getfield 42, 3) := by decide +kernel
theorem d_M_point_232 : decode c_M_point 232 = .ok (.iload_n 1, 1) := by decide +kernel
theorem d_M_point_233 : decode c_M_point 233 = .ok (.iaload, 1) := by decide +kernel
theorem d_M_point_234 : decode c_M_point 234 = .ok (.iadd, 1) := by decide +kernel
theorem d_M_point_235 : decode c_M_point 235 = .ok (.if_icmp .ge 42, 3) := by decide +kernel
theorem d_M_point_238 : decode c_M_point 238 = .ok (.aload_n 0, 1) := by decide +kernel
theorem d_M_point_239 : decode c_M_point 239 = .ok (.getfield 45, 3) := by decide +kernel
theorem d_M_point_242 : decode c_M_point 242 = .ok (.iload 6, 2) := by decide +kernel
theorem d_M_point_244 : decode c_M_point 244 = .ok (.iaload, 1) := by decide +kernel
theorem d_M_point_245 : decode c_M_point 245 = .ok (.aload_n 0, 1) := by decide +kernel
theorem d_M_point_246 : decode c_M_point 246 = .ok (.getfield 81, 3) := by decide +kernel
theorem d_M_point_249 : decode c_M_point 249 = .ok (.if_icmp .ne 22, 3) := by decide +kernel
theorem d_M_point_252 : decode c_M_point 252 = .ok (.aload_n 0, 1) := by decide +kernel
theorem d_M_point_253 : decode c_M_point 253 = .ok (.getfield 48, 3) := by decide +kernel
theorem d_M_point_256 : decode c_M_point 256 = .ok (.iload 6, 2) := by decide +kernel
theorem d_M_point_258 : decode c_M_point 258 = .ok (.iaload, 1) := by decide +kernel
theorem d_M_point_259 : decode c_M_point 259 = .ok (.iload_n 2, 1) := by decide +kernel
theorem d_M_point_260 : decode c_M_point 260 = .ok (.if_icmp .ne 11, 3) := by decide +kernel
theorem d_M_point_263 : decode c_M_point 263 = .ok (.aload_n 0, 1) := by decide +kernel
theorem d_M_point_264 : decode c_M_point 264 = .ok (.getfield 61, 3) := by decide +kernel
theorem d_M_point_267 : decode c_M_point 267 = .ok (.iload 6, 2) := by decide +kernel
theorem d_M_point_269 : decode c_M_point 269 = .ok (.lload_n 3, 1) := by decide +kernel
theorem d_M_point_270 : decode c_M_point 270 = .ok (.lastore, 1) := by decide +kernel
theorem d_M_point_271 : decode c_M_point 271 = .ok (.iinc 6 1, 3) := by decide +kernel
theorem d_M_point_274 : decode c_M_point 274 = .ok (.goto (-52), 3) := by decide +kernel
theorem d_M_point_277 : decode c_M_point 277 = .ok (.iload_n 2, 1) := by decide +kernel
theorem d_M_point_278 : decode c_M_point 278 = .ok (.iconst 1, 1) := by decide +kernel
theorem d_M_point_279 : decode c_M_point 279 = .ok (.if_icmp .ne 13, 3) := by decide +kernel
theorem d_M_point_282 : decode c_M_point 282 = .ok (.aload_n 0, 1) := by decide +kernel
theorem d_M_point_283 : decode c_M_point 283 = .ok (.getfield 28, 3) := by decide +kernel
theorem d_M_point_286 : decode c_M_point 286 = .ok (.iload_n 1, 1) := by decide +kernel
theorem d_M_point_287 : decode c_M_point 287 = .ok (.dup2, 1) := by decide +kernel
theorem d_M_point_288 : decode c_M_point 288 = .ok (.iaload, 1) := by decide +kernel
theorem d_M_point_289 : decode c_M_point 289 = .ok (.iconst 1, 1) := by decide +kernel
theorem d_M_point_290 : decode c_M_point 290 = .ok (.iadd, 1) := by decide +kernel
theorem d_M_point_291 : decode c_M_point 291 = .ok (.iastore, 1) := by decide +kernel
theorem d_M_point_292 : decode c_M_point 292 = .ok (.aload_n 0, 1) := by decide +kernel
theorem d_M_point_293 : decode c_M_point 293 = .ok (.getfield 19, 3) := by decide +kernel
theorem d_M_point_296 : decode c_M_point 296 = .ok (.iload_n 1, 1) := by decide +kernel
theorem d_M_point_297 : decode c_M_point 297 = .ok (.iaload, 1) := by decide +kernel
theorem d_M_point_298 : decode c_M_point 298 = .ok (.ireturn, 1) := by decide +kernel
theorem d_M_clear_0 : decode c_M_clear 0 = .ok (.aload_n 0, 1) := by decide +kernel
theorem d_M_clear_1 : decode c_M_clear 1 = .ok (.getfield 28, 3) := by decide +kernel
theorem d_M_clear_4 : decode c_M_clear 4 = .ok (.iload_n 1, 1) := by decide +kernel
theorem d_M_clear_5 : decode c_M_clear 5 = .ok (.iconst 0, 1) := by decide +kernel
theorem d_M_clear_6 : decode c_M_clear 6 = .ok (.iastore, 1) := by decide +kernel
theorem d_M_clear_7 : decode c_M_clear 7 = .ok (.aload_n 0, 1) := by decide +kernel
theorem d_M_clear_8 : decode c_M_clear 8 = .ok (.getfield 31, 3) := by decide +kernel
theorem d_M_clear_11 : decode c_M_clear 11 = .ok (.iload_n 1, 1) := by decide +kernel
theorem d_M_clear_12 : decode c_M_clear 12 = .ok (.iconst 0, 1) := by decide +kernel
theorem d_M_clear_13 : decode c_M_clear 13 = .ok (.bastore, 1) := by decide +kernel
theorem d_M_clear_14 : decode c_M_clear 14 = .ok (.aload_n 0, 1) := by decide +kernel
theorem d_M_clear_15 : decode c_M_clear 15 = .ok (.getfield 35, 3) := by decide +kernel
theorem d_M_clear_18 : decode c_M_clear 18 = .ok (.iload_n 1, 1) := by decide +kernel
theorem d_M_clear_19 : decode c_M_clear 19 = .ok (.iconst 0, 1) := by decide +kernel
theorem d_M_clear_20 : decode c_M_clear 20 = .ok (.iastore, 1) := by decide +kernel
theorem d_M_clear_21 : decode c_M_clear 21 = .ok (.bipush 10, 2) := by decide +kernel
theorem d_M_clear_23 : decode c_M_clear 23 = .ok (.iload_n 1, 1) := by decide +kernel
theorem d_M_clear_24 : decode c_M_clear 24 = .ok (.imul, 1) := by decide +kernel
theorem d_M_clear_25 : decode c_M_clear 25 = .ok (.istore_n 2, 1) := by decide +kernel
theorem d_M_clear_26 : decode c_M_clear 26 = .ok (.iload_n 2, 1) := by decide +kernel
theorem d_M_clear_27 : decode c_M_clear 27 = .ok (.bipush 10, 2) := by decide +kernel
theorem d_M_clear_29 : decode c_M_clear 29 = .ok (.iload_n 1, 1) := by decide +kernel
theorem d_M_clear_30 : decode c_M_clear 30 = .ok (.imul, 1) := by decide +kernel
theorem d_M_clear_31 : decode c_M_clear 31 = .ok (.bipush 10, 2) := by decide +kernel
theorem d_M_clear_33 : decode c_M_clear 33 = .ok (.iadd, 1) := by decide +kernel
theorem d_M_clear_34 : decode c_M_clear 34 = .ok (.if_icmp .ge 18, 3) := by decide +kernel
theorem d_M_clear_37 : decode c_M_clear 37 = .ok (.aload_n 0, 1) := by decide +kernel
theorem d_M_clear_38 : decode c_M_clear 38 = .ok (.getfield 61, 3) := by decide +kernel
theorem d_M_clear_41 : decode c_M_clear 41 = .ok (.iload_n 2, 1) := by decide +kernel
theorem d_M_clear_42 : decode c_M_clear 42 = .ok (.ldc2_w 64, 3) := by decide +kernel
theorem d_M_clear_45 : decode c_M_clear 45 = .ok (.lastore, 1) := by decide +kernel
theorem d_M_clear_46 : decode c_M_clear 46 = .ok (.iinc 2 1, 3) := by decide +kernel
theorem d_M_clear_49 : decode c_M_clear 49 = .ok (.goto (-23), 3) := by decide +kernel
theorem d_M_clear_52 : decode c_M_clear 52 = .ok (.return_, 1) := by decide +kernel
theorem d_M_reset0_0 : decode c_M_reset0 0 = .ok (.aload_n 0, 1) := by decide +kernel
theorem d_M_reset0_1 : decode c_M_reset0 1 = .ok (.iload_n 1, 1) := by decide +kernel
theorem d_M_reset0_2 : decode c_M_reset0 2 = .ok (.putfield 98, 3) := by decide +kernel
theorem d_M_reset0_5 : decode c_M_reset0 5 = .ok (.aload_n 0, 1) := by decide +kernel
theorem d_M_reset0_6 : decode c_M_reset0 6 = .ok (.dup, 1) := by decide +kernel
theorem d_M_reset0_7 : decode c_M_reset0 7 = .ok (.getfield 101, 3) := by decide +kernel
theorem d_M_reset0_10 : decode c_M_reset0 10 = .ok (.iconst 1, 1) := by decide +kernel
theorem d_M_reset0_11 : decode c_M_reset0 11 = .ok (.iadd, 1) := by decide +kernel
theorem d_M_reset0_12 : decode c_M_reset0 12 = .ok (.putfield 101, 3) := by decide +kernel
theorem d_M_reset0_15 : decode c_M_reset0 15 = .ok (.iconst 1, 1) := by decide +kernel
theorem d_M_reset0_16 : decode c_M_reset0 16 = .ok (.istore_n 2, 1) := by decide +kernel
theorem d_M_reset0_17 : decode c_M_reset0 17 = .ok (.iload_n 2, 1) := by decide +kernel
theorem d_M_reset0_18 : decode c_M_reset0 18 = .ok (.aload_n 0, 1) := by decide +kernel
theorem d_M_reset0_19 : decode c_M_reset0 19 = .ok (.getfield 70, 3) := by decide +kernel
theorem d_M_reset0_22 : decode c_M_reset0 22 = .ok (.if_icmp .gt 28, 3) := by decide +kernel
theorem d_M_reset0_25 : decode c_M_reset0 25 = .ok (.aload_n 0, 1) := by decide +kernel
theorem d_M_reset0_26 : decode c_M_reset0 26 = .ok (.iload_n 2, 1) := by decide +kernel
theorem d_M_reset0_27 : decode c_M_reset0 27 = .ok (.invokevirtual 104, 3) := by decide +kernel
theorem d_M_reset0_30 : decode c_M_reset0 30 = .ok (.aload_n 0, 1) := by decide +kernel
theorem d_M_reset0_31 : decode c_M_reset0 31 = .ok (.getfield 19, 3) := by decide +kernel
theorem d_M_reset0_34 : decode c_M_reset0 34 = .ok (.iload_n 2, 1) := by decide +kernel
theorem d_M_reset0_35 : decode c_M_reset0 35 = .ok (.iconst 0, 1) := by decide +kernel
theorem d_M_reset0_36 : decode c_M_reset0 36 = .ok (.iastore, 1) := by decide +kernel
theorem d_M_reset0_37 : decode c_M_reset0 37 = .ok (.aload_n 0, 1) := by decide +kernel
theorem d_M_reset0_38 : decode c_M_reset0 38 = .ok (.getfield 22, 3) := by decide +kernel
theorem d_M_reset0_41 : decode c_M_reset0 41 = .ok (.iload_n 2, 1) := by decide +kernel
theorem d_M_reset0_42 : decode c_M_reset0 42 = .ok (.iconst 0, 1) := by decide +kernel
theorem d_M_reset0_43 : decode c_M_reset0 43 = .ok (.iastore, 1) := by decide +kernel
theorem d_M_reset0_44 : decode c_M_reset0 44 = .ok (.iinc 2 1, 3) := by decide +kernel
theorem d_M_reset0_47 : decode c_M_reset0 47 = .ok (.goto (-30), 3) := by decide +kernel
theorem d_M_reset0_50 : decode c_M_reset0 50 = .ok (.aload_n 0, 1) := by decide +kernel
theorem d_M_reset0_51 : decode c_M_reset0 51 = .ok (.iconst 0, 1) := by decide +kernel
theorem d_M_reset0_52 : decode c_M_reset0 52 = .ok (.putfield 81, 3) := by decide +kernel
theorem d_M_reset0_55 : decode c_M_reset0 55 = .ok (.aload_n 0, 1) := by decide +kernel
theorem d_M_reset0_56 : decode c_M_reset0 56 = .ok (.iconst 0, 1) := by decide +kernel
theorem d_M_reset0_57 : decode c_M_reset0 57 = .ok (.putfield 108, 3) := by decide +kernel
theorem d_M_reset0_60 : decode c_M_reset0 60 = .ok (.aload_n 0, 1) := by decide +kernel
theorem d_M_reset0_61 : decode c_M_reset0 61 = .ok (.iconst 0, 1) := by decide +kernel
theorem d_M_reset0_62 : decode c_M_reset0 62 = .ok (.putfield 111, 3) := by decide +kernel
theorem d_M_reset0_65 : decode c_M_reset0 65 = .ok (.aload_n 0, 1) := by decide +kernel
theorem d_M_reset0_66 : decode c_M_reset0 66 = .ok (.iconst 0, 1) := by decide +kernel
theorem d_M_reset0_67 : decode c_M_reset0 67 = .ok (.putfield 114, 3) := by decide +kernel
theorem d_M_reset0_70 : decode c_M_reset0 70 = .ok (.aload_n 0, 1) := by decide +kernel
theorem d_M_reset0_71 : decode c_M_reset0 71 = .ok (.iconst 0, 1) := by decide +kernel
theorem d_M_reset0_72 : decode c_M_reset0 72 = .ok (.putfield 117, 3) := by decide +kernel
theorem d_M_reset0_75 : decode c_M_reset0 75 = .ok (.aload_n 0, 1) := by decide +kernel
theorem d_M_reset0_76 : decode c_M_reset0 76 = .ok (.iconst 0, 1) := by decide +kernel
theorem d_M_reset0_77 : decode c_M_reset0 77 = .ok (.putfield 120, 3) := by decide +kernel
theorem d_M_reset0_80 : decode c_M_reset0 80 = .ok (.aload_n 0, 1) := by decide +kernel
theorem d_M_reset0_81 : decode c_M_reset0 81 = .ok (.aload_n 0, 1) := by decide +kernel
theorem d_M_reset0_82 : decode c_M_reset0 82 = .ok (.getfield 73, 3) := by decide +kernel
theorem d_M_reset0_85 : decode c_M_reset0 85 = .ok (.putfield 123, 3) := by decide +kernel
theorem d_M_reset0_88 : decode c_M_reset0 88 = .ok (.aload_n 0, 1) := by decide +kernel
theorem d_M_reset0_89 : decode c_M_reset0 89 = .ok (.aload_n 0, 1) := by decide +kernel
theorem d_M_reset0_90 : decode c_M_reset0 90 = .ok (.getfield 73, 3) := by decide +kernel
theorem d_M_reset0_93 : decode c_M_reset0 93 = .ok (.putfield 126, 3) := by decide +kernel
theorem d_M_reset0_96 : decode c_M_reset0 96 = .ok (.return_, 1) := by decide +kernel
theorem d_M_judge_0 : decode c_M_judge 0 = .ok (.bipush 10, 2) := by decide +kernel
theorem d_M_judge_2 : decode c_M_judge 2 = .ok (.iload_n 1, 1) := by decide +kernel
theorem d_M_judge_3 : decode c_M_judge 3 = .ok (.imul, 1) := by decide +kernel
theorem d_M_judge_4 : decode c_M_judge 4 = .ok (.istore_n 2, 1) := by decide +kernel
theorem d_M_judge_5 : decode c_M_judge 5 = .ok (.iload_n 2, 1) := by decide +kernel
theorem d_M_judge_6 : decode c_M_judge 6 = .ok (.bipush 10, 2) := by decide +kernel
theorem d_M_judge_8 : decode c_M_judge 8 = .ok (.iload_n 1, 1) := by decide +kernel
theorem d_M_judge_9 : decode c_M_judge 9 = .ok (.imul, 1) := by decide +kernel
theorem d_M_judge_10 : decode c_M_judge 10 = .ok (.aload_n 0, 1) := by decide +kernel
theorem d_M_judge_11 : decode c_M_judge 11 = .ok (.getfield 42, 3) := by decide +kernel
theorem d_M_judge_14 : decode c_M_judge 14 = .ok (.iload_n 1, 1) := by decide +kernel
theorem d_M_judge_15 : decode c_M_judge 15 = .ok (.iaload, 1) := by decide +kernel
theorem d_M_judge_16 : decode c_M_judge 16 = .ok (.iadd, 1) := by decide +kernel
theorem d_M_judge_17 : decode c_M_judge 17 = .ok (.if_icmp .ge 60, 3) := by decide +kernel
theorem d_M_judge_20 : decode c_M_judge 20 = .ok (.aload_n 0, 1) := by decide +kernel
theorem d_M_judge_21 : decode c_M_judge 21 = .ok (.getfield 61, 3) := by decide +kernel
theorem d_M_judge_24 : decode c_M_judge 24 = .ok (.iload_n 2, 1) := by decide +kernel
theorem d_M_judge_25 : decode c_M_judge 25 = .ok (.laload, 1) := by decide +kernel
theorem d_M_judge_26 : decode c_M_judge 26 = .ok (.lconst 0, 1) := by decide +kernel
theorem d_M_judge_27 : decode c_M_judge 27 = .ok (.lcmp, 1) := by decide +kernel
theorem d_M_judge_28 : decode c_M_judge 28 = .ok (.ifCond .lt 43, 3) := by decide +kernel
theorem d_M_judge_31 : decode c_M_judge 31 = .ok (.aload_n 0, 1) := by decide +kernel
theorem d_M_judge_32 : decode c_M_judge 32 = .ok (.getfield 73, 3) := by decide +kernel
theorem d_M_judge_35 : decode c_M_judge 35 = .ok (.aload_n 0, 1) := by decide +kernel
theorem d_M_judge_36 : decode c_M_judge 36 = .ok (.getfield 61, 3) := by decide +kernel
theorem d_M_judge_39 : decode c_M_judge 39 = .ok (.iload_n 2, 1) := by decide +kernel
theorem d_M_judge_40 : decode c_M_judge 40 = .ok (.laload, 1) := by decide +kernel
theorem d_M_judge_41 : decode c_M_judge 41 = .ok (.lsub, 1) := by decide +kernel
theorem d_M_judge_42 : decode c_M_judge 42 = .ok (.aload_n 0, 1) := by decide +kernel
theorem d_M_judge_43 : decode c_M_judge 43 = .ok (.getfield 58, 3) := by decide +kernel
theorem d_M_judge_46 : decode c_M_judge 46 = .ok (.iload_n 2, 1) := by decide +kernel
theorem d_M_judge_47 : decode c_M_judge 47 = .ok (.laload, 1) := by decide +kernel
theorem d_M_judge_48 : decode c_M_judge 48 = .ok (.lcmp, 1) := by decide +kernel
theorem d_M_judge_49 : decode c_M_judge 49 = .ok (.ifCond .gt 6, 3) := by decide +kernel
theorem d_M_judge_52 : decode c_M_judge 52 = .ok (.goto 19, 3) := by decide +kernel
theorem d_M_judge_55 : decode c_M_judge 55 = .ok (.aload_n 0, 1) := by decide +kernel
theorem d_M_judge_56 : decode c_M_judge 56 = .ok (.getfield 31, 3) := by decide +kernel
theorem d_M_judge_59 : decode c_M_judge 59 = .ok (.iload_n 1, 1) := by decide +kernel
theorem d_M_judge_60 : decode c_M_judge 60 = .ok (.iconst 1, 1) := by decide +kernel
theorem d_M_judge_61 : decode c_M_judge 61 = .ok (.bastore, 1) := by decide +kernel
theorem d_M_judge_62 : decode c_M_judge 62 = .ok (.aload_n 0, 1) := by decide +kernel
theorem d_M_judge_63 : decode c_M_judge 63 = .ok (.getfield 61, 3) := by decide +kernel
theorem d_M_judge_66 : decode c_M_judge 66 = .ok (.iload_n 2, 1) := by decide +kernel
theorem d_M_judge_67 : decode c_M_judge 67 = .ok (.ldc2_w 64, 3) := by decide +kernel
theorem d_M_judge_70 : decode c_M_judge 70 = .ok (.lastore, 1) := by decide +kernel
theorem d_M_judge_71 : decode c_M_judge 71 = .ok (.iinc 2 1, 3) := by decide +kernel
theorem d_M_judge_74 : decode c_M_judge 74 = .ok (.goto (-69), 3) := by decide +kernel
theorem d_M_judge_77 : decode c_M_judge 77 = .ok (.aload_n 0, 1) := by decide +kernel
theorem d_M_judge_78 : decode c_M_judge 78 = .ok (.getfield 108, 3) := by decide +kernel
theorem d_M_judge_81 : decode c_M_judge 81 = .ok (.aload_n 0, 1) := by decide +kernel
theorem d_M_judge_82 : decode c_M_judge 82 = .ok (.getfield 16, 3) := by decide +kernel
theorem d_M_judge_85 : decode c_M_judge 85 = .ok (.iload_n 1, 1) := by decide +kernel
theorem d_M_judge_86 : decode c_M_judge 86 = .ok (.iaload, 1) := by decide +kernel
theorem d_M_judge_87 : decode c_M_judge 87 = .ok (.irem, 1) := by decide +kernel
theorem d_M_judge_88 : decode c_M_judge 88 = .ok (.ifCond .ne 55, 3) := by decide +kernel
theorem d_M_judge_91 : decode c_M_judge 91 = .ok (.aload_n 0, 1) := by decide +kernel
theorem d_M_judge_92 : decode c_M_judge 92 = .ok (.getfield 108, 3) := by decide +kernel
theorem d_M_judge_95 : decode c_M_judge 95 = .ok (.iconst 2, 1) := by decide +kernel
theorem d_M_judge_96 : decode c_M_judge 96 = .ok (.if_icmp .le 40, 3) := by decide +kernel
theorem d_M_judge_99 : decode c_M_judge 99 = .ok (.aload_n 0, 1) := by decide +kernel
theorem d_M_judge_100 : decode c_M_judge 100 = .ok (.getfield 28, 3) := by decide +kernel
theorem d_M_judge_103 : decode c_M_judge 103 = .ok (.iload_n 1, 1) := by decide +kernel
theorem d_M_judge_104 : decode c_M_judge 104 = .ok (.iaload, 1) := by decide +kernel
theorem d_M_judge_105 : decode c_M_judge 105 = .ok (.aload_n 0, 1) := by decide +kernel
theorem d_M_judge_106 : decode c_M_judge 106 = .ok (.getfield 7, 3) := by decide +kernel
theorem d_M_judge_109 : decode c_M_judge 109 = .ok (.iload_n 1, 1) := by decide +kernel
theorem d_M_judge_110 : decode c_M_judge 110 = .ok (.iaload, 1) := by decide +kernel
theorem d_M_judge_111 : decode c_M_judge 111 = .ok (.if_icmp .lt 18, 3) := by decide +kernel
theorem d_M_judge_114 : decode c_M_judge 114 = .ok (.aload_n 0, 1) := by decide +kernel
theorem d_M_judge_115 : decode c_M_judge 115 = .ok (.getfield 28, 3) := by decide +kernel
theorem d_M_judge_118 : decode c_M_judge 118 = .ok (.iload_n 1, 1) := by decide +kernel
theorem d_M_judge_119 : decode c_M_judge 119 = .ok (.iaload, 1) := by decide +kernel
theorem d_M_judge_120 : decode c_M_judge 120 = .ok (.aload_n 0, 1) := by decide +kernel
theorem d_M_judge_121 : decode c_M_judge 121 = .ok (.getfield 13, 3) := by decide +kernel
theorem d_M_judge_124 : decode c_M_judge 124 = .ok (.iload_n 1, 1) := by decide +kernel
theorem d_M_judge_125 : decode c_M_judge 125 = .ok (.iaload, 1) := by decide +kernel
theorem d_M_judge_126 : decode c_M_judge 126 = .ok (.if_icmp .le 10, 3) := by decide +kernel
theorem d_M_judge_129 : decode c_M_judge 129 = .ok (.aload_n 0, 1) := by decide +kernel
theorem d_M_judge_130 : decode c_M_judge 130 = .ok (.getfield 31, 3) := by decide +kernel
theorem d_M_judge_133 : decode c_M_judge 133 = .ok (.iload_n 1, 1) := by decide +kernel
theorem d_M_judge_134 : decode c_M_judge 134 = .ok (.iconst 1, 1) := by decide +kernel
theorem d_M_judge_135 : decode c_M_judge 135 = .ok (.bastore, 1) := by decide +kernel
theorem d_M_judge_136 : decode c_M_judge 136 = .ok (.aload_n 0, 1) := by decide +kernel
theorem d_M_judge_137 : decode c_M_judge 137 = .ok (.getfield 28, 3) := by decide +kernel
theorem d_M_judge_140 : decode c_M_judge 140 = .ok (.iload_n 1, 1) := by decide +kernel
theorem d_M_judge_141 : decode c_M_judge 141 = .ok (.iconst 0, 1) := by decide +kernel
theorem d_M_judge_142 : decode c_M_judge 142 = .ok (.iastore, 1) := by decide +kernel
theorem d_M_judge_143 : decode c_M_judge 143 = .ok (.aload_n 0, 1) := by decide +kernel
theorem d_M_judge_144 : decode c_M_judge 144 = .ok (.getfield 31, 3) := by decide +kernel
theorem d_M_judge_147 : decode c_M_judge 147 = .ok (.iload_n 1, 1) := by decide +kernel
theorem d_M_judge_148 : decode c_M_judge 148 = .ok (.baload, 1) := by decide +kernel
theorem d_M_judge_149 : decode c_M_judge 149 = .ok (.ifCond .eq 42, 3) := by decide +kernel
theorem d_M_judge_152 : decode c_M_judge 152 = .ok (.aload_n 0, 1) := by decide +kernel
theorem d_M_judge_153 : decode c_M_judge 153 = .ok (.getfield 22, 3) := by decide +kernel
theorem d_M_judge_156 : decode c_M_judge 156 = .ok (.iload_n 1, 1) := by decide +kernel
theorem d_M_judge_157 : decode c_M_judge 157 = .ok (.dup2, 1) := by decide +kernel
theorem d_M_judge_158 : decode c_M_judge 158 = .ok (.iaload, 1) := by decide +kernel
theorem d_M_judge_159 : decode c_M_judge 159 = .ok (.iconst 1, 1) := by decide +kernel
theorem d_M_judge_160 : decode c_M_judge 160 = .ok (.iadd, 1) := by decide +kernel
theorem d_M_judge_161 : decode c_M_judge 161 = .ok (.iastore, 1) := by decide +kernel
theorem d_M_judge_162 : decode c_M_judge 162 = .ok (.aload_n 0, 1) := by decide +kernel
theorem d_M_judge_163 : decode c_M_judge 163 = .ok (.getfield 19, 3) := by decide +kernel
theorem d_M_judge_166 : decode c_M_judge 166 = .ok (.iload_n 1, 1) := by decide +kernel
theorem d_M_judge_167 : decode c_M_judge 167 = .ok (.aload_n 0, 1) := by decide +kernel
theorem d_M_judge_168 : decode c_M_judge 168 = .ok (.getfield 22, 3) := by decide +kernel
theorem d_M_judge_171 : decode c_M_judge 171 = .ok (.iload_n 1, 1) := by decide +kernel
theorem d_M_judge_172 : decode c_M_judge 172 = .ok (.iaload, 1) := by decide +kernel
theorem d_M_judge_173 : decode c_M_judge 173 = .ok (.aload_n 0, 1) := by decide +kernel
theorem d_M_judge_174 : decode c_M_judge 174 = .ok (.getfield 25, 3) := by decide +kernel
theorem d_M_judge_177 : decode c_M_judge 177 = .ok (.iload_n 1, 1) := by decide +kernel
theorem d_M_judge_178 : decode c_M_judge 178 = .ok (.iaload, 1) := by decide +kernel
theorem d_M_judge_179 : decode c_M_judge 179 = .ok (.if_icmp .le 7, 3) := by decide +kernel
theorem d_M_judge_182 : decode c_M_judge 182 = .ok (.iconst 2, 1) := by decide +kernel
theorem d_M_judge_183 : decode c_M_judge 183 = .ok (.goto 4, 3) := by decide +kernel
theorem d_M_judge_186 : decode c_M_judge 186 = .ok (.iconst 1, 1) := by decide +kernel
theorem d_M_judge_187 : decode c_M_judge 187 = .ok (.iastore, 1) := by decide +kernel
theorem d_M_judge_188 : decode c_M_judge 188 = .ok (.goto 43, 3) := by decide +kernel
theorem d_M_judge_191 : decode c_M_judge 191 = .ok (.aload_n 0, 1) := by decide +kernel
theorem d_M_judge_192 : decode c_M_judge 192 = .ok (.getfield 19, 3) := by decide +kernel
theorem d_M_judge_195 : decode c_M_judge 195 = .ok (.iload_n 1, 1) := by decide +kernel
theorem d_M_judge_196 : decode c_M_judge 196 = .ok (.iaload, 1) := by decide +kernel
theorem d_M_judge_197 : decode c_M_judge 197 = .ok (.iconst 1, 1) := by decide +kernel
theorem d_M_judge_198 : decode c_M_judge 198 = .ok (.if_icmp .ne 33, 3) := by decide +kernel
theorem d_M_judge_201 : decode c_M_judge 201 = .ok (.aload_n 0, 1) := by decide +kernel
theorem d_M_judge_202 : decode c_M_judge 202 = .ok (.getfield 22, 3) := by decide +kernel
theorem d_M_judge_205 : decode c_M_judge 205 = .ok (.iload_n 1, 1) := by decide +kernel
theorem d_M_judge_206 : decode c_M_judge 206 = .ok (.dup2, 1) := by decide +kernel
theorem d_M_judge_207 : decode c_M_judge 207 = .ok (.iaload, 1) := by decide +kernel
theorem d_M_judge_208 : decode c_M_judge 208 = .ok (.iconst 1, 1) := by decide +kernel
theorem d_M_judge_209 : decode c_M_judge 209 = .ok (.isub, 1) := by decide +kernel
theorem d_M_judge_210 : decode c_M_judge 210 = .ok (.iastore, 1) := by decide +kernel
theorem d_M_judge_211 : decode c_M_judge 211 = .ok (.aload_n 0, 1) := by decide +kernel
theorem d_M_judge_212 : decode c_M_judge 212 = .ok (.getfield 19, 3) := by decide +kernel
theorem d_M_judge_215 : decode c_M_judge 215 = .ok (.iload_n 1, 1) := by decide +kernel
theorem d_M_judge_216 : decode c_M_judge 216 = .ok (.aload_n 0, 1) := by decide +kernel
theorem d_M_judge_217 : decode c_M_judge 217 = .ok (.getfield 22, 3) := by decide +kernel
theorem d_M_judge_220 : decode c_M_judge 220 = .ok (.iload_n 1, 1) := by decide +kernel
theorem d_M_judge_221 : decode c_M_judge 221 = .ok (.iaload, 1) := by decide +kernel
theorem d_M_judge_222 : decode c_M_judge 222 = .ok (.ifCond .ne 7, 3) := by decide +kernel
theorem d_M_judge_225 : decode c_M_judge 225 = .ok (.iconst 0, 1) := by decide +kernel
theorem d_M_judge_226 : decode c_M_judge 226 = .ok (.goto 4, 3) := by decide +kernel
theorem d_M_judge_229 : decode c_M_judge 229 = .ok (.iconst 1, 1) := by decide +kernel
theorem d_M_judge_230 : decode c_M_judge 230 = .ok (.iastore, 1) := by decide +kernel
theorem d_M_judge_231 : decode c_M_judge 231 = .ok (.aload_n 0, 1) := by decide +kernel
theorem d_M_judge_232 : decode c_M_judge 232 = .ok (.getfield 31, 3) := by decide +kernel
theorem d_M_judge_235 : decode c_M_judge 235 = .ok (.iload_n 1, 1) := by decide +kernel
theorem d_M_judge_236 : decode c_M_judge 236 = .ok (.iconst 0, 1) := by decide +kernel
theorem d_M_judge_237 : decode c_M_judge 237 = .ok (.bastore, 1) := by decide +kernel
theorem d_M_judge_238 : decode c_M_judge 238 = .ok (.return_, 1) := by decide +kernel
theorem d_M_cycle_0 : decode c_M_cycle 0 = .ok (.aload_n 0, 1) := by decide +kernel
theorem d_M_cycle_1 : decode c_M_cycle 1 = .ok (.iconst 0, 1) := by decide +kernel
theorem d_M_cycle_2 : decode c_M_cycle 2 = .ok (.putfield 66, 3) := by decide +kernel
theorem d_M_cycle_5 : decode c_M_cycle 5 = .ok (.aload_n 0, 1) := by decide +kernel
theorem d_M_cycle_6 : decode c_M_cycle 6 = .ok (.lload_n 1, 1) := by decide +kernel
theorem d_M_cycle_7 : decode c_M_cycle 7 = .ok (.invokevirtual 94, 3) := by decide +kernel
theorem d_M_cycle_10 : decode c_M_cycle 10 = .ok (.ifCond .ne 6, 3) := by decide +kernel
theorem d_M_cycle_13 : decode c_M_cycle 13 = .ok (.bipush (-2), 2) := by decide +kernel
theorem d_M_cycle_15 : decode c_M_cycle 15 = .ok (.ireturn, 1) := by decide +kernel
theorem d_M_cycle_16 : decode c_M_cycle 16 = .ok (.aload_n 0, 1) := by decide +kernel
theorem d_M_cycle_17 : decode c_M_cycle 17 = .ok (.lload_n 1, 1) := by decide +kernel
theorem d_M_cycle_18 : decode c_M_cycle 18 = .ok (.putfield 73, 3) := by decide +kernel
theorem d_M_cycle_21 : decode c_M_cycle 21 = .ok (.aload_n 0, 1) := by decide +kernel
theorem d_M_cycle_22 : decode c_M_cycle 22 = .ok (.dup, 1) := by decide +kernel
theorem d_M_cycle_23 : decode c_M_cycle 23 = .ok (.getfield 108, 3) := by decide +kernel
theorem d_M_cycle_26 : decode c_M_cycle 26 = .ok (.iconst 1, 1) := by decide +kernel
theorem d_M_cycle_27 : decode c_M_cycle 27 = .ok (.iadd, 1) := by decide +kernel
theorem d_M_cycle_28 : decode c_M_cycle 28 = .ok (.putfield 108, 3) := by decide +kernel
theorem d_M_cycle_31 : decode c_M_cycle 31 = .ok (.iconst 0, 1) := by decide +kernel
theorem d_M_cycle_32 : decode c_M_cycle 32 = .ok (.istore_n 3, 1) := by decide +kernel
theorem d_M_cycle_33 : decode c_M_cycle 33 = .ok (.iconst 1, 1) := by decide +kernel
theorem d_M_cycle_34 : decode c_M_cycle 34 = .ok (.istore 4, 2) := by decide +kernel
theorem d_M_cycle_36 : decode c_M_cycle 36 = .ok (.iload 4, 2) := by decide +kernel
theorem d_M_cycle_38 : decode c_M_cycle 38 = .ok (.aload_n 0, 1) := by decide +kernel
theorem d_M_cycle_39 : decode c_M_cycle 39 = .ok (.getfield 70, 3) := by decide +kernel
theorem d_M_cycle_42 : decode c_M_cycle 42 = .ok (.if_icmp .gt 49, 3) := by decide +kernel
theorem d_M_cycle_45 : decode c_M_cycle 45 = .ok (.aload_n 0, 1) := by decide +kernel
theorem d_M_cycle_46 : decode c_M_cycle 46 = .ok (.getfield 19, 3) := by decide +kernel
theorem d_M_cycle_49 : decode c_M_cycle 49 = .ok (.iload 4, 2) := by decide +kernel
theorem d_M_cycle_51 : decode c_M_cycle 51 = .ok (.iaload, 1) := by decide +kernel
theorem d_M_cycle_52 : decode c_M_cycle 52 = .ok (.iconst 2, 1) := by decide +kernel
theorem d_M_cycle_53 : decode c_M_cycle 53 = .ok (.if_icmp .ge 9, 3) := by decide +kernel
theorem d_M_cycle_56 : decode c_M_cycle 56 = .ok (.aload_n 0, 1) := by decide +kernel
theorem d_M_cycle_57 : decode c_M_cycle 57 = .ok (.iload 4, 2) := by decide +kernel
theorem d_M_cycle_59 : decode c_M_cycle 59 = .ok (.invokevirtual 129, 3) := by decide +kernel
theorem d_M_cycle_62 : decode c_M_cycle 62 = .ok (.aload_n 0, 1) := by decide +kernel
theorem d_M_cycle_63 : decode c_M_cycle 63 = .ok (.getfield 19, 3) := by decide +kernel
theorem d_M_cycle_66 : decode c_M_cycle 66 = .ok (.iload 4, 2) := by decide +kernel
theorem d_M_cycle_68 : decode c_M_cycle 68 = .ok (.iaload, 1) := by decide +kernel
theorem d_M_cycle_69 : decode c_M_cycle 69 = .ok (.iload_n 3, 1) := by decide +kernel
theorem d_M_cycle_70 : decode c_M_cycle 70 = .ok (.if_icmp .le 13, 3) := by decide +kernel
theorem d_M_cycle_73 : decode c_M_cycle 73 = .ok (.aload_n 0, 1) := by decide +kernel
theorem d_M_cycle_74 : decode c_M_cycle 74 = .ok (.getfield 19, 3) := by decide +kernel
theorem d_M_cycle_77 : decode c_M_cycle 77 = .ok (.iload 4, 2) := by decide +kernel
theorem d_M_cycle_79 : decode c_M_cycle 79 = .ok (.iaload, 1) := by decide +kernel
theorem d_M_cycle_80 : decode c_M_cycle 80 = .ok (.goto 4, 3) := by decide +kernel
theorem d_M_cycle_83 : decode c_M_cycle 83 = .ok (.iload_n 3, 1) := by decide +kernel
theorem d_M_cycle_84 : decode c_M_cycle 84 = .ok (.istore_n 3, 1) := by decide +kernel
theorem d_M_cycle_85 : decode c_M_cycle 85 = .ok (.iinc 4 1, 3) := by decide +kernel
theorem d_M_cycle_88 : decode c_M_cycle 88 = .ok (.goto (-52), 3) := by decide +kernel
theorem d_M_cycle_91 : decode c_M_cycle 91 = .ok (.aload_n 0, 1) := by decide +kernel
theorem d_M_cycle_92 : decode c_M_cycle 92 = .ok (.iload_n 3, 1) := by decide +kernel
theorem d_M_cycle_93 : decode c_M_cycle 93 = .ok (.iconst 2, 1) := by decide +kernel
theorem d_M_cycle_94 : decode c_M_cycle 94 = .ok (.if_icmp .ne 12, 3) := by decide +kernel
theorem d_M_cycle_97 : decode c_M_cycle 97 = .ok (.aload_n 0, 1) := by decide +kernel
theorem d_M_cycle_98 : decode c_M_cycle 98 = .ok (.getfield 111, 3) := by decide +kernel
theorem d_M_cycle_101 : decode c_M_cycle 101 = .ok (.iconst 1, 1) := by decide +kernel
theorem d_M_cycle_102 : decode c_M_cycle 102 = .ok (.iadd, 1) := by decide +kernel
theorem d_M_cycle_103 : decode c_M_cycle 103 = .ok (.goto 4, 3) := by decide +kernel
theorem d_M_cycle_106 : decode c_M_cycle 106 = .ok (.iconst 0, 1) := by decide +kernel
theorem d_M_cycle_107 : decode c_M_cycle 107 = .ok (.putfield 111, 3) := by decide +kernel
theorem d_M_cycle_110 : decode c_M_cycle 110 = .ok (.aload_n 0, 1) := by decide +kernel
theorem d_M_cycle_111 : decode c_M_cycle 111 = .ok (.getfield 111, 3) := by decide +kernel
theorem d_M_cycle_114 : decode c_M_cycle 114 = .ok (.aload_n 0, 1) := by decide +kernel
theorem d_M_cycle_115 : decode c_M_cycle 115 = .ok (.getfield 132, 3) := by decide +kernel
theorem d_M_cycle_118 : decode c_M_cycle 118 = .ok (.if_icmp .gt 5, 3) := by decide +kernel
theorem d_M_cycle_121 : decode c_M_cycle 121 = .ok (.iload_n 3, 1) := by decide +kernel
theorem d_M_cycle_122 : decode c_M_cycle 122 = .ok (.ireturn, 1) := by decide +kernel
theorem d_M_cycle_123 : decode c_M_cycle 123 = .ok (.aload_n 0, 1) := by decide +kernel
theorem d_M_cycle_124 : decode c_M_cycle 124 = .ok (.iconst 1, 1) := by decide +kernel
theorem d_M_cycle_125 : decode c_M_cycle 125 = .ok (.invokevirtual 135, 3) := by decide +kernel
theorem d_M_cycle_128 : decode c_M_cycle 128 = .ok (.iconst 3, 1) := by decide +kernel
theorem d_M_cycle_129 : decode c_M_cycle 129 = .ok (.ireturn, 1) := by decide +kernel
theorem d_M_tolerance_0 : decode c_M_tolerance 0 = .ok (.aload_n 0, 1) := by decide +kernel
theorem d_M_tolerance_1 : decode c_M_tolerance 1 = .ok (.iconst 0, 1) := by decide +kernel
theorem d_M_tolerance_2 : decode c_M_tolerance 2 = .ok (.putfield 66, 3) := by decide +kernel
theorem d_M_tolerance_5 : decode c_M_tolerance 5 = .ok (.iload_n 1, 1) := by decide +kernel
theorem d_M_tolerance_6 : decode c_M_tolerance 6 = .ok (.ifCond .eq 13, 3) := by decide +kernel
theorem d_M_tolerance_9 : decode c_M_tolerance 9 = .ok (.aload_n 0, 1) := by decide +kernel
theorem d_M_tolerance_10 : decode c_M_tolerance 10 = .ok (.iload_n 1, 1) := by decide +kernel
theorem d_M_tolerance_11 : decode c_M_tolerance 11 = .ok (.invokevirtual 84, 3) := by decide +kernel
theorem d_M_tolerance_14 : decode c_M_tolerance 14 = .ok (.ifCond .ne 5, 3) := by decide +kernel
theorem d_M_tolerance_17 : decode c_M_tolerance 17 = .ok (.iconst (-1), 1) := by decide +kernel
theorem d_M_tolerance_18 : decode c_M_tolerance 18 = .ok (.ireturn, 1) := by decide +kernel
theorem d_M_tolerance_19 : decode c_M_tolerance 19 = .ok (.iload_n 2, 1) := by decide +kernel
theorem d_M_tolerance_20 : decode c_M_tolerance 20 = .ok (.ifCond .lt 9, 3) := by decide +kernel
theorem d_M_tolerance_23 : decode c_M_tolerance 23 = .ok (.iload_n 2, 1) := by decide +kernel
theorem d_M_tolerance_24 : decode c_M_tolerance 24 = .ok (.bipush 100, 2) := by decide +kernel
theorem d_M_tolerance_26 : decode c_M_tolerance 26 = .ok (.if_icmp .le 6, 3) := by decide +kernel
theorem d_M_tolerance_29 : decode c_M_tolerance 29 = .ok (.bipush (-2), 2) := by decide +kernel
theorem d_M_tolerance_31 : decode c_M_tolerance 31 = .ok (.ireturn, 1) := by decide +kernel
theorem d_M_tolerance_32 : decode c_M_tolerance 32 = .ok (.iload_n 1, 1) := by decide +kernel
theorem d_M_tolerance_33 : decode c_M_tolerance 33 = .ok (.ifCond .ne 11, 3) := by decide +kernel
theorem d_M_tolerance_36 : decode c_M_tolerance 36 = .ok (.aload_n 0, 1) := by decide +kernel
theorem d_M_tolerance_37 : decode c_M_tolerance 37 = .ok (.iload_n 2, 1) := by decide +kernel
theorem d_M_tolerance_38 : decode c_M_tolerance 38 = .ok (.putfield 132, 3) := by decide +kernel
theorem d_M_tolerance_41 : decode c_M_tolerance 41 = .ok (.goto 10, 3) := by decide +kernel
theorem d_M_tolerance_44 : decode c_M_tolerance 44 = .ok (.aload_n 0, 1) := by decide +kernel
theorem d_M_tolerance_45 : decode c_M_tolerance 45 = .ok (.getfield 25, 3) := by decide +kernel
theorem d_M_tolerance_48 : decode c_M_tolerance 48 = .ok (.iload_n 1, 1) := by decide +kernel
theorem d_M_tolerance_49 : decode c_M_tolerance 49 = .ok (.iload_n 2, 1) := by decide +kernel
theorem d_M_tolerance_50 : decode c_M_tolerance 50 = .ok (.iastore, 1) := by decide +kernel
theorem d_M_tolerance_51 : decode c_M_tolerance 51 = .ok (.iconst 1, 1) := by decide +kernel
theorem d_M_tolerance_52 : decode c_M_tolerance 52 = .ok (.ireturn, 1) := by decide +kernel
theorem d_M_answer_0 : decode c_M_answer 0 = .ok (.aload_n 0, 1) := by decide +kernel
theorem d_M_answer_1 : decode c_M_answer 1 = .ok (.iconst 0, 1) := by decide +kernel
theorem d_M_answer_2 : decode c_M_answer 2 = .ok (.putfield 66, 3) := by decide +kernel
theorem d_M_answer_5 : decode c_M_answer 5 = .ok (.iload_n 1, 1) := by decide +kernel
theorem d_M_answer_6 : decode c_M_answer 6 = .ok (.ifCond .lt 17, 3) := by decide +kernel
theorem d_M_answer_9 : decode c_M_answer 9 = .ok (.iload_n 1, 1) := by decide +kernel
theorem d_M_answer_10 : decode c_M_answer 10 = .ok (.iconst 3, 1) := by decide +kernel
theorem d_M_answer_11 : decode c_M_answer 11 = .ok (.if_icmp .gt 12, 3) := by decide +kernel
theorem d_M_answer_14 : decode c_M_answer 14 = .ok (.aload_n 0, 1) := by decide +kernel
theorem d_M_answer_15 : decode c_M_answer 15 = .ok (.lload 4, 2) := by decide +kernel
theorem d_M_answer_17 : decode c_M_answer 17 = .ok (.invokevirtual 94, 3) := by decide +kernel
theorem d_M_answer_20 : decode c_M_answer 20 = .ok (.ifCond .ne 6, 3) := by decide +kernel
theorem d_M_answer_23 : decode c_M_answer 23 = .ok (.bipush (-2), 2) := by decide +kernel
theorem d_M_answer_25 : decode c_M_answer 25 = .ok (.ireturn, 1) := by decide +kernel
theorem d_M_answer_26 : decode c_M_answer 26 = .ok (.aload_n 0, 1) := by decide +kernel
theorem d_M_answer_27 : decode c_M_answer 27 = .ok (.lload 4, 2) := by decide +kernel
theorem d_M_answer_29 : decode c_M_answer 29 = .ok (.putfield 73, 3) := by decide +kernel
theorem d_M_answer_32 : decode c_M_answer 32 = .ok (.iconst 5, 1) := by decide +kernel
theorem d_M_answer_33 : decode c_M_answer 33 = .ok (.aload_n 0, 1) := by decide +kernel
theorem d_M_answer_34 : decode c_M_answer 34 = .ok (.getfield 114, 3) := by decide +kernel
theorem d_M_answer_37 : decode c_M_answer 37 = .ok (.imul, 1) := by decide +kernel
theorem d_M_answer_38 : decode c_M_answer 38 = .ok (.iconst 3, 1) := by decide +kernel
theorem d_M_answer_39 : decode c_M_answer 39 = .ok (.iload_n 1, 1) := by decide +kernel
theorem d_M_answer_40 : decode c_M_answer 40 = .ok (.imul, 1) := by decide +kernel
theorem d_M_answer_41 : decode c_M_answer 41 = .ok (.iadd, 1) := by decide +kernel
theorem d_M_answer_42 : decode c_M_answer 42 = .ok (.bipush 10, 2) := by decide +kernel
theorem d_M_answer_44 : decode c_M_answer 44 = .ok (.ixor, 1) := by decide +kernel
theorem d_M_answer_45 : decode c_M_answer 45 = .ok (.bipush 16, 2) := by decide +kernel
theorem d_M_answer_47 : decode c_M_answer 47 = .ok (.irem, 1) := by decide +kernel
theorem d_M_answer_48 : decode c_M_answer 48 = .ok (.istore 6, 2) := by decide +kernel
theorem d_M_answer_50 : decode c_M_answer 50 = .ok (.iload_n 1, 1) := by decide +kernel
theorem d_M_answer_51 : decode c_M_answer 51 = .ok (.aload_n 0, 1) := by decide +kernel
theorem d_M_answer_52 : decode c_M_answer 52 = .ok (.getfield 117, 3) := by decide +kernel
theorem d_M_answer_55 : decode c_M_answer 55 = .ok (.if_icmp .ne 15, 3) := by decide +kernel
theorem d_M_answer_58 : decode c_M_answer 58 = .ok (.lload_n 2, 1) := by decide +kernel
theorem d_M_answer_59 : decode c_M_answer 59 = .ok (.iload 6, 2) := by decide +kernel
theorem d_M_answer_61 : decode c_M_answer 61 = .ok (.i2l, 1) := by decide +kernel
theorem d_M_answer_62 : decode c_M_answer 62 = .ok (.lcmp, 1) := by decide +kernel
theorem d_M_answer_63 : decode c_M_answer 63 = .ok (.ifCond .ne 7, 3) := by decide +kernel
theorem d_M_answer_66 : decode c_M_answer 66 = .ok (.iconst 1, 1) := by decide +kernel
theorem d_M_answer_67 : decode c_M_answer 67 = .ok (.goto 4, 3) := by decide +kernel
theorem d_M_answer_70 : decode c_M_answer 70 = .ok (.iconst 0, 1) := by decide +kernel
theorem d_M_answer_71 : decode c_M_answer 71 = .ok (.istore 7, 2) := by decide +kernel
theorem d_M_answer_73 : decode c_M_answer 73 = .ok (.iload_n 1, 1) := by decide +kernel
theorem d_M_answer_74 : decode c_M_answer 74 = .ok (.iconst 3, 1) := by decide +kernel
theorem d_M_answer_75 : decode c_M_answer 75 = .ok (.if_icmp .ne 43, 3) := by decide +kernel
theorem d_M_answer_78 : decode c_M_answer 78 = .ok (.iload 7, 2) := by decide +kernel
theorem d_M_answer_80 : decode c_M_answer 80 = .ok (.ifCond .eq 35, 3) := by decide +kernel
theorem d_M_answer_83 : decode c_M_answer 83 = .ok (.lload 4, 2) := by decide +kernel
theorem d_M_answer_85 : decode c_M_answer 85 = .ok (.aload_n 0, 1) := by decide +kernel
theorem d_M_answer_86 : decode c_M_answer 86 = .ok (.getfield 123, 3) := by decide +kernel
theorem d_M_answer_89 : decode c_M_answer 89 = .ok (.lsub, 1) := by decide +kernel
theorem d_M_answer_90 : decode c_M_answer 90 = .ok (.ldc2_w 138, 3) := by decide +kernel
theorem d_M_answer_93 : decode c_M_answer 93 = .ok (.lcmp, 1) := by decide +kernel
theorem d_M_answer_94 : decode c_M_answer 94 = .ok (.ifCond .lt 21, 3) := by decide +kernel
theorem d_M_answer_97 : decode c_M_answer 97 = .ok (.lload 4, 2) := by decide +kernel
theorem d_M_answer_99 : decode c_M_answer 99 = .ok (.aload_n 0, 1) := by decide +kernel
theorem d_M_answer_100 : decode c_M_answer 100 = .ok (.getfield 123, 3) := by decide +kernel
theorem d_M_answer_103 : decode c_M_answer 103 = .ok (.lsub, 1) := by decide +kernel
theorem d_M_answer_104 : decode c_M_answer 104 = .ok (.ldc2_w 140, 3) := by decide +kernel
theorem d_M_answer_107 : decode c_M_answer 107 = .ok (.lcmp, 1) := by decide +kernel
theorem d_M_answer_108 : decode c_M_answer 108 = .ok (.ifCond .gt 7, 3) := by decide +kernel
theorem d_M_answer_111 : decode c_M_answer 111 = .ok (.iconst 1, 1) := by decide +kernel
theorem d_M_answer_112 : decode c_M_answer 112 = .ok (.goto 4, 3) := by decide +kernel
theorem d_M_answer_115 : decode c_M_answer 115 = .ok (.iconst 0, 1) := by decide +kernel
theorem d_M_answer_116 : decode c_M_answer 116 = .ok (.istore 7, 2) := by decide +kernel
theorem d_M_answer_118 : decode c_M_answer 118 = .ok (.iload 7, 2) := by decide +kernel
theorem d_M_answer_120 : decode c_M_answer 120 = .ok (.ifCond .ne 40, 3) := by decide +kernel
theorem d_M_answer_123 : decode c_M_answer 123 = .ok (.aload_n 0, 1) := by decide +kernel
theorem d_M_answer_124 : decode c_M_answer 124 = .ok (.dup, 1) := by decide +kernel
theorem d_M_answer_125 : decode c_M_answer 125 = .ok (.getfield 120, 3) := by decide +kernel
theorem d_M_answer_128 : decode c_M_answer 128 = .ok (.iconst 1, 1) := by decide +kernel
theorem d_M_answer_129 : decode c_M_answer 129 = .ok (.iadd, 1) := by decide +kernel
theorem d_M_answer_130 : decode c_M_answer 130 = .ok (.putfield 120, 3) := by decide +kernel
theorem d_M_answer_133 : decode c_M_answer 133 = .ok (.aload_n 0, 1) := by decide +kernel
theorem d_M_answer_134 : decode c_M_answer 134 = .ok (.iconst 0, 1) := by decide +kernel
theorem d_M_answer_135 : decode c_M_answer 135 = .ok (.putfield 117, 3) := by decide +kernel
theorem d_M_answer_138 : decode c_M_answer 138 = .ok (.aload_n 0, 1) := by decide +kernel
theorem d_M_answer_139 : decode c_M_answer 139 = .ok (.lload 4, 2) := by decide +kernel
theorem d_M_answer_141 : decode c_M_answer 141 = .ok (.putfield 123, 3) := by decide +kernel
theorem d_M_answer_144 : decode c_M_answer 144 = .ok (.aload_n 0, 1) := by decide +kernel
theorem d_M_answer_145 : decode c_M_answer 145 = .ok (.getfield 120, 3) := by decide +kernel
theorem d_M_answer_148 : decode c_M_answer 148 = .ok (.bipush 8, 2) := by decide +kernel
theorem d_M_answer_150 : decode c_M_answer 150 = .ok (.if_icmp .ne 8, 3) := by decide +kernel
theorem d_M_answer_153 : decode c_M_answer 153 = .ok (.aload_n 0, 1) := by decide +kernel
theorem d_M_answer_154 : decode c_M_answer 154 = .ok (.iconst 2, 1) := by decide +kernel
theorem d_M_answer_155 : decode c_M_answer 155 = .ok (.invokevirtual 135, 3) := by decide +kernel
theorem d_M_answer_158 : decode c_M_answer 158 = .ok (.iconst 0, 1) := by decide +kernel
theorem d_M_answer_159 : decode c_M_answer 159 = .ok (.ireturn, 1) := by decide +kernel
theorem d_M_answer_160 : decode c_M_answer 160 = .ok (.aload_n 0, 1) := by decide +kernel
theorem d_M_answer_161 : decode c_M_answer 161 = .ok (.dup, 1) := by decide +kernel
theorem d_M_answer_162 : decode c_M_answer 162 = .ok (.getfield 117, 3) := by decide +kernel
theorem d_M_answer_165 : decode c_M_answer 165 = .ok (.iconst 1, 1) := by decide +kernel
theorem d_M_answer_166 : decode c_M_answer 166 = .ok (.iadd, 1) := by decide +kernel
theorem d_M_answer_167 : decode c_M_answer 167 = .ok (.putfield 117, 3) := by decide +kernel
theorem d_M_answer_170 : decode c_M_answer 170 = .ok (.aload_n 0, 1) := by decide +kernel
theorem d_M_answer_171 : decode c_M_answer 171 = .ok (.getfield 117, 3) := by decide +kernel
theorem d_M_answer_174 : decode c_M_answer 174 = .ok (.iconst 4, 1) := by decide +kernel
theorem d_M_answer_175 : decode c_M_answer 175 = .ok (.if_icmp .ge 5, 3) := by decide +kernel
theorem d_M_answer_178 : decode c_M_answer 178 = .ok (.iconst 1, 1) := by decide +kernel
theorem d_M_answer_179 : decode c_M_answer 179 = .ok (.ireturn, 1) := by decide +kernel
theorem d_M_answer_180 : decode c_M_answer 180 = .ok (.aload_n 0, 1) := by decide +kernel
theorem d_M_answer_181 : decode c_M_answer 181 = .ok (.iconst 0, 1) := by decide +kernel
theorem d_M_answer_182 : decode c_M_answer 182 = .ok (.putfield 117, 3) := by decide +kernel
theorem d_M_answer_185 : decode c_M_answer 185 = .ok (.aload_n 0, 1) := by decide +kernel
theorem d_M_answer_186 : decode c_M_answer 186 = .ok (.lload 4, 2) := by decide +kernel
theorem d_M_answer_188 : decode c_M_answer 188 = .ok (.putfield 123, 3) := by decide +kernel
theorem d_M_answer_191 : decode c_M_answer 191 = .ok (.aload_n 0, 1) := by decide +kernel
theorem d_M_answer_192 : decode c_M_answer 192 = .ok (.aload_n 0, 1) := by decide +kernel
theorem d_M_answer_193 : decode c_M_answer 193 = .ok (.getfield 120, 3) := by decide +kernel
theorem d_M_answer_196 : decode c_M_answer 196 = .ok (.ifCond .le 12, 3) := by decide +kernel
theorem d_M_answer_199 : decode c_M_answer 199 = .ok (.aload_n 0, 1) := by decide +kernel
theorem d_M_answer_200 : decode c_M_answer 200 = .ok (.getfield 120, 3) := by decide +kernel
theorem d_M_answer_203 : decode c_M_answer 203 = .ok (.iconst 1, 1) := by decide +kernel
theorem d_M_answer_204 : decode c_M_answer 204 = .ok (.isub, 1) := by decide +kernel
theorem d_M_answer_205 : decode c_M_answer 205 = .ok (.goto 4, 3) := by decide +kernel
theorem d_M_answer_208 : decode c_M_answer 208 = .ok (.iconst 0, 1) := by decide +kernel
theorem d_M_answer_209 : decode c_M_answer 209 = .ok (.putfield 120, 3) := by decide +kernel
theorem d_M_answer_212 : decode c_M_answer 212 = .ok (.aload_n 0, 1) := by decide +kernel
theorem d_M_answer_213 : decode c_M_answer 213 = .ok (.bipush 7, 2) := by decide +kernel
theorem d_M_answer_215 : decode c_M_answer 215 = .ok (.aload_n 0, 1) := by decide +kernel
theorem d_M_answer_216 : decode c_M_answer 216 = .ok (.getfield 114, 3) := by decide +kernel
theorem d_M_answer_219 : decode c_M_answer 219 = .ok (.imul, 1) := by decide +kernel
theorem d_M_answer_220 : decode c_M_answer 220 = .ok (.iconst 3, 1) := by decide +kernel
theorem d_M_answer_221 : decode c_M_answer 221 = .ok (.iadd, 1) := by decide +kernel
theorem d_M_answer_222 : decode c_M_answer 222 = .ok (.bipush 16, 2) := by decide +kernel
theorem d_M_answer_224 : decode c_M_answer 224 = .ok (.irem, 1) := by decide +kernel
theorem d_M_answer_225 : decode c_M_answer 225 = .ok (.putfield 114, 3) := by decide +kernel
theorem d_M_answer_228 : decode c_M_answer 228 = .ok (.iconst 1, 1) := by decide +kernel
theorem d_M_answer_229 : decode c_M_answer 229 = .ok (.ireturn, 1) := by decide +kernel
theorem d_M_mode_0 : decode c_M_mode 0 = .ok (.aload_n 0, 1) := by decide +kernel
theorem d_M_mode_1 : decode c_M_mode 1 = .ok (.iconst 0, 1) := by decide +kernel
theorem d_M_mode_2 : decode c_M_mode 2 = .ok (.putfield 66, 3) := by decide +kernel
theorem d_M_mode_5 : decode c_M_mode 5 = .ok (.iload_n 1, 1) := by decide +kernel
theorem d_M_mode_6 : decode c_M_mode 6 = .ok (.ifCond .lt 8, 3) := by decide +kernel
theorem d_M_mode_9 : decode c_M_mode 9 = .ok (.iload_n 1, 1) := by decide +kernel
theorem d_M_mode_10 : decode c_M_mode 10 = .ok (.iconst 3, 1) := by decide +kernel
theorem d_M_mode_11 : decode c_M_mode 11 = .ok (.if_icmp .le 6, 3) := by decide +kernel
theorem d_M_mode_14 : decode c_M_mode 14 = .ok (.bipush (-2), 2) := by decide +kernel
theorem d_M_mode_16 : decode c_M_mode 16 = .ok (.ireturn, 1) := by decide +kernel
theorem d_M_mode_17 : decode c_M_mode 17 = .ok (.aload_n 0, 1) := by decide +kernel
theorem d_M_mode_18 : decode c_M_mode 18 = .ok (.getfield 81, 3) := by decide +kernel
theorem d_M_mode_21 : decode c_M_mode 21 = .ok (.istore_n 2, 1) := by decide +kernel
theorem d_M_mode_22 : decode c_M_mode 22 = .ok (.aload_n 0, 1) := by decide +kernel
theorem d_M_mode_23 : decode c_M_mode 23 = .ok (.iload_n 1, 1) := by decide +kernel
theorem d_M_mode_24 : decode c_M_mode 24 = .ok (.putfield 81, 3) := by decide +kernel
theorem d_M_mode_27 : decode c_M_mode 27 = .ok (.iconst 1, 1) := by decide +kernel
theorem d_M_mode_28 : decode c_M_mode 28 = .ok (.istore_n 3, 1) := by decide +kernel
theorem d_M_mode_29 : decode c_M_mode 29 = .ok (.iload_n 3, 1) := by decide +kernel
theorem d_M_mode_30 : decode c_M_mode 30 = .ok (.aload_n 0, 1) := by decide +kernel
theorem d_M_mode_31 : decode c_M_mode 31 = .ok (.getfield 70, 3) := by decide +kernel
theorem d_M_mode_34 : decode c_M_mode 34 = .ok (.if_icmp .gt 19, 3) := by decide +kernel
theorem d_M_mode_37 : decode c_M_mode 37 = .ok (.iload_n 2, 1) := by decide +kernel
theorem d_M_mode_38 : decode c_M_mode 38 = .ok (.iload_n 1, 1) := by decide +kernel
theorem d_M_mode_39 : decode c_M_mode 39 = .ok (.if_icmp .eq 14, 3) := by decide +kernel
theorem d_M_mode_42 : decode c_M_mode 42 = .ok (.aload_n 0, 1) := by decide +kernel
theorem d_M_mode_43 : decode c_M_mode 43 = .ok (.iload_n 3, 1) := by decide +kernel
theorem d_M_mode_44 : decode c_M_mode 44 = .ok (.invokevirtual 104, 3) := by decide +kernel
theorem d_M_mode_47 : decode c_M_mode 47 = .ok (.iinc 3 1, 3) := by decide +kernel
theorem d_M_mode_50 : decode c_M_mode 50 = .ok (.goto (-21), 3) := by decide +kernel
theorem d_M_mode_53 : decode c_M_mode 53 = .ok (.iload_n 2, 1) := by decide +kernel
theorem d_M_mode_54 : decode c_M_mode 54 = .ok (.ireturn, 1) := by decide +kernel
theorem d_M_reset_0 : decode c_M_reset 0 = .ok (.aload_n 0, 1) := by decide +kernel
theorem d_M_reset_1 : decode c_M_reset 1 = .ok (.iconst 0, 1) := by decide +kernel
theorem d_M_reset_2 : decode c_M_reset 2 = .ok (.putfield 66, 3) := by decide +kernel
theorem d_M_reset_5 : decode c_M_reset 5 = .ok (.iload_n 1, 1) := by decide +kernel
theorem d_M_reset_6 : decode c_M_reset 6 = .ok (.ifCond .lt 8, 3) := by decide +kernel
theorem d_M_reset_9 : decode c_M_reset 9 = .ok (.iload_n 1, 1) := by decide +kernel
theorem d_M_reset_10 : decode c_M_reset 10 = .ok (.iconst 5, 1) := by decide +kernel
theorem d_M_reset_11 : decode c_M_reset 11 = .ok (.if_icmp .le 6, 3) := by decide +kernel
theorem d_M_reset_14 : decode c_M_reset 14 = .ok (.bipush (-2), 2) := by decide +kernel
theorem d_M_reset_16 : decode c_M_reset 16 = .ok (.ireturn, 1) := by decide +kernel
theorem d_M_reset_17 : decode c_M_reset 17 = .ok (.iload_n 1, 1) := by decide +kernel
theorem d_M_reset_18 : decode c_M_reset 18 = .ok (.ifCond .ne 8, 3) := by decide +kernel
theorem d_M_reset_21 : decode c_M_reset 21 = .ok (.aload_n 0, 1) := by decide +kernel
theorem d_M_reset_22 : decode c_M_reset 22 = .ok (.iconst 4, 1) := by decide +kernel
theorem d_M_reset_23 : decode c_M_reset 23 = .ok (.invokevirtual 135, 3) := by decide +kernel
theorem d_M_reset_26 : decode c_M_reset 26 = .ok (.iload_n 1, 1) := by decide +kernel
theorem d_M_reset_27 : decode c_M_reset 27 = .ok (.iconst 2, 1) := by decide +kernel
theorem d_M_reset_28 : decode c_M_reset 28 = .ok (.if_icmp .ge 10, 3) := by decide +kernel
theorem d_M_reset_31 : decode c_M_reset 31 = .ok (.aload_n 0, 1) := by decide +kernel
theorem d_M_reset_32 : decode c_M_reset 32 = .ok (.getfield 101, 3) := by decide +kernel
theorem d_M_reset_35 : decode c_M_reset 35 = .ok (.goto 43, 3) := by decide +kernel
theorem d_M_reset_38 : decode c_M_reset 38 = .ok (.iload_n 1, 1) := by decide +kernel
theorem d_M_reset_39 : decode c_M_reset 39 = .ok (.iconst 2, 1) := by decide +kernel
theorem d_M_reset_40 : decode c_M_reset 40 = .ok (.if_icmp .ne 10, 3) := by decide +kernel
theorem d_M_reset_43 : decode c_M_reset 43 = .ok (.aload_n 0, 1) := by decide +kernel
theorem d_M_reset_44 : decode c_M_reset 44 = .ok (.getfield 98, 3) := by decide +kernel
theorem d_M_reset_47 : decode c_M_reset 47 = .ok (.goto 31, 3) := by decide +kernel
theorem d_M_reset_50 : decode c_M_reset 50 = .ok (.iload_n 1, 1) := by decide +kernel
theorem d_M_reset_51 : decode c_M_reset 51 = .ok (.iconst 3, 1) := by decide +kernel
theorem d_M_reset_52 : decode c_M_reset 52 = .ok (.if_icmp .ne 10, 3) := by decide +kernel
theorem d_M_reset_55 : decode c_M_reset 55 = .ok (.aload_n 0, 1) := by decide +kernel
theorem d_M_reset_56 : decode c_M_reset 56 = .ok (.getfield 114, 3) := by decide +kernel
theorem d_M_reset_59 : decode c_M_reset 59 = .ok (.goto 19, 3) := by decide +kernel
theorem d_M_reset_62 : decode c_M_reset 62 = .ok (.iload_n 1, 1) := by decide +kernel
theorem d_M_reset_63 : decode c_M_reset 63 = .ok (.iconst 4, 1) := by decide +kernel
theorem d_M_reset_64 : decode c_M_reset 64 = .ok (.if_icmp .ne 10, 3) := by decide +kernel
theorem d_M_reset_67 : decode c_M_reset 67 = .ok (.aload_n 0, 1) := by decide +kernel
theorem d_M_reset_68 : decode c_M_reset 68 = .ok (.getfield 120, 3) := by decide +kernel
theorem d_M_reset_71 : decode c_M_reset 71 = .ok (.goto 7, 3) := by decide +kernel
theorem d_M_reset_74 : decode c_M_reset 74 = .ok (.aload_n 0, 1) := by decide +kernel
theorem d_M_reset_75 : decode c_M_reset 75 = .ok (.getfield 108, 3) := by decide +kernel
theorem d_M_reset_78 : decode c_M_reset 78 = .ok (.ireturn, 1) := by decide +kernel
theorem d_M_outer_0 : decode c_M_outer 0 = .ok (.aload_n 0, 1) := by decide +kernel
end
section
theorem d_M_outer_1 : decode c_M_outer 1 = .ok (.iconst 0, 1) := by decide +kernel
theorem d_M_outer_2 : decode c_M_outer 2 = .ok (.putfield 66, 3) := by decide +kernel
theorem d_M_outer_5 : decode c_M_outer 5 = .ok (.aload_n 0, 1) := by decide +kernel
theorem d_M_outer_6 : decode c_M_outer 6 = .ok (.lload_n 1, 1) := by decide +kernel
theorem d_M_outer_7 : decode c_M_outer 7 = .ok (.invokevirtual 94, 3) := by decide +kernel
theorem d_M_outer_10 : decode c_M_outer 10 = .ok (.ifCond .ne 6, 3) := by decide +kernel
theorem d_M_outer_13 : decode c_M_outer 13 = .ok (.bipush (-2), 2) := by decide +kernel
theorem d_M_outer_15 : decode c_M_outer 15 = .ok (.ireturn, 1) := by decide +kernel
theorem d_M_outer_16 : decode c_M_outer 16 = .ok (.aload_n 0, 1) := by decide +kernel
theorem d_M_outer_17 : decode c_M_outer 17 = .ok (.lload_n 1, 1) := by decide +kernel
theorem d_M_outer_18 : decode c_M_outer 18 = .ok (.putfield 73, 3) := by decide +kernel
theorem d_M_outer_21 : decode c_M_outer 21 = .ok (.lload_n 1, 1) := by decide +kernel
theorem d_M_outer_22 : decode c_M_outer 22 = .ok (.aload_n 0, 1) := by decide +kernel
theorem d_M_outer_23 : decode c_M_outer 23 = .ok (.getfield 126, 3) := by decide +kernel
theorem d_M_outer_26 : decode c_M_outer 26 = .ok (.lsub, 1) := by decide +kernel
theorem d_M_outer_27 : decode c_M_outer 27 = .ok (.ldc2_w 79, 3) := by decide +kernel
theorem d_M_outer_30 : decode c_M_outer 30 = .ok (.lcmp, 1) := by decide +kernel
theorem d_M_outer_31 : decode c_M_outer 31 = .ok (.ifCond .le 7, 3) := by decide +kernel
theorem d_M_outer_34 : decode c_M_outer 34 = .ok (.iconst 1, 1) := by decide +kernel
theorem d_M_outer_35 : decode c_M_outer 35 = .ok (.goto 4, 3) := by decide +kernel
theorem d_M_outer_38 : decode c_M_outer 38 = .ok (.iconst 0, 1) := by decide +kernel
theorem d_M_outer_39 : decode c_M_outer 39 = .ok (.istore_n 3, 1) := by decide +kernel
theorem d_M_outer_40 : decode c_M_outer 40 = .ok (.aload_n 0, 1) := by decide +kernel
theorem d_M_outer_41 : decode c_M_outer 41 = .ok (.lload_n 1, 1) := by decide +kernel
theorem d_M_outer_42 : decode c_M_outer 42 = .ok (.putfield 126, 3) := by decide +kernel
theorem d_M_outer_45 : decode c_M_outer 45 = .ok (.iload_n 3, 1) := by decide +kernel
theorem d_M_outer_46 : decode c_M_outer 46 = .ok (.ifCond .eq 8, 3) := by decide +kernel
theorem d_M_outer_49 : decode c_M_outer 49 = .ok (.aload_n 0, 1) := by decide +kernel
theorem d_M_outer_50 : decode c_M_outer 50 = .ok (.iconst 3, 1) := by decide +kernel
theorem d_M_outer_51 : decode c_M_outer 51 = .ok (.invokevirtual 135, 3) := by decide +kernel
theorem d_M_outer_54 : decode c_M_outer 54 = .ok (.iload_n 3, 1) := by decide +kernel
theorem d_M_outer_55 : decode c_M_outer 55 = .ok (.ifCond .eq 7, 3) := by decide +kernel
theorem d_M_outer_58 : decode c_M_outer 58 = .ok (.iconst 0, 1) := by decide +kernel
theorem d_M_outer_59 : decode c_M_outer 59 = .ok (.goto 4, 3) := by decide +kernel
theorem d_M_outer_62 : decode c_M_outer 62 = .ok (.iconst 1, 1) := by decide +kernel
theorem d_M_outer_63 : decode c_M_outer 63 = .ok (.ireturn, 1) := by decide +kernel
theorem d_M_state_0 : decode c_M_state 0 = .ok (.aload_n 0, 1) := by decide +kernel
theorem d_M_state_1 : decode c_M_state 1 = .ok (.iconst 0, 1) := by decide +kernel
theorem d_M_state_2 : decode c_M_state 2 = .ok (.putfield 66, 3) := by decide +kernel
theorem d_M_state_5 : decode c_M_state 5 = .ok (.aload_n 0, 1) := by decide +kernel
theorem d_M_state_6 : decode c_M_state 6 = .ok (.iload_n 1, 1) := by decide +kernel
theorem d_M_state_7 : decode c_M_state 7 = .ok (.invokevirtual 84, 3) := by decide +kernel
theorem d_M_state_10 : decode c_M_state 10 = .ok (.ifCond .eq 12, 3) := by decide +kernel
theorem d_M_state_13 : decode c_M_state 13 = .ok (.aload_n 0, 1) := by decide +kernel
theorem d_M_state_14 : decode c_M_state 14 = .ok (.getfield 19, 3) := by decide +kernel
theorem d_M_state_17 : decode c_M_state 17 = .ok (.iload_n 1, 1) := by decide +kernel
theorem d_M_state_18 : decode c_M_state 18 = .ok (.iaload, 1) := by decide +kernel
theorem d_M_state_19 : decode c_M_state 19 = .ok (.goto 4, 3) := by decide +kernel
theorem d_M_state_22 : decode c_M_state 22 = .ok (.iconst (-1), 1) := by decide +kernel
theorem d_M_state_23 : decode c_M_state 23 = .ok (.ireturn, 1) := by decide +kernel
theorem d_D_init_0 : decode c_D_init 0 = .ok (.aload_n 0, 1) := by decide +kernel
theorem d_D_init_1 : decode c_D_init 1 = .ok (.invokespecial 1, 3) := by decide +kernel
theorem d_D_init_4 : decode c_D_init 4 = .ok (.aload_n 0, 1) := by decide +kernel
theorem d_D_init_5 : decode c_D_init 5 = .ok (.iload_n 1, 1) := by decide +kernel
theorem d_D_init_6 : decode c_D_init 6 = .ok (.putfield 7, 3) := by decide +kernel
theorem d_D_init_9 : decode c_D_init 9 = .ok (.aload_n 0, 1) := by decide +kernel
theorem d_D_init_10 : decode c_D_init 10 = .ok (.iload_n 2, 1) := by decide +kernel
theorem d_D_init_11 : decode c_D_init 11 = .ok (.putfield 13, 3) := by decide +kernel
theorem d_D_init_14 : decode c_D_init 14 = .ok (.aload_n 0, 1) := by decide +kernel
theorem d_D_init_15 : decode c_D_init 15 = .ok (.iload_n 3, 1) := by decide +kernel
theorem d_D_init_16 : decode c_D_init 16 = .ok (.putfield 16, 3) := by decide +kernel
theorem d_D_init_19 : decode c_D_init 19 = .ok (.aload_n 0, 1) := by decide +kernel
theorem d_D_init_20 : decode c_D_init 20 = .ok (.lload 4, 2) := by decide +kernel
theorem d_D_init_22 : decode c_D_init 22 = .ok (.putfield 19, 3) := by decide +kernel
theorem d_D_init_25 : decode c_D_init 25 = .ok (.aload_n 0, 1) := by decide +kernel
theorem d_D_init_26 : decode c_D_init 26 = .ok (.lload 6, 2) := by decide +kernel
theorem d_D_init_28 : decode c_D_init 28 = .ok (.putfield 23, 3) := by decide +kernel
theorem d_D_init_31 : decode c_D_init 31 = .ok (.aload_n 0, 1) := by decide +kernel
theorem d_D_init_32 : decode c_D_init 32 = .ok (.iconst 0, 1) := by decide +kernel
theorem d_D_init_33 : decode c_D_init 33 = .ok (.putfield 26, 3) := by decide +kernel
theorem d_D_init_36 : decode c_D_init 36 = .ok (.aload_n 0, 1) := by decide +kernel
theorem d_D_init_37 : decode c_D_init 37 = .ok (.lconst 0, 1) := by decide +kernel
theorem d_D_init_38 : decode c_D_init 38 = .ok (.putfield 30, 3) := by decide +kernel
theorem d_D_init_41 : decode c_D_init 41 = .ok (.return_, 1) := by decide +kernel
theorem d_P_init_0 : decode c_P_init 0 = .ok (.aload_n 0, 1) := by decide +kernel
theorem d_P_init_1 : decode c_P_init 1 = .ok (.invokespecial 3, 3) := by decide +kernel
theorem d_P_init_4 : decode c_P_init 4 = .ok (.aload_n 0, 1) := by decide +kernel
theorem d_P_init_5 : decode c_P_init 5 = .ok (.iload_n 1, 1) := by decide +kernel
theorem d_P_init_6 : decode c_P_init 6 = .ok (.putfield 9, 3) := by decide +kernel
theorem d_P_init_9 : decode c_P_init 9 = .ok (.aload_n 0, 1) := by decide +kernel
theorem d_P_init_10 : decode c_P_init 10 = .ok (.iload_n 2, 1) := by decide +kernel
theorem d_P_init_11 : decode c_P_init 11 = .ok (.putfield 15, 3) := by decide +kernel
theorem d_P_init_14 : decode c_P_init 14 = .ok (.aload_n 0, 1) := by decide +kernel
theorem d_P_init_15 : decode c_P_init 15 = .ok (.lload_n 3, 1) := by decide +kernel
theorem d_P_init_16 : decode c_P_init 16 = .ok (.putfield 18, 3) := by decide +kernel
theorem d_P_init_19 : decode c_P_init 19 = .ok (.aload_n 0, 1) := by decide +kernel
theorem d_P_init_20 : decode c_P_init 20 = .ok (.bipush 124, 2) := by decide +kernel
theorem d_P_init_22 : decode c_P_init 22 = .ok (.newarray .int, 2) := by decide +kernel
theorem d_P_init_24 : decode c_P_init 24 = .ok (.putfield 22, 3) := by decide +kernel
theorem d_P_init_27 : decode c_P_init 27 = .ok (.aload_n 0, 1) := by decide +kernel
theorem d_P_init_28 : decode c_P_init 28 = .ok (.new 26, 3) := by decide +kernel
theorem d_P_init_31 : decode c_P_init 31 = .ok (.dup, 1) := by decide +kernel
theorem d_P_init_32 : decode c_P_init 32 = .ok (.invokespecial 28, 3) := by decide +kernel
theorem d_P_init_35 : decode c_P_init 35 = .ok (.putfield 29, 3) := by decide +kernel
theorem d_P_init_38 : decode c_P_init 38 = .ok (.aload_n 0, 1) := by decide +kernel
theorem d_P_init_39 : decode c_P_init 39 = .ok (.iconst 0, 1) := by decide +kernel
theorem d_P_init_40 : decode c_P_init 40 = .ok (.putfield 33, 3) := by decide +kernel
theorem d_P_init_43 : decode c_P_init 43 = .ok (.aload_n 0, 1) := by decide +kernel
theorem d_P_init_44 : decode c_P_init 44 = .ok (.iconst 0, 1) := by decide +kernel
theorem d_P_init_45 : decode c_P_init 45 = .ok (.putfield 36, 3) := by decide +kernel
theorem d_P_init_48 : decode c_P_init 48 = .ok (.aload_n 0, 1) := by decide +kernel
theorem d_P_init_49 : decode c_P_init 49 = .ok (.iconst 0, 1) := by decide +kernel
theorem d_P_init_50 : decode c_P_init 50 = .ok (.putfield 39, 3) := by decide +kernel
theorem d_P_init_53 : decode c_P_init 53 = .ok (.aload_n 0, 1) := by decide +kernel
theorem d_P_init_54 : decode c_P_init 54 = .ok (.iconst 0, 1) := by decide +kernel
theorem d_P_init_55 : decode c_P_init 55 = .ok (.putfield 42, 3) := by decide +kernel
theorem d_P_init_58 : decode c_P_init 58 = .ok (.aload_n 0, 1) := by decide +kernel
theorem d_P_init_59 : decode c_P_init 59 = .ok (.iconst 0, 1) := by decide +kernel
theorem d_P_init_60 : decode c_P_init 60 = .ok (.putfield 45, 3) := by decide +kernel
theorem d_P_init_63 : decode c_P_init 63 = .ok (.aload_n 0, 1) := by decide +kernel
theorem d_P_init_64 : decode c_P_init 64 = .ok (.iconst 0, 1) := by decide +kernel
theorem d_P_init_65 : decode c_P_init 65 = .ok (.putfield 48, 3) := by decide +kernel
theorem d_P_init_68 : decode c_P_init 68 = .ok (.return_, 1) := by decide +kernel
theorem d_P_addEdge_0 : decode c_P_addEdge 0 = .ok (.iload_n 1, 1) := by decide +kernel
theorem d_P_addEdge_1 : decode c_P_addEdge 1 = .ok (.iload_n 2, 1) := by decide +kernel
theorem d_P_addEdge_2 : decode c_P_addEdge 2 = .ok (.invokestatic 52, 3) := by decide +kernel
theorem d_P_addEdge_5 : decode c_P_addEdge 5 = .ok (.istore 4, 2) := by decide +kernel
theorem d_P_addEdge_7 : decode c_P_addEdge 7 = .ok (.aload_n 0, 1) := by decide +kernel
theorem d_P_addEdge_8 : decode c_P_addEdge 8 = .ok (.iload_n 1, 1) := by decide +kernel
theorem d_P_addEdge_9 : decode c_P_addEdge 9 = .ok (.iload_n 2, 1) := by decide +kernel
theorem d_P_addEdge_10 : decode c_P_addEdge 10 = .ok (.iload_n 3, 1) := by decide +kernel
theorem d_P_addEdge_11 : decode c_P_addEdge 11 = .ok (.invokevirtual 56, 3) := by decide +kernel
theorem d_P_addEdge_14 : decode c_P_addEdge 14 = .ok (.ifCond .ne 21, 3) := by decide +kernel
theorem d_P_addEdge_17 : decode c_P_addEdge 17 = .ok (.iload 4, 2) := by decide +kernel
theorem d_P_addEdge_19 : decode c_P_addEdge 19 = .ok (.i2l, 1) := by decide +kernel
theorem d_P_addEdge_20 : decode c_P_addEdge 20 = .ok (.lconst 0, 1) := by decide +kernel
theorem d_P_addEdge_21 : decode c_P_addEdge 21 = .ok (.aload_n 0, 1) := by decide +kernel
theorem d_P_addEdge_22 : decode c_P_addEdge 22 = .ok (.getfield 22, 3) := by decide +kernel
theorem d_P_addEdge_25 : decode c_P_addEdge 25 = .ok (.arraylength, 1) := by decide +kernel
theorem d_P_addEdge_26 : decode c_P_addEdge 26 = .ok (.iconst 1, 1) := by decide +kernel
theorem d_P_addEdge_27 : decode c_P_addEdge 27 = .ok (.isub, 1) := by decide +kernel
theorem d_P_addEdge_28 : decode c_P_addEdge 28 = .ok (.i2l, 1) := by decide +kernel
theorem d_P_addEdge_29 : decode c_P_addEdge 29 = .ok (.invokestatic 60, 3) := by decide +kernel
theorem d_P_addEdge_32 : decode c_P_addEdge 32 = .ok (.ifCond .ne 5, 3) := by decide +kernel
theorem d_P_addEdge_35 : decode c_P_addEdge 35 = .ok (.iconst 0, 1) := by decide +kernel
theorem d_P_addEdge_36 : decode c_P_addEdge 36 = .ok (.ireturn, 1) := by decide +kernel
theorem d_P_addEdge_37 : decode c_P_addEdge 37 = .ok (.aload_n 0, 1) := by decide +kernel
theorem d_P_addEdge_38 : decode c_P_addEdge 38 = .ok (.getfield 22, 3) := by decide +kernel
theorem d_P_addEdge_41 : decode c_P_addEdge 41 = .ok (.iload 4, 2) := by decide +kernel
theorem d_P_addEdge_43 : decode c_P_addEdge 43 = .ok (.dup2, 1) := by decide +kernel
theorem d_P_addEdge_44 : decode c_P_addEdge 44 = .ok (.iaload, 1) := by decide +kernel
theorem d_P_addEdge_45 : decode c_P_addEdge 45 = .ok (.iconst 1, 1) := by decide +kernel
theorem d_P_addEdge_46 : decode c_P_addEdge 46 = .ok (.iload_n 3, 1) := by decide +kernel
theorem d_P_addEdge_47 : decode c_P_addEdge 47 = .ok (.ishl, 1) := by decide +kernel
theorem d_P_addEdge_48 : decode c_P_addEdge 48 = .ok (.ior, 1) := by decide +kernel
theorem d_P_addEdge_49 : decode c_P_addEdge 49 = .ok (.iastore, 1) := by decide +kernel
theorem d_P_addEdge_50 : decode c_P_addEdge 50 = .ok (.iconst 1, 1) := by decide +kernel
theorem d_P_addEdge_51 : decode c_P_addEdge 51 = .ok (.ireturn, 1) := by decide +kernel
theorem d_P_hasEdge_0 : decode c_P_hasEdge 0 = .ok (.iload_n 1, 1) := by decide +kernel
theorem d_P_hasEdge_1 : decode c_P_hasEdge 1 = .ok (.iload_n 2, 1) := by decide +kernel
theorem d_P_hasEdge_2 : decode c_P_hasEdge 2 = .ok (.invokestatic 52, 3) := by decide +kernel
theorem d_P_hasEdge_5 : decode c_P_hasEdge 5 = .ok (.istore 4, 2) := by decide +kernel
theorem d_P_hasEdge_7 : decode c_P_hasEdge 7 = .ok (.iload 4, 2) := by decide +kernel
theorem d_P_hasEdge_9 : decode c_P_hasEdge 9 = .ok (.i2l, 1) := by decide +kernel
theorem d_P_hasEdge_10 : decode c_P_hasEdge 10 = .ok (.lconst 0, 1) := by decide +kernel
theorem d_P_hasEdge_11 : decode c_P_hasEdge 11 = .ok (.aload_n 0, 1) := by decide +kernel
theorem d_P_hasEdge_12 : decode c_P_hasEdge 12 = .ok (.getfield 22, 3) := by decide +kernel
theorem d_P_hasEdge_15 : decode c_P_hasEdge 15 = .ok (.arraylength, 1) := by decide +kernel
theorem d_P_hasEdge_16 : decode c_P_hasEdge 16 = .ok (.iconst 1, 1) := by decide +kernel
theorem d_P_hasEdge_17 : decode c_P_hasEdge 17 = .ok (.isub, 1) := by decide +kernel
theorem d_P_hasEdge_18 : decode c_P_hasEdge 18 = .ok (.i2l, 1) := by decide +kernel
theorem d_P_hasEdge_19 : decode c_P_hasEdge 19 = .ok (.invokestatic 60, 3) := by decide +kernel
theorem d_P_hasEdge_22 : decode c_P_hasEdge 22 = .ok (.ifCond .eq 21, 3) := by decide +kernel
theorem d_P_hasEdge_25 : decode c_P_hasEdge 25 = .ok (.aload_n 0, 1) := by decide +kernel
theorem d_P_hasEdge_26 : decode c_P_hasEdge 26 = .ok (.getfield 22, 3) := by decide +kernel
theorem d_P_hasEdge_29 : decode c_P_hasEdge 29 = .ok (.iload 4, 2) := by decide +kernel
theorem d_P_hasEdge_31 : decode c_P_hasEdge 31 = .ok (.iaload, 1) := by decide +kernel
theorem d_P_hasEdge_32 : decode c_P_hasEdge 32 = .ok (.iconst 1, 1) := by decide +kernel
theorem d_P_hasEdge_33 : decode c_P_hasEdge 33 = .ok (.iload_n 3, 1) := by decide +kernel
theorem d_P_hasEdge_34 : decode c_P_hasEdge 34 = .ok (.ishl, 1) := by decide +kernel
theorem d_P_hasEdge_35 : decode c_P_hasEdge 35 = .ok (.iand, 1) := by decide +kernel
theorem d_P_hasEdge_36 : decode c_P_hasEdge 36 = .ok (.ifCond .eq 7, 3) := by decide +kernel
theorem d_P_hasEdge_39 : decode c_P_hasEdge 39 = .ok (.iconst 1, 1) := by decide +kernel
theorem d_P_hasEdge_40 : decode c_P_hasEdge 40 = .ok (.goto 4, 3) := by decide +kernel
theorem d_P_hasEdge_43 : decode c_P_hasEdge 43 = .ok (.iconst 0, 1) := by decide +kernel
theorem d_P_hasEdge_44 : decode c_P_hasEdge 44 = .ok (.ireturn, 1) := by decide +kernel
theorem d_P_rowOf_0 : decode c_P_rowOf 0 = .ok (.iload_n 0, 1) := by decide +kernel
theorem d_P_rowOf_1 : decode c_P_rowOf 1 = .ok (.bipush 31, 2) := by decide +kernel
theorem d_P_rowOf_3 : decode c_P_rowOf 3 = .ok (.imul, 1) := by decide +kernel
theorem d_P_rowOf_4 : decode c_P_rowOf 4 = .ok (.iload_n 1, 1) := by decide +kernel
theorem d_P_rowOf_5 : decode c_P_rowOf 5 = .ok (.iadd, 1) := by decide +kernel
theorem d_P_rowOf_6 : decode c_P_rowOf 6 = .ok (.ireturn, 1) := by decide +kernel
theorem d_P_passPoint_0 : decode c_P_passPoint 0 = .ok (.aload_n 0, 1) := by decide +kernel
theorem d_P_passPoint_1 : decode c_P_passPoint 1 = .ok (.iload_n 1, 1) := by decide +kernel
theorem d_P_passPoint_2 : decode c_P_passPoint 2 = .ok (.aload_n 0, 1) := by decide +kernel
theorem d_P_passPoint_3 : decode c_P_passPoint 3 = .ok (.getfield 45, 3) := by decide +kernel
theorem d_P_passPoint_6 : decode c_P_passPoint 6 = .ok (.iload_n 2, 1) := by decide +kernel
theorem d_P_passPoint_7 : decode c_P_passPoint 7 = .ok (.invokevirtual 56, 3) := by decide +kernel
theorem d_P_passPoint_10 : decode c_P_passPoint 10 = .ok (.istore 5, 2) := by decide +kernel
theorem d_P_passPoint_12 : decode c_P_passPoint 12 = .ok (.aload_n 0, 1) := by decide +kernel
theorem d_P_passPoint_13 : decode c_P_passPoint 13 = .ok (.iload_n 2, 1) := by decide +kernel
theorem d_P_passPoint_14 : decode c_P_passPoint 14 = .ok (.putfield 45, 3) := by decide +kernel
theorem d_P_passPoint_17 : decode c_P_passPoint 17 = .ok (.aload_n 0, 1) := by decide +kernel
theorem d_P_passPoint_18 : decode c_P_passPoint 18 = .ok (.getfield 36, 3) := by decide +kernel
theorem d_P_passPoint_21 : decode c_P_passPoint 21 = .ok (.iconst 2, 1) := by decide +kernel
theorem d_P_passPoint_22 : decode c_P_passPoint 22 = .ok (.if_icmp .ne 4, 3) := by decide +kernel
theorem d_P_passPoint_25 : decode c_P_passPoint 25 = .ok (.return_, 1) := by decide +kernel
theorem d_P_passPoint_26 : decode c_P_passPoint 26 = .ok (.iload 5, 2) := by decide +kernel
theorem d_P_passPoint_28 : decode c_P_passPoint 28 = .ok (.ifCond .ne 9, 3) := by decide +kernel
theorem d_P_passPoint_31 : decode c_P_passPoint 31 = .ok (.aload_n 0, 1) := by decide +kernel
theorem d_P_passPoint_32 : decode c_P_passPoint 32 = .ok (.iconst 2, 1) := by decide +kernel
theorem d_P_passPoint_33 : decode c_P_passPoint 33 = .ok (.putfield 36, 3) := by decide +kernel
theorem d_P_passPoint_36 : decode c_P_passPoint 36 = .ok (.return_, 1) := by decide +kernel
theorem d_P_passPoint_37 : decode c_P_passPoint 37 = .ok (.aload_n 0, 1) := by decide +kernel
theorem d_P_passPoint_38 : decode c_P_passPoint 38 = .ok (.iload_n 2, 1) := by decide +kernel
theorem d_P_passPoint_39 : decode c_P_passPoint 39 = .ok (.lload_n 3, 1) := by decide +kernel
theorem d_P_passPoint_40 : decode c_P_passPoint 40 = .ok (.invokevirtual 64, 3) := by decide +kernel
theorem d_P_passPoint_43 : decode c_P_passPoint 43 = .ok (.aload_n 0, 1) := by decide +kernel
theorem d_P_passPoint_44 : decode c_P_passPoint 44 = .ok (.iload_n 1, 1) := by decide +kernel
theorem d_P_passPoint_45 : decode c_P_passPoint 45 = .ok (.iload_n 2, 1) := by decide +kernel
theorem d_P_passPoint_46 : decode c_P_passPoint 46 = .ok (.lload_n 3, 1) := by decide +kernel
theorem d_P_passPoint_47 : decode c_P_passPoint 47 = .ok (.invokevirtual 68, 3) := by decide +kernel
theorem d_P_passPoint_50 : decode c_P_passPoint 50 = .ok (.iload_n 2, 1) := by decide +kernel
theorem d_P_passPoint_51 : decode c_P_passPoint 51 = .ok (.iconst 1, 1) := by decide +kernel
theorem d_P_passPoint_52 : decode c_P_passPoint 52 = .ok (.if_icmp .ne 13, 3) := by decide +kernel
theorem d_P_passPoint_55 : decode c_P_passPoint 55 = .ok (.aload_n 0, 1) := by decide +kernel
theorem d_P_passPoint_56 : decode c_P_passPoint 56 = .ok (.dup, 1) := by decide +kernel
theorem d_P_passPoint_57 : decode c_P_passPoint 57 = .ok (.getfield 42, 3) := by decide +kernel
theorem d_P_passPoint_60 : decode c_P_passPoint 60 = .ok (.iconst 1, 1) := by decide +kernel
theorem d_P_passPoint_61 : decode c_P_passPoint 61 = .ok (.iadd, 1) := by decide +kernel
theorem d_P_passPoint_62 : decode c_P_passPoint 62 = .ok (.putfield 42, 3) := by decide +kernel
theorem d_P_passPoint_65 : decode c_P_passPoint 65 = .ok (.return_, 1) := by decide +kernel
theorem d_P_endDeadlines_0 : decode c_P_endDeadlines 0 = .ok (.iconst 0, 1) := by decide +kernel
theorem d_P_endDeadlines_1 : decode c_P_endDeadlines 1 = .ok (.istore 4, 2) := by decide +kernel
theorem d_P_endDeadlines_3 : decode c_P_endDeadlines 3 = .ok (.iload 4, 2) := by decide +kernel
theorem d_P_endDeadlines_5 : decode c_P_endDeadlines 5 = .ok (.aload_n 0, 1) := by decide +kernel
theorem d_P_endDeadlines_6 : decode c_P_endDeadlines 6 = .ok (.getfield 29, 3) := by decide +kernel
theorem d_P_endDeadlines_9 : decode c_P_endDeadlines 9 = .ok (.invokevirtual 72, 3) := by decide +kernel
theorem d_P_endDeadlines_12 : decode c_P_endDeadlines 12 = .ok (.if_icmp .ge 85, 3) := by decide +kernel
theorem d_P_endDeadlines_15 : decode c_P_endDeadlines 15 = .ok (.aload_n 0, 1) := by decide +kernel
theorem d_P_endDeadlines_16 : decode c_P_endDeadlines 16 = .ok (.getfield 29, 3) := by decide +kernel
theorem d_P_endDeadlines_19 : decode c_P_endDeadlines 19 = .ok (.iload 4, 2) := by decide +kernel
theorem d_P_endDeadlines_21 : decode c_P_endDeadlines 21 = .ok (.invokevirtual 76, 3) := by decide +kernel
theorem d_P_endDeadlines_24 : decode c_P_endDeadlines 24 = .ok (.checkcast 80, 3) := by decide +kernel
theorem d_P_endDeadlines_27 : decode c_P_endDeadlines 27 = .ok (.astore 5, 2) := by decide +kernel
theorem d_P_endDeadlines_29 : decode c_P_endDeadlines 29 = .ok (.aload 5, 2) := by decide +kernel
theorem d_P_endDeadlines_31 : decode c_P_endDeadlines 31 = .ok (.getfield 82, 3) := by decide +kernel
theorem d_P_endDeadlines_34 : decode c_P_endDeadlines 34 = .ok (.ifCond .eq 57, 3) := by decide +kernel
theorem d_P_endDeadlines_37 : decode c_P_endDeadlines 37 = .ok (.aload 5, 2) := by decide +kernel
theorem d_P_endDeadlines_39 : decode c_P_endDeadlines 39 = .ok (.getfield 85, 3) := by decide +kernel
theorem d_P_endDeadlines_42 : decode c_P_endDeadlines 42 = .ok (.iload_n 1, 1) := by decide +kernel
theorem d_P_endDeadlines_43 : decode c_P_endDeadlines 43 = .ok (.if_icmp .ne 48, 3) := by decide +kernel
theorem d_P_endDeadlines_46 : decode c_P_endDeadlines 46 = .ok (.aload_n 0, 1) := by decide +kernel
theorem d_P_endDeadlines_47 : decode c_P_endDeadlines 47 = .ok (.aload_n 0, 1) := by decide +kernel
theorem d_P_endDeadlines_48 : decode c_P_endDeadlines 48 = .ok (.getfield 48, 3) := by decide +kernel
theorem d_P_endDeadlines_51 : decode c_P_endDeadlines 51 = .ok (.ifCond .ne 26, 3) := by decide +kernel
theorem d_P_endDeadlines_54 : decode c_P_endDeadlines 54 = .ok (.lload_n 2, 1) := by decide +kernel
theorem d_P_endDeadlines_55 : decode c_P_endDeadlines 55 = .ok (.aload 5, 2) := by decide +kernel
theorem d_P_endDeadlines_57 : decode c_P_endDeadlines 57 = .ok (.getfield 88, 3) := by decide +kernel
theorem d_P_endDeadlines_60 : decode c_P_endDeadlines 60 = .ok (.lsub, 1) := by decide +kernel
theorem d_P_endDeadlines_61 : decode c_P_endDeadlines 61 = .ok (.aload 5, 2) := by decide +kernel
theorem d_P_endDeadlines_63 : decode c_P_endDeadlines 63 = .ok (.getfield 91, 3) := by decide +kernel
theorem d_P_endDeadlines_66 : decode c_P_endDeadlines 66 = .ok (.aload 5, 2) := by decide +kernel
theorem d_P_endDeadlines_68 : decode c_P_endDeadlines 68 = .ok (.getfield 93, 3) := by decide +kernel
theorem d_P_endDeadlines_71 : decode c_P_endDeadlines 71 = .ok (.invokestatic 60, 3) := by decide +kernel
theorem d_P_endDeadlines_74 : decode c_P_endDeadlines 74 = .ok (.ifCond .ne 7, 3) := by decide +kernel
theorem d_P_endDeadlines_77 : decode c_P_endDeadlines 77 = .ok (.iconst 1, 1) := by decide +kernel
theorem d_P_endDeadlines_78 : decode c_P_endDeadlines 78 = .ok (.goto 4, 3) := by decide +kernel
theorem d_P_endDeadlines_81 : decode c_P_endDeadlines 81 = .ok (.iconst 0, 1) := by decide +kernel
theorem d_P_endDeadlines_82 : decode c_P_endDeadlines 82 = .ok (.putfield 48, 3) := by decide +kernel
theorem d_P_endDeadlines_85 : decode c_P_endDeadlines 85 = .ok (.aload 5, 2) := by decide +kernel
theorem d_P_endDeadlines_87 : decode c_P_endDeadlines 87 = .ok (.iconst 0, 1) := by decide +kernel
theorem d_P_endDeadlines_88 : decode c_P_endDeadlines 88 = .ok (.putfield 82, 3) := by decide +kernel
theorem d_P_endDeadlines_91 : decode c_P_endDeadlines 91 = .ok (.iinc 4 1, 3) := by decide +kernel
theorem d_P_endDeadlines_94 : decode c_P_endDeadlines 94 = .ok (.goto (-91), 3) := by decide +kernel
theorem d_P_endDeadlines_97 : decode c_P_endDeadlines 97 = .ok (.return_, 1) := by decide +kernel
theorem d_P_beginDeadlines_0 : decode c_P_beginDeadlines 0 = .ok (.iconst 0, 1) := by decide +kernel
theorem d_P_beginDeadlines_1 : decode c_P_beginDeadlines 1 = .ok (.istore 5, 2) := by decide +kernel
theorem d_P_beginDeadlines_3 : decode c_P_beginDeadlines 3 = .ok (.iload 5, 2) := by decide +kernel
theorem d_P_beginDeadlines_5 : decode c_P_beginDeadlines 5 = .ok (.aload_n 0, 1) := by decide +kernel
theorem d_P_beginDeadlines_6 : decode c_P_beginDeadlines 6 = .ok (.getfield 29, 3) := by decide +kernel
theorem d_P_beginDeadlines_9 : decode c_P_beginDeadlines 9 = .ok (.invokevirtual 72, 3) := by decide +kernel
theorem d_P_beginDeadlines_12 : decode c_P_beginDeadlines 12 = .ok (.if_icmp .ge 53, 3) := by decide +kernel
theorem d_P_beginDeadlines_15 : decode c_P_beginDeadlines 15 = .ok (.aload_n 0, 1) := by decide +kernel
theorem d_P_beginDeadlines_16 : decode c_P_beginDeadlines 16 = .ok (.getfield 29, 3) := by decide +kernel
theorem d_P_beginDeadlines_19 : decode c_P_beginDeadlines 19 = .ok (.iload 5, 2) := by decide +kernel
theorem d_P_beginDeadlines_21 : decode c_P_beginDeadlines 21 = .ok (.invokevirtual 76, 3) := by decide +kernel
theorem d_P_beginDeadlines_24 : decode c_P_beginDeadlines 24 = .ok (.checkcast 80, 3) := by decide +kernel
theorem d_P_beginDeadlines_27 : decode c_P_beginDeadlines 27 = .ok (.astore 6, 2) := by decide +kernel
theorem d_P_beginDeadlines_29 : decode c_P_beginDeadlines 29 = .ok (.aload 6, 2) := by decide +kernel
theorem d_P_beginDeadlines_31 : decode c_P_beginDeadlines 31 = .ok (.getfield 95, 3) := by decide +kernel
theorem d_P_beginDeadlines_34 : decode c_P_beginDeadlines 34 = .ok (.iload_n 1, 1) := by decide +kernel
theorem d_P_beginDeadlines_35 : decode c_P_beginDeadlines 35 = .ok (.if_icmp .ne 24, 3) := by decide +kernel
theorem d_P_beginDeadlines_38 : decode c_P_beginDeadlines 38 = .ok (.aload 6, 2) := by decide +kernel
theorem d_P_beginDeadlines_40 : decode c_P_beginDeadlines 40 = .ok (.getfield 98, 3) := by decide +kernel
theorem d_P_beginDeadlines_43 : decode c_P_beginDeadlines 43 = .ok (.iload_n 2, 1) := by decide +kernel
theorem d_P_beginDeadlines_44 : decode c_P_beginDeadlines 44 = .ok (.if_icmp .ne 15, 3) := by decide +kernel
theorem d_P_beginDeadlines_47 : decode c_P_beginDeadlines 47 = .ok (.aload 6, 2) := by decide +kernel
theorem d_P_beginDeadlines_49 : decode c_P_beginDeadlines 49 = .ok (.iconst 1, 1) := by decide +kernel
theorem d_P_beginDeadlines_50 : decode c_P_beginDeadlines 50 = .ok (.putfield 82, 3) := by decide +kernel
theorem d_P_beginDeadlines_53 : decode c_P_beginDeadlines 53 = .ok (.aload 6, 2) := by decide +kernel
theorem d_P_beginDeadlines_55 : decode c_P_beginDeadlines 55 = .ok (.lload_n 3, 1) := by decide +kernel
theorem d_P_beginDeadlines_56 : decode c_P_beginDeadlines 56 = .ok (.putfield 88, 3) := by decide +kernel
theorem d_P_beginDeadlines_59 : decode c_P_beginDeadlines 59 = .ok (.iinc 5 1, 3) := by decide +kernel
theorem d_P_beginDeadlines_62 : decode c_P_beginDeadlines 62 = .ok (.goto (-59), 3) := by decide +kernel
theorem d_P_beginDeadlines_65 : decode c_P_beginDeadlines 65 = .ok (.return_, 1) := by decide +kernel
theorem d_P_passCycle_0 : decode c_P_passCycle 0 = .ok (.aload_n 0, 1) := by decide +kernel
theorem d_P_passCycle_1 : decode c_P_passCycle 1 = .ok (.getfield 36, 3) := by decide +kernel
theorem d_P_passCycle_4 : decode c_P_passCycle 4 = .ok (.iconst 2, 1) := by decide +kernel
theorem d_P_passCycle_5 : decode c_P_passCycle 5 = .ok (.if_icmp .ne 4, 3) := by decide +kernel
theorem d_P_passCycle_8 : decode c_P_passCycle 8 = .ok (.return_, 1) := by decide +kernel
theorem d_P_passCycle_9 : decode c_P_passCycle 9 = .ok (.aload_n 0, 1) := by decide +kernel
theorem d_P_passCycle_10 : decode c_P_passCycle 10 = .ok (.lload_n 2, 1) := by decide +kernel
theorem d_P_passCycle_11 : decode c_P_passCycle 11 = .ok (.invokevirtual 101, 3) := by decide +kernel
theorem d_P_passCycle_14 : decode c_P_passCycle 14 = .ok (.aload_n 0, 1) := by decide +kernel
theorem d_P_passCycle_15 : decode c_P_passCycle 15 = .ok (.getfield 18, 3) := by decide +kernel
theorem d_P_passCycle_18 : decode c_P_passCycle 18 = .ok (.lconst 0, 1) := by decide +kernel
theorem d_P_passCycle_19 : decode c_P_passCycle 19 = .ok (.lcmp, 1) := by decide +kernel
theorem d_P_passCycle_20 : decode c_P_passCycle 20 = .ok (.ifCond .le 20, 3) := by decide +kernel
theorem d_P_passCycle_23 : decode c_P_passCycle 23 = .ok (.iload_n 1, 1) := by decide +kernel
theorem d_P_passCycle_24 : decode c_P_passCycle 24 = .ok (.i2l, 1) := by decide +kernel
theorem d_P_passCycle_25 : decode c_P_passCycle 25 = .ok (.aload_n 0, 1) := by decide +kernel
theorem d_P_passCycle_26 : decode c_P_passCycle 26 = .ok (.getfield 18, 3) := by decide +kernel
theorem d_P_passCycle_29 : decode c_P_passCycle 29 = .ok (.lrem, 1) := by decide +kernel
theorem d_P_passCycle_30 : decode c_P_passCycle 30 = .ok (.lconst 0, 1) := by decide +kernel
theorem d_P_passCycle_31 : decode c_P_passCycle 31 = .ok (.lcmp, 1) := by decide +kernel
theorem d_P_passCycle_32 : decode c_P_passCycle 32 = .ok (.ifCond .ne 8, 3) := by decide +kernel
theorem d_P_passCycle_35 : decode c_P_passCycle 35 = .ok (.aload_n 0, 1) := by decide +kernel
theorem d_P_passCycle_36 : decode c_P_passCycle 36 = .ok (.iload_n 1, 1) := by decide +kernel
theorem d_P_passCycle_37 : decode c_P_passCycle 37 = .ok (.invokevirtual 105, 3) := by decide +kernel
theorem d_P_passCycle_40 : decode c_P_passCycle 40 = .ok (.aload_n 0, 1) := by decide +kernel
theorem d_P_passCycle_41 : decode c_P_passCycle 41 = .ok (.invokevirtual 109, 3) := by decide +kernel
theorem d_P_passCycle_44 : decode c_P_passCycle 44 = .ok (.aload_n 0, 1) := by decide +kernel
theorem d_P_passCycle_45 : decode c_P_passCycle 45 = .ok (.iconst 0, 1) := by decide +kernel
theorem d_P_passCycle_46 : decode c_P_passCycle 46 = .ok (.putfield 48, 3) := by decide +kernel
theorem d_P_passCycle_49 : decode c_P_passCycle 49 = .ok (.return_, 1) := by decide +kernel
theorem d_P_stopLateDeadlines_0 : decode c_P_stopLateDeadlines 0 = .ok (.iconst 0, 1) := by decide +kernel
theorem d_P_stopLateDeadlines_1 : decode c_P_stopLateDeadlines 1 = .ok (.istore_n 3, 1) := by decide +kernel
theorem d_P_stopLateDeadlines_2 : decode c_P_stopLateDeadlines 2 = .ok (.iload_n 3, 1) := by decide +kernel
theorem d_P_stopLateDeadlines_3 : decode c_P_stopLateDeadlines 3 = .ok (.aload_n 0, 1) := by decide +kernel
theorem d_P_stopLateDeadlines_4 : decode c_P_stopLateDeadlines 4 = .ok (.getfield 29, 3) := by decide +kernel
theorem d_P_stopLateDeadlines_7 : decode c_P_stopLateDeadlines 7 = .ok (.invokevirtual 72, 3) := by decide +kernel
theorem d_P_stopLateDeadlines_10 : decode c_P_stopLateDeadlines 10 = .ok (.if_icmp .ge 57, 3) := by decide +kernel
theorem d_P_stopLateDeadlines_13 : decode c_P_stopLateDeadlines 13 = .ok (.aload_n 0, 1) := by decide +kernel
theorem d_P_stopLateDeadlines_14 : decode c_P_stopLateDeadlines 14 = .ok (.getfield 29, 3) := by decide +kernel
theorem d_P_stopLateDeadlines_17 : decode c_P_stopLateDeadlines 17 = .ok (.iload_n 3, 1) := by decide +kernel
theorem d_P_stopLateDeadlines_18 : decode c_P_stopLateDeadlines 18 = .ok (.invokevirtual 76, 3) := by decide +kernel
theorem d_P_stopLateDeadlines_21 : decode c_P_stopLateDeadlines 21 = .ok (.checkcast 80, 3) := by decide +kernel
theorem d_P_stopLateDeadlines_24 : decode c_P_stopLateDeadlines 24 = .ok (.astore 4, 2) := by decide +kernel
theorem d_P_stopLateDeadlines_26 : decode c_P_stopLateDeadlines 26 = .ok (.aload 4, 2) := by decide +kernel
theorem d_P_stopLateDeadlines_28 : decode c_P_stopLateDeadlines 28 = .ok (.getfield 82, 3) := by decide +kernel
theorem d_P_stopLateDeadlines_31 : decode c_P_stopLateDeadlines 31 = .ok (.ifCond .eq 30, 3) := by decide +kernel
theorem d_P_stopLateDeadlines_34 : decode c_P_stopLateDeadlines 34 = .ok (.lload_n 1, 1) := by decide +kernel
theorem d_P_stopLateDeadlines_35 : decode c_P_stopLateDeadlines 35 = .ok (.aload 4, 2) := by decide +kernel
theorem d_P_stopLateDeadlines_37 : decode c_P_stopLateDeadlines 37 = .ok (.getfield 88, 3) := by decide +kernel
theorem d_P_stopLateDeadlines_40 : decode c_P_stopLateDeadlines 40 = .ok (.lsub, 1) := by decide +kernel
theorem d_P_stopLateDeadlines_41 : decode c_P_stopLateDeadlines 41 = .ok (.aload 4, 2) := by decide +kernel
theorem d_P_stopLateDeadlines_43 : decode c_P_stopLateDeadlines 43 = .ok (.getfield 93, 3) := by decide +kernel
theorem d_P_stopLateDeadlines_46 : decode c_P_stopLateDeadlines 46 = .ok (.lcmp, 1) := by decide +kernel
theorem d_P_stopLateDeadlines_47 : decode c_P_stopLateDeadlines 47 = .ok (.ifCond .le 14, 3) := by decide +kernel
theorem d_P_stopLateDeadlines_50 : decode c_P_stopLateDeadlines 50 = .ok (.aload_n 0, 1) := by decide +kernel
theorem d_P_stopLateDeadlines_51 : decode c_P_stopLateDeadlines 51 = .ok (.iconst 1, 1) := by decide +kernel
theorem d_P_stopLateDeadlines_52 : decode c_P_stopLateDeadlines 52 = .ok (.putfield 48, 3) := by decide +kernel
theorem d_P_stopLateDeadlines_55 : decode c_P_stopLateDeadlines 55 = .ok (.aload 4, 2) := by decide +kernel
theorem d_P_stopLateDeadlines_57 : decode c_P_stopLateDeadlines 57 = .ok (.iconst 0, 1) := by decide +kernel
theorem d_P_stopLateDeadlines_58 : decode c_P_stopLateDeadlines 58 = .ok (.putfield 82, 3) := by decide +kernel
theorem d_P_stopLateDeadlines_61 : decode c_P_stopLateDeadlines 61 = .ok (.iinc 3 1, 3) := by decide +kernel
theorem d_P_stopLateDeadlines_64 : decode c_P_stopLateDeadlines 64 = .ok (.goto (-62), 3) := by decide +kernel
theorem d_P_stopLateDeadlines_67 : decode c_P_stopLateDeadlines 67 = .ok (.return_, 1) := by decide +kernel
theorem d_P_checkAliveCount_0 : decode c_P_checkAliveCount 0 = .ok (.iload_n 1, 1) := by decide +kernel
theorem d_P_checkAliveCount_1 : decode c_P_checkAliveCount 1 = .ok (.iconst 2, 1) := by decide +kernel
theorem d_P_checkAliveCount_2 : decode c_P_checkAliveCount 2 = .ok (.if_icmp .le 29, 3) := by decide +kernel
theorem d_P_checkAliveCount_5 : decode c_P_checkAliveCount 5 = .ok (.aload_n 0, 1) := by decide +kernel
theorem d_P_checkAliveCount_6 : decode c_P_checkAliveCount 6 = .ok (.getfield 42, 3) := by decide +kernel
theorem d_P_checkAliveCount_9 : decode c_P_checkAliveCount 9 = .ok (.i2l, 1) := by decide +kernel
theorem d_P_checkAliveCount_10 : decode c_P_checkAliveCount 10 = .ok (.aload_n 0, 1) := by decide +kernel
theorem d_P_checkAliveCount_11 : decode c_P_checkAliveCount 11 = .ok (.getfield 9, 3) := by decide +kernel
theorem d_P_checkAliveCount_14 : decode c_P_checkAliveCount 14 = .ok (.i2l, 1) := by decide +kernel
theorem d_P_checkAliveCount_15 : decode c_P_checkAliveCount 15 = .ok (.aload_n 0, 1) := by decide +kernel
theorem d_P_checkAliveCount_16 : decode c_P_checkAliveCount 16 = .ok (.getfield 15, 3) := by decide +kernel
theorem d_P_checkAliveCount_19 : decode c_P_checkAliveCount 19 = .ok (.i2l, 1) := by decide +kernel
theorem d_P_checkAliveCount_20 : decode c_P_checkAliveCount 20 = .ok (.invokestatic 60, 3) := by decide +kernel
theorem d_P_checkAliveCount_23 : decode c_P_checkAliveCount 23 = .ok (.ifCond .ne 8, 3) := by decide +kernel
theorem d_P_checkAliveCount_26 : decode c_P_checkAliveCount 26 = .ok (.aload_n 0, 1) := by decide +kernel
theorem d_P_checkAliveCount_27 : decode c_P_checkAliveCount 27 = .ok (.iconst 1, 1) := by decide +kernel
theorem d_P_checkAliveCount_28 : decode c_P_checkAliveCount 28 = .ok (.putfield 48, 3) := by decide +kernel
theorem d_P_checkAliveCount_31 : decode c_P_checkAliveCount 31 = .ok (.aload_n 0, 1) := by decide +kernel
theorem d_P_checkAliveCount_32 : decode c_P_checkAliveCount 32 = .ok (.iconst 0, 1) := by decide +kernel
theorem d_P_checkAliveCount_33 : decode c_P_checkAliveCount 33 = .ok (.putfield 42, 3) := by decide +kernel
theorem d_P_checkAliveCount_36 : decode c_P_checkAliveCount 36 = .ok (.return_, 1) := by decide +kernel
theorem d_P_judge_0 : decode c_P_judge 0 = .ok (.aload_n 0, 1) := by decide +kernel
theorem d_P_judge_1 : decode c_P_judge 1 = .ok (.getfield 48, 3) := by decide +kernel
theorem d_P_judge_4 : decode c_P_judge 4 = .ok (.ifCond .eq 36, 3) := by decide +kernel
theorem d_P_judge_7 : decode c_P_judge 7 = .ok (.aload_n 0, 1) := by decide +kernel
theorem d_P_judge_8 : decode c_P_judge 8 = .ok (.dup, 1) := by decide +kernel
theorem d_P_judge_9 : decode c_P_judge 9 = .ok (.getfield 39, 3) := by decide +kernel
theorem d_P_judge_12 : decode c_P_judge 12 = .ok (.iconst 1, 1) := by decide +kernel
theorem d_P_judge_13 : decode c_P_judge 13 = .ok (.iadd, 1) := by decide +kernel
theorem d_P_judge_14 : decode c_P_judge 14 = .ok (.putfield 39, 3) := by decide +kernel
theorem d_P_judge_17 : decode c_P_judge 17 = .ok (.aload_n 0, 1) := by decide +kernel
theorem d_P_judge_18 : decode c_P_judge 18 = .ok (.aload_n 0, 1) := by decide +kernel
theorem d_P_judge_19 : decode c_P_judge 19 = .ok (.getfield 39, 3) := by decide +kernel
theorem d_P_judge_22 : decode c_P_judge 22 = .ok (.aload_n 0, 1) := by decide +kernel
theorem d_P_judge_23 : decode c_P_judge 23 = .ok (.getfield 33, 3) := by decide +kernel
theorem d_P_judge_26 : decode c_P_judge 26 = .ok (.if_icmp .le 7, 3) := by decide +kernel
theorem d_P_judge_29 : decode c_P_judge 29 = .ok (.iconst 2, 1) := by decide +kernel
theorem d_P_judge_30 : decode c_P_judge 30 = .ok (.goto 4, 3) := by decide +kernel
theorem d_P_judge_33 : decode c_P_judge 33 = .ok (.iconst 1, 1) := by decide +kernel
theorem d_P_judge_34 : decode c_P_judge 34 = .ok (.putfield 36, 3) := by decide +kernel
theorem d_P_judge_37 : decode c_P_judge 37 = .ok (.goto 37, 3) := by decide +kernel
theorem d_P_judge_40 : decode c_P_judge 40 = .ok (.aload_n 0, 1) := by decide +kernel
theorem d_P_judge_41 : decode c_P_judge 41 = .ok (.getfield 36, 3) := by decide +kernel
theorem d_P_judge_44 : decode c_P_judge 44 = .ok (.iconst 1, 1) := by decide +kernel
theorem d_P_judge_45 : decode c_P_judge 45 = .ok (.if_icmp .ne 29, 3) := by decide +kernel
theorem d_P_judge_48 : decode c_P_judge 48 = .ok (.aload_n 0, 1) := by decide +kernel
theorem d_P_judge_49 : decode c_P_judge 49 = .ok (.dup, 1) := by decide +kernel
theorem d_P_judge_50 : decode c_P_judge 50 = .ok (.getfield 39, 3) := by decide +kernel
theorem d_P_judge_53 : decode c_P_judge 53 = .ok (.iconst 1, 1) := by decide +kernel
theorem d_P_judge_54 : decode c_P_judge 54 = .ok (.isub, 1) := by decide +kernel
theorem d_P_judge_55 : decode c_P_judge 55 = .ok (.putfield 39, 3) := by decide +kernel
theorem d_P_judge_58 : decode c_P_judge 58 = .ok (.aload_n 0, 1) := by decide +kernel
theorem d_P_judge_59 : decode c_P_judge 59 = .ok (.aload_n 0, 1) := by decide +kernel
theorem d_P_judge_60 : decode c_P_judge 60 = .ok (.getfield 39, 3) := by decide +kernel
theorem d_P_judge_63 : decode c_P_judge 63 = .ok (.ifCond .le 7, 3) := by decide +kernel
theorem d_P_judge_66 : decode c_P_judge 66 = .ok (.iconst 1, 1) := by decide +kernel
theorem d_P_judge_67 : decode c_P_judge 67 = .ok (.goto 4, 3) := by decide +kernel
theorem d_P_judge_70 : decode c_P_judge 70 = .ok (.iconst 0, 1) := by decide +kernel
theorem d_P_judge_71 : decode c_P_judge 71 = .ok (.putfield 36, 3) := by decide +kernel
theorem d_P_judge_74 : decode c_P_judge 74 = .ok (.return_, 1) := by decide +kernel
theorem d_P_forgetCourse_0 : decode c_P_forgetCourse 0 = .ok (.aload_n 0, 1) := by decide +kernel
theorem d_P_forgetCourse_1 : decode c_P_forgetCourse 1 = .ok (.iconst 0, 1) := by decide +kernel
theorem d_P_forgetCourse_2 : decode c_P_forgetCourse 2 = .ok (.putfield 42, 3) := by decide +kernel
theorem d_P_forgetCourse_5 : decode c_P_forgetCourse 5 = .ok (.aload_n 0, 1) := by decide +kernel
theorem d_P_forgetCourse_6 : decode c_P_forgetCourse 6 = .ok (.iconst 0, 1) := by decide +kernel
theorem d_P_forgetCourse_7 : decode c_P_forgetCourse 7 = .ok (.putfield 48, 3) := by decide +kernel
theorem d_P_forgetCourse_10 : decode c_P_forgetCourse 10 = .ok (.aload_n 0, 1) := by decide +kernel
theorem d_P_forgetCourse_11 : decode c_P_forgetCourse 11 = .ok (.iconst 0, 1) := by decide +kernel
theorem d_P_forgetCourse_12 : decode c_P_forgetCourse 12 = .ok (.putfield 45, 3) := by decide +kernel
theorem d_P_forgetCourse_15 : decode c_P_forgetCourse 15 = .ok (.iconst 0, 1) := by decide +kernel
theorem d_P_forgetCourse_16 : decode c_P_forgetCourse 16 = .ok (.istore_n 1, 1) := by decide +kernel
theorem d_P_forgetCourse_17 : decode c_P_forgetCourse 17 = .ok (.iload_n 1, 1) := by decide +kernel
theorem d_P_forgetCourse_18 : decode c_P_forgetCourse 18 = .ok (.aload_n 0, 1) := by decide +kernel
theorem d_P_forgetCourse_19 : decode c_P_forgetCourse 19 = .ok (.getfield 29, 3) := by decide +kernel
theorem d_P_forgetCourse_22 : decode c_P_forgetCourse 22 = .ok (.invokevirtual 72, 3) := by decide +kernel
theorem d_P_forgetCourse_25 : decode c_P_forgetCourse 25 = .ok (.if_icmp .ge 24, 3) := by decide +kernel
theorem d_P_forgetCourse_28 : decode c_P_forgetCourse 28 = .ok (.aload_n 0, 1) := by decide +kernel
theorem d_P_forgetCourse_29 : decode c_P_forgetCourse 29 = .ok (.getfield 29, 3) := by decide +kernel
theorem d_P_forgetCourse_32 : decode c_P_forgetCourse 32 = .ok (.iload_n 1, 1) := by decide +kernel
theorem d_P_forgetCourse_33 : decode c_P_forgetCourse 33 = .ok (.invokevirtual 76, 3) := by decide +kernel
theorem d_P_forgetCourse_36 : decode c_P_forgetCourse 36 = .ok (.checkcast 80, 3) := by decide +kernel
theorem d_P_forgetCourse_39 : decode c_P_forgetCourse 39 = .ok (.iconst 0, 1) := by decide +kernel
theorem d_P_forgetCourse_40 : decode c_P_forgetCourse 40 = .ok (.putfield 82, 3) := by decide +kernel
theorem d_P_forgetCourse_43 : decode c_P_forgetCourse 43 = .ok (.iinc 1 1, 3) := by decide +kernel
theorem d_P_forgetCourse_46 : decode c_P_forgetCourse 46 = .ok (.goto (-29), 3) := by decide +kernel
theorem d_P_forgetCourse_49 : decode c_P_forgetCourse 49 = .ok (.return_, 1) := by decide +kernel
theorem d_P_beginAnew_0 : decode c_P_beginAnew 0 = .ok (.aload_n 0, 1) := by decide +kernel
theorem d_P_beginAnew_1 : decode c_P_beginAnew 1 = .ok (.invokevirtual 112, 3) := by decide +kernel
theorem d_P_beginAnew_4 : decode c_P_beginAnew 4 = .ok (.aload_n 0, 1) := by decide +kernel
theorem d_P_beginAnew_5 : decode c_P_beginAnew 5 = .ok (.iconst 0, 1) := by decide +kernel
theorem d_P_beginAnew_6 : decode c_P_beginAnew 6 = .ok (.putfield 36, 3) := by decide +kernel
theorem d_P_beginAnew_9 : decode c_P_beginAnew 9 = .ok (.aload_n 0, 1) := by decide +kernel
theorem d_P_beginAnew_10 : decode c_P_beginAnew 10 = .ok (.iconst 0, 1) := by decide +kernel
theorem d_P_beginAnew_11 : decode c_P_beginAnew 11 = .ok (.putfield 39, 3) := by decide +kernel
theorem d_P_beginAnew_14 : decode c_P_beginAnew 14 = .ok (.return_, 1) := by decide +kernel
theorem d_Q_init_0 : decode c_Q_init 0 = .ok (.aload_n 0, 1) := by decide +kernel
theorem d_Q_init_1 : decode c_Q_init 1 = .ok (.invokespecial 3, 3) := by decide +kernel
theorem d_Q_init_4 : decode c_Q_init 4 = .ok (.aload_n 0, 1) := by decide +kernel
theorem d_Q_init_5 : decode c_Q_init 5 = .ok (.iconst 0, 1) := by decide +kernel
theorem d_Q_init_6 : decode c_Q_init 6 = .ok (.putfield 9, 3) := by decide +kernel
theorem d_Q_init_9 : decode c_Q_init 9 = .ok (.aload_n 0, 1) := by decide +kernel
theorem d_Q_init_10 : decode c_Q_init 10 = .ok (.iconst 0, 1) := by decide +kernel
theorem d_Q_init_11 : decode c_Q_init 11 = .ok (.putfield 15, 3) := by decide +kernel
theorem d_Q_init_14 : decode c_Q_init 14 = .ok (.aload_n 0, 1) := by decide +kernel
theorem d_Q_init_15 : decode c_Q_init 15 = .ok (.iconst 0, 1) := by decide +kernel
theorem d_Q_init_16 : decode c_Q_init 16 = .ok (.putfield 18, 3) := by decide +kernel
theorem d_Q_init_19 : decode c_Q_init 19 = .ok (.aload_n 0, 1) := by decide +kernel
theorem d_Q_init_20 : decode c_Q_init 20 = .ok (.lconst 0, 1) := by decide +kernel
theorem d_Q_init_21 : decode c_Q_init 21 = .ok (.putfield 21, 3) := by decide +kernel
theorem d_Q_init_24 : decode c_Q_init 24 = .ok (.return_, 1) := by decide +kernel
theorem d_Q_isRight_0 : decode c_Q_isRight 0 = .ok (.iload_n 1, 1) := by decide +kernel
theorem d_Q_isRight_1 : decode c_Q_isRight 1 = .ok (.aload_n 0, 1) := by decide +kernel
theorem d_Q_isRight_2 : decode c_Q_isRight 2 = .ok (.getfield 15, 3) := by decide +kernel
theorem d_Q_isRight_5 : decode c_Q_isRight 5 = .ok (.if_icmp .ne 31, 3) := by decide +kernel
theorem d_Q_isRight_8 : decode c_Q_isRight 8 = .ok (.lload_n 2, 1) := by decide +kernel
theorem d_Q_isRight_9 : decode c_Q_isRight 9 = .ok (.aload_n 0, 1) := by decide +kernel
theorem d_Q_isRight_10 : decode c_Q_isRight 10 = .ok (.iload_n 1, 1) := by decide +kernel
theorem d_Q_isRight_11 : decode c_Q_isRight 11 = .ok (.invokevirtual 25, 3) := by decide +kernel
theorem d_Q_isRight_14 : decode c_Q_isRight 14 = .ok (.lcmp, 1) := by decide +kernel
theorem d_Q_isRight_15 : decode c_Q_isRight 15 = .ok (.ifCond .ne 21, 3) := by decide +kernel
theorem d_Q_isRight_18 : decode c_Q_isRight 18 = .ok (.iload_n 1, 1) := by decide +kernel
theorem d_Q_isRight_19 : decode c_Q_isRight 19 = .ok (.iconst 3, 1) := by decide +kernel
theorem d_Q_isRight_20 : decode c_Q_isRight 20 = .ok (.if_icmp .ne 12, 3) := by decide +kernel
theorem d_Q_isRight_23 : decode c_Q_isRight 23 = .ok (.aload_n 0, 1) := by decide +kernel
theorem d_Q_isRight_24 : decode c_Q_isRight 24 = .ok (.lload 4, 2) := by decide +kernel
theorem d_Q_isRight_26 : decode c_Q_isRight 26 = .ok (.invokevirtual 29, 3) := by decide +kernel
theorem d_Q_isRight_29 : decode c_Q_isRight 29 = .ok (.ifCond .eq 7, 3) := by decide +kernel
theorem d_Q_isRight_32 : decode c_Q_isRight 32 = .ok (.iconst 1, 1) := by decide +kernel
theorem d_Q_isRight_33 : decode c_Q_isRight 33 = .ok (.goto 4, 3) := by decide +kernel
theorem d_Q_isRight_36 : decode c_Q_isRight 36 = .ok (.iconst 0, 1) := by decide +kernel
theorem d_Q_isRight_37 : decode c_Q_isRight 37 = .ok (.ireturn, 1) := by decide +kernel
theorem d_Q_rightValue_0 : decode c_Q_rightValue 0 = .ok (.iconst 5, 1) := by decide +kernel
theorem d_Q_rightValue_1 : decode c_Q_rightValue 1 = .ok (.aload_n 0, 1) := by decide +kernel
theorem d_Q_rightValue_2 : decode c_Q_rightValue 2 = .ok (.getfield 9, 3) := by decide +kernel
theorem d_Q_rightValue_5 : decode c_Q_rightValue 5 = .ok (.imul, 1) := by decide +kernel
theorem d_Q_rightValue_6 : decode c_Q_rightValue 6 = .ok (.iconst 3, 1) := by decide +kernel
theorem d_Q_rightValue_7 : decode c_Q_rightValue 7 = .ok (.iload_n 1, 1) := by decide +kernel
theorem d_Q_rightValue_8 : decode c_Q_rightValue 8 = .ok (.imul, 1) := by decide +kernel
theorem d_Q_rightValue_9 : decode c_Q_rightValue 9 = .ok (.iadd, 1) := by decide +kernel
theorem d_Q_rightValue_10 : decode c_Q_rightValue 10 = .ok (.bipush 10, 2) := by decide +kernel
theorem d_Q_rightValue_12 : decode c_Q_rightValue 12 = .ok (.ixor, 1) := by decide +kernel
theorem d_Q_rightValue_13 : decode c_Q_rightValue 13 = .ok (.bipush 16, 2) := by decide +kernel
theorem d_Q_rightValue_15 : decode c_Q_rightValue 15 = .ok (.irem, 1) := by decide +kernel
theorem d_Q_rightValue_16 : decode c_Q_rightValue 16 = .ok (.i2l, 1) := by decide +kernel
theorem d_Q_rightValue_17 : decode c_Q_rightValue 17 = .ok (.lreturn, 1) := by decide +kernel
theorem d_Q_isInTime_0 : decode c_Q_isInTime 0 = .ok (.lload_n 1, 1) := by decide +kernel
theorem d_Q_isInTime_1 : decode c_Q_isInTime 1 = .ok (.aload_n 0, 1) := by decide +kernel
theorem d_Q_isInTime_2 : decode c_Q_isInTime 2 = .ok (.getfield 21, 3) := by decide +kernel
theorem d_Q_isInTime_5 : decode c_Q_isInTime 5 = .ok (.lsub, 1) := by decide +kernel
theorem d_Q_isInTime_6 : decode c_Q_isInTime 6 = .ok (.ldc2_w 33, 3) := by decide +kernel
theorem d_Q_isInTime_9 : decode c_Q_isInTime 9 = .ok (.ldc2_w 35, 3) := by decide +kernel
theorem d_Q_isInTime_12 : decode c_Q_isInTime 12 = .ok (.invokestatic 37, 3) := by decide +kernel
theorem d_Q_isInTime_15 : decode c_Q_isInTime 15 = .ok (.ireturn, 1) := by decide +kernel
theorem d_Q_takeRight_0 : decode c_Q_takeRight 0 = .ok (.iload_n 1, 1) := by decide +kernel
theorem d_Q_takeRight_1 : decode c_Q_takeRight 1 = .ok (.iconst 3, 1) := by decide +kernel
theorem d_Q_takeRight_2 : decode c_Q_takeRight 2 = .ok (.if_icmp .eq 11, 3) := by decide +kernel
theorem d_Q_takeRight_5 : decode c_Q_takeRight 5 = .ok (.aload_n 0, 1) := by decide +kernel
theorem d_Q_takeRight_6 : decode c_Q_takeRight 6 = .ok (.iload_n 1, 1) := by decide +kernel
theorem d_Q_takeRight_7 : decode c_Q_takeRight 7 = .ok (.iconst 1, 1) := by decide +kernel
theorem d_Q_takeRight_8 : decode c_Q_takeRight 8 = .ok (.iadd, 1) := by decide +kernel
theorem d_Q_takeRight_9 : decode c_Q_takeRight 9 = .ok (.putfield 15, 3) := by decide +kernel
theorem d_Q_takeRight_12 : decode c_Q_takeRight 12 = .ok (.return_, 1) := by decide +kernel
theorem d_Q_takeRight_13 : decode c_Q_takeRight 13 = .ok (.aload_n 0, 1) := by decide +kernel
theorem d_Q_takeRight_14 : decode c_Q_takeRight 14 = .ok (.iconst 0, 1) := by decide +kernel
theorem d_Q_takeRight_15 : decode c_Q_takeRight 15 = .ok (.putfield 15, 3) := by decide +kernel
theorem d_Q_takeRight_18 : decode c_Q_takeRight 18 = .ok (.aload_n 0, 1) := by decide +kernel
theorem d_Q_takeRight_19 : decode c_Q_takeRight 19 = .ok (.lload_n 2, 1) := by decide +kernel
theorem d_Q_takeRight_20 : decode c_Q_takeRight 20 = .ok (.putfield 21, 3) := by decide +kernel
theorem d_Q_takeRight_23 : decode c_Q_takeRight 23 = .ok (.aload_n 0, 1) := by decide +kernel
theorem d_Q_takeRight_24 : decode c_Q_takeRight 24 = .ok (.aload_n 0, 1) := by decide +kernel
theorem d_Q_takeRight_25 : decode c_Q_takeRight 25 = .ok (.getfield 18, 3) := by decide +kernel
theorem d_Q_takeRight_28 : decode c_Q_takeRight 28 = .ok (.iconst 1, 1) := by decide +kernel
theorem d_Q_takeRight_29 : decode c_Q_takeRight 29 = .ok (.isub, 1) := by decide +kernel
theorem d_Q_takeRight_30 : decode c_Q_takeRight 30 = .ok (.iconst 0, 1) := by decide +kernel
theorem d_Q_takeRight_31 : decode c_Q_takeRight 31 = .ok (.invokestatic 41, 3) := by decide +kernel
theorem d_Q_takeRight_34 : decode c_Q_takeRight 34 = .ok (.putfield 18, 3) := by decide +kernel
theorem d_Q_takeRight_37 : decode c_Q_takeRight 37 = .ok (.aload_n 0, 1) := by decide +kernel
theorem d_Q_takeRight_38 : decode c_Q_takeRight 38 = .ok (.bipush 7, 2) := by decide +kernel
theorem d_Q_takeRight_40 : decode c_Q_takeRight 40 = .ok (.aload_n 0, 1) := by decide +kernel
theorem d_Q_takeRight_41 : decode c_Q_takeRight 41 = .ok (.getfield 9, 3) := by decide +kernel
theorem d_Q_takeRight_44 : decode c_Q_takeRight 44 = .ok (.imul, 1) := by decide +kernel
theorem d_Q_takeRight_45 : decode c_Q_takeRight 45 = .ok (.iconst 3, 1) := by decide +kernel
theorem d_Q_takeRight_46 : decode c_Q_takeRight 46 = .ok (.iadd, 1) := by decide +kernel
theorem d_Q_takeRight_47 : decode c_Q_takeRight 47 = .ok (.bipush 16, 2) := by decide +kernel
theorem d_Q_takeRight_49 : decode c_Q_takeRight 49 = .ok (.irem, 1) := by decide +kernel
theorem d_Q_takeRight_50 : decode c_Q_takeRight 50 = .ok (.putfield 9, 3) := by decide +kernel
theorem d_Q_takeRight_53 : decode c_Q_takeRight 53 = .ok (.return_, 1) := by decide +kernel
theorem d_Q_takeWrong_0 : decode c_Q_takeWrong 0 = .ok (.aload_n 0, 1) := by decide +kernel
theorem d_Q_takeWrong_1 : decode c_Q_takeWrong 1 = .ok (.dup, 1) := by decide +kernel
theorem d_Q_takeWrong_2 : decode c_Q_takeWrong 2 = .ok (.getfield 18, 3) := by decide +kernel
theorem d_Q_takeWrong_5 : decode c_Q_takeWrong 5 = .ok (.iconst 1, 1) := by decide +kernel
theorem d_Q_takeWrong_6 : decode c_Q_takeWrong 6 = .ok (.iadd, 1) := by decide +kernel
theorem d_Q_takeWrong_7 : decode c_Q_takeWrong 7 = .ok (.putfield 18, 3) := by decide +kernel
theorem d_Q_takeWrong_10 : decode c_Q_takeWrong 10 = .ok (.aload_n 0, 1) := by decide +kernel
theorem d_Q_takeWrong_11 : decode c_Q_takeWrong 11 = .ok (.iconst 0, 1) := by decide +kernel
theorem d_Q_takeWrong_12 : decode c_Q_takeWrong 12 = .ok (.putfield 15, 3) := by decide +kernel
theorem d_Q_takeWrong_15 : decode c_Q_takeWrong 15 = .ok (.aload_n 0, 1) := by decide +kernel
theorem d_Q_takeWrong_16 : decode c_Q_takeWrong 16 = .ok (.lload_n 1, 1) := by decide +kernel
theorem d_Q_takeWrong_17 : decode c_Q_takeWrong 17 = .ok (.putfield 21, 3) := by decide +kernel
theorem d_Q_takeWrong_20 : decode c_Q_takeWrong 20 = .ok (.return_, 1) := by decide +kernel
theorem d_Q_beginAnew_0 : decode c_Q_beginAnew 0 = .ok (.aload_n 0, 1) := by decide +kernel
theorem d_Q_beginAnew_1 : decode c_Q_beginAnew 1 = .ok (.iconst 0, 1) := by decide +kernel
theorem d_Q_beginAnew_2 : decode c_Q_beginAnew 2 = .ok (.putfield 9, 3) := by decide +kernel
theorem d_Q_beginAnew_5 : decode c_Q_beginAnew 5 = .ok (.aload_n 0, 1) := by decide +kernel
theorem d_Q_beginAnew_6 : decode c_Q_beginAnew 6 = .ok (.iconst 0, 1) := by decide +kernel
theorem d_Q_beginAnew_7 : decode c_Q_beginAnew 7 = .ok (.putfield 15, 3) := by decide +kernel
theorem d_Q_beginAnew_10 : decode c_Q_beginAnew 10 = .ok (.aload_n 0, 1) := by decide +kernel
theorem d_Q_beginAnew_11 : decode c_Q_beginAnew 11 = .ok (.iconst 0, 1) := by decide +kernel
theorem d_Q_beginAnew_12 : decode c_Q_beginAnew 12 = .ok (.putfield 18, 3) := by decide +kernel
theorem d_Q_beginAnew_15 : decode c_Q_beginAnew 15 = .ok (.aload_n 0, 1) := by decide +kernel
theorem d_Q_beginAnew_16 : decode c_Q_beginAnew 16 = .ok (.lload_n 1, 1) := by decide +kernel
theorem d_Q_beginAnew_17 : decode c_Q_beginAnew 17 = .ok (.putfield 21, 3) := by decide +kernel
theorem d_Q_beginAnew_20 : decode c_Q_beginAnew 20 = .ok (.return_, 1) := by decide +kernel
theorem d_L_part_0 : decode c_L_part 0 = .ok (.aload 5, 2) := by decide +kernel
theorem d_L_part_2 : decode c_L_part 2 = .ok (.iconst 0, 1) := by decide +kernel
theorem d_L_part_3 : decode c_L_part 3 = .ok (.aload_n 0, 1) := by decide +kernel
theorem d_L_part_4 : decode c_L_part 4 = .ok (.iload_n 1, 1) := by decide +kernel
theorem d_L_part_5 : decode c_L_part 5 = .ok (.iload_n 2, 1) := by decide +kernel
theorem d_L_part_6 : decode c_L_part 6 = .ok (.lload_n 3, 1) := by decide +kernel
theorem d_L_part_7 : decode c_L_part 7 = .ok (.invokevirtual 7, 3) := by decide +kernel
theorem d_L_part_10 : decode c_L_part 10 = .ok (.i2l, 1) := by decide +kernel
theorem d_L_part_11 : decode c_L_part 11 = .ok (.lastore, 1) := by decide +kernel
theorem d_L_part_12 : decode c_L_part 12 = .ok (.goto 7, 3) := by decide +kernel
theorem d_L_part_15 : decode c_L_part 15 = .ok (.astore 6, 2) := by decide +kernel
theorem d_L_part_17 : decode c_L_part 17 = .ok (.iconst 1, 1) := by decide +kernel
theorem d_L_part_18 : decode c_L_part 18 = .ok (.ireturn, 1) := by decide +kernel
theorem d_L_part_19 : decode c_L_part 19 = .ok (.iconst 0, 1) := by decide +kernel
theorem d_L_part_20 : decode c_L_part 20 = .ok (.ireturn, 1) := by decide +kernel
theorem d_L_law_0 : decode code 0 = .ok (.new 8, 3) := by decide +kernel
theorem d_L_law_3 : decode code 3 = .ok (.dup, 1) := by decide +kernel
theorem d_L_law_4 : decode code 4 = .ok (.invokespecial 15, 3) := by decide +kernel
theorem d_L_law_7 : decode code 7 = .ok (.astore_n 1, 1) := by decide +kernel
theorem d_L_law_8 : decode code 8 = .ok (.new 16, 3) := by decide +kernel
theorem d_L_law_11 : decode code 11 = .ok (.dup, 1) := by decide +kernel
theorem d_L_law_12 : decode code 12 = .ok (.invokespecial 18, 3) := by decide +kernel
theorem d_L_law_15 : decode code 15 = .ok (.astore_n 2, 1) := by decide +kernel
theorem d_L_law_16 : decode code 16 = .ok (.iconst 1, 1) := by decide +kernel
theorem d_L_law_17 : decode code 17 = .ok (.newarray .long, 2) := by decide +kernel
theorem d_L_law_19 : decode code 19 = .ok (.astore_n 3, 1) := by decide +kernel
theorem d_L_law_20 : decode code 20 = .ok (.iconst 0, 1) := by decide +kernel
theorem d_L_law_21 : decode code 21 = .ok (.istore 4, 2) := by decide +kernel
theorem d_L_law_23 : decode code 23 = .ok (.iload 4, 2) := by decide +kernel
theorem d_L_law_25 : decode code 25 = .ok (.aload_n 0, 1) := by decide +kernel
theorem d_L_law_26 : decode code 26 = .ok (.arraylength, 1) := by decide +kernel
theorem d_L_law_27 : decode code 27 = .ok (.bipush 8, 2) := by decide +kernel
theorem d_L_law_29 : decode code 29 = .ok (.isub, 1) := by decide +kernel
theorem d_L_law_30 : decode code 30 = .ok (.if_icmp .gt 798, 3) := by decide +kernel
theorem d_L_law_33 : decode code 33 = .ok (.aload_n 0, 1) := by decide +kernel
theorem d_L_law_34 : decode code 34 = .ok (.iload 4, 2) := by decide +kernel
theorem d_L_law_36 : decode code 36 = .ok (.iaload, 1) := by decide +kernel
theorem d_L_law_37 : decode code 37 = .ok (.bipush 15, 2) := by decide +kernel
theorem d_L_law_39 : decode code 39 = .ok (.iand, 1) := by decide +kernel
theorem d_L_law_40 : decode code 40 = .ok (.tableswitch 782 0 10 #[60, 172, 221, 362, 443, 500, 537, 650, 675, 700, 757], 60) := by decide +kernel
theorem d_L_law_100 : decode code 100 = .ok (.aload_n 1, 1) := by decide +kernel
theorem d_L_law_101 : decode code 101 = .ok (.aload_n 0, 1) := by decide +kernel
theorem d_L_law_102 : decode code 102 = .ok (.iload 4, 2) := by decide +kernel
theorem d_L_law_104 : decode code 104 = .ok (.iconst 1, 1) := by decide +kernel
theorem d_L_law_105 : decode code 105 = .ok (.iadd, 1) := by decide +kernel
theorem d_L_law_106 : decode code 106 = .ok (.iaload, 1) := by decide +kernel
theorem d_L_law_107 : decode code 107 = .ok (.aload_n 0, 1) := by decide +kernel
theorem d_L_law_108 : decode code 108 = .ok (.iload 4, 2) := by decide +kernel
theorem d_L_law_110 : decode code 110 = .ok (.iconst 2, 1) := by decide +kernel
theorem d_L_law_111 : decode code 111 = .ok (.iadd, 1) := by decide +kernel
theorem d_L_law_112 : decode code 112 = .ok (.iaload, 1) := by decide +kernel
theorem d_L_law_113 : decode code 113 = .ok (.aload_n 0, 1) := by decide +kernel
theorem d_L_law_114 : decode code 114 = .ok (.iload 4, 2) := by decide +kernel
theorem d_L_law_116 : decode code 116 = .ok (.iconst 3, 1) := by decide +kernel
theorem d_L_law_117 : decode code 117 = .ok (.iadd, 1) := by decide +kernel
theorem d_L_law_118 : decode code 118 = .ok (.iaload, 1) := by decide +kernel
theorem d_L_law_119 : decode code 119 = .ok (.i2l, 1) := by decide +kernel
theorem d_L_law_120 : decode code 120 = .ok (.bipush 32, 2) := by decide +kernel
theorem d_L_law_122 : decode code 122 = .ok (.lshl, 1) := by decide +kernel
theorem d_L_law_123 : decode code 123 = .ok (.aload_n 0, 1) := by decide +kernel
theorem d_L_law_124 : decode code 124 = .ok (.iload 4, 2) := by decide +kernel
theorem d_L_law_126 : decode code 126 = .ok (.iconst 4, 1) := by decide +kernel
theorem d_L_law_127 : decode code 127 = .ok (.iadd, 1) := by decide +kernel
theorem d_L_law_128 : decode code 128 = .ok (.iaload, 1) := by decide +kernel
theorem d_L_law_129 : decode code 129 = .ok (.i2l, 1) := by decide +kernel
theorem d_L_law_130 : decode code 130 = .ok (.ldc2_w 19, 3) := by decide +kernel
theorem d_L_law_133 : decode code 133 = .ok (.land, 1) := by decide +kernel
theorem d_L_law_134 : decode code 134 = .ok (.lor, 1) := by decide +kernel
theorem d_L_law_135 : decode code 135 = .ok (.aload_n 3, 1) := by decide +kernel
theorem d_L_law_136 : decode code 136 = .ok (.invokestatic 21, 3) := by decide +kernel
theorem d_L_law_139 : decode code 139 = .ok (.istore 5, 2) := by decide +kernel
theorem d_L_law_141 : decode code 141 = .ok (.aload_n 2, 1) := by decide +kernel
theorem d_L_law_142 : decode code 142 = .ok (.aload_n 0, 1) := by decide +kernel
theorem d_L_law_143 : decode code 143 = .ok (.iload 4, 2) := by decide +kernel
theorem d_L_law_145 : decode code 145 = .ok (.iconst 1, 1) := by decide +kernel
theorem d_L_law_146 : decode code 146 = .ok (.iadd, 1) := by decide +kernel
theorem d_L_law_147 : decode code 147 = .ok (.iaload, 1) := by decide +kernel
theorem d_L_law_148 : decode code 148 = .ok (.aload_n 0, 1) := by decide +kernel
theorem d_L_law_149 : decode code 149 = .ok (.iload 4, 2) := by decide +kernel
theorem d_L_law_151 : decode code 151 = .ok (.iconst 2, 1) := by decide +kernel
theorem d_L_law_152 : decode code 152 = .ok (.iadd, 1) := by decide +kernel
theorem d_L_law_153 : decode code 153 = .ok (.iaload, 1) := by decide +kernel
theorem d_L_law_154 : decode code 154 = .ok (.aload_n 0, 1) := by decide +kernel
theorem d_L_law_155 : decode code 155 = .ok (.iload 4, 2) := by decide +kernel
theorem d_L_law_157 : decode code 157 = .ok (.iconst 3, 1) := by decide +kernel
theorem d_L_law_158 : decode code 158 = .ok (.iadd, 1) := by decide +kernel
theorem d_L_law_159 : decode code 159 = .ok (.iaload, 1) := by decide +kernel
theorem d_L_law_160 : decode code 160 = .ok (.i2l, 1) := by decide +kernel
theorem d_L_law_161 : decode code 161 = .ok (.bipush 32, 2) := by decide +kernel
theorem d_L_law_163 : decode code 163 = .ok (.lshl, 1) := by decide +kernel
theorem d_L_law_164 : decode code 164 = .ok (.aload_n 0, 1) := by decide +kernel
theorem d_L_law_165 : decode code 165 = .ok (.iload 4, 2) := by decide +kernel
theorem d_L_law_167 : decode code 167 = .ok (.iconst 4, 1) := by decide +kernel
theorem d_L_law_168 : decode code 168 = .ok (.iadd, 1) := by decide +kernel
theorem d_L_law_169 : decode code 169 = .ok (.iaload, 1) := by decide +kernel
theorem d_L_law_170 : decode code 170 = .ok (.i2l, 1) := by decide +kernel
theorem d_L_law_171 : decode code 171 = .ok (.ldc2_w 19, 3) := by decide +kernel
theorem d_L_law_174 : decode code 174 = .ok (.land, 1) := by decide +kernel
theorem d_L_law_175 : decode code 175 = .ok (.lor, 1) := by decide +kernel
theorem d_L_law_176 : decode code 176 = .ok (.invokevirtual 26, 3) := by decide +kernel
theorem d_L_law_179 : decode code 179 = .ok (.istore 6, 2) := by decide +kernel
theorem d_L_law_181 : decode code 181 = .ok (.aload_n 2, 1) := by decide +kernel
theorem d_L_law_182 : decode code 182 = .ok (.invokevirtual 27, 3) := by decide +kernel
theorem d_L_law_185 : decode code 185 = .ok (.iload 5, 2) := by decide +kernel
theorem d_L_law_187 : decode code 187 = .ok (.if_icmp .eq 5, 3) := by decide +kernel
theorem d_L_law_190 : decode code 190 = .ok (.iconst 0, 1) := by decide +kernel
theorem d_L_law_191 : decode code 191 = .ok (.ireturn, 1) := by decide +kernel
theorem d_L_law_192 : decode code 192 = .ok (.iload 5, 2) := by decide +kernel
theorem d_L_law_194 : decode code 194 = .ok (.ifCond .ne 15, 3) := by decide +kernel
theorem d_L_law_197 : decode code 197 = .ok (.aload_n 3, 1) := by decide +kernel
theorem d_L_law_198 : decode code 198 = .ok (.iconst 0, 1) := by decide +kernel
theorem d_L_law_199 : decode code 199 = .ok (.laload, 1) := by decide +kernel
theorem d_L_law_200 : decode code 200 = .ok (.iload 6, 2) := by decide +kernel
theorem d_L_law_202 : decode code 202 = .ok (.i2l, 1) := by decide +kernel
theorem d_L_law_203 : decode code 203 = .ok (.lcmp, 1) := by decide +kernel
theorem d_L_law_204 : decode code 204 = .ok (.ifCond .eq 5, 3) := by decide +kernel
theorem d_L_law_207 : decode code 207 = .ok (.iconst 0, 1) := by decide +kernel
theorem d_L_law_208 : decode code 208 = .ok (.ireturn, 1) := by decide +kernel
theorem d_L_law_209 : decode code 209 = .ok (.goto 613, 3) := by decide +kernel
theorem d_L_law_212 : decode code 212 = .ok (.aload_n 1, 1) := by decide +kernel
theorem d_L_law_213 : decode code 213 = .ok (.aload_n 0, 1) := by decide +kernel
theorem d_L_law_214 : decode code 214 = .ok (.iload 4, 2) := by decide +kernel
theorem d_L_law_216 : decode code 216 = .ok (.iconst 1, 1) := by decide +kernel
theorem d_L_law_217 : decode code 217 = .ok (.iadd, 1) := by decide +kernel
theorem d_L_law_218 : decode code 218 = .ok (.iaload, 1) := by decide +kernel
theorem d_L_law_219 : decode code 219 = .ok (.aload_n 0, 1) := by decide +kernel
theorem d_L_law_220 : decode code 220 = .ok (.iload 4, 2) := by decide +kernel
theorem d_L_law_222 : decode code 222 = .ok (.iconst 2, 1) := by decide +kernel
theorem d_L_law_223 : decode code 223 = .ok (.iadd, 1) := by decide +kernel
theorem d_L_law_224 : decode code 224 = .ok (.iaload, 1) := by decide +kernel
theorem d_L_law_225 : decode code 225 = .ok (.aload_n 0, 1) := by decide +kernel
theorem d_L_law_226 : decode code 226 = .ok (.iload 4, 2) := by decide +kernel
theorem d_L_law_228 : decode code 228 = .ok (.iconst 3, 1) := by decide +kernel
theorem d_L_law_229 : decode code 229 = .ok (.iadd, 1) := by decide +kernel
theorem d_L_law_230 : decode code 230 = .ok (.iaload, 1) := by decide +kernel
theorem d_L_law_231 : decode code 231 = .ok (.invokevirtual 31, 3) := by decide +kernel
theorem d_L_law_234 : decode code 234 = .ok (.aload_n 2, 1) := by decide +kernel
theorem d_L_law_235 : decode code 235 = .ok (.aload_n 0, 1) := by decide +kernel
theorem d_L_law_236 : decode code 236 = .ok (.iload 4, 2) := by decide +kernel
theorem d_L_law_238 : decode code 238 = .ok (.iconst 1, 1) := by decide +kernel
theorem d_L_law_239 : decode code 239 = .ok (.iadd, 1) := by decide +kernel
theorem d_L_law_240 : decode code 240 = .ok (.iaload, 1) := by decide +kernel
theorem d_L_law_241 : decode code 241 = .ok (.aload_n 0, 1) := by decide +kernel
theorem d_L_law_242 : decode code 242 = .ok (.iload 4, 2) := by decide +kernel
theorem d_L_law_244 : decode code 244 = .ok (.iconst 2, 1) := by decide +kernel
theorem d_L_law_245 : decode code 245 = .ok (.iadd, 1) := by decide +kernel
theorem d_L_law_246 : decode code 246 = .ok (.iaload, 1) := by decide +kernel
theorem d_L_law_247 : decode code 247 = .ok (.aload_n 0, 1) := by decide +kernel
theorem d_L_law_248 : decode code 248 = .ok (.iload 4, 2) := by decide +kernel
theorem d_L_law_250 : decode code 250 = .ok (.iconst 3, 1) := by decide +kernel
theorem d_L_law_251 : decode code 251 = .ok (.iadd, 1) := by decide +kernel
theorem d_L_law_252 : decode code 252 = .ok (.iaload, 1) := by decide +kernel
theorem d_L_law_253 : decode code 253 = .ok (.invokevirtual 35, 3) := by decide +kernel
theorem d_L_law_256 : decode code 256 = .ok (.if_icmp .eq 566, 3) := by decide +kernel
theorem d_L_law_259 : decode code 259 = .ok (.iconst 0, 1) := by decide +kernel
theorem d_L_law_260 : decode code 260 = .ok (.ireturn, 1) := by decide +kernel
theorem d_L_law_261 : decode code 261 = .ok (.aload_n 1, 1) := by decide +kernel
theorem d_L_law_262 : decode code 262 = .ok (.aload_n 0, 1) := by decide +kernel
theorem d_L_law_263 : decode code 263 = .ok (.iload 4, 2) := by decide +kernel
theorem d_L_law_265 : decode code 265 = .ok (.iconst 1, 1) := by decide +kernel
theorem d_L_law_266 : decode code 266 = .ok (.iadd, 1) := by decide +kernel
theorem d_L_law_267 : decode code 267 = .ok (.iaload, 1) := by decide +kernel
theorem d_L_law_268 : decode code 268 = .ok (.aload_n 0, 1) := by decide +kernel
theorem d_L_law_269 : decode code 269 = .ok (.iload 4, 2) := by decide +kernel
theorem d_L_law_271 : decode code 271 = .ok (.iconst 2, 1) := by decide +kernel
theorem d_L_law_272 : decode code 272 = .ok (.iadd, 1) := by decide +kernel
theorem d_L_law_273 : decode code 273 = .ok (.iaload, 1) := by decide +kernel
theorem d_L_law_274 : decode code 274 = .ok (.aload_n 0, 1) := by decide +kernel
theorem d_L_law_275 : decode code 275 = .ok (.iload 4, 2) := by decide +kernel
theorem d_L_law_277 : decode code 277 = .ok (.iconst 3, 1) := by decide +kernel
theorem d_L_law_278 : decode code 278 = .ok (.iadd, 1) := by decide +kernel
theorem d_L_law_279 : decode code 279 = .ok (.iaload, 1) := by decide +kernel
theorem d_L_law_280 : decode code 280 = .ok (.aload_n 0, 1) := by decide +kernel
theorem d_L_law_281 : decode code 281 = .ok (.iload 4, 2) := by decide +kernel
theorem d_L_law_283 : decode code 283 = .ok (.iconst 4, 1) := by decide +kernel
theorem d_L_law_284 : decode code 284 = .ok (.iadd, 1) := by decide +kernel
theorem d_L_law_285 : decode code 285 = .ok (.iaload, 1) := by decide +kernel
theorem d_L_law_286 : decode code 286 = .ok (.i2l, 1) := by decide +kernel
theorem d_L_law_287 : decode code 287 = .ok (.bipush 32, 2) := by decide +kernel
theorem d_L_law_289 : decode code 289 = .ok (.lshl, 1) := by decide +kernel
theorem d_L_law_290 : decode code 290 = .ok (.aload_n 0, 1) := by decide +kernel
theorem d_L_law_291 : decode code 291 = .ok (.iload 4, 2) := by decide +kernel
theorem d_L_law_293 : decode code 293 = .ok (.iconst 5, 1) := by decide +kernel
theorem d_L_law_294 : decode code 294 = .ok (.iadd, 1) := by decide +kernel
theorem d_L_law_295 : decode code 295 = .ok (.iaload, 1) := by decide +kernel
theorem d_L_law_296 : decode code 296 = .ok (.i2l, 1) := by decide +kernel
theorem d_L_law_297 : decode code 297 = .ok (.ldc2_w 19, 3) := by decide +kernel
theorem d_L_law_300 : decode code 300 = .ok (.land, 1) := by decide +kernel
theorem d_L_law_301 : decode code 301 = .ok (.lor, 1) := by decide +kernel
theorem d_L_law_302 : decode code 302 = .ok (.aload_n 0, 1) := by decide +kernel
theorem d_L_law_303 : decode code 303 = .ok (.iload 4, 2) := by decide +kernel
theorem d_L_law_305 : decode code 305 = .ok (.bipush 6, 2) := by decide +kernel
theorem d_L_law_307 : decode code 307 = .ok (.iadd, 1) := by decide +kernel
theorem d_L_law_308 : decode code 308 = .ok (.iaload, 1) := by decide +kernel
theorem d_L_law_309 : decode code 309 = .ok (.i2l, 1) := by decide +kernel
theorem d_L_law_310 : decode code 310 = .ok (.bipush 32, 2) := by decide +kernel
theorem d_L_law_312 : decode code 312 = .ok (.lshl, 1) := by decide +kernel
theorem d_L_law_313 : decode code 313 = .ok (.aload_n 0, 1) := by decide +kernel
theorem d_L_law_314 : decode code 314 = .ok (.iload 4, 2) := by decide +kernel
theorem d_L_law_316 : decode code 316 = .ok (.bipush 7, 2) := by decide +kernel
theorem d_L_law_318 : decode code 318 = .ok (.iadd, 1) := by decide +kernel
theorem d_L_law_319 : decode code 319 = .ok (.iaload, 1) := by decide +kernel
theorem d_L_law_320 : decode code 320 = .ok (.i2l, 1) := by decide +kernel
theorem d_L_law_321 : decode code 321 = .ok (.ldc2_w 19, 3) := by decide +kernel
theorem d_L_law_324 : decode code 324 = .ok (.land, 1) := by decide +kernel
theorem d_L_law_325 : decode code 325 = .ok (.lor, 1) := by decide +kernel
theorem d_L_law_326 : decode code 326 = .ok (.invokevirtual 36, 3) := by decide +kernel
theorem d_L_law_329 : decode code 329 = .ok (.aload_n 2, 1) := by decide +kernel
theorem d_L_law_330 : decode code 330 = .ok (.aload_n 0, 1) := by decide +kernel
theorem d_L_law_331 : decode code 331 = .ok (.iload 4, 2) := by decide +kernel
theorem d_L_law_333 : decode code 333 = .ok (.iconst 1, 1) := by decide +kernel
theorem d_L_law_334 : decode code 334 = .ok (.iadd, 1) := by decide +kernel
theorem d_L_law_335 : decode code 335 = .ok (.iaload, 1) := by decide +kernel
theorem d_L_law_336 : decode code 336 = .ok (.aload_n 0, 1) := by decide +kernel
theorem d_L_law_337 : decode code 337 = .ok (.iload 4, 2) := by decide +kernel
theorem d_L_law_339 : decode code 339 = .ok (.iconst 2, 1) := by decide +kernel
theorem d_L_law_340 : decode code 340 = .ok (.iadd, 1) := by decide +kernel
theorem d_L_law_341 : decode code 341 = .ok (.iaload, 1) := by decide +kernel
theorem d_L_law_342 : decode code 342 = .ok (.aload_n 0, 1) := by decide +kernel
theorem d_L_law_343 : decode code 343 = .ok (.iload 4, 2) := by decide +kernel
theorem d_L_law_345 : decode code 345 = .ok (.iconst 3, 1) := by decide +kernel
theorem d_L_law_346 : decode code 346 = .ok (.iadd, 1) := by decide +kernel
theorem d_L_law_347 : decode code 347 = .ok (.iaload, 1) := by decide +kernel
theorem d_L_law_348 : decode code 348 = .ok (.aload_n 0, 1) := by decide +kernel
theorem d_L_law_349 : decode code 349 = .ok (.iload 4, 2) := by decide +kernel
theorem d_L_law_351 : decode code 351 = .ok (.iconst 4, 1) := by decide +kernel
theorem d_L_law_352 : decode code 352 = .ok (.iadd, 1) := by decide +kernel
theorem d_L_law_353 : decode code 353 = .ok (.iaload, 1) := by decide +kernel
end
section
theorem d_L_law_354 : decode code 354 = .ok (.i2l, 1) := by decide +kernel
theorem d_L_law_355 : decode code 355 = .ok (.bipush 32, 2) := by decide +kernel
theorem d_L_law_357 : decode code 357 = .ok (.lshl, 1) := by decide +kernel
theorem d_L_law_358 : decode code 358 = .ok (.aload_n 0, 1) := by decide +kernel
theorem d_L_law_359 : decode code 359 = .ok (.iload 4, 2) := by decide +kernel
theorem d_L_law_361 : decode code 361 = .ok (.iconst 5, 1) := by decide +kernel
theorem d_L_law_362 : decode code 362 = .ok (.iadd, 1) := by decide +kernel
theorem d_L_law_363 : decode code 363 = .ok (.iaload, 1) := by decide +kernel
theorem d_L_law_364 : decode code 364 = .ok (.i2l, 1) := by decide +kernel
theorem d_L_law_365 : decode code 365 = .ok (.ldc2_w 19, 3) := by decide +kernel
theorem d_L_law_368 : decode code 368 = .ok (.land, 1) := by decide +kernel
theorem d_L_law_369 : decode code 369 = .ok (.lor, 1) := by decide +kernel
theorem d_L_law_370 : decode code 370 = .ok (.aload_n 0, 1) := by decide +kernel
theorem d_L_law_371 : decode code 371 = .ok (.iload 4, 2) := by decide +kernel
theorem d_L_law_373 : decode code 373 = .ok (.bipush 6, 2) := by decide +kernel
theorem d_L_law_375 : decode code 375 = .ok (.iadd, 1) := by decide +kernel
theorem d_L_law_376 : decode code 376 = .ok (.iaload, 1) := by decide +kernel
theorem d_L_law_377 : decode code 377 = .ok (.i2l, 1) := by decide +kernel
theorem d_L_law_378 : decode code 378 = .ok (.bipush 32, 2) := by decide +kernel
theorem d_L_law_380 : decode code 380 = .ok (.lshl, 1) := by decide +kernel
theorem d_L_law_381 : decode code 381 = .ok (.aload_n 0, 1) := by decide +kernel
theorem d_L_law_382 : decode code 382 = .ok (.iload 4, 2) := by decide +kernel
theorem d_L_law_384 : decode code 384 = .ok (.bipush 7, 2) := by decide +kernel
theorem d_L_law_386 : decode code 386 = .ok (.iadd, 1) := by decide +kernel
theorem d_L_law_387 : decode code 387 = .ok (.iaload, 1) := by decide +kernel
theorem d_L_law_388 : decode code 388 = .ok (.i2l, 1) := by decide +kernel
theorem d_L_law_389 : decode code 389 = .ok (.ldc2_w 19, 3) := by decide +kernel
theorem d_L_law_392 : decode code 392 = .ok (.land, 1) := by decide +kernel
theorem d_L_law_393 : decode code 393 = .ok (.lor, 1) := by decide +kernel
theorem d_L_law_394 : decode code 394 = .ok (.invokevirtual 40, 3) := by decide +kernel
theorem d_L_law_397 : decode code 397 = .ok (.if_icmp .eq 425, 3) := by decide +kernel
theorem d_L_law_400 : decode code 400 = .ok (.iconst 0, 1) := by decide +kernel
theorem d_L_law_401 : decode code 401 = .ok (.ireturn, 1) := by decide +kernel
theorem d_L_law_402 : decode code 402 = .ok (.aload_n 1, 1) := by decide +kernel
theorem d_L_law_403 : decode code 403 = .ok (.aload_n 0, 1) := by decide +kernel
theorem d_L_law_404 : decode code 404 = .ok (.iload 4, 2) := by decide +kernel
theorem d_L_law_406 : decode code 406 = .ok (.iconst 1, 1) := by decide +kernel
theorem d_L_law_407 : decode code 407 = .ok (.iadd, 1) := by decide +kernel
theorem d_L_law_408 : decode code 408 = .ok (.iaload, 1) := by decide +kernel
theorem d_L_law_409 : decode code 409 = .ok (.aload_n 0, 1) := by decide +kernel
theorem d_L_law_410 : decode code 410 = .ok (.iload 4, 2) := by decide +kernel
theorem d_L_law_412 : decode code 412 = .ok (.iconst 2, 1) := by decide +kernel
theorem d_L_law_413 : decode code 413 = .ok (.iadd, 1) := by decide +kernel
theorem d_L_law_414 : decode code 414 = .ok (.iaload, 1) := by decide +kernel
theorem d_L_law_415 : decode code 415 = .ok (.aload_n 0, 1) := by decide +kernel
theorem d_L_law_416 : decode code 416 = .ok (.iload 4, 2) := by decide +kernel
theorem d_L_law_418 : decode code 418 = .ok (.iconst 3, 1) := by decide +kernel
theorem d_L_law_419 : decode code 419 = .ok (.iadd, 1) := by decide +kernel
theorem d_L_law_420 : decode code 420 = .ok (.iaload, 1) := by decide +kernel
theorem d_L_law_421 : decode code 421 = .ok (.i2l, 1) := by decide +kernel
theorem d_L_law_422 : decode code 422 = .ok (.bipush 32, 2) := by decide +kernel
theorem d_L_law_424 : decode code 424 = .ok (.lshl, 1) := by decide +kernel
theorem d_L_law_425 : decode code 425 = .ok (.aload_n 0, 1) := by decide +kernel
theorem d_L_law_426 : decode code 426 = .ok (.iload 4, 2) := by decide +kernel
theorem d_L_law_428 : decode code 428 = .ok (.iconst 4, 1) := by decide +kernel
theorem d_L_law_429 : decode code 429 = .ok (.iadd, 1) := by decide +kernel
theorem d_L_law_430 : decode code 430 = .ok (.iaload, 1) := by decide +kernel
theorem d_L_law_431 : decode code 431 = .ok (.i2l, 1) := by decide +kernel
theorem d_L_law_432 : decode code 432 = .ok (.ldc2_w 19, 3) := by decide +kernel
theorem d_L_law_435 : decode code 435 = .ok (.land, 1) := by decide +kernel
theorem d_L_law_436 : decode code 436 = .ok (.lor, 1) := by decide +kernel
theorem d_L_law_437 : decode code 437 = .ok (.invokevirtual 41, 3) := by decide +kernel
theorem d_L_law_440 : decode code 440 = .ok (.aload_n 2, 1) := by decide +kernel
theorem d_L_law_441 : decode code 441 = .ok (.aload_n 0, 1) := by decide +kernel
theorem d_L_law_442 : decode code 442 = .ok (.iload 4, 2) := by decide +kernel
theorem d_L_law_444 : decode code 444 = .ok (.iconst 1, 1) := by decide +kernel
theorem d_L_law_445 : decode code 445 = .ok (.iadd, 1) := by decide +kernel
theorem d_L_law_446 : decode code 446 = .ok (.iaload, 1) := by decide +kernel
theorem d_L_law_447 : decode code 447 = .ok (.aload_n 0, 1) := by decide +kernel
theorem d_L_law_448 : decode code 448 = .ok (.iload 4, 2) := by decide +kernel
theorem d_L_law_450 : decode code 450 = .ok (.iconst 2, 1) := by decide +kernel
theorem d_L_law_451 : decode code 451 = .ok (.iadd, 1) := by decide +kernel
theorem d_L_law_452 : decode code 452 = .ok (.iaload, 1) := by decide +kernel
theorem d_L_law_453 : decode code 453 = .ok (.aload_n 0, 1) := by decide +kernel
theorem d_L_law_454 : decode code 454 = .ok (.iload 4, 2) := by decide +kernel
theorem d_L_law_456 : decode code 456 = .ok (.iconst 3, 1) := by decide +kernel
theorem d_L_law_457 : decode code 457 = .ok (.iadd, 1) := by decide +kernel
theorem d_L_law_458 : decode code 458 = .ok (.iaload, 1) := by decide +kernel
theorem d_L_law_459 : decode code 459 = .ok (.i2l, 1) := by decide +kernel
theorem d_L_law_460 : decode code 460 = .ok (.bipush 32, 2) := by decide +kernel
theorem d_L_law_462 : decode code 462 = .ok (.lshl, 1) := by decide +kernel
theorem d_L_law_463 : decode code 463 = .ok (.aload_n 0, 1) := by decide +kernel
theorem d_L_law_464 : decode code 464 = .ok (.iload 4, 2) := by decide +kernel
theorem d_L_law_466 : decode code 466 = .ok (.iconst 4, 1) := by decide +kernel
theorem d_L_law_467 : decode code 467 = .ok (.iadd, 1) := by decide +kernel
theorem d_L_law_468 : decode code 468 = .ok (.iaload, 1) := by decide +kernel
theorem d_L_law_469 : decode code 469 = .ok (.i2l, 1) := by decide +kernel
theorem d_L_law_470 : decode code 470 = .ok (.ldc2_w 19, 3) := by decide +kernel
theorem d_L_law_473 : decode code 473 = .ok (.land, 1) := by decide +kernel
theorem d_L_law_474 : decode code 474 = .ok (.lor, 1) := by decide +kernel
theorem d_L_law_475 : decode code 475 = .ok (.invokevirtual 44, 3) := by decide +kernel
theorem d_L_law_478 : decode code 478 = .ok (.if_icmp .eq 344, 3) := by decide +kernel
theorem d_L_law_481 : decode code 481 = .ok (.iconst 0, 1) := by decide +kernel
theorem d_L_law_482 : decode code 482 = .ok (.ireturn, 1) := by decide +kernel
theorem d_L_law_483 : decode code 483 = .ok (.aload_n 1, 1) := by decide +kernel
theorem d_L_law_484 : decode code 484 = .ok (.aload_n 0, 1) := by decide +kernel
theorem d_L_law_485 : decode code 485 = .ok (.iload 4, 2) := by decide +kernel
theorem d_L_law_487 : decode code 487 = .ok (.iconst 1, 1) := by decide +kernel
theorem d_L_law_488 : decode code 488 = .ok (.iadd, 1) := by decide +kernel
theorem d_L_law_489 : decode code 489 = .ok (.iaload, 1) := by decide +kernel
theorem d_L_law_490 : decode code 490 = .ok (.i2l, 1) := by decide +kernel
theorem d_L_law_491 : decode code 491 = .ok (.bipush 32, 2) := by decide +kernel
theorem d_L_law_493 : decode code 493 = .ok (.lshl, 1) := by decide +kernel
theorem d_L_law_494 : decode code 494 = .ok (.aload_n 0, 1) := by decide +kernel
theorem d_L_law_495 : decode code 495 = .ok (.iload 4, 2) := by decide +kernel
theorem d_L_law_497 : decode code 497 = .ok (.iconst 2, 1) := by decide +kernel
theorem d_L_law_498 : decode code 498 = .ok (.iadd, 1) := by decide +kernel
theorem d_L_law_499 : decode code 499 = .ok (.iaload, 1) := by decide +kernel
theorem d_L_law_500 : decode code 500 = .ok (.i2l, 1) := by decide +kernel
theorem d_L_law_501 : decode code 501 = .ok (.ldc2_w 19, 3) := by decide +kernel
theorem d_L_law_504 : decode code 504 = .ok (.land, 1) := by decide +kernel
theorem d_L_law_505 : decode code 505 = .ok (.lor, 1) := by decide +kernel
theorem d_L_law_506 : decode code 506 = .ok (.invokevirtual 45, 3) := by decide +kernel
theorem d_L_law_509 : decode code 509 = .ok (.aload_n 2, 1) := by decide +kernel
theorem d_L_law_510 : decode code 510 = .ok (.aload_n 0, 1) := by decide +kernel
theorem d_L_law_511 : decode code 511 = .ok (.iload 4, 2) := by decide +kernel
theorem d_L_law_513 : decode code 513 = .ok (.iconst 1, 1) := by decide +kernel
theorem d_L_law_514 : decode code 514 = .ok (.iadd, 1) := by decide +kernel
theorem d_L_law_515 : decode code 515 = .ok (.iaload, 1) := by decide +kernel
theorem d_L_law_516 : decode code 516 = .ok (.i2l, 1) := by decide +kernel
theorem d_L_law_517 : decode code 517 = .ok (.bipush 32, 2) := by decide +kernel
theorem d_L_law_519 : decode code 519 = .ok (.lshl, 1) := by decide +kernel
theorem d_L_law_520 : decode code 520 = .ok (.aload_n 0, 1) := by decide +kernel
theorem d_L_law_521 : decode code 521 = .ok (.iload 4, 2) := by decide +kernel
theorem d_L_law_523 : decode code 523 = .ok (.iconst 2, 1) := by decide +kernel
theorem d_L_law_524 : decode code 524 = .ok (.iadd, 1) := by decide +kernel
theorem d_L_law_525 : decode code 525 = .ok (.iaload, 1) := by decide +kernel
theorem d_L_law_526 : decode code 526 = .ok (.i2l, 1) := by decide +kernel
theorem d_L_law_527 : decode code 527 = .ok (.ldc2_w 19, 3) := by decide +kernel
theorem d_L_law_530 : decode code 530 = .ok (.land, 1) := by decide +kernel
theorem d_L_law_531 : decode code 531 = .ok (.lor, 1) := by decide +kernel
theorem d_L_law_532 : decode code 532 = .ok (.invokevirtual 49, 3) := by decide +kernel
theorem d_L_law_535 : decode code 535 = .ok (.if_icmp .eq 287, 3) := by decide +kernel
theorem d_L_law_538 : decode code 538 = .ok (.iconst 0, 1) := by decide +kernel
theorem d_L_law_539 : decode code 539 = .ok (.ireturn, 1) := by decide +kernel
theorem d_L_law_540 : decode code 540 = .ok (.aload_n 1, 1) := by decide +kernel
theorem d_L_law_541 : decode code 541 = .ok (.aload_n 0, 1) := by decide +kernel
theorem d_L_law_542 : decode code 542 = .ok (.iload 4, 2) := by decide +kernel
theorem d_L_law_544 : decode code 544 = .ok (.iconst 1, 1) := by decide +kernel
theorem d_L_law_545 : decode code 545 = .ok (.iadd, 1) := by decide +kernel
theorem d_L_law_546 : decode code 546 = .ok (.iaload, 1) := by decide +kernel
theorem d_L_law_547 : decode code 547 = .ok (.aload_n 0, 1) := by decide +kernel
theorem d_L_law_548 : decode code 548 = .ok (.iload 4, 2) := by decide +kernel
theorem d_L_law_550 : decode code 550 = .ok (.iconst 2, 1) := by decide +kernel
theorem d_L_law_551 : decode code 551 = .ok (.iadd, 1) := by decide +kernel
theorem d_L_law_552 : decode code 552 = .ok (.iaload, 1) := by decide +kernel
theorem d_L_law_553 : decode code 553 = .ok (.invokevirtual 50, 3) := by decide +kernel
theorem d_L_law_556 : decode code 556 = .ok (.aload_n 2, 1) := by decide +kernel
theorem d_L_law_557 : decode code 557 = .ok (.aload_n 0, 1) := by decide +kernel
theorem d_L_law_558 : decode code 558 = .ok (.iload 4, 2) := by decide +kernel
theorem d_L_law_560 : decode code 560 = .ok (.iconst 1, 1) := by decide +kernel
theorem d_L_law_561 : decode code 561 = .ok (.iadd, 1) := by decide +kernel
theorem d_L_law_562 : decode code 562 = .ok (.iaload, 1) := by decide +kernel
theorem d_L_law_563 : decode code 563 = .ok (.aload_n 0, 1) := by decide +kernel
theorem d_L_law_564 : decode code 564 = .ok (.iload 4, 2) := by decide +kernel
theorem d_L_law_566 : decode code 566 = .ok (.iconst 2, 1) := by decide +kernel
theorem d_L_law_567 : decode code 567 = .ok (.iadd, 1) := by decide +kernel
theorem d_L_law_568 : decode code 568 = .ok (.iaload, 1) := by decide +kernel
theorem d_L_law_569 : decode code 569 = .ok (.invokevirtual 54, 3) := by decide +kernel
theorem d_L_law_572 : decode code 572 = .ok (.if_icmp .eq 250, 3) := by decide +kernel
theorem d_L_law_575 : decode code 575 = .ok (.iconst 0, 1) := by decide +kernel
theorem d_L_law_576 : decode code 576 = .ok (.ireturn, 1) := by decide +kernel
theorem d_L_law_577 : decode code 577 = .ok (.aload_n 1, 1) := by decide +kernel
theorem d_L_law_578 : decode code 578 = .ok (.aload_n 0, 1) := by decide +kernel
theorem d_L_law_579 : decode code 579 = .ok (.iload 4, 2) := by decide +kernel
theorem d_L_law_581 : decode code 581 = .ok (.iconst 1, 1) := by decide +kernel
theorem d_L_law_582 : decode code 582 = .ok (.iadd, 1) := by decide +kernel
theorem d_L_law_583 : decode code 583 = .ok (.iaload, 1) := by decide +kernel
theorem d_L_law_584 : decode code 584 = .ok (.aload_n 0, 1) := by decide +kernel
theorem d_L_law_585 : decode code 585 = .ok (.iload 4, 2) := by decide +kernel
theorem d_L_law_587 : decode code 587 = .ok (.iconst 2, 1) := by decide +kernel
theorem d_L_law_588 : decode code 588 = .ok (.iadd, 1) := by decide +kernel
theorem d_L_law_589 : decode code 589 = .ok (.iaload, 1) := by decide +kernel
theorem d_L_law_590 : decode code 590 = .ok (.i2l, 1) := by decide +kernel
theorem d_L_law_591 : decode code 591 = .ok (.bipush 32, 2) := by decide +kernel
theorem d_L_law_593 : decode code 593 = .ok (.lshl, 1) := by decide +kernel
theorem d_L_law_594 : decode code 594 = .ok (.aload_n 0, 1) := by decide +kernel
theorem d_L_law_595 : decode code 595 = .ok (.iload 4, 2) := by decide +kernel
theorem d_L_law_597 : decode code 597 = .ok (.iconst 3, 1) := by decide +kernel
theorem d_L_law_598 : decode code 598 = .ok (.iadd, 1) := by decide +kernel
theorem d_L_law_599 : decode code 599 = .ok (.iaload, 1) := by decide +kernel
theorem d_L_law_600 : decode code 600 = .ok (.i2l, 1) := by decide +kernel
theorem d_L_law_601 : decode code 601 = .ok (.ldc2_w 19, 3) := by decide +kernel
theorem d_L_law_604 : decode code 604 = .ok (.land, 1) := by decide +kernel
theorem d_L_law_605 : decode code 605 = .ok (.lor, 1) := by decide +kernel
theorem d_L_law_606 : decode code 606 = .ok (.aload_n 0, 1) := by decide +kernel
theorem d_L_law_607 : decode code 607 = .ok (.iload 4, 2) := by decide +kernel
theorem d_L_law_609 : decode code 609 = .ok (.iconst 4, 1) := by decide +kernel
theorem d_L_law_610 : decode code 610 = .ok (.iadd, 1) := by decide +kernel
theorem d_L_law_611 : decode code 611 = .ok (.iaload, 1) := by decide +kernel
theorem d_L_law_612 : decode code 612 = .ok (.i2l, 1) := by decide +kernel
theorem d_L_law_613 : decode code 613 = .ok (.bipush 32, 2) := by decide +kernel
theorem d_L_law_615 : decode code 615 = .ok (.lshl, 1) := by decide +kernel
theorem d_L_law_616 : decode code 616 = .ok (.aload_n 0, 1) := by decide +kernel
theorem d_L_law_617 : decode code 617 = .ok (.iload 4, 2) := by decide +kernel
theorem d_L_law_619 : decode code 619 = .ok (.iconst 5, 1) := by decide +kernel
theorem d_L_law_620 : decode code 620 = .ok (.iadd, 1) := by decide +kernel
theorem d_L_law_621 : decode code 621 = .ok (.iaload, 1) := by decide +kernel
theorem d_L_law_622 : decode code 622 = .ok (.i2l, 1) := by decide +kernel
theorem d_L_law_623 : decode code 623 = .ok (.ldc2_w 19, 3) := by decide +kernel
theorem d_L_law_626 : decode code 626 = .ok (.land, 1) := by decide +kernel
theorem d_L_law_627 : decode code 627 = .ok (.lor, 1) := by decide +kernel
theorem d_L_law_628 : decode code 628 = .ok (.invokevirtual 55, 3) := by decide +kernel
theorem d_L_law_631 : decode code 631 = .ok (.aload_n 2, 1) := by decide +kernel
theorem d_L_law_632 : decode code 632 = .ok (.aload_n 0, 1) := by decide +kernel
theorem d_L_law_633 : decode code 633 = .ok (.iload 4, 2) := by decide +kernel
theorem d_L_law_635 : decode code 635 = .ok (.iconst 1, 1) := by decide +kernel
theorem d_L_law_636 : decode code 636 = .ok (.iadd, 1) := by decide +kernel
theorem d_L_law_637 : decode code 637 = .ok (.iaload, 1) := by decide +kernel
theorem d_L_law_638 : decode code 638 = .ok (.aload_n 0, 1) := by decide +kernel
theorem d_L_law_639 : decode code 639 = .ok (.iload 4, 2) := by decide +kernel
theorem d_L_law_641 : decode code 641 = .ok (.iconst 2, 1) := by decide +kernel
theorem d_L_law_642 : decode code 642 = .ok (.iadd, 1) := by decide +kernel
theorem d_L_law_643 : decode code 643 = .ok (.iaload, 1) := by decide +kernel
theorem d_L_law_644 : decode code 644 = .ok (.i2l, 1) := by decide +kernel
theorem d_L_law_645 : decode code 645 = .ok (.bipush 32, 2) := by decide +kernel
theorem d_L_law_647 : decode code 647 = .ok (.lshl, 1) := by decide +kernel
theorem d_L_law_648 : decode code 648 = .ok (.aload_n 0, 1) := by decide +kernel
theorem d_L_law_649 : decode code 649 = .ok (.iload 4, 2) := by decide +kernel
theorem d_L_law_651 : decode code 651 = .ok (.iconst 3, 1) := by decide +kernel
theorem d_L_law_652 : decode code 652 = .ok (.iadd, 1) := by decide +kernel
theorem d_L_law_653 : decode code 653 = .ok (.iaload, 1) := by decide +kernel
theorem d_L_law_654 : decode code 654 = .ok (.i2l, 1) := by decide +kernel
theorem d_L_law_655 : decode code 655 = .ok (.ldc2_w 19, 3) := by decide +kernel
theorem d_L_law_658 : decode code 658 = .ok (.land, 1) := by decide +kernel
theorem d_L_law_659 : decode code 659 = .ok (.lor, 1) := by decide +kernel
theorem d_L_law_660 : decode code 660 = .ok (.aload_n 0, 1) := by decide +kernel
theorem d_L_law_661 : decode code 661 = .ok (.iload 4, 2) := by decide +kernel
theorem d_L_law_663 : decode code 663 = .ok (.iconst 4, 1) := by decide +kernel
theorem d_L_law_664 : decode code 664 = .ok (.iadd, 1) := by decide +kernel
theorem d_L_law_665 : decode code 665 = .ok (.iaload, 1) := by decide +kernel
theorem d_L_law_666 : decode code 666 = .ok (.i2l, 1) := by decide +kernel
theorem d_L_law_667 : decode code 667 = .ok (.bipush 32, 2) := by decide +kernel
theorem d_L_law_669 : decode code 669 = .ok (.lshl, 1) := by decide +kernel
theorem d_L_law_670 : decode code 670 = .ok (.aload_n 0, 1) := by decide +kernel
theorem d_L_law_671 : decode code 671 = .ok (.iload 4, 2) := by decide +kernel
theorem d_L_law_673 : decode code 673 = .ok (.iconst 5, 1) := by decide +kernel
theorem d_L_law_674 : decode code 674 = .ok (.iadd, 1) := by decide +kernel
theorem d_L_law_675 : decode code 675 = .ok (.iaload, 1) := by decide +kernel
theorem d_L_law_676 : decode code 676 = .ok (.i2l, 1) := by decide +kernel
theorem d_L_law_677 : decode code 677 = .ok (.ldc2_w 19, 3) := by decide +kernel
theorem d_L_law_680 : decode code 680 = .ok (.land, 1) := by decide +kernel
theorem d_L_law_681 : decode code 681 = .ok (.lor, 1) := by decide +kernel
theorem d_L_law_682 : decode code 682 = .ok (.invokevirtual 59, 3) := by decide +kernel
theorem d_L_law_685 : decode code 685 = .ok (.if_icmp .eq 137, 3) := by decide +kernel
theorem d_L_law_688 : decode code 688 = .ok (.iconst 0, 1) := by decide +kernel
theorem d_L_law_689 : decode code 689 = .ok (.ireturn, 1) := by decide +kernel
theorem d_L_law_690 : decode code 690 = .ok (.aload_n 1, 1) := by decide +kernel
theorem d_L_law_691 : decode code 691 = .ok (.aload_n 0, 1) := by decide +kernel
theorem d_L_law_692 : decode code 692 = .ok (.iload 4, 2) := by decide +kernel
theorem d_L_law_694 : decode code 694 = .ok (.iconst 1, 1) := by decide +kernel
theorem d_L_law_695 : decode code 695 = .ok (.iadd, 1) := by decide +kernel
theorem d_L_law_696 : decode code 696 = .ok (.iaload, 1) := by decide +kernel
theorem d_L_law_697 : decode code 697 = .ok (.invokevirtual 60, 3) := by decide +kernel
theorem d_L_law_700 : decode code 700 = .ok (.aload_n 2, 1) := by decide +kernel
theorem d_L_law_701 : decode code 701 = .ok (.aload_n 0, 1) := by decide +kernel
theorem d_L_law_702 : decode code 702 = .ok (.iload 4, 2) := by decide +kernel
theorem d_L_law_704 : decode code 704 = .ok (.iconst 1, 1) := by decide +kernel
theorem d_L_law_705 : decode code 705 = .ok (.iadd, 1) := by decide +kernel
theorem d_L_law_706 : decode code 706 = .ok (.iaload, 1) := by decide +kernel
theorem d_L_law_707 : decode code 707 = .ok (.invokevirtual 64, 3) := by decide +kernel
theorem d_L_law_710 : decode code 710 = .ok (.if_icmp .eq 112, 3) := by decide +kernel
theorem d_L_law_713 : decode code 713 = .ok (.iconst 0, 1) := by decide +kernel
theorem d_L_law_714 : decode code 714 = .ok (.ireturn, 1) := by decide +kernel
theorem d_L_law_715 : decode code 715 = .ok (.aload_n 1, 1) := by decide +kernel
theorem d_L_law_716 : decode code 716 = .ok (.aload_n 0, 1) := by decide +kernel
theorem d_L_law_717 : decode code 717 = .ok (.iload 4, 2) := by decide +kernel
theorem d_L_law_719 : decode code 719 = .ok (.iconst 1, 1) := by decide +kernel
theorem d_L_law_720 : decode code 720 = .ok (.iadd, 1) := by decide +kernel
theorem d_L_law_721 : decode code 721 = .ok (.iaload, 1) := by decide +kernel
theorem d_L_law_722 : decode code 722 = .ok (.invokevirtual 65, 3) := by decide +kernel
theorem d_L_law_725 : decode code 725 = .ok (.aload_n 2, 1) := by decide +kernel
theorem d_L_law_726 : decode code 726 = .ok (.aload_n 0, 1) := by decide +kernel
theorem d_L_law_727 : decode code 727 = .ok (.iload 4, 2) := by decide +kernel
theorem d_L_law_729 : decode code 729 = .ok (.iconst 1, 1) := by decide +kernel
theorem d_L_law_730 : decode code 730 = .ok (.iadd, 1) := by decide +kernel
theorem d_L_law_731 : decode code 731 = .ok (.iaload, 1) := by decide +kernel
theorem d_L_law_732 : decode code 732 = .ok (.invokevirtual 68, 3) := by decide +kernel
theorem d_L_law_735 : decode code 735 = .ok (.if_icmp .eq 87, 3) := by decide +kernel
theorem d_L_law_738 : decode code 738 = .ok (.iconst 0, 1) := by decide +kernel
theorem d_L_law_739 : decode code 739 = .ok (.ireturn, 1) := by decide +kernel
theorem d_L_law_740 : decode code 740 = .ok (.aload_n 1, 1) := by decide +kernel
theorem d_L_law_741 : decode code 741 = .ok (.aload_n 0, 1) := by decide +kernel
theorem d_L_law_742 : decode code 742 = .ok (.iload 4, 2) := by decide +kernel
theorem d_L_law_744 : decode code 744 = .ok (.iconst 1, 1) := by decide +kernel
theorem d_L_law_745 : decode code 745 = .ok (.iadd, 1) := by decide +kernel
theorem d_L_law_746 : decode code 746 = .ok (.iaload, 1) := by decide +kernel
theorem d_L_law_747 : decode code 747 = .ok (.i2l, 1) := by decide +kernel
theorem d_L_law_748 : decode code 748 = .ok (.bipush 32, 2) := by decide +kernel
theorem d_L_law_750 : decode code 750 = .ok (.lshl, 1) := by decide +kernel
theorem d_L_law_751 : decode code 751 = .ok (.aload_n 0, 1) := by decide +kernel
theorem d_L_law_752 : decode code 752 = .ok (.iload 4, 2) := by decide +kernel
theorem d_L_law_754 : decode code 754 = .ok (.iconst 2, 1) := by decide +kernel
theorem d_L_law_755 : decode code 755 = .ok (.iadd, 1) := by decide +kernel
theorem d_L_law_756 : decode code 756 = .ok (.iaload, 1) := by decide +kernel
theorem d_L_law_757 : decode code 757 = .ok (.i2l, 1) := by decide +kernel
theorem d_L_law_758 : decode code 758 = .ok (.ldc2_w 19, 3) := by decide +kernel
theorem d_L_law_761 : decode code 761 = .ok (.land, 1) := by decide +kernel
theorem d_L_law_762 : decode code 762 = .ok (.lor, 1) := by decide +kernel
theorem d_L_law_763 : decode code 763 = .ok (.invokevirtual 69, 3) := by decide +kernel
theorem d_L_law_766 : decode code 766 = .ok (.aload_n 2, 1) := by decide +kernel
theorem d_L_law_767 : decode code 767 = .ok (.aload_n 0, 1) := by decide +kernel
theorem d_L_law_768 : decode code 768 = .ok (.iload 4, 2) := by decide +kernel
theorem d_L_law_770 : decode code 770 = .ok (.iconst 1, 1) := by decide +kernel
theorem d_L_law_771 : decode code 771 = .ok (.iadd, 1) := by decide +kernel
theorem d_L_law_772 : decode code 772 = .ok (.iaload, 1) := by decide +kernel
theorem d_L_law_773 : decode code 773 = .ok (.i2l, 1) := by decide +kernel
theorem d_L_law_774 : decode code 774 = .ok (.bipush 32, 2) := by decide +kernel
theorem d_L_law_776 : decode code 776 = .ok (.lshl, 1) := by decide +kernel
theorem d_L_law_777 : decode code 777 = .ok (.aload_n 0, 1) := by decide +kernel
theorem d_L_law_778 : decode code 778 = .ok (.iload 4, 2) := by decide +kernel
theorem d_L_law_780 : decode code 780 = .ok (.iconst 2, 1) := by decide +kernel
theorem d_L_law_781 : decode code 781 = .ok (.iadd, 1) := by decide +kernel
theorem d_L_law_782 : decode code 782 = .ok (.iaload, 1) := by decide +kernel
theorem d_L_law_783 : decode code 783 = .ok (.i2l, 1) := by decide +kernel
theorem d_L_law_784 : decode code 784 = .ok (.ldc2_w 19, 3) := by decide +kernel
theorem d_L_law_787 : decode code 787 = .ok (.land, 1) := by decide +kernel
theorem d_L_law_788 : decode code 788 = .ok (.lor, 1) := by decide +kernel
theorem d_L_law_789 : decode code 789 = .ok (.invokevirtual 72, 3) := by decide +kernel
theorem d_L_law_792 : decode code 792 = .ok (.if_icmp .eq 30, 3) := by decide +kernel
theorem d_L_law_795 : decode code 795 = .ok (.iconst 0, 1) := by decide +kernel
theorem d_L_law_796 : decode code 796 = .ok (.ireturn, 1) := by decide +kernel
theorem d_L_law_797 : decode code 797 = .ok (.aload_n 1, 1) := by decide +kernel
theorem d_L_law_798 : decode code 798 = .ok (.aload_n 0, 1) := by decide +kernel
theorem d_L_law_799 : decode code 799 = .ok (.iload 4, 2) := by decide +kernel
theorem d_L_law_801 : decode code 801 = .ok (.iconst 1, 1) := by decide +kernel
theorem d_L_law_802 : decode code 802 = .ok (.iadd, 1) := by decide +kernel
theorem d_L_law_803 : decode code 803 = .ok (.iaload, 1) := by decide +kernel
theorem d_L_law_804 : decode code 804 = .ok (.invokevirtual 73, 3) := by decide +kernel
theorem d_L_law_807 : decode code 807 = .ok (.aload_n 2, 1) := by decide +kernel
theorem d_L_law_808 : decode code 808 = .ok (.aload_n 0, 1) := by decide +kernel
theorem d_L_law_809 : decode code 809 = .ok (.iload 4, 2) := by decide +kernel
theorem d_L_law_811 : decode code 811 = .ok (.iconst 1, 1) := by decide +kernel
theorem d_L_law_812 : decode code 812 = .ok (.iadd, 1) := by decide +kernel
theorem d_L_law_813 : decode code 813 = .ok (.iaload, 1) := by decide +kernel
theorem d_L_law_814 : decode code 814 = .ok (.invokevirtual 76, 3) := by decide +kernel
theorem d_L_law_817 : decode code 817 = .ok (.if_icmp .eq 5, 3) := by decide +kernel
theorem d_L_law_820 : decode code 820 = .ok (.iconst 0, 1) := by decide +kernel
theorem d_L_law_821 : decode code 821 = .ok (.ireturn, 1) := by decide +kernel
theorem d_L_law_822 : decode code 822 = .ok (.iinc 4 8, 3) := by decide +kernel
theorem d_L_law_825 : decode code 825 = .ok (.goto (-802), 3) := by decide +kernel
theorem d_L_law_828 : decode code 828 = .ok (.iconst 1, 1) := by decide +kernel
theorem d_L_law_829 : decode code 829 = .ok (.ireturn, 1) := by decide +kernel
theorem d_O_init_0 : decode c_O_init 0 = .ok (.return_, 1) := by decide +kernel
theorem d_AE_init_0 : decode c_AE_init 0 = .ok (.aload_n 0, 1) := by decide +kernel
theorem d_AE_init_1 : decode c_AE_init 1 = .ok (.aload_n 1, 1) := by decide +kernel
theorem d_AE_init_2 : decode c_AE_init 2 = .ok (.invokespecial 7, 3) := by decide +kernel
theorem d_AE_init_5 : decode c_AE_init 5 = .ok (.return_, 1) := by decide +kernel
theorem d_EX_init_0 : decode c_EX_init 0 = .ok (.aload_n 0, 1) := by decide +kernel
theorem d_EX_init_1 : decode c_EX_init 1 = .ok (.aload_n 1, 1) := by decide +kernel
theorem d_EX_init_2 : decode c_EX_init 2 = .ok (.invokespecial 7, 3) := by decide +kernel
theorem d_EX_init_5 : decode c_EX_init 5 = .ok (.return_, 1) := by decide +kernel
theorem d_MA_max_0 : decode c_MA_max 0 = .ok (.iload_n 0, 1) := by decide +kernel
theorem d_MA_max_1 : decode c_MA_max 1 = .ok (.iload_n 1, 1) := by decide +kernel
theorem d_MA_max_2 : decode c_MA_max 2 = .ok (.if_icmp .lt 7, 3) := by decide +kernel
theorem d_MA_max_5 : decode c_MA_max 5 = .ok (.iload_n 0, 1) := by decide +kernel
theorem d_MA_max_6 : decode c_MA_max 6 = .ok (.goto 4, 3) := by decide +kernel
theorem d_MA_max_9 : decode c_MA_max 9 = .ok (.iload_n 1, 1) := by decide +kernel
theorem d_MA_max_10 : decode c_MA_max 10 = .ok (.ireturn, 1) := by decide +kernel
theorem d_MA_min_0 : decode c_MA_min 0 = .ok (.iload_n 0, 1) := by decide +kernel
theorem d_MA_min_1 : decode c_MA_min 1 = .ok (.iload_n 1, 1) := by decide +kernel
theorem d_MA_min_2 : decode c_MA_min 2 = .ok (.if_icmp .gt 7, 3) := by decide +kernel
theorem d_MA_min_5 : decode c_MA_min 5 = .ok (.iload_n 0, 1) := by decide +kernel
theorem d_MA_min_6 : decode c_MA_min 6 = .ok (.goto 4, 3) := by decide +kernel
theorem d_MA_min_9 : decode c_MA_min 9 = .ok (.iload_n 1, 1) := by decide +kernel
theorem d_MA_min_10 : decode c_MA_min 10 = .ok (.ireturn, 1) := by decide +kernel
theorem d_RE_init_0 : decode c_RE_init 0 = .ok (.aload_n 0, 1) := by decide +kernel
theorem d_RE_init_1 : decode c_RE_init 1 = .ok (.aload_n 1, 1) := by decide +kernel
theorem d_RE_init_2 : decode c_RE_init 2 = .ok (.invokespecial 7, 3) := by decide +kernel
theorem d_RE_init_5 : decode c_RE_init 5 = .ok (.return_, 1) := by decide +kernel
theorem d_TH_init1_0 : decode c_TH_init1 0 = .ok (.aload_n 0, 1) := by decide +kernel
theorem d_TH_init1_1 : decode c_TH_init1 1 = .ok (.invokespecial 1, 3) := by decide +kernel
theorem d_TH_init1_4 : decode c_TH_init1 4 = .ok (.aload_n 0, 1) := by decide +kernel
theorem d_TH_init1_5 : decode c_TH_init1 5 = .ok (.aload_n 0, 1) := by decide +kernel
theorem d_TH_init1_6 : decode c_TH_init1 6 = .ok (.putfield 7, 3) := by decide +kernel
theorem d_TH_init1_9 : decode c_TH_init1 9 = .ok (.aload_n 0, 1) := by decide +kernel
theorem d_TH_init1_10 : decode c_TH_init1 10 = .ok (.getstatic 13, 3) := by decide +kernel
theorem d_TH_init1_13 : decode c_TH_init1 13 = .ok (.putfield 17, 3) := by decide +kernel
theorem d_TH_init1_16 : decode c_TH_init1 16 = .ok (.aload_n 0, 1) := by decide +kernel
theorem d_TH_init1_17 : decode c_TH_init1 17 = .ok (.getstatic 20, 3) := by decide +kernel
theorem d_TH_init1_20 : decode c_TH_init1 20 = .ok (.putfield 24, 3) := by decide +kernel
theorem d_TH_init1_23 : decode c_TH_init1 23 = .ok (.aload_n 0, 1) := by decide +kernel
theorem d_TH_init1_24 : decode c_TH_init1 24 = .ok (.invokevirtual 27, 3) := by decide +kernel
theorem d_TH_init1_27 : decode c_TH_init1 27 = .ok (.pop, 1) := by decide +kernel
theorem d_TH_init1_28 : decode c_TH_init1 28 = .ok (.aload_n 0, 1) := by decide +kernel
theorem d_TH_init1_29 : decode c_TH_init1 29 = .ok (.aload_n 1, 1) := by decide +kernel
theorem d_TH_init1_30 : decode c_TH_init1 30 = .ok (.putfield 31, 3) := by decide +kernel
theorem d_TH_init1_33 : decode c_TH_init1 33 = .ok (.return_, 1) := by decide +kernel
theorem d_AC_init_0 : decode c_AC_init 0 = .ok (.aload_n 0, 1) := by decide +kernel
theorem d_AC_init_1 : decode c_AC_init 1 = .ok (.invokespecial 1, 3) := by decide +kernel
theorem d_AC_init_4 : decode c_AC_init 4 = .ok (.return_, 1) := by decide +kernel
theorem d_AL_init_0 : decode c_AL_init 0 = .ok (.aload_n 0, 1) := by decide +kernel
theorem d_AL_init_1 : decode c_AL_init 1 = .ok (.invokespecial 1, 3) := by decide +kernel
theorem d_AL_init_4 : decode c_AL_init 4 = .ok (.aload_n 0, 1) := by decide +kernel
theorem d_AL_init_5 : decode c_AL_init 5 = .ok (.iconst 0, 1) := by decide +kernel
theorem d_AL_init_6 : decode c_AL_init 6 = .ok (.putfield 7, 3) := by decide +kernel
theorem d_AL_init_9 : decode c_AL_init 9 = .ok (.return_, 1) := by decide +kernel
theorem d_A_init_0 : decode c_A_init 0 = .ok (.aload_n 0, 1) := by decide +kernel
theorem d_A_init_1 : decode c_A_init 1 = .ok (.invokespecial 1, 3) := by decide +kernel
theorem d_A_init_4 : decode c_A_init 4 = .ok (.aload_n 0, 1) := by decide +kernel
theorem d_A_init_5 : decode c_A_init 5 = .ok (.getstatic 39, 3) := by decide +kernel
theorem d_A_init_8 : decode c_A_init 8 = .ok (.putfield 9, 3) := by decide +kernel
theorem d_A_init_11 : decode c_A_init 11 = .ok (.return_, 1) := by decide +kernel
theorem d_A_add0_0 : decode c_A_add0 0 = .ok (.aload_n 0, 1) := by decide +kernel
theorem d_A_add0_1 : decode c_A_add0 1 = .ok (.dup, 1) := by decide +kernel
theorem d_A_add0_2 : decode c_A_add0 2 = .ok (.getfield 63, 3) := by decide +kernel
theorem d_A_add0_5 : decode c_A_add0 5 = .ok (.iconst 1, 1) := by decide +kernel
theorem d_A_add0_6 : decode c_A_add0 6 = .ok (.iadd, 1) := by decide +kernel
theorem d_A_add0_7 : decode c_A_add0 7 = .ok (.putfield 63, 3) := by decide +kernel
theorem d_A_add0_10 : decode c_A_add0 10 = .ok (.aload_n 0, 1) := by decide +kernel
theorem d_A_add0_11 : decode c_A_add0 11 = .ok (.aload_n 1, 1) := by decide +kernel
theorem d_A_add0_12 : decode c_A_add0 12 = .ok (.aload_n 0, 1) := by decide +kernel
theorem d_A_add0_13 : decode c_A_add0 13 = .ok (.getfield 9, 3) := by decide +kernel
theorem d_A_add0_16 : decode c_A_add0 16 = .ok (.aload_n 0, 1) := by decide +kernel
theorem d_A_add0_17 : decode c_A_add0 17 = .ok (.getfield 48, 3) := by decide +kernel
theorem d_A_add0_20 : decode c_A_add0 20 = .ok (.invokevirtual 131, 3) := by decide +kernel
theorem d_A_add0_23 : decode c_A_add0 23 = .ok (.iconst 1, 1) := by decide +kernel
theorem d_A_add0_24 : decode c_A_add0 24 = .ok (.ireturn, 1) := by decide +kernel
theorem d_A_add1_0 : decode c_A_add1 0 = .ok (.iload_n 3, 1) := by decide +kernel
theorem d_A_add1_1 : decode c_A_add1 1 = .ok (.aload_n 2, 1) := by decide +kernel
theorem d_A_add1_2 : decode c_A_add1 2 = .ok (.arraylength, 1) := by decide +kernel
theorem d_A_add1_3 : decode c_A_add1 3 = .ok (.if_icmp .ne 8, 3) := by decide +kernel
theorem d_A_add1_6 : decode c_A_add1 6 = .ok (.aload_n 0, 1) := by decide +kernel
theorem d_A_add1_7 : decode c_A_add1 7 = .ok (.invokevirtual 129, 3) := by decide +kernel
theorem d_A_add1_10 : decode c_A_add1 10 = .ok (.astore_n 2, 1) := by decide +kernel
theorem d_A_add1_11 : decode c_A_add1 11 = .ok (.aload_n 2, 1) := by decide +kernel
theorem d_A_add1_12 : decode c_A_add1 12 = .ok (.iload_n 3, 1) := by decide +kernel
theorem d_A_add1_13 : decode c_A_add1 13 = .ok (.aload_n 1, 1) := by decide +kernel
theorem d_A_add1_14 : decode c_A_add1 14 = .ok (.aastore, 1) := by decide +kernel
theorem d_A_add1_15 : decode c_A_add1 15 = .ok (.aload_n 0, 1) := by decide +kernel
theorem d_A_add1_16 : decode c_A_add1 16 = .ok (.iload_n 3, 1) := by decide +kernel
theorem d_A_add1_17 : decode c_A_add1 17 = .ok (.iconst 1, 1) := by decide +kernel
theorem d_A_add1_18 : decode c_A_add1 18 = .ok (.iadd, 1) := by decide +kernel
theorem d_A_add1_19 : decode c_A_add1 19 = .ok (.putfield 48, 3) := by decide +kernel
theorem d_A_add1_22 : decode c_A_add1 22 = .ok (.return_, 1) := by decide +kernel
theorem d_A_elementData_0 : decode c_A_elementData 0 = .ok (.aload_n 0, 1) := by decide +kernel
theorem d_A_elementData_1 : decode c_A_elementData 1 = .ok (.getfield 9, 3) := by decide +kernel
theorem d_A_elementData_4 : decode c_A_elementData 4 = .ok (.iload_n 1, 1) := by decide +kernel
theorem d_A_elementData_5 : decode c_A_elementData 5 = .ok (.aaload, 1) := by decide +kernel
theorem d_A_elementData_6 : decode c_A_elementData 6 = .ok (.areturn, 1) := by decide +kernel
theorem d_A_get_0 : decode c_A_get 0 = .ok (.iload_n 1, 1) := by decide +kernel
theorem d_A_get_1 : decode c_A_get 1 = .ok (.aload_n 0, 1) := by decide +kernel
theorem d_A_get_2 : decode c_A_get 2 = .ok (.getfield 48, 3) := by decide +kernel
theorem d_A_get_5 : decode c_A_get 5 = .ok (.invokestatic 118, 3) := by decide +kernel
theorem d_A_get_8 : decode c_A_get 8 = .ok (.pop, 1) := by decide +kernel
theorem d_A_get_9 : decode c_A_get 9 = .ok (.aload_n 0, 1) := by decide +kernel
theorem d_A_get_10 : decode c_A_get 10 = .ok (.iload_n 1, 1) := by decide +kernel
theorem d_A_get_11 : decode c_A_get 11 = .ok (.invokevirtual 123, 3) := by decide +kernel
theorem d_A_get_14 : decode c_A_get 14 = .ok (.areturn, 1) := by decide +kernel
theorem d_A_grow0_0 : decode c_A_grow0 0 = .ok (.aload_n 0, 1) := by decide +kernel
theorem d_A_grow0_1 : decode c_A_grow0 1 = .ok (.aload_n 0, 1) := by decide +kernel
theorem d_A_grow0_2 : decode c_A_grow0 2 = .ok (.getfield 48, 3) := by decide +kernel
theorem d_A_grow0_5 : decode c_A_grow0 5 = .ok (.iconst 1, 1) := by decide +kernel
theorem d_A_grow0_6 : decode c_A_grow0 6 = .ok (.iadd, 1) := by decide +kernel
theorem d_A_grow0_7 : decode c_A_grow0 7 = .ok (.invokevirtual 69, 3) := by decide +kernel
theorem d_A_grow0_10 : decode c_A_grow0 10 = .ok (.areturn, 1) := by decide +kernel
theorem d_A_grow1_0 : decode c_A_grow1 0 = .ok (.aload_n 0, 1) := by decide +kernel
theorem d_A_grow1_1 : decode c_A_grow1 1 = .ok (.getfield 9, 3) := by decide +kernel
theorem d_A_grow1_4 : decode c_A_grow1 4 = .ok (.arraylength, 1) := by decide +kernel
theorem d_A_grow1_5 : decode c_A_grow1 5 = .ok (.istore_n 2, 1) := by decide +kernel
theorem d_A_grow1_6 : decode c_A_grow1 6 = .ok (.iload_n 2, 1) := by decide +kernel
theorem d_A_grow1_7 : decode c_A_grow1 7 = .ok (.ifCond .gt 13, 3) := by decide +kernel
theorem d_A_grow1_10 : decode c_A_grow1 10 = .ok (.aload_n 0, 1) := by decide +kernel
theorem d_A_grow1_11 : decode c_A_grow1 11 = .ok (.getfield 9, 3) := by decide +kernel
theorem d_A_grow1_14 : decode c_A_grow1 14 = .ok (.getstatic 39, 3) := by decide +kernel
theorem d_A_grow1_17 : decode c_A_grow1 17 = .ok (.if_acmp .eq 28, 3) := by decide +kernel
theorem d_A_grow1_20 : decode c_A_grow1 20 = .ok (.iload_n 2, 1) := by decide +kernel
theorem d_A_grow1_21 : decode c_A_grow1 21 = .ok (.iload_n 1, 1) := by decide +kernel
theorem d_A_grow1_22 : decode c_A_grow1 22 = .ok (.iload_n 2, 1) := by decide +kernel
theorem d_A_grow1_23 : decode c_A_grow1 23 = .ok (.isub, 1) := by decide +kernel
theorem d_A_grow1_24 : decode c_A_grow1 24 = .ok (.iload_n 2, 1) := by decide +kernel
theorem d_A_grow1_25 : decode c_A_grow1 25 = .ok (.iconst 1, 1) := by decide +kernel
theorem d_A_grow1_26 : decode c_A_grow1 26 = .ok (.ishr, 1) := by decide +kernel
theorem d_A_grow1_27 : decode c_A_grow1 27 = .ok (.invokestatic 73, 3) := by decide +kernel
theorem d_A_grow1_30 : decode c_A_grow1 30 = .ok (.istore_n 3, 1) := by decide +kernel
theorem d_A_grow1_31 : decode c_A_grow1 31 = .ok (.aload_n 0, 1) := by decide +kernel
theorem d_A_grow1_32 : decode c_A_grow1 32 = .ok (.aload_n 0, 1) := by decide +kernel
theorem d_A_grow1_33 : decode c_A_grow1 33 = .ok (.getfield 9, 3) := by decide +kernel
theorem d_A_grow1_36 : decode c_A_grow1 36 = .ok (.iload_n 3, 1) := by decide +kernel
theorem d_A_grow1_37 : decode c_A_grow1 37 = .ok (.invokestatic 66, 3) := by decide +kernel
theorem d_A_grow1_40 : decode c_A_grow1 40 = .ok (.dup_x1, 1) := by decide +kernel
theorem d_A_grow1_41 : decode c_A_grow1 41 = .ok (.putfield 9, 3) := by decide +kernel
theorem d_A_grow1_44 : decode c_A_grow1 44 = .ok (.areturn, 1) := by decide +kernel
theorem d_A_grow1_45 : decode c_A_grow1 45 = .ok (.aload_n 0, 1) := by decide +kernel
theorem d_A_grow1_46 : decode c_A_grow1 46 = .ok (.bipush 10, 2) := by decide +kernel
theorem d_A_grow1_48 : decode c_A_grow1 48 = .ok (.iload_n 1, 1) := by decide +kernel
theorem d_A_grow1_49 : decode c_A_grow1 49 = .ok (.invokestatic 79, 3) := by decide +kernel
theorem d_A_grow1_52 : decode c_A_grow1 52 = .ok (.anewarray 7, 3) := by decide +kernel
theorem d_A_grow1_55 : decode c_A_grow1 55 = .ok (.dup_x1, 1) := by decide +kernel
theorem d_A_grow1_56 : decode c_A_grow1 56 = .ok (.putfield 9, 3) := by decide +kernel
theorem d_A_grow1_59 : decode c_A_grow1 59 = .ok (.areturn, 1) := by decide +kernel
theorem d_A_size_0 : decode c_A_size 0 = .ok (.aload_n 0, 1) := by decide +kernel
theorem d_A_size_1 : decode c_A_size 1 = .ok (.getfield 48, 3) := by decide +kernel
theorem d_A_size_4 : decode c_A_size 4 = .ok (.ireturn, 1) := by decide +kernel
theorem d_AR_copyOf0_0 : decode c_AR_copyOf0 0 = .ok (.aload_n 0, 1) := by decide +kernel
theorem d_AR_copyOf0_1 : decode c_AR_copyOf0 1 = .ok (.iload_n 1, 1) := by decide +kernel
theorem d_AR_copyOf0_2 : decode c_AR_copyOf0 2 = .ok (.aload_n 0, 1) := by decide +kernel
theorem d_AR_copyOf0_3 : decode c_AR_copyOf0 3 = .ok (.invokevirtual 86, 3) := by decide +kernel
theorem d_AR_copyOf0_6 : decode c_AR_copyOf0 6 = .ok (.invokestatic 300, 3) := by decide +kernel
theorem d_AR_copyOf0_9 : decode c_AR_copyOf0 9 = .ok (.areturn, 1) := by decide +kernel
theorem d_AR_copyOf1_0 : decode c_AR_copyOf1 0 = .ok (.aload_n 2, 1) := by decide +kernel
theorem d_AR_copyOf1_1 : decode c_AR_copyOf1 1 = .ok (.ldc 110, 2) := by decide +kernel
theorem d_AR_copyOf1_3 : decode c_AR_copyOf1 3 = .ok (.if_acmp .ne 10, 3) := by decide +kernel
theorem d_AR_copyOf1_6 : decode c_AR_copyOf1 6 = .ok (.iload_n 1, 1) := by decide +kernel
theorem d_AR_copyOf1_7 : decode c_AR_copyOf1 7 = .ok (.anewarray 2, 3) := by decide +kernel
theorem d_AR_copyOf1_10 : decode c_AR_copyOf1 10 = .ok (.goto 14, 3) := by decide +kernel
theorem d_AR_copyOf1_13 : decode c_AR_copyOf1 13 = .ok (.aload_n 2, 1) := by decide +kernel
theorem d_AR_copyOf1_14 : decode c_AR_copyOf1 14 = .ok (.invokevirtual 90, 3) := by decide +kernel
theorem d_AR_copyOf1_17 : decode c_AR_copyOf1 17 = .ok (.iload_n 1, 1) := by decide +kernel
theorem d_AR_copyOf1_18 : decode c_AR_copyOf1 18 = .ok (.invokestatic 95, 3) := by decide +kernel
theorem d_AR_copyOf1_21 : decode c_AR_copyOf1 21 = .ok (.checkcast 110, 3) := by decide +kernel
theorem d_AR_copyOf1_24 : decode c_AR_copyOf1 24 = .ok (.astore_n 3, 1) := by decide +kernel
theorem d_AR_copyOf1_25 : decode c_AR_copyOf1 25 = .ok (.aload_n 0, 1) := by decide +kernel
theorem d_AR_copyOf1_26 : decode c_AR_copyOf1 26 = .ok (.iconst 0, 1) := by decide +kernel
theorem d_AR_copyOf1_27 : decode c_AR_copyOf1 27 = .ok (.aload_n 3, 1) := by decide +kernel
theorem d_AR_copyOf1_28 : decode c_AR_copyOf1 28 = .ok (.iconst 0, 1) := by decide +kernel
theorem d_AR_copyOf1_29 : decode c_AR_copyOf1 29 = .ok (.aload_n 0, 1) := by decide +kernel
theorem d_AR_copyOf1_30 : decode c_AR_copyOf1 30 = .ok (.arraylength, 1) := by decide +kernel
theorem d_AR_copyOf1_31 : decode c_AR_copyOf1 31 = .ok (.iload_n 1, 1) := by decide +kernel
theorem d_AR_copyOf1_32 : decode c_AR_copyOf1 32 = .ok (.invokestatic 304, 3) := by decide +kernel
theorem d_AR_copyOf1_35 : decode c_AR_copyOf1 35 = .ok (.invokestatic 150, 3) := by decide +kernel
theorem d_AR_copyOf1_38 : decode c_AR_copyOf1 38 = .ok (.aload_n 3, 1) := by decide +kernel
theorem d_AR_copyOf1_39 : decode c_AR_copyOf1 39 = .ok (.areturn, 1) := by decide +kernel
theorem d_OB_checkIndex_0 : decode c_OB_checkIndex 0 = .ok (.iload_n 0, 1) := by decide +kernel
theorem d_OB_checkIndex_1 : decode c_OB_checkIndex 1 = .ok (.iload_n 1, 1) := by decide +kernel
theorem d_OB_checkIndex_2 : decode c_OB_checkIndex 2 = .ok (.aconst_null, 1) := by decide +kernel
theorem d_OB_checkIndex_3 : decode c_OB_checkIndex 3 = .ok (.invokestatic 105, 3) := by decide +kernel
theorem d_OB_checkIndex_6 : decode c_OB_checkIndex 6 = .ok (.ireturn, 1) := by decide +kernel
theorem d_AS_newLength_0 : decode c_AS_newLength 0 = .ok (.iload_n 0, 1) := by decide +kernel
theorem d_AS_newLength_1 : decode c_AS_newLength 1 = .ok (.iload_n 1, 1) := by decide +kernel
theorem d_AS_newLength_2 : decode c_AS_newLength 2 = .ok (.iload_n 2, 1) := by decide +kernel
theorem d_AS_newLength_3 : decode c_AS_newLength 3 = .ok (.invokestatic 194, 3) := by decide +kernel
theorem d_AS_newLength_6 : decode c_AS_newLength 6 = .ok (.iadd, 1) := by decide +kernel
theorem d_AS_newLength_7 : decode c_AS_newLength 7 = .ok (.istore_n 3, 1) := by decide +kernel
theorem d_AS_newLength_8 : decode c_AS_newLength 8 = .ok (.iconst 0, 1) := by decide +kernel
theorem d_AS_newLength_9 : decode c_AS_newLength 9 = .ok (.iload_n 3, 1) := by decide +kernel
theorem d_AS_newLength_10 : decode c_AS_newLength 10 = .ok (.if_icmp .ge 11, 3) := by decide +kernel
theorem d_AS_newLength_13 : decode c_AS_newLength 13 = .ok (.iload_n 3, 1) := by decide +kernel
theorem d_AS_newLength_14 : decode c_AS_newLength 14 = .ok (.ldc 200, 2) := by decide +kernel
theorem d_AS_newLength_16 : decode c_AS_newLength 16 = .ok (.if_icmp .gt 5, 3) := by decide +kernel
theorem d_AS_newLength_19 : decode c_AS_newLength 19 = .ok (.iload_n 3, 1) := by decide +kernel
theorem d_AS_newLength_20 : decode c_AS_newLength 20 = .ok (.ireturn, 1) := by decide +kernel
theorem d_AS_newLength_21 : decode c_AS_newLength 21 = .ok (.iload_n 0, 1) := by decide +kernel
theorem d_AS_newLength_22 : decode c_AS_newLength 22 = .ok (.iload_n 1, 1) := by decide +kernel
theorem d_AS_newLength_23 : decode c_AS_newLength 23 = .ok (.invokestatic 201, 3) := by decide +kernel
theorem d_AS_newLength_26 : decode c_AS_newLength 26 = .ok (.ireturn, 1) := by decide +kernel
theorem d_PC_checkIndex_0 : decode c_PC_checkIndex 0 = .ok (.iload_n 0, 1) := by decide +kernel
theorem d_PC_checkIndex_1 : decode c_PC_checkIndex 1 = .ok (.ifCond .lt 8, 3) := by decide +kernel
theorem d_PC_checkIndex_4 : decode c_PC_checkIndex 4 = .ok (.iload_n 0, 1) := by decide +kernel
theorem d_PC_checkIndex_5 : decode c_PC_checkIndex 5 = .ok (.iload_n 1, 1) := by decide +kernel
theorem d_PC_checkIndex_6 : decode c_PC_checkIndex 6 = .ok (.if_icmp .lt 10, 3) := by decide +kernel
theorem d_PC_checkIndex_9 : decode c_PC_checkIndex 9 = .ok (.aload_n 2, 1) := by decide +kernel
theorem d_PC_checkIndex_10 : decode c_PC_checkIndex 10 = .ok (.iload_n 0, 1) := by decide +kernel
theorem d_PC_checkIndex_11 : decode c_PC_checkIndex 11 = .ok (.iload_n 1, 1) := by decide +kernel
theorem d_PC_checkIndex_12 : decode c_PC_checkIndex 12 = .ok (.invokestatic 95, 3) := by decide +kernel
theorem d_PC_checkIndex_15 : decode c_PC_checkIndex 15 = .ok (.athrow, 1) := by decide +kernel
theorem d_PC_checkIndex_16 : decode c_PC_checkIndex 16 = .ok (.iload_n 0, 1) := by decide +kernel
theorem d_PC_checkIndex_17 : decode c_PC_checkIndex 17 = .ok (.ireturn, 1) := by decide +kernel
end
section
/-! THE HEAP AS A MAP FROM NAMES TO CELLS. A name is three numbers; a cell has its address and its contents. -/
abbrev hm_N : Type := Nat × Nat × Nat
abbrev hm_T : Type := hm_N → Option (Nat × va_E)
def hm_up (w : hm_T) (n : hm_N) (q : Nat × va_E) : hm_T := fun k => if k = n then some q else w k
theorem hm_up_s (w : hm_T) (n : hm_N) (q : Nat × va_E) : hm_up w n q n = some q := if_pos rfl
theorem hm_up_n (w : hm_T) {n k : hm_N} (q : Nat × va_E) (h : k ≠ n) : hm_up w n q k = w k := if_neg h
def hm_P (D : va_G) (cl : List vw_C) (w : hm_T) (H : Heap) : Prop := ∀ (n : hm_N) (q : Nat × va_E), w n = some q → va_at D cl q H
def hm_D (A : Nat → Prop) (w : hm_T) : Prop := (∀ (n k : hm_N) (q r : Nat × va_E), w n = some q → w k = some r → q.1 = r.1 → n = k) ∧ ∀ (n : hm_N) (q : Nat × va_E), w n = some q → A q.1
/-- the heap at a place of a method: its cells, apart, in A; outside A nothing has changed since H0 -/
def hm_Y (D : va_G) (cl : List vw_C) (A : Nat → Prop) (H0 : Heap) (w : hm_T) (H : Heap) (locs : List Loc) : Prop :=
  hm_P D cl w H ∧ hm_D A w ∧ va_S A H0 H locs ∧ ∀ q : Nat, H0.size ≤ q → A q
/-- the heap at a method's start or end -/
def hm_B (D : va_G) (cl : List vw_C) (A : Nat → Prop) (w : hm_T) (U : State) : Prop := hm_P D cl w U.heap ∧ hm_D A w
section HM1
variable {D : va_G} {cl : List vw_C} {A : Nat → Prop} {H0 H H1 : Heap} {w : hm_T} {locs : List Loc} {n : hm_N} {q : Nat × va_E}
theorem hm_Y.one (h : hm_Y D cl A H0 w H locs) (hn : w n = some q) : va_P D cl [q] H := by
  intro k x hk
  have hz : k < 1 := (List.getElem?_eq_some_iff.mp hk).1
  rw [show k = 0 by omega] at hk
  cases hk
  exact h.1 n _ hn
theorem hm_Y.set {a : Nat} {e0 e : va_E} (h : hm_Y D cl A H0 w H locs) (hn : w n = some (a, e0)) (he : va_at D cl (a, e) H1) (z : H1.size = H.size) (oq : ∀ q : Nat, q ≠ a → H1[q]? = H[q]?) (k : Nat) : hm_Y D cl A H0 (hm_up w n (a, e)) H1 (locs ++ [⟨a, k⟩]) := by
  obtain ⟨hP, hD, hS, hA⟩ := h
  have key : ∀ (i : hm_N) (x : Nat × va_E), hm_up w n (a, e) i = some x → ∃ x0, w i = some x0 ∧ x0.1 = x.1 := by
    intro i x hx
    by_cases hi : i = n
    · subst hi
      rw [hm_up_s] at hx
      cases hx
      exact ⟨_, hn, rfl⟩
    · rw [hm_up_n _ _ hi] at hx
      exact ⟨x, hx, rfl⟩
  refine ⟨fun i x hx => ?_, ⟨fun i j x y hx hy hxy => ?_, fun i x hx => ?_⟩, hS.put z oq (hD.2 n _ hn), hA⟩
  · by_cases hi : i = n
    · subst hi
      rw [hm_up_s] at hx
      cases hx
      exact he
    · rw [hm_up_n _ _ hi] at hx
      exact (hP i x hx).kept (oq x.1 (fun z => hi (hD.1 i n x (a, e0) hx hn z)))
  · obtain ⟨x0, h1, h2⟩ := key i x hx
    obtain ⟨y0, h3, h4⟩ := key j y hy
    exact hD.1 i j x0 y0 h1 h3 (h2.trans (hxy.trans h4.symm))
  · obtain ⟨x0, h1, h2⟩ := key i x hx
    rw [← h2]
    exact hD.2 i x0 h1
theorem hm_Y.new {e : va_E} (h : hm_Y D cl A H0 w H locs) (n : hm_N) (he : va_at D cl (H.size, e) H1) (z : H1.size = H.size + 1) (oq : ∀ q : Nat, q < H.size → H1[q]? = H[q]?) : hm_Y D cl A H0 (hm_up w n (H.size, e)) H1 locs := by
  obtain ⟨hP, hD, hS, hA⟩ := h
  have key : ∀ (i : hm_N) (x : Nat × va_E), hm_up w n (H.size, e) i = some x → (i = n ∧ x = (H.size, e)) ∨ (w i = some x ∧ x.1 < H.size) := by
    intro i x hx
    by_cases hi : i = n
    · subst hi
      rw [hm_up_s] at hx
      cases hx
      exact Or.inl ⟨rfl, rfl⟩
    · rw [hm_up_n _ _ hi] at hx
      exact Or.inr ⟨hx, (hP i x hx).lt⟩
  refine ⟨fun i x hx => ?_, ⟨fun i j x y hx hy hxy => ?_, fun i x hx => ?_⟩, ⟨Nat.le_trans hS.1 (by omega), fun x h1 h2 => (oq x (Nat.lt_of_lt_of_le h1 hS.1)).trans (hS.2.1 x h1 h2), hS.2.2⟩, hA⟩
  · rcases key i x hx with ⟨-, h2⟩ | ⟨h1, h2⟩
    · rw [h2]
      exact he
    · exact (hP i x h1).kept (oq x.1 h2)
  · rcases key i x hx with ⟨h1, h2⟩ | ⟨h1, h2⟩ <;> rcases key j y hy with ⟨h3, h4⟩ | ⟨h3, h4⟩
    · rw [h1, h3]
    · rw [h2] at hxy
      have : H.size = y.1 := hxy
      omega
    · rw [h4] at hxy
      have : x.1 = H.size := hxy
      omega
    · exact hD.1 i j x y h1 h3 hxy
  · rcases key i x hx with ⟨-, h2⟩ | ⟨h1, -⟩
    · rw [h2]
      exact hA _ hS.1
    · exact hD.2 i x h1
theorem hm_Y.start {s : State} (h : hm_B D cl A w s) (hA : ∀ q : Nat, s.heap.size ≤ q → A q) : hm_Y D cl A s.heap w s.heap [] := ⟨h.1, h.2, va_S.rf, hA⟩
theorem hm_Y.end' {t : State} (h : hm_Y D cl A H0 w H locs) (ht : t.heap = H) : hm_B D cl A w t := ⟨by rw [ht]; exact h.1, h.2.1⟩
theorem hm_Y.fresh (h : hm_Y D cl A H0 w H locs) (hn : w n = some q) : q.1 < H.size := (h.1 n q hn).lt
theorem hm_Y.apart {k : hm_N} {r : Nat × va_E} (h : hm_Y D cl A H0 w H locs) (hn : w n = some q) (hk : w k = some r) (hne : n ≠ k) : q.1 ≠ r.1 := fun e => hne (h.2.1.1 n k q r hn hk e)
end HM1
/-- what a method's body stands in: the machine, its code, its words, the classes' numbers -/
def hm_X (p : Program) (m : MethodId) (c : Code) (cc : ByteArray) (nL : Nat) (s : State) (args : Array Value) (Ts : List Cond) (own : String) (D : va_G) (cl : List vw_C) (tys : List (ClassId × FieldType)) : Prop :=
  CallFix p m c cc nL s args Ts own ∧ va_K D cl tys s
section HM2
variable {p : Program} {l : Launch} {e : Env} {R : Room} {s : State} {m : MethodId} {args : Array Value} {below : List Frame} {meth : Method} {c : Code} {H : Heap} {locs : List Loc} {cells slots : Nat} {Q : State → Prop}
variable {cc : ByteArray} {nL pc : Nat} {ls : Array Slot} {rest : List Value} {D : va_G} {cl : List vw_C} {A : Nat → Prop} {a : Nat} {tys : List (ClassId × FieldType)} {H0 : Heap} {Ts : List Cond} {own : String} {w : hm_T} {n : hm_N}
theorem hm_get {ref C : String} {T : u_T} {N ci index : Nat} (X : hm_X p m c cc nL s args Ts own D cl tys) (hY : hm_Y D cl A H0 w H locs) {fs : List Value} {v : Value} (hn : w n = some (a, .inr (ci, fs))) (k : Nat) (hv : fs[k]? = some v) (hc : cl[ci]? = some (C, T, N)) (hk : k < N) (hin : ∀ w ∈ u_ws C T N, w ∈ Ts) (hlink : Cond.fieldLink own index ref (T k).2.1 (T k).2.2.1 ∈ Ts) (hsame : ∀ x, s.fieldFound? (T k).1 (T k).2.1 (T k).2.2.1 = some x → s.fieldFound? ref (T k).2.1 (T k).2.2.1 = some x) (hdg : decode cc pc = .ok (.getfield index, 3))
    (kk : W p l e R s m args below meth c H locs cells slots Q (F0 m (pc + 3) ls (v :: rest))) : W p l e R s m args below meth c H locs cells slots Q (F0 m pc ls (.ref a :: rest)) :=
  va_get X.1.1 X.1.2.1 X.1.2.2.2.2 hin X.1.2.2.2.1 X.2 (hY.one hn) 0 rfl hc k hk (X.1.2.2.2.2 _ hlink) hsame hv hdg kk
theorem hm_put {ref C : String} {T : u_T} {N ci index : Nat} (X : hm_X p m c cc nL s args Ts own D cl tys) (hY : hm_Y D cl A H0 w H locs) {fs : List Value} {v : Value} (hn : w n = some (a, .inr (ci, fs))) (k : Nat) (hc : cl[ci]? = some (C, T, N)) (hk : k < N) (hl : k < fs.length) (hin : ∀ w ∈ u_ws C T N, w ∈ Ts) (ty0 : Nat → FieldType) (hty : ∀ k, k < N → parseFieldDescriptor (T k).2.2.1 = some (ty0 k)) (hnm : ∀ a, a < N → ∀ b, b < N → a ≠ b → (T a).2.1 ≠ (T b).2.1) (hlink : Cond.fieldLink own index ref (T k).2.1 (T k).2.2.1 ∈ Ts) (hsame : ∀ x, s.fieldFound? (T k).1 (T k).2.1 (T k).2.2.1 = some x → s.fieldFound? ref (T k).2.1 (T k).2.2.1 = some x) (hfin : (T k).2.2.2 = false) (hnar : narrow (ty0 k) v = v) (hfit : fits (ty0 k) v = true) (hdg : decode cc pc = .ok (.putfield index, 3))
    (kk : ∀ (H1 : Heap) (locs1 : List Loc), hm_Y D cl A H0 (hm_up w n (a, .inr (ci, fs.set k v))) H1 locs1 → W p l e R s m args below meth c H1 locs1 cells slots Q (F0 m (pc + 3) ls rest)) : W p l e R s m args below meth c H locs cells slots Q (F0 m pc ls (v :: .ref a :: rest)) := by
  obtain ⟨⟨hx, hb, -, hown, hts⟩, hK⟩ := X
  have hap := va_apart (own := own) hts hin ty0 hty hnm hK hc
  obtain ⟨r, h1, cell, q1, q2, q3, q4⟩ := hY.1 n _ hn
  have hr : r = (C, T, N) := Option.some.inj (h1.symm.trans hc)
  subst hr
  obtain ⟨hS, hfc, kC, hkC, hkind⟩ := hK.1 ci _ hc
  obtain ⟨cf, kf, fi, f, hi, hsl⟩ := hS k hk
  have hlay := hts _ (hin _ (u_in_lay hk))
  unfold u_lay at hlay
  rw [if_neg (by rw [hfin]; decide)] at hlay
  have hst := (u_facts hfc hkC (u_lays hts hin hk) hi).1
  have h6 := u_store hfc hkC hkind hlay hi (hty k hk) hnar hfit
  refine W.putK hx hb (f := f) ⟨hown, hts _ hlink, ⟨_, _, _, hsame _ hi⟩, hst⟩ (by rw [q2]; exact h6) q1 q3 (by rw [hsl]; exact k2_hasslot (q4 k hk)) rfl rfl hdg fun H' e1 e2 e3 => ?_
  rw [hsl] at e1 ⊢
  exact kk H' _ (hY.set (e := .inr (ci, fs.set k v)) (H1 := H') hn ⟨_, hc, t_OB.to (V := updV (vp_V fs) k v) ⟨_, e1, q2, q3, t_set q4 hap hk v⟩ (fun j _ => vp_updV_set hl v j)⟩ e2 e3 _)
theorem hm_putF {ref C : String} {T : u_T} {N ci index : Nat} (X : hm_X p m c cc nL s args Ts own D cl tys) (hY : hm_Y D cl A H0 w H locs) {fs : List Value} {v : Value} (hn : w n = some (a, .inr (ci, fs))) (k : Nat) (hc : cl[ci]? = some (C, T, N)) (hk : k < N) (hl : k < fs.length) (hin : ∀ w ∈ u_ws C T N, w ∈ Ts) (ty0 : Nat → FieldType) (hty : ∀ k, k < N → parseFieldDescriptor (T k).2.2.1 = some (ty0 k)) (hnm : ∀ a, a < N → ∀ b, b < N → a ≠ b → (T a).2.1 ≠ (T b).2.1) (hlink : Cond.fieldLink own index ref (T k).2.1 (T k).2.2.1 ∈ Ts) (hsame : ∀ x, s.fieldFound? (T k).1 (T k).2.1 (T k).2.2.1 = some x → s.fieldFound? ref (T k).2.1 (T k).2.2.1 = some x) (hfin : (T k).2.2.2 = true) (hin2 : meth.name = "<init>") (hdecl : (T k).1 = own) (hnar : narrow (ty0 k) v = v) (hfit : fits (ty0 k) v = true) (hdg : decode cc pc = .ok (.putfield index, 3))
    (kk : ∀ (H1 : Heap) (locs1 : List Loc), hm_Y D cl A H0 (hm_up w n (a, .inr (ci, fs.set k v))) H1 locs1 → W p l e R s m args below meth c H1 locs1 cells slots Q (F0 m (pc + 3) ls rest)) : W p l e R s m args below meth c H locs cells slots Q (F0 m pc ls (v :: .ref a :: rest)) := by
  obtain ⟨⟨hx, hb, -, hown, hts⟩, hK⟩ := X
  have hap := va_apart (own := own) hts hin ty0 hty hnm hK hc
  obtain ⟨r, h1, cell, q1, q2, q3, q4⟩ := hY.1 n _ hn
  have hr : r = (C, T, N) := Option.some.inj (h1.symm.trans hc)
  subst hr
  obtain ⟨hS, hfc, kC, hkC, hkind⟩ := hK.1 ci _ hc
  obtain ⟨cf, kf, fi, f, hi, hsl⟩ := hS k hk
  have hlay := hts _ (hin _ (u_in_lay hk))
  unfold u_lay at hlay
  rw [if_pos hfin] at hlay
  have hst := (u_facts hfc hkC (u_lays hts hin hk) hi).1
  have hcf : m.cls = cf := by
    obtain ⟨_, _, c', _, _, _, -, -, hf', -, -, -, hown2, -⟩ := Cond.laysFinal_spec hlay
    have e1 : c' = cf := by have := hi.symm.trans hf'; simp at this; exact this.1.symm
    rw [hdecl] at hown2
    rw [← e1]; exact Option.some.inj (hown.symm.trans hown2)
  have h6 := u_fits hfc hkC hkind (Or.inr hlay) hi (hty k hk) hnar hfit
  refine W.putFinK hx hb hown (hts _ hlink) (hsame _ hi) hst hcf hin2 (by rw [q2]; exact h6) q1 q3 (by rw [hsl]; exact k2_hasslot (q4 k hk)) rfl rfl hdg fun H' e1 e2 e3 => ?_
  rw [hsl] at e1 ⊢
  exact kk H' _ (hY.set (e := .inr (ci, fs.set k v)) (H1 := H') hn ⟨_, hc, t_OB.to (V := updV (vp_V fs) k v) ⟨_, e1, q2, q3, t_set q4 hap hk v⟩ (fun j _ => vp_updV_set hl v j)⟩ e2 e3 _)
theorem hm_iald (X : hm_X p m c cc nL s args Ts own D cl tys) (hY : hm_Y D cl A H0 w H locs) {cA : ClassId} {N : Nat} {f : Nat → Int32} (hn : w n = some (a, .inl (cA, N, .inl f))) (t0 : Nat) (ht : tys[t0]? = some (cA, .int)) {i : Int32} (hin : vp_in i N) (hdg : decode cc pc = .ok (.iaload, 1))
    (kk : W p l e R s m args below meth c H locs cells slots Q (F0 m (pc + 1) ls (.int (f i.toNatClampNeg) :: rest))) : W p l e R s m args below meth c H locs cells slots Q (F0 m pc ls (.int i :: .ref a :: rest)) :=
  va_iald X.1.1 X.1.2.1 X.2 (hY.one hn) 0 t0 rfl ht hin hdg kk
theorem hm_lald (X : hm_X p m c cc nL s args Ts own D cl tys) (hY : hm_Y D cl A H0 w H locs) {cA : ClassId} {N : Nat} {f : Nat → Int64} (hn : w n = some (a, .inl (cA, N, .inr (.inl f)))) (t0 : Nat) (ht : tys[t0]? = some (cA, .long)) {i : Int32} (hin : vp_in i N) (hdg : decode cc pc = .ok (.laload, 1))
    (kk : W p l e R s m args below meth c H locs cells slots Q (F0 m (pc + 1) ls (.long (f i.toNatClampNeg) :: rest))) : W p l e R s m args below meth c H locs cells slots Q (F0 m pc ls (.int i :: .ref a :: rest)) :=
  va_lald X.1.1 X.1.2.1 X.2 (hY.one hn) 0 t0 rfl ht hin hdg kk
theorem hm_iast (X : hm_X p m c cc nL s args Ts own D cl tys) (hY : hm_Y D cl A H0 w H locs) {cA : ClassId} {N : Nat} {f : Nat → Int32} (hn : w n = some (a, .inl (cA, N, .inl f))) (t0 : Nat) (ht : tys[t0]? = some (cA, .int)) {i x : Int32} (hin : vp_in i N) (hdg : decode cc pc = .ok (.iastore, 1))
    (kk : ∀ (H1 : Heap) (locs1 : List Loc), hm_Y D cl A H0 (hm_up w n (a, .inl (cA, N, .inl (upd f i.toNatClampNeg x)))) H1 locs1 → W p l e R s m args below meth c H1 locs1 cells slots Q (F0 m (pc + 1) ls rest)) : W p l e R s m args below meth c H locs cells slots Q (F0 m pc ls (.int x :: .int i :: .ref a :: rest)) := by
  refine W.iast X.1.1 X.1.2.1 (hY.1 n _ hn) ((X.2.2 t0 _ ht).1 N (fun j => .int (f j))) (fun q => by cases q) (by show ¬ (i < 0 ∨ (arrV _ _ _).slots.size ≤ _); rw [arrV_size]; exact hin) rfl rfl hdg fun H1 e z oq => ?_
  refine kk H1 _ (hY.set hn ?_ z oq _)
  show H1[a]? = some (vp_cell _ _)
  rw [e, vp_cell_i, vp_cell_i, arrV_store]
  congr 2
  funext q
  by_cases hq : q = i.toNatClampNeg
  · subst hq
    simp [updV, upd]
  · simp [updV, upd, hq]
theorem hm_last (X : hm_X p m c cc nL s args Ts own D cl tys) (hY : hm_Y D cl A H0 w H locs) {cA : ClassId} {N : Nat} {f : Nat → Int64} (hn : w n = some (a, .inl (cA, N, .inr (.inl f)))) (t0 : Nat) (ht : tys[t0]? = some (cA, .long)) {i : Int32} {x : Int64} (hin : vp_in i N) (hdg : decode cc pc = .ok (.lastore, 1))
    (kk : ∀ (H1 : Heap) (locs1 : List Loc), hm_Y D cl A H0 (hm_up w n (a, .inl (cA, N, .inr (.inl (vp_updL f i.toNatClampNeg x))))) H1 locs1 → W p l e R s m args below meth c H1 locs1 cells slots Q (F0 m (pc + 1) ls rest)) : W p l e R s m args below meth c H locs cells slots Q (F0 m pc ls (.long x :: .int i :: .ref a :: rest)) := by
  refine W.last X.1.1 X.1.2.1 (hY.1 n _ hn) ((X.2.2 t0 _ ht).1 N (fun j => .long (f j))) (fun q => by cases q) (by show ¬ (i < 0 ∨ (arrV _ _ _).slots.size ≤ _); rw [arrV_size]; exact hin) rfl rfl hdg fun H1 e z oq => ?_
  refine kk H1 _ (hY.set hn ?_ z oq _)
  show H1[a]? = some (vp_cell _ _)
  rw [e, vp_cell_l, vp_cell_l, arrV_store]
  congr 2
  funext q
  by_cases hq : q = i.toNatClampNeg
  · subst hq
    simp [updV, vp_updL]
  · simp [updV, vp_updL, hq]
theorem hm_alen (X : hm_X p m c cc nL s args Ts own D cl tys) (hY : hm_Y D cl A H0 w H locs) {cA : ClassId} {x : vp_A} (hn : w n = some (a, .inl (cA, x))) (t0 : Nat) {ty : FieldType} (ht : tys[t0]? = some (cA, ty)) {v : Int32} (hv : Int32.ofNat x.1 = v) (hdg : decode cc pc = .ok (.arraylength, 1))
    (kk : W p l e R s m args below meth c H locs cells slots Q (F0 m (pc + 1) ls (.int v :: rest))) : W p l e R s m args below meth c H locs cells slots Q (F0 m pc ls (.ref a :: rest)) :=
  va_alen X.1.1 X.1.2.1 X.2 (hY.one hn) 0 t0 rfl ht hv hdg kk
theorem hm_aald (X : hm_X p m c cc nL s args Ts own D cl tys) (hY : hm_Y D cl A H0 w H locs) {cA : ClassId} {C : String} {N : Nat} {f : Nat → Option Nat} (hn : w n = some (a, .inl (cA, N, .inr (.inr (.inr (.inr f)))))) (t0 : Nat) (ht : tys[t0]? = some (cA, .object C)) {i : Int32} (hin : vp_in i N) (hdg : decode cc pc = .ok (.aaload, 1))
    (kk : W p l e R s m args below meth c H locs cells slots Q (F0 m (pc + 1) ls (va_rf (f i.toNatClampNeg) :: rest))) : W p l e R s m args below meth c H locs cells slots Q (F0 m pc ls (.int i :: .ref a :: rest)) :=
  va_aldq X.1.1 X.1.2.1 X.2 (hY.one hn) 0 t0 rfl ht hin hdg kk
theorem hm_new {C : String} {T : u_T} {N ci index : Nat} (X : hm_X p m c cc nL s args Ts own D cl tys) (hY : hm_Y D cl A H0 w H locs) (n : hm_N) (fs : List Value) (hc : cl[ci]? = some (C, T, N)) (hin : ∀ w ∈ u_ws C T N, w ∈ Ts) (ty : Nat → FieldType) (hty : ∀ k, k < N → parseFieldDescriptor (T k).2.2.1 = some (ty k)) (hcl : Cond.classLink own index C ∈ Ts) (hinst : Cond.instantiable C N ∈ Ts) (hini : Cond.initialized C ∈ Ts) (hfs : ∀ j, j < N → defaultValue (ty j) = vp_V fs j) (hcells : cells + 1 ≤ R.cells) (hslots : slots + N ≤ R.slots) (hdg : decode cc pc = .ok (.new index, 3))
    (kk : ∀ (q : Nat) (H1 : Heap), hm_Y D cl A H0 (hm_up w n (q, .inr (ci, fs))) H1 locs → W p l e R s m args below meth c H1 locs (cells + 1) (slots + N) Q (F0 m (pc + 3) ls (.ref q :: rest))) : W p l e R s m args below meth c H locs cells slots Q (F0 m pc ls rest) := by
  obtain ⟨⟨hx, hb, -, hown, hts⟩, hK⟩ := X
  have hKn := hK.1 ci _ hc
  refine W.newcK hx hb hown (hts _ hcl) (hts _ hinst) (hts _ hini) rfl hdg hcells hslots hKn.2.1 rfl fun H1 kC hkC e1 z1 o1 => ?_
  exact kk H.size H1 (hY.new n ⟨_, hc, (u_born ty hts hin hKn hkC e1 hty).to hfs⟩ z1 o1)
end HM2
section HM3
variable {p : Program} {l : Launch} {e : Env} {R : Room} {s : State} {m : MethodId} {args : Array Value} {below : List Frame} {meth : Method} {c : Code} {H : Heap} {locs : List Loc} {cells slots : Nat} {Q : State → Prop}
variable {cc : ByteArray} {nL pc : Nat} {ls : Array Slot} {rest : List Value} {D : va_G} {cl : List vw_C} {A : Nat → Prop} {a : Nat} {tys : List (ClassId × FieldType)} {H0 : Heap} {Ts : List Cond} {own : String} {w : hm_T} {n : hm_N}
/-- a cell of a known class, as a receiver or an element -/
theorem hm_recv {ci : Nat} {q : vw_C} {fs : List Value} (X : hm_X p m c cc nL s args Ts own D cl tys) (hY : hm_Y D cl A H0 w H locs) (hn : w n = some (a, .inr (ci, fs))) (hc : cl[ci]? = some q) : ∃ cell : Cell, H[a]? = some cell ∧ cell.vm.isStatics = false ∧ s.vm.findClass q.1 = some cell.cls :=
  va_recv X.2 (hY.one hn) hc (q0 := 0) rfl
/-- a reference into an array of references of another class -/
theorem hm_aast (X : hm_X p m c cc nL s args Ts own D cl tys) (hY : hm_Y D cl A H0 w H locs) {E C : String} {cA : ClassId} {N v : Nat} {f : Nat → Option Nat} (hn : w n = some (a, .inl (cA, N, .inr (.inr (.inr (.inr f)))))) (t0 : Nat) (ht : tys[t0]? = some (cA, .object E)) (hr : ∃ cellV : Cell, H[v]? = some cellV ∧ cellV.vm.isStatics = false ∧ s.vm.findClass C = some cellV.cls) (hasg : ∀ comp c0 : ClassId, s.vm.findClass E = some comp → s.vm.findClass C = some c0 → s.vm.assignable c0 comp = true) {i : Int32} (hin : vp_in i N) (hdg : decode cc pc = .ok (.aastore, 1))
    (kk : ∀ (H1 : Heap) (locs1 : List Loc), hm_Y D cl A H0 (hm_up w n (a, .inl (cA, N, .inr (.inr (.inr (.inr (va_up f i.toNatClampNeg (some v)))))))) H1 locs1 → W p l e R s m args below meth c H1 locs1 cells slots Q (F0 m (pc + 1) ls rest)) : W p l e R s m args below meth c H locs cells slots Q (F0 m pc ls (.ref v :: .int i :: .ref a :: rest)) := by
  have hlt : i.toNatClampNeg < N := Nat.not_le.mp fun q => hin (Or.inr q)
  have h0 : ¬ i < 0 := fun q => hin (Or.inl q)
  obtain ⟨cellV, g1, g3, g2⟩ := hr
  obtain ⟨kA, comp, k1, k2, k3, -⟩ := (X.2.2 t0 _ ht).2
  obtain ⟨kE, hkE, -⟩ := Vm.findClass_spec k3
  obtain ⟨kC, hkC, -⟩ := Vm.findClass_spec g2
  refine W.aast X.1.1 X.1.2.1 (hY.1 n _ hn) (fun q h => by cases h) (fun h => by cases h) k1 k2 rfl hkE ⟨h0, by show _ < (arrV _ _ _).slots.size; rw [arrV_size]; exact hlt⟩ g1 (fun q h => by rw [h] at g3; cases g3) hkC (hasg _ _ k3 g2) rfl rfl hdg fun H1 e z oq => ?_
  refine kk H1 _ (hY.set hn ?_ z oq _)
  show H1[a]? = some (vp_cell _ _)
  rw [e, vp_cell_q, vp_cell_q, arrV_store]
  congr 2
  funext q
  by_cases hq : q = i.toNatClampNeg
  · subst hq
    simp [updV, va_up, va_rf]
  · simp [updV, va_up, hq]
/-- a new array of numbers; its class is the one that the tables name -/
theorem hm_newa (X : hm_X p m c cc nL s args Ts own D cl tys) (hY : hm_Y D cl A H0 w H locs) (n : hm_N) {atype : ArrayType} (harr : Cond.arrayClass (newarray.typeOf atype) ∈ Ts) {ty : FieldType} (hty : newarray.typeOf atype = ty) {cA : ClassId} (hcA : s.vm.findClass ("[" ++ ty.toString) = some cA) {i : Int32} {N : Nat} {a0 : vp_A} (ha : vp_cell cA a0 = arrV cA N (fun _ => defaultValue ty)) (hi : ¬ i < 0) (hN : i.toNatClampNeg = N) (hbytes : N * componentBytes ty ≤ 536870912) (hcells : cells + 1 ≤ R.cells) (hslots : slots + N ≤ R.slots) (hdg : decode cc pc = .ok (.newarray atype, 2))
    (kk : ∀ (q : Nat) (H1 : Heap), hm_Y D cl A H0 (hm_up w n (q, .inl (cA, a0))) H1 locs → W p l e R s m args below meth c H1 locs (cells + 1) (slots + N) Q (F0 m (pc + 2) ls (.ref q :: rest))) : W p l e R s m args below meth c H locs cells slots Q (F0 m pc ls (.int i :: rest)) := by
  subst hty
  refine va_newaK X.1.1 X.1.2.1 (X.1.2.2.2.2 _ harr) rfl hdg rfl hi hN hbytes hcells hslots rfl fun H1 cB e1 z1 o1 hAr hNm => ?_
  have hc : cB = cA := Option.some.inj (hNm.symm.trans hcA)
  subst hc
  refine kk H.size H1 (hY.new n ?_ z1 o1)
  show H1[H.size]? = some (vp_cell _ _)
  rw [ha]
  exact e1
/-- a new array of references -/
theorem hm_newq (X : hm_X p m c cc nL s args Ts own D cl tys) (hY : hm_Y D cl A H0 w H locs) (n : hm_N) {C : String} {index : Nat} (hclink : Cond.classLink own index C ∈ Ts) (hover : (Cond.arrayOver (.object C)).before args s = true) {cA : ClassId} (hcA : s.vm.findClass ("[" ++ (FieldType.object C).toString) = some cA) {i : Int32} {N : Nat} (hi : ¬ i < 0) (hN : i.toNatClampNeg = N) (hbytes : N * 4 ≤ 536870912) (hcells : cells + 1 ≤ R.cells) (hslots : slots + N ≤ R.slots) (hdg : decode cc pc = .ok (.anewarray index, 3))
    (kk : ∀ (q : Nat) (H1 : Heap), hm_Y D cl A H0 (hm_up w n (q, .inl (cA, N, .inr (.inr (.inr (.inr (fun _ => none))))))) H1 locs → W p l e R s m args below meth c H1 locs (cells + 1) (slots + N) Q (F0 m (pc + 3) ls (.ref q :: rest))) : W p l e R s m args below meth c H locs cells slots Q (F0 m pc ls (.int i :: rest)) := by
  subst hN
  refine W.anew X.1.1 X.1.2.1 X.1.2.2.2.1 (X.1.2.2.2.2 _ hclink) hover rfl hdg rfl hi hbytes hcells hslots fun cB kA comp f1 f2 f3 f4 => ?_
  have hc : cB = cA := Option.some.inj (f1.symm.trans hcA)
  subst hc
  generalize hH1 : H.push ({ cls := cB, slots := Array.replicate i.toNatClampNeg .null, vm := .none } : Cell) = H1
  have z1 : H1.size = H.size + 1 := by rw [← hH1, Array.size_push]
  have e1 : H1[H.size]? = some (arrV cB i.toNatClampNeg (fun _ => .null)) := by rw [← hH1, Array.getElem?_push_size, ← arrV_new]
  have o1 : ∀ q : Nat, q < H.size → H1[q]? = H[q]? := fun q hq => by rw [← hH1, Array.getElem?_push, if_neg (Nat.ne_of_lt hq)]
  refine kk H.size H1 (hY.new n ?_ z1 o1)
  show H1[H.size]? = some (vp_cell _ _)
  rw [vp_cell_q]
  exact e1
end HM3
/-- a method's end: its answer and the cells behind it; what isn't in A stays -/
def hm_Q (D : va_G) (cl : List vw_C) (A : Nat → Prop) (post : Option Value → hm_T → Prop) : Array Value → State → Outcome → State → Prop := fun _ st oc t => (∃ (v : Option Value) (w : hm_T), oc = .returned v ∧ post v w ∧ hm_B D cl A w t) ∧ va_F A st t
/-- a method that only reads -/
def hm_R (post : Option Value → Prop) : Array Value → State → Outcome → State → Prop := fun _ st oc t => ∃ v : Option Value, oc = .returned v ∧ post v ∧ t.heap = st.heap
section HM4
variable {p : Program} {l : Launch} {e : Env} {R : Room} {s : State} {m : MethodId} {args : Array Value} {below : List Frame} {meth : Method} {c : Code} {H : Heap} {locs : List Loc} {cells slots mc ms : Nat} {Q : State → Prop}
variable {pc : Nat} {ls : Array Slot} {rest st0 : List Value} {D : va_G} {cl : List vw_C} {A : Nat → Prop} {H0 : Heap} {w : hm_T} {a : Array Value}
theorem hm_call {post : Option Value → hm_T → Prop} (hr : va_Run p l e R s m args below meth c H locs cells slots mc ms (F0 m pc ls st0) rest (hm_Q D cl A post a) A) (hY : hm_Y D cl A H0 w H locs)
    (kk : ∀ (v : Option Value) (w1 : hm_T) (H1 : Heap) (locs1 : List Loc), post v w1 → hm_Y D cl A H0 w1 H1 locs1 → W p l e R s m args below meth c H1 locs1 (cells + mc) (slots + ms) Q (F0 m (pc + 3) ls (v.toList ++ rest))) : W p l e R s m args below meth c H locs cells slots Q (F0 m pc ls st0) := by
  intro T hT X
  obtain ⟨v, st₀, t, T', L, h0, X', hL, e1, e2, ⟨⟨v', w1, hv, hp, hb⟩, hz, hk⟩, st⟩ := hr T hT X
  cases hv
  rw [h0] at hz hk
  obtain ⟨-, -, hS, hA⟩ := hY
  obtain ⟨t2, a1, b1⟩ := kk v w1 T'.heap (locs ++ L) hp ⟨by rw [e1]; exact hb.1, hb.2, ⟨Nat.le_trans hS.1 (by rw [e1]; exact hz), fun q h1 h2 => by rw [e1, hk q (Nat.lt_of_lt_of_le h1 hS.1) h2]; exact hS.2.1 q h1 h2, fun q hq => by
      rcases List.mem_append.mp hq with h | h
      · exact hS.2.2 q h
      · exact hL q h⟩, hA⟩ T' rfl X'
  exact ⟨t2, st t2 a1, b1⟩
theorem hm_callR {post : Option Value → Prop} (hr : va_Run p l e R s m args below meth c H locs cells slots 0 0 (F0 m pc ls st0) rest (hm_R post a) (fun _ => False))
    (kk : ∀ v : Option Value, post v → W p l e R s m args below meth c H locs cells slots Q (F0 m (pc + 3) ls (v.toList ++ rest))) : W p l e R s m args below meth c H locs cells slots Q (F0 m pc ls st0) := by
  intro T hT X
  obtain ⟨v, st₀, t, T', L, h0, X', hL, e1, -, ⟨v', hv, hp, hh⟩, st⟩ := hr T hT X
  cases hv
  obtain ⟨t2, a1, b1⟩ := kk v hp T' (by rw [e1, hh, h0]) (Stand.forget X' (fun q h => (hL q h).elim))
  exact ⟨t2, st t2 a1, b1⟩
end HM4
end
section
/-! WHAT EVERY METHOD STANDS IN: the array classes G 1 (int), G 2 (boolean), G 3 (long), G 4 (Object), the empty static array G 0; words that move by their own rows -/
abbrev gT (G : Nat → Nat) : List (ClassId × FieldType) := [(G 1, .int), (G 2, .boolean), (G 3, .long), (G 4, .object "java/lang/Object")]
def ctN (G : Nat → Nat) (U : State) : Prop :=
  va_Nw (.methodLinkNest R_P 60 y_W_isWithin R_W) U ∧ va_Nw (.methodLinkNest R_Q 37 y_W_isWithin R_W) U ∧ va_Nw (.castable R_P R_P) U ∧ va_Nw (.castable R_D R_D) U ∧ va_Nw (.castable R_P R_O) U ∧ va_Nw (.castable R_D R_O) U ∧ va_AO R_O U ∧ va_Mi "[Ljava/lang/Object;" (G 5) U ∧ va_Dc U
def ctZ (A : Nat → Prop) (G : Nat → Nat) (U : State) (H : Heap) : Prop :=
  va_Z R_A "DEFAULTCAPACITY_EMPTY_ELEMENTDATA" "[Ljava/lang/Object;" (.ref (G 0)) A U H ∧ va_T (.object R_O) (G 0) 0 (fun _ => .null) A U H
def ctK (D : va_G) (A : Nat → Prop) (G : Nat → Nat) (U : State) : Prop :=
  va_K D cls (gT G) U ∧ ctN G U ∧ ctZ A G U U.heap ∧ ∀ q : Nat, U.heap.size ≤ q → A q
def ctU (D : va_G) (A : Nat → Prop) (G : Nat → Nat) (w : hm_T) (U : State) : Prop := hm_B D cls A w U ∧ ctK D A G U
theorem ctN.warm {G : Nat → Nat} {s U : State} (h : ctN G s) (hW : s.WarmedH U.vm) : ctN G U := by
  obtain ⟨h1, h2, h3, h4, h5, h6, h7, h8, h9⟩ := h
  exact ⟨va_Nw.warmM hW h1, va_Nw.warmM hW h2, va_Nw.warmC hW h3, va_Nw.warmC hW h4, va_Nw.warmC hW h5, va_Nw.warmC hW h6, va_AO.moved hW.alike h7, va_Mi.moved hW.alike h8, va_Dc.moved hW.alike h9⟩
theorem ctN.same {G : Nat → Nat} {s U : State} (h : ctN G s) (hv : s.vm = U.vm) : ctN G U := by
  obtain ⟨h1, h2, h3, h4, h5, h6, h7, h8, h9⟩ := h
  have hal : s.vm.Alike U.vm := by rw [hv]; exact Vm.Alike.refl _
  exact ⟨va_Nw.same rfl hv h1, va_Nw.same rfl hv h2, va_Nw.same rfl hv h3, va_Nw.same rfl hv h4, va_Nw.same rfl hv h5, va_Nw.same rfl hv h6, va_AO.moved hal h7, va_Mi.moved hal h8, va_Dc.moved hal h9⟩
theorem ctZ.moved {A : Nat → Prop} {G : Nat → Nat} {s U : State} {H : Heap} (h : ctZ A G s H) (hv : s.vm.Alike U.vm) : ctZ A G U H := ⟨h.1.moved hv, h.2.moved hv⟩
theorem ctZ.kept {A : Nat → Prop} {G : Nat → Nat} {U : State} {H H1 : Heap} (h : ctZ A G U H) (hq : ∀ a : Nat, a < H.size → ¬ A a → H1[a]? = H[a]?) : ctZ A G U H1 := ⟨h.1.kept hq, h.2.kept hq⟩
theorem ctK.call {D : va_G} {A : Nat → Prop} {G : Nat → Nat} {s U : State} {w : hm_T} {H : Heap} {locs : List Loc} (h : ctK D A G s) (hY : hm_Y D cls A s.heap w H locs) (hU : U.heap = H) (hW : s.WarmedH U.vm) : ctU D A G w U := by
  obtain ⟨h1, h2, h3, h4⟩ := h
  refine ⟨hY.end' hU, va_K.moved hW.alike h1, h2.warm hW, ?_, fun q hq => h4 q (Nat.le_trans hY.2.2.1.1 (by rw [← hU]; exact hq))⟩
  rw [hU]
  exact (h3.kept hY.2.2.1.2.1).moved hW.alike
theorem ctU.blind {D : va_G} {A : Nat → Prop} {G : Nat → Nat} {w : hm_T} {av : List Value} : FrameBlind (va_Pc av (ctU D A G w)) := by
  intro a U g mk ⟨h0, ⟨h1, h2⟩, h3, h4, h5, h6⟩
  exact ⟨h0, ⟨h1, h2⟩, va_K.moved (u := U) (U := U.calling g mk a) (Vm.Alike.refl U.vm) h3, h4.same rfl, ctZ.moved (s := U) (U := U.calling g mk a) h5 (Vm.Alike.refl U.vm), h6⟩
theorem ct_good {w : Cond} (hw : w ∈ wsA) : GoodIn wsA (w :: wsA) := fun v h => by
  rcases List.mem_cons.mp h with h | h
  · rw [h]
    exact ⟨hw, good_of_word (wsA_good _ hw)⟩
  · exact ⟨h, good_of_word (wsA_good _ h)⟩
/-- a method's contract out of the walk of its body -/
theorem ct_met {l : Launch} {y : MethodName} {b : ByteArray} {maxL : Nat} {ret : Option FieldType} {rm : Room} {av : List Value} {Pre : State → Prop} {Qc : Array Value → State → Outcome → State → Prop} {mc ms : Nat} {free : Addr → Prop} (hy : plainName y.cls = true) (hargs : (lg_sl av).length ≤ maxL)
    (body : ∀ (p : Program) (e : Env) (s : State) (m : MethodId) (below : List Frame) (meth : Method) (c : Code) (ls : Array Slot), CallFix p m c b maxL s av.toArray wsA y.cls → meth.sig.returnType = ret → meth.locks = false → meth.name = y.name → lv_has ls maxL (lv_args 0 av) → Pre s →
      W p l e rm s m av.toArray below meth c s.heap [] 0 0 (MQ below Qc av.toArray s mc ms free) (F0 m 0 ls [])) : Met l y (.code y b maxL ret :: wsA) rm (va_Pc av Pre) Qc mc ms free := by
  refine Met.ofW (cc := b) (maxL := maxL) (ret := ret) hy rfl ?_
  intro p e s m args below meth c s₁ B hml hv
  obtain ⟨rfl, hPre⟩ := hv
  have hts := atoms_spec (ws := Cond.code y b maxL ret :: wsA) B.pre
  have hl := lv_entry av (n := maxL) hargs
  rw [lg_entry_eq]
  exact body p e s m below meth c _ ⟨B.exec, B.bytes, hml, findClass_of_methodNamed B.named, fun w h => hts w (List.mem_cons_of_mem _ h)⟩ B.returns B.notSynchronized (name_of_methodNamed B.named B.method).1 hl hPre
section CT1
variable {p : Program} {l : Launch} {e : Env} {R : Room} {s : State} {m : MethodId} {args : Array Value} {below : List Frame} {meth : Method} {c : Code} {H : Heap} {locs : List Loc} {cells slots mc ms : Nat} {Q : State → Prop}
variable {cc b : ByteArray} {nL pc maxL n index : Nat} {ls : Array Slot} {rest st0 As : List Value} {D : va_G} {A : Nat → Prop} {G : Nat → Nat} {own C host : String} {w : hm_T} {y : MethodName} {ret : Option FieldType} {rm : Room} {a0 : Nat} {free : Addr → Prop} {Qc : Array Value → State → Outcome → State → Prop}
theorem ct_runV (X : CallFix p m c cc nL s args wsA own) (hK : ctK D A G s) (hY : hm_Y D cls A s.heap w H locs) (hM : Met l y (.code y b maxL ret :: wsA) rm (va_Pc (.ref a0 :: As) (ctU D A G w)) Qc mc ms free)
    (hcode : Cond.code y b maxL ret ∈ wsA) (hlink : Cond.methodLink own index y ∈ wsA) (hinst : Cond.instanceMethod y ∈ wsA) (hsel : Cond.selects C y y ∈ wsA) (hini : Cond.initialized y.cls ∈ wsA)
    (hd : y.cls ≠ "java/lang/invoke/MethodHandle" ∧ y.cls ≠ "java/lang/invoke/VarHandle" ∧ (parseMethodDescriptor y.desc).map (fun d => d.parameters.length) = some n) (hR : rm.frames + 1 ≤ R.frames ∧ 8 + (maxL + 11) + rm.locals ≤ R.locals) (hrc : rm.cells = mc ∧ rm.slots = ms)
    (hrecv : ∃ cell : Cell, H[a0]? = some cell ∧ cell.vm.isStatics = false ∧ s.vm.findClass C = some cell.cls) (hn : As.length = n) (hls : ls.size = nL) (hst : st0 = As.reverse ++ .ref a0 :: rest) (hroom : (rest.map fun v => v.category).sum ≤ 8) (hdg : decode cc pc = .ok (.invokevirtual index, 3)) (hf : cells + mc ≤ R.cells ∧ slots + ms ≤ R.slots) :
    va_Run p l e R s m args below meth c H locs cells slots mc ms (F0 m pc ls st0) rest (Qc (Value.ref a0 :: As).toArray) free :=
  va_runV X hM ⟨callB_of n X.2.2.2.2 (ct_good hcode) rfl hrc.1 hrc.2 (X.2.2.2.2 _ hini) (X.2.2.2.2 _ hlink) hd hR, X.2.2.2.2 _ hinst, X.2.2.2.2 _ hsel⟩ ⟨ctU.blind, hrecv, fun U hU hW => ⟨rfl, hK.call hY hU hW⟩⟩ rfl hn hls hst (lv_room hroom) hdg hf
theorem ct_runS (X : CallFix p m c cc nL s args wsA own) (hK : ctK D A G s) (hY : hm_Y D cls A s.heap w H locs) (hM : Met l y (.code y b maxL ret :: wsA) rm (va_Pc As (ctU D A G w)) Qc mc ms free)
    (hcode : Cond.code y b maxL ret ∈ wsA) (hlink : Cond.methodLink own index y ∈ wsA) (hstat : Cond.static y ∈ wsA) (hini : Cond.initialized y.cls ∈ wsA)
    (hd : y.cls ≠ "java/lang/invoke/MethodHandle" ∧ y.cls ≠ "java/lang/invoke/VarHandle" ∧ (parseMethodDescriptor y.desc).map (fun d => d.parameters.length) = some n) (hR : rm.frames + 1 ≤ R.frames ∧ 8 + (maxL + 11) + rm.locals ≤ R.locals) (hrc : rm.cells = mc ∧ rm.slots = ms)
    (hn : As.length = n) (hls : ls.size = nL) (hst : st0 = As.reverse ++ rest) (hroom : (rest.map fun v => v.category).sum ≤ 8) (hdg : decode cc pc = .ok (.invokestatic index, 3)) (hf : cells + mc ≤ R.cells ∧ slots + ms ≤ R.slots) :
    va_Run p l e R s m args below meth c H locs cells slots mc ms (F0 m pc ls st0) rest (Qc As.toArray) free :=
  va_runS X hM ⟨callB_of n X.2.2.2.2 (ct_good hcode) rfl hrc.1 hrc.2 (X.2.2.2.2 _ hini) (X.2.2.2.2 _ hlink) hd hR, X.2.2.2.2 _ hstat⟩ ⟨ctU.blind, fun U hU hW => ⟨rfl, hK.call hY hU hW⟩⟩ rfl hn hls hst (lv_room hroom) hdg hf
theorem ct_runI (X : CallFix p m c cc nL s args wsA own) (hK : ctK D A G s) (hY : hm_Y D cls A s.heap w H locs) (hM : Met l y (.code y b maxL none :: wsA) rm (va_Pc (.ref a0 :: As) (ctU D A G w)) Qc mc ms free)
    (hcode : Cond.code y b maxL none ∈ wsA) (hlink : Cond.methodLink own index y ∈ wsA) (hinst : Cond.instanceMethod y ∈ wsA) (hini : Cond.initialized y.cls ∈ wsA) (hy1 : y.name = "<init>")
    (hd : y.cls ≠ "java/lang/invoke/MethodHandle" ∧ y.cls ≠ "java/lang/invoke/VarHandle" ∧ (parseMethodDescriptor y.desc).map (fun d => d.parameters.length) = some n) (hR : rm.frames + 1 ≤ R.frames ∧ 8 + (maxL + 11) + rm.locals ≤ R.locals) (hrc : rm.cells = mc ∧ rm.slots = ms)
    (hn : As.length = n) (hls : ls.size = nL) (hst : st0 = As.reverse ++ .ref a0 :: rest) (hroom : (rest.map fun v => v.category).sum ≤ 8) (hdg : decode cc pc = .ok (.invokespecial index, 3)) (hf : cells + mc ≤ R.cells ∧ slots + ms ≤ R.slots) :
    va_Run p l e R s m args below meth c H locs cells slots mc ms (F0 m pc ls st0) rest (Qc (Value.ref a0 :: As).toArray) free :=
  va_runI X hM ⟨callB_of n X.2.2.2.2 (ct_good hcode) rfl hrc.1 hrc.2 (X.2.2.2.2 _ hini) (X.2.2.2.2 _ hlink) hd hR, hy1, X.2.2.2.2 _ hinst⟩ ⟨ctU.blind, fun U hU hW => ⟨rfl, hK.call hY hU hW⟩⟩ rfl hn hls hst (lv_room hroom) hdg hf
theorem ct_runN (X : CallFix p m c cc nL s args wsA own) (hK : ctK D A G s) (hY : hm_Y D cls A s.heap w H locs) (hM : Met l y (.code y b maxL ret :: wsA) rm (va_Pc As (ctU D A G w)) Qc mc ms free)
    (hcode : Cond.code y b maxL ret ∈ wsA) (hlink : va_Nw (.methodLinkNest own index y host) s) (hstat : Cond.static y ∈ wsA) (hini : Cond.initialized y.cls ∈ wsA)
    (hd : y.cls ≠ "java/lang/invoke/MethodHandle" ∧ y.cls ≠ "java/lang/invoke/VarHandle" ∧ (parseMethodDescriptor y.desc).map (fun d => d.parameters.length) = some n) (hR : rm.frames + 1 ≤ R.frames ∧ 8 + (maxL + 11) + rm.locals ≤ R.locals) (hrc : rm.cells = mc ∧ rm.slots = ms)
    (hn : As.length = n) (hls : ls.size = nL) (hst : st0 = As.reverse ++ rest) (hroom : (rest.map fun v => v.category).sum ≤ 8) (hdg : decode cc pc = .ok (.invokestatic index, 3)) (hf : cells + mc ≤ R.cells ∧ slots + ms ≤ R.slots) :
    va_Run p l e R s m args below meth c H locs cells slots mc ms (F0 m pc ls st0) rest (Qc As.toArray) free :=
  va_runSN X hM ⟨va_cnB n X.2.2.2.2 (ct_good hcode) rfl hrc.1 hrc.2 hlink (X.2.2.2.2 _ hini) hd hR, X.2.2.2.2 _ hstat, trivial⟩ ⟨ctU.blind, fun U hU hW => ⟨rfl, hK.call hY hU hW⟩⟩ rfl hn hls hst (lv_room hroom) hdg hf
end CT1
end
section
/-! THE CLASS'S STATE AS NUMBERS: addresses, ints, longs by (kind, i, j); counts. And its cells. -/
def up3 {α : Type} (f : Nat → Nat → Nat → α) (k i j : Nat) (v : α) : Nat → Nat → Nat → α := fun a b c => if a = k ∧ b = i ∧ c = j then v else f a b c
def up2 {α : Type} (f : Nat → Nat → α) (k i : Nat) (v : α) : Nat → Nat → α := fun a b => if a = k ∧ b = i then v else f a b
theorem up3_s {α : Type} (f : Nat → Nat → Nat → α) (k i j : Nat) (v : α) : up3 f k i j v k i j = v := if_pos ⟨rfl, rfl, rfl⟩
theorem up3_k {α : Type} (f : Nat → Nat → Nat → α) {k i j a b c : Nat} (v : α) (h : a ≠ k) : up3 f k i j v a b c = f a b c := if_neg (fun z => h z.1)
theorem up3_i {α : Type} (f : Nat → Nat → Nat → α) {k i j a b c : Nat} (v : α) (h : b ≠ i) : up3 f k i j v a b c = f a b c := if_neg (fun z => h z.2.1)
theorem up3_j {α : Type} (f : Nat → Nat → Nat → α) {k i j a b c : Nat} (v : α) (h : c ≠ j) : up3 f k i j v a b c = f a b c := if_neg (fun z => h z.2.2)
abbrev cS : Type := (Nat → Nat → Nat → Nat) × (Nat → Nat → Nat → Int32) × (Nat → Nat → Nat → Int64) × (Nat → Nat → Nat)
abbrev cS.ad (S : cS) : Nat → Nat → Nat → Nat := S.1
abbrev cS.I (S : cS) : Nat → Nat → Nat → Int32 := S.2.1
abbrev cS.J (S : cS) : Nat → Nat → Nat → Int64 := S.2.2.1
abbrev cS.C (S : cS) : Nat → Nat → Nat := S.2.2.2
def cS.sA (S : cS) (k i j : Nat) (v : Nat) : cS := (up3 S.1 k i j v, S.2.1, S.2.2.1, S.2.2.2)
def cS.sI (S : cS) (k i j : Nat) (v : Int32) : cS := (S.1, up3 S.2.1 k i j v, S.2.2.1, S.2.2.2)
def cS.sJ (S : cS) (k i j : Nat) (v : Int64) : cS := (S.1, S.2.1, up3 S.2.2.1 k i j v, S.2.2.2)
def cS.sC (S : cS) (k i : Nat) (v : Nat) : cS := (S.1, S.2.1, S.2.2.1, up2 S.2.2.2 k i v)
def cap (n : Nat) : Nat := if n ≤ 10 then 10 else if n ≤ 15 then 15 else 22
def fW (S : cS) : List Value := [.ref (S.ad 1 0 0), .ref (S.ad 3 0 0), .int (S.I 0 0 0), .int (S.I 1 0 0), .long (S.J 0 0 0), .long (S.J 1 0 0), .int (S.I 2 0 0), .int (S.I 3 0 0), .int (S.I 4 0 0), .int (S.I 5 0 0)]
def fQ (S : cS) : List Value := [.int (S.I 7 0 0), .int (S.I 8 0 0), .int (S.I 9 0 0), .long (S.J 2 0 0)]
def fP (S : cS) (i : Nat) : List Value := [.int (S.I 10 i 0), .int (S.I 11 i 0), .long (S.J 10 i 0), .ref (S.ad 5 i 0), .ref (S.ad 6 i 0), .int (S.I 12 i 0), .int (S.I 13 i 0), .int (S.I 14 i 0), .int (S.I 15 i 0), .int (S.I 16 i 0), .int (S.I 17 i 0)]
def fD (S : cS) (i j : Nat) : List Value := [.int (S.I 20 i j), .int (S.I 21 i j), .int (S.I 22 i j), .long (S.J 20 i j), .long (S.J 21 i j), .int (S.I 23 i j), .long (S.J 22 i j)]
def fA (G : Nat → Nat) (n a : Nat) (v : Int32) : List Value := [.ref (if n = 0 then G 0 else a), .int (nI n), .int v]
def rfs (n : Nat) (f : Nat → Nat) : Nat → Option Nat := fun j => if j < n then some (f j) else none
def cellS (G : Nat → Nat) (S : cS) (n : hm_N) : va_E :=
  if n.1 = 0 then .inr (0, fW S) else if n.1 = 1 then .inr (4, fA G (S.C 0 0) (S.ad 2 0 0) (S.I 6 0 0))
  else if n.1 = 2 then .inl (G 4, cap (S.C 0 0), .inr (.inr (.inr (.inr (rfs (S.C 0 0) (fun j => S.ad 4 j 0)))))) else if n.1 = 3 then .inr (3, fQ S)
  else if n.1 = 4 then .inr (1, fP S n.2.1) else if n.1 = 5 then .inl (G 1, 124, .inl (S.I 18 n.2.1))
  else if n.1 = 6 then .inr (4, fA G (S.C 1 n.2.1) (S.ad 7 n.2.1 0) (S.I 19 n.2.1 0))
  else if n.1 = 7 then .inl (G 4, 10, .inr (.inr (.inr (.inr (rfs (S.C 1 n.2.1) (S.ad 8 n.2.1)))))) else .inr (2, fD S n.2.1 n.2.2)
def domS (C : Nat → Nat → Nat) (n : hm_N) : Prop :=
  (n.2 = (0, 0) ∧ (n.1 = 0 ∨ n.1 = 1 ∨ n.1 = 3 ∨ (n.1 = 2 ∧ C 0 0 ≠ 0))) ∨ (n.2.1 < C 0 0 ∧ ((n.2.2 = 0 ∧ (n.1 = 4 ∨ n.1 = 5 ∨ n.1 = 6 ∨ (n.1 = 7 ∧ C 1 n.2.1 ≠ 0))) ∨ (n.1 = 8 ∧ n.2.2 < C 1 n.2.1)))
section ST0
variable (G : Nat → Nat) (S : cS) (ω : hm_T)

noncomputable def wS : hm_T := fun n => haveI := Classical.propDecidable (domS S.C n); if domS S.C n then some (S.ad n.1 n.2.1 n.2.2, cellS G S n) else if n.1 ≤ 8 then none else ω n
end ST0
end
section
section ST1
variable {G : Nat → Nat} {S S' : cS} {ω : hm_T}
theorem wS_in {n : hm_N} (h : domS S.C n) : wS G S ω n = some (S.ad n.1 n.2.1 n.2.2, cellS G S n) := if_pos h
theorem wS_out {n : hm_N} (h : ¬ domS S.C n) : wS G S ω n = if n.1 ≤ 8 then none else ω n := if_neg h
theorem domS_le {C : Nat → Nat → Nat} {n : hm_N} (h : domS C n) : n.1 ≤ 8 := by
  rcases h with ⟨-, h | h | h | ⟨h, -⟩⟩ | ⟨-, ⟨-, h | h | h | ⟨h, -⟩⟩ | ⟨h, -⟩⟩ <;> omega
theorem wS_put {n0 : hm_N} {e : va_E} (hd : domS S.C n0) (hC : S'.C = S.C) (hA : S'.ad = S.ad) (hc : ∀ n, n ≠ n0 → domS S.C n → cellS G S' n = cellS G S n) (he : cellS G S' n0 = e) : hm_up (wS G S ω) n0 (S.ad n0.1 n0.2.1 n0.2.2, e) = wS G S' ω := by
  funext n
  by_cases h : n = n0
  · subst h
    rw [hm_up_s, wS_in (S := S') (by rw [hC]; exact hd), hA, he]
  · rw [hm_up_n _ _ h]
    by_cases hn : domS S.C n
    · rw [wS_in hn, wS_in (S := S') (by rw [hC]; exact hn), hA, hc n h hn]
    · rw [wS_out hn, wS_out (S := S') (by rw [hC]; exact hn)]
theorem w0 : wS G S ω (0, 0, 0) = some (S.ad 0 0 0, .inr (0, fW S)) := wS_in (Or.inl ⟨rfl, Or.inl rfl⟩)
theorem w1 : wS G S ω (1, 0, 0) = some (S.ad 1 0 0, .inr (4, fA G (S.C 0 0) (S.ad 2 0 0) (S.I 6 0 0))) := wS_in (Or.inl ⟨rfl, Or.inr (Or.inl rfl)⟩)
theorem w2 (h : S.C 0 0 ≠ 0) : wS G S ω (2, 0, 0) = some (S.ad 2 0 0, .inl (G 4, cap (S.C 0 0), .inr (.inr (.inr (.inr (rfs (S.C 0 0) (fun j => S.ad 4 j 0))))))) := wS_in (Or.inl ⟨rfl, Or.inr (Or.inr (Or.inr ⟨rfl, h⟩))⟩)
theorem w3 : wS G S ω (3, 0, 0) = some (S.ad 3 0 0, .inr (3, fQ S)) := wS_in (Or.inl ⟨rfl, Or.inr (Or.inr (Or.inl rfl))⟩)
theorem w4 {i : Nat} (h : i < S.C 0 0) : wS G S ω (4, i, 0) = some (S.ad 4 i 0, .inr (1, fP S i)) := wS_in (Or.inr ⟨h, Or.inl ⟨rfl, Or.inl rfl⟩⟩)
theorem w5 {i : Nat} (h : i < S.C 0 0) : wS G S ω (5, i, 0) = some (S.ad 5 i 0, .inl (G 1, 124, .inl (S.I 18 i))) := wS_in (Or.inr ⟨h, Or.inl ⟨rfl, Or.inr (Or.inl rfl)⟩⟩)
theorem w6 {i : Nat} (h : i < S.C 0 0) : wS G S ω (6, i, 0) = some (S.ad 6 i 0, .inr (4, fA G (S.C 1 i) (S.ad 7 i 0) (S.I 19 i 0))) := wS_in (Or.inr ⟨h, Or.inl ⟨rfl, Or.inr (Or.inr (Or.inl rfl))⟩⟩)
theorem w7 {i : Nat} (h : i < S.C 0 0) (h1 : S.C 1 i ≠ 0) : wS G S ω (7, i, 0) = some (S.ad 7 i 0, .inl (G 4, 10, .inr (.inr (.inr (.inr (rfs (S.C 1 i) (S.ad 8 i))))))) := wS_in (Or.inr ⟨h, Or.inl ⟨rfl, Or.inr (Or.inr (Or.inr ⟨rfl, h1⟩))⟩⟩)
theorem w8 {i j : Nat} (h : i < S.C 0 0) (h1 : j < S.C 1 i) : wS G S ω (8, i, j) = some (S.ad 8 i j, .inr (2, fD S i j)) := wS_in (Or.inr ⟨h, Or.inr ⟨rfl, h1⟩⟩)
theorem dom1 {C : Nat → Nat → Nat} {a b c : Nat} (h : domS C (a, b, c)) (ha : a ≤ 3) : b = 0 ∧ c = 0 := by
  rcases h with ⟨h, -⟩ | ⟨-, ⟨-, h | h | h | ⟨h, -⟩⟩ | ⟨h, -⟩⟩
  · cases h
    exact ⟨rfl, rfl⟩
  all_goals (exfalso; simp only at h; omega)
theorem dom4 {C : Nat → Nat → Nat} {a b c : Nat} (h : domS C (a, b, c)) (h4 : 4 ≤ a) (h7 : a ≤ 7) : c = 0 := by
  rcases h with ⟨-, h | h | h | ⟨h, -⟩⟩ | ⟨-, ⟨h, -⟩ | ⟨h, -⟩⟩ <;> simp only at h <;> omega

theorem fo_W_2 {v : Int32} : hm_up (wS G S ω) (0, 0, 0) (S.ad 0 0 0, .inr (0, (fW S).set 2 (.int v))) = wS G (S.sI 0 0 0 v) ω := by
  refine wS_put (S' := S.sI 0 0 0 v) (Or.inl ⟨rfl, Or.inl rfl⟩) rfl rfl ?_ rfl
  rintro ⟨a, b, c⟩ hn hd
  have h8 := domS_le hd
  match a, hn, hd, h8 with
  | 0, hn, hd, _ => exact absurd (by obtain ⟨h1, h2⟩ := dom1 hd (by omega); rw [h1, h2]) hn
  | 1, _, _, _ => rfl
  | 2, _, _, _ => rfl
  | 3, _, _, _ => rfl
  | 4, _, _, _ => rfl
  | 5, _, _, _ => rfl
  | 6, _, _, _ => rfl
  | 7, _, _, _ => rfl
  | 8, _, _, _ => rfl
  | a + 9, _, _, h8 => simp only at h8; omega
theorem fo_W_3 {v : Int32} : hm_up (wS G S ω) (0, 0, 0) (S.ad 0 0 0, .inr (0, (fW S).set 3 (.int v))) = wS G (S.sI 1 0 0 v) ω := by
  refine wS_put (S' := S.sI 1 0 0 v) (Or.inl ⟨rfl, Or.inl rfl⟩) rfl rfl ?_ rfl
  rintro ⟨a, b, c⟩ hn hd
  have h8 := domS_le hd
  match a, hn, hd, h8 with
  | 0, hn, hd, _ => exact absurd (by obtain ⟨h1, h2⟩ := dom1 hd (by omega); rw [h1, h2]) hn
  | 1, _, _, _ => rfl
  | 2, _, _, _ => rfl
  | 3, _, _, _ => rfl
  | 4, _, _, _ => rfl
  | 5, _, _, _ => rfl
  | 6, _, _, _ => rfl
  | 7, _, _, _ => rfl
  | 8, _, _, _ => rfl
  | a + 9, _, _, h8 => simp only at h8; omega
theorem fo_W_4 {v : Int64} : hm_up (wS G S ω) (0, 0, 0) (S.ad 0 0 0, .inr (0, (fW S).set 4 (.long v))) = wS G (S.sJ 0 0 0 v) ω := by
  refine wS_put (S' := S.sJ 0 0 0 v) (Or.inl ⟨rfl, Or.inl rfl⟩) rfl rfl ?_ rfl
  rintro ⟨a, b, c⟩ hn hd
  have h8 := domS_le hd
  match a, hn, hd, h8 with
  | 0, hn, hd, _ => exact absurd (by obtain ⟨h1, h2⟩ := dom1 hd (by omega); rw [h1, h2]) hn
  | 1, _, _, _ => rfl
  | 2, _, _, _ => rfl
  | 3, _, _, _ => rfl
  | 4, _, _, _ => rfl
  | 5, _, _, _ => rfl
  | 6, _, _, _ => rfl
  | 7, _, _, _ => rfl
  | 8, _, _, _ => rfl
  | a + 9, _, _, h8 => simp only at h8; omega
theorem fo_W_5 {v : Int64} : hm_up (wS G S ω) (0, 0, 0) (S.ad 0 0 0, .inr (0, (fW S).set 5 (.long v))) = wS G (S.sJ 1 0 0 v) ω := by
  refine wS_put (S' := S.sJ 1 0 0 v) (Or.inl ⟨rfl, Or.inl rfl⟩) rfl rfl ?_ rfl
  rintro ⟨a, b, c⟩ hn hd
  have h8 := domS_le hd
  match a, hn, hd, h8 with
  | 0, hn, hd, _ => exact absurd (by obtain ⟨h1, h2⟩ := dom1 hd (by omega); rw [h1, h2]) hn
  | 1, _, _, _ => rfl
  | 2, _, _, _ => rfl
  | 3, _, _, _ => rfl
  | 4, _, _, _ => rfl
  | 5, _, _, _ => rfl
  | 6, _, _, _ => rfl
  | 7, _, _, _ => rfl
  | 8, _, _, _ => rfl
  | a + 9, _, _, h8 => simp only at h8; omega
theorem fo_W_6 {v : Int32} : hm_up (wS G S ω) (0, 0, 0) (S.ad 0 0 0, .inr (0, (fW S).set 6 (.int v))) = wS G (S.sI 2 0 0 v) ω := by
  refine wS_put (S' := S.sI 2 0 0 v) (Or.inl ⟨rfl, Or.inl rfl⟩) rfl rfl ?_ rfl
  rintro ⟨a, b, c⟩ hn hd
  have h8 := domS_le hd
  match a, hn, hd, h8 with
  | 0, hn, hd, _ => exact absurd (by obtain ⟨h1, h2⟩ := dom1 hd (by omega); rw [h1, h2]) hn
  | 1, _, _, _ => rfl
  | 2, _, _, _ => rfl
  | 3, _, _, _ => rfl
  | 4, _, _, _ => rfl
  | 5, _, _, _ => rfl
  | 6, _, _, _ => rfl
  | 7, _, _, _ => rfl
  | 8, _, _, _ => rfl
  | a + 9, _, _, h8 => simp only at h8; omega
theorem fo_W_7 {v : Int32} : hm_up (wS G S ω) (0, 0, 0) (S.ad 0 0 0, .inr (0, (fW S).set 7 (.int v))) = wS G (S.sI 3 0 0 v) ω := by
  refine wS_put (S' := S.sI 3 0 0 v) (Or.inl ⟨rfl, Or.inl rfl⟩) rfl rfl ?_ rfl
  rintro ⟨a, b, c⟩ hn hd
  have h8 := domS_le hd
  match a, hn, hd, h8 with
  | 0, hn, hd, _ => exact absurd (by obtain ⟨h1, h2⟩ := dom1 hd (by omega); rw [h1, h2]) hn
  | 1, _, _, _ => rfl
  | 2, _, _, _ => rfl
  | 3, _, _, _ => rfl
  | 4, _, _, _ => rfl
  | 5, _, _, _ => rfl
  | 6, _, _, _ => rfl
  | 7, _, _, _ => rfl
  | 8, _, _, _ => rfl
  | a + 9, _, _, h8 => simp only at h8; omega
theorem fo_W_8 {v : Int32} : hm_up (wS G S ω) (0, 0, 0) (S.ad 0 0 0, .inr (0, (fW S).set 8 (.int v))) = wS G (S.sI 4 0 0 v) ω := by
  refine wS_put (S' := S.sI 4 0 0 v) (Or.inl ⟨rfl, Or.inl rfl⟩) rfl rfl ?_ rfl
  rintro ⟨a, b, c⟩ hn hd
  have h8 := domS_le hd
  match a, hn, hd, h8 with
  | 0, hn, hd, _ => exact absurd (by obtain ⟨h1, h2⟩ := dom1 hd (by omega); rw [h1, h2]) hn
  | 1, _, _, _ => rfl
  | 2, _, _, _ => rfl
  | 3, _, _, _ => rfl
  | 4, _, _, _ => rfl
  | 5, _, _, _ => rfl
  | 6, _, _, _ => rfl
  | 7, _, _, _ => rfl
  | 8, _, _, _ => rfl
  | a + 9, _, _, h8 => simp only at h8; omega
theorem fo_W_9 {v : Int32} : hm_up (wS G S ω) (0, 0, 0) (S.ad 0 0 0, .inr (0, (fW S).set 9 (.int v))) = wS G (S.sI 5 0 0 v) ω := by
  refine wS_put (S' := S.sI 5 0 0 v) (Or.inl ⟨rfl, Or.inl rfl⟩) rfl rfl ?_ rfl
  rintro ⟨a, b, c⟩ hn hd
  have h8 := domS_le hd
  match a, hn, hd, h8 with
  | 0, hn, hd, _ => exact absurd (by obtain ⟨h1, h2⟩ := dom1 hd (by omega); rw [h1, h2]) hn
  | 1, _, _, _ => rfl
  | 2, _, _, _ => rfl
  | 3, _, _, _ => rfl
  | 4, _, _, _ => rfl
  | 5, _, _, _ => rfl
  | 6, _, _, _ => rfl
  | 7, _, _, _ => rfl
  | 8, _, _, _ => rfl
  | a + 9, _, _, h8 => simp only at h8; omega
theorem fo_Q_0 {v : Int32} : hm_up (wS G S ω) (3, 0, 0) (S.ad 3 0 0, .inr (3, (fQ S).set 0 (.int v))) = wS G (S.sI 7 0 0 v) ω := by
  refine wS_put (S' := S.sI 7 0 0 v) (Or.inl ⟨rfl, Or.inr (Or.inr (Or.inl rfl))⟩) rfl rfl ?_ rfl
  rintro ⟨a, b, c⟩ hn hd
  have h8 := domS_le hd
  match a, hn, hd, h8 with
  | 0, _, _, _ => rfl
  | 1, _, _, _ => rfl
  | 2, _, _, _ => rfl
  | 3, hn, hd, _ => exact absurd (by obtain ⟨h1, h2⟩ := dom1 hd (by omega); rw [h1, h2]) hn
  | 4, _, _, _ => rfl
  | 5, _, _, _ => rfl
  | 6, _, _, _ => rfl
  | 7, _, _, _ => rfl
  | 8, _, _, _ => rfl
  | a + 9, _, _, h8 => simp only at h8; omega
theorem fo_Q_1 {v : Int32} : hm_up (wS G S ω) (3, 0, 0) (S.ad 3 0 0, .inr (3, (fQ S).set 1 (.int v))) = wS G (S.sI 8 0 0 v) ω := by
  refine wS_put (S' := S.sI 8 0 0 v) (Or.inl ⟨rfl, Or.inr (Or.inr (Or.inl rfl))⟩) rfl rfl ?_ rfl
  rintro ⟨a, b, c⟩ hn hd
  have h8 := domS_le hd
  match a, hn, hd, h8 with
  | 0, _, _, _ => rfl
  | 1, _, _, _ => rfl
  | 2, _, _, _ => rfl
  | 3, hn, hd, _ => exact absurd (by obtain ⟨h1, h2⟩ := dom1 hd (by omega); rw [h1, h2]) hn
  | 4, _, _, _ => rfl
  | 5, _, _, _ => rfl
  | 6, _, _, _ => rfl
  | 7, _, _, _ => rfl
  | 8, _, _, _ => rfl
  | a + 9, _, _, h8 => simp only at h8; omega
theorem fo_Q_2 {v : Int32} : hm_up (wS G S ω) (3, 0, 0) (S.ad 3 0 0, .inr (3, (fQ S).set 2 (.int v))) = wS G (S.sI 9 0 0 v) ω := by
  refine wS_put (S' := S.sI 9 0 0 v) (Or.inl ⟨rfl, Or.inr (Or.inr (Or.inl rfl))⟩) rfl rfl ?_ rfl
  rintro ⟨a, b, c⟩ hn hd
  have h8 := domS_le hd
  match a, hn, hd, h8 with
  | 0, _, _, _ => rfl
  | 1, _, _, _ => rfl
  | 2, _, _, _ => rfl
  | 3, hn, hd, _ => exact absurd (by obtain ⟨h1, h2⟩ := dom1 hd (by omega); rw [h1, h2]) hn
  | 4, _, _, _ => rfl
  | 5, _, _, _ => rfl
  | 6, _, _, _ => rfl
  | 7, _, _, _ => rfl
  | 8, _, _, _ => rfl
  | a + 9, _, _, h8 => simp only at h8; omega
theorem fo_Q_3 {v : Int64} : hm_up (wS G S ω) (3, 0, 0) (S.ad 3 0 0, .inr (3, (fQ S).set 3 (.long v))) = wS G (S.sJ 2 0 0 v) ω := by
  refine wS_put (S' := S.sJ 2 0 0 v) (Or.inl ⟨rfl, Or.inr (Or.inr (Or.inl rfl))⟩) rfl rfl ?_ rfl
  rintro ⟨a, b, c⟩ hn hd
  have h8 := domS_le hd
  match a, hn, hd, h8 with
  | 0, _, _, _ => rfl
  | 1, _, _, _ => rfl
  | 2, _, _, _ => rfl
  | 3, hn, hd, _ => exact absurd (by obtain ⟨h1, h2⟩ := dom1 hd (by omega); rw [h1, h2]) hn
  | 4, _, _, _ => rfl
  | 5, _, _, _ => rfl
  | 6, _, _, _ => rfl
  | 7, _, _, _ => rfl
  | 8, _, _, _ => rfl
  | a + 9, _, _, h8 => simp only at h8; omega
theorem fo_P_5 {i : Nat} {v : Int32} (hi : i < S.C 0 0) : hm_up (wS G S ω) (4, i, 0) (S.ad 4 i 0, .inr (1, (fP S i).set 5 (.int v))) = wS G (S.sI 12 i 0 v) ω := by
  refine wS_put (S' := S.sI 12 i 0 v) (Or.inr ⟨hi, Or.inl ⟨rfl, Or.inl rfl⟩⟩) rfl rfl ?_ ?_
  · rintro ⟨a, b, c⟩ hn hd
    have h8 := domS_le hd
    match a, hn, hd, h8 with
    | 0, _, _, _ => rfl
    | 1, _, _, _ => rfl
    | 2, _, _, _ => rfl
    | 3, _, _, _ => rfl
    | 4, hn, hd, _ =>
      have hb : b ≠ i := fun z => hn (by rw [z, dom4 hd (by omega) (by omega)])
      show Sum.inr (1, fP (S.sI 12 i 0 v) b) = Sum.inr (1, fP S b)
      simp [fP, cS.sI, cS.I, cS.J, cS.ad, up3, hb]
    | 5, _, _, _ => rfl
    | 6, _, _, _ => rfl
    | 7, _, _, _ => rfl
    | 8, _, _, _ => rfl
    | a + 9, _, _, h8 => simp only at h8; omega
  · show Sum.inr (1, fP (S.sI 12 i 0 v) i) = _
    simp [fP, cS.sI, cS.I, cS.J, cS.ad, up3]
theorem fo_P_6 {i : Nat} {v : Int32} (hi : i < S.C 0 0) : hm_up (wS G S ω) (4, i, 0) (S.ad 4 i 0, .inr (1, (fP S i).set 6 (.int v))) = wS G (S.sI 13 i 0 v) ω := by
  refine wS_put (S' := S.sI 13 i 0 v) (Or.inr ⟨hi, Or.inl ⟨rfl, Or.inl rfl⟩⟩) rfl rfl ?_ ?_
  · rintro ⟨a, b, c⟩ hn hd
    have h8 := domS_le hd
    match a, hn, hd, h8 with
    | 0, _, _, _ => rfl
    | 1, _, _, _ => rfl
    | 2, _, _, _ => rfl
    | 3, _, _, _ => rfl
    | 4, hn, hd, _ =>
      have hb : b ≠ i := fun z => hn (by rw [z, dom4 hd (by omega) (by omega)])
      show Sum.inr (1, fP (S.sI 13 i 0 v) b) = Sum.inr (1, fP S b)
      simp [fP, cS.sI, cS.I, cS.J, cS.ad, up3, hb]
    | 5, _, _, _ => rfl
    | 6, _, _, _ => rfl
    | 7, _, _, _ => rfl
    | 8, _, _, _ => rfl
    | a + 9, _, _, h8 => simp only at h8; omega
  · show Sum.inr (1, fP (S.sI 13 i 0 v) i) = _
    simp [fP, cS.sI, cS.I, cS.J, cS.ad, up3]
theorem fo_P_7 {i : Nat} {v : Int32} (hi : i < S.C 0 0) : hm_up (wS G S ω) (4, i, 0) (S.ad 4 i 0, .inr (1, (fP S i).set 7 (.int v))) = wS G (S.sI 14 i 0 v) ω := by
  refine wS_put (S' := S.sI 14 i 0 v) (Or.inr ⟨hi, Or.inl ⟨rfl, Or.inl rfl⟩⟩) rfl rfl ?_ ?_
  · rintro ⟨a, b, c⟩ hn hd
    have h8 := domS_le hd
    match a, hn, hd, h8 with
    | 0, _, _, _ => rfl
    | 1, _, _, _ => rfl
    | 2, _, _, _ => rfl
    | 3, _, _, _ => rfl
    | 4, hn, hd, _ =>
      have hb : b ≠ i := fun z => hn (by rw [z, dom4 hd (by omega) (by omega)])
      show Sum.inr (1, fP (S.sI 14 i 0 v) b) = Sum.inr (1, fP S b)
      simp [fP, cS.sI, cS.I, cS.J, cS.ad, up3, hb]
    | 5, _, _, _ => rfl
    | 6, _, _, _ => rfl
    | 7, _, _, _ => rfl
    | 8, _, _, _ => rfl
    | a + 9, _, _, h8 => simp only at h8; omega
  · show Sum.inr (1, fP (S.sI 14 i 0 v) i) = _
    simp [fP, cS.sI, cS.I, cS.J, cS.ad, up3]
theorem fo_P_8 {i : Nat} {v : Int32} (hi : i < S.C 0 0) : hm_up (wS G S ω) (4, i, 0) (S.ad 4 i 0, .inr (1, (fP S i).set 8 (.int v))) = wS G (S.sI 15 i 0 v) ω := by
  refine wS_put (S' := S.sI 15 i 0 v) (Or.inr ⟨hi, Or.inl ⟨rfl, Or.inl rfl⟩⟩) rfl rfl ?_ ?_
  · rintro ⟨a, b, c⟩ hn hd
    have h8 := domS_le hd
    match a, hn, hd, h8 with
    | 0, _, _, _ => rfl
    | 1, _, _, _ => rfl
    | 2, _, _, _ => rfl
    | 3, _, _, _ => rfl
    | 4, hn, hd, _ =>
      have hb : b ≠ i := fun z => hn (by rw [z, dom4 hd (by omega) (by omega)])
      show Sum.inr (1, fP (S.sI 15 i 0 v) b) = Sum.inr (1, fP S b)
      simp [fP, cS.sI, cS.I, cS.J, cS.ad, up3, hb]
    | 5, _, _, _ => rfl
    | 6, _, _, _ => rfl
    | 7, _, _, _ => rfl
    | 8, _, _, _ => rfl
    | a + 9, _, _, h8 => simp only at h8; omega
  · show Sum.inr (1, fP (S.sI 15 i 0 v) i) = _
    simp [fP, cS.sI, cS.I, cS.J, cS.ad, up3]
theorem fo_P_9 {i : Nat} {v : Int32} (hi : i < S.C 0 0) : hm_up (wS G S ω) (4, i, 0) (S.ad 4 i 0, .inr (1, (fP S i).set 9 (.int v))) = wS G (S.sI 16 i 0 v) ω := by
  refine wS_put (S' := S.sI 16 i 0 v) (Or.inr ⟨hi, Or.inl ⟨rfl, Or.inl rfl⟩⟩) rfl rfl ?_ ?_
  · rintro ⟨a, b, c⟩ hn hd
    have h8 := domS_le hd
    match a, hn, hd, h8 with
    | 0, _, _, _ => rfl
    | 1, _, _, _ => rfl
    | 2, _, _, _ => rfl
    | 3, _, _, _ => rfl
    | 4, hn, hd, _ =>
      have hb : b ≠ i := fun z => hn (by rw [z, dom4 hd (by omega) (by omega)])
      show Sum.inr (1, fP (S.sI 16 i 0 v) b) = Sum.inr (1, fP S b)
      simp [fP, cS.sI, cS.I, cS.J, cS.ad, up3, hb]
    | 5, _, _, _ => rfl
    | 6, _, _, _ => rfl
    | 7, _, _, _ => rfl
    | 8, _, _, _ => rfl
    | a + 9, _, _, h8 => simp only at h8; omega
  · show Sum.inr (1, fP (S.sI 16 i 0 v) i) = _
    simp [fP, cS.sI, cS.I, cS.J, cS.ad, up3]
theorem fo_P_10 {i : Nat} {v : Int32} (hi : i < S.C 0 0) : hm_up (wS G S ω) (4, i, 0) (S.ad 4 i 0, .inr (1, (fP S i).set 10 (.int v))) = wS G (S.sI 17 i 0 v) ω := by
  refine wS_put (S' := S.sI 17 i 0 v) (Or.inr ⟨hi, Or.inl ⟨rfl, Or.inl rfl⟩⟩) rfl rfl ?_ ?_
  · rintro ⟨a, b, c⟩ hn hd
    have h8 := domS_le hd
    match a, hn, hd, h8 with
    | 0, _, _, _ => rfl
    | 1, _, _, _ => rfl
    | 2, _, _, _ => rfl
    | 3, _, _, _ => rfl
    | 4, hn, hd, _ =>
      have hb : b ≠ i := fun z => hn (by rw [z, dom4 hd (by omega) (by omega)])
      show Sum.inr (1, fP (S.sI 17 i 0 v) b) = Sum.inr (1, fP S b)
      simp [fP, cS.sI, cS.I, cS.J, cS.ad, up3, hb]
    | 5, _, _, _ => rfl
    | 6, _, _, _ => rfl
    | 7, _, _, _ => rfl
    | 8, _, _, _ => rfl
    | a + 9, _, _, h8 => simp only at h8; omega
  · show Sum.inr (1, fP (S.sI 17 i 0 v) i) = _
    simp [fP, cS.sI, cS.I, cS.J, cS.ad, up3]
theorem fo_D_5 {i j : Nat} {v : Int32} (hi : i < S.C 0 0) (hj : j < S.C 1 i) : hm_up (wS G S ω) (8, i, j) (S.ad 8 i j, .inr (2, (fD S i j).set 5 (.int v))) = wS G (S.sI 23 i j v) ω := by
  refine wS_put (S' := S.sI 23 i j v) (Or.inr ⟨hi, Or.inr ⟨rfl, hj⟩⟩) rfl rfl ?_ ?_
  · rintro ⟨a, b, c⟩ hn hd
    have h8 := domS_le hd
    match a, hn, hd, h8 with
    | 0, _, _, _ => rfl
    | 1, _, _, _ => rfl
    | 2, _, _, _ => rfl
    | 3, _, _, _ => rfl
    | 4, _, _, _ => rfl
    | 5, _, _, _ => rfl
    | 6, _, _, _ => rfl
    | 7, _, _, _ => rfl
    | 8, hn, hd, _ =>
      have hb : ¬ (b = i ∧ c = j) := fun z => hn (by rw [z.1, z.2])
      show Sum.inr (2, fD (S.sI 23 i j v) b c) = Sum.inr (2, fD S b c)
      simp [fD, cS.sI, cS.I, cS.J, cS.ad, up3, hb]
    | a + 9, _, _, h8 => simp only at h8; omega
  · show Sum.inr (2, fD (S.sI 23 i j v) i j) = _
    simp [fD, cS.sI, cS.I, cS.J, cS.ad, up3]
theorem fo_D_6 {i j : Nat} {v : Int64} (hi : i < S.C 0 0) (hj : j < S.C 1 i) : hm_up (wS G S ω) (8, i, j) (S.ad 8 i j, .inr (2, (fD S i j).set 6 (.long v))) = wS G (S.sJ 22 i j v) ω := by
  refine wS_put (S' := S.sJ 22 i j v) (Or.inr ⟨hi, Or.inr ⟨rfl, hj⟩⟩) rfl rfl ?_ ?_
  · rintro ⟨a, b, c⟩ hn hd
    have h8 := domS_le hd
    match a, hn, hd, h8 with
    | 0, _, _, _ => rfl
    | 1, _, _, _ => rfl
    | 2, _, _, _ => rfl
    | 3, _, _, _ => rfl
    | 4, _, _, _ => rfl
    | 5, _, _, _ => rfl
    | 6, _, _, _ => rfl
    | 7, _, _, _ => rfl
    | 8, hn, hd, _ =>
      have hb : ¬ (b = i ∧ c = j) := fun z => hn (by rw [z.1, z.2])
      show Sum.inr (2, fD (S.sJ 22 i j v) b c) = Sum.inr (2, fD S b c)
      simp [fD, cS.sJ, cS.I, cS.J, cS.ad, up3, hb]
    | a + 9, _, _, h8 => simp only at h8; omega
  · show Sum.inr (2, fD (S.sJ 22 i j v) i j) = _
    simp [fD, cS.sJ, cS.I, cS.J, cS.ad, up3]
theorem fo_E {i k : Nat} {v : Int32} (hi : i < S.C 0 0) : hm_up (wS G S ω) (5, i, 0) (S.ad 5 i 0, .inl (G 1, 124, .inl (upd (S.I 18 i) k v))) = wS G (S.sI 18 i k v) ω := by
  refine wS_put (S' := S.sI 18 i k v) (Or.inr ⟨hi, Or.inl ⟨rfl, Or.inr (Or.inl rfl)⟩⟩) rfl rfl ?_ ?_
  · rintro ⟨a, b, c⟩ hn hd
    have h8 := domS_le hd
    match a, hn, hd, h8 with
    | 0, _, _, _ => rfl
    | 1, _, _, _ => rfl
    | 2, _, _, _ => rfl
    | 3, _, _, _ => rfl
    | 4, _, _, _ => rfl
    | 5, hn, hd, _ =>
      have hb : b ≠ i := fun z => hn (by rw [z, dom4 hd (by omega) (by omega)])
      show Sum.inl (G 1, 124, Sum.inl ((S.sI 18 i k v).I 18 b)) = Sum.inl (G 1, 124, Sum.inl (S.I 18 b))
      rw [show (S.sI 18 i k v).I 18 b = S.I 18 b from funext (fun z => up3_i _ v hb)]
    | 6, _, _, _ => rfl
    | 7, _, _, _ => rfl
    | 8, _, _, _ => rfl
    | a + 9, _, _, h8 => simp only at h8; omega
  · show Sum.inl (G 1, 124, Sum.inl ((S.sI 18 i k v).I 18 i)) = _
    rw [show (S.sI 18 i k v).I 18 i = upd (S.I 18 i) k v from funext (fun z => by by_cases hz : z = k <;> simp [cS.sI, cS.I, up3, upd, hz])]
end ST1
end
section
/-! ENDS, FIELDS, COMPARISONS OF LONGS -/
section RW1
variable {p : Program} {l : Launch} {e : Env} {R : Room} {s : State} {m : MethodId} {args : Array Value} {below : List Frame} {meth : Method} {c : Code} {H : Heap} {locs : List Loc} {cells slots : Nat} {Q : State → Prop}
variable {cc : ByteArray} {nL pc tgt : Nat} {off : Int} {ls : Array Slot} {rest : List Value} {D : va_G} {A : Nat → Prop} {G : Nat → Nat} {H0 : Heap} {own : String} {w : hm_T} {x y : Int64}
theorem lc_lt (X : CallFix p m c cc nL s args wsA own) (h1 : decode cc pc = .ok (.lcmp, 1)) (h2 : decode cc (pc + 1) = .ok (.ifCond .lt off, 3)) (ht : ((pc + 1 : Nat) : Int) + off = (tgt : Int)) (kt : x < y → W p l e R s m args below meth c H locs cells slots Q (F0 m tgt ls rest)) (kf : ¬ x < y → W p l e R s m args below meth c H locs cells slots Q (F0 m (pc + 1 + 3) ls rest)) : W p l e R s m args below meth c H locs cells slots Q (F0 m pc ls (.long y :: .long x :: rest)) :=
  W.lcmp X.1 X.2.1 h1 (lv_if_lt X.1 X.2.1 h2 ht (fun h => kt ((lg_cmp_lt x y).mp h)) (fun h => kf (fun z => h ((lg_cmp_lt x y).mpr z))))
theorem lc_ge (X : CallFix p m c cc nL s args wsA own) (h1 : decode cc pc = .ok (.lcmp, 1)) (h2 : decode cc (pc + 1) = .ok (.ifCond .ge off, 3)) (ht : ((pc + 1 : Nat) : Int) + off = (tgt : Int)) (kt : y ≤ x → W p l e R s m args below meth c H locs cells slots Q (F0 m tgt ls rest)) (kf : ¬ y ≤ x → W p l e R s m args below meth c H locs cells slots Q (F0 m (pc + 1 + 3) ls rest)) : W p l e R s m args below meth c H locs cells slots Q (F0 m pc ls (.long y :: .long x :: rest)) :=
  W.lcmp X.1 X.2.1 h1 (lv_if_ge X.1 X.2.1 h2 ht (fun h => kt ((lg_cmp_ge x y).mp h)) (fun h => kf (fun z => h ((lg_cmp_ge x y).mpr z))))
theorem lc_gt (X : CallFix p m c cc nL s args wsA own) (h1 : decode cc pc = .ok (.lcmp, 1)) (h2 : decode cc (pc + 1) = .ok (.ifCond .gt off, 3)) (ht : ((pc + 1 : Nat) : Int) + off = (tgt : Int)) (kt : y < x → W p l e R s m args below meth c H locs cells slots Q (F0 m tgt ls rest)) (kf : ¬ y < x → W p l e R s m args below meth c H locs cells slots Q (F0 m (pc + 1 + 3) ls rest)) : W p l e R s m args below meth c H locs cells slots Q (F0 m pc ls (.long y :: .long x :: rest)) :=
  W.lcmp X.1 X.2.1 h1 (lv_if_gt X.1 X.2.1 h2 ht (fun h => kt ((lg_cmp_gt x y).mp h)) (fun h => kf (fun z => h ((lg_cmp_gt x y).mpr z))))
theorem lc_le (X : CallFix p m c cc nL s args wsA own) (h1 : decode cc pc = .ok (.lcmp, 1)) (h2 : decode cc (pc + 1) = .ok (.ifCond .le off, 3)) (ht : ((pc + 1 : Nat) : Int) + off = (tgt : Int)) (kt : x ≤ y → W p l e R s m args below meth c H locs cells slots Q (F0 m tgt ls rest)) (kf : ¬ x ≤ y → W p l e R s m args below meth c H locs cells slots Q (F0 m (pc + 1 + 3) ls rest)) : W p l e R s m args below meth c H locs cells slots Q (F0 m pc ls (.long y :: .long x :: rest)) :=
  W.lcmp X.1 X.2.1 h1 (lv_if_le X.1 X.2.1 h2 ht (fun h => kt ((lg_cmp_le x y).mp h)) (fun h => kf (fun z => h ((lg_cmp_le x y).mpr z))))
theorem lc_eq (X : CallFix p m c cc nL s args wsA own) (h1 : decode cc pc = .ok (.lcmp, 1)) (h2 : decode cc (pc + 1) = .ok (.ifCond .eq off, 3)) (ht : ((pc + 1 : Nat) : Int) + off = (tgt : Int)) (kt : x = y → W p l e R s m args below meth c H locs cells slots Q (F0 m tgt ls rest)) (kf : ¬ x = y → W p l e R s m args below meth c H locs cells slots Q (F0 m (pc + 1 + 3) ls rest)) : W p l e R s m args below meth c H locs cells slots Q (F0 m pc ls (.long y :: .long x :: rest)) :=
  W.lcmp X.1 X.2.1 h1 (lv_if_eq X.1 X.2.1 h2 ht (fun h => kt ((lg_cmp_eq x y).mp h)) (fun h => kf (fun z => h ((lg_cmp_eq x y).mpr z))))
theorem lc_ne (X : CallFix p m c cc nL s args wsA own) (h1 : decode cc pc = .ok (.lcmp, 1)) (h2 : decode cc (pc + 1) = .ok (.ifCond .ne off, 3)) (ht : ((pc + 1 : Nat) : Int) + off = (tgt : Int)) (kt : ¬ x = y → W p l e R s m args below meth c H locs cells slots Q (F0 m tgt ls rest)) (kf : x = y → W p l e R s m args below meth c H locs cells slots Q (F0 m (pc + 1 + 3) ls rest)) : W p l e R s m args below meth c H locs cells slots Q (F0 m pc ls (.long y :: .long x :: rest)) :=
  W.lcmp X.1 X.2.1 h1 (lv_if_ne X.1 X.2.1 h2 ht (fun h => kt (fun z => h ((lg_cmp_eq x y).mpr z))) (fun h => kf ((lg_cmp_eq x y).mp h)))
/-- the ends of a method that only reads -/
theorem en_iR {post : Option Value → Prop} {v : Int32} (X : CallFix p m c cc nL s args wsA own) (hr : meth.sig.returnType = some .int) (hlocks : meth.locks = false) (hdg : decode cc pc = .ok (.ireturn, 1)) (hp : post (some (.int v))) : W p l e R s m args below meth c s.heap [] cells slots (MQ below (hm_R post) args s cells slots (fun _ => False)) (F0 m pc ls [.int v]) :=
  W.iret X.1 X.2.1 hr (fun t ht hW => ⟨_, rfl, hp, ht⟩) (fun q h => by cases h) hdg
theorem en_zR {post : Option Value → Prop} {v : Int32} (X : CallFix p m c cc nL s args wsA own) (hr : meth.sig.returnType = some .boolean) (hlocks : meth.locks = false) (hdg : decode cc pc = .ok (.ireturn, 1)) (hn : narrow .boolean (.int v) = .int v) (hp : post (some (.int v))) : W p l e R s m args below meth c s.heap [] cells slots (MQ below (hm_R post) args s cells slots (fun _ => False)) (F0 m pc ls [.int v]) :=
  W.zret X.1 X.2.1 hr hn (fun t ht hW => ⟨_, rfl, hp, ht⟩) (fun q h => by cases h) hdg
theorem en_lR {post : Option Value → Prop} {v : Int64} (X : CallFix p m c cc nL s args wsA own) (hr : meth.sig.returnType = some .long) (hlocks : meth.locks = false) (hdg : decode cc pc = .ok (.lreturn, 1)) (hp : post (some (.long v))) : W p l e R s m args below meth c s.heap [] cells slots (MQ below (hm_R post) args s cells slots (fun _ => False)) (F0 m pc ls [.long v]) :=
  W.lret X.1 X.2.1 hr (fun t ht hW => ⟨_, rfl, hp, ht⟩) (fun q h => by cases h) hdg
theorem en_aR {post : Option Value → Prop} {v : Value} {C : FieldType} (X : CallFix p m c cc nL s args wsA own) (hr : meth.sig.returnType = some C) (hC : (∃ n, C = .object n) ∨ ∃ t, C = .array t) (hlocks : meth.locks = false) (hdg : decode cc pc = .ok (.areturn, 1)) (hv : v = .null ∨ ∃ a, v = .ref a) (hp : post (some v)) : W p l e R s m args below meth c s.heap [] cells slots (MQ below (hm_R post) args s cells slots (fun _ => False)) (F0 m pc ls [v]) :=
  W.aret X.1 X.2.1 hr hC hv (fun t ht hW => ⟨_, rfl, hp, ht⟩) (fun q h => by cases h) hdg
/-- the ends of a method that writes -/
theorem en_iW {post : Option Value → hm_T → Prop} {v : Int32} (X : CallFix p m c cc nL s args wsA own) (hY : hm_Y D cls A s.heap w H locs) (hr : meth.sig.returnType = some .int) (hlocks : meth.locks = false) (hdg : decode cc pc = .ok (.ireturn, 1)) (hp : post (some (.int v)) w) : W p l e R s m args below meth c H locs cells slots (MQ below (hm_Q D cls A post) args s cells slots A) (F0 m pc ls [.int v]) :=
  W.iret X.1 X.2.1 hr (fun t ht hW => ⟨⟨_, w, rfl, hp, hY.end' ht⟩, hY.2.2.1.F ht⟩) hY.2.2.1.2.2 hdg
theorem en_zW {post : Option Value → hm_T → Prop} {v : Int32} (X : CallFix p m c cc nL s args wsA own) (hY : hm_Y D cls A s.heap w H locs) (hr : meth.sig.returnType = some .boolean) (hlocks : meth.locks = false) (hdg : decode cc pc = .ok (.ireturn, 1)) (hn : narrow .boolean (.int v) = .int v) (hp : post (some (.int v)) w) : W p l e R s m args below meth c H locs cells slots (MQ below (hm_Q D cls A post) args s cells slots A) (F0 m pc ls [.int v]) :=
  W.zret X.1 X.2.1 hr hn (fun t ht hW => ⟨⟨_, w, rfl, hp, hY.end' ht⟩, hY.2.2.1.F ht⟩) hY.2.2.1.2.2 hdg
theorem en_vW {post : Option Value → hm_T → Prop} (X : CallFix p m c cc nL s args wsA own) (hY : hm_Y D cls A s.heap w H locs) (hr : meth.sig.returnType = none) (hlocks : meth.locks = false) (hdg : decode cc pc = .ok (.return_, 1)) (hp : post none w) : W p l e R s m args below meth c H locs cells slots (MQ below (hm_Q D cls A post) args s cells slots A) (F0 m pc ls []) :=
  W.vret X.1 X.2.1 hr (fun t ht hW => ⟨⟨_, w, rfl, hp, hY.end' ht⟩, hY.2.2.1.F ht⟩) hY.2.2.1.2.2 hdg
theorem en_aW {post : Option Value → hm_T → Prop} {v : Value} {C : FieldType} (X : CallFix p m c cc nL s args wsA own) (hY : hm_Y D cls A s.heap w H locs) (hr : meth.sig.returnType = some C) (hC : (∃ n, C = .object n) ∨ ∃ t, C = .array t) (hlocks : meth.locks = false) (hdg : decode cc pc = .ok (.areturn, 1)) (hv : v = .null ∨ ∃ a, v = .ref a) (hp : post (some v) w) : W p l e R s m args below meth c H locs cells slots (MQ below (hm_Q D cls A post) args s cells slots A) (F0 m pc ls [v]) :=
  W.aret X.1 X.2.1 hr hC hv (fun t ht hW => ⟨⟨_, w, rfl, hp, hY.end' ht⟩, hY.2.2.1.F ht⟩) hY.2.2.1.2.2 hdg
end RW1
/-- a truth as Java's int -/
def b2 (P : Prop) [Decidable P] : Int32 := if P then 1 else 0
theorem b2_t {P : Prop} [Decidable P] (h : P) : b2 P = 1 := if_pos h
theorem b2_f {P : Prop} [Decidable P] (h : ¬ P) : b2 P = 0 := if_neg h
theorem b2_0 {P : Prop} [Decidable P] : b2 P = 0 ↔ ¬ P := by
  by_cases h : P <;> simp [b2, h]
theorem b2_n {P : Prop} [Decidable P] : narrow .boolean (.int (b2 P)) = .int (b2 P) := by
  by_cases h : P
  · rw [b2_t h]; rfl
  · rw [b2_f h]; rfl
end
section
set_option maxHeartbeats 4000000 in
set_option maxRecDepth 100000 in
/-- isWithin: lo ≤ x ≤ hi -/
theorem k_W_isWithin (l : Launch) (D : va_G) (A : Nat → Prop) (G : Nat → Nat) (w : hm_T) (x lo hi : Int64) : Met l y_W_isWithin (.code y_W_isWithin c_W_isWithin 6 (some .boolean) :: wsA) { frames := 0, cells := 0, slots := 0, locals := 0 } (va_Pc [.long x, .long lo, .long hi] (ctU D A G w)) (hm_R (fun v => v = some (.int (b2 (lo ≤ x ∧ x ≤ hi))))) 0 0 (fun _ => False) := by
  refine ct_met (by decide) (Nat.le_of_ble_eq_true rfl) ?_
  rintro p e s m below meth c ls X hr hlocks hnm hl ⟨hB, hK⟩
  have hl : lv_has ls 6 [(0, .long x), (2, .long lo), (4, .long hi)] := hl
  have hY : hm_Y D cls A s.heap w s.heap [] := hm_Y.start hB hK.2.2.2
  refine lv_lload_n X.1 X.2.1 d_W_isWithin_0 rfl (lv_at hl 0 rfl) ?_
  refine lv_lload_n X.1 X.2.1 d_W_isWithin_1 rfl (lv_at hl 1 rfl) ?_
  refine lc_lt (tgt := 17) X d_W_isWithin_2 d_W_isWithin_3 (by decide) (fun c1 => ?_) (fun c1 => ?_)
  · refine lv_iconst (v := 0) X.1 X.2.1 d_W_isWithin_17 (by decide) ?_
    exact en_zR X hr hlocks d_W_isWithin_18 rfl (by rw [b2_f (fun z => absurd z.1 (Int64.not_le.mpr c1))])
  · refine lv_lload_n X.1 X.2.1 d_W_isWithin_6 rfl (lv_at hl 0 rfl) ?_
    refine lv_lload X.1 X.2.1 d_W_isWithin_7 (lv_at hl 2 rfl) ?_
    refine lc_gt (tgt := 17) X d_W_isWithin_9 d_W_isWithin_10 (by decide) (fun c2 => ?_) (fun c2 => ?_)
    · refine lv_iconst (v := 0) X.1 X.2.1 d_W_isWithin_17 (by decide) ?_
      exact en_zR X hr hlocks d_W_isWithin_18 rfl (by rw [b2_f (fun z => absurd z.2 (Int64.not_le.mpr c2))])
    · refine lv_iconst (v := 1) X.1 X.2.1 d_W_isWithin_13 (by decide) ?_
      refine lv_goto (tgt := 18) X.1 X.2.1 d_W_isWithin_14 (by decide) ?_
      exact en_zR X hr hlocks d_W_isWithin_18 rfl (by rw [b2_t ⟨Int64.not_lt.mp c1, Int64.not_lt.mp c2⟩])

set_option maxHeartbeats 4000000 in
set_option maxRecDepth 100000 in
/-- checkIndex: the index is in its range -/
theorem k_PC_checkIndex (l : Launch) (D : va_G) (A : Nat → Prop) (G : Nat → Nat) (w : hm_T) (i n : Int32) (h0 : ¬ i < 0) (h1 : i < n) : Met l y_PC_checkIndex (.code y_PC_checkIndex c_PC_checkIndex 3 (some .int) :: wsA) { frames := 0, cells := 0, slots := 0, locals := 0 } (va_Pc [.int i, .int n, .null] (ctU D A G w)) (hm_R (fun v => v = some (.int i))) 0 0 (fun _ => False) := by
  refine ct_met (by decide) (Nat.le_of_ble_eq_true rfl) ?_
  rintro p e s m below meth c ls X hr hlocks hnm hl ⟨hB, hK⟩
  have hl : lv_has ls 3 [(0, .int i), (1, .int n), (2, .null)] := hl
  have hY : hm_Y D cls A s.heap w s.heap [] := hm_Y.start hB hK.2.2.2
  refine lv_iload_n X.1 X.2.1 d_PC_checkIndex_0 rfl (lv_at hl 0 rfl) ?_
  refine lv_if_lt (tgt := 9) X.1 X.2.1 d_PC_checkIndex_1 (by decide) (fun c1 => ?_) (fun c1 => ?_)
  · exact absurd c1 h0
  · refine lv_iload_n X.1 X.2.1 d_PC_checkIndex_4 rfl (lv_at hl 0 rfl) ?_
    refine lv_iload_n X.1 X.2.1 d_PC_checkIndex_5 rfl (lv_at hl 1 rfl) ?_
    refine lv_icmp_lt (tgt := 16) X.1 X.2.1 d_PC_checkIndex_6 (by decide) (fun c2 => ?_) (fun c2 => ?_)
    · refine lv_iload_n X.1 X.2.1 d_PC_checkIndex_16 rfl (lv_at hl 0 rfl) ?_
      exact en_iR X hr hlocks d_PC_checkIndex_17 (rfl)
    · exact absurd h1 c2

set_option maxHeartbeats 4000000 in
set_option maxRecDepth 100000 in
theorem k_OB_checkIndex (l : Launch) (D : va_G) (A : Nat → Prop) (G : Nat → Nat) (w : hm_T) (i n : Int32) (h0 : ¬ i < 0) (h1 : i < n) : Met l y_OB_checkIndex (.code y_OB_checkIndex c_OB_checkIndex 2 (some .int) :: wsA) { frames := 1, cells := 0, slots := 0, locals := 22 } (va_Pc [.int i, .int n] (ctU D A G w)) (hm_R (fun v => v = some (.int i))) 0 0 (fun _ => False) := by
  refine ct_met (by decide) (Nat.le_of_ble_eq_true rfl) ?_
  rintro p e s m below meth c ls X hr hlocks hnm hl ⟨hB, hK⟩
  have hl : lv_has ls 2 [(0, .int i), (1, .int n)] := hl
  have hY : hm_Y D cls A s.heap w s.heap [] := hm_Y.start hB hK.2.2.2
  refine lv_iload_n X.1 X.2.1 d_OB_checkIndex_0 rfl (lv_at hl 0 rfl) ?_
  refine lv_iload_n X.1 X.2.1 d_OB_checkIndex_1 rfl (lv_at hl 1 rfl) ?_
  refine lv_null X.1 X.2.1 d_OB_checkIndex_2 ?_
  refine hm_callR (ct_runS (n := 3) X hK hY (k_PC_checkIndex l D A G w i n h0 h1) m_129 m_127 m_128 m_17 (by decide +kernel) ⟨Nat.le_of_ble_eq_true rfl, Nat.le_of_ble_eq_true rfl⟩ ⟨rfl, rfl⟩ rfl hl.1 rfl (Nat.le_of_ble_eq_true rfl) d_OB_checkIndex_3 ⟨Nat.le_of_ble_eq_true rfl, Nat.le_of_ble_eq_true rfl⟩) (fun v hv => ?_)
  subst hv
  refine W.eq (g2 := F0 m 6 ls [.int i]) rfl ?_
  exact en_iR X hr hlocks d_OB_checkIndex_6 (rfl)

set_option maxHeartbeats 4000000 in
set_option maxRecDepth 100000 in
theorem k_A_size (l : Launch) (D : va_G) (A : Nat → Prop) (G : Nat → Nat) (w : hm_T) (n : hm_N) (a : Nat) (er : Value) (cnt mo : Int32) (hn : w n = some (a, .inr (4, [er, .int cnt, .int mo]))) : Met l y_A_size (.code y_A_size c_A_size 1 (some .int) :: wsA) { frames := 0, cells := 0, slots := 0, locals := 0 } (va_Pc [.ref a] (ctU D A G w)) (hm_R (fun v => v = some (.int cnt))) 0 0 (fun _ => False) := by
  refine ct_met (by decide) (Nat.le_of_ble_eq_true rfl) ?_
  rintro p e s m below meth c ls X hr hlocks hnm hl ⟨hB, hK⟩
  have hl : lv_has ls 1 [(0, .ref a)] := hl
  have hY : hm_Y D cls A s.heap w s.heap [] := hm_Y.start hB hK.2.2.2
  refine lv_aload_n X.1 X.2.1 d_A_size_0 rfl (lv_at hl 0 rfl) ?_
  refine hm_get ⟨X, hK.1⟩ hY hn 1 (v := .int cnt) rfl rfl (Nat.le_of_ble_eq_true rfl) hu_A m_42 (fun _ h => h) d_A_size_1 ?_
  exact en_iR X hr hlocks d_A_size_4 (rfl)

set_option maxHeartbeats 4000000 in
set_option maxRecDepth 100000 in
theorem k_A_elementData (l : Launch) (D : va_G) (A : Nat → Prop) (G : Nat → Nat) (w : hm_T) (n nb : hm_N) (a b : Nat) (cnt mo : Int32) (N : Nat) (f : Nat → Option Nat) (hn : w n = some (a, .inr (4, [.ref b, .int cnt, .int mo]))) (hb : w nb = some (b, .inl (G 4, N, .inr (.inr (.inr (.inr f)))))) (i : Int32) (hin : vp_in i N) : Met l y_A_elementData (.code y_A_elementData c_A_elementData 2 (some (.object "java/lang/Object")) :: wsA) { frames := 0, cells := 0, slots := 0, locals := 0 } (va_Pc [.ref a, .int i] (ctU D A G w)) (hm_R (fun v => v = some (va_rf (f i.toNatClampNeg)))) 0 0 (fun _ => False) := by
  refine ct_met (by decide) (Nat.le_of_ble_eq_true rfl) ?_
  rintro p e s m below meth c ls X hr hlocks hnm hl ⟨hB, hK⟩
  have hl : lv_has ls 2 [(0, .ref a), (1, .int i)] := hl
  have hY : hm_Y D cls A s.heap w s.heap [] := hm_Y.start hB hK.2.2.2
  refine lv_aload_n X.1 X.2.1 d_A_elementData_0 rfl (lv_at hl 0 rfl) ?_
  refine hm_get ⟨X, hK.1⟩ hY hn 0 (v := .ref b) rfl rfl (Nat.le_of_ble_eq_true rfl) hu_A m_41 (fun _ h => h) d_A_elementData_1 ?_
  refine lv_iload_n X.1 X.2.1 d_A_elementData_4 rfl (lv_at hl 1 rfl) ?_
  refine hm_aald ⟨X, hK.1⟩ hY hb 3 rfl hin d_A_elementData_5 ?_
  exact en_aR X hr (by first | exact Or.inl ⟨_, rfl⟩ | exact Or.inr ⟨_, rfl⟩) hlocks d_A_elementData_6 (va_rf_or _) (rfl)

set_option maxHeartbeats 4000000 in
set_option maxRecDepth 100000 in
theorem k_A_get (l : Launch) (D : va_G) (A : Nat → Prop) (G : Nat → Nat) (w : hm_T) (n nb : hm_N) (a b : Nat) (cnt mo : Int32) (N : Nat) (f : Nat → Option Nat) (hn : w n = some (a, .inr (4, [.ref b, .int cnt, .int mo]))) (hb : w nb = some (b, .inl (G 4, N, .inr (.inr (.inr (.inr f)))))) (i : Int32) (hin : vp_in i N) (h0 : ¬ i < 0) (h1 : i < cnt) : Met l y_A_get (.code y_A_get c_A_get 2 (some (.object "java/lang/Object")) :: wsA) { frames := 2, cells := 0, slots := 0, locals := 43 } (va_Pc [.ref a, .int i] (ctU D A G w)) (hm_R (fun v => v = some (va_rf (f i.toNatClampNeg)))) 0 0 (fun _ => False) := by
  refine ct_met (by decide) (Nat.le_of_ble_eq_true rfl) ?_
  rintro p e s m below meth c ls X hr hlocks hnm hl ⟨hB, hK⟩
  have hl : lv_has ls 2 [(0, .ref a), (1, .int i)] := hl
  have hY : hm_Y D cls A s.heap w s.heap [] := hm_Y.start hB hK.2.2.2
  refine lv_iload_n X.1 X.2.1 d_A_get_0 rfl (lv_at hl 1 rfl) ?_
  refine lv_aload_n X.1 X.2.1 d_A_get_1 rfl (lv_at hl 0 rfl) ?_
  refine hm_get ⟨X, hK.1⟩ hY hn 1 (v := .int cnt) rfl rfl (Nat.le_of_ble_eq_true rfl) hu_A m_42 (fun _ h => h) d_A_get_2 ?_
  refine hm_callR (ct_runS (n := 2) X hK hY (k_OB_checkIndex l D A G w i cnt h0 h1) m_126 m_124 m_125 m_16 (by decide +kernel) ⟨Nat.le_of_ble_eq_true rfl, Nat.le_of_ble_eq_true rfl⟩ ⟨rfl, rfl⟩ rfl hl.1 rfl (Nat.le_of_ble_eq_true rfl) d_A_get_5 ⟨Nat.le_of_ble_eq_true rfl, Nat.le_of_ble_eq_true rfl⟩) (fun v hv => ?_)
  subst hv
  refine W.eq (g2 := F0 m 8 ls [.int i]) rfl ?_
  refine lv_pop X.1 X.2.1 d_A_get_8 rfl ?_
  refine lv_aload_n X.1 X.2.1 d_A_get_9 rfl (lv_at hl 0 rfl) ?_
  refine lv_iload_n X.1 X.2.1 d_A_get_10 rfl (lv_at hl 1 rfl) ?_
  refine hm_callR (ct_runV (n := 1) X hK hY (k_A_elementData l D A G w n nb a b cnt mo N f hn hb i hin) m_133 m_130 m_131 m_132 m_4 (by decide +kernel) ⟨Nat.le_of_ble_eq_true rfl, Nat.le_of_ble_eq_true rfl⟩ ⟨rfl, rfl⟩ (hm_recv ⟨X, hK.1⟩ hY hn rfl) rfl hl.1 rfl (Nat.le_of_ble_eq_true rfl) d_A_get_11 ⟨Nat.le_of_ble_eq_true rfl, Nat.le_of_ble_eq_true rfl⟩) (fun v hv => ?_)
  subst hv
  refine W.eq (g2 := F0 m 14 ls [va_rf (f i.toNatClampNeg)]) rfl ?_
  exact en_aR X hr (by first | exact Or.inl ⟨_, rfl⟩ | exact Or.inr ⟨_, rfl⟩) hlocks d_A_get_14 (va_rf_or _) (rfl)


theorem rfs_at {n i : Nat} {f : Nat → Nat} (h : i < n) (hn : n < 2 ^ 31) : va_rf (rfs n f (nI i).toNatClampNeg) = .ref (f i) := by
  rw [nI_clamp (by omega)]
  simp [rfs, h, va_rf]
theorem fA_p {G : Nat → Nat} {n a : Nat} {v : Int32} (h : n ≠ 0) : fA G n a v = [.ref a, .int (nI n), .int v] := by simp [fA, h]
theorem cap_le {n : Nat} (h : n ≤ 20) : n ≤ cap n ∧ cap n ≤ 22 := by
  unfold cap
  split
  · omega
  · split <;> omega
/-- parts.get(i) -/
theorem k_get1 (l : Launch) (D : va_G) (A : Nat → Prop) (G : Nat → Nat) (S : cS) (ω : hm_T) (i : Nat) (hi : i < S.C 0 0) (h20 : S.C 0 0 ≤ 20) : Met l y_A_get (.code y_A_get c_A_get 2 (some (.object "java/lang/Object")) :: wsA) { frames := 2, cells := 0, slots := 0, locals := 43 } (va_Pc [.ref (S.ad 1 0 0), .int (nI i)] (ctU D A G (wS G S ω))) (hm_R (fun v => v = some (.ref (S.ad 4 i 0)))) 0 0 (fun _ => False) := by
  have hc := cap_le h20
  have k := k_A_get l D A G (wS G S ω) (1, 0, 0) (2, 0, 0) (S.ad 1 0 0) (S.ad 2 0 0) (nI (S.C 0 0)) (S.I 6 0 0) (cap (S.C 0 0)) _ (by rw [w1, fA_p (by omega)]) (w2 (by omega)) (nI i) (vp_in_nI (by omega) (by omega)) (nI_pos (by omega)) (nI_lt hi (by omega))
  rw [rfs_at hi (by omega)] at k
  exact k
/-- deadlines.get(j) of the part i -/
theorem k_get6 (l : Launch) (D : va_G) (A : Nat → Prop) (G : Nat → Nat) (S : cS) (ω : hm_T) (i j : Nat) (hi : i < S.C 0 0) (hj : j < S.C 1 i) (h10 : S.C 1 i ≤ 10) : Met l y_A_get (.code y_A_get c_A_get 2 (some (.object "java/lang/Object")) :: wsA) { frames := 2, cells := 0, slots := 0, locals := 43 } (va_Pc [.ref (S.ad 6 i 0), .int (nI j)] (ctU D A G (wS G S ω))) (hm_R (fun v => v = some (.ref (S.ad 8 i j)))) 0 0 (fun _ => False) := by
  have k := k_A_get l D A G (wS G S ω) (6, i, 0) (7, i, 0) (S.ad 6 i 0) (S.ad 7 i 0) (nI (S.C 1 i)) (S.I 19 i 0) 10 _ (by rw [w6 hi, fA_p (by omega)]) (w7 hi (by omega)) (nI j) (vp_in_nI (by omega) (by omega)) (nI_pos (by omega)) (nI_lt hj (by omega))
  rw [rfs_at hj (by omega)] at k
  exact k
theorem k_size1 (l : Launch) (D : va_G) (A : Nat → Prop) (G : Nat → Nat) (S : cS) (ω : hm_T) : Met l y_A_size (.code y_A_size c_A_size 1 (some .int) :: wsA) { frames := 0, cells := 0, slots := 0, locals := 0 } (va_Pc [.ref (S.ad 1 0 0)] (ctU D A G (wS G S ω))) (hm_R (fun v => v = some (.int (nI (S.C 0 0))))) 0 0 (fun _ => False) :=
  k_A_size l D A G (wS G S ω) (1, 0, 0) (S.ad 1 0 0) _ _ _ w1
theorem k_size6 (l : Launch) (D : va_G) (A : Nat → Prop) (G : Nat → Nat) (S : cS) (ω : hm_T) (i : Nat) (hi : i < S.C 0 0) : Met l y_A_size (.code y_A_size c_A_size 1 (some .int) :: wsA) { frames := 0, cells := 0, slots := 0, locals := 0 } (va_Pc [.ref (S.ad 6 i 0)] (ctU D A G (wS G S ω))) (hm_R (fun v => v = some (.int (nI (S.C 1 i))))) 0 0 (fun _ => False) :=
  k_A_size l D A G (wS G S ω) (6, i, 0) (S.ad 6 i 0) _ _ _ (w6 hi)

set_option maxHeartbeats 4000000 in
set_option maxRecDepth 100000 in
theorem k_W_isPoint (l : Launch) (D : va_G) (A : Nat → Prop) (G : Nat → Nat) (w : hm_T) (x : Int32) : Met l y_W_isPoint (.code y_W_isPoint c_W_isPoint 1 (some .boolean) :: wsA) { frames := 1, cells := 0, slots := 0, locals := 25 } (va_Pc [.int x] (ctU D A G w)) (hm_R (fun v => v = some (.int (b2 (1 ≤ x.toInt64 ∧ x.toInt64 ≤ 30))))) 0 0 (fun _ => False) := by
  refine ct_met (by decide) (Nat.le_of_ble_eq_true rfl) ?_
  rintro p e s m below meth c ls X hr hlocks hnm hl ⟨hB, hK⟩
  have hl : lv_has ls 1 [(0, .int x)] := hl
  have hY : hm_Y D cls A s.heap w s.heap [] := hm_Y.start hB hK.2.2.2
  refine lv_iload_n X.1 X.2.1 d_W_isPoint_0 rfl (lv_at hl 0 rfl) ?_
  refine lv_i2l (v := x.toInt64) X.1 X.2.1 d_W_isPoint_1 rfl ?_
  refine lv_lconst (v := 1) X.1 X.2.1 d_W_isPoint_2 (by decide) ?_
  refine lv_ldc2 X.1 X.2.1 X.2.2.2.1 (X.2.2.2.2 _ m_138) d_W_isPoint_3 ?_
  refine hm_callR (ct_runS (n := 3) X hK hY (k_W_isWithin l D A G w x.toInt64 1 30) m_119 m_117 m_118 m_1 (by decide +kernel) ⟨Nat.le_of_ble_eq_true rfl, Nat.le_of_ble_eq_true rfl⟩ ⟨rfl, rfl⟩ rfl hl.1 rfl (Nat.le_of_ble_eq_true rfl) d_W_isPoint_6 ⟨Nat.le_of_ble_eq_true rfl, Nat.le_of_ble_eq_true rfl⟩) (fun v hv => ?_)
  subst hv
  refine W.eq (g2 := F0 m 9 ls [.int (b2 (1 ≤ x.toInt64 ∧ x.toInt64 ≤ 30))]) rfl ?_
  exact en_zR X hr hlocks d_W_isPoint_9 b2_n (rfl)

set_option maxHeartbeats 4000000 in
set_option maxRecDepth 100000 in
theorem k_W_isTime (l : Launch) (D : va_G) (A : Nat → Prop) (G : Nat → Nat) (S : cS) (ω : hm_T) (t : Int64) : Met l y_W_isTime (.code y_W_isTime c_W_isTime 3 (some .boolean) :: wsA) { frames := 1, cells := 0, slots := 0, locals := 25 } (va_Pc [.ref (S.ad 0 0 0), .long t] (ctU D A G (wS G S ω))) (hm_R (fun v => v = some (.int (b2 (S.J 0 0 0 ≤ t ∧ t ≤ 1152921504606846976))))) 0 0 (fun _ => False) := by
  refine ct_met (by decide) (Nat.le_of_ble_eq_true rfl) ?_
  rintro p e s m below meth c ls X hr hlocks hnm hl ⟨hB, hK⟩
  have hl : lv_has ls 3 [(0, .ref (S.ad 0 0 0)), (1, .long t)] := hl
  have hY : hm_Y D cls A s.heap (wS G S ω) s.heap [] := hm_Y.start hB hK.2.2.2
  refine lv_lload_n X.1 X.2.1 d_W_isTime_0 rfl (lv_at hl 1 rfl) ?_
  refine lv_aload_n X.1 X.2.1 d_W_isTime_1 rfl (lv_at hl 0 rfl) ?_
  refine hm_get ⟨X, hK.1⟩ hY w0 4 (v := .long (S.J 0 0 0)) rfl rfl (Nat.le_of_ble_eq_true rfl) hu_W m_78 (fun _ h => h) d_W_isTime_2 ?_
  refine lv_ldc2 X.1 X.2.1 X.2.2.2.1 (X.2.2.2.2 _ m_253) d_W_isTime_5 ?_
  refine hm_callR (ct_runS (n := 3) X hK hY (k_W_isWithin l D A G (wS G S ω) t (S.J 0 0 0) 1152921504606846976) m_119 m_117 m_118 m_1 (by decide +kernel) ⟨Nat.le_of_ble_eq_true rfl, Nat.le_of_ble_eq_true rfl⟩ ⟨rfl, rfl⟩ rfl hl.1 rfl (Nat.le_of_ble_eq_true rfl) d_W_isTime_8 ⟨Nat.le_of_ble_eq_true rfl, Nat.le_of_ble_eq_true rfl⟩) (fun v hv => ?_)
  subst hv
  refine W.eq (g2 := F0 m 11 ls [.int (b2 (S.J 0 0 0 ≤ t ∧ t ≤ 1152921504606846976))]) rfl ?_
  exact en_zR X hr hlocks d_W_isTime_11 b2_n (rfl)
end
section
theorem i64_1 : (1 : Int64).toInt = 1 := by decide
/-- a part's number -/
theorem pn_iff {x : Int32} {n : Nat} (hn : n < 2 ^ 31) : (1 ≤ x.toInt64 ∧ x.toInt64 ≤ (nI n).toInt64) ↔ ∃ i, i < n ∧ x = nI (i + 1) := by
  constructor
  · intro ⟨h1, h2⟩
    have h1 := Int64.le_iff_toInt_le.mp h1
    have h2 := Int64.le_iff_toInt_le.mp h2
    rw [Int32.toInt_toInt64] at h1 h2
    rw [i64_1] at h1
    rw [Int32.toInt_toInt64, nI_toInt hn] at h2
    refine ⟨x.toInt.toNat - 1, by omega, ?_⟩
    apply Int32.toInt_inj.mp
    rw [nI_toInt (by omega)]
    omega
  · rintro ⟨i, hi, rfl⟩
    constructor
    · apply Int64.le_iff_toInt_le.mpr
      rw [Int32.toInt_toInt64, nI_toInt (by omega), i64_1]
      omega
    · apply Int64.le_iff_toInt_le.mpr
      rw [Int32.toInt_toInt64, Int32.toInt_toInt64, nI_toInt (by omega), nI_toInt hn]
      omega
theorem nI_sub1 (i : Nat) : nI (i + 1) - 1 = nI i := nI_pred i
def wst (S : cS) : Nat → Int32
  | 0 => 0
  | i + 1 => if wst S i < S.I 13 i 0 then S.I 13 i 0 else wst S i

set_option maxHeartbeats 4000000 in
set_option maxRecDepth 100000 in
theorem k_findPart (l : Launch) (D : va_G) (A : Nat → Prop) (G : Nat → Nat) (S : cS) (ω : hm_T) (i : Nat) (hi : i < S.C 0 0) (h20 : S.C 0 0 ≤ 20) : Met l y_W_findPart (.code y_W_findPart c_W_findPart 2 (some (.object "WatchRows2$Part")) :: wsA) { frames := 3, cells := 0, slots := 0, locals := 64 } (va_Pc [.ref (S.ad 0 0 0), .int (nI (i + 1))] (ctU D A G (wS G S ω))) (hm_R (fun v => v = some (.ref (S.ad 4 i 0)))) 0 0 (fun _ => False) := by
  refine ct_met (by decide) (Nat.le_of_ble_eq_true rfl) ?_
  rintro p e s m below meth c ls X hr hlocks hnm hl ⟨hB, hK⟩
  have hl : lv_has ls 2 [(0, .ref (S.ad 0 0 0)), (1, .int (nI (i + 1)))] := hl
  have hY : hm_Y D cls A s.heap (wS G S ω) s.heap [] := hm_Y.start hB hK.2.2.2
  refine lv_iload_n X.1 X.2.1 d_W_findPart_0 rfl (lv_at hl 1 rfl) ?_
  refine lv_i2l (v := (nI (i + 1)).toInt64) X.1 X.2.1 d_W_findPart_1 rfl ?_
  refine lv_lconst (v := 1) X.1 X.2.1 d_W_findPart_2 (by decide) ?_
  refine lv_aload_n X.1 X.2.1 d_W_findPart_3 rfl (lv_at hl 0 rfl) ?_
  refine hm_get ⟨X, hK.1⟩ hY w0 0 (v := .ref (S.ad 1 0 0)) rfl rfl (Nat.le_of_ble_eq_true rfl) hu_W m_74 (fun _ h => h) d_W_findPart_4 ?_
  refine hm_callR (ct_runV (n := 0) X hK hY (k_size1 l D A G S ω) m_116 m_113 m_114 m_115 m_4 (by decide +kernel) ⟨Nat.le_of_ble_eq_true rfl, Nat.le_of_ble_eq_true rfl⟩ ⟨rfl, rfl⟩ (hm_recv ⟨X, hK.1⟩ hY w1 rfl) rfl hl.1 rfl (Nat.le_of_ble_eq_true rfl) d_W_findPart_7 ⟨Nat.le_of_ble_eq_true rfl, Nat.le_of_ble_eq_true rfl⟩) (fun v hv => ?_)
  subst hv
  refine W.eq (g2 := F0 m 10 ls [.int (nI (S.C 0 0)), .long 1, .long ((nI (i + 1)).toInt64)]) rfl ?_
  refine lv_i2l (v := (nI (S.C 0 0)).toInt64) X.1 X.2.1 d_W_findPart_10 rfl ?_
  refine hm_callR (ct_runS (n := 3) X hK hY (k_W_isWithin l D A G (wS G S ω) (nI (i + 1)).toInt64 1 (nI (S.C 0 0)).toInt64) m_119 m_117 m_118 m_1 (by decide +kernel) ⟨Nat.le_of_ble_eq_true rfl, Nat.le_of_ble_eq_true rfl⟩ ⟨rfl, rfl⟩ rfl hl.1 rfl (Nat.le_of_ble_eq_true rfl) d_W_findPart_11 ⟨Nat.le_of_ble_eq_true rfl, Nat.le_of_ble_eq_true rfl⟩) (fun v hv => ?_)
  subst hv
  refine W.eq (g2 := F0 m 14 ls [.int (b2 (1 ≤ (nI (i + 1)).toInt64 ∧ (nI (i + 1)).toInt64 ≤ (nI (S.C 0 0)).toInt64))]) rfl ?_
  refine lv_if_eq (tgt := 33) X.1 X.2.1 d_W_findPart_14 (by decide) (fun c1 => ?_) (fun c1 => ?_)
  · have c1 : ¬ (1 ≤ (nI (i + 1)).toInt64 ∧ (nI (i + 1)).toInt64 ≤ (nI (S.C 0 0)).toInt64) := b2_0.mp c1
    exact absurd ((pn_iff (by omega)).mpr ⟨i, hi, rfl⟩) c1
  · have c1 : (1 ≤ (nI (i + 1)).toInt64 ∧ (nI (i + 1)).toInt64 ≤ (nI (S.C 0 0)).toInt64) := Classical.byContradiction (fun z => c1 (b2_0.mpr z))
    refine lv_aload_n X.1 X.2.1 d_W_findPart_17 rfl (lv_at hl 0 rfl) ?_
    refine hm_get ⟨X, hK.1⟩ hY w0 0 (v := .ref (S.ad 1 0 0)) rfl rfl (Nat.le_of_ble_eq_true rfl) hu_W m_74 (fun _ h => h) d_W_findPart_18 ?_
    refine lv_iload_n X.1 X.2.1 d_W_findPart_21 rfl (lv_at hl 1 rfl) ?_
    refine lv_iconst (v := 1) X.1 X.2.1 d_W_findPart_22 (by decide) ?_
    refine lv_isub X.1 X.2.1 d_W_findPart_23 ?_
    rw [nI_sub1]
    refine hm_callR (ct_runV (n := 1) X hK hY (k_get1 l D A G S ω i hi h20) m_123 m_120 m_121 m_122 m_4 (by decide +kernel) ⟨Nat.le_of_ble_eq_true rfl, Nat.le_of_ble_eq_true rfl⟩ ⟨rfl, rfl⟩ (hm_recv ⟨X, hK.1⟩ hY w1 rfl) rfl hl.1 rfl (Nat.le_of_ble_eq_true rfl) d_W_findPart_24 ⟨Nat.le_of_ble_eq_true rfl, Nat.le_of_ble_eq_true rfl⟩) (fun v hv => ?_)
    subst hv
    refine W.eq (g2 := F0 m 27 ls [.ref (S.ad 4 i 0)]) rfl ?_
    refine va_castY X.1 X.2.1 X.2.2.2.1 (X.2.2.2.2 _ m_134) hK.2.1.2.2.1 (hm_recv ⟨X, hK.1⟩ hY (w4 hi) rfl) d_W_findPart_27 ?_
    refine lv_goto (tgt := 34) X.1 X.2.1 d_W_findPart_30 (by decide) ?_
    exact en_aR X hr (by first | exact Or.inl ⟨_, rfl⟩ | exact Or.inr ⟨_, rfl⟩) hlocks d_W_findPart_34 (Or.inr ⟨_, rfl⟩) (rfl)

set_option maxHeartbeats 4000000 in
set_option maxRecDepth 100000 in
theorem k_findPart_no (l : Launch) (D : va_G) (A : Nat → Prop) (G : Nat → Nat) (S : cS) (ω : hm_T) (x : Int32) (hx : ¬ ∃ i, i < S.C 0 0 ∧ x = nI (i + 1)) (h20 : S.C 0 0 ≤ 20) : Met l y_W_findPart (.code y_W_findPart c_W_findPart 2 (some (.object "WatchRows2$Part")) :: wsA) { frames := 3, cells := 0, slots := 0, locals := 64 } (va_Pc [.ref (S.ad 0 0 0), .int x] (ctU D A G (wS G S ω))) (hm_R (fun v => v = some .null)) 0 0 (fun _ => False) := by
  refine ct_met (by decide) (Nat.le_of_ble_eq_true rfl) ?_
  rintro p e s m below meth c ls X hr hlocks hnm hl ⟨hB, hK⟩
  have hl : lv_has ls 2 [(0, .ref (S.ad 0 0 0)), (1, .int x)] := hl
  have hY : hm_Y D cls A s.heap (wS G S ω) s.heap [] := hm_Y.start hB hK.2.2.2
  refine lv_iload_n X.1 X.2.1 d_W_findPart_0 rfl (lv_at hl 1 rfl) ?_
  refine lv_i2l (v := x.toInt64) X.1 X.2.1 d_W_findPart_1 rfl ?_
  refine lv_lconst (v := 1) X.1 X.2.1 d_W_findPart_2 (by decide) ?_
  refine lv_aload_n X.1 X.2.1 d_W_findPart_3 rfl (lv_at hl 0 rfl) ?_
  refine hm_get ⟨X, hK.1⟩ hY w0 0 (v := .ref (S.ad 1 0 0)) rfl rfl (Nat.le_of_ble_eq_true rfl) hu_W m_74 (fun _ h => h) d_W_findPart_4 ?_
  refine hm_callR (ct_runV (n := 0) X hK hY (k_size1 l D A G S ω) m_116 m_113 m_114 m_115 m_4 (by decide +kernel) ⟨Nat.le_of_ble_eq_true rfl, Nat.le_of_ble_eq_true rfl⟩ ⟨rfl, rfl⟩ (hm_recv ⟨X, hK.1⟩ hY w1 rfl) rfl hl.1 rfl (Nat.le_of_ble_eq_true rfl) d_W_findPart_7 ⟨Nat.le_of_ble_eq_true rfl, Nat.le_of_ble_eq_true rfl⟩) (fun v hv => ?_)
  subst hv
  refine W.eq (g2 := F0 m 10 ls [.int (nI (S.C 0 0)), .long 1, .long x.toInt64]) rfl ?_
  refine lv_i2l (v := (nI (S.C 0 0)).toInt64) X.1 X.2.1 d_W_findPart_10 rfl ?_
  refine hm_callR (ct_runS (n := 3) X hK hY (k_W_isWithin l D A G (wS G S ω) x.toInt64 1 (nI (S.C 0 0)).toInt64) m_119 m_117 m_118 m_1 (by decide +kernel) ⟨Nat.le_of_ble_eq_true rfl, Nat.le_of_ble_eq_true rfl⟩ ⟨rfl, rfl⟩ rfl hl.1 rfl (Nat.le_of_ble_eq_true rfl) d_W_findPart_11 ⟨Nat.le_of_ble_eq_true rfl, Nat.le_of_ble_eq_true rfl⟩) (fun v hv => ?_)
  subst hv
  refine W.eq (g2 := F0 m 14 ls [.int (b2 (1 ≤ x.toInt64 ∧ x.toInt64 ≤ (nI (S.C 0 0)).toInt64))]) rfl ?_
  refine lv_if_eq (tgt := 33) X.1 X.2.1 d_W_findPart_14 (by decide) (fun c1 => ?_) (fun c1 => ?_)
  · have c1 : ¬ (1 ≤ x.toInt64 ∧ x.toInt64 ≤ (nI (S.C 0 0)).toInt64) := b2_0.mp c1
    refine lv_null X.1 X.2.1 d_W_findPart_33 ?_
    exact en_aR X hr (by first | exact Or.inl ⟨_, rfl⟩ | exact Or.inr ⟨_, rfl⟩) hlocks d_W_findPart_34 (Or.inl rfl) (rfl)
  · have c1 : (1 ≤ x.toInt64 ∧ x.toInt64 ≤ (nI (S.C 0 0)).toInt64) := Classical.byContradiction (fun z => c1 (b2_0.mpr z))
    exact absurd ((pn_iff (by omega)).mp c1) hx

set_option maxHeartbeats 4000000 in
set_option maxRecDepth 100000 in
/-- the worst of the states -/
theorem k_W_worstCondition (l : Launch) (D : va_G) (A : Nat → Prop) (G : Nat → Nat) (S : cS) (ω : hm_T) (h20 : S.C 0 0 ≤ 20) : Met l y_W_worstCondition (.code y_W_worstCondition c_W_worstCondition 3 (some .int) :: wsA) { frames := 3, cells := 0, slots := 0, locals := 64 } (va_Pc [.ref (S.ad 0 0 0)] (ctU D A G (wS G S ω))) (hm_R (fun v => v = some (.int (wst S (S.C 0 0))))) 0 0 (fun _ => False) := by
  refine ct_met (by decide) (Nat.le_of_ble_eq_true rfl) ?_
  rintro p e s m below meth c ls X hr hlocks hnm hl ⟨hB, hK⟩
  have hl : lv_has ls 3 [(0, .ref (S.ad 0 0 0))] := hl
  have hY : hm_Y D cls A s.heap (wS G S ω) s.heap [] := hm_Y.start hB hK.2.2.2
  refine lv_iconst (v := 0) X.1 X.2.1 d_W_worstCondition_0 (by decide) ?_
  refine lv_istore_n (lv' := [(1, .int 0), (0, .ref (S.ad 0 0 0))]) X.1 X.2.1 d_W_worstCondition_1 rfl hl (by decide) rfl (fun ls hl => ?_)
  refine lv_iconst (v := 0) X.1 X.2.1 d_W_worstCondition_2 (by decide) ?_
  refine lv_istore_n (lv' := [(2, .int 0), (1, .int 0), (0, .ref (S.ad 0 0 0))]) X.1 X.2.1 d_W_worstCondition_3 rfl hl (by decide) rfl (fun ls hl => ?_)
  have loop : ∀ (k i : Nat) (ls : Array Slot) , i ≤ S.C 0 0 → S.C 0 0 < i + k → lv_has ls 3 [(2, .int (nI i)), (1, .int (wst S i)), (0, .ref (S.ad 0 0 0))] → W p l e { frames := 3, cells := 0, slots := 0, locals := 64 } s m (([.ref (S.ad 0 0 0)] : List Value).toArray) below meth c s.heap [] 0 0 (MQ below (hm_R (fun v => v = some (.int (wst S (S.C 0 0))))) (([.ref (S.ad 0 0 0)] : List Value).toArray) s 0 0 (fun _ => False)) (F0 m 4 ls []) := by
    intro k
    induction k with
    | zero => intro i ls hle hlt; omega
    | succ k ih =>
      intro i ls hle hlt hl
      refine lv_iload_n X.1 X.2.1 d_W_worstCondition_4 rfl (lv_at hl 0 rfl) ?_
      refine lv_aload_n X.1 X.2.1 d_W_worstCondition_5 rfl (lv_at hl 2 rfl) ?_
      refine hm_get ⟨X, hK.1⟩ hY w0 0 (v := .ref (S.ad 1 0 0)) rfl rfl (Nat.le_of_ble_eq_true rfl) hu_W m_74 (fun _ h => h) d_W_worstCondition_6 ?_
      refine hm_callR (ct_runV (n := 0) X hK hY (k_size1 l D A G S ω) m_116 m_113 m_114 m_115 m_4 (by decide +kernel) ⟨Nat.le_of_ble_eq_true rfl, Nat.le_of_ble_eq_true rfl⟩ ⟨rfl, rfl⟩ (hm_recv ⟨X, hK.1⟩ hY w1 rfl) rfl hl.1 rfl (Nat.le_of_ble_eq_true rfl) d_W_worstCondition_9 ⟨Nat.le_of_ble_eq_true rfl, Nat.le_of_ble_eq_true rfl⟩) (fun v hv => ?_)
      subst hv
      refine W.eq (g2 := F0 m 12 ls [.int (nI (S.C 0 0)), .int (nI i)]) rfl ?_
      refine lv_icmp_ge (tgt := 40) X.1 X.2.1 d_W_worstCondition_12 (by decide) (fun c1 => ?_) (fun c1 => ?_)
      · have hi : i = S.C 0 0 := by rcases Nat.lt_or_ge i (S.C 0 0) with q | q; exact absurd c1 (nI_ge q (by omega)); omega
        subst hi
        refine lv_iload_n X.1 X.2.1 d_W_worstCondition_40 rfl (lv_at hl 1 rfl) ?_
        exact en_iR X hr hlocks d_W_worstCondition_41 (rfl)
      · have hi : i < S.C 0 0 := by rcases Nat.lt_or_ge i (S.C 0 0) with q | q; exact q; exact absurd (nI_le q (by omega)) c1
        refine lv_iload_n X.1 X.2.1 d_W_worstCondition_15 rfl (lv_at hl 1 rfl) ?_
        refine lv_aload_n X.1 X.2.1 d_W_worstCondition_16 rfl (lv_at hl 2 rfl) ?_
        refine hm_get ⟨X, hK.1⟩ hY w0 0 (v := .ref (S.ad 1 0 0)) rfl rfl (Nat.le_of_ble_eq_true rfl) hu_W m_74 (fun _ h => h) d_W_worstCondition_17 ?_
        refine lv_iload_n X.1 X.2.1 d_W_worstCondition_20 rfl (lv_at hl 0 rfl) ?_
        refine hm_callR (ct_runV (n := 1) X hK hY (k_get1 l D A G S ω i hi h20) m_123 m_120 m_121 m_122 m_4 (by decide +kernel) ⟨Nat.le_of_ble_eq_true rfl, Nat.le_of_ble_eq_true rfl⟩ ⟨rfl, rfl⟩ (hm_recv ⟨X, hK.1⟩ hY w1 rfl) rfl hl.1 rfl (Nat.le_of_ble_eq_true rfl) d_W_worstCondition_21 ⟨Nat.le_of_ble_eq_true rfl, Nat.le_of_ble_eq_true rfl⟩) (fun v hv => ?_)
        subst hv
        refine W.eq (g2 := F0 m 24 ls [.ref (S.ad 4 i 0), .int (wst S i)]) rfl ?_
        refine va_castY X.1 X.2.1 X.2.2.2.1 (X.2.2.2.2 _ m_134) hK.2.1.2.2.1 (hm_recv ⟨X, hK.1⟩ hY (w4 hi) rfl) d_W_worstCondition_24 ?_
        refine hm_get ⟨X, hK.1⟩ hY (w4 hi) 6 (v := .int (S.I 13 i 0)) rfl rfl (Nat.le_of_ble_eq_true rfl) hu_P m_452 (fun _ h => h) d_W_worstCondition_27 ?_
        refine va_mmax X.1 X.2.1 (X.2.2.1.trans hl.1.symm) X.2.2.2.1 (X.2.2.2.2 _ m_294) (X.2.2.2.2 _ m_211) (X.2.2.2.2 _ m_13) (X.2.2.2.2 _ m_212) (Nat.le_of_ble_eq_true rfl) (Nat.le_of_ble_eq_true rfl) (Nat.zero_le _) (Nat.zero_le _) d_W_worstCondition_30 ?_
        refine W.eq (g2 := F0 m 33 ls [.int (wst S (i + 1))]) rfl ?_
        refine lv_istore_n (lv' := [(1, .int (wst S (i + 1))), (2, .int (nI i)), (0, .ref (S.ad 0 0 0))]) X.1 X.2.1 d_W_worstCondition_33 rfl hl (by decide) rfl (fun ls hl => ?_)
        refine lv_iinc (v := nI (i + 1)) (lv' := [(2, .int (nI (i + 1))), (1, .int (wst S (i + 1))), (0, .ref (S.ad 0 0 0))]) X.1 X.2.1 d_W_worstCondition_34 hl (k := 1) rfl (nI_1 i) (by decide) rfl (fun ls hl => ?_)
        refine lv_goto (tgt := 4) X.1 X.2.1 d_W_worstCondition_37 (by decide) ?_
        exact ih (i + 1) _ (by omega) (by omega) (lv_sub hl [0, 1, 2] rfl)
  exact loop (S.C 0 0 + 1) 0 ls (Nat.zero_le _) (by omega) (lv_sub hl [0, 1, 2] rfl)
end
section
abbrev inR (r : Int32) : Prop := 0 ≤ r.toInt64 ∧ r.toInt64 ≤ ((124 : Int32) - 1).toInt64
abbrev hE (S : cS) (i : Nat) (r to : Int32) : Prop := inR r ∧ ¬ (S.I 18 i r.toNatClampNeg &&& ((1 : Int32) <<< (to &&& 31))) = 0
theorem inR_in {r : Int32} (h : inR r) : vp_in r 124 := by
  obtain ⟨h1, h2⟩ := h
  have h1 := Int64.le_iff_toInt_le.mp h1
  have h2 := Int64.le_iff_toInt_le.mp h2
  rw [Int32.toInt_toInt64] at h1 h2
  rw [show ((124 : Int32) - 1).toInt64.toInt = 123 by decide] at h2
  rw [show (0 : Int64).toInt = 0 by decide] at h1
  exact vp_in_iff.mpr ⟨h1, by omega⟩
def aE (S : cS) (i : Nat) (r to : Int32) : Int32 × cS := if hE S i r to then (0, S) else if inR r then (1, S.sI 18 i r.toNatClampNeg (S.I 18 i r.toNatClampNeg ||| ((1 : Int32) <<< (to &&& 31)))) else (0, S)
/-- endDeadlines at the deadline j -/
def eD1 (S : cS) (i : Nat) (p : Int32) (t : Int64) (j : Nat) : cS :=
  if S.I 23 i j = 0 then S else if S.I 22 i j = p then (if S.I 17 i 0 = 0 then (if S.J 20 i j ≤ t - S.J 22 i j ∧ t - S.J 22 i j ≤ S.J 21 i j then (S.sI 17 i 0 0).sI 23 i j 0 else (S.sI 17 i 0 1).sI 23 i j 0) else (S.sI 17 i 0 1).sI 23 i j 0) else S
def eD (S : cS) (i : Nat) (p : Int32) (t : Int64) : Nat → cS
  | 0 => S
  | j + 1 => eD1 (eD S i p t j) i p t j
/-- beginDeadlines at the deadline j -/
def bD1 (S : cS) (i : Nat) (mo p : Int32) (t : Int64) (j : Nat) : cS := if S.I 20 i j = mo then (if S.I 21 i j = p then (S.sI 23 i j 1).sJ 22 i j t else S) else S
def bD (S : cS) (i : Nat) (mo p : Int32) (t : Int64) : Nat → cS
  | 0 => S
  | j + 1 => bD1 (bD S i mo p t j) i mo p t j
/-- stopLateDeadlines at the deadline j -/
def sD1 (S : cS) (i : Nat) (t : Int64) (j : Nat) : cS := if S.I 23 i j = 0 then S else if t - S.J 22 i j ≤ S.J 21 i j then S else (S.sI 17 i 0 1).sI 23 i j 0
def sD (S : cS) (i : Nat) (t : Int64) : Nat → cS
  | 0 => S
  | j + 1 => sD1 (sD S i t j) i t j
def fD1 (S : cS) (i : Nat) (j : Nat) : cS := S.sI 23 i j 0
def fDs (S : cS) (i : Nat) : Nat → cS
  | 0 => S
  | j + 1 => fD1 (fDs S i j) i j
def cA (S : cS) (i : Nat) (ag : Int32) : cS :=
  if ag ≤ 2 then S.sI 15 i 0 0 else if (S.I 10 i 0).toInt64 ≤ (S.I 15 i 0).toInt64 ∧ (S.I 15 i 0).toInt64 ≤ (S.I 11 i 0).toInt64 then S.sI 15 i 0 0 else (S.sI 17 i 0 1).sI 15 i 0 0
def jU (S : cS) (i : Nat) : cS :=
  if S.I 17 i 0 = 0 then (if S.I 13 i 0 = 1 then (if S.I 14 i 0 - 1 ≤ 0 then (S.sI 14 i 0 (S.I 14 i 0 - 1)).sI 13 i 0 0 else (S.sI 14 i 0 (S.I 14 i 0 - 1)).sI 13 i 0 1) else S)
  else if S.I 14 i 0 + 1 ≤ S.I 12 i 0 then (S.sI 14 i 0 (S.I 14 i 0 + 1)).sI 13 i 0 1 else (S.sI 14 i 0 (S.I 14 i 0 + 1)).sI 13 i 0 2
def fC (S : cS) (i : Nat) : cS := fDs (((S.sI 15 i 0 0).sI 17 i 0 0).sI 16 i 0 0) i (S.C 1 i)
def bA (S : cS) (i : Nat) : cS := ((fC S i).sI 13 i 0 0).sI 14 i 0 0
theorem eD_k (S : cS) (i : Nat) (p : Int32) (t : Int64) (j : Nat) : (eD S i p t j).C = S.C ∧ (eD S i p t j).ad = S.ad := by
  induction j with
  | zero => exact ⟨rfl, rfl⟩
  | succ j ih =>
    show (eD1 _ i p t j).C = S.C ∧ (eD1 _ i p t j).ad = S.ad
    unfold eD1
    repeat' split
    all_goals exact ih
theorem bD_k (S : cS) (i : Nat) (mo p : Int32) (t : Int64) (j : Nat) : (bD S i mo p t j).C = S.C ∧ (bD S i mo p t j).ad = S.ad := by
  induction j with
  | zero => exact ⟨rfl, rfl⟩
  | succ j ih =>
    show (bD1 _ i mo p t j).C = S.C ∧ (bD1 _ i mo p t j).ad = S.ad
    unfold bD1
    repeat' split
    all_goals exact ih
theorem sD_k (S : cS) (i : Nat) (t : Int64) (j : Nat) : (sD S i t j).C = S.C ∧ (sD S i t j).ad = S.ad := by
  induction j with
  | zero => exact ⟨rfl, rfl⟩
  | succ j ih =>
    show (sD1 _ i t j).C = S.C ∧ (sD1 _ i t j).ad = S.ad
    unfold sD1
    repeat' split
    all_goals exact ih
theorem fDs_k (S : cS) (i : Nat) (j : Nat) : (fDs S i j).C = S.C ∧ (fDs S i j).ad = S.ad := by
  induction j with
  | zero => exact ⟨rfl, rfl⟩
  | succ j ih => exact ih

set_option maxHeartbeats 4000000 in
set_option maxRecDepth 100000 in
theorem k_P_rowOf (l : Launch) (D : va_G) (A : Nat → Prop) (G : Nat → Nat) (w : hm_T) (mo fr : Int32) : Met l y_P_rowOf (.code y_P_rowOf c_P_rowOf 2 (some .int) :: wsA) { frames := 0, cells := 0, slots := 0, locals := 0 } (va_Pc [.int mo, .int fr] (ctU D A G w)) (hm_R (fun v => v = some (.int (mo * 31 + fr)))) 0 0 (fun _ => False) := by
  refine ct_met (by decide) (Nat.le_of_ble_eq_true rfl) ?_
  rintro p e s m below meth c ls X hr hlocks hnm hl ⟨hB, hK⟩
  have hl : lv_has ls 2 [(0, .int mo), (1, .int fr)] := hl
  have hY : hm_Y D cls A s.heap w s.heap [] := hm_Y.start hB hK.2.2.2
  refine lv_iload_n X.1 X.2.1 d_P_rowOf_0 rfl (lv_at hl 0 rfl) ?_
  refine lv_bipush (v := 31) X.1 X.2.1 d_P_rowOf_1 (by decide) ?_
  refine lv_imul X.1 X.2.1 d_P_rowOf_3 ?_
  refine lv_iload_n X.1 X.2.1 d_P_rowOf_4 rfl (lv_at hl 1 rfl) ?_
  refine lv_iadd X.1 X.2.1 d_P_rowOf_5 ?_
  exact en_iR X hr hlocks d_P_rowOf_6 (rfl)

set_option maxHeartbeats 4000000 in
set_option maxRecDepth 100000 in
theorem k_P_hasEdge (l : Launch) (D : va_G) (A : Nat → Prop) (G : Nat → Nat) (S : cS) (ω : hm_T) (i : Nat) (hi : i < S.C 0 0) (mo fr to : Int32) : Met l y_P_hasEdge (.code y_P_hasEdge c_P_hasEdge 5 (some .boolean) :: wsA) { frames := 1, cells := 0, slots := 0, locals := 25 } (va_Pc [.ref (S.ad 4 i 0), .int mo, .int fr, .int to] (ctU D A G (wS G S ω))) (hm_R (fun v => v = some (.int (b2 (hE S i (mo * 31 + fr) to))))) 0 0 (fun _ => False) := by
  refine ct_met (by decide) (Nat.le_of_ble_eq_true rfl) ?_
  rintro p e s m below meth c ls X hr hlocks hnm hl ⟨hB, hK⟩
  have hl : lv_has ls 5 [(0, .ref (S.ad 4 i 0)), (1, .int mo), (2, .int fr), (3, .int to)] := hl
  have hY : hm_Y D cls A s.heap (wS G S ω) s.heap [] := hm_Y.start hB hK.2.2.2
  refine lv_iload_n X.1 X.2.1 d_P_hasEdge_0 rfl (lv_at hl 1 rfl) ?_
  refine lv_iload_n X.1 X.2.1 d_P_hasEdge_1 rfl (lv_at hl 2 rfl) ?_
  refine hm_callR (ct_runS (n := 2) X hK hY (k_P_rowOf l D A G (wS G S ω) mo fr) m_145 m_143 m_144 m_11 (by decide +kernel) ⟨Nat.le_of_ble_eq_true rfl, Nat.le_of_ble_eq_true rfl⟩ ⟨rfl, rfl⟩ rfl hl.1 rfl (Nat.le_of_ble_eq_true rfl) d_P_hasEdge_2 ⟨Nat.le_of_ble_eq_true rfl, Nat.le_of_ble_eq_true rfl⟩) (fun v hv => ?_)
  subst hv
  refine W.eq (g2 := F0 m 5 ls [.int (mo * 31 + fr)]) rfl ?_
  refine lv_istore (lv' := [(4, .int (mo * 31 + fr)), (0, .ref (S.ad 4 i 0)), (1, .int mo), (2, .int fr), (3, .int to)]) X.1 X.2.1 d_P_hasEdge_5 hl (by decide) rfl (fun ls hl => ?_)
  refine lv_iload X.1 X.2.1 d_P_hasEdge_7 (lv_at hl 0 rfl) ?_
  refine lv_i2l (v := (mo * 31 + fr).toInt64) X.1 X.2.1 d_P_hasEdge_9 rfl ?_
  refine lv_lconst (v := 0) X.1 X.2.1 d_P_hasEdge_10 (by decide) ?_
  refine lv_aload_n X.1 X.2.1 d_P_hasEdge_11 rfl (lv_at hl 1 rfl) ?_
  refine hm_get ⟨X, hK.1⟩ hY (w4 hi) 3 (v := .ref (S.ad 5 i 0)) rfl rfl (Nat.le_of_ble_eq_true rfl) hu_P m_446 (fun _ h => h) d_P_hasEdge_12 ?_
  refine hm_alen ⟨X, hK.1⟩ hY (w5 hi) 0 rfl (v := 124) rfl d_P_hasEdge_15 ?_
  refine lv_iconst (v := 1) X.1 X.2.1 d_P_hasEdge_16 (by decide) ?_
  refine lv_isub X.1 X.2.1 d_P_hasEdge_17 ?_
  refine lv_i2l (v := (124 - 1).toInt64) X.1 X.2.1 d_P_hasEdge_18 rfl ?_
  refine hm_callR (ct_runN (n := 3) X hK hY (k_W_isWithin l D A G (wS G S ω) (mo * 31 + fr).toInt64 0 ((124 : Int32) - 1).toInt64) m_119 hK.2.1.1 m_118 m_1 (by decide +kernel) ⟨Nat.le_of_ble_eq_true rfl, Nat.le_of_ble_eq_true rfl⟩ ⟨rfl, rfl⟩ rfl hl.1 rfl (Nat.le_of_ble_eq_true rfl) d_P_hasEdge_19 ⟨Nat.le_of_ble_eq_true rfl, Nat.le_of_ble_eq_true rfl⟩) (fun v hv => ?_)
  subst hv
  refine W.eq (g2 := F0 m 22 ls [.int (b2 (inR (mo * 31 + fr)))]) rfl ?_
  refine lv_if_eq (tgt := 43) X.1 X.2.1 d_P_hasEdge_22 (by decide) (fun c1 => ?_) (fun c1 => ?_)
  · have c1 : ¬ (inR (mo * 31 + fr)) := b2_0.mp c1
    refine lv_iconst (v := 0) X.1 X.2.1 d_P_hasEdge_43 (by decide) ?_
    exact en_zR X hr hlocks d_P_hasEdge_44 rfl (by rw [b2_f (fun z => c1 z.1)])
  · have c1 : (inR (mo * 31 + fr)) := Classical.byContradiction (fun z => c1 (b2_0.mpr z))
    refine lv_aload_n X.1 X.2.1 d_P_hasEdge_25 rfl (lv_at hl 1 rfl) ?_
    refine hm_get ⟨X, hK.1⟩ hY (w4 hi) 3 (v := .ref (S.ad 5 i 0)) rfl rfl (Nat.le_of_ble_eq_true rfl) hu_P m_446 (fun _ h => h) d_P_hasEdge_26 ?_
    refine lv_iload X.1 X.2.1 d_P_hasEdge_29 (lv_at hl 0 rfl) ?_
    refine hm_iald ⟨X, hK.1⟩ hY (w5 hi) 0 rfl (inR_in c1) d_P_hasEdge_31 ?_
    refine lv_iconst (v := 1) X.1 X.2.1 d_P_hasEdge_32 (by decide) ?_
    refine lv_iload_n X.1 X.2.1 d_P_hasEdge_33 rfl (lv_at hl 4 rfl) ?_
    refine lv_ishl X.1 X.2.1 d_P_hasEdge_34 ?_
    refine lv_iand X.1 X.2.1 d_P_hasEdge_35 ?_
    refine lv_if_eq (tgt := 43) X.1 X.2.1 d_P_hasEdge_36 (by decide) (fun c2 => ?_) (fun c2 => ?_)
    · refine lv_iconst (v := 0) X.1 X.2.1 d_P_hasEdge_43 (by decide) ?_
      exact en_zR X hr hlocks d_P_hasEdge_44 rfl (by rw [b2_f (fun z => z.2 c2)])
    · refine lv_iconst (v := 1) X.1 X.2.1 d_P_hasEdge_39 (by decide) ?_
      refine lv_goto (tgt := 44) X.1 X.2.1 d_P_hasEdge_40 (by decide) ?_
      exact en_zR X hr hlocks d_P_hasEdge_44 rfl (by rw [b2_t ⟨c1, c2⟩])

set_option maxHeartbeats 4000000 in
set_option maxRecDepth 100000 in
theorem k_P_addEdge (l : Launch) (D : va_G) (A : Nat → Prop) (G : Nat → Nat) (S : cS) (ω : hm_T) (i : Nat) (hi : i < S.C 0 0) (mo fr to : Int32) : Met l y_P_addEdge (.code y_P_addEdge c_P_addEdge 5 (some .boolean) :: wsA) { frames := 2, cells := 0, slots := 0, locals := 49 } (va_Pc [.ref (S.ad 4 i 0), .int mo, .int fr, .int to] (ctU D A G (wS G S ω))) (hm_Q D cls A (fun v w => v = some (.int (aE S i (mo * 31 + fr) to).1) ∧ w = wS G (aE S i (mo * 31 + fr) to).2 ω)) 0 0 A := by
  refine ct_met (by decide) (Nat.le_of_ble_eq_true rfl) ?_
  rintro p e s m below meth c ls X hr hlocks hnm hl ⟨hB, hK⟩
  have hl : lv_has ls 5 [(0, .ref (S.ad 4 i 0)), (1, .int mo), (2, .int fr), (3, .int to)] := hl
  have hY : hm_Y D cls A s.heap (wS G S ω) s.heap [] := hm_Y.start hB hK.2.2.2
  refine lv_iload_n X.1 X.2.1 d_P_addEdge_0 rfl (lv_at hl 1 rfl) ?_
  refine lv_iload_n X.1 X.2.1 d_P_addEdge_1 rfl (lv_at hl 2 rfl) ?_
  refine hm_callR (ct_runS (n := 2) X hK hY (k_P_rowOf l D A G (wS G S ω) mo fr) m_145 m_143 m_144 m_11 (by decide +kernel) ⟨Nat.le_of_ble_eq_true rfl, Nat.le_of_ble_eq_true rfl⟩ ⟨rfl, rfl⟩ rfl hl.1 rfl (Nat.le_of_ble_eq_true rfl) d_P_addEdge_2 ⟨Nat.le_of_ble_eq_true rfl, Nat.le_of_ble_eq_true rfl⟩) (fun v hv => ?_)
  subst hv
  refine W.eq (g2 := F0 m 5 ls [.int (mo * 31 + fr)]) rfl ?_
  refine lv_istore (lv' := [(4, .int (mo * 31 + fr)), (0, .ref (S.ad 4 i 0)), (1, .int mo), (2, .int fr), (3, .int to)]) X.1 X.2.1 d_P_addEdge_5 hl (by decide) rfl (fun ls hl => ?_)
  refine lv_aload_n X.1 X.2.1 d_P_addEdge_7 rfl (lv_at hl 1 rfl) ?_
  refine lv_iload_n X.1 X.2.1 d_P_addEdge_8 rfl (lv_at hl 2 rfl) ?_
  refine lv_iload_n X.1 X.2.1 d_P_addEdge_9 rfl (lv_at hl 3 rfl) ?_
  refine lv_iload_n X.1 X.2.1 d_P_addEdge_10 rfl (lv_at hl 4 rfl) ?_
  refine hm_callR (ct_runV (n := 3) X hK hY (k_P_hasEdge l D A G S ω i hi mo fr to) m_149 m_146 m_147 m_148 m_11 (by decide +kernel) ⟨Nat.le_of_ble_eq_true rfl, Nat.le_of_ble_eq_true rfl⟩ ⟨rfl, rfl⟩ (hm_recv ⟨X, hK.1⟩ hY (w4 hi) rfl) rfl hl.1 rfl (Nat.le_of_ble_eq_true rfl) d_P_addEdge_11 ⟨Nat.le_of_ble_eq_true rfl, Nat.le_of_ble_eq_true rfl⟩) (fun v hv => ?_)
  subst hv
  refine W.eq (g2 := F0 m 14 ls [.int (b2 (hE S i (mo * 31 + fr) to))]) rfl ?_
  refine lv_if_ne (tgt := 35) X.1 X.2.1 d_P_addEdge_14 (by decide) (fun c1 => ?_) (fun c1 => ?_)
  · have c1 : (hE S i (mo * 31 + fr) to) := Classical.byContradiction (fun z => c1 (b2_0.mpr z))
    refine lv_iconst (v := 0) X.1 X.2.1 d_P_addEdge_35 (by decide) ?_
    exact en_zW X hY hr hlocks d_P_addEdge_36 rfl (⟨by rw [aE, if_pos c1], by rw [aE, if_pos c1]⟩)
  · have c1 : ¬ (hE S i (mo * 31 + fr) to) := b2_0.mp c1
    refine lv_iload X.1 X.2.1 d_P_addEdge_17 (lv_at hl 0 rfl) ?_
    refine lv_i2l (v := (mo * 31 + fr).toInt64) X.1 X.2.1 d_P_addEdge_19 rfl ?_
    refine lv_lconst (v := 0) X.1 X.2.1 d_P_addEdge_20 (by decide) ?_
    refine lv_aload_n X.1 X.2.1 d_P_addEdge_21 rfl (lv_at hl 1 rfl) ?_
    refine hm_get ⟨X, hK.1⟩ hY (w4 hi) 3 (v := .ref (S.ad 5 i 0)) rfl rfl (Nat.le_of_ble_eq_true rfl) hu_P m_446 (fun _ h => h) d_P_addEdge_22 ?_
    refine hm_alen ⟨X, hK.1⟩ hY (w5 hi) 0 rfl (v := 124) rfl d_P_addEdge_25 ?_
    refine lv_iconst (v := 1) X.1 X.2.1 d_P_addEdge_26 (by decide) ?_
    refine lv_isub X.1 X.2.1 d_P_addEdge_27 ?_
    refine lv_i2l (v := (124 - 1).toInt64) X.1 X.2.1 d_P_addEdge_28 rfl ?_
    refine hm_callR (ct_runN (n := 3) X hK hY (k_W_isWithin l D A G (wS G S ω) (mo * 31 + fr).toInt64 0 ((124 : Int32) - 1).toInt64) m_119 hK.2.1.1 m_118 m_1 (by decide +kernel) ⟨Nat.le_of_ble_eq_true rfl, Nat.le_of_ble_eq_true rfl⟩ ⟨rfl, rfl⟩ rfl hl.1 rfl (Nat.le_of_ble_eq_true rfl) d_P_addEdge_29 ⟨Nat.le_of_ble_eq_true rfl, Nat.le_of_ble_eq_true rfl⟩) (fun v hv => ?_)
    subst hv
    refine W.eq (g2 := F0 m 32 ls [.int (b2 (inR (mo * 31 + fr)))]) rfl ?_
    refine lv_if_ne (tgt := 37) X.1 X.2.1 d_P_addEdge_32 (by decide) (fun c2 => ?_) (fun c2 => ?_)
    · have c2 : (inR (mo * 31 + fr)) := Classical.byContradiction (fun z => c2 (b2_0.mpr z))
      refine lv_aload_n X.1 X.2.1 d_P_addEdge_37 rfl (lv_at hl 1 rfl) ?_
      refine hm_get ⟨X, hK.1⟩ hY (w4 hi) 3 (v := .ref (S.ad 5 i 0)) rfl rfl (Nat.le_of_ble_eq_true rfl) hu_P m_446 (fun _ h => h) d_P_addEdge_38 ?_
      refine lv_iload X.1 X.2.1 d_P_addEdge_41 (lv_at hl 0 rfl) ?_
      refine lv_dup2_11 X.1 X.2.1 d_P_addEdge_43 rfl rfl ?_
      refine hm_iald ⟨X, hK.1⟩ hY (w5 hi) 0 rfl (inR_in c2) d_P_addEdge_44 ?_
      refine lv_iconst (v := 1) X.1 X.2.1 d_P_addEdge_45 (by decide) ?_
      refine lv_iload_n X.1 X.2.1 d_P_addEdge_46 rfl (lv_at hl 4 rfl) ?_
      refine lv_ishl X.1 X.2.1 d_P_addEdge_47 ?_
      refine lv_ior X.1 X.2.1 d_P_addEdge_48 ?_
      refine hm_iast ⟨X, hK.1⟩ hY (w5 hi) 0 rfl (inR_in c2) d_P_addEdge_49 (fun H locs hY => ?_)
      rw [fo_E hi] at hY
      refine lv_iconst (v := 1) X.1 X.2.1 d_P_addEdge_50 (by decide) ?_
      exact en_zW X hY hr hlocks d_P_addEdge_51 rfl (⟨by rw [aE, if_neg c1, if_pos c2], by rw [aE, if_neg c1, if_pos c2]⟩)
    · have c2 : ¬ (inR (mo * 31 + fr)) := b2_0.mp c2
      refine lv_iconst (v := 0) X.1 X.2.1 d_P_addEdge_35 (by decide) ?_
      exact en_zW X hY hr hlocks d_P_addEdge_36 rfl (⟨by rw [aE, if_neg c1, if_neg c2], by rw [aE, if_neg c1, if_neg c2]⟩)

set_option maxHeartbeats 4000000 in
set_option maxRecDepth 100000 in
theorem k_P_endDeadlines (l : Launch) (D : va_G) (A : Nat → Prop) (G : Nat → Nat) (S : cS) (ω : hm_T) (i : Nat) (hi : i < S.C 0 0) (h10 : S.C 1 i ≤ 10) (p0 : Int32) (t : Int64) : Met l y_P_endDeadlines (.code y_P_endDeadlines c_P_endDeadlines 6 (none : Option FieldType) :: wsA) { frames := 3, cells := 0, slots := 0, locals := 64 } (va_Pc [.ref (S.ad 4 i 0), .int p0, .long t] (ctU D A G (wS G S ω))) (hm_Q D cls A (fun v w => v = none ∧ w = wS G (eD S i p0 t (S.C 1 i)) ω)) 0 0 A := by
  refine ct_met (by decide) (Nat.le_of_ble_eq_true rfl) ?_
  rintro p e s m below meth c ls X hr hlocks hnm hl ⟨hB, hK⟩
  have hl : lv_has ls 6 [(0, .ref (S.ad 4 i 0)), (1, .int p0), (2, .long t)] := hl
  have hY : hm_Y D cls A s.heap (wS G S ω) s.heap [] := hm_Y.start hB hK.2.2.2
  refine lv_iconst (v := 0) X.1 X.2.1 d_P_endDeadlines_0 (by decide) ?_
  refine lv_istore (lv' := [(4, .int 0), (0, .ref (S.ad 4 i 0)), (1, .int p0), (2, .long t)]) X.1 X.2.1 d_P_endDeadlines_1 hl (by decide) rfl (fun ls hl => ?_)
  have loop : ∀ (k j : Nat) (T : cS) (ls : Array Slot) (H : Heap) (locs : List Loc), j ≤ S.C 1 i → S.C 1 i < j + k → T = eD S i p0 t j → T.C = S.C → hm_Y D cls A s.heap (wS G T ω) H locs → lv_has ls 6 [(4, .int (nI j)), (0, .ref (T.ad 4 i 0)), (1, .int p0), (2, .long t)] → W p l e { frames := 3, cells := 0, slots := 0, locals := 64 } s m (([.ref (S.ad 4 i 0), .int p0, .long t] : List Value).toArray) below meth c H locs 0 0 (MQ below (hm_Q D cls A (fun v w => v = none ∧ w = wS G (eD S i p0 t (S.C 1 i)) ω)) (([.ref (S.ad 4 i 0), .int p0, .long t] : List Value).toArray) s 0 0 A) (F0 m 3 ls []) := by
    intro k
    induction k with
    | zero => intro j T ls H locs hle hlt; omega
    | succ k ih =>
      intro j T ls H locs hle hlt hT hC hY hl
      have hiT : i < T.C 0 0 := by rw [hC]; exact hi
      refine lv_iload X.1 X.2.1 d_P_endDeadlines_3 (lv_at hl 0 rfl) ?_
      refine lv_aload_n X.1 X.2.1 d_P_endDeadlines_5 rfl (lv_at hl 1 rfl) ?_
      refine hm_get ⟨X, hK.1⟩ hY (w4 hiT) 4 (v := .ref (T.ad 6 i 0)) rfl rfl (Nat.le_of_ble_eq_true rfl) hu_P m_447 (fun _ h => h) d_P_endDeadlines_6 ?_
      refine hm_callR (ct_runV (n := 0) X hK hY (k_size6 l D A G T ω i hiT) m_116 m_263 m_114 m_115 m_4 (by decide +kernel) ⟨Nat.le_of_ble_eq_true rfl, Nat.le_of_ble_eq_true rfl⟩ ⟨rfl, rfl⟩ (hm_recv ⟨X, hK.1⟩ hY (w6 hiT) rfl) rfl hl.1 rfl (Nat.le_of_ble_eq_true rfl) d_P_endDeadlines_9 ⟨Nat.le_of_ble_eq_true rfl, Nat.le_of_ble_eq_true rfl⟩) (fun v hv => ?_)
      subst hv
      refine W.eq (g2 := F0 m 12 ls [.int (nI (T.C 1 i)), .int (nI j)]) rfl ?_
      have hn : T.C 1 i = S.C 1 i := by rw [hC]
      refine lv_icmp_ge (tgt := 97) X.1 X.2.1 d_P_endDeadlines_12 (by decide) (fun c0 => ?_) (fun c0 => ?_)
      · have hj : j = T.C 1 i := by rcases Nat.lt_or_ge j (T.C 1 i) with q | q; exact absurd c0 (nI_ge q (by omega)); omega
        exact en_vW X hY hr hlocks d_P_endDeadlines_97 (⟨rfl, by rw [hT, hj, hn]⟩)
      · have hj : j < T.C 1 i := by rcases Nat.lt_or_ge j (T.C 1 i) with q | q; exact q; exact absurd (nI_le q (by omega)) c0
        refine lv_aload_n X.1 X.2.1 d_P_endDeadlines_15 rfl (lv_at hl 1 rfl) ?_
        refine hm_get ⟨X, hK.1⟩ hY (w4 hiT) 4 (v := .ref (T.ad 6 i 0)) rfl rfl (Nat.le_of_ble_eq_true rfl) hu_P m_447 (fun _ h => h) d_P_endDeadlines_16 ?_
        refine lv_iload X.1 X.2.1 d_P_endDeadlines_19 (lv_at hl 0 rfl) ?_
        refine hm_callR (ct_runV (n := 1) X hK hY (k_get6 l D A G T ω i j hiT hj (by rw [hC]; exact h10)) m_123 m_264 m_121 m_122 m_4 (by decide +kernel) ⟨Nat.le_of_ble_eq_true rfl, Nat.le_of_ble_eq_true rfl⟩ ⟨rfl, rfl⟩ (hm_recv ⟨X, hK.1⟩ hY (w6 hiT) rfl) rfl hl.1 rfl (Nat.le_of_ble_eq_true rfl) d_P_endDeadlines_21 ⟨Nat.le_of_ble_eq_true rfl, Nat.le_of_ble_eq_true rfl⟩) (fun v hv => ?_)
        subst hv
        refine W.eq (g2 := F0 m 24 ls [.ref (T.ad 8 i j)]) rfl ?_
        refine va_castY X.1 X.2.1 X.2.2.2.1 (X.2.2.2.2 _ m_265) hK.2.1.2.2.2.1 (hm_recv ⟨X, hK.1⟩ hY (w8 hiT hj) rfl) d_P_endDeadlines_24 ?_
        refine lv_astore (lv' := [(5, .ref (T.ad 8 i j)), (4, .int (nI j)), (0, .ref (T.ad 4 i 0)), (1, .int p0), (2, .long t)]) X.1 X.2.1 d_P_endDeadlines_27 hl (by decide) rfl (fun ls hl => ?_)
        refine lv_aload X.1 X.2.1 d_P_endDeadlines_29 (lv_at hl 0 rfl) ?_
        refine hm_get ⟨X, hK.1⟩ hY (w8 hiT hj) 5 (v := .int (T.I 23 i j)) rfl rfl (Nat.le_of_ble_eq_true rfl) hu_D m_173 (fun _ h => h) d_P_endDeadlines_31 ?_
        refine lv_if_eq (tgt := 91) X.1 X.2.1 d_P_endDeadlines_34 (by decide) (fun c1 => ?_) (fun c1 => ?_)
        · refine lv_iinc (v := nI (j + 1)) (lv' := [(4, .int (nI (j + 1))), (5, .ref (T.ad 8 i j)), (0, .ref (T.ad 4 i 0)), (1, .int p0), (2, .long t)]) X.1 X.2.1 d_P_endDeadlines_91 hl (k := 1) rfl (nI_1 j) (by decide) rfl (fun ls hl => ?_)
          refine lv_goto (tgt := 3) X.1 X.2.1 d_P_endDeadlines_94 (by decide) ?_
          exact ih (j + 1) T _ _ _ (by omega) (by omega) (by rw [show eD S i p0 t (j + 1) = eD1 (eD S i p0 t j) i p0 t j from rfl, ← hT, eD1, if_pos c1]) hC hY (lv_sub hl [0, 2, 3, 4] rfl)
        · refine lv_aload X.1 X.2.1 d_P_endDeadlines_37 (lv_at hl 0 rfl) ?_
          refine hm_get ⟨X, hK.1⟩ hY (w8 hiT hj) 2 (v := .int (T.I 22 i j)) rfl rfl (Nat.le_of_ble_eq_true rfl) hu_D m_167 (fun _ h => h) d_P_endDeadlines_39 ?_
          refine lv_iload_n X.1 X.2.1 d_P_endDeadlines_42 rfl (lv_at hl 3 rfl) ?_
          refine lv_icmp_ne (tgt := 91) X.1 X.2.1 d_P_endDeadlines_43 (by decide) (fun c2 => ?_) (fun c2 => ?_)
          · refine lv_iinc (v := nI (j + 1)) (lv' := [(4, .int (nI (j + 1))), (5, .ref (T.ad 8 i j)), (0, .ref (T.ad 4 i 0)), (1, .int p0), (2, .long t)]) X.1 X.2.1 d_P_endDeadlines_91 hl (k := 1) rfl (nI_1 j) (by decide) rfl (fun ls hl => ?_)
            refine lv_goto (tgt := 3) X.1 X.2.1 d_P_endDeadlines_94 (by decide) ?_
            exact ih (j + 1) T _ _ _ (by omega) (by omega) (by rw [show eD S i p0 t (j + 1) = eD1 (eD S i p0 t j) i p0 t j from rfl, ← hT, eD1, if_neg c1, if_neg c2]) hC hY (lv_sub hl [0, 2, 3, 4] rfl)
          · refine lv_aload_n X.1 X.2.1 d_P_endDeadlines_46 rfl (lv_at hl 2 rfl) ?_
            refine lv_aload_n X.1 X.2.1 d_P_endDeadlines_47 rfl (lv_at hl 2 rfl) ?_
            refine hm_get ⟨X, hK.1⟩ hY (w4 hiT) 10 (v := .int (T.I 17 i 0)) rfl rfl (Nat.le_of_ble_eq_true rfl) hu_P m_456 (fun _ h => h) d_P_endDeadlines_48 ?_
            refine lv_if_ne (tgt := 77) X.1 X.2.1 d_P_endDeadlines_51 (by decide) (fun c3 => ?_) (fun c3 => ?_)
            · refine lv_iconst (v := 1) X.1 X.2.1 d_P_endDeadlines_77 (by decide) ?_
              refine lv_goto (tgt := 82) X.1 X.2.1 d_P_endDeadlines_78 (by decide) ?_
              refine hm_put ⟨X, hK.1⟩ hY (w4 hiT) 10 rfl (Nat.le_of_ble_eq_true rfl) (Nat.le_of_ble_eq_true rfl) hu_P ty_P ty_P_ok nm_P m_456 (fun _ h => h) rfl rfl rfl d_P_endDeadlines_82 (fun H locs hY => ?_)
              have hY : hm_Y D cls A s.heap (wS G (T.sI 17 i 0 1) ω) H locs := by rw [← fo_P_10 (S := T) (v := 1) hiT]; exact hY
              refine lv_aload X.1 X.2.1 d_P_endDeadlines_85 (lv_at hl 0 rfl) ?_
              refine lv_iconst (v := 0) X.1 X.2.1 d_P_endDeadlines_87 (by decide) ?_
              refine hm_put ⟨X, hK.1⟩ hY (w8 hiT hj) 5 rfl (Nat.le_of_ble_eq_true rfl) (Nat.le_of_ble_eq_true rfl) hu_D ty_D ty_D_ok nm_D m_173 (fun _ h => h) rfl rfl rfl d_P_endDeadlines_88 (fun H locs hY => ?_)
              have hY : hm_Y D cls A s.heap (wS G ((T.sI 17 i 0 1).sI 23 i j 0) ω) H locs := by rw [← fo_D_5 (S := (T.sI 17 i 0 1)) (v := 0) hiT hj]; exact hY
              refine lv_iinc (v := nI (j + 1)) (lv' := [(4, .int (nI (j + 1))), (5, .ref (T.ad 8 i j)), (0, .ref (T.ad 4 i 0)), (1, .int p0), (2, .long t)]) X.1 X.2.1 d_P_endDeadlines_91 hl (k := 1) rfl (nI_1 j) (by decide) rfl (fun ls hl => ?_)
              refine lv_goto (tgt := 3) X.1 X.2.1 d_P_endDeadlines_94 (by decide) ?_
              exact ih (j + 1) ((T.sI 17 i 0 1).sI 23 i j 0) _ _ _ (by omega) (by omega) (by rw [show eD S i p0 t (j + 1) = eD1 (eD S i p0 t j) i p0 t j from rfl, ← hT, eD1, if_neg c1, if_pos c2, if_neg c3]) hC hY (lv_sub hl [0, 2, 3, 4] rfl)
            · refine lv_lload_n X.1 X.2.1 d_P_endDeadlines_54 rfl (lv_at hl 4 rfl) ?_
              refine lv_aload X.1 X.2.1 d_P_endDeadlines_55 (lv_at hl 0 rfl) ?_
              refine hm_get ⟨X, hK.1⟩ hY (w8 hiT hj) 6 (v := .long (T.J 22 i j)) rfl rfl (Nat.le_of_ble_eq_true rfl) hu_D m_175 (fun _ h => h) d_P_endDeadlines_57 ?_
              refine lv_lsub X.1 X.2.1 d_P_endDeadlines_60 ?_
              refine lv_aload X.1 X.2.1 d_P_endDeadlines_61 (lv_at hl 0 rfl) ?_
              refine hm_get ⟨X, hK.1⟩ hY (w8 hiT hj) 3 (v := .long (T.J 20 i j)) rfl rfl (Nat.le_of_ble_eq_true rfl) hu_D m_169 (fun _ h => h) d_P_endDeadlines_63 ?_
              refine lv_aload X.1 X.2.1 d_P_endDeadlines_66 (lv_at hl 0 rfl) ?_
              refine hm_get ⟨X, hK.1⟩ hY (w8 hiT hj) 4 (v := .long (T.J 21 i j)) rfl rfl (Nat.le_of_ble_eq_true rfl) hu_D m_171 (fun _ h => h) d_P_endDeadlines_68 ?_
              refine hm_callR (ct_runN (n := 3) X hK hY (k_W_isWithin l D A G (wS G T ω) (t - T.J 22 i j) (T.J 20 i j) (T.J 21 i j)) m_119 hK.2.1.1 m_118 m_1 (by decide +kernel) ⟨Nat.le_of_ble_eq_true rfl, Nat.le_of_ble_eq_true rfl⟩ ⟨rfl, rfl⟩ rfl hl.1 rfl (Nat.le_of_ble_eq_true rfl) d_P_endDeadlines_71 ⟨Nat.le_of_ble_eq_true rfl, Nat.le_of_ble_eq_true rfl⟩) (fun v hv => ?_)
              subst hv
              refine W.eq (g2 := F0 m 74 ls [.int (b2 (T.J 20 i j ≤ t - T.J 22 i j ∧ t - T.J 22 i j ≤ T.J 21 i j)), .ref (T.ad 4 i 0)]) rfl ?_
              refine lv_if_ne (tgt := 81) X.1 X.2.1 d_P_endDeadlines_74 (by decide) (fun c4 => ?_) (fun c4 => ?_)
              · have c4 : (T.J 20 i j ≤ t - T.J 22 i j ∧ t - T.J 22 i j ≤ T.J 21 i j) := Classical.byContradiction (fun z => c4 (b2_0.mpr z))
                refine lv_iconst (v := 0) X.1 X.2.1 d_P_endDeadlines_81 (by decide) ?_
                refine hm_put ⟨X, hK.1⟩ hY (w4 hiT) 10 rfl (Nat.le_of_ble_eq_true rfl) (Nat.le_of_ble_eq_true rfl) hu_P ty_P ty_P_ok nm_P m_456 (fun _ h => h) rfl rfl rfl d_P_endDeadlines_82 (fun H locs hY => ?_)
                have hY : hm_Y D cls A s.heap (wS G (T.sI 17 i 0 0) ω) H locs := by rw [← fo_P_10 (S := T) (v := 0) hiT]; exact hY
                refine lv_aload X.1 X.2.1 d_P_endDeadlines_85 (lv_at hl 0 rfl) ?_
                refine lv_iconst (v := 0) X.1 X.2.1 d_P_endDeadlines_87 (by decide) ?_
                refine hm_put ⟨X, hK.1⟩ hY (w8 hiT hj) 5 rfl (Nat.le_of_ble_eq_true rfl) (Nat.le_of_ble_eq_true rfl) hu_D ty_D ty_D_ok nm_D m_173 (fun _ h => h) rfl rfl rfl d_P_endDeadlines_88 (fun H locs hY => ?_)
                have hY : hm_Y D cls A s.heap (wS G ((T.sI 17 i 0 0).sI 23 i j 0) ω) H locs := by rw [← fo_D_5 (S := (T.sI 17 i 0 0)) (v := 0) hiT hj]; exact hY
                refine lv_iinc (v := nI (j + 1)) (lv' := [(4, .int (nI (j + 1))), (5, .ref (T.ad 8 i j)), (0, .ref (T.ad 4 i 0)), (1, .int p0), (2, .long t)]) X.1 X.2.1 d_P_endDeadlines_91 hl (k := 1) rfl (nI_1 j) (by decide) rfl (fun ls hl => ?_)
                refine lv_goto (tgt := 3) X.1 X.2.1 d_P_endDeadlines_94 (by decide) ?_
                exact ih (j + 1) ((T.sI 17 i 0 0).sI 23 i j 0) _ _ _ (by omega) (by omega) (by rw [show eD S i p0 t (j + 1) = eD1 (eD S i p0 t j) i p0 t j from rfl, ← hT, eD1, if_neg c1, if_pos c2, if_pos c3, if_pos c4]) hC hY (lv_sub hl [0, 2, 3, 4] rfl)
              · have c4 : ¬ (T.J 20 i j ≤ t - T.J 22 i j ∧ t - T.J 22 i j ≤ T.J 21 i j) := b2_0.mp c4
                refine lv_iconst (v := 1) X.1 X.2.1 d_P_endDeadlines_77 (by decide) ?_
                refine lv_goto (tgt := 82) X.1 X.2.1 d_P_endDeadlines_78 (by decide) ?_
                refine hm_put ⟨X, hK.1⟩ hY (w4 hiT) 10 rfl (Nat.le_of_ble_eq_true rfl) (Nat.le_of_ble_eq_true rfl) hu_P ty_P ty_P_ok nm_P m_456 (fun _ h => h) rfl rfl rfl d_P_endDeadlines_82 (fun H locs hY => ?_)
                have hY : hm_Y D cls A s.heap (wS G (T.sI 17 i 0 1) ω) H locs := by rw [← fo_P_10 (S := T) (v := 1) hiT]; exact hY
                refine lv_aload X.1 X.2.1 d_P_endDeadlines_85 (lv_at hl 0 rfl) ?_
                refine lv_iconst (v := 0) X.1 X.2.1 d_P_endDeadlines_87 (by decide) ?_
                refine hm_put ⟨X, hK.1⟩ hY (w8 hiT hj) 5 rfl (Nat.le_of_ble_eq_true rfl) (Nat.le_of_ble_eq_true rfl) hu_D ty_D ty_D_ok nm_D m_173 (fun _ h => h) rfl rfl rfl d_P_endDeadlines_88 (fun H locs hY => ?_)
                have hY : hm_Y D cls A s.heap (wS G ((T.sI 17 i 0 1).sI 23 i j 0) ω) H locs := by rw [← fo_D_5 (S := (T.sI 17 i 0 1)) (v := 0) hiT hj]; exact hY
                refine lv_iinc (v := nI (j + 1)) (lv' := [(4, .int (nI (j + 1))), (5, .ref (T.ad 8 i j)), (0, .ref (T.ad 4 i 0)), (1, .int p0), (2, .long t)]) X.1 X.2.1 d_P_endDeadlines_91 hl (k := 1) rfl (nI_1 j) (by decide) rfl (fun ls hl => ?_)
                refine lv_goto (tgt := 3) X.1 X.2.1 d_P_endDeadlines_94 (by decide) ?_
                exact ih (j + 1) ((T.sI 17 i 0 1).sI 23 i j 0) _ _ _ (by omega) (by omega) (by rw [show eD S i p0 t (j + 1) = eD1 (eD S i p0 t j) i p0 t j from rfl, ← hT, eD1, if_neg c1, if_pos c2, if_pos c3, if_neg c4]) hC hY (lv_sub hl [0, 2, 3, 4] rfl)
  exact loop (S.C 1 i + 1) 0 S ls _ _ (Nat.zero_le _) (by omega) rfl rfl hY (lv_sub hl [0, 1, 2, 3] rfl)

set_option maxHeartbeats 4000000 in
set_option maxRecDepth 100000 in
theorem k_P_beginDeadlines (l : Launch) (D : va_G) (A : Nat → Prop) (G : Nat → Nat) (S : cS) (ω : hm_T) (i : Nat) (hi : i < S.C 0 0) (h10 : S.C 1 i ≤ 10) (mo p0 : Int32) (t : Int64) : Met l y_P_beginDeadlines (.code y_P_beginDeadlines c_P_beginDeadlines 7 (none : Option FieldType) :: wsA) { frames := 3, cells := 0, slots := 0, locals := 64 } (va_Pc [.ref (S.ad 4 i 0), .int mo, .int p0, .long t] (ctU D A G (wS G S ω))) (hm_Q D cls A (fun v w => v = none ∧ w = wS G (bD S i mo p0 t (S.C 1 i)) ω)) 0 0 A := by
  refine ct_met (by decide) (Nat.le_of_ble_eq_true rfl) ?_
  rintro p e s m below meth c ls X hr hlocks hnm hl ⟨hB, hK⟩
  have hl : lv_has ls 7 [(0, .ref (S.ad 4 i 0)), (1, .int mo), (2, .int p0), (3, .long t)] := hl
  have hY : hm_Y D cls A s.heap (wS G S ω) s.heap [] := hm_Y.start hB hK.2.2.2
  refine lv_iconst (v := 0) X.1 X.2.1 d_P_beginDeadlines_0 (by decide) ?_
  refine lv_istore (lv' := [(5, .int 0), (0, .ref (S.ad 4 i 0)), (1, .int mo), (2, .int p0), (3, .long t)]) X.1 X.2.1 d_P_beginDeadlines_1 hl (by decide) rfl (fun ls hl => ?_)
  have loop : ∀ (k j : Nat) (T : cS) (ls : Array Slot) (H : Heap) (locs : List Loc), j ≤ S.C 1 i → S.C 1 i < j + k → T = bD S i mo p0 t j → T.C = S.C → hm_Y D cls A s.heap (wS G T ω) H locs → lv_has ls 7 [(5, .int (nI j)), (0, .ref (T.ad 4 i 0)), (1, .int mo), (2, .int p0), (3, .long t)] → W p l e { frames := 3, cells := 0, slots := 0, locals := 64 } s m (([.ref (S.ad 4 i 0), .int mo, .int p0, .long t] : List Value).toArray) below meth c H locs 0 0 (MQ below (hm_Q D cls A (fun v w => v = none ∧ w = wS G (bD S i mo p0 t (S.C 1 i)) ω)) (([.ref (S.ad 4 i 0), .int mo, .int p0, .long t] : List Value).toArray) s 0 0 A) (F0 m 3 ls []) := by
    intro k
    induction k with
    | zero => intro j T ls H locs hle hlt; omega
    | succ k ih =>
      intro j T ls H locs hle hlt hT hC hY hl
      have hiT : i < T.C 0 0 := by rw [hC]; exact hi
      refine lv_iload X.1 X.2.1 d_P_beginDeadlines_3 (lv_at hl 0 rfl) ?_
      refine lv_aload_n X.1 X.2.1 d_P_beginDeadlines_5 rfl (lv_at hl 1 rfl) ?_
      refine hm_get ⟨X, hK.1⟩ hY (w4 hiT) 4 (v := .ref (T.ad 6 i 0)) rfl rfl (Nat.le_of_ble_eq_true rfl) hu_P m_447 (fun _ h => h) d_P_beginDeadlines_6 ?_
      refine hm_callR (ct_runV (n := 0) X hK hY (k_size6 l D A G T ω i hiT) m_116 m_263 m_114 m_115 m_4 (by decide +kernel) ⟨Nat.le_of_ble_eq_true rfl, Nat.le_of_ble_eq_true rfl⟩ ⟨rfl, rfl⟩ (hm_recv ⟨X, hK.1⟩ hY (w6 hiT) rfl) rfl hl.1 rfl (Nat.le_of_ble_eq_true rfl) d_P_beginDeadlines_9 ⟨Nat.le_of_ble_eq_true rfl, Nat.le_of_ble_eq_true rfl⟩) (fun v hv => ?_)
      subst hv
      refine W.eq (g2 := F0 m 12 ls [.int (nI (T.C 1 i)), .int (nI j)]) rfl ?_
      have hn : T.C 1 i = S.C 1 i := by rw [hC]
      refine lv_icmp_ge (tgt := 65) X.1 X.2.1 d_P_beginDeadlines_12 (by decide) (fun c0 => ?_) (fun c0 => ?_)
      · have hj : j = T.C 1 i := by rcases Nat.lt_or_ge j (T.C 1 i) with q | q; exact absurd c0 (nI_ge q (by omega)); omega
        exact en_vW X hY hr hlocks d_P_beginDeadlines_65 (⟨rfl, by rw [hT, hj, hn]⟩)
      · have hj : j < T.C 1 i := by rcases Nat.lt_or_ge j (T.C 1 i) with q | q; exact q; exact absurd (nI_le q (by omega)) c0
        refine lv_aload_n X.1 X.2.1 d_P_beginDeadlines_15 rfl (lv_at hl 1 rfl) ?_
        refine hm_get ⟨X, hK.1⟩ hY (w4 hiT) 4 (v := .ref (T.ad 6 i 0)) rfl rfl (Nat.le_of_ble_eq_true rfl) hu_P m_447 (fun _ h => h) d_P_beginDeadlines_16 ?_
        refine lv_iload X.1 X.2.1 d_P_beginDeadlines_19 (lv_at hl 0 rfl) ?_
        refine hm_callR (ct_runV (n := 1) X hK hY (k_get6 l D A G T ω i j hiT hj (by rw [hC]; exact h10)) m_123 m_264 m_121 m_122 m_4 (by decide +kernel) ⟨Nat.le_of_ble_eq_true rfl, Nat.le_of_ble_eq_true rfl⟩ ⟨rfl, rfl⟩ (hm_recv ⟨X, hK.1⟩ hY (w6 hiT) rfl) rfl hl.1 rfl (Nat.le_of_ble_eq_true rfl) d_P_beginDeadlines_21 ⟨Nat.le_of_ble_eq_true rfl, Nat.le_of_ble_eq_true rfl⟩) (fun v hv => ?_)
        subst hv
        refine W.eq (g2 := F0 m 24 ls [.ref (T.ad 8 i j)]) rfl ?_
        refine va_castY X.1 X.2.1 X.2.2.2.1 (X.2.2.2.2 _ m_265) hK.2.1.2.2.2.1 (hm_recv ⟨X, hK.1⟩ hY (w8 hiT hj) rfl) d_P_beginDeadlines_24 ?_
        refine lv_astore (lv' := [(6, .ref (T.ad 8 i j)), (5, .int (nI j)), (0, .ref (T.ad 4 i 0)), (1, .int mo), (2, .int p0), (3, .long t)]) X.1 X.2.1 d_P_beginDeadlines_27 hl (by decide) rfl (fun ls hl => ?_)
        refine lv_aload X.1 X.2.1 d_P_beginDeadlines_29 (lv_at hl 0 rfl) ?_
        refine hm_get ⟨X, hK.1⟩ hY (w8 hiT hj) 0 (v := .int (T.I 20 i j)) rfl rfl (Nat.le_of_ble_eq_true rfl) hu_D m_163 (fun _ h => h) d_P_beginDeadlines_31 ?_
        refine lv_iload_n X.1 X.2.1 d_P_beginDeadlines_34 rfl (lv_at hl 3 rfl) ?_
        refine lv_icmp_ne (tgt := 59) X.1 X.2.1 d_P_beginDeadlines_35 (by decide) (fun c1 => ?_) (fun c1 => ?_)
        · refine lv_iinc (v := nI (j + 1)) (lv' := [(5, .int (nI (j + 1))), (6, .ref (T.ad 8 i j)), (0, .ref (T.ad 4 i 0)), (1, .int mo), (2, .int p0), (3, .long t)]) X.1 X.2.1 d_P_beginDeadlines_59 hl (k := 1) rfl (nI_1 j) (by decide) rfl (fun ls hl => ?_)
          refine lv_goto (tgt := 3) X.1 X.2.1 d_P_beginDeadlines_62 (by decide) ?_
          exact ih (j + 1) T _ _ _ (by omega) (by omega) (by rw [show bD S i mo p0 t (j + 1) = bD1 (bD S i mo p0 t j) i mo p0 t j from rfl, ← hT, bD1, if_neg c1]) hC hY (lv_sub hl [0, 2, 3, 4, 5] rfl)
        · refine lv_aload X.1 X.2.1 d_P_beginDeadlines_38 (lv_at hl 0 rfl) ?_
          refine hm_get ⟨X, hK.1⟩ hY (w8 hiT hj) 1 (v := .int (T.I 21 i j)) rfl rfl (Nat.le_of_ble_eq_true rfl) hu_D m_165 (fun _ h => h) d_P_beginDeadlines_40 ?_
          refine lv_iload_n X.1 X.2.1 d_P_beginDeadlines_43 rfl (lv_at hl 4 rfl) ?_
          refine lv_icmp_ne (tgt := 59) X.1 X.2.1 d_P_beginDeadlines_44 (by decide) (fun c2 => ?_) (fun c2 => ?_)
          · refine lv_iinc (v := nI (j + 1)) (lv' := [(5, .int (nI (j + 1))), (6, .ref (T.ad 8 i j)), (0, .ref (T.ad 4 i 0)), (1, .int mo), (2, .int p0), (3, .long t)]) X.1 X.2.1 d_P_beginDeadlines_59 hl (k := 1) rfl (nI_1 j) (by decide) rfl (fun ls hl => ?_)
            refine lv_goto (tgt := 3) X.1 X.2.1 d_P_beginDeadlines_62 (by decide) ?_
            exact ih (j + 1) T _ _ _ (by omega) (by omega) (by rw [show bD S i mo p0 t (j + 1) = bD1 (bD S i mo p0 t j) i mo p0 t j from rfl, ← hT, bD1, if_pos c1, if_neg c2]) hC hY (lv_sub hl [0, 2, 3, 4, 5] rfl)
          · refine lv_aload X.1 X.2.1 d_P_beginDeadlines_47 (lv_at hl 0 rfl) ?_
            refine lv_iconst (v := 1) X.1 X.2.1 d_P_beginDeadlines_49 (by decide) ?_
            refine hm_put ⟨X, hK.1⟩ hY (w8 hiT hj) 5 rfl (Nat.le_of_ble_eq_true rfl) (Nat.le_of_ble_eq_true rfl) hu_D ty_D ty_D_ok nm_D m_173 (fun _ h => h) rfl rfl rfl d_P_beginDeadlines_50 (fun H locs hY => ?_)
            have hY : hm_Y D cls A s.heap (wS G (T.sI 23 i j 1) ω) H locs := by rw [← fo_D_5 (S := T) (v := 1) hiT hj]; exact hY
            refine lv_aload X.1 X.2.1 d_P_beginDeadlines_53 (lv_at hl 0 rfl) ?_
            refine lv_lload_n X.1 X.2.1 d_P_beginDeadlines_55 rfl (lv_at hl 5 rfl) ?_
            refine hm_put ⟨X, hK.1⟩ hY (w8 hiT hj) 6 rfl (Nat.le_of_ble_eq_true rfl) (Nat.le_of_ble_eq_true rfl) hu_D ty_D ty_D_ok nm_D m_175 (fun _ h => h) rfl rfl rfl d_P_beginDeadlines_56 (fun H locs hY => ?_)
            have hY : hm_Y D cls A s.heap (wS G ((T.sI 23 i j 1).sJ 22 i j t) ω) H locs := by rw [← fo_D_6 (S := (T.sI 23 i j 1)) (v := t) hiT hj]; exact hY
            refine lv_iinc (v := nI (j + 1)) (lv' := [(5, .int (nI (j + 1))), (6, .ref (T.ad 8 i j)), (0, .ref (T.ad 4 i 0)), (1, .int mo), (2, .int p0), (3, .long t)]) X.1 X.2.1 d_P_beginDeadlines_59 hl (k := 1) rfl (nI_1 j) (by decide) rfl (fun ls hl => ?_)
            refine lv_goto (tgt := 3) X.1 X.2.1 d_P_beginDeadlines_62 (by decide) ?_
            exact ih (j + 1) ((T.sI 23 i j 1).sJ 22 i j t) _ _ _ (by omega) (by omega) (by rw [show bD S i mo p0 t (j + 1) = bD1 (bD S i mo p0 t j) i mo p0 t j from rfl, ← hT, bD1, if_pos c1, if_pos c2]) hC hY (lv_sub hl [0, 2, 3, 4, 5] rfl)
  exact loop (S.C 1 i + 1) 0 S ls _ _ (Nat.zero_le _) (by omega) rfl rfl hY (lv_sub hl [0, 1, 2, 3, 4] rfl)

set_option maxHeartbeats 4000000 in
set_option maxRecDepth 100000 in
theorem k_P_stopLateDeadlines (l : Launch) (D : va_G) (A : Nat → Prop) (G : Nat → Nat) (S : cS) (ω : hm_T) (i : Nat) (hi : i < S.C 0 0) (h10 : S.C 1 i ≤ 10) (t : Int64) : Met l y_P_stopLateDeadlines (.code y_P_stopLateDeadlines c_P_stopLateDeadlines 5 (none : Option FieldType) :: wsA) { frames := 3, cells := 0, slots := 0, locals := 64 } (va_Pc [.ref (S.ad 4 i 0), .long t] (ctU D A G (wS G S ω))) (hm_Q D cls A (fun v w => v = none ∧ w = wS G (sD S i t (S.C 1 i)) ω)) 0 0 A := by
  refine ct_met (by decide) (Nat.le_of_ble_eq_true rfl) ?_
  rintro p e s m below meth c ls X hr hlocks hnm hl ⟨hB, hK⟩
  have hl : lv_has ls 5 [(0, .ref (S.ad 4 i 0)), (1, .long t)] := hl
  have hY : hm_Y D cls A s.heap (wS G S ω) s.heap [] := hm_Y.start hB hK.2.2.2
  refine lv_iconst (v := 0) X.1 X.2.1 d_P_stopLateDeadlines_0 (by decide) ?_
  refine lv_istore_n (lv' := [(3, .int 0), (0, .ref (S.ad 4 i 0)), (1, .long t)]) X.1 X.2.1 d_P_stopLateDeadlines_1 rfl hl (by decide) rfl (fun ls hl => ?_)
  have loop : ∀ (k j : Nat) (T : cS) (ls : Array Slot) (H : Heap) (locs : List Loc), j ≤ S.C 1 i → S.C 1 i < j + k → T = sD S i t j → T.C = S.C → hm_Y D cls A s.heap (wS G T ω) H locs → lv_has ls 5 [(3, .int (nI j)), (0, .ref (T.ad 4 i 0)), (1, .long t)] → W p l e { frames := 3, cells := 0, slots := 0, locals := 64 } s m (([.ref (S.ad 4 i 0), .long t] : List Value).toArray) below meth c H locs 0 0 (MQ below (hm_Q D cls A (fun v w => v = none ∧ w = wS G (sD S i t (S.C 1 i)) ω)) (([.ref (S.ad 4 i 0), .long t] : List Value).toArray) s 0 0 A) (F0 m 2 ls []) := by
    intro k
    induction k with
    | zero => intro j T ls H locs hle hlt; omega
    | succ k ih =>
      intro j T ls H locs hle hlt hT hC hY hl
      have hiT : i < T.C 0 0 := by rw [hC]; exact hi
      refine lv_iload_n X.1 X.2.1 d_P_stopLateDeadlines_2 rfl (lv_at hl 0 rfl) ?_
      refine lv_aload_n X.1 X.2.1 d_P_stopLateDeadlines_3 rfl (lv_at hl 1 rfl) ?_
      refine hm_get ⟨X, hK.1⟩ hY (w4 hiT) 4 (v := .ref (T.ad 6 i 0)) rfl rfl (Nat.le_of_ble_eq_true rfl) hu_P m_447 (fun _ h => h) d_P_stopLateDeadlines_4 ?_
      refine hm_callR (ct_runV (n := 0) X hK hY (k_size6 l D A G T ω i hiT) m_116 m_263 m_114 m_115 m_4 (by decide +kernel) ⟨Nat.le_of_ble_eq_true rfl, Nat.le_of_ble_eq_true rfl⟩ ⟨rfl, rfl⟩ (hm_recv ⟨X, hK.1⟩ hY (w6 hiT) rfl) rfl hl.1 rfl (Nat.le_of_ble_eq_true rfl) d_P_stopLateDeadlines_7 ⟨Nat.le_of_ble_eq_true rfl, Nat.le_of_ble_eq_true rfl⟩) (fun v hv => ?_)
      subst hv
      refine W.eq (g2 := F0 m 10 ls [.int (nI (T.C 1 i)), .int (nI j)]) rfl ?_
      have hn : T.C 1 i = S.C 1 i := by rw [hC]
      refine lv_icmp_ge (tgt := 67) X.1 X.2.1 d_P_stopLateDeadlines_10 (by decide) (fun c0 => ?_) (fun c0 => ?_)
      · have hj : j = T.C 1 i := by rcases Nat.lt_or_ge j (T.C 1 i) with q | q; exact absurd c0 (nI_ge q (by omega)); omega
        exact en_vW X hY hr hlocks d_P_stopLateDeadlines_67 (⟨rfl, by rw [hT, hj, hn]⟩)
      · have hj : j < T.C 1 i := by rcases Nat.lt_or_ge j (T.C 1 i) with q | q; exact q; exact absurd (nI_le q (by omega)) c0
        refine lv_aload_n X.1 X.2.1 d_P_stopLateDeadlines_13 rfl (lv_at hl 1 rfl) ?_
        refine hm_get ⟨X, hK.1⟩ hY (w4 hiT) 4 (v := .ref (T.ad 6 i 0)) rfl rfl (Nat.le_of_ble_eq_true rfl) hu_P m_447 (fun _ h => h) d_P_stopLateDeadlines_14 ?_
        refine lv_iload_n X.1 X.2.1 d_P_stopLateDeadlines_17 rfl (lv_at hl 0 rfl) ?_
        refine hm_callR (ct_runV (n := 1) X hK hY (k_get6 l D A G T ω i j hiT hj (by rw [hC]; exact h10)) m_123 m_264 m_121 m_122 m_4 (by decide +kernel) ⟨Nat.le_of_ble_eq_true rfl, Nat.le_of_ble_eq_true rfl⟩ ⟨rfl, rfl⟩ (hm_recv ⟨X, hK.1⟩ hY (w6 hiT) rfl) rfl hl.1 rfl (Nat.le_of_ble_eq_true rfl) d_P_stopLateDeadlines_18 ⟨Nat.le_of_ble_eq_true rfl, Nat.le_of_ble_eq_true rfl⟩) (fun v hv => ?_)
        subst hv
        refine W.eq (g2 := F0 m 21 ls [.ref (T.ad 8 i j)]) rfl ?_
        refine va_castY X.1 X.2.1 X.2.2.2.1 (X.2.2.2.2 _ m_265) hK.2.1.2.2.2.1 (hm_recv ⟨X, hK.1⟩ hY (w8 hiT hj) rfl) d_P_stopLateDeadlines_21 ?_
        refine lv_astore (lv' := [(4, .ref (T.ad 8 i j)), (3, .int (nI j)), (0, .ref (T.ad 4 i 0)), (1, .long t)]) X.1 X.2.1 d_P_stopLateDeadlines_24 hl (by decide) rfl (fun ls hl => ?_)
        refine lv_aload X.1 X.2.1 d_P_stopLateDeadlines_26 (lv_at hl 0 rfl) ?_
        refine hm_get ⟨X, hK.1⟩ hY (w8 hiT hj) 5 (v := .int (T.I 23 i j)) rfl rfl (Nat.le_of_ble_eq_true rfl) hu_D m_173 (fun _ h => h) d_P_stopLateDeadlines_28 ?_
        refine lv_if_eq (tgt := 61) X.1 X.2.1 d_P_stopLateDeadlines_31 (by decide) (fun c1 => ?_) (fun c1 => ?_)
        · refine lv_iinc (v := nI (j + 1)) (lv' := [(3, .int (nI (j + 1))), (4, .ref (T.ad 8 i j)), (0, .ref (T.ad 4 i 0)), (1, .long t)]) X.1 X.2.1 d_P_stopLateDeadlines_61 hl (k := 1) rfl (nI_1 j) (by decide) rfl (fun ls hl => ?_)
          refine lv_goto (tgt := 2) X.1 X.2.1 d_P_stopLateDeadlines_64 (by decide) ?_
          exact ih (j + 1) T _ _ _ (by omega) (by omega) (by rw [show sD S i t (j + 1) = sD1 (sD S i t j) i t j from rfl, ← hT, sD1, if_pos c1]) hC hY (lv_sub hl [0, 2, 3] rfl)
        · refine lv_lload_n X.1 X.2.1 d_P_stopLateDeadlines_34 rfl (lv_at hl 3 rfl) ?_
          refine lv_aload X.1 X.2.1 d_P_stopLateDeadlines_35 (lv_at hl 0 rfl) ?_
          refine hm_get ⟨X, hK.1⟩ hY (w8 hiT hj) 6 (v := .long (T.J 22 i j)) rfl rfl (Nat.le_of_ble_eq_true rfl) hu_D m_175 (fun _ h => h) d_P_stopLateDeadlines_37 ?_
          refine lv_lsub X.1 X.2.1 d_P_stopLateDeadlines_40 ?_
          refine lv_aload X.1 X.2.1 d_P_stopLateDeadlines_41 (lv_at hl 0 rfl) ?_
          refine hm_get ⟨X, hK.1⟩ hY (w8 hiT hj) 4 (v := .long (T.J 21 i j)) rfl rfl (Nat.le_of_ble_eq_true rfl) hu_D m_171 (fun _ h => h) d_P_stopLateDeadlines_43 ?_
          refine lc_le (tgt := 61) X d_P_stopLateDeadlines_46 d_P_stopLateDeadlines_47 (by decide) (fun c2 => ?_) (fun c2 => ?_)
          · refine lv_iinc (v := nI (j + 1)) (lv' := [(3, .int (nI (j + 1))), (4, .ref (T.ad 8 i j)), (0, .ref (T.ad 4 i 0)), (1, .long t)]) X.1 X.2.1 d_P_stopLateDeadlines_61 hl (k := 1) rfl (nI_1 j) (by decide) rfl (fun ls hl => ?_)
            refine lv_goto (tgt := 2) X.1 X.2.1 d_P_stopLateDeadlines_64 (by decide) ?_
            exact ih (j + 1) T _ _ _ (by omega) (by omega) (by rw [show sD S i t (j + 1) = sD1 (sD S i t j) i t j from rfl, ← hT, sD1, if_neg c1, if_pos c2]) hC hY (lv_sub hl [0, 2, 3] rfl)
          · refine lv_aload_n X.1 X.2.1 d_P_stopLateDeadlines_50 rfl (lv_at hl 2 rfl) ?_
            refine lv_iconst (v := 1) X.1 X.2.1 d_P_stopLateDeadlines_51 (by decide) ?_
            refine hm_put ⟨X, hK.1⟩ hY (w4 hiT) 10 rfl (Nat.le_of_ble_eq_true rfl) (Nat.le_of_ble_eq_true rfl) hu_P ty_P ty_P_ok nm_P m_456 (fun _ h => h) rfl rfl rfl d_P_stopLateDeadlines_52 (fun H locs hY => ?_)
            have hY : hm_Y D cls A s.heap (wS G (T.sI 17 i 0 1) ω) H locs := by rw [← fo_P_10 (S := T) (v := 1) hiT]; exact hY
            refine lv_aload X.1 X.2.1 d_P_stopLateDeadlines_55 (lv_at hl 0 rfl) ?_
            refine lv_iconst (v := 0) X.1 X.2.1 d_P_stopLateDeadlines_57 (by decide) ?_
            refine hm_put ⟨X, hK.1⟩ hY (w8 hiT hj) 5 rfl (Nat.le_of_ble_eq_true rfl) (Nat.le_of_ble_eq_true rfl) hu_D ty_D ty_D_ok nm_D m_173 (fun _ h => h) rfl rfl rfl d_P_stopLateDeadlines_58 (fun H locs hY => ?_)
            have hY : hm_Y D cls A s.heap (wS G ((T.sI 17 i 0 1).sI 23 i j 0) ω) H locs := by rw [← fo_D_5 (S := (T.sI 17 i 0 1)) (v := 0) hiT hj]; exact hY
            refine lv_iinc (v := nI (j + 1)) (lv' := [(3, .int (nI (j + 1))), (4, .ref (T.ad 8 i j)), (0, .ref (T.ad 4 i 0)), (1, .long t)]) X.1 X.2.1 d_P_stopLateDeadlines_61 hl (k := 1) rfl (nI_1 j) (by decide) rfl (fun ls hl => ?_)
            refine lv_goto (tgt := 2) X.1 X.2.1 d_P_stopLateDeadlines_64 (by decide) ?_
            exact ih (j + 1) ((T.sI 17 i 0 1).sI 23 i j 0) _ _ _ (by omega) (by omega) (by rw [show sD S i t (j + 1) = sD1 (sD S i t j) i t j from rfl, ← hT, sD1, if_neg c1, if_neg c2]) hC hY (lv_sub hl [0, 2, 3] rfl)
  exact loop (S.C 1 i + 1) 0 S ls _ _ (Nat.zero_le _) (by omega) rfl rfl hY (lv_sub hl [0, 1, 2] rfl)
end
section
def pP (S : cS) (i : Nat) (mo p : Int32) (t : Int64) : cS :=
  if S.I 13 i 0 = 2 then S.sI 16 i 0 p
  else if hE S i (mo * 31 + S.I 16 i 0) p then
    (if p = 1 then (bD (eD (S.sI 16 i 0 p) i p t ((S.sI 16 i 0 p).C 1 i)) i mo p t ((eD (S.sI 16 i 0 p) i p t ((S.sI 16 i 0 p).C 1 i)).C 1 i)).sI 15 i 0 ((bD (eD (S.sI 16 i 0 p) i p t ((S.sI 16 i 0 p).C 1 i)) i mo p t ((eD (S.sI 16 i 0 p) i p t ((S.sI 16 i 0 p).C 1 i)).C 1 i)).I 15 i 0 + 1)
     else bD (eD (S.sI 16 i 0 p) i p t ((S.sI 16 i 0 p).C 1 i)) i mo p t ((eD (S.sI 16 i 0 p) i p t ((S.sI 16 i 0 p).C 1 i)).C 1 i))
  else (S.sI 16 i 0 p).sI 13 i 0 2
theorem pP_k (S : cS) (i : Nat) (mo p : Int32) (t : Int64) : (pP S i mo p t).C = S.C ∧ (pP S i mo p t).ad = S.ad := by
  have h1 := eD_k (S.sI 16 i 0 p) i p t ((S.sI 16 i 0 p).C 1 i)
  have h2 := bD_k (eD (S.sI 16 i 0 p) i p t ((S.sI 16 i 0 p).C 1 i)) i mo p t ((eD (S.sI 16 i 0 p) i p t ((S.sI 16 i 0 p).C 1 i)).C 1 i)
  unfold pP
  split
  · exact ⟨rfl, rfl⟩
  · split
    · split
      · exact ⟨h2.1.trans h1.1, h2.2.trans h1.2⟩
      · exact ⟨h2.1.trans h1.1, h2.2.trans h1.2⟩
    · exact ⟨rfl, rfl⟩
/-- passCycle: behind the deadlines -/
def pc1 (S : cS) (i : Nat) (ag : Int32) : cS :=
  if S.J 10 i 0 ≤ 0 then S else if ag.toInt64 - ag.toInt64 / S.J 10 i 0 * S.J 10 i 0 = 0 then cA S i ag else S
def pC (S : cS) (i : Nat) (ag : Int32) (t : Int64) : cS := if S.I 13 i 0 = 2 then S else (jU (pc1 (sD S i t (S.C 1 i)) i ag) i).sI 17 i 0 0
theorem cA_k (S : cS) (i : Nat) (ag : Int32) : (cA S i ag).C = S.C ∧ (cA S i ag).ad = S.ad := by
  unfold cA
  repeat' split
  all_goals exact ⟨rfl, rfl⟩
theorem jU_k (S : cS) (i : Nat) : (jU S i).C = S.C ∧ (jU S i).ad = S.ad := by
  unfold jU
  repeat' split
  all_goals exact ⟨rfl, rfl⟩
theorem pc1_k (S : cS) (i : Nat) (ag : Int32) : (pc1 S i ag).C = S.C ∧ (pc1 S i ag).ad = S.ad := by
  unfold pc1
  repeat' split
  · exact ⟨rfl, rfl⟩
  · exact cA_k S i ag
  · exact ⟨rfl, rfl⟩
theorem pC_k (S : cS) (i : Nat) (ag : Int32) (t : Int64) : (pC S i ag t).C = S.C ∧ (pC S i ag t).ad = S.ad := by
  have h1 := sD_k S i t (S.C 1 i)
  have h2 := pc1_k (sD S i t (S.C 1 i)) i ag
  have h3 := jU_k (pc1 (sD S i t (S.C 1 i)) i ag) i
  unfold pC
  split
  · exact ⟨rfl, rfl⟩
  · exact ⟨h3.1.trans (h2.1.trans h1.1), h3.2.trans (h2.2.trans h1.2)⟩
theorem fC_k (S : cS) (i : Nat) : (fC S i).C = S.C ∧ (fC S i).ad = S.ad := fDs_k (((S.sI 15 i 0 0).sI 17 i 0 0).sI 16 i 0 0) i (S.C 1 i)
theorem bA_k (S : cS) (i : Nat) : (bA S i).C = S.C ∧ (bA S i).ad = S.ad := fC_k S i

set_option maxHeartbeats 4000000 in
set_option maxRecDepth 100000 in
theorem k_P_checkAliveCount (l : Launch) (D : va_G) (A : Nat → Prop) (G : Nat → Nat) (S : cS) (ω : hm_T) (i : Nat) (hi : i < S.C 0 0) (ag : Int32) : Met l y_P_checkAliveCount (.code y_P_checkAliveCount c_P_checkAliveCount 2 (none : Option FieldType) :: wsA) { frames := 1, cells := 0, slots := 0, locals := 25 } (va_Pc [.ref (S.ad 4 i 0), .int ag] (ctU D A G (wS G S ω))) (hm_Q D cls A (fun v w => v = none ∧ w = wS G (cA S i ag) ω)) 0 0 A := by
  refine ct_met (by decide) (Nat.le_of_ble_eq_true rfl) ?_
  rintro p e s m below meth c ls X hr hlocks hnm hl ⟨hB, hK⟩
  have hl : lv_has ls 2 [(0, .ref (S.ad 4 i 0)), (1, .int ag)] := hl
  have hY : hm_Y D cls A s.heap (wS G S ω) s.heap [] := hm_Y.start hB hK.2.2.2
  refine lv_iload_n X.1 X.2.1 d_P_checkAliveCount_0 rfl (lv_at hl 1 rfl) ?_
  refine lv_iconst (v := 2) X.1 X.2.1 d_P_checkAliveCount_1 (by decide) ?_
  refine lv_icmp_le (tgt := 31) X.1 X.2.1 d_P_checkAliveCount_2 (by decide) (fun c1 => ?_) (fun c1 => ?_)
  · refine lv_aload_n X.1 X.2.1 d_P_checkAliveCount_31 rfl (lv_at hl 0 rfl) ?_
    refine lv_iconst (v := 0) X.1 X.2.1 d_P_checkAliveCount_32 (by decide) ?_
    refine hm_put ⟨X, hK.1⟩ hY (w4 hi) 8 rfl (Nat.le_of_ble_eq_true rfl) (Nat.le_of_ble_eq_true rfl) hu_P ty_P ty_P_ok nm_P m_454 (fun _ h => h) rfl rfl rfl d_P_checkAliveCount_33 (fun H locs hY => ?_)
    have hY : hm_Y D cls A s.heap (wS G (S.sI 15 i 0 0) ω) H locs := by rw [← fo_P_8 (S := S) (v := 0) hi]; exact hY
    exact en_vW X hY hr hlocks d_P_checkAliveCount_36 (⟨rfl, by rw [cA, if_pos c1]⟩)
  · refine lv_aload_n X.1 X.2.1 d_P_checkAliveCount_5 rfl (lv_at hl 0 rfl) ?_
    refine hm_get ⟨X, hK.1⟩ hY (w4 hi) 8 (v := .int (S.I 15 i 0)) rfl rfl (Nat.le_of_ble_eq_true rfl) hu_P m_454 (fun _ h => h) d_P_checkAliveCount_6 ?_
    refine lv_i2l (v := (S.I 15 i 0).toInt64) X.1 X.2.1 d_P_checkAliveCount_9 rfl ?_
    refine lv_aload_n X.1 X.2.1 d_P_checkAliveCount_10 rfl (lv_at hl 0 rfl) ?_
    refine hm_get ⟨X, hK.1⟩ hY (w4 hi) 0 (v := .int (S.I 10 i 0)) rfl rfl (Nat.le_of_ble_eq_true rfl) hu_P m_443 (fun _ h => h) d_P_checkAliveCount_11 ?_
    refine lv_i2l (v := (S.I 10 i 0).toInt64) X.1 X.2.1 d_P_checkAliveCount_14 rfl ?_
    refine lv_aload_n X.1 X.2.1 d_P_checkAliveCount_15 rfl (lv_at hl 0 rfl) ?_
    refine hm_get ⟨X, hK.1⟩ hY (w4 hi) 1 (v := .int (S.I 11 i 0)) rfl rfl (Nat.le_of_ble_eq_true rfl) hu_P m_444 (fun _ h => h) d_P_checkAliveCount_16 ?_
    refine lv_i2l (v := (S.I 11 i 0).toInt64) X.1 X.2.1 d_P_checkAliveCount_19 rfl ?_
    refine hm_callR (ct_runN (n := 3) X hK hY (k_W_isWithin l D A G (wS G S ω) (S.I 15 i 0).toInt64 (S.I 10 i 0).toInt64 (S.I 11 i 0).toInt64) m_119 hK.2.1.1 m_118 m_1 (by decide +kernel) ⟨Nat.le_of_ble_eq_true rfl, Nat.le_of_ble_eq_true rfl⟩ ⟨rfl, rfl⟩ rfl hl.1 rfl (Nat.le_of_ble_eq_true rfl) d_P_checkAliveCount_20 ⟨Nat.le_of_ble_eq_true rfl, Nat.le_of_ble_eq_true rfl⟩) (fun v hv => ?_)
    subst hv
    refine W.eq (g2 := F0 m 23 ls [.int (b2 ((S.I 10 i 0).toInt64 ≤ (S.I 15 i 0).toInt64 ∧ (S.I 15 i 0).toInt64 ≤ (S.I 11 i 0).toInt64))]) rfl ?_
    refine lv_if_ne (tgt := 31) X.1 X.2.1 d_P_checkAliveCount_23 (by decide) (fun c2 => ?_) (fun c2 => ?_)
    · have c2 : ((S.I 10 i 0).toInt64 ≤ (S.I 15 i 0).toInt64 ∧ (S.I 15 i 0).toInt64 ≤ (S.I 11 i 0).toInt64) := Classical.byContradiction (fun z => c2 (b2_0.mpr z))
      refine lv_aload_n X.1 X.2.1 d_P_checkAliveCount_31 rfl (lv_at hl 0 rfl) ?_
      refine lv_iconst (v := 0) X.1 X.2.1 d_P_checkAliveCount_32 (by decide) ?_
      refine hm_put ⟨X, hK.1⟩ hY (w4 hi) 8 rfl (Nat.le_of_ble_eq_true rfl) (Nat.le_of_ble_eq_true rfl) hu_P ty_P ty_P_ok nm_P m_454 (fun _ h => h) rfl rfl rfl d_P_checkAliveCount_33 (fun H locs hY => ?_)
      have hY : hm_Y D cls A s.heap (wS G (S.sI 15 i 0 0) ω) H locs := by rw [← fo_P_8 (S := S) (v := 0) hi]; exact hY
      exact en_vW X hY hr hlocks d_P_checkAliveCount_36 (⟨rfl, by rw [cA, if_neg c1, if_pos c2]⟩)
    · have c2 : ¬ ((S.I 10 i 0).toInt64 ≤ (S.I 15 i 0).toInt64 ∧ (S.I 15 i 0).toInt64 ≤ (S.I 11 i 0).toInt64) := b2_0.mp c2
      refine lv_aload_n X.1 X.2.1 d_P_checkAliveCount_26 rfl (lv_at hl 0 rfl) ?_
      refine lv_iconst (v := 1) X.1 X.2.1 d_P_checkAliveCount_27 (by decide) ?_
      refine hm_put ⟨X, hK.1⟩ hY (w4 hi) 10 rfl (Nat.le_of_ble_eq_true rfl) (Nat.le_of_ble_eq_true rfl) hu_P ty_P ty_P_ok nm_P m_456 (fun _ h => h) rfl rfl rfl d_P_checkAliveCount_28 (fun H locs hY => ?_)
      have hY : hm_Y D cls A s.heap (wS G (S.sI 17 i 0 1) ω) H locs := by rw [← fo_P_10 (S := S) (v := 1) hi]; exact hY
      refine lv_aload_n X.1 X.2.1 d_P_checkAliveCount_31 rfl (lv_at hl 0 rfl) ?_
      refine lv_iconst (v := 0) X.1 X.2.1 d_P_checkAliveCount_32 (by decide) ?_
      refine hm_put ⟨X, hK.1⟩ hY (w4 hi) 8 rfl (Nat.le_of_ble_eq_true rfl) (Nat.le_of_ble_eq_true rfl) hu_P ty_P ty_P_ok nm_P m_454 (fun _ h => h) rfl rfl rfl d_P_checkAliveCount_33 (fun H locs hY => ?_)
      have hY : hm_Y D cls A s.heap (wS G ((S.sI 17 i 0 1).sI 15 i 0 0) ω) H locs := by rw [← fo_P_8 (S := (S.sI 17 i 0 1)) (v := 0) hi]; exact hY
      exact en_vW X hY hr hlocks d_P_checkAliveCount_36 (⟨rfl, by rw [cA, if_neg c1, if_neg c2]⟩)

set_option maxHeartbeats 4000000 in
set_option maxRecDepth 100000 in
theorem k_P_judge (l : Launch) (D : va_G) (A : Nat → Prop) (G : Nat → Nat) (S : cS) (ω : hm_T) (i : Nat) (hi : i < S.C 0 0) : Met l y_P_judge (.code y_P_judge c_P_judge 1 (none : Option FieldType) :: wsA) { frames := 0, cells := 0, slots := 0, locals := 0 } (va_Pc [.ref (S.ad 4 i 0)] (ctU D A G (wS G S ω))) (hm_Q D cls A (fun v w => v = none ∧ w = wS G (jU S i) ω)) 0 0 A := by
  refine ct_met (by decide) (Nat.le_of_ble_eq_true rfl) ?_
  rintro p e s m below meth c ls X hr hlocks hnm hl ⟨hB, hK⟩
  have hl : lv_has ls 1 [(0, .ref (S.ad 4 i 0))] := hl
  have hY : hm_Y D cls A s.heap (wS G S ω) s.heap [] := hm_Y.start hB hK.2.2.2
  refine lv_aload_n X.1 X.2.1 d_P_judge_0 rfl (lv_at hl 0 rfl) ?_
  refine hm_get ⟨X, hK.1⟩ hY (w4 hi) 10 (v := .int (S.I 17 i 0)) rfl rfl (Nat.le_of_ble_eq_true rfl) hu_P m_456 (fun _ h => h) d_P_judge_1 ?_
  refine lv_if_eq (tgt := 40) X.1 X.2.1 d_P_judge_4 (by decide) (fun c1 => ?_) (fun c1 => ?_)
  · refine lv_aload_n X.1 X.2.1 d_P_judge_40 rfl (lv_at hl 0 rfl) ?_
    refine hm_get ⟨X, hK.1⟩ hY (w4 hi) 6 (v := .int (S.I 13 i 0)) rfl rfl (Nat.le_of_ble_eq_true rfl) hu_P m_451 (fun _ h => h) d_P_judge_41 ?_
    refine lv_iconst (v := 1) X.1 X.2.1 d_P_judge_44 (by decide) ?_
    refine lv_icmp_ne (tgt := 74) X.1 X.2.1 d_P_judge_45 (by decide) (fun c2 => ?_) (fun c2 => ?_)
    · exact en_vW X hY hr hlocks d_P_judge_74 (⟨rfl, by rw [jU, if_pos c1, if_neg c2]⟩)
    · refine lv_aload_n X.1 X.2.1 d_P_judge_48 rfl (lv_at hl 0 rfl) ?_
      refine lv_dup X.1 X.2.1 d_P_judge_49 rfl ?_
      refine hm_get ⟨X, hK.1⟩ hY (w4 hi) 7 (v := .int (S.I 14 i 0)) rfl rfl (Nat.le_of_ble_eq_true rfl) hu_P m_453 (fun _ h => h) d_P_judge_50 ?_
      refine lv_iconst (v := 1) X.1 X.2.1 d_P_judge_53 (by decide) ?_
      refine lv_isub X.1 X.2.1 d_P_judge_54 ?_
      refine hm_put ⟨X, hK.1⟩ hY (w4 hi) 7 rfl (Nat.le_of_ble_eq_true rfl) (Nat.le_of_ble_eq_true rfl) hu_P ty_P ty_P_ok nm_P m_453 (fun _ h => h) rfl rfl rfl d_P_judge_55 (fun H locs hY => ?_)
      have hY : hm_Y D cls A s.heap (wS G (S.sI 14 i 0 ((S.I 14 i 0) - 1)) ω) H locs := by rw [← fo_P_7 (S := S) (v := (S.I 14 i 0) - 1) hi]; exact hY
      refine lv_aload_n X.1 X.2.1 d_P_judge_58 rfl (lv_at hl 0 rfl) ?_
      refine lv_aload_n X.1 X.2.1 d_P_judge_59 rfl (lv_at hl 0 rfl) ?_
      refine hm_get ⟨X, hK.1⟩ hY (w4 hi) 7 (v := .int ((S.I 14 i 0) - 1)) (by simp [fW, fQ, fP, fD, cS.sI, cS.sJ, cS.sA, cS.sC, cS.I, cS.J, cS.ad, cS.C, up3]) rfl (Nat.le_of_ble_eq_true rfl) hu_P m_453 (fun _ h => h) d_P_judge_60 ?_
      refine lv_if_le (tgt := 70) X.1 X.2.1 d_P_judge_63 (by decide) (fun c3 => ?_) (fun c3 => ?_)
      · refine lv_iconst (v := 0) X.1 X.2.1 d_P_judge_70 (by decide) ?_
        refine hm_put ⟨X, hK.1⟩ hY (w4 hi) 6 rfl (Nat.le_of_ble_eq_true rfl) (Nat.le_of_ble_eq_true rfl) hu_P ty_P ty_P_ok nm_P m_451 (fun _ h => h) rfl rfl rfl d_P_judge_71 (fun H locs hY => ?_)
        have hY : hm_Y D cls A s.heap (wS G ((S.sI 14 i 0 ((S.I 14 i 0) - 1)).sI 13 i 0 0) ω) H locs := by rw [← fo_P_6 (S := (S.sI 14 i 0 ((S.I 14 i 0) - 1))) (v := 0) hi]; exact hY
        exact en_vW X hY hr hlocks d_P_judge_74 (⟨rfl, by rw [jU, if_pos c1, if_pos c2, if_pos c3]⟩)
      · refine lv_iconst (v := 1) X.1 X.2.1 d_P_judge_66 (by decide) ?_
        refine lv_goto (tgt := 71) X.1 X.2.1 d_P_judge_67 (by decide) ?_
        refine hm_put ⟨X, hK.1⟩ hY (w4 hi) 6 rfl (Nat.le_of_ble_eq_true rfl) (Nat.le_of_ble_eq_true rfl) hu_P ty_P ty_P_ok nm_P m_451 (fun _ h => h) rfl rfl rfl d_P_judge_71 (fun H locs hY => ?_)
        have hY : hm_Y D cls A s.heap (wS G ((S.sI 14 i 0 ((S.I 14 i 0) - 1)).sI 13 i 0 1) ω) H locs := by rw [← fo_P_6 (S := (S.sI 14 i 0 ((S.I 14 i 0) - 1))) (v := 1) hi]; exact hY
        exact en_vW X hY hr hlocks d_P_judge_74 (⟨rfl, by rw [jU, if_pos c1, if_pos c2, if_neg c3]⟩)
  · refine lv_aload_n X.1 X.2.1 d_P_judge_7 rfl (lv_at hl 0 rfl) ?_
    refine lv_dup X.1 X.2.1 d_P_judge_8 rfl ?_
    refine hm_get ⟨X, hK.1⟩ hY (w4 hi) 7 (v := .int (S.I 14 i 0)) rfl rfl (Nat.le_of_ble_eq_true rfl) hu_P m_453 (fun _ h => h) d_P_judge_9 ?_
    refine lv_iconst (v := 1) X.1 X.2.1 d_P_judge_12 (by decide) ?_
    refine lv_iadd X.1 X.2.1 d_P_judge_13 ?_
    refine hm_put ⟨X, hK.1⟩ hY (w4 hi) 7 rfl (Nat.le_of_ble_eq_true rfl) (Nat.le_of_ble_eq_true rfl) hu_P ty_P ty_P_ok nm_P m_453 (fun _ h => h) rfl rfl rfl d_P_judge_14 (fun H locs hY => ?_)
    have hY : hm_Y D cls A s.heap (wS G (S.sI 14 i 0 ((S.I 14 i 0) + 1)) ω) H locs := by rw [← fo_P_7 (S := S) (v := (S.I 14 i 0) + 1) hi]; exact hY
    refine lv_aload_n X.1 X.2.1 d_P_judge_17 rfl (lv_at hl 0 rfl) ?_
    refine lv_aload_n X.1 X.2.1 d_P_judge_18 rfl (lv_at hl 0 rfl) ?_
    refine hm_get ⟨X, hK.1⟩ hY (w4 hi) 7 (v := .int ((S.I 14 i 0) + 1)) (by simp [fW, fQ, fP, fD, cS.sI, cS.sJ, cS.sA, cS.sC, cS.I, cS.J, cS.ad, cS.C, up3]) rfl (Nat.le_of_ble_eq_true rfl) hu_P m_453 (fun _ h => h) d_P_judge_19 ?_
    refine lv_aload_n X.1 X.2.1 d_P_judge_22 rfl (lv_at hl 0 rfl) ?_
    refine hm_get ⟨X, hK.1⟩ hY (w4 hi) 5 (v := .int (S.I 12 i 0)) rfl rfl (Nat.le_of_ble_eq_true rfl) hu_P m_449 (fun _ h => h) d_P_judge_23 ?_
    refine lv_icmp_le (tgt := 33) X.1 X.2.1 d_P_judge_26 (by decide) (fun c4 => ?_) (fun c4 => ?_)
    · refine lv_iconst (v := 1) X.1 X.2.1 d_P_judge_33 (by decide) ?_
      refine hm_put ⟨X, hK.1⟩ hY (w4 hi) 6 rfl (Nat.le_of_ble_eq_true rfl) (Nat.le_of_ble_eq_true rfl) hu_P ty_P ty_P_ok nm_P m_451 (fun _ h => h) rfl rfl rfl d_P_judge_34 (fun H locs hY => ?_)
      have hY : hm_Y D cls A s.heap (wS G ((S.sI 14 i 0 ((S.I 14 i 0) + 1)).sI 13 i 0 1) ω) H locs := by rw [← fo_P_6 (S := (S.sI 14 i 0 ((S.I 14 i 0) + 1))) (v := 1) hi]; exact hY
      refine lv_goto (tgt := 74) X.1 X.2.1 d_P_judge_37 (by decide) ?_
      exact en_vW X hY hr hlocks d_P_judge_74 (⟨rfl, by rw [jU, if_neg c1, if_pos c4]⟩)
    · refine lv_iconst (v := 2) X.1 X.2.1 d_P_judge_29 (by decide) ?_
      refine lv_goto (tgt := 34) X.1 X.2.1 d_P_judge_30 (by decide) ?_
      refine hm_put ⟨X, hK.1⟩ hY (w4 hi) 6 rfl (Nat.le_of_ble_eq_true rfl) (Nat.le_of_ble_eq_true rfl) hu_P ty_P ty_P_ok nm_P m_451 (fun _ h => h) rfl rfl rfl d_P_judge_34 (fun H locs hY => ?_)
      have hY : hm_Y D cls A s.heap (wS G ((S.sI 14 i 0 ((S.I 14 i 0) + 1)).sI 13 i 0 2) ω) H locs := by rw [← fo_P_6 (S := (S.sI 14 i 0 ((S.I 14 i 0) + 1))) (v := 2) hi]; exact hY
      refine lv_goto (tgt := 74) X.1 X.2.1 d_P_judge_37 (by decide) ?_
      exact en_vW X hY hr hlocks d_P_judge_74 (⟨rfl, by rw [jU, if_neg c1, if_neg c4]⟩)

set_option maxHeartbeats 4000000 in
set_option maxRecDepth 100000 in
theorem k_P_forgetCourse (l : Launch) (D : va_G) (A : Nat → Prop) (G : Nat → Nat) (S : cS) (ω : hm_T) (i : Nat) (hi : i < S.C 0 0) (h10 : S.C 1 i ≤ 10) : Met l y_P_forgetCourse (.code y_P_forgetCourse c_P_forgetCourse 2 (none : Option FieldType) :: wsA) { frames := 3, cells := 0, slots := 0, locals := 64 } (va_Pc [.ref (S.ad 4 i 0)] (ctU D A G (wS G S ω))) (hm_Q D cls A (fun v w => v = none ∧ w = wS G (fC S i) ω)) 0 0 A := by
  refine ct_met (by decide) (Nat.le_of_ble_eq_true rfl) ?_
  rintro p e s m below meth c ls X hr hlocks hnm hl ⟨hB, hK⟩
  have hl : lv_has ls 2 [(0, .ref (S.ad 4 i 0))] := hl
  have hY : hm_Y D cls A s.heap (wS G S ω) s.heap [] := hm_Y.start hB hK.2.2.2
  refine lv_aload_n X.1 X.2.1 d_P_forgetCourse_0 rfl (lv_at hl 0 rfl) ?_
  refine lv_iconst (v := 0) X.1 X.2.1 d_P_forgetCourse_1 (by decide) ?_
  refine hm_put ⟨X, hK.1⟩ hY (w4 hi) 8 rfl (Nat.le_of_ble_eq_true rfl) (Nat.le_of_ble_eq_true rfl) hu_P ty_P ty_P_ok nm_P m_454 (fun _ h => h) rfl rfl rfl d_P_forgetCourse_2 (fun H locs hY => ?_)
  have hY : hm_Y D cls A s.heap (wS G (S.sI 15 i 0 0) ω) H locs := by rw [← fo_P_8 (S := S) (v := 0) hi]; exact hY
  refine lv_aload_n X.1 X.2.1 d_P_forgetCourse_5 rfl (lv_at hl 0 rfl) ?_
  refine lv_iconst (v := 0) X.1 X.2.1 d_P_forgetCourse_6 (by decide) ?_
  refine hm_put ⟨X, hK.1⟩ hY (w4 hi) 10 rfl (Nat.le_of_ble_eq_true rfl) (Nat.le_of_ble_eq_true rfl) hu_P ty_P ty_P_ok nm_P m_456 (fun _ h => h) rfl rfl rfl d_P_forgetCourse_7 (fun H locs hY => ?_)
  have hY : hm_Y D cls A s.heap (wS G ((S.sI 15 i 0 0).sI 17 i 0 0) ω) H locs := by rw [← fo_P_10 (S := (S.sI 15 i 0 0)) (v := 0) hi]; exact hY
  refine lv_aload_n X.1 X.2.1 d_P_forgetCourse_10 rfl (lv_at hl 0 rfl) ?_
  refine lv_iconst (v := 0) X.1 X.2.1 d_P_forgetCourse_11 (by decide) ?_
  refine hm_put ⟨X, hK.1⟩ hY (w4 hi) 9 rfl (Nat.le_of_ble_eq_true rfl) (Nat.le_of_ble_eq_true rfl) hu_P ty_P ty_P_ok nm_P m_455 (fun _ h => h) rfl rfl rfl d_P_forgetCourse_12 (fun H locs hY => ?_)
  have hY : hm_Y D cls A s.heap (wS G (((S.sI 15 i 0 0).sI 17 i 0 0).sI 16 i 0 0) ω) H locs := by rw [← fo_P_9 (S := ((S.sI 15 i 0 0).sI 17 i 0 0)) (v := 0) hi]; exact hY
  refine lv_iconst (v := 0) X.1 X.2.1 d_P_forgetCourse_15 (by decide) ?_
  refine lv_istore_n (lv' := [(1, .int 0), (0, .ref (S.ad 4 i 0))]) X.1 X.2.1 d_P_forgetCourse_16 rfl hl (by decide) rfl (fun ls hl => ?_)
  have loop : ∀ (k j : Nat) (T : cS) (ls : Array Slot) (H : Heap) (locs : List Loc), j ≤ S.C 1 i → S.C 1 i < j + k → T = fDs (((S.sI 15 i 0 0).sI 17 i 0 0).sI 16 i 0 0) i j → T.C = S.C → hm_Y D cls A s.heap (wS G T ω) H locs → lv_has ls 2 [(1, .int (nI j)), (0, .ref (T.ad 4 i 0))] → W p l e { frames := 3, cells := 0, slots := 0, locals := 64 } s m (([.ref (S.ad 4 i 0)] : List Value).toArray) below meth c H locs 0 0 (MQ below (hm_Q D cls A (fun v w => v = none ∧ w = wS G (fC S i) ω)) (([.ref (S.ad 4 i 0)] : List Value).toArray) s 0 0 A) (F0 m 17 ls []) := by
    intro k
    induction k with
    | zero => intro j T ls H locs hle hlt; omega
    | succ k ih =>
      intro j T ls H locs hle hlt hT hC hY hl
      have hiT : i < T.C 0 0 := by rw [hC]; exact hi
      refine lv_iload_n X.1 X.2.1 d_P_forgetCourse_17 rfl (lv_at hl 0 rfl) ?_
      refine lv_aload_n X.1 X.2.1 d_P_forgetCourse_18 rfl (lv_at hl 1 rfl) ?_
      refine hm_get ⟨X, hK.1⟩ hY (w4 hiT) 4 (v := .ref (T.ad 6 i 0)) rfl rfl (Nat.le_of_ble_eq_true rfl) hu_P m_447 (fun _ h => h) d_P_forgetCourse_19 ?_
      refine hm_callR (ct_runV (n := 0) X hK hY (k_size6 l D A G T ω i hiT) m_116 m_263 m_114 m_115 m_4 (by decide +kernel) ⟨Nat.le_of_ble_eq_true rfl, Nat.le_of_ble_eq_true rfl⟩ ⟨rfl, rfl⟩ (hm_recv ⟨X, hK.1⟩ hY (w6 hiT) rfl) rfl hl.1 rfl (Nat.le_of_ble_eq_true rfl) d_P_forgetCourse_22 ⟨Nat.le_of_ble_eq_true rfl, Nat.le_of_ble_eq_true rfl⟩) (fun v hv => ?_)
      subst hv
      refine W.eq (g2 := F0 m 25 ls [.int (nI (T.C 1 i)), .int (nI j)]) rfl ?_
      have hn : T.C 1 i = S.C 1 i := by rw [hC]
      refine lv_icmp_ge (tgt := 49) X.1 X.2.1 d_P_forgetCourse_25 (by decide) (fun c0 => ?_) (fun c0 => ?_)
      · have hj : j = T.C 1 i := by rcases Nat.lt_or_ge j (T.C 1 i) with q | q; exact absurd c0 (nI_ge q (by omega)); omega
        exact en_vW X hY hr hlocks d_P_forgetCourse_49 (⟨rfl, by rw [hT, hj, hn]; rfl⟩)
      · have hj : j < T.C 1 i := by rcases Nat.lt_or_ge j (T.C 1 i) with q | q; exact q; exact absurd (nI_le q (by omega)) c0
        refine lv_aload_n X.1 X.2.1 d_P_forgetCourse_28 rfl (lv_at hl 1 rfl) ?_
        refine hm_get ⟨X, hK.1⟩ hY (w4 hiT) 4 (v := .ref (T.ad 6 i 0)) rfl rfl (Nat.le_of_ble_eq_true rfl) hu_P m_447 (fun _ h => h) d_P_forgetCourse_29 ?_
        refine lv_iload_n X.1 X.2.1 d_P_forgetCourse_32 rfl (lv_at hl 0 rfl) ?_
        refine hm_callR (ct_runV (n := 1) X hK hY (k_get6 l D A G T ω i j hiT hj (by rw [hC]; exact h10)) m_123 m_264 m_121 m_122 m_4 (by decide +kernel) ⟨Nat.le_of_ble_eq_true rfl, Nat.le_of_ble_eq_true rfl⟩ ⟨rfl, rfl⟩ (hm_recv ⟨X, hK.1⟩ hY (w6 hiT) rfl) rfl hl.1 rfl (Nat.le_of_ble_eq_true rfl) d_P_forgetCourse_33 ⟨Nat.le_of_ble_eq_true rfl, Nat.le_of_ble_eq_true rfl⟩) (fun v hv => ?_)
        subst hv
        refine W.eq (g2 := F0 m 36 ls [.ref (T.ad 8 i j)]) rfl ?_
        refine va_castY X.1 X.2.1 X.2.2.2.1 (X.2.2.2.2 _ m_265) hK.2.1.2.2.2.1 (hm_recv ⟨X, hK.1⟩ hY (w8 hiT hj) rfl) d_P_forgetCourse_36 ?_
        refine lv_iconst (v := 0) X.1 X.2.1 d_P_forgetCourse_39 (by decide) ?_
        refine hm_put ⟨X, hK.1⟩ hY (w8 hiT hj) 5 rfl (Nat.le_of_ble_eq_true rfl) (Nat.le_of_ble_eq_true rfl) hu_D ty_D ty_D_ok nm_D m_173 (fun _ h => h) rfl rfl rfl d_P_forgetCourse_40 (fun H locs hY => ?_)
        have hY : hm_Y D cls A s.heap (wS G (T.sI 23 i j 0) ω) H locs := by rw [← fo_D_5 (S := T) (v := 0) hiT hj]; exact hY
        refine lv_iinc (v := nI (j + 1)) (lv' := [(1, .int (nI (j + 1))), (0, .ref (T.ad 4 i 0))]) X.1 X.2.1 d_P_forgetCourse_43 hl (k := 0) rfl (nI_1 j) (by decide) rfl (fun ls hl => ?_)
        refine lv_goto (tgt := 17) X.1 X.2.1 d_P_forgetCourse_46 (by decide) ?_
        exact ih (j + 1) (T.sI 23 i j 0) _ _ _ (by omega) (by omega) (by rw [show fDs (((S.sI 15 i 0 0).sI 17 i 0 0).sI 16 i 0 0) i (j + 1) = fD1 (fDs (((S.sI 15 i 0 0).sI 17 i 0 0).sI 16 i 0 0) i j) i j from rfl, ← hT, fD1]) hC hY (lv_sub hl [0, 1] rfl)
  exact loop (S.C 1 i + 1) 0 (((S.sI 15 i 0 0).sI 17 i 0 0).sI 16 i 0 0) ls _ _ (Nat.zero_le _) (by omega) rfl rfl hY (lv_sub hl [0, 1] rfl)

set_option maxHeartbeats 4000000 in
set_option maxRecDepth 100000 in
theorem k_P_passPoint (l : Launch) (D : va_G) (A : Nat → Prop) (G : Nat → Nat) (S : cS) (ω : hm_T) (i : Nat) (hi : i < S.C 0 0) (h10 : S.C 1 i ≤ 10) (mo p0 : Int32) (t : Int64) : Met l y_P_passPoint (.code y_P_passPoint c_P_passPoint 6 (none : Option FieldType) :: wsA) { frames := 4, cells := 0, slots := 0, locals := 90 } (va_Pc [.ref (S.ad 4 i 0), .int mo, .int p0, .long t] (ctU D A G (wS G S ω))) (hm_Q D cls A (fun v w => v = none ∧ w = wS G (pP S i mo p0 t) ω)) 0 0 A := by
  refine ct_met (by decide) (Nat.le_of_ble_eq_true rfl) ?_
  rintro p e s m below meth c ls X hr hlocks hnm hl ⟨hB, hK⟩
  have hl : lv_has ls 6 [(0, .ref (S.ad 4 i 0)), (1, .int mo), (2, .int p0), (3, .long t)] := hl
  have hY : hm_Y D cls A s.heap (wS G S ω) s.heap [] := hm_Y.start hB hK.2.2.2
  refine lv_aload_n X.1 X.2.1 d_P_passPoint_0 rfl (lv_at hl 0 rfl) ?_
  refine lv_iload_n X.1 X.2.1 d_P_passPoint_1 rfl (lv_at hl 1 rfl) ?_
  refine lv_aload_n X.1 X.2.1 d_P_passPoint_2 rfl (lv_at hl 0 rfl) ?_
  refine hm_get ⟨X, hK.1⟩ hY (w4 hi) 9 (v := .int (S.I 16 i 0)) rfl rfl (Nat.le_of_ble_eq_true rfl) hu_P m_455 (fun _ h => h) d_P_passPoint_3 ?_
  refine lv_iload_n X.1 X.2.1 d_P_passPoint_6 rfl (lv_at hl 2 rfl) ?_
  refine hm_callR (ct_runV (n := 3) X hK hY (k_P_hasEdge l D A G S ω i hi mo (S.I 16 i 0) p0) m_149 m_146 m_147 m_148 m_11 (by decide +kernel) ⟨Nat.le_of_ble_eq_true rfl, Nat.le_of_ble_eq_true rfl⟩ ⟨rfl, rfl⟩ (hm_recv ⟨X, hK.1⟩ hY (w4 hi) rfl) rfl hl.1 rfl (Nat.le_of_ble_eq_true rfl) d_P_passPoint_7 ⟨Nat.le_of_ble_eq_true rfl, Nat.le_of_ble_eq_true rfl⟩) (fun v hv => ?_)
  subst hv
  refine W.eq (g2 := F0 m 10 ls [.int (b2 (hE S i (mo * 31 + S.I 16 i 0) p0))]) rfl ?_
  refine lv_istore (lv' := [(5, .int (b2 (hE S i (mo * 31 + S.I 16 i 0) p0))), (0, .ref (S.ad 4 i 0)), (1, .int mo), (2, .int p0), (3, .long t)]) X.1 X.2.1 d_P_passPoint_10 hl (by decide) rfl (fun ls hl => ?_)
  refine lv_aload_n X.1 X.2.1 d_P_passPoint_12 rfl (lv_at hl 1 rfl) ?_
  refine lv_iload_n X.1 X.2.1 d_P_passPoint_13 rfl (lv_at hl 3 rfl) ?_
  refine hm_put ⟨X, hK.1⟩ hY (w4 hi) 9 rfl (Nat.le_of_ble_eq_true rfl) (Nat.le_of_ble_eq_true rfl) hu_P ty_P ty_P_ok nm_P m_455 (fun _ h => h) rfl rfl rfl d_P_passPoint_14 (fun H locs hY => ?_)
  have hY : hm_Y D cls A s.heap (wS G (S.sI 16 i 0 p0) ω) H locs := by rw [← fo_P_9 (S := S) (v := p0) hi]; exact hY
  refine lv_aload_n X.1 X.2.1 d_P_passPoint_17 rfl (lv_at hl 1 rfl) ?_
  refine hm_get ⟨X, hK.1⟩ hY (w4 hi) 6 (v := .int (S.I 13 i 0)) rfl rfl (Nat.le_of_ble_eq_true rfl) hu_P m_451 (fun _ h => h) d_P_passPoint_18 ?_
  refine lv_iconst (v := 2) X.1 X.2.1 d_P_passPoint_21 (by decide) ?_
  refine lv_icmp_ne (tgt := 26) X.1 X.2.1 d_P_passPoint_22 (by decide) (fun c1 => ?_) (fun c1 => ?_)
  · refine lv_iload X.1 X.2.1 d_P_passPoint_26 (lv_at hl 0 rfl) ?_
    refine lv_if_ne (tgt := 37) X.1 X.2.1 d_P_passPoint_28 (by decide) (fun c2 => ?_) (fun c2 => ?_)
    · have c2 : (hE S i (mo * 31 + S.I 16 i 0) p0) := Classical.byContradiction (fun z => c2 (b2_0.mpr z))
      refine lv_aload_n X.1 X.2.1 d_P_passPoint_37 rfl (lv_at hl 1 rfl) ?_
      refine lv_iload_n X.1 X.2.1 d_P_passPoint_38 rfl (lv_at hl 3 rfl) ?_
      refine lv_lload_n X.1 X.2.1 d_P_passPoint_39 rfl (lv_at hl 4 rfl) ?_
      refine hm_call (ct_runV (n := 2) X hK hY (k_P_endDeadlines l D A G (S.sI 16 i 0 p0) ω i hi h10 p0 t) m_262 m_258 m_260 ms_P_endDeadlines m_11 (by decide +kernel) ⟨Nat.le_of_ble_eq_true rfl, Nat.le_of_ble_eq_true rfl⟩ ⟨rfl, rfl⟩ (hm_recv ⟨X, hK.1⟩ hY (w4 hi) rfl) rfl hl.1 rfl (Nat.le_of_ble_eq_true rfl) d_P_passPoint_40 ⟨Nat.le_of_ble_eq_true rfl, Nat.le_of_ble_eq_true rfl⟩) hY (fun v w1 H locs hp hY => ?_)
      obtain ⟨rfl, rfl⟩ := hp
      refine W.eq (g2 := F0 m 43 ls []) rfl ?_
      obtain ⟨E3, hE3⟩ : ∃ z, z = eD (S.sI 16 i 0 p0) i p0 t ((S.sI 16 i 0 p0).C 1 i) := ⟨_, rfl⟩
      rw [← hE3] at hY
      have hAE3 : E3.ad = S.ad := by rw [hE3]; exact (eD_k (S.sI 16 i 0 p0) i p0 t ((S.sI 16 i 0 p0).C 1 i)).2
      have hCE3 : E3.C = S.C := by rw [hE3]; exact (eD_k (S.sI 16 i 0 p0) i p0 t ((S.sI 16 i 0 p0).C 1 i)).1
      have hiE3 : i < E3.C 0 0 := by rw [hCE3]; exact hi
      have htE3 : E3.C 1 i ≤ 10 := by rw [hCE3]; exact h10
      have hl : lv_has ls 6 [(5, .int (b2 (hE S i (mo * 31 + S.I 16 i 0) p0))), (0, .ref (E3.ad 4 i 0)), (1, .int mo), (2, .int p0), (3, .long t)] := by rw [hAE3]; exact hl
      refine lv_aload_n X.1 X.2.1 d_P_passPoint_43 rfl (lv_at hl 1 rfl) ?_
      refine lv_iload_n X.1 X.2.1 d_P_passPoint_44 rfl (lv_at hl 2 rfl) ?_
      refine lv_iload_n X.1 X.2.1 d_P_passPoint_45 rfl (lv_at hl 3 rfl) ?_
      refine lv_lload_n X.1 X.2.1 d_P_passPoint_46 rfl (lv_at hl 4 rfl) ?_
      refine hm_call (ct_runV (n := 3) X hK hY (k_P_beginDeadlines l D A G E3 ω i hiE3 htE3 mo p0 t) m_269 m_266 m_268 ms_P_beginDeadlines m_11 (by decide +kernel) ⟨Nat.le_of_ble_eq_true rfl, Nat.le_of_ble_eq_true rfl⟩ ⟨rfl, rfl⟩ (hm_recv ⟨X, hK.1⟩ hY (w4 hiE3) rfl) rfl hl.1 rfl (Nat.le_of_ble_eq_true rfl) d_P_passPoint_47 ⟨Nat.le_of_ble_eq_true rfl, Nat.le_of_ble_eq_true rfl⟩) hY (fun v w1 H locs hp hY => ?_)
      obtain ⟨rfl, rfl⟩ := hp
      refine W.eq (g2 := F0 m 50 ls []) rfl ?_
      obtain ⟨E4, hE4⟩ : ∃ z, z = bD E3 i mo p0 t (E3.C 1 i) := ⟨_, rfl⟩
      rw [← hE4] at hY
      have hAE4 : E4.ad = E3.ad := by rw [hE4]; exact (bD_k E3 i mo p0 t (E3.C 1 i)).2
      have hCE4 : E4.C = E3.C := by rw [hE4]; exact (bD_k E3 i mo p0 t (E3.C 1 i)).1
      have hiE4 : i < E4.C 0 0 := by rw [hCE4]; exact hiE3
      have htE4 : E4.C 1 i ≤ 10 := by rw [hCE4]; exact htE3
      have hl : lv_has ls 6 [(5, .int (b2 (hE S i (mo * 31 + S.I 16 i 0) p0))), (0, .ref (E4.ad 4 i 0)), (1, .int mo), (2, .int p0), (3, .long t)] := by rw [hAE4]; exact hl
      refine lv_iload_n X.1 X.2.1 d_P_passPoint_50 rfl (lv_at hl 3 rfl) ?_
      refine lv_iconst (v := 1) X.1 X.2.1 d_P_passPoint_51 (by decide) ?_
      refine lv_icmp_ne (tgt := 65) X.1 X.2.1 d_P_passPoint_52 (by decide) (fun c5 => ?_) (fun c5 => ?_)
      · exact en_vW X hY hr hlocks d_P_passPoint_65 (⟨rfl, by rw [hE4, hE3]; rw [pP, if_neg c1, if_pos c2, if_neg c5]⟩)
      · refine lv_aload_n X.1 X.2.1 d_P_passPoint_55 rfl (lv_at hl 1 rfl) ?_
        refine lv_dup X.1 X.2.1 d_P_passPoint_56 rfl ?_
        refine hm_get ⟨X, hK.1⟩ hY (w4 hiE4) 8 (v := .int (E4.I 15 i 0)) rfl rfl (Nat.le_of_ble_eq_true rfl) hu_P m_454 (fun _ h => h) d_P_passPoint_57 ?_
        refine lv_iconst (v := 1) X.1 X.2.1 d_P_passPoint_60 (by decide) ?_
        refine lv_iadd X.1 X.2.1 d_P_passPoint_61 ?_
        refine hm_put ⟨X, hK.1⟩ hY (w4 hiE4) 8 rfl (Nat.le_of_ble_eq_true rfl) (Nat.le_of_ble_eq_true rfl) hu_P ty_P ty_P_ok nm_P m_454 (fun _ h => h) rfl rfl rfl d_P_passPoint_62 (fun H locs hY => ?_)
        have hY : hm_Y D cls A s.heap (wS G (E4.sI 15 i 0 ((E4.I 15 i 0) + 1)) ω) H locs := by rw [← fo_P_8 (S := E4) (v := (E4.I 15 i 0) + 1) hiE4]; exact hY
        exact en_vW X hY hr hlocks d_P_passPoint_65 (⟨rfl, by rw [hE4, hE3]; rw [pP, if_neg c1, if_pos c2, if_pos c5]⟩)
    · have c2 : ¬ (hE S i (mo * 31 + S.I 16 i 0) p0) := b2_0.mp c2
      refine lv_aload_n X.1 X.2.1 d_P_passPoint_31 rfl (lv_at hl 1 rfl) ?_
      refine lv_iconst (v := 2) X.1 X.2.1 d_P_passPoint_32 (by decide) ?_
      refine hm_put ⟨X, hK.1⟩ hY (w4 hi) 6 rfl (Nat.le_of_ble_eq_true rfl) (Nat.le_of_ble_eq_true rfl) hu_P ty_P ty_P_ok nm_P m_451 (fun _ h => h) rfl rfl rfl d_P_passPoint_33 (fun H locs hY => ?_)
      have hY : hm_Y D cls A s.heap (wS G ((S.sI 16 i 0 p0).sI 13 i 0 2) ω) H locs := by rw [← fo_P_6 (S := (S.sI 16 i 0 p0)) (v := 2) hi]; exact hY
      exact en_vW X hY hr hlocks d_P_passPoint_36 (⟨rfl, by rw [pP, if_neg c1, if_neg c2]⟩)
  · exact en_vW X hY hr hlocks d_P_passPoint_25 (⟨rfl, by rw [pP, if_pos c1]⟩)

set_option maxHeartbeats 4000000 in
set_option maxRecDepth 100000 in
theorem k_P_passCycle (l : Launch) (D : va_G) (A : Nat → Prop) (G : Nat → Nat) (S : cS) (ω : hm_T) (i : Nat) (hi : i < S.C 0 0) (h10 : S.C 1 i ≤ 10) (ag : Int32) (t : Int64) : Met l y_P_passCycle (.code y_P_passCycle c_P_passCycle 4 (none : Option FieldType) :: wsA) { frames := 4, cells := 0, slots := 0, locals := 88 } (va_Pc [.ref (S.ad 4 i 0), .int ag, .long t] (ctU D A G (wS G S ω))) (hm_Q D cls A (fun v w => v = none ∧ w = wS G (pC S i ag t) ω)) 0 0 A := by
  refine ct_met (by decide) (Nat.le_of_ble_eq_true rfl) ?_
  rintro p e s m below meth c ls X hr hlocks hnm hl ⟨hB, hK⟩
  have hl : lv_has ls 4 [(0, .ref (S.ad 4 i 0)), (1, .int ag), (2, .long t)] := hl
  have hY : hm_Y D cls A s.heap (wS G S ω) s.heap [] := hm_Y.start hB hK.2.2.2
  refine lv_aload_n X.1 X.2.1 d_P_passCycle_0 rfl (lv_at hl 0 rfl) ?_
  refine hm_get ⟨X, hK.1⟩ hY (w4 hi) 6 (v := .int (S.I 13 i 0)) rfl rfl (Nat.le_of_ble_eq_true rfl) hu_P m_451 (fun _ h => h) d_P_passCycle_1 ?_
  refine lv_iconst (v := 2) X.1 X.2.1 d_P_passCycle_4 (by decide) ?_
  refine lv_icmp_ne (tgt := 9) X.1 X.2.1 d_P_passCycle_5 (by decide) (fun c1 => ?_) (fun c1 => ?_)
  · refine lv_aload_n X.1 X.2.1 d_P_passCycle_9 rfl (lv_at hl 0 rfl) ?_
    refine lv_lload_n X.1 X.2.1 d_P_passCycle_10 rfl (lv_at hl 2 rfl) ?_
    refine hm_call (ct_runV (n := 1) X hK hY (k_P_stopLateDeadlines l D A G S ω i hi h10 t) m_281 m_278 m_280 ms_P_stopLateDeadlines m_11 (by decide +kernel) ⟨Nat.le_of_ble_eq_true rfl, Nat.le_of_ble_eq_true rfl⟩ ⟨rfl, rfl⟩ (hm_recv ⟨X, hK.1⟩ hY (w4 hi) rfl) rfl hl.1 rfl (Nat.le_of_ble_eq_true rfl) d_P_passCycle_11 ⟨Nat.le_of_ble_eq_true rfl, Nat.le_of_ble_eq_true rfl⟩) hY (fun v w1 H locs hp hY => ?_)
    obtain ⟨rfl, rfl⟩ := hp
    refine W.eq (g2 := F0 m 14 ls []) rfl ?_
    obtain ⟨E2, hE2⟩ : ∃ z, z = sD S i t (S.C 1 i) := ⟨_, rfl⟩
    rw [← hE2] at hY
    have hAE2 : E2.ad = S.ad := by rw [hE2]; exact (sD_k S i t (S.C 1 i)).2
    have hCE2 : E2.C = S.C := by rw [hE2]; exact (sD_k S i t (S.C 1 i)).1
    have hiE2 : i < E2.C 0 0 := by rw [hCE2]; exact hi
    have htE2 : E2.C 1 i ≤ 10 := by rw [hCE2]; exact h10
    have hl : lv_has ls 4 [(0, .ref (E2.ad 4 i 0)), (1, .int ag), (2, .long t)] := by rw [hAE2]; exact hl
    refine lv_aload_n X.1 X.2.1 d_P_passCycle_14 rfl (lv_at hl 0 rfl) ?_
    refine hm_get ⟨X, hK.1⟩ hY (w4 hiE2) 2 (v := .long (E2.J 10 i 0)) rfl rfl (Nat.le_of_ble_eq_true rfl) hu_P m_445 (fun _ h => h) d_P_passCycle_15 ?_
    refine lv_lconst (v := 0) X.1 X.2.1 d_P_passCycle_18 (by decide) ?_
    refine lc_le (tgt := 40) X d_P_passCycle_19 d_P_passCycle_20 (by decide) (fun c3 => ?_) (fun c3 => ?_)
    · refine lv_aload_n X.1 X.2.1 d_P_passCycle_40 rfl (lv_at hl 0 rfl) ?_
      refine hm_call (ct_runV (n := 0) X hK hY (k_P_judge l D A G E2 ω i hiE2) m_289 m_286 m_288 ms_P_judge m_11 (by decide +kernel) ⟨Nat.le_of_ble_eq_true rfl, Nat.le_of_ble_eq_true rfl⟩ ⟨rfl, rfl⟩ (hm_recv ⟨X, hK.1⟩ hY (w4 hiE2) rfl) rfl hl.1 rfl (Nat.le_of_ble_eq_true rfl) d_P_passCycle_41 ⟨Nat.le_of_ble_eq_true rfl, Nat.le_of_ble_eq_true rfl⟩) hY (fun v w1 H locs hp hY => ?_)
      obtain ⟨rfl, rfl⟩ := hp
      refine W.eq (g2 := F0 m 44 ls []) rfl ?_
      obtain ⟨E4, hE4⟩ : ∃ z, z = jU E2 i := ⟨_, rfl⟩
      rw [← hE4] at hY
      have hAE4 : E4.ad = E2.ad := by rw [hE4]; exact (jU_k E2 i).2
      have hCE4 : E4.C = E2.C := by rw [hE4]; exact (jU_k E2 i).1
      have hiE4 : i < E4.C 0 0 := by rw [hCE4]; exact hiE2
      have htE4 : E4.C 1 i ≤ 10 := by rw [hCE4]; exact htE2
      have hl : lv_has ls 4 [(0, .ref (E4.ad 4 i 0)), (1, .int ag), (2, .long t)] := by rw [hAE4]; exact hl
      refine lv_aload_n X.1 X.2.1 d_P_passCycle_44 rfl (lv_at hl 0 rfl) ?_
      refine lv_iconst (v := 0) X.1 X.2.1 d_P_passCycle_45 (by decide) ?_
      refine hm_put ⟨X, hK.1⟩ hY (w4 hiE4) 10 rfl (Nat.le_of_ble_eq_true rfl) (Nat.le_of_ble_eq_true rfl) hu_P ty_P ty_P_ok nm_P m_456 (fun _ h => h) rfl rfl rfl d_P_passCycle_46 (fun H locs hY => ?_)
      have hY : hm_Y D cls A s.heap (wS G (E4.sI 17 i 0 0) ω) H locs := by rw [← fo_P_10 (S := E4) (v := 0) hiE4]; exact hY
      exact en_vW X hY hr hlocks d_P_passCycle_49 (⟨rfl, by rw [hE4, pC, if_neg c1, pc1, ← hE2, if_pos c3]⟩)
    · refine lv_iload_n X.1 X.2.1 d_P_passCycle_23 rfl (lv_at hl 1 rfl) ?_
      refine lv_i2l (v := ag.toInt64) X.1 X.2.1 d_P_passCycle_24 rfl ?_
      refine lv_aload_n X.1 X.2.1 d_P_passCycle_25 rfl (lv_at hl 0 rfl) ?_
      refine hm_get ⟨X, hK.1⟩ hY (w4 hiE2) 2 (v := .long (E2.J 10 i 0)) rfl rfl (Nat.le_of_ble_eq_true rfl) hu_P m_445 (fun _ h => h) d_P_passCycle_26 ?_
      refine lv_lrem X.1 X.2.1 d_P_passCycle_29 (fun z => c3 (by rw [z]; decide)) ?_
      refine lv_lconst (v := 0) X.1 X.2.1 d_P_passCycle_30 (by decide) ?_
      refine lc_ne (tgt := 40) X d_P_passCycle_31 d_P_passCycle_32 (by decide) (fun c5 => ?_) (fun c5 => ?_)
      · refine lv_aload_n X.1 X.2.1 d_P_passCycle_40 rfl (lv_at hl 0 rfl) ?_
        refine hm_call (ct_runV (n := 0) X hK hY (k_P_judge l D A G E2 ω i hiE2) m_289 m_286 m_288 ms_P_judge m_11 (by decide +kernel) ⟨Nat.le_of_ble_eq_true rfl, Nat.le_of_ble_eq_true rfl⟩ ⟨rfl, rfl⟩ (hm_recv ⟨X, hK.1⟩ hY (w4 hiE2) rfl) rfl hl.1 rfl (Nat.le_of_ble_eq_true rfl) d_P_passCycle_41 ⟨Nat.le_of_ble_eq_true rfl, Nat.le_of_ble_eq_true rfl⟩) hY (fun v w1 H locs hp hY => ?_)
        obtain ⟨rfl, rfl⟩ := hp
        refine W.eq (g2 := F0 m 44 ls []) rfl ?_
        obtain ⟨E6, hE6⟩ : ∃ z, z = jU E2 i := ⟨_, rfl⟩
        rw [← hE6] at hY
        have hAE6 : E6.ad = E2.ad := by rw [hE6]; exact (jU_k E2 i).2
        have hCE6 : E6.C = E2.C := by rw [hE6]; exact (jU_k E2 i).1
        have hiE6 : i < E6.C 0 0 := by rw [hCE6]; exact hiE2
        have htE6 : E6.C 1 i ≤ 10 := by rw [hCE6]; exact htE2
        have hl : lv_has ls 4 [(0, .ref (E6.ad 4 i 0)), (1, .int ag), (2, .long t)] := by rw [hAE6]; exact hl
        refine lv_aload_n X.1 X.2.1 d_P_passCycle_44 rfl (lv_at hl 0 rfl) ?_
        refine lv_iconst (v := 0) X.1 X.2.1 d_P_passCycle_45 (by decide) ?_
        refine hm_put ⟨X, hK.1⟩ hY (w4 hiE6) 10 rfl (Nat.le_of_ble_eq_true rfl) (Nat.le_of_ble_eq_true rfl) hu_P ty_P ty_P_ok nm_P m_456 (fun _ h => h) rfl rfl rfl d_P_passCycle_46 (fun H locs hY => ?_)
        have hY : hm_Y D cls A s.heap (wS G (E6.sI 17 i 0 0) ω) H locs := by rw [← fo_P_10 (S := E6) (v := 0) hiE6]; exact hY
        exact en_vW X hY hr hlocks d_P_passCycle_49 (⟨rfl, by rw [hE6, pC, if_neg c1, pc1, ← hE2, if_neg c3, if_neg c5]⟩)
      · refine lv_aload_n X.1 X.2.1 d_P_passCycle_35 rfl (lv_at hl 0 rfl) ?_
        refine lv_iload_n X.1 X.2.1 d_P_passCycle_36 rfl (lv_at hl 1 rfl) ?_
        refine hm_call (ct_runV (n := 1) X hK hY (k_P_checkAliveCount l D A G E2 ω i hiE2 ag) m_285 m_282 m_284 ms_P_checkAliveCount m_11 (by decide +kernel) ⟨Nat.le_of_ble_eq_true rfl, Nat.le_of_ble_eq_true rfl⟩ ⟨rfl, rfl⟩ (hm_recv ⟨X, hK.1⟩ hY (w4 hiE2) rfl) rfl hl.1 rfl (Nat.le_of_ble_eq_true rfl) d_P_passCycle_37 ⟨Nat.le_of_ble_eq_true rfl, Nat.le_of_ble_eq_true rfl⟩) hY (fun v w1 H locs hp hY => ?_)
        obtain ⟨rfl, rfl⟩ := hp
        refine W.eq (g2 := F0 m 40 ls []) rfl ?_
        obtain ⟨E7, hE7⟩ : ∃ z, z = cA E2 i ag := ⟨_, rfl⟩
        rw [← hE7] at hY
        have hAE7 : E7.ad = E2.ad := by rw [hE7]; exact (cA_k E2 i ag).2
        have hCE7 : E7.C = E2.C := by rw [hE7]; exact (cA_k E2 i ag).1
        have hiE7 : i < E7.C 0 0 := by rw [hCE7]; exact hiE2
        have htE7 : E7.C 1 i ≤ 10 := by rw [hCE7]; exact htE2
        have hl : lv_has ls 4 [(0, .ref (E7.ad 4 i 0)), (1, .int ag), (2, .long t)] := by rw [hAE7]; exact hl
        refine lv_aload_n X.1 X.2.1 d_P_passCycle_40 rfl (lv_at hl 0 rfl) ?_
        refine hm_call (ct_runV (n := 0) X hK hY (k_P_judge l D A G E7 ω i hiE7) m_289 m_286 m_288 ms_P_judge m_11 (by decide +kernel) ⟨Nat.le_of_ble_eq_true rfl, Nat.le_of_ble_eq_true rfl⟩ ⟨rfl, rfl⟩ (hm_recv ⟨X, hK.1⟩ hY (w4 hiE7) rfl) rfl hl.1 rfl (Nat.le_of_ble_eq_true rfl) d_P_passCycle_41 ⟨Nat.le_of_ble_eq_true rfl, Nat.le_of_ble_eq_true rfl⟩) hY (fun v w1 H locs hp hY => ?_)
        obtain ⟨rfl, rfl⟩ := hp
        refine W.eq (g2 := F0 m 44 ls []) rfl ?_
        obtain ⟨E8, hE8⟩ : ∃ z, z = jU E7 i := ⟨_, rfl⟩
        rw [← hE8] at hY
        have hAE8 : E8.ad = E7.ad := by rw [hE8]; exact (jU_k E7 i).2
        have hCE8 : E8.C = E7.C := by rw [hE8]; exact (jU_k E7 i).1
        have hiE8 : i < E8.C 0 0 := by rw [hCE8]; exact hiE7
        have htE8 : E8.C 1 i ≤ 10 := by rw [hCE8]; exact htE7
        have hl : lv_has ls 4 [(0, .ref (E8.ad 4 i 0)), (1, .int ag), (2, .long t)] := by rw [hAE8]; exact hl
        refine lv_aload_n X.1 X.2.1 d_P_passCycle_44 rfl (lv_at hl 0 rfl) ?_
        refine lv_iconst (v := 0) X.1 X.2.1 d_P_passCycle_45 (by decide) ?_
        refine hm_put ⟨X, hK.1⟩ hY (w4 hiE8) 10 rfl (Nat.le_of_ble_eq_true rfl) (Nat.le_of_ble_eq_true rfl) hu_P ty_P ty_P_ok nm_P m_456 (fun _ h => h) rfl rfl rfl d_P_passCycle_46 (fun H locs hY => ?_)
        have hY : hm_Y D cls A s.heap (wS G (E8.sI 17 i 0 0) ω) H locs := by rw [← fo_P_10 (S := E8) (v := 0) hiE8]; exact hY
        exact en_vW X hY hr hlocks d_P_passCycle_49 (⟨rfl, by rw [hE8, hE7, pC, if_neg c1, pc1, ← hE2, if_neg c3, if_pos c5]⟩)
  · exact en_vW X hY hr hlocks d_P_passCycle_8 (⟨rfl, by rw [pC, if_pos c1]⟩)

set_option maxHeartbeats 4000000 in
set_option maxRecDepth 100000 in
theorem k_P_beginAnew (l : Launch) (D : va_G) (A : Nat → Prop) (G : Nat → Nat) (S : cS) (ω : hm_T) (i : Nat) (hi : i < S.C 0 0) (h10 : S.C 1 i ≤ 10) : Met l y_P_beginAnew (.code y_P_beginAnew c_P_beginAnew 1 (none : Option FieldType) :: wsA) { frames := 4, cells := 0, slots := 0, locals := 85 } (va_Pc [.ref (S.ad 4 i 0)] (ctU D A G (wS G S ω))) (hm_Q D cls A (fun v w => v = none ∧ w = wS G (bA S i) ω)) 0 0 A := by
  refine ct_met (by decide) (Nat.le_of_ble_eq_true rfl) ?_
  rintro p e s m below meth c ls X hr hlocks hnm hl ⟨hB, hK⟩
  have hl : lv_has ls 1 [(0, .ref (S.ad 4 i 0))] := hl
  have hY : hm_Y D cls A s.heap (wS G S ω) s.heap [] := hm_Y.start hB hK.2.2.2
  refine lv_aload_n X.1 X.2.1 d_P_beginAnew_0 rfl (lv_at hl 0 rfl) ?_
  refine hm_call (ct_runV (n := 0) X hK hY (k_P_forgetCourse l D A G S ω i hi h10) m_306 m_303 m_304 m_305 m_11 (by decide +kernel) ⟨Nat.le_of_ble_eq_true rfl, Nat.le_of_ble_eq_true rfl⟩ ⟨rfl, rfl⟩ (hm_recv ⟨X, hK.1⟩ hY (w4 hi) rfl) rfl hl.1 rfl (Nat.le_of_ble_eq_true rfl) d_P_beginAnew_1 ⟨Nat.le_of_ble_eq_true rfl, Nat.le_of_ble_eq_true rfl⟩) hY (fun v w1 H locs hp hY => ?_)
  obtain ⟨rfl, rfl⟩ := hp
  refine W.eq (g2 := F0 m 4 ls []) rfl ?_
  obtain ⟨E1, hE1⟩ : ∃ z, z = fC S i := ⟨_, rfl⟩
  rw [← hE1] at hY
  have hAE1 : E1.ad = S.ad := by rw [hE1]; exact (fC_k S i).2
  have hCE1 : E1.C = S.C := by rw [hE1]; exact (fC_k S i).1
  have hiE1 : i < E1.C 0 0 := by rw [hCE1]; exact hi
  have htE1 : E1.C 1 i ≤ 10 := by rw [hCE1]; exact h10
  have hl : lv_has ls 1 [(0, .ref (E1.ad 4 i 0))] := by rw [hAE1]; exact hl
  refine lv_aload_n X.1 X.2.1 d_P_beginAnew_4 rfl (lv_at hl 0 rfl) ?_
  refine lv_iconst (v := 0) X.1 X.2.1 d_P_beginAnew_5 (by decide) ?_
  refine hm_put ⟨X, hK.1⟩ hY (w4 hiE1) 6 rfl (Nat.le_of_ble_eq_true rfl) (Nat.le_of_ble_eq_true rfl) hu_P ty_P ty_P_ok nm_P m_451 (fun _ h => h) rfl rfl rfl d_P_beginAnew_6 (fun H locs hY => ?_)
  have hY : hm_Y D cls A s.heap (wS G (E1.sI 13 i 0 0) ω) H locs := by rw [← fo_P_6 (S := E1) (v := 0) hiE1]; exact hY
  refine lv_aload_n X.1 X.2.1 d_P_beginAnew_9 rfl (lv_at hl 0 rfl) ?_
  refine lv_iconst (v := 0) X.1 X.2.1 d_P_beginAnew_10 (by decide) ?_
  refine hm_put ⟨X, hK.1⟩ hY (w4 hiE1) 7 rfl (Nat.le_of_ble_eq_true rfl) (Nat.le_of_ble_eq_true rfl) hu_P ty_P ty_P_ok nm_P m_453 (fun _ h => h) rfl rfl rfl d_P_beginAnew_11 (fun H locs hY => ?_)
  have hY : hm_Y D cls A s.heap (wS G ((E1.sI 13 i 0 0).sI 14 i 0 0) ω) H locs := by rw [← fo_P_7 (S := (E1.sI 13 i 0 0)) (v := 0) hiE1]; exact hY
  exact en_vW X hY hr hlocks d_P_beginAnew_14 (⟨rfl, by rw [hE1]; rw [bA]⟩)
end
section
abbrev rvX (q st : Int32) : Int32 := (5 * q + 3 * st) ^^^ 10
abbrev rvI (q st : Int32) : Int32 := rvX q st - rvX q st / 16 * 16
abbrev rt (S : cS) (st : Int32) (v t : Int64) : Prop := st = S.I 8 0 0 ∧ v = (rvI (S.I 7 0 0) st).toInt64 ∧ (¬ st = 3 ∨ (10 ≤ t - S.J 2 0 0 ∧ t - S.J 2 0 0 ≤ 50))
abbrev nq (q : Int32) : Int32 := (7 * q + 3) - (7 * q + 3) / 16 * 16
def tR (S : cS) (st : Int32) (t : Int64) : cS :=
  if st = 3 then (((S.sI 8 0 0 0).sJ 2 0 0 t).sI 9 0 0 (if S.I 9 0 0 - 1 < 0 then 0 else S.I 9 0 0 - 1)).sI 7 0 0 (nq (S.I 7 0 0)) else S.sI 8 0 0 (st + 1)
theorem tR_k (S : cS) (st : Int32) (t : Int64) : (tR S st t).C = S.C ∧ (tR S st t).ad = S.ad := by
  unfold tR
  split <;> exact ⟨rfl, rfl⟩
/-- restart over the parts -/
def rsL (S : cS) : Nat → cS
  | 0 => S
  | j + 1 => bA (rsL S j) j
theorem rsL_k (S : cS) (j : Nat) : (rsL S j).C = S.C ∧ (rsL S j).ad = S.ad := by
  induction j with
  | zero => exact ⟨rfl, rfl⟩
  | succ j ih => exact ⟨(bA_k (rsL S j) j).1.trans ih.1, (bA_k (rsL S j) j).2.trans ih.2⟩
def rs2 (T : cS) : cS := (((((((T.sI 0 0 0 0).sI 1 0 0 0).sI 3 0 0 0).sI 7 0 0 0).sI 8 0 0 0).sI 9 0 0 0).sJ 2 0 0 (T.J 0 0 0)).sJ 1 0 0 (T.J 0 0 0)
def rS (S : cS) (why : Int32) : cS := rs2 (rsL ((S.sI 5 0 0 why).sI 4 0 0 (S.I 4 0 0 + 1)) (S.C 0 0))
theorem rS_k (S : cS) (why : Int32) : (rS S why).C = S.C ∧ (rS S why).ad = S.ad := rsL_k ((S.sI 5 0 0 why).sI 4 0 0 (S.I 4 0 0 + 1)) (S.C 0 0)

set_option maxHeartbeats 4000000 in
set_option maxRecDepth 100000 in
theorem k_Q_rightValue (l : Launch) (D : va_G) (A : Nat → Prop) (G : Nat → Nat) (S : cS) (ω : hm_T) (st : Int32) : Met l y_Q_rightValue (.code y_Q_rightValue c_Q_rightValue 2 (some .long) :: wsA) { frames := 0, cells := 0, slots := 0, locals := 0 } (va_Pc [.ref (S.ad 3 0 0), .int st] (ctU D A G (wS G S ω))) (hm_R (fun v => v = some (.long (rvI (S.I 7 0 0) st).toInt64))) 0 0 (fun _ => False) := by
  refine ct_met (by decide) (Nat.le_of_ble_eq_true rfl) ?_
  rintro p e s m below meth c ls X hr hlocks hnm hl ⟨hB, hK⟩
  have hl : lv_has ls 2 [(0, .ref (S.ad 3 0 0)), (1, .int st)] := hl
  have hY : hm_Y D cls A s.heap (wS G S ω) s.heap [] := hm_Y.start hB hK.2.2.2
  refine lv_iconst (v := 5) X.1 X.2.1 d_Q_rightValue_0 (by decide) ?_
  refine lv_aload_n X.1 X.2.1 d_Q_rightValue_1 rfl (lv_at hl 0 rfl) ?_
  refine hm_get ⟨X, hK.1⟩ hY w3 0 (v := .int (S.I 7 0 0)) rfl rfl (Nat.le_of_ble_eq_true rfl) hu_Q m_59 (fun _ h => h) d_Q_rightValue_2 ?_
  refine lv_imul X.1 X.2.1 d_Q_rightValue_5 ?_
  refine lv_iconst (v := 3) X.1 X.2.1 d_Q_rightValue_6 (by decide) ?_
  refine lv_iload_n X.1 X.2.1 d_Q_rightValue_7 rfl (lv_at hl 1 rfl) ?_
  refine lv_imul X.1 X.2.1 d_Q_rightValue_8 ?_
  refine lv_iadd X.1 X.2.1 d_Q_rightValue_9 ?_
  refine lv_bipush (v := 10) X.1 X.2.1 d_Q_rightValue_10 (by decide) ?_
  refine lv_ixor X.1 X.2.1 d_Q_rightValue_12 ?_
  refine lv_bipush (v := 16) X.1 X.2.1 d_Q_rightValue_13 (by decide) ?_
  refine lv_irem X.1 X.2.1 d_Q_rightValue_15 (by decide) ?_
  refine lv_i2l (v := ((((5 * (S.I 7 0 0)) + (3 * st)) ^^^ 10) - (((5 * (S.I 7 0 0)) + (3 * st)) ^^^ 10) / 16 * 16).toInt64) X.1 X.2.1 d_Q_rightValue_16 rfl ?_
  exact en_lR X hr hlocks d_Q_rightValue_17 (rfl)

set_option maxHeartbeats 4000000 in
set_option maxRecDepth 100000 in
theorem k_Q_isInTime (l : Launch) (D : va_G) (A : Nat → Prop) (G : Nat → Nat) (S : cS) (ω : hm_T) (t : Int64) : Met l y_Q_isInTime (.code y_Q_isInTime c_Q_isInTime 3 (some .boolean) :: wsA) { frames := 1, cells := 0, slots := 0, locals := 25 } (va_Pc [.ref (S.ad 3 0 0), .long t] (ctU D A G (wS G S ω))) (hm_R (fun v => v = some (.int (b2 (10 ≤ t - S.J 2 0 0 ∧ t - S.J 2 0 0 ≤ 50))))) 0 0 (fun _ => False) := by
  refine ct_met (by decide) (Nat.le_of_ble_eq_true rfl) ?_
  rintro p e s m below meth c ls X hr hlocks hnm hl ⟨hB, hK⟩
  have hl : lv_has ls 3 [(0, .ref (S.ad 3 0 0)), (1, .long t)] := hl
  have hY : hm_Y D cls A s.heap (wS G S ω) s.heap [] := hm_Y.start hB hK.2.2.2
  refine lv_lload_n X.1 X.2.1 d_Q_isInTime_0 rfl (lv_at hl 1 rfl) ?_
  refine lv_aload_n X.1 X.2.1 d_Q_isInTime_1 rfl (lv_at hl 0 rfl) ?_
  refine hm_get ⟨X, hK.1⟩ hY w3 3 (v := .long (S.J 2 0 0)) rfl rfl (Nat.le_of_ble_eq_true rfl) hu_Q m_64 (fun _ h => h) d_Q_isInTime_2 ?_
  refine lv_lsub X.1 X.2.1 d_Q_isInTime_5 ?_
  refine lv_ldc2 X.1 X.2.1 X.2.2.2.1 (X.2.2.2.2 _ m_333) d_Q_isInTime_6 ?_
  refine lv_ldc2 X.1 X.2.1 X.2.2.2.1 (X.2.2.2.2 _ m_334) d_Q_isInTime_9 ?_
  refine hm_callR (ct_runN (n := 3) X hK hY (k_W_isWithin l D A G (wS G S ω) (t - S.J 2 0 0) 10 50) m_119 hK.2.1.2.1 m_118 m_1 (by decide +kernel) ⟨Nat.le_of_ble_eq_true rfl, Nat.le_of_ble_eq_true rfl⟩ ⟨rfl, rfl⟩ rfl hl.1 rfl (Nat.le_of_ble_eq_true rfl) d_Q_isInTime_12 ⟨Nat.le_of_ble_eq_true rfl, Nat.le_of_ble_eq_true rfl⟩) (fun v hv => ?_)
  subst hv
  refine W.eq (g2 := F0 m 15 ls [.int (b2 (10 ≤ t - S.J 2 0 0 ∧ t - S.J 2 0 0 ≤ 50))]) rfl ?_
  exact en_zR X hr hlocks d_Q_isInTime_15 b2_n (rfl)

set_option maxHeartbeats 4000000 in
set_option maxRecDepth 100000 in
theorem k_Q_isRight (l : Launch) (D : va_G) (A : Nat → Prop) (G : Nat → Nat) (S : cS) (ω : hm_T) (st : Int32) (v0 t : Int64) : Met l y_Q_isRight (.code y_Q_isRight c_Q_isRight 6 (some .boolean) :: wsA) { frames := 2, cells := 0, slots := 0, locals := 47 } (va_Pc [.ref (S.ad 3 0 0), .int st, .long v0, .long t] (ctU D A G (wS G S ω))) (hm_R (fun v => v = some (.int (b2 (rt S st v0 t))))) 0 0 (fun _ => False) := by
  refine ct_met (by decide) (Nat.le_of_ble_eq_true rfl) ?_
  rintro p e s m below meth c ls X hr hlocks hnm hl ⟨hB, hK⟩
  have hl : lv_has ls 6 [(0, .ref (S.ad 3 0 0)), (1, .int st), (2, .long v0), (4, .long t)] := hl
  have hY : hm_Y D cls A s.heap (wS G S ω) s.heap [] := hm_Y.start hB hK.2.2.2
  refine lv_iload_n X.1 X.2.1 d_Q_isRight_0 rfl (lv_at hl 1 rfl) ?_
  refine lv_aload_n X.1 X.2.1 d_Q_isRight_1 rfl (lv_at hl 0 rfl) ?_
  refine hm_get ⟨X, hK.1⟩ hY w3 1 (v := .int (S.I 8 0 0)) rfl rfl (Nat.le_of_ble_eq_true rfl) hu_Q m_61 (fun _ h => h) d_Q_isRight_2 ?_
  refine lv_icmp_ne (tgt := 36) X.1 X.2.1 d_Q_isRight_5 (by decide) (fun c1 => ?_) (fun c1 => ?_)
  · refine lv_iconst (v := 0) X.1 X.2.1 d_Q_isRight_36 (by decide) ?_
    exact en_zR X hr hlocks d_Q_isRight_37 rfl (by rw [b2_f (fun z => c1 z.1)])
  · refine lv_lload_n X.1 X.2.1 d_Q_isRight_8 rfl (lv_at hl 2 rfl) ?_
    refine lv_aload_n X.1 X.2.1 d_Q_isRight_9 rfl (lv_at hl 0 rfl) ?_
    refine lv_iload_n X.1 X.2.1 d_Q_isRight_10 rfl (lv_at hl 1 rfl) ?_
    refine hm_callR (ct_runV (n := 1) X hK hY (k_Q_rightValue l D A G S ω st) m_328 m_325 m_327 ms_Q_rightValue m_5 (by decide +kernel) ⟨Nat.le_of_ble_eq_true rfl, Nat.le_of_ble_eq_true rfl⟩ ⟨rfl, rfl⟩ (hm_recv ⟨X, hK.1⟩ hY w3 rfl) rfl hl.1 rfl (Nat.le_of_ble_eq_true rfl) d_Q_isRight_11 ⟨Nat.le_of_ble_eq_true rfl, Nat.le_of_ble_eq_true rfl⟩) (fun v hv => ?_)
    subst hv
    refine W.eq (g2 := F0 m 14 ls [.long ((rvI (S.I 7 0 0) st).toInt64), .long v0]) rfl ?_
    refine lc_ne (tgt := 36) X d_Q_isRight_14 d_Q_isRight_15 (by decide) (fun c2 => ?_) (fun c2 => ?_)
    · refine lv_iconst (v := 0) X.1 X.2.1 d_Q_isRight_36 (by decide) ?_
      exact en_zR X hr hlocks d_Q_isRight_37 rfl (by rw [b2_f (fun z => c2 z.2.1)])
    · refine lv_iload_n X.1 X.2.1 d_Q_isRight_18 rfl (lv_at hl 1 rfl) ?_
      refine lv_iconst (v := 3) X.1 X.2.1 d_Q_isRight_19 (by decide) ?_
      refine lv_icmp_ne (tgt := 32) X.1 X.2.1 d_Q_isRight_20 (by decide) (fun c3 => ?_) (fun c3 => ?_)
      · refine lv_iconst (v := 1) X.1 X.2.1 d_Q_isRight_32 (by decide) ?_
        refine lv_goto (tgt := 37) X.1 X.2.1 d_Q_isRight_33 (by decide) ?_
        exact en_zR X hr hlocks d_Q_isRight_37 rfl (by rw [b2_t ⟨c1, c2, Or.inl c3⟩])
      · refine lv_aload_n X.1 X.2.1 d_Q_isRight_23 rfl (lv_at hl 0 rfl) ?_
        refine lv_lload X.1 X.2.1 d_Q_isRight_24 (lv_at hl 3 rfl) ?_
        refine hm_callR (ct_runV (n := 1) X hK hY (k_Q_isInTime l D A G S ω t) m_332 m_329 m_331 ms_Q_isInTime m_5 (by decide +kernel) ⟨Nat.le_of_ble_eq_true rfl, Nat.le_of_ble_eq_true rfl⟩ ⟨rfl, rfl⟩ (hm_recv ⟨X, hK.1⟩ hY w3 rfl) rfl hl.1 rfl (Nat.le_of_ble_eq_true rfl) d_Q_isRight_26 ⟨Nat.le_of_ble_eq_true rfl, Nat.le_of_ble_eq_true rfl⟩) (fun v hv => ?_)
        subst hv
        refine W.eq (g2 := F0 m 29 ls [.int (b2 (10 ≤ t - S.J 2 0 0 ∧ t - S.J 2 0 0 ≤ 50))]) rfl ?_
        refine lv_if_eq (tgt := 36) X.1 X.2.1 d_Q_isRight_29 (by decide) (fun c4 => ?_) (fun c4 => ?_)
        · have c4 : ¬ (10 ≤ t - S.J 2 0 0 ∧ t - S.J 2 0 0 ≤ 50) := b2_0.mp c4
          refine lv_iconst (v := 0) X.1 X.2.1 d_Q_isRight_36 (by decide) ?_
          exact en_zR X hr hlocks d_Q_isRight_37 rfl (by rw [b2_f (fun z => z.2.2.elim (fun q => q c3) c4)])
        · have c4 : (10 ≤ t - S.J 2 0 0 ∧ t - S.J 2 0 0 ≤ 50) := Classical.byContradiction (fun z => c4 (b2_0.mpr z))
          refine lv_iconst (v := 1) X.1 X.2.1 d_Q_isRight_32 (by decide) ?_
          refine lv_goto (tgt := 37) X.1 X.2.1 d_Q_isRight_33 (by decide) ?_
          exact en_zR X hr hlocks d_Q_isRight_37 rfl (by rw [b2_t ⟨c1, c2, Or.inr c4⟩])

set_option maxHeartbeats 4000000 in
set_option maxRecDepth 100000 in
theorem k_Q_takeRight (l : Launch) (D : va_G) (A : Nat → Prop) (G : Nat → Nat) (S : cS) (ω : hm_T) (st : Int32) (t : Int64) : Met l y_Q_takeRight (.code y_Q_takeRight c_Q_takeRight 4 (none : Option FieldType) :: wsA) { frames := 1, cells := 0, slots := 0, locals := 21 } (va_Pc [.ref (S.ad 3 0 0), .int st, .long t] (ctU D A G (wS G S ω))) (hm_Q D cls A (fun v w => v = none ∧ w = wS G (tR S st t) ω)) 0 0 A := by
  refine ct_met (by decide) (Nat.le_of_ble_eq_true rfl) ?_
  rintro p e s m below meth c ls X hr hlocks hnm hl ⟨hB, hK⟩
  have hl : lv_has ls 4 [(0, .ref (S.ad 3 0 0)), (1, .int st), (2, .long t)] := hl
  have hY : hm_Y D cls A s.heap (wS G S ω) s.heap [] := hm_Y.start hB hK.2.2.2
  refine lv_iload_n X.1 X.2.1 d_Q_takeRight_0 rfl (lv_at hl 1 rfl) ?_
  refine lv_iconst (v := 3) X.1 X.2.1 d_Q_takeRight_1 (by decide) ?_
  refine lv_icmp_eq (tgt := 13) X.1 X.2.1 d_Q_takeRight_2 (by decide) (fun c1 => ?_) (fun c1 => ?_)
  · refine lv_aload_n X.1 X.2.1 d_Q_takeRight_13 rfl (lv_at hl 0 rfl) ?_
    refine lv_iconst (v := 0) X.1 X.2.1 d_Q_takeRight_14 (by decide) ?_
    refine hm_put ⟨X, hK.1⟩ hY w3 1 rfl (Nat.le_of_ble_eq_true rfl) (Nat.le_of_ble_eq_true rfl) hu_Q ty_Q ty_Q_ok nm_Q m_61 (fun _ h => h) rfl rfl rfl d_Q_takeRight_15 (fun H locs hY => ?_)
    have hY : hm_Y D cls A s.heap (wS G (S.sI 8 0 0 0) ω) H locs := by rw [← fo_Q_1 (S := S) (v := 0)]; exact hY
    refine lv_aload_n X.1 X.2.1 d_Q_takeRight_18 rfl (lv_at hl 0 rfl) ?_
    refine lv_lload_n X.1 X.2.1 d_Q_takeRight_19 rfl (lv_at hl 2 rfl) ?_
    refine hm_put ⟨X, hK.1⟩ hY w3 3 rfl (Nat.le_of_ble_eq_true rfl) (Nat.le_of_ble_eq_true rfl) hu_Q ty_Q ty_Q_ok nm_Q m_64 (fun _ h => h) rfl rfl rfl d_Q_takeRight_20 (fun H locs hY => ?_)
    have hY : hm_Y D cls A s.heap (wS G ((S.sI 8 0 0 0).sJ 2 0 0 t) ω) H locs := by rw [← fo_Q_3 (S := (S.sI 8 0 0 0)) (v := t)]; exact hY
    refine lv_aload_n X.1 X.2.1 d_Q_takeRight_23 rfl (lv_at hl 0 rfl) ?_
    refine lv_aload_n X.1 X.2.1 d_Q_takeRight_24 rfl (lv_at hl 0 rfl) ?_
    refine hm_get ⟨X, hK.1⟩ hY w3 2 (v := .int (S.I 9 0 0)) rfl rfl (Nat.le_of_ble_eq_true rfl) hu_Q m_62 (fun _ h => h) d_Q_takeRight_25 ?_
    refine lv_iconst (v := 1) X.1 X.2.1 d_Q_takeRight_28 (by decide) ?_
    refine lv_isub X.1 X.2.1 d_Q_takeRight_29 ?_
    refine lv_iconst (v := 0) X.1 X.2.1 d_Q_takeRight_30 (by decide) ?_
    refine va_mmax X.1 X.2.1 (X.2.2.1.trans hl.1.symm) X.2.2.2.1 (X.2.2.2.2 _ m_340) (X.2.2.2.2 _ m_211) (X.2.2.2.2 _ m_13) (X.2.2.2.2 _ m_212) (Nat.le_of_ble_eq_true rfl) (Nat.le_of_ble_eq_true rfl) (Nat.zero_le _) (Nat.zero_le _) d_Q_takeRight_31 ?_
    refine hm_put ⟨X, hK.1⟩ hY w3 2 rfl (Nat.le_of_ble_eq_true rfl) (Nat.le_of_ble_eq_true rfl) hu_Q ty_Q ty_Q_ok nm_Q m_62 (fun _ h => h) rfl rfl rfl d_Q_takeRight_34 (fun H locs hY => ?_)
    have hY : hm_Y D cls A s.heap (wS G (((S.sI 8 0 0 0).sJ 2 0 0 t).sI 9 0 0 (if (S.I 9 0 0) - 1 < 0 then 0 else (S.I 9 0 0) - 1)) ω) H locs := by rw [← fo_Q_2 (S := ((S.sI 8 0 0 0).sJ 2 0 0 t)) (v := if (S.I 9 0 0) - 1 < 0 then 0 else (S.I 9 0 0) - 1)]; exact hY
    refine lv_aload_n X.1 X.2.1 d_Q_takeRight_37 rfl (lv_at hl 0 rfl) ?_
    refine lv_bipush (v := 7) X.1 X.2.1 d_Q_takeRight_38 (by decide) ?_
    refine lv_aload_n X.1 X.2.1 d_Q_takeRight_40 rfl (lv_at hl 0 rfl) ?_
    refine hm_get ⟨X, hK.1⟩ hY w3 0 (v := .int (S.I 7 0 0)) rfl rfl (Nat.le_of_ble_eq_true rfl) hu_Q m_59 (fun _ h => h) d_Q_takeRight_41 ?_
    refine lv_imul X.1 X.2.1 d_Q_takeRight_44 ?_
    refine lv_iconst (v := 3) X.1 X.2.1 d_Q_takeRight_45 (by decide) ?_
    refine lv_iadd X.1 X.2.1 d_Q_takeRight_46 ?_
    refine lv_bipush (v := 16) X.1 X.2.1 d_Q_takeRight_47 (by decide) ?_
    refine lv_irem X.1 X.2.1 d_Q_takeRight_49 (by decide) ?_
    refine hm_put ⟨X, hK.1⟩ hY w3 0 rfl (Nat.le_of_ble_eq_true rfl) (Nat.le_of_ble_eq_true rfl) hu_Q ty_Q ty_Q_ok nm_Q m_59 (fun _ h => h) rfl rfl rfl d_Q_takeRight_50 (fun H locs hY => ?_)
    have hY : hm_Y D cls A s.heap (wS G ((((S.sI 8 0 0 0).sJ 2 0 0 t).sI 9 0 0 (if (S.I 9 0 0) - 1 < 0 then 0 else (S.I 9 0 0) - 1)).sI 7 0 0 (((7 * (S.I 7 0 0)) + 3) - ((7 * (S.I 7 0 0)) + 3) / 16 * 16)) ω) H locs := by rw [← fo_Q_0 (S := (((S.sI 8 0 0 0).sJ 2 0 0 t).sI 9 0 0 (if (S.I 9 0 0) - 1 < 0 then 0 else (S.I 9 0 0) - 1))) (v := ((7 * (S.I 7 0 0)) + 3) - ((7 * (S.I 7 0 0)) + 3) / 16 * 16)]; exact hY
    exact en_vW X hY hr hlocks d_Q_takeRight_53 (⟨rfl, by rw [tR, if_pos c1]⟩)
  · refine lv_aload_n X.1 X.2.1 d_Q_takeRight_5 rfl (lv_at hl 0 rfl) ?_
    refine lv_iload_n X.1 X.2.1 d_Q_takeRight_6 rfl (lv_at hl 1 rfl) ?_
    refine lv_iconst (v := 1) X.1 X.2.1 d_Q_takeRight_7 (by decide) ?_
    refine lv_iadd X.1 X.2.1 d_Q_takeRight_8 ?_
    refine hm_put ⟨X, hK.1⟩ hY w3 1 rfl (Nat.le_of_ble_eq_true rfl) (Nat.le_of_ble_eq_true rfl) hu_Q ty_Q ty_Q_ok nm_Q m_61 (fun _ h => h) rfl rfl rfl d_Q_takeRight_9 (fun H locs hY => ?_)
    have hY : hm_Y D cls A s.heap (wS G (S.sI 8 0 0 (st + 1)) ω) H locs := by rw [← fo_Q_1 (S := S) (v := st + 1)]; exact hY
    exact en_vW X hY hr hlocks d_Q_takeRight_12 (⟨rfl, by rw [tR, if_neg c1]⟩)

set_option maxHeartbeats 4000000 in
set_option maxRecDepth 100000 in
theorem k_Q_takeWrong (l : Launch) (D : va_G) (A : Nat → Prop) (G : Nat → Nat) (S : cS) (ω : hm_T) (t : Int64) : Met l y_Q_takeWrong (.code y_Q_takeWrong c_Q_takeWrong 3 (none : Option FieldType) :: wsA) { frames := 0, cells := 0, slots := 0, locals := 0 } (va_Pc [.ref (S.ad 3 0 0), .long t] (ctU D A G (wS G S ω))) (hm_Q D cls A (fun v w => v = none ∧ w = wS G (((S.sI 9 0 0 (S.I 9 0 0 + 1)).sI 8 0 0 0).sJ 2 0 0 t) ω)) 0 0 A := by
  refine ct_met (by decide) (Nat.le_of_ble_eq_true rfl) ?_
  rintro p e s m below meth c ls X hr hlocks hnm hl ⟨hB, hK⟩
  have hl : lv_has ls 3 [(0, .ref (S.ad 3 0 0)), (1, .long t)] := hl
  have hY : hm_Y D cls A s.heap (wS G S ω) s.heap [] := hm_Y.start hB hK.2.2.2
  refine lv_aload_n X.1 X.2.1 d_Q_takeWrong_0 rfl (lv_at hl 0 rfl) ?_
  refine lv_dup X.1 X.2.1 d_Q_takeWrong_1 rfl ?_
  refine hm_get ⟨X, hK.1⟩ hY w3 2 (v := .int (S.I 9 0 0)) rfl rfl (Nat.le_of_ble_eq_true rfl) hu_Q m_62 (fun _ h => h) d_Q_takeWrong_2 ?_
  refine lv_iconst (v := 1) X.1 X.2.1 d_Q_takeWrong_5 (by decide) ?_
  refine lv_iadd X.1 X.2.1 d_Q_takeWrong_6 ?_
  refine hm_put ⟨X, hK.1⟩ hY w3 2 rfl (Nat.le_of_ble_eq_true rfl) (Nat.le_of_ble_eq_true rfl) hu_Q ty_Q ty_Q_ok nm_Q m_62 (fun _ h => h) rfl rfl rfl d_Q_takeWrong_7 (fun H locs hY => ?_)
  have hY : hm_Y D cls A s.heap (wS G (S.sI 9 0 0 ((S.I 9 0 0) + 1)) ω) H locs := by rw [← fo_Q_2 (S := S) (v := (S.I 9 0 0) + 1)]; exact hY
  refine lv_aload_n X.1 X.2.1 d_Q_takeWrong_10 rfl (lv_at hl 0 rfl) ?_
  refine lv_iconst (v := 0) X.1 X.2.1 d_Q_takeWrong_11 (by decide) ?_
  refine hm_put ⟨X, hK.1⟩ hY w3 1 rfl (Nat.le_of_ble_eq_true rfl) (Nat.le_of_ble_eq_true rfl) hu_Q ty_Q ty_Q_ok nm_Q m_61 (fun _ h => h) rfl rfl rfl d_Q_takeWrong_12 (fun H locs hY => ?_)
  have hY : hm_Y D cls A s.heap (wS G ((S.sI 9 0 0 ((S.I 9 0 0) + 1)).sI 8 0 0 0) ω) H locs := by rw [← fo_Q_1 (S := (S.sI 9 0 0 ((S.I 9 0 0) + 1))) (v := 0)]; exact hY
  refine lv_aload_n X.1 X.2.1 d_Q_takeWrong_15 rfl (lv_at hl 0 rfl) ?_
  refine lv_lload_n X.1 X.2.1 d_Q_takeWrong_16 rfl (lv_at hl 1 rfl) ?_
  refine hm_put ⟨X, hK.1⟩ hY w3 3 rfl (Nat.le_of_ble_eq_true rfl) (Nat.le_of_ble_eq_true rfl) hu_Q ty_Q ty_Q_ok nm_Q m_64 (fun _ h => h) rfl rfl rfl d_Q_takeWrong_17 (fun H locs hY => ?_)
  have hY : hm_Y D cls A s.heap (wS G (((S.sI 9 0 0 ((S.I 9 0 0) + 1)).sI 8 0 0 0).sJ 2 0 0 t) ω) H locs := by rw [← fo_Q_3 (S := ((S.sI 9 0 0 ((S.I 9 0 0) + 1)).sI 8 0 0 0)) (v := t)]; exact hY
  exact en_vW X hY hr hlocks d_Q_takeWrong_20 (⟨rfl, rfl⟩)

set_option maxHeartbeats 4000000 in
set_option maxRecDepth 100000 in
theorem k_Q_beginAnew (l : Launch) (D : va_G) (A : Nat → Prop) (G : Nat → Nat) (S : cS) (ω : hm_T) (t : Int64) : Met l y_Q_beginAnew (.code y_Q_beginAnew c_Q_beginAnew 3 (none : Option FieldType) :: wsA) { frames := 0, cells := 0, slots := 0, locals := 0 } (va_Pc [.ref (S.ad 3 0 0), .long t] (ctU D A G (wS G S ω))) (hm_Q D cls A (fun v w => v = none ∧ w = wS G ((((S.sI 7 0 0 0).sI 8 0 0 0).sI 9 0 0 0).sJ 2 0 0 t) ω)) 0 0 A := by
  refine ct_met (by decide) (Nat.le_of_ble_eq_true rfl) ?_
  rintro p e s m below meth c ls X hr hlocks hnm hl ⟨hB, hK⟩
  have hl : lv_has ls 3 [(0, .ref (S.ad 3 0 0)), (1, .long t)] := hl
  have hY : hm_Y D cls A s.heap (wS G S ω) s.heap [] := hm_Y.start hB hK.2.2.2
  refine lv_aload_n X.1 X.2.1 d_Q_beginAnew_0 rfl (lv_at hl 0 rfl) ?_
  refine lv_iconst (v := 0) X.1 X.2.1 d_Q_beginAnew_1 (by decide) ?_
  refine hm_put ⟨X, hK.1⟩ hY w3 0 rfl (Nat.le_of_ble_eq_true rfl) (Nat.le_of_ble_eq_true rfl) hu_Q ty_Q ty_Q_ok nm_Q m_59 (fun _ h => h) rfl rfl rfl d_Q_beginAnew_2 (fun H locs hY => ?_)
  have hY : hm_Y D cls A s.heap (wS G (S.sI 7 0 0 0) ω) H locs := by rw [← fo_Q_0 (S := S) (v := 0)]; exact hY
  refine lv_aload_n X.1 X.2.1 d_Q_beginAnew_5 rfl (lv_at hl 0 rfl) ?_
  refine lv_iconst (v := 0) X.1 X.2.1 d_Q_beginAnew_6 (by decide) ?_
  refine hm_put ⟨X, hK.1⟩ hY w3 1 rfl (Nat.le_of_ble_eq_true rfl) (Nat.le_of_ble_eq_true rfl) hu_Q ty_Q ty_Q_ok nm_Q m_61 (fun _ h => h) rfl rfl rfl d_Q_beginAnew_7 (fun H locs hY => ?_)
  have hY : hm_Y D cls A s.heap (wS G ((S.sI 7 0 0 0).sI 8 0 0 0) ω) H locs := by rw [← fo_Q_1 (S := (S.sI 7 0 0 0)) (v := 0)]; exact hY
  refine lv_aload_n X.1 X.2.1 d_Q_beginAnew_10 rfl (lv_at hl 0 rfl) ?_
  refine lv_iconst (v := 0) X.1 X.2.1 d_Q_beginAnew_11 (by decide) ?_
  refine hm_put ⟨X, hK.1⟩ hY w3 2 rfl (Nat.le_of_ble_eq_true rfl) (Nat.le_of_ble_eq_true rfl) hu_Q ty_Q ty_Q_ok nm_Q m_62 (fun _ h => h) rfl rfl rfl d_Q_beginAnew_12 (fun H locs hY => ?_)
  have hY : hm_Y D cls A s.heap (wS G (((S.sI 7 0 0 0).sI 8 0 0 0).sI 9 0 0 0) ω) H locs := by rw [← fo_Q_2 (S := ((S.sI 7 0 0 0).sI 8 0 0 0)) (v := 0)]; exact hY
  refine lv_aload_n X.1 X.2.1 d_Q_beginAnew_15 rfl (lv_at hl 0 rfl) ?_
  refine lv_lload_n X.1 X.2.1 d_Q_beginAnew_16 rfl (lv_at hl 1 rfl) ?_
  refine hm_put ⟨X, hK.1⟩ hY w3 3 rfl (Nat.le_of_ble_eq_true rfl) (Nat.le_of_ble_eq_true rfl) hu_Q ty_Q ty_Q_ok nm_Q m_64 (fun _ h => h) rfl rfl rfl d_Q_beginAnew_17 (fun H locs hY => ?_)
  have hY : hm_Y D cls A s.heap (wS G ((((S.sI 7 0 0 0).sI 8 0 0 0).sI 9 0 0 0).sJ 2 0 0 t) ω) H locs := by rw [← fo_Q_3 (S := (((S.sI 7 0 0 0).sI 8 0 0 0).sI 9 0 0 0)) (v := t)]; exact hY
  exact en_vW X hY hr hlocks d_Q_beginAnew_20 (⟨rfl, rfl⟩)

set_option maxHeartbeats 4000000 in
set_option maxRecDepth 100000 in
theorem k_W_restart (l : Launch) (D : va_G) (A : Nat → Prop) (G : Nat → Nat) (S : cS) (ω : hm_T) (h20 : S.C 0 0 ≤ 20) (hall : ∀ i, i < S.C 0 0 → S.C 1 i ≤ 10) (why : Int32) : Met l y_W_restart (.code y_W_restart c_W_restart 3 (none : Option FieldType) :: wsA) { frames := 5, cells := 0, slots := 0, locals := 105 } (va_Pc [.ref (S.ad 0 0 0), .int why] (ctU D A G (wS G S ω))) (hm_Q D cls A (fun v w => v = none ∧ w = wS G (rS S why) ω)) 0 0 A := by
  refine ct_met (by decide) (Nat.le_of_ble_eq_true rfl) ?_
  rintro p e s m below meth c ls X hr hlocks hnm hl ⟨hB, hK⟩
  have hl : lv_has ls 3 [(0, .ref (S.ad 0 0 0)), (1, .int why)] := hl
  have hY : hm_Y D cls A s.heap (wS G S ω) s.heap [] := hm_Y.start hB hK.2.2.2
  refine lv_aload_n X.1 X.2.1 d_W_restart_0 rfl (lv_at hl 0 rfl) ?_
  refine lv_iload_n X.1 X.2.1 d_W_restart_1 rfl (lv_at hl 1 rfl) ?_
  refine hm_put ⟨X, hK.1⟩ hY w0 9 rfl (Nat.le_of_ble_eq_true rfl) (Nat.le_of_ble_eq_true rfl) hu_W ty_W ty_W_ok nm_W m_83 (fun _ h => h) rfl rfl rfl d_W_restart_2 (fun H locs hY => ?_)
  have hY : hm_Y D cls A s.heap (wS G (S.sI 5 0 0 why) ω) H locs := by rw [← fo_W_9 (S := S) (v := why)]; exact hY
  refine lv_aload_n X.1 X.2.1 d_W_restart_5 rfl (lv_at hl 0 rfl) ?_
  refine lv_dup X.1 X.2.1 d_W_restart_6 rfl ?_
  refine hm_get ⟨X, hK.1⟩ hY w0 8 (v := .int (S.I 4 0 0)) rfl rfl (Nat.le_of_ble_eq_true rfl) hu_W m_82 (fun _ h => h) d_W_restart_7 ?_
  refine lv_iconst (v := 1) X.1 X.2.1 d_W_restart_10 (by decide) ?_
  refine lv_iadd X.1 X.2.1 d_W_restart_11 ?_
  refine hm_put ⟨X, hK.1⟩ hY w0 8 rfl (Nat.le_of_ble_eq_true rfl) (Nat.le_of_ble_eq_true rfl) hu_W ty_W ty_W_ok nm_W m_82 (fun _ h => h) rfl rfl rfl d_W_restart_12 (fun H locs hY => ?_)
  have hY : hm_Y D cls A s.heap (wS G ((S.sI 5 0 0 why).sI 4 0 0 ((S.I 4 0 0) + 1)) ω) H locs := by rw [← fo_W_8 (S := (S.sI 5 0 0 why)) (v := (S.I 4 0 0) + 1)]; exact hY
  refine lv_iconst (v := 0) X.1 X.2.1 d_W_restart_15 (by decide) ?_
  refine lv_istore_n (lv' := [(2, .int 0), (0, .ref (S.ad 0 0 0)), (1, .int why)]) X.1 X.2.1 d_W_restart_16 rfl hl (by decide) rfl (fun ls hl => ?_)
  have loop : ∀ (k j : Nat) (T : cS) (ls : Array Slot) (H : Heap) (locs : List Loc), j ≤ S.C 0 0 → S.C 0 0 < j + k → T = rsL ((S.sI 5 0 0 why).sI 4 0 0 (S.I 4 0 0 + 1)) j → T.C = S.C → hm_Y D cls A s.heap (wS G T ω) H locs → lv_has ls 3 [(2, .int (nI j)), (0, .ref (T.ad 0 0 0)), (1, .int why)] → W p l e { frames := 5, cells := 0, slots := 0, locals := 105 } s m (([.ref (S.ad 0 0 0), .int why] : List Value).toArray) below meth c H locs 0 0 (MQ below (hm_Q D cls A (fun v w => v = none ∧ w = wS G (rS S why) ω)) (([.ref (S.ad 0 0 0), .int why] : List Value).toArray) s 0 0 A) (F0 m 17 ls []) := by
    intro k
    induction k with
    | zero => intro j T ls H locs hle hlt; omega
    | succ k ih =>
      intro j T ls H locs hle hlt hT hC hY hl
      refine lv_iload_n X.1 X.2.1 d_W_restart_17 rfl (lv_at hl 0 rfl) ?_
      refine lv_aload_n X.1 X.2.1 d_W_restart_18 rfl (lv_at hl 1 rfl) ?_
      refine hm_get ⟨X, hK.1⟩ hY w0 0 (v := .ref (T.ad 1 0 0)) rfl rfl (Nat.le_of_ble_eq_true rfl) hu_W m_74 (fun _ h => h) d_W_restart_19 ?_
      refine hm_callR (ct_runV (n := 0) X hK hY (k_size1 l D A G T ω) m_116 m_113 m_114 m_115 m_4 (by decide +kernel) ⟨Nat.le_of_ble_eq_true rfl, Nat.le_of_ble_eq_true rfl⟩ ⟨rfl, rfl⟩ (hm_recv ⟨X, hK.1⟩ hY w1 rfl) rfl hl.1 rfl (Nat.le_of_ble_eq_true rfl) d_W_restart_22 ⟨Nat.le_of_ble_eq_true rfl, Nat.le_of_ble_eq_true rfl⟩) (fun v hv => ?_)
      subst hv
      refine W.eq (g2 := F0 m 25 ls [.int (nI (T.C 0 0)), .int (nI j)]) rfl ?_
      have hn : T.C 0 0 = S.C 0 0 := by rw [hC]
      refine lv_icmp_ge (tgt := 48) X.1 X.2.1 d_W_restart_25 (by decide) (fun c0 => ?_) (fun c0 => ?_)
      · have hj : j = T.C 0 0 := by rcases Nat.lt_or_ge j (T.C 0 0) with q | q; exact absurd c0 (nI_ge q (by omega)); omega
        refine lv_aload_n X.1 X.2.1 d_W_restart_48 rfl (lv_at hl 1 rfl) ?_
        refine lv_iconst (v := 0) X.1 X.2.1 d_W_restart_49 (by decide) ?_
        refine hm_put ⟨X, hK.1⟩ hY w0 2 rfl (Nat.le_of_ble_eq_true rfl) (Nat.le_of_ble_eq_true rfl) hu_W ty_W ty_W_ok nm_W m_76 (fun _ h => h) rfl rfl rfl d_W_restart_50 (fun H locs hY => ?_)
        have hY : hm_Y D cls A s.heap (wS G (T.sI 0 0 0 0) ω) H locs := by rw [← fo_W_2 (S := T) (v := 0)]; exact hY
        refine lv_aload_n X.1 X.2.1 d_W_restart_53 rfl (lv_at hl 1 rfl) ?_
        refine lv_iconst (v := 0) X.1 X.2.1 d_W_restart_54 (by decide) ?_
        refine hm_put ⟨X, hK.1⟩ hY w0 3 rfl (Nat.le_of_ble_eq_true rfl) (Nat.le_of_ble_eq_true rfl) hu_W ty_W ty_W_ok nm_W m_77 (fun _ h => h) rfl rfl rfl d_W_restart_55 (fun H locs hY => ?_)
        have hY : hm_Y D cls A s.heap (wS G ((T.sI 0 0 0 0).sI 1 0 0 0) ω) H locs := by rw [← fo_W_3 (S := (T.sI 0 0 0 0)) (v := 0)]; exact hY
        refine lv_aload_n X.1 X.2.1 d_W_restart_58 rfl (lv_at hl 1 rfl) ?_
        refine lv_iconst (v := 0) X.1 X.2.1 d_W_restart_59 (by decide) ?_
        refine hm_put ⟨X, hK.1⟩ hY w0 7 rfl (Nat.le_of_ble_eq_true rfl) (Nat.le_of_ble_eq_true rfl) hu_W ty_W ty_W_ok nm_W m_81 (fun _ h => h) rfl rfl rfl d_W_restart_60 (fun H locs hY => ?_)
        have hY : hm_Y D cls A s.heap (wS G (((T.sI 0 0 0 0).sI 1 0 0 0).sI 3 0 0 0) ω) H locs := by rw [← fo_W_7 (S := ((T.sI 0 0 0 0).sI 1 0 0 0)) (v := 0)]; exact hY
        refine lv_aload_n X.1 X.2.1 d_W_restart_63 rfl (lv_at hl 1 rfl) ?_
        refine hm_get ⟨X, hK.1⟩ hY w0 1 (v := .ref (T.ad 3 0 0)) rfl rfl (Nat.le_of_ble_eq_true rfl) hu_W m_75 (fun _ h => h) d_W_restart_64 ?_
        refine lv_aload_n X.1 X.2.1 d_W_restart_67 rfl (lv_at hl 1 rfl) ?_
        refine hm_get ⟨X, hK.1⟩ hY w0 4 (v := .long (T.J 0 0 0)) rfl rfl (Nat.le_of_ble_eq_true rfl) hu_W m_78 (fun _ h => h) d_W_restart_68 ?_
        refine hm_call (ct_runV (n := 1) X hK hY (k_Q_beginAnew l D A G (((T.sI 0 0 0 0).sI 1 0 0 0).sI 3 0 0 0) ω (T.J 0 0 0)) m_310 m_307 m_308 m_309 m_5 (by decide +kernel) ⟨Nat.le_of_ble_eq_true rfl, Nat.le_of_ble_eq_true rfl⟩ ⟨rfl, rfl⟩ (hm_recv ⟨X, hK.1⟩ hY w3 rfl) rfl hl.1 rfl (Nat.le_of_ble_eq_true rfl) d_W_restart_71 ⟨Nat.le_of_ble_eq_true rfl, Nat.le_of_ble_eq_true rfl⟩) hY (fun v w1 H locs hp hY => ?_)
        obtain ⟨rfl, rfl⟩ := hp
        have hY : hm_Y D cls A s.heap (wS G (((((((T.sI 0 0 0 0).sI 1 0 0 0).sI 3 0 0 0).sI 7 0 0 0).sI 8 0 0 0).sI 9 0 0 0).sJ 2 0 0 (T.J 0 0 0)) ω) H locs := hY
        refine W.eq (g2 := F0 m 74 ls []) rfl ?_
        refine lv_aload_n X.1 X.2.1 d_W_restart_74 rfl (lv_at hl 1 rfl) ?_
        refine lv_aload_n X.1 X.2.1 d_W_restart_75 rfl (lv_at hl 1 rfl) ?_
        refine hm_get ⟨X, hK.1⟩ hY w0 4 (v := .long (T.J 0 0 0)) rfl rfl (Nat.le_of_ble_eq_true rfl) hu_W m_78 (fun _ h => h) d_W_restart_76 ?_
        refine hm_put ⟨X, hK.1⟩ hY w0 5 rfl (Nat.le_of_ble_eq_true rfl) (Nat.le_of_ble_eq_true rfl) hu_W ty_W ty_W_ok nm_W m_79 (fun _ h => h) rfl rfl rfl d_W_restart_79 (fun H locs hY => ?_)
        have hY : hm_Y D cls A s.heap (wS G ((((((((T.sI 0 0 0 0).sI 1 0 0 0).sI 3 0 0 0).sI 7 0 0 0).sI 8 0 0 0).sI 9 0 0 0).sJ 2 0 0 (T.J 0 0 0)).sJ 1 0 0 (T.J 0 0 0)) ω) H locs := by rw [← fo_W_5 (S := (((((((T.sI 0 0 0 0).sI 1 0 0 0).sI 3 0 0 0).sI 7 0 0 0).sI 8 0 0 0).sI 9 0 0 0).sJ 2 0 0 (T.J 0 0 0))) (v := T.J 0 0 0)]; exact hY
        exact en_vW X hY hr hlocks d_W_restart_82 (⟨rfl, by rw [rS, ← hn, ← hj, ← hT]; rfl⟩)
      · have hj : j < T.C 0 0 := by rcases Nat.lt_or_ge j (T.C 0 0) with q | q; exact q; exact absurd (nI_le q (by omega)) c0
        refine lv_aload_n X.1 X.2.1 d_W_restart_28 rfl (lv_at hl 1 rfl) ?_
        refine hm_get ⟨X, hK.1⟩ hY w0 0 (v := .ref (T.ad 1 0 0)) rfl rfl (Nat.le_of_ble_eq_true rfl) hu_W m_74 (fun _ h => h) d_W_restart_29 ?_
        refine lv_iload_n X.1 X.2.1 d_W_restart_32 rfl (lv_at hl 0 rfl) ?_
        refine hm_callR (ct_runV (n := 1) X hK hY (k_get1 l D A G T ω j hj (by rw [hC]; exact h20)) m_123 m_120 m_121 m_122 m_4 (by decide +kernel) ⟨Nat.le_of_ble_eq_true rfl, Nat.le_of_ble_eq_true rfl⟩ ⟨rfl, rfl⟩ (hm_recv ⟨X, hK.1⟩ hY w1 rfl) rfl hl.1 rfl (Nat.le_of_ble_eq_true rfl) d_W_restart_33 ⟨Nat.le_of_ble_eq_true rfl, Nat.le_of_ble_eq_true rfl⟩) (fun v hv => ?_)
        subst hv
        refine W.eq (g2 := F0 m 36 ls [.ref (T.ad 4 j 0)]) rfl ?_
        refine va_castY X.1 X.2.1 X.2.2.2.1 (X.2.2.2.2 _ m_134) hK.2.1.2.2.1 (hm_recv ⟨X, hK.1⟩ hY (w4 hj) rfl) d_W_restart_36 ?_
        refine hm_call (ct_runV (n := 0) X hK hY (k_P_beginAnew l D A G T ω j hj (by rw [hC]; exact hall j (by omega))) m_302 m_299 m_300 m_301 m_11 (by decide +kernel) ⟨Nat.le_of_ble_eq_true rfl, Nat.le_of_ble_eq_true rfl⟩ ⟨rfl, rfl⟩ (hm_recv ⟨X, hK.1⟩ hY (w4 hj) rfl) rfl hl.1 rfl (Nat.le_of_ble_eq_true rfl) d_W_restart_39 ⟨Nat.le_of_ble_eq_true rfl, Nat.le_of_ble_eq_true rfl⟩) hY (fun v w1 H locs hp hY => ?_)
        obtain ⟨rfl, rfl⟩ := hp
        refine W.eq (g2 := F0 m 42 ls []) rfl ?_
        obtain ⟨E1, hE1⟩ : ∃ z, z = bA T j := ⟨_, rfl⟩
        rw [← hE1] at hY
        have hAE1 : E1.ad = T.ad := by rw [hE1]; exact (bA_k T j).2
        have hCE1 : E1.C = T.C := by rw [hE1]; exact (bA_k T j).1
        have hiE1 : j < E1.C 0 0 := by rw [hCE1]; exact hj
        have hl : lv_has ls 3 [(2, .int (nI j)), (0, .ref (E1.ad 0 0 0)), (1, .int why)] := by rw [hAE1]; exact hl
        refine lv_iinc (v := nI (j + 1)) (lv' := [(2, .int (nI (j + 1))), (0, .ref (E1.ad 0 0 0)), (1, .int why)]) X.1 X.2.1 d_W_restart_42 hl (k := 0) rfl (nI_1 j) (by decide) rfl (fun ls hl => ?_)
        refine lv_goto (tgt := 17) X.1 X.2.1 d_W_restart_45 (by decide) ?_
        exact ih (j + 1) E1 _ _ _ (by omega) (by omega) (by rw [hE1, show rsL ((S.sI 5 0 0 why).sI 4 0 0 (S.I 4 0 0 + 1)) (j + 1) = bA (rsL ((S.sI 5 0 0 why).sI 4 0 0 (S.I 4 0 0 + 1)) j) j from rfl, ← hT]) (hCE1.trans hC) hY (lv_sub hl [0, 1, 2] rfl)
  exact loop (S.C 0 0 + 1) 0 ((S.sI 5 0 0 why).sI 4 0 0 ((S.I 4 0 0) + 1)) ls _ _ (Nat.zero_le _) (by omega) rfl rfl hY (lv_sub hl [0, 1, 2] rfl)
end
section
abbrev isPt (x : Int32) : Prop := 1 ≤ x.toInt64 ∧ x.toInt64 ≤ 30
abbrev isT (S : cS) (t : Int64) : Prop := S.J 0 0 0 ≤ t ∧ t ≤ 1152921504606846976
abbrev isN (S : cS) (x : Int32) : Prop := ∃ i, i < S.C 0 0 ∧ x = nI (i + 1)
def pix (x : Int32) : Nat := x.toNatClampNeg - 1
theorem pix_n {i : Nat} (h : i < 20) : pix (nI (i + 1)) = i := by
  unfold pix
  rw [nI_clamp (by omega)]
  omega
theorem aE_k (S : cS) (i : Nat) (r to : Int32) : (aE S i r to).2.C = S.C ∧ (aE S i r to).2.ad = S.ad := by
  unfold aE
  repeat' split
  all_goals exact ⟨rfl, rfl⟩
def ed1 (S : cS) (i : Nat) (fr to : Int32) : Int32 × cS := if (aE S i (S.I 0 0 0 * 31 + fr) to).1 = 0 then (0, (aE S i (S.I 0 0 0 * 31 + fr) to).2) else (1, (aE S i (S.I 0 0 0 * 31 + fr) to).2)
def ed (S : cS) (i : Nat) (fr to : Int32) : Int32 × cS :=
  if fr = 0 then (if isPt to then (if (aE S i (S.I 0 0 0 * 31 + fr) to).1 = 0 then (0, (aE S i (S.I 0 0 0 * 31 + fr) to).2) else (1, (aE S i (S.I 0 0 0 * 31 + fr) to).2)) else (-2, S))
  else if isPt fr then (if isPt to then (if (aE S i (S.I 0 0 0 * 31 + fr) to).1 = 0 then (0, (aE S i (S.I 0 0 0 * 31 + fr) to).2) else (1, (aE S i (S.I 0 0 0 * 31 + fr) to).2)) else (-2, S)) else (-2, S)
def po (S : cS) (i : Nat) (p : Int32) (t : Int64) : Int32 × cS :=
  if isPt p then (if isT S t then ((pP (S.sJ 0 0 0 t) i (S.I 0 0 0) p t).I 13 i 0, pP (S.sJ 0 0 0 t) i (S.I 0 0 0) p t) else (-2, S)) else (-2, S)
def toY (S : cS) (i : Nat) (n : Int32) : Int32 × cS := if 0 ≤ n.toInt64 ∧ n.toInt64 ≤ 100 then (1, S.sI 12 i 0 n) else (-2, S)
def toN (S : cS) (x n : Int32) : Int32 × cS := if x = 0 then (if 0 ≤ n.toInt64 ∧ n.toInt64 ≤ 100 then (1, S.sI 2 0 0 n) else (-2, S)) else (-1, S)
def an2 (S : cS) : Int32 × cS := if S.I 9 0 0 < 8 then (0, S) else (0, rS S 2)
def an (S : cS) (st : Int32) (v t : Int64) : Int32 × cS :=
  if 0 ≤ st.toInt64 ∧ st.toInt64 ≤ 3 then (if isT S t then (if rt (S.sJ 0 0 0 t) st v t then (1, tR (S.sJ 0 0 0 t) st t) else
    (if S.I 9 0 0 + 1 < 8 then (0, (((S.sJ 0 0 0 t).sI 9 0 0 (S.I 9 0 0 + 1)).sI 8 0 0 0).sJ 2 0 0 t) else (0, rS ((((S.sJ 0 0 0 t).sI 9 0 0 (S.I 9 0 0 + 1)).sI 8 0 0 0).sJ 2 0 0 t) 2))) else (-2, S)) else (-2, S)
def mdL (S : cS) : Nat → cS
  | 0 => S
  | j + 1 => fC (mdL S j) j
theorem mdL_k (S : cS) (j : Nat) : (mdL S j).C = S.C ∧ (mdL S j).ad = S.ad := by
  induction j with
  | zero => exact ⟨rfl, rfl⟩
  | succ j ih => exact ⟨(fC_k (mdL S j) j).1.trans ih.1, (fC_k (mdL S j) j).2.trans ih.2⟩
def md (S : cS) (x : Int32) : Int32 × cS := if 0 ≤ x.toInt64 ∧ x.toInt64 ≤ 3 then (if x = S.I 0 0 0 then (S.I 0 0 0, S) else (S.I 0 0 0, mdL (S.sI 0 0 0 x) (S.C 0 0))) else (-2, S)
def rst (S : cS) (x : Int32) : Int32 × cS := if x = 0 then ((rS S 4).I 4 0 0, rS S 4) else if x = 1 then (S.I 4 0 0, S) else if x = 2 then (S.I 5 0 0, S) else if x = 3 then (S.I 7 0 0, S) else if x = 4 then (S.I 9 0 0, S) else if x = 5 then (S.I 1 0 0, S) else (-2, S)
def ou (S : cS) (t : Int64) : Int32 × cS := if isT S t then (if t - S.J 1 0 0 ≤ 100 then (1, (S.sJ 0 0 0 t).sJ 1 0 0 t) else (0, rS (S.sJ 0 0 0 t) 3)) else (-2, S)
def cyL (S : cS) (t : Int64) : Nat → cS
  | 0 => S
  | j + 1 => pC (cyL S t j) j ((cyL S t j).I 1 0 0) t
theorem cyL_k (S : cS) (t : Int64) (j : Nat) : (cyL S t j).C = S.C ∧ (cyL S t j).ad = S.ad := by
  induction j with
  | zero => exact ⟨rfl, rfl⟩
  | succ j ih => exact ⟨(pC_k (cyL S t j) j _ t).1.trans ih.1, (pC_k (cyL S t j) j _ t).2.trans ih.2⟩
def cy2 (T : cS) (g : Int32) : Int32 × cS :=
  if g = 2 then (if T.I 3 0 0 + 1 ≤ T.I 2 0 0 then (g, T.sI 3 0 0 (T.I 3 0 0 + 1)) else (3, rS (T.sI 3 0 0 (T.I 3 0 0 + 1)) 1))
  else (if 0 ≤ T.I 2 0 0 then (g, T.sI 3 0 0 0) else (3, rS (T.sI 3 0 0 0) 1))
def cy (S : cS) (t : Int64) : Int32 × cS :=
  if isT S t then cy2 (cyL ((S.sJ 0 0 0 t).sI 1 0 0 (S.I 1 0 0 + 1)) t (S.C 0 0)) (wst (cyL ((S.sJ 0 0 0 t).sI 1 0 0 (S.I 1 0 0 + 1)) t (S.C 0 0)) (S.C 0 0)) else (-2, S)

set_option maxHeartbeats 4000000 in
set_option maxRecDepth 100000 in
theorem k_W_edge_y (l : Launch) (D : va_G) (A : Nat → Prop) (G : Nat → Nat) (S : cS) (ω : hm_T) (h20 : S.C 0 0 ≤ 20) (hall : ∀ i, i < S.C 0 0 → S.C 1 i ≤ 10) (i : Nat) (hi : i < S.C 0 0) (fr to : Int32) : Met l y_W_edge (.code y_W_edge c_W_edge 5 (some .int) :: wsA) { frames := 4, cells := 0, slots := 0, locals := 85 } (va_Pc [.ref (S.ad 0 0 0), .int (nI (i + 1)), .int fr, .int to] (ctU D A G (wS G S ω))) (hm_Q D cls A (fun v w => v = some (.int (ed S i fr to).1) ∧ w = wS G (ed S i fr to).2 ω)) 0 0 A := by
  refine ct_met (by decide) (Nat.le_of_ble_eq_true rfl) ?_
  rintro p e s m below meth c ls X hr hlocks hnm hl ⟨hB, hK⟩
  have hl : lv_has ls 5 [(0, .ref (S.ad 0 0 0)), (1, .int (nI (i + 1))), (2, .int fr), (3, .int to)] := hl
  have hY : hm_Y D cls A s.heap (wS G S ω) s.heap [] := hm_Y.start hB hK.2.2.2
  refine lv_aload_n X.1 X.2.1 d_W_edge_0 rfl (lv_at hl 0 rfl) ?_
  refine lv_iload_n X.1 X.2.1 d_W_edge_1 rfl (lv_at hl 1 rfl) ?_
  refine hm_callR (ct_runV (n := 1) X hK hY (k_findPart l D A G S ω i hi h20) m_112 m_109 m_111 ms_W_findPart m_1 (by decide +kernel) ⟨Nat.le_of_ble_eq_true rfl, Nat.le_of_ble_eq_true rfl⟩ ⟨rfl, rfl⟩ (hm_recv ⟨X, hK.1⟩ hY w0 rfl) rfl hl.1 rfl (Nat.le_of_ble_eq_true rfl) d_W_edge_2 ⟨Nat.le_of_ble_eq_true rfl, Nat.le_of_ble_eq_true rfl⟩) (fun v hv => ?_)
  subst hv
  refine W.eq (g2 := F0 m 5 ls [.ref (S.ad 4 i 0)]) rfl ?_
  refine lv_astore (lv' := [(4, .ref (S.ad 4 i 0)), (0, .ref (S.ad 0 0 0)), (1, .int (nI (i + 1))), (2, .int fr), (3, .int to)]) X.1 X.2.1 d_W_edge_5 hl (by decide) rfl (fun ls hl => ?_)
  refine lv_aload X.1 X.2.1 d_W_edge_7 (lv_at hl 0 rfl) ?_
  refine lv_ifnonnull (tgt := 14) X.1 X.2.1 d_W_edge_9 (by decide) ?_
  refine lv_iload_n X.1 X.2.1 d_W_edge_14 rfl (lv_at hl 3 rfl) ?_
  refine lv_if_eq (tgt := 25) X.1 X.2.1 d_W_edge_15 (by decide) (fun c1 => ?_) (fun c1 => ?_)
  · refine lv_iload_n X.1 X.2.1 d_W_edge_25 rfl (lv_at hl 4 rfl) ?_
    refine hm_callR (ct_runS (n := 1) X hK hY (k_W_isPoint l D A G (wS G S ω) to) m_137 m_135 m_136 m_1 (by decide +kernel) ⟨Nat.le_of_ble_eq_true rfl, Nat.le_of_ble_eq_true rfl⟩ ⟨rfl, rfl⟩ rfl hl.1 rfl (Nat.le_of_ble_eq_true rfl) d_W_edge_26 ⟨Nat.le_of_ble_eq_true rfl, Nat.le_of_ble_eq_true rfl⟩) (fun v hv => ?_)
    subst hv
    refine W.eq (g2 := F0 m 29 ls [.int (b2 (isPt to))]) rfl ?_
    refine lv_if_ne (tgt := 35) X.1 X.2.1 d_W_edge_29 (by decide) (fun c2 => ?_) (fun c2 => ?_)
    · have c2 : (isPt to) := Classical.byContradiction (fun z => c2 (b2_0.mpr z))
      refine lv_aload X.1 X.2.1 d_W_edge_35 (lv_at hl 0 rfl) ?_
      refine lv_aload_n X.1 X.2.1 d_W_edge_37 rfl (lv_at hl 1 rfl) ?_
      refine hm_get ⟨X, hK.1⟩ hY w0 2 (v := .int (S.I 0 0 0)) rfl rfl (Nat.le_of_ble_eq_true rfl) hu_W m_76 (fun _ h => h) d_W_edge_38 ?_
      refine lv_iload_n X.1 X.2.1 d_W_edge_41 rfl (lv_at hl 3 rfl) ?_
      refine lv_iload_n X.1 X.2.1 d_W_edge_42 rfl (lv_at hl 4 rfl) ?_
      refine hm_call (ct_runV (n := 3) X hK hY (k_P_addEdge l D A G S ω i hi (S.I 0 0 0) fr to) m_142 m_139 m_140 m_141 m_11 (by decide +kernel) ⟨Nat.le_of_ble_eq_true rfl, Nat.le_of_ble_eq_true rfl⟩ ⟨rfl, rfl⟩ (hm_recv ⟨X, hK.1⟩ hY (w4 hi) rfl) rfl hl.1 rfl (Nat.le_of_ble_eq_true rfl) d_W_edge_43 ⟨Nat.le_of_ble_eq_true rfl, Nat.le_of_ble_eq_true rfl⟩) hY (fun v w1 H locs hp hY => ?_)
      obtain ⟨rfl, rfl⟩ := hp
      refine W.eq (g2 := F0 m 46 ls [.int ((aE S i (S.I 0 0 0 * 31 + fr) to).1)]) rfl ?_
      obtain ⟨E3, hE3⟩ : ∃ z, z = (aE S i (S.I 0 0 0 * 31 + fr) to).2 := ⟨_, rfl⟩
      rw [← hE3] at hY
      have hAE3 : E3.ad = S.ad := by rw [hE3]; exact (aE_k S i (S.I 0 0 0 * 31 + fr) to).2
      have hCE3 : E3.C = S.C := by rw [hE3]; exact (aE_k S i (S.I 0 0 0 * 31 + fr) to).1
      have hiE3 : i < E3.C 0 0 := by rw [hCE3]; exact hi
      have hl : lv_has ls 5 [(4, .ref (E3.ad 4 i 0)), (0, .ref (E3.ad 0 0 0)), (1, .int (nI (i + 1))), (2, .int fr), (3, .int to)] := by rw [hAE3]; exact hl
      refine lv_if_eq (tgt := 53) X.1 X.2.1 d_W_edge_46 (by decide) (fun c4 => ?_) (fun c4 => ?_)
      · refine lv_iconst (v := 0) X.1 X.2.1 d_W_edge_53 (by decide) ?_
        exact en_iW X hY hr hlocks d_W_edge_54 (⟨by first | (rw [hE3]; rw [ed, if_pos c1, if_pos c2, if_pos c4]) | rw [ed, if_pos c1, if_pos c2, if_pos c4], by first | (rw [hE3]; rw [ed, if_pos c1, if_pos c2, if_pos c4]) | rw [ed, if_pos c1, if_pos c2, if_pos c4]⟩)
      · refine lv_iconst (v := 1) X.1 X.2.1 d_W_edge_49 (by decide) ?_
        refine lv_goto (tgt := 54) X.1 X.2.1 d_W_edge_50 (by decide) ?_
        exact en_iW X hY hr hlocks d_W_edge_54 (⟨by first | (rw [hE3]; rw [ed, if_pos c1, if_pos c2, if_neg c4]) | rw [ed, if_pos c1, if_pos c2, if_neg c4], by first | (rw [hE3]; rw [ed, if_pos c1, if_pos c2, if_neg c4]) | rw [ed, if_pos c1, if_pos c2, if_neg c4]⟩)
    · have c2 : ¬ (isPt to) := b2_0.mp c2
      refine lv_bipush (v := (-2)) X.1 X.2.1 d_W_edge_32 (by decide) ?_
      exact en_iW X hY hr hlocks d_W_edge_34 (⟨by rw [ed, if_pos c1, if_neg c2], by rw [ed, if_pos c1, if_neg c2]⟩)
  · refine lv_iload_n X.1 X.2.1 d_W_edge_18 rfl (lv_at hl 3 rfl) ?_
    refine hm_callR (ct_runS (n := 1) X hK hY (k_W_isPoint l D A G (wS G S ω) fr) m_137 m_135 m_136 m_1 (by decide +kernel) ⟨Nat.le_of_ble_eq_true rfl, Nat.le_of_ble_eq_true rfl⟩ ⟨rfl, rfl⟩ rfl hl.1 rfl (Nat.le_of_ble_eq_true rfl) d_W_edge_19 ⟨Nat.le_of_ble_eq_true rfl, Nat.le_of_ble_eq_true rfl⟩) (fun v hv => ?_)
    subst hv
    refine W.eq (g2 := F0 m 22 ls [.int (b2 (isPt fr))]) rfl ?_
    refine lv_if_eq (tgt := 32) X.1 X.2.1 d_W_edge_22 (by decide) (fun c5 => ?_) (fun c5 => ?_)
    · have c5 : ¬ (isPt fr) := b2_0.mp c5
      refine lv_bipush (v := (-2)) X.1 X.2.1 d_W_edge_32 (by decide) ?_
      exact en_iW X hY hr hlocks d_W_edge_34 (⟨by rw [ed, if_neg c1, if_neg c5], by rw [ed, if_neg c1, if_neg c5]⟩)
    · have c5 : (isPt fr) := Classical.byContradiction (fun z => c5 (b2_0.mpr z))
      refine lv_iload_n X.1 X.2.1 d_W_edge_25 rfl (lv_at hl 4 rfl) ?_
      refine hm_callR (ct_runS (n := 1) X hK hY (k_W_isPoint l D A G (wS G S ω) to) m_137 m_135 m_136 m_1 (by decide +kernel) ⟨Nat.le_of_ble_eq_true rfl, Nat.le_of_ble_eq_true rfl⟩ ⟨rfl, rfl⟩ rfl hl.1 rfl (Nat.le_of_ble_eq_true rfl) d_W_edge_26 ⟨Nat.le_of_ble_eq_true rfl, Nat.le_of_ble_eq_true rfl⟩) (fun v hv => ?_)
      subst hv
      refine W.eq (g2 := F0 m 29 ls [.int (b2 (isPt to))]) rfl ?_
      refine lv_if_ne (tgt := 35) X.1 X.2.1 d_W_edge_29 (by decide) (fun c6 => ?_) (fun c6 => ?_)
      · have c6 : (isPt to) := Classical.byContradiction (fun z => c6 (b2_0.mpr z))
        refine lv_aload X.1 X.2.1 d_W_edge_35 (lv_at hl 0 rfl) ?_
        refine lv_aload_n X.1 X.2.1 d_W_edge_37 rfl (lv_at hl 1 rfl) ?_
        refine hm_get ⟨X, hK.1⟩ hY w0 2 (v := .int (S.I 0 0 0)) rfl rfl (Nat.le_of_ble_eq_true rfl) hu_W m_76 (fun _ h => h) d_W_edge_38 ?_
        refine lv_iload_n X.1 X.2.1 d_W_edge_41 rfl (lv_at hl 3 rfl) ?_
        refine lv_iload_n X.1 X.2.1 d_W_edge_42 rfl (lv_at hl 4 rfl) ?_
        refine hm_call (ct_runV (n := 3) X hK hY (k_P_addEdge l D A G S ω i hi (S.I 0 0 0) fr to) m_142 m_139 m_140 m_141 m_11 (by decide +kernel) ⟨Nat.le_of_ble_eq_true rfl, Nat.le_of_ble_eq_true rfl⟩ ⟨rfl, rfl⟩ (hm_recv ⟨X, hK.1⟩ hY (w4 hi) rfl) rfl hl.1 rfl (Nat.le_of_ble_eq_true rfl) d_W_edge_43 ⟨Nat.le_of_ble_eq_true rfl, Nat.le_of_ble_eq_true rfl⟩) hY (fun v w1 H locs hp hY => ?_)
        obtain ⟨rfl, rfl⟩ := hp
        refine W.eq (g2 := F0 m 46 ls [.int ((aE S i (S.I 0 0 0 * 31 + fr) to).1)]) rfl ?_
        obtain ⟨E7, hE7⟩ : ∃ z, z = (aE S i (S.I 0 0 0 * 31 + fr) to).2 := ⟨_, rfl⟩
        rw [← hE7] at hY
        have hAE7 : E7.ad = S.ad := by rw [hE7]; exact (aE_k S i (S.I 0 0 0 * 31 + fr) to).2
        have hCE7 : E7.C = S.C := by rw [hE7]; exact (aE_k S i (S.I 0 0 0 * 31 + fr) to).1
        have hiE7 : i < E7.C 0 0 := by rw [hCE7]; exact hi
        have hl : lv_has ls 5 [(4, .ref (E7.ad 4 i 0)), (0, .ref (E7.ad 0 0 0)), (1, .int (nI (i + 1))), (2, .int fr), (3, .int to)] := by rw [hAE7]; exact hl
        refine lv_if_eq (tgt := 53) X.1 X.2.1 d_W_edge_46 (by decide) (fun c8 => ?_) (fun c8 => ?_)
        · refine lv_iconst (v := 0) X.1 X.2.1 d_W_edge_53 (by decide) ?_
          exact en_iW X hY hr hlocks d_W_edge_54 (⟨by first | (rw [hE7]; rw [ed, if_neg c1, if_pos c5, if_pos c6, if_pos c8]) | rw [ed, if_neg c1, if_pos c5, if_pos c6, if_pos c8], by first | (rw [hE7]; rw [ed, if_neg c1, if_pos c5, if_pos c6, if_pos c8]) | rw [ed, if_neg c1, if_pos c5, if_pos c6, if_pos c8]⟩)
        · refine lv_iconst (v := 1) X.1 X.2.1 d_W_edge_49 (by decide) ?_
          refine lv_goto (tgt := 54) X.1 X.2.1 d_W_edge_50 (by decide) ?_
          exact en_iW X hY hr hlocks d_W_edge_54 (⟨by first | (rw [hE7]; rw [ed, if_neg c1, if_pos c5, if_pos c6, if_neg c8]) | rw [ed, if_neg c1, if_pos c5, if_pos c6, if_neg c8], by first | (rw [hE7]; rw [ed, if_neg c1, if_pos c5, if_pos c6, if_neg c8]) | rw [ed, if_neg c1, if_pos c5, if_pos c6, if_neg c8]⟩)
      · have c6 : ¬ (isPt to) := b2_0.mp c6
        refine lv_bipush (v := (-2)) X.1 X.2.1 d_W_edge_32 (by decide) ?_
        exact en_iW X hY hr hlocks d_W_edge_34 (⟨by rw [ed, if_neg c1, if_pos c5, if_neg c6], by rw [ed, if_neg c1, if_pos c5, if_neg c6]⟩)

set_option maxHeartbeats 4000000 in
set_option maxRecDepth 100000 in
theorem k_W_edge_no (l : Launch) (D : va_G) (A : Nat → Prop) (G : Nat → Nat) (S : cS) (ω : hm_T) (h20 : S.C 0 0 ≤ 20) (hall : ∀ i, i < S.C 0 0 → S.C 1 i ≤ 10) (x : Int32) (hx : ¬ isN S x) (fr to : Int32) : Met l y_W_edge (.code y_W_edge c_W_edge 5 (some .int) :: wsA) { frames := 4, cells := 0, slots := 0, locals := 85 } (va_Pc [.ref (S.ad 0 0 0), .int x, .int fr, .int to] (ctU D A G (wS G S ω))) (hm_Q D cls A (fun v w => v = some (.int (((-1 : Int32), S)).1) ∧ w = wS G (((-1 : Int32), S)).2 ω)) 0 0 A := by
  refine ct_met (by decide) (Nat.le_of_ble_eq_true rfl) ?_
  rintro p e s m below meth c ls X hr hlocks hnm hl ⟨hB, hK⟩
  have hl : lv_has ls 5 [(0, .ref (S.ad 0 0 0)), (1, .int x), (2, .int fr), (3, .int to)] := hl
  have hY : hm_Y D cls A s.heap (wS G S ω) s.heap [] := hm_Y.start hB hK.2.2.2
  refine lv_aload_n X.1 X.2.1 d_W_edge_0 rfl (lv_at hl 0 rfl) ?_
  refine lv_iload_n X.1 X.2.1 d_W_edge_1 rfl (lv_at hl 1 rfl) ?_
  refine hm_callR (ct_runV (n := 1) X hK hY (k_findPart_no l D A G S ω x hx h20) m_112 m_109 m_111 ms_W_findPart m_1 (by decide +kernel) ⟨Nat.le_of_ble_eq_true rfl, Nat.le_of_ble_eq_true rfl⟩ ⟨rfl, rfl⟩ (hm_recv ⟨X, hK.1⟩ hY w0 rfl) rfl hl.1 rfl (Nat.le_of_ble_eq_true rfl) d_W_edge_2 ⟨Nat.le_of_ble_eq_true rfl, Nat.le_of_ble_eq_true rfl⟩) (fun v hv => ?_)
  subst hv
  refine W.eq (g2 := F0 m 5 ls [.null]) rfl ?_
  refine lv_astoreN (lv' := [(4, .null), (0, .ref (S.ad 0 0 0)), (1, .int x), (2, .int fr), (3, .int to)]) X.1 X.2.1 d_W_edge_5 hl (by decide) rfl (fun ls hl => ?_)
  refine lv_aloadN X.1 X.2.1 d_W_edge_7 (lv_at hl 0 rfl) ?_
  refine lv_ifnonnullN X.1 X.2.1 d_W_edge_9 ?_
  refine lv_iconst (v := (-1)) X.1 X.2.1 d_W_edge_12 (by decide) ?_
  exact en_iW X hY hr hlocks d_W_edge_13 (⟨rfl, rfl⟩)

set_option maxHeartbeats 4000000 in
set_option maxRecDepth 100000 in
theorem k_W_point_y (l : Launch) (D : va_G) (A : Nat → Prop) (G : Nat → Nat) (S : cS) (ω : hm_T) (h20 : S.C 0 0 ≤ 20) (hall : ∀ i, i < S.C 0 0 → S.C 1 i ≤ 10) (i : Nat) (hi : i < S.C 0 0) (p0 : Int32) (t : Int64) : Met l y_W_point (.code y_W_point c_W_point 6 (some .int) :: wsA) { frames := 5, cells := 0, slots := 0, locals := 115 } (va_Pc [.ref (S.ad 0 0 0), .int (nI (i + 1)), .int p0, .long t] (ctU D A G (wS G S ω))) (hm_Q D cls A (fun v w => v = some (.int (po S i p0 t).1) ∧ w = wS G (po S i p0 t).2 ω)) 0 0 A := by
  refine ct_met (by decide) (Nat.le_of_ble_eq_true rfl) ?_
  rintro p e s m below meth c ls X hr hlocks hnm hl ⟨hB, hK⟩
  have hl : lv_has ls 6 [(0, .ref (S.ad 0 0 0)), (1, .int (nI (i + 1))), (2, .int p0), (3, .long t)] := hl
  have hY : hm_Y D cls A s.heap (wS G S ω) s.heap [] := hm_Y.start hB hK.2.2.2
  refine lv_aload_n X.1 X.2.1 d_W_point_0 rfl (lv_at hl 0 rfl) ?_
  refine lv_iload_n X.1 X.2.1 d_W_point_1 rfl (lv_at hl 1 rfl) ?_
  refine hm_callR (ct_runV (n := 1) X hK hY (k_findPart l D A G S ω i hi h20) m_112 m_109 m_111 ms_W_findPart m_1 (by decide +kernel) ⟨Nat.le_of_ble_eq_true rfl, Nat.le_of_ble_eq_true rfl⟩ ⟨rfl, rfl⟩ (hm_recv ⟨X, hK.1⟩ hY w0 rfl) rfl hl.1 rfl (Nat.le_of_ble_eq_true rfl) d_W_point_2 ⟨Nat.le_of_ble_eq_true rfl, Nat.le_of_ble_eq_true rfl⟩) (fun v hv => ?_)
  subst hv
  refine W.eq (g2 := F0 m 5 ls [.ref (S.ad 4 i 0)]) rfl ?_
  refine lv_astore (lv' := [(5, .ref (S.ad 4 i 0)), (0, .ref (S.ad 0 0 0)), (1, .int (nI (i + 1))), (2, .int p0), (3, .long t)]) X.1 X.2.1 d_W_point_5 hl (by decide) rfl (fun ls hl => ?_)
  refine lv_aload X.1 X.2.1 d_W_point_7 (lv_at hl 0 rfl) ?_
  refine lv_ifnonnull (tgt := 14) X.1 X.2.1 d_W_point_9 (by decide) ?_
  refine lv_iload_n X.1 X.2.1 d_W_point_14 rfl (lv_at hl 3 rfl) ?_
  refine hm_callR (ct_runS (n := 1) X hK hY (k_W_isPoint l D A G (wS G S ω) p0) m_137 m_135 m_136 m_1 (by decide +kernel) ⟨Nat.le_of_ble_eq_true rfl, Nat.le_of_ble_eq_true rfl⟩ ⟨rfl, rfl⟩ rfl hl.1 rfl (Nat.le_of_ble_eq_true rfl) d_W_point_15 ⟨Nat.le_of_ble_eq_true rfl, Nat.le_of_ble_eq_true rfl⟩) (fun v hv => ?_)
  subst hv
  refine W.eq (g2 := F0 m 18 ls [.int (b2 (isPt p0))]) rfl ?_
  refine lv_if_eq (tgt := 29) X.1 X.2.1 d_W_point_18 (by decide) (fun c1 => ?_) (fun c1 => ?_)
  · have c1 : ¬ (isPt p0) := b2_0.mp c1
    refine lv_bipush (v := (-2)) X.1 X.2.1 d_W_point_29 (by decide) ?_
    exact en_iW X hY hr hlocks d_W_point_31 (⟨by rw [po, if_neg c1], by rw [po, if_neg c1]⟩)
  · have c1 : (isPt p0) := Classical.byContradiction (fun z => c1 (b2_0.mpr z))
    refine lv_aload_n X.1 X.2.1 d_W_point_21 rfl (lv_at hl 1 rfl) ?_
    refine lv_lload_n X.1 X.2.1 d_W_point_22 rfl (lv_at hl 4 rfl) ?_
    refine hm_callR (ct_runV (n := 1) X hK hY (k_W_isTime l D A G S ω t) m_252 m_249 m_251 ms_W_isTime m_1 (by decide +kernel) ⟨Nat.le_of_ble_eq_true rfl, Nat.le_of_ble_eq_true rfl⟩ ⟨rfl, rfl⟩ (hm_recv ⟨X, hK.1⟩ hY w0 rfl) rfl hl.1 rfl (Nat.le_of_ble_eq_true rfl) d_W_point_23 ⟨Nat.le_of_ble_eq_true rfl, Nat.le_of_ble_eq_true rfl⟩) (fun v hv => ?_)
    subst hv
    refine W.eq (g2 := F0 m 26 ls [.int (b2 (isT S t))]) rfl ?_
    refine lv_if_ne (tgt := 32) X.1 X.2.1 d_W_point_26 (by decide) (fun c2 => ?_) (fun c2 => ?_)
    · have c2 : (isT S t) := Classical.byContradiction (fun z => c2 (b2_0.mpr z))
      refine lv_aload_n X.1 X.2.1 d_W_point_32 rfl (lv_at hl 1 rfl) ?_
      refine lv_lload_n X.1 X.2.1 d_W_point_33 rfl (lv_at hl 4 rfl) ?_
      refine hm_put ⟨X, hK.1⟩ hY w0 4 rfl (Nat.le_of_ble_eq_true rfl) (Nat.le_of_ble_eq_true rfl) hu_W ty_W ty_W_ok nm_W m_78 (fun _ h => h) rfl rfl rfl d_W_point_34 (fun H locs hY => ?_)
      have hY : hm_Y D cls A s.heap (wS G (S.sJ 0 0 0 t) ω) H locs := by rw [← fo_W_4 (S := S) (v := t)]; exact hY
      refine lv_aload X.1 X.2.1 d_W_point_37 (lv_at hl 0 rfl) ?_
      refine lv_aload_n X.1 X.2.1 d_W_point_39 rfl (lv_at hl 1 rfl) ?_
      refine hm_get ⟨X, hK.1⟩ hY w0 2 (v := .int (S.I 0 0 0)) rfl rfl (Nat.le_of_ble_eq_true rfl) hu_W m_76 (fun _ h => h) d_W_point_40 ?_
      refine lv_iload_n X.1 X.2.1 d_W_point_43 rfl (lv_at hl 3 rfl) ?_
      refine lv_lload_n X.1 X.2.1 d_W_point_44 rfl (lv_at hl 4 rfl) ?_
      refine hm_call (ct_runV (n := 3) X hK hY (k_P_passPoint l D A G (S.sJ 0 0 0 t) ω i hi (hall i hi) (S.I 0 0 0) p0 t) m_257 m_254 m_255 m_256 m_11 (by decide +kernel) ⟨Nat.le_of_ble_eq_true rfl, Nat.le_of_ble_eq_true rfl⟩ ⟨rfl, rfl⟩ (hm_recv ⟨X, hK.1⟩ hY (w4 hi) rfl) rfl hl.1 rfl (Nat.le_of_ble_eq_true rfl) d_W_point_45 ⟨Nat.le_of_ble_eq_true rfl, Nat.le_of_ble_eq_true rfl⟩) hY (fun v w1 H locs hp hY => ?_)
      obtain ⟨rfl, rfl⟩ := hp
      refine W.eq (g2 := F0 m 48 ls []) rfl ?_
      obtain ⟨E3, hE3⟩ : ∃ z, z = pP (S.sJ 0 0 0 t) i (S.I 0 0 0) p0 t := ⟨_, rfl⟩
      rw [← hE3] at hY
      have hAE3 : E3.ad = S.ad := by rw [hE3]; exact (pP_k (S.sJ 0 0 0 t) i (S.I 0 0 0) p0 t).2
      have hCE3 : E3.C = S.C := by rw [hE3]; exact (pP_k (S.sJ 0 0 0 t) i (S.I 0 0 0) p0 t).1
      have hiE3 : i < E3.C 0 0 := by rw [hCE3]; exact hi
      have hl : lv_has ls 6 [(5, .ref (E3.ad 4 i 0)), (0, .ref (E3.ad 0 0 0)), (1, .int (nI (i + 1))), (2, .int p0), (3, .long t)] := by rw [hAE3]; exact hl
      refine lv_aload X.1 X.2.1 d_W_point_48 (lv_at hl 0 rfl) ?_
      refine hm_get ⟨X, hK.1⟩ hY (w4 hiE3) 6 (v := .int (E3.I 13 i 0)) rfl rfl (Nat.le_of_ble_eq_true rfl) hu_P m_452 (fun _ h => h) d_W_point_50 ?_
      exact en_iW X hY hr hlocks d_W_point_53 (⟨by first | (rw [hE3]; rw [po, if_pos c1, if_pos c2]) | rw [po, if_pos c1, if_pos c2], by first | (rw [hE3]; rw [po, if_pos c1, if_pos c2]) | rw [po, if_pos c1, if_pos c2]⟩)
    · have c2 : ¬ (isT S t) := b2_0.mp c2
      refine lv_bipush (v := (-2)) X.1 X.2.1 d_W_point_29 (by decide) ?_
      exact en_iW X hY hr hlocks d_W_point_31 (⟨by rw [po, if_pos c1, if_neg c2], by rw [po, if_pos c1, if_neg c2]⟩)

set_option maxHeartbeats 4000000 in
set_option maxRecDepth 100000 in
theorem k_W_point_no (l : Launch) (D : va_G) (A : Nat → Prop) (G : Nat → Nat) (S : cS) (ω : hm_T) (h20 : S.C 0 0 ≤ 20) (hall : ∀ i, i < S.C 0 0 → S.C 1 i ≤ 10) (x : Int32) (hx : ¬ isN S x) (p0 : Int32) (t : Int64) : Met l y_W_point (.code y_W_point c_W_point 6 (some .int) :: wsA) { frames := 5, cells := 0, slots := 0, locals := 115 } (va_Pc [.ref (S.ad 0 0 0), .int x, .int p0, .long t] (ctU D A G (wS G S ω))) (hm_Q D cls A (fun v w => v = some (.int (((-1 : Int32), S)).1) ∧ w = wS G (((-1 : Int32), S)).2 ω)) 0 0 A := by
  refine ct_met (by decide) (Nat.le_of_ble_eq_true rfl) ?_
  rintro p e s m below meth c ls X hr hlocks hnm hl ⟨hB, hK⟩
  have hl : lv_has ls 6 [(0, .ref (S.ad 0 0 0)), (1, .int x), (2, .int p0), (3, .long t)] := hl
  have hY : hm_Y D cls A s.heap (wS G S ω) s.heap [] := hm_Y.start hB hK.2.2.2
  refine lv_aload_n X.1 X.2.1 d_W_point_0 rfl (lv_at hl 0 rfl) ?_
  refine lv_iload_n X.1 X.2.1 d_W_point_1 rfl (lv_at hl 1 rfl) ?_
  refine hm_callR (ct_runV (n := 1) X hK hY (k_findPart_no l D A G S ω x hx h20) m_112 m_109 m_111 ms_W_findPart m_1 (by decide +kernel) ⟨Nat.le_of_ble_eq_true rfl, Nat.le_of_ble_eq_true rfl⟩ ⟨rfl, rfl⟩ (hm_recv ⟨X, hK.1⟩ hY w0 rfl) rfl hl.1 rfl (Nat.le_of_ble_eq_true rfl) d_W_point_2 ⟨Nat.le_of_ble_eq_true rfl, Nat.le_of_ble_eq_true rfl⟩) (fun v hv => ?_)
  subst hv
  refine W.eq (g2 := F0 m 5 ls [.null]) rfl ?_
  refine lv_astoreN (lv' := [(5, .null), (0, .ref (S.ad 0 0 0)), (1, .int x), (2, .int p0), (3, .long t)]) X.1 X.2.1 d_W_point_5 hl (by decide) rfl (fun ls hl => ?_)
  refine lv_aloadN X.1 X.2.1 d_W_point_7 (lv_at hl 0 rfl) ?_
  refine lv_ifnonnullN X.1 X.2.1 d_W_point_9 ?_
  refine lv_iconst (v := (-1)) X.1 X.2.1 d_W_point_12 (by decide) ?_
  exact en_iW X hY hr hlocks d_W_point_13 (⟨rfl, rfl⟩)

set_option maxHeartbeats 4000000 in
set_option maxRecDepth 100000 in
theorem k_W_state_y (l : Launch) (D : va_G) (A : Nat → Prop) (G : Nat → Nat) (S : cS) (ω : hm_T) (h20 : S.C 0 0 ≤ 20) (hall : ∀ i, i < S.C 0 0 → S.C 1 i ≤ 10) (i : Nat) (hi : i < S.C 0 0) : Met l y_W_state (.code y_W_state c_W_state 3 (some .int) :: wsA) { frames := 4, cells := 0, slots := 0, locals := 85 } (va_Pc [.ref (S.ad 0 0 0), .int (nI (i + 1))] (ctU D A G (wS G S ω))) (hm_Q D cls A (fun v w => v = some (.int ((S.I 13 i 0, S)).1) ∧ w = wS G ((S.I 13 i 0, S)).2 ω)) 0 0 A := by
  refine ct_met (by decide) (Nat.le_of_ble_eq_true rfl) ?_
  rintro p e s m below meth c ls X hr hlocks hnm hl ⟨hB, hK⟩
  have hl : lv_has ls 3 [(0, .ref (S.ad 0 0 0)), (1, .int (nI (i + 1)))] := hl
  have hY : hm_Y D cls A s.heap (wS G S ω) s.heap [] := hm_Y.start hB hK.2.2.2
  refine lv_aload_n X.1 X.2.1 d_W_state_0 rfl (lv_at hl 0 rfl) ?_
  refine lv_iload_n X.1 X.2.1 d_W_state_1 rfl (lv_at hl 1 rfl) ?_
  refine hm_callR (ct_runV (n := 1) X hK hY (k_findPart l D A G S ω i hi h20) m_112 m_109 m_111 ms_W_findPart m_1 (by decide +kernel) ⟨Nat.le_of_ble_eq_true rfl, Nat.le_of_ble_eq_true rfl⟩ ⟨rfl, rfl⟩ (hm_recv ⟨X, hK.1⟩ hY w0 rfl) rfl hl.1 rfl (Nat.le_of_ble_eq_true rfl) d_W_state_2 ⟨Nat.le_of_ble_eq_true rfl, Nat.le_of_ble_eq_true rfl⟩) (fun v hv => ?_)
  subst hv
  refine W.eq (g2 := F0 m 5 ls [.ref (S.ad 4 i 0)]) rfl ?_
  refine lv_astore_n (lv' := [(2, .ref (S.ad 4 i 0)), (0, .ref (S.ad 0 0 0)), (1, .int (nI (i + 1)))]) X.1 X.2.1 d_W_state_5 rfl hl (by decide) rfl (fun ls hl => ?_)
  refine lv_aload_n X.1 X.2.1 d_W_state_6 rfl (lv_at hl 0 rfl) ?_
  refine lv_ifnonnull (tgt := 14) X.1 X.2.1 d_W_state_7 (by decide) ?_
  refine lv_aload_n X.1 X.2.1 d_W_state_14 rfl (lv_at hl 0 rfl) ?_
  refine hm_get ⟨X, hK.1⟩ hY (w4 hi) 6 (v := .int (S.I 13 i 0)) rfl rfl (Nat.le_of_ble_eq_true rfl) hu_P m_452 (fun _ h => h) d_W_state_15 ?_
  exact en_iW X hY hr hlocks d_W_state_18 (⟨rfl, rfl⟩)

set_option maxHeartbeats 4000000 in
set_option maxRecDepth 100000 in
theorem k_W_state_no (l : Launch) (D : va_G) (A : Nat → Prop) (G : Nat → Nat) (S : cS) (ω : hm_T) (h20 : S.C 0 0 ≤ 20) (hall : ∀ i, i < S.C 0 0 → S.C 1 i ≤ 10) (x : Int32) (hx : ¬ isN S x) : Met l y_W_state (.code y_W_state c_W_state 3 (some .int) :: wsA) { frames := 4, cells := 0, slots := 0, locals := 85 } (va_Pc [.ref (S.ad 0 0 0), .int x] (ctU D A G (wS G S ω))) (hm_Q D cls A (fun v w => v = some (.int (((-1 : Int32), S)).1) ∧ w = wS G (((-1 : Int32), S)).2 ω)) 0 0 A := by
  refine ct_met (by decide) (Nat.le_of_ble_eq_true rfl) ?_
  rintro p e s m below meth c ls X hr hlocks hnm hl ⟨hB, hK⟩
  have hl : lv_has ls 3 [(0, .ref (S.ad 0 0 0)), (1, .int x)] := hl
  have hY : hm_Y D cls A s.heap (wS G S ω) s.heap [] := hm_Y.start hB hK.2.2.2
  refine lv_aload_n X.1 X.2.1 d_W_state_0 rfl (lv_at hl 0 rfl) ?_
  refine lv_iload_n X.1 X.2.1 d_W_state_1 rfl (lv_at hl 1 rfl) ?_
  refine hm_callR (ct_runV (n := 1) X hK hY (k_findPart_no l D A G S ω x hx h20) m_112 m_109 m_111 ms_W_findPart m_1 (by decide +kernel) ⟨Nat.le_of_ble_eq_true rfl, Nat.le_of_ble_eq_true rfl⟩ ⟨rfl, rfl⟩ (hm_recv ⟨X, hK.1⟩ hY w0 rfl) rfl hl.1 rfl (Nat.le_of_ble_eq_true rfl) d_W_state_2 ⟨Nat.le_of_ble_eq_true rfl, Nat.le_of_ble_eq_true rfl⟩) (fun v hv => ?_)
  subst hv
  refine W.eq (g2 := F0 m 5 ls [.null]) rfl ?_
  refine lv_astore_nN (lv' := [(2, .null), (0, .ref (S.ad 0 0 0)), (1, .int x)]) X.1 X.2.1 d_W_state_5 rfl hl (by decide) rfl (fun ls hl => ?_)
  refine lv_aload_nN X.1 X.2.1 d_W_state_6 rfl (lv_at hl 0 rfl) ?_
  refine lv_ifnonnullN X.1 X.2.1 d_W_state_7 ?_
  refine lv_iconst (v := (-1)) X.1 X.2.1 d_W_state_10 (by decide) ?_
  refine lv_goto (tgt := 18) X.1 X.2.1 d_W_state_11 (by decide) ?_
  exact en_iW X hY hr hlocks d_W_state_18 (⟨rfl, rfl⟩)

set_option maxHeartbeats 4000000 in
set_option maxRecDepth 100000 in
theorem k_W_tolerance_y (l : Launch) (D : va_G) (A : Nat → Prop) (G : Nat → Nat) (S : cS) (ω : hm_T) (h20 : S.C 0 0 ≤ 20) (hall : ∀ i, i < S.C 0 0 → S.C 1 i ≤ 10) (i : Nat) (hi : i < S.C 0 0) (n : Int32) : Met l y_W_tolerance (.code y_W_tolerance c_W_tolerance 4 (some .int) :: wsA) { frames := 4, cells := 0, slots := 0, locals := 85 } (va_Pc [.ref (S.ad 0 0 0), .int (nI (i + 1)), .int n] (ctU D A G (wS G S ω))) (hm_Q D cls A (fun v w => v = some (.int (toY S i n).1) ∧ w = wS G (toY S i n).2 ω)) 0 0 A := by
  refine ct_met (by decide) (Nat.le_of_ble_eq_true rfl) ?_
  rintro p e s m below meth c ls X hr hlocks hnm hl ⟨hB, hK⟩
  have hl : lv_has ls 4 [(0, .ref (S.ad 0 0 0)), (1, .int (nI (i + 1))), (2, .int n)] := hl
  have hY : hm_Y D cls A s.heap (wS G S ω) s.heap [] := hm_Y.start hB hK.2.2.2
  refine lv_aload_n X.1 X.2.1 d_W_tolerance_0 rfl (lv_at hl 0 rfl) ?_
  refine lv_iload_n X.1 X.2.1 d_W_tolerance_1 rfl (lv_at hl 1 rfl) ?_
  refine hm_callR (ct_runV (n := 1) X hK hY (k_findPart l D A G S ω i hi h20) m_112 m_109 m_111 ms_W_findPart m_1 (by decide +kernel) ⟨Nat.le_of_ble_eq_true rfl, Nat.le_of_ble_eq_true rfl⟩ ⟨rfl, rfl⟩ (hm_recv ⟨X, hK.1⟩ hY w0 rfl) rfl hl.1 rfl (Nat.le_of_ble_eq_true rfl) d_W_tolerance_2 ⟨Nat.le_of_ble_eq_true rfl, Nat.le_of_ble_eq_true rfl⟩) (fun v hv => ?_)
  subst hv
  refine W.eq (g2 := F0 m 5 ls [.ref (S.ad 4 i 0)]) rfl ?_
  refine lv_astore_n (lv' := [(3, .ref (S.ad 4 i 0)), (0, .ref (S.ad 0 0 0)), (1, .int (nI (i + 1))), (2, .int n)]) X.1 X.2.1 d_W_tolerance_5 rfl hl (by decide) rfl (fun ls hl => ?_)
  refine lv_aload_n X.1 X.2.1 d_W_tolerance_6 rfl (lv_at hl 0 rfl) ?_
  refine lv_ifnonnull (tgt := 16) X.1 X.2.1 d_W_tolerance_7 (by decide) ?_
  refine lv_iload_n X.1 X.2.1 d_W_tolerance_16 rfl (lv_at hl 3 rfl) ?_
  refine lv_i2l (v := n.toInt64) X.1 X.2.1 d_W_tolerance_17 rfl ?_
  refine lv_lconst (v := 0) X.1 X.2.1 d_W_tolerance_18 (by decide) ?_
  refine lv_ldc2 X.1 X.2.1 X.2.2.2.1 (X.2.2.2.2 _ m_315) d_W_tolerance_19 ?_
  refine hm_callR (ct_runS (n := 3) X hK hY (k_W_isWithin l D A G (wS G S ω) n.toInt64 0 100) m_119 m_117 m_118 m_1 (by decide +kernel) ⟨Nat.le_of_ble_eq_true rfl, Nat.le_of_ble_eq_true rfl⟩ ⟨rfl, rfl⟩ rfl hl.1 rfl (Nat.le_of_ble_eq_true rfl) d_W_tolerance_22 ⟨Nat.le_of_ble_eq_true rfl, Nat.le_of_ble_eq_true rfl⟩) (fun v hv => ?_)
  subst hv
  refine W.eq (g2 := F0 m 25 ls [.int (b2 (0 ≤ n.toInt64 ∧ n.toInt64 ≤ 100))]) rfl ?_
  refine lv_if_ne (tgt := 31) X.1 X.2.1 d_W_tolerance_25 (by decide) (fun c1 => ?_) (fun c1 => ?_)
  · have c1 : (0 ≤ n.toInt64 ∧ n.toInt64 ≤ 100) := Classical.byContradiction (fun z => c1 (b2_0.mpr z))
    refine lv_aload_n X.1 X.2.1 d_W_tolerance_31 rfl (lv_at hl 0 rfl) ?_
    refine lv_ifnonnull (tgt := 43) X.1 X.2.1 d_W_tolerance_32 (by decide) ?_
    refine lv_aload_n X.1 X.2.1 d_W_tolerance_43 rfl (lv_at hl 0 rfl) ?_
    refine lv_iload_n X.1 X.2.1 d_W_tolerance_44 rfl (lv_at hl 3 rfl) ?_
    refine hm_put ⟨X, hK.1⟩ hY (w4 hi) 5 rfl (Nat.le_of_ble_eq_true rfl) (Nat.le_of_ble_eq_true rfl) hu_P ty_P ty_P_ok nm_P m_450 (fun _ h => h) rfl rfl rfl d_W_tolerance_45 (fun H locs hY => ?_)
    have hY : hm_Y D cls A s.heap (wS G (S.sI 12 i 0 n) ω) H locs := by rw [← fo_P_5 (S := S) (v := n) hi]; exact hY
    refine lv_iconst (v := 1) X.1 X.2.1 d_W_tolerance_48 (by decide) ?_
    exact en_iW X hY hr hlocks d_W_tolerance_49 (⟨by rw [toY, if_pos c1], by rw [toY, if_pos c1]⟩)
  · have c1 : ¬ (0 ≤ n.toInt64 ∧ n.toInt64 ≤ 100) := b2_0.mp c1
    refine lv_bipush (v := (-2)) X.1 X.2.1 d_W_tolerance_28 (by decide) ?_
    exact en_iW X hY hr hlocks d_W_tolerance_30 (⟨by rw [toY, if_neg c1], by rw [toY, if_neg c1]⟩)

set_option maxHeartbeats 4000000 in
set_option maxRecDepth 100000 in
theorem k_W_tolerance_no (l : Launch) (D : va_G) (A : Nat → Prop) (G : Nat → Nat) (S : cS) (ω : hm_T) (h20 : S.C 0 0 ≤ 20) (hall : ∀ i, i < S.C 0 0 → S.C 1 i ≤ 10) (x : Int32) (hx : ¬ isN S x) (n : Int32) : Met l y_W_tolerance (.code y_W_tolerance c_W_tolerance 4 (some .int) :: wsA) { frames := 4, cells := 0, slots := 0, locals := 85 } (va_Pc [.ref (S.ad 0 0 0), .int x, .int n] (ctU D A G (wS G S ω))) (hm_Q D cls A (fun v w => v = some (.int (toN S x n).1) ∧ w = wS G (toN S x n).2 ω)) 0 0 A := by
  refine ct_met (by decide) (Nat.le_of_ble_eq_true rfl) ?_
  rintro p e s m below meth c ls X hr hlocks hnm hl ⟨hB, hK⟩
  have hl : lv_has ls 4 [(0, .ref (S.ad 0 0 0)), (1, .int x), (2, .int n)] := hl
  have hY : hm_Y D cls A s.heap (wS G S ω) s.heap [] := hm_Y.start hB hK.2.2.2
  refine lv_aload_n X.1 X.2.1 d_W_tolerance_0 rfl (lv_at hl 0 rfl) ?_
  refine lv_iload_n X.1 X.2.1 d_W_tolerance_1 rfl (lv_at hl 1 rfl) ?_
  refine hm_callR (ct_runV (n := 1) X hK hY (k_findPart_no l D A G S ω x hx h20) m_112 m_109 m_111 ms_W_findPart m_1 (by decide +kernel) ⟨Nat.le_of_ble_eq_true rfl, Nat.le_of_ble_eq_true rfl⟩ ⟨rfl, rfl⟩ (hm_recv ⟨X, hK.1⟩ hY w0 rfl) rfl hl.1 rfl (Nat.le_of_ble_eq_true rfl) d_W_tolerance_2 ⟨Nat.le_of_ble_eq_true rfl, Nat.le_of_ble_eq_true rfl⟩) (fun v hv => ?_)
  subst hv
  refine W.eq (g2 := F0 m 5 ls [.null]) rfl ?_
  refine lv_astore_nN (lv' := [(3, .null), (0, .ref (S.ad 0 0 0)), (1, .int x), (2, .int n)]) X.1 X.2.1 d_W_tolerance_5 rfl hl (by decide) rfl (fun ls hl => ?_)
  refine lv_aload_nN X.1 X.2.1 d_W_tolerance_6 rfl (lv_at hl 0 rfl) ?_
  refine lv_ifnonnullN X.1 X.2.1 d_W_tolerance_7 ?_
  refine lv_iload_n X.1 X.2.1 d_W_tolerance_10 rfl (lv_at hl 2 rfl) ?_
  refine lv_if_eq (tgt := 16) X.1 X.2.1 d_W_tolerance_11 (by decide) (fun c1 => ?_) (fun c1 => ?_)
  · refine lv_iload_n X.1 X.2.1 d_W_tolerance_16 rfl (lv_at hl 3 rfl) ?_
    refine lv_i2l (v := n.toInt64) X.1 X.2.1 d_W_tolerance_17 rfl ?_
    refine lv_lconst (v := 0) X.1 X.2.1 d_W_tolerance_18 (by decide) ?_
    refine lv_ldc2 X.1 X.2.1 X.2.2.2.1 (X.2.2.2.2 _ m_315) d_W_tolerance_19 ?_
    refine hm_callR (ct_runS (n := 3) X hK hY (k_W_isWithin l D A G (wS G S ω) n.toInt64 0 100) m_119 m_117 m_118 m_1 (by decide +kernel) ⟨Nat.le_of_ble_eq_true rfl, Nat.le_of_ble_eq_true rfl⟩ ⟨rfl, rfl⟩ rfl hl.1 rfl (Nat.le_of_ble_eq_true rfl) d_W_tolerance_22 ⟨Nat.le_of_ble_eq_true rfl, Nat.le_of_ble_eq_true rfl⟩) (fun v hv => ?_)
    subst hv
    refine W.eq (g2 := F0 m 25 ls [.int (b2 (0 ≤ n.toInt64 ∧ n.toInt64 ≤ 100))]) rfl ?_
    refine lv_if_ne (tgt := 31) X.1 X.2.1 d_W_tolerance_25 (by decide) (fun c2 => ?_) (fun c2 => ?_)
    · have c2 : (0 ≤ n.toInt64 ∧ n.toInt64 ≤ 100) := Classical.byContradiction (fun z => c2 (b2_0.mpr z))
      refine lv_aload_nN X.1 X.2.1 d_W_tolerance_31 rfl (lv_at hl 0 rfl) ?_
      refine lv_ifnonnullN X.1 X.2.1 d_W_tolerance_32 ?_
      refine lv_aload_n X.1 X.2.1 d_W_tolerance_35 rfl (lv_at hl 1 rfl) ?_
      refine lv_iload_n X.1 X.2.1 d_W_tolerance_36 rfl (lv_at hl 3 rfl) ?_
      refine hm_put ⟨X, hK.1⟩ hY w0 6 rfl (Nat.le_of_ble_eq_true rfl) (Nat.le_of_ble_eq_true rfl) hu_W ty_W ty_W_ok nm_W m_80 (fun _ h => h) rfl rfl rfl d_W_tolerance_37 (fun H locs hY => ?_)
      have hY : hm_Y D cls A s.heap (wS G (S.sI 2 0 0 n) ω) H locs := by rw [← fo_W_6 (S := S) (v := n)]; exact hY
      refine lv_goto (tgt := 48) X.1 X.2.1 d_W_tolerance_40 (by decide) ?_
      refine lv_iconst (v := 1) X.1 X.2.1 d_W_tolerance_48 (by decide) ?_
      exact en_iW X hY hr hlocks d_W_tolerance_49 (⟨by rw [toN, if_pos c1, if_pos c2], by rw [toN, if_pos c1, if_pos c2]⟩)
    · have c2 : ¬ (0 ≤ n.toInt64 ∧ n.toInt64 ≤ 100) := b2_0.mp c2
      refine lv_bipush (v := (-2)) X.1 X.2.1 d_W_tolerance_28 (by decide) ?_
      exact en_iW X hY hr hlocks d_W_tolerance_30 (⟨by rw [toN, if_pos c1, if_neg c2], by rw [toN, if_pos c1, if_neg c2]⟩)
  · refine lv_iconst (v := (-1)) X.1 X.2.1 d_W_tolerance_14 (by decide) ?_
    exact en_iW X hY hr hlocks d_W_tolerance_15 (⟨by rw [toN, if_neg c1], by rw [toN, if_neg c1]⟩)

set_option maxHeartbeats 4000000 in
set_option maxRecDepth 100000 in
theorem k_W_answer (l : Launch) (D : va_G) (A : Nat → Prop) (G : Nat → Nat) (S : cS) (ω : hm_T) (h20 : S.C 0 0 ≤ 20) (hall : ∀ i, i < S.C 0 0 → S.C 1 i ≤ 10) (st : Int32) (v0 t : Int64) : Met l y_W_answer (.code y_W_answer c_W_answer 6 (some .int) :: wsA) { frames := 6, cells := 0, slots := 0, locals := 127 } (va_Pc [.ref (S.ad 0 0 0), .int st, .long v0, .long t] (ctU D A G (wS G S ω))) (hm_Q D cls A (fun v w => v = some (.int (an S st v0 t).1) ∧ w = wS G (an S st v0 t).2 ω)) 0 0 A := by
  refine ct_met (by decide) (Nat.le_of_ble_eq_true rfl) ?_
  rintro p e s m below meth c ls X hr hlocks hnm hl ⟨hB, hK⟩
  have hl : lv_has ls 6 [(0, .ref (S.ad 0 0 0)), (1, .int st), (2, .long v0), (4, .long t)] := hl
  have hY : hm_Y D cls A s.heap (wS G S ω) s.heap [] := hm_Y.start hB hK.2.2.2
  refine lv_iload_n X.1 X.2.1 d_W_answer_0 rfl (lv_at hl 1 rfl) ?_
  refine lv_i2l (v := st.toInt64) X.1 X.2.1 d_W_answer_1 rfl ?_
  refine lv_lconst (v := 0) X.1 X.2.1 d_W_answer_2 (by decide) ?_
  refine lv_ldc2 X.1 X.2.1 X.2.2.2.1 (X.2.2.2.2 _ m_320) d_W_answer_3 ?_
  refine hm_callR (ct_runS (n := 3) X hK hY (k_W_isWithin l D A G (wS G S ω) st.toInt64 0 3) m_119 m_117 m_118 m_1 (by decide +kernel) ⟨Nat.le_of_ble_eq_true rfl, Nat.le_of_ble_eq_true rfl⟩ ⟨rfl, rfl⟩ rfl hl.1 rfl (Nat.le_of_ble_eq_true rfl) d_W_answer_6 ⟨Nat.le_of_ble_eq_true rfl, Nat.le_of_ble_eq_true rfl⟩) (fun v hv => ?_)
  subst hv
  refine W.eq (g2 := F0 m 9 ls [.int (b2 (0 ≤ st.toInt64 ∧ st.toInt64 ≤ 3))]) rfl ?_
  refine lv_if_eq (tgt := 21) X.1 X.2.1 d_W_answer_9 (by decide) (fun c1 => ?_) (fun c1 => ?_)
  · have c1 : ¬ (0 ≤ st.toInt64 ∧ st.toInt64 ≤ 3) := b2_0.mp c1
    refine lv_bipush (v := (-2)) X.1 X.2.1 d_W_answer_21 (by decide) ?_
    exact en_iW X hY hr hlocks d_W_answer_23 (⟨by rw [an, if_neg c1], by rw [an, if_neg c1]⟩)
  · have c1 : (0 ≤ st.toInt64 ∧ st.toInt64 ≤ 3) := Classical.byContradiction (fun z => c1 (b2_0.mpr z))
    refine lv_aload_n X.1 X.2.1 d_W_answer_12 rfl (lv_at hl 0 rfl) ?_
    refine lv_lload X.1 X.2.1 d_W_answer_13 (lv_at hl 3 rfl) ?_
    refine hm_callR (ct_runV (n := 1) X hK hY (k_W_isTime l D A G S ω t) m_252 m_249 m_251 ms_W_isTime m_1 (by decide +kernel) ⟨Nat.le_of_ble_eq_true rfl, Nat.le_of_ble_eq_true rfl⟩ ⟨rfl, rfl⟩ (hm_recv ⟨X, hK.1⟩ hY w0 rfl) rfl hl.1 rfl (Nat.le_of_ble_eq_true rfl) d_W_answer_15 ⟨Nat.le_of_ble_eq_true rfl, Nat.le_of_ble_eq_true rfl⟩) (fun v hv => ?_)
    subst hv
    refine W.eq (g2 := F0 m 18 ls [.int (b2 (isT S t))]) rfl ?_
    refine lv_if_ne (tgt := 24) X.1 X.2.1 d_W_answer_18 (by decide) (fun c2 => ?_) (fun c2 => ?_)
    · have c2 : (isT S t) := Classical.byContradiction (fun z => c2 (b2_0.mpr z))
      refine lv_aload_n X.1 X.2.1 d_W_answer_24 rfl (lv_at hl 0 rfl) ?_
      refine lv_lload X.1 X.2.1 d_W_answer_25 (lv_at hl 3 rfl) ?_
      refine hm_put ⟨X, hK.1⟩ hY w0 4 rfl (Nat.le_of_ble_eq_true rfl) (Nat.le_of_ble_eq_true rfl) hu_W ty_W ty_W_ok nm_W m_78 (fun _ h => h) rfl rfl rfl d_W_answer_27 (fun H locs hY => ?_)
      have hY : hm_Y D cls A s.heap (wS G (S.sJ 0 0 0 t) ω) H locs := by rw [← fo_W_4 (S := S) (v := t)]; exact hY
      refine lv_aload_n X.1 X.2.1 d_W_answer_30 rfl (lv_at hl 0 rfl) ?_
      refine hm_get ⟨X, hK.1⟩ hY w0 1 (v := .ref (S.ad 3 0 0)) rfl rfl (Nat.le_of_ble_eq_true rfl) hu_W m_75 (fun _ h => h) d_W_answer_31 ?_
      refine lv_iload_n X.1 X.2.1 d_W_answer_34 rfl (lv_at hl 1 rfl) ?_
      refine lv_lload_n X.1 X.2.1 d_W_answer_35 rfl (lv_at hl 2 rfl) ?_
      refine lv_lload X.1 X.2.1 d_W_answer_36 (lv_at hl 3 rfl) ?_
      refine hm_callR (ct_runV (n := 3) X hK hY (k_Q_isRight l D A G (S.sJ 0 0 0 t) ω st v0 t) m_324 m_321 m_322 m_323 m_5 (by decide +kernel) ⟨Nat.le_of_ble_eq_true rfl, Nat.le_of_ble_eq_true rfl⟩ ⟨rfl, rfl⟩ (hm_recv ⟨X, hK.1⟩ hY w3 rfl) rfl hl.1 rfl (Nat.le_of_ble_eq_true rfl) d_W_answer_38 ⟨Nat.le_of_ble_eq_true rfl, Nat.le_of_ble_eq_true rfl⟩) (fun v hv => ?_)
      subst hv
      refine W.eq (g2 := F0 m 41 ls [.int (b2 (rt (S.sJ 0 0 0 t) st v0 t))]) rfl ?_
      refine lv_if_eq (tgt := 56) X.1 X.2.1 d_W_answer_41 (by decide) (fun c3 => ?_) (fun c3 => ?_)
      · have c3 : ¬ (rt (S.sJ 0 0 0 t) st v0 t) := b2_0.mp c3
        refine lv_aload_n X.1 X.2.1 d_W_answer_56 rfl (lv_at hl 0 rfl) ?_
        refine hm_get ⟨X, hK.1⟩ hY w0 1 (v := .ref (S.ad 3 0 0)) rfl rfl (Nat.le_of_ble_eq_true rfl) hu_W m_75 (fun _ h => h) d_W_answer_57 ?_
        refine lv_lload X.1 X.2.1 d_W_answer_60 (lv_at hl 3 rfl) ?_
        refine hm_call (ct_runV (n := 1) X hK hY (k_Q_takeWrong l D A G (S.sJ 0 0 0 t) ω t) m_344 m_341 m_342 m_343 m_5 (by decide +kernel) ⟨Nat.le_of_ble_eq_true rfl, Nat.le_of_ble_eq_true rfl⟩ ⟨rfl, rfl⟩ (hm_recv ⟨X, hK.1⟩ hY w3 rfl) rfl hl.1 rfl (Nat.le_of_ble_eq_true rfl) d_W_answer_62 ⟨Nat.le_of_ble_eq_true rfl, Nat.le_of_ble_eq_true rfl⟩) hY (fun v w1 H locs hp hY => ?_)
        obtain ⟨rfl, rfl⟩ := hp
        have hY : hm_Y D cls A s.heap (wS G ((((S.sJ 0 0 0 t).sI 9 0 0 (S.I 9 0 0 + 1)).sI 8 0 0 0).sJ 2 0 0 t) ω) H locs := hY
        refine W.eq (g2 := F0 m 65 ls []) rfl ?_
        refine lv_aload_n X.1 X.2.1 d_W_answer_65 rfl (lv_at hl 0 rfl) ?_
        refine hm_get ⟨X, hK.1⟩ hY w0 1 (v := .ref (S.ad 3 0 0)) rfl rfl (Nat.le_of_ble_eq_true rfl) hu_W m_75 (fun _ h => h) d_W_answer_66 ?_
        refine hm_get ⟨X, hK.1⟩ hY w3 2 (v := .int (S.I 9 0 0 + 1)) rfl rfl (Nat.le_of_ble_eq_true rfl) hu_Q m_63 (fun _ h => h) d_W_answer_69 ?_
        refine lv_bipush (v := 8) X.1 X.2.1 d_W_answer_72 (by decide) ?_
        refine lv_icmp_lt (tgt := 82) X.1 X.2.1 d_W_answer_74 (by decide) (fun c4 => ?_) (fun c4 => ?_)
        · refine lv_iconst (v := 0) X.1 X.2.1 d_W_answer_82 (by decide) ?_
          exact en_iW X hY hr hlocks d_W_answer_83 (⟨by rw [an, if_pos c1, if_pos c2, if_neg c3, if_pos c4], by rw [an, if_pos c1, if_pos c2, if_neg c3, if_pos c4]⟩)
        · refine lv_aload_n X.1 X.2.1 d_W_answer_77 rfl (lv_at hl 0 rfl) ?_
          refine lv_iconst (v := 2) X.1 X.2.1 d_W_answer_78 (by decide) ?_
          refine hm_call (ct_runV (n := 1) X hK hY (k_W_restart l D A G ((((S.sJ 0 0 0 t).sI 9 0 0 (S.I 9 0 0 + 1)).sI 8 0 0 0).sJ 2 0 0 t) ω h20 hall 2) m_298 m_295 m_297 ms_W_restart m_1 (by decide +kernel) ⟨Nat.le_of_ble_eq_true rfl, Nat.le_of_ble_eq_true rfl⟩ ⟨rfl, rfl⟩ (hm_recv ⟨X, hK.1⟩ hY w0 rfl) rfl hl.1 rfl (Nat.le_of_ble_eq_true rfl) d_W_answer_79 ⟨Nat.le_of_ble_eq_true rfl, Nat.le_of_ble_eq_true rfl⟩) hY (fun v w1 H locs hp hY => ?_)
          obtain ⟨rfl, rfl⟩ := hp
          refine W.eq (g2 := F0 m 82 ls []) rfl ?_
          obtain ⟨E5, hE5⟩ : ∃ z, z = rS ((((S.sJ 0 0 0 t).sI 9 0 0 (S.I 9 0 0 + 1)).sI 8 0 0 0).sJ 2 0 0 t) 2 := ⟨_, rfl⟩
          rw [← hE5] at hY
          have hAE5 : E5.ad = S.ad := by rw [hE5]; exact (rS_k ((((S.sJ 0 0 0 t).sI 9 0 0 (S.I 9 0 0 + 1)).sI 8 0 0 0).sJ 2 0 0 t) 2).2
          have hCE5 : E5.C = S.C := by rw [hE5]; exact (rS_k ((((S.sJ 0 0 0 t).sI 9 0 0 (S.I 9 0 0 + 1)).sI 8 0 0 0).sJ 2 0 0 t) 2).1
          have hl : lv_has ls 6 [(0, .ref (E5.ad 0 0 0)), (1, .int st), (2, .long v0), (4, .long t)] := by rw [hAE5]; exact hl
          refine lv_iconst (v := 0) X.1 X.2.1 d_W_answer_82 (by decide) ?_
          exact en_iW X hY hr hlocks d_W_answer_83 (⟨by first | (rw [hE5]; rw [an, if_pos c1, if_pos c2, if_neg c3, if_neg c4]) | rw [an, if_pos c1, if_pos c2, if_neg c3, if_neg c4], by first | (rw [hE5]; rw [an, if_pos c1, if_pos c2, if_neg c3, if_neg c4]) | rw [an, if_pos c1, if_pos c2, if_neg c3, if_neg c4]⟩)
      · have c3 : (rt (S.sJ 0 0 0 t) st v0 t) := Classical.byContradiction (fun z => c3 (b2_0.mpr z))
        refine lv_aload_n X.1 X.2.1 d_W_answer_44 rfl (lv_at hl 0 rfl) ?_
        refine hm_get ⟨X, hK.1⟩ hY w0 1 (v := .ref (S.ad 3 0 0)) rfl rfl (Nat.le_of_ble_eq_true rfl) hu_W m_75 (fun _ h => h) d_W_answer_45 ?_
        refine lv_iload_n X.1 X.2.1 d_W_answer_48 rfl (lv_at hl 1 rfl) ?_
        refine lv_lload X.1 X.2.1 d_W_answer_49 (lv_at hl 3 rfl) ?_
        refine hm_call (ct_runV (n := 2) X hK hY (k_Q_takeRight l D A G (S.sJ 0 0 0 t) ω st t) m_339 m_336 m_337 m_338 m_5 (by decide +kernel) ⟨Nat.le_of_ble_eq_true rfl, Nat.le_of_ble_eq_true rfl⟩ ⟨rfl, rfl⟩ (hm_recv ⟨X, hK.1⟩ hY w3 rfl) rfl hl.1 rfl (Nat.le_of_ble_eq_true rfl) d_W_answer_51 ⟨Nat.le_of_ble_eq_true rfl, Nat.le_of_ble_eq_true rfl⟩) hY (fun v w1 H locs hp hY => ?_)
        obtain ⟨rfl, rfl⟩ := hp
        refine W.eq (g2 := F0 m 54 ls []) rfl ?_
        obtain ⟨E6, hE6⟩ : ∃ z, z = tR (S.sJ 0 0 0 t) st t := ⟨_, rfl⟩
        rw [← hE6] at hY
        have hAE6 : E6.ad = S.ad := by rw [hE6]; exact (tR_k (S.sJ 0 0 0 t) st t).2
        have hCE6 : E6.C = S.C := by rw [hE6]; exact (tR_k (S.sJ 0 0 0 t) st t).1
        have hl : lv_has ls 6 [(0, .ref (E6.ad 0 0 0)), (1, .int st), (2, .long v0), (4, .long t)] := by rw [hAE6]; exact hl
        refine lv_iconst (v := 1) X.1 X.2.1 d_W_answer_54 (by decide) ?_
        exact en_iW X hY hr hlocks d_W_answer_55 (⟨by first | (rw [hE6]; rw [an, if_pos c1, if_pos c2, if_pos c3]) | rw [an, if_pos c1, if_pos c2, if_pos c3], by first | (rw [hE6]; rw [an, if_pos c1, if_pos c2, if_pos c3]) | rw [an, if_pos c1, if_pos c2, if_pos c3]⟩)
    · have c2 : ¬ (isT S t) := b2_0.mp c2
      refine lv_bipush (v := (-2)) X.1 X.2.1 d_W_answer_21 (by decide) ?_
      exact en_iW X hY hr hlocks d_W_answer_23 (⟨by rw [an, if_pos c1, if_neg c2], by rw [an, if_pos c1, if_neg c2]⟩)

set_option maxHeartbeats 4000000 in
set_option maxRecDepth 100000 in
theorem k_W_mode (l : Launch) (D : va_G) (A : Nat → Prop) (G : Nat → Nat) (S : cS) (ω : hm_T) (h20 : S.C 0 0 ≤ 20) (hall : ∀ i, i < S.C 0 0 → S.C 1 i ≤ 10) (x : Int32) : Met l y_W_mode (.code y_W_mode c_W_mode 4 (some .int) :: wsA) { frames := 4, cells := 0, slots := 0, locals := 85 } (va_Pc [.ref (S.ad 0 0 0), .int x] (ctU D A G (wS G S ω))) (hm_Q D cls A (fun v w => v = some (.int (md S x).1) ∧ w = wS G (md S x).2 ω)) 0 0 A := by
  refine ct_met (by decide) (Nat.le_of_ble_eq_true rfl) ?_
  rintro p e s m below meth c ls X hr hlocks hnm hl ⟨hB, hK⟩
  have hl : lv_has ls 4 [(0, .ref (S.ad 0 0 0)), (1, .int x)] := hl
  have hY : hm_Y D cls A s.heap (wS G S ω) s.heap [] := hm_Y.start hB hK.2.2.2
  refine lv_iload_n X.1 X.2.1 d_W_mode_0 rfl (lv_at hl 1 rfl) ?_
  refine lv_i2l (v := x.toInt64) X.1 X.2.1 d_W_mode_1 rfl ?_
  refine lv_lconst (v := 0) X.1 X.2.1 d_W_mode_2 (by decide) ?_
  refine lv_ldc2 X.1 X.2.1 X.2.2.2.1 (X.2.2.2.2 _ m_320) d_W_mode_3 ?_
  refine hm_callR (ct_runS (n := 3) X hK hY (k_W_isWithin l D A G (wS G S ω) x.toInt64 0 3) m_119 m_117 m_118 m_1 (by decide +kernel) ⟨Nat.le_of_ble_eq_true rfl, Nat.le_of_ble_eq_true rfl⟩ ⟨rfl, rfl⟩ rfl hl.1 rfl (Nat.le_of_ble_eq_true rfl) d_W_mode_6 ⟨Nat.le_of_ble_eq_true rfl, Nat.le_of_ble_eq_true rfl⟩) (fun v hv => ?_)
  subst hv
  refine W.eq (g2 := F0 m 9 ls [.int (b2 (0 ≤ x.toInt64 ∧ x.toInt64 ≤ 3))]) rfl ?_
  refine lv_if_ne (tgt := 15) X.1 X.2.1 d_W_mode_9 (by decide) (fun c1 => ?_) (fun c1 => ?_)
  · have c1 : (0 ≤ x.toInt64 ∧ x.toInt64 ≤ 3) := Classical.byContradiction (fun z => c1 (b2_0.mpr z))
    refine lv_aload_n X.1 X.2.1 d_W_mode_15 rfl (lv_at hl 0 rfl) ?_
    refine hm_get ⟨X, hK.1⟩ hY w0 2 (v := .int (S.I 0 0 0)) rfl rfl (Nat.le_of_ble_eq_true rfl) hu_W m_76 (fun _ h => h) d_W_mode_16 ?_
    refine lv_istore_n (lv' := [(2, .int (S.I 0 0 0)), (0, .ref (S.ad 0 0 0)), (1, .int x)]) X.1 X.2.1 d_W_mode_19 rfl hl (by decide) rfl (fun ls hl => ?_)
    refine lv_iload_n X.1 X.2.1 d_W_mode_20 rfl (lv_at hl 2 rfl) ?_
    refine lv_iload_n X.1 X.2.1 d_W_mode_21 rfl (lv_at hl 0 rfl) ?_
    refine lv_icmp_eq (tgt := 63) X.1 X.2.1 d_W_mode_22 (by decide) (fun c2 => ?_) (fun c2 => ?_)
    · refine lv_iload_n X.1 X.2.1 d_W_mode_63 rfl (lv_at hl 0 rfl) ?_
      exact en_iW X hY hr hlocks d_W_mode_64 (⟨by rw [md, if_pos c1, if_pos c2], by rw [md, if_pos c1, if_pos c2]⟩)
    · refine lv_aload_n X.1 X.2.1 d_W_mode_25 rfl (lv_at hl 1 rfl) ?_
      refine lv_iload_n X.1 X.2.1 d_W_mode_26 rfl (lv_at hl 2 rfl) ?_
      refine hm_put ⟨X, hK.1⟩ hY w0 2 rfl (Nat.le_of_ble_eq_true rfl) (Nat.le_of_ble_eq_true rfl) hu_W ty_W ty_W_ok nm_W m_76 (fun _ h => h) rfl rfl rfl d_W_mode_27 (fun H locs hY => ?_)
      have hY : hm_Y D cls A s.heap (wS G (S.sI 0 0 0 x) ω) H locs := by rw [← fo_W_2 (S := S) (v := x)]; exact hY
      refine lv_iconst (v := 0) X.1 X.2.1 d_W_mode_30 (by decide) ?_
      refine lv_istore_n (lv' := [(3, .int 0), (2, .int (S.I 0 0 0)), (0, .ref (S.ad 0 0 0)), (1, .int x)]) X.1 X.2.1 d_W_mode_31 rfl hl (by decide) rfl (fun ls hl => ?_)
      have loop : ∀ (k j : Nat) (T : cS) (ls : Array Slot) (H : Heap) (locs : List Loc), j ≤ S.C 0 0 → S.C 0 0 < j + k → T = mdL (S.sI 0 0 0 x) j → T.C = S.C → hm_Y D cls A s.heap (wS G T ω) H locs → lv_has ls 4 [(3, .int (nI j)), (0, .ref (T.ad 0 0 0)), (1, .int x), (2, .int (S.I 0 0 0))] → W p l e { frames := 4, cells := 0, slots := 0, locals := 85 } s m (([.ref (S.ad 0 0 0), .int x] : List Value).toArray) below meth c H locs 0 0 (MQ below (hm_Q D cls A (fun v w => v = some (.int (md S x).1) ∧ w = wS G (md S x).2 ω)) (([.ref (S.ad 0 0 0), .int x] : List Value).toArray) s 0 0 A) (F0 m 32 ls []) := by
        intro k
        induction k with
        | zero => intro j T ls H locs hle hlt; omega
        | succ k ih =>
          intro j T ls H locs hle hlt hT hC hY hl
          refine lv_iload_n X.1 X.2.1 d_W_mode_32 rfl (lv_at hl 0 rfl) ?_
          refine lv_aload_n X.1 X.2.1 d_W_mode_33 rfl (lv_at hl 1 rfl) ?_
          refine hm_get ⟨X, hK.1⟩ hY w0 0 (v := .ref (T.ad 1 0 0)) rfl rfl (Nat.le_of_ble_eq_true rfl) hu_W m_74 (fun _ h => h) d_W_mode_34 ?_
          refine hm_callR (ct_runV (n := 0) X hK hY (k_size1 l D A G T ω) m_116 m_113 m_114 m_115 m_4 (by decide +kernel) ⟨Nat.le_of_ble_eq_true rfl, Nat.le_of_ble_eq_true rfl⟩ ⟨rfl, rfl⟩ (hm_recv ⟨X, hK.1⟩ hY w1 rfl) rfl hl.1 rfl (Nat.le_of_ble_eq_true rfl) d_W_mode_37 ⟨Nat.le_of_ble_eq_true rfl, Nat.le_of_ble_eq_true rfl⟩) (fun v hv => ?_)
          subst hv
          refine W.eq (g2 := F0 m 40 ls [.int (nI (T.C 0 0)), .int (nI j)]) rfl ?_
          have hn : T.C 0 0 = S.C 0 0 := by rw [hC]
          refine lv_icmp_ge (tgt := 63) X.1 X.2.1 d_W_mode_40 (by decide) (fun c0 => ?_) (fun c0 => ?_)
          · have hj : j = T.C 0 0 := by rcases Nat.lt_or_ge j (T.C 0 0) with q | q; exact absurd c0 (nI_ge q (by omega)); omega
            refine lv_iload_n X.1 X.2.1 d_W_mode_63 rfl (lv_at hl 3 rfl) ?_
            exact en_iW X hY hr hlocks d_W_mode_64 (⟨by rw [md, if_pos c1, if_neg c2], by rw [md, if_pos c1, if_neg c2, ← hn, ← hj, ← hT]⟩)
          · have hj : j < T.C 0 0 := by rcases Nat.lt_or_ge j (T.C 0 0) with q | q; exact q; exact absurd (nI_le q (by omega)) c0
            refine lv_aload_n X.1 X.2.1 d_W_mode_43 rfl (lv_at hl 1 rfl) ?_
            refine hm_get ⟨X, hK.1⟩ hY w0 0 (v := .ref (T.ad 1 0 0)) rfl rfl (Nat.le_of_ble_eq_true rfl) hu_W m_74 (fun _ h => h) d_W_mode_44 ?_
            refine lv_iload_n X.1 X.2.1 d_W_mode_47 rfl (lv_at hl 0 rfl) ?_
            refine hm_callR (ct_runV (n := 1) X hK hY (k_get1 l D A G T ω j hj (by rw [hC]; exact h20)) m_123 m_120 m_121 m_122 m_4 (by decide +kernel) ⟨Nat.le_of_ble_eq_true rfl, Nat.le_of_ble_eq_true rfl⟩ ⟨rfl, rfl⟩ (hm_recv ⟨X, hK.1⟩ hY w1 rfl) rfl hl.1 rfl (Nat.le_of_ble_eq_true rfl) d_W_mode_48 ⟨Nat.le_of_ble_eq_true rfl, Nat.le_of_ble_eq_true rfl⟩) (fun v hv => ?_)
            subst hv
            refine W.eq (g2 := F0 m 51 ls [.ref (T.ad 4 j 0)]) rfl ?_
            refine va_castY X.1 X.2.1 X.2.2.2.1 (X.2.2.2.2 _ m_134) hK.2.1.2.2.1 (hm_recv ⟨X, hK.1⟩ hY (w4 hj) rfl) d_W_mode_51 ?_
            refine hm_call (ct_runV (n := 0) X hK hY (k_P_forgetCourse l D A G T ω j hj (by rw [hC]; exact hall j (by omega))) m_306 m_349 m_304 m_305 m_11 (by decide +kernel) ⟨Nat.le_of_ble_eq_true rfl, Nat.le_of_ble_eq_true rfl⟩ ⟨rfl, rfl⟩ (hm_recv ⟨X, hK.1⟩ hY (w4 hj) rfl) rfl hl.1 rfl (Nat.le_of_ble_eq_true rfl) d_W_mode_54 ⟨Nat.le_of_ble_eq_true rfl, Nat.le_of_ble_eq_true rfl⟩) hY (fun v w1 H locs hp hY => ?_)
            obtain ⟨rfl, rfl⟩ := hp
            refine W.eq (g2 := F0 m 57 ls []) rfl ?_
            obtain ⟨E3, hE3⟩ : ∃ z, z = fC T j := ⟨_, rfl⟩
            rw [← hE3] at hY
            have hAE3 : E3.ad = T.ad := by rw [hE3]; exact (fC_k T j).2
            have hCE3 : E3.C = T.C := by rw [hE3]; exact (fC_k T j).1
            have hiE3 : j < E3.C 0 0 := by rw [hCE3]; exact hj
            have hl : lv_has ls 4 [(3, .int (nI j)), (0, .ref (E3.ad 0 0 0)), (1, .int x), (2, .int (S.I 0 0 0))] := by rw [hAE3]; exact hl
            refine lv_iinc (v := nI (j + 1)) (lv' := [(3, .int (nI (j + 1))), (0, .ref (E3.ad 0 0 0)), (1, .int x), (2, .int (S.I 0 0 0))]) X.1 X.2.1 d_W_mode_57 hl (k := 0) rfl (nI_1 j) (by decide) rfl (fun ls hl => ?_)
            refine lv_goto (tgt := 32) X.1 X.2.1 d_W_mode_60 (by decide) ?_
            exact ih (j + 1) E3 _ _ _ (by omega) (by omega) (by rw [hE3, show mdL (S.sI 0 0 0 x) (j + 1) = fC (mdL (S.sI 0 0 0 x) j) j from rfl, ← hT]) (hCE3.trans hC) hY (lv_sub hl [0, 1, 2, 3] rfl)
      exact loop (S.C 0 0 + 1) 0 (S.sI 0 0 0 x) ls _ _ (Nat.zero_le _) (by omega) rfl rfl hY (lv_sub hl [0, 2, 3, 1] rfl)
  · have c1 : ¬ (0 ≤ x.toInt64 ∧ x.toInt64 ≤ 3) := b2_0.mp c1
    refine lv_bipush (v := (-2)) X.1 X.2.1 d_W_mode_12 (by decide) ?_
    exact en_iW X hY hr hlocks d_W_mode_14 (⟨by rw [md, if_neg c1], by rw [md, if_neg c1]⟩)

set_option maxHeartbeats 4000000 in
set_option maxRecDepth 100000 in
theorem k_W_reset (l : Launch) (D : va_G) (A : Nat → Prop) (G : Nat → Nat) (S : cS) (ω : hm_T) (h20 : S.C 0 0 ≤ 20) (hall : ∀ i, i < S.C 0 0 → S.C 1 i ≤ 10) (x : Int32) : Met l y_W_reset (.code y_W_reset c_W_reset 2 (some .int) :: wsA) { frames := 6, cells := 0, slots := 0, locals := 127 } (va_Pc [.ref (S.ad 0 0 0), .int x] (ctU D A G (wS G S ω))) (hm_Q D cls A (fun v w => v = some (.int (rst S x).1) ∧ w = wS G (rst S x).2 ω)) 0 0 A := by
  refine ct_met (by decide) (Nat.le_of_ble_eq_true rfl) ?_
  rintro p e s m below meth c ls X hr hlocks hnm hl ⟨hB, hK⟩
  have hl : lv_has ls 2 [(0, .ref (S.ad 0 0 0)), (1, .int x)] := hl
  have hY : hm_Y D cls A s.heap (wS G S ω) s.heap [] := hm_Y.start hB hK.2.2.2
  refine lv_iload_n X.1 X.2.1 d_W_reset_0 rfl (lv_at hl 1 rfl) ?_
  by_cases c0 : x = 0
  · refine lv_tableIn (tgt := 40) X.1 X.2.1 d_W_reset_1 (by rw [c0]; decide) (by rw [c0]; decide) (off := 39) (by rw [c0]; rfl) (by decide) ?_
    refine lv_aload_n X.1 X.2.1 d_W_reset_40 rfl (lv_at hl 0 rfl) ?_
    refine lv_iconst (v := 4) X.1 X.2.1 d_W_reset_41 (by decide) ?_
    refine hm_call (ct_runV (n := 1) X hK hY (k_W_restart l D A G S ω h20 hall 4) m_298 m_295 m_297 ms_W_restart m_1 (by decide +kernel) ⟨Nat.le_of_ble_eq_true rfl, Nat.le_of_ble_eq_true rfl⟩ ⟨rfl, rfl⟩ (hm_recv ⟨X, hK.1⟩ hY w0 rfl) rfl hl.1 rfl (Nat.le_of_ble_eq_true rfl) d_W_reset_42 ⟨Nat.le_of_ble_eq_true rfl, Nat.le_of_ble_eq_true rfl⟩) hY (fun v w1 H locs hp hY => ?_)
    obtain ⟨rfl, rfl⟩ := hp
    refine W.eq (g2 := F0 m 45 ls []) rfl ?_
    obtain ⟨E1, hE1⟩ : ∃ z, z = rS S 4 := ⟨_, rfl⟩
    rw [← hE1] at hY
    have hAE1 : E1.ad = S.ad := by rw [hE1]; exact (rS_k S 4).2
    have hCE1 : E1.C = S.C := by rw [hE1]; exact (rS_k S 4).1
    have hl : lv_has ls 2 [(0, .ref (E1.ad 0 0 0)), (1, .int x)] := by rw [hAE1]; exact hl
    refine lv_aload_n X.1 X.2.1 d_W_reset_45 rfl (lv_at hl 0 rfl) ?_
    refine hm_get ⟨X, hK.1⟩ hY w0 8 (v := .int (E1.I 4 0 0)) rfl rfl (Nat.le_of_ble_eq_true rfl) hu_W m_82 (fun _ h => h) d_W_reset_46 ?_
    exact en_iW X hY hr hlocks d_W_reset_49 (⟨by first | (rw [hE1]; rw [rst, if_pos c0]) | rw [rst, if_pos c0], by first | (rw [hE1]; rw [rst, if_pos c0]) | rw [rst, if_pos c0]⟩)
  by_cases c1 : x = 1
  · refine lv_tableIn (tgt := 50) X.1 X.2.1 d_W_reset_1 (by rw [c1]; decide) (by rw [c1]; decide) (off := 49) (by rw [c1]; rfl) (by decide) ?_
    refine lv_aload_n X.1 X.2.1 d_W_reset_50 rfl (lv_at hl 0 rfl) ?_
    refine hm_get ⟨X, hK.1⟩ hY w0 8 (v := .int (S.I 4 0 0)) rfl rfl (Nat.le_of_ble_eq_true rfl) hu_W m_82 (fun _ h => h) d_W_reset_51 ?_
    exact en_iW X hY hr hlocks d_W_reset_54 (⟨by rw [rst, if_neg c0, if_pos c1], by rw [rst, if_neg c0, if_pos c1]⟩)
  by_cases c2 : x = 2
  · refine lv_tableIn (tgt := 55) X.1 X.2.1 d_W_reset_1 (by rw [c2]; decide) (by rw [c2]; decide) (off := 54) (by rw [c2]; rfl) (by decide) ?_
    refine lv_aload_n X.1 X.2.1 d_W_reset_55 rfl (lv_at hl 0 rfl) ?_
    refine hm_get ⟨X, hK.1⟩ hY w0 9 (v := .int (S.I 5 0 0)) rfl rfl (Nat.le_of_ble_eq_true rfl) hu_W m_83 (fun _ h => h) d_W_reset_56 ?_
    exact en_iW X hY hr hlocks d_W_reset_59 (⟨by rw [rst, if_neg c0, if_neg c1, if_pos c2], by rw [rst, if_neg c0, if_neg c1, if_pos c2]⟩)
  by_cases c3 : x = 3
  · refine lv_tableIn (tgt := 60) X.1 X.2.1 d_W_reset_1 (by rw [c3]; decide) (by rw [c3]; decide) (off := 59) (by rw [c3]; rfl) (by decide) ?_
    refine lv_aload_n X.1 X.2.1 d_W_reset_60 rfl (lv_at hl 0 rfl) ?_
    refine hm_get ⟨X, hK.1⟩ hY w0 1 (v := .ref (S.ad 3 0 0)) rfl rfl (Nat.le_of_ble_eq_true rfl) hu_W m_75 (fun _ h => h) d_W_reset_61 ?_
    refine hm_get ⟨X, hK.1⟩ hY w3 0 (v := .int (S.I 7 0 0)) rfl rfl (Nat.le_of_ble_eq_true rfl) hu_Q m_60 (fun _ h => h) d_W_reset_64 ?_
    exact en_iW X hY hr hlocks d_W_reset_67 (⟨by rw [rst, if_neg c0, if_neg c1, if_neg c2, if_pos c3], by rw [rst, if_neg c0, if_neg c1, if_neg c2, if_pos c3]⟩)
  by_cases c4 : x = 4
  · refine lv_tableIn (tgt := 68) X.1 X.2.1 d_W_reset_1 (by rw [c4]; decide) (by rw [c4]; decide) (off := 67) (by rw [c4]; rfl) (by decide) ?_
    refine lv_aload_n X.1 X.2.1 d_W_reset_68 rfl (lv_at hl 0 rfl) ?_
    refine hm_get ⟨X, hK.1⟩ hY w0 1 (v := .ref (S.ad 3 0 0)) rfl rfl (Nat.le_of_ble_eq_true rfl) hu_W m_75 (fun _ h => h) d_W_reset_69 ?_
    refine hm_get ⟨X, hK.1⟩ hY w3 2 (v := .int (S.I 9 0 0)) rfl rfl (Nat.le_of_ble_eq_true rfl) hu_Q m_63 (fun _ h => h) d_W_reset_72 ?_
    exact en_iW X hY hr hlocks d_W_reset_75 (⟨by rw [rst, if_neg c0, if_neg c1, if_neg c2, if_neg c3, if_pos c4], by rw [rst, if_neg c0, if_neg c1, if_neg c2, if_neg c3, if_pos c4]⟩)
  by_cases c5 : x = 5
  · refine lv_tableIn (tgt := 76) X.1 X.2.1 d_W_reset_1 (by rw [c5]; decide) (by rw [c5]; decide) (off := 75) (by rw [c5]; rfl) (by decide) ?_
    refine lv_aload_n X.1 X.2.1 d_W_reset_76 rfl (lv_at hl 0 rfl) ?_
    refine hm_get ⟨X, hK.1⟩ hY w0 3 (v := .int (S.I 1 0 0)) rfl rfl (Nat.le_of_ble_eq_true rfl) hu_W m_77 (fun _ h => h) d_W_reset_77 ?_
    exact en_iW X hY hr hlocks d_W_reset_80 (⟨by rw [rst, if_neg c0, if_neg c1, if_neg c2, if_neg c3, if_neg c4, if_pos c5], by rw [rst, if_neg c0, if_neg c1, if_neg c2, if_neg c3, if_neg c4, if_pos c5]⟩)
  have e0 := lv_neT (a := 0) c0 rfl
  have e1 := lv_neT (a := 1) c1 rfl
  have e2 := lv_neT (a := 2) c2 rfl
  have e3 := lv_neT (a := 3) c3 rfl
  have e4 := lv_neT (a := 4) c4 rfl
  have e5 := lv_neT (a := 5) c5 rfl
  refine lv_tableOut (tgt := 81) X.1 X.2.1 d_W_reset_1 (by omega) (by decide) ?_
  refine lv_bipush (v := (-2)) X.1 X.2.1 d_W_reset_81 (by decide) ?_
  exact en_iW X hY hr hlocks d_W_reset_83 (⟨by rw [rst, if_neg c0, if_neg c1, if_neg c2, if_neg c3, if_neg c4, if_neg c5], by rw [rst, if_neg c0, if_neg c1, if_neg c2, if_neg c3, if_neg c4, if_neg c5]⟩)

set_option maxHeartbeats 4000000 in
set_option maxRecDepth 100000 in
theorem k_W_outer (l : Launch) (D : va_G) (A : Nat → Prop) (G : Nat → Nat) (S : cS) (ω : hm_T) (h20 : S.C 0 0 ≤ 20) (hall : ∀ i, i < S.C 0 0 → S.C 1 i ≤ 10) (t : Int64) : Met l y_W_outer (.code y_W_outer c_W_outer 3 (some .int) :: wsA) { frames := 6, cells := 0, slots := 0, locals := 127 } (va_Pc [.ref (S.ad 0 0 0), .long t] (ctU D A G (wS G S ω))) (hm_Q D cls A (fun v w => v = some (.int (ou S t).1) ∧ w = wS G (ou S t).2 ω)) 0 0 A := by
  refine ct_met (by decide) (Nat.le_of_ble_eq_true rfl) ?_
  rintro p e s m below meth c ls X hr hlocks hnm hl ⟨hB, hK⟩
  have hl : lv_has ls 3 [(0, .ref (S.ad 0 0 0)), (1, .long t)] := hl
  have hY : hm_Y D cls A s.heap (wS G S ω) s.heap [] := hm_Y.start hB hK.2.2.2
  refine lv_aload_n X.1 X.2.1 d_W_outer_0 rfl (lv_at hl 0 rfl) ?_
  refine lv_lload_n X.1 X.2.1 d_W_outer_1 rfl (lv_at hl 1 rfl) ?_
  refine hm_callR (ct_runV (n := 1) X hK hY (k_W_isTime l D A G S ω t) m_252 m_249 m_251 ms_W_isTime m_1 (by decide +kernel) ⟨Nat.le_of_ble_eq_true rfl, Nat.le_of_ble_eq_true rfl⟩ ⟨rfl, rfl⟩ (hm_recv ⟨X, hK.1⟩ hY w0 rfl) rfl hl.1 rfl (Nat.le_of_ble_eq_true rfl) d_W_outer_2 ⟨Nat.le_of_ble_eq_true rfl, Nat.le_of_ble_eq_true rfl⟩) (fun v hv => ?_)
  subst hv
  refine W.eq (g2 := F0 m 5 ls [.int (b2 (isT S t))]) rfl ?_
  refine lv_if_ne (tgt := 11) X.1 X.2.1 d_W_outer_5 (by decide) (fun c1 => ?_) (fun c1 => ?_)
  · have c1 : (isT S t) := Classical.byContradiction (fun z => c1 (b2_0.mpr z))
    refine lv_aload_n X.1 X.2.1 d_W_outer_11 rfl (lv_at hl 0 rfl) ?_
    refine lv_lload_n X.1 X.2.1 d_W_outer_12 rfl (lv_at hl 1 rfl) ?_
    refine hm_put ⟨X, hK.1⟩ hY w0 4 rfl (Nat.le_of_ble_eq_true rfl) (Nat.le_of_ble_eq_true rfl) hu_W ty_W ty_W_ok nm_W m_78 (fun _ h => h) rfl rfl rfl d_W_outer_13 (fun H locs hY => ?_)
    have hY : hm_Y D cls A s.heap (wS G (S.sJ 0 0 0 t) ω) H locs := by rw [← fo_W_4 (S := S) (v := t)]; exact hY
    refine lv_lload_n X.1 X.2.1 d_W_outer_16 rfl (lv_at hl 1 rfl) ?_
    refine lv_aload_n X.1 X.2.1 d_W_outer_17 rfl (lv_at hl 0 rfl) ?_
    refine hm_get ⟨X, hK.1⟩ hY w0 5 (v := .long (S.J 1 0 0)) rfl rfl (Nat.le_of_ble_eq_true rfl) hu_W m_79 (fun _ h => h) d_W_outer_18 ?_
    refine lv_lsub X.1 X.2.1 d_W_outer_21 ?_
    refine lv_ldc2 X.1 X.2.1 X.2.2.2.1 (X.2.2.2.2 _ m_315) d_W_outer_22 ?_
    refine lc_le (tgt := 36) X d_W_outer_25 d_W_outer_26 (by decide) (fun c2 => ?_) (fun c2 => ?_)
    · refine lv_aload_n X.1 X.2.1 d_W_outer_36 rfl (lv_at hl 0 rfl) ?_
      refine lv_lload_n X.1 X.2.1 d_W_outer_37 rfl (lv_at hl 1 rfl) ?_
      refine hm_put ⟨X, hK.1⟩ hY w0 5 rfl (Nat.le_of_ble_eq_true rfl) (Nat.le_of_ble_eq_true rfl) hu_W ty_W ty_W_ok nm_W m_79 (fun _ h => h) rfl rfl rfl d_W_outer_38 (fun H locs hY => ?_)
      have hY : hm_Y D cls A s.heap (wS G ((S.sJ 0 0 0 t).sJ 1 0 0 t) ω) H locs := by rw [← fo_W_5 (S := (S.sJ 0 0 0 t)) (v := t)]; exact hY
      refine lv_iconst (v := 1) X.1 X.2.1 d_W_outer_41 (by decide) ?_
      exact en_iW X hY hr hlocks d_W_outer_42 (⟨by rw [ou, if_pos c1, if_pos c2], by rw [ou, if_pos c1, if_pos c2]⟩)
    · refine lv_aload_n X.1 X.2.1 d_W_outer_29 rfl (lv_at hl 0 rfl) ?_
      refine lv_iconst (v := 3) X.1 X.2.1 d_W_outer_30 (by decide) ?_
      refine hm_call (ct_runV (n := 1) X hK hY (k_W_restart l D A G (S.sJ 0 0 0 t) ω h20 hall 3) m_298 m_295 m_297 ms_W_restart m_1 (by decide +kernel) ⟨Nat.le_of_ble_eq_true rfl, Nat.le_of_ble_eq_true rfl⟩ ⟨rfl, rfl⟩ (hm_recv ⟨X, hK.1⟩ hY w0 rfl) rfl hl.1 rfl (Nat.le_of_ble_eq_true rfl) d_W_outer_31 ⟨Nat.le_of_ble_eq_true rfl, Nat.le_of_ble_eq_true rfl⟩) hY (fun v w1 H locs hp hY => ?_)
      obtain ⟨rfl, rfl⟩ := hp
      refine W.eq (g2 := F0 m 34 ls []) rfl ?_
      obtain ⟨E3, hE3⟩ : ∃ z, z = rS (S.sJ 0 0 0 t) 3 := ⟨_, rfl⟩
      rw [← hE3] at hY
      have hAE3 : E3.ad = S.ad := by rw [hE3]; exact (rS_k (S.sJ 0 0 0 t) 3).2
      have hCE3 : E3.C = S.C := by rw [hE3]; exact (rS_k (S.sJ 0 0 0 t) 3).1
      have hl : lv_has ls 3 [(0, .ref (E3.ad 0 0 0)), (1, .long t)] := by rw [hAE3]; exact hl
      refine lv_iconst (v := 0) X.1 X.2.1 d_W_outer_34 (by decide) ?_
      exact en_iW X hY hr hlocks d_W_outer_35 (⟨by first | (rw [hE3]; rw [ou, if_pos c1, if_neg c2]) | rw [ou, if_pos c1, if_neg c2], by first | (rw [hE3]; rw [ou, if_pos c1, if_neg c2]) | rw [ou, if_pos c1, if_neg c2]⟩)
  · have c1 : ¬ (isT S t) := b2_0.mp c1
    refine lv_bipush (v := (-2)) X.1 X.2.1 d_W_outer_8 (by decide) ?_
    exact en_iW X hY hr hlocks d_W_outer_10 (⟨by rw [ou, if_neg c1], by rw [ou, if_neg c1]⟩)

set_option maxHeartbeats 4000000 in
set_option maxRecDepth 100000 in
theorem k_W_cycle (l : Launch) (D : va_G) (A : Nat → Prop) (G : Nat → Nat) (S : cS) (ω : hm_T) (h20 : S.C 0 0 ≤ 20) (hall : ∀ i, i < S.C 0 0 → S.C 1 i ≤ 10) (t : Int64) : Met l y_W_cycle (.code y_W_cycle c_W_cycle 4 (some .int) :: wsA) { frames := 6, cells := 0, slots := 0, locals := 127 } (va_Pc [.ref (S.ad 0 0 0), .long t] (ctU D A G (wS G S ω))) (hm_Q D cls A (fun v w => v = some (.int (cy S t).1) ∧ w = wS G (cy S t).2 ω)) 0 0 A := by
  refine ct_met (by decide) (Nat.le_of_ble_eq_true rfl) ?_
  rintro p e s m below meth c ls X hr hlocks hnm hl ⟨hB, hK⟩
  have hl : lv_has ls 4 [(0, .ref (S.ad 0 0 0)), (1, .long t)] := hl
  have hY : hm_Y D cls A s.heap (wS G S ω) s.heap [] := hm_Y.start hB hK.2.2.2
  refine lv_aload_n X.1 X.2.1 d_W_cycle_0 rfl (lv_at hl 0 rfl) ?_
  refine lv_lload_n X.1 X.2.1 d_W_cycle_1 rfl (lv_at hl 1 rfl) ?_
  refine hm_callR (ct_runV (n := 1) X hK hY (k_W_isTime l D A G S ω t) m_252 m_249 m_251 ms_W_isTime m_1 (by decide +kernel) ⟨Nat.le_of_ble_eq_true rfl, Nat.le_of_ble_eq_true rfl⟩ ⟨rfl, rfl⟩ (hm_recv ⟨X, hK.1⟩ hY w0 rfl) rfl hl.1 rfl (Nat.le_of_ble_eq_true rfl) d_W_cycle_2 ⟨Nat.le_of_ble_eq_true rfl, Nat.le_of_ble_eq_true rfl⟩) (fun v hv => ?_)
  subst hv
  refine W.eq (g2 := F0 m 5 ls [.int (b2 (isT S t))]) rfl ?_
  refine lv_if_ne (tgt := 11) X.1 X.2.1 d_W_cycle_5 (by decide) (fun c1 => ?_) (fun c1 => ?_)
  · have c1 : (isT S t) := Classical.byContradiction (fun z => c1 (b2_0.mpr z))
    refine lv_aload_n X.1 X.2.1 d_W_cycle_11 rfl (lv_at hl 0 rfl) ?_
    refine lv_lload_n X.1 X.2.1 d_W_cycle_12 rfl (lv_at hl 1 rfl) ?_
    refine hm_put ⟨X, hK.1⟩ hY w0 4 rfl (Nat.le_of_ble_eq_true rfl) (Nat.le_of_ble_eq_true rfl) hu_W ty_W ty_W_ok nm_W m_78 (fun _ h => h) rfl rfl rfl d_W_cycle_13 (fun H locs hY => ?_)
    have hY : hm_Y D cls A s.heap (wS G (S.sJ 0 0 0 t) ω) H locs := by rw [← fo_W_4 (S := S) (v := t)]; exact hY
    refine lv_aload_n X.1 X.2.1 d_W_cycle_16 rfl (lv_at hl 0 rfl) ?_
    refine lv_dup X.1 X.2.1 d_W_cycle_17 rfl ?_
    refine hm_get ⟨X, hK.1⟩ hY w0 3 (v := .int (S.I 1 0 0)) rfl rfl (Nat.le_of_ble_eq_true rfl) hu_W m_77 (fun _ h => h) d_W_cycle_18 ?_
    refine lv_iconst (v := 1) X.1 X.2.1 d_W_cycle_21 (by decide) ?_
    refine lv_iadd X.1 X.2.1 d_W_cycle_22 ?_
    refine hm_put ⟨X, hK.1⟩ hY w0 3 rfl (Nat.le_of_ble_eq_true rfl) (Nat.le_of_ble_eq_true rfl) hu_W ty_W ty_W_ok nm_W m_77 (fun _ h => h) rfl rfl rfl d_W_cycle_23 (fun H locs hY => ?_)
    have hY : hm_Y D cls A s.heap (wS G ((S.sJ 0 0 0 t).sI 1 0 0 ((S.I 1 0 0) + 1)) ω) H locs := by rw [← fo_W_3 (S := (S.sJ 0 0 0 t)) (v := (S.I 1 0 0) + 1)]; exact hY
    refine lv_iconst (v := 0) X.1 X.2.1 d_W_cycle_26 (by decide) ?_
    refine lv_istore_n (lv' := [(3, .int 0), (0, .ref (S.ad 0 0 0)), (1, .long t)]) X.1 X.2.1 d_W_cycle_27 rfl hl (by decide) rfl (fun ls hl => ?_)
    have loop : ∀ (k j : Nat) (T : cS) (ls : Array Slot) (H : Heap) (locs : List Loc), j ≤ S.C 0 0 → S.C 0 0 < j + k → T = cyL ((S.sJ 0 0 0 t).sI 1 0 0 (S.I 1 0 0 + 1)) t j → T.C = S.C → hm_Y D cls A s.heap (wS G T ω) H locs → lv_has ls 4 [(3, .int (nI j)), (0, .ref (T.ad 0 0 0)), (1, .long t)] → W p l e { frames := 6, cells := 0, slots := 0, locals := 127 } s m (([.ref (S.ad 0 0 0), .long t] : List Value).toArray) below meth c H locs 0 0 (MQ below (hm_Q D cls A (fun v w => v = some (.int (cy S t).1) ∧ w = wS G (cy S t).2 ω)) (([.ref (S.ad 0 0 0), .long t] : List Value).toArray) s 0 0 A) (F0 m 28 ls []) := by
      intro k
      induction k with
      | zero => intro j T ls H locs hle hlt; omega
      | succ k ih =>
        intro j T ls H locs hle hlt hT hC hY hl
        refine lv_iload_n X.1 X.2.1 d_W_cycle_28 rfl (lv_at hl 0 rfl) ?_
        refine lv_aload_n X.1 X.2.1 d_W_cycle_29 rfl (lv_at hl 1 rfl) ?_
        refine hm_get ⟨X, hK.1⟩ hY w0 0 (v := .ref (T.ad 1 0 0)) rfl rfl (Nat.le_of_ble_eq_true rfl) hu_W m_74 (fun _ h => h) d_W_cycle_30 ?_
        refine hm_callR (ct_runV (n := 0) X hK hY (k_size1 l D A G T ω) m_116 m_113 m_114 m_115 m_4 (by decide +kernel) ⟨Nat.le_of_ble_eq_true rfl, Nat.le_of_ble_eq_true rfl⟩ ⟨rfl, rfl⟩ (hm_recv ⟨X, hK.1⟩ hY w1 rfl) rfl hl.1 rfl (Nat.le_of_ble_eq_true rfl) d_W_cycle_33 ⟨Nat.le_of_ble_eq_true rfl, Nat.le_of_ble_eq_true rfl⟩) (fun v hv => ?_)
        subst hv
        refine W.eq (g2 := F0 m 36 ls [.int (nI (T.C 0 0)), .int (nI j)]) rfl ?_
        have hn : T.C 0 0 = S.C 0 0 := by rw [hC]
        refine lv_icmp_ge (tgt := 64) X.1 X.2.1 d_W_cycle_36 (by decide) (fun c0 => ?_) (fun c0 => ?_)
        · have hj : j = T.C 0 0 := by rcases Nat.lt_or_ge j (T.C 0 0) with q | q; exact absurd c0 (nI_ge q (by omega)); omega
          refine lv_aload_n X.1 X.2.1 d_W_cycle_64 rfl (lv_at hl 1 rfl) ?_
          refine hm_callR (ct_runV (n := 0) X hK hY (k_W_worstCondition l D A G T ω (by rw [hC]; exact h20)) m_293 m_290 m_292 ms_W_worstCondition m_1 (by decide +kernel) ⟨Nat.le_of_ble_eq_true rfl, Nat.le_of_ble_eq_true rfl⟩ ⟨rfl, rfl⟩ (hm_recv ⟨X, hK.1⟩ hY w0 rfl) rfl hl.1 rfl (Nat.le_of_ble_eq_true rfl) d_W_cycle_65 ⟨Nat.le_of_ble_eq_true rfl, Nat.le_of_ble_eq_true rfl⟩) (fun v hv => ?_)
          subst hv
          refine W.eq (g2 := F0 m 68 ls [.int (wst T (T.C 0 0))]) rfl ?_
          refine lv_istore_n (lv' := [(3, .int (wst T (T.C 0 0))), (0, .ref (T.ad 0 0 0)), (1, .long t)]) X.1 X.2.1 d_W_cycle_68 rfl hl (by decide) rfl (fun ls hl => ?_)
          refine lv_aload_n X.1 X.2.1 d_W_cycle_69 rfl (lv_at hl 1 rfl) ?_
          refine lv_iload_n X.1 X.2.1 d_W_cycle_70 rfl (lv_at hl 0 rfl) ?_
          refine lv_iconst (v := 2) X.1 X.2.1 d_W_cycle_71 (by decide) ?_
          refine lv_icmp_ne (tgt := 84) X.1 X.2.1 d_W_cycle_72 (by decide) (fun c2 => ?_) (fun c2 => ?_)
          · refine lv_iconst (v := 0) X.1 X.2.1 d_W_cycle_84 (by decide) ?_
            refine hm_put ⟨X, hK.1⟩ hY w0 7 rfl (Nat.le_of_ble_eq_true rfl) (Nat.le_of_ble_eq_true rfl) hu_W ty_W ty_W_ok nm_W m_81 (fun _ h => h) rfl rfl rfl d_W_cycle_85 (fun H locs hY => ?_)
            have hY : hm_Y D cls A s.heap (wS G (T.sI 3 0 0 0) ω) H locs := by rw [← fo_W_7 (S := T) (v := 0)]; exact hY
            refine lv_aload_n X.1 X.2.1 d_W_cycle_88 rfl (lv_at hl 1 rfl) ?_
            refine hm_get ⟨X, hK.1⟩ hY w0 7 (v := .int 0) rfl rfl (Nat.le_of_ble_eq_true rfl) hu_W m_81 (fun _ h => h) d_W_cycle_89 ?_
            refine lv_aload_n X.1 X.2.1 d_W_cycle_92 rfl (lv_at hl 1 rfl) ?_
            refine hm_get ⟨X, hK.1⟩ hY w0 6 (v := .int (T.I 2 0 0)) rfl rfl (Nat.le_of_ble_eq_true rfl) hu_W m_80 (fun _ h => h) d_W_cycle_93 ?_
            refine lv_icmp_le (tgt := 106) X.1 X.2.1 d_W_cycle_96 (by decide) (fun c3 => ?_) (fun c3 => ?_)
            · refine lv_iload_n X.1 X.2.1 d_W_cycle_106 rfl (lv_at hl 0 rfl) ?_
              exact en_iW X hY hr hlocks d_W_cycle_107 (⟨by rw [cy, if_pos c1, ← hn, ← hj, ← hT, hj, cy2, if_neg c2, if_pos c3], by rw [cy, if_pos c1, ← hn, ← hj, ← hT, hj, cy2, if_neg c2, if_pos c3]⟩)
            · refine lv_aload_n X.1 X.2.1 d_W_cycle_99 rfl (lv_at hl 1 rfl) ?_
              refine lv_iconst (v := 1) X.1 X.2.1 d_W_cycle_100 (by decide) ?_
              refine hm_call (ct_runV (n := 1) X hK hY (k_W_restart l D A G (T.sI 3 0 0 0) ω (show T.C 0 0 ≤ 20 by rw [hC]; exact h20) (show ∀ i, i < T.C 0 0 → T.C 1 i ≤ 10 by rw [hC]; exact hall) 1) m_298 m_295 m_297 ms_W_restart m_1 (by decide +kernel) ⟨Nat.le_of_ble_eq_true rfl, Nat.le_of_ble_eq_true rfl⟩ ⟨rfl, rfl⟩ (hm_recv ⟨X, hK.1⟩ hY w0 rfl) rfl hl.1 rfl (Nat.le_of_ble_eq_true rfl) d_W_cycle_101 ⟨Nat.le_of_ble_eq_true rfl, Nat.le_of_ble_eq_true rfl⟩) hY (fun v w1 H locs hp hY => ?_)
              obtain ⟨rfl, rfl⟩ := hp
              refine W.eq (g2 := F0 m 104 ls []) rfl ?_
              obtain ⟨E4, hE4⟩ : ∃ z, z = rS (T.sI 3 0 0 0) 1 := ⟨_, rfl⟩
              rw [← hE4] at hY
              have hAE4 : E4.ad = T.ad := by rw [hE4]; exact (rS_k (T.sI 3 0 0 0) 1).2
              have hCE4 : E4.C = T.C := by rw [hE4]; exact (rS_k (T.sI 3 0 0 0) 1).1
              have hwE4 : E4.C 0 0 ≤ 20 := by rw [hCE4]; exact (show T.C 0 0 ≤ 20 by rw [hC]; exact h20)
              have haE4 : ∀ i, i < E4.C 0 0 → E4.C 1 i ≤ 10 := by rw [hCE4]; exact (show ∀ i, i < T.C 0 0 → T.C 1 i ≤ 10 by rw [hC]; exact hall)
              have hl : lv_has ls 4 [(3, .int (wst T (T.C 0 0))), (0, .ref (E4.ad 0 0 0)), (1, .long t)] := by rw [hAE4]; exact hl
              refine lv_iconst (v := 3) X.1 X.2.1 d_W_cycle_104 (by decide) ?_
              exact en_iW X hY hr hlocks d_W_cycle_105 (⟨by rw [cy, if_pos c1, ← hn, ← hj, ← hT, hj, cy2, if_neg c2, if_neg c3], by rw [hE4]; rw [cy, if_pos c1, ← hn, ← hj, ← hT, hj, cy2, if_neg c2, if_neg c3]⟩)
          · refine lv_aload_n X.1 X.2.1 d_W_cycle_75 rfl (lv_at hl 1 rfl) ?_
            refine hm_get ⟨X, hK.1⟩ hY w0 7 (v := .int (T.I 3 0 0)) rfl rfl (Nat.le_of_ble_eq_true rfl) hu_W m_81 (fun _ h => h) d_W_cycle_76 ?_
            refine lv_iconst (v := 1) X.1 X.2.1 d_W_cycle_79 (by decide) ?_
            refine lv_iadd X.1 X.2.1 d_W_cycle_80 ?_
            refine lv_goto (tgt := 85) X.1 X.2.1 d_W_cycle_81 (by decide) ?_
            refine hm_put ⟨X, hK.1⟩ hY w0 7 rfl (Nat.le_of_ble_eq_true rfl) (Nat.le_of_ble_eq_true rfl) hu_W ty_W ty_W_ok nm_W m_81 (fun _ h => h) rfl rfl rfl d_W_cycle_85 (fun H locs hY => ?_)
            have hY : hm_Y D cls A s.heap (wS G (T.sI 3 0 0 ((T.I 3 0 0) + 1)) ω) H locs := by rw [← fo_W_7 (S := T) (v := (T.I 3 0 0) + 1)]; exact hY
            refine lv_aload_n X.1 X.2.1 d_W_cycle_88 rfl (lv_at hl 1 rfl) ?_
            refine hm_get ⟨X, hK.1⟩ hY w0 7 (v := .int ((T.I 3 0 0) + 1)) rfl rfl (Nat.le_of_ble_eq_true rfl) hu_W m_81 (fun _ h => h) d_W_cycle_89 ?_
            refine lv_aload_n X.1 X.2.1 d_W_cycle_92 rfl (lv_at hl 1 rfl) ?_
            refine hm_get ⟨X, hK.1⟩ hY w0 6 (v := .int (T.I 2 0 0)) rfl rfl (Nat.le_of_ble_eq_true rfl) hu_W m_80 (fun _ h => h) d_W_cycle_93 ?_
            refine lv_icmp_le (tgt := 106) X.1 X.2.1 d_W_cycle_96 (by decide) (fun c5 => ?_) (fun c5 => ?_)
            · refine lv_iload_n X.1 X.2.1 d_W_cycle_106 rfl (lv_at hl 0 rfl) ?_
              exact en_iW X hY hr hlocks d_W_cycle_107 (⟨by rw [cy, if_pos c1, ← hn, ← hj, ← hT, hj, cy2, if_pos c2, if_pos c5], by rw [cy, if_pos c1, ← hn, ← hj, ← hT, hj, cy2, if_pos c2, if_pos c5]⟩)
            · refine lv_aload_n X.1 X.2.1 d_W_cycle_99 rfl (lv_at hl 1 rfl) ?_
              refine lv_iconst (v := 1) X.1 X.2.1 d_W_cycle_100 (by decide) ?_
              refine hm_call (ct_runV (n := 1) X hK hY (k_W_restart l D A G (T.sI 3 0 0 ((T.I 3 0 0) + 1)) ω (show T.C 0 0 ≤ 20 by rw [hC]; exact h20) (show ∀ i, i < T.C 0 0 → T.C 1 i ≤ 10 by rw [hC]; exact hall) 1) m_298 m_295 m_297 ms_W_restart m_1 (by decide +kernel) ⟨Nat.le_of_ble_eq_true rfl, Nat.le_of_ble_eq_true rfl⟩ ⟨rfl, rfl⟩ (hm_recv ⟨X, hK.1⟩ hY w0 rfl) rfl hl.1 rfl (Nat.le_of_ble_eq_true rfl) d_W_cycle_101 ⟨Nat.le_of_ble_eq_true rfl, Nat.le_of_ble_eq_true rfl⟩) hY (fun v w1 H locs hp hY => ?_)
              obtain ⟨rfl, rfl⟩ := hp
              refine W.eq (g2 := F0 m 104 ls []) rfl ?_
              obtain ⟨E6, hE6⟩ : ∃ z, z = rS (T.sI 3 0 0 ((T.I 3 0 0) + 1)) 1 := ⟨_, rfl⟩
              rw [← hE6] at hY
              have hAE6 : E6.ad = T.ad := by rw [hE6]; exact (rS_k (T.sI 3 0 0 ((T.I 3 0 0) + 1)) 1).2
              have hCE6 : E6.C = T.C := by rw [hE6]; exact (rS_k (T.sI 3 0 0 ((T.I 3 0 0) + 1)) 1).1
              have hwE6 : E6.C 0 0 ≤ 20 := by rw [hCE6]; exact (show T.C 0 0 ≤ 20 by rw [hC]; exact h20)
              have haE6 : ∀ i, i < E6.C 0 0 → E6.C 1 i ≤ 10 := by rw [hCE6]; exact (show ∀ i, i < T.C 0 0 → T.C 1 i ≤ 10 by rw [hC]; exact hall)
              have hl : lv_has ls 4 [(3, .int (wst T (T.C 0 0))), (0, .ref (E6.ad 0 0 0)), (1, .long t)] := by rw [hAE6]; exact hl
              refine lv_iconst (v := 3) X.1 X.2.1 d_W_cycle_104 (by decide) ?_
              exact en_iW X hY hr hlocks d_W_cycle_105 (⟨by rw [cy, if_pos c1, ← hn, ← hj, ← hT, hj, cy2, if_pos c2, if_neg c5], by rw [hE6]; rw [cy, if_pos c1, ← hn, ← hj, ← hT, hj, cy2, if_pos c2, if_neg c5]⟩)
        · have hj : j < T.C 0 0 := by rcases Nat.lt_or_ge j (T.C 0 0) with q | q; exact q; exact absurd (nI_le q (by omega)) c0
          refine lv_aload_n X.1 X.2.1 d_W_cycle_39 rfl (lv_at hl 1 rfl) ?_
          refine hm_get ⟨X, hK.1⟩ hY w0 0 (v := .ref (T.ad 1 0 0)) rfl rfl (Nat.le_of_ble_eq_true rfl) hu_W m_74 (fun _ h => h) d_W_cycle_40 ?_
          refine lv_iload_n X.1 X.2.1 d_W_cycle_43 rfl (lv_at hl 0 rfl) ?_
          refine hm_callR (ct_runV (n := 1) X hK hY (k_get1 l D A G T ω j hj (by rw [hC]; exact h20)) m_123 m_120 m_121 m_122 m_4 (by decide +kernel) ⟨Nat.le_of_ble_eq_true rfl, Nat.le_of_ble_eq_true rfl⟩ ⟨rfl, rfl⟩ (hm_recv ⟨X, hK.1⟩ hY w1 rfl) rfl hl.1 rfl (Nat.le_of_ble_eq_true rfl) d_W_cycle_44 ⟨Nat.le_of_ble_eq_true rfl, Nat.le_of_ble_eq_true rfl⟩) (fun v hv => ?_)
          subst hv
          refine W.eq (g2 := F0 m 47 ls [.ref (T.ad 4 j 0)]) rfl ?_
          refine va_castY X.1 X.2.1 X.2.2.2.1 (X.2.2.2.2 _ m_134) hK.2.1.2.2.1 (hm_recv ⟨X, hK.1⟩ hY (w4 hj) rfl) d_W_cycle_47 ?_
          refine lv_aload_n X.1 X.2.1 d_W_cycle_50 rfl (lv_at hl 1 rfl) ?_
          refine hm_get ⟨X, hK.1⟩ hY w0 3 (v := .int (T.I 1 0 0)) rfl rfl (Nat.le_of_ble_eq_true rfl) hu_W m_77 (fun _ h => h) d_W_cycle_51 ?_
          refine lv_lload_n X.1 X.2.1 d_W_cycle_54 rfl (lv_at hl 2 rfl) ?_
          refine hm_call (ct_runV (n := 2) X hK hY (k_P_passCycle l D A G T ω j hj (by rw [hC]; exact hall j (by omega)) (T.I 1 0 0) t) m_277 m_274 m_275 m_276 m_11 (by decide +kernel) ⟨Nat.le_of_ble_eq_true rfl, Nat.le_of_ble_eq_true rfl⟩ ⟨rfl, rfl⟩ (hm_recv ⟨X, hK.1⟩ hY (w4 hj) rfl) rfl hl.1 rfl (Nat.le_of_ble_eq_true rfl) d_W_cycle_55 ⟨Nat.le_of_ble_eq_true rfl, Nat.le_of_ble_eq_true rfl⟩) hY (fun v w1 H locs hp hY => ?_)
          obtain ⟨rfl, rfl⟩ := hp
          refine W.eq (g2 := F0 m 58 ls []) rfl ?_
          obtain ⟨E7, hE7⟩ : ∃ z, z = pC T j (T.I 1 0 0) t := ⟨_, rfl⟩
          rw [← hE7] at hY
          have hAE7 : E7.ad = T.ad := by rw [hE7]; exact (pC_k T j (T.I 1 0 0) t).2
          have hCE7 : E7.C = T.C := by rw [hE7]; exact (pC_k T j (T.I 1 0 0) t).1
          have hiE7 : j < E7.C 0 0 := by rw [hCE7]; exact hj
          have hl : lv_has ls 4 [(3, .int (nI j)), (0, .ref (E7.ad 0 0 0)), (1, .long t)] := by rw [hAE7]; exact hl
          refine lv_iinc (v := nI (j + 1)) (lv' := [(3, .int (nI (j + 1))), (0, .ref (E7.ad 0 0 0)), (1, .long t)]) X.1 X.2.1 d_W_cycle_58 hl (k := 0) rfl (nI_1 j) (by decide) rfl (fun ls hl => ?_)
          refine lv_goto (tgt := 28) X.1 X.2.1 d_W_cycle_61 (by decide) ?_
          exact ih (j + 1) E7 _ _ _ (by omega) (by omega) (by rw [hE7, show cyL ((S.sJ 0 0 0 t).sI 1 0 0 (S.I 1 0 0 + 1)) t (j + 1) = pC (cyL ((S.sJ 0 0 0 t).sI 1 0 0 (S.I 1 0 0 + 1)) t j) j ((cyL ((S.sJ 0 0 0 t).sI 1 0 0 (S.I 1 0 0 + 1)) t j).I 1 0 0) t from rfl, ← hT]) (hCE7.trans hC) hY (lv_sub hl [0, 1, 2] rfl)
    exact loop (S.C 0 0 + 1) 0 ((S.sJ 0 0 0 t).sI 1 0 0 ((S.I 1 0 0) + 1)) ls _ _ (Nat.zero_le _) (by omega) rfl rfl hY (lv_sub hl [0, 1, 2] rfl)
  · have c1 : ¬ (isT S t) := b2_0.mp c1
    refine lv_bipush (v := (-2)) X.1 X.2.1 d_W_cycle_8 (by decide) ?_
    exact en_iW X hY hr hlocks d_W_cycle_10 (⟨by rw [cy, if_neg c1], by rw [cy, if_neg c1]⟩)
end
section
/-! WORLDS WITH SEVERAL STORES; arraycopy of references -/
theorem hm_uu (w : hm_T) (n : hm_N) (x y : Nat × va_E) : hm_up (hm_up w n x) n y = hm_up w n y := by
  funext k
  by_cases h : k = n <;> simp [hm_up, h]
theorem hm_uc (w : hm_T) {n k : hm_N} (x y : Nat × va_E) (h : n ≠ k) : hm_up (hm_up w n x) k y = hm_up (hm_up w k y) n x := by
  funext j
  by_cases h1 : j = n
  · subst h1
    simp [hm_up, h]
  · by_cases h2 : j = k
    · subst h2
      simp [hm_up, h1]
    · simp [hm_up, h1, h2]
section WO1
variable {p : Program} {l : Launch} {e : Env} {R : Room} {s : State} {m : MethodId} {args : Array Value} {below : List Frame} {meth : Method} {c : Code} {H : Heap} {locs : List Loc} {cells slots : Nat} {Q : State → Prop}
variable {cc : ByteArray} {nL pc : Nat} {ls : Array Slot} {rest : List Value} {D : va_G} {cl : List vw_C} {A : Nat → Prop} {a : Nat} {tys : List (ClassId × FieldType)} {H0 : Heap} {Ts : List Cond} {own : String} {w : hm_T} {n nd : hm_N}
theorem hm_copy (X : hm_X p m c cc nL s args Ts own D cl tys) (hY : hm_Y D cl A H0 w H locs) (hsz : ls.size = nL) {index : Nat} (hlink : Cond.methodLink own index arraycopyName ∈ Ts) (hnat : Cond.native arraycopyName ∈ Ts) (hstat : Cond.static arraycopyName ∈ Ts) (hini : Cond.initialized "java/lang/System" ∈ Ts)
    {a0 : Nat} {c0 c1 : ClassId} {n0 n1 : Nat} {f g : Nat → Option Nat} {E0 E1 C : String} (hn0 : w n = some (a0, .inl (c0, n0, .inr (.inr (.inr (.inr f)))))) (hn1 : w nd = some (a, .inl (c1, n1, .inr (.inr (.inr (.inr g)))))) (t0 t1 : Nat) (ht0 : tys[t0]? = some (c0, .object E0)) (ht1 : tys[t1]? = some (c1, .object E1))
    {sp dp k : Int32} (h1 : ¬ sp < 0) (h2 : ¬ dp < 0) (h3 : ¬ k < 0) (h4 : sp.toNatClampNeg + k.toNatClampNeg ≤ n0) (h5 : dp.toNatClampNeg + k.toNatClampNeg ≤ n1) (hel : ∀ i : Nat, i < k.toNatClampNeg → ∀ y : Nat, f (sp.toNatClampNeg + i) = some y → ∃ cellV : Cell, H[y]? = some cellV ∧ cellV.vm.isStatics = false ∧ s.vm.findClass C = some cellV.cls) (hasg : ∀ comp c0 : ClassId, s.vm.findClass E1 = some comp → s.vm.findClass C = some c0 → s.vm.assignable c0 comp = true)
    (hframes : 1 ≤ R.frames) (hlocals : (rest.map fun v => v.category).sum + (nativeFrameWords "java/lang/System" "arraycopy" 5 + 11) ≤ R.locals) (hdg : decode cc pc = .ok (.invokestatic index, 3))
    (kk : ∀ (H1 : Heap) (locs1 : List Loc), hm_Y D cl A H0 (hm_up w nd (a, .inl (c1, n1, .inr (.inr (.inr (.inr (va_cpy f g sp.toNatClampNeg dp.toNatClampNeg k.toNatClampNeg))))))) H1 locs1 → W p l e R s m args below meth c H1 locs1 cells slots Q (F0 m (pc + 3) ls rest)) : W p l e R s m args below meth c H locs cells slots Q (F0 m pc ls (.int k :: .int dp :: .ref a :: .int sp :: .ref a0 :: rest)) := by
  obtain ⟨⟨hx, hb, hml, hown, hts⟩, hK⟩ := X
  have nn : ∀ z : Int32, ¬ z < 0 → z.toInt = (z.toNatClampNeg : Int) := by
    intro z hz
    have hz0 : (0 : Int) ≤ z.toInt := by
      have := Int32.not_lt.mp hz
      simpa using Int32.le_iff_toInt_le.mp this
    show z.toInt = ((z.toInt.toNat : Nat) : Int)
    omega
  intro T hT X
  have hc0 : H[a0]? = some (vp_cell c0 (n0, .inr (.inr (.inr (.inr f))))) := hY.1 n _ hn0
  have hc1 : H[a]? = some (vp_cell c1 (n1, .inr (.inr (.inr (.inr g))))) := hY.1 nd _ hn1
  obtain ⟨-, k0, hk0, cm0, hkk0⟩ := (hK.2 t0 _ ht0).1 n0 (fun j => va_rf (f j))
  obtain ⟨-, k1, hk1, cm1, hkk1⟩ := (hK.2 t1 _ ht1).1 n1 (fun j => va_rf (g j))
  obtain ⟨vm', X', step⟩ := X.arraycopy hx hown (hts _ hlink) (hts _ hnat) (hts _ hstat) (hts _ hini) (src := a0) (dst := a) (cs := vp_cell c0 (n0, .inr (.inr (.inr (.inr f))))) (cd := vp_cell c1 (n1, .inr (.inr (.inr (.inr g))))) (srcPos := sp) (destPos := dp) (n := k) (by rw [hT]; exact hc0) (by rw [hT]; exact hc1)
    (fun _ h => by cases h) (fun _ h => by cases h) (fun h => by cases h) (fun h => by cases h) hk0 hk1 hkk0 hkk1 rfl h1 h2 h3
    (by rw [nn sp h1, nn k h3]; show ¬ _ > ((arrV c0 n0 (fun j => va_rf (f j))).slots.size : Int); rw [arrV_size]; omega)
    (by rw [nn dp h2, nn k h3]; show ¬ _ > ((arrV c1 n1 (fun j => va_rf (g j))).slots.size : Int); rw [arrV_size]; omega)
    (fun vm₁ hal i hi => by
      have e : (vp_cell c0 (n0, .inr (.inr (.inr (.inr f))))).slots.getD (sp.toNatClampNeg + i) .null = va_rf (f (sp.toNatClampNeg + i)) := by
        show (arrV c0 n0 (fun j => va_rf (f j))).slots.getD _ _ = _
        rw [Array.getD_eq_getD_getElem?, arrV_read _ _ (by omega)]
        rfl
      rw [e]
      cases hy : f (sp.toNatClampNeg + i) with
      | none => exact ⟨rfl, trivial⟩
      | some y =>
        obtain ⟨cellV, g1, g2, g3⟩ := hel i hi y hy
        obtain ⟨kA, comp, r1, r2, r3, -⟩ := (hK.2 t1 _ ht1).2
        cases hk1.symm.trans r1
        cases hkk1.symm.trans r2
        obtain ⟨kC, hkC, -⟩ := Vm.findClass_spec g3
        obtain ⟨kE, hkE, -⟩ := Vm.findClass_spec r3
        obtain ⟨kC', hkC', -⟩ := hal.2.2 _ _ hkC
        obtain ⟨kE', hkE', -⟩ := hal.2.2 _ _ hkE
        refine ⟨rfl, cellV, (show T.heap[y]? = some cellV by rw [hT]; exact g1), (fun q h => by rw [h] at g2; cases g2), ⟨kC', hkC'⟩, ?_, ?_⟩
        · exact ⟨kE', hkE'⟩
        · show vm₁.assignable _ _ = true
          rw [hal.assignable]
          exact hasg _ _ r3 g3)
    (g := F0 m pc ls (.int k :: .int dp :: .ref a :: .int sp :: .ref a0 :: rest)) rfl (by rw [hml]; exact hsz) (rest := rest) rfl (by rw [hb]; exact hdg) hframes (by show 2 * 0 + _ + _ ≤ _; omega)
  have e1 : copied (vp_cell c0 (n0, .inr (.inr (.inr (.inr f))))) (vp_cell c1 (n1, .inr (.inr (.inr (.inr g))))) sp dp k = vp_cell c1 (n1, .inr (.inr (.inr (.inr (va_cpy f g sp.toNatClampNeg dp.toNatClampNeg k.toNatClampNeg))))) := by
    rw [vp_cell_q, vp_cell_q, vp_cell_q]
    exact va_copied (fun z => va_rf z) c0 c1 f g h4
  rw [e1] at X' step
  have hl : a < H.size := (Array.getElem?_eq_some_iff.mp hc1).1
  generalize hH1 : H.setIfInBounds a (vp_cell c1 (n1, .inr (.inr (.inr (.inr (va_cpy f g sp.toNatClampNeg dp.toNatClampNeg k.toNatClampNeg)))))) = H1
  have hheap : ((T.setVm vm').setCell a (vp_cell c1 (n1, .inr (.inr (.inr (.inr (va_cpy f g sp.toNatClampNeg dp.toNatClampNeg k.toNatClampNeg))))))).heap = H1 := by rw [← hH1, ← hT]; rfl
  have oq : ∀ q : Nat, q ≠ a → H1[q]? = H[q]? := fun q hq => by rw [← hH1]; simp [Array.getElem?_setIfInBounds, Ne.symm hq]
  have z : H1.size = H.size := by rw [← hH1]; simp
  have hat : va_at D cl (a, .inl (c1, n1, .inr (.inr (.inr (.inr (va_cpy f g sp.toNatClampNeg dp.toNatClampNeg k.toNatClampNeg)))))) H1 := by
    show H1[a]? = some _
    rw [← hH1]
    simp [Array.getElem?_setIfInBounds, hl]
  have hY1 := hY.set hn1 hat z oq 0
  obtain ⟨t, a1, b1⟩ := kk _ _ ⟨hY1.1, hY1.2.1, ⟨hY1.2.2.1.1, hY1.2.2.1.2.1, fun q hq => by
      rcases List.mem_append.mp hq with h | h
      · exact hY.2.2.1.2.2 q h
      · obtain ⟨z, -, hz⟩ := List.mem_map.mp h
        rw [← hz]
        exact hY.2.1.2 nd _ hn1⟩, hY1.2.2.2⟩ _ hheap X'
  exact ⟨t, step t a1, b1⟩
end WO1
/-- a cell gets another name; what had that name is forgotten -/
theorem hm_Y.ren {D : va_G} {cl : List vw_C} {A : Nat → Prop} {H0 H : Heap} {w : hm_T} {locs : List Loc} {nt nb : hm_N} {q : Nat × va_E} (h : hm_Y D cl A H0 (hm_up w nt q) H locs) (hnt : w nt = none) : hm_Y D cl A H0 (hm_up w nb q) H locs := by
  obtain ⟨hP, hD, hS⟩ := h
  have key : ∀ (i : hm_N) (x : Nat × va_E), hm_up w nb q i = some x → ∃ j, hm_up w nt q j = some x ∧ ((i = nb ∧ j = nt) ∨ (i ≠ nb ∧ j ≠ nt ∧ j = i)) := by
    intro i x hx
    by_cases hi : i = nb
    · subst hi
      rw [hm_up_s] at hx
      exact ⟨nt, by rw [hm_up_s]; exact hx, Or.inl ⟨rfl, rfl⟩⟩
    · rw [hm_up_n _ _ hi] at hx
      have hj : i ≠ nt := fun z => by rw [z, hnt] at hx; cases hx
      exact ⟨i, by rw [hm_up_n _ _ hj]; exact hx, Or.inr ⟨hi, hj, rfl⟩⟩
  refine ⟨fun i x hx => ?_, ⟨fun i j x y hx hy hxy => ?_, fun i x hx => ?_⟩, hS⟩
  · obtain ⟨k, hk, -⟩ := key i x hx
    exact hP k x hk
  · obtain ⟨k, hk, e1⟩ := key i x hx
    obtain ⟨k2, hk2, e2⟩ := key j y hy
    have e := hD.1 k k2 x y hk hk2 hxy
    rcases e1 with ⟨a1, a2⟩ | ⟨a1, a2, a3⟩ <;> rcases e2 with ⟨b1, b2⟩ | ⟨b1, b2, b3⟩
    · rw [a1, b1]
    · exact absurd (e.symm.trans a2) b2
    · exact absurd (e.trans b2) a2
    · rw [← a3, ← b3, e]
  · obtain ⟨k, hk, -⟩ := key i x hx
    exact hD.2 k x hk
theorem ct_cO {D : va_G} {A : Nat → Prop} {G : Nat → Nat} {s : State} (hK : ctK D A G s) : s.vm.findClass ("[" ++ (FieldType.object "java/lang/Object").toString) = some (G 4) := by
  obtain ⟨_, _, _, _, _, h⟩ := (hK.1.2 3 _ rfl).2
  exact h
theorem ct_cOn {D : va_G} {A : Nat → Prop} {G : Nat → Nat} {s : State} (hK : ctK D A G s) : s.vm.findClass "[Ljava/lang/Object;" = some (G 4) := va_nmO (hK.1.2 3 _ rfl).2 (by decide)
theorem ct_cI {D : va_G} {A : Nat → Prop} {G : Nat → Nat} {s : State} (hK : ctK D A G s) : s.vm.findClass ("[" ++ FieldType.int.toString) = some (G 1) := (hK.1.2 0 _ rfl).2
theorem ct_cZ {D : va_G} {A : Nat → Prop} {G : Nat → Nat} {s : State} (hK : ctK D A G s) : s.vm.findClass ("[" ++ FieldType.boolean.toString) = some (G 2) := (hK.1.2 1 _ rfl).2
theorem ct_cJ {D : va_G} {A : Nat → Prop} {G : Nat → Nat} {s : State} (hK : ctK D A G s) : s.vm.findClass ("[" ++ FieldType.long.toString) = some (G 3) := (hK.1.2 2 _ rfl).2
/-- the array's cell, as a receiver -/
theorem ct_arr {D : va_G} {A : Nat → Prop} {G : Nat → Nat} {s : State} {H0 H : Heap} {w : hm_T} {locs : List Loc} {n : hm_N} {a N : Nat} {f : Nat → Option Nat} (hK : ctK D A G s) (hY : hm_Y D cls A H0 w H locs) (hn : w n = some (a, .inl (G 4, N, .inr (.inr (.inr (.inr f)))))) : ∃ cell : Cell, H[a]? = some cell ∧ cell.vm.isStatics = false ∧ s.vm.findClass "[Ljava/lang/Object;" = some cell.cls :=
  ⟨_, hY.1 n _ hn, rfl, ct_cOn hK⟩
end
section
set_option maxHeartbeats 4000000 in
set_option maxRecDepth 100000 in
theorem k_AC_init (l : Launch) (D : va_G) (A : Nat → Prop) (G : Nat → Nat) (w : hm_T) (n : hm_N) (a : Nat) (er cn mo : Value) (hn : w n = some (a, .inr (4, [er, cn, mo]))) : Met l y_AC_init (.code y_AC_init c_AC_init 1 (none : Option FieldType) :: wsA) { frames := 1, cells := 0, slots := 0, locals := 20 } (va_Pc [.ref a] (ctU D A G w)) (hm_R (fun v => v = none)) 0 0 (fun _ => False) := by
  refine ct_met (by decide) (Nat.le_of_ble_eq_true rfl) ?_
  rintro p e s m below meth c ls X hr hlocks hnm hl ⟨hB, hK⟩
  have hl : lv_has ls 1 [(0, .ref a)] := hl
  have hY : hm_Y D cls A s.heap w s.heap [] := hm_Y.start hB hK.2.2.2
  refine lv_aload_n X.1 X.2.1 d_AC_init_0 rfl (lv_at hl 0 rfl) ?_
  refine W.objInit X.1 X.2.1 X.2.2.2.1 (X.2.2.2.2 _ m_38) (X.2.2.2.2 _ m_25) (X.2.2.2.2 _ m_26) rfl (hl.1.trans X.2.2.1.symm) rfl d_AC_init_1 (Nat.le_of_ble_eq_true rfl) (Nat.le_of_ble_eq_true rfl) ?_
  refine W.eq (g2 := F0 m 4 ls []) rfl ?_
  exact W.vret X.1 X.2.1 hr (fun t ht hW => ⟨_, rfl, rfl, ht⟩) (fun q h => by cases h) d_AC_init_4

set_option maxHeartbeats 4000000 in
set_option maxRecDepth 100000 in
theorem k_AL_init (l : Launch) (D : va_G) (A : Nat → Prop) (G : Nat → Nat) (w : hm_T) (n : hm_N) (a : Nat) (er cn mo : Value) (hn : w n = some (a, .inr (4, [er, cn, mo]))) : Met l y_AL_init (.code y_AL_init c_AL_init 1 (none : Option FieldType) :: wsA) { frames := 2, cells := 0, slots := 0, locals := 40 } (va_Pc [.ref a] (ctU D A G w)) (hm_Q D cls A (fun v w1 => v = none ∧ w1 = hm_up w n (a, .inr (4, [er, cn, .int 0])))) 0 0 A := by
  refine ct_met (by decide) (Nat.le_of_ble_eq_true rfl) ?_
  rintro p e s m below meth c ls X hr hlocks hnm hl ⟨hB, hK⟩
  have hl : lv_has ls 1 [(0, .ref a)] := hl
  have hY : hm_Y D cls A s.heap w s.heap [] := hm_Y.start hB hK.2.2.2
  refine lv_aload_n X.1 X.2.1 d_AL_init_0 rfl (lv_at hl 0 rfl) ?_
  refine hm_callR (ct_runI (n := 0) X hK hY (k_AC_init l D A G w n a er cn mo hn) m_37 m_35 m_36 m_2 rfl (by decide +kernel) ⟨Nat.le_of_ble_eq_true rfl, Nat.le_of_ble_eq_true rfl⟩ ⟨rfl, rfl⟩ rfl hl.1 rfl (Nat.le_of_ble_eq_true rfl) d_AL_init_1 ⟨Nat.le_of_ble_eq_true rfl, Nat.le_of_ble_eq_true rfl⟩) (fun v hv => ?_)
  subst hv
  refine W.eq (g2 := F0 m 4 ls []) rfl ?_
  refine lv_aload_n X.1 X.2.1 d_AL_init_4 rfl (lv_at hl 0 rfl) ?_
  refine lv_iconst (v := 0) X.1 X.2.1 d_AL_init_5 (by decide) ?_
  refine hm_put ⟨X, hK.1⟩ hY hn 2 rfl (Nat.le_of_ble_eq_true rfl) (Nat.le_of_ble_eq_true rfl) hu_A ty_A ty_A_ok nm_A m_43 (fun _ h => h) rfl rfl rfl d_AL_init_6 (fun H locs hY => ?_)
  have hY : hm_Y D cls A s.heap (hm_up w n (a, .inr (4, [er, cn, .int 0]))) H locs := by exact hY
  exact en_vW X hY hr hlocks d_AL_init_9 (⟨rfl, rfl⟩)

set_option maxHeartbeats 4000000 in
set_option maxRecDepth 100000 in
theorem k_A_init (l : Launch) (D : va_G) (A : Nat → Prop) (G : Nat → Nat) (w : hm_T) (n : hm_N) (a : Nat) (er cn mo : Value) (hn : w n = some (a, .inr (4, [er, cn, mo]))) : Met l y_A_init (.code y_A_init c_A_init 1 (none : Option FieldType) :: wsA) { frames := 3, cells := 0, slots := 0, locals := 60 } (va_Pc [.ref a] (ctU D A G w)) (hm_Q D cls A (fun v w1 => v = none ∧ w1 = hm_up w n (a, .inr (4, [.ref (G 0), cn, .int 0])))) 0 0 A := by
  refine ct_met (by decide) (Nat.le_of_ble_eq_true rfl) ?_
  rintro p e s m below meth c ls X hr hlocks hnm hl ⟨hB, hK⟩
  have hl : lv_has ls 1 [(0, .ref a)] := hl
  have hY : hm_Y D cls A s.heap w s.heap [] := hm_Y.start hB hK.2.2.2
  refine lv_aload_n X.1 X.2.1 d_A_init_0 rfl (lv_at hl 0 rfl) ?_
  refine hm_call (ct_runI (n := 0) X hK hY (k_AL_init l D A G w n a er cn mo hn) m_34 m_32 m_33 m_3 rfl (by decide +kernel) ⟨Nat.le_of_ble_eq_true rfl, Nat.le_of_ble_eq_true rfl⟩ ⟨rfl, rfl⟩ rfl hl.1 rfl (Nat.le_of_ble_eq_true rfl) d_A_init_1 ⟨Nat.le_of_ble_eq_true rfl, Nat.le_of_ble_eq_true rfl⟩) hY (fun v w1 H locs hp hY => ?_)
  obtain ⟨rfl, rfl⟩ := hp
  refine W.eq (g2 := F0 m 4 ls []) rfl ?_
  refine lv_aload_n X.1 X.2.1 d_A_init_4 rfl (lv_at hl 0 rfl) ?_
  refine va_gets X.1 X.2.1 hK.2.2.1.1 hY.2.2.1 X.2.2.2.1 (X.2.2.2.2 _ m_39) (fun _ h => h) d_A_init_5 ?_
  refine hm_put ⟨X, hK.1⟩ hY (hm_up_s _ _ _) 0 rfl (Nat.le_of_ble_eq_true rfl) (Nat.le_of_ble_eq_true rfl) hu_A ty_A ty_A_ok nm_A m_41 (fun _ h => h) rfl rfl rfl d_A_init_8 (fun H locs hY => ?_)
  have hY : hm_Y D cls A s.heap (hm_up w n (a, .inr (4, [.ref (G 0), cn, .int 0]))) H locs := by rw [← hm_uu w n (a, .inr (4, [er, cn, .int 0]))]; exact hY
  exact en_vW X hY hr hlocks d_A_init_11 (⟨rfl, rfl⟩)

set_option maxHeartbeats 4000000 in
set_option maxRecDepth 100000 in
theorem k_AS_newLength (l : Launch) (D : va_G) (A : Nat → Prop) (G : Nat → Nat) (w : hm_T) (o mi pr r : Int32) (hr0 : o + (if mi < pr then pr else mi) = r) (h1 : ¬ r ≤ 0) (h2 : ¬ 2147483639 < r) : Met l y_AS_newLength (.code y_AS_newLength c_AS_newLength 4 (some .int) :: wsA) { frames := 1, cells := 0, slots := 0, locals := 21 } (va_Pc [.int o, .int mi, .int pr] (ctU D A G w)) (hm_R (fun v => v = some (.int r))) 0 0 (fun _ => False) := by
  refine ct_met (by decide) (Nat.le_of_ble_eq_true rfl) ?_
  rintro p e s m below meth c ls X hr hlocks hnm hl ⟨hB, hK⟩
  have hl : lv_has ls 4 [(0, .int o), (1, .int mi), (2, .int pr)] := hl
  have hY : hm_Y D cls A s.heap w s.heap [] := hm_Y.start hB hK.2.2.2
  refine lv_iload_n X.1 X.2.1 d_AS_newLength_0 rfl (lv_at hl 0 rfl) ?_
  refine lv_iload_n X.1 X.2.1 d_AS_newLength_1 rfl (lv_at hl 1 rfl) ?_
  refine lv_iload_n X.1 X.2.1 d_AS_newLength_2 rfl (lv_at hl 2 rfl) ?_
  refine va_mmax X.1 X.2.1 (X.2.2.1.trans hl.1.symm) X.2.2.2.1 (X.2.2.2.2 _ m_210) (X.2.2.2.2 _ m_211) (X.2.2.2.2 _ m_13) (X.2.2.2.2 _ m_212) (Nat.le_of_ble_eq_true rfl) (Nat.le_of_ble_eq_true rfl) (Nat.zero_le _) (Nat.zero_le _) d_AS_newLength_3 ?_
  refine lv_iadd X.1 X.2.1 d_AS_newLength_6 ?_
  rw [hr0]
  refine lv_istore_n (lv' := [(3, .int r), (0, .int o), (1, .int mi), (2, .int pr)]) X.1 X.2.1 d_AS_newLength_7 rfl hl (by decide) rfl (fun ls hl => ?_)
  refine lv_iconst (v := 0) X.1 X.2.1 d_AS_newLength_8 (by decide) ?_
  refine lv_iload_n X.1 X.2.1 d_AS_newLength_9 rfl (lv_at hl 0 rfl) ?_
  refine lv_icmp_ge (tgt := 21) X.1 X.2.1 d_AS_newLength_10 (by decide) (fun c1 => ?_) (fun c1 => ?_)
  · exact absurd c1 h1
  · refine lv_iload_n X.1 X.2.1 d_AS_newLength_13 rfl (lv_at hl 0 rfl) ?_
    refine lv_ldc X.1 X.2.1 X.2.2.2.1 (X.2.2.2.2 _ m_213) d_AS_newLength_14 ?_
    refine lv_icmp_gt (tgt := 21) X.1 X.2.1 d_AS_newLength_16 (by decide) (fun c2 => ?_) (fun c2 => ?_)
    · exact absurd c2 h2
    · refine lv_iload_n X.1 X.2.1 d_AS_newLength_19 rfl (lv_at hl 0 rfl) ?_
      exact en_iR X hr hlocks d_AS_newLength_20 (rfl)

theorem ct_el {D : va_G} {A : Nat → Prop} {G : Nat → Nat} {s : State} {H0 H : Heap} {w : hm_T} {locs : List Loc} {y : Nat} (hK : ctK D A G s) (hY : hm_Y D cls A H0 w H locs) (h : ∃ (nm : hm_N) (fs : List Value), w nm = some (y, .inr (1, fs))) : ∃ cellV : Cell, H[y]? = some cellV ∧ cellV.vm.isStatics = false ∧ s.vm.findClass R_P = some cellV.cls := by
  obtain ⟨nm, fs, h⟩ := h
  exact va_recv hK.1 (hY.one h) (ci := 1) (q0 := 0) rfl rfl

set_option maxHeartbeats 4000000 in
set_option maxRecDepth 100000 in
theorem k_AR_copyOf1_15 (l : Launch) (D : va_G) (A : Nat → Prop) (G : Nat → Nat) (w : hm_T) (nb : hm_N) (b N : Nat) (f : Nat → Option Nat) (hb : w nb = some (b, .inl (G 4, N, .inr (.inr (.inr (.inr f)))))) (hnt : w (99, 0, 0) = none) (hel : ∀ j y, f j = some y → ∃ (nm : hm_N) (fs : List Value), w nm = some (y, .inr (1, fs))) (hN : N < 2 ^ 31) (hM : N = 10) : Met l y_AR_copyOf1 (.code y_AR_copyOf1 c_AR_copyOf1 4 (some (.array (.object "java/lang/Object"))) :: wsA) { frames := 1, cells := 1, slots := 15, locals := 40 } (va_Pc [.ref b, .int 15, .ref (G 5)] (ctU D A G w)) (hm_Q D cls A (fun v w1 => ∃ q, v = some (.ref q) ∧ w1 = hm_up w (99, 0, 0) (q, .inl (G 4, 15, .inr (.inr (.inr (.inr (va_cpy f (fun _ => none) 0 0 10)))))))) 1 15 A := by
  refine ct_met (by decide) (Nat.le_of_ble_eq_true rfl) ?_
  rintro p e s m below meth c ls X hr hlocks hnm hl ⟨hB, hK⟩
  have hl : lv_has ls 4 [(0, .ref b), (1, .int 15), (2, .ref (G 5))] := hl
  have hY : hm_Y D cls A s.heap w s.heap [] := hm_Y.start hB hK.2.2.2
  refine lv_aload_n X.1 X.2.1 d_AR_copyOf1_0 rfl (lv_at hl 2 rfl) ?_
  refine va_ldcM X.1 X.2.1 X.2.2.2.1 (X.2.2.2.2 _ m_234) hK.2.1.2.2.2.2.2.2.2.1 d_AR_copyOf1_1 ?_
  refine lv_acmp_ne (rx := some (G 5)) (ry := some (G 5)) (tgt := 13) X.1 X.2.1 d_AR_copyOf1_3 (by decide) (fun c1 => absurd rfl c1) (fun c1 => ?_)
  refine lv_iload_n X.1 X.2.1 d_AR_copyOf1_6 rfl (lv_at hl 1 rfl) ?_
  refine hm_newq ⟨X, hK.1⟩ hY (99, 0, 0) m_236 (va_AO.use hK.2.1.2.2.2.2.2.2.1) (ct_cO hK) (N := 15) (by decide) (by decide) (by decide) (Nat.le_of_ble_eq_true rfl) (Nat.le_of_ble_eq_true rfl) d_AR_copyOf1_7 (fun q H hY => ?_)
  refine lv_goto (tgt := 24) X.1 X.2.1 d_AR_copyOf1_10 (by decide) ?_
  refine lv_astore_n (lv' := [(3, .ref q), (0, .ref b), (1, .int 15), (2, .ref (G 5))]) X.1 X.2.1 d_AR_copyOf1_24 rfl hl (by decide) rfl (fun ls hl => ?_)
  refine lv_aload_n X.1 X.2.1 d_AR_copyOf1_25 rfl (lv_at hl 1 rfl) ?_
  refine lv_iconst (v := 0) X.1 X.2.1 d_AR_copyOf1_26 (by decide) ?_
  refine lv_aload_n X.1 X.2.1 d_AR_copyOf1_27 rfl (lv_at hl 0 rfl) ?_
  refine lv_iconst (v := 0) X.1 X.2.1 d_AR_copyOf1_28 (by decide) ?_
  refine lv_aload_n X.1 X.2.1 d_AR_copyOf1_29 rfl (lv_at hl 1 rfl) ?_
  have hne : nb ≠ (99, 0, 0) := fun z => by rw [z, hnt] at hb; cases hb
  have hb1 : (hm_up w (99, 0, 0) (q, .inl (G 4, 15, .inr (.inr (.inr (.inr (fun _ => none))))))) nb = _ := (hm_up_n _ _ hne).trans hb
  refine hm_alen ⟨X, hK.1⟩ hY hb1 3 rfl (v := 10) (by rw [hM]; rfl) d_AR_copyOf1_30 ?_
  refine lv_iload_n X.1 X.2.1 d_AR_copyOf1_31 rfl (lv_at hl 2 rfl) ?_
  refine va_mmin X.1 X.2.1 (X.2.2.1.trans hl.1.symm) X.2.2.2.1 (X.2.2.2.2 _ m_237) (X.2.2.2.2 _ m_238) (X.2.2.2.2 _ m_13) (X.2.2.2.2 _ m_239) (Nat.le_of_ble_eq_true rfl) (Nat.le_of_ble_eq_true rfl) (Nat.le_of_ble_eq_true rfl) (Nat.le_of_ble_eq_true rfl) d_AR_copyOf1_32 ?_
  refine W.eq (g2 := F0 m 35 ls [.int 10, .int 0, .ref q, .int 0, .ref b]) rfl ?_
  refine hm_copy ⟨X, hK.1⟩ hY hl.1 m_240 m_242 m_241 m_15 hb1 (hm_up_s _ _ _) 3 3 rfl rfl (C := R_P) (by decide) (by decide) (by decide) (by rw [hM]; decide) (by decide) (fun i hi y hy => ct_el hK hY (by obtain ⟨nm, fs, h⟩ := hel _ y hy; exact ⟨nm, fs, (hm_up_n _ _ (fun z => by rw [z, hnt] at h; cases h)).trans h⟩)) (vb_asgC hK.2.1.2.2.2.2.1) (Nat.le_of_ble_eq_true rfl) ((by decide)) d_AR_copyOf1_35 (fun H locs hY => ?_)
  have hY : hm_Y D cls A s.heap (hm_up w (99, 0, 0) (q, .inl (G 4, 15, .inr (.inr (.inr (.inr (va_cpy f (fun _ => none) 0 0 10))))))) H locs := by rw [hm_uu] at hY; exact hY
  refine lv_aload_n X.1 X.2.1 d_AR_copyOf1_38 rfl (lv_at hl 0 rfl) ?_
  exact en_aW X hY hr (by first | exact Or.inl ⟨_, rfl⟩ | exact Or.inr ⟨_, rfl⟩) hlocks d_AR_copyOf1_39 (Or.inr ⟨_, rfl⟩) (⟨q, rfl, rfl⟩)

set_option maxHeartbeats 4000000 in
set_option maxRecDepth 100000 in
theorem k_AR_copyOf0_15 (l : Launch) (D : va_G) (A : Nat → Prop) (G : Nat → Nat) (w : hm_T) (nb : hm_N) (b N : Nat) (f : Nat → Option Nat) (hb : w nb = some (b, .inl (G 4, N, .inr (.inr (.inr (.inr f)))))) (hnt : w (99, 0, 0) = none) (hel : ∀ j y, f j = some y → ∃ (nm : hm_N) (fs : List Value), w nm = some (y, .inr (1, fs))) (hN : N < 2 ^ 31) (hM : N = 10) : Met l y_AR_copyOf0 (.code y_AR_copyOf0 c_AR_copyOf0 2 (some (.array (.object "java/lang/Object"))) :: wsA) { frames := 2, cells := 1, slots := 15, locals := 63 } (va_Pc [.ref b, .int 15] (ctU D A G w)) (hm_Q D cls A (fun v w1 => ∃ q, v = some (.ref q) ∧ w1 = hm_up w (99, 0, 0) (q, .inl (G 4, 15, .inr (.inr (.inr (.inr (va_cpy f (fun _ => none) 0 0 10)))))))) 1 15 A := by
  refine ct_met (by decide) (Nat.le_of_ble_eq_true rfl) ?_
  rintro p e s m below meth c ls X hr hlocks hnm hl ⟨hB, hK⟩
  have hl : lv_has ls 2 [(0, .ref b), (1, .int 15)] := hl
  have hY : hm_Y D cls A s.heap w s.heap [] := hm_Y.start hB hK.2.2.2
  refine lv_aload_n X.1 X.2.1 d_AR_copyOf0_0 rfl (lv_at hl 0 rfl) ?_
  refine lv_iload_n X.1 X.2.1 d_AR_copyOf0_1 rfl (lv_at hl 1 rfl) ?_
  refine lv_aload_n X.1 X.2.1 d_AR_copyOf0_2 rfl (lv_at hl 0 rfl) ?_
  refine va_getC X.1 X.2.1 (X.2.2.1.trans hl.1.symm) X.2.2.2.1 (X.2.2.2.2 _ m_220) (va_Dc.use hK.2.1.2.2.2.2.2.2.2.2) (X.2.2.2.2 _ m_667) (X.2.2.2.2 _ m_221) (X.2.2.2.2 _ m_230) hK.2.1.2.2.2.2.2.2.2.1 (ct_arr hK hY hb) (Nat.le_of_ble_eq_true rfl) (Nat.le_of_ble_eq_true rfl) d_AR_copyOf0_3 ?_
  refine hm_call (ct_runS (n := 3) X hK hY (k_AR_copyOf1_15 l D A G w nb b N f hb hnt hel hN hM) m_233 m_231 m_232 m_14 (by decide +kernel) ⟨Nat.le_of_ble_eq_true rfl, Nat.le_of_ble_eq_true rfl⟩ ⟨rfl, rfl⟩ rfl hl.1 rfl (Nat.le_of_ble_eq_true rfl) d_AR_copyOf0_6 ⟨Nat.le_of_ble_eq_true rfl, Nat.le_of_ble_eq_true rfl⟩) hY (fun v w1 H locs hp hY => ?_)
  obtain ⟨q, rfl, rfl⟩ := hp
  refine W.eq (g2 := F0 m 9 ls [.ref q]) rfl ?_
  exact en_aW X hY hr (by first | exact Or.inl ⟨_, rfl⟩ | exact Or.inr ⟨_, rfl⟩) hlocks d_AR_copyOf0_9 (Or.inr ⟨_, rfl⟩) (⟨q, rfl, rfl⟩)

set_option maxHeartbeats 4000000 in
set_option maxRecDepth 100000 in
theorem k_AR_copyOf1_22 (l : Launch) (D : va_G) (A : Nat → Prop) (G : Nat → Nat) (w : hm_T) (nb : hm_N) (b N : Nat) (f : Nat → Option Nat) (hb : w nb = some (b, .inl (G 4, N, .inr (.inr (.inr (.inr f)))))) (hnt : w (99, 0, 0) = none) (hel : ∀ j y, f j = some y → ∃ (nm : hm_N) (fs : List Value), w nm = some (y, .inr (1, fs))) (hN : N < 2 ^ 31) (hM : N = 15) : Met l y_AR_copyOf1 (.code y_AR_copyOf1 c_AR_copyOf1 4 (some (.array (.object "java/lang/Object"))) :: wsA) { frames := 1, cells := 1, slots := 22, locals := 40 } (va_Pc [.ref b, .int 22, .ref (G 5)] (ctU D A G w)) (hm_Q D cls A (fun v w1 => ∃ q, v = some (.ref q) ∧ w1 = hm_up w (99, 0, 0) (q, .inl (G 4, 22, .inr (.inr (.inr (.inr (va_cpy f (fun _ => none) 0 0 15)))))))) 1 22 A := by
  refine ct_met (by decide) (Nat.le_of_ble_eq_true rfl) ?_
  rintro p e s m below meth c ls X hr hlocks hnm hl ⟨hB, hK⟩
  have hl : lv_has ls 4 [(0, .ref b), (1, .int 22), (2, .ref (G 5))] := hl
  have hY : hm_Y D cls A s.heap w s.heap [] := hm_Y.start hB hK.2.2.2
  refine lv_aload_n X.1 X.2.1 d_AR_copyOf1_0 rfl (lv_at hl 2 rfl) ?_
  refine va_ldcM X.1 X.2.1 X.2.2.2.1 (X.2.2.2.2 _ m_234) hK.2.1.2.2.2.2.2.2.2.1 d_AR_copyOf1_1 ?_
  refine lv_acmp_ne (rx := some (G 5)) (ry := some (G 5)) (tgt := 13) X.1 X.2.1 d_AR_copyOf1_3 (by decide) (fun c1 => absurd rfl c1) (fun c1 => ?_)
  refine lv_iload_n X.1 X.2.1 d_AR_copyOf1_6 rfl (lv_at hl 1 rfl) ?_
  refine hm_newq ⟨X, hK.1⟩ hY (99, 0, 0) m_236 (va_AO.use hK.2.1.2.2.2.2.2.2.1) (ct_cO hK) (N := 22) (by decide) (by decide) (by decide) (Nat.le_of_ble_eq_true rfl) (Nat.le_of_ble_eq_true rfl) d_AR_copyOf1_7 (fun q H hY => ?_)
  refine lv_goto (tgt := 24) X.1 X.2.1 d_AR_copyOf1_10 (by decide) ?_
  refine lv_astore_n (lv' := [(3, .ref q), (0, .ref b), (1, .int 22), (2, .ref (G 5))]) X.1 X.2.1 d_AR_copyOf1_24 rfl hl (by decide) rfl (fun ls hl => ?_)
  refine lv_aload_n X.1 X.2.1 d_AR_copyOf1_25 rfl (lv_at hl 1 rfl) ?_
  refine lv_iconst (v := 0) X.1 X.2.1 d_AR_copyOf1_26 (by decide) ?_
  refine lv_aload_n X.1 X.2.1 d_AR_copyOf1_27 rfl (lv_at hl 0 rfl) ?_
  refine lv_iconst (v := 0) X.1 X.2.1 d_AR_copyOf1_28 (by decide) ?_
  refine lv_aload_n X.1 X.2.1 d_AR_copyOf1_29 rfl (lv_at hl 1 rfl) ?_
  have hne : nb ≠ (99, 0, 0) := fun z => by rw [z, hnt] at hb; cases hb
  have hb1 : (hm_up w (99, 0, 0) (q, .inl (G 4, 22, .inr (.inr (.inr (.inr (fun _ => none))))))) nb = _ := (hm_up_n _ _ hne).trans hb
  refine hm_alen ⟨X, hK.1⟩ hY hb1 3 rfl (v := 15) (by rw [hM]; rfl) d_AR_copyOf1_30 ?_
  refine lv_iload_n X.1 X.2.1 d_AR_copyOf1_31 rfl (lv_at hl 2 rfl) ?_
  refine va_mmin X.1 X.2.1 (X.2.2.1.trans hl.1.symm) X.2.2.2.1 (X.2.2.2.2 _ m_237) (X.2.2.2.2 _ m_238) (X.2.2.2.2 _ m_13) (X.2.2.2.2 _ m_239) (Nat.le_of_ble_eq_true rfl) (Nat.le_of_ble_eq_true rfl) (Nat.le_of_ble_eq_true rfl) (Nat.le_of_ble_eq_true rfl) d_AR_copyOf1_32 ?_
  refine W.eq (g2 := F0 m 35 ls [.int 15, .int 0, .ref q, .int 0, .ref b]) rfl ?_
  refine hm_copy ⟨X, hK.1⟩ hY hl.1 m_240 m_242 m_241 m_15 hb1 (hm_up_s _ _ _) 3 3 rfl rfl (C := R_P) (by decide) (by decide) (by decide) (by rw [hM]; decide) (by decide) (fun i hi y hy => ct_el hK hY (by obtain ⟨nm, fs, h⟩ := hel _ y hy; exact ⟨nm, fs, (hm_up_n _ _ (fun z => by rw [z, hnt] at h; cases h)).trans h⟩)) (vb_asgC hK.2.1.2.2.2.2.1) (Nat.le_of_ble_eq_true rfl) ((by decide)) d_AR_copyOf1_35 (fun H locs hY => ?_)
  have hY : hm_Y D cls A s.heap (hm_up w (99, 0, 0) (q, .inl (G 4, 22, .inr (.inr (.inr (.inr (va_cpy f (fun _ => none) 0 0 15))))))) H locs := by rw [hm_uu] at hY; exact hY
  refine lv_aload_n X.1 X.2.1 d_AR_copyOf1_38 rfl (lv_at hl 0 rfl) ?_
  exact en_aW X hY hr (by first | exact Or.inl ⟨_, rfl⟩ | exact Or.inr ⟨_, rfl⟩) hlocks d_AR_copyOf1_39 (Or.inr ⟨_, rfl⟩) (⟨q, rfl, rfl⟩)

set_option maxHeartbeats 4000000 in
set_option maxRecDepth 100000 in
theorem k_AR_copyOf0_22 (l : Launch) (D : va_G) (A : Nat → Prop) (G : Nat → Nat) (w : hm_T) (nb : hm_N) (b N : Nat) (f : Nat → Option Nat) (hb : w nb = some (b, .inl (G 4, N, .inr (.inr (.inr (.inr f)))))) (hnt : w (99, 0, 0) = none) (hel : ∀ j y, f j = some y → ∃ (nm : hm_N) (fs : List Value), w nm = some (y, .inr (1, fs))) (hN : N < 2 ^ 31) (hM : N = 15) : Met l y_AR_copyOf0 (.code y_AR_copyOf0 c_AR_copyOf0 2 (some (.array (.object "java/lang/Object"))) :: wsA) { frames := 2, cells := 1, slots := 22, locals := 63 } (va_Pc [.ref b, .int 22] (ctU D A G w)) (hm_Q D cls A (fun v w1 => ∃ q, v = some (.ref q) ∧ w1 = hm_up w (99, 0, 0) (q, .inl (G 4, 22, .inr (.inr (.inr (.inr (va_cpy f (fun _ => none) 0 0 15)))))))) 1 22 A := by
  refine ct_met (by decide) (Nat.le_of_ble_eq_true rfl) ?_
  rintro p e s m below meth c ls X hr hlocks hnm hl ⟨hB, hK⟩
  have hl : lv_has ls 2 [(0, .ref b), (1, .int 22)] := hl
  have hY : hm_Y D cls A s.heap w s.heap [] := hm_Y.start hB hK.2.2.2
  refine lv_aload_n X.1 X.2.1 d_AR_copyOf0_0 rfl (lv_at hl 0 rfl) ?_
  refine lv_iload_n X.1 X.2.1 d_AR_copyOf0_1 rfl (lv_at hl 1 rfl) ?_
  refine lv_aload_n X.1 X.2.1 d_AR_copyOf0_2 rfl (lv_at hl 0 rfl) ?_
  refine va_getC X.1 X.2.1 (X.2.2.1.trans hl.1.symm) X.2.2.2.1 (X.2.2.2.2 _ m_220) (va_Dc.use hK.2.1.2.2.2.2.2.2.2.2) (X.2.2.2.2 _ m_667) (X.2.2.2.2 _ m_221) (X.2.2.2.2 _ m_230) hK.2.1.2.2.2.2.2.2.2.1 (ct_arr hK hY hb) (Nat.le_of_ble_eq_true rfl) (Nat.le_of_ble_eq_true rfl) d_AR_copyOf0_3 ?_
  refine hm_call (ct_runS (n := 3) X hK hY (k_AR_copyOf1_22 l D A G w nb b N f hb hnt hel hN hM) m_233 m_231 m_232 m_14 (by decide +kernel) ⟨Nat.le_of_ble_eq_true rfl, Nat.le_of_ble_eq_true rfl⟩ ⟨rfl, rfl⟩ rfl hl.1 rfl (Nat.le_of_ble_eq_true rfl) d_AR_copyOf0_6 ⟨Nat.le_of_ble_eq_true rfl, Nat.le_of_ble_eq_true rfl⟩) hY (fun v w1 H locs hp hY => ?_)
  obtain ⟨q, rfl, rfl⟩ := hp
  refine W.eq (g2 := F0 m 9 ls [.ref q]) rfl ?_
  exact en_aW X hY hr (by first | exact Or.inl ⟨_, rfl⟩ | exact Or.inr ⟨_, rfl⟩) hlocks d_AR_copyOf0_9 (Or.inr ⟨_, rfl⟩) (⟨q, rfl, rfl⟩)
end
section
set_option maxHeartbeats 4000000 in
set_option maxRecDepth 100000 in
theorem k_A_grow1_f (l : Launch) (D : va_G) (A : Nat → Prop) (G : Nat → Nat) (w : hm_T) (n nb : hm_N) (a : Nat) (mo : Int32) (hn : w n = some (a, .inr (4, [.ref (G 0), .int 0, .int mo]))) (hne : n ≠ nb) : Met l y_A_grow1 (.code y_A_grow1 c_A_grow1 4 (some (.array (.object "java/lang/Object"))) :: wsA) { frames := 4, cells := 1, slots := 10, locals := 84 } (va_Pc [.ref a, .int 1] (ctU D A G w)) (hm_Q D cls A (fun v w1 => ∃ q, v = some (.ref q) ∧ w1 = hm_up (hm_up w nb (q, .inl (G 4, 10, .inr (.inr (.inr (.inr (fun _ => none))))))) n (a, .inr (4, [.ref q, .int 0, .int mo])))) 1 10 A := by
  refine ct_met (by decide) (Nat.le_of_ble_eq_true rfl) ?_
  rintro p e s m below meth c ls X hr hlocks hnm hl ⟨hB, hK⟩
  have hl : lv_has ls 4 [(0, .ref a), (1, .int 1)] := hl
  have hY : hm_Y D cls A s.heap w s.heap [] := hm_Y.start hB hK.2.2.2
  refine lv_aload_n X.1 X.2.1 d_A_grow1_0 rfl (lv_at hl 0 rfl) ?_
  refine hm_get ⟨X, hK.1⟩ hY hn 0 (v := .ref (G 0)) rfl rfl (Nat.le_of_ble_eq_true rfl) hu_A m_41 (fun _ h => h) d_A_grow1_1 ?_
  refine va_tlen X.1 X.2.1 hK.2.2.1.2 hY.2.2.1 (v := 0) rfl d_A_grow1_4 ?_
  refine lv_istore_n (lv' := [(2, .int 0), (0, .ref a), (1, .int 1)]) X.1 X.2.1 d_A_grow1_5 rfl hl (by decide) rfl (fun ls hl => ?_)
  refine lv_iload_n X.1 X.2.1 d_A_grow1_6 rfl (lv_at hl 0 rfl) ?_
  refine lv_if_gt (tgt := 20) X.1 X.2.1 d_A_grow1_7 (by decide) (fun c1 => ?_) (fun c1 => ?_)
  · exact absurd c1 (by decide)
  · refine lv_aload_n X.1 X.2.1 d_A_grow1_10 rfl (lv_at hl 1 rfl) ?_
    refine hm_get ⟨X, hK.1⟩ hY hn 0 (v := .ref (G 0)) rfl rfl (Nat.le_of_ble_eq_true rfl) hu_A m_41 (fun _ h => h) d_A_grow1_11 ?_
    refine va_gets X.1 X.2.1 hK.2.2.1.1 hY.2.2.1 X.2.2.2.1 (X.2.2.2.2 _ m_39) (fun _ h => h) d_A_grow1_14 ?_
    refine lv_acmp_eq (rx := some (G 0)) (ry := some (G 0)) (tgt := 45) X.1 X.2.1 d_A_grow1_17 (by decide) (fun _ => ?_) (fun c9 => absurd rfl c9)
    refine lv_aload_n X.1 X.2.1 d_A_grow1_45 rfl (lv_at hl 1 rfl) ?_
    refine lv_bipush (v := 10) X.1 X.2.1 d_A_grow1_46 (by decide) ?_
    refine lv_iload_n X.1 X.2.1 d_A_grow1_48 rfl (lv_at hl 2 rfl) ?_
    refine va_mmax X.1 X.2.1 (X.2.2.1.trans hl.1.symm) X.2.2.2.1 (X.2.2.2.2 _ m_243) (X.2.2.2.2 _ m_211) (X.2.2.2.2 _ m_13) (X.2.2.2.2 _ m_212) (Nat.le_of_ble_eq_true rfl) (Nat.le_of_ble_eq_true rfl) (Nat.zero_le _) (Nat.zero_le _) d_A_grow1_49 ?_
    refine W.eq (g2 := F0 m 52 ls [.int 10, .ref a]) rfl ?_
    refine hm_newq ⟨X, hK.1⟩ hY nb m_244 (va_AO.use hK.2.1.2.2.2.2.2.2.1) (ct_cO hK) (N := 10) (by decide) (by decide) (by decide) (Nat.le_of_ble_eq_true rfl) (Nat.le_of_ble_eq_true rfl) d_A_grow1_52 (fun q H hY => ?_)
    refine lv_dup_x1 X.1 X.2.1 d_A_grow1_55 rfl rfl ?_
    refine hm_put ⟨X, hK.1⟩ hY ((hm_up_n _ _ hne).trans hn) 0 rfl (Nat.le_of_ble_eq_true rfl) (Nat.le_of_ble_eq_true rfl) hu_A ty_A ty_A_ok nm_A m_41 (fun _ h => h) rfl rfl rfl d_A_grow1_56 (fun H locs hY => ?_)
    exact en_aW X hY hr (by first | exact Or.inl ⟨_, rfl⟩ | exact Or.inr ⟨_, rfl⟩) hlocks d_A_grow1_59 (Or.inr ⟨_, rfl⟩) (⟨q, rfl, rfl⟩)

set_option maxHeartbeats 4000000 in
set_option maxRecDepth 100000 in
theorem k_A_grow0_f (l : Launch) (D : va_G) (A : Nat → Prop) (G : Nat → Nat) (w : hm_T) (n nb : hm_N) (a : Nat) (mo : Int32) (hn : w n = some (a, .inr (4, [.ref (G 0), .int 0, .int mo]))) (hne : n ≠ nb) : Met l y_A_grow0 (.code y_A_grow0 c_A_grow0 1 (some (.array (.object "java/lang/Object"))) :: wsA) { frames := 5, cells := 1, slots := 10, locals := 107 } (va_Pc [.ref a] (ctU D A G w)) (hm_Q D cls A (fun v w1 => ∃ q, v = some (.ref q) ∧ w1 = hm_up (hm_up w nb (q, .inl (G 4, 10, .inr (.inr (.inr (.inr (fun _ => none))))))) n (a, .inr (4, [.ref q, .int 0, .int mo])))) 1 10 A := by
  refine ct_met (by decide) (Nat.le_of_ble_eq_true rfl) ?_
  rintro p e s m below meth c ls X hr hlocks hnm hl ⟨hB, hK⟩
  have hl : lv_has ls 1 [(0, .ref a)] := hl
  have hY : hm_Y D cls A s.heap w s.heap [] := hm_Y.start hB hK.2.2.2
  refine lv_aload_n X.1 X.2.1 d_A_grow0_0 rfl (lv_at hl 0 rfl) ?_
  refine lv_aload_n X.1 X.2.1 d_A_grow0_1 rfl (lv_at hl 0 rfl) ?_
  refine hm_get ⟨X, hK.1⟩ hY hn 1 (v := .int 0) rfl rfl (Nat.le_of_ble_eq_true rfl) hu_A m_42 (fun _ h => h) d_A_grow0_2 ?_
  refine lv_iconst (v := 1) X.1 X.2.1 d_A_grow0_5 (by decide) ?_
  refine lv_iadd X.1 X.2.1 d_A_grow0_6 ?_
  refine W.eq (g2 := F0 m 7 ls [.int 1, .ref a]) rfl ?_
  refine hm_call (ct_runV (n := 1) X hK hY (k_A_grow1_f l D A G w n nb a mo hn hne) m_206 m_203 m_205 ms_A_grow1 m_4 (by decide +kernel) ⟨Nat.le_of_ble_eq_true rfl, Nat.le_of_ble_eq_true rfl⟩ ⟨rfl, rfl⟩ (hm_recv ⟨X, hK.1⟩ hY hn rfl) rfl hl.1 rfl (Nat.le_of_ble_eq_true rfl) d_A_grow0_7 ⟨Nat.le_of_ble_eq_true rfl, Nat.le_of_ble_eq_true rfl⟩) hY (fun v w1 H locs hp hY => ?_)
  obtain ⟨q, rfl, rfl⟩ := hp
  refine W.eq (g2 := F0 m 10 ls [.ref q]) rfl ?_
  exact en_aW X hY hr (by first | exact Or.inl ⟨_, rfl⟩ | exact Or.inr ⟨_, rfl⟩) hlocks d_A_grow0_10 (Or.inr ⟨_, rfl⟩) (⟨q, rfl, rfl⟩)

set_option maxHeartbeats 4000000 in
set_option maxRecDepth 100000 in
theorem k_A_grow1_m15 (l : Launch) (D : va_G) (A : Nat → Prop) (G : Nat → Nat) (w : hm_T) (n nb : hm_N) (a : Nat) (mo : Int32) (b : Nat) (f : Nat → Option Nat) (hn : w n = some (a, .inr (4, [.ref b, .int 10, .int mo]))) (hne : n ≠ nb) (hb : w nb = some (b, .inl (G 4, 10, .inr (.inr (.inr (.inr f)))))) (hnt : w (99, 0, 0) = none) (hel : ∀ j y, f j = some y → ∃ (nm : hm_N) (fs : List Value), w nm = some (y, .inr (1, fs))) : Met l y_A_grow1 (.code y_A_grow1 c_A_grow1 4 (some (.array (.object "java/lang/Object"))) :: wsA) { frames := 4, cells := 1, slots := 15, locals := 84 } (va_Pc [.ref a, .int 11] (ctU D A G w)) (hm_Q D cls A (fun v w1 => ∃ q, v = some (.ref q) ∧ w1 = hm_up (hm_up w nb (q, .inl (G 4, 15, .inr (.inr (.inr (.inr (va_cpy f (fun _ => none) 0 0 10))))))) n (a, .inr (4, [.ref q, .int 10, .int mo])))) 1 15 A := by
  refine ct_met (by decide) (Nat.le_of_ble_eq_true rfl) ?_
  rintro p e s m below meth c ls X hr hlocks hnm hl ⟨hB, hK⟩
  have hl : lv_has ls 4 [(0, .ref a), (1, .int 11)] := hl
  have hY : hm_Y D cls A s.heap w s.heap [] := hm_Y.start hB hK.2.2.2
  refine lv_aload_n X.1 X.2.1 d_A_grow1_0 rfl (lv_at hl 0 rfl) ?_
  refine hm_get ⟨X, hK.1⟩ hY hn 0 (v := .ref b) rfl rfl (Nat.le_of_ble_eq_true rfl) hu_A m_41 (fun _ h => h) d_A_grow1_1 ?_
  refine hm_alen ⟨X, hK.1⟩ hY hb 3 rfl (v := 10) rfl d_A_grow1_4 ?_
  refine lv_istore_n (lv' := [(2, .int 10), (0, .ref a), (1, .int 11)]) X.1 X.2.1 d_A_grow1_5 rfl hl (by decide) rfl (fun ls hl => ?_)
  refine lv_iload_n X.1 X.2.1 d_A_grow1_6 rfl (lv_at hl 0 rfl) ?_
  refine lv_if_gt (tgt := 20) X.1 X.2.1 d_A_grow1_7 (by decide) (fun c1 => ?_) (fun c1 => ?_)
  · refine lv_iload_n X.1 X.2.1 d_A_grow1_20 rfl (lv_at hl 0 rfl) ?_
    refine lv_iload_n X.1 X.2.1 d_A_grow1_21 rfl (lv_at hl 2 rfl) ?_
    refine lv_iload_n X.1 X.2.1 d_A_grow1_22 rfl (lv_at hl 0 rfl) ?_
    refine lv_isub X.1 X.2.1 d_A_grow1_23 ?_
    refine lv_iload_n X.1 X.2.1 d_A_grow1_24 rfl (lv_at hl 0 rfl) ?_
    refine lv_iconst (v := 1) X.1 X.2.1 d_A_grow1_25 (by decide) ?_
    refine lv_ishr X.1 X.2.1 d_A_grow1_26 ?_
    refine hm_callR (ct_runS (n := 3) X hK hY (k_AS_newLength l D A G w 10 (11 - 10) ((10 : Int32) >>> (1 &&& 31)) 15 (by decide) (by decide) (by decide)) m_209 m_207 m_208 m_12 (by decide +kernel) ⟨Nat.le_of_ble_eq_true rfl, Nat.le_of_ble_eq_true rfl⟩ ⟨rfl, rfl⟩ rfl hl.1 rfl (Nat.le_of_ble_eq_true rfl) d_A_grow1_27 ⟨Nat.le_of_ble_eq_true rfl, Nat.le_of_ble_eq_true rfl⟩) (fun v hv => ?_)
    subst hv
    refine W.eq (g2 := F0 m 30 ls [.int 15]) rfl ?_
    refine lv_istore_n (lv' := [(3, .int 15), (2, .int 10), (0, .ref a), (1, .int 11)]) X.1 X.2.1 d_A_grow1_30 rfl hl (by decide) rfl (fun ls hl => ?_)
    refine lv_aload_n X.1 X.2.1 d_A_grow1_31 rfl (lv_at hl 2 rfl) ?_
    refine lv_aload_n X.1 X.2.1 d_A_grow1_32 rfl (lv_at hl 2 rfl) ?_
    refine hm_get ⟨X, hK.1⟩ hY hn 0 (v := .ref b) rfl rfl (Nat.le_of_ble_eq_true rfl) hu_A m_41 (fun _ h => h) d_A_grow1_33 ?_
    refine lv_iload_n X.1 X.2.1 d_A_grow1_36 rfl (lv_at hl 0 rfl) ?_
    refine hm_call (ct_runS (n := 2) X hK hY (k_AR_copyOf0_15 l D A G w nb b 10 f hb hnt hel (by decide) rfl) m_219 m_217 m_218 m_14 (by decide +kernel) ⟨Nat.le_of_ble_eq_true rfl, Nat.le_of_ble_eq_true rfl⟩ ⟨rfl, rfl⟩ rfl hl.1 rfl (Nat.le_of_ble_eq_true rfl) d_A_grow1_37 ⟨Nat.le_of_ble_eq_true rfl, Nat.le_of_ble_eq_true rfl⟩) hY (fun v w1 H locs hp hY => ?_)
    obtain ⟨q, rfl, rfl⟩ := hp
    refine W.eq (g2 := F0 m 40 ls [.ref q, .ref a]) rfl ?_
    have hY := hY.ren (nb := nb) hnt
    refine lv_dup_x1 X.1 X.2.1 d_A_grow1_40 rfl rfl ?_
    refine hm_put ⟨X, hK.1⟩ hY ((hm_up_n _ _ hne).trans hn) 0 rfl (Nat.le_of_ble_eq_true rfl) (Nat.le_of_ble_eq_true rfl) hu_A ty_A ty_A_ok nm_A m_41 (fun _ h => h) rfl rfl rfl d_A_grow1_41 (fun H locs hY => ?_)
    exact en_aW X hY hr (by first | exact Or.inl ⟨_, rfl⟩ | exact Or.inr ⟨_, rfl⟩) hlocks d_A_grow1_44 (Or.inr ⟨_, rfl⟩) (⟨q, rfl, rfl⟩)
  · exact absurd c1 (by decide)

set_option maxHeartbeats 4000000 in
set_option maxRecDepth 100000 in
theorem k_A_grow0_m15 (l : Launch) (D : va_G) (A : Nat → Prop) (G : Nat → Nat) (w : hm_T) (n nb : hm_N) (a : Nat) (mo : Int32) (b : Nat) (f : Nat → Option Nat) (hn : w n = some (a, .inr (4, [.ref b, .int 10, .int mo]))) (hne : n ≠ nb) (hb : w nb = some (b, .inl (G 4, 10, .inr (.inr (.inr (.inr f)))))) (hnt : w (99, 0, 0) = none) (hel : ∀ j y, f j = some y → ∃ (nm : hm_N) (fs : List Value), w nm = some (y, .inr (1, fs))) : Met l y_A_grow0 (.code y_A_grow0 c_A_grow0 1 (some (.array (.object "java/lang/Object"))) :: wsA) { frames := 5, cells := 1, slots := 15, locals := 107 } (va_Pc [.ref a] (ctU D A G w)) (hm_Q D cls A (fun v w1 => ∃ q, v = some (.ref q) ∧ w1 = hm_up (hm_up w nb (q, .inl (G 4, 15, .inr (.inr (.inr (.inr (va_cpy f (fun _ => none) 0 0 10))))))) n (a, .inr (4, [.ref q, .int 10, .int mo])))) 1 15 A := by
  refine ct_met (by decide) (Nat.le_of_ble_eq_true rfl) ?_
  rintro p e s m below meth c ls X hr hlocks hnm hl ⟨hB, hK⟩
  have hl : lv_has ls 1 [(0, .ref a)] := hl
  have hY : hm_Y D cls A s.heap w s.heap [] := hm_Y.start hB hK.2.2.2
  refine lv_aload_n X.1 X.2.1 d_A_grow0_0 rfl (lv_at hl 0 rfl) ?_
  refine lv_aload_n X.1 X.2.1 d_A_grow0_1 rfl (lv_at hl 0 rfl) ?_
  refine hm_get ⟨X, hK.1⟩ hY hn 1 (v := .int 10) rfl rfl (Nat.le_of_ble_eq_true rfl) hu_A m_42 (fun _ h => h) d_A_grow0_2 ?_
  refine lv_iconst (v := 1) X.1 X.2.1 d_A_grow0_5 (by decide) ?_
  refine lv_iadd X.1 X.2.1 d_A_grow0_6 ?_
  refine W.eq (g2 := F0 m 7 ls [.int 11, .ref a]) rfl ?_
  refine hm_call (ct_runV (n := 1) X hK hY (k_A_grow1_m15 l D A G w n nb a mo b f hn hne hb hnt hel) m_206 m_203 m_205 ms_A_grow1 m_4 (by decide +kernel) ⟨Nat.le_of_ble_eq_true rfl, Nat.le_of_ble_eq_true rfl⟩ ⟨rfl, rfl⟩ (hm_recv ⟨X, hK.1⟩ hY hn rfl) rfl hl.1 rfl (Nat.le_of_ble_eq_true rfl) d_A_grow0_7 ⟨Nat.le_of_ble_eq_true rfl, Nat.le_of_ble_eq_true rfl⟩) hY (fun v w1 H locs hp hY => ?_)
  obtain ⟨q, rfl, rfl⟩ := hp
  refine W.eq (g2 := F0 m 10 ls [.ref q]) rfl ?_
  exact en_aW X hY hr (by first | exact Or.inl ⟨_, rfl⟩ | exact Or.inr ⟨_, rfl⟩) hlocks d_A_grow0_10 (Or.inr ⟨_, rfl⟩) (⟨q, rfl, rfl⟩)

set_option maxHeartbeats 4000000 in
set_option maxRecDepth 100000 in
theorem k_A_grow1_m22 (l : Launch) (D : va_G) (A : Nat → Prop) (G : Nat → Nat) (w : hm_T) (n nb : hm_N) (a : Nat) (mo : Int32) (b : Nat) (f : Nat → Option Nat) (hn : w n = some (a, .inr (4, [.ref b, .int 15, .int mo]))) (hne : n ≠ nb) (hb : w nb = some (b, .inl (G 4, 15, .inr (.inr (.inr (.inr f)))))) (hnt : w (99, 0, 0) = none) (hel : ∀ j y, f j = some y → ∃ (nm : hm_N) (fs : List Value), w nm = some (y, .inr (1, fs))) : Met l y_A_grow1 (.code y_A_grow1 c_A_grow1 4 (some (.array (.object "java/lang/Object"))) :: wsA) { frames := 4, cells := 1, slots := 22, locals := 84 } (va_Pc [.ref a, .int 16] (ctU D A G w)) (hm_Q D cls A (fun v w1 => ∃ q, v = some (.ref q) ∧ w1 = hm_up (hm_up w nb (q, .inl (G 4, 22, .inr (.inr (.inr (.inr (va_cpy f (fun _ => none) 0 0 15))))))) n (a, .inr (4, [.ref q, .int 15, .int mo])))) 1 22 A := by
  refine ct_met (by decide) (Nat.le_of_ble_eq_true rfl) ?_
  rintro p e s m below meth c ls X hr hlocks hnm hl ⟨hB, hK⟩
  have hl : lv_has ls 4 [(0, .ref a), (1, .int 16)] := hl
  have hY : hm_Y D cls A s.heap w s.heap [] := hm_Y.start hB hK.2.2.2
  refine lv_aload_n X.1 X.2.1 d_A_grow1_0 rfl (lv_at hl 0 rfl) ?_
  refine hm_get ⟨X, hK.1⟩ hY hn 0 (v := .ref b) rfl rfl (Nat.le_of_ble_eq_true rfl) hu_A m_41 (fun _ h => h) d_A_grow1_1 ?_
  refine hm_alen ⟨X, hK.1⟩ hY hb 3 rfl (v := 15) rfl d_A_grow1_4 ?_
  refine lv_istore_n (lv' := [(2, .int 15), (0, .ref a), (1, .int 16)]) X.1 X.2.1 d_A_grow1_5 rfl hl (by decide) rfl (fun ls hl => ?_)
  refine lv_iload_n X.1 X.2.1 d_A_grow1_6 rfl (lv_at hl 0 rfl) ?_
  refine lv_if_gt (tgt := 20) X.1 X.2.1 d_A_grow1_7 (by decide) (fun c1 => ?_) (fun c1 => ?_)
  · refine lv_iload_n X.1 X.2.1 d_A_grow1_20 rfl (lv_at hl 0 rfl) ?_
    refine lv_iload_n X.1 X.2.1 d_A_grow1_21 rfl (lv_at hl 2 rfl) ?_
    refine lv_iload_n X.1 X.2.1 d_A_grow1_22 rfl (lv_at hl 0 rfl) ?_
    refine lv_isub X.1 X.2.1 d_A_grow1_23 ?_
    refine lv_iload_n X.1 X.2.1 d_A_grow1_24 rfl (lv_at hl 0 rfl) ?_
    refine lv_iconst (v := 1) X.1 X.2.1 d_A_grow1_25 (by decide) ?_
    refine lv_ishr X.1 X.2.1 d_A_grow1_26 ?_
    refine hm_callR (ct_runS (n := 3) X hK hY (k_AS_newLength l D A G w 15 (16 - 15) ((15 : Int32) >>> (1 &&& 31)) 22 (by decide) (by decide) (by decide)) m_209 m_207 m_208 m_12 (by decide +kernel) ⟨Nat.le_of_ble_eq_true rfl, Nat.le_of_ble_eq_true rfl⟩ ⟨rfl, rfl⟩ rfl hl.1 rfl (Nat.le_of_ble_eq_true rfl) d_A_grow1_27 ⟨Nat.le_of_ble_eq_true rfl, Nat.le_of_ble_eq_true rfl⟩) (fun v hv => ?_)
    subst hv
    refine W.eq (g2 := F0 m 30 ls [.int 22]) rfl ?_
    refine lv_istore_n (lv' := [(3, .int 22), (2, .int 15), (0, .ref a), (1, .int 16)]) X.1 X.2.1 d_A_grow1_30 rfl hl (by decide) rfl (fun ls hl => ?_)
    refine lv_aload_n X.1 X.2.1 d_A_grow1_31 rfl (lv_at hl 2 rfl) ?_
    refine lv_aload_n X.1 X.2.1 d_A_grow1_32 rfl (lv_at hl 2 rfl) ?_
    refine hm_get ⟨X, hK.1⟩ hY hn 0 (v := .ref b) rfl rfl (Nat.le_of_ble_eq_true rfl) hu_A m_41 (fun _ h => h) d_A_grow1_33 ?_
    refine lv_iload_n X.1 X.2.1 d_A_grow1_36 rfl (lv_at hl 0 rfl) ?_
    refine hm_call (ct_runS (n := 2) X hK hY (k_AR_copyOf0_22 l D A G w nb b 15 f hb hnt hel (by decide) rfl) m_219 m_217 m_218 m_14 (by decide +kernel) ⟨Nat.le_of_ble_eq_true rfl, Nat.le_of_ble_eq_true rfl⟩ ⟨rfl, rfl⟩ rfl hl.1 rfl (Nat.le_of_ble_eq_true rfl) d_A_grow1_37 ⟨Nat.le_of_ble_eq_true rfl, Nat.le_of_ble_eq_true rfl⟩) hY (fun v w1 H locs hp hY => ?_)
    obtain ⟨q, rfl, rfl⟩ := hp
    refine W.eq (g2 := F0 m 40 ls [.ref q, .ref a]) rfl ?_
    have hY := hY.ren (nb := nb) hnt
    refine lv_dup_x1 X.1 X.2.1 d_A_grow1_40 rfl rfl ?_
    refine hm_put ⟨X, hK.1⟩ hY ((hm_up_n _ _ hne).trans hn) 0 rfl (Nat.le_of_ble_eq_true rfl) (Nat.le_of_ble_eq_true rfl) hu_A ty_A ty_A_ok nm_A m_41 (fun _ h => h) rfl rfl rfl d_A_grow1_41 (fun H locs hY => ?_)
    exact en_aW X hY hr (by first | exact Or.inl ⟨_, rfl⟩ | exact Or.inr ⟨_, rfl⟩) hlocks d_A_grow1_44 (Or.inr ⟨_, rfl⟩) (⟨q, rfl, rfl⟩)
  · exact absurd c1 (by decide)

set_option maxHeartbeats 4000000 in
set_option maxRecDepth 100000 in
theorem k_A_grow0_m22 (l : Launch) (D : va_G) (A : Nat → Prop) (G : Nat → Nat) (w : hm_T) (n nb : hm_N) (a : Nat) (mo : Int32) (b : Nat) (f : Nat → Option Nat) (hn : w n = some (a, .inr (4, [.ref b, .int 15, .int mo]))) (hne : n ≠ nb) (hb : w nb = some (b, .inl (G 4, 15, .inr (.inr (.inr (.inr f)))))) (hnt : w (99, 0, 0) = none) (hel : ∀ j y, f j = some y → ∃ (nm : hm_N) (fs : List Value), w nm = some (y, .inr (1, fs))) : Met l y_A_grow0 (.code y_A_grow0 c_A_grow0 1 (some (.array (.object "java/lang/Object"))) :: wsA) { frames := 5, cells := 1, slots := 22, locals := 107 } (va_Pc [.ref a] (ctU D A G w)) (hm_Q D cls A (fun v w1 => ∃ q, v = some (.ref q) ∧ w1 = hm_up (hm_up w nb (q, .inl (G 4, 22, .inr (.inr (.inr (.inr (va_cpy f (fun _ => none) 0 0 15))))))) n (a, .inr (4, [.ref q, .int 15, .int mo])))) 1 22 A := by
  refine ct_met (by decide) (Nat.le_of_ble_eq_true rfl) ?_
  rintro p e s m below meth c ls X hr hlocks hnm hl ⟨hB, hK⟩
  have hl : lv_has ls 1 [(0, .ref a)] := hl
  have hY : hm_Y D cls A s.heap w s.heap [] := hm_Y.start hB hK.2.2.2
  refine lv_aload_n X.1 X.2.1 d_A_grow0_0 rfl (lv_at hl 0 rfl) ?_
  refine lv_aload_n X.1 X.2.1 d_A_grow0_1 rfl (lv_at hl 0 rfl) ?_
  refine hm_get ⟨X, hK.1⟩ hY hn 1 (v := .int 15) rfl rfl (Nat.le_of_ble_eq_true rfl) hu_A m_42 (fun _ h => h) d_A_grow0_2 ?_
  refine lv_iconst (v := 1) X.1 X.2.1 d_A_grow0_5 (by decide) ?_
  refine lv_iadd X.1 X.2.1 d_A_grow0_6 ?_
  refine W.eq (g2 := F0 m 7 ls [.int 16, .ref a]) rfl ?_
  refine hm_call (ct_runV (n := 1) X hK hY (k_A_grow1_m22 l D A G w n nb a mo b f hn hne hb hnt hel) m_206 m_203 m_205 ms_A_grow1 m_4 (by decide +kernel) ⟨Nat.le_of_ble_eq_true rfl, Nat.le_of_ble_eq_true rfl⟩ ⟨rfl, rfl⟩ (hm_recv ⟨X, hK.1⟩ hY hn rfl) rfl hl.1 rfl (Nat.le_of_ble_eq_true rfl) d_A_grow0_7 ⟨Nat.le_of_ble_eq_true rfl, Nat.le_of_ble_eq_true rfl⟩) hY (fun v w1 H locs hp hY => ?_)
  obtain ⟨q, rfl, rfl⟩ := hp
  refine W.eq (g2 := F0 m 10 ls [.ref q]) rfl ?_
  exact en_aW X hY hr (by first | exact Or.inl ⟨_, rfl⟩ | exact Or.inr ⟨_, rfl⟩) hlocks d_A_grow0_10 (Or.inr ⟨_, rfl⟩) (⟨q, rfl, rfl⟩)

set_option maxHeartbeats 4000000 in
set_option maxRecDepth 100000 in
theorem k_A_add1_rP (l : Launch) (D : va_G) (A : Nat → Prop) (G : Nat → Nat) (w : hm_T) (n nb : hm_N) (a : Nat) (mo : Int32) (b N cn : Nat) (f : Nat → Option Nat) (hn : w n = some (a, .inr (4, [.ref b, .int (nI cn), .int mo]))) (hne : n ≠ nb) (hb : w nb = some (b, .inl (G 4, N, .inr (.inr (.inr (.inr f)))))) (hc : cn < N) (hN : N < 2 ^ 31) (ve : Nat) (nm : hm_N) (vs : List Value) (hv : w nm = some (ve, .inr (1, vs))) (hv1 : nm ≠ n) (hv2 : nm ≠ nb) : Met l y_A_add1 (.code y_A_add1 c_A_add1 4 (none : Option FieldType) :: wsA) { frames := 0, cells := 0, slots := 0, locals := 0 } (va_Pc [.ref a, .ref ve, .ref b, .int (nI cn)] (ctU D A G w)) (hm_Q D cls A (fun v w1 => v = none ∧ w1 = hm_up (hm_up w nb (b, .inl (G 4, N, .inr (.inr (.inr (.inr (va_up f cn (some ve)))))))) n (a, .inr (4, [.ref b, .int (nI (cn + 1)), .int mo])))) 0 0 A := by
  refine ct_met (by decide) (Nat.le_of_ble_eq_true rfl) ?_
  rintro p e s m below meth c ls X hr hlocks hnm hl ⟨hB, hK⟩
  have hl : lv_has ls 4 [(0, .ref a), (1, .ref ve), (2, .ref b), (3, .int (nI cn))] := hl
  have hY : hm_Y D cls A s.heap w s.heap [] := hm_Y.start hB hK.2.2.2
  refine lv_iload_n X.1 X.2.1 d_A_add1_0 rfl (lv_at hl 3 rfl) ?_
  refine lv_aload_n X.1 X.2.1 d_A_add1_1 rfl (lv_at hl 2 rfl) ?_
  refine hm_alen ⟨X, hK.1⟩ hY hb 3 rfl (v := nI N) rfl d_A_add1_2 ?_
  refine lv_icmp_ne (tgt := 11) X.1 X.2.1 d_A_add1_3 (by decide) (fun _ => ?_) (fun c9 => absurd ((nI_eq (by omega) hN).mp c9) (by omega))
  refine lv_aload_n X.1 X.2.1 d_A_add1_11 rfl (lv_at hl 2 rfl) ?_
  refine lv_iload_n X.1 X.2.1 d_A_add1_12 rfl (lv_at hl 3 rfl) ?_
  refine lv_aload_n X.1 X.2.1 d_A_add1_13 rfl (lv_at hl 1 rfl) ?_
  refine hm_aast ⟨X, hK.1⟩ hY hb 3 rfl (C := R_P) (hm_recv ⟨X, hK.1⟩ hY hv rfl) (vb_asgC hK.2.1.2.2.2.2.1) (vp_in_nI hc hN) d_A_add1_14 (fun H locs hY => ?_)
  rw [nI_clamp (by omega)] at hY
  refine lv_aload_n X.1 X.2.1 d_A_add1_15 rfl (lv_at hl 0 rfl) ?_
  refine lv_iload_n X.1 X.2.1 d_A_add1_16 rfl (lv_at hl 3 rfl) ?_
  refine lv_iconst (v := 1) X.1 X.2.1 d_A_add1_17 (by decide) ?_
  refine lv_iadd X.1 X.2.1 d_A_add1_18 ?_
  rw [nI_1]
  refine hm_put ⟨X, hK.1⟩ hY ((hm_up_n _ _ hne).trans hn) 1 rfl (Nat.le_of_ble_eq_true rfl) (Nat.le_of_ble_eq_true rfl) hu_A ty_A ty_A_ok nm_A m_42 (fun _ h => h) rfl rfl rfl d_A_add1_19 (fun H locs hY => ?_)
  exact en_vW X hY hr hlocks d_A_add1_22 (⟨rfl, rfl⟩)

set_option maxHeartbeats 4000000 in
set_option maxRecDepth 100000 in
theorem k_A_add_rP (l : Launch) (D : va_G) (A : Nat → Prop) (G : Nat → Nat) (w : hm_T) (n nb : hm_N) (a : Nat) (mo : Int32) (b N cn : Nat) (f : Nat → Option Nat) (hn : w n = some (a, .inr (4, [.ref b, .int (nI cn), .int mo]))) (hne : n ≠ nb) (hb : w nb = some (b, .inl (G 4, N, .inr (.inr (.inr (.inr f)))))) (hc : cn < N) (hN : N < 2 ^ 31) (ve : Nat) (nm : hm_N) (vs : List Value) (hv : w nm = some (ve, .inr (1, vs))) (hv1 : nm ≠ n) (hv2 : nm ≠ nb) : Met l y_A_add0 (.code y_A_add0 c_A_add0 2 (some .boolean) :: wsA) { frames := 1, cells := 0, slots := 0, locals := 23 } (va_Pc [.ref a, .ref ve] (ctU D A G w)) (hm_Q D cls A (fun v w1 => v = some (.int 1) ∧ w1 = hm_up (hm_up w nb (b, .inl (G 4, N, .inr (.inr (.inr (.inr (va_up f cn (some ve)))))))) n (a, .inr (4, [.ref b, .int (nI (cn + 1)), .int (mo + 1)])))) 0 0 A := by
  refine ct_met (by decide) (Nat.le_of_ble_eq_true rfl) ?_
  rintro p e s m below meth c ls X hr hlocks hnm hl ⟨hB, hK⟩
  have hl : lv_has ls 2 [(0, .ref a), (1, .ref ve)] := hl
  have hY : hm_Y D cls A s.heap w s.heap [] := hm_Y.start hB hK.2.2.2
  refine lv_aload_n X.1 X.2.1 d_A_add0_0 rfl (lv_at hl 0 rfl) ?_
  refine lv_dup X.1 X.2.1 d_A_add0_1 rfl ?_
  refine hm_get ⟨X, hK.1⟩ hY hn 2 (v := .int mo) rfl rfl (Nat.le_of_ble_eq_true rfl) hu_A m_44 (fun x h => u_same (X.2.2.2.2 _ m_45) x h) d_A_add0_2 ?_
  refine lv_iconst (v := 1) X.1 X.2.1 d_A_add0_5 (by decide) ?_
  refine lv_iadd X.1 X.2.1 d_A_add0_6 ?_
  refine hm_put ⟨X, hK.1⟩ hY hn 2 rfl (Nat.le_of_ble_eq_true rfl) (Nat.le_of_ble_eq_true rfl) hu_A ty_A ty_A_ok nm_A m_44 (fun x h => u_same (X.2.2.2.2 _ m_45) x h) rfl rfl rfl d_A_add0_7 (fun H locs hY => ?_)
  have hY : hm_Y D cls A s.heap (hm_up w n (a, .inr (4, [.ref b, .int (nI cn), .int (mo + 1)]))) H locs := by exact hY
  refine lv_aload_n X.1 X.2.1 d_A_add0_10 rfl (lv_at hl 0 rfl) ?_
  refine lv_aload_n X.1 X.2.1 d_A_add0_11 rfl (lv_at hl 1 rfl) ?_
  refine lv_aload_n X.1 X.2.1 d_A_add0_12 rfl (lv_at hl 0 rfl) ?_
  refine hm_get ⟨X, hK.1⟩ hY (hm_up_s _ _ _) 0 (v := .ref b) rfl rfl (Nat.le_of_ble_eq_true rfl) hu_A m_41 (fun _ h => h) d_A_add0_13 ?_
  refine lv_aload_n X.1 X.2.1 d_A_add0_16 rfl (lv_at hl 0 rfl) ?_
  refine hm_get ⟨X, hK.1⟩ hY (hm_up_s _ _ _) 1 (v := .int (nI cn)) rfl rfl (Nat.le_of_ble_eq_true rfl) hu_A m_42 (fun _ h => h) d_A_add0_17 ?_
  refine hm_call (ct_runV (n := 3) X hK hY (k_A_add1_rP l D A G (hm_up w n (a, .inr (4, [.ref b, .int (nI cn), .int (mo + 1)]))) n nb a (mo + 1) b N cn f (hm_up_s _ _ _) hne ((hm_up_n _ _ (Ne.symm hne)).trans hb) hc hN ve nm vs ((hm_up_n _ _ hv1).trans hv) hv1 hv2) m_198 m_195 m_197 ms_A_add1 m_4 (by decide +kernel) ⟨Nat.le_of_ble_eq_true rfl, Nat.le_of_ble_eq_true rfl⟩ ⟨rfl, rfl⟩ (hm_recv ⟨X, hK.1⟩ hY (hm_up_s _ _ _) rfl) rfl hl.1 rfl (Nat.le_of_ble_eq_true rfl) d_A_add0_20 ⟨Nat.le_of_ble_eq_true rfl, Nat.le_of_ble_eq_true rfl⟩) hY (fun v w1 H locs hp hY => ?_)
  obtain ⟨rfl, rfl⟩ := hp
  refine W.eq (g2 := F0 m 23 ls []) rfl ?_
  have hY : hm_Y D cls A s.heap (hm_up (hm_up w nb (b, .inl (G 4, N, .inr (.inr (.inr (.inr (va_up f cn (some ve)))))))) n (a, .inr (4, [.ref b, .int (nI (cn + 1)), .int (mo + 1)]))) H locs := by rw [hm_uc _ _ _ hne, hm_uu] at hY; exact hY
  refine lv_iconst (v := 1) X.1 X.2.1 d_A_add0_23 (by decide) ?_
  exact en_zW X hY hr hlocks d_A_add0_24 rfl (⟨rfl, rfl⟩)

set_option maxHeartbeats 4000000 in
set_option maxRecDepth 100000 in
theorem k_A_add1_fP (l : Launch) (D : va_G) (A : Nat → Prop) (G : Nat → Nat) (w : hm_T) (n nb : hm_N) (a : Nat) (mo : Int32) (hn : w n = some (a, .inr (4, [.ref (G 0), .int 0, .int mo]))) (hne : n ≠ nb) (ve : Nat) (nm : hm_N) (vs : List Value) (hv : w nm = some (ve, .inr (1, vs))) (hv1 : nm ≠ n) (hv2 : nm ≠ nb) : Met l y_A_add1 (.code y_A_add1 c_A_add1 4 (none : Option FieldType) :: wsA) { frames := 6, cells := 1, slots := 10, locals := 127 } (va_Pc [.ref a, .ref ve, .ref (G 0), .int 0] (ctU D A G w)) (hm_Q D cls A (fun v w1 => ∃ q, v = none ∧ w1 = hm_up (hm_up w nb (q, .inl (G 4, 10, .inr (.inr (.inr (.inr (va_up (fun _ => none) 0 (some ve)))))))) n (a, .inr (4, [.ref q, .int 1, .int mo])))) 1 10 A := by
  refine ct_met (by decide) (Nat.le_of_ble_eq_true rfl) ?_
  rintro p e s m below meth c ls X hr hlocks hnm hl ⟨hB, hK⟩
  have hl : lv_has ls 4 [(0, .ref a), (1, .ref ve), (2, .ref (G 0)), (3, .int 0)] := hl
  have hY : hm_Y D cls A s.heap w s.heap [] := hm_Y.start hB hK.2.2.2
  refine lv_iload_n X.1 X.2.1 d_A_add1_0 rfl (lv_at hl 3 rfl) ?_
  refine lv_aload_n X.1 X.2.1 d_A_add1_1 rfl (lv_at hl 2 rfl) ?_
  refine va_tlen X.1 X.2.1 hK.2.2.1.2 hY.2.2.1 (v := 0) rfl d_A_add1_2 ?_
  refine lv_icmp_ne (tgt := 11) X.1 X.2.1 d_A_add1_3 (by decide) (fun c9 => absurd rfl c9) (fun _ => ?_)
  refine lv_aload_n X.1 X.2.1 d_A_add1_6 rfl (lv_at hl 0 rfl) ?_
  refine hm_call (ct_runV (n := 0) X hK hY (k_A_grow0_f l D A G w n nb a mo hn hne) m_202 m_199 m_201 ms_A_grow0 m_4 (by decide +kernel) ⟨Nat.le_of_ble_eq_true rfl, Nat.le_of_ble_eq_true rfl⟩ ⟨rfl, rfl⟩ (hm_recv ⟨X, hK.1⟩ hY hn rfl) rfl hl.1 rfl (Nat.le_of_ble_eq_true rfl) d_A_add1_7 ⟨Nat.le_of_ble_eq_true rfl, Nat.le_of_ble_eq_true rfl⟩) hY (fun v w1 H locs hp hY => ?_)
  obtain ⟨q, rfl, rfl⟩ := hp
  refine W.eq (g2 := F0 m 10 ls [.ref q]) rfl ?_
  refine lv_astore_n (lv' := [(2, .ref q), (0, .ref a), (1, .ref ve), (3, .int 0)]) X.1 X.2.1 d_A_add1_10 rfl hl (by decide) rfl (fun ls hl => ?_)
  refine lv_aload_n X.1 X.2.1 d_A_add1_11 rfl (lv_at hl 0 rfl) ?_
  refine lv_iload_n X.1 X.2.1 d_A_add1_12 rfl (lv_at hl 3 rfl) ?_
  refine lv_aload_n X.1 X.2.1 d_A_add1_13 rfl (lv_at hl 2 rfl) ?_
  have hq := hm_up_s (hm_up w nb (q, .inl (G 4, 10, .inr (.inr (.inr (.inr (fun _ => none))))))) n (a, .inr (4, [.ref q, .int 0, .int mo]))
  have hq2 : hm_up (hm_up w nb (q, .inl (G 4, 10, .inr (.inr (.inr (.inr (fun _ => none))))))) n (a, .inr (4, [.ref q, .int 0, .int mo])) nb = _ := (hm_up_n _ _ (Ne.symm hne)).trans (hm_up_s _ _ _)
  have hq3 : hm_up (hm_up w nb (q, .inl (G 4, 10, .inr (.inr (.inr (.inr (fun _ => none))))))) n (a, .inr (4, [.ref q, .int 0, .int mo])) nm = _ := (hm_up_n _ _ hv1).trans ((hm_up_n _ _ hv2).trans hv)
  refine hm_aast ⟨X, hK.1⟩ hY hq2 3 rfl (C := R_P) (hm_recv ⟨X, hK.1⟩ hY hq3 rfl) (vb_asgC hK.2.1.2.2.2.2.1) (i := 0) (vp_in_nI (n := 0) (by decide) (by decide)) d_A_add1_14 (fun H locs hY => ?_)
  have hY : hm_Y D cls A s.heap (hm_up (hm_up w nb (q, .inl (G 4, 10, .inr (.inr (.inr (.inr (va_up (fun _ => none) 0 (some ve)))))))) n (a, .inr (4, [.ref q, .int 0, .int mo]))) H locs := by rw [hm_uc _ _ _ hne, hm_uu] at hY; exact hY
  refine lv_aload_n X.1 X.2.1 d_A_add1_15 rfl (lv_at hl 1 rfl) ?_
  refine lv_iload_n X.1 X.2.1 d_A_add1_16 rfl (lv_at hl 3 rfl) ?_
  refine lv_iconst (v := 1) X.1 X.2.1 d_A_add1_17 (by decide) ?_
  refine lv_iadd X.1 X.2.1 d_A_add1_18 ?_
  refine W.eq (g2 := F0 m 19 ls [.int 1, .ref a]) rfl ?_
  refine hm_put ⟨X, hK.1⟩ hY (hm_up_s _ _ _) 1 rfl (Nat.le_of_ble_eq_true rfl) (Nat.le_of_ble_eq_true rfl) hu_A ty_A ty_A_ok nm_A m_42 (fun _ h => h) rfl rfl rfl d_A_add1_19 (fun H locs hY => ?_)
  have hY : hm_Y D cls A s.heap (hm_up (hm_up w nb (q, .inl (G 4, 10, .inr (.inr (.inr (.inr (va_up (fun _ => none) 0 (some ve)))))))) n (a, .inr (4, [.ref q, .int 1, .int mo]))) H locs := by rw [hm_uu] at hY; exact hY
  exact en_vW X hY hr hlocks d_A_add1_22 (⟨q, rfl, rfl⟩)

set_option maxHeartbeats 4000000 in
set_option maxRecDepth 100000 in
theorem k_A_add_fP (l : Launch) (D : va_G) (A : Nat → Prop) (G : Nat → Nat) (w : hm_T) (n nb : hm_N) (a : Nat) (mo : Int32) (hn : w n = some (a, .inr (4, [.ref (G 0), .int 0, .int mo]))) (hne : n ≠ nb) (ve : Nat) (nm : hm_N) (vs : List Value) (hv : w nm = some (ve, .inr (1, vs))) (hv1 : nm ≠ n) (hv2 : nm ≠ nb) : Met l y_A_add0 (.code y_A_add0 c_A_add0 2 (some .boolean) :: wsA) { frames := 7, cells := 1, slots := 10, locals := 150 } (va_Pc [.ref a, .ref ve] (ctU D A G w)) (hm_Q D cls A (fun v w1 => ∃ q, v = some (.int 1) ∧ w1 = hm_up (hm_up w nb (q, .inl (G 4, 10, .inr (.inr (.inr (.inr (va_up (fun _ => none) 0 (some ve)))))))) n (a, .inr (4, [.ref q, .int 1, .int (mo + 1)])))) 1 10 A := by
  refine ct_met (by decide) (Nat.le_of_ble_eq_true rfl) ?_
  rintro p e s m below meth c ls X hr hlocks hnm hl ⟨hB, hK⟩
  have hl : lv_has ls 2 [(0, .ref a), (1, .ref ve)] := hl
  have hY : hm_Y D cls A s.heap w s.heap [] := hm_Y.start hB hK.2.2.2
  refine lv_aload_n X.1 X.2.1 d_A_add0_0 rfl (lv_at hl 0 rfl) ?_
  refine lv_dup X.1 X.2.1 d_A_add0_1 rfl ?_
  refine hm_get ⟨X, hK.1⟩ hY hn 2 (v := .int mo) rfl rfl (Nat.le_of_ble_eq_true rfl) hu_A m_44 (fun x h => u_same (X.2.2.2.2 _ m_45) x h) d_A_add0_2 ?_
  refine lv_iconst (v := 1) X.1 X.2.1 d_A_add0_5 (by decide) ?_
  refine lv_iadd X.1 X.2.1 d_A_add0_6 ?_
  refine hm_put ⟨X, hK.1⟩ hY hn 2 rfl (Nat.le_of_ble_eq_true rfl) (Nat.le_of_ble_eq_true rfl) hu_A ty_A ty_A_ok nm_A m_44 (fun x h => u_same (X.2.2.2.2 _ m_45) x h) rfl rfl rfl d_A_add0_7 (fun H locs hY => ?_)
  have hY : hm_Y D cls A s.heap (hm_up w n (a, .inr (4, [.ref (G 0), .int 0, .int (mo + 1)]))) H locs := by exact hY
  refine lv_aload_n X.1 X.2.1 d_A_add0_10 rfl (lv_at hl 0 rfl) ?_
  refine lv_aload_n X.1 X.2.1 d_A_add0_11 rfl (lv_at hl 1 rfl) ?_
  refine lv_aload_n X.1 X.2.1 d_A_add0_12 rfl (lv_at hl 0 rfl) ?_
  refine hm_get ⟨X, hK.1⟩ hY (hm_up_s _ _ _) 0 (v := .ref (G 0)) rfl rfl (Nat.le_of_ble_eq_true rfl) hu_A m_41 (fun _ h => h) d_A_add0_13 ?_
  refine lv_aload_n X.1 X.2.1 d_A_add0_16 rfl (lv_at hl 0 rfl) ?_
  refine hm_get ⟨X, hK.1⟩ hY (hm_up_s _ _ _) 1 (v := .int 0) rfl rfl (Nat.le_of_ble_eq_true rfl) hu_A m_42 (fun _ h => h) d_A_add0_17 ?_
  refine hm_call (ct_runV (n := 3) X hK hY (k_A_add1_fP l D A G (hm_up w n (a, .inr (4, [.ref (G 0), .int 0, .int (mo + 1)]))) n nb a (mo + 1) (hm_up_s _ _ _) hne ve nm vs ((hm_up_n _ _ hv1).trans hv) hv1 hv2) m_198 m_195 m_197 ms_A_add1 m_4 (by decide +kernel) ⟨Nat.le_of_ble_eq_true rfl, Nat.le_of_ble_eq_true rfl⟩ ⟨rfl, rfl⟩ (hm_recv ⟨X, hK.1⟩ hY (hm_up_s _ _ _) rfl) rfl hl.1 rfl (Nat.le_of_ble_eq_true rfl) d_A_add0_20 ⟨Nat.le_of_ble_eq_true rfl, Nat.le_of_ble_eq_true rfl⟩) hY (fun v w1 H locs hp hY => ?_)
  obtain ⟨q, rfl, rfl⟩ := hp
  refine W.eq (g2 := F0 m 23 ls []) rfl ?_
  have hY : hm_Y D cls A s.heap (hm_up (hm_up w nb (q, .inl (G 4, 10, .inr (.inr (.inr (.inr (va_up (fun _ => none) 0 (some ve)))))))) n (a, .inr (4, [.ref q, .int 1, .int (mo + 1)]))) H locs := by rw [hm_uc _ _ _ hne, hm_uu] at hY; exact hY
  refine lv_iconst (v := 1) X.1 X.2.1 d_A_add0_23 (by decide) ?_
  exact en_zW X hY hr hlocks d_A_add0_24 rfl (⟨q, rfl, rfl⟩)

set_option maxHeartbeats 4000000 in
set_option maxRecDepth 100000 in
theorem k_A_add1_m15P (l : Launch) (D : va_G) (A : Nat → Prop) (G : Nat → Nat) (w : hm_T) (n nb : hm_N) (a : Nat) (mo : Int32) (b : Nat) (f : Nat → Option Nat) (hn : w n = some (a, .inr (4, [.ref b, .int 10, .int mo]))) (hne : n ≠ nb) (hb : w nb = some (b, .inl (G 4, 10, .inr (.inr (.inr (.inr f)))))) (hnt : w (99, 0, 0) = none) (hel : ∀ j y, f j = some y → ∃ (nm : hm_N) (fs : List Value), w nm = some (y, .inr (1, fs))) (ve : Nat) (nm : hm_N) (vs : List Value) (hv : w nm = some (ve, .inr (1, vs))) (hv1 : nm ≠ n) (hv2 : nm ≠ nb) : Met l y_A_add1 (.code y_A_add1 c_A_add1 4 (none : Option FieldType) :: wsA) { frames := 6, cells := 1, slots := 15, locals := 127 } (va_Pc [.ref a, .ref ve, .ref b, .int 10] (ctU D A G w)) (hm_Q D cls A (fun v w1 => ∃ q, v = none ∧ w1 = hm_up (hm_up w nb (q, .inl (G 4, 15, .inr (.inr (.inr (.inr (va_up (va_cpy f (fun _ => none) 0 0 10) 10 (some ve)))))))) n (a, .inr (4, [.ref q, .int 11, .int mo])))) 1 15 A := by
  refine ct_met (by decide) (Nat.le_of_ble_eq_true rfl) ?_
  rintro p e s m below meth c ls X hr hlocks hnm hl ⟨hB, hK⟩
  have hl : lv_has ls 4 [(0, .ref a), (1, .ref ve), (2, .ref b), (3, .int 10)] := hl
  have hY : hm_Y D cls A s.heap w s.heap [] := hm_Y.start hB hK.2.2.2
  refine lv_iload_n X.1 X.2.1 d_A_add1_0 rfl (lv_at hl 3 rfl) ?_
  refine lv_aload_n X.1 X.2.1 d_A_add1_1 rfl (lv_at hl 2 rfl) ?_
  refine hm_alen ⟨X, hK.1⟩ hY hb 3 rfl (v := 10) rfl d_A_add1_2 ?_
  refine lv_icmp_ne (tgt := 11) X.1 X.2.1 d_A_add1_3 (by decide) (fun c9 => absurd rfl c9) (fun _ => ?_)
  refine lv_aload_n X.1 X.2.1 d_A_add1_6 rfl (lv_at hl 0 rfl) ?_
  refine hm_call (ct_runV (n := 0) X hK hY (k_A_grow0_m15 l D A G w n nb a mo b f hn hne hb hnt hel) m_202 m_199 m_201 ms_A_grow0 m_4 (by decide +kernel) ⟨Nat.le_of_ble_eq_true rfl, Nat.le_of_ble_eq_true rfl⟩ ⟨rfl, rfl⟩ (hm_recv ⟨X, hK.1⟩ hY hn rfl) rfl hl.1 rfl (Nat.le_of_ble_eq_true rfl) d_A_add1_7 ⟨Nat.le_of_ble_eq_true rfl, Nat.le_of_ble_eq_true rfl⟩) hY (fun v w1 H locs hp hY => ?_)
  obtain ⟨q, rfl, rfl⟩ := hp
  refine W.eq (g2 := F0 m 10 ls [.ref q]) rfl ?_
  refine lv_astore_n (lv' := [(2, .ref q), (0, .ref a), (1, .ref ve), (3, .int 10)]) X.1 X.2.1 d_A_add1_10 rfl hl (by decide) rfl (fun ls hl => ?_)
  refine lv_aload_n X.1 X.2.1 d_A_add1_11 rfl (lv_at hl 0 rfl) ?_
  refine lv_iload_n X.1 X.2.1 d_A_add1_12 rfl (lv_at hl 3 rfl) ?_
  refine lv_aload_n X.1 X.2.1 d_A_add1_13 rfl (lv_at hl 2 rfl) ?_
  have hq := hm_up_s (hm_up w nb (q, .inl (G 4, 15, .inr (.inr (.inr (.inr (va_cpy f (fun _ => none) 0 0 10))))))) n (a, .inr (4, [.ref q, .int 10, .int mo]))
  have hq2 : hm_up (hm_up w nb (q, .inl (G 4, 15, .inr (.inr (.inr (.inr (va_cpy f (fun _ => none) 0 0 10))))))) n (a, .inr (4, [.ref q, .int 10, .int mo])) nb = _ := (hm_up_n _ _ (Ne.symm hne)).trans (hm_up_s _ _ _)
  have hq3 : hm_up (hm_up w nb (q, .inl (G 4, 15, .inr (.inr (.inr (.inr (va_cpy f (fun _ => none) 0 0 10))))))) n (a, .inr (4, [.ref q, .int 10, .int mo])) nm = _ := (hm_up_n _ _ hv1).trans ((hm_up_n _ _ hv2).trans hv)
  refine hm_aast ⟨X, hK.1⟩ hY hq2 3 rfl (C := R_P) (hm_recv ⟨X, hK.1⟩ hY hq3 rfl) (vb_asgC hK.2.1.2.2.2.2.1) (i := 10) (vp_in_nI (n := 10) (by decide) (by decide)) d_A_add1_14 (fun H locs hY => ?_)
  have hY : hm_Y D cls A s.heap (hm_up (hm_up w nb (q, .inl (G 4, 15, .inr (.inr (.inr (.inr (va_up (va_cpy f (fun _ => none) 0 0 10) 10 (some ve)))))))) n (a, .inr (4, [.ref q, .int 10, .int mo]))) H locs := by rw [hm_uc _ _ _ hne, hm_uu] at hY; exact hY
  refine lv_aload_n X.1 X.2.1 d_A_add1_15 rfl (lv_at hl 1 rfl) ?_
  refine lv_iload_n X.1 X.2.1 d_A_add1_16 rfl (lv_at hl 3 rfl) ?_
  refine lv_iconst (v := 1) X.1 X.2.1 d_A_add1_17 (by decide) ?_
  refine lv_iadd X.1 X.2.1 d_A_add1_18 ?_
  refine W.eq (g2 := F0 m 19 ls [.int 11, .ref a]) rfl ?_
  refine hm_put ⟨X, hK.1⟩ hY (hm_up_s _ _ _) 1 rfl (Nat.le_of_ble_eq_true rfl) (Nat.le_of_ble_eq_true rfl) hu_A ty_A ty_A_ok nm_A m_42 (fun _ h => h) rfl rfl rfl d_A_add1_19 (fun H locs hY => ?_)
  have hY : hm_Y D cls A s.heap (hm_up (hm_up w nb (q, .inl (G 4, 15, .inr (.inr (.inr (.inr (va_up (va_cpy f (fun _ => none) 0 0 10) 10 (some ve)))))))) n (a, .inr (4, [.ref q, .int 11, .int mo]))) H locs := by rw [hm_uu] at hY; exact hY
  exact en_vW X hY hr hlocks d_A_add1_22 (⟨q, rfl, rfl⟩)

set_option maxHeartbeats 4000000 in
set_option maxRecDepth 100000 in
theorem k_A_add_m15P (l : Launch) (D : va_G) (A : Nat → Prop) (G : Nat → Nat) (w : hm_T) (n nb : hm_N) (a : Nat) (mo : Int32) (b : Nat) (f : Nat → Option Nat) (hn : w n = some (a, .inr (4, [.ref b, .int 10, .int mo]))) (hne : n ≠ nb) (hb : w nb = some (b, .inl (G 4, 10, .inr (.inr (.inr (.inr f)))))) (hnt : w (99, 0, 0) = none) (hel : ∀ j y, f j = some y → ∃ (nm : hm_N) (fs : List Value), w nm = some (y, .inr (1, fs))) (ve : Nat) (nm : hm_N) (vs : List Value) (hv : w nm = some (ve, .inr (1, vs))) (hv1 : nm ≠ n) (hv2 : nm ≠ nb) : Met l y_A_add0 (.code y_A_add0 c_A_add0 2 (some .boolean) :: wsA) { frames := 7, cells := 1, slots := 15, locals := 150 } (va_Pc [.ref a, .ref ve] (ctU D A G w)) (hm_Q D cls A (fun v w1 => ∃ q, v = some (.int 1) ∧ w1 = hm_up (hm_up w nb (q, .inl (G 4, 15, .inr (.inr (.inr (.inr (va_up (va_cpy f (fun _ => none) 0 0 10) 10 (some ve)))))))) n (a, .inr (4, [.ref q, .int 11, .int (mo + 1)])))) 1 15 A := by
  refine ct_met (by decide) (Nat.le_of_ble_eq_true rfl) ?_
  rintro p e s m below meth c ls X hr hlocks hnm hl ⟨hB, hK⟩
  have hl : lv_has ls 2 [(0, .ref a), (1, .ref ve)] := hl
  have hY : hm_Y D cls A s.heap w s.heap [] := hm_Y.start hB hK.2.2.2
  refine lv_aload_n X.1 X.2.1 d_A_add0_0 rfl (lv_at hl 0 rfl) ?_
  refine lv_dup X.1 X.2.1 d_A_add0_1 rfl ?_
  refine hm_get ⟨X, hK.1⟩ hY hn 2 (v := .int mo) rfl rfl (Nat.le_of_ble_eq_true rfl) hu_A m_44 (fun x h => u_same (X.2.2.2.2 _ m_45) x h) d_A_add0_2 ?_
  refine lv_iconst (v := 1) X.1 X.2.1 d_A_add0_5 (by decide) ?_
  refine lv_iadd X.1 X.2.1 d_A_add0_6 ?_
  refine hm_put ⟨X, hK.1⟩ hY hn 2 rfl (Nat.le_of_ble_eq_true rfl) (Nat.le_of_ble_eq_true rfl) hu_A ty_A ty_A_ok nm_A m_44 (fun x h => u_same (X.2.2.2.2 _ m_45) x h) rfl rfl rfl d_A_add0_7 (fun H locs hY => ?_)
  have hY : hm_Y D cls A s.heap (hm_up w n (a, .inr (4, [.ref b, .int 10, .int (mo + 1)]))) H locs := by exact hY
  refine lv_aload_n X.1 X.2.1 d_A_add0_10 rfl (lv_at hl 0 rfl) ?_
  refine lv_aload_n X.1 X.2.1 d_A_add0_11 rfl (lv_at hl 1 rfl) ?_
  refine lv_aload_n X.1 X.2.1 d_A_add0_12 rfl (lv_at hl 0 rfl) ?_
  refine hm_get ⟨X, hK.1⟩ hY (hm_up_s _ _ _) 0 (v := .ref b) rfl rfl (Nat.le_of_ble_eq_true rfl) hu_A m_41 (fun _ h => h) d_A_add0_13 ?_
  refine lv_aload_n X.1 X.2.1 d_A_add0_16 rfl (lv_at hl 0 rfl) ?_
  refine hm_get ⟨X, hK.1⟩ hY (hm_up_s _ _ _) 1 (v := .int 10) rfl rfl (Nat.le_of_ble_eq_true rfl) hu_A m_42 (fun _ h => h) d_A_add0_17 ?_
  refine hm_call (ct_runV (n := 3) X hK hY (k_A_add1_m15P l D A G (hm_up w n (a, .inr (4, [.ref b, .int 10, .int (mo + 1)]))) n nb a (mo + 1) b f (hm_up_s _ _ _) hne ((hm_up_n _ _ (Ne.symm hne)).trans hb) ((hm_up_n _ _ (fun z => by rw [z] at hnt; rw [hn] at hnt; cases hnt)).trans hnt) (fun j y hy => by obtain ⟨nm, fs, h⟩ := hel j y hy; exact ⟨nm, fs, (hm_up_n _ _ (fun z => by rw [z, hn] at h; cases h)).trans h⟩) ve nm vs ((hm_up_n _ _ hv1).trans hv) hv1 hv2) m_198 m_195 m_197 ms_A_add1 m_4 (by decide +kernel) ⟨Nat.le_of_ble_eq_true rfl, Nat.le_of_ble_eq_true rfl⟩ ⟨rfl, rfl⟩ (hm_recv ⟨X, hK.1⟩ hY (hm_up_s _ _ _) rfl) rfl hl.1 rfl (Nat.le_of_ble_eq_true rfl) d_A_add0_20 ⟨Nat.le_of_ble_eq_true rfl, Nat.le_of_ble_eq_true rfl⟩) hY (fun v w1 H locs hp hY => ?_)
  obtain ⟨q, rfl, rfl⟩ := hp
  refine W.eq (g2 := F0 m 23 ls []) rfl ?_
  have hY : hm_Y D cls A s.heap (hm_up (hm_up w nb (q, .inl (G 4, 15, .inr (.inr (.inr (.inr (va_up (va_cpy f (fun _ => none) 0 0 10) 10 (some ve)))))))) n (a, .inr (4, [.ref q, .int 11, .int (mo + 1)]))) H locs := by rw [hm_uc _ _ _ hne, hm_uu] at hY; exact hY
  refine lv_iconst (v := 1) X.1 X.2.1 d_A_add0_23 (by decide) ?_
  exact en_zW X hY hr hlocks d_A_add0_24 rfl (⟨q, rfl, rfl⟩)

set_option maxHeartbeats 4000000 in
set_option maxRecDepth 100000 in
theorem k_A_add1_m22P (l : Launch) (D : va_G) (A : Nat → Prop) (G : Nat → Nat) (w : hm_T) (n nb : hm_N) (a : Nat) (mo : Int32) (b : Nat) (f : Nat → Option Nat) (hn : w n = some (a, .inr (4, [.ref b, .int 15, .int mo]))) (hne : n ≠ nb) (hb : w nb = some (b, .inl (G 4, 15, .inr (.inr (.inr (.inr f)))))) (hnt : w (99, 0, 0) = none) (hel : ∀ j y, f j = some y → ∃ (nm : hm_N) (fs : List Value), w nm = some (y, .inr (1, fs))) (ve : Nat) (nm : hm_N) (vs : List Value) (hv : w nm = some (ve, .inr (1, vs))) (hv1 : nm ≠ n) (hv2 : nm ≠ nb) : Met l y_A_add1 (.code y_A_add1 c_A_add1 4 (none : Option FieldType) :: wsA) { frames := 6, cells := 1, slots := 22, locals := 127 } (va_Pc [.ref a, .ref ve, .ref b, .int 15] (ctU D A G w)) (hm_Q D cls A (fun v w1 => ∃ q, v = none ∧ w1 = hm_up (hm_up w nb (q, .inl (G 4, 22, .inr (.inr (.inr (.inr (va_up (va_cpy f (fun _ => none) 0 0 15) 15 (some ve)))))))) n (a, .inr (4, [.ref q, .int 16, .int mo])))) 1 22 A := by
  refine ct_met (by decide) (Nat.le_of_ble_eq_true rfl) ?_
  rintro p e s m below meth c ls X hr hlocks hnm hl ⟨hB, hK⟩
  have hl : lv_has ls 4 [(0, .ref a), (1, .ref ve), (2, .ref b), (3, .int 15)] := hl
  have hY : hm_Y D cls A s.heap w s.heap [] := hm_Y.start hB hK.2.2.2
  refine lv_iload_n X.1 X.2.1 d_A_add1_0 rfl (lv_at hl 3 rfl) ?_
  refine lv_aload_n X.1 X.2.1 d_A_add1_1 rfl (lv_at hl 2 rfl) ?_
  refine hm_alen ⟨X, hK.1⟩ hY hb 3 rfl (v := 15) rfl d_A_add1_2 ?_
  refine lv_icmp_ne (tgt := 11) X.1 X.2.1 d_A_add1_3 (by decide) (fun c9 => absurd rfl c9) (fun _ => ?_)
  refine lv_aload_n X.1 X.2.1 d_A_add1_6 rfl (lv_at hl 0 rfl) ?_
  refine hm_call (ct_runV (n := 0) X hK hY (k_A_grow0_m22 l D A G w n nb a mo b f hn hne hb hnt hel) m_202 m_199 m_201 ms_A_grow0 m_4 (by decide +kernel) ⟨Nat.le_of_ble_eq_true rfl, Nat.le_of_ble_eq_true rfl⟩ ⟨rfl, rfl⟩ (hm_recv ⟨X, hK.1⟩ hY hn rfl) rfl hl.1 rfl (Nat.le_of_ble_eq_true rfl) d_A_add1_7 ⟨Nat.le_of_ble_eq_true rfl, Nat.le_of_ble_eq_true rfl⟩) hY (fun v w1 H locs hp hY => ?_)
  obtain ⟨q, rfl, rfl⟩ := hp
  refine W.eq (g2 := F0 m 10 ls [.ref q]) rfl ?_
  refine lv_astore_n (lv' := [(2, .ref q), (0, .ref a), (1, .ref ve), (3, .int 15)]) X.1 X.2.1 d_A_add1_10 rfl hl (by decide) rfl (fun ls hl => ?_)
  refine lv_aload_n X.1 X.2.1 d_A_add1_11 rfl (lv_at hl 0 rfl) ?_
  refine lv_iload_n X.1 X.2.1 d_A_add1_12 rfl (lv_at hl 3 rfl) ?_
  refine lv_aload_n X.1 X.2.1 d_A_add1_13 rfl (lv_at hl 2 rfl) ?_
  have hq := hm_up_s (hm_up w nb (q, .inl (G 4, 22, .inr (.inr (.inr (.inr (va_cpy f (fun _ => none) 0 0 15))))))) n (a, .inr (4, [.ref q, .int 15, .int mo]))
  have hq2 : hm_up (hm_up w nb (q, .inl (G 4, 22, .inr (.inr (.inr (.inr (va_cpy f (fun _ => none) 0 0 15))))))) n (a, .inr (4, [.ref q, .int 15, .int mo])) nb = _ := (hm_up_n _ _ (Ne.symm hne)).trans (hm_up_s _ _ _)
  have hq3 : hm_up (hm_up w nb (q, .inl (G 4, 22, .inr (.inr (.inr (.inr (va_cpy f (fun _ => none) 0 0 15))))))) n (a, .inr (4, [.ref q, .int 15, .int mo])) nm = _ := (hm_up_n _ _ hv1).trans ((hm_up_n _ _ hv2).trans hv)
  refine hm_aast ⟨X, hK.1⟩ hY hq2 3 rfl (C := R_P) (hm_recv ⟨X, hK.1⟩ hY hq3 rfl) (vb_asgC hK.2.1.2.2.2.2.1) (i := 15) (vp_in_nI (n := 15) (by decide) (by decide)) d_A_add1_14 (fun H locs hY => ?_)
  have hY : hm_Y D cls A s.heap (hm_up (hm_up w nb (q, .inl (G 4, 22, .inr (.inr (.inr (.inr (va_up (va_cpy f (fun _ => none) 0 0 15) 15 (some ve)))))))) n (a, .inr (4, [.ref q, .int 15, .int mo]))) H locs := by rw [hm_uc _ _ _ hne, hm_uu] at hY; exact hY
  refine lv_aload_n X.1 X.2.1 d_A_add1_15 rfl (lv_at hl 1 rfl) ?_
  refine lv_iload_n X.1 X.2.1 d_A_add1_16 rfl (lv_at hl 3 rfl) ?_
  refine lv_iconst (v := 1) X.1 X.2.1 d_A_add1_17 (by decide) ?_
  refine lv_iadd X.1 X.2.1 d_A_add1_18 ?_
  refine W.eq (g2 := F0 m 19 ls [.int 16, .ref a]) rfl ?_
  refine hm_put ⟨X, hK.1⟩ hY (hm_up_s _ _ _) 1 rfl (Nat.le_of_ble_eq_true rfl) (Nat.le_of_ble_eq_true rfl) hu_A ty_A ty_A_ok nm_A m_42 (fun _ h => h) rfl rfl rfl d_A_add1_19 (fun H locs hY => ?_)
  have hY : hm_Y D cls A s.heap (hm_up (hm_up w nb (q, .inl (G 4, 22, .inr (.inr (.inr (.inr (va_up (va_cpy f (fun _ => none) 0 0 15) 15 (some ve)))))))) n (a, .inr (4, [.ref q, .int 16, .int mo]))) H locs := by rw [hm_uu] at hY; exact hY
  exact en_vW X hY hr hlocks d_A_add1_22 (⟨q, rfl, rfl⟩)

set_option maxHeartbeats 4000000 in
set_option maxRecDepth 100000 in
theorem k_A_add_m22P (l : Launch) (D : va_G) (A : Nat → Prop) (G : Nat → Nat) (w : hm_T) (n nb : hm_N) (a : Nat) (mo : Int32) (b : Nat) (f : Nat → Option Nat) (hn : w n = some (a, .inr (4, [.ref b, .int 15, .int mo]))) (hne : n ≠ nb) (hb : w nb = some (b, .inl (G 4, 15, .inr (.inr (.inr (.inr f)))))) (hnt : w (99, 0, 0) = none) (hel : ∀ j y, f j = some y → ∃ (nm : hm_N) (fs : List Value), w nm = some (y, .inr (1, fs))) (ve : Nat) (nm : hm_N) (vs : List Value) (hv : w nm = some (ve, .inr (1, vs))) (hv1 : nm ≠ n) (hv2 : nm ≠ nb) : Met l y_A_add0 (.code y_A_add0 c_A_add0 2 (some .boolean) :: wsA) { frames := 7, cells := 1, slots := 22, locals := 150 } (va_Pc [.ref a, .ref ve] (ctU D A G w)) (hm_Q D cls A (fun v w1 => ∃ q, v = some (.int 1) ∧ w1 = hm_up (hm_up w nb (q, .inl (G 4, 22, .inr (.inr (.inr (.inr (va_up (va_cpy f (fun _ => none) 0 0 15) 15 (some ve)))))))) n (a, .inr (4, [.ref q, .int 16, .int (mo + 1)])))) 1 22 A := by
  refine ct_met (by decide) (Nat.le_of_ble_eq_true rfl) ?_
  rintro p e s m below meth c ls X hr hlocks hnm hl ⟨hB, hK⟩
  have hl : lv_has ls 2 [(0, .ref a), (1, .ref ve)] := hl
  have hY : hm_Y D cls A s.heap w s.heap [] := hm_Y.start hB hK.2.2.2
  refine lv_aload_n X.1 X.2.1 d_A_add0_0 rfl (lv_at hl 0 rfl) ?_
  refine lv_dup X.1 X.2.1 d_A_add0_1 rfl ?_
  refine hm_get ⟨X, hK.1⟩ hY hn 2 (v := .int mo) rfl rfl (Nat.le_of_ble_eq_true rfl) hu_A m_44 (fun x h => u_same (X.2.2.2.2 _ m_45) x h) d_A_add0_2 ?_
  refine lv_iconst (v := 1) X.1 X.2.1 d_A_add0_5 (by decide) ?_
  refine lv_iadd X.1 X.2.1 d_A_add0_6 ?_
  refine hm_put ⟨X, hK.1⟩ hY hn 2 rfl (Nat.le_of_ble_eq_true rfl) (Nat.le_of_ble_eq_true rfl) hu_A ty_A ty_A_ok nm_A m_44 (fun x h => u_same (X.2.2.2.2 _ m_45) x h) rfl rfl rfl d_A_add0_7 (fun H locs hY => ?_)
  have hY : hm_Y D cls A s.heap (hm_up w n (a, .inr (4, [.ref b, .int 15, .int (mo + 1)]))) H locs := by exact hY
  refine lv_aload_n X.1 X.2.1 d_A_add0_10 rfl (lv_at hl 0 rfl) ?_
  refine lv_aload_n X.1 X.2.1 d_A_add0_11 rfl (lv_at hl 1 rfl) ?_
  refine lv_aload_n X.1 X.2.1 d_A_add0_12 rfl (lv_at hl 0 rfl) ?_
  refine hm_get ⟨X, hK.1⟩ hY (hm_up_s _ _ _) 0 (v := .ref b) rfl rfl (Nat.le_of_ble_eq_true rfl) hu_A m_41 (fun _ h => h) d_A_add0_13 ?_
  refine lv_aload_n X.1 X.2.1 d_A_add0_16 rfl (lv_at hl 0 rfl) ?_
  refine hm_get ⟨X, hK.1⟩ hY (hm_up_s _ _ _) 1 (v := .int 15) rfl rfl (Nat.le_of_ble_eq_true rfl) hu_A m_42 (fun _ h => h) d_A_add0_17 ?_
  refine hm_call (ct_runV (n := 3) X hK hY (k_A_add1_m22P l D A G (hm_up w n (a, .inr (4, [.ref b, .int 15, .int (mo + 1)]))) n nb a (mo + 1) b f (hm_up_s _ _ _) hne ((hm_up_n _ _ (Ne.symm hne)).trans hb) ((hm_up_n _ _ (fun z => by rw [z] at hnt; rw [hn] at hnt; cases hnt)).trans hnt) (fun j y hy => by obtain ⟨nm, fs, h⟩ := hel j y hy; exact ⟨nm, fs, (hm_up_n _ _ (fun z => by rw [z, hn] at h; cases h)).trans h⟩) ve nm vs ((hm_up_n _ _ hv1).trans hv) hv1 hv2) m_198 m_195 m_197 ms_A_add1 m_4 (by decide +kernel) ⟨Nat.le_of_ble_eq_true rfl, Nat.le_of_ble_eq_true rfl⟩ ⟨rfl, rfl⟩ (hm_recv ⟨X, hK.1⟩ hY (hm_up_s _ _ _) rfl) rfl hl.1 rfl (Nat.le_of_ble_eq_true rfl) d_A_add0_20 ⟨Nat.le_of_ble_eq_true rfl, Nat.le_of_ble_eq_true rfl⟩) hY (fun v w1 H locs hp hY => ?_)
  obtain ⟨q, rfl, rfl⟩ := hp
  refine W.eq (g2 := F0 m 23 ls []) rfl ?_
  have hY : hm_Y D cls A s.heap (hm_up (hm_up w nb (q, .inl (G 4, 22, .inr (.inr (.inr (.inr (va_up (va_cpy f (fun _ => none) 0 0 15) 15 (some ve)))))))) n (a, .inr (4, [.ref q, .int 16, .int (mo + 1)]))) H locs := by rw [hm_uc _ _ _ hne, hm_uu] at hY; exact hY
  refine lv_iconst (v := 1) X.1 X.2.1 d_A_add0_23 (by decide) ?_
  exact en_zW X hY hr hlocks d_A_add0_24 rfl (⟨q, rfl, rfl⟩)

set_option maxHeartbeats 4000000 in
set_option maxRecDepth 100000 in
theorem k_A_add1_rD (l : Launch) (D : va_G) (A : Nat → Prop) (G : Nat → Nat) (w : hm_T) (n nb : hm_N) (a : Nat) (mo : Int32) (b N cn : Nat) (f : Nat → Option Nat) (hn : w n = some (a, .inr (4, [.ref b, .int (nI cn), .int mo]))) (hne : n ≠ nb) (hb : w nb = some (b, .inl (G 4, N, .inr (.inr (.inr (.inr f)))))) (hc : cn < N) (hN : N < 2 ^ 31) (ve : Nat) (nm : hm_N) (vs : List Value) (hv : w nm = some (ve, .inr (2, vs))) (hv1 : nm ≠ n) (hv2 : nm ≠ nb) : Met l y_A_add1 (.code y_A_add1 c_A_add1 4 (none : Option FieldType) :: wsA) { frames := 0, cells := 0, slots := 0, locals := 0 } (va_Pc [.ref a, .ref ve, .ref b, .int (nI cn)] (ctU D A G w)) (hm_Q D cls A (fun v w1 => v = none ∧ w1 = hm_up (hm_up w nb (b, .inl (G 4, N, .inr (.inr (.inr (.inr (va_up f cn (some ve)))))))) n (a, .inr (4, [.ref b, .int (nI (cn + 1)), .int mo])))) 0 0 A := by
  refine ct_met (by decide) (Nat.le_of_ble_eq_true rfl) ?_
  rintro p e s m below meth c ls X hr hlocks hnm hl ⟨hB, hK⟩
  have hl : lv_has ls 4 [(0, .ref a), (1, .ref ve), (2, .ref b), (3, .int (nI cn))] := hl
  have hY : hm_Y D cls A s.heap w s.heap [] := hm_Y.start hB hK.2.2.2
  refine lv_iload_n X.1 X.2.1 d_A_add1_0 rfl (lv_at hl 3 rfl) ?_
  refine lv_aload_n X.1 X.2.1 d_A_add1_1 rfl (lv_at hl 2 rfl) ?_
  refine hm_alen ⟨X, hK.1⟩ hY hb 3 rfl (v := nI N) rfl d_A_add1_2 ?_
  refine lv_icmp_ne (tgt := 11) X.1 X.2.1 d_A_add1_3 (by decide) (fun _ => ?_) (fun c9 => absurd ((nI_eq (by omega) hN).mp c9) (by omega))
  refine lv_aload_n X.1 X.2.1 d_A_add1_11 rfl (lv_at hl 2 rfl) ?_
  refine lv_iload_n X.1 X.2.1 d_A_add1_12 rfl (lv_at hl 3 rfl) ?_
  refine lv_aload_n X.1 X.2.1 d_A_add1_13 rfl (lv_at hl 1 rfl) ?_
  refine hm_aast ⟨X, hK.1⟩ hY hb 3 rfl (C := R_D) (hm_recv ⟨X, hK.1⟩ hY hv rfl) (vb_asgC hK.2.1.2.2.2.2.2.1) (vp_in_nI hc hN) d_A_add1_14 (fun H locs hY => ?_)
  rw [nI_clamp (by omega)] at hY
  refine lv_aload_n X.1 X.2.1 d_A_add1_15 rfl (lv_at hl 0 rfl) ?_
  refine lv_iload_n X.1 X.2.1 d_A_add1_16 rfl (lv_at hl 3 rfl) ?_
  refine lv_iconst (v := 1) X.1 X.2.1 d_A_add1_17 (by decide) ?_
  refine lv_iadd X.1 X.2.1 d_A_add1_18 ?_
  rw [nI_1]
  refine hm_put ⟨X, hK.1⟩ hY ((hm_up_n _ _ hne).trans hn) 1 rfl (Nat.le_of_ble_eq_true rfl) (Nat.le_of_ble_eq_true rfl) hu_A ty_A ty_A_ok nm_A m_42 (fun _ h => h) rfl rfl rfl d_A_add1_19 (fun H locs hY => ?_)
  exact en_vW X hY hr hlocks d_A_add1_22 (⟨rfl, rfl⟩)

set_option maxHeartbeats 4000000 in
set_option maxRecDepth 100000 in
theorem k_A_add_rD (l : Launch) (D : va_G) (A : Nat → Prop) (G : Nat → Nat) (w : hm_T) (n nb : hm_N) (a : Nat) (mo : Int32) (b N cn : Nat) (f : Nat → Option Nat) (hn : w n = some (a, .inr (4, [.ref b, .int (nI cn), .int mo]))) (hne : n ≠ nb) (hb : w nb = some (b, .inl (G 4, N, .inr (.inr (.inr (.inr f)))))) (hc : cn < N) (hN : N < 2 ^ 31) (ve : Nat) (nm : hm_N) (vs : List Value) (hv : w nm = some (ve, .inr (2, vs))) (hv1 : nm ≠ n) (hv2 : nm ≠ nb) : Met l y_A_add0 (.code y_A_add0 c_A_add0 2 (some .boolean) :: wsA) { frames := 1, cells := 0, slots := 0, locals := 23 } (va_Pc [.ref a, .ref ve] (ctU D A G w)) (hm_Q D cls A (fun v w1 => v = some (.int 1) ∧ w1 = hm_up (hm_up w nb (b, .inl (G 4, N, .inr (.inr (.inr (.inr (va_up f cn (some ve)))))))) n (a, .inr (4, [.ref b, .int (nI (cn + 1)), .int (mo + 1)])))) 0 0 A := by
  refine ct_met (by decide) (Nat.le_of_ble_eq_true rfl) ?_
  rintro p e s m below meth c ls X hr hlocks hnm hl ⟨hB, hK⟩
  have hl : lv_has ls 2 [(0, .ref a), (1, .ref ve)] := hl
  have hY : hm_Y D cls A s.heap w s.heap [] := hm_Y.start hB hK.2.2.2
  refine lv_aload_n X.1 X.2.1 d_A_add0_0 rfl (lv_at hl 0 rfl) ?_
  refine lv_dup X.1 X.2.1 d_A_add0_1 rfl ?_
  refine hm_get ⟨X, hK.1⟩ hY hn 2 (v := .int mo) rfl rfl (Nat.le_of_ble_eq_true rfl) hu_A m_44 (fun x h => u_same (X.2.2.2.2 _ m_45) x h) d_A_add0_2 ?_
  refine lv_iconst (v := 1) X.1 X.2.1 d_A_add0_5 (by decide) ?_
  refine lv_iadd X.1 X.2.1 d_A_add0_6 ?_
  refine hm_put ⟨X, hK.1⟩ hY hn 2 rfl (Nat.le_of_ble_eq_true rfl) (Nat.le_of_ble_eq_true rfl) hu_A ty_A ty_A_ok nm_A m_44 (fun x h => u_same (X.2.2.2.2 _ m_45) x h) rfl rfl rfl d_A_add0_7 (fun H locs hY => ?_)
  have hY : hm_Y D cls A s.heap (hm_up w n (a, .inr (4, [.ref b, .int (nI cn), .int (mo + 1)]))) H locs := by exact hY
  refine lv_aload_n X.1 X.2.1 d_A_add0_10 rfl (lv_at hl 0 rfl) ?_
  refine lv_aload_n X.1 X.2.1 d_A_add0_11 rfl (lv_at hl 1 rfl) ?_
  refine lv_aload_n X.1 X.2.1 d_A_add0_12 rfl (lv_at hl 0 rfl) ?_
  refine hm_get ⟨X, hK.1⟩ hY (hm_up_s _ _ _) 0 (v := .ref b) rfl rfl (Nat.le_of_ble_eq_true rfl) hu_A m_41 (fun _ h => h) d_A_add0_13 ?_
  refine lv_aload_n X.1 X.2.1 d_A_add0_16 rfl (lv_at hl 0 rfl) ?_
  refine hm_get ⟨X, hK.1⟩ hY (hm_up_s _ _ _) 1 (v := .int (nI cn)) rfl rfl (Nat.le_of_ble_eq_true rfl) hu_A m_42 (fun _ h => h) d_A_add0_17 ?_
  refine hm_call (ct_runV (n := 3) X hK hY (k_A_add1_rD l D A G (hm_up w n (a, .inr (4, [.ref b, .int (nI cn), .int (mo + 1)]))) n nb a (mo + 1) b N cn f (hm_up_s _ _ _) hne ((hm_up_n _ _ (Ne.symm hne)).trans hb) hc hN ve nm vs ((hm_up_n _ _ hv1).trans hv) hv1 hv2) m_198 m_195 m_197 ms_A_add1 m_4 (by decide +kernel) ⟨Nat.le_of_ble_eq_true rfl, Nat.le_of_ble_eq_true rfl⟩ ⟨rfl, rfl⟩ (hm_recv ⟨X, hK.1⟩ hY (hm_up_s _ _ _) rfl) rfl hl.1 rfl (Nat.le_of_ble_eq_true rfl) d_A_add0_20 ⟨Nat.le_of_ble_eq_true rfl, Nat.le_of_ble_eq_true rfl⟩) hY (fun v w1 H locs hp hY => ?_)
  obtain ⟨rfl, rfl⟩ := hp
  refine W.eq (g2 := F0 m 23 ls []) rfl ?_
  have hY : hm_Y D cls A s.heap (hm_up (hm_up w nb (b, .inl (G 4, N, .inr (.inr (.inr (.inr (va_up f cn (some ve)))))))) n (a, .inr (4, [.ref b, .int (nI (cn + 1)), .int (mo + 1)]))) H locs := by rw [hm_uc _ _ _ hne, hm_uu] at hY; exact hY
  refine lv_iconst (v := 1) X.1 X.2.1 d_A_add0_23 (by decide) ?_
  exact en_zW X hY hr hlocks d_A_add0_24 rfl (⟨rfl, rfl⟩)

set_option maxHeartbeats 4000000 in
set_option maxRecDepth 100000 in
theorem k_A_add1_fD (l : Launch) (D : va_G) (A : Nat → Prop) (G : Nat → Nat) (w : hm_T) (n nb : hm_N) (a : Nat) (mo : Int32) (hn : w n = some (a, .inr (4, [.ref (G 0), .int 0, .int mo]))) (hne : n ≠ nb) (ve : Nat) (nm : hm_N) (vs : List Value) (hv : w nm = some (ve, .inr (2, vs))) (hv1 : nm ≠ n) (hv2 : nm ≠ nb) : Met l y_A_add1 (.code y_A_add1 c_A_add1 4 (none : Option FieldType) :: wsA) { frames := 6, cells := 1, slots := 10, locals := 127 } (va_Pc [.ref a, .ref ve, .ref (G 0), .int 0] (ctU D A G w)) (hm_Q D cls A (fun v w1 => ∃ q, v = none ∧ w1 = hm_up (hm_up w nb (q, .inl (G 4, 10, .inr (.inr (.inr (.inr (va_up (fun _ => none) 0 (some ve)))))))) n (a, .inr (4, [.ref q, .int 1, .int mo])))) 1 10 A := by
  refine ct_met (by decide) (Nat.le_of_ble_eq_true rfl) ?_
  rintro p e s m below meth c ls X hr hlocks hnm hl ⟨hB, hK⟩
  have hl : lv_has ls 4 [(0, .ref a), (1, .ref ve), (2, .ref (G 0)), (3, .int 0)] := hl
  have hY : hm_Y D cls A s.heap w s.heap [] := hm_Y.start hB hK.2.2.2
  refine lv_iload_n X.1 X.2.1 d_A_add1_0 rfl (lv_at hl 3 rfl) ?_
  refine lv_aload_n X.1 X.2.1 d_A_add1_1 rfl (lv_at hl 2 rfl) ?_
  refine va_tlen X.1 X.2.1 hK.2.2.1.2 hY.2.2.1 (v := 0) rfl d_A_add1_2 ?_
  refine lv_icmp_ne (tgt := 11) X.1 X.2.1 d_A_add1_3 (by decide) (fun c9 => absurd rfl c9) (fun _ => ?_)
  refine lv_aload_n X.1 X.2.1 d_A_add1_6 rfl (lv_at hl 0 rfl) ?_
  refine hm_call (ct_runV (n := 0) X hK hY (k_A_grow0_f l D A G w n nb a mo hn hne) m_202 m_199 m_201 ms_A_grow0 m_4 (by decide +kernel) ⟨Nat.le_of_ble_eq_true rfl, Nat.le_of_ble_eq_true rfl⟩ ⟨rfl, rfl⟩ (hm_recv ⟨X, hK.1⟩ hY hn rfl) rfl hl.1 rfl (Nat.le_of_ble_eq_true rfl) d_A_add1_7 ⟨Nat.le_of_ble_eq_true rfl, Nat.le_of_ble_eq_true rfl⟩) hY (fun v w1 H locs hp hY => ?_)
  obtain ⟨q, rfl, rfl⟩ := hp
  refine W.eq (g2 := F0 m 10 ls [.ref q]) rfl ?_
  refine lv_astore_n (lv' := [(2, .ref q), (0, .ref a), (1, .ref ve), (3, .int 0)]) X.1 X.2.1 d_A_add1_10 rfl hl (by decide) rfl (fun ls hl => ?_)
  refine lv_aload_n X.1 X.2.1 d_A_add1_11 rfl (lv_at hl 0 rfl) ?_
  refine lv_iload_n X.1 X.2.1 d_A_add1_12 rfl (lv_at hl 3 rfl) ?_
  refine lv_aload_n X.1 X.2.1 d_A_add1_13 rfl (lv_at hl 2 rfl) ?_
  have hq := hm_up_s (hm_up w nb (q, .inl (G 4, 10, .inr (.inr (.inr (.inr (fun _ => none))))))) n (a, .inr (4, [.ref q, .int 0, .int mo]))
  have hq2 : hm_up (hm_up w nb (q, .inl (G 4, 10, .inr (.inr (.inr (.inr (fun _ => none))))))) n (a, .inr (4, [.ref q, .int 0, .int mo])) nb = _ := (hm_up_n _ _ (Ne.symm hne)).trans (hm_up_s _ _ _)
  have hq3 : hm_up (hm_up w nb (q, .inl (G 4, 10, .inr (.inr (.inr (.inr (fun _ => none))))))) n (a, .inr (4, [.ref q, .int 0, .int mo])) nm = _ := (hm_up_n _ _ hv1).trans ((hm_up_n _ _ hv2).trans hv)
  refine hm_aast ⟨X, hK.1⟩ hY hq2 3 rfl (C := R_D) (hm_recv ⟨X, hK.1⟩ hY hq3 rfl) (vb_asgC hK.2.1.2.2.2.2.2.1) (i := 0) (vp_in_nI (n := 0) (by decide) (by decide)) d_A_add1_14 (fun H locs hY => ?_)
  have hY : hm_Y D cls A s.heap (hm_up (hm_up w nb (q, .inl (G 4, 10, .inr (.inr (.inr (.inr (va_up (fun _ => none) 0 (some ve)))))))) n (a, .inr (4, [.ref q, .int 0, .int mo]))) H locs := by rw [hm_uc _ _ _ hne, hm_uu] at hY; exact hY
  refine lv_aload_n X.1 X.2.1 d_A_add1_15 rfl (lv_at hl 1 rfl) ?_
  refine lv_iload_n X.1 X.2.1 d_A_add1_16 rfl (lv_at hl 3 rfl) ?_
  refine lv_iconst (v := 1) X.1 X.2.1 d_A_add1_17 (by decide) ?_
  refine lv_iadd X.1 X.2.1 d_A_add1_18 ?_
  refine W.eq (g2 := F0 m 19 ls [.int 1, .ref a]) rfl ?_
  refine hm_put ⟨X, hK.1⟩ hY (hm_up_s _ _ _) 1 rfl (Nat.le_of_ble_eq_true rfl) (Nat.le_of_ble_eq_true rfl) hu_A ty_A ty_A_ok nm_A m_42 (fun _ h => h) rfl rfl rfl d_A_add1_19 (fun H locs hY => ?_)
  have hY : hm_Y D cls A s.heap (hm_up (hm_up w nb (q, .inl (G 4, 10, .inr (.inr (.inr (.inr (va_up (fun _ => none) 0 (some ve)))))))) n (a, .inr (4, [.ref q, .int 1, .int mo]))) H locs := by rw [hm_uu] at hY; exact hY
  exact en_vW X hY hr hlocks d_A_add1_22 (⟨q, rfl, rfl⟩)

set_option maxHeartbeats 4000000 in
set_option maxRecDepth 100000 in
theorem k_A_add_fD (l : Launch) (D : va_G) (A : Nat → Prop) (G : Nat → Nat) (w : hm_T) (n nb : hm_N) (a : Nat) (mo : Int32) (hn : w n = some (a, .inr (4, [.ref (G 0), .int 0, .int mo]))) (hne : n ≠ nb) (ve : Nat) (nm : hm_N) (vs : List Value) (hv : w nm = some (ve, .inr (2, vs))) (hv1 : nm ≠ n) (hv2 : nm ≠ nb) : Met l y_A_add0 (.code y_A_add0 c_A_add0 2 (some .boolean) :: wsA) { frames := 7, cells := 1, slots := 10, locals := 150 } (va_Pc [.ref a, .ref ve] (ctU D A G w)) (hm_Q D cls A (fun v w1 => ∃ q, v = some (.int 1) ∧ w1 = hm_up (hm_up w nb (q, .inl (G 4, 10, .inr (.inr (.inr (.inr (va_up (fun _ => none) 0 (some ve)))))))) n (a, .inr (4, [.ref q, .int 1, .int (mo + 1)])))) 1 10 A := by
  refine ct_met (by decide) (Nat.le_of_ble_eq_true rfl) ?_
  rintro p e s m below meth c ls X hr hlocks hnm hl ⟨hB, hK⟩
  have hl : lv_has ls 2 [(0, .ref a), (1, .ref ve)] := hl
  have hY : hm_Y D cls A s.heap w s.heap [] := hm_Y.start hB hK.2.2.2
  refine lv_aload_n X.1 X.2.1 d_A_add0_0 rfl (lv_at hl 0 rfl) ?_
  refine lv_dup X.1 X.2.1 d_A_add0_1 rfl ?_
  refine hm_get ⟨X, hK.1⟩ hY hn 2 (v := .int mo) rfl rfl (Nat.le_of_ble_eq_true rfl) hu_A m_44 (fun x h => u_same (X.2.2.2.2 _ m_45) x h) d_A_add0_2 ?_
  refine lv_iconst (v := 1) X.1 X.2.1 d_A_add0_5 (by decide) ?_
  refine lv_iadd X.1 X.2.1 d_A_add0_6 ?_
  refine hm_put ⟨X, hK.1⟩ hY hn 2 rfl (Nat.le_of_ble_eq_true rfl) (Nat.le_of_ble_eq_true rfl) hu_A ty_A ty_A_ok nm_A m_44 (fun x h => u_same (X.2.2.2.2 _ m_45) x h) rfl rfl rfl d_A_add0_7 (fun H locs hY => ?_)
  have hY : hm_Y D cls A s.heap (hm_up w n (a, .inr (4, [.ref (G 0), .int 0, .int (mo + 1)]))) H locs := by exact hY
  refine lv_aload_n X.1 X.2.1 d_A_add0_10 rfl (lv_at hl 0 rfl) ?_
  refine lv_aload_n X.1 X.2.1 d_A_add0_11 rfl (lv_at hl 1 rfl) ?_
  refine lv_aload_n X.1 X.2.1 d_A_add0_12 rfl (lv_at hl 0 rfl) ?_
  refine hm_get ⟨X, hK.1⟩ hY (hm_up_s _ _ _) 0 (v := .ref (G 0)) rfl rfl (Nat.le_of_ble_eq_true rfl) hu_A m_41 (fun _ h => h) d_A_add0_13 ?_
  refine lv_aload_n X.1 X.2.1 d_A_add0_16 rfl (lv_at hl 0 rfl) ?_
  refine hm_get ⟨X, hK.1⟩ hY (hm_up_s _ _ _) 1 (v := .int 0) rfl rfl (Nat.le_of_ble_eq_true rfl) hu_A m_42 (fun _ h => h) d_A_add0_17 ?_
  refine hm_call (ct_runV (n := 3) X hK hY (k_A_add1_fD l D A G (hm_up w n (a, .inr (4, [.ref (G 0), .int 0, .int (mo + 1)]))) n nb a (mo + 1) (hm_up_s _ _ _) hne ve nm vs ((hm_up_n _ _ hv1).trans hv) hv1 hv2) m_198 m_195 m_197 ms_A_add1 m_4 (by decide +kernel) ⟨Nat.le_of_ble_eq_true rfl, Nat.le_of_ble_eq_true rfl⟩ ⟨rfl, rfl⟩ (hm_recv ⟨X, hK.1⟩ hY (hm_up_s _ _ _) rfl) rfl hl.1 rfl (Nat.le_of_ble_eq_true rfl) d_A_add0_20 ⟨Nat.le_of_ble_eq_true rfl, Nat.le_of_ble_eq_true rfl⟩) hY (fun v w1 H locs hp hY => ?_)
  obtain ⟨q, rfl, rfl⟩ := hp
  refine W.eq (g2 := F0 m 23 ls []) rfl ?_
  have hY : hm_Y D cls A s.heap (hm_up (hm_up w nb (q, .inl (G 4, 10, .inr (.inr (.inr (.inr (va_up (fun _ => none) 0 (some ve)))))))) n (a, .inr (4, [.ref q, .int 1, .int (mo + 1)]))) H locs := by rw [hm_uc _ _ _ hne, hm_uu] at hY; exact hY
  refine lv_iconst (v := 1) X.1 X.2.1 d_A_add0_23 (by decide) ?_
  exact en_zW X hY hr hlocks d_A_add0_24 rfl (⟨q, rfl, rfl⟩)
end
section
set_option maxHeartbeats 4000000 in
set_option maxRecDepth 100000 in
theorem k_Q_init (l : Launch) (D : va_G) (A : Nat → Prop) (G : Nat → Nat) (w : hm_T) (n : hm_N) (a : Nat) (f0 f1 f2 f3 : Value) (hn : w n = some (a, .inr (3, [f0, f1, f2, f3]))) : Met l y_Q_init (.code y_Q_init c_Q_init 1 (none : Option FieldType) :: wsA) { frames := 1, cells := 0, slots := 0, locals := 20 } (va_Pc [.ref a] (ctU D A G w)) (hm_Q D cls A (fun v w1 => v = none ∧ w1 = hm_up w n (a, .inr (3, [.int 0, .int 0, .int 0, .long 0])))) 0 0 A := by
  refine ct_met (by decide) (Nat.le_of_ble_eq_true rfl) ?_
  rintro p e s m below meth c ls X hr hlocks hnm hl ⟨hB, hK⟩
  have hl : lv_has ls 1 [(0, .ref a)] := hl
  have hY : hm_Y D cls A s.heap w s.heap [] := hm_Y.start hB hK.2.2.2
  refine lv_aload_n X.1 X.2.1 d_Q_init_0 rfl (lv_at hl 0 rfl) ?_
  refine W.objInit X.1 X.2.1 X.2.2.2.1 (X.2.2.2.2 _ m_58) (X.2.2.2.2 _ m_25) (X.2.2.2.2 _ m_26) rfl (hl.1.trans X.2.2.1.symm) rfl d_Q_init_1 (Nat.le_of_ble_eq_true rfl) (Nat.le_of_ble_eq_true rfl) ?_
  refine W.eq (g2 := F0 m 4 ls []) rfl ?_
  refine lv_aload_n X.1 X.2.1 d_Q_init_4 rfl (lv_at hl 0 rfl) ?_
  refine lv_iconst (v := 0) X.1 X.2.1 d_Q_init_5 (by decide) ?_
  refine hm_put ⟨X, hK.1⟩ hY hn 0 rfl (Nat.le_of_ble_eq_true rfl) (Nat.le_of_ble_eq_true rfl) hu_Q ty_Q ty_Q_ok nm_Q m_59 (fun _ h => h) rfl rfl rfl d_Q_init_6 (fun H locs hY => ?_)
  have hY : hm_Y D cls A s.heap (hm_up w n (a, .inr (3, [.int 0, f1, f2, f3]))) H locs := by exact hY
  refine lv_aload_n X.1 X.2.1 d_Q_init_9 rfl (lv_at hl 0 rfl) ?_
  refine lv_iconst (v := 0) X.1 X.2.1 d_Q_init_10 (by decide) ?_
  refine hm_put ⟨X, hK.1⟩ hY (hm_up_s _ _ _) 1 rfl (Nat.le_of_ble_eq_true rfl) (Nat.le_of_ble_eq_true rfl) hu_Q ty_Q ty_Q_ok nm_Q m_61 (fun _ h => h) rfl rfl rfl d_Q_init_11 (fun H locs hY => ?_)
  have hY : hm_Y D cls A s.heap (hm_up w n (a, .inr (3, [.int 0, .int 0, f2, f3]))) H locs := by rw [hm_uu] at hY; exact hY
  refine lv_aload_n X.1 X.2.1 d_Q_init_14 rfl (lv_at hl 0 rfl) ?_
  refine lv_iconst (v := 0) X.1 X.2.1 d_Q_init_15 (by decide) ?_
  refine hm_put ⟨X, hK.1⟩ hY (hm_up_s _ _ _) 2 rfl (Nat.le_of_ble_eq_true rfl) (Nat.le_of_ble_eq_true rfl) hu_Q ty_Q ty_Q_ok nm_Q m_62 (fun _ h => h) rfl rfl rfl d_Q_init_16 (fun H locs hY => ?_)
  have hY : hm_Y D cls A s.heap (hm_up w n (a, .inr (3, [.int 0, .int 0, .int 0, f3]))) H locs := by rw [hm_uu] at hY; exact hY
  refine lv_aload_n X.1 X.2.1 d_Q_init_19 rfl (lv_at hl 0 rfl) ?_
  refine lv_lconst (v := 0) X.1 X.2.1 d_Q_init_20 (by decide) ?_
  refine hm_put ⟨X, hK.1⟩ hY (hm_up_s _ _ _) 3 rfl (Nat.le_of_ble_eq_true rfl) (Nat.le_of_ble_eq_true rfl) hu_Q ty_Q ty_Q_ok nm_Q m_64 (fun _ h => h) rfl rfl rfl d_Q_init_21 (fun H locs hY => ?_)
  have hY : hm_Y D cls A s.heap (hm_up w n (a, .inr (3, [.int 0, .int 0, .int 0, .long 0]))) H locs := by rw [hm_uu] at hY; exact hY
  exact en_vW X hY hr hlocks d_Q_init_24 (⟨rfl, rfl⟩)

set_option maxHeartbeats 4000000 in
set_option maxRecDepth 100000 in
theorem k_D_init (l : Launch) (D : va_G) (A : Nat → Prop) (G : Nat → Nat) (w : hm_T) (n : hm_N) (a : Nat) (f0 f1 f2 f3 f4 f5 f6 : Value) (hn : w n = some (a, .inr (2, [f0, f1, f2, f3, f4, f5, f6]))) (mo fr to : Int32) (lo hi : Int64) : Met l y_D_init (.code y_D_init c_D_init 8 (none : Option FieldType) :: wsA) { frames := 1, cells := 0, slots := 0, locals := 20 } (va_Pc [.ref a, .int mo, .int fr, .int to, .long lo, .long hi] (ctU D A G w)) (hm_Q D cls A (fun v w1 => v = none ∧ w1 = hm_up w n (a, .inr (2, [.int mo, .int fr, .int to, .long lo, .long hi, .int 0, .long 0])))) 0 0 A := by
  refine ct_met (by decide) (Nat.le_of_ble_eq_true rfl) ?_
  rintro p e s m below meth c ls X hr hlocks hnm hl ⟨hB, hK⟩
  have hl : lv_has ls 8 [(0, .ref a), (1, .int mo), (2, .int fr), (3, .int to), (4, .long lo), (6, .long hi)] := hl
  have hY : hm_Y D cls A s.heap w s.heap [] := hm_Y.start hB hK.2.2.2
  refine lv_aload_n X.1 X.2.1 d_D_init_0 rfl (lv_at hl 0 rfl) ?_
  refine W.objInit X.1 X.2.1 X.2.2.2.1 (X.2.2.2.2 _ m_161) (X.2.2.2.2 _ m_25) (X.2.2.2.2 _ m_26) rfl (hl.1.trans X.2.2.1.symm) rfl d_D_init_1 (Nat.le_of_ble_eq_true rfl) (Nat.le_of_ble_eq_true rfl) ?_
  refine W.eq (g2 := F0 m 4 ls []) rfl ?_
  refine lv_aload_n X.1 X.2.1 d_D_init_4 rfl (lv_at hl 0 rfl) ?_
  refine lv_iload_n X.1 X.2.1 d_D_init_5 rfl (lv_at hl 1 rfl) ?_
  refine hm_putF ⟨X, hK.1⟩ hY hn 0 rfl (Nat.le_of_ble_eq_true rfl) (Nat.le_of_ble_eq_true rfl) hu_D ty_D ty_D_ok nm_D m_162 (fun _ h => h) rfl hnm rfl rfl rfl d_D_init_6 (fun H locs hY => ?_)
  have hY : hm_Y D cls A s.heap (hm_up w n (a, .inr (2, [.int mo, f1, f2, f3, f4, f5, f6]))) H locs := by exact hY
  refine lv_aload_n X.1 X.2.1 d_D_init_9 rfl (lv_at hl 0 rfl) ?_
  refine lv_iload_n X.1 X.2.1 d_D_init_10 rfl (lv_at hl 2 rfl) ?_
  refine hm_putF ⟨X, hK.1⟩ hY (hm_up_s _ _ _) 1 rfl (Nat.le_of_ble_eq_true rfl) (Nat.le_of_ble_eq_true rfl) hu_D ty_D ty_D_ok nm_D m_164 (fun _ h => h) rfl hnm rfl rfl rfl d_D_init_11 (fun H locs hY => ?_)
  have hY : hm_Y D cls A s.heap (hm_up w n (a, .inr (2, [.int mo, .int fr, f2, f3, f4, f5, f6]))) H locs := by rw [hm_uu] at hY; exact hY
  refine lv_aload_n X.1 X.2.1 d_D_init_14 rfl (lv_at hl 0 rfl) ?_
  refine lv_iload_n X.1 X.2.1 d_D_init_15 rfl (lv_at hl 3 rfl) ?_
  refine hm_putF ⟨X, hK.1⟩ hY (hm_up_s _ _ _) 2 rfl (Nat.le_of_ble_eq_true rfl) (Nat.le_of_ble_eq_true rfl) hu_D ty_D ty_D_ok nm_D m_166 (fun _ h => h) rfl hnm rfl rfl rfl d_D_init_16 (fun H locs hY => ?_)
  have hY : hm_Y D cls A s.heap (hm_up w n (a, .inr (2, [.int mo, .int fr, .int to, f3, f4, f5, f6]))) H locs := by rw [hm_uu] at hY; exact hY
  refine lv_aload_n X.1 X.2.1 d_D_init_19 rfl (lv_at hl 0 rfl) ?_
  refine lv_lload X.1 X.2.1 d_D_init_20 (lv_at hl 4 rfl) ?_
  refine hm_putF ⟨X, hK.1⟩ hY (hm_up_s _ _ _) 3 rfl (Nat.le_of_ble_eq_true rfl) (Nat.le_of_ble_eq_true rfl) hu_D ty_D ty_D_ok nm_D m_168 (fun _ h => h) rfl hnm rfl rfl rfl d_D_init_22 (fun H locs hY => ?_)
  have hY : hm_Y D cls A s.heap (hm_up w n (a, .inr (2, [.int mo, .int fr, .int to, .long lo, f4, f5, f6]))) H locs := by rw [hm_uu] at hY; exact hY
  refine lv_aload_n X.1 X.2.1 d_D_init_25 rfl (lv_at hl 0 rfl) ?_
  refine lv_lload X.1 X.2.1 d_D_init_26 (lv_at hl 5 rfl) ?_
  refine hm_putF ⟨X, hK.1⟩ hY (hm_up_s _ _ _) 4 rfl (Nat.le_of_ble_eq_true rfl) (Nat.le_of_ble_eq_true rfl) hu_D ty_D ty_D_ok nm_D m_170 (fun _ h => h) rfl hnm rfl rfl rfl d_D_init_28 (fun H locs hY => ?_)
  have hY : hm_Y D cls A s.heap (hm_up w n (a, .inr (2, [.int mo, .int fr, .int to, .long lo, .long hi, f5, f6]))) H locs := by rw [hm_uu] at hY; exact hY
  refine lv_aload_n X.1 X.2.1 d_D_init_31 rfl (lv_at hl 0 rfl) ?_
  refine lv_iconst (v := 0) X.1 X.2.1 d_D_init_32 (by decide) ?_
  refine hm_put ⟨X, hK.1⟩ hY (hm_up_s _ _ _) 5 rfl (Nat.le_of_ble_eq_true rfl) (Nat.le_of_ble_eq_true rfl) hu_D ty_D ty_D_ok nm_D m_172 (fun _ h => h) rfl rfl rfl d_D_init_33 (fun H locs hY => ?_)
  have hY : hm_Y D cls A s.heap (hm_up w n (a, .inr (2, [.int mo, .int fr, .int to, .long lo, .long hi, .int 0, f6]))) H locs := by rw [hm_uu] at hY; exact hY
  refine lv_aload_n X.1 X.2.1 d_D_init_36 rfl (lv_at hl 0 rfl) ?_
  refine lv_lconst (v := 0) X.1 X.2.1 d_D_init_37 (by decide) ?_
  refine hm_put ⟨X, hK.1⟩ hY (hm_up_s _ _ _) 6 rfl (Nat.le_of_ble_eq_true rfl) (Nat.le_of_ble_eq_true rfl) hu_D ty_D ty_D_ok nm_D m_174 (fun _ h => h) rfl rfl rfl d_D_init_38 (fun H locs hY => ?_)
  have hY : hm_Y D cls A s.heap (hm_up w n (a, .inr (2, [.int mo, .int fr, .int to, .long lo, .long hi, .int 0, .long 0]))) H locs := by rw [hm_uu] at hY; exact hY
  exact en_vW X hY hr hlocks d_D_init_41 (⟨rfl, rfl⟩)

set_option maxHeartbeats 4000000 in
set_option maxRecDepth 100000 in
theorem k_P_init (l : Launch) (D : va_G) (A : Nat → Prop) (G : Nat → Nat) (w : hm_T) (n n5 n6 : hm_N) (a : Nat) (f0 f1 f2 f3 f4 f5 f6 f7 f8 f9 f10 : Value) (hn : w n = some (a, .inr (1, [f0, f1, f2, f3, f4, f5, f6, f7, f8, f9, f10]))) (h5 : n ≠ n5) (h6 : n ≠ n6) (le mx : Int32) (sp : Int64) : Met l y_P_init (.code y_P_init c_P_init 5 (none : Option FieldType) :: wsA) { frames := 4, cells := 2, slots := 127, locals := 80 } (va_Pc [.ref a, .int le, .int mx, .long sp] (ctU D A G w)) (hm_Q D cls A (fun v w1 => ∃ ae al, v = none ∧ w1 = hm_up (hm_up (hm_up w n5 (ae, .inl (G 1, 124, .inl (fun _ => 0)))) n6 (al, .inr (4, [.ref (G 0), .int 0, .int 0]))) n (a, .inr (1, [.int le, .int mx, .long sp, .ref ae, .ref al, .int 0, .int 0, .int 0, .int 0, .int 0, .int 0])))) 2 127 A := by
  refine ct_met (by decide) (Nat.le_of_ble_eq_true rfl) ?_
  rintro p e s m below meth c ls X hr hlocks hnm hl ⟨hB, hK⟩
  have hl : lv_has ls 5 [(0, .ref a), (1, .int le), (2, .int mx), (3, .long sp)] := hl
  have hY : hm_Y D cls A s.heap w s.heap [] := hm_Y.start hB hK.2.2.2
  refine lv_aload_n X.1 X.2.1 d_P_init_0 rfl (lv_at hl 0 rfl) ?_
  refine W.objInit X.1 X.2.1 X.2.2.2.1 (X.2.2.2.2 _ m_440) (X.2.2.2.2 _ m_25) (X.2.2.2.2 _ m_26) rfl (hl.1.trans X.2.2.1.symm) rfl d_P_init_1 (Nat.le_of_ble_eq_true rfl) (Nat.le_of_ble_eq_true rfl) ?_
  refine W.eq (g2 := F0 m 4 ls []) rfl ?_
  refine lv_aload_n X.1 X.2.1 d_P_init_4 rfl (lv_at hl 0 rfl) ?_
  refine lv_iload_n X.1 X.2.1 d_P_init_5 rfl (lv_at hl 1 rfl) ?_
  refine hm_putF ⟨X, hK.1⟩ hY hn 0 rfl (Nat.le_of_ble_eq_true rfl) (Nat.le_of_ble_eq_true rfl) hu_P ty_P ty_P_ok nm_P m_443 (fun _ h => h) rfl hnm rfl rfl rfl d_P_init_6 (fun H locs hY => ?_)
  have hY : hm_Y D cls A s.heap (hm_up w n (a, .inr (1, [.int le, f1, f2, f3, f4, f5, f6, f7, f8, f9, f10]))) H locs := by exact hY
  refine lv_aload_n X.1 X.2.1 d_P_init_9 rfl (lv_at hl 0 rfl) ?_
  refine lv_iload_n X.1 X.2.1 d_P_init_10 rfl (lv_at hl 2 rfl) ?_
  refine hm_putF ⟨X, hK.1⟩ hY (hm_up_s _ _ _) 1 rfl (Nat.le_of_ble_eq_true rfl) (Nat.le_of_ble_eq_true rfl) hu_P ty_P ty_P_ok nm_P m_444 (fun _ h => h) rfl hnm rfl rfl rfl d_P_init_11 (fun H locs hY => ?_)
  have hY : hm_Y D cls A s.heap (hm_up w n (a, .inr (1, [.int le, .int mx, f2, f3, f4, f5, f6, f7, f8, f9, f10]))) H locs := by rw [hm_uu] at hY; exact hY
  refine lv_aload_n X.1 X.2.1 d_P_init_14 rfl (lv_at hl 0 rfl) ?_
  refine lv_lload_n X.1 X.2.1 d_P_init_15 rfl (lv_at hl 3 rfl) ?_
  refine hm_putF ⟨X, hK.1⟩ hY (hm_up_s _ _ _) 2 rfl (Nat.le_of_ble_eq_true rfl) (Nat.le_of_ble_eq_true rfl) hu_P ty_P ty_P_ok nm_P m_445 (fun _ h => h) rfl hnm rfl rfl rfl d_P_init_16 (fun H locs hY => ?_)
  have hY : hm_Y D cls A s.heap (hm_up w n (a, .inr (1, [.int le, .int mx, .long sp, f3, f4, f5, f6, f7, f8, f9, f10]))) H locs := by rw [hm_uu] at hY; exact hY
  refine lv_aload_n X.1 X.2.1 d_P_init_19 rfl (lv_at hl 0 rfl) ?_
  refine lv_bipush (v := 124) X.1 X.2.1 d_P_init_20 (by decide) ?_
  refine hm_newa (atype := .int) ⟨X, hK.1⟩ hY n5 m_480 rfl (ct_cI hK) (N := 124) (a0 := (124, .inl (fun _ => 0))) rfl (by decide) (by decide) (by decide) (Nat.le_of_ble_eq_true rfl) (Nat.le_of_ble_eq_true rfl) d_P_init_22 (fun ae H hY => ?_)
  have hY : hm_Y D cls A s.heap (hm_up (hm_up w n5 (ae, .inl (G 1, 124, .inl (fun _ => 0)))) n (a, .inr (1, [.int le, .int mx, .long sp, f3, f4, f5, f6, f7, f8, f9, f10]))) H locs := by rw [hm_uc _ _ _ h5] at hY; exact hY
  refine hm_putF ⟨X, hK.1⟩ hY (hm_up_s _ _ _) 3 rfl (Nat.le_of_ble_eq_true rfl) (Nat.le_of_ble_eq_true rfl) hu_P ty_P ty_P_ok nm_P m_446 (fun _ h => h) rfl hnm rfl rfl rfl d_P_init_24 (fun H locs hY => ?_)
  have hY : hm_Y D cls A s.heap (hm_up (hm_up w n5 (ae, .inl (G 1, 124, .inl (fun _ => 0)))) n (a, .inr (1, [.int le, .int mx, .long sp, .ref ae, f4, f5, f6, f7, f8, f9, f10]))) H locs := by rw [hm_uu] at hY; exact hY
  refine lv_aload_n X.1 X.2.1 d_P_init_27 rfl (lv_at hl 0 rfl) ?_
  refine hm_new ⟨X, hK.1⟩ hY n6 [.null, .int 0, .int 0] (ci := 4) rfl hu_A ty_A ty_A_ok m_441 m_28 m_4 (fun j hj => by rcases (show j = 0 ∨ j = 1 ∨ j = 2 by omega) with rfl | rfl | rfl <;> rfl) (Nat.le_of_ble_eq_true rfl) (Nat.le_of_ble_eq_true rfl) d_P_init_28 (fun al H hY => ?_)
  have hY : hm_Y D cls A s.heap (hm_up (hm_up (hm_up w n5 (ae, .inl (G 1, 124, .inl (fun _ => 0)))) n6 (al, .inr (4, [.null, .int 0, .int 0]))) n (a, .inr (1, [.int le, .int mx, .long sp, .ref ae, f4, f5, f6, f7, f8, f9, f10]))) H locs := by rw [hm_uc _ _ _ h6] at hY; exact hY
  refine lv_dup X.1 X.2.1 d_P_init_31 rfl ?_
  refine hm_call (ct_runI (n := 0) X hK hY (k_A_init l D A G (hm_up (hm_up (hm_up w n5 (ae, .inl (G 1, 124, .inl (fun _ => 0)))) n6 (al, .inr (4, [.null, .int 0, .int 0]))) n (a, .inr (1, [.int le, .int mx, .long sp, .ref ae, f4, f5, f6, f7, f8, f9, f10]))) n6 al .null (.int 0) (.int 0) ((hm_up_n _ _ (Ne.symm h6)).trans (hm_up_s _ _ _))) m_31 m_442 m_30 m_4 rfl (by decide +kernel) ⟨Nat.le_of_ble_eq_true rfl, Nat.le_of_ble_eq_true rfl⟩ ⟨rfl, rfl⟩ rfl hl.1 rfl (Nat.le_of_ble_eq_true rfl) d_P_init_32 ⟨Nat.le_of_ble_eq_true rfl, Nat.le_of_ble_eq_true rfl⟩) hY (fun v w1 H locs hp hY => ?_)
  obtain ⟨rfl, rfl⟩ := hp
  have hY : hm_Y D cls A s.heap (hm_up (hm_up (hm_up w n5 (ae, .inl (G 1, 124, .inl (fun _ => 0)))) n6 (al, .inr (4, [.ref (G 0), .int 0, .int 0]))) n (a, .inr (1, [.int le, .int mx, .long sp, .ref ae, f4, f5, f6, f7, f8, f9, f10]))) H locs := by rw [hm_uc _ _ _ h6, hm_uu] at hY; exact hY
  refine W.eq (g2 := F0 m 35 ls [.ref al, .ref a]) rfl ?_
  refine hm_putF ⟨X, hK.1⟩ hY (hm_up_s _ _ _) 4 rfl (Nat.le_of_ble_eq_true rfl) (Nat.le_of_ble_eq_true rfl) hu_P ty_P ty_P_ok nm_P m_447 (fun _ h => h) rfl hnm rfl rfl rfl d_P_init_35 (fun H locs hY => ?_)
  have hY : hm_Y D cls A s.heap (hm_up (hm_up (hm_up w n5 (ae, .inl (G 1, 124, .inl (fun _ => 0)))) n6 (al, .inr (4, [.ref (G 0), .int 0, .int 0]))) n (a, .inr (1, [.int le, .int mx, .long sp, .ref ae, .ref al, f5, f6, f7, f8, f9, f10]))) H locs := by rw [hm_uu] at hY; exact hY
  refine lv_aload_n X.1 X.2.1 d_P_init_38 rfl (lv_at hl 0 rfl) ?_
  refine lv_iconst (v := 0) X.1 X.2.1 d_P_init_39 (by decide) ?_
  refine hm_put ⟨X, hK.1⟩ hY (hm_up_s _ _ _) 5 rfl (Nat.le_of_ble_eq_true rfl) (Nat.le_of_ble_eq_true rfl) hu_P ty_P ty_P_ok nm_P m_449 (fun _ h => h) rfl rfl rfl d_P_init_40 (fun H locs hY => ?_)
  have hY : hm_Y D cls A s.heap (hm_up (hm_up (hm_up w n5 (ae, .inl (G 1, 124, .inl (fun _ => 0)))) n6 (al, .inr (4, [.ref (G 0), .int 0, .int 0]))) n (a, .inr (1, [.int le, .int mx, .long sp, .ref ae, .ref al, .int 0, f6, f7, f8, f9, f10]))) H locs := by rw [hm_uu] at hY; exact hY
  refine lv_aload_n X.1 X.2.1 d_P_init_43 rfl (lv_at hl 0 rfl) ?_
  refine lv_iconst (v := 0) X.1 X.2.1 d_P_init_44 (by decide) ?_
  refine hm_put ⟨X, hK.1⟩ hY (hm_up_s _ _ _) 6 rfl (Nat.le_of_ble_eq_true rfl) (Nat.le_of_ble_eq_true rfl) hu_P ty_P ty_P_ok nm_P m_451 (fun _ h => h) rfl rfl rfl d_P_init_45 (fun H locs hY => ?_)
  have hY : hm_Y D cls A s.heap (hm_up (hm_up (hm_up w n5 (ae, .inl (G 1, 124, .inl (fun _ => 0)))) n6 (al, .inr (4, [.ref (G 0), .int 0, .int 0]))) n (a, .inr (1, [.int le, .int mx, .long sp, .ref ae, .ref al, .int 0, .int 0, f7, f8, f9, f10]))) H locs := by rw [hm_uu] at hY; exact hY
  refine lv_aload_n X.1 X.2.1 d_P_init_48 rfl (lv_at hl 0 rfl) ?_
  refine lv_iconst (v := 0) X.1 X.2.1 d_P_init_49 (by decide) ?_
  refine hm_put ⟨X, hK.1⟩ hY (hm_up_s _ _ _) 7 rfl (Nat.le_of_ble_eq_true rfl) (Nat.le_of_ble_eq_true rfl) hu_P ty_P ty_P_ok nm_P m_453 (fun _ h => h) rfl rfl rfl d_P_init_50 (fun H locs hY => ?_)
  have hY : hm_Y D cls A s.heap (hm_up (hm_up (hm_up w n5 (ae, .inl (G 1, 124, .inl (fun _ => 0)))) n6 (al, .inr (4, [.ref (G 0), .int 0, .int 0]))) n (a, .inr (1, [.int le, .int mx, .long sp, .ref ae, .ref al, .int 0, .int 0, .int 0, f8, f9, f10]))) H locs := by rw [hm_uu] at hY; exact hY
  refine lv_aload_n X.1 X.2.1 d_P_init_53 rfl (lv_at hl 0 rfl) ?_
  refine lv_iconst (v := 0) X.1 X.2.1 d_P_init_54 (by decide) ?_
  refine hm_put ⟨X, hK.1⟩ hY (hm_up_s _ _ _) 8 rfl (Nat.le_of_ble_eq_true rfl) (Nat.le_of_ble_eq_true rfl) hu_P ty_P ty_P_ok nm_P m_454 (fun _ h => h) rfl rfl rfl d_P_init_55 (fun H locs hY => ?_)
  have hY : hm_Y D cls A s.heap (hm_up (hm_up (hm_up w n5 (ae, .inl (G 1, 124, .inl (fun _ => 0)))) n6 (al, .inr (4, [.ref (G 0), .int 0, .int 0]))) n (a, .inr (1, [.int le, .int mx, .long sp, .ref ae, .ref al, .int 0, .int 0, .int 0, .int 0, f9, f10]))) H locs := by rw [hm_uu] at hY; exact hY
  refine lv_aload_n X.1 X.2.1 d_P_init_58 rfl (lv_at hl 0 rfl) ?_
  refine lv_iconst (v := 0) X.1 X.2.1 d_P_init_59 (by decide) ?_
  refine hm_put ⟨X, hK.1⟩ hY (hm_up_s _ _ _) 9 rfl (Nat.le_of_ble_eq_true rfl) (Nat.le_of_ble_eq_true rfl) hu_P ty_P ty_P_ok nm_P m_455 (fun _ h => h) rfl rfl rfl d_P_init_60 (fun H locs hY => ?_)
  have hY : hm_Y D cls A s.heap (hm_up (hm_up (hm_up w n5 (ae, .inl (G 1, 124, .inl (fun _ => 0)))) n6 (al, .inr (4, [.ref (G 0), .int 0, .int 0]))) n (a, .inr (1, [.int le, .int mx, .long sp, .ref ae, .ref al, .int 0, .int 0, .int 0, .int 0, .int 0, f10]))) H locs := by rw [hm_uu] at hY; exact hY
  refine lv_aload_n X.1 X.2.1 d_P_init_63 rfl (lv_at hl 0 rfl) ?_
  refine lv_iconst (v := 0) X.1 X.2.1 d_P_init_64 (by decide) ?_
  refine hm_put ⟨X, hK.1⟩ hY (hm_up_s _ _ _) 10 rfl (Nat.le_of_ble_eq_true rfl) (Nat.le_of_ble_eq_true rfl) hu_P ty_P ty_P_ok nm_P m_456 (fun _ h => h) rfl rfl rfl d_P_init_65 (fun H locs hY => ?_)
  have hY : hm_Y D cls A s.heap (hm_up (hm_up (hm_up w n5 (ae, .inl (G 1, 124, .inl (fun _ => 0)))) n6 (al, .inr (4, [.ref (G 0), .int 0, .int 0]))) n (a, .inr (1, [.int le, .int mx, .long sp, .ref ae, .ref al, .int 0, .int 0, .int 0, .int 0, .int 0, .int 0]))) H locs := by rw [hm_uu] at hY; exact hY
  exact en_vW X hY hr hlocks d_P_init_68 (⟨ae, al, rfl, rfl⟩)

set_option maxHeartbeats 4000000 in
set_option maxRecDepth 100000 in
theorem k_W_init (l : Launch) (D : va_G) (A : Nat → Prop) (G : Nat → Nat) (w : hm_T) (n n1 n3 : hm_N) (a : Nat) (f0 f1 f2 f3 f4 f5 f6 f7 f8 f9 : Value) (hn : w n = some (a, .inr (0, [f0, f1, f2, f3, f4, f5, f6, f7, f8, f9]))) (h1 : n ≠ n1) (h3 : n ≠ n3) : Met l y_W_init (.code y_W_init c_W_init 1 (none : Option FieldType) :: wsA) { frames := 4, cells := 2, slots := 7, locals := 80 } (va_Pc [.ref a] (ctU D A G w)) (hm_Q D cls A (fun v w1 => ∃ al aq, v = none ∧ w1 = hm_up (hm_up (hm_up w n1 (al, .inr (4, [.ref (G 0), .int 0, .int 0]))) n3 (aq, .inr (3, [.int 0, .int 0, .int 0, .long 0]))) n (a, .inr (0, [.ref al, .ref aq, .int 0, .int 0, .long 0, .long 0, .int 0, .int 0, .int 0, .int 0])))) 2 7 A := by
  refine ct_met (by decide) (Nat.le_of_ble_eq_true rfl) ?_
  rintro p e s m below meth c ls X hr hlocks hnm hl ⟨hB, hK⟩
  have hl : lv_has ls 1 [(0, .ref a)] := hl
  have hY : hm_Y D cls A s.heap w s.heap [] := hm_Y.start hB hK.2.2.2
  refine lv_aload_n X.1 X.2.1 d_W_init_0 rfl (lv_at hl 0 rfl) ?_
  refine W.objInit X.1 X.2.1 X.2.2.2.1 (X.2.2.2.2 _ m_24) (X.2.2.2.2 _ m_25) (X.2.2.2.2 _ m_26) rfl (hl.1.trans X.2.2.1.symm) rfl d_W_init_1 (Nat.le_of_ble_eq_true rfl) (Nat.le_of_ble_eq_true rfl) ?_
  refine W.eq (g2 := F0 m 4 ls []) rfl ?_
  refine lv_aload_n X.1 X.2.1 d_W_init_4 rfl (lv_at hl 0 rfl) ?_
  refine hm_new ⟨X, hK.1⟩ hY n1 [.null, .int 0, .int 0] (ci := 4) rfl hu_A ty_A ty_A_ok m_27 m_28 m_4 (fun j hj => by rcases (show j = 0 ∨ j = 1 ∨ j = 2 by omega) with rfl | rfl | rfl <;> rfl) (Nat.le_of_ble_eq_true rfl) (Nat.le_of_ble_eq_true rfl) d_W_init_5 (fun al H hY => ?_)
  refine lv_dup X.1 X.2.1 d_W_init_8 rfl ?_
  refine hm_call (ct_runI (n := 0) X hK hY (k_A_init l D A G (hm_up w n1 (al, .inr (4, [.null, .int 0, .int 0]))) n1 al .null (.int 0) (.int 0) (hm_up_s _ _ _)) m_31 m_29 m_30 m_4 rfl (by decide +kernel) ⟨Nat.le_of_ble_eq_true rfl, Nat.le_of_ble_eq_true rfl⟩ ⟨rfl, rfl⟩ rfl hl.1 rfl (Nat.le_of_ble_eq_true rfl) d_W_init_9 ⟨Nat.le_of_ble_eq_true rfl, Nat.le_of_ble_eq_true rfl⟩) hY (fun v w1 H locs hp hY => ?_)
  obtain ⟨rfl, rfl⟩ := hp
  have hY : hm_Y D cls A s.heap (hm_up w n1 (al, .inr (4, [.ref (G 0), .int 0, .int 0]))) H locs := by rw [hm_uu] at hY; exact hY
  refine W.eq (g2 := F0 m 12 ls [.ref al, .ref a]) rfl ?_
  refine hm_putF ⟨X, hK.1⟩ hY ((hm_up_n _ _ h1).trans hn) 0 rfl (Nat.le_of_ble_eq_true rfl) (Nat.le_of_ble_eq_true rfl) hu_W ty_W ty_W_ok nm_W m_74 (fun _ h => h) rfl hnm rfl rfl rfl d_W_init_12 (fun H locs hY => ?_)
  have hY : hm_Y D cls A s.heap (hm_up (hm_up w n1 (al, .inr (4, [.ref (G 0), .int 0, .int 0]))) n (a, .inr (0, [.ref al, f1, f2, f3, f4, f5, f6, f7, f8, f9]))) H locs := by exact hY
  refine lv_aload_n X.1 X.2.1 d_W_init_15 rfl (lv_at hl 0 rfl) ?_
  refine hm_new ⟨X, hK.1⟩ hY n3 [.int 0, .int 0, .int 0, .long 0] (ci := 3) rfl hu_Q ty_Q ty_Q_ok m_53 m_54 m_5 (fun j hj => by rcases (show j = 0 ∨ j = 1 ∨ j = 2 ∨ j = 3 by omega) with rfl | rfl | rfl | rfl <;> rfl) (Nat.le_of_ble_eq_true rfl) (Nat.le_of_ble_eq_true rfl) d_W_init_16 (fun aq H hY => ?_)
  have hY : hm_Y D cls A s.heap (hm_up (hm_up (hm_up w n1 (al, .inr (4, [.ref (G 0), .int 0, .int 0]))) n3 (aq, .inr (3, [.int 0, .int 0, .int 0, .long 0]))) n (a, .inr (0, [.ref al, f1, f2, f3, f4, f5, f6, f7, f8, f9]))) H locs := by rw [hm_uc _ _ _ h3] at hY; exact hY
  refine lv_dup X.1 X.2.1 d_W_init_19 rfl ?_
  refine hm_call (ct_runI (n := 0) X hK hY (k_Q_init l D A G (hm_up (hm_up (hm_up w n1 (al, .inr (4, [.ref (G 0), .int 0, .int 0]))) n3 (aq, .inr (3, [.int 0, .int 0, .int 0, .long 0]))) n (a, .inr (0, [.ref al, f1, f2, f3, f4, f5, f6, f7, f8, f9]))) n3 aq (.int 0) (.int 0) (.int 0) (.long 0) ((hm_up_n _ _ (Ne.symm h3)).trans (hm_up_s _ _ _))) m_57 m_55 m_56 m_5 rfl (by decide +kernel) ⟨Nat.le_of_ble_eq_true rfl, Nat.le_of_ble_eq_true rfl⟩ ⟨rfl, rfl⟩ rfl hl.1 rfl (Nat.le_of_ble_eq_true rfl) d_W_init_20 ⟨Nat.le_of_ble_eq_true rfl, Nat.le_of_ble_eq_true rfl⟩) hY (fun v w1 H locs hp hY => ?_)
  obtain ⟨rfl, rfl⟩ := hp
  have hY : hm_Y D cls A s.heap (hm_up (hm_up (hm_up w n1 (al, .inr (4, [.ref (G 0), .int 0, .int 0]))) n3 (aq, .inr (3, [.int 0, .int 0, .int 0, .long 0]))) n (a, .inr (0, [.ref al, f1, f2, f3, f4, f5, f6, f7, f8, f9]))) H locs := by rw [hm_uc _ _ _ h3, hm_uu] at hY; exact hY
  refine W.eq (g2 := F0 m 23 ls [.ref aq, .ref a]) rfl ?_
  refine hm_putF ⟨X, hK.1⟩ hY (hm_up_s _ _ _) 1 rfl (Nat.le_of_ble_eq_true rfl) (Nat.le_of_ble_eq_true rfl) hu_W ty_W ty_W_ok nm_W m_75 (fun _ h => h) rfl hnm rfl rfl rfl d_W_init_23 (fun H locs hY => ?_)
  have hY : hm_Y D cls A s.heap (hm_up (hm_up (hm_up w n1 (al, .inr (4, [.ref (G 0), .int 0, .int 0]))) n3 (aq, .inr (3, [.int 0, .int 0, .int 0, .long 0]))) n (a, .inr (0, [.ref al, .ref aq, f2, f3, f4, f5, f6, f7, f8, f9]))) H locs := by rw [hm_uu] at hY; exact hY
  refine lv_aload_n X.1 X.2.1 d_W_init_26 rfl (lv_at hl 0 rfl) ?_
  refine lv_iconst (v := 0) X.1 X.2.1 d_W_init_27 (by decide) ?_
  refine hm_put ⟨X, hK.1⟩ hY (hm_up_s _ _ _) 2 rfl (Nat.le_of_ble_eq_true rfl) (Nat.le_of_ble_eq_true rfl) hu_W ty_W ty_W_ok nm_W m_76 (fun _ h => h) rfl rfl rfl d_W_init_28 (fun H locs hY => ?_)
  have hY : hm_Y D cls A s.heap (hm_up (hm_up (hm_up w n1 (al, .inr (4, [.ref (G 0), .int 0, .int 0]))) n3 (aq, .inr (3, [.int 0, .int 0, .int 0, .long 0]))) n (a, .inr (0, [.ref al, .ref aq, .int 0, f3, f4, f5, f6, f7, f8, f9]))) H locs := by rw [hm_uu] at hY; exact hY
  refine lv_aload_n X.1 X.2.1 d_W_init_31 rfl (lv_at hl 0 rfl) ?_
  refine lv_iconst (v := 0) X.1 X.2.1 d_W_init_32 (by decide) ?_
  refine hm_put ⟨X, hK.1⟩ hY (hm_up_s _ _ _) 3 rfl (Nat.le_of_ble_eq_true rfl) (Nat.le_of_ble_eq_true rfl) hu_W ty_W ty_W_ok nm_W m_77 (fun _ h => h) rfl rfl rfl d_W_init_33 (fun H locs hY => ?_)
  have hY : hm_Y D cls A s.heap (hm_up (hm_up (hm_up w n1 (al, .inr (4, [.ref (G 0), .int 0, .int 0]))) n3 (aq, .inr (3, [.int 0, .int 0, .int 0, .long 0]))) n (a, .inr (0, [.ref al, .ref aq, .int 0, .int 0, f4, f5, f6, f7, f8, f9]))) H locs := by rw [hm_uu] at hY; exact hY
  refine lv_aload_n X.1 X.2.1 d_W_init_36 rfl (lv_at hl 0 rfl) ?_
  refine lv_lconst (v := 0) X.1 X.2.1 d_W_init_37 (by decide) ?_
  refine hm_put ⟨X, hK.1⟩ hY (hm_up_s _ _ _) 4 rfl (Nat.le_of_ble_eq_true rfl) (Nat.le_of_ble_eq_true rfl) hu_W ty_W ty_W_ok nm_W m_78 (fun _ h => h) rfl rfl rfl d_W_init_38 (fun H locs hY => ?_)
  have hY : hm_Y D cls A s.heap (hm_up (hm_up (hm_up w n1 (al, .inr (4, [.ref (G 0), .int 0, .int 0]))) n3 (aq, .inr (3, [.int 0, .int 0, .int 0, .long 0]))) n (a, .inr (0, [.ref al, .ref aq, .int 0, .int 0, .long 0, f5, f6, f7, f8, f9]))) H locs := by rw [hm_uu] at hY; exact hY
  refine lv_aload_n X.1 X.2.1 d_W_init_41 rfl (lv_at hl 0 rfl) ?_
  refine lv_lconst (v := 0) X.1 X.2.1 d_W_init_42 (by decide) ?_
  refine hm_put ⟨X, hK.1⟩ hY (hm_up_s _ _ _) 5 rfl (Nat.le_of_ble_eq_true rfl) (Nat.le_of_ble_eq_true rfl) hu_W ty_W ty_W_ok nm_W m_79 (fun _ h => h) rfl rfl rfl d_W_init_43 (fun H locs hY => ?_)
  have hY : hm_Y D cls A s.heap (hm_up (hm_up (hm_up w n1 (al, .inr (4, [.ref (G 0), .int 0, .int 0]))) n3 (aq, .inr (3, [.int 0, .int 0, .int 0, .long 0]))) n (a, .inr (0, [.ref al, .ref aq, .int 0, .int 0, .long 0, .long 0, f6, f7, f8, f9]))) H locs := by rw [hm_uu] at hY; exact hY
  refine lv_aload_n X.1 X.2.1 d_W_init_46 rfl (lv_at hl 0 rfl) ?_
  refine lv_iconst (v := 0) X.1 X.2.1 d_W_init_47 (by decide) ?_
  refine hm_put ⟨X, hK.1⟩ hY (hm_up_s _ _ _) 6 rfl (Nat.le_of_ble_eq_true rfl) (Nat.le_of_ble_eq_true rfl) hu_W ty_W ty_W_ok nm_W m_80 (fun _ h => h) rfl rfl rfl d_W_init_48 (fun H locs hY => ?_)
  have hY : hm_Y D cls A s.heap (hm_up (hm_up (hm_up w n1 (al, .inr (4, [.ref (G 0), .int 0, .int 0]))) n3 (aq, .inr (3, [.int 0, .int 0, .int 0, .long 0]))) n (a, .inr (0, [.ref al, .ref aq, .int 0, .int 0, .long 0, .long 0, .int 0, f7, f8, f9]))) H locs := by rw [hm_uu] at hY; exact hY
  refine lv_aload_n X.1 X.2.1 d_W_init_51 rfl (lv_at hl 0 rfl) ?_
  refine lv_iconst (v := 0) X.1 X.2.1 d_W_init_52 (by decide) ?_
  refine hm_put ⟨X, hK.1⟩ hY (hm_up_s _ _ _) 7 rfl (Nat.le_of_ble_eq_true rfl) (Nat.le_of_ble_eq_true rfl) hu_W ty_W ty_W_ok nm_W m_81 (fun _ h => h) rfl rfl rfl d_W_init_53 (fun H locs hY => ?_)
  have hY : hm_Y D cls A s.heap (hm_up (hm_up (hm_up w n1 (al, .inr (4, [.ref (G 0), .int 0, .int 0]))) n3 (aq, .inr (3, [.int 0, .int 0, .int 0, .long 0]))) n (a, .inr (0, [.ref al, .ref aq, .int 0, .int 0, .long 0, .long 0, .int 0, .int 0, f8, f9]))) H locs := by rw [hm_uu] at hY; exact hY
  refine lv_aload_n X.1 X.2.1 d_W_init_56 rfl (lv_at hl 0 rfl) ?_
  refine lv_iconst (v := 0) X.1 X.2.1 d_W_init_57 (by decide) ?_
  refine hm_put ⟨X, hK.1⟩ hY (hm_up_s _ _ _) 8 rfl (Nat.le_of_ble_eq_true rfl) (Nat.le_of_ble_eq_true rfl) hu_W ty_W ty_W_ok nm_W m_82 (fun _ h => h) rfl rfl rfl d_W_init_58 (fun H locs hY => ?_)
  have hY : hm_Y D cls A s.heap (hm_up (hm_up (hm_up w n1 (al, .inr (4, [.ref (G 0), .int 0, .int 0]))) n3 (aq, .inr (3, [.int 0, .int 0, .int 0, .long 0]))) n (a, .inr (0, [.ref al, .ref aq, .int 0, .int 0, .long 0, .long 0, .int 0, .int 0, .int 0, f9]))) H locs := by rw [hm_uu] at hY; exact hY
  refine lv_aload_n X.1 X.2.1 d_W_init_61 rfl (lv_at hl 0 rfl) ?_
  refine lv_iconst (v := 0) X.1 X.2.1 d_W_init_62 (by decide) ?_
  refine hm_put ⟨X, hK.1⟩ hY (hm_up_s _ _ _) 9 rfl (Nat.le_of_ble_eq_true rfl) (Nat.le_of_ble_eq_true rfl) hu_W ty_W ty_W_ok nm_W m_83 (fun _ h => h) rfl rfl rfl d_W_init_63 (fun H locs hY => ?_)
  have hY : hm_Y D cls A s.heap (hm_up (hm_up (hm_up w n1 (al, .inr (4, [.ref (G 0), .int 0, .int 0]))) n3 (aq, .inr (3, [.int 0, .int 0, .int 0, .long 0]))) n (a, .inr (0, [.ref al, .ref aq, .int 0, .int 0, .long 0, .long 0, .int 0, .int 0, .int 0, .int 0]))) H locs := by rw [hm_uu] at hY; exact hY
  exact en_vW X hY hr hlocks d_W_init_66 (⟨al, aq, rfl, rfl⟩)
end
section
/-! A NEW DEADLINE -/
def newD (S : cS) (i q b : Nat) (mo fr to : Int32) (lo hi : Int64) : cS :=
  ((((((((((S.sA 8 i (S.C 1 i) q).sA 7 i 0 b).sI 20 i (S.C 1 i) mo).sI 21 i (S.C 1 i) fr).sI 22 i (S.C 1 i) to).sJ 20 i (S.C 1 i) lo).sJ 21 i (S.C 1 i) hi).sI 23 i (S.C 1 i) 0).sJ 22 i (S.C 1 i) 0).sI 19 i 0 (S.I 19 i 0 + 1)).sC 1 i (S.C 1 i + 1)
theorem up2_s {α : Type} (f : Nat → Nat → α) (k i : Nat) (v : α) : up2 f k i v k i = v := if_pos ⟨rfl, rfl⟩
theorem up2_i {α : Type} (f : Nat → Nat → α) {k i a b : Nat} (v : α) (h : b ≠ i) : up2 f k i v a b = f a b := if_neg (fun z => h z.2)
theorem wS_ext {G : Nat → Nat} {S S' : cS} {ω : hm_T} {n : hm_N} (hd : domS S'.C n ↔ domS S.C n) (ha : domS S.C n → S'.ad n.1 n.2.1 n.2.2 = S.ad n.1 n.2.1 n.2.2) (hc : domS S.C n → cellS G S' n = cellS G S n) : wS G S' ω n = wS G S ω n := by
  by_cases h : domS S.C n
  · rw [wS_in h, wS_in (hd.mpr h), ha h, hc h]
  · rw [wS_out h, wS_out (fun z => h (hd.mp z))]
theorem wS_big {G : Nat → Nat} {S : cS} {ω : hm_T} {n : hm_N} (h : 9 ≤ n.1) : wS G S ω n = ω n := by
  rw [wS_out (fun z => by have := domS_le z; omega), if_neg (by omega)]
theorem wD_eq {G : Nat → Nat} {S : cS} {ω : hm_T} {i q b : Nat} {mo fr to : Int32} {lo hi : Int64} {f : Nat → Option Nat} (hi0 : i < S.C 0 0) (hf : f = rfs (S.C 1 i + 1) (up3 S.ad 8 i (S.C 1 i) q 8 i)) :
    hm_up (hm_up (hm_up (wS G S ω) (8, i, S.C 1 i) (q, .inr (2, [.int mo, .int fr, .int to, .long lo, .long hi, .int 0, .long 0]))) (7, i, 0) (b, .inl (G 4, 10, .inr (.inr (.inr (.inr f)))))) (6, i, 0) (S.ad 6 i 0, .inr (4, [.ref b, .int (nI (S.C 1 i + 1)), .int (S.I 19 i 0 + 1)])) = wS G (newD S i q b mo fr to lo hi) ω := by
  have hC : (newD S i q b mo fr to lo hi).C = up2 S.C 1 i (S.C 1 i + 1) := rfl
  have hC0 : (newD S i q b mo fr to lo hi).C 0 0 = S.C 0 0 := rfl
  have hC1 : (newD S i q b mo fr to lo hi).C 1 i = S.C 1 i + 1 := up2_s _ _ _ _
  have hA7 : (newD S i q b mo fr to lo hi).ad 7 i 0 = b := up3_s _ _ _ _ _
  have hA8 : (newD S i q b mo fr to lo hi).ad 8 i = up3 S.ad 8 i (S.C 1 i) q 8 i := rfl
  have h19 : (newD S i q b mo fr to lo hi).I 19 i 0 = S.I 19 i 0 + 1 := up3_s _ _ _ _ _
  generalize hS' : newD S i q b mo fr to lo hi = S' at hC hC0 hC1 hA7 hA8 h19 ⊢
  funext n
  by_cases h6 : n = (6, i, 0)
  · subst h6
    rw [hm_up_s, w6 (S := S') (by rw [hC0]; exact hi0), hC1, hA7, h19, ← hS']
    simp [fA]
    rfl
  rw [hm_up_n _ _ h6]
  by_cases h7 : n = (7, i, 0)
  · subst h7
    rw [hm_up_s, w7 (S := S') (by rw [hC0]; exact hi0) (by rw [hC1]; omega), hC1, hA7, hA8, hf]
  rw [hm_up_n _ _ h7]
  by_cases h8 : n = (8, i, S.C 1 i)
  · subst h8
    rw [hm_up_s, w8 (S := S') (by rw [hC0]; exact hi0) (by rw [hC1]; omega), ← hS']
    simp [fD, newD, cS.sI, cS.sJ, cS.sA, cS.sC, cS.I, cS.J, cS.ad, up3]
  rw [hm_up_n _ _ h8]
  obtain ⟨x, y, z⟩ := n
  symm
  by_cases hx : 9 ≤ x
  · rw [wS_big (by exact hx), wS_big (by exact hx)]
  by_cases hy : y = i
  · subst hy
    refine wS_ext ?_ ?_ ?_
    · unfold domS
      simp only [hC0]
      constructor
      · rintro (h | ⟨h1, ⟨h2, h3 | h3 | h3 | ⟨h3, h4⟩⟩ | ⟨h2, h3⟩⟩)
        · refine Or.inl ⟨h.1, ?_⟩
          rcases h.2 with h | h | h | ⟨h, h'⟩
          · exact Or.inl h
          · exact Or.inr (Or.inl h)
          · exact Or.inr (Or.inr (Or.inl h))
          · exact Or.inr (Or.inr (Or.inr ⟨h, by first | exact h' | (rw [← hC0]; exact h')⟩))
        · exact Or.inr ⟨h1, Or.inl ⟨h2, Or.inl h3⟩⟩
        · exact Or.inr ⟨h1, Or.inl ⟨h2, Or.inr (Or.inl h3)⟩⟩
        · exact Or.inr ⟨h1, Or.inl ⟨h2, Or.inr (Or.inr (Or.inl h3))⟩⟩
        · exact absurd (by rw [h3, h2]) h7
        · refine Or.inr ⟨h1, Or.inr ⟨h2, ?_⟩⟩
          have h3 : z < S'.C 1 y := h3
          rw [hC1] at h3
          have hz : z ≠ S.C 1 y := fun e => h8 (by rw [e]; exact congrArg (fun t => (t, y, S.C 1 y)) h2)
          show z < S.C 1 y
          omega
      · rintro (h | ⟨h1, ⟨h2, h3 | h3 | h3 | ⟨h3, h4⟩⟩ | ⟨h2, h3⟩⟩)
        · refine Or.inl ⟨h.1, ?_⟩
          rcases h.2 with h | h | h | ⟨h, h'⟩
          · exact Or.inl h
          · exact Or.inr (Or.inl h)
          · exact Or.inr (Or.inr (Or.inl h))
          · exact Or.inr (Or.inr (Or.inr ⟨h, by first | exact h' | (rw [hC0]; exact h')⟩))
        · exact Or.inr ⟨h1, Or.inl ⟨h2, Or.inl h3⟩⟩
        · exact Or.inr ⟨h1, Or.inl ⟨h2, Or.inr (Or.inl h3)⟩⟩
        · exact Or.inr ⟨h1, Or.inl ⟨h2, Or.inr (Or.inr (Or.inl h3))⟩⟩
        · exact absurd (by rw [h3, h2]) h7
        · refine Or.inr ⟨h1, Or.inr ⟨h2, ?_⟩⟩
          have h3 : z < S.C 1 y := h3
          show z < S'.C 1 y
          rw [hC1]
          omega
    · intro hd
      rw [← hS']
      match x, hx, h6, h7, h8, hd with
      | 0, _, _, _, _, _ => rfl
      | 1, _, _, _, _, _ => rfl
      | 2, _, _, _, _, _ => rfl
      | 3, _, _, _, _, _ => rfl
      | 4, _, _, _, _, _ => rfl
      | 5, _, _, _, _, _ => rfl
      | 6, _, _, _, _, _ => rfl
      | 7, _, _, h7, _, hd => exact absurd (by rw [dom4 hd (by omega) (by omega)]) h7
      | 8, _, _, _, h8, _ =>
        have hz : z ≠ S.C 1 y := fun e => h8 (by rw [e])
        exact up3_j _ q hz
      | x + 9, hx, _, _, _, _ => omega
    · intro hd
      rw [← hS']
      match x, hx, h6, h7, h8, hd with
      | 0, _, _, _, _, _ => rfl
      | 1, _, _, _, _, _ => rfl
      | 2, _, _, _, _, _ => rfl
      | 3, _, _, _, _, _ => rfl
      | 4, _, _, _, _, _ => rfl
      | 5, _, _, _, _, _ => rfl
      | 6, _, h6, _, _, hd => exact absurd (by rw [dom4 hd (by omega) (by omega)]) h6
      | 7, _, _, h7, _, hd => exact absurd (by rw [dom4 hd (by omega) (by omega)]) h7
      | 8, _, _, _, h8, _ =>
        have hz : z ≠ S.C 1 y := fun e => h8 (by rw [e])
        show Sum.inr (2, fD (newD S y q b mo fr to lo hi) y z) = Sum.inr (2, fD S y z)
        simp [fD, newD, cS.sI, cS.sJ, cS.sA, cS.sC, cS.I, cS.J, cS.ad, up3, hz]
      | x + 9, hx, _, _, _, _ => omega
  · have hCy : S'.C 1 y = S.C 1 y := by rw [hC]; exact up2_i _ _ hy
    have hAd : ∀ x z, (newD S i q b mo fr to lo hi).ad x y z = S.ad x y z := fun x z => by
      show up3 (up3 S.ad 8 i (S.C 1 i) q) 7 i 0 b x y z = S.ad x y z
      rw [up3_i _ b hy, up3_i _ q hy]
    refine wS_ext ?_ ?_ ?_
    · unfold domS
      simp only [hC0, hCy]
    · intro _
      rw [← hS']
      exact hAd _ _
    · intro hd
      rw [← hS'] at hCy ⊢
      match x, hx, hd with
      | 0, _, _ => rfl
      | 1, _, _ => rfl
      | 2, _, _ => rfl
      | 3, _, _ => rfl
      | 4, _, _ => rfl
      | 5, _, _ => rfl
      | 6, _, _ =>
        show Sum.inr (4, fA G ((newD S i q b mo fr to lo hi).C 1 y) ((newD S i q b mo fr to lo hi).ad 7 y 0) ((newD S i q b mo fr to lo hi).I 19 y 0)) = Sum.inr (4, fA G (S.C 1 y) (S.ad 7 y 0) (S.I 19 y 0))
        rw [hCy, hAd 7 0, show (newD S i q b mo fr to lo hi).I 19 y 0 = S.I 19 y 0 from up3_i _ _ hy]
      | 7, _, _ =>
        show Sum.inl (G 4, 10, Sum.inr (Sum.inr (Sum.inr (Sum.inr (rfs ((newD S i q b mo fr to lo hi).C 1 y) ((newD S i q b mo fr to lo hi).ad 8 y)))))) = _
        rw [hCy, show (newD S i q b mo fr to lo hi).ad 8 y = S.ad 8 y from funext (fun k => hAd 8 k)]
        rfl
      | 8, _, _ =>
        show Sum.inr (2, fD (newD S i q b mo fr to lo hi) y z) = Sum.inr (2, fD S y z)
        simp [fD, newD, cS.sI, cS.sJ, cS.sA, cS.sC, cS.I, cS.J, cS.ad, up3, hy]
      | x + 9, hx, _ => omega
end
section
theorem newD_C1 (S : cS) (i q b : Nat) (mo fr to : Int32) (lo hi : Int64) : (newD S i q b mo fr to lo hi).C 1 i = S.C 1 i + 1 := up2_s _ _ _ _
theorem rfs_up8 (S : cS) (i q : Nat) : va_up (rfs (S.C 1 i) (S.ad 8 i)) (S.C 1 i) (some q) = rfs (S.C 1 i + 1) (up3 S.ad 8 i (S.C 1 i) q 8 i) := by
  funext j
  by_cases h : j = S.C 1 i
  · subst h
    simp [va_up, rfs, up3]
  · by_cases h2 : j < S.C 1 i
    · simp [va_up, rfs, up3, h, h2, Nat.lt_succ_of_lt h2]
    · have : ¬ j < S.C 1 i + 1 := by omega
      simp [va_up, rfs, h, h2, this]
theorem rfs_up80 (S : cS) (i q : Nat) (h0 : S.C 1 i = 0) : va_up (fun _ => none) 0 (some q) = rfs (S.C 1 i + 1) (up3 S.ad 8 i (S.C 1 i) q 8 i) := by
  rw [← rfs_up8, h0]
  funext j
  by_cases h : j = 0 <;> simp [va_up, rfs, h]
abbrev okD (fr to : Int32) (lo hi : Int64) : Prop := isPt fr ∧ isPt to ∧ (0 ≤ lo ∧ lo ≤ 100000) ∧ (lo ≤ hi ∧ hi ≤ 100000)
def dlP (G : Nat → Nat) (S : cS) (ω : hm_T) (i : Nat) (fr to : Int32) (lo hi : Int64) (v : Option Value) (w : hm_T) : Prop :=
  (¬ okD fr to lo hi ∧ v = some (.int (-2)) ∧ w = wS G S ω) ∨ (okD fr to lo hi ∧ ¬ S.C 1 i < 10 ∧ v = some (.int (-4)) ∧ w = wS G S ω) ∨
  (okD fr to lo hi ∧ S.C 1 i < 10 ∧ ∃ q b, v = some (.int (nI (S.C 1 i + 1))) ∧ w = wS G (newD S i q b (S.I 0 0 0) fr to lo hi) ω)

set_option maxHeartbeats 4000000 in
set_option maxRecDepth 100000 in
theorem k_W_deadline_y (l : Launch) (D : va_G) (A : Nat → Prop) (G : Nat → Nat) (S : cS) (ω : hm_T) (h20 : S.C 0 0 ≤ 20) (hall : ∀ i, i < S.C 0 0 → S.C 1 i ≤ 10) (i : Nat) (hi : i < S.C 0 0) (fr to : Int32) (lo hi2 : Int64) : Met l y_W_deadline (.code y_W_deadline c_W_deadline 9 (some .int) :: wsA) { frames := 8, cells := 2, slots := 17, locals := 171 } (va_Pc [.ref (S.ad 0 0 0), .int (nI (i + 1)), .int fr, .int to, .long lo, .long hi2] (ctU D A G (wS G S ω))) (hm_Q D cls A (dlP G S ω i fr to lo hi2)) 2 17 A := by
  refine ct_met (by decide) (Nat.le_of_ble_eq_true rfl) ?_
  rintro p e s m below meth c ls X hr hlocks hnm hl ⟨hB, hK⟩
  have hl : lv_has ls 9 [(0, .ref (S.ad 0 0 0)), (1, .int (nI (i + 1))), (2, .int fr), (3, .int to), (4, .long lo), (6, .long hi2)] := hl
  have hY : hm_Y D cls A s.heap (wS G S ω) s.heap [] := hm_Y.start hB hK.2.2.2
  refine lv_aload_n X.1 X.2.1 d_W_deadline_0 rfl (lv_at hl 0 rfl) ?_
  refine lv_iload_n X.1 X.2.1 d_W_deadline_1 rfl (lv_at hl 1 rfl) ?_
  refine hm_callR (ct_runV (n := 1) X hK hY (k_findPart l D A G S ω i hi h20) m_112 m_109 m_111 ms_W_findPart m_1 (by decide +kernel) ⟨Nat.le_of_ble_eq_true rfl, Nat.le_of_ble_eq_true rfl⟩ ⟨rfl, rfl⟩ (hm_recv ⟨X, hK.1⟩ hY w0 rfl) rfl hl.1 rfl (Nat.le_of_ble_eq_true rfl) d_W_deadline_2 ⟨Nat.le_of_ble_eq_true rfl, Nat.le_of_ble_eq_true rfl⟩) (fun v hv => ?_)
  subst hv
  refine W.eq (g2 := F0 m 5 ls [.ref (S.ad 4 i 0)]) rfl ?_
  refine lv_astore (lv' := [(8, .ref (S.ad 4 i 0)), (0, .ref (S.ad 0 0 0)), (1, .int (nI (i + 1))), (2, .int fr), (3, .int to), (4, .long lo), (6, .long hi2)]) X.1 X.2.1 d_W_deadline_5 hl (by decide) rfl (fun ls hl => ?_)
  refine lv_aload X.1 X.2.1 d_W_deadline_7 (lv_at hl 0 rfl) ?_
  refine lv_ifnonnull (tgt := 14) X.1 X.2.1 d_W_deadline_9 (by decide) ?_
  refine lv_iload_n X.1 X.2.1 d_W_deadline_14 rfl (lv_at hl 3 rfl) ?_
  refine hm_callR (ct_runS (n := 1) X hK hY (k_W_isPoint l D A G (wS G S ω) fr) m_137 m_135 m_136 m_1 (by decide +kernel) ⟨Nat.le_of_ble_eq_true rfl, Nat.le_of_ble_eq_true rfl⟩ ⟨rfl, rfl⟩ rfl hl.1 rfl (Nat.le_of_ble_eq_true rfl) d_W_deadline_15 ⟨Nat.le_of_ble_eq_true rfl, Nat.le_of_ble_eq_true rfl⟩) (fun v hv => ?_)
  subst hv
  refine W.eq (g2 := F0 m 18 ls [.int (b2 (isPt fr))]) rfl ?_
  refine lv_if_eq (tgt := 53) X.1 X.2.1 d_W_deadline_18 (by decide) (fun c1 => ?_) (fun c1 => ?_)
  · have c1 : ¬ (isPt fr) := b2_0.mp c1
    refine lv_bipush (v := (-2)) X.1 X.2.1 d_W_deadline_53 (by decide) ?_
    refine W.widen (k := 2) (n := 17) (Nat.le_of_ble_eq_true rfl) (Nat.le_of_ble_eq_true rfl) ?_
    exact en_iW X hY hr hlocks d_W_deadline_55 (Or.inl ⟨fun z => c1 z.1, rfl, rfl⟩)
  · have c1 : (isPt fr) := Classical.byContradiction (fun z => c1 (b2_0.mpr z))
    refine lv_iload_n X.1 X.2.1 d_W_deadline_21 rfl (lv_at hl 4 rfl) ?_
    refine hm_callR (ct_runS (n := 1) X hK hY (k_W_isPoint l D A G (wS G S ω) to) m_137 m_135 m_136 m_1 (by decide +kernel) ⟨Nat.le_of_ble_eq_true rfl, Nat.le_of_ble_eq_true rfl⟩ ⟨rfl, rfl⟩ rfl hl.1 rfl (Nat.le_of_ble_eq_true rfl) d_W_deadline_22 ⟨Nat.le_of_ble_eq_true rfl, Nat.le_of_ble_eq_true rfl⟩) (fun v hv => ?_)
    subst hv
    refine W.eq (g2 := F0 m 25 ls [.int (b2 (isPt to))]) rfl ?_
    refine lv_if_eq (tgt := 53) X.1 X.2.1 d_W_deadline_25 (by decide) (fun c2 => ?_) (fun c2 => ?_)
    · have c2 : ¬ (isPt to) := b2_0.mp c2
      refine lv_bipush (v := (-2)) X.1 X.2.1 d_W_deadline_53 (by decide) ?_
      refine W.widen (k := 2) (n := 17) (Nat.le_of_ble_eq_true rfl) (Nat.le_of_ble_eq_true rfl) ?_
      exact en_iW X hY hr hlocks d_W_deadline_55 (Or.inl ⟨fun z => c2 z.2.1, rfl, rfl⟩)
    · have c2 : (isPt to) := Classical.byContradiction (fun z => c2 (b2_0.mpr z))
      refine lv_lload X.1 X.2.1 d_W_deadline_28 (lv_at hl 5 rfl) ?_
      refine lv_lconst (v := 0) X.1 X.2.1 d_W_deadline_30 (by decide) ?_
      refine lv_ldc2 X.1 X.2.1 X.2.2.2.1 (X.2.2.2.2 _ m_155) d_W_deadline_31 ?_
      refine hm_callR (ct_runS (n := 3) X hK hY (k_W_isWithin l D A G (wS G S ω) lo 0 100000) m_119 m_117 m_118 m_1 (by decide +kernel) ⟨Nat.le_of_ble_eq_true rfl, Nat.le_of_ble_eq_true rfl⟩ ⟨rfl, rfl⟩ rfl hl.1 rfl (Nat.le_of_ble_eq_true rfl) d_W_deadline_34 ⟨Nat.le_of_ble_eq_true rfl, Nat.le_of_ble_eq_true rfl⟩) (fun v hv => ?_)
      subst hv
      refine W.eq (g2 := F0 m 37 ls [.int (b2 (0 ≤ lo ∧ lo ≤ 100000))]) rfl ?_
      refine lv_if_eq (tgt := 53) X.1 X.2.1 d_W_deadline_37 (by decide) (fun c3 => ?_) (fun c3 => ?_)
      · have c3 : ¬ (0 ≤ lo ∧ lo ≤ 100000) := b2_0.mp c3
        refine lv_bipush (v := (-2)) X.1 X.2.1 d_W_deadline_53 (by decide) ?_
        refine W.widen (k := 2) (n := 17) (Nat.le_of_ble_eq_true rfl) (Nat.le_of_ble_eq_true rfl) ?_
        exact en_iW X hY hr hlocks d_W_deadline_55 (Or.inl ⟨fun z => c3 z.2.2.1, rfl, rfl⟩)
      · have c3 : (0 ≤ lo ∧ lo ≤ 100000) := Classical.byContradiction (fun z => c3 (b2_0.mpr z))
        refine lv_lload X.1 X.2.1 d_W_deadline_40 (lv_at hl 6 rfl) ?_
        refine lv_lload X.1 X.2.1 d_W_deadline_42 (lv_at hl 5 rfl) ?_
        refine lv_ldc2 X.1 X.2.1 X.2.2.2.1 (X.2.2.2.2 _ m_155) d_W_deadline_44 ?_
        refine hm_callR (ct_runS (n := 3) X hK hY (k_W_isWithin l D A G (wS G S ω) hi2 lo 100000) m_119 m_117 m_118 m_1 (by decide +kernel) ⟨Nat.le_of_ble_eq_true rfl, Nat.le_of_ble_eq_true rfl⟩ ⟨rfl, rfl⟩ rfl hl.1 rfl (Nat.le_of_ble_eq_true rfl) d_W_deadline_47 ⟨Nat.le_of_ble_eq_true rfl, Nat.le_of_ble_eq_true rfl⟩) (fun v hv => ?_)
        subst hv
        refine W.eq (g2 := F0 m 50 ls [.int (b2 (lo ≤ hi2 ∧ hi2 ≤ 100000))]) rfl ?_
        refine lv_if_ne (tgt := 56) X.1 X.2.1 d_W_deadline_50 (by decide) (fun c4 => ?_) (fun c4 => ?_)
        · have c4 : (lo ≤ hi2 ∧ hi2 ≤ 100000) := Classical.byContradiction (fun z => c4 (b2_0.mpr z))
          refine lv_aload X.1 X.2.1 d_W_deadline_56 (lv_at hl 0 rfl) ?_
          refine hm_get ⟨X, hK.1⟩ hY (w4 hi) 4 (v := .ref (S.ad 6 i 0)) rfl rfl (Nat.le_of_ble_eq_true rfl) hu_P m_448 (fun _ h => h) d_W_deadline_58 ?_
          refine hm_callR (ct_runV (n := 0) X hK hY (k_size6 l D A G S ω i hi) m_116 m_113 m_114 m_115 m_4 (by decide +kernel) ⟨Nat.le_of_ble_eq_true rfl, Nat.le_of_ble_eq_true rfl⟩ ⟨rfl, rfl⟩ (hm_recv ⟨X, hK.1⟩ hY (w6 hi) rfl) rfl hl.1 rfl (Nat.le_of_ble_eq_true rfl) d_W_deadline_61 ⟨Nat.le_of_ble_eq_true rfl, Nat.le_of_ble_eq_true rfl⟩) (fun v hv => ?_)
          subst hv
          refine W.eq (g2 := F0 m 64 ls [.int (nI (S.C 1 i))]) rfl ?_
          refine lv_bipush (v := 10) X.1 X.2.1 d_W_deadline_64 (by decide) ?_
          have hten := hall i hi
          refine lv_icmp_lt (tgt := 72) X.1 X.2.1 d_W_deadline_66 (by decide) (fun c5 => ?_) (fun c5 => ?_)
          · have c5 : S.C 1 i < 10 := by rcases Nat.lt_or_ge (S.C 1 i) 10 with q | q; exact q; exact absurd c5 (nI_nlt (b := 10) q (by omega))
            have hok : okD fr to lo hi2 := ⟨c1, c2, c3, c4⟩
            refine lv_aload X.1 X.2.1 d_W_deadline_72 (lv_at hl 0 rfl) ?_
            refine hm_get ⟨X, hK.1⟩ hY (w4 hi) 4 (v := .ref (S.ad 6 i 0)) rfl rfl (Nat.le_of_ble_eq_true rfl) hu_P m_448 (fun _ h => h) d_W_deadline_74 ?_
            refine hm_new ⟨X, hK.1⟩ hY (8, i, S.C 1 i) [.int 0, .int 0, .int 0, .long 0, .long 0, .int 0, .long 0] (ci := 2) rfl hu_D ty_D ty_D_ok m_156 m_157 m_18 (fun j hj => by rcases (show j = 0 ∨ j = 1 ∨ j = 2 ∨ j = 3 ∨ j = 4 ∨ j = 5 ∨ j = 6 by omega) with rfl | rfl | rfl | rfl | rfl | rfl | rfl <;> rfl) (Nat.le_of_ble_eq_true rfl) (Nat.le_of_ble_eq_true rfl) d_W_deadline_77 (fun q H hY => ?_)
            refine lv_dup X.1 X.2.1 d_W_deadline_80 rfl ?_
            refine lv_aload_n X.1 X.2.1 d_W_deadline_81 rfl (lv_at hl 1 rfl) ?_
            refine hm_get ⟨X, hK.1⟩ hY ((hm_up_n _ _ (by simp)).trans w0) 2 (v := .int (S.I 0 0 0)) rfl rfl (Nat.le_of_ble_eq_true rfl) hu_W m_76 (fun _ h => h) d_W_deadline_82 ?_
            refine lv_iload_n X.1 X.2.1 d_W_deadline_85 rfl (lv_at hl 3 rfl) ?_
            refine lv_iload_n X.1 X.2.1 d_W_deadline_86 rfl (lv_at hl 4 rfl) ?_
            refine lv_lload X.1 X.2.1 d_W_deadline_87 (lv_at hl 5 rfl) ?_
            refine lv_lload X.1 X.2.1 d_W_deadline_89 (lv_at hl 6 rfl) ?_
            refine hm_call (ct_runI (n := 5) X hK hY (k_D_init l D A G (hm_up (wS G S ω) (8, i, S.C 1 i) (q, .inr (2, [.int 0, .int 0, .int 0, .long 0, .long 0, .int 0, .long 0]))) (8, i, S.C 1 i) q (.int 0) (.int 0) (.int 0) (.long 0) (.long 0) (.int 0) (.long 0) (hm_up_s _ _ _) (S.I 0 0 0) fr to lo hi2) m_160 m_158 m_159 m_18 rfl (by decide +kernel) ⟨Nat.le_of_ble_eq_true rfl, Nat.le_of_ble_eq_true rfl⟩ ⟨rfl, rfl⟩ rfl hl.1 rfl (Nat.le_of_ble_eq_true rfl) d_W_deadline_91 ⟨Nat.le_of_ble_eq_true rfl, Nat.le_of_ble_eq_true rfl⟩) hY (fun v w1 H locs hp hY => ?_)
            obtain ⟨rfl, rfl⟩ := hp
            have hY : hm_Y D cls A s.heap (hm_up (wS G S ω) (8, i, S.C 1 i) (q, .inr (2, [.int (S.I 0 0 0), .int fr, .int to, .long lo, .long hi2, .int 0, .long 0]))) H locs := by rw [hm_uu] at hY; exact hY
            refine W.eq (g2 := F0 m 94 ls [.ref q, .ref (S.ad 6 i 0)]) rfl ?_
            rcases Nat.eq_zero_or_pos (S.C 1 i) with h0 | h0
            · have hn : (hm_up (wS G S ω) (8, i, S.C 1 i) (q, .inr (2, [.int (S.I 0 0 0), .int fr, .int to, .long lo, .long hi2, .int 0, .long 0]))) (6, i, 0) = some (S.ad 6 i 0, .inr (4, [.ref (G 0), .int 0, .int (S.I 19 i 0)])) := by rw [hm_up_n _ _ (by simp), w6 hi, h0]; rfl
              refine hm_call (ct_runV (n := 1) X hK hY (k_A_add_fD l D A G (hm_up (wS G S ω) (8, i, S.C 1 i) (q, .inr (2, [.int (S.I 0 0 0), .int fr, .int to, .long lo, .long hi2, .int 0, .long 0]))) (6, i, 0) (7, i, 0) (S.ad 6 i 0) (S.I 19 i 0) hn (by simp) q (8, i, S.C 1 i) [.int (S.I 0 0 0), .int fr, .int to, .long lo, .long hi2, .int 0, .long 0] (hm_up_s _ _ _) (by simp) (by simp)) m_194 m_191 m_192 m_193 m_4 (by decide +kernel) ⟨Nat.le_of_ble_eq_true rfl, Nat.le_of_ble_eq_true rfl⟩ ⟨rfl, rfl⟩ (hm_recv ⟨X, hK.1⟩ hY hn rfl) rfl hl.1 rfl (Nat.le_of_ble_eq_true rfl) d_W_deadline_94 ⟨Nat.le_of_ble_eq_true rfl, Nat.le_of_ble_eq_true rfl⟩) hY (fun v w1 H locs hp hY => ?_)
              obtain ⟨b, rfl, rfl⟩ := hp
              refine W.eq (g2 := F0 m 97 ls [.int 1]) rfl ?_
              have hY : hm_Y D cls A s.heap (wS G (newD S i q b (S.I 0 0 0) fr to lo hi2) ω) H locs := by rw [← wD_eq hi (rfs_up80 S i q h0), show nI (S.C 1 i + 1) = 1 by rw [h0]; rfl]; exact hY
              refine W.widen (k := 2) (n := 17) (Nat.le_of_ble_eq_true rfl) (Nat.le_of_ble_eq_true rfl) ?_
              have hl : lv_has ls 9 [(8, .ref ((newD S i q b (S.I 0 0 0) fr to lo hi2).ad 4 i 0)), (0, .ref ((newD S i q b (S.I 0 0 0) fr to lo hi2).ad 0 0 0)), (1, .int (nI (i + 1))), (2, .int fr), (3, .int to), (4, .long lo), (6, .long hi2)] := hl
              refine lv_pop X.1 X.2.1 d_W_deadline_97 rfl ?_
              refine lv_aload X.1 X.2.1 d_W_deadline_98 (lv_at hl 0 rfl) ?_
              refine hm_get ⟨X, hK.1⟩ hY (w4 hi) 4 (v := .ref ((newD S i q b (S.I 0 0 0) fr to lo hi2).ad 6 i 0)) rfl rfl (Nat.le_of_ble_eq_true rfl) hu_P m_448 (fun _ h => h) d_W_deadline_100 ?_
              refine hm_callR (ct_runV (n := 0) X hK hY (k_size6 l D A G (newD S i q b (S.I 0 0 0) fr to lo hi2) ω i hi) m_116 m_113 m_114 m_115 m_4 (by decide +kernel) ⟨Nat.le_of_ble_eq_true rfl, Nat.le_of_ble_eq_true rfl⟩ ⟨rfl, rfl⟩ (hm_recv ⟨X, hK.1⟩ hY (w6 hi) rfl) rfl hl.1 rfl (Nat.le_of_ble_eq_true rfl) d_W_deadline_103 ⟨Nat.le_of_ble_eq_true rfl, Nat.le_of_ble_eq_true rfl⟩) (fun v hv => ?_)
              subst hv
              refine W.eq (g2 := F0 m 106 ls [.int (nI ((newD S i q b (S.I 0 0 0) fr to lo hi2).C 1 i))]) rfl ?_
              exact en_iW X hY hr hlocks d_W_deadline_106 (Or.inr (Or.inr ⟨hok, c5, q, b, by rw [newD_C1], rfl⟩))
            · have hn : (hm_up (wS G S ω) (8, i, S.C 1 i) (q, .inr (2, [.int (S.I 0 0 0), .int fr, .int to, .long lo, .long hi2, .int 0, .long 0]))) (6, i, 0) = some (S.ad 6 i 0, .inr (4, [.ref (S.ad 7 i 0), .int (nI (S.C 1 i)), .int (S.I 19 i 0)])) := by rw [hm_up_n _ _ (by simp), w6 hi, fA_p (by omega)]
              have hb : (hm_up (wS G S ω) (8, i, S.C 1 i) (q, .inr (2, [.int (S.I 0 0 0), .int fr, .int to, .long lo, .long hi2, .int 0, .long 0]))) (7, i, 0) = some (S.ad 7 i 0, .inl (G 4, 10, .inr (.inr (.inr (.inr (rfs (S.C 1 i) (S.ad 8 i))))))) := by rw [hm_up_n _ _ (by simp), w7 hi (by omega)]
              refine hm_call (ct_runV (n := 1) X hK hY (k_A_add_rD l D A G (hm_up (wS G S ω) (8, i, S.C 1 i) (q, .inr (2, [.int (S.I 0 0 0), .int fr, .int to, .long lo, .long hi2, .int 0, .long 0]))) (6, i, 0) (7, i, 0) (S.ad 6 i 0) (S.I 19 i 0) (S.ad 7 i 0) 10 (S.C 1 i) _ hn (by simp) hb c5 (by decide) q (8, i, S.C 1 i) [.int (S.I 0 0 0), .int fr, .int to, .long lo, .long hi2, .int 0, .long 0] (hm_up_s _ _ _) (by simp) (by simp)) m_194 m_191 m_192 m_193 m_4 (by decide +kernel) ⟨Nat.le_of_ble_eq_true rfl, Nat.le_of_ble_eq_true rfl⟩ ⟨rfl, rfl⟩ (hm_recv ⟨X, hK.1⟩ hY hn rfl) rfl hl.1 rfl (Nat.le_of_ble_eq_true rfl) d_W_deadline_94 ⟨Nat.le_of_ble_eq_true rfl, Nat.le_of_ble_eq_true rfl⟩) hY (fun v w1 H locs hp hY => ?_)
              obtain ⟨rfl, rfl⟩ := hp
              refine W.eq (g2 := F0 m 97 ls [.int 1]) rfl ?_
              have hY : hm_Y D cls A s.heap (wS G (newD S i q (S.ad 7 i 0) (S.I 0 0 0) fr to lo hi2) ω) H locs := by rw [← wD_eq hi (rfs_up8 S i q)]; exact hY
              refine W.widen (k := 2) (n := 17) (Nat.le_of_ble_eq_true rfl) (Nat.le_of_ble_eq_true rfl) ?_
              have hl : lv_has ls 9 [(8, .ref ((newD S i q (S.ad 7 i 0) (S.I 0 0 0) fr to lo hi2).ad 4 i 0)), (0, .ref ((newD S i q (S.ad 7 i 0) (S.I 0 0 0) fr to lo hi2).ad 0 0 0)), (1, .int (nI (i + 1))), (2, .int fr), (3, .int to), (4, .long lo), (6, .long hi2)] := hl
              refine lv_pop X.1 X.2.1 d_W_deadline_97 rfl ?_
              refine lv_aload X.1 X.2.1 d_W_deadline_98 (lv_at hl 0 rfl) ?_
              refine hm_get ⟨X, hK.1⟩ hY (w4 hi) 4 (v := .ref ((newD S i q (S.ad 7 i 0) (S.I 0 0 0) fr to lo hi2).ad 6 i 0)) rfl rfl (Nat.le_of_ble_eq_true rfl) hu_P m_448 (fun _ h => h) d_W_deadline_100 ?_
              refine hm_callR (ct_runV (n := 0) X hK hY (k_size6 l D A G (newD S i q (S.ad 7 i 0) (S.I 0 0 0) fr to lo hi2) ω i hi) m_116 m_113 m_114 m_115 m_4 (by decide +kernel) ⟨Nat.le_of_ble_eq_true rfl, Nat.le_of_ble_eq_true rfl⟩ ⟨rfl, rfl⟩ (hm_recv ⟨X, hK.1⟩ hY (w6 hi) rfl) rfl hl.1 rfl (Nat.le_of_ble_eq_true rfl) d_W_deadline_103 ⟨Nat.le_of_ble_eq_true rfl, Nat.le_of_ble_eq_true rfl⟩) (fun v hv => ?_)
              subst hv
              refine W.eq (g2 := F0 m 106 ls [.int (nI ((newD S i q (S.ad 7 i 0) (S.I 0 0 0) fr to lo hi2).C 1 i))]) rfl ?_
              exact en_iW X hY hr hlocks d_W_deadline_106 (Or.inr (Or.inr ⟨hok, c5, q, (S.ad 7 i 0), by rw [newD_C1], rfl⟩))
          · have c5 : ¬ S.C 1 i < 10 := fun q => c5 (nI_lt (b := 10) q (by omega))
            refine lv_bipush (v := (-4)) X.1 X.2.1 d_W_deadline_69 (by decide) ?_
            refine W.widen (k := 2) (n := 17) (Nat.le_of_ble_eq_true rfl) (Nat.le_of_ble_eq_true rfl) ?_
            exact en_iW X hY hr hlocks d_W_deadline_71 (Or.inr (Or.inl ⟨⟨c1, c2, c3, c4⟩, c5, rfl, rfl⟩))
        · have c4 : ¬ (lo ≤ hi2 ∧ hi2 ≤ 100000) := b2_0.mp c4
          refine lv_bipush (v := (-2)) X.1 X.2.1 d_W_deadline_53 (by decide) ?_
          refine W.widen (k := 2) (n := 17) (Nat.le_of_ble_eq_true rfl) (Nat.le_of_ble_eq_true rfl) ?_
          exact en_iW X hY hr hlocks d_W_deadline_55 (Or.inl ⟨fun z => c4 z.2.2.2, rfl, rfl⟩)

set_option maxHeartbeats 4000000 in
set_option maxRecDepth 100000 in
theorem k_W_deadline_no (l : Launch) (D : va_G) (A : Nat → Prop) (G : Nat → Nat) (S : cS) (ω : hm_T) (h20 : S.C 0 0 ≤ 20) (hall : ∀ i, i < S.C 0 0 → S.C 1 i ≤ 10) (x : Int32) (hx : ¬ isN S x) (fr to : Int32) (lo hi2 : Int64) : Met l y_W_deadline (.code y_W_deadline c_W_deadline 9 (some .int) :: wsA) { frames := 8, cells := 2, slots := 17, locals := 171 } (va_Pc [.ref (S.ad 0 0 0), .int x, .int fr, .int to, .long lo, .long hi2] (ctU D A G (wS G S ω))) (hm_Q D cls A (fun v w => v = some (.int (((-1 : Int32), S)).1) ∧ w = wS G (((-1 : Int32), S)).2 ω)) 2 17 A := by
  refine ct_met (by decide) (Nat.le_of_ble_eq_true rfl) ?_
  rintro p e s m below meth c ls X hr hlocks hnm hl ⟨hB, hK⟩
  have hl : lv_has ls 9 [(0, .ref (S.ad 0 0 0)), (1, .int x), (2, .int fr), (3, .int to), (4, .long lo), (6, .long hi2)] := hl
  have hY : hm_Y D cls A s.heap (wS G S ω) s.heap [] := hm_Y.start hB hK.2.2.2
  refine lv_aload_n X.1 X.2.1 d_W_deadline_0 rfl (lv_at hl 0 rfl) ?_
  refine lv_iload_n X.1 X.2.1 d_W_deadline_1 rfl (lv_at hl 1 rfl) ?_
  refine hm_callR (ct_runV (n := 1) X hK hY (k_findPart_no l D A G S ω x hx h20) m_112 m_109 m_111 ms_W_findPart m_1 (by decide +kernel) ⟨Nat.le_of_ble_eq_true rfl, Nat.le_of_ble_eq_true rfl⟩ ⟨rfl, rfl⟩ (hm_recv ⟨X, hK.1⟩ hY w0 rfl) rfl hl.1 rfl (Nat.le_of_ble_eq_true rfl) d_W_deadline_2 ⟨Nat.le_of_ble_eq_true rfl, Nat.le_of_ble_eq_true rfl⟩) (fun v hv => ?_)
  subst hv
  refine W.eq (g2 := F0 m 5 ls [.null]) rfl ?_
  refine lv_astoreN (lv' := [(8, .null), (0, .ref (S.ad 0 0 0)), (1, .int x), (2, .int fr), (3, .int to), (4, .long lo), (6, .long hi2)]) X.1 X.2.1 d_W_deadline_5 hl (by decide) rfl (fun ls hl => ?_)
  refine lv_aloadN X.1 X.2.1 d_W_deadline_7 (lv_at hl 0 rfl) ?_
  refine lv_ifnonnullN X.1 X.2.1 d_W_deadline_9 ?_
  refine lv_iconst (v := (-1)) X.1 X.2.1 d_W_deadline_12 (by decide) ?_
  refine W.widen (k := 2) (n := 17) (Nat.le_of_ble_eq_true rfl) (Nat.le_of_ble_eq_true rfl) ?_
  exact en_iW X hY hr hlocks d_W_deadline_13 (⟨rfl, rfl⟩)
end
section
/-! A NEW PART -/
def newP (S : cS) (a ae al b : Nat) (le mx : Int32) (sp : Int64) : cS :=
  (up3 (up3 (up3 (up3 S.ad 4 (S.C 0 0) 0 a) 5 (S.C 0 0) 0 ae) 6 (S.C 0 0) 0 al) 2 0 0 b,
   up3 (up3 (up3 (fun k i j => if 10 ≤ k ∧ k ≤ 19 ∧ i = S.C 0 0 then 0 else S.I k i j) 10 (S.C 0 0) 0 le) 11 (S.C 0 0) 0 mx) 6 0 0 (S.I 6 0 0 + 1),
   up3 S.J 10 (S.C 0 0) 0 sp, up2 (up2 S.C 1 (S.C 0 0) 0) 0 0 (S.C 0 0 + 1))
section NP
variable {G : Nat → Nat} {S : cS} {ω : hm_T} {a ae al b : Nat} {le mx : Int32} {sp : Int64}
theorem nP_C0 : (newP S a ae al b le mx sp).C 0 0 = S.C 0 0 + 1 := by
  show up2 (up2 S.C 1 (S.C 0 0) 0) 0 0 (S.C 0 0 + 1) 0 0 = S.C 0 0 + 1
  exact up2_s _ _ _ _
theorem nP_C1 : (newP S a ae al b le mx sp).C 1 (S.C 0 0) = 0 := by
  show up2 (up2 S.C 1 (S.C 0 0) 0) 0 0 (S.C 0 0 + 1) 1 (S.C 0 0) = 0
  simp [up2]
theorem nP_Ci {i : Nat} (h : i ≠ S.C 0 0) : (newP S a ae al b le mx sp).C 1 i = S.C 1 i := by
  show up2 (up2 S.C 1 (S.C 0 0) 0) 0 0 (S.C 0 0 + 1) 1 i = S.C 1 i
  simp [up2, h]
theorem nP_I {k i j : Nat} (h : i ≠ S.C 0 0) (h6 : k ≠ 6) : (newP S a ae al b le mx sp).I k i j = S.I k i j := by
  show up3 (up3 (up3 (fun k i j => if 10 ≤ k ∧ k ≤ 19 ∧ i = S.C 0 0 then 0 else S.I k i j) 10 (S.C 0 0) 0 le) 11 (S.C 0 0) 0 mx) 6 0 0 (S.I 6 0 0 + 1) k i j = S.I k i j
  simp [up3, h, h6]
theorem nP_Iw {k i j : Nat} (h : k < 10) (h6 : k ≠ 6) : (newP S a ae al b le mx sp).I k i j = S.I k i j := by
  show up3 (up3 (up3 (fun k i j => if 10 ≤ k ∧ k ≤ 19 ∧ i = S.C 0 0 then 0 else S.I k i j) 10 (S.C 0 0) 0 le) 11 (S.C 0 0) 0 mx) 6 0 0 (S.I 6 0 0 + 1) k i j = S.I k i j
  have h1 : ¬ 10 ≤ k := by omega
  have h2 : k ≠ 10 := by omega
  have h3 : k ≠ 11 := by omega
  simp [up3, h1, h2, h3, h6]
theorem nP_J {k i j : Nat} (h : k ≠ 10 ∨ i ≠ S.C 0 0) : (newP S a ae al b le mx sp).J k i j = S.J k i j := by
  show up3 S.J 10 (S.C 0 0) 0 sp k i j = S.J k i j
  rcases h with h | h
  · exact up3_k _ _ h
  · exact up3_i _ _ h
theorem nP_A {k i j : Nat} (h2 : k ≠ 2) (h : k < 4 ∨ 6 < k ∨ i ≠ S.C 0 0) : (newP S a ae al b le mx sp).ad k i j = S.ad k i j := by
  show up3 (up3 (up3 (up3 S.ad 4 (S.C 0 0) 0 a) 5 (S.C 0 0) 0 ae) 6 (S.C 0 0) 0 al) 2 0 0 b k i j = S.ad k i j
  rcases h with h | h | h
  · rw [up3_k _ _ h2, up3_k _ _ (by omega), up3_k _ _ (by omega), up3_k _ _ (by omega)]
  · rw [up3_k _ _ h2, up3_k _ _ (by omega), up3_k _ _ (by omega), up3_k _ _ (by omega)]
  · rw [up3_k _ _ h2, up3_i _ _ h, up3_i _ _ h, up3_i _ _ h]
theorem nP_dom {x y z : Nat} (h2 : (x, y, z) ≠ (2, 0, 0)) (h4 : (x, y, z) ≠ (4, S.C 0 0, 0)) (h5 : (x, y, z) ≠ (5, S.C 0 0, 0)) (h6 : (x, y, z) ≠ (6, S.C 0 0, 0)) : domS (newP S a ae al b le mx sp).C (x, y, z) ↔ domS S.C (x, y, z) := by
  unfold domS
  simp only [nP_C0]
  constructor
  · rintro (⟨h, h0⟩ | ⟨h, h0⟩)
    · refine Or.inl ⟨h, ?_⟩
      rcases h0 with h0 | h0 | h0 | ⟨h0, -⟩
      · exact Or.inl h0
      · exact Or.inr (Or.inl h0)
      · exact Or.inr (Or.inr (Or.inl h0))
      · exact absurd (by rw [h0, h]) h2
    · by_cases hy : y = S.C 0 0
      · exfalso
        rcases h0 with ⟨hz, h0 | h0 | h0 | ⟨h0, h1⟩⟩ | ⟨-, h1⟩
        · exact h4 (by rw [h0, hy, hz])
        · exact h5 (by rw [h0, hy, hz])
        · exact h6 (by rw [h0, hy, hz])
        · rw [hy] at h1
          exact h1 nP_C1
        · have h1 : z < (newP S a ae al b le mx sp).C 1 y := h1
          rw [hy, nP_C1] at h1
          omega
      · rw [nP_Ci hy] at h0
        exact Or.inr ⟨by omega, h0⟩
  · rintro (⟨h, h0⟩ | ⟨h, h0⟩)
    · refine Or.inl ⟨h, ?_⟩
      rcases h0 with h0 | h0 | h0 | ⟨h0, -⟩
      · exact Or.inl h0
      · exact Or.inr (Or.inl h0)
      · exact Or.inr (Or.inr (Or.inl h0))
      · exact absurd (by rw [h0, h]) h2
    · have hy : y ≠ S.C 0 0 := by omega
      rw [nP_Ci hy]
      exact Or.inr ⟨by omega, h0⟩
theorem wP_eq {f : Nat → Option Nat} (hf : f = rfs (S.C 0 0 + 1) (fun j => if j = S.C 0 0 then a else S.ad 4 j 0)) :
    hm_up (hm_up (hm_up (hm_up (hm_up (wS G S ω) (5, S.C 0 0, 0) (ae, .inl (G 1, 124, .inl (fun _ => 0)))) (6, S.C 0 0, 0) (al, .inr (4, [.ref (G 0), .int 0, .int 0]))) (4, S.C 0 0, 0) (a, .inr (1, [.int le, .int mx, .long sp, .ref ae, .ref al, .int 0, .int 0, .int 0, .int 0, .int 0, .int 0])))
      (2, 0, 0) (b, .inl (G 4, cap (S.C 0 0 + 1), .inr (.inr (.inr (.inr f)))))) (1, 0, 0) (S.ad 1 0 0, .inr (4, [.ref b, .int (nI (S.C 0 0 + 1)), .int (S.I 6 0 0 + 1)])) = wS G (newP S a ae al b le mx sp) ω := by
  funext n
  by_cases h1 : n = (1, 0, 0)
  · subst h1
    rw [hm_up_s, w1, nP_C0]
    simp [fA, newP, cS.ad, cS.I, up3]
  rw [hm_up_n _ _ h1]
  by_cases h2 : n = (2, 0, 0)
  · subst h2
    rw [hm_up_s, w2 (by rw [nP_C0]; omega), nP_C0, hf]
    have e1 : (newP S a ae al b le mx sp).ad 2 0 0 = b := by simp [newP, cS.ad, up3]
    have e2 : (fun j => (newP S a ae al b le mx sp).ad 4 j 0) = fun j => if j = S.C 0 0 then a else S.ad 4 j 0 := by
      funext j
      show up3 (up3 (up3 (up3 S.ad 4 (S.C 0 0) 0 a) 5 (S.C 0 0) 0 ae) 6 (S.C 0 0) 0 al) 2 0 0 b 4 j 0 = _
      simp [up3]
    rw [e1, e2]
  rw [hm_up_n _ _ h2]
  by_cases h4 : n = (4, S.C 0 0, 0)
  · subst h4
    rw [hm_up_s, w4 (by rw [nP_C0]; omega)]
    simp [fP, newP, cS.ad, cS.I, cS.J, up3]
  rw [hm_up_n _ _ h4]
  by_cases h6 : n = (6, S.C 0 0, 0)
  · subst h6
    rw [hm_up_s, w6 (by rw [nP_C0]; omega), nP_C1]
    simp [fA, newP, cS.ad, cS.I, up3, nI_0]
  rw [hm_up_n _ _ h6]
  by_cases h5 : n = (5, S.C 0 0, 0)
  · subst h5
    rw [hm_up_s, w5 (by rw [nP_C0]; omega)]
    have e1 : (newP S a ae al b le mx sp).ad 5 (S.C 0 0) 0 = ae := by simp [newP, cS.ad, up3]
    have e2 : (newP S a ae al b le mx sp).I 18 (S.C 0 0) = fun _ => 0 := by
      funext j
      simp [newP, cS.I, up3]
    rw [e1, e2]
  rw [hm_up_n _ _ h5]
  obtain ⟨x, y, z⟩ := n
  symm
  by_cases hx : 9 ≤ x
  · rw [wS_big (by exact hx), wS_big (by exact hx)]
  have hyN : domS S.C (x, y, z) → x = 4 ∨ x = 5 ∨ x = 6 ∨ x = 7 ∨ x = 8 → y ≠ S.C 0 0 := by
    intro hd hx'
    rcases hd with ⟨-, h⟩ | ⟨h, -⟩
    · simp only at h
      omega
    · have h : y < S.C 0 0 := h
      omega
  refine wS_ext (nP_dom h2 h4 h5 h6) (fun hd => ?_) (fun hd => ?_)
  · match x, hx, h2, hd, hyN with
    | 0, _, _, _, _ => exact nP_A (by omega) (Or.inl (by omega))
    | 1, _, _, _, _ => exact nP_A (by omega) (Or.inl (by omega))
    | 2, _, h2, hd, _ => exact absurd (by obtain ⟨q1, q2⟩ := dom1 hd (by omega); rw [q1, q2]) h2
    | 3, _, _, _, _ => exact nP_A (by omega) (Or.inl (by omega))
    | 4, _, _, hd, hyN => exact nP_A (by omega) (Or.inr (Or.inr (hyN hd (by omega))))
    | 5, _, _, hd, hyN => exact nP_A (by omega) (Or.inr (Or.inr (hyN hd (by omega))))
    | 6, _, _, hd, hyN => exact nP_A (by omega) (Or.inr (Or.inr (hyN hd (by omega))))
    | 7, _, _, hd, hyN => exact nP_A (by omega) (Or.inr (Or.inr (hyN hd (by omega))))
    | 8, _, _, hd, hyN => exact nP_A (by omega) (Or.inr (Or.inr (hyN hd (by omega))))
    | x + 9, hx, _, _, _ => omega
  · match x, hx, h1, h2, hd, hyN with
    | 0, _, _, _, _, _ =>
      show Sum.inr (0, fW (newP S a ae al b le mx sp)) = Sum.inr (0, fW S)
      unfold fW
      rw [nP_A (by omega) (Or.inl (by omega)), nP_A (by omega) (Or.inl (by omega)), nP_Iw (by omega) (by omega), nP_Iw (by omega) (by omega), nP_Iw (by omega) (by omega), nP_Iw (by omega) (by omega), nP_Iw (by omega) (by omega), nP_Iw (by omega) (by omega), nP_J (Or.inl (by omega)), nP_J (Or.inl (by omega))]
    | 1, _, h1, _, hd, _ => exact absurd (by obtain ⟨q1, q2⟩ := dom1 hd (by omega); rw [q1, q2]) h1
    | 2, _, _, h2, hd, _ => exact absurd (by obtain ⟨q1, q2⟩ := dom1 hd (by omega); rw [q1, q2]) h2
    | 3, _, _, _, _, _ =>
      show Sum.inr (3, fQ (newP S a ae al b le mx sp)) = Sum.inr (3, fQ S)
      unfold fQ
      rw [nP_Iw (by omega) (by omega), nP_Iw (by omega) (by omega), nP_Iw (by omega) (by omega), nP_J (Or.inl (by omega))]
    | 4, _, _, _, hd, hyN =>
      have hy := hyN hd (by omega)
      show Sum.inr (1, fP (newP S a ae al b le mx sp) y) = Sum.inr (1, fP S y)
      unfold fP
      rw [nP_I hy (by omega), nP_I hy (by omega), nP_I hy (by omega), nP_I hy (by omega), nP_I hy (by omega), nP_I hy (by omega), nP_I hy (by omega), nP_I hy (by omega), nP_J (Or.inr hy), nP_A (by omega) (Or.inr (Or.inr hy)), nP_A (by omega) (Or.inr (Or.inr hy))]
    | 5, _, _, _, hd, hyN =>
      have hy := hyN hd (by omega)
      show Sum.inl (G 1, 124, Sum.inl ((newP S a ae al b le mx sp).I 18 y)) = Sum.inl (G 1, 124, Sum.inl (S.I 18 y))
      rw [show (newP S a ae al b le mx sp).I 18 y = S.I 18 y from funext (fun j => nP_I hy (by omega))]
    | 6, _, _, _, hd, hyN =>
      have hy := hyN hd (by omega)
      show Sum.inr (4, fA G ((newP S a ae al b le mx sp).C 1 y) ((newP S a ae al b le mx sp).ad 7 y 0) ((newP S a ae al b le mx sp).I 19 y 0)) = Sum.inr (4, fA G (S.C 1 y) (S.ad 7 y 0) (S.I 19 y 0))
      rw [nP_Ci hy, nP_A (by omega) (Or.inr (Or.inr hy)), nP_I hy (by omega)]
    | 7, _, _, _, hd, hyN =>
      have hy := hyN hd (by omega)
      show Sum.inl (G 4, 10, Sum.inr (Sum.inr (Sum.inr (Sum.inr (rfs ((newP S a ae al b le mx sp).C 1 y) ((newP S a ae al b le mx sp).ad 8 y)))))) = _
      rw [nP_Ci hy, show (newP S a ae al b le mx sp).ad 8 y = S.ad 8 y from funext (fun k => nP_A (by omega) (Or.inr (Or.inr hy)))]
      rfl
    | 8, _, _, _, hd, hyN =>
      have hy := hyN hd (by omega)
      show Sum.inr (2, fD (newP S a ae al b le mx sp) y z) = Sum.inr (2, fD S y z)
      unfold fD
      rw [nP_I hy (by omega), nP_I hy (by omega), nP_I hy (by omega), nP_I hy (by omega), nP_J (Or.inr hy), nP_J (Or.inr hy), nP_J (Or.inr hy)]
    | x + 9, hx, _, _, _, _ => omega
end NP
end
section
abbrev okP (le mx : Int32) (sp : Int64) : Prop := (0 ≤ le.toInt64 ∧ le.toInt64 ≤ 1000) ∧ (le.toInt64 ≤ mx.toInt64 ∧ mx.toInt64 ≤ 1000) ∧ (0 ≤ sp ∧ sp ≤ 100)
def paP (G : Nat → Nat) (S : cS) (ω : hm_T) (le mx : Int32) (sp : Int64) (v : Option Value) (w : hm_T) : Prop :=
  (¬ okP le mx sp ∧ v = some (.int (-2)) ∧ w = wS G S ω) ∨ (okP le mx sp ∧ ¬ S.C 0 0 < 20 ∧ v = some (.int (-4)) ∧ w = wS G S ω) ∨
  (okP le mx sp ∧ S.C 0 0 < 20 ∧ ∃ a ae al b, v = some (.int (nI (S.C 0 0 + 1))) ∧ w = wS G (newP S a ae al b le mx sp) ω)
theorem rfs_up4 (S : cS) (a : Nat) : va_up (rfs (S.C 0 0) (fun j => S.ad 4 j 0)) (S.C 0 0) (some a) = rfs (S.C 0 0 + 1) (fun j => if j = S.C 0 0 then a else S.ad 4 j 0) := by
  funext j
  by_cases h : j = S.C 0 0
  · subst h
    simp [va_up, rfs]
  · by_cases h2 : j < S.C 0 0
    · simp [va_up, rfs, h, h2, Nat.lt_succ_of_lt h2]
    · have : ¬ j < S.C 0 0 + 1 := by omega
      simp [va_up, rfs, h, h2, this]
theorem rfs_up40 (S : cS) (a : Nat) (h0 : S.C 0 0 = 0) : va_up (fun _ => none) 0 (some a) = rfs (S.C 0 0 + 1) (fun j => if j = S.C 0 0 then a else S.ad 4 j 0) := by
  rw [← rfs_up4, h0]
  funext j
  by_cases h : j = 0 <;> simp [va_up, rfs, h]
theorem rfs_up4g (S : cS) (a : Nat) {N : Nat} (h0 : S.C 0 0 = N) : va_up (va_cpy (rfs N (fun j => S.ad 4 j 0)) (fun _ => none) 0 0 N) N (some a) = rfs (S.C 0 0 + 1) (fun j => if j = S.C 0 0 then a else S.ad 4 j 0) := by
  rw [← rfs_up4, h0]
  funext j
  by_cases h : j = N
  · simp [va_up, h]
  · by_cases h2 : j < N
    · simp [va_up, h, va_cpy, h2]
    · simp [va_up, h, va_cpy, h2, rfs]

set_option maxHeartbeats 4000000 in
set_option maxRecDepth 100000 in
theorem k_W_part (l : Launch) (D : va_G) (A : Nat → Prop) (G : Nat → Nat) (S : cS) (ω : hm_T) (h20 : S.C 0 0 ≤ 20) (hall : ∀ i, i < S.C 0 0 → S.C 1 i ≤ 10) (hω : ω (99, 0, 0) = none) (le mx : Int32) (sp : Int64) (hth : ¬ (okP le mx sp ∧ S.C 0 0 < 20 ∧ sp = 0)) : Met l y_W_part (.code y_W_part c_W_part 5 (some .int) :: wsA) { frames := 8, cells := 4, slots := 160, locals := 171 } (va_Pc [.ref (S.ad 0 0 0), .int le, .int mx, .long sp] (ctU D A G (wS G S ω))) (hm_Q D cls A (paP G S ω le mx sp)) 4 160 A := by
  refine ct_met (by decide) (Nat.le_of_ble_eq_true rfl) ?_
  rintro p e s m below meth c ls X hr hlocks hnm hl ⟨hB, hK⟩
  have hl : lv_has ls 5 [(0, .ref (S.ad 0 0 0)), (1, .int le), (2, .int mx), (3, .long sp)] := hl
  have hY : hm_Y D cls A s.heap (wS G S ω) s.heap [] := hm_Y.start hB hK.2.2.2
  refine lv_iload_n X.1 X.2.1 d_W_part_0 rfl (lv_at hl 1 rfl) ?_
  refine lv_i2l (v := le.toInt64) X.1 X.2.1 d_W_part_1 rfl ?_
  refine lv_lconst (v := 0) X.1 X.2.1 d_W_part_2 (by decide) ?_
  refine lv_ldc2 X.1 X.2.1 X.2.2.2.1 (X.2.2.2.2 _ m_370) d_W_part_3 ?_
  refine hm_callR (ct_runS (n := 3) X hK hY (k_W_isWithin l D A G (wS G S ω) le.toInt64 0 1000) m_119 m_117 m_118 m_1 (by decide +kernel) ⟨Nat.le_of_ble_eq_true rfl, Nat.le_of_ble_eq_true rfl⟩ ⟨rfl, rfl⟩ rfl hl.1 rfl (Nat.le_of_ble_eq_true rfl) d_W_part_6 ⟨Nat.le_of_ble_eq_true rfl, Nat.le_of_ble_eq_true rfl⟩) (fun v hv => ?_)
  subst hv
  refine W.eq (g2 := F0 m 9 ls [.int (b2 (0 ≤ le.toInt64 ∧ le.toInt64 ≤ 1000))]) rfl ?_
  refine lv_if_eq (tgt := 36) X.1 X.2.1 d_W_part_9 (by decide) (fun c1 => ?_) (fun c1 => ?_)
  · have c1 : ¬ (0 ≤ le.toInt64 ∧ le.toInt64 ≤ 1000) := b2_0.mp c1
    refine lv_bipush (v := (-2)) X.1 X.2.1 d_W_part_36 (by decide) ?_
    refine W.widen (k := 4) (n := 160) (Nat.le_of_ble_eq_true rfl) (Nat.le_of_ble_eq_true rfl) ?_
    exact en_iW X hY hr hlocks d_W_part_38 (Or.inl ⟨fun z => c1 z.1, rfl, rfl⟩)
  · have c1 : (0 ≤ le.toInt64 ∧ le.toInt64 ≤ 1000) := Classical.byContradiction (fun z => c1 (b2_0.mpr z))
    refine lv_iload_n X.1 X.2.1 d_W_part_12 rfl (lv_at hl 2 rfl) ?_
    refine lv_i2l (v := mx.toInt64) X.1 X.2.1 d_W_part_13 rfl ?_
    refine lv_iload_n X.1 X.2.1 d_W_part_14 rfl (lv_at hl 1 rfl) ?_
    refine lv_i2l (v := le.toInt64) X.1 X.2.1 d_W_part_15 rfl ?_
    refine lv_ldc2 X.1 X.2.1 X.2.2.2.1 (X.2.2.2.2 _ m_370) d_W_part_16 ?_
    refine hm_callR (ct_runS (n := 3) X hK hY (k_W_isWithin l D A G (wS G S ω) mx.toInt64 le.toInt64 1000) m_119 m_117 m_118 m_1 (by decide +kernel) ⟨Nat.le_of_ble_eq_true rfl, Nat.le_of_ble_eq_true rfl⟩ ⟨rfl, rfl⟩ rfl hl.1 rfl (Nat.le_of_ble_eq_true rfl) d_W_part_19 ⟨Nat.le_of_ble_eq_true rfl, Nat.le_of_ble_eq_true rfl⟩) (fun v hv => ?_)
    subst hv
    refine W.eq (g2 := F0 m 22 ls [.int (b2 (le.toInt64 ≤ mx.toInt64 ∧ mx.toInt64 ≤ 1000))]) rfl ?_
    refine lv_if_eq (tgt := 36) X.1 X.2.1 d_W_part_22 (by decide) (fun c2 => ?_) (fun c2 => ?_)
    · have c2 : ¬ (le.toInt64 ≤ mx.toInt64 ∧ mx.toInt64 ≤ 1000) := b2_0.mp c2
      refine lv_bipush (v := (-2)) X.1 X.2.1 d_W_part_36 (by decide) ?_
      refine W.widen (k := 4) (n := 160) (Nat.le_of_ble_eq_true rfl) (Nat.le_of_ble_eq_true rfl) ?_
      exact en_iW X hY hr hlocks d_W_part_38 (Or.inl ⟨fun z => c2 z.2.1, rfl, rfl⟩)
    · have c2 : (le.toInt64 ≤ mx.toInt64 ∧ mx.toInt64 ≤ 1000) := Classical.byContradiction (fun z => c2 (b2_0.mpr z))
      refine lv_lload_n X.1 X.2.1 d_W_part_25 rfl (lv_at hl 3 rfl) ?_
      refine lv_lconst (v := 0) X.1 X.2.1 d_W_part_26 (by decide) ?_
      refine lv_ldc2 X.1 X.2.1 X.2.2.2.1 (X.2.2.2.2 _ m_315) d_W_part_27 ?_
      refine hm_callR (ct_runS (n := 3) X hK hY (k_W_isWithin l D A G (wS G S ω) sp 0 100) m_119 m_117 m_118 m_1 (by decide +kernel) ⟨Nat.le_of_ble_eq_true rfl, Nat.le_of_ble_eq_true rfl⟩ ⟨rfl, rfl⟩ rfl hl.1 rfl (Nat.le_of_ble_eq_true rfl) d_W_part_30 ⟨Nat.le_of_ble_eq_true rfl, Nat.le_of_ble_eq_true rfl⟩) (fun v hv => ?_)
      subst hv
      refine W.eq (g2 := F0 m 33 ls [.int (b2 (0 ≤ sp ∧ sp ≤ 100))]) rfl ?_
      refine lv_if_ne (tgt := 39) X.1 X.2.1 d_W_part_33 (by decide) (fun c3 => ?_) (fun c3 => ?_)
      · have c3 : (0 ≤ sp ∧ sp ≤ 100) := Classical.byContradiction (fun z => c3 (b2_0.mpr z))
        refine lv_aload_n X.1 X.2.1 d_W_part_39 rfl (lv_at hl 0 rfl) ?_
        refine hm_get ⟨X, hK.1⟩ hY w0 0 (v := .ref (S.ad 1 0 0)) rfl rfl (Nat.le_of_ble_eq_true rfl) hu_W m_74 (fun _ h => h) d_W_part_40 ?_
        refine hm_callR (ct_runV (n := 0) X hK hY (k_size1 l D A G S ω) m_116 m_113 m_114 m_115 m_4 (by decide +kernel) ⟨Nat.le_of_ble_eq_true rfl, Nat.le_of_ble_eq_true rfl⟩ ⟨rfl, rfl⟩ (hm_recv ⟨X, hK.1⟩ hY w1 rfl) rfl hl.1 rfl (Nat.le_of_ble_eq_true rfl) d_W_part_43 ⟨Nat.le_of_ble_eq_true rfl, Nat.le_of_ble_eq_true rfl⟩) (fun v hv => ?_)
        subst hv
        refine W.eq (g2 := F0 m 46 ls [.int (nI (S.C 0 0))]) rfl ?_
        refine lv_bipush (v := 20) X.1 X.2.1 d_W_part_46 (by decide) ?_
        have hok : okP le mx sp := ⟨c1, c2, c3⟩
        refine lv_icmp_lt (tgt := 54) X.1 X.2.1 d_W_part_48 (by decide) (fun c5 => ?_) (fun c5 => ?_)
        · have c5 : S.C 0 0 < 20 := by rcases Nat.lt_or_ge (S.C 0 0) 20 with q | q; exact q; exact absurd c5 (nI_nlt (b := 20) q (by omega))
          refine lv_lload_n X.1 X.2.1 d_W_part_54 rfl (lv_at hl 3 rfl) ?_
          refine lv_lconst (v := 0) X.1 X.2.1 d_W_part_55 (by decide) ?_
          refine lc_ne (tgt := 70) X d_W_part_56 d_W_part_57 (by decide) (fun c4 => ?_) (fun c4 => ?_)
          · refine lv_aload_n X.1 X.2.1 d_W_part_70 rfl (lv_at hl 0 rfl) ?_
            refine hm_get ⟨X, hK.1⟩ hY w0 0 (v := .ref (S.ad 1 0 0)) rfl rfl (Nat.le_of_ble_eq_true rfl) hu_W m_74 (fun _ h => h) d_W_part_71 ?_
            refine hm_new ⟨X, hK.1⟩ hY (4, S.C 0 0, 0) [.int 0, .int 0, .long 0, .null, .null, .int 0, .int 0, .int 0, .int 0, .int 0, .int 0] (ci := 1) rfl hu_P ty_P ty_P_ok m_134 m_261 m_11 (fun j hj => by rcases (show j = 0 ∨ j = 1 ∨ j = 2 ∨ j = 3 ∨ j = 4 ∨ j = 5 ∨ j = 6 ∨ j = 7 ∨ j = 8 ∨ j = 9 ∨ j = 10 by omega) with rfl | rfl | rfl | rfl | rfl | rfl | rfl | rfl | rfl | rfl | rfl <;> rfl) (Nat.le_of_ble_eq_true rfl) (Nat.le_of_ble_eq_true rfl) d_W_part_74 (fun a H hY => ?_)
            refine lv_dup X.1 X.2.1 d_W_part_77 rfl ?_
            refine lv_iload_n X.1 X.2.1 d_W_part_78 rfl (lv_at hl 1 rfl) ?_
            refine lv_iload_n X.1 X.2.1 d_W_part_79 rfl (lv_at hl 2 rfl) ?_
            refine lv_lload_n X.1 X.2.1 d_W_part_80 rfl (lv_at hl 3 rfl) ?_
            refine hm_call (ct_runI (n := 3) X hK hY (k_P_init l D A G (hm_up (wS G S ω) (4, S.C 0 0, 0) (a, .inr (1, [.int 0, .int 0, .long 0, .null, .null, .int 0, .int 0, .int 0, .int 0, .int 0, .int 0]))) (4, S.C 0 0, 0) (5, S.C 0 0, 0) (6, S.C 0 0, 0) a (.int 0) (.int 0) (.long 0) (.null) (.null) (.int 0) (.int 0) (.int 0) (.int 0) (.int 0) (.int 0) (hm_up_s _ _ _) (by simp) (by simp) le mx sp) m_439 m_437 m_438 m_11 rfl (by decide +kernel) ⟨Nat.le_of_ble_eq_true rfl, Nat.le_of_ble_eq_true rfl⟩ ⟨rfl, rfl⟩ rfl hl.1 rfl (Nat.le_of_ble_eq_true rfl) d_W_part_81 ⟨Nat.le_of_ble_eq_true rfl, Nat.le_of_ble_eq_true rfl⟩) hY (fun v w1 H locs hp hY => ?_)
            obtain ⟨ae, al, rfl, rfl⟩ := hp
            have hY : hm_Y D cls A s.heap (hm_up (hm_up (hm_up (wS G S ω) (5, S.C 0 0, 0) (ae, .inl (G 1, 124, .inl (fun _ => 0)))) (6, S.C 0 0, 0) (al, .inr (4, [.ref (G 0), .int 0, .int 0]))) (4, S.C 0 0, 0) (a, .inr (1, [.int le, .int mx, .long sp, .ref ae, .ref al, .int 0, .int 0, .int 0, .int 0, .int 0, .int 0]))) H locs := by rw [hm_uc (wS G S ω) _ _ (show (4, S.C 0 0, 0) ≠ (5, S.C 0 0, 0) by simp), hm_uc _ _ _ (show (4, S.C 0 0, 0) ≠ (6, S.C 0 0, 0) by simp), hm_uu] at hY; exact hY
            refine W.eq (g2 := F0 m 84 ls [.ref a, .ref (S.ad 1 0 0)]) rfl ?_
            have hcase : S.C 0 0 = 0 ∨ S.C 0 0 = 10 ∨ S.C 0 0 = 15 ∨ (0 < S.C 0 0 ∧ S.C 0 0 < cap (S.C 0 0) ∧ cap (S.C 0 0 + 1) = cap (S.C 0 0)) := by
              unfold cap
              repeat' split
              all_goals omega
            rcases hcase with h0 | h0 | h0 | ⟨h0, hcp, hce⟩
            · have hn : (hm_up (hm_up (hm_up (wS G S ω) (5, S.C 0 0, 0) (ae, .inl (G 1, 124, .inl (fun _ => 0)))) (6, S.C 0 0, 0) (al, .inr (4, [.ref (G 0), .int 0, .int 0]))) (4, S.C 0 0, 0) (a, .inr (1, [.int le, .int mx, .long sp, .ref ae, .ref al, .int 0, .int 0, .int 0, .int 0, .int 0, .int 0]))) (1, 0, 0) = some (S.ad 1 0 0, .inr (4, [.ref (G 0), .int 0, .int (S.I 6 0 0)])) := by rw [hm_up_n _ _ (show (1, 0, 0) ≠ (4, S.C 0 0, 0) by simp), hm_up_n _ _ (show (1, 0, 0) ≠ (6, S.C 0 0, 0) by simp), hm_up_n _ _ (show (1, 0, 0) ≠ (5, S.C 0 0, 0) by simp), w1, h0]; rfl
              refine hm_call (ct_runV (n := 1) X hK hY (k_A_add_fP l D A G (hm_up (hm_up (hm_up (wS G S ω) (5, S.C 0 0, 0) (ae, .inl (G 1, 124, .inl (fun _ => 0)))) (6, S.C 0 0, 0) (al, .inr (4, [.ref (G 0), .int 0, .int 0]))) (4, S.C 0 0, 0) (a, .inr (1, [.int le, .int mx, .long sp, .ref ae, .ref al, .int 0, .int 0, .int 0, .int 0, .int 0, .int 0]))) (1, 0, 0) (2, 0, 0) (S.ad 1 0 0) (S.I 6 0 0) hn (by simp) a (4, S.C 0 0, 0) [.int le, .int mx, .long sp, .ref ae, .ref al, .int 0, .int 0, .int 0, .int 0, .int 0, .int 0] (hm_up_s _ _ _) (by simp) (by simp)) m_194 m_191 m_192 m_193 m_4 (by decide +kernel) ⟨Nat.le_of_ble_eq_true rfl, Nat.le_of_ble_eq_true rfl⟩ ⟨rfl, rfl⟩ (hm_recv ⟨X, hK.1⟩ hY hn rfl) rfl hl.1 rfl (Nat.le_of_ble_eq_true rfl) d_W_part_84 ⟨Nat.le_of_ble_eq_true rfl, Nat.le_of_ble_eq_true rfl⟩) hY (fun v w1 H locs hp hY => ?_)
              obtain ⟨b, rfl, rfl⟩ := hp
              refine W.eq (g2 := F0 m 87 ls [.int 1]) rfl ?_
              have hY : hm_Y D cls A s.heap (wS G (newP S a ae al b le mx sp) ω) H locs := by rw [← wP_eq (rfs_up40 S a h0), show nI (S.C 0 0 + 1) = 1 by rw [h0]; rfl, show cap (S.C 0 0 + 1) = 10 by rw [h0]; rfl]; exact hY
              refine W.widen (k := 4) (n := 160) (Nat.le_of_ble_eq_true rfl) (Nat.le_of_ble_eq_true rfl) ?_
              have hA0 : (newP S a ae al b le mx sp).ad 0 0 0 = S.ad 0 0 0 := nP_A (by decide) (Or.inl (by decide))
              have hl : lv_has ls 5 [(0, .ref ((newP S a ae al b le mx sp).ad 0 0 0)), (1, .int le), (2, .int mx), (3, .long sp)] := by rw [hA0]; exact hl
              refine lv_pop X.1 X.2.1 d_W_part_87 rfl ?_
              refine lv_aload_n X.1 X.2.1 d_W_part_88 rfl (lv_at hl 0 rfl) ?_
              refine hm_get ⟨X, hK.1⟩ hY w0 0 (v := .ref ((newP S a ae al b le mx sp).ad 1 0 0)) rfl rfl (Nat.le_of_ble_eq_true rfl) hu_W m_74 (fun _ h => h) d_W_part_89 ?_
              refine hm_callR (ct_runV (n := 0) X hK hY (k_size1 l D A G (newP S a ae al b le mx sp) ω) m_116 m_113 m_114 m_115 m_4 (by decide +kernel) ⟨Nat.le_of_ble_eq_true rfl, Nat.le_of_ble_eq_true rfl⟩ ⟨rfl, rfl⟩ (hm_recv ⟨X, hK.1⟩ hY w1 rfl) rfl hl.1 rfl (Nat.le_of_ble_eq_true rfl) d_W_part_92 ⟨Nat.le_of_ble_eq_true rfl, Nat.le_of_ble_eq_true rfl⟩) (fun v hv => ?_)
              subst hv
              refine W.eq (g2 := F0 m 95 ls [.int (nI ((newP S a ae al b le mx sp).C 0 0))]) rfl ?_
              exact en_iW X hY hr hlocks d_W_part_95 (Or.inr (Or.inr ⟨hok, c5, a, ae, al, b, by rw [nP_C0], rfl⟩))
            · have hn : (hm_up (hm_up (hm_up (wS G S ω) (5, S.C 0 0, 0) (ae, .inl (G 1, 124, .inl (fun _ => 0)))) (6, S.C 0 0, 0) (al, .inr (4, [.ref (G 0), .int 0, .int 0]))) (4, S.C 0 0, 0) (a, .inr (1, [.int le, .int mx, .long sp, .ref ae, .ref al, .int 0, .int 0, .int 0, .int 0, .int 0, .int 0]))) (1, 0, 0) = some (S.ad 1 0 0, .inr (4, [.ref (S.ad 2 0 0), .int 10, .int (S.I 6 0 0)])) := by rw [hm_up_n _ _ (show (1, 0, 0) ≠ (4, S.C 0 0, 0) by simp), hm_up_n _ _ (show (1, 0, 0) ≠ (6, S.C 0 0, 0) by simp), hm_up_n _ _ (show (1, 0, 0) ≠ (5, S.C 0 0, 0) by simp), w1, fA_p (by omega), h0]; rfl
              have hb : (hm_up (hm_up (hm_up (wS G S ω) (5, S.C 0 0, 0) (ae, .inl (G 1, 124, .inl (fun _ => 0)))) (6, S.C 0 0, 0) (al, .inr (4, [.ref (G 0), .int 0, .int 0]))) (4, S.C 0 0, 0) (a, .inr (1, [.int le, .int mx, .long sp, .ref ae, .ref al, .int 0, .int 0, .int 0, .int 0, .int 0, .int 0]))) (2, 0, 0) = some (S.ad 2 0 0, .inl (G 4, 10, .inr (.inr (.inr (.inr (rfs 10 (fun j => S.ad 4 j 0))))))) := by rw [hm_up_n _ _ (show (2, 0, 0) ≠ (4, S.C 0 0, 0) by simp), hm_up_n _ _ (show (2, 0, 0) ≠ (6, S.C 0 0, 0) by simp), hm_up_n _ _ (show (2, 0, 0) ≠ (5, S.C 0 0, 0) by simp), w2 (by omega), h0]; rfl
              have hnt : (hm_up (hm_up (hm_up (wS G S ω) (5, S.C 0 0, 0) (ae, .inl (G 1, 124, .inl (fun _ => 0)))) (6, S.C 0 0, 0) (al, .inr (4, [.ref (G 0), .int 0, .int 0]))) (4, S.C 0 0, 0) (a, .inr (1, [.int le, .int mx, .long sp, .ref ae, .ref al, .int 0, .int 0, .int 0, .int 0, .int 0, .int 0]))) (99, 0, 0) = none := by rw [hm_up_n _ _ (show (99, 0, 0) ≠ (4, S.C 0 0, 0) by simp), hm_up_n _ _ (show (99, 0, 0) ≠ (6, S.C 0 0, 0) by simp), hm_up_n _ _ (show (99, 0, 0) ≠ (5, S.C 0 0, 0) by simp), wS_big (by decide)]; exact hω
              have hel : ∀ j y, rfs 10 (fun j => S.ad 4 j 0) j = some y → ∃ (nm : hm_N) (fs : List Value), (hm_up (hm_up (hm_up (wS G S ω) (5, S.C 0 0, 0) (ae, .inl (G 1, 124, .inl (fun _ => 0)))) (6, S.C 0 0, 0) (al, .inr (4, [.ref (G 0), .int 0, .int 0]))) (4, S.C 0 0, 0) (a, .inr (1, [.int le, .int mx, .long sp, .ref ae, .ref al, .int 0, .int 0, .int 0, .int 0, .int 0, .int 0]))) nm = some (y, .inr (1, fs)) := by
                intro j y hy
                have hj : j < 10 := by rcases Nat.lt_or_ge j 10 with q | q; exact q; simp [rfs, Nat.not_lt.mpr q] at hy
                have hy2 : y = S.ad 4 j 0 := by simp [rfs, hj] at hy; exact hy.symm
                have hne : j ≠ S.C 0 0 := by omega
                exact ⟨(4, j, 0), fP S j, by rw [hm_up_n _ _ (by simp [hne]), hm_up_n _ _ (by simp), hm_up_n _ _ (by simp), w4 (by omega), hy2]⟩
              refine hm_call (ct_runV (n := 1) X hK hY (k_A_add_m15P l D A G (hm_up (hm_up (hm_up (wS G S ω) (5, S.C 0 0, 0) (ae, .inl (G 1, 124, .inl (fun _ => 0)))) (6, S.C 0 0, 0) (al, .inr (4, [.ref (G 0), .int 0, .int 0]))) (4, S.C 0 0, 0) (a, .inr (1, [.int le, .int mx, .long sp, .ref ae, .ref al, .int 0, .int 0, .int 0, .int 0, .int 0, .int 0]))) (1, 0, 0) (2, 0, 0) (S.ad 1 0 0) (S.I 6 0 0) (S.ad 2 0 0) _ hn (by simp) hb hnt hel a (4, S.C 0 0, 0) [.int le, .int mx, .long sp, .ref ae, .ref al, .int 0, .int 0, .int 0, .int 0, .int 0, .int 0] (hm_up_s _ _ _) (by simp) (by simp)) m_194 m_191 m_192 m_193 m_4 (by decide +kernel) ⟨Nat.le_of_ble_eq_true rfl, Nat.le_of_ble_eq_true rfl⟩ ⟨rfl, rfl⟩ (hm_recv ⟨X, hK.1⟩ hY hn rfl) rfl hl.1 rfl (Nat.le_of_ble_eq_true rfl) d_W_part_84 ⟨Nat.le_of_ble_eq_true rfl, Nat.le_of_ble_eq_true rfl⟩) hY (fun v w1 H locs hp hY => ?_)
              obtain ⟨b, rfl, rfl⟩ := hp
              refine W.eq (g2 := F0 m 87 ls [.int 1]) rfl ?_
              have hY : hm_Y D cls A s.heap (wS G (newP S a ae al b le mx sp) ω) H locs := by rw [← wP_eq (rfs_up4g S a h0), show nI (S.C 0 0 + 1) = 11 by rw [h0]; rfl, show cap (S.C 0 0 + 1) = 15 by rw [h0]; rfl]; exact hY
              refine W.widen (k := 4) (n := 160) (Nat.le_of_ble_eq_true rfl) (Nat.le_of_ble_eq_true rfl) ?_
              have hA0 : (newP S a ae al b le mx sp).ad 0 0 0 = S.ad 0 0 0 := nP_A (by decide) (Or.inl (by decide))
              have hl : lv_has ls 5 [(0, .ref ((newP S a ae al b le mx sp).ad 0 0 0)), (1, .int le), (2, .int mx), (3, .long sp)] := by rw [hA0]; exact hl
              refine lv_pop X.1 X.2.1 d_W_part_87 rfl ?_
              refine lv_aload_n X.1 X.2.1 d_W_part_88 rfl (lv_at hl 0 rfl) ?_
              refine hm_get ⟨X, hK.1⟩ hY w0 0 (v := .ref ((newP S a ae al b le mx sp).ad 1 0 0)) rfl rfl (Nat.le_of_ble_eq_true rfl) hu_W m_74 (fun _ h => h) d_W_part_89 ?_
              refine hm_callR (ct_runV (n := 0) X hK hY (k_size1 l D A G (newP S a ae al b le mx sp) ω) m_116 m_113 m_114 m_115 m_4 (by decide +kernel) ⟨Nat.le_of_ble_eq_true rfl, Nat.le_of_ble_eq_true rfl⟩ ⟨rfl, rfl⟩ (hm_recv ⟨X, hK.1⟩ hY w1 rfl) rfl hl.1 rfl (Nat.le_of_ble_eq_true rfl) d_W_part_92 ⟨Nat.le_of_ble_eq_true rfl, Nat.le_of_ble_eq_true rfl⟩) (fun v hv => ?_)
              subst hv
              refine W.eq (g2 := F0 m 95 ls [.int (nI ((newP S a ae al b le mx sp).C 0 0))]) rfl ?_
              exact en_iW X hY hr hlocks d_W_part_95 (Or.inr (Or.inr ⟨hok, c5, a, ae, al, b, by rw [nP_C0], rfl⟩))
            · have hn : (hm_up (hm_up (hm_up (wS G S ω) (5, S.C 0 0, 0) (ae, .inl (G 1, 124, .inl (fun _ => 0)))) (6, S.C 0 0, 0) (al, .inr (4, [.ref (G 0), .int 0, .int 0]))) (4, S.C 0 0, 0) (a, .inr (1, [.int le, .int mx, .long sp, .ref ae, .ref al, .int 0, .int 0, .int 0, .int 0, .int 0, .int 0]))) (1, 0, 0) = some (S.ad 1 0 0, .inr (4, [.ref (S.ad 2 0 0), .int 15, .int (S.I 6 0 0)])) := by rw [hm_up_n _ _ (show (1, 0, 0) ≠ (4, S.C 0 0, 0) by simp), hm_up_n _ _ (show (1, 0, 0) ≠ (6, S.C 0 0, 0) by simp), hm_up_n _ _ (show (1, 0, 0) ≠ (5, S.C 0 0, 0) by simp), w1, fA_p (by omega), h0]; rfl
              have hb : (hm_up (hm_up (hm_up (wS G S ω) (5, S.C 0 0, 0) (ae, .inl (G 1, 124, .inl (fun _ => 0)))) (6, S.C 0 0, 0) (al, .inr (4, [.ref (G 0), .int 0, .int 0]))) (4, S.C 0 0, 0) (a, .inr (1, [.int le, .int mx, .long sp, .ref ae, .ref al, .int 0, .int 0, .int 0, .int 0, .int 0, .int 0]))) (2, 0, 0) = some (S.ad 2 0 0, .inl (G 4, 15, .inr (.inr (.inr (.inr (rfs 15 (fun j => S.ad 4 j 0))))))) := by rw [hm_up_n _ _ (show (2, 0, 0) ≠ (4, S.C 0 0, 0) by simp), hm_up_n _ _ (show (2, 0, 0) ≠ (6, S.C 0 0, 0) by simp), hm_up_n _ _ (show (2, 0, 0) ≠ (5, S.C 0 0, 0) by simp), w2 (by omega), h0]; rfl
              have hnt : (hm_up (hm_up (hm_up (wS G S ω) (5, S.C 0 0, 0) (ae, .inl (G 1, 124, .inl (fun _ => 0)))) (6, S.C 0 0, 0) (al, .inr (4, [.ref (G 0), .int 0, .int 0]))) (4, S.C 0 0, 0) (a, .inr (1, [.int le, .int mx, .long sp, .ref ae, .ref al, .int 0, .int 0, .int 0, .int 0, .int 0, .int 0]))) (99, 0, 0) = none := by rw [hm_up_n _ _ (show (99, 0, 0) ≠ (4, S.C 0 0, 0) by simp), hm_up_n _ _ (show (99, 0, 0) ≠ (6, S.C 0 0, 0) by simp), hm_up_n _ _ (show (99, 0, 0) ≠ (5, S.C 0 0, 0) by simp), wS_big (by decide)]; exact hω
              have hel : ∀ j y, rfs 15 (fun j => S.ad 4 j 0) j = some y → ∃ (nm : hm_N) (fs : List Value), (hm_up (hm_up (hm_up (wS G S ω) (5, S.C 0 0, 0) (ae, .inl (G 1, 124, .inl (fun _ => 0)))) (6, S.C 0 0, 0) (al, .inr (4, [.ref (G 0), .int 0, .int 0]))) (4, S.C 0 0, 0) (a, .inr (1, [.int le, .int mx, .long sp, .ref ae, .ref al, .int 0, .int 0, .int 0, .int 0, .int 0, .int 0]))) nm = some (y, .inr (1, fs)) := by
                intro j y hy
                have hj : j < 15 := by rcases Nat.lt_or_ge j 15 with q | q; exact q; simp [rfs, Nat.not_lt.mpr q] at hy
                have hy2 : y = S.ad 4 j 0 := by simp [rfs, hj] at hy; exact hy.symm
                have hne : j ≠ S.C 0 0 := by omega
                exact ⟨(4, j, 0), fP S j, by rw [hm_up_n _ _ (by simp [hne]), hm_up_n _ _ (by simp), hm_up_n _ _ (by simp), w4 (by omega), hy2]⟩
              refine hm_call (ct_runV (n := 1) X hK hY (k_A_add_m22P l D A G (hm_up (hm_up (hm_up (wS G S ω) (5, S.C 0 0, 0) (ae, .inl (G 1, 124, .inl (fun _ => 0)))) (6, S.C 0 0, 0) (al, .inr (4, [.ref (G 0), .int 0, .int 0]))) (4, S.C 0 0, 0) (a, .inr (1, [.int le, .int mx, .long sp, .ref ae, .ref al, .int 0, .int 0, .int 0, .int 0, .int 0, .int 0]))) (1, 0, 0) (2, 0, 0) (S.ad 1 0 0) (S.I 6 0 0) (S.ad 2 0 0) _ hn (by simp) hb hnt hel a (4, S.C 0 0, 0) [.int le, .int mx, .long sp, .ref ae, .ref al, .int 0, .int 0, .int 0, .int 0, .int 0, .int 0] (hm_up_s _ _ _) (by simp) (by simp)) m_194 m_191 m_192 m_193 m_4 (by decide +kernel) ⟨Nat.le_of_ble_eq_true rfl, Nat.le_of_ble_eq_true rfl⟩ ⟨rfl, rfl⟩ (hm_recv ⟨X, hK.1⟩ hY hn rfl) rfl hl.1 rfl (Nat.le_of_ble_eq_true rfl) d_W_part_84 ⟨Nat.le_of_ble_eq_true rfl, Nat.le_of_ble_eq_true rfl⟩) hY (fun v w1 H locs hp hY => ?_)
              obtain ⟨b, rfl, rfl⟩ := hp
              refine W.eq (g2 := F0 m 87 ls [.int 1]) rfl ?_
              have hY : hm_Y D cls A s.heap (wS G (newP S a ae al b le mx sp) ω) H locs := by rw [← wP_eq (rfs_up4g S a h0), show nI (S.C 0 0 + 1) = 16 by rw [h0]; rfl, show cap (S.C 0 0 + 1) = 22 by rw [h0]; rfl]; exact hY
              refine W.widen (k := 4) (n := 160) (Nat.le_of_ble_eq_true rfl) (Nat.le_of_ble_eq_true rfl) ?_
              have hA0 : (newP S a ae al b le mx sp).ad 0 0 0 = S.ad 0 0 0 := nP_A (by decide) (Or.inl (by decide))
              have hl : lv_has ls 5 [(0, .ref ((newP S a ae al b le mx sp).ad 0 0 0)), (1, .int le), (2, .int mx), (3, .long sp)] := by rw [hA0]; exact hl
              refine lv_pop X.1 X.2.1 d_W_part_87 rfl ?_
              refine lv_aload_n X.1 X.2.1 d_W_part_88 rfl (lv_at hl 0 rfl) ?_
              refine hm_get ⟨X, hK.1⟩ hY w0 0 (v := .ref ((newP S a ae al b le mx sp).ad 1 0 0)) rfl rfl (Nat.le_of_ble_eq_true rfl) hu_W m_74 (fun _ h => h) d_W_part_89 ?_
              refine hm_callR (ct_runV (n := 0) X hK hY (k_size1 l D A G (newP S a ae al b le mx sp) ω) m_116 m_113 m_114 m_115 m_4 (by decide +kernel) ⟨Nat.le_of_ble_eq_true rfl, Nat.le_of_ble_eq_true rfl⟩ ⟨rfl, rfl⟩ (hm_recv ⟨X, hK.1⟩ hY w1 rfl) rfl hl.1 rfl (Nat.le_of_ble_eq_true rfl) d_W_part_92 ⟨Nat.le_of_ble_eq_true rfl, Nat.le_of_ble_eq_true rfl⟩) (fun v hv => ?_)
              subst hv
              refine W.eq (g2 := F0 m 95 ls [.int (nI ((newP S a ae al b le mx sp).C 0 0))]) rfl ?_
              exact en_iW X hY hr hlocks d_W_part_95 (Or.inr (Or.inr ⟨hok, c5, a, ae, al, b, by rw [nP_C0], rfl⟩))
            · have hn : (hm_up (hm_up (hm_up (wS G S ω) (5, S.C 0 0, 0) (ae, .inl (G 1, 124, .inl (fun _ => 0)))) (6, S.C 0 0, 0) (al, .inr (4, [.ref (G 0), .int 0, .int 0]))) (4, S.C 0 0, 0) (a, .inr (1, [.int le, .int mx, .long sp, .ref ae, .ref al, .int 0, .int 0, .int 0, .int 0, .int 0, .int 0]))) (1, 0, 0) = some (S.ad 1 0 0, .inr (4, [.ref (S.ad 2 0 0), .int (nI (S.C 0 0)), .int (S.I 6 0 0)])) := by rw [hm_up_n _ _ (show (1, 0, 0) ≠ (4, S.C 0 0, 0) by simp), hm_up_n _ _ (show (1, 0, 0) ≠ (6, S.C 0 0, 0) by simp), hm_up_n _ _ (show (1, 0, 0) ≠ (5, S.C 0 0, 0) by simp), w1, fA_p (by omega)]
              have hb : (hm_up (hm_up (hm_up (wS G S ω) (5, S.C 0 0, 0) (ae, .inl (G 1, 124, .inl (fun _ => 0)))) (6, S.C 0 0, 0) (al, .inr (4, [.ref (G 0), .int 0, .int 0]))) (4, S.C 0 0, 0) (a, .inr (1, [.int le, .int mx, .long sp, .ref ae, .ref al, .int 0, .int 0, .int 0, .int 0, .int 0, .int 0]))) (2, 0, 0) = some (S.ad 2 0 0, .inl (G 4, cap (S.C 0 0), .inr (.inr (.inr (.inr (rfs (S.C 0 0) (fun j => S.ad 4 j 0))))))) := by rw [hm_up_n _ _ (show (2, 0, 0) ≠ (4, S.C 0 0, 0) by simp), hm_up_n _ _ (show (2, 0, 0) ≠ (6, S.C 0 0, 0) by simp), hm_up_n _ _ (show (2, 0, 0) ≠ (5, S.C 0 0, 0) by simp), w2 (by omega)]
              refine hm_call (ct_runV (n := 1) X hK hY (k_A_add_rP l D A G (hm_up (hm_up (hm_up (wS G S ω) (5, S.C 0 0, 0) (ae, .inl (G 1, 124, .inl (fun _ => 0)))) (6, S.C 0 0, 0) (al, .inr (4, [.ref (G 0), .int 0, .int 0]))) (4, S.C 0 0, 0) (a, .inr (1, [.int le, .int mx, .long sp, .ref ae, .ref al, .int 0, .int 0, .int 0, .int 0, .int 0, .int 0]))) (1, 0, 0) (2, 0, 0) (S.ad 1 0 0) (S.I 6 0 0) (S.ad 2 0 0) (cap (S.C 0 0)) (S.C 0 0) _ hn (by simp) hb hcp (by have := cap_le h20; omega) a (4, S.C 0 0, 0) [.int le, .int mx, .long sp, .ref ae, .ref al, .int 0, .int 0, .int 0, .int 0, .int 0, .int 0] (hm_up_s _ _ _) (by simp) (by simp)) m_194 m_191 m_192 m_193 m_4 (by decide +kernel) ⟨Nat.le_of_ble_eq_true rfl, Nat.le_of_ble_eq_true rfl⟩ ⟨rfl, rfl⟩ (hm_recv ⟨X, hK.1⟩ hY hn rfl) rfl hl.1 rfl (Nat.le_of_ble_eq_true rfl) d_W_part_84 ⟨Nat.le_of_ble_eq_true rfl, Nat.le_of_ble_eq_true rfl⟩) hY (fun v w1 H locs hp hY => ?_)
              obtain ⟨rfl, rfl⟩ := hp
              refine W.eq (g2 := F0 m 87 ls [.int 1]) rfl ?_
              have hY : hm_Y D cls A s.heap (wS G (newP S a ae al (S.ad 2 0 0) le mx sp) ω) H locs := by rw [← wP_eq (rfs_up4 S a), hce]; exact hY
              refine W.widen (k := 4) (n := 160) (Nat.le_of_ble_eq_true rfl) (Nat.le_of_ble_eq_true rfl) ?_
              have hA0 : (newP S a ae al (S.ad 2 0 0) le mx sp).ad 0 0 0 = S.ad 0 0 0 := nP_A (by decide) (Or.inl (by decide))
              have hl : lv_has ls 5 [(0, .ref ((newP S a ae al (S.ad 2 0 0) le mx sp).ad 0 0 0)), (1, .int le), (2, .int mx), (3, .long sp)] := by rw [hA0]; exact hl
              refine lv_pop X.1 X.2.1 d_W_part_87 rfl ?_
              refine lv_aload_n X.1 X.2.1 d_W_part_88 rfl (lv_at hl 0 rfl) ?_
              refine hm_get ⟨X, hK.1⟩ hY w0 0 (v := .ref ((newP S a ae al (S.ad 2 0 0) le mx sp).ad 1 0 0)) rfl rfl (Nat.le_of_ble_eq_true rfl) hu_W m_74 (fun _ h => h) d_W_part_89 ?_
              refine hm_callR (ct_runV (n := 0) X hK hY (k_size1 l D A G (newP S a ae al (S.ad 2 0 0) le mx sp) ω) m_116 m_113 m_114 m_115 m_4 (by decide +kernel) ⟨Nat.le_of_ble_eq_true rfl, Nat.le_of_ble_eq_true rfl⟩ ⟨rfl, rfl⟩ (hm_recv ⟨X, hK.1⟩ hY w1 rfl) rfl hl.1 rfl (Nat.le_of_ble_eq_true rfl) d_W_part_92 ⟨Nat.le_of_ble_eq_true rfl, Nat.le_of_ble_eq_true rfl⟩) (fun v hv => ?_)
              subst hv
              refine W.eq (g2 := F0 m 95 ls [.int (nI ((newP S a ae al (S.ad 2 0 0) le mx sp).C 0 0))]) rfl ?_
              exact en_iW X hY hr hlocks d_W_part_95 (Or.inr (Or.inr ⟨hok, c5, a, ae, al, (S.ad 2 0 0), by rw [nP_C0], rfl⟩))
          · exact absurd ⟨hok, c5, c4⟩ hth
        · have c5 : ¬ S.C 0 0 < 20 := fun q => c5 (nI_lt (b := 20) q (by omega))
          refine lv_bipush (v := (-4)) X.1 X.2.1 d_W_part_51 (by decide) ?_
          refine W.widen (k := 4) (n := 160) (Nat.le_of_ble_eq_true rfl) (Nat.le_of_ble_eq_true rfl) ?_
          exact en_iW X hY hr hlocks d_W_part_53 (Or.inr (Or.inl ⟨hok, c5, rfl, rfl⟩))
      · have c3 : ¬ (0 ≤ sp ∧ sp ≤ 100) := b2_0.mp c3
        refine lv_bipush (v := (-2)) X.1 X.2.1 d_W_part_36 (by decide) ?_
        refine W.widen (k := 4) (n := 160) (Nat.le_of_ble_eq_true rfl) (Nat.le_of_ble_eq_true rfl) ?_
        exact en_iW X hY hr hlocks d_W_part_38 (Or.inl ⟨fun z => c3 z.2.2, rfl, rfl⟩)
end
section
/-! THE MODEL'S STATE -/
abbrev mS : Type := (Nat → Nat) × (Nat → Nat → Int32) × (Nat → Nat → Int64)
abbrev mS.ad (M : mS) : Nat → Nat := M.1
abbrev mS.I (M : mS) : Nat → Nat → Int32 := M.2.1
abbrev mS.J (M : mS) : Nat → Nat → Int64 := M.2.2
def mS.sI (M : mS) (k j : Nat) (v : Int32) : mS := (M.1, up2 M.2.1 k j v, M.2.2)
def mS.sJ (M : mS) (k j : Nat) (v : Int64) : mS := (M.1, M.2.1, up2 M.2.2 k j v)
def fM (M : mS) : List Value := [.int (M.I 0 0), .int (M.I 1 0), .ref (M.ad 2), .ref (M.ad 3), .ref (M.ad 4), .ref (M.ad 5), .ref (M.ad 6), .ref (M.ad 7), .ref (M.ad 8), .ref (M.ad 9), .ref (M.ad 10), .ref (M.ad 11), .ref (M.ad 12), .ref (M.ad 13), .ref (M.ad 14), .ref (M.ad 15), .ref (M.ad 16), .ref (M.ad 17), .ref (M.ad 18), .int (M.I 19 0), .int (M.I 20 0), .long (M.J 21 0), .int (M.I 22 0), .int (M.I 23 0), .int (M.I 24 0), .int (M.I 25 0), .int (M.I 26 0), .int (M.I 27 0), .int (M.I 28 0), .long (M.J 29 0), .long (M.J 30 0)]
def mlen (k : Nat) : Nat := if k = 11 then 80724 else if k ≤ 12 then 21 else 210
def mcell (G : Nat → Nat) (M : mS) (k : Nat) : va_E := if k = 0 then .inr (5, fM M) else if k = 9 ∨ k = 11 then .inl (G 2, mlen k, .inl (M.I k)) else if 16 ≤ k then .inl (G 3, 210, .inr (.inl (M.J k))) else .inl (G 1, mlen k, .inl (M.I k))
def wM (G : Nat → Nat) (M : mS) (ω : hm_T) : hm_T := fun n => if n.1 = 30 then (if (n.2.1 = 0 ∨ (2 ≤ n.2.1 ∧ n.2.1 ≤ 18)) ∧ n.2.2 = 0 then some (M.ad n.2.1, mcell G M n.2.1) else none) else ω n
section MS1
variable {G : Nat → Nat} {M M' : mS} {ω : hm_T}
theorem up2_k {α : Type} (f : Nat → Nat → α) {k i a b : Nat} (v : α) (h : a ≠ k) : up2 f k i v a b = f a b := if_neg (fun z => h z.1)
theorem v_0 : wM G M ω (30, 0, 0) = some (M.ad 0, .inr (5, fM M)) := rfl
theorem v_2 : wM G M ω (30, 2, 0) = some (M.ad 2, .inl (G 1, 21, .inl (M.I 2))) := rfl
theorem v_3 : wM G M ω (30, 3, 0) = some (M.ad 3, .inl (G 1, 21, .inl (M.I 3))) := rfl
theorem v_4 : wM G M ω (30, 4, 0) = some (M.ad 4, .inl (G 1, 21, .inl (M.I 4))) := rfl
theorem v_5 : wM G M ω (30, 5, 0) = some (M.ad 5, .inl (G 1, 21, .inl (M.I 5))) := rfl
theorem v_6 : wM G M ω (30, 6, 0) = some (M.ad 6, .inl (G 1, 21, .inl (M.I 6))) := rfl
theorem v_7 : wM G M ω (30, 7, 0) = some (M.ad 7, .inl (G 1, 21, .inl (M.I 7))) := rfl
theorem v_8 : wM G M ω (30, 8, 0) = some (M.ad 8, .inl (G 1, 21, .inl (M.I 8))) := rfl
theorem v_9 : wM G M ω (30, 9, 0) = some (M.ad 9, .inl (G 2, 21, .inl (M.I 9))) := rfl
theorem v_10 : wM G M ω (30, 10, 0) = some (M.ad 10, .inl (G 1, 21, .inl (M.I 10))) := rfl
theorem v_11 : wM G M ω (30, 11, 0) = some (M.ad 11, .inl (G 2, 80724, .inl (M.I 11))) := rfl
theorem v_12 : wM G M ω (30, 12, 0) = some (M.ad 12, .inl (G 1, 21, .inl (M.I 12))) := rfl
theorem v_13 : wM G M ω (30, 13, 0) = some (M.ad 13, .inl (G 1, 210, .inl (M.I 13))) := rfl
theorem v_14 : wM G M ω (30, 14, 0) = some (M.ad 14, .inl (G 1, 210, .inl (M.I 14))) := rfl
theorem v_15 : wM G M ω (30, 15, 0) = some (M.ad 15, .inl (G 1, 210, .inl (M.I 15))) := rfl
theorem v_16 : wM G M ω (30, 16, 0) = some (M.ad 16, .inl (G 3, 210, .inr (.inl (M.J 16)))) := rfl
theorem v_17 : wM G M ω (30, 17, 0) = some (M.ad 17, .inl (G 3, 210, .inr (.inl (M.J 17)))) := rfl
theorem v_18 : wM G M ω (30, 18, 0) = some (M.ad 18, .inl (G 3, 210, .inr (.inl (M.J 18)))) := rfl
theorem wM_put {k : Nat} {e : va_E} (hk : k = 0 ∨ (2 ≤ k ∧ k ≤ 18)) (hA : M'.ad = M.ad) (he : mcell G M' k = e) (hc : ∀ y, y ≠ k → (y = 0 ∨ (2 ≤ y ∧ y ≤ 18)) → mcell G M' y = mcell G M y) : hm_up (wM G M ω) (30, k, 0) (M.ad k, e) = wM G M' ω := by
  funext n
  by_cases h : n = (30, k, 0)
  · subst h
    rw [hm_up_s]
    simp [wM, hk, hA, he]
  · rw [hm_up_n _ _ h]
    obtain ⟨x, y, z⟩ := n
    by_cases hx : x = 30
    · subst hx
      by_cases hd : (y = 0 ∨ (2 ≤ y ∧ y ≤ 18)) ∧ z = 0
      · have hy : y ≠ k := fun e => h (by rw [e, hd.2])
        simp only [wM, hd, and_self, if_true, hA, hc y hy hd.1]
      · simp only [wM, hd, if_false]
    · simp only [wM, hx, if_false]
theorem fm_0 {v : Int32} : hm_up (wM G M ω) (30, 0, 0) (M.ad 0, .inr (5, (fM M).set 0 (.int v))) = wM G (M.sI 0 0 v) ω := by
  refine wM_put (M' := M.sI 0 0 v) (Or.inl rfl) rfl rfl ?_
  intro y hy hd
  have hk : y ≠ 0 := by omega
  unfold mcell
  rw [if_neg hy, if_neg hy, show (M.sI 0 0 v).I y = M.I y from funext (fun j => up2_k _ v hk)]
  rfl
theorem fm_1 {v : Int32} : hm_up (wM G M ω) (30, 0, 0) (M.ad 0, .inr (5, (fM M).set 1 (.int v))) = wM G (M.sI 1 0 v) ω := by
  refine wM_put (M' := M.sI 1 0 v) (Or.inl rfl) rfl rfl ?_
  intro y hy hd
  have hk : y ≠ 1 := by omega
  unfold mcell
  rw [if_neg hy, if_neg hy, show (M.sI 1 0 v).I y = M.I y from funext (fun j => up2_k _ v hk)]
  rfl
theorem fm_19 {v : Int32} : hm_up (wM G M ω) (30, 0, 0) (M.ad 0, .inr (5, (fM M).set 19 (.int v))) = wM G (M.sI 19 0 v) ω := by
  refine wM_put (M' := M.sI 19 0 v) (Or.inl rfl) rfl rfl ?_
  intro y hy hd
  have hk : y ≠ 19 := by omega
  unfold mcell
  rw [if_neg hy, if_neg hy, show (M.sI 19 0 v).I y = M.I y from funext (fun j => up2_k _ v hk)]
  rfl
theorem fm_20 {v : Int32} : hm_up (wM G M ω) (30, 0, 0) (M.ad 0, .inr (5, (fM M).set 20 (.int v))) = wM G (M.sI 20 0 v) ω := by
  refine wM_put (M' := M.sI 20 0 v) (Or.inl rfl) rfl rfl ?_
  intro y hy hd
  have hk : y ≠ 20 := by omega
  unfold mcell
  rw [if_neg hy, if_neg hy, show (M.sI 20 0 v).I y = M.I y from funext (fun j => up2_k _ v hk)]
  rfl
theorem fm_21 {v : Int64} : hm_up (wM G M ω) (30, 0, 0) (M.ad 0, .inr (5, (fM M).set 21 (.long v))) = wM G (M.sJ 21 0 v) ω := by
  refine wM_put (M' := M.sJ 21 0 v) (Or.inl rfl) rfl rfl ?_
  intro y hy hd
  have hk : y ≠ 21 := by omega
  unfold mcell
  rw [if_neg hy, if_neg hy, show (M.sJ 21 0 v).J y = M.J y from funext (fun j => up2_k _ v hk)]
  rfl
theorem fm_22 {v : Int32} : hm_up (wM G M ω) (30, 0, 0) (M.ad 0, .inr (5, (fM M).set 22 (.int v))) = wM G (M.sI 22 0 v) ω := by
  refine wM_put (M' := M.sI 22 0 v) (Or.inl rfl) rfl rfl ?_
  intro y hy hd
  have hk : y ≠ 22 := by omega
  unfold mcell
  rw [if_neg hy, if_neg hy, show (M.sI 22 0 v).I y = M.I y from funext (fun j => up2_k _ v hk)]
  rfl
theorem fm_23 {v : Int32} : hm_up (wM G M ω) (30, 0, 0) (M.ad 0, .inr (5, (fM M).set 23 (.int v))) = wM G (M.sI 23 0 v) ω := by
  refine wM_put (M' := M.sI 23 0 v) (Or.inl rfl) rfl rfl ?_
  intro y hy hd
  have hk : y ≠ 23 := by omega
  unfold mcell
  rw [if_neg hy, if_neg hy, show (M.sI 23 0 v).I y = M.I y from funext (fun j => up2_k _ v hk)]
  rfl
theorem fm_24 {v : Int32} : hm_up (wM G M ω) (30, 0, 0) (M.ad 0, .inr (5, (fM M).set 24 (.int v))) = wM G (M.sI 24 0 v) ω := by
  refine wM_put (M' := M.sI 24 0 v) (Or.inl rfl) rfl rfl ?_
  intro y hy hd
  have hk : y ≠ 24 := by omega
  unfold mcell
  rw [if_neg hy, if_neg hy, show (M.sI 24 0 v).I y = M.I y from funext (fun j => up2_k _ v hk)]
  rfl
theorem fm_25 {v : Int32} : hm_up (wM G M ω) (30, 0, 0) (M.ad 0, .inr (5, (fM M).set 25 (.int v))) = wM G (M.sI 25 0 v) ω := by
  refine wM_put (M' := M.sI 25 0 v) (Or.inl rfl) rfl rfl ?_
  intro y hy hd
  have hk : y ≠ 25 := by omega
  unfold mcell
  rw [if_neg hy, if_neg hy, show (M.sI 25 0 v).I y = M.I y from funext (fun j => up2_k _ v hk)]
  rfl
theorem fm_26 {v : Int32} : hm_up (wM G M ω) (30, 0, 0) (M.ad 0, .inr (5, (fM M).set 26 (.int v))) = wM G (M.sI 26 0 v) ω := by
  refine wM_put (M' := M.sI 26 0 v) (Or.inl rfl) rfl rfl ?_
  intro y hy hd
  have hk : y ≠ 26 := by omega
  unfold mcell
  rw [if_neg hy, if_neg hy, show (M.sI 26 0 v).I y = M.I y from funext (fun j => up2_k _ v hk)]
  rfl
theorem fm_27 {v : Int32} : hm_up (wM G M ω) (30, 0, 0) (M.ad 0, .inr (5, (fM M).set 27 (.int v))) = wM G (M.sI 27 0 v) ω := by
  refine wM_put (M' := M.sI 27 0 v) (Or.inl rfl) rfl rfl ?_
  intro y hy hd
  have hk : y ≠ 27 := by omega
  unfold mcell
  rw [if_neg hy, if_neg hy, show (M.sI 27 0 v).I y = M.I y from funext (fun j => up2_k _ v hk)]
  rfl
theorem fm_28 {v : Int32} : hm_up (wM G M ω) (30, 0, 0) (M.ad 0, .inr (5, (fM M).set 28 (.int v))) = wM G (M.sI 28 0 v) ω := by
  refine wM_put (M' := M.sI 28 0 v) (Or.inl rfl) rfl rfl ?_
  intro y hy hd
  have hk : y ≠ 28 := by omega
  unfold mcell
  rw [if_neg hy, if_neg hy, show (M.sI 28 0 v).I y = M.I y from funext (fun j => up2_k _ v hk)]
  rfl
theorem fm_29 {v : Int64} : hm_up (wM G M ω) (30, 0, 0) (M.ad 0, .inr (5, (fM M).set 29 (.long v))) = wM G (M.sJ 29 0 v) ω := by
  refine wM_put (M' := M.sJ 29 0 v) (Or.inl rfl) rfl rfl ?_
  intro y hy hd
  have hk : y ≠ 29 := by omega
  unfold mcell
  rw [if_neg hy, if_neg hy, show (M.sJ 29 0 v).J y = M.J y from funext (fun j => up2_k _ v hk)]
  rfl
theorem fm_30 {v : Int64} : hm_up (wM G M ω) (30, 0, 0) (M.ad 0, .inr (5, (fM M).set 30 (.long v))) = wM G (M.sJ 30 0 v) ω := by
  refine wM_put (M' := M.sJ 30 0 v) (Or.inl rfl) rfl rfl ?_
  intro y hy hd
  have hk : y ≠ 30 := by omega
  unfold mcell
  rw [if_neg hy, if_neg hy, show (M.sJ 30 0 v).J y = M.J y from funext (fun j => up2_k _ v hk)]
  rfl
theorem fa_2 {j : Nat} {v : Int32} : hm_up (wM G M ω) (30, 2, 0) (M.ad 2, .inl (G 1, 21, .inl (upd (M.I 2) j v))) = wM G (M.sI 2 j v) ω := by
  have e0 : (M.sI 2 j v).I 2 = upd (M.I 2) j v := by funext i; by_cases h : i = j <;> simp [mS.sI, mS.I, up2, upd, h]
  refine wM_put (M' := M.sI 2 j v) (Or.inr ⟨by decide, by decide⟩) rfl ?_ ?_
  · show Sum.inl (_, _, _) = _
    rw [← e0]
    all_goals rfl
  · intro y hy hd
    rcases hd with rfl | hd
    · rfl
    · have h0 : y ≠ 0 := by omega
      unfold mcell
      rw [if_neg h0, if_neg h0, show (M.sI 2 j v).I y = M.I y from funext (fun i => up2_k _ v hy)]
      rfl
theorem fa_3 {j : Nat} {v : Int32} : hm_up (wM G M ω) (30, 3, 0) (M.ad 3, .inl (G 1, 21, .inl (upd (M.I 3) j v))) = wM G (M.sI 3 j v) ω := by
  have e0 : (M.sI 3 j v).I 3 = upd (M.I 3) j v := by funext i; by_cases h : i = j <;> simp [mS.sI, mS.I, up2, upd, h]
  refine wM_put (M' := M.sI 3 j v) (Or.inr ⟨by decide, by decide⟩) rfl ?_ ?_
  · show Sum.inl (_, _, _) = _
    rw [← e0]
    all_goals rfl
  · intro y hy hd
    rcases hd with rfl | hd
    · rfl
    · have h0 : y ≠ 0 := by omega
      unfold mcell
      rw [if_neg h0, if_neg h0, show (M.sI 3 j v).I y = M.I y from funext (fun i => up2_k _ v hy)]
      rfl
theorem fa_4 {j : Nat} {v : Int32} : hm_up (wM G M ω) (30, 4, 0) (M.ad 4, .inl (G 1, 21, .inl (upd (M.I 4) j v))) = wM G (M.sI 4 j v) ω := by
  have e0 : (M.sI 4 j v).I 4 = upd (M.I 4) j v := by funext i; by_cases h : i = j <;> simp [mS.sI, mS.I, up2, upd, h]
  refine wM_put (M' := M.sI 4 j v) (Or.inr ⟨by decide, by decide⟩) rfl ?_ ?_
  · show Sum.inl (_, _, _) = _
    rw [← e0]
    all_goals rfl
  · intro y hy hd
    rcases hd with rfl | hd
    · rfl
    · have h0 : y ≠ 0 := by omega
      unfold mcell
      rw [if_neg h0, if_neg h0, show (M.sI 4 j v).I y = M.I y from funext (fun i => up2_k _ v hy)]
      rfl
theorem fa_5 {j : Nat} {v : Int32} : hm_up (wM G M ω) (30, 5, 0) (M.ad 5, .inl (G 1, 21, .inl (upd (M.I 5) j v))) = wM G (M.sI 5 j v) ω := by
  have e0 : (M.sI 5 j v).I 5 = upd (M.I 5) j v := by funext i; by_cases h : i = j <;> simp [mS.sI, mS.I, up2, upd, h]
  refine wM_put (M' := M.sI 5 j v) (Or.inr ⟨by decide, by decide⟩) rfl ?_ ?_
  · show Sum.inl (_, _, _) = _
    rw [← e0]
    all_goals rfl
  · intro y hy hd
    rcases hd with rfl | hd
    · rfl
    · have h0 : y ≠ 0 := by omega
      unfold mcell
      rw [if_neg h0, if_neg h0, show (M.sI 5 j v).I y = M.I y from funext (fun i => up2_k _ v hy)]
      rfl
theorem fa_6 {j : Nat} {v : Int32} : hm_up (wM G M ω) (30, 6, 0) (M.ad 6, .inl (G 1, 21, .inl (upd (M.I 6) j v))) = wM G (M.sI 6 j v) ω := by
  have e0 : (M.sI 6 j v).I 6 = upd (M.I 6) j v := by funext i; by_cases h : i = j <;> simp [mS.sI, mS.I, up2, upd, h]
  refine wM_put (M' := M.sI 6 j v) (Or.inr ⟨by decide, by decide⟩) rfl ?_ ?_
  · show Sum.inl (_, _, _) = _
    rw [← e0]
    all_goals rfl
  · intro y hy hd
    rcases hd with rfl | hd
    · rfl
    · have h0 : y ≠ 0 := by omega
      unfold mcell
      rw [if_neg h0, if_neg h0, show (M.sI 6 j v).I y = M.I y from funext (fun i => up2_k _ v hy)]
      rfl
theorem fa_7 {j : Nat} {v : Int32} : hm_up (wM G M ω) (30, 7, 0) (M.ad 7, .inl (G 1, 21, .inl (upd (M.I 7) j v))) = wM G (M.sI 7 j v) ω := by
  have e0 : (M.sI 7 j v).I 7 = upd (M.I 7) j v := by funext i; by_cases h : i = j <;> simp [mS.sI, mS.I, up2, upd, h]
  refine wM_put (M' := M.sI 7 j v) (Or.inr ⟨by decide, by decide⟩) rfl ?_ ?_
  · show Sum.inl (_, _, _) = _
    rw [← e0]
    all_goals rfl
  · intro y hy hd
    rcases hd with rfl | hd
    · rfl
    · have h0 : y ≠ 0 := by omega
      unfold mcell
      rw [if_neg h0, if_neg h0, show (M.sI 7 j v).I y = M.I y from funext (fun i => up2_k _ v hy)]
      rfl
theorem fa_8 {j : Nat} {v : Int32} : hm_up (wM G M ω) (30, 8, 0) (M.ad 8, .inl (G 1, 21, .inl (upd (M.I 8) j v))) = wM G (M.sI 8 j v) ω := by
  have e0 : (M.sI 8 j v).I 8 = upd (M.I 8) j v := by funext i; by_cases h : i = j <;> simp [mS.sI, mS.I, up2, upd, h]
  refine wM_put (M' := M.sI 8 j v) (Or.inr ⟨by decide, by decide⟩) rfl ?_ ?_
  · show Sum.inl (_, _, _) = _
    rw [← e0]
    all_goals rfl
  · intro y hy hd
    rcases hd with rfl | hd
    · rfl
    · have h0 : y ≠ 0 := by omega
      unfold mcell
      rw [if_neg h0, if_neg h0, show (M.sI 8 j v).I y = M.I y from funext (fun i => up2_k _ v hy)]
      rfl
theorem fa_9 {j : Nat} {v : Int32} : hm_up (wM G M ω) (30, 9, 0) (M.ad 9, .inl (G 2, 21, .inl (upd (M.I 9) j v))) = wM G (M.sI 9 j v) ω := by
  have e0 : (M.sI 9 j v).I 9 = upd (M.I 9) j v := by funext i; by_cases h : i = j <;> simp [mS.sI, mS.I, up2, upd, h]
  refine wM_put (M' := M.sI 9 j v) (Or.inr ⟨by decide, by decide⟩) rfl ?_ ?_
  · show Sum.inl (_, _, _) = _
    rw [← e0]
    all_goals rfl
  · intro y hy hd
    rcases hd with rfl | hd
    · rfl
    · have h0 : y ≠ 0 := by omega
      unfold mcell
      rw [if_neg h0, if_neg h0, show (M.sI 9 j v).I y = M.I y from funext (fun i => up2_k _ v hy)]
      rfl
theorem fa_10 {j : Nat} {v : Int32} : hm_up (wM G M ω) (30, 10, 0) (M.ad 10, .inl (G 1, 21, .inl (upd (M.I 10) j v))) = wM G (M.sI 10 j v) ω := by
  have e0 : (M.sI 10 j v).I 10 = upd (M.I 10) j v := by funext i; by_cases h : i = j <;> simp [mS.sI, mS.I, up2, upd, h]
  refine wM_put (M' := M.sI 10 j v) (Or.inr ⟨by decide, by decide⟩) rfl ?_ ?_
  · show Sum.inl (_, _, _) = _
    rw [← e0]
    all_goals rfl
  · intro y hy hd
    rcases hd with rfl | hd
    · rfl
    · have h0 : y ≠ 0 := by omega
      unfold mcell
      rw [if_neg h0, if_neg h0, show (M.sI 10 j v).I y = M.I y from funext (fun i => up2_k _ v hy)]
      rfl
theorem fa_11 {j : Nat} {v : Int32} : hm_up (wM G M ω) (30, 11, 0) (M.ad 11, .inl (G 2, 80724, .inl (upd (M.I 11) j v))) = wM G (M.sI 11 j v) ω := by
  have e0 : (M.sI 11 j v).I 11 = upd (M.I 11) j v := by funext i; by_cases h : i = j <;> simp [mS.sI, mS.I, up2, upd, h]
  refine wM_put (M' := M.sI 11 j v) (Or.inr ⟨by decide, by decide⟩) rfl ?_ ?_
  · show Sum.inl (_, _, _) = _
    rw [← e0]
    all_goals rfl
  · intro y hy hd
    rcases hd with rfl | hd
    · rfl
    · have h0 : y ≠ 0 := by omega
      unfold mcell
      rw [if_neg h0, if_neg h0, show (M.sI 11 j v).I y = M.I y from funext (fun i => up2_k _ v hy)]
      rfl
theorem fa_12 {j : Nat} {v : Int32} : hm_up (wM G M ω) (30, 12, 0) (M.ad 12, .inl (G 1, 21, .inl (upd (M.I 12) j v))) = wM G (M.sI 12 j v) ω := by
  have e0 : (M.sI 12 j v).I 12 = upd (M.I 12) j v := by funext i; by_cases h : i = j <;> simp [mS.sI, mS.I, up2, upd, h]
  refine wM_put (M' := M.sI 12 j v) (Or.inr ⟨by decide, by decide⟩) rfl ?_ ?_
  · show Sum.inl (_, _, _) = _
    rw [← e0]
    all_goals rfl
  · intro y hy hd
    rcases hd with rfl | hd
    · rfl
    · have h0 : y ≠ 0 := by omega
      unfold mcell
      rw [if_neg h0, if_neg h0, show (M.sI 12 j v).I y = M.I y from funext (fun i => up2_k _ v hy)]
      rfl
theorem fa_13 {j : Nat} {v : Int32} : hm_up (wM G M ω) (30, 13, 0) (M.ad 13, .inl (G 1, 210, .inl (upd (M.I 13) j v))) = wM G (M.sI 13 j v) ω := by
  have e0 : (M.sI 13 j v).I 13 = upd (M.I 13) j v := by funext i; by_cases h : i = j <;> simp [mS.sI, mS.I, up2, upd, h]
  refine wM_put (M' := M.sI 13 j v) (Or.inr ⟨by decide, by decide⟩) rfl ?_ ?_
  · show Sum.inl (_, _, _) = _
    rw [← e0]
    all_goals rfl
  · intro y hy hd
    rcases hd with rfl | hd
    · rfl
    · have h0 : y ≠ 0 := by omega
      unfold mcell
      rw [if_neg h0, if_neg h0, show (M.sI 13 j v).I y = M.I y from funext (fun i => up2_k _ v hy)]
      rfl
theorem fa_14 {j : Nat} {v : Int32} : hm_up (wM G M ω) (30, 14, 0) (M.ad 14, .inl (G 1, 210, .inl (upd (M.I 14) j v))) = wM G (M.sI 14 j v) ω := by
  have e0 : (M.sI 14 j v).I 14 = upd (M.I 14) j v := by funext i; by_cases h : i = j <;> simp [mS.sI, mS.I, up2, upd, h]
  refine wM_put (M' := M.sI 14 j v) (Or.inr ⟨by decide, by decide⟩) rfl ?_ ?_
  · show Sum.inl (_, _, _) = _
    rw [← e0]
    all_goals rfl
  · intro y hy hd
    rcases hd with rfl | hd
    · rfl
    · have h0 : y ≠ 0 := by omega
      unfold mcell
      rw [if_neg h0, if_neg h0, show (M.sI 14 j v).I y = M.I y from funext (fun i => up2_k _ v hy)]
      rfl
theorem fa_15 {j : Nat} {v : Int32} : hm_up (wM G M ω) (30, 15, 0) (M.ad 15, .inl (G 1, 210, .inl (upd (M.I 15) j v))) = wM G (M.sI 15 j v) ω := by
  have e0 : (M.sI 15 j v).I 15 = upd (M.I 15) j v := by funext i; by_cases h : i = j <;> simp [mS.sI, mS.I, up2, upd, h]
  refine wM_put (M' := M.sI 15 j v) (Or.inr ⟨by decide, by decide⟩) rfl ?_ ?_
  · show Sum.inl (_, _, _) = _
    rw [← e0]
    all_goals rfl
  · intro y hy hd
    rcases hd with rfl | hd
    · rfl
    · have h0 : y ≠ 0 := by omega
      unfold mcell
      rw [if_neg h0, if_neg h0, show (M.sI 15 j v).I y = M.I y from funext (fun i => up2_k _ v hy)]
      rfl
theorem fa_16 {j : Nat} {v : Int64} : hm_up (wM G M ω) (30, 16, 0) (M.ad 16, .inl (G 3, 210, .inr (.inl (vp_updL (M.J 16) j v)))) = wM G (M.sJ 16 j v) ω := by
  have e0 : (M.sJ 16 j v).J 16 = vp_updL (M.J 16) j v := by funext i; by_cases h : i = j <;> simp [mS.sJ, mS.J, up2, vp_updL, h]
  refine wM_put (M' := M.sJ 16 j v) (Or.inr ⟨by decide, by decide⟩) rfl ?_ ?_
  · show Sum.inl (_, _, _) = _
    rw [← e0]
    all_goals rfl
  · intro y hy hd
    rcases hd with rfl | hd
    · rfl
    · have h0 : y ≠ 0 := by omega
      unfold mcell
      rw [if_neg h0, if_neg h0, show (M.sJ 16 j v).J y = M.J y from funext (fun i => up2_k _ v hy)]
      rfl
theorem fa_17 {j : Nat} {v : Int64} : hm_up (wM G M ω) (30, 17, 0) (M.ad 17, .inl (G 3, 210, .inr (.inl (vp_updL (M.J 17) j v)))) = wM G (M.sJ 17 j v) ω := by
  have e0 : (M.sJ 17 j v).J 17 = vp_updL (M.J 17) j v := by funext i; by_cases h : i = j <;> simp [mS.sJ, mS.J, up2, vp_updL, h]
  refine wM_put (M' := M.sJ 17 j v) (Or.inr ⟨by decide, by decide⟩) rfl ?_ ?_
  · show Sum.inl (_, _, _) = _
    rw [← e0]
    all_goals rfl
  · intro y hy hd
    rcases hd with rfl | hd
    · rfl
    · have h0 : y ≠ 0 := by omega
      unfold mcell
      rw [if_neg h0, if_neg h0, show (M.sJ 17 j v).J y = M.J y from funext (fun i => up2_k _ v hy)]
      rfl
theorem fa_18 {j : Nat} {v : Int64} : hm_up (wM G M ω) (30, 18, 0) (M.ad 18, .inl (G 3, 210, .inr (.inl (vp_updL (M.J 18) j v)))) = wM G (M.sJ 18 j v) ω := by
  have e0 : (M.sJ 18 j v).J 18 = vp_updL (M.J 18) j v := by funext i; by_cases h : i = j <;> simp [mS.sJ, mS.J, up2, vp_updL, h]
  refine wM_put (M' := M.sJ 18 j v) (Or.inr ⟨by decide, by decide⟩) rfl ?_ ?_
  · show Sum.inl (_, _, _) = _
    rw [← e0]
    all_goals rfl
  · intro y hy hd
    rcases hd with rfl | hd
    · rfl
    · have h0 : y ≠ 0 := by omega
      unfold mcell
      rw [if_neg h0, if_neg h0, show (M.sJ 18 j v).J y = M.J y from funext (fun i => up2_k _ v hy)]
      rfl
end MS1
section MS2
variable {p : Program} {l : Launch} {e : Env} {R : Room} {s : State} {m : MethodId} {args : Array Value} {below : List Frame} {meth : Method} {c : Code} {H : Heap} {locs : List Loc} {cells slots : Nat} {Q : State → Prop}
variable {cc : ByteArray} {nL pc : Nat} {ls : Array Slot} {rest : List Value} {D : va_G} {cl : List vw_C} {A : Nat → Prop} {a : Nat} {tys : List (ClassId × FieldType)} {H0 : Heap} {Ts : List Cond} {own : String} {w : hm_T} {n : hm_N} {cA : ClassId} {N x : Nat} {i : Int32}
theorem mi_ald (X : hm_X p m c cc nL s args Ts own D cl tys) (hY : hm_Y D cl A H0 w H locs) {f : Nat → Int32} {v : Int32} (hn : w n = some (a, .inl (cA, N, .inl f))) (t0 : Nat) (ht : tys[t0]? = some (cA, .int)) (hi : i = nI x) (hx : x < N) (hN : N < 2 ^ 31) (hv : f x = v) (hdg : decode cc pc = .ok (.iaload, 1))
    (kk : W p l e R s m args below meth c H locs cells slots Q (F0 m (pc + 1) ls (.int v :: rest))) : W p l e R s m args below meth c H locs cells slots Q (F0 m pc ls (.int i :: .ref a :: rest)) := by
  subst hi hv
  refine hm_iald X hY hn t0 ht (vp_in_nI hx hN) hdg ?_
  rw [nI_clamp (by omega)]
  exact kk
theorem ml_ald (X : hm_X p m c cc nL s args Ts own D cl tys) (hY : hm_Y D cl A H0 w H locs) {f : Nat → Int64} {v : Int64} (hn : w n = some (a, .inl (cA, N, .inr (.inl f)))) (t0 : Nat) (ht : tys[t0]? = some (cA, .long)) (hi : i = nI x) (hx : x < N) (hN : N < 2 ^ 31) (hv : f x = v) (hdg : decode cc pc = .ok (.laload, 1))
    (kk : W p l e R s m args below meth c H locs cells slots Q (F0 m (pc + 1) ls (.long v :: rest))) : W p l e R s m args below meth c H locs cells slots Q (F0 m pc ls (.int i :: .ref a :: rest)) := by
  subst hi hv
  refine hm_lald X hY hn t0 ht (vp_in_nI hx hN) hdg ?_
  rw [nI_clamp (by omega)]
  exact kk
theorem mz_ald (X : hm_X p m c cc nL s args Ts own D cl tys) (hY : hm_Y D cl A H0 w H locs) {f : Nat → Int32} {v : Int32} (hn : w n = some (a, .inl (cA, N, .inl f))) (t0 : Nat) (ht : tys[t0]? = some (cA, .boolean)) (hi : i = nI x) (hx : x < N) (hN : N < 2 ^ 31) (hv : f x = v) (hdg : decode cc pc = .ok (.baload, 1))
    (kk : W p l e R s m args below meth c H locs cells slots Q (F0 m (pc + 1) ls (.int v :: rest))) : W p l e R s m args below meth c H locs cells slots Q (F0 m pc ls (.int i :: .ref a :: rest)) := by
  subst hi hv
  refine va_zald X.1.1 X.1.2.1 X.2 (hY.one hn) 0 t0 rfl ht (vp_in_nI hx hN) hdg ?_
  rw [nI_clamp (by omega)]
  exact kk
theorem mi_ast (X : hm_X p m c cc nL s args Ts own D cl tys) (hY : hm_Y D cl A H0 w H locs) {f : Nat → Int32} {v : Int32} (hn : w n = some (a, .inl (cA, N, .inl f))) (t0 : Nat) (ht : tys[t0]? = some (cA, .int)) (hi : i = nI x) (hx : x < N) (hN : N < 2 ^ 31) (hdg : decode cc pc = .ok (.iastore, 1))
    (kk : ∀ (H1 : Heap) (locs1 : List Loc), hm_Y D cl A H0 (hm_up w n (a, .inl (cA, N, .inl (upd f x v)))) H1 locs1 → W p l e R s m args below meth c H1 locs1 cells slots Q (F0 m (pc + 1) ls rest)) : W p l e R s m args below meth c H locs cells slots Q (F0 m pc ls (.int v :: .int i :: .ref a :: rest)) := by
  subst hi
  refine hm_iast X hY hn t0 ht (vp_in_nI hx hN) hdg ?_
  rw [nI_clamp (by omega)]
  exact kk
theorem ml_ast (X : hm_X p m c cc nL s args Ts own D cl tys) (hY : hm_Y D cl A H0 w H locs) {f : Nat → Int64} {v : Int64} (hn : w n = some (a, .inl (cA, N, .inr (.inl f)))) (t0 : Nat) (ht : tys[t0]? = some (cA, .long)) (hi : i = nI x) (hx : x < N) (hN : N < 2 ^ 31) (hdg : decode cc pc = .ok (.lastore, 1))
    (kk : ∀ (H1 : Heap) (locs1 : List Loc), hm_Y D cl A H0 (hm_up w n (a, .inl (cA, N, .inr (.inl (vp_updL f x v))))) H1 locs1 → W p l e R s m args below meth c H1 locs1 cells slots Q (F0 m (pc + 1) ls rest)) : W p l e R s m args below meth c H locs cells slots Q (F0 m pc ls (.long v :: .int i :: .ref a :: rest)) := by
  subst hi
  refine hm_last X hY hn t0 ht (vp_in_nI hx hN) hdg ?_
  rw [nI_clamp (by omega)]
  exact kk
theorem mz_ast (X : hm_X p m c cc nL s args Ts own D cl tys) (hY : hm_Y D cl A H0 w H locs) {f : Nat → Int32} {v : Int32} (hn : w n = some (a, .inl (cA, N, .inl f))) (t0 : Nat) (ht : tys[t0]? = some (cA, .boolean)) (hi : i = nI x) (hx : x < N) (hN : N < 2 ^ 31) (hv : vp_nar .boolean v = v) (hdg : decode cc pc = .ok (.bastore, 1))
    (kk : ∀ (H1 : Heap) (locs1 : List Loc), hm_Y D cl A H0 (hm_up w n (a, .inl (cA, N, .inl (upd f x v)))) H1 locs1 → W p l e R s m args below meth c H1 locs1 cells slots Q (F0 m (pc + 1) ls rest)) : W p l e R s m args below meth c H locs cells slots Q (F0 m pc ls (.int v :: .int i :: .ref a :: rest)) := by
  subst hi
  have hin := vp_in_nI hx hN
  refine W.zast X.1.1 X.1.2.1 (hY.1 n _ hn) ((X.2.2 t0 _ ht).1 N (fun j => .int (f j))) (fun q => by cases q) (by show ¬ (nI x < 0 ∨ (arrV _ _ _).slots.size ≤ _); rw [arrV_size]; exact hin) rfl rfl hdg fun H1 e z oq => ?_
  refine kk H1 _ (hY.set hn ?_ z oq _)
  show H1[a]? = some (vp_cell _ _)
  have hv' : narrow .boolean (.int v) = .int v := congrArg Value.int hv
  rw [e, vp_cell_i, vp_cell_i, arrV_store, nI_clamp (by omega)]
  congr 2
  funext q
  by_cases hq : q = x
  · subst hq
    simp [updV, upd]
    try exact hv'
  · simp [updV, upd, hq]
end MS2
end
section
abbrev mP (M : mS) (x : Int32) : Prop := 1 ≤ x ∧ x ≤ M.I 1 0
abbrev mT (M : mS) (t : Int64) : Prop := M.J 21 0 ≤ t ∧ t ≤ 1152921504606846976
def cl0 (M : mS) (n : Nat) : mS := ((M.sI 8 n 0).sI 9 n 0).sI 10 n 0
def clL1 (M : mS) (n j : Nat) : mS := M.sJ 18 (10 * n + j) (-1)
def clL (M : mS) (n : Nat) : Nat → mS
  | 0 => M
  | j + 1 => clL1 (clL M n j) n j
def clr (M : mS) (n : Nat) : mS := clL (cl0 M n) n 10
abbrev kept (E M : mS) : Prop := E.ad = M.ad ∧ E.I 1 = M.I 1 ∧ E.I 4 = M.I 4 ∧ E.I 12 = M.I 12
theorem clL_k (M : mS) (n j : Nat) : kept (clL M n j) M := by
  induction j with
  | zero => exact ⟨rfl, rfl, rfl, rfl⟩
  | succ j ih => exact ih
theorem clr_k (M : mS) (n : Nat) : kept (clr M n) M := clL_k (cl0 M n) n 10
def r01 (M : mS) (n : Nat) : mS := ((clr M n).sI 5 n 0).sI 6 n 0
def r0L (M : mS) : Nat → mS
  | 0 => M
  | j + 1 => r01 (r0L M j) (j + 1)
theorem r0L_k (M : mS) (j : Nat) : kept (r0L M j) M := by
  induction j with
  | zero => exact ⟨rfl, rfl, rfl, rfl⟩
  | succ j ih =>
    have h := clr_k (r0L M j) (j + 1)
    exact ⟨h.1.trans ih.1, h.2.1.trans ih.2.1, h.2.2.1.trans ih.2.2.1, h.2.2.2.trans ih.2.2.2⟩
def r02 (T : mS) : mS := (((((((T.sI 19 0 0).sI 20 0 0).sI 22 0 0).sI 26 0 0).sI 27 0 0).sI 28 0 0).sJ 29 0 (T.J 21 0)).sJ 30 0 (T.J 21 0)
def r0 (M : mS) (why : Int32) (c : Nat) : mS := r02 (r0L ((M.sI 25 0 why).sI 24 0 (M.I 24 0 + 1)) c)
theorem r0_k (M : mS) (why : Int32) (c : Nat) : kept (r0 M why c) M := r0L_k ((M.sI 25 0 why).sI 24 0 (M.I 24 0 + 1)) c
def jL1 (M : mS) (n j : Nat) : mS := if M.J 18 (10 * n + j) < 0 then M else if M.J 17 (10 * n + j) < M.J 21 0 - M.J 18 (10 * n + j) then (M.sI 9 n 1).sJ 18 (10 * n + j) (-1) else M
def jL (M : mS) (n : Nat) : Nat → mS
  | 0 => M
  | j + 1 => jL1 (jL M n j) n j
theorem jL_k (M : mS) (n j : Nat) : kept (jL M n j) M := by
  induction j with
  | zero => exact ⟨rfl, rfl, rfl, rfl⟩
  | succ j ih =>
    show kept (jL1 _ n j) M
    unfold jL1
    repeat' split
    all_goals exact ih
def jA (M : mS) (n : Nat) : mS :=
  if M.I 20 0 - M.I 20 0 / M.I 4 n * M.I 4 n = 0 then (if M.I 20 0 ≤ 2 then M.sI 8 n 0 else if M.I 8 n < M.I 2 n then (M.sI 9 n 1).sI 8 n 0 else if M.I 8 n ≤ M.I 3 n then M.sI 8 n 0 else (M.sI 9 n 1).sI 8 n 0) else M
theorem jA_k (M : mS) (n : Nat) : kept (jA M n) M := by
  unfold jA
  repeat' split
  all_goals exact ⟨rfl, rfl, rfl, rfl⟩
def jB (M : mS) (n : Nat) : mS :=
  if M.I 9 n = 0 then (if M.I 5 n = 1 then (if M.I 6 n - 1 = 0 then ((M.sI 6 n (M.I 6 n - 1)).sI 5 n 0).sI 9 n 0 else ((M.sI 6 n (M.I 6 n - 1)).sI 5 n 1).sI 9 n 0) else M.sI 9 n 0)
  else if M.I 6 n + 1 ≤ M.I 7 n then ((M.sI 6 n (M.I 6 n + 1)).sI 5 n 1).sI 9 n 0 else ((M.sI 6 n (M.I 6 n + 1)).sI 5 n 2).sI 9 n 0
theorem jB_k (M : mS) (n : Nat) : kept (jB M n) M := by
  unfold jB
  repeat' split
  all_goals exact ⟨rfl, rfl, rfl, rfl⟩
def jd (M : mS) (n c : Nat) : mS := jB (jA (jL M n c) n) n
theorem kept.trans {A B C : mS} (h : kept A B) (g : kept B C) : kept A C := ⟨h.1.trans g.1, h.2.1.trans g.2.1, h.2.2.1.trans g.2.2.1, h.2.2.2.trans g.2.2.2⟩
theorem jd_k (M : mS) (n c : Nat) : kept (jd M n c) M := (jB_k _ n).trans ((jA_k _ n).trans (jL_k M n c))

set_option maxHeartbeats 4000000 in
set_option maxRecDepth 100000 in
theorem k_M_thrown (l : Launch) (D : va_G) (A : Nat → Prop) (G : Nat → Nat) (M : mS) (ω : hm_T) : Met l y_M_thrown (.code y_M_thrown c_M_thrown 1 (some .int) :: wsA) { frames := 0, cells := 0, slots := 0, locals := 0 } (va_Pc [.ref (M.ad 0)] (ctU D A G (wM G M ω))) (hm_R (fun v => v = some (.int (M.I 0 0)))) 0 0 (fun _ => False) := by
  refine ct_met (by decide) (Nat.le_of_ble_eq_true rfl) ?_
  rintro p e s m below meth c ls X hr hlocks hnm hl ⟨hB, hK⟩
  have hl : lv_has ls 1 [(0, .ref (M.ad 0))] := hl
  have hY : hm_Y D cls A s.heap (wM G M ω) s.heap [] := hm_Y.start hB hK.2.2.2
  refine lv_aload_n X.1 X.2.1 d_M_thrown_0 rfl (lv_at hl 0 rfl) ?_
  refine hm_get ⟨X, hK.1⟩ hY v_0 0 (v := .int (M.I 0 0)) rfl rfl (Nat.le_of_ble_eq_true rfl) hu_M m_489 (fun _ h => h) d_M_thrown_1 ?_
  exact en_iR X hr hlocks d_M_thrown_4 (rfl)

set_option maxHeartbeats 4000000 in
set_option maxRecDepth 100000 in
theorem k_M_isPart (l : Launch) (D : va_G) (A : Nat → Prop) (G : Nat → Nat) (M : mS) (ω : hm_T) (x : Int32) : Met l y_M_isPart (.code y_M_isPart c_M_isPart 2 (some .boolean) :: wsA) { frames := 0, cells := 0, slots := 0, locals := 0 } (va_Pc [.ref (M.ad 0), .int x] (ctU D A G (wM G M ω))) (hm_R (fun v => v = some (.int (b2 (mP M x))))) 0 0 (fun _ => False) := by
  refine ct_met (by decide) (Nat.le_of_ble_eq_true rfl) ?_
  rintro p e s m below meth c ls X hr hlocks hnm hl ⟨hB, hK⟩
  have hl : lv_has ls 2 [(0, .ref (M.ad 0)), (1, .int x)] := hl
  have hY : hm_Y D cls A s.heap (wM G M ω) s.heap [] := hm_Y.start hB hK.2.2.2
  refine lv_iload_n X.1 X.2.1 d_M_isPart_0 rfl (lv_at hl 1 rfl) ?_
  refine lv_iconst (v := 1) X.1 X.2.1 d_M_isPart_1 (by decide) ?_
  refine lv_icmp_lt (tgt := 17) X.1 X.2.1 d_M_isPart_2 (by decide) (fun c1 => ?_) (fun c1 => ?_)
  · refine lv_iconst (v := 0) X.1 X.2.1 d_M_isPart_17 (by decide) ?_
    exact en_zR X hr hlocks d_M_isPart_18 rfl (by rw [b2_f (fun z => absurd z.1 (Int32.not_le.mpr c1))])
  · refine lv_iload_n X.1 X.2.1 d_M_isPart_5 rfl (lv_at hl 1 rfl) ?_
    refine lv_aload_n X.1 X.2.1 d_M_isPart_6 rfl (lv_at hl 0 rfl) ?_
    refine hm_get ⟨X, hK.1⟩ hY v_0 1 (v := .int (M.I 1 0)) rfl rfl (Nat.le_of_ble_eq_true rfl) hu_M m_490 (fun _ h => h) d_M_isPart_7 ?_
    refine lv_icmp_gt (tgt := 17) X.1 X.2.1 d_M_isPart_10 (by decide) (fun c2 => ?_) (fun c2 => ?_)
    · refine lv_iconst (v := 0) X.1 X.2.1 d_M_isPart_17 (by decide) ?_
      exact en_zR X hr hlocks d_M_isPart_18 rfl (by rw [b2_f (fun z => absurd z.2 (Int32.not_le.mpr c2))])
    · refine lv_iconst (v := 1) X.1 X.2.1 d_M_isPart_13 (by decide) ?_
      refine lv_goto (tgt := 18) X.1 X.2.1 d_M_isPart_14 (by decide) ?_
      exact en_zR X hr hlocks d_M_isPart_18 rfl (by rw [b2_t ⟨Int32.not_lt.mp c1, Int32.not_lt.mp c2⟩])

set_option maxHeartbeats 4000000 in
set_option maxRecDepth 100000 in
theorem k_M_isTime (l : Launch) (D : va_G) (A : Nat → Prop) (G : Nat → Nat) (M : mS) (ω : hm_T) (t : Int64) : Met l y_M_isTime (.code y_M_isTime c_M_isTime 3 (some .boolean) :: wsA) { frames := 0, cells := 0, slots := 0, locals := 0 } (va_Pc [.ref (M.ad 0), .long t] (ctU D A G (wM G M ω))) (hm_R (fun v => v = some (.int (b2 (mT M t))))) 0 0 (fun _ => False) := by
  refine ct_met (by decide) (Nat.le_of_ble_eq_true rfl) ?_
  rintro p e s m below meth c ls X hr hlocks hnm hl ⟨hB, hK⟩
  have hl : lv_has ls 3 [(0, .ref (M.ad 0)), (1, .long t)] := hl
  have hY : hm_Y D cls A s.heap (wM G M ω) s.heap [] := hm_Y.start hB hK.2.2.2
  refine lv_lload_n X.1 X.2.1 d_M_isTime_0 rfl (lv_at hl 1 rfl) ?_
  refine lv_aload_n X.1 X.2.1 d_M_isTime_1 rfl (lv_at hl 0 rfl) ?_
  refine hm_get ⟨X, hK.1⟩ hY v_0 21 (v := .long (M.J 21 0)) rfl rfl (Nat.le_of_ble_eq_true rfl) hu_M m_510 (fun _ h => h) d_M_isTime_2 ?_
  refine lc_lt (tgt := 21) X d_M_isTime_5 d_M_isTime_6 (by decide) (fun c1 => ?_) (fun c1 => ?_)
  · refine lv_iconst (v := 0) X.1 X.2.1 d_M_isTime_21 (by decide) ?_
    exact en_zR X hr hlocks d_M_isTime_22 rfl (by rw [b2_f (fun z => absurd z.1 (Int64.not_le.mpr c1))])
  · refine lv_lload_n X.1 X.2.1 d_M_isTime_9 rfl (lv_at hl 1 rfl) ?_
    refine lv_ldc2 X.1 X.2.1 X.2.2.2.1 (X.2.2.2.2 _ m_619) d_M_isTime_10 ?_
    refine lc_gt (tgt := 21) X d_M_isTime_13 d_M_isTime_14 (by decide) (fun c2 => ?_) (fun c2 => ?_)
    · refine lv_iconst (v := 0) X.1 X.2.1 d_M_isTime_21 (by decide) ?_
      exact en_zR X hr hlocks d_M_isTime_22 rfl (by rw [b2_f (fun z => absurd z.2 (Int64.not_le.mpr c2))])
    · refine lv_iconst (v := 1) X.1 X.2.1 d_M_isTime_17 (by decide) ?_
      refine lv_goto (tgt := 22) X.1 X.2.1 d_M_isTime_18 (by decide) ?_
      exact en_zR X hr hlocks d_M_isTime_22 rfl (by rw [b2_t ⟨Int64.not_lt.mp c1, Int64.not_lt.mp c2⟩])

set_option maxHeartbeats 4000000 in
set_option maxRecDepth 100000 in
theorem k_M_edgeAt (l : Launch) (D : va_G) (A : Nat → Prop) (G : Nat → Nat) (M : mS) (ω : hm_T) (x fr to : Int32) : Met l y_M_edgeAt (.code y_M_edgeAt c_M_edgeAt 4 (some .int) :: wsA) { frames := 0, cells := 0, slots := 0, locals := 0 } (va_Pc [.ref (M.ad 0), .int x, .int fr, .int to] (ctU D A G (wM G M ω))) (hm_R (fun v => v = some (.int (((4 * x + M.I 19 0) * 31 + fr) * 31 + to)))) 0 0 (fun _ => False) := by
  refine ct_met (by decide) (Nat.le_of_ble_eq_true rfl) ?_
  rintro p e s m below meth c ls X hr hlocks hnm hl ⟨hB, hK⟩
  have hl : lv_has ls 4 [(0, .ref (M.ad 0)), (1, .int x), (2, .int fr), (3, .int to)] := hl
  have hY : hm_Y D cls A s.heap (wM G M ω) s.heap [] := hm_Y.start hB hK.2.2.2
  refine lv_iconst (v := 4) X.1 X.2.1 d_M_edgeAt_0 (by decide) ?_
  refine lv_iload_n X.1 X.2.1 d_M_edgeAt_1 rfl (lv_at hl 1 rfl) ?_
  refine lv_imul X.1 X.2.1 d_M_edgeAt_2 ?_
  refine lv_aload_n X.1 X.2.1 d_M_edgeAt_3 rfl (lv_at hl 0 rfl) ?_
  refine hm_get ⟨X, hK.1⟩ hY v_0 19 (v := .int (M.I 19 0)) rfl rfl (Nat.le_of_ble_eq_true rfl) hu_M m_508 (fun _ h => h) d_M_edgeAt_4 ?_
  refine lv_iadd X.1 X.2.1 d_M_edgeAt_7 ?_
  refine lv_bipush (v := 31) X.1 X.2.1 d_M_edgeAt_8 (by decide) ?_
  refine lv_imul X.1 X.2.1 d_M_edgeAt_10 ?_
  refine lv_iload_n X.1 X.2.1 d_M_edgeAt_11 rfl (lv_at hl 2 rfl) ?_
  refine lv_iadd X.1 X.2.1 d_M_edgeAt_12 ?_
  refine lv_bipush (v := 31) X.1 X.2.1 d_M_edgeAt_13 (by decide) ?_
  refine lv_imul X.1 X.2.1 d_M_edgeAt_15 ?_
  refine lv_iload_n X.1 X.2.1 d_M_edgeAt_16 rfl (lv_at hl 3 rfl) ?_
  refine lv_iadd X.1 X.2.1 d_M_edgeAt_17 ?_
  exact en_iR X hr hlocks d_M_edgeAt_18 (rfl)

set_option maxHeartbeats 4000000 in
set_option maxRecDepth 100000 in
theorem k_M_clear (l : Launch) (D : va_G) (A : Nat → Prop) (G : Nat → Nat) (M : mS) (ω : hm_T) (n : Nat) (h0 : 1 ≤ n) (h20 : n ≤ 20) : Met l y_M_clear (.code y_M_clear c_M_clear 3 (none : Option FieldType) :: wsA) { frames := 0, cells := 0, slots := 0, locals := 0 } (va_Pc [.ref (M.ad 0), .int (nI n)] (ctU D A G (wM G M ω))) (hm_Q D cls A (fun v w => v = none ∧ w = wM G (clr M n) ω)) 0 0 A := by
  refine ct_met (by decide) (Nat.le_of_ble_eq_true rfl) ?_
  rintro p e s m below meth c ls X hr hlocks hnm hl ⟨hB, hK⟩
  have hl : lv_has ls 3 [(0, .ref (M.ad 0)), (1, .int (nI n))] := hl
  have hY : hm_Y D cls A s.heap (wM G M ω) s.heap [] := hm_Y.start hB hK.2.2.2
  refine lv_aload_n X.1 X.2.1 d_M_clear_0 rfl (lv_at hl 0 rfl) ?_
  refine hm_get ⟨X, hK.1⟩ hY v_0 8 (v := .ref (M.ad 8)) rfl rfl (Nat.le_of_ble_eq_true rfl) hu_M m_497 (fun _ h => h) d_M_clear_1 ?_
  refine lv_iload_n X.1 X.2.1 d_M_clear_4 rfl (lv_at hl 1 rfl) ?_
  refine lv_iconst (v := 0) X.1 X.2.1 d_M_clear_5 (by decide) ?_
  refine mi_ast ⟨X, hK.1⟩ hY v_8 0 rfl (x := n) rfl (by omega) (by decide) d_M_clear_6 (fun H locs hY => ?_)
  have hY : hm_Y D cls A s.heap (wM G (M.sI 8 n 0) ω) H locs := by rw [← fa_8 (M := M) (j := n) (v := 0)]; exact hY
  refine lv_aload_n X.1 X.2.1 d_M_clear_7 rfl (lv_at hl 0 rfl) ?_
  refine hm_get ⟨X, hK.1⟩ hY v_0 9 (v := .ref (M.ad 9)) rfl rfl (Nat.le_of_ble_eq_true rfl) hu_M m_498 (fun _ h => h) d_M_clear_8 ?_
  refine lv_iload_n X.1 X.2.1 d_M_clear_11 rfl (lv_at hl 1 rfl) ?_
  refine lv_iconst (v := 0) X.1 X.2.1 d_M_clear_12 (by decide) ?_
  refine mz_ast ⟨X, hK.1⟩ hY v_9 1 rfl (x := n) rfl (by omega) (by decide) rfl d_M_clear_13 (fun H locs hY => ?_)
  have hY : hm_Y D cls A s.heap (wM G ((M.sI 8 n 0).sI 9 n 0) ω) H locs := by rw [← fa_9 (M := (M.sI 8 n 0)) (j := n) (v := 0)]; exact hY
  refine lv_aload_n X.1 X.2.1 d_M_clear_14 rfl (lv_at hl 0 rfl) ?_
  refine hm_get ⟨X, hK.1⟩ hY v_0 10 (v := .ref (M.ad 10)) rfl rfl (Nat.le_of_ble_eq_true rfl) hu_M m_499 (fun _ h => h) d_M_clear_15 ?_
  refine lv_iload_n X.1 X.2.1 d_M_clear_18 rfl (lv_at hl 1 rfl) ?_
  refine lv_iconst (v := 0) X.1 X.2.1 d_M_clear_19 (by decide) ?_
  refine mi_ast ⟨X, hK.1⟩ hY v_10 0 rfl (x := n) rfl (by omega) (by decide) d_M_clear_20 (fun H locs hY => ?_)
  have hY : hm_Y D cls A s.heap (wM G (((M.sI 8 n 0).sI 9 n 0).sI 10 n 0) ω) H locs := by rw [← fa_10 (M := ((M.sI 8 n 0).sI 9 n 0)) (j := n) (v := 0)]; exact hY
  refine lv_bipush (v := 10) X.1 X.2.1 d_M_clear_21 (by decide) ?_
  refine lv_iload_n X.1 X.2.1 d_M_clear_23 rfl (lv_at hl 1 rfl) ?_
  refine lv_imul X.1 X.2.1 d_M_clear_24 ?_
  rw [show (10 : Int32) * nI n = nI (10 * n) from pk_mul 10 n]
  refine lv_istore_n (lv' := [(2, .int (nI (10 * n))), (0, .ref (M.ad 0)), (1, .int (nI n))]) X.1 X.2.1 d_M_clear_25 rfl hl (by decide) rfl (fun ls hl => ?_)
  have loop : ∀ (k j : Nat) (T : mS) (ls : Array Slot) (H : Heap) (locs : List Loc), j ≤ 10 → 10 < j + k → T = clL (cl0 M n) n j → T.I 1 = M.I 1 → T.I 4 = M.I 4 → T.I 12 = M.I 12 → hm_Y D cls A s.heap (wM G T ω) H locs → lv_has ls 3 [(2, .int (nI (10 * n + j))), (0, .ref (T.ad 0)), (1, .int (nI n))] → W p l e { frames := 0, cells := 0, slots := 0, locals := 0 } s m (([.ref (M.ad 0), .int (nI n)] : List Value).toArray) below meth c H locs 0 0 (MQ below (hm_Q D cls A (fun v w => v = none ∧ w = wM G (clr M n) ω)) (([.ref (M.ad 0), .int (nI n)] : List Value).toArray) s 0 0 A) (F0 m 26 ls []) := by
    intro k
    induction k with
    | zero => intro j T ls H locs hle hlt; omega
    | succ k ih =>
      intro j T ls H locs hle hlt hT h1 h4 h12 hY hl
      refine lv_iload_n X.1 X.2.1 d_M_clear_26 rfl (lv_at hl 0 rfl) ?_
      refine lv_bipush (v := 10) X.1 X.2.1 d_M_clear_27 (by decide) ?_
      refine lv_iload_n X.1 X.2.1 d_M_clear_29 rfl (lv_at hl 2 rfl) ?_
      refine lv_imul X.1 X.2.1 d_M_clear_30 ?_
      rw [show (10 : Int32) * nI n = nI (10 * n) from pk_mul 10 n]
      refine lv_bipush (v := 10) X.1 X.2.1 d_M_clear_31 (by decide) ?_
      refine lv_iadd X.1 X.2.1 d_M_clear_33 ?_
      rw [show nI (10 * n) + 10 = nI (10 * n + 10) from nI_add (10 * n) 10]
      refine lv_icmp_ge (tgt := 52) X.1 X.2.1 d_M_clear_34 (by decide) (fun c0 => ?_) (fun c0 => ?_)
      · have hj : j = 10 := by rcases Nat.lt_or_ge j (10) with q | q; exact absurd c0 (nI_ge (by omega) (by omega)); omega
        exact en_vW X hY hr hlocks d_M_clear_52 (⟨rfl, by rw [hT, hj]; rfl⟩)
      · have hj : j < 10 := by rcases Nat.lt_or_ge j (10) with q | q; exact q; exact absurd (nI_le (by omega) (by omega)) c0
        refine lv_aload_n X.1 X.2.1 d_M_clear_37 rfl (lv_at hl 1 rfl) ?_
        refine hm_get ⟨X, hK.1⟩ hY v_0 18 (v := .ref (T.ad 18)) rfl rfl (Nat.le_of_ble_eq_true rfl) hu_M m_507 (fun _ h => h) d_M_clear_38 ?_
        refine lv_iload_n X.1 X.2.1 d_M_clear_41 rfl (lv_at hl 0 rfl) ?_
        refine lv_ldc2 X.1 X.2.1 X.2.2.2.1 (X.2.2.2.2 _ m_488) d_M_clear_42 ?_
        refine ml_ast ⟨X, hK.1⟩ hY v_18 2 rfl (x := 10 * n + j) rfl (by omega) (by decide) d_M_clear_45 (fun H locs hY => ?_)
        have hY : hm_Y D cls A s.heap (wM G (T.sJ 18 (10 * n + j) (-1)) ω) H locs := by rw [← fa_18 (M := T) (j := 10 * n + j) (v := (-1))]; exact hY
        refine lv_iinc (v := nI (10 * n + (j + 1))) (lv' := [(2, .int (nI (10 * n + (j + 1)))), (0, .ref (T.ad 0)), (1, .int (nI n))]) X.1 X.2.1 d_M_clear_46 hl (k := 0) rfl (nI_1 (10 * n + j)) (by decide) rfl (fun ls hl => ?_)
        refine lv_goto (tgt := 26) X.1 X.2.1 d_M_clear_49 (by decide) ?_
        exact ih (j + 1) (T.sJ 18 (10 * n + j) (-1)) _ _ _ (by omega) (by omega) (by rw [show clL (cl0 M n) n (j + 1) = clL1 (clL (cl0 M n) n j) n j from rfl, ← hT, clL1]) h1 h4 h12 hY (lv_sub hl [0, 1, 2] rfl)
  exact loop (10 + 1) 0 (((M.sI 8 n 0).sI 9 n 0).sI 10 n 0) ls _ _ (Nat.zero_le _) (by omega) rfl rfl rfl rfl hY (lv_sub hl [0, 1, 2] rfl)

set_option maxHeartbeats 4000000 in
set_option maxRecDepth 100000 in
theorem k_M_reset0 (l : Launch) (D : va_G) (A : Nat → Prop) (G : Nat → Nat) (M : mS) (ω : hm_T) (c0 : Nat) (hc0 : M.I 1 0 = nI c0) (h20 : c0 ≤ 20) (why : Int32) : Met l y_M_reset0 (.code y_M_reset0 c_M_reset0 3 (none : Option FieldType) :: wsA) { frames := 1, cells := 0, slots := 0, locals := 22 } (va_Pc [.ref (M.ad 0), .int why] (ctU D A G (wM G M ω))) (hm_Q D cls A (fun v w => v = none ∧ w = wM G (r0 M why c0) ω)) 0 0 A := by
  refine ct_met (by decide) (Nat.le_of_ble_eq_true rfl) ?_
  rintro p e s m below meth c ls X hr hlocks hnm hl ⟨hB, hK⟩
  have hl : lv_has ls 3 [(0, .ref (M.ad 0)), (1, .int why)] := hl
  have hY : hm_Y D cls A s.heap (wM G M ω) s.heap [] := hm_Y.start hB hK.2.2.2
  refine lv_aload_n X.1 X.2.1 d_M_reset0_0 rfl (lv_at hl 0 rfl) ?_
  refine lv_iload_n X.1 X.2.1 d_M_reset0_1 rfl (lv_at hl 1 rfl) ?_
  refine hm_put ⟨X, hK.1⟩ hY v_0 25 rfl (Nat.le_of_ble_eq_true rfl) (Nat.le_of_ble_eq_true rfl) hu_M ty_M ty_M_ok nm_M m_514 (fun _ h => h) rfl rfl rfl d_M_reset0_2 (fun H locs hY => ?_)
  have hY : hm_Y D cls A s.heap (wM G (M.sI 25 0 why) ω) H locs := by rw [← fm_25 (M := M) (v := why)]; exact hY
  refine lv_aload_n X.1 X.2.1 d_M_reset0_5 rfl (lv_at hl 0 rfl) ?_
  refine lv_dup X.1 X.2.1 d_M_reset0_6 rfl ?_
  refine hm_get ⟨X, hK.1⟩ hY v_0 24 (v := .int (M.I 24 0)) rfl rfl (Nat.le_of_ble_eq_true rfl) hu_M m_513 (fun _ h => h) d_M_reset0_7 ?_
  refine lv_iconst (v := 1) X.1 X.2.1 d_M_reset0_10 (by decide) ?_
  refine lv_iadd X.1 X.2.1 d_M_reset0_11 ?_
  refine hm_put ⟨X, hK.1⟩ hY v_0 24 rfl (Nat.le_of_ble_eq_true rfl) (Nat.le_of_ble_eq_true rfl) hu_M ty_M ty_M_ok nm_M m_513 (fun _ h => h) rfl rfl rfl d_M_reset0_12 (fun H locs hY => ?_)
  have hY : hm_Y D cls A s.heap (wM G ((M.sI 25 0 why).sI 24 0 ((M.I 24 0) + 1)) ω) H locs := by rw [← fm_24 (M := (M.sI 25 0 why)) (v := (M.I 24 0) + 1)]; exact hY
  refine lv_iconst (v := 1) X.1 X.2.1 d_M_reset0_15 (by decide) ?_
  refine lv_istore_n (lv' := [(2, .int 1), (0, .ref (M.ad 0)), (1, .int why)]) X.1 X.2.1 d_M_reset0_16 rfl hl (by decide) rfl (fun ls hl => ?_)
  have loop : ∀ (k j : Nat) (T : mS) (ls : Array Slot) (H : Heap) (locs : List Loc), j ≤ c0 → c0 < j + k → T = r0L ((M.sI 25 0 why).sI 24 0 (M.I 24 0 + 1)) j → T.I 1 = M.I 1 → T.I 4 = M.I 4 → T.I 12 = M.I 12 → hm_Y D cls A s.heap (wM G T ω) H locs → lv_has ls 3 [(2, .int (nI (j + 1))), (0, .ref (T.ad 0)), (1, .int why)] → W p l e { frames := 1, cells := 0, slots := 0, locals := 22 } s m (([.ref (M.ad 0), .int why] : List Value).toArray) below meth c H locs 0 0 (MQ below (hm_Q D cls A (fun v w => v = none ∧ w = wM G (r0 M why c0) ω)) (([.ref (M.ad 0), .int why] : List Value).toArray) s 0 0 A) (F0 m 17 ls []) := by
    intro k
    induction k with
    | zero => intro j T ls H locs hle hlt; omega
    | succ k ih =>
      intro j T ls H locs hle hlt hT h1 h4 h12 hY hl
      refine lv_iload_n X.1 X.2.1 d_M_reset0_17 rfl (lv_at hl 0 rfl) ?_
      refine lv_aload_n X.1 X.2.1 d_M_reset0_18 rfl (lv_at hl 1 rfl) ?_
      refine hm_get ⟨X, hK.1⟩ hY v_0 1 (v := .int (T.I 1 0)) rfl rfl (Nat.le_of_ble_eq_true rfl) hu_M m_490 (fun _ h => h) d_M_reset0_19 ?_
      have hb1 : T.I 1 0 = nI c0 := by rw [h1]; exact hc0
      rw [hb1]
      refine lv_icmp_gt (tgt := 50) X.1 X.2.1 d_M_reset0_22 (by decide) (fun c9 => ?_) (fun c9 => ?_)
      · have hj : j = c0 := by rcases Nat.lt_or_ge j c0 with q | q; exact absurd c9 (nI_nlt (by omega) (by omega)); omega
        refine lv_aload_n X.1 X.2.1 d_M_reset0_50 rfl (lv_at hl 1 rfl) ?_
        refine lv_iconst (v := 0) X.1 X.2.1 d_M_reset0_51 (by decide) ?_
        refine hm_put ⟨X, hK.1⟩ hY v_0 19 rfl (Nat.le_of_ble_eq_true rfl) (Nat.le_of_ble_eq_true rfl) hu_M ty_M ty_M_ok nm_M m_508 (fun _ h => h) rfl rfl rfl d_M_reset0_52 (fun H locs hY => ?_)
        have hY : hm_Y D cls A s.heap (wM G (T.sI 19 0 0) ω) H locs := by rw [← fm_19 (M := T) (v := 0)]; exact hY
        refine lv_aload_n X.1 X.2.1 d_M_reset0_55 rfl (lv_at hl 1 rfl) ?_
        refine lv_iconst (v := 0) X.1 X.2.1 d_M_reset0_56 (by decide) ?_
        refine hm_put ⟨X, hK.1⟩ hY v_0 20 rfl (Nat.le_of_ble_eq_true rfl) (Nat.le_of_ble_eq_true rfl) hu_M ty_M ty_M_ok nm_M m_509 (fun _ h => h) rfl rfl rfl d_M_reset0_57 (fun H locs hY => ?_)
        have hY : hm_Y D cls A s.heap (wM G ((T.sI 19 0 0).sI 20 0 0) ω) H locs := by rw [← fm_20 (M := (T.sI 19 0 0)) (v := 0)]; exact hY
        refine lv_aload_n X.1 X.2.1 d_M_reset0_60 rfl (lv_at hl 1 rfl) ?_
        refine lv_iconst (v := 0) X.1 X.2.1 d_M_reset0_61 (by decide) ?_
        refine hm_put ⟨X, hK.1⟩ hY v_0 22 rfl (Nat.le_of_ble_eq_true rfl) (Nat.le_of_ble_eq_true rfl) hu_M ty_M ty_M_ok nm_M m_511 (fun _ h => h) rfl rfl rfl d_M_reset0_62 (fun H locs hY => ?_)
        have hY : hm_Y D cls A s.heap (wM G (((T.sI 19 0 0).sI 20 0 0).sI 22 0 0) ω) H locs := by rw [← fm_22 (M := ((T.sI 19 0 0).sI 20 0 0)) (v := 0)]; exact hY
        refine lv_aload_n X.1 X.2.1 d_M_reset0_65 rfl (lv_at hl 1 rfl) ?_
        refine lv_iconst (v := 0) X.1 X.2.1 d_M_reset0_66 (by decide) ?_
        refine hm_put ⟨X, hK.1⟩ hY v_0 26 rfl (Nat.le_of_ble_eq_true rfl) (Nat.le_of_ble_eq_true rfl) hu_M ty_M ty_M_ok nm_M m_515 (fun _ h => h) rfl rfl rfl d_M_reset0_67 (fun H locs hY => ?_)
        have hY : hm_Y D cls A s.heap (wM G ((((T.sI 19 0 0).sI 20 0 0).sI 22 0 0).sI 26 0 0) ω) H locs := by rw [← fm_26 (M := (((T.sI 19 0 0).sI 20 0 0).sI 22 0 0)) (v := 0)]; exact hY
        refine lv_aload_n X.1 X.2.1 d_M_reset0_70 rfl (lv_at hl 1 rfl) ?_
        refine lv_iconst (v := 0) X.1 X.2.1 d_M_reset0_71 (by decide) ?_
        refine hm_put ⟨X, hK.1⟩ hY v_0 27 rfl (Nat.le_of_ble_eq_true rfl) (Nat.le_of_ble_eq_true rfl) hu_M ty_M ty_M_ok nm_M m_516 (fun _ h => h) rfl rfl rfl d_M_reset0_72 (fun H locs hY => ?_)
        have hY : hm_Y D cls A s.heap (wM G (((((T.sI 19 0 0).sI 20 0 0).sI 22 0 0).sI 26 0 0).sI 27 0 0) ω) H locs := by rw [← fm_27 (M := ((((T.sI 19 0 0).sI 20 0 0).sI 22 0 0).sI 26 0 0)) (v := 0)]; exact hY
        refine lv_aload_n X.1 X.2.1 d_M_reset0_75 rfl (lv_at hl 1 rfl) ?_
        refine lv_iconst (v := 0) X.1 X.2.1 d_M_reset0_76 (by decide) ?_
        refine hm_put ⟨X, hK.1⟩ hY v_0 28 rfl (Nat.le_of_ble_eq_true rfl) (Nat.le_of_ble_eq_true rfl) hu_M ty_M ty_M_ok nm_M m_517 (fun _ h => h) rfl rfl rfl d_M_reset0_77 (fun H locs hY => ?_)
        have hY : hm_Y D cls A s.heap (wM G ((((((T.sI 19 0 0).sI 20 0 0).sI 22 0 0).sI 26 0 0).sI 27 0 0).sI 28 0 0) ω) H locs := by rw [← fm_28 (M := (((((T.sI 19 0 0).sI 20 0 0).sI 22 0 0).sI 26 0 0).sI 27 0 0)) (v := 0)]; exact hY
        refine lv_aload_n X.1 X.2.1 d_M_reset0_80 rfl (lv_at hl 1 rfl) ?_
        refine lv_aload_n X.1 X.2.1 d_M_reset0_81 rfl (lv_at hl 1 rfl) ?_
        refine hm_get ⟨X, hK.1⟩ hY v_0 21 (v := .long (T.J 21 0)) rfl rfl (Nat.le_of_ble_eq_true rfl) hu_M m_510 (fun _ h => h) d_M_reset0_82 ?_
        refine hm_put ⟨X, hK.1⟩ hY v_0 29 rfl (Nat.le_of_ble_eq_true rfl) (Nat.le_of_ble_eq_true rfl) hu_M ty_M ty_M_ok nm_M m_518 (fun _ h => h) rfl rfl rfl d_M_reset0_85 (fun H locs hY => ?_)
        have hY : hm_Y D cls A s.heap (wM G (((((((T.sI 19 0 0).sI 20 0 0).sI 22 0 0).sI 26 0 0).sI 27 0 0).sI 28 0 0).sJ 29 0 (T.J 21 0)) ω) H locs := by rw [← fm_29 (M := ((((((T.sI 19 0 0).sI 20 0 0).sI 22 0 0).sI 26 0 0).sI 27 0 0).sI 28 0 0)) (v := T.J 21 0)]; exact hY
        refine lv_aload_n X.1 X.2.1 d_M_reset0_88 rfl (lv_at hl 1 rfl) ?_
        refine lv_aload_n X.1 X.2.1 d_M_reset0_89 rfl (lv_at hl 1 rfl) ?_
        refine hm_get ⟨X, hK.1⟩ hY v_0 21 (v := .long (T.J 21 0)) rfl rfl (Nat.le_of_ble_eq_true rfl) hu_M m_510 (fun _ h => h) d_M_reset0_90 ?_
        refine hm_put ⟨X, hK.1⟩ hY v_0 30 rfl (Nat.le_of_ble_eq_true rfl) (Nat.le_of_ble_eq_true rfl) hu_M ty_M ty_M_ok nm_M m_519 (fun _ h => h) rfl rfl rfl d_M_reset0_93 (fun H locs hY => ?_)
        have hY : hm_Y D cls A s.heap (wM G ((((((((T.sI 19 0 0).sI 20 0 0).sI 22 0 0).sI 26 0 0).sI 27 0 0).sI 28 0 0).sJ 29 0 (T.J 21 0)).sJ 30 0 (T.J 21 0)) ω) H locs := by rw [← fm_30 (M := (((((((T.sI 19 0 0).sI 20 0 0).sI 22 0 0).sI 26 0 0).sI 27 0 0).sI 28 0 0).sJ 29 0 (T.J 21 0))) (v := T.J 21 0)]; exact hY
        exact en_vW X hY hr hlocks d_M_reset0_96 (⟨rfl, by rw [r0, ← hj, ← hT]; rfl⟩)
      · have hj : j < c0 := by rcases Nat.lt_or_ge j c0 with q | q; exact q; exact absurd (nI_lt (by omega) (by omega)) c9
        refine lv_aload_n X.1 X.2.1 d_M_reset0_25 rfl (lv_at hl 1 rfl) ?_
        refine lv_iload_n X.1 X.2.1 d_M_reset0_26 rfl (lv_at hl 0 rfl) ?_
        refine hm_call (ct_runV (n := 1) X hK hY (k_M_clear l D A G T ω (j + 1) (by omega) (by omega)) m_635 m_632 m_634 ms_M_clear m_6 (by decide +kernel) ⟨Nat.le_of_ble_eq_true rfl, Nat.le_of_ble_eq_true rfl⟩ ⟨rfl, rfl⟩ (hm_recv ⟨X, hK.1⟩ hY v_0 rfl) rfl hl.1 rfl (Nat.le_of_ble_eq_true rfl) d_M_reset0_27 ⟨Nat.le_of_ble_eq_true rfl, Nat.le_of_ble_eq_true rfl⟩) hY (fun v w1 H locs hp hY => ?_)
        obtain ⟨rfl, rfl⟩ := hp
        refine W.eq (g2 := F0 m 30 ls []) rfl ?_
        obtain ⟨E1, hE1⟩ : ∃ z, z = clr T (j + 1) := ⟨_, rfl⟩
        rw [← hE1] at hY
        have hkE1 : E1.ad = T.ad ∧ E1.I 1 = T.I 1 ∧ E1.I 4 = T.I 4 ∧ E1.I 12 = T.I 12 := by rw [hE1]; exact clr_k T (j + 1)
        have hl : lv_has ls 3 [(2, .int (nI (j + 1))), (0, .ref (E1.ad 0)), (1, .int why)] := by rw [hkE1.1]; exact hl
        refine lv_aload_n X.1 X.2.1 d_M_reset0_30 rfl (lv_at hl 1 rfl) ?_
        refine hm_get ⟨X, hK.1⟩ hY v_0 5 (v := .ref (E1.ad 5)) rfl rfl (Nat.le_of_ble_eq_true rfl) hu_M m_494 (fun _ h => h) d_M_reset0_31 ?_
        refine lv_iload_n X.1 X.2.1 d_M_reset0_34 rfl (lv_at hl 0 rfl) ?_
        refine lv_iconst (v := 0) X.1 X.2.1 d_M_reset0_35 (by decide) ?_
        refine mi_ast ⟨X, hK.1⟩ hY v_5 0 rfl (x := j + 1) rfl (by omega) (by decide) d_M_reset0_36 (fun H locs hY => ?_)
        have hY : hm_Y D cls A s.heap (wM G (E1.sI 5 (j + 1) 0) ω) H locs := by rw [← fa_5 (M := E1) (j := j + 1) (v := 0)]; exact hY
        refine lv_aload_n X.1 X.2.1 d_M_reset0_37 rfl (lv_at hl 1 rfl) ?_
        refine hm_get ⟨X, hK.1⟩ hY v_0 6 (v := .ref (E1.ad 6)) rfl rfl (Nat.le_of_ble_eq_true rfl) hu_M m_495 (fun _ h => h) d_M_reset0_38 ?_
        refine lv_iload_n X.1 X.2.1 d_M_reset0_41 rfl (lv_at hl 0 rfl) ?_
        refine lv_iconst (v := 0) X.1 X.2.1 d_M_reset0_42 (by decide) ?_
        refine mi_ast ⟨X, hK.1⟩ hY v_6 0 rfl (x := j + 1) rfl (by omega) (by decide) d_M_reset0_43 (fun H locs hY => ?_)
        have hY : hm_Y D cls A s.heap (wM G ((E1.sI 5 (j + 1) 0).sI 6 (j + 1) 0) ω) H locs := by rw [← fa_6 (M := (E1.sI 5 (j + 1) 0)) (j := j + 1) (v := 0)]; exact hY
        refine lv_iinc (v := nI (j + 1 + 1)) (lv' := [(2, .int (nI (j + 1 + 1))), (0, .ref (E1.ad 0)), (1, .int why)]) X.1 X.2.1 d_M_reset0_44 hl (k := 0) rfl (nI_1 (j + 1)) (by decide) rfl (fun ls hl => ?_)
        refine lv_goto (tgt := 17) X.1 X.2.1 d_M_reset0_47 (by decide) ?_
        exact ih (j + 1) ((E1.sI 5 (j + 1) 0).sI 6 (j + 1) 0) _ _ _ (by omega) (by omega) (by rw [hE1, show r0L ((M.sI 25 0 why).sI 24 0 (M.I 24 0 + 1)) (j + 1) = r01 (r0L ((M.sI 25 0 why).sI 24 0 (M.I 24 0 + 1)) j) (j + 1) from rfl, ← hT, r01]) (hkE1.2.1.trans h1) (hkE1.2.2.1.trans h4) (hkE1.2.2.2.trans h12) hY (lv_sub hl [0, 1, 2] rfl)
  exact loop (c0 + 1) 0 ((M.sI 25 0 why).sI 24 0 ((M.I 24 0) + 1)) ls _ _ (Nat.zero_le _) (by omega) rfl rfl rfl rfl hY (lv_sub hl [0, 1, 2] rfl)

set_option maxHeartbeats 4000000 in
set_option maxRecDepth 100000 in
theorem k_M_judge (l : Launch) (D : va_G) (A : Nat → Prop) (G : Nat → Nat) (M : mS) (ω : hm_T) (n : Nat) (h0 : 1 ≤ n) (h20 : n ≤ 20) (cn : Nat) (hcn : M.I 12 n = nI cn) (h10 : cn ≤ 10) (hsp : ¬ M.I 4 n = 0) : Met l y_M_judge (.code y_M_judge c_M_judge 3 (none : Option FieldType) :: wsA) { frames := 0, cells := 0, slots := 0, locals := 0 } (va_Pc [.ref (M.ad 0), .int (nI n)] (ctU D A G (wM G M ω))) (hm_Q D cls A (fun v w => v = none ∧ w = wM G (jd M n cn) ω)) 0 0 A := by
  refine ct_met (by decide) (Nat.le_of_ble_eq_true rfl) ?_
  rintro p e s m below meth c ls X hr hlocks hnm hl ⟨hB, hK⟩
  have hl : lv_has ls 3 [(0, .ref (M.ad 0)), (1, .int (nI n))] := hl
  have hY : hm_Y D cls A s.heap (wM G M ω) s.heap [] := hm_Y.start hB hK.2.2.2
  have mid : ∀ (T : mS) (ls : Array Slot) (H : Heap) (locs : List Loc), T = jA (jL M n cn) n → hm_Y D cls A s.heap (wM G T ω) H locs → lv_has ls 3 [(0, .ref (T.ad 0)), (1, .int (nI n))] → W p l e { frames := 0, cells := 0, slots := 0, locals := 0 } s m (([.ref (M.ad 0), .int (nI n)] : List Value).toArray) below meth c H locs 0 0 (MQ below (hm_Q D cls A (fun v w => v = none ∧ w = wM G (jd M n cn) ω)) (([.ref (M.ad 0), .int (nI n)] : List Value).toArray) s 0 0 A) (F0 m 143 ls []) := by
    intro T ls H locs hT hY hl
    refine lv_aload_n X.1 X.2.1 d_M_judge_143 rfl (lv_at hl 0 rfl) ?_
    refine hm_get ⟨X, hK.1⟩ hY v_0 9 (v := .ref (T.ad 9)) rfl rfl (Nat.le_of_ble_eq_true rfl) hu_M m_498 (fun _ h => h) d_M_judge_144 ?_
    refine lv_iload_n X.1 X.2.1 d_M_judge_147 rfl (lv_at hl 1 rfl) ?_
    refine mz_ald ⟨X, hK.1⟩ hY v_9 1 rfl (x := n) (v := T.I 9 n) rfl (by omega) (by decide) rfl d_M_judge_148 ?_
    refine lv_if_eq (tgt := 191) X.1 X.2.1 d_M_judge_149 (by decide) (fun c1 => ?_) (fun c1 => ?_)
    · refine lv_aload_n X.1 X.2.1 d_M_judge_191 rfl (lv_at hl 0 rfl) ?_
      refine hm_get ⟨X, hK.1⟩ hY v_0 5 (v := .ref (T.ad 5)) rfl rfl (Nat.le_of_ble_eq_true rfl) hu_M m_494 (fun _ h => h) d_M_judge_192 ?_
      refine lv_iload_n X.1 X.2.1 d_M_judge_195 rfl (lv_at hl 1 rfl) ?_
      refine mi_ald ⟨X, hK.1⟩ hY v_5 0 rfl (x := n) (v := T.I 5 n) rfl (by omega) (by decide) rfl d_M_judge_196 ?_
      refine lv_iconst (v := 1) X.1 X.2.1 d_M_judge_197 (by decide) ?_
      refine lv_icmp_ne (tgt := 231) X.1 X.2.1 d_M_judge_198 (by decide) (fun c2 => ?_) (fun c2 => ?_)
      · refine lv_aload_n X.1 X.2.1 d_M_judge_231 rfl (lv_at hl 0 rfl) ?_
        refine hm_get ⟨X, hK.1⟩ hY v_0 9 (v := .ref (T.ad 9)) rfl rfl (Nat.le_of_ble_eq_true rfl) hu_M m_498 (fun _ h => h) d_M_judge_232 ?_
        refine lv_iload_n X.1 X.2.1 d_M_judge_235 rfl (lv_at hl 1 rfl) ?_
        refine lv_iconst (v := 0) X.1 X.2.1 d_M_judge_236 (by decide) ?_
        refine mz_ast ⟨X, hK.1⟩ hY v_9 1 rfl (x := n) rfl (by omega) (by decide) rfl d_M_judge_237 (fun H locs hY => ?_)
        have hY : hm_Y D cls A s.heap (wM G (T.sI 9 n 0) ω) H locs := by rw [← fa_9 (M := T) (j := n) (v := 0)]; exact hY
        exact en_vW X hY hr hlocks d_M_judge_238 (⟨rfl, by rw [jd, ← hT, jB, if_pos c1, if_neg c2]⟩)
      · refine lv_aload_n X.1 X.2.1 d_M_judge_201 rfl (lv_at hl 0 rfl) ?_
        refine hm_get ⟨X, hK.1⟩ hY v_0 6 (v := .ref (T.ad 6)) rfl rfl (Nat.le_of_ble_eq_true rfl) hu_M m_495 (fun _ h => h) d_M_judge_202 ?_
        refine lv_iload_n X.1 X.2.1 d_M_judge_205 rfl (lv_at hl 1 rfl) ?_
        refine lv_dup2_11 X.1 X.2.1 d_M_judge_206 rfl rfl ?_
        refine mi_ald ⟨X, hK.1⟩ hY v_6 0 rfl (x := n) (v := T.I 6 n) rfl (by omega) (by decide) rfl d_M_judge_207 ?_
        refine lv_iconst (v := 1) X.1 X.2.1 d_M_judge_208 (by decide) ?_
        refine lv_isub X.1 X.2.1 d_M_judge_209 ?_
        refine mi_ast ⟨X, hK.1⟩ hY v_6 0 rfl (x := n) rfl (by omega) (by decide) d_M_judge_210 (fun H locs hY => ?_)
        have hY : hm_Y D cls A s.heap (wM G (T.sI 6 n ((T.I 6 n) - 1)) ω) H locs := by rw [← fa_6 (M := T) (j := n) (v := (T.I 6 n) - 1)]; exact hY
        refine lv_aload_n X.1 X.2.1 d_M_judge_211 rfl (lv_at hl 0 rfl) ?_
        refine hm_get ⟨X, hK.1⟩ hY v_0 5 (v := .ref (T.ad 5)) rfl rfl (Nat.le_of_ble_eq_true rfl) hu_M m_494 (fun _ h => h) d_M_judge_212 ?_
        refine lv_iload_n X.1 X.2.1 d_M_judge_215 rfl (lv_at hl 1 rfl) ?_
        refine lv_aload_n X.1 X.2.1 d_M_judge_216 rfl (lv_at hl 0 rfl) ?_
        refine hm_get ⟨X, hK.1⟩ hY v_0 6 (v := .ref (T.ad 6)) rfl rfl (Nat.le_of_ble_eq_true rfl) hu_M m_495 (fun _ h => h) d_M_judge_217 ?_
        refine lv_iload_n X.1 X.2.1 d_M_judge_220 rfl (lv_at hl 1 rfl) ?_
        refine mi_ald ⟨X, hK.1⟩ hY v_6 0 rfl (x := n) (v := (T.I 6 n) - 1) rfl (by omega) (by decide) (by simp [mS.sI, mS.sJ, mS.I, mS.J, up2]) d_M_judge_221 ?_
        refine lv_if_ne (tgt := 229) X.1 X.2.1 d_M_judge_222 (by decide) (fun c3 => ?_) (fun c3 => ?_)
        · refine lv_iconst (v := 1) X.1 X.2.1 d_M_judge_229 (by decide) ?_
          refine mi_ast ⟨X, hK.1⟩ hY v_5 0 rfl (x := n) rfl (by omega) (by decide) d_M_judge_230 (fun H locs hY => ?_)
          have hY : hm_Y D cls A s.heap (wM G ((T.sI 6 n ((T.I 6 n) - 1)).sI 5 n 1) ω) H locs := by rw [← fa_5 (M := (T.sI 6 n ((T.I 6 n) - 1))) (j := n) (v := 1)]; exact hY
          refine lv_aload_n X.1 X.2.1 d_M_judge_231 rfl (lv_at hl 0 rfl) ?_
          refine hm_get ⟨X, hK.1⟩ hY v_0 9 (v := .ref (T.ad 9)) rfl rfl (Nat.le_of_ble_eq_true rfl) hu_M m_498 (fun _ h => h) d_M_judge_232 ?_
          refine lv_iload_n X.1 X.2.1 d_M_judge_235 rfl (lv_at hl 1 rfl) ?_
          refine lv_iconst (v := 0) X.1 X.2.1 d_M_judge_236 (by decide) ?_
          refine mz_ast ⟨X, hK.1⟩ hY v_9 1 rfl (x := n) rfl (by omega) (by decide) rfl d_M_judge_237 (fun H locs hY => ?_)
          have hY : hm_Y D cls A s.heap (wM G (((T.sI 6 n ((T.I 6 n) - 1)).sI 5 n 1).sI 9 n 0) ω) H locs := by rw [← fa_9 (M := ((T.sI 6 n ((T.I 6 n) - 1)).sI 5 n 1)) (j := n) (v := 0)]; exact hY
          exact en_vW X hY hr hlocks d_M_judge_238 (⟨rfl, by rw [jd, ← hT, jB, if_pos c1, if_pos c2, if_neg c3]⟩)
        · refine lv_iconst (v := 0) X.1 X.2.1 d_M_judge_225 (by decide) ?_
          refine lv_goto (tgt := 230) X.1 X.2.1 d_M_judge_226 (by decide) ?_
          refine mi_ast ⟨X, hK.1⟩ hY v_5 0 rfl (x := n) rfl (by omega) (by decide) d_M_judge_230 (fun H locs hY => ?_)
          have hY : hm_Y D cls A s.heap (wM G ((T.sI 6 n ((T.I 6 n) - 1)).sI 5 n 0) ω) H locs := by rw [← fa_5 (M := (T.sI 6 n ((T.I 6 n) - 1))) (j := n) (v := 0)]; exact hY
          refine lv_aload_n X.1 X.2.1 d_M_judge_231 rfl (lv_at hl 0 rfl) ?_
          refine hm_get ⟨X, hK.1⟩ hY v_0 9 (v := .ref (T.ad 9)) rfl rfl (Nat.le_of_ble_eq_true rfl) hu_M m_498 (fun _ h => h) d_M_judge_232 ?_
          refine lv_iload_n X.1 X.2.1 d_M_judge_235 rfl (lv_at hl 1 rfl) ?_
          refine lv_iconst (v := 0) X.1 X.2.1 d_M_judge_236 (by decide) ?_
          refine mz_ast ⟨X, hK.1⟩ hY v_9 1 rfl (x := n) rfl (by omega) (by decide) rfl d_M_judge_237 (fun H locs hY => ?_)
          have hY : hm_Y D cls A s.heap (wM G (((T.sI 6 n ((T.I 6 n) - 1)).sI 5 n 0).sI 9 n 0) ω) H locs := by rw [← fa_9 (M := ((T.sI 6 n ((T.I 6 n) - 1)).sI 5 n 0)) (j := n) (v := 0)]; exact hY
          exact en_vW X hY hr hlocks d_M_judge_238 (⟨rfl, by rw [jd, ← hT, jB, if_pos c1, if_pos c2, if_pos c3]⟩)
    · refine lv_aload_n X.1 X.2.1 d_M_judge_152 rfl (lv_at hl 0 rfl) ?_
      refine hm_get ⟨X, hK.1⟩ hY v_0 6 (v := .ref (T.ad 6)) rfl rfl (Nat.le_of_ble_eq_true rfl) hu_M m_495 (fun _ h => h) d_M_judge_153 ?_
      refine lv_iload_n X.1 X.2.1 d_M_judge_156 rfl (lv_at hl 1 rfl) ?_
      refine lv_dup2_11 X.1 X.2.1 d_M_judge_157 rfl rfl ?_
      refine mi_ald ⟨X, hK.1⟩ hY v_6 0 rfl (x := n) (v := T.I 6 n) rfl (by omega) (by decide) rfl d_M_judge_158 ?_
      refine lv_iconst (v := 1) X.1 X.2.1 d_M_judge_159 (by decide) ?_
      refine lv_iadd X.1 X.2.1 d_M_judge_160 ?_
      refine mi_ast ⟨X, hK.1⟩ hY v_6 0 rfl (x := n) rfl (by omega) (by decide) d_M_judge_161 (fun H locs hY => ?_)
      have hY : hm_Y D cls A s.heap (wM G (T.sI 6 n ((T.I 6 n) + 1)) ω) H locs := by rw [← fa_6 (M := T) (j := n) (v := (T.I 6 n) + 1)]; exact hY
      refine lv_aload_n X.1 X.2.1 d_M_judge_162 rfl (lv_at hl 0 rfl) ?_
      refine hm_get ⟨X, hK.1⟩ hY v_0 5 (v := .ref (T.ad 5)) rfl rfl (Nat.le_of_ble_eq_true rfl) hu_M m_494 (fun _ h => h) d_M_judge_163 ?_
      refine lv_iload_n X.1 X.2.1 d_M_judge_166 rfl (lv_at hl 1 rfl) ?_
      refine lv_aload_n X.1 X.2.1 d_M_judge_167 rfl (lv_at hl 0 rfl) ?_
      refine hm_get ⟨X, hK.1⟩ hY v_0 6 (v := .ref (T.ad 6)) rfl rfl (Nat.le_of_ble_eq_true rfl) hu_M m_495 (fun _ h => h) d_M_judge_168 ?_
      refine lv_iload_n X.1 X.2.1 d_M_judge_171 rfl (lv_at hl 1 rfl) ?_
      refine mi_ald ⟨X, hK.1⟩ hY v_6 0 rfl (x := n) (v := (T.I 6 n) + 1) rfl (by omega) (by decide) (by simp [mS.sI, mS.sJ, mS.I, mS.J, up2]) d_M_judge_172 ?_
      refine lv_aload_n X.1 X.2.1 d_M_judge_173 rfl (lv_at hl 0 rfl) ?_
      refine hm_get ⟨X, hK.1⟩ hY v_0 7 (v := .ref (T.ad 7)) rfl rfl (Nat.le_of_ble_eq_true rfl) hu_M m_496 (fun _ h => h) d_M_judge_174 ?_
      refine lv_iload_n X.1 X.2.1 d_M_judge_177 rfl (lv_at hl 1 rfl) ?_
      refine mi_ald ⟨X, hK.1⟩ hY v_7 0 rfl (x := n) (v := T.I 7 n) rfl (by omega) (by decide) rfl d_M_judge_178 ?_
      refine lv_icmp_le (tgt := 186) X.1 X.2.1 d_M_judge_179 (by decide) (fun c4 => ?_) (fun c4 => ?_)
      · refine lv_iconst (v := 1) X.1 X.2.1 d_M_judge_186 (by decide) ?_
        refine mi_ast ⟨X, hK.1⟩ hY v_5 0 rfl (x := n) rfl (by omega) (by decide) d_M_judge_187 (fun H locs hY => ?_)
        have hY : hm_Y D cls A s.heap (wM G ((T.sI 6 n ((T.I 6 n) + 1)).sI 5 n 1) ω) H locs := by rw [← fa_5 (M := (T.sI 6 n ((T.I 6 n) + 1))) (j := n) (v := 1)]; exact hY
        refine lv_goto (tgt := 231) X.1 X.2.1 d_M_judge_188 (by decide) ?_
        refine lv_aload_n X.1 X.2.1 d_M_judge_231 rfl (lv_at hl 0 rfl) ?_
        refine hm_get ⟨X, hK.1⟩ hY v_0 9 (v := .ref (T.ad 9)) rfl rfl (Nat.le_of_ble_eq_true rfl) hu_M m_498 (fun _ h => h) d_M_judge_232 ?_
        refine lv_iload_n X.1 X.2.1 d_M_judge_235 rfl (lv_at hl 1 rfl) ?_
        refine lv_iconst (v := 0) X.1 X.2.1 d_M_judge_236 (by decide) ?_
        refine mz_ast ⟨X, hK.1⟩ hY v_9 1 rfl (x := n) rfl (by omega) (by decide) rfl d_M_judge_237 (fun H locs hY => ?_)
        have hY : hm_Y D cls A s.heap (wM G (((T.sI 6 n ((T.I 6 n) + 1)).sI 5 n 1).sI 9 n 0) ω) H locs := by rw [← fa_9 (M := ((T.sI 6 n ((T.I 6 n) + 1)).sI 5 n 1)) (j := n) (v := 0)]; exact hY
        exact en_vW X hY hr hlocks d_M_judge_238 (⟨rfl, by rw [jd, ← hT, jB, if_neg c1, if_pos c4]⟩)
      · refine lv_iconst (v := 2) X.1 X.2.1 d_M_judge_182 (by decide) ?_
        refine lv_goto (tgt := 187) X.1 X.2.1 d_M_judge_183 (by decide) ?_
        refine mi_ast ⟨X, hK.1⟩ hY v_5 0 rfl (x := n) rfl (by omega) (by decide) d_M_judge_187 (fun H locs hY => ?_)
        have hY : hm_Y D cls A s.heap (wM G ((T.sI 6 n ((T.I 6 n) + 1)).sI 5 n 2) ω) H locs := by rw [← fa_5 (M := (T.sI 6 n ((T.I 6 n) + 1))) (j := n) (v := 2)]; exact hY
        refine lv_goto (tgt := 231) X.1 X.2.1 d_M_judge_188 (by decide) ?_
        refine lv_aload_n X.1 X.2.1 d_M_judge_231 rfl (lv_at hl 0 rfl) ?_
        refine hm_get ⟨X, hK.1⟩ hY v_0 9 (v := .ref (T.ad 9)) rfl rfl (Nat.le_of_ble_eq_true rfl) hu_M m_498 (fun _ h => h) d_M_judge_232 ?_
        refine lv_iload_n X.1 X.2.1 d_M_judge_235 rfl (lv_at hl 1 rfl) ?_
        refine lv_iconst (v := 0) X.1 X.2.1 d_M_judge_236 (by decide) ?_
        refine mz_ast ⟨X, hK.1⟩ hY v_9 1 rfl (x := n) rfl (by omega) (by decide) rfl d_M_judge_237 (fun H locs hY => ?_)
        have hY : hm_Y D cls A s.heap (wM G (((T.sI 6 n ((T.I 6 n) + 1)).sI 5 n 2).sI 9 n 0) ω) H locs := by rw [← fa_9 (M := ((T.sI 6 n ((T.I 6 n) + 1)).sI 5 n 2)) (j := n) (v := 0)]; exact hY
        exact en_vW X hY hr hlocks d_M_judge_238 (⟨rfl, by rw [jd, ← hT, jB, if_neg c1, if_neg c4]⟩)
  refine lv_bipush (v := 10) X.1 X.2.1 d_M_judge_0 (by decide) ?_
  refine lv_iload_n X.1 X.2.1 d_M_judge_2 rfl (lv_at hl 1 rfl) ?_
  refine lv_imul X.1 X.2.1 d_M_judge_3 ?_
  rw [show (10 : Int32) * nI n = nI (10 * n) from pk_mul 10 n]
  refine lv_istore_n (lv' := [(2, .int (nI (10 * n))), (0, .ref (M.ad 0)), (1, .int (nI n))]) X.1 X.2.1 d_M_judge_4 rfl hl (by decide) rfl (fun ls hl => ?_)
  have loop : ∀ (k j : Nat) (T : mS) (ls : Array Slot) (H : Heap) (locs : List Loc), j ≤ cn → cn < j + k → T = jL M n j → T.I 1 = M.I 1 → T.I 4 = M.I 4 → T.I 12 = M.I 12 → hm_Y D cls A s.heap (wM G T ω) H locs → lv_has ls 3 [(2, .int (nI (10 * n + j))), (0, .ref (T.ad 0)), (1, .int (nI n))] → W p l e { frames := 0, cells := 0, slots := 0, locals := 0 } s m (([.ref (M.ad 0), .int (nI n)] : List Value).toArray) below meth c H locs 0 0 (MQ below (hm_Q D cls A (fun v w => v = none ∧ w = wM G (jd M n cn) ω)) (([.ref (M.ad 0), .int (nI n)] : List Value).toArray) s 0 0 A) (F0 m 5 ls []) := by
    intro k
    induction k with
    | zero => intro j T ls H locs hle hlt; omega
    | succ k ih =>
      intro j T ls H locs hle hlt hT h1 h4 h12 hY hl
      refine lv_iload_n X.1 X.2.1 d_M_judge_5 rfl (lv_at hl 0 rfl) ?_
      refine lv_bipush (v := 10) X.1 X.2.1 d_M_judge_6 (by decide) ?_
      refine lv_iload_n X.1 X.2.1 d_M_judge_8 rfl (lv_at hl 2 rfl) ?_
      refine lv_imul X.1 X.2.1 d_M_judge_9 ?_
      rw [show (10 : Int32) * nI n = nI (10 * n) from pk_mul 10 n]
      refine lv_aload_n X.1 X.2.1 d_M_judge_10 rfl (lv_at hl 1 rfl) ?_
      refine hm_get ⟨X, hK.1⟩ hY v_0 12 (v := .ref (T.ad 12)) rfl rfl (Nat.le_of_ble_eq_true rfl) hu_M m_501 (fun _ h => h) d_M_judge_11 ?_
      refine lv_iload_n X.1 X.2.1 d_M_judge_14 rfl (lv_at hl 2 rfl) ?_
      refine mi_ald ⟨X, hK.1⟩ hY v_12 0 rfl (x := n) (v := T.I 12 n) rfl (by omega) (by decide) rfl d_M_judge_15 ?_
      refine lv_iadd X.1 X.2.1 d_M_judge_16 ?_
      rw [h12, hcn, nI_add]
      refine lv_icmp_ge (tgt := 77) X.1 X.2.1 d_M_judge_17 (by decide) (fun c0 => ?_) (fun c0 => ?_)
      · have hj : j = cn := by rcases Nat.lt_or_ge j (cn) with q | q; exact absurd c0 (nI_ge (by omega) (by omega)); omega
        refine lv_aload_n X.1 X.2.1 d_M_judge_77 rfl (lv_at hl 1 rfl) ?_
        refine hm_get ⟨X, hK.1⟩ hY v_0 20 (v := .int (T.I 20 0)) rfl rfl (Nat.le_of_ble_eq_true rfl) hu_M m_509 (fun _ h => h) d_M_judge_78 ?_
        refine lv_aload_n X.1 X.2.1 d_M_judge_81 rfl (lv_at hl 1 rfl) ?_
        refine hm_get ⟨X, hK.1⟩ hY v_0 4 (v := .ref (T.ad 4)) rfl rfl (Nat.le_of_ble_eq_true rfl) hu_M m_493 (fun _ h => h) d_M_judge_82 ?_
        refine lv_iload_n X.1 X.2.1 d_M_judge_85 rfl (lv_at hl 2 rfl) ?_
        refine mi_ald ⟨X, hK.1⟩ hY v_4 0 rfl (x := n) (v := T.I 4 n) rfl (by omega) (by decide) rfl d_M_judge_86 ?_
        refine lv_irem X.1 X.2.1 d_M_judge_87 (by rw [h4]; exact hsp) ?_
        refine lv_if_ne (tgt := 143) X.1 X.2.1 d_M_judge_88 (by decide) (fun c5 => ?_) (fun c5 => ?_)
        · exact mid T _ _ _ (by rw [← hj, ← hT, jA, if_neg c5]) hY (lv_sub hl [1, 2] rfl)
        · refine lv_aload_n X.1 X.2.1 d_M_judge_91 rfl (lv_at hl 1 rfl) ?_
          refine hm_get ⟨X, hK.1⟩ hY v_0 20 (v := .int (T.I 20 0)) rfl rfl (Nat.le_of_ble_eq_true rfl) hu_M m_509 (fun _ h => h) d_M_judge_92 ?_
          refine lv_iconst (v := 2) X.1 X.2.1 d_M_judge_95 (by decide) ?_
          refine lv_icmp_le (tgt := 136) X.1 X.2.1 d_M_judge_96 (by decide) (fun c6 => ?_) (fun c6 => ?_)
          · refine lv_aload_n X.1 X.2.1 d_M_judge_136 rfl (lv_at hl 1 rfl) ?_
            refine hm_get ⟨X, hK.1⟩ hY v_0 8 (v := .ref (T.ad 8)) rfl rfl (Nat.le_of_ble_eq_true rfl) hu_M m_497 (fun _ h => h) d_M_judge_137 ?_
            refine lv_iload_n X.1 X.2.1 d_M_judge_140 rfl (lv_at hl 2 rfl) ?_
            refine lv_iconst (v := 0) X.1 X.2.1 d_M_judge_141 (by decide) ?_
            refine mi_ast ⟨X, hK.1⟩ hY v_8 0 rfl (x := n) rfl (by omega) (by decide) d_M_judge_142 (fun H locs hY => ?_)
            have hY : hm_Y D cls A s.heap (wM G (T.sI 8 n 0) ω) H locs := by rw [← fa_8 (M := T) (j := n) (v := 0)]; exact hY
            exact mid (T.sI 8 n 0) _ _ _ (by rw [← hj, ← hT, jA, if_pos c5, if_pos c6]) hY (lv_sub hl [1, 2] rfl)
          · refine lv_aload_n X.1 X.2.1 d_M_judge_99 rfl (lv_at hl 1 rfl) ?_
            refine hm_get ⟨X, hK.1⟩ hY v_0 8 (v := .ref (T.ad 8)) rfl rfl (Nat.le_of_ble_eq_true rfl) hu_M m_497 (fun _ h => h) d_M_judge_100 ?_
            refine lv_iload_n X.1 X.2.1 d_M_judge_103 rfl (lv_at hl 2 rfl) ?_
            refine mi_ald ⟨X, hK.1⟩ hY v_8 0 rfl (x := n) (v := T.I 8 n) rfl (by omega) (by decide) rfl d_M_judge_104 ?_
            refine lv_aload_n X.1 X.2.1 d_M_judge_105 rfl (lv_at hl 1 rfl) ?_
            refine hm_get ⟨X, hK.1⟩ hY v_0 2 (v := .ref (T.ad 2)) rfl rfl (Nat.le_of_ble_eq_true rfl) hu_M m_491 (fun _ h => h) d_M_judge_106 ?_
            refine lv_iload_n X.1 X.2.1 d_M_judge_109 rfl (lv_at hl 2 rfl) ?_
            refine mi_ald ⟨X, hK.1⟩ hY v_2 0 rfl (x := n) (v := T.I 2 n) rfl (by omega) (by decide) rfl d_M_judge_110 ?_
            refine lv_icmp_lt (tgt := 129) X.1 X.2.1 d_M_judge_111 (by decide) (fun c7 => ?_) (fun c7 => ?_)
            · refine lv_aload_n X.1 X.2.1 d_M_judge_129 rfl (lv_at hl 1 rfl) ?_
              refine hm_get ⟨X, hK.1⟩ hY v_0 9 (v := .ref (T.ad 9)) rfl rfl (Nat.le_of_ble_eq_true rfl) hu_M m_498 (fun _ h => h) d_M_judge_130 ?_
              refine lv_iload_n X.1 X.2.1 d_M_judge_133 rfl (lv_at hl 2 rfl) ?_
              refine lv_iconst (v := 1) X.1 X.2.1 d_M_judge_134 (by decide) ?_
              refine mz_ast ⟨X, hK.1⟩ hY v_9 1 rfl (x := n) rfl (by omega) (by decide) rfl d_M_judge_135 (fun H locs hY => ?_)
              have hY : hm_Y D cls A s.heap (wM G (T.sI 9 n 1) ω) H locs := by rw [← fa_9 (M := T) (j := n) (v := 1)]; exact hY
              refine lv_aload_n X.1 X.2.1 d_M_judge_136 rfl (lv_at hl 1 rfl) ?_
              refine hm_get ⟨X, hK.1⟩ hY v_0 8 (v := .ref (T.ad 8)) rfl rfl (Nat.le_of_ble_eq_true rfl) hu_M m_497 (fun _ h => h) d_M_judge_137 ?_
              refine lv_iload_n X.1 X.2.1 d_M_judge_140 rfl (lv_at hl 2 rfl) ?_
              refine lv_iconst (v := 0) X.1 X.2.1 d_M_judge_141 (by decide) ?_
              refine mi_ast ⟨X, hK.1⟩ hY v_8 0 rfl (x := n) rfl (by omega) (by decide) d_M_judge_142 (fun H locs hY => ?_)
              have hY : hm_Y D cls A s.heap (wM G ((T.sI 9 n 1).sI 8 n 0) ω) H locs := by rw [← fa_8 (M := (T.sI 9 n 1)) (j := n) (v := 0)]; exact hY
              exact mid ((T.sI 9 n 1).sI 8 n 0) _ _ _ (by rw [← hj, ← hT, jA, if_pos c5, if_neg c6, if_pos c7]) hY (lv_sub hl [1, 2] rfl)
            · refine lv_aload_n X.1 X.2.1 d_M_judge_114 rfl (lv_at hl 1 rfl) ?_
              refine hm_get ⟨X, hK.1⟩ hY v_0 8 (v := .ref (T.ad 8)) rfl rfl (Nat.le_of_ble_eq_true rfl) hu_M m_497 (fun _ h => h) d_M_judge_115 ?_
              refine lv_iload_n X.1 X.2.1 d_M_judge_118 rfl (lv_at hl 2 rfl) ?_
              refine mi_ald ⟨X, hK.1⟩ hY v_8 0 rfl (x := n) (v := T.I 8 n) rfl (by omega) (by decide) rfl d_M_judge_119 ?_
              refine lv_aload_n X.1 X.2.1 d_M_judge_120 rfl (lv_at hl 1 rfl) ?_
              refine hm_get ⟨X, hK.1⟩ hY v_0 3 (v := .ref (T.ad 3)) rfl rfl (Nat.le_of_ble_eq_true rfl) hu_M m_492 (fun _ h => h) d_M_judge_121 ?_
              refine lv_iload_n X.1 X.2.1 d_M_judge_124 rfl (lv_at hl 2 rfl) ?_
              refine mi_ald ⟨X, hK.1⟩ hY v_3 0 rfl (x := n) (v := T.I 3 n) rfl (by omega) (by decide) rfl d_M_judge_125 ?_
              refine lv_icmp_le (tgt := 136) X.1 X.2.1 d_M_judge_126 (by decide) (fun c8 => ?_) (fun c8 => ?_)
              · refine lv_aload_n X.1 X.2.1 d_M_judge_136 rfl (lv_at hl 1 rfl) ?_
                refine hm_get ⟨X, hK.1⟩ hY v_0 8 (v := .ref (T.ad 8)) rfl rfl (Nat.le_of_ble_eq_true rfl) hu_M m_497 (fun _ h => h) d_M_judge_137 ?_
                refine lv_iload_n X.1 X.2.1 d_M_judge_140 rfl (lv_at hl 2 rfl) ?_
                refine lv_iconst (v := 0) X.1 X.2.1 d_M_judge_141 (by decide) ?_
                refine mi_ast ⟨X, hK.1⟩ hY v_8 0 rfl (x := n) rfl (by omega) (by decide) d_M_judge_142 (fun H locs hY => ?_)
                have hY : hm_Y D cls A s.heap (wM G (T.sI 8 n 0) ω) H locs := by rw [← fa_8 (M := T) (j := n) (v := 0)]; exact hY
                exact mid (T.sI 8 n 0) _ _ _ (by rw [← hj, ← hT, jA, if_pos c5, if_neg c6, if_neg c7, if_pos c8]) hY (lv_sub hl [1, 2] rfl)
              · refine lv_aload_n X.1 X.2.1 d_M_judge_129 rfl (lv_at hl 1 rfl) ?_
                refine hm_get ⟨X, hK.1⟩ hY v_0 9 (v := .ref (T.ad 9)) rfl rfl (Nat.le_of_ble_eq_true rfl) hu_M m_498 (fun _ h => h) d_M_judge_130 ?_
                refine lv_iload_n X.1 X.2.1 d_M_judge_133 rfl (lv_at hl 2 rfl) ?_
                refine lv_iconst (v := 1) X.1 X.2.1 d_M_judge_134 (by decide) ?_
                refine mz_ast ⟨X, hK.1⟩ hY v_9 1 rfl (x := n) rfl (by omega) (by decide) rfl d_M_judge_135 (fun H locs hY => ?_)
                have hY : hm_Y D cls A s.heap (wM G (T.sI 9 n 1) ω) H locs := by rw [← fa_9 (M := T) (j := n) (v := 1)]; exact hY
                refine lv_aload_n X.1 X.2.1 d_M_judge_136 rfl (lv_at hl 1 rfl) ?_
                refine hm_get ⟨X, hK.1⟩ hY v_0 8 (v := .ref (T.ad 8)) rfl rfl (Nat.le_of_ble_eq_true rfl) hu_M m_497 (fun _ h => h) d_M_judge_137 ?_
                refine lv_iload_n X.1 X.2.1 d_M_judge_140 rfl (lv_at hl 2 rfl) ?_
                refine lv_iconst (v := 0) X.1 X.2.1 d_M_judge_141 (by decide) ?_
                refine mi_ast ⟨X, hK.1⟩ hY v_8 0 rfl (x := n) rfl (by omega) (by decide) d_M_judge_142 (fun H locs hY => ?_)
                have hY : hm_Y D cls A s.heap (wM G ((T.sI 9 n 1).sI 8 n 0) ω) H locs := by rw [← fa_8 (M := (T.sI 9 n 1)) (j := n) (v := 0)]; exact hY
                exact mid ((T.sI 9 n 1).sI 8 n 0) _ _ _ (by rw [← hj, ← hT, jA, if_pos c5, if_neg c6, if_neg c7, if_neg c8]) hY (lv_sub hl [1, 2] rfl)
      · have hj : j < cn := by rcases Nat.lt_or_ge j (cn) with q | q; exact q; exact absurd (nI_le (by omega) (by omega)) c0
        refine lv_aload_n X.1 X.2.1 d_M_judge_20 rfl (lv_at hl 1 rfl) ?_
        refine hm_get ⟨X, hK.1⟩ hY v_0 18 (v := .ref (T.ad 18)) rfl rfl (Nat.le_of_ble_eq_true rfl) hu_M m_507 (fun _ h => h) d_M_judge_21 ?_
        refine lv_iload_n X.1 X.2.1 d_M_judge_24 rfl (lv_at hl 0 rfl) ?_
        refine ml_ald ⟨X, hK.1⟩ hY v_18 2 rfl (x := 10 * n + j) (v := T.J 18 (10 * n + j)) rfl (by omega) (by decide) rfl d_M_judge_25 ?_
        refine lv_lconst (v := 0) X.1 X.2.1 d_M_judge_26 (by decide) ?_
        refine lc_lt (tgt := 71) X d_M_judge_27 d_M_judge_28 (by decide) (fun c9 => ?_) (fun c9 => ?_)
        · refine lv_iinc (v := nI (10 * n + (j + 1))) (lv' := [(2, .int (nI (10 * n + (j + 1)))), (0, .ref (T.ad 0)), (1, .int (nI n))]) X.1 X.2.1 d_M_judge_71 hl (k := 0) rfl (nI_1 (10 * n + j)) (by decide) rfl (fun ls hl => ?_)
          refine lv_goto (tgt := 5) X.1 X.2.1 d_M_judge_74 (by decide) ?_
          exact ih (j + 1) T _ _ _ (by omega) (by omega) (by rw [show jL M n (j + 1) = jL1 (jL M n j) n j from rfl, ← hT, jL1, if_pos c9]) h1 h4 h12 hY (lv_sub hl [0, 1, 2] rfl)
        · refine lv_aload_n X.1 X.2.1 d_M_judge_31 rfl (lv_at hl 1 rfl) ?_
          refine hm_get ⟨X, hK.1⟩ hY v_0 21 (v := .long (T.J 21 0)) rfl rfl (Nat.le_of_ble_eq_true rfl) hu_M m_510 (fun _ h => h) d_M_judge_32 ?_
          refine lv_aload_n X.1 X.2.1 d_M_judge_35 rfl (lv_at hl 1 rfl) ?_
          refine hm_get ⟨X, hK.1⟩ hY v_0 18 (v := .ref (T.ad 18)) rfl rfl (Nat.le_of_ble_eq_true rfl) hu_M m_507 (fun _ h => h) d_M_judge_36 ?_
          refine lv_iload_n X.1 X.2.1 d_M_judge_39 rfl (lv_at hl 0 rfl) ?_
          refine ml_ald ⟨X, hK.1⟩ hY v_18 2 rfl (x := 10 * n + j) (v := T.J 18 (10 * n + j)) rfl (by omega) (by decide) rfl d_M_judge_40 ?_
          refine lv_lsub X.1 X.2.1 d_M_judge_41 ?_
          refine lv_aload_n X.1 X.2.1 d_M_judge_42 rfl (lv_at hl 1 rfl) ?_
          refine hm_get ⟨X, hK.1⟩ hY v_0 17 (v := .ref (T.ad 17)) rfl rfl (Nat.le_of_ble_eq_true rfl) hu_M m_506 (fun _ h => h) d_M_judge_43 ?_
          refine lv_iload_n X.1 X.2.1 d_M_judge_46 rfl (lv_at hl 0 rfl) ?_
          refine ml_ald ⟨X, hK.1⟩ hY v_17 2 rfl (x := 10 * n + j) (v := T.J 17 (10 * n + j)) rfl (by omega) (by decide) rfl d_M_judge_47 ?_
          refine lc_gt (tgt := 55) X d_M_judge_48 d_M_judge_49 (by decide) (fun c10 => ?_) (fun c10 => ?_)
          · refine lv_aload_n X.1 X.2.1 d_M_judge_55 rfl (lv_at hl 1 rfl) ?_
            refine hm_get ⟨X, hK.1⟩ hY v_0 9 (v := .ref (T.ad 9)) rfl rfl (Nat.le_of_ble_eq_true rfl) hu_M m_498 (fun _ h => h) d_M_judge_56 ?_
            refine lv_iload_n X.1 X.2.1 d_M_judge_59 rfl (lv_at hl 2 rfl) ?_
            refine lv_iconst (v := 1) X.1 X.2.1 d_M_judge_60 (by decide) ?_
            refine mz_ast ⟨X, hK.1⟩ hY v_9 1 rfl (x := n) rfl (by omega) (by decide) rfl d_M_judge_61 (fun H locs hY => ?_)
            have hY : hm_Y D cls A s.heap (wM G (T.sI 9 n 1) ω) H locs := by rw [← fa_9 (M := T) (j := n) (v := 1)]; exact hY
            refine lv_aload_n X.1 X.2.1 d_M_judge_62 rfl (lv_at hl 1 rfl) ?_
            refine hm_get ⟨X, hK.1⟩ hY v_0 18 (v := .ref (T.ad 18)) rfl rfl (Nat.le_of_ble_eq_true rfl) hu_M m_507 (fun _ h => h) d_M_judge_63 ?_
            refine lv_iload_n X.1 X.2.1 d_M_judge_66 rfl (lv_at hl 0 rfl) ?_
            refine lv_ldc2 X.1 X.2.1 X.2.2.2.1 (X.2.2.2.2 _ m_488) d_M_judge_67 ?_
            refine ml_ast ⟨X, hK.1⟩ hY v_18 2 rfl (x := 10 * n + j) rfl (by omega) (by decide) d_M_judge_70 (fun H locs hY => ?_)
            have hY : hm_Y D cls A s.heap (wM G ((T.sI 9 n 1).sJ 18 (10 * n + j) (-1)) ω) H locs := by rw [← fa_18 (M := (T.sI 9 n 1)) (j := 10 * n + j) (v := (-1))]; exact hY
            refine lv_iinc (v := nI (10 * n + (j + 1))) (lv' := [(2, .int (nI (10 * n + (j + 1)))), (0, .ref (T.ad 0)), (1, .int (nI n))]) X.1 X.2.1 d_M_judge_71 hl (k := 0) rfl (nI_1 (10 * n + j)) (by decide) rfl (fun ls hl => ?_)
            refine lv_goto (tgt := 5) X.1 X.2.1 d_M_judge_74 (by decide) ?_
            exact ih (j + 1) ((T.sI 9 n 1).sJ 18 (10 * n + j) (-1)) _ _ _ (by omega) (by omega) (by rw [show jL M n (j + 1) = jL1 (jL M n j) n j from rfl, ← hT, jL1, if_neg c9, if_pos c10]) h1 h4 h12 hY (lv_sub hl [0, 1, 2] rfl)
          · refine lv_goto (tgt := 71) X.1 X.2.1 d_M_judge_52 (by decide) ?_
            refine lv_iinc (v := nI (10 * n + (j + 1))) (lv' := [(2, .int (nI (10 * n + (j + 1)))), (0, .ref (T.ad 0)), (1, .int (nI n))]) X.1 X.2.1 d_M_judge_71 hl (k := 0) rfl (nI_1 (10 * n + j)) (by decide) rfl (fun ls hl => ?_)
            refine lv_goto (tgt := 5) X.1 X.2.1 d_M_judge_74 (by decide) ?_
            exact ih (j + 1) T _ _ _ (by omega) (by omega) (by rw [show jL M n (j + 1) = jL1 (jL M n j) n j from rfl, ← hT, jL1, if_neg c9, if_neg c10]) h1 h4 h12 hY (lv_sub hl [0, 1, 2] rfl)
  exact loop (cn + 1) 0 M ls _ _ (Nat.zero_le _) (by omega) rfl rfl rfl rfl hY (lv_sub hl [0, 1, 2] rfl)
end
section
abbrev M0 (M : mS) : mS := M.sI 0 0 0
def mpart (M : mS) (a b : Int32) (sp : Int64) (c0 : Nat) : Int32 × mS :=
  if a < 0 then (-2, M.sI 0 0 0) else if 1000 < a then (-2, M.sI 0 0 0) else if b < a then (-2, M.sI 0 0 0) else if 1000 < b then (-2, M.sI 0 0 0) else if sp < 0 then (-2, M.sI 0 0 0)
  else if sp ≤ 100 then (if M.I 1 0 = 20 then (-4, M.sI 0 0 0) else if sp = 0 then (0, (M.sI 0 0 0).sI 0 0 1) else (nI (c0 + 1), (((((M.sI 0 0 0).sI 0 0 0).sI 1 0 (nI (c0 + 1))).sI 2 (c0 + 1) a).sI 3 (c0 + 1) b).sI 4 (c0 + 1) sp.toInt32)) else (-2, M.sI 0 0 0)
def eix (M : mS) (n : Nat) (fr to : Int32) : Nat := ((4 * n + (M.I 19 0).toNatClampNeg) * 31 + fr.toNatClampNeg) * 31 + to.toNatClampNeg
abbrev moOk (M : mS) : Prop := 0 ≤ M.I 19 0 ∧ M.I 19 0 ≤ 3
theorem i_of {x hi : Int32} {h : Nat} (hh : hi = nI h) (h31 : h < 2 ^ 31) (h0 : 0 ≤ x) (h1 : x ≤ hi) : x = nI x.toNatClampNeg ∧ x.toNatClampNeg ≤ h := by
  obtain ⟨j, hj, rfl⟩ := nI_of2 (M := hi) (n := h) (by rw [hh]; exact nI_toInt h31) (Int32.not_lt.mpr h0) h1
  rw [nI_clamp (by omega)]
  exact ⟨rfl, hj⟩
theorem eix_ok {M : mS} {n : Nat} {fr to : Int32} (hn : n ≤ 20) (hm : moOk M) (h1 : 0 ≤ fr) (h2 : fr ≤ 30) (h3 : 1 ≤ to) (h4 : to ≤ 30) : ((4 * nI n + M.I 19 0) * 31 + fr) * 31 + to = nI (eix M n fr to) ∧ eix M n fr to < 80724 := by
  obtain ⟨a1, a2⟩ := i_of (h := 3) rfl (by decide) hm.1 hm.2
  obtain ⟨b1, b2⟩ := i_of (h := 30) rfl (by decide) h1 h2
  obtain ⟨d1, d2⟩ := i_of (h := 30) rfl (by decide) (Int32.le_trans (by decide) h3) h4
  unfold eix
  generalize (M.I 19 0).toNatClampNeg = mo at a1 a2 ⊢
  generalize fr.toNatClampNeg = f at b1 b2 ⊢
  generalize to.toNatClampNeg = t at d1 d2 ⊢
  refine ⟨?_, by omega⟩
  rw [a1, b1, d1, show (4 : Int32) * nI n = nI (4 * n) from pk_mul 4 n, nI_add, show nI (4 * n + mo) * 31 = nI ((4 * n + mo) * 31) from pk_mul _ 31, nI_add, show nI ((4 * n + mo) * 31 + f) * 31 = nI (((4 * n + mo) * 31 + f) * 31) from pk_mul _ 31, nI_add]
def medge (M : mS) (n : Nat) (fr to : Int32) : Int32 × mS :=
  if fr < 0 then (-2, M.sI 0 0 0) else if 30 < fr then (-2, M.sI 0 0 0) else if to < 1 then (-2, M.sI 0 0 0) else if to ≤ 30 then
    (if M.I 11 (eix M n fr to) = 0 then (1, (M.sI 0 0 0).sI 11 (eix M n fr to) 1) else (0, (M.sI 0 0 0).sI 11 (eix M n fr to) 1)) else (-2, M.sI 0 0 0)
def mdead (M : mS) (n cn : Nat) (fr to : Int32) (a b : Int64) : Int32 × mS :=
  if fr < 1 then (-2, M.sI 0 0 0) else if 30 < fr then (-2, M.sI 0 0 0) else if to < 1 then (-2, M.sI 0 0 0) else if 30 < to then (-2, M.sI 0 0 0) else if a < 0 then (-2, M.sI 0 0 0) else if 100000 < a then (-2, M.sI 0 0 0) else if b < a then (-2, M.sI 0 0 0)
  else if b ≤ 100000 then (if M.I 12 n = 10 then (-4, M.sI 0 0 0) else (M.I 12 n + 1, (((((((M.sI 0 0 0).sI 13 (10 * n + cn) (M.I 19 0)).sI 14 (10 * n + cn) fr).sI 15 (10 * n + cn) to).sJ 16 (10 * n + cn) a).sJ 17 (10 * n + cn) b).sJ 18 (10 * n + cn) (-1)).sI 12 n (M.I 12 n + 1))) else (-2, M.sI 0 0 0)
def mtolY (M : mS) (n : Nat) (k : Int32) : Int32 × mS := if k < 0 then (-2, M.sI 0 0 0) else if k ≤ 100 then (1, (M.sI 0 0 0).sI 7 n k) else (-2, M.sI 0 0 0)
def mtolN (M : mS) (x k : Int32) : Int32 × mS := if x = 0 then (if k < 0 then (-2, M.sI 0 0 0) else if k ≤ 100 then (1, (M.sI 0 0 0).sI 23 0 k) else (-2, M.sI 0 0 0)) else (-1, M.sI 0 0 0)
def mmL (M : mS) : Nat → mS
  | 0 => M
  | j + 1 => clr (mmL M j) (j + 1)
def mmode (M : mS) (x : Int32) (c0 : Nat) : Int32 × mS := if x < 0 then (-2, M.sI 0 0 0) else if x ≤ 3 then (M.I 19 0, if M.I 19 0 = x then (M.sI 0 0 0).sI 19 0 x else mmL ((M.sI 0 0 0).sI 19 0 x) c0) else (-2, M.sI 0 0 0)
def mou (M : mS) (t : Int64) (c0 : Nat) : Int32 × mS := if mT (M.sI 0 0 0) t then (if t - M.J 30 0 ≤ 100 then (1, ((M.sI 0 0 0).sJ 21 0 t).sJ 30 0 t) else (0, r0 (((M.sI 0 0 0).sJ 21 0 t).sJ 30 0 t) 3 c0)) else (-2, M.sI 0 0 0)
def mrst (M : mS) (x : Int32) (c0 : Nat) : Int32 × mS :=
  if x < 0 then (-2, M.sI 0 0 0) else if x ≤ 5 then (if x = 0 then ((r0 (M.sI 0 0 0) 4 c0).I 24 0, r0 (M.sI 0 0 0) 4 c0) else if 2 ≤ x then (if x = 2 then (M.I 25 0, M.sI 0 0 0) else if x = 3 then (M.I 26 0, M.sI 0 0 0) else if x = 4 then (M.I 28 0, M.sI 0 0 0) else (M.I 20 0, M.sI 0 0 0)) else (M.I 24 0, M.sI 0 0 0)) else (-2, M.sI 0 0 0)

set_option maxHeartbeats 4000000 in
set_option maxRecDepth 100000 in
theorem k_M_part (l : Launch) (D : va_G) (A : Nat → Prop) (G : Nat → Nat) (M : mS) (ω : hm_T) (c0 : Nat) (hc0 : M.I 1 0 = nI c0) (h20 : c0 ≤ 20) (a b : Int32) (sp : Int64) : Met l y_M_part (.code y_M_part c_M_part 5 (some .int) :: wsA) { frames := 0, cells := 0, slots := 0, locals := 0 } (va_Pc [.ref (M.ad 0), .int a, .int b, .long sp] (ctU D A G (wM G M ω))) (hm_Q D cls A (fun v w => v = some (.int (mpart M a b sp c0).1) ∧ w = wM G (mpart M a b sp c0).2 ω)) 0 0 A := by
  refine ct_met (by decide) (Nat.le_of_ble_eq_true rfl) ?_
  rintro p e s m below meth c ls X hr hlocks hnm hl ⟨hB, hK⟩
  have hl : lv_has ls 5 [(0, .ref (M.ad 0)), (1, .int a), (2, .int b), (3, .long sp)] := hl
  have hY : hm_Y D cls A s.heap (wM G M ω) s.heap [] := hm_Y.start hB hK.2.2.2
  refine lv_aload_n X.1 X.2.1 d_M_part_0 rfl (lv_at hl 0 rfl) ?_
  refine lv_iconst (v := 0) X.1 X.2.1 d_M_part_1 (by decide) ?_
  refine hm_put ⟨X, hK.1⟩ hY v_0 0 rfl (Nat.le_of_ble_eq_true rfl) (Nat.le_of_ble_eq_true rfl) hu_M ty_M ty_M_ok nm_M m_489 (fun _ h => h) rfl rfl rfl d_M_part_2 (fun H locs hY => ?_)
  have hY : hm_Y D cls A s.heap (wM G (M.sI 0 0 0) ω) H locs := by rw [← fm_0 (M := M) (v := 0)]; exact hY
  refine lv_iload_n X.1 X.2.1 d_M_part_5 rfl (lv_at hl 1 rfl) ?_
  refine lv_if_lt (tgt := 42) X.1 X.2.1 d_M_part_6 (by decide) (fun c1 => ?_) (fun c1 => ?_)
  · refine lv_bipush (v := (-2)) X.1 X.2.1 d_M_part_42 (by decide) ?_
    exact en_iW X hY hr hlocks d_M_part_44 (⟨by rw [mpart, if_pos c1], by rw [mpart, if_pos c1]⟩)
  · refine lv_iload_n X.1 X.2.1 d_M_part_9 rfl (lv_at hl 1 rfl) ?_
    refine lv_sipush (v := 1000) X.1 X.2.1 d_M_part_10 (by decide) ?_
    refine lv_icmp_gt (tgt := 42) X.1 X.2.1 d_M_part_13 (by decide) (fun c2 => ?_) (fun c2 => ?_)
    · refine lv_bipush (v := (-2)) X.1 X.2.1 d_M_part_42 (by decide) ?_
      exact en_iW X hY hr hlocks d_M_part_44 (⟨by rw [mpart, if_neg c1, if_pos c2], by rw [mpart, if_neg c1, if_pos c2]⟩)
    · refine lv_iload_n X.1 X.2.1 d_M_part_16 rfl (lv_at hl 2 rfl) ?_
      refine lv_iload_n X.1 X.2.1 d_M_part_17 rfl (lv_at hl 1 rfl) ?_
      refine lv_icmp_lt (tgt := 42) X.1 X.2.1 d_M_part_18 (by decide) (fun c3 => ?_) (fun c3 => ?_)
      · refine lv_bipush (v := (-2)) X.1 X.2.1 d_M_part_42 (by decide) ?_
        exact en_iW X hY hr hlocks d_M_part_44 (⟨by rw [mpart, if_neg c1, if_neg c2, if_pos c3], by rw [mpart, if_neg c1, if_neg c2, if_pos c3]⟩)
      · refine lv_iload_n X.1 X.2.1 d_M_part_21 rfl (lv_at hl 2 rfl) ?_
        refine lv_sipush (v := 1000) X.1 X.2.1 d_M_part_22 (by decide) ?_
        refine lv_icmp_gt (tgt := 42) X.1 X.2.1 d_M_part_25 (by decide) (fun c4 => ?_) (fun c4 => ?_)
        · refine lv_bipush (v := (-2)) X.1 X.2.1 d_M_part_42 (by decide) ?_
          exact en_iW X hY hr hlocks d_M_part_44 (⟨by rw [mpart, if_neg c1, if_neg c2, if_neg c3, if_pos c4], by rw [mpart, if_neg c1, if_neg c2, if_neg c3, if_pos c4]⟩)
        · refine lv_lload_n X.1 X.2.1 d_M_part_28 rfl (lv_at hl 3 rfl) ?_
          refine lv_lconst (v := 0) X.1 X.2.1 d_M_part_29 (by decide) ?_
          refine lc_lt (tgt := 42) X d_M_part_30 d_M_part_31 (by decide) (fun c5 => ?_) (fun c5 => ?_)
          · refine lv_bipush (v := (-2)) X.1 X.2.1 d_M_part_42 (by decide) ?_
            exact en_iW X hY hr hlocks d_M_part_44 (⟨by rw [mpart, if_neg c1, if_neg c2, if_neg c3, if_neg c4, if_pos c5], by rw [mpart, if_neg c1, if_neg c2, if_neg c3, if_neg c4, if_pos c5]⟩)
          · refine lv_lload_n X.1 X.2.1 d_M_part_34 rfl (lv_at hl 3 rfl) ?_
            refine lv_ldc2 X.1 X.2.1 X.2.2.2.1 (X.2.2.2.2 _ m_593) d_M_part_35 ?_
            refine lc_le (tgt := 45) X d_M_part_38 d_M_part_39 (by decide) (fun c6 => ?_) (fun c6 => ?_)
            · refine lv_aload_n X.1 X.2.1 d_M_part_45 rfl (lv_at hl 0 rfl) ?_
              refine hm_get ⟨X, hK.1⟩ hY v_0 1 (v := .int (M.I 1 0)) rfl rfl (Nat.le_of_ble_eq_true rfl) hu_M m_490 (fun _ h => h) d_M_part_46 ?_
              refine lv_bipush (v := 20) X.1 X.2.1 d_M_part_49 (by decide) ?_
              refine lv_icmp_ne (tgt := 57) X.1 X.2.1 d_M_part_51 (by decide) (fun c7 => ?_) (fun c7 => ?_)
              · refine lv_aload_n X.1 X.2.1 d_M_part_57 rfl (lv_at hl 0 rfl) ?_
                refine lv_lload_n X.1 X.2.1 d_M_part_58 rfl (lv_at hl 3 rfl) ?_
                refine lv_lconst (v := 0) X.1 X.2.1 d_M_part_59 (by decide) ?_
                refine lc_ne (tgt := 68) X d_M_part_60 d_M_part_61 (by decide) (fun c8 => ?_) (fun c8 => ?_)
                · refine lv_iconst (v := 0) X.1 X.2.1 d_M_part_68 (by decide) ?_
                  refine hm_put ⟨X, hK.1⟩ hY v_0 0 rfl (Nat.le_of_ble_eq_true rfl) (Nat.le_of_ble_eq_true rfl) hu_M ty_M ty_M_ok nm_M m_489 (fun _ h => h) rfl rfl rfl d_M_part_69 (fun H locs hY => ?_)
                  have hY : hm_Y D cls A s.heap (wM G ((M.sI 0 0 0).sI 0 0 0) ω) H locs := by rw [← fm_0 (M := (M.sI 0 0 0)) (v := 0)]; exact hY
                  refine lv_aload_n X.1 X.2.1 d_M_part_72 rfl (lv_at hl 0 rfl) ?_
                  refine hm_get ⟨X, hK.1⟩ hY v_0 0 (v := .int 0) rfl rfl (Nat.le_of_ble_eq_true rfl) hu_M m_489 (fun _ h => h) d_M_part_73 ?_
                  refine lv_if_le (tgt := 81) X.1 X.2.1 d_M_part_76 (by decide) (fun c9 => ?_) (fun c9 => ?_)
                  · refine lv_aload_n X.1 X.2.1 d_M_part_81 rfl (lv_at hl 0 rfl) ?_
                    refine lv_dup X.1 X.2.1 d_M_part_82 rfl ?_
                    refine hm_get ⟨X, hK.1⟩ hY v_0 1 (v := .int (M.I 1 0)) rfl rfl (Nat.le_of_ble_eq_true rfl) hu_M m_490 (fun _ h => h) d_M_part_83 ?_
                    refine lv_iconst (v := 1) X.1 X.2.1 d_M_part_86 (by decide) ?_
                    refine lv_iadd X.1 X.2.1 d_M_part_87 ?_
                    rw [hc0, nI_1]
                    have hlt : c0 < 20 := by rcases Nat.lt_or_ge c0 20 with q | q; exact q; exact absurd (by rw [hc0, show c0 = 20 by omega]; rfl) c7
                    refine hm_put ⟨X, hK.1⟩ hY v_0 1 rfl (Nat.le_of_ble_eq_true rfl) (Nat.le_of_ble_eq_true rfl) hu_M ty_M ty_M_ok nm_M m_490 (fun _ h => h) rfl rfl rfl d_M_part_88 (fun H locs hY => ?_)
                    have hY : hm_Y D cls A s.heap (wM G (((M.sI 0 0 0).sI 0 0 0).sI 1 0 (nI (c0 + 1))) ω) H locs := by rw [← fm_1 (M := ((M.sI 0 0 0).sI 0 0 0)) (v := nI (c0 + 1))]; exact hY
                    refine lv_aload_n X.1 X.2.1 d_M_part_91 rfl (lv_at hl 0 rfl) ?_
                    refine hm_get ⟨X, hK.1⟩ hY v_0 2 (v := .ref (M.ad 2)) rfl rfl (Nat.le_of_ble_eq_true rfl) hu_M m_491 (fun _ h => h) d_M_part_92 ?_
                    refine lv_aload_n X.1 X.2.1 d_M_part_95 rfl (lv_at hl 0 rfl) ?_
                    refine hm_get ⟨X, hK.1⟩ hY v_0 1 (v := .int (nI (c0 + 1))) rfl rfl (Nat.le_of_ble_eq_true rfl) hu_M m_490 (fun _ h => h) d_M_part_96 ?_
                    refine lv_iload_n X.1 X.2.1 d_M_part_99 rfl (lv_at hl 1 rfl) ?_
                    refine mi_ast ⟨X, hK.1⟩ hY v_2 0 rfl (x := c0 + 1) rfl (by omega) (by decide) d_M_part_100 (fun H locs hY => ?_)
                    have hY : hm_Y D cls A s.heap (wM G ((((M.sI 0 0 0).sI 0 0 0).sI 1 0 (nI (c0 + 1))).sI 2 (c0 + 1) a) ω) H locs := by rw [← fa_2 (M := (((M.sI 0 0 0).sI 0 0 0).sI 1 0 (nI (c0 + 1)))) (j := c0 + 1) (v := a)]; exact hY
                    refine lv_aload_n X.1 X.2.1 d_M_part_101 rfl (lv_at hl 0 rfl) ?_
                    refine hm_get ⟨X, hK.1⟩ hY v_0 3 (v := .ref (M.ad 3)) rfl rfl (Nat.le_of_ble_eq_true rfl) hu_M m_492 (fun _ h => h) d_M_part_102 ?_
                    refine lv_aload_n X.1 X.2.1 d_M_part_105 rfl (lv_at hl 0 rfl) ?_
                    refine hm_get ⟨X, hK.1⟩ hY v_0 1 (v := .int (nI (c0 + 1))) rfl rfl (Nat.le_of_ble_eq_true rfl) hu_M m_490 (fun _ h => h) d_M_part_106 ?_
                    refine lv_iload_n X.1 X.2.1 d_M_part_109 rfl (lv_at hl 2 rfl) ?_
                    refine mi_ast ⟨X, hK.1⟩ hY v_3 0 rfl (x := c0 + 1) rfl (by omega) (by decide) d_M_part_110 (fun H locs hY => ?_)
                    have hY : hm_Y D cls A s.heap (wM G (((((M.sI 0 0 0).sI 0 0 0).sI 1 0 (nI (c0 + 1))).sI 2 (c0 + 1) a).sI 3 (c0 + 1) b) ω) H locs := by rw [← fa_3 (M := ((((M.sI 0 0 0).sI 0 0 0).sI 1 0 (nI (c0 + 1))).sI 2 (c0 + 1) a)) (j := c0 + 1) (v := b)]; exact hY
                    refine lv_aload_n X.1 X.2.1 d_M_part_111 rfl (lv_at hl 0 rfl) ?_
                    refine hm_get ⟨X, hK.1⟩ hY v_0 4 (v := .ref (M.ad 4)) rfl rfl (Nat.le_of_ble_eq_true rfl) hu_M m_493 (fun _ h => h) d_M_part_112 ?_
                    refine lv_aload_n X.1 X.2.1 d_M_part_115 rfl (lv_at hl 0 rfl) ?_
                    refine hm_get ⟨X, hK.1⟩ hY v_0 1 (v := .int (nI (c0 + 1))) rfl rfl (Nat.le_of_ble_eq_true rfl) hu_M m_490 (fun _ h => h) d_M_part_116 ?_
                    refine lv_lload_n X.1 X.2.1 d_M_part_119 rfl (lv_at hl 3 rfl) ?_
                    refine lv_l2i (v := sp.toInt32) X.1 X.2.1 d_M_part_120 rfl ?_
                    refine mi_ast ⟨X, hK.1⟩ hY v_4 0 rfl (x := c0 + 1) rfl (by omega) (by decide) d_M_part_121 (fun H locs hY => ?_)
                    have hY : hm_Y D cls A s.heap (wM G ((((((M.sI 0 0 0).sI 0 0 0).sI 1 0 (nI (c0 + 1))).sI 2 (c0 + 1) a).sI 3 (c0 + 1) b).sI 4 (c0 + 1) sp.toInt32) ω) H locs := by rw [← fa_4 (M := (((((M.sI 0 0 0).sI 0 0 0).sI 1 0 (nI (c0 + 1))).sI 2 (c0 + 1) a).sI 3 (c0 + 1) b)) (j := c0 + 1) (v := sp.toInt32)]; exact hY
                    refine lv_aload_n X.1 X.2.1 d_M_part_122 rfl (lv_at hl 0 rfl) ?_
                    refine hm_get ⟨X, hK.1⟩ hY v_0 1 (v := .int (nI (c0 + 1))) rfl rfl (Nat.le_of_ble_eq_true rfl) hu_M m_490 (fun _ h => h) d_M_part_123 ?_
                    exact en_iW X hY hr hlocks d_M_part_126 (⟨by rw [mpart, if_neg c1, if_neg c2, if_neg c3, if_neg c4, if_neg c5, if_pos c6, if_neg c7, if_neg c8], by rw [mpart, if_neg c1, if_neg c2, if_neg c3, if_neg c4, if_neg c5, if_pos c6, if_neg c7, if_neg c8]⟩)
                  · exact absurd c9 (by decide)
                · refine lv_iconst (v := 1) X.1 X.2.1 d_M_part_64 (by decide) ?_
                  refine lv_goto (tgt := 69) X.1 X.2.1 d_M_part_65 (by decide) ?_
                  refine hm_put ⟨X, hK.1⟩ hY v_0 0 rfl (Nat.le_of_ble_eq_true rfl) (Nat.le_of_ble_eq_true rfl) hu_M ty_M ty_M_ok nm_M m_489 (fun _ h => h) rfl rfl rfl d_M_part_69 (fun H locs hY => ?_)
                  have hY : hm_Y D cls A s.heap (wM G ((M.sI 0 0 0).sI 0 0 1) ω) H locs := by rw [← fm_0 (M := (M.sI 0 0 0)) (v := 1)]; exact hY
                  refine lv_aload_n X.1 X.2.1 d_M_part_72 rfl (lv_at hl 0 rfl) ?_
                  refine hm_get ⟨X, hK.1⟩ hY v_0 0 (v := .int 1) rfl rfl (Nat.le_of_ble_eq_true rfl) hu_M m_489 (fun _ h => h) d_M_part_73 ?_
                  refine lv_if_le (tgt := 81) X.1 X.2.1 d_M_part_76 (by decide) (fun c10 => ?_) (fun c10 => ?_)
                  · exact absurd c10 (by decide)
                  · refine lv_iconst (v := 0) X.1 X.2.1 d_M_part_79 (by decide) ?_
                    exact en_iW X hY hr hlocks d_M_part_80 (⟨by rw [mpart, if_neg c1, if_neg c2, if_neg c3, if_neg c4, if_neg c5, if_pos c6, if_neg c7, if_pos c8], by rw [mpart, if_neg c1, if_neg c2, if_neg c3, if_neg c4, if_neg c5, if_pos c6, if_neg c7, if_pos c8]⟩)
              · refine lv_bipush (v := (-4)) X.1 X.2.1 d_M_part_54 (by decide) ?_
                exact en_iW X hY hr hlocks d_M_part_56 (⟨by rw [mpart, if_neg c1, if_neg c2, if_neg c3, if_neg c4, if_neg c5, if_pos c6, if_pos c7], by rw [mpart, if_neg c1, if_neg c2, if_neg c3, if_neg c4, if_neg c5, if_pos c6, if_pos c7]⟩)
            · refine lv_bipush (v := (-2)) X.1 X.2.1 d_M_part_42 (by decide) ?_
              exact en_iW X hY hr hlocks d_M_part_44 (⟨by rw [mpart, if_neg c1, if_neg c2, if_neg c3, if_neg c4, if_neg c5, if_neg c6], by rw [mpart, if_neg c1, if_neg c2, if_neg c3, if_neg c4, if_neg c5, if_neg c6]⟩)

set_option maxHeartbeats 4000000 in
set_option maxRecDepth 100000 in
theorem k_M_state_y (l : Launch) (D : va_G) (A : Nat → Prop) (G : Nat → Nat) (M : mS) (ω : hm_T) (n : Nat) (hp : mP M (nI n)) (h0 : 1 ≤ n) (h20 : n ≤ 20) : Met l y_M_state (.code y_M_state c_M_state 2 (some .int) :: wsA) { frames := 1, cells := 0, slots := 0, locals := 21 } (va_Pc [.ref (M.ad 0), .int (nI n)] (ctU D A G (wM G M ω))) (hm_Q D cls A (fun v w => v = some (.int ((M.I 5 n, M.sI 0 0 0)).1) ∧ w = wM G ((M.I 5 n, M.sI 0 0 0)).2 ω)) 0 0 A := by
  refine ct_met (by decide) (Nat.le_of_ble_eq_true rfl) ?_
  rintro p e s m below meth c ls X hr hlocks hnm hl ⟨hB, hK⟩
  have hl : lv_has ls 2 [(0, .ref (M.ad 0)), (1, .int (nI n))] := hl
  have hY : hm_Y D cls A s.heap (wM G M ω) s.heap [] := hm_Y.start hB hK.2.2.2
  refine lv_aload_n X.1 X.2.1 d_M_state_0 rfl (lv_at hl 0 rfl) ?_
  refine lv_iconst (v := 0) X.1 X.2.1 d_M_state_1 (by decide) ?_
  refine hm_put ⟨X, hK.1⟩ hY v_0 0 rfl (Nat.le_of_ble_eq_true rfl) (Nat.le_of_ble_eq_true rfl) hu_M ty_M ty_M_ok nm_M m_489 (fun _ h => h) rfl rfl rfl d_M_state_2 (fun H locs hY => ?_)
  have hY : hm_Y D cls A s.heap (wM G (M.sI 0 0 0) ω) H locs := by rw [← fm_0 (M := M) (v := 0)]; exact hY
  refine lv_aload_n X.1 X.2.1 d_M_state_5 rfl (lv_at hl 0 rfl) ?_
  refine lv_iload_n X.1 X.2.1 d_M_state_6 rfl (lv_at hl 1 rfl) ?_
  refine hm_callR (ct_runV (n := 1) X hK hY (k_M_isPart l D A G (M.sI 0 0 0) ω (nI n)) m_601 m_598 m_600 ms_M_isPart m_6 (by decide +kernel) ⟨Nat.le_of_ble_eq_true rfl, Nat.le_of_ble_eq_true rfl⟩ ⟨rfl, rfl⟩ (hm_recv ⟨X, hK.1⟩ hY v_0 rfl) rfl hl.1 rfl (Nat.le_of_ble_eq_true rfl) d_M_state_7 ⟨Nat.le_of_ble_eq_true rfl, Nat.le_of_ble_eq_true rfl⟩) (fun v hv => ?_)
  subst hv
  refine W.eq (g2 := F0 m 10 ls [.int (b2 (mP (M.sI 0 0 0) (nI n)))]) rfl ?_
  refine lv_if_eq (tgt := 22) X.1 X.2.1 d_M_state_10 (by decide) (fun c1 => ?_) (fun c1 => ?_)
  · have c1 : ¬ (mP (M.sI 0 0 0) (nI n)) := b2_0.mp c1
    exact absurd hp c1
  · have c1 : (mP (M.sI 0 0 0) (nI n)) := Classical.byContradiction (fun z => c1 (b2_0.mpr z))
    refine lv_aload_n X.1 X.2.1 d_M_state_13 rfl (lv_at hl 0 rfl) ?_
    refine hm_get ⟨X, hK.1⟩ hY v_0 5 (v := .ref (M.ad 5)) rfl rfl (Nat.le_of_ble_eq_true rfl) hu_M m_494 (fun _ h => h) d_M_state_14 ?_
    refine lv_iload_n X.1 X.2.1 d_M_state_17 rfl (lv_at hl 1 rfl) ?_
    refine mi_ald ⟨X, hK.1⟩ hY v_5 0 rfl (x := n) (v := M.I 5 n) rfl (by omega) (by decide) rfl d_M_state_18 ?_
    refine lv_goto (tgt := 23) X.1 X.2.1 d_M_state_19 (by decide) ?_
    exact en_iW X hY hr hlocks d_M_state_23 (⟨rfl, rfl⟩)

set_option maxHeartbeats 4000000 in
set_option maxRecDepth 100000 in
theorem k_M_state_no (l : Launch) (D : va_G) (A : Nat → Prop) (G : Nat → Nat) (M : mS) (ω : hm_T) (x : Int32) (hp : ¬ mP M x) : Met l y_M_state (.code y_M_state c_M_state 2 (some .int) :: wsA) { frames := 1, cells := 0, slots := 0, locals := 21 } (va_Pc [.ref (M.ad 0), .int x] (ctU D A G (wM G M ω))) (hm_Q D cls A (fun v w => v = some (.int (((-1 : Int32), M.sI 0 0 0)).1) ∧ w = wM G (((-1 : Int32), M.sI 0 0 0)).2 ω)) 0 0 A := by
  refine ct_met (by decide) (Nat.le_of_ble_eq_true rfl) ?_
  rintro p e s m below meth c ls X hr hlocks hnm hl ⟨hB, hK⟩
  have hl : lv_has ls 2 [(0, .ref (M.ad 0)), (1, .int x)] := hl
  have hY : hm_Y D cls A s.heap (wM G M ω) s.heap [] := hm_Y.start hB hK.2.2.2
  refine lv_aload_n X.1 X.2.1 d_M_state_0 rfl (lv_at hl 0 rfl) ?_
  refine lv_iconst (v := 0) X.1 X.2.1 d_M_state_1 (by decide) ?_
  refine hm_put ⟨X, hK.1⟩ hY v_0 0 rfl (Nat.le_of_ble_eq_true rfl) (Nat.le_of_ble_eq_true rfl) hu_M ty_M ty_M_ok nm_M m_489 (fun _ h => h) rfl rfl rfl d_M_state_2 (fun H locs hY => ?_)
  have hY : hm_Y D cls A s.heap (wM G (M.sI 0 0 0) ω) H locs := by rw [← fm_0 (M := M) (v := 0)]; exact hY
  refine lv_aload_n X.1 X.2.1 d_M_state_5 rfl (lv_at hl 0 rfl) ?_
  refine lv_iload_n X.1 X.2.1 d_M_state_6 rfl (lv_at hl 1 rfl) ?_
  refine hm_callR (ct_runV (n := 1) X hK hY (k_M_isPart l D A G (M.sI 0 0 0) ω x) m_601 m_598 m_600 ms_M_isPart m_6 (by decide +kernel) ⟨Nat.le_of_ble_eq_true rfl, Nat.le_of_ble_eq_true rfl⟩ ⟨rfl, rfl⟩ (hm_recv ⟨X, hK.1⟩ hY v_0 rfl) rfl hl.1 rfl (Nat.le_of_ble_eq_true rfl) d_M_state_7 ⟨Nat.le_of_ble_eq_true rfl, Nat.le_of_ble_eq_true rfl⟩) (fun v hv => ?_)
  subst hv
  refine W.eq (g2 := F0 m 10 ls [.int (b2 (mP (M.sI 0 0 0) x))]) rfl ?_
  refine lv_if_eq (tgt := 22) X.1 X.2.1 d_M_state_10 (by decide) (fun c1 => ?_) (fun c1 => ?_)
  · have c1 : ¬ (mP (M.sI 0 0 0) x) := b2_0.mp c1
    refine lv_iconst (v := (-1)) X.1 X.2.1 d_M_state_22 (by decide) ?_
    exact en_iW X hY hr hlocks d_M_state_23 (⟨rfl, rfl⟩)
  · have c1 : (mP (M.sI 0 0 0) x) := Classical.byContradiction (fun z => c1 (b2_0.mpr z))
    exact absurd c1 hp

set_option maxHeartbeats 4000000 in
set_option maxRecDepth 100000 in
theorem k_M_edge_y (l : Launch) (D : va_G) (A : Nat → Prop) (G : Nat → Nat) (M : mS) (ω : hm_T) (n : Nat) (hp : mP M (nI n)) (h0 : 1 ≤ n) (h20 : n ≤ 20) (hmo : moOk M) (fr to : Int32) : Met l y_M_edge (.code y_M_edge c_M_edge 5 (some .int) :: wsA) { frames := 1, cells := 0, slots := 0, locals := 23 } (va_Pc [.ref (M.ad 0), .int (nI n), .int fr, .int to] (ctU D A G (wM G M ω))) (hm_Q D cls A (fun v w => v = some (.int (medge M n fr to).1) ∧ w = wM G (medge M n fr to).2 ω)) 0 0 A := by
  refine ct_met (by decide) (Nat.le_of_ble_eq_true rfl) ?_
  rintro p e s m below meth c ls X hr hlocks hnm hl ⟨hB, hK⟩
  have hl : lv_has ls 5 [(0, .ref (M.ad 0)), (1, .int (nI n)), (2, .int fr), (3, .int to)] := hl
  have hY : hm_Y D cls A s.heap (wM G M ω) s.heap [] := hm_Y.start hB hK.2.2.2
  refine lv_aload_n X.1 X.2.1 d_M_edge_0 rfl (lv_at hl 0 rfl) ?_
  refine lv_iconst (v := 0) X.1 X.2.1 d_M_edge_1 (by decide) ?_
  refine hm_put ⟨X, hK.1⟩ hY v_0 0 rfl (Nat.le_of_ble_eq_true rfl) (Nat.le_of_ble_eq_true rfl) hu_M ty_M ty_M_ok nm_M m_489 (fun _ h => h) rfl rfl rfl d_M_edge_2 (fun H locs hY => ?_)
  have hY : hm_Y D cls A s.heap (wM G (M.sI 0 0 0) ω) H locs := by rw [← fm_0 (M := M) (v := 0)]; exact hY
  refine lv_aload_n X.1 X.2.1 d_M_edge_5 rfl (lv_at hl 0 rfl) ?_
  refine lv_iload_n X.1 X.2.1 d_M_edge_6 rfl (lv_at hl 1 rfl) ?_
  refine hm_callR (ct_runV (n := 1) X hK hY (k_M_isPart l D A G (M.sI 0 0 0) ω (nI n)) m_601 m_598 m_600 ms_M_isPart m_6 (by decide +kernel) ⟨Nat.le_of_ble_eq_true rfl, Nat.le_of_ble_eq_true rfl⟩ ⟨rfl, rfl⟩ (hm_recv ⟨X, hK.1⟩ hY v_0 rfl) rfl hl.1 rfl (Nat.le_of_ble_eq_true rfl) d_M_edge_7 ⟨Nat.le_of_ble_eq_true rfl, Nat.le_of_ble_eq_true rfl⟩) (fun v hv => ?_)
  subst hv
  refine W.eq (g2 := F0 m 10 ls [.int (b2 (mP (M.sI 0 0 0) (nI n)))]) rfl ?_
  refine lv_if_ne (tgt := 15) X.1 X.2.1 d_M_edge_10 (by decide) (fun c1 => ?_) (fun c1 => ?_)
  · have c1 : (mP (M.sI 0 0 0) (nI n)) := Classical.byContradiction (fun z => c1 (b2_0.mpr z))
    refine lv_iload_n X.1 X.2.1 d_M_edge_15 rfl (lv_at hl 2 rfl) ?_
    refine lv_if_lt (tgt := 36) X.1 X.2.1 d_M_edge_16 (by decide) (fun c2 => ?_) (fun c2 => ?_)
    · refine lv_bipush (v := (-2)) X.1 X.2.1 d_M_edge_36 (by decide) ?_
      exact en_iW X hY hr hlocks d_M_edge_38 (⟨by rw [medge, if_pos c2], by rw [medge, if_pos c2]⟩)
    · refine lv_iload_n X.1 X.2.1 d_M_edge_19 rfl (lv_at hl 2 rfl) ?_
      refine lv_bipush (v := 30) X.1 X.2.1 d_M_edge_20 (by decide) ?_
      refine lv_icmp_gt (tgt := 36) X.1 X.2.1 d_M_edge_22 (by decide) (fun c3 => ?_) (fun c3 => ?_)
      · refine lv_bipush (v := (-2)) X.1 X.2.1 d_M_edge_36 (by decide) ?_
        exact en_iW X hY hr hlocks d_M_edge_38 (⟨by rw [medge, if_neg c2, if_pos c3], by rw [medge, if_neg c2, if_pos c3]⟩)
      · refine lv_iload_n X.1 X.2.1 d_M_edge_25 rfl (lv_at hl 3 rfl) ?_
        refine lv_iconst (v := 1) X.1 X.2.1 d_M_edge_26 (by decide) ?_
        refine lv_icmp_lt (tgt := 36) X.1 X.2.1 d_M_edge_27 (by decide) (fun c4 => ?_) (fun c4 => ?_)
        · refine lv_bipush (v := (-2)) X.1 X.2.1 d_M_edge_36 (by decide) ?_
          exact en_iW X hY hr hlocks d_M_edge_38 (⟨by rw [medge, if_neg c2, if_neg c3, if_pos c4], by rw [medge, if_neg c2, if_neg c3, if_pos c4]⟩)
        · refine lv_iload_n X.1 X.2.1 d_M_edge_30 rfl (lv_at hl 3 rfl) ?_
          refine lv_bipush (v := 30) X.1 X.2.1 d_M_edge_31 (by decide) ?_
          refine lv_icmp_le (tgt := 39) X.1 X.2.1 d_M_edge_33 (by decide) (fun c5 => ?_) (fun c5 => ?_)
          · refine lv_aload_n X.1 X.2.1 d_M_edge_39 rfl (lv_at hl 0 rfl) ?_
            refine hm_get ⟨X, hK.1⟩ hY v_0 11 (v := .ref (M.ad 11)) rfl rfl (Nat.le_of_ble_eq_true rfl) hu_M m_500 (fun _ h => h) d_M_edge_40 ?_
            refine lv_aload_n X.1 X.2.1 d_M_edge_43 rfl (lv_at hl 0 rfl) ?_
            refine lv_iload_n X.1 X.2.1 d_M_edge_44 rfl (lv_at hl 1 rfl) ?_
            refine lv_iload_n X.1 X.2.1 d_M_edge_45 rfl (lv_at hl 2 rfl) ?_
            refine lv_iload_n X.1 X.2.1 d_M_edge_46 rfl (lv_at hl 3 rfl) ?_
            refine hm_callR (ct_runV (n := 3) X hK hY (k_M_edgeAt l D A G (M.sI 0 0 0) ω (nI n) fr to) m_605 m_602 m_604 ms_M_edgeAt m_6 (by decide +kernel) ⟨Nat.le_of_ble_eq_true rfl, Nat.le_of_ble_eq_true rfl⟩ ⟨rfl, rfl⟩ (hm_recv ⟨X, hK.1⟩ hY v_0 rfl) rfl hl.1 rfl (Nat.le_of_ble_eq_true rfl) d_M_edge_47 ⟨Nat.le_of_ble_eq_true rfl, Nat.le_of_ble_eq_true rfl⟩) (fun v hv => ?_)
            subst hv
            refine W.eq (g2 := F0 m 50 ls [.int (((4 * nI n + M.I 19 0) * 31 + fr) * 31 + to), .ref (M.ad 11)]) rfl ?_
            have hex := eix_ok h20 hmo (Int32.not_lt.mp c2) (Int32.not_lt.mp c3) (Int32.not_lt.mp c4) c5
            rw [hex.1]
            refine mz_ald ⟨X, hK.1⟩ hY v_11 1 rfl (x := eix M n fr to) (v := M.I 11 (eix M n fr to)) rfl hex.2 (by decide) rfl d_M_edge_50 ?_
            refine lv_istore (lv' := [(4, .int (M.I 11 (eix M n fr to))), (0, .ref (M.ad 0)), (1, .int (nI n)), (2, .int fr), (3, .int to)]) X.1 X.2.1 d_M_edge_51 hl (by decide) rfl (fun ls hl => ?_)
            refine lv_aload_n X.1 X.2.1 d_M_edge_53 rfl (lv_at hl 1 rfl) ?_
            refine hm_get ⟨X, hK.1⟩ hY v_0 11 (v := .ref (M.ad 11)) rfl rfl (Nat.le_of_ble_eq_true rfl) hu_M m_500 (fun _ h => h) d_M_edge_54 ?_
            refine lv_aload_n X.1 X.2.1 d_M_edge_57 rfl (lv_at hl 1 rfl) ?_
            refine lv_iload_n X.1 X.2.1 d_M_edge_58 rfl (lv_at hl 2 rfl) ?_
            refine lv_iload_n X.1 X.2.1 d_M_edge_59 rfl (lv_at hl 3 rfl) ?_
            refine lv_iload_n X.1 X.2.1 d_M_edge_60 rfl (lv_at hl 4 rfl) ?_
            refine hm_callR (ct_runV (n := 3) X hK hY (k_M_edgeAt l D A G (M.sI 0 0 0) ω (nI n) fr to) m_605 m_602 m_604 ms_M_edgeAt m_6 (by decide +kernel) ⟨Nat.le_of_ble_eq_true rfl, Nat.le_of_ble_eq_true rfl⟩ ⟨rfl, rfl⟩ (hm_recv ⟨X, hK.1⟩ hY v_0 rfl) rfl hl.1 rfl (Nat.le_of_ble_eq_true rfl) d_M_edge_61 ⟨Nat.le_of_ble_eq_true rfl, Nat.le_of_ble_eq_true rfl⟩) (fun v hv => ?_)
            subst hv
            refine W.eq (g2 := F0 m 64 ls [.int (((4 * nI n + M.I 19 0) * 31 + fr) * 31 + to), .ref (M.ad 11)]) rfl ?_
            rw [hex.1]
            refine lv_iconst (v := 1) X.1 X.2.1 d_M_edge_64 (by decide) ?_
            refine mz_ast ⟨X, hK.1⟩ hY v_11 1 rfl (x := eix M n fr to) rfl hex.2 (by decide) rfl d_M_edge_65 (fun H locs hY => ?_)
            have hY : hm_Y D cls A s.heap (wM G ((M.sI 0 0 0).sI 11 (eix M n fr to) 1) ω) H locs := by rw [← fa_11 (M := (M.sI 0 0 0)) (j := eix M n fr to) (v := 1)]; exact hY
            refine lv_iload X.1 X.2.1 d_M_edge_66 (lv_at hl 0 rfl) ?_
            refine lv_if_eq (tgt := 75) X.1 X.2.1 d_M_edge_68 (by decide) (fun c6 => ?_) (fun c6 => ?_)
            · refine lv_iconst (v := 1) X.1 X.2.1 d_M_edge_75 (by decide) ?_
              exact en_iW X hY hr hlocks d_M_edge_76 (⟨by rw [medge, if_neg c2, if_neg c3, if_neg c4, if_pos c5, if_pos c6], by rw [medge, if_neg c2, if_neg c3, if_neg c4, if_pos c5, if_pos c6]⟩)
            · refine lv_iconst (v := 0) X.1 X.2.1 d_M_edge_71 (by decide) ?_
              refine lv_goto (tgt := 76) X.1 X.2.1 d_M_edge_72 (by decide) ?_
              exact en_iW X hY hr hlocks d_M_edge_76 (⟨by rw [medge, if_neg c2, if_neg c3, if_neg c4, if_pos c5, if_neg c6], by rw [medge, if_neg c2, if_neg c3, if_neg c4, if_pos c5, if_neg c6]⟩)
          · refine lv_bipush (v := (-2)) X.1 X.2.1 d_M_edge_36 (by decide) ?_
            exact en_iW X hY hr hlocks d_M_edge_38 (⟨by rw [medge, if_neg c2, if_neg c3, if_neg c4, if_neg c5], by rw [medge, if_neg c2, if_neg c3, if_neg c4, if_neg c5]⟩)
  · have c1 : ¬ (mP (M.sI 0 0 0) (nI n)) := b2_0.mp c1
    exact absurd hp c1

set_option maxHeartbeats 4000000 in
set_option maxRecDepth 100000 in
theorem k_M_edge_no (l : Launch) (D : va_G) (A : Nat → Prop) (G : Nat → Nat) (M : mS) (ω : hm_T) (x : Int32) (hp : ¬ mP M x) (fr to : Int32) : Met l y_M_edge (.code y_M_edge c_M_edge 5 (some .int) :: wsA) { frames := 1, cells := 0, slots := 0, locals := 23 } (va_Pc [.ref (M.ad 0), .int x, .int fr, .int to] (ctU D A G (wM G M ω))) (hm_Q D cls A (fun v w => v = some (.int (((-1 : Int32), M.sI 0 0 0)).1) ∧ w = wM G (((-1 : Int32), M.sI 0 0 0)).2 ω)) 0 0 A := by
  refine ct_met (by decide) (Nat.le_of_ble_eq_true rfl) ?_
  rintro p e s m below meth c ls X hr hlocks hnm hl ⟨hB, hK⟩
  have hl : lv_has ls 5 [(0, .ref (M.ad 0)), (1, .int x), (2, .int fr), (3, .int to)] := hl
  have hY : hm_Y D cls A s.heap (wM G M ω) s.heap [] := hm_Y.start hB hK.2.2.2
  refine lv_aload_n X.1 X.2.1 d_M_edge_0 rfl (lv_at hl 0 rfl) ?_
  refine lv_iconst (v := 0) X.1 X.2.1 d_M_edge_1 (by decide) ?_
  refine hm_put ⟨X, hK.1⟩ hY v_0 0 rfl (Nat.le_of_ble_eq_true rfl) (Nat.le_of_ble_eq_true rfl) hu_M ty_M ty_M_ok nm_M m_489 (fun _ h => h) rfl rfl rfl d_M_edge_2 (fun H locs hY => ?_)
  have hY : hm_Y D cls A s.heap (wM G (M.sI 0 0 0) ω) H locs := by rw [← fm_0 (M := M) (v := 0)]; exact hY
  refine lv_aload_n X.1 X.2.1 d_M_edge_5 rfl (lv_at hl 0 rfl) ?_
  refine lv_iload_n X.1 X.2.1 d_M_edge_6 rfl (lv_at hl 1 rfl) ?_
  refine hm_callR (ct_runV (n := 1) X hK hY (k_M_isPart l D A G (M.sI 0 0 0) ω x) m_601 m_598 m_600 ms_M_isPart m_6 (by decide +kernel) ⟨Nat.le_of_ble_eq_true rfl, Nat.le_of_ble_eq_true rfl⟩ ⟨rfl, rfl⟩ (hm_recv ⟨X, hK.1⟩ hY v_0 rfl) rfl hl.1 rfl (Nat.le_of_ble_eq_true rfl) d_M_edge_7 ⟨Nat.le_of_ble_eq_true rfl, Nat.le_of_ble_eq_true rfl⟩) (fun v hv => ?_)
  subst hv
  refine W.eq (g2 := F0 m 10 ls [.int (b2 (mP (M.sI 0 0 0) x))]) rfl ?_
  refine lv_if_ne (tgt := 15) X.1 X.2.1 d_M_edge_10 (by decide) (fun c1 => ?_) (fun c1 => ?_)
  · have c1 : (mP (M.sI 0 0 0) x) := Classical.byContradiction (fun z => c1 (b2_0.mpr z))
    exact absurd c1 hp
  · have c1 : ¬ (mP (M.sI 0 0 0) x) := b2_0.mp c1
    refine lv_iconst (v := (-1)) X.1 X.2.1 d_M_edge_13 (by decide) ?_
    exact en_iW X hY hr hlocks d_M_edge_14 (⟨rfl, rfl⟩)

set_option maxHeartbeats 4000000 in
set_option maxRecDepth 100000 in
theorem k_M_deadline_y (l : Launch) (D : va_G) (A : Nat → Prop) (G : Nat → Nat) (M : mS) (ω : hm_T) (n : Nat) (hp : mP M (nI n)) (h0 : 1 ≤ n) (h20 : n ≤ 20) (cn : Nat) (hcn : M.I 12 n = nI cn) (h10 : cn ≤ 10) (fr to : Int32) (a b : Int64) : Met l y_M_deadline (.code y_M_deadline c_M_deadline 9 (some .int) :: wsA) { frames := 1, cells := 0, slots := 0, locals := 21 } (va_Pc [.ref (M.ad 0), .int (nI n), .int fr, .int to, .long a, .long b] (ctU D A G (wM G M ω))) (hm_Q D cls A (fun v w => v = some (.int (mdead M n cn fr to a b).1) ∧ w = wM G (mdead M n cn fr to a b).2 ω)) 0 0 A := by
  refine ct_met (by decide) (Nat.le_of_ble_eq_true rfl) ?_
  rintro p e s m below meth c ls X hr hlocks hnm hl ⟨hB, hK⟩
  have hl : lv_has ls 9 [(0, .ref (M.ad 0)), (1, .int (nI n)), (2, .int fr), (3, .int to), (4, .long a), (6, .long b)] := hl
  have hY : hm_Y D cls A s.heap (wM G M ω) s.heap [] := hm_Y.start hB hK.2.2.2
  refine lv_aload_n X.1 X.2.1 d_M_deadline_0 rfl (lv_at hl 0 rfl) ?_
  refine lv_iconst (v := 0) X.1 X.2.1 d_M_deadline_1 (by decide) ?_
  refine hm_put ⟨X, hK.1⟩ hY v_0 0 rfl (Nat.le_of_ble_eq_true rfl) (Nat.le_of_ble_eq_true rfl) hu_M ty_M ty_M_ok nm_M m_489 (fun _ h => h) rfl rfl rfl d_M_deadline_2 (fun H locs hY => ?_)
  have hY : hm_Y D cls A s.heap (wM G (M.sI 0 0 0) ω) H locs := by rw [← fm_0 (M := M) (v := 0)]; exact hY
  refine lv_aload_n X.1 X.2.1 d_M_deadline_5 rfl (lv_at hl 0 rfl) ?_
  refine lv_iload_n X.1 X.2.1 d_M_deadline_6 rfl (lv_at hl 1 rfl) ?_
  refine hm_callR (ct_runV (n := 1) X hK hY (k_M_isPart l D A G (M.sI 0 0 0) ω (nI n)) m_601 m_598 m_600 ms_M_isPart m_6 (by decide +kernel) ⟨Nat.le_of_ble_eq_true rfl, Nat.le_of_ble_eq_true rfl⟩ ⟨rfl, rfl⟩ (hm_recv ⟨X, hK.1⟩ hY v_0 rfl) rfl hl.1 rfl (Nat.le_of_ble_eq_true rfl) d_M_deadline_7 ⟨Nat.le_of_ble_eq_true rfl, Nat.le_of_ble_eq_true rfl⟩) (fun v hv => ?_)
  subst hv
  refine W.eq (g2 := F0 m 10 ls [.int (b2 (mP (M.sI 0 0 0) (nI n)))]) rfl ?_
  refine lv_if_ne (tgt := 15) X.1 X.2.1 d_M_deadline_10 (by decide) (fun c1 => ?_) (fun c1 => ?_)
  · have c1 : (mP (M.sI 0 0 0) (nI n)) := Classical.byContradiction (fun z => c1 (b2_0.mpr z))
    refine lv_iload_n X.1 X.2.1 d_M_deadline_15 rfl (lv_at hl 2 rfl) ?_
    refine lv_iconst (v := 1) X.1 X.2.1 d_M_deadline_16 (by decide) ?_
    refine lv_icmp_lt (tgt := 70) X.1 X.2.1 d_M_deadline_17 (by decide) (fun c2 => ?_) (fun c2 => ?_)
    · refine lv_bipush (v := (-2)) X.1 X.2.1 d_M_deadline_70 (by decide) ?_
      exact en_iW X hY hr hlocks d_M_deadline_72 (⟨by rw [mdead, if_pos c2], by rw [mdead, if_pos c2]⟩)
    · refine lv_iload_n X.1 X.2.1 d_M_deadline_20 rfl (lv_at hl 2 rfl) ?_
      refine lv_bipush (v := 30) X.1 X.2.1 d_M_deadline_21 (by decide) ?_
      refine lv_icmp_gt (tgt := 70) X.1 X.2.1 d_M_deadline_23 (by decide) (fun c3 => ?_) (fun c3 => ?_)
      · refine lv_bipush (v := (-2)) X.1 X.2.1 d_M_deadline_70 (by decide) ?_
        exact en_iW X hY hr hlocks d_M_deadline_72 (⟨by rw [mdead, if_neg c2, if_pos c3], by rw [mdead, if_neg c2, if_pos c3]⟩)
      · refine lv_iload_n X.1 X.2.1 d_M_deadline_26 rfl (lv_at hl 3 rfl) ?_
        refine lv_iconst (v := 1) X.1 X.2.1 d_M_deadline_27 (by decide) ?_
        refine lv_icmp_lt (tgt := 70) X.1 X.2.1 d_M_deadline_28 (by decide) (fun c4 => ?_) (fun c4 => ?_)
        · refine lv_bipush (v := (-2)) X.1 X.2.1 d_M_deadline_70 (by decide) ?_
          exact en_iW X hY hr hlocks d_M_deadline_72 (⟨by rw [mdead, if_neg c2, if_neg c3, if_pos c4], by rw [mdead, if_neg c2, if_neg c3, if_pos c4]⟩)
        · refine lv_iload_n X.1 X.2.1 d_M_deadline_31 rfl (lv_at hl 3 rfl) ?_
          refine lv_bipush (v := 30) X.1 X.2.1 d_M_deadline_32 (by decide) ?_
          refine lv_icmp_gt (tgt := 70) X.1 X.2.1 d_M_deadline_34 (by decide) (fun c5 => ?_) (fun c5 => ?_)
          · refine lv_bipush (v := (-2)) X.1 X.2.1 d_M_deadline_70 (by decide) ?_
            exact en_iW X hY hr hlocks d_M_deadline_72 (⟨by rw [mdead, if_neg c2, if_neg c3, if_neg c4, if_pos c5], by rw [mdead, if_neg c2, if_neg c3, if_neg c4, if_pos c5]⟩)
          · refine lv_lload X.1 X.2.1 d_M_deadline_37 (lv_at hl 4 rfl) ?_
            refine lv_lconst (v := 0) X.1 X.2.1 d_M_deadline_39 (by decide) ?_
            refine lc_lt (tgt := 70) X d_M_deadline_40 d_M_deadline_41 (by decide) (fun c6 => ?_) (fun c6 => ?_)
            · refine lv_bipush (v := (-2)) X.1 X.2.1 d_M_deadline_70 (by decide) ?_
              exact en_iW X hY hr hlocks d_M_deadline_72 (⟨by rw [mdead, if_neg c2, if_neg c3, if_neg c4, if_neg c5, if_pos c6], by rw [mdead, if_neg c2, if_neg c3, if_neg c4, if_neg c5, if_pos c6]⟩)
            · refine lv_lload X.1 X.2.1 d_M_deadline_44 (lv_at hl 4 rfl) ?_
              refine lv_ldc2 X.1 X.2.1 X.2.2.2.1 (X.2.2.2.2 _ m_610) d_M_deadline_46 ?_
              refine lc_gt (tgt := 70) X d_M_deadline_49 d_M_deadline_50 (by decide) (fun c7 => ?_) (fun c7 => ?_)
              · refine lv_bipush (v := (-2)) X.1 X.2.1 d_M_deadline_70 (by decide) ?_
                exact en_iW X hY hr hlocks d_M_deadline_72 (⟨by rw [mdead, if_neg c2, if_neg c3, if_neg c4, if_neg c5, if_neg c6, if_pos c7], by rw [mdead, if_neg c2, if_neg c3, if_neg c4, if_neg c5, if_neg c6, if_pos c7]⟩)
              · refine lv_lload X.1 X.2.1 d_M_deadline_53 (lv_at hl 5 rfl) ?_
                refine lv_lload X.1 X.2.1 d_M_deadline_55 (lv_at hl 4 rfl) ?_
                refine lc_lt (tgt := 70) X d_M_deadline_57 d_M_deadline_58 (by decide) (fun c8 => ?_) (fun c8 => ?_)
                · refine lv_bipush (v := (-2)) X.1 X.2.1 d_M_deadline_70 (by decide) ?_
                  exact en_iW X hY hr hlocks d_M_deadline_72 (⟨by rw [mdead, if_neg c2, if_neg c3, if_neg c4, if_neg c5, if_neg c6, if_neg c7, if_pos c8], by rw [mdead, if_neg c2, if_neg c3, if_neg c4, if_neg c5, if_neg c6, if_neg c7, if_pos c8]⟩)
                · refine lv_lload X.1 X.2.1 d_M_deadline_61 (lv_at hl 5 rfl) ?_
                  refine lv_ldc2 X.1 X.2.1 X.2.2.2.1 (X.2.2.2.2 _ m_610) d_M_deadline_63 ?_
                  refine lc_le (tgt := 73) X d_M_deadline_66 d_M_deadline_67 (by decide) (fun c9 => ?_) (fun c9 => ?_)
                  · refine lv_aload_n X.1 X.2.1 d_M_deadline_73 rfl (lv_at hl 0 rfl) ?_
                    refine hm_get ⟨X, hK.1⟩ hY v_0 12 (v := .ref (M.ad 12)) rfl rfl (Nat.le_of_ble_eq_true rfl) hu_M m_501 (fun _ h => h) d_M_deadline_74 ?_
                    refine lv_iload_n X.1 X.2.1 d_M_deadline_77 rfl (lv_at hl 1 rfl) ?_
                    refine mi_ald ⟨X, hK.1⟩ hY v_12 0 rfl (x := n) (v := M.I 12 n) rfl (by omega) (by decide) rfl d_M_deadline_78 ?_
                    refine lv_bipush (v := 10) X.1 X.2.1 d_M_deadline_79 (by decide) ?_
                    refine lv_icmp_ne (tgt := 87) X.1 X.2.1 d_M_deadline_81 (by decide) (fun c10 => ?_) (fun c10 => ?_)
                    · refine lv_bipush (v := 10) X.1 X.2.1 d_M_deadline_87 (by decide) ?_
                      refine lv_iload_n X.1 X.2.1 d_M_deadline_89 rfl (lv_at hl 1 rfl) ?_
                      refine lv_imul X.1 X.2.1 d_M_deadline_90 ?_
                      rw [show (10 : Int32) * nI n = nI (10 * n) from pk_mul 10 n]
                      refine lv_aload_n X.1 X.2.1 d_M_deadline_91 rfl (lv_at hl 0 rfl) ?_
                      refine hm_get ⟨X, hK.1⟩ hY v_0 12 (v := .ref (M.ad 12)) rfl rfl (Nat.le_of_ble_eq_true rfl) hu_M m_501 (fun _ h => h) d_M_deadline_92 ?_
                      refine lv_iload_n X.1 X.2.1 d_M_deadline_95 rfl (lv_at hl 1 rfl) ?_
                      refine mi_ald ⟨X, hK.1⟩ hY v_12 0 rfl (x := n) (v := M.I 12 n) rfl (by omega) (by decide) rfl d_M_deadline_96 ?_
                      refine lv_iadd X.1 X.2.1 d_M_deadline_97 ?_
                      rw [hcn, nI_add]
                      have hlt : cn < 10 := by rcases Nat.lt_or_ge cn 10 with q | q; exact q; exact absurd (by rw [hcn, show cn = 10 by omega]; rfl) c10
                      refine lv_istore (lv' := [(8, .int (nI (10 * n + cn))), (0, .ref (M.ad 0)), (1, .int (nI n)), (2, .int fr), (3, .int to), (4, .long a), (6, .long b)]) X.1 X.2.1 d_M_deadline_98 hl (by decide) rfl (fun ls hl => ?_)
                      refine lv_aload_n X.1 X.2.1 d_M_deadline_100 rfl (lv_at hl 1 rfl) ?_
                      refine hm_get ⟨X, hK.1⟩ hY v_0 13 (v := .ref (M.ad 13)) rfl rfl (Nat.le_of_ble_eq_true rfl) hu_M m_502 (fun _ h => h) d_M_deadline_101 ?_
                      refine lv_iload X.1 X.2.1 d_M_deadline_104 (lv_at hl 0 rfl) ?_
                      refine lv_aload_n X.1 X.2.1 d_M_deadline_106 rfl (lv_at hl 1 rfl) ?_
                      refine hm_get ⟨X, hK.1⟩ hY v_0 19 (v := .int (M.I 19 0)) rfl rfl (Nat.le_of_ble_eq_true rfl) hu_M m_508 (fun _ h => h) d_M_deadline_107 ?_
                      refine mi_ast ⟨X, hK.1⟩ hY v_13 0 rfl (x := 10 * n + cn) rfl (by omega) (by decide) d_M_deadline_110 (fun H locs hY => ?_)
                      have hY : hm_Y D cls A s.heap (wM G ((M.sI 0 0 0).sI 13 (10 * n + cn) (M.I 19 0)) ω) H locs := by rw [← fa_13 (M := (M.sI 0 0 0)) (j := 10 * n + cn) (v := M.I 19 0)]; exact hY
                      refine lv_aload_n X.1 X.2.1 d_M_deadline_111 rfl (lv_at hl 1 rfl) ?_
                      refine hm_get ⟨X, hK.1⟩ hY v_0 14 (v := .ref (M.ad 14)) rfl rfl (Nat.le_of_ble_eq_true rfl) hu_M m_503 (fun _ h => h) d_M_deadline_112 ?_
                      refine lv_iload X.1 X.2.1 d_M_deadline_115 (lv_at hl 0 rfl) ?_
                      refine lv_iload_n X.1 X.2.1 d_M_deadline_117 rfl (lv_at hl 3 rfl) ?_
                      refine mi_ast ⟨X, hK.1⟩ hY v_14 0 rfl (x := 10 * n + cn) rfl (by omega) (by decide) d_M_deadline_118 (fun H locs hY => ?_)
                      have hY : hm_Y D cls A s.heap (wM G (((M.sI 0 0 0).sI 13 (10 * n + cn) (M.I 19 0)).sI 14 (10 * n + cn) fr) ω) H locs := by rw [← fa_14 (M := ((M.sI 0 0 0).sI 13 (10 * n + cn) (M.I 19 0))) (j := 10 * n + cn) (v := fr)]; exact hY
                      refine lv_aload_n X.1 X.2.1 d_M_deadline_119 rfl (lv_at hl 1 rfl) ?_
                      refine hm_get ⟨X, hK.1⟩ hY v_0 15 (v := .ref (M.ad 15)) rfl rfl (Nat.le_of_ble_eq_true rfl) hu_M m_504 (fun _ h => h) d_M_deadline_120 ?_
                      refine lv_iload X.1 X.2.1 d_M_deadline_123 (lv_at hl 0 rfl) ?_
                      refine lv_iload_n X.1 X.2.1 d_M_deadline_125 rfl (lv_at hl 4 rfl) ?_
                      refine mi_ast ⟨X, hK.1⟩ hY v_15 0 rfl (x := 10 * n + cn) rfl (by omega) (by decide) d_M_deadline_126 (fun H locs hY => ?_)
                      have hY : hm_Y D cls A s.heap (wM G ((((M.sI 0 0 0).sI 13 (10 * n + cn) (M.I 19 0)).sI 14 (10 * n + cn) fr).sI 15 (10 * n + cn) to) ω) H locs := by rw [← fa_15 (M := (((M.sI 0 0 0).sI 13 (10 * n + cn) (M.I 19 0)).sI 14 (10 * n + cn) fr)) (j := 10 * n + cn) (v := to)]; exact hY
                      refine lv_aload_n X.1 X.2.1 d_M_deadline_127 rfl (lv_at hl 1 rfl) ?_
                      refine hm_get ⟨X, hK.1⟩ hY v_0 16 (v := .ref (M.ad 16)) rfl rfl (Nat.le_of_ble_eq_true rfl) hu_M m_505 (fun _ h => h) d_M_deadline_128 ?_
                      refine lv_iload X.1 X.2.1 d_M_deadline_131 (lv_at hl 0 rfl) ?_
                      refine lv_lload X.1 X.2.1 d_M_deadline_133 (lv_at hl 5 rfl) ?_
                      refine ml_ast ⟨X, hK.1⟩ hY v_16 2 rfl (x := 10 * n + cn) rfl (by omega) (by decide) d_M_deadline_135 (fun H locs hY => ?_)
                      have hY : hm_Y D cls A s.heap (wM G (((((M.sI 0 0 0).sI 13 (10 * n + cn) (M.I 19 0)).sI 14 (10 * n + cn) fr).sI 15 (10 * n + cn) to).sJ 16 (10 * n + cn) a) ω) H locs := by rw [← fa_16 (M := ((((M.sI 0 0 0).sI 13 (10 * n + cn) (M.I 19 0)).sI 14 (10 * n + cn) fr).sI 15 (10 * n + cn) to)) (j := 10 * n + cn) (v := a)]; exact hY
                      refine lv_aload_n X.1 X.2.1 d_M_deadline_136 rfl (lv_at hl 1 rfl) ?_
                      refine hm_get ⟨X, hK.1⟩ hY v_0 17 (v := .ref (M.ad 17)) rfl rfl (Nat.le_of_ble_eq_true rfl) hu_M m_506 (fun _ h => h) d_M_deadline_137 ?_
                      refine lv_iload X.1 X.2.1 d_M_deadline_140 (lv_at hl 0 rfl) ?_
                      refine lv_lload X.1 X.2.1 d_M_deadline_142 (lv_at hl 6 rfl) ?_
                      refine ml_ast ⟨X, hK.1⟩ hY v_17 2 rfl (x := 10 * n + cn) rfl (by omega) (by decide) d_M_deadline_144 (fun H locs hY => ?_)
                      have hY : hm_Y D cls A s.heap (wM G ((((((M.sI 0 0 0).sI 13 (10 * n + cn) (M.I 19 0)).sI 14 (10 * n + cn) fr).sI 15 (10 * n + cn) to).sJ 16 (10 * n + cn) a).sJ 17 (10 * n + cn) b) ω) H locs := by rw [← fa_17 (M := (((((M.sI 0 0 0).sI 13 (10 * n + cn) (M.I 19 0)).sI 14 (10 * n + cn) fr).sI 15 (10 * n + cn) to).sJ 16 (10 * n + cn) a)) (j := 10 * n + cn) (v := b)]; exact hY
                      refine lv_aload_n X.1 X.2.1 d_M_deadline_145 rfl (lv_at hl 1 rfl) ?_
                      refine hm_get ⟨X, hK.1⟩ hY v_0 18 (v := .ref (M.ad 18)) rfl rfl (Nat.le_of_ble_eq_true rfl) hu_M m_507 (fun _ h => h) d_M_deadline_146 ?_
                      refine lv_iload X.1 X.2.1 d_M_deadline_149 (lv_at hl 0 rfl) ?_
                      refine lv_ldc2 X.1 X.2.1 X.2.2.2.1 (X.2.2.2.2 _ m_488) d_M_deadline_151 ?_
                      refine ml_ast ⟨X, hK.1⟩ hY v_18 2 rfl (x := 10 * n + cn) rfl (by omega) (by decide) d_M_deadline_154 (fun H locs hY => ?_)
                      have hY : hm_Y D cls A s.heap (wM G (((((((M.sI 0 0 0).sI 13 (10 * n + cn) (M.I 19 0)).sI 14 (10 * n + cn) fr).sI 15 (10 * n + cn) to).sJ 16 (10 * n + cn) a).sJ 17 (10 * n + cn) b).sJ 18 (10 * n + cn) (-1)) ω) H locs := by rw [← fa_18 (M := ((((((M.sI 0 0 0).sI 13 (10 * n + cn) (M.I 19 0)).sI 14 (10 * n + cn) fr).sI 15 (10 * n + cn) to).sJ 16 (10 * n + cn) a).sJ 17 (10 * n + cn) b)) (j := 10 * n + cn) (v := (-1))]; exact hY
                      refine lv_aload_n X.1 X.2.1 d_M_deadline_155 rfl (lv_at hl 1 rfl) ?_
                      refine hm_get ⟨X, hK.1⟩ hY v_0 12 (v := .ref (M.ad 12)) rfl rfl (Nat.le_of_ble_eq_true rfl) hu_M m_501 (fun _ h => h) d_M_deadline_156 ?_
                      refine lv_iload_n X.1 X.2.1 d_M_deadline_159 rfl (lv_at hl 2 rfl) ?_
                      refine lv_dup2_11 X.1 X.2.1 d_M_deadline_160 rfl rfl ?_
                      refine mi_ald ⟨X, hK.1⟩ hY v_12 0 rfl (x := n) (v := M.I 12 n) rfl (by omega) (by decide) rfl d_M_deadline_161 ?_
                      refine lv_iconst (v := 1) X.1 X.2.1 d_M_deadline_162 (by decide) ?_
                      refine lv_iadd X.1 X.2.1 d_M_deadline_163 ?_
                      refine mi_ast ⟨X, hK.1⟩ hY v_12 0 rfl (x := n) rfl (by omega) (by decide) d_M_deadline_164 (fun H locs hY => ?_)
                      have hY : hm_Y D cls A s.heap (wM G ((((((((M.sI 0 0 0).sI 13 (10 * n + cn) (M.I 19 0)).sI 14 (10 * n + cn) fr).sI 15 (10 * n + cn) to).sJ 16 (10 * n + cn) a).sJ 17 (10 * n + cn) b).sJ 18 (10 * n + cn) (-1)).sI 12 n ((M.I 12 n) + 1)) ω) H locs := by rw [← fa_12 (M := (((((((M.sI 0 0 0).sI 13 (10 * n + cn) (M.I 19 0)).sI 14 (10 * n + cn) fr).sI 15 (10 * n + cn) to).sJ 16 (10 * n + cn) a).sJ 17 (10 * n + cn) b).sJ 18 (10 * n + cn) (-1))) (j := n) (v := (M.I 12 n) + 1)]; exact hY
                      refine lv_aload_n X.1 X.2.1 d_M_deadline_165 rfl (lv_at hl 1 rfl) ?_
                      refine hm_get ⟨X, hK.1⟩ hY v_0 12 (v := .ref (M.ad 12)) rfl rfl (Nat.le_of_ble_eq_true rfl) hu_M m_501 (fun _ h => h) d_M_deadline_166 ?_
                      refine lv_iload_n X.1 X.2.1 d_M_deadline_169 rfl (lv_at hl 2 rfl) ?_
                      refine mi_ald ⟨X, hK.1⟩ hY v_12 0 rfl (x := n) (v := (M.I 12 n) + 1) rfl (by omega) (by decide) (by simp [mS.sI, mS.sJ, mS.I, mS.J, up2]) d_M_deadline_170 ?_
                      exact en_iW X hY hr hlocks d_M_deadline_171 (⟨by rw [mdead, if_neg c2, if_neg c3, if_neg c4, if_neg c5, if_neg c6, if_neg c7, if_neg c8, if_pos c9, if_neg c10], by rw [mdead, if_neg c2, if_neg c3, if_neg c4, if_neg c5, if_neg c6, if_neg c7, if_neg c8, if_pos c9, if_neg c10]⟩)
                    · refine lv_bipush (v := (-4)) X.1 X.2.1 d_M_deadline_84 (by decide) ?_
                      exact en_iW X hY hr hlocks d_M_deadline_86 (⟨by rw [mdead, if_neg c2, if_neg c3, if_neg c4, if_neg c5, if_neg c6, if_neg c7, if_neg c8, if_pos c9, if_pos c10], by rw [mdead, if_neg c2, if_neg c3, if_neg c4, if_neg c5, if_neg c6, if_neg c7, if_neg c8, if_pos c9, if_pos c10]⟩)
                  · refine lv_bipush (v := (-2)) X.1 X.2.1 d_M_deadline_70 (by decide) ?_
                    exact en_iW X hY hr hlocks d_M_deadline_72 (⟨by rw [mdead, if_neg c2, if_neg c3, if_neg c4, if_neg c5, if_neg c6, if_neg c7, if_neg c8, if_neg c9], by rw [mdead, if_neg c2, if_neg c3, if_neg c4, if_neg c5, if_neg c6, if_neg c7, if_neg c8, if_neg c9]⟩)
  · have c1 : ¬ (mP (M.sI 0 0 0) (nI n)) := b2_0.mp c1
    exact absurd hp c1

set_option maxHeartbeats 4000000 in
set_option maxRecDepth 100000 in
theorem k_M_deadline_no (l : Launch) (D : va_G) (A : Nat → Prop) (G : Nat → Nat) (M : mS) (ω : hm_T) (x : Int32) (hp : ¬ mP M x) (fr to : Int32) (a b : Int64) : Met l y_M_deadline (.code y_M_deadline c_M_deadline 9 (some .int) :: wsA) { frames := 1, cells := 0, slots := 0, locals := 21 } (va_Pc [.ref (M.ad 0), .int x, .int fr, .int to, .long a, .long b] (ctU D A G (wM G M ω))) (hm_Q D cls A (fun v w => v = some (.int (((-1 : Int32), M.sI 0 0 0)).1) ∧ w = wM G (((-1 : Int32), M.sI 0 0 0)).2 ω)) 0 0 A := by
  refine ct_met (by decide) (Nat.le_of_ble_eq_true rfl) ?_
  rintro p e s m below meth c ls X hr hlocks hnm hl ⟨hB, hK⟩
  have hl : lv_has ls 9 [(0, .ref (M.ad 0)), (1, .int x), (2, .int fr), (3, .int to), (4, .long a), (6, .long b)] := hl
  have hY : hm_Y D cls A s.heap (wM G M ω) s.heap [] := hm_Y.start hB hK.2.2.2
  refine lv_aload_n X.1 X.2.1 d_M_deadline_0 rfl (lv_at hl 0 rfl) ?_
  refine lv_iconst (v := 0) X.1 X.2.1 d_M_deadline_1 (by decide) ?_
  refine hm_put ⟨X, hK.1⟩ hY v_0 0 rfl (Nat.le_of_ble_eq_true rfl) (Nat.le_of_ble_eq_true rfl) hu_M ty_M ty_M_ok nm_M m_489 (fun _ h => h) rfl rfl rfl d_M_deadline_2 (fun H locs hY => ?_)
  have hY : hm_Y D cls A s.heap (wM G (M.sI 0 0 0) ω) H locs := by rw [← fm_0 (M := M) (v := 0)]; exact hY
  refine lv_aload_n X.1 X.2.1 d_M_deadline_5 rfl (lv_at hl 0 rfl) ?_
  refine lv_iload_n X.1 X.2.1 d_M_deadline_6 rfl (lv_at hl 1 rfl) ?_
  refine hm_callR (ct_runV (n := 1) X hK hY (k_M_isPart l D A G (M.sI 0 0 0) ω x) m_601 m_598 m_600 ms_M_isPart m_6 (by decide +kernel) ⟨Nat.le_of_ble_eq_true rfl, Nat.le_of_ble_eq_true rfl⟩ ⟨rfl, rfl⟩ (hm_recv ⟨X, hK.1⟩ hY v_0 rfl) rfl hl.1 rfl (Nat.le_of_ble_eq_true rfl) d_M_deadline_7 ⟨Nat.le_of_ble_eq_true rfl, Nat.le_of_ble_eq_true rfl⟩) (fun v hv => ?_)
  subst hv
  refine W.eq (g2 := F0 m 10 ls [.int (b2 (mP (M.sI 0 0 0) x))]) rfl ?_
  refine lv_if_ne (tgt := 15) X.1 X.2.1 d_M_deadline_10 (by decide) (fun c1 => ?_) (fun c1 => ?_)
  · have c1 : (mP (M.sI 0 0 0) x) := Classical.byContradiction (fun z => c1 (b2_0.mpr z))
    exact absurd c1 hp
  · have c1 : ¬ (mP (M.sI 0 0 0) x) := b2_0.mp c1
    refine lv_iconst (v := (-1)) X.1 X.2.1 d_M_deadline_13 (by decide) ?_
    exact en_iW X hY hr hlocks d_M_deadline_14 (⟨rfl, rfl⟩)

set_option maxHeartbeats 4000000 in
set_option maxRecDepth 100000 in
theorem k_M_tolerance_y (l : Launch) (D : va_G) (A : Nat → Prop) (G : Nat → Nat) (M : mS) (ω : hm_T) (n : Nat) (hp : mP M (nI n)) (h0 : 1 ≤ n) (h20 : n ≤ 20) (k : Int32) : Met l y_M_tolerance (.code y_M_tolerance c_M_tolerance 3 (some .int) :: wsA) { frames := 1, cells := 0, slots := 0, locals := 21 } (va_Pc [.ref (M.ad 0), .int (nI n), .int k] (ctU D A G (wM G M ω))) (hm_Q D cls A (fun v w => v = some (.int (mtolY M n k).1) ∧ w = wM G (mtolY M n k).2 ω)) 0 0 A := by
  refine ct_met (by decide) (Nat.le_of_ble_eq_true rfl) ?_
  rintro p e s m below meth c ls X hr hlocks hnm hl ⟨hB, hK⟩
  have hl : lv_has ls 3 [(0, .ref (M.ad 0)), (1, .int (nI n)), (2, .int k)] := hl
  have hY : hm_Y D cls A s.heap (wM G M ω) s.heap [] := hm_Y.start hB hK.2.2.2
  refine lv_aload_n X.1 X.2.1 d_M_tolerance_0 rfl (lv_at hl 0 rfl) ?_
  refine lv_iconst (v := 0) X.1 X.2.1 d_M_tolerance_1 (by decide) ?_
  refine hm_put ⟨X, hK.1⟩ hY v_0 0 rfl (Nat.le_of_ble_eq_true rfl) (Nat.le_of_ble_eq_true rfl) hu_M ty_M ty_M_ok nm_M m_489 (fun _ h => h) rfl rfl rfl d_M_tolerance_2 (fun H locs hY => ?_)
  have hY : hm_Y D cls A s.heap (wM G (M.sI 0 0 0) ω) H locs := by rw [← fm_0 (M := M) (v := 0)]; exact hY
  refine lv_iload_n X.1 X.2.1 d_M_tolerance_5 rfl (lv_at hl 1 rfl) ?_
  refine lv_if_eq (tgt := 19) X.1 X.2.1 d_M_tolerance_6 (by decide) (fun c9 => absurd c9 (nI_ne0 (by omega) (by omega))) (fun _ => ?_)
  refine lv_aload_n X.1 X.2.1 d_M_tolerance_9 rfl (lv_at hl 0 rfl) ?_
  refine lv_iload_n X.1 X.2.1 d_M_tolerance_10 rfl (lv_at hl 1 rfl) ?_
  refine hm_callR (ct_runV (n := 1) X hK hY (k_M_isPart l D A G (M.sI 0 0 0) ω (nI n)) m_601 m_598 m_600 ms_M_isPart m_6 (by decide +kernel) ⟨Nat.le_of_ble_eq_true rfl, Nat.le_of_ble_eq_true rfl⟩ ⟨rfl, rfl⟩ (hm_recv ⟨X, hK.1⟩ hY v_0 rfl) rfl hl.1 rfl (Nat.le_of_ble_eq_true rfl) d_M_tolerance_11 ⟨Nat.le_of_ble_eq_true rfl, Nat.le_of_ble_eq_true rfl⟩) (fun v hv => ?_)
  subst hv
  refine W.eq (g2 := F0 m 14 ls [.int (b2 (mP (M.sI 0 0 0) (nI n)))]) rfl ?_
  refine lv_if_ne (tgt := 19) X.1 X.2.1 d_M_tolerance_14 (by decide) (fun c1 => ?_) (fun c1 => ?_)
  · have c1 : (mP (M.sI 0 0 0) (nI n)) := Classical.byContradiction (fun z => c1 (b2_0.mpr z))
    refine lv_iload_n X.1 X.2.1 d_M_tolerance_19 rfl (lv_at hl 2 rfl) ?_
    refine lv_if_lt (tgt := 29) X.1 X.2.1 d_M_tolerance_20 (by decide) (fun c2 => ?_) (fun c2 => ?_)
    · refine lv_bipush (v := (-2)) X.1 X.2.1 d_M_tolerance_29 (by decide) ?_
      exact en_iW X hY hr hlocks d_M_tolerance_31 (⟨by rw [mtolY, if_pos c2], by rw [mtolY, if_pos c2]⟩)
    · refine lv_iload_n X.1 X.2.1 d_M_tolerance_23 rfl (lv_at hl 2 rfl) ?_
      refine lv_bipush (v := 100) X.1 X.2.1 d_M_tolerance_24 (by decide) ?_
      refine lv_icmp_le (tgt := 32) X.1 X.2.1 d_M_tolerance_26 (by decide) (fun c3 => ?_) (fun c3 => ?_)
      · refine lv_iload_n X.1 X.2.1 d_M_tolerance_32 rfl (lv_at hl 1 rfl) ?_
        refine lv_if_ne (tgt := 44) X.1 X.2.1 d_M_tolerance_33 (by decide) (fun _ => ?_) (fun c9 => absurd c9 (nI_ne0 (by omega) (by omega)))
        refine lv_aload_n X.1 X.2.1 d_M_tolerance_44 rfl (lv_at hl 0 rfl) ?_
        refine hm_get ⟨X, hK.1⟩ hY v_0 7 (v := .ref (M.ad 7)) rfl rfl (Nat.le_of_ble_eq_true rfl) hu_M m_496 (fun _ h => h) d_M_tolerance_45 ?_
        refine lv_iload_n X.1 X.2.1 d_M_tolerance_48 rfl (lv_at hl 1 rfl) ?_
        refine lv_iload_n X.1 X.2.1 d_M_tolerance_49 rfl (lv_at hl 2 rfl) ?_
        refine mi_ast ⟨X, hK.1⟩ hY v_7 0 rfl (x := n) rfl (by omega) (by decide) d_M_tolerance_50 (fun H locs hY => ?_)
        have hY : hm_Y D cls A s.heap (wM G ((M.sI 0 0 0).sI 7 n k) ω) H locs := by rw [← fa_7 (M := (M.sI 0 0 0)) (j := n) (v := k)]; exact hY
        refine lv_iconst (v := 1) X.1 X.2.1 d_M_tolerance_51 (by decide) ?_
        exact en_iW X hY hr hlocks d_M_tolerance_52 (⟨by rw [mtolY, if_neg c2, if_pos c3], by rw [mtolY, if_neg c2, if_pos c3]⟩)
      · refine lv_bipush (v := (-2)) X.1 X.2.1 d_M_tolerance_29 (by decide) ?_
        exact en_iW X hY hr hlocks d_M_tolerance_31 (⟨by rw [mtolY, if_neg c2, if_neg c3], by rw [mtolY, if_neg c2, if_neg c3]⟩)
  · have c1 : ¬ (mP (M.sI 0 0 0) (nI n)) := b2_0.mp c1
    exact absurd hp c1

set_option maxHeartbeats 4000000 in
set_option maxRecDepth 100000 in
theorem k_M_tolerance_no (l : Launch) (D : va_G) (A : Nat → Prop) (G : Nat → Nat) (M : mS) (ω : hm_T) (x : Int32) (hp : ¬ mP M x) (k : Int32) : Met l y_M_tolerance (.code y_M_tolerance c_M_tolerance 3 (some .int) :: wsA) { frames := 1, cells := 0, slots := 0, locals := 21 } (va_Pc [.ref (M.ad 0), .int x, .int k] (ctU D A G (wM G M ω))) (hm_Q D cls A (fun v w => v = some (.int (mtolN M x k).1) ∧ w = wM G (mtolN M x k).2 ω)) 0 0 A := by
  refine ct_met (by decide) (Nat.le_of_ble_eq_true rfl) ?_
  rintro p e s m below meth c ls X hr hlocks hnm hl ⟨hB, hK⟩
  have hl : lv_has ls 3 [(0, .ref (M.ad 0)), (1, .int x), (2, .int k)] := hl
  have hY : hm_Y D cls A s.heap (wM G M ω) s.heap [] := hm_Y.start hB hK.2.2.2
  refine lv_aload_n X.1 X.2.1 d_M_tolerance_0 rfl (lv_at hl 0 rfl) ?_
  refine lv_iconst (v := 0) X.1 X.2.1 d_M_tolerance_1 (by decide) ?_
  refine hm_put ⟨X, hK.1⟩ hY v_0 0 rfl (Nat.le_of_ble_eq_true rfl) (Nat.le_of_ble_eq_true rfl) hu_M ty_M ty_M_ok nm_M m_489 (fun _ h => h) rfl rfl rfl d_M_tolerance_2 (fun H locs hY => ?_)
  have hY : hm_Y D cls A s.heap (wM G (M.sI 0 0 0) ω) H locs := by rw [← fm_0 (M := M) (v := 0)]; exact hY
  refine lv_iload_n X.1 X.2.1 d_M_tolerance_5 rfl (lv_at hl 1 rfl) ?_
  refine lv_if_eq (tgt := 19) X.1 X.2.1 d_M_tolerance_6 (by decide) (fun c1 => ?_) (fun c1 => ?_)
  · refine lv_iload_n X.1 X.2.1 d_M_tolerance_19 rfl (lv_at hl 2 rfl) ?_
    refine lv_if_lt (tgt := 29) X.1 X.2.1 d_M_tolerance_20 (by decide) (fun c2 => ?_) (fun c2 => ?_)
    · refine lv_bipush (v := (-2)) X.1 X.2.1 d_M_tolerance_29 (by decide) ?_
      exact en_iW X hY hr hlocks d_M_tolerance_31 (⟨by rw [mtolN, if_pos c1, if_pos c2], by rw [mtolN, if_pos c1, if_pos c2]⟩)
    · refine lv_iload_n X.1 X.2.1 d_M_tolerance_23 rfl (lv_at hl 2 rfl) ?_
      refine lv_bipush (v := 100) X.1 X.2.1 d_M_tolerance_24 (by decide) ?_
      refine lv_icmp_le (tgt := 32) X.1 X.2.1 d_M_tolerance_26 (by decide) (fun c3 => ?_) (fun c3 => ?_)
      · refine lv_iload_n X.1 X.2.1 d_M_tolerance_32 rfl (lv_at hl 1 rfl) ?_
        refine lv_if_ne (tgt := 44) X.1 X.2.1 d_M_tolerance_33 (by decide) (fun c9 => absurd c1 c9) (fun _ => ?_)
        refine lv_aload_n X.1 X.2.1 d_M_tolerance_36 rfl (lv_at hl 0 rfl) ?_
        refine lv_iload_n X.1 X.2.1 d_M_tolerance_37 rfl (lv_at hl 2 rfl) ?_
        refine hm_put ⟨X, hK.1⟩ hY v_0 23 rfl (Nat.le_of_ble_eq_true rfl) (Nat.le_of_ble_eq_true rfl) hu_M ty_M ty_M_ok nm_M m_512 (fun _ h => h) rfl rfl rfl d_M_tolerance_38 (fun H locs hY => ?_)
        have hY : hm_Y D cls A s.heap (wM G ((M.sI 0 0 0).sI 23 0 k) ω) H locs := by rw [← fm_23 (M := (M.sI 0 0 0)) (v := k)]; exact hY
        refine lv_goto (tgt := 51) X.1 X.2.1 d_M_tolerance_41 (by decide) ?_
        refine lv_iconst (v := 1) X.1 X.2.1 d_M_tolerance_51 (by decide) ?_
        exact en_iW X hY hr hlocks d_M_tolerance_52 (⟨by rw [mtolN, if_pos c1, if_neg c2, if_pos c3], by rw [mtolN, if_pos c1, if_neg c2, if_pos c3]⟩)
      · refine lv_bipush (v := (-2)) X.1 X.2.1 d_M_tolerance_29 (by decide) ?_
        exact en_iW X hY hr hlocks d_M_tolerance_31 (⟨by rw [mtolN, if_pos c1, if_neg c2, if_neg c3], by rw [mtolN, if_pos c1, if_neg c2, if_neg c3]⟩)
  · refine lv_aload_n X.1 X.2.1 d_M_tolerance_9 rfl (lv_at hl 0 rfl) ?_
    refine lv_iload_n X.1 X.2.1 d_M_tolerance_10 rfl (lv_at hl 1 rfl) ?_
    refine hm_callR (ct_runV (n := 1) X hK hY (k_M_isPart l D A G (M.sI 0 0 0) ω x) m_601 m_598 m_600 ms_M_isPart m_6 (by decide +kernel) ⟨Nat.le_of_ble_eq_true rfl, Nat.le_of_ble_eq_true rfl⟩ ⟨rfl, rfl⟩ (hm_recv ⟨X, hK.1⟩ hY v_0 rfl) rfl hl.1 rfl (Nat.le_of_ble_eq_true rfl) d_M_tolerance_11 ⟨Nat.le_of_ble_eq_true rfl, Nat.le_of_ble_eq_true rfl⟩) (fun v hv => ?_)
    subst hv
    refine W.eq (g2 := F0 m 14 ls [.int (b2 (mP (M.sI 0 0 0) x))]) rfl ?_
    refine lv_if_ne (tgt := 19) X.1 X.2.1 d_M_tolerance_14 (by decide) (fun c4 => ?_) (fun c4 => ?_)
    · have c4 : (mP (M.sI 0 0 0) x) := Classical.byContradiction (fun z => c4 (b2_0.mpr z))
      exact absurd c4 hp
    · have c4 : ¬ (mP (M.sI 0 0 0) x) := b2_0.mp c4
      refine lv_iconst (v := (-1)) X.1 X.2.1 d_M_tolerance_17 (by decide) ?_
      exact en_iW X hY hr hlocks d_M_tolerance_18 (⟨by rw [mtolN, if_neg c1], by rw [mtolN, if_neg c1]⟩)

set_option maxHeartbeats 4000000 in
set_option maxRecDepth 100000 in
theorem k_M_mode (l : Launch) (D : va_G) (A : Nat → Prop) (G : Nat → Nat) (M : mS) (ω : hm_T) (c0 : Nat) (hc0 : M.I 1 0 = nI c0) (h20 : c0 ≤ 20) (x : Int32) : Met l y_M_mode (.code y_M_mode c_M_mode 4 (some .int) :: wsA) { frames := 1, cells := 0, slots := 0, locals := 22 } (va_Pc [.ref (M.ad 0), .int x] (ctU D A G (wM G M ω))) (hm_Q D cls A (fun v w => v = some (.int (mmode M x c0).1) ∧ w = wM G (mmode M x c0).2 ω)) 0 0 A := by
  refine ct_met (by decide) (Nat.le_of_ble_eq_true rfl) ?_
  rintro p e s m below meth c ls X hr hlocks hnm hl ⟨hB, hK⟩
  have hl : lv_has ls 4 [(0, .ref (M.ad 0)), (1, .int x)] := hl
  have hY : hm_Y D cls A s.heap (wM G M ω) s.heap [] := hm_Y.start hB hK.2.2.2
  refine lv_aload_n X.1 X.2.1 d_M_mode_0 rfl (lv_at hl 0 rfl) ?_
  refine lv_iconst (v := 0) X.1 X.2.1 d_M_mode_1 (by decide) ?_
  refine hm_put ⟨X, hK.1⟩ hY v_0 0 rfl (Nat.le_of_ble_eq_true rfl) (Nat.le_of_ble_eq_true rfl) hu_M ty_M ty_M_ok nm_M m_489 (fun _ h => h) rfl rfl rfl d_M_mode_2 (fun H locs hY => ?_)
  have hY : hm_Y D cls A s.heap (wM G (M.sI 0 0 0) ω) H locs := by rw [← fm_0 (M := M) (v := 0)]; exact hY
  refine lv_iload_n X.1 X.2.1 d_M_mode_5 rfl (lv_at hl 1 rfl) ?_
  refine lv_if_lt (tgt := 14) X.1 X.2.1 d_M_mode_6 (by decide) (fun c1 => ?_) (fun c1 => ?_)
  · refine lv_bipush (v := (-2)) X.1 X.2.1 d_M_mode_14 (by decide) ?_
    exact en_iW X hY hr hlocks d_M_mode_16 (⟨by rw [mmode, if_pos c1], by rw [mmode, if_pos c1]⟩)
  · refine lv_iload_n X.1 X.2.1 d_M_mode_9 rfl (lv_at hl 1 rfl) ?_
    refine lv_iconst (v := 3) X.1 X.2.1 d_M_mode_10 (by decide) ?_
    refine lv_icmp_le (tgt := 17) X.1 X.2.1 d_M_mode_11 (by decide) (fun c2 => ?_) (fun c2 => ?_)
    · refine lv_aload_n X.1 X.2.1 d_M_mode_17 rfl (lv_at hl 0 rfl) ?_
      refine hm_get ⟨X, hK.1⟩ hY v_0 19 (v := .int (M.I 19 0)) rfl rfl (Nat.le_of_ble_eq_true rfl) hu_M m_508 (fun _ h => h) d_M_mode_18 ?_
      refine lv_istore_n (lv' := [(2, .int (M.I 19 0)), (0, .ref (M.ad 0)), (1, .int x)]) X.1 X.2.1 d_M_mode_21 rfl hl (by decide) rfl (fun ls hl => ?_)
      refine lv_aload_n X.1 X.2.1 d_M_mode_22 rfl (lv_at hl 1 rfl) ?_
      refine lv_iload_n X.1 X.2.1 d_M_mode_23 rfl (lv_at hl 2 rfl) ?_
      refine hm_put ⟨X, hK.1⟩ hY v_0 19 rfl (Nat.le_of_ble_eq_true rfl) (Nat.le_of_ble_eq_true rfl) hu_M ty_M ty_M_ok nm_M m_508 (fun _ h => h) rfl rfl rfl d_M_mode_24 (fun H locs hY => ?_)
      have hY : hm_Y D cls A s.heap (wM G ((M.sI 0 0 0).sI 19 0 x) ω) H locs := by rw [← fm_19 (M := (M.sI 0 0 0)) (v := x)]; exact hY
      refine lv_iconst (v := 1) X.1 X.2.1 d_M_mode_27 (by decide) ?_
      refine lv_istore_n (lv' := [(3, .int 1), (2, .int (M.I 19 0)), (0, .ref (M.ad 0)), (1, .int x)]) X.1 X.2.1 d_M_mode_28 rfl hl (by decide) rfl (fun ls hl => ?_)
      by_cases hmx : M.I 19 0 = x
      · have hb1 : ((M.sI 0 0 0).sI 19 0 x).I 1 0 = nI c0 := hc0
        refine lv_iload_n X.1 X.2.1 d_M_mode_29 rfl (lv_at hl 0 rfl) ?_
        refine lv_aload_n X.1 X.2.1 d_M_mode_30 rfl (lv_at hl 2 rfl) ?_
        refine hm_get ⟨X, hK.1⟩ hY v_0 1 (v := .int (M.I 1 0)) rfl rfl (Nat.le_of_ble_eq_true rfl) hu_M m_490 (fun _ h => h) d_M_mode_31 ?_
        refine lv_icmp_gt (tgt := 53) X.1 X.2.1 d_M_mode_34 (by decide) (fun _ => ?_) (fun _ => ?_)
        · refine lv_iload_n X.1 X.2.1 d_M_mode_53 rfl (lv_at hl 1 rfl) ?_
          exact en_iW X hY hr hlocks d_M_mode_54 (⟨by rw [mmode, if_neg c1, if_pos c2], by rw [mmode, if_neg c1, if_pos c2, if_pos hmx]⟩)
        · refine lv_iload_n X.1 X.2.1 d_M_mode_37 rfl (lv_at hl 1 rfl) ?_
          refine lv_iload_n X.1 X.2.1 d_M_mode_38 rfl (lv_at hl 3 rfl) ?_
          refine lv_icmp_eq (tgt := 53) X.1 X.2.1 d_M_mode_39 (by decide) (fun _ => ?_) (fun c9 => absurd hmx c9)
          refine lv_iload_n X.1 X.2.1 d_M_mode_53 rfl (lv_at hl 1 rfl) ?_
          exact en_iW X hY hr hlocks d_M_mode_54 (⟨by rw [mmode, if_neg c1, if_pos c2], by rw [mmode, if_neg c1, if_pos c2, if_pos hmx]⟩)
      · skip
        have loop : ∀ (k j : Nat) (T : mS) (ls : Array Slot) (H : Heap) (locs : List Loc), j ≤ c0 → c0 < j + k → T = mmL ((M.sI 0 0 0).sI 19 0 x) j → T.I 1 = M.I 1 → T.I 4 = M.I 4 → T.I 12 = M.I 12 → hm_Y D cls A s.heap (wM G T ω) H locs → lv_has ls 4 [(3, .int (nI (j + 1))), (0, .ref (T.ad 0)), (1, .int x), (2, .int (M.I 19 0))] → W p l e { frames := 1, cells := 0, slots := 0, locals := 22 } s m (([.ref (M.ad 0), .int x] : List Value).toArray) below meth c H locs 0 0 (MQ below (hm_Q D cls A (fun v w => v = some (.int (mmode M x c0).1) ∧ w = wM G (mmode M x c0).2 ω)) (([.ref (M.ad 0), .int x] : List Value).toArray) s 0 0 A) (F0 m 29 ls []) := by
          intro k
          induction k with
          | zero => intro j T ls H locs hle hlt; omega
          | succ k ih =>
            intro j T ls H locs hle hlt hT h1 h4 h12 hY hl
            refine lv_iload_n X.1 X.2.1 d_M_mode_29 rfl (lv_at hl 0 rfl) ?_
            refine lv_aload_n X.1 X.2.1 d_M_mode_30 rfl (lv_at hl 1 rfl) ?_
            refine hm_get ⟨X, hK.1⟩ hY v_0 1 (v := .int (T.I 1 0)) rfl rfl (Nat.le_of_ble_eq_true rfl) hu_M m_490 (fun _ h => h) d_M_mode_31 ?_
            have hb1 : T.I 1 0 = nI c0 := by rw [h1]; exact hc0
            rw [hb1]
            refine lv_icmp_gt (tgt := 53) X.1 X.2.1 d_M_mode_34 (by decide) (fun c9 => ?_) (fun c9 => ?_)
            · have hj : j = c0 := by rcases Nat.lt_or_ge j c0 with q | q; exact absurd c9 (nI_nlt (by omega) (by omega)); omega
              refine lv_iload_n X.1 X.2.1 d_M_mode_53 rfl (lv_at hl 3 rfl) ?_
              exact en_iW X hY hr hlocks d_M_mode_54 (⟨by rw [mmode, if_neg c1, if_pos c2], by rw [mmode, if_neg c1, if_pos c2, if_neg hmx, ← hj, ← hT]⟩)
            · have hj : j < c0 := by rcases Nat.lt_or_ge j c0 with q | q; exact q; exact absurd (nI_lt (by omega) (by omega)) c9
              refine lv_iload_n X.1 X.2.1 d_M_mode_37 rfl (lv_at hl 3 rfl) ?_
              refine lv_iload_n X.1 X.2.1 d_M_mode_38 rfl (lv_at hl 2 rfl) ?_
              refine lv_icmp_eq (tgt := 53) X.1 X.2.1 d_M_mode_39 (by decide) (fun c9 => absurd c9 hmx) (fun _ => ?_)
              refine lv_aload_n X.1 X.2.1 d_M_mode_42 rfl (lv_at hl 1 rfl) ?_
              refine lv_iload_n X.1 X.2.1 d_M_mode_43 rfl (lv_at hl 0 rfl) ?_
              refine hm_call (ct_runV (n := 1) X hK hY (k_M_clear l D A G T ω (j + 1) (by omega) (by omega)) m_635 m_632 m_634 ms_M_clear m_6 (by decide +kernel) ⟨Nat.le_of_ble_eq_true rfl, Nat.le_of_ble_eq_true rfl⟩ ⟨rfl, rfl⟩ (hm_recv ⟨X, hK.1⟩ hY v_0 rfl) rfl hl.1 rfl (Nat.le_of_ble_eq_true rfl) d_M_mode_44 ⟨Nat.le_of_ble_eq_true rfl, Nat.le_of_ble_eq_true rfl⟩) hY (fun v w1 H locs hp hY => ?_)
              obtain ⟨rfl, rfl⟩ := hp
              refine W.eq (g2 := F0 m 47 ls []) rfl ?_
              obtain ⟨E3, hE3⟩ : ∃ z, z = clr T (j + 1) := ⟨_, rfl⟩
              rw [← hE3] at hY
              have hkE3 : E3.ad = T.ad ∧ E3.I 1 = T.I 1 ∧ E3.I 4 = T.I 4 ∧ E3.I 12 = T.I 12 := by rw [hE3]; exact clr_k T (j + 1)
              have hl : lv_has ls 4 [(3, .int (nI (j + 1))), (0, .ref (E3.ad 0)), (1, .int x), (2, .int (M.I 19 0))] := by rw [hkE3.1]; exact hl
              refine lv_iinc (v := nI (j + 1 + 1)) (lv' := [(3, .int (nI (j + 1 + 1))), (0, .ref (E3.ad 0)), (1, .int x), (2, .int (M.I 19 0))]) X.1 X.2.1 d_M_mode_47 hl (k := 0) rfl (nI_1 (j + 1)) (by decide) rfl (fun ls hl => ?_)
              refine lv_goto (tgt := 29) X.1 X.2.1 d_M_mode_50 (by decide) ?_
              exact ih (j + 1) E3 _ _ _ (by omega) (by omega) (by rw [hE3, show mmL ((M.sI 0 0 0).sI 19 0 x) (j + 1) = clr (mmL ((M.sI 0 0 0).sI 19 0 x) j) (j + 1) from rfl, ← hT]) (hkE3.2.1.trans h1) (hkE3.2.2.1.trans h4) (hkE3.2.2.2.trans h12) hY (lv_sub hl [0, 1, 2, 3] rfl)
        exact loop (c0 + 1) 0 ((M.sI 0 0 0).sI 19 0 x) ls _ _ (Nat.zero_le _) (by omega) rfl rfl rfl rfl hY (lv_sub hl [0, 2, 3, 1] rfl)
    · refine lv_bipush (v := (-2)) X.1 X.2.1 d_M_mode_14 (by decide) ?_
      exact en_iW X hY hr hlocks d_M_mode_16 (⟨by rw [mmode, if_neg c1, if_neg c2], by rw [mmode, if_neg c1, if_neg c2]⟩)

set_option maxHeartbeats 4000000 in
set_option maxRecDepth 100000 in
theorem k_M_outer (l : Launch) (D : va_G) (A : Nat → Prop) (G : Nat → Nat) (M : mS) (ω : hm_T) (c0 : Nat) (hc0 : M.I 1 0 = nI c0) (h20 : c0 ≤ 20) (t : Int64) : Met l y_M_outer (.code y_M_outer c_M_outer 4 (some .int) :: wsA) { frames := 2, cells := 0, slots := 0, locals := 44 } (va_Pc [.ref (M.ad 0), .long t] (ctU D A G (wM G M ω))) (hm_Q D cls A (fun v w => v = some (.int (mou M t c0).1) ∧ w = wM G (mou M t c0).2 ω)) 0 0 A := by
  refine ct_met (by decide) (Nat.le_of_ble_eq_true rfl) ?_
  rintro p e s m below meth c ls X hr hlocks hnm hl ⟨hB, hK⟩
  have hl : lv_has ls 4 [(0, .ref (M.ad 0)), (1, .long t)] := hl
  have hY : hm_Y D cls A s.heap (wM G M ω) s.heap [] := hm_Y.start hB hK.2.2.2
  refine lv_aload_n X.1 X.2.1 d_M_outer_0 rfl (lv_at hl 0 rfl) ?_
  refine lv_iconst (v := 0) X.1 X.2.1 d_M_outer_1 (by decide) ?_
  refine hm_put ⟨X, hK.1⟩ hY v_0 0 rfl (Nat.le_of_ble_eq_true rfl) (Nat.le_of_ble_eq_true rfl) hu_M ty_M ty_M_ok nm_M m_489 (fun _ h => h) rfl rfl rfl d_M_outer_2 (fun H locs hY => ?_)
  have hY : hm_Y D cls A s.heap (wM G (M.sI 0 0 0) ω) H locs := by rw [← fm_0 (M := M) (v := 0)]; exact hY
  refine lv_aload_n X.1 X.2.1 d_M_outer_5 rfl (lv_at hl 0 rfl) ?_
  refine lv_lload_n X.1 X.2.1 d_M_outer_6 rfl (lv_at hl 1 rfl) ?_
  refine hm_callR (ct_runV (n := 1) X hK hY (k_M_isTime l D A G (M.sI 0 0 0) ω t) m_618 m_615 m_617 ms_M_isTime m_6 (by decide +kernel) ⟨Nat.le_of_ble_eq_true rfl, Nat.le_of_ble_eq_true rfl⟩ ⟨rfl, rfl⟩ (hm_recv ⟨X, hK.1⟩ hY v_0 rfl) rfl hl.1 rfl (Nat.le_of_ble_eq_true rfl) d_M_outer_7 ⟨Nat.le_of_ble_eq_true rfl, Nat.le_of_ble_eq_true rfl⟩) (fun v hv => ?_)
  subst hv
  refine W.eq (g2 := F0 m 10 ls [.int (b2 (mT (M.sI 0 0 0) t))]) rfl ?_
  refine lv_if_ne (tgt := 16) X.1 X.2.1 d_M_outer_10 (by decide) (fun c1 => ?_) (fun c1 => ?_)
  · have c1 : (mT (M.sI 0 0 0) t) := Classical.byContradiction (fun z => c1 (b2_0.mpr z))
    refine lv_aload_n X.1 X.2.1 d_M_outer_16 rfl (lv_at hl 0 rfl) ?_
    refine lv_lload_n X.1 X.2.1 d_M_outer_17 rfl (lv_at hl 1 rfl) ?_
    refine hm_put ⟨X, hK.1⟩ hY v_0 21 rfl (Nat.le_of_ble_eq_true rfl) (Nat.le_of_ble_eq_true rfl) hu_M ty_M ty_M_ok nm_M m_510 (fun _ h => h) rfl rfl rfl d_M_outer_18 (fun H locs hY => ?_)
    have hY : hm_Y D cls A s.heap (wM G ((M.sI 0 0 0).sJ 21 0 t) ω) H locs := by rw [← fm_21 (M := (M.sI 0 0 0)) (v := t)]; exact hY
    refine lv_lload_n X.1 X.2.1 d_M_outer_21 rfl (lv_at hl 1 rfl) ?_
    refine lv_aload_n X.1 X.2.1 d_M_outer_22 rfl (lv_at hl 0 rfl) ?_
    refine hm_get ⟨X, hK.1⟩ hY v_0 30 (v := .long (M.J 30 0)) rfl rfl (Nat.le_of_ble_eq_true rfl) hu_M m_519 (fun _ h => h) d_M_outer_23 ?_
    refine lv_lsub X.1 X.2.1 d_M_outer_26 ?_
    refine lv_ldc2 X.1 X.2.1 X.2.2.2.1 (X.2.2.2.2 _ m_593) d_M_outer_27 ?_
    refine lc_le (tgt := 38) X d_M_outer_30 d_M_outer_31 (by decide) (fun c2 => ?_) (fun c2 => ?_)
    · refine lv_iconst (v := 0) X.1 X.2.1 d_M_outer_38 (by decide) ?_
      refine lv_istore_n (lv' := [(3, .int 0), (0, .ref (M.ad 0)), (1, .long t)]) X.1 X.2.1 d_M_outer_39 rfl hl (by decide) rfl (fun ls hl => ?_)
      refine lv_aload_n X.1 X.2.1 d_M_outer_40 rfl (lv_at hl 1 rfl) ?_
      refine lv_lload_n X.1 X.2.1 d_M_outer_41 rfl (lv_at hl 2 rfl) ?_
      refine hm_put ⟨X, hK.1⟩ hY v_0 30 rfl (Nat.le_of_ble_eq_true rfl) (Nat.le_of_ble_eq_true rfl) hu_M ty_M ty_M_ok nm_M m_519 (fun _ h => h) rfl rfl rfl d_M_outer_42 (fun H locs hY => ?_)
      have hY : hm_Y D cls A s.heap (wM G (((M.sI 0 0 0).sJ 21 0 t).sJ 30 0 t) ω) H locs := by rw [← fm_30 (M := ((M.sI 0 0 0).sJ 21 0 t)) (v := t)]; exact hY
      refine lv_iload_n X.1 X.2.1 d_M_outer_45 rfl (lv_at hl 0 rfl) ?_
      refine lv_if_eq (tgt := 54) X.1 X.2.1 d_M_outer_46 (by decide) (fun c3 => ?_) (fun c3 => ?_)
      · refine lv_iload_n X.1 X.2.1 d_M_outer_54 rfl (lv_at hl 0 rfl) ?_
        refine lv_if_eq (tgt := 62) X.1 X.2.1 d_M_outer_55 (by decide) (fun c4 => ?_) (fun c4 => ?_)
        · refine lv_iconst (v := 1) X.1 X.2.1 d_M_outer_62 (by decide) ?_
          exact en_iW X hY hr hlocks d_M_outer_63 (⟨by rw [mou, if_pos c1, if_pos c2], by rw [mou, if_pos c1, if_pos c2]⟩)
        · exact absurd c4 (by decide)
      · exact absurd c3 (by decide)
    · refine lv_iconst (v := 1) X.1 X.2.1 d_M_outer_34 (by decide) ?_
      refine lv_goto (tgt := 39) X.1 X.2.1 d_M_outer_35 (by decide) ?_
      refine lv_istore_n (lv' := [(3, .int 1), (0, .ref (M.ad 0)), (1, .long t)]) X.1 X.2.1 d_M_outer_39 rfl hl (by decide) rfl (fun ls hl => ?_)
      refine lv_aload_n X.1 X.2.1 d_M_outer_40 rfl (lv_at hl 1 rfl) ?_
      refine lv_lload_n X.1 X.2.1 d_M_outer_41 rfl (lv_at hl 2 rfl) ?_
      refine hm_put ⟨X, hK.1⟩ hY v_0 30 rfl (Nat.le_of_ble_eq_true rfl) (Nat.le_of_ble_eq_true rfl) hu_M ty_M ty_M_ok nm_M m_519 (fun _ h => h) rfl rfl rfl d_M_outer_42 (fun H locs hY => ?_)
      have hY : hm_Y D cls A s.heap (wM G (((M.sI 0 0 0).sJ 21 0 t).sJ 30 0 t) ω) H locs := by rw [← fm_30 (M := ((M.sI 0 0 0).sJ 21 0 t)) (v := t)]; exact hY
      refine lv_iload_n X.1 X.2.1 d_M_outer_45 rfl (lv_at hl 0 rfl) ?_
      refine lv_if_eq (tgt := 54) X.1 X.2.1 d_M_outer_46 (by decide) (fun c5 => ?_) (fun c5 => ?_)
      · exact absurd c5 (by decide)
      · refine lv_aload_n X.1 X.2.1 d_M_outer_49 rfl (lv_at hl 1 rfl) ?_
        refine lv_iconst (v := 3) X.1 X.2.1 d_M_outer_50 (by decide) ?_
        refine hm_call (ct_runV (n := 1) X hK hY (k_M_reset0 l D A G (((M.sI 0 0 0).sJ 21 0 t).sJ 30 0 t) ω c0 hc0 h20 3) m_631 m_628 m_630 ms_M_reset0 m_6 (by decide +kernel) ⟨Nat.le_of_ble_eq_true rfl, Nat.le_of_ble_eq_true rfl⟩ ⟨rfl, rfl⟩ (hm_recv ⟨X, hK.1⟩ hY v_0 rfl) rfl hl.1 rfl (Nat.le_of_ble_eq_true rfl) d_M_outer_51 ⟨Nat.le_of_ble_eq_true rfl, Nat.le_of_ble_eq_true rfl⟩) hY (fun v w1 H locs hp hY => ?_)
        obtain ⟨rfl, rfl⟩ := hp
        refine W.eq (g2 := F0 m 54 ls []) rfl ?_
        obtain ⟨E6, hE6⟩ : ∃ z, z = r0 (((M.sI 0 0 0).sJ 21 0 t).sJ 30 0 t) 3 c0 := ⟨_, rfl⟩
        rw [← hE6] at hY
        have hkE6 : E6.ad = M.ad ∧ E6.I 1 = M.I 1 ∧ E6.I 4 = M.I 4 ∧ E6.I 12 = M.I 12 := by rw [hE6]; exact r0_k (((M.sI 0 0 0).sJ 21 0 t).sJ 30 0 t) 3 c0
        have hl : lv_has ls 4 [(3, .int 1), (0, .ref (E6.ad 0)), (1, .long t)] := by rw [hkE6.1]; exact hl
        refine lv_iload_n X.1 X.2.1 d_M_outer_54 rfl (lv_at hl 0 rfl) ?_
        refine lv_if_eq (tgt := 62) X.1 X.2.1 d_M_outer_55 (by decide) (fun c7 => ?_) (fun c7 => ?_)
        · exact absurd c7 (by decide)
        · refine lv_iconst (v := 0) X.1 X.2.1 d_M_outer_58 (by decide) ?_
          refine lv_goto (tgt := 63) X.1 X.2.1 d_M_outer_59 (by decide) ?_
          exact en_iW X hY hr hlocks d_M_outer_63 (⟨by first | (rw [hE6]; rw [mou, if_pos c1, if_neg c2]) | rw [mou, if_pos c1, if_neg c2], by first | (rw [hE6]; rw [mou, if_pos c1, if_neg c2]) | rw [mou, if_pos c1, if_neg c2]⟩)
  · have c1 : ¬ (mT (M.sI 0 0 0) t) := b2_0.mp c1
    refine lv_bipush (v := (-2)) X.1 X.2.1 d_M_outer_13 (by decide) ?_
    exact en_iW X hY hr hlocks d_M_outer_15 (⟨by rw [mou, if_neg c1], by rw [mou, if_neg c1]⟩)

set_option maxHeartbeats 4000000 in
set_option maxRecDepth 100000 in
theorem k_M_reset (l : Launch) (D : va_G) (A : Nat → Prop) (G : Nat → Nat) (M : mS) (ω : hm_T) (c0 : Nat) (hc0 : M.I 1 0 = nI c0) (h20 : c0 ≤ 20) (x : Int32) : Met l y_M_reset (.code y_M_reset c_M_reset 2 (some .int) :: wsA) { frames := 2, cells := 0, slots := 0, locals := 44 } (va_Pc [.ref (M.ad 0), .int x] (ctU D A G (wM G M ω))) (hm_Q D cls A (fun v w => v = some (.int (mrst M x c0).1) ∧ w = wM G (mrst M x c0).2 ω)) 0 0 A := by
  refine ct_met (by decide) (Nat.le_of_ble_eq_true rfl) ?_
  rintro p e s m below meth c ls X hr hlocks hnm hl ⟨hB, hK⟩
  have hl : lv_has ls 2 [(0, .ref (M.ad 0)), (1, .int x)] := hl
  have hY : hm_Y D cls A s.heap (wM G M ω) s.heap [] := hm_Y.start hB hK.2.2.2
  refine lv_aload_n X.1 X.2.1 d_M_reset_0 rfl (lv_at hl 0 rfl) ?_
  refine lv_iconst (v := 0) X.1 X.2.1 d_M_reset_1 (by decide) ?_
  refine hm_put ⟨X, hK.1⟩ hY v_0 0 rfl (Nat.le_of_ble_eq_true rfl) (Nat.le_of_ble_eq_true rfl) hu_M ty_M ty_M_ok nm_M m_489 (fun _ h => h) rfl rfl rfl d_M_reset_2 (fun H locs hY => ?_)
  have hY : hm_Y D cls A s.heap (wM G (M.sI 0 0 0) ω) H locs := by rw [← fm_0 (M := M) (v := 0)]; exact hY
  refine lv_iload_n X.1 X.2.1 d_M_reset_5 rfl (lv_at hl 1 rfl) ?_
  refine lv_if_lt (tgt := 14) X.1 X.2.1 d_M_reset_6 (by decide) (fun c1 => ?_) (fun c1 => ?_)
  · refine lv_bipush (v := (-2)) X.1 X.2.1 d_M_reset_14 (by decide) ?_
    exact en_iW X hY hr hlocks d_M_reset_16 (⟨by rw [mrst, if_pos c1], by rw [mrst, if_pos c1]⟩)
  · refine lv_iload_n X.1 X.2.1 d_M_reset_9 rfl (lv_at hl 1 rfl) ?_
    refine lv_iconst (v := 5) X.1 X.2.1 d_M_reset_10 (by decide) ?_
    refine lv_icmp_le (tgt := 17) X.1 X.2.1 d_M_reset_11 (by decide) (fun c2 => ?_) (fun c2 => ?_)
    · refine lv_iload_n X.1 X.2.1 d_M_reset_17 rfl (lv_at hl 1 rfl) ?_
      refine lv_if_ne (tgt := 26) X.1 X.2.1 d_M_reset_18 (by decide) (fun c3 => ?_) (fun c3 => ?_)
      · refine lv_iload_n X.1 X.2.1 d_M_reset_26 rfl (lv_at hl 1 rfl) ?_
        refine lv_iconst (v := 2) X.1 X.2.1 d_M_reset_27 (by decide) ?_
        refine lv_icmp_ge (tgt := 38) X.1 X.2.1 d_M_reset_28 (by decide) (fun c4 => ?_) (fun c4 => ?_)
        · refine lv_iload_n X.1 X.2.1 d_M_reset_38 rfl (lv_at hl 1 rfl) ?_
          refine lv_iconst (v := 2) X.1 X.2.1 d_M_reset_39 (by decide) ?_
          refine lv_icmp_ne (tgt := 50) X.1 X.2.1 d_M_reset_40 (by decide) (fun c5 => ?_) (fun c5 => ?_)
          · refine lv_iload_n X.1 X.2.1 d_M_reset_50 rfl (lv_at hl 1 rfl) ?_
            refine lv_iconst (v := 3) X.1 X.2.1 d_M_reset_51 (by decide) ?_
            refine lv_icmp_ne (tgt := 62) X.1 X.2.1 d_M_reset_52 (by decide) (fun c6 => ?_) (fun c6 => ?_)
            · refine lv_iload_n X.1 X.2.1 d_M_reset_62 rfl (lv_at hl 1 rfl) ?_
              refine lv_iconst (v := 4) X.1 X.2.1 d_M_reset_63 (by decide) ?_
              refine lv_icmp_ne (tgt := 74) X.1 X.2.1 d_M_reset_64 (by decide) (fun c7 => ?_) (fun c7 => ?_)
              · refine lv_aload_n X.1 X.2.1 d_M_reset_74 rfl (lv_at hl 0 rfl) ?_
                refine hm_get ⟨X, hK.1⟩ hY v_0 20 (v := .int (M.I 20 0)) rfl rfl (Nat.le_of_ble_eq_true rfl) hu_M m_509 (fun _ h => h) d_M_reset_75 ?_
                exact en_iW X hY hr hlocks d_M_reset_78 (⟨by rw [mrst, if_neg c1, if_pos c2, if_neg c3, if_pos c4, if_neg c5, if_neg c6, if_neg c7], by rw [mrst, if_neg c1, if_pos c2, if_neg c3, if_pos c4, if_neg c5, if_neg c6, if_neg c7]⟩)
              · refine lv_aload_n X.1 X.2.1 d_M_reset_67 rfl (lv_at hl 0 rfl) ?_
                refine hm_get ⟨X, hK.1⟩ hY v_0 28 (v := .int (M.I 28 0)) rfl rfl (Nat.le_of_ble_eq_true rfl) hu_M m_517 (fun _ h => h) d_M_reset_68 ?_
                refine lv_goto (tgt := 78) X.1 X.2.1 d_M_reset_71 (by decide) ?_
                exact en_iW X hY hr hlocks d_M_reset_78 (⟨by rw [mrst, if_neg c1, if_pos c2, if_neg c3, if_pos c4, if_neg c5, if_neg c6, if_pos c7], by rw [mrst, if_neg c1, if_pos c2, if_neg c3, if_pos c4, if_neg c5, if_neg c6, if_pos c7]⟩)
            · refine lv_aload_n X.1 X.2.1 d_M_reset_55 rfl (lv_at hl 0 rfl) ?_
              refine hm_get ⟨X, hK.1⟩ hY v_0 26 (v := .int (M.I 26 0)) rfl rfl (Nat.le_of_ble_eq_true rfl) hu_M m_515 (fun _ h => h) d_M_reset_56 ?_
              refine lv_goto (tgt := 78) X.1 X.2.1 d_M_reset_59 (by decide) ?_
              exact en_iW X hY hr hlocks d_M_reset_78 (⟨by rw [mrst, if_neg c1, if_pos c2, if_neg c3, if_pos c4, if_neg c5, if_pos c6], by rw [mrst, if_neg c1, if_pos c2, if_neg c3, if_pos c4, if_neg c5, if_pos c6]⟩)
          · refine lv_aload_n X.1 X.2.1 d_M_reset_43 rfl (lv_at hl 0 rfl) ?_
            refine hm_get ⟨X, hK.1⟩ hY v_0 25 (v := .int (M.I 25 0)) rfl rfl (Nat.le_of_ble_eq_true rfl) hu_M m_514 (fun _ h => h) d_M_reset_44 ?_
            refine lv_goto (tgt := 78) X.1 X.2.1 d_M_reset_47 (by decide) ?_
            exact en_iW X hY hr hlocks d_M_reset_78 (⟨by rw [mrst, if_neg c1, if_pos c2, if_neg c3, if_pos c4, if_pos c5], by rw [mrst, if_neg c1, if_pos c2, if_neg c3, if_pos c4, if_pos c5]⟩)
        · refine lv_aload_n X.1 X.2.1 d_M_reset_31 rfl (lv_at hl 0 rfl) ?_
          refine hm_get ⟨X, hK.1⟩ hY v_0 24 (v := .int (M.I 24 0)) rfl rfl (Nat.le_of_ble_eq_true rfl) hu_M m_513 (fun _ h => h) d_M_reset_32 ?_
          refine lv_goto (tgt := 78) X.1 X.2.1 d_M_reset_35 (by decide) ?_
          exact en_iW X hY hr hlocks d_M_reset_78 (⟨by rw [mrst, if_neg c1, if_pos c2, if_neg c3, if_neg c4], by rw [mrst, if_neg c1, if_pos c2, if_neg c3, if_neg c4]⟩)
      · refine lv_aload_n X.1 X.2.1 d_M_reset_21 rfl (lv_at hl 0 rfl) ?_
        refine lv_iconst (v := 4) X.1 X.2.1 d_M_reset_22 (by decide) ?_
        refine hm_call (ct_runV (n := 1) X hK hY (k_M_reset0 l D A G (M.sI 0 0 0) ω c0 hc0 h20 4) m_631 m_628 m_630 ms_M_reset0 m_6 (by decide +kernel) ⟨Nat.le_of_ble_eq_true rfl, Nat.le_of_ble_eq_true rfl⟩ ⟨rfl, rfl⟩ (hm_recv ⟨X, hK.1⟩ hY v_0 rfl) rfl hl.1 rfl (Nat.le_of_ble_eq_true rfl) d_M_reset_23 ⟨Nat.le_of_ble_eq_true rfl, Nat.le_of_ble_eq_true rfl⟩) hY (fun v w1 H locs hp hY => ?_)
        obtain ⟨rfl, rfl⟩ := hp
        refine W.eq (g2 := F0 m 26 ls []) rfl ?_
        obtain ⟨E8, hE8⟩ : ∃ z, z = r0 (M.sI 0 0 0) 4 c0 := ⟨_, rfl⟩
        rw [← hE8] at hY
        have hkE8 : E8.ad = M.ad ∧ E8.I 1 = M.I 1 ∧ E8.I 4 = M.I 4 ∧ E8.I 12 = M.I 12 := by rw [hE8]; exact r0_k (M.sI 0 0 0) 4 c0
        have hl : lv_has ls 2 [(0, .ref (E8.ad 0)), (1, .int x)] := by rw [hkE8.1]; exact hl
        refine lv_iload_n X.1 X.2.1 d_M_reset_26 rfl (lv_at hl 1 rfl) ?_
        refine lv_iconst (v := 2) X.1 X.2.1 d_M_reset_27 (by decide) ?_
        refine lv_icmp_ge (tgt := 38) X.1 X.2.1 d_M_reset_28 (by decide) (fun c9 => absurd c9 (by rw [c3]; decide)) (fun _ => ?_)
        refine lv_aload_n X.1 X.2.1 d_M_reset_31 rfl (lv_at hl 0 rfl) ?_
        refine hm_get ⟨X, hK.1⟩ hY v_0 24 (v := .int (E8.I 24 0)) rfl rfl (Nat.le_of_ble_eq_true rfl) hu_M m_513 (fun _ h => h) d_M_reset_32 ?_
        refine lv_goto (tgt := 78) X.1 X.2.1 d_M_reset_35 (by decide) ?_
        exact en_iW X hY hr hlocks d_M_reset_78 (⟨by first | (rw [hE8]; rw [mrst, if_neg c1, if_pos c2, if_pos c3]) | rw [mrst, if_neg c1, if_pos c2, if_pos c3], by first | (rw [hE8]; rw [mrst, if_neg c1, if_pos c2, if_pos c3]) | rw [mrst, if_neg c1, if_pos c2, if_pos c3]⟩)
    · refine lv_bipush (v := (-2)) X.1 X.2.1 d_M_reset_14 (by decide) ?_
      exact en_iW X hY hr hlocks d_M_reset_16 (⟨by rw [mrst, if_neg c1, if_neg c2], by rw [mrst, if_neg c1, if_neg c2]⟩)
end
