theorem i_M : ∀ w ∈ u_ws R_M F_M 12, w ∈ gw := by decide +kernel
theorem tt_M (j : Nat) (h : j < 12) : u_Ft j F_M 12 ty_M := ⟨tk_M, nm_M, h⟩
theorem i_D : ∀ w ∈ u_ws R_D F_D 3, w ∈ gw := by decide +kernel
theorem tt_D (j : Nat) (h : j < 3) : u_Ft j F_D 3 ty_D := ⟨tk_D, nm_D, h⟩
theorem i_G : ∀ w ∈ u_ws R_G F_G 4, w ∈ gw := by decide +kernel
theorem tt_G (j : Nat) (h : j < 4) : u_Ft j F_G 4 ty_G := ⟨tk_G, nm_G, h⟩
theorem i_T : ∀ w ∈ u_ws R_T F_T 5, w ∈ gw := by decide +kernel
theorem tt_T (j : Nat) (h : j < 5) : u_Ft j F_T 5 ty_T := ⟨tk_T, nm_T, h⟩
theorem i_L : ∀ w ∈ u_ws R_L F_L 3, w ∈ gw := by decide +kernel
theorem tt_L (j : Nat) (h : j < 3) : u_Ft j F_L 3 ty_L := ⟨tk_L, nm_L, h⟩
abbrev b_D_init : ByteArray := prog_1_method_1_code
def y_D_init : MethodName := ⟨R_D, "<init>", "()V"⟩
theorem cd_D_init : Cond.code y_D_init b_D_init 1 none ∈ gw := gw_in (List.mem_append_right _ (List.mem_of_getElem? (i := 18) rfl)) rfl
theorem i_D_init : Cond.instanceMethod y_D_init ∈ gw := gw_in (List.mem_append_right _ (List.mem_of_getElem? (i := 17) (by decide +kernel))) rfl
abbrev b_L_init : ByteArray := prog_13_method_2_code
def y_L_init : MethodName := ⟨R_L, "<init>", "()V"⟩
theorem cd_L_init : Cond.code y_L_init b_L_init 1 none ∈ gw := gw_in (List.mem_append_right _ (List.mem_of_getElem? (i := 28) rfl)) rfl
theorem i_L_init : Cond.instanceMethod y_L_init ∈ gw := gw_in (List.mem_append_right _ (List.mem_of_getElem? (i := 27) (by decide +kernel))) rfl
abbrev b_AL_init : ByteArray := prog_12_method_1_code
def y_AL_init : MethodName := ⟨R_AL, "<init>", "()V"⟩
theorem cd_AL_init : Cond.code y_AL_init b_AL_init 1 none ∈ gw := gw_in (List.mem_append_right _ (List.mem_of_getElem? (i := 31) rfl)) rfl
theorem i_AL_init : Cond.instanceMethod y_AL_init ∈ gw := gw_in (List.mem_append_right _ (List.mem_of_getElem? (i := 30) (by decide +kernel))) rfl
abbrev b_AC_init : ByteArray := prog_11_method_1_code
def y_AC_init : MethodName := ⟨R_AC, "<init>", "()V"⟩
theorem cd_AC_init : Cond.code y_AC_init b_AC_init 1 none ∈ gw := gw_in (List.mem_append_right _ (List.mem_of_getElem? (i := 34) rfl)) rfl
theorem i_AC_init : Cond.instanceMethod y_AC_init ∈ gw := gw_in (List.mem_append_right _ (List.mem_of_getElem? (i := 33) (by decide +kernel))) rfl
abbrev b_D_begin : ByteArray := prog_1_method_2_code
def y_D_begin : MethodName := ⟨R_D, "begin", "(II)Z"⟩
theorem cd_D_begin : Cond.code y_D_begin b_D_begin 3 (some .boolean) ∈ gw := gw_in (List.mem_append_right _ (List.mem_of_getElem? (i := 63) rfl)) rfl
theorem i_D_begin : Cond.instanceMethod y_D_begin ∈ gw ∧ Cond.selects y_D_begin.cls y_D_begin y_D_begin ∈ gw := ⟨gw_in (List.mem_append_right _ (List.mem_of_getElem? (i := 61) (by decide +kernel))) rfl, gw_in (List.mem_append_right _ (List.mem_of_getElem? (i := 62) (by decide +kernel))) rfl⟩
abbrev b_D_isSession : ByteArray := prog_1_method_19_code
def y_D_isSession : MethodName := ⟨R_D, "isSession", "(I)Z"⟩
theorem cd_D_isSession : Cond.code y_D_isSession b_D_isSession 1 (some .boolean) ∈ gw := gw_in (List.mem_append_right _ (List.mem_of_getElem? (i := 66) rfl)) rfl
theorem s_D_isSession : Cond.static y_D_isSession ∈ gw := gw_in (List.mem_append_right _ (List.mem_of_getElem? (i := 65) (by decide +kernel))) rfl
abbrev b_T_init : ByteArray := prog_3_method_1_code
def y_T_init : MethodName := ⟨R_T, "<init>", "(I)V"⟩
theorem cd_T_init : Cond.code y_T_init b_T_init 2 none ∈ gw := gw_in (List.mem_append_right _ (List.mem_of_getElem? (i := 70) rfl)) rfl
theorem i_T_init : Cond.instanceMethod y_T_init ∈ gw := gw_in (List.mem_append_right _ (List.mem_of_getElem? (i := 69) (by decide +kernel))) rfl
abbrev b_D_statement : ByteArray := prog_1_method_3_code
def y_D_statement : MethodName := ⟨R_D, "statement", "(I)I"⟩
theorem cd_D_statement : Cond.code y_D_statement b_D_statement 3 (some .int) ∈ gw := gw_in (List.mem_append_right _ (List.mem_of_getElem? (i := 97) rfl)) rfl
theorem i_D_statement : Cond.instanceMethod y_D_statement ∈ gw ∧ Cond.selects y_D_statement.cls y_D_statement y_D_statement ∈ gw := ⟨gw_in (List.mem_append_right _ (List.mem_of_getElem? (i := 95) (by decide +kernel))) rfl, gw_in (List.mem_append_right _ (List.mem_of_getElem? (i := 96) (by decide +kernel))) rfl⟩
abbrev b_D_transactionOf : ByteArray := prog_1_method_20_code
def y_D_transactionOf : MethodName := ⟨R_D, "transactionOf", "(I)LSnapshotDesk$Transaction;"⟩
theorem cd_D_transactionOf : Cond.code y_D_transactionOf b_D_transactionOf 2 (some (.object "SnapshotDesk$Transaction")) ∈ gw := gw_in (List.mem_append_right _ (List.mem_of_getElem? (i := 101) rfl)) rfl
theorem i_D_transactionOf : Cond.instanceMethod y_D_transactionOf ∈ gw ∧ Cond.selects y_D_transactionOf.cls y_D_transactionOf y_D_transactionOf ∈ gw := ⟨gw_in (List.mem_append_right _ (List.mem_of_getElem? (i := 100) (by decide +kernel))) rfl, gw_in (List.mem_append_left _ (List.mem_of_getElem? (i := 0) (by decide +kernel))) rfl⟩
abbrev b_T_hasSnapshot : ByteArray := prog_3_method_2_code
def y_T_hasSnapshot : MethodName := ⟨R_T, "hasSnapshot", "()Z"⟩
theorem cd_T_hasSnapshot : Cond.code y_T_hasSnapshot b_T_hasSnapshot 1 (some .boolean) ∈ gw := gw_in (List.mem_append_right _ (List.mem_of_getElem? (i := 105) rfl)) rfl
theorem i_T_hasSnapshot : Cond.instanceMethod y_T_hasSnapshot ∈ gw ∧ Cond.selects y_T_hasSnapshot.cls y_T_hasSnapshot y_T_hasSnapshot ∈ gw := ⟨gw_in (List.mem_append_right _ (List.mem_of_getElem? (i := 103) (by decide +kernel))) rfl, gw_in (List.mem_append_right _ (List.mem_of_getElem? (i := 104) (by decide +kernel))) rfl⟩
abbrev b_D_number : ByteArray := prog_1_method_4_code
def y_D_number : MethodName := ⟨R_D, "number", "(I)I"⟩
theorem cd_D_number : Cond.code y_D_number b_D_number 3 (some .int) ∈ gw := gw_in (List.mem_append_right _ (List.mem_of_getElem? (i := 109) rfl)) rfl
theorem i_D_number : Cond.instanceMethod y_D_number ∈ gw ∧ Cond.selects y_D_number.cls y_D_number y_D_number ∈ gw := ⟨gw_in (List.mem_append_right _ (List.mem_of_getElem? (i := 107) (by decide +kernel))) rfl, gw_in (List.mem_append_right _ (List.mem_of_getElem? (i := 108) (by decide +kernel))) rfl⟩
abbrev b_D_countLevelsWithoutNumber : ByteArray := prog_1_method_22_code
def y_D_countLevelsWithoutNumber : MethodName := ⟨R_D, "countLevelsWithoutNumber", "(LSnapshotDesk$Transaction;)I"⟩
theorem cd_D_countLevelsWithoutNumber : Cond.code y_D_countLevelsWithoutNumber b_D_countLevelsWithoutNumber 3 (some .int) ∈ gw := gw_in (List.mem_append_right _ (List.mem_of_getElem? (i := 112) rfl)) rfl
theorem s_D_countLevelsWithoutNumber : Cond.static y_D_countLevelsWithoutNumber ∈ gw := gw_in (List.mem_append_right _ (List.mem_of_getElem? (i := 111) (by decide +kernel))) rfl
abbrev b_L_size : ByteArray := prog_13_method_8_code
def y_L_size : MethodName := ⟨R_L, "size", "()I"⟩
theorem cd_L_size : Cond.code y_L_size b_L_size 1 (some .int) ∈ gw := gw_in (List.mem_append_right _ (List.mem_of_getElem? (i := 116) rfl)) rfl
theorem i_L_size : Cond.instanceMethod y_L_size ∈ gw ∧ Cond.selects y_L_size.cls y_L_size y_L_size ∈ gw := ⟨gw_in (List.mem_append_right _ (List.mem_of_getElem? (i := 114) (by decide +kernel))) rfl, gw_in (List.mem_append_right _ (List.mem_of_getElem? (i := 115) (by decide +kernel))) rfl⟩
abbrev b_D_giveMissingNumbers : ByteArray := prog_1_method_23_code
def y_D_giveMissingNumbers : MethodName := ⟨R_D, "giveMissingNumbers", "(LSnapshotDesk$Transaction;)V"⟩
theorem cd_D_giveMissingNumbers : Cond.code y_D_giveMissingNumbers b_D_giveMissingNumbers 3 none ∈ gw := gw_in (List.mem_append_right _ (List.mem_of_getElem? (i := 120) rfl)) rfl
theorem i_D_giveMissingNumbers : Cond.instanceMethod y_D_giveMissingNumbers ∈ gw ∧ Cond.selects y_D_giveMissingNumbers.cls y_D_giveMissingNumbers y_D_giveMissingNumbers ∈ gw := ⟨gw_in (List.mem_append_right _ (List.mem_of_getElem? (i := 119) (by decide +kernel))) rfl, gw_in (List.mem_append_left _ (List.mem_of_getElem? (i := 1) (by decide +kernel))) rfl⟩
abbrev b_G_init : ByteArray := prog_2_method_1_code
def y_G_init : MethodName := ⟨R_G, "<init>", "(II)V"⟩
theorem cd_G_init : Cond.code y_G_init b_G_init 3 none ∈ gw := gw_in (List.mem_append_right _ (List.mem_of_getElem? (i := 125) rfl)) rfl
theorem i_G_init : Cond.instanceMethod y_G_init ∈ gw := gw_in (List.mem_append_right _ (List.mem_of_getElem? (i := 124) (by decide +kernel))) rfl
abbrev b_L_add : ByteArray := prog_13_method_25_code
def y_L_add : MethodName := ⟨R_L, "add", "(Ljava/lang/Object;)Z"⟩
theorem cd_L_add : Cond.code y_L_add b_L_add 2 (some .boolean) ∈ gw := gw_in (List.mem_append_right _ (List.mem_of_getElem? (i := 148) rfl)) rfl
theorem i_L_add : Cond.instanceMethod y_L_add ∈ gw ∧ Cond.selects y_L_add.cls y_L_add y_L_add ∈ gw := ⟨gw_in (List.mem_append_right _ (List.mem_of_getElem? (i := 146) (by decide +kernel))) rfl, gw_in (List.mem_append_right _ (List.mem_of_getElem? (i := 147) (by decide +kernel))) rfl⟩
abbrev b_L_add3 : ByteArray := prog_13_method_24_code
def y_L_add3 : MethodName := ⟨R_L, "add", "(Ljava/lang/Object;[Ljava/lang/Object;I)V"⟩
theorem cd_L_add3 : Cond.code y_L_add3 b_L_add3 4 none ∈ gw := gw_in (List.mem_append_right _ (List.mem_of_getElem? (i := 152) rfl)) rfl
theorem i_L_add3 : Cond.instanceMethod y_L_add3 ∈ gw ∧ Cond.selects y_L_add3.cls y_L_add3 y_L_add3 ∈ gw := ⟨gw_in (List.mem_append_right _ (List.mem_of_getElem? (i := 151) (by decide +kernel))) rfl, gw_in (List.mem_append_left _ (List.mem_of_getElem? (i := 2) (by decide +kernel))) rfl⟩
abbrev b_L_grow : ByteArray := prog_13_method_7_code
def y_L_grow : MethodName := ⟨R_L, "grow", "()[Ljava/lang/Object;"⟩
theorem cd_L_grow : Cond.code y_L_grow b_L_grow 1 (some (.array (.object "java/lang/Object"))) ∈ gw := gw_in (List.mem_append_right _ (List.mem_of_getElem? (i := 156) rfl)) rfl
theorem i_L_grow : Cond.instanceMethod y_L_grow ∈ gw ∧ Cond.selects y_L_grow.cls y_L_grow y_L_grow ∈ gw := ⟨gw_in (List.mem_append_right _ (List.mem_of_getElem? (i := 155) (by decide +kernel))) rfl, gw_in (List.mem_append_left _ (List.mem_of_getElem? (i := 3) (by decide +kernel))) rfl⟩
abbrev b_L_growI : ByteArray := prog_13_method_6_code
def y_L_growI : MethodName := ⟨R_L, "grow", "(I)[Ljava/lang/Object;"⟩
theorem cd_L_growI : Cond.code y_L_growI b_L_growI 4 (some (.array (.object "java/lang/Object"))) ∈ gw := gw_in (List.mem_append_right _ (List.mem_of_getElem? (i := 160) rfl)) rfl
theorem i_L_growI : Cond.instanceMethod y_L_growI ∈ gw ∧ Cond.selects y_L_growI.cls y_L_growI y_L_growI ∈ gw := ⟨gw_in (List.mem_append_right _ (List.mem_of_getElem? (i := 159) (by decide +kernel))) rfl, gw_in (List.mem_append_left _ (List.mem_of_getElem? (i := 4) (by decide +kernel))) rfl⟩
abbrev b_AS_newLength : ByteArray := prog_20_method_27_code
def y_AS_newLength : MethodName := ⟨R_AS, "newLength", "(III)I"⟩
theorem cd_AS_newLength : Cond.code y_AS_newLength b_AS_newLength 4 (some .int) ∈ gw := gw_in (List.mem_append_right _ (List.mem_of_getElem? (i := 163) rfl)) rfl
theorem s_AS_newLength : Cond.static y_AS_newLength ∈ gw := gw_in (List.mem_append_right _ (List.mem_of_getElem? (i := 162) (by decide +kernel))) rfl
abbrev b_AS_hugeLength : ByteArray := prog_20_method_28_code
def y_AS_hugeLength : MethodName := ⟨R_AS, "hugeLength", "(II)I"⟩
theorem cd_AS_hugeLength : Cond.code y_AS_hugeLength b_AS_hugeLength 3 (some .int) ∈ gw := gw_in (List.mem_append_right _ (List.mem_of_getElem? (i := 170) rfl)) rfl
theorem s_AS_hugeLength : Cond.static y_AS_hugeLength ∈ gw := gw_in (List.mem_append_right _ (List.mem_of_getElem? (i := 169) (by decide +kernel))) rfl
abbrev b_AR_copyOf : ByteArray := prog_14_method_119_code
def y_AR_copyOf : MethodName := ⟨R_AR, "copyOf", "([Ljava/lang/Object;I)[Ljava/lang/Object;"⟩
theorem cd_AR_copyOf : Cond.code y_AR_copyOf b_AR_copyOf 2 (some (.array (.object "java/lang/Object"))) ∈ gw := gw_in (List.mem_append_right _ (List.mem_of_getElem? (i := 173) rfl)) rfl
theorem s_AR_copyOf : Cond.static y_AR_copyOf ∈ gw := gw_in (List.mem_append_right _ (List.mem_of_getElem? (i := 172) (by decide +kernel))) rfl
abbrev b_AR_copyOf3 : ByteArray := prog_14_method_120_code
def y_AR_copyOf3 : MethodName := ⟨R_AR, "copyOf", "([Ljava/lang/Object;ILjava/lang/Class;)[Ljava/lang/Object;"⟩
theorem cd_AR_copyOf3 : Cond.code y_AR_copyOf3 b_AR_copyOf3 4 (some (.array (.object "java/lang/Object"))) ∈ gw := gw_in (List.mem_append_right _ (List.mem_of_getElem? (i := 185) rfl)) rfl
theorem s_AR_copyOf3 : Cond.static y_AR_copyOf3 ∈ gw := gw_in (List.mem_append_right _ (List.mem_of_getElem? (i := 184) (by decide +kernel))) rfl
abbrev b_D_save : ByteArray := prog_1_method_5_code
def y_D_save : MethodName := ⟨R_D, "save", "(I)I"⟩
theorem cd_D_save : Cond.code y_D_save b_D_save 3 (some .int) ∈ gw := gw_in (List.mem_append_right _ (List.mem_of_getElem? (i := 200) rfl)) rfl
theorem i_D_save : Cond.instanceMethod y_D_save ∈ gw ∧ Cond.selects y_D_save.cls y_D_save y_D_save ∈ gw := ⟨gw_in (List.mem_append_right _ (List.mem_of_getElem? (i := 198) (by decide +kernel))) rfl, gw_in (List.mem_append_right _ (List.mem_of_getElem? (i := 199) (by decide +kernel))) rfl⟩
abbrev b_D_release : ByteArray := prog_1_method_6_code
def y_D_release : MethodName := ⟨R_D, "release", "(II)Z"⟩
theorem cd_D_release : Cond.code y_D_release b_D_release 6 (some .boolean) ∈ gw := gw_in (List.mem_append_right _ (List.mem_of_getElem? (i := 204) rfl)) rfl
theorem i_D_release : Cond.instanceMethod y_D_release ∈ gw ∧ Cond.selects y_D_release.cls y_D_release y_D_release ∈ gw := ⟨gw_in (List.mem_append_right _ (List.mem_of_getElem? (i := 202) (by decide +kernel))) rfl, gw_in (List.mem_append_right _ (List.mem_of_getElem? (i := 203) (by decide +kernel))) rfl⟩
abbrev b_T_canLeave : ByteArray := prog_3_method_4_code
def y_T_canLeave : MethodName := ⟨R_T, "canLeave", "(I)Z"⟩
theorem cd_T_canLeave : Cond.code y_T_canLeave b_T_canLeave 2 (some .boolean) ∈ gw := gw_in (List.mem_append_right _ (List.mem_of_getElem? (i := 208) rfl)) rfl
theorem i_T_canLeave : Cond.instanceMethod y_T_canLeave ∈ gw ∧ Cond.selects y_T_canLeave.cls y_T_canLeave y_T_canLeave ∈ gw := ⟨gw_in (List.mem_append_right _ (List.mem_of_getElem? (i := 206) (by decide +kernel))) rfl, gw_in (List.mem_append_right _ (List.mem_of_getElem? (i := 207) (by decide +kernel))) rfl⟩
abbrev b_L_get : ByteArray := prog_13_method_20_code
def y_L_get : MethodName := ⟨R_L, "get", "(I)Ljava/lang/Object;"⟩
theorem cd_L_get : Cond.code y_L_get b_L_get 2 (some (.object "java/lang/Object")) ∈ gw := gw_in (List.mem_append_right _ (List.mem_of_getElem? (i := 212) rfl)) rfl
theorem i_L_get : Cond.instanceMethod y_L_get ∈ gw ∧ Cond.selects y_L_get.cls y_L_get y_L_get ∈ gw := ⟨gw_in (List.mem_append_right _ (List.mem_of_getElem? (i := 210) (by decide +kernel))) rfl, gw_in (List.mem_append_right _ (List.mem_of_getElem? (i := 211) (by decide +kernel))) rfl⟩
abbrev b_O_checkIndex : ByteArray := prog_17_method_17_code
def y_O_checkIndex : MethodName := ⟨R_O, "checkIndex", "(II)I"⟩
theorem cd_O_checkIndex : Cond.code y_O_checkIndex b_O_checkIndex 2 (some .int) ∈ gw := gw_in (List.mem_append_right _ (List.mem_of_getElem? (i := 215) rfl)) rfl
theorem s_O_checkIndex : Cond.static y_O_checkIndex ∈ gw := gw_in (List.mem_append_right _ (List.mem_of_getElem? (i := 214) (by decide +kernel))) rfl
abbrev b_P_checkIndex : ByteArray := prog_21_method_11_code
def y_P_checkIndex : MethodName := ⟨R_P, "checkIndex", "(IILjava/util/function/BiFunction;)I"⟩
theorem cd_P_checkIndex : Cond.code y_P_checkIndex b_P_checkIndex 3 (some .int) ∈ gw := gw_in (List.mem_append_right _ (List.mem_of_getElem? (i := 218) rfl)) rfl
theorem s_P_checkIndex : Cond.static y_P_checkIndex ∈ gw := gw_in (List.mem_append_right _ (List.mem_of_getElem? (i := 217) (by decide +kernel))) rfl
abbrev b_L_elementData : ByteArray := prog_13_method_18_code
def y_L_elementData : MethodName := ⟨R_L, "elementData", "(I)Ljava/lang/Object;"⟩
theorem cd_L_elementData : Cond.code y_L_elementData b_L_elementData 2 (some (.object "java/lang/Object")) ∈ gw := gw_in (List.mem_append_right _ (List.mem_of_getElem? (i := 222) rfl)) rfl
theorem i_L_elementData : Cond.instanceMethod y_L_elementData ∈ gw ∧ Cond.selects y_L_elementData.cls y_L_elementData y_L_elementData ∈ gw := ⟨gw_in (List.mem_append_right _ (List.mem_of_getElem? (i := 220) (by decide +kernel))) rfl, gw_in (List.mem_append_right _ (List.mem_of_getElem? (i := 221) (by decide +kernel))) rfl⟩
abbrev b_T_owns : ByteArray := prog_3_method_3_code
def y_T_owns : MethodName := ⟨R_T, "owns", "(LSnapshotDesk$Given;)Z"⟩
theorem cd_T_owns : Cond.code y_T_owns b_T_owns 2 (some .boolean) ∈ gw := gw_in (List.mem_append_right _ (List.mem_of_getElem? (i := 226) rfl)) rfl
theorem i_T_owns : Cond.instanceMethod y_T_owns ∈ gw ∧ Cond.selects y_T_owns.cls y_T_owns y_T_owns ∈ gw := ⟨gw_in (List.mem_append_right _ (List.mem_of_getElem? (i := 224) (by decide +kernel))) rfl, gw_in (List.mem_append_right _ (List.mem_of_getElem? (i := 225) (by decide +kernel))) rfl⟩
abbrev b_T_clearLevelsFrom : ByteArray := prog_3_method_5_code
def y_T_clearLevelsFrom : MethodName := ⟨R_T, "clearLevelsFrom", "(I)V"⟩
theorem cd_T_clearLevelsFrom : Cond.code y_T_clearLevelsFrom b_T_clearLevelsFrom 3 none ∈ gw := gw_in (List.mem_append_right _ (List.mem_of_getElem? (i := 230) rfl)) rfl
theorem i_T_clearLevelsFrom : Cond.instanceMethod y_T_clearLevelsFrom ∈ gw ∧ Cond.selects y_T_clearLevelsFrom.cls y_T_clearLevelsFrom y_T_clearLevelsFrom ∈ gw := ⟨gw_in (List.mem_append_right _ (List.mem_of_getElem? (i := 228) (by decide +kernel))) rfl, gw_in (List.mem_append_right _ (List.mem_of_getElem? (i := 229) (by decide +kernel))) rfl⟩
abbrev b_D_back : ByteArray := prog_1_method_7_code
def y_D_back : MethodName := ⟨R_D, "back", "(II)Z"⟩
theorem cd_D_back : Cond.code y_D_back b_D_back 4 (some .boolean) ∈ gw := gw_in (List.mem_append_right _ (List.mem_of_getElem? (i := 234) rfl)) rfl
theorem i_D_back : Cond.instanceMethod y_D_back ∈ gw ∧ Cond.selects y_D_back.cls y_D_back y_D_back ∈ gw := ⟨gw_in (List.mem_append_right _ (List.mem_of_getElem? (i := 232) (by decide +kernel))) rfl, gw_in (List.mem_append_right _ (List.mem_of_getElem? (i := 233) (by decide +kernel))) rfl⟩
abbrev b_D_abortNumbersFrom : ByteArray := prog_1_method_24_code
def y_D_abortNumbersFrom : MethodName := ⟨R_D, "abortNumbersFrom", "(LSnapshotDesk$Transaction;I)V"⟩
theorem cd_D_abortNumbersFrom : Cond.code y_D_abortNumbersFrom b_D_abortNumbersFrom 5 none ∈ gw := gw_in (List.mem_append_right _ (List.mem_of_getElem? (i := 238) rfl)) rfl
theorem i_D_abortNumbersFrom : Cond.instanceMethod y_D_abortNumbersFrom ∈ gw ∧ Cond.selects y_D_abortNumbersFrom.cls y_D_abortNumbersFrom y_D_abortNumbersFrom ∈ gw := ⟨gw_in (List.mem_append_right _ (List.mem_of_getElem? (i := 237) (by decide +kernel))) rfl, gw_in (List.mem_append_left _ (List.mem_of_getElem? (i := 5) (by decide +kernel))) rfl⟩
abbrev b_D_commit : ByteArray := prog_1_method_8_code
def y_D_commit : MethodName := ⟨R_D, "commit", "(I)I"⟩
theorem cd_D_commit : Cond.code y_D_commit b_D_commit 3 (some .int) ∈ gw := gw_in (List.mem_append_right _ (List.mem_of_getElem? (i := 242) rfl)) rfl
theorem i_D_commit : Cond.instanceMethod y_D_commit ∈ gw ∧ Cond.selects y_D_commit.cls y_D_commit y_D_commit ∈ gw := ⟨gw_in (List.mem_append_right _ (List.mem_of_getElem? (i := 240) (by decide +kernel))) rfl, gw_in (List.mem_append_right _ (List.mem_of_getElem? (i := 241) (by decide +kernel))) rfl⟩
abbrev b_D_commitRunningNumbers : ByteArray := prog_1_method_25_code
def y_D_commitRunningNumbers : MethodName := ⟨R_D, "commitRunningNumbers", "(LSnapshotDesk$Transaction;)V"⟩
theorem cd_D_commitRunningNumbers : Cond.code y_D_commitRunningNumbers b_D_commitRunningNumbers 4 none ∈ gw := gw_in (List.mem_append_right _ (List.mem_of_getElem? (i := 246) rfl)) rfl
theorem i_D_commitRunningNumbers : Cond.instanceMethod y_D_commitRunningNumbers ∈ gw ∧ Cond.selects y_D_commitRunningNumbers.cls y_D_commitRunningNumbers y_D_commitRunningNumbers ∈ gw := ⟨gw_in (List.mem_append_right _ (List.mem_of_getElem? (i := 245) (by decide +kernel))) rfl, gw_in (List.mem_append_left _ (List.mem_of_getElem? (i := 6) (by decide +kernel))) rfl⟩
abbrev b_D_abort : ByteArray := prog_1_method_9_code
def y_D_abort : MethodName := ⟨R_D, "abort", "(I)Z"⟩
theorem cd_D_abort : Cond.code y_D_abort b_D_abort 3 (some .boolean) ∈ gw := gw_in (List.mem_append_right _ (List.mem_of_getElem? (i := 250) rfl)) rfl
theorem i_D_abort : Cond.instanceMethod y_D_abort ∈ gw ∧ Cond.selects y_D_abort.cls y_D_abort y_D_abort ∈ gw := ⟨gw_in (List.mem_append_right _ (List.mem_of_getElem? (i := 248) (by decide +kernel))) rfl, gw_in (List.mem_append_right _ (List.mem_of_getElem? (i := 249) (by decide +kernel))) rfl⟩
abbrev b_D_crash : ByteArray := prog_1_method_10_code
def y_D_crash : MethodName := ⟨R_D, "crash", "()V"⟩
theorem cd_D_crash : Cond.code y_D_crash b_D_crash 2 none ∈ gw := gw_in (List.mem_append_right _ (List.mem_of_getElem? (i := 254) rfl)) rfl
theorem i_D_crash : Cond.instanceMethod y_D_crash ∈ gw ∧ Cond.selects y_D_crash.cls y_D_crash y_D_crash ∈ gw := ⟨gw_in (List.mem_append_right _ (List.mem_of_getElem? (i := 252) (by decide +kernel))) rfl, gw_in (List.mem_append_right _ (List.mem_of_getElem? (i := 253) (by decide +kernel))) rfl⟩
abbrev b_D_state : ByteArray := prog_1_method_11_code
def y_D_state : MethodName := ⟨R_D, "state", "(I)I"⟩
theorem cd_D_state : Cond.code y_D_state b_D_state 3 (some .int) ∈ gw := gw_in (List.mem_append_right _ (List.mem_of_getElem? (i := 259) rfl)) rfl
theorem i_D_state : Cond.instanceMethod y_D_state ∈ gw ∧ Cond.selects y_D_state.cls y_D_state y_D_state ∈ gw := ⟨gw_in (List.mem_append_right _ (List.mem_of_getElem? (i := 257) (by decide +kernel))) rfl, gw_in (List.mem_append_right _ (List.mem_of_getElem? (i := 258) (by decide +kernel))) rfl⟩
abbrev b_D_find : ByteArray := prog_1_method_21_code
def y_D_find : MethodName := ⟨R_D, "find", "(I)LSnapshotDesk$Given;"⟩
theorem cd_D_find : Cond.code y_D_find b_D_find 2 (some (.object "SnapshotDesk$Given")) ∈ gw := gw_in (List.mem_append_right _ (List.mem_of_getElem? (i := 263) rfl)) rfl
theorem i_D_find : Cond.instanceMethod y_D_find ∈ gw ∧ Cond.selects y_D_find.cls y_D_find y_D_find ∈ gw := ⟨gw_in (List.mem_append_right _ (List.mem_of_getElem? (i := 262) (by decide +kernel))) rfl, gw_in (List.mem_append_left _ (List.mem_of_getElem? (i := 7) (by decide +kernel))) rfl⟩
abbrev b_D_root : ByteArray := prog_1_method_12_code
def y_D_root : MethodName := ⟨R_D, "root", "(I)I"⟩
theorem cd_D_root : Cond.code y_D_root b_D_root 3 (some .int) ∈ gw := gw_in (List.mem_append_right _ (List.mem_of_getElem? (i := 267) rfl)) rfl
theorem i_D_root : Cond.instanceMethod y_D_root ∈ gw ∧ Cond.selects y_D_root.cls y_D_root y_D_root ∈ gw := ⟨gw_in (List.mem_append_right _ (List.mem_of_getElem? (i := 265) (by decide +kernel))) rfl, gw_in (List.mem_append_right _ (List.mem_of_getElem? (i := 266) (by decide +kernel))) rfl⟩
abbrev b_D_place : ByteArray := prog_1_method_13_code
def y_D_place : MethodName := ⟨R_D, "place", "(I)I"⟩
theorem cd_D_place : Cond.code y_D_place b_D_place 3 (some .int) ∈ gw := gw_in (List.mem_append_right _ (List.mem_of_getElem? (i := 271) rfl)) rfl
theorem i_D_place : Cond.instanceMethod y_D_place ∈ gw ∧ Cond.selects y_D_place.cls y_D_place y_D_place ∈ gw := ⟨gw_in (List.mem_append_right _ (List.mem_of_getElem? (i := 269) (by decide +kernel))) rfl, gw_in (List.mem_append_right _ (List.mem_of_getElem? (i := 270) (by decide +kernel))) rfl⟩
abbrev b_D_sees : ByteArray := prog_1_method_14_code
def y_D_sees : MethodName := ⟨R_D, "sees", "(IIIII)Z"⟩
theorem cd_D_sees : Cond.code y_D_sees b_D_sees 7 (some .boolean) ∈ gw := gw_in (List.mem_append_right _ (List.mem_of_getElem? (i := 275) rfl)) rfl
theorem i_D_sees : Cond.instanceMethod y_D_sees ∈ gw ∧ Cond.selects y_D_sees.cls y_D_sees y_D_sees ∈ gw := ⟨gw_in (List.mem_append_right _ (List.mem_of_getElem? (i := 273) (by decide +kernel))) rfl, gw_in (List.mem_append_right _ (List.mem_of_getElem? (i := 274) (by decide +kernel))) rfl⟩
abbrev b_D_seesDeed : ByteArray := prog_1_method_26_code
def y_D_seesDeed : MethodName := ⟨R_D, "seesDeed", "(LSnapshotDesk$Transaction;LSnapshotDesk$Given;I)Z"⟩
theorem cd_D_seesDeed : Cond.code y_D_seesDeed b_D_seesDeed 3 (some .boolean) ∈ gw := gw_in (List.mem_append_right _ (List.mem_of_getElem? (i := 278) rfl)) rfl
theorem s_D_seesDeed : Cond.static y_D_seesDeed ∈ gw := gw_in (List.mem_append_right _ (List.mem_of_getElem? (i := 277) (by decide +kernel))) rfl
abbrev b_D_ending : ByteArray := prog_1_method_15_code
def y_D_ending : MethodName := ⟨R_D, "ending", "(III)I"⟩
theorem cd_D_ending : Cond.code y_D_ending b_D_ending 7 (some .int) ∈ gw := gw_in (List.mem_append_right _ (List.mem_of_getElem? (i := 282) rfl)) rfl
theorem i_D_ending : Cond.instanceMethod y_D_ending ∈ gw ∧ Cond.selects y_D_ending.cls y_D_ending y_D_ending ∈ gw := ⟨gw_in (List.mem_append_right _ (List.mem_of_getElem? (i := 280) (by decide +kernel))) rfl, gw_in (List.mem_append_right _ (List.mem_of_getElem? (i := 281) (by decide +kernel))) rfl⟩
abbrev b_D_dead : ByteArray := prog_1_method_16_code
def y_D_dead : MethodName := ⟨R_D, "dead", "(II)Z"⟩
theorem cd_D_dead : Cond.code y_D_dead b_D_dead 4 (some .boolean) ∈ gw := gw_in (List.mem_append_right _ (List.mem_of_getElem? (i := 286) rfl)) rfl
theorem i_D_dead : Cond.instanceMethod y_D_dead ∈ gw ∧ Cond.selects y_D_dead.cls y_D_dead y_D_dead ∈ gw := ⟨gw_in (List.mem_append_right _ (List.mem_of_getElem? (i := 284) (by decide +kernel))) rfl, gw_in (List.mem_append_right _ (List.mem_of_getElem? (i := 285) (by decide +kernel))) rfl⟩
abbrev b_D_isInEveryLiveSnapshot : ByteArray := prog_1_method_27_code
def y_D_isInEveryLiveSnapshot : MethodName := ⟨R_D, "isInEveryLiveSnapshot", "(LSnapshotDesk$Given;)Z"⟩
theorem cd_D_isInEveryLiveSnapshot : Cond.code y_D_isInEveryLiveSnapshot b_D_isInEveryLiveSnapshot 4 (some .boolean) ∈ gw := gw_in (List.mem_append_right _ (List.mem_of_getElem? (i := 290) rfl)) rfl
theorem i_D_isInEveryLiveSnapshot : Cond.instanceMethod y_D_isInEveryLiveSnapshot ∈ gw ∧ Cond.selects y_D_isInEveryLiveSnapshot.cls y_D_isInEveryLiveSnapshot y_D_isInEveryLiveSnapshot ∈ gw := ⟨gw_in (List.mem_append_right _ (List.mem_of_getElem? (i := 289) (by decide +kernel))) rfl, gw_in (List.mem_append_left _ (List.mem_of_getElem? (i := 8) (by decide +kernel))) rfl⟩
abbrev b_D_look : ByteArray := prog_1_method_17_code
def y_D_look : MethodName := ⟨R_D, "look", "(II)I"⟩
theorem cd_D_look : Cond.code y_D_look b_D_look 4 (some .int) ∈ gw := gw_in (List.mem_append_right _ (List.mem_of_getElem? (i := 294) rfl)) rfl
theorem i_D_look : Cond.instanceMethod y_D_look ∈ gw ∧ Cond.selects y_D_look.cls y_D_look y_D_look ∈ gw := ⟨gw_in (List.mem_append_right _ (List.mem_of_getElem? (i := 292) (by decide +kernel))) rfl, gw_in (List.mem_append_right _ (List.mem_of_getElem? (i := 293) (by decide +kernel))) rfl⟩
abbrev b_D_lookAt : ByteArray := prog_1_method_18_code
def y_D_lookAt : MethodName := ⟨R_D, "lookAt", "(LSnapshotDesk$Transaction;I)I"⟩
theorem cd_D_lookAt : Cond.code y_D_lookAt b_D_lookAt 2 (some .int) ∈ gw := gw_in (List.mem_append_right _ (List.mem_of_getElem? (i := 297) rfl)) rfl
theorem s_D_lookAt : Cond.static y_D_lookAt ∈ gw := gw_in (List.mem_append_right _ (List.mem_of_getElem? (i := 296) (by decide +kernel))) rfl
abbrev b_M_init : ByteArray := prog_5_method_1_code
def y_M_init : MethodName := ⟨R_M, "<init>", "()V"⟩
theorem cd_M_init : Cond.code y_M_init b_M_init 1 none ∈ gw := gw_in (List.mem_append_right _ (List.mem_of_getElem? (i := 302) rfl)) rfl
theorem i_M_init : Cond.instanceMethod y_M_init ∈ gw := gw_in (List.mem_append_right _ (List.mem_of_getElem? (i := 301) (by decide +kernel))) rfl
abbrev b_M_begin : ByteArray := prog_5_method_4_code
def y_M_begin : MethodName := ⟨R_M, "begin", "(II)Z"⟩
theorem cd_M_begin : Cond.code y_M_begin b_M_begin 3 (some .boolean) ∈ gw := gw_in (List.mem_append_right _ (List.mem_of_getElem? (i := 345) rfl)) rfl
theorem i_M_begin : Cond.instanceMethod y_M_begin ∈ gw ∧ Cond.selects y_M_begin.cls y_M_begin y_M_begin ∈ gw := ⟨gw_in (List.mem_append_right _ (List.mem_of_getElem? (i := 343) (by decide +kernel))) rfl, gw_in (List.mem_append_right _ (List.mem_of_getElem? (i := 344) (by decide +kernel))) rfl⟩
abbrev b_M_statement : ByteArray := prog_5_method_5_code
def y_M_statement : MethodName := ⟨R_M, "statement", "(I)I"⟩
theorem cd_M_statement : Cond.code y_M_statement b_M_statement 2 (some .int) ∈ gw := gw_in (List.mem_append_right _ (List.mem_of_getElem? (i := 349) rfl)) rfl
theorem i_M_statement : Cond.instanceMethod y_M_statement ∈ gw ∧ Cond.selects y_M_statement.cls y_M_statement y_M_statement ∈ gw := ⟨gw_in (List.mem_append_right _ (List.mem_of_getElem? (i := 347) (by decide +kernel))) rfl, gw_in (List.mem_append_right _ (List.mem_of_getElem? (i := 348) (by decide +kernel))) rfl⟩
abbrev b_M_runs : ByteArray := prog_5_method_2_code
def y_M_runs : MethodName := ⟨R_M, "runs", "(I)Z"⟩
theorem cd_M_runs : Cond.code y_M_runs b_M_runs 2 (some .boolean) ∈ gw := gw_in (List.mem_append_right _ (List.mem_of_getElem? (i := 353) rfl)) rfl
theorem i_M_runs : Cond.instanceMethod y_M_runs ∈ gw ∧ Cond.selects y_M_runs.cls y_M_runs y_M_runs ∈ gw := ⟨gw_in (List.mem_append_right _ (List.mem_of_getElem? (i := 352) (by decide +kernel))) rfl, gw_in (List.mem_append_left _ (List.mem_of_getElem? (i := 9) (by decide +kernel))) rfl⟩
abbrev b_M_number : ByteArray := prog_5_method_6_code
def y_M_number : MethodName := ⟨R_M, "number", "(I)I"⟩
theorem cd_M_number : Cond.code y_M_number b_M_number 4 (some .int) ∈ gw := gw_in (List.mem_append_right _ (List.mem_of_getElem? (i := 357) rfl)) rfl
theorem i_M_number : Cond.instanceMethod y_M_number ∈ gw ∧ Cond.selects y_M_number.cls y_M_number y_M_number ∈ gw := ⟨gw_in (List.mem_append_right _ (List.mem_of_getElem? (i := 355) (by decide +kernel))) rfl, gw_in (List.mem_append_right _ (List.mem_of_getElem? (i := 356) (by decide +kernel))) rfl⟩
abbrev b_M_save : ByteArray := prog_5_method_7_code
def y_M_save : MethodName := ⟨R_M, "save", "(I)I"⟩
theorem cd_M_save : Cond.code y_M_save b_M_save 2 (some .int) ∈ gw := gw_in (List.mem_append_right _ (List.mem_of_getElem? (i := 361) rfl)) rfl
theorem i_M_save : Cond.instanceMethod y_M_save ∈ gw ∧ Cond.selects y_M_save.cls y_M_save y_M_save ∈ gw := ⟨gw_in (List.mem_append_right _ (List.mem_of_getElem? (i := 359) (by decide +kernel))) rfl, gw_in (List.mem_append_right _ (List.mem_of_getElem? (i := 360) (by decide +kernel))) rfl⟩
abbrev b_M_release : ByteArray := prog_5_method_9_code
def y_M_release : MethodName := ⟨R_M, "release", "(II)Z"⟩
theorem cd_M_release : Cond.code y_M_release b_M_release 4 (some .boolean) ∈ gw := gw_in (List.mem_append_right _ (List.mem_of_getElem? (i := 365) rfl)) rfl
theorem i_M_release : Cond.instanceMethod y_M_release ∈ gw ∧ Cond.selects y_M_release.cls y_M_release y_M_release ∈ gw := ⟨gw_in (List.mem_append_right _ (List.mem_of_getElem? (i := 363) (by decide +kernel))) rfl, gw_in (List.mem_append_right _ (List.mem_of_getElem? (i := 364) (by decide +kernel))) rfl⟩
abbrev b_M_isFrom : ByteArray := prog_5_method_8_code
def y_M_isFrom : MethodName := ⟨R_M, "isFrom", "(III)Z"⟩
theorem cd_M_isFrom : Cond.code y_M_isFrom b_M_isFrom 4 (some .boolean) ∈ gw := gw_in (List.mem_append_right _ (List.mem_of_getElem? (i := 369) rfl)) rfl
theorem i_M_isFrom : Cond.instanceMethod y_M_isFrom ∈ gw ∧ Cond.selects y_M_isFrom.cls y_M_isFrom y_M_isFrom ∈ gw := ⟨gw_in (List.mem_append_right _ (List.mem_of_getElem? (i := 368) (by decide +kernel))) rfl, gw_in (List.mem_append_left _ (List.mem_of_getElem? (i := 10) (by decide +kernel))) rfl⟩
abbrev b_M_back : ByteArray := prog_5_method_10_code
def y_M_back : MethodName := ⟨R_M, "back", "(II)Z"⟩
theorem cd_M_back : Cond.code y_M_back b_M_back 4 (some .boolean) ∈ gw := gw_in (List.mem_append_right _ (List.mem_of_getElem? (i := 373) rfl)) rfl
theorem i_M_back : Cond.instanceMethod y_M_back ∈ gw ∧ Cond.selects y_M_back.cls y_M_back y_M_back ∈ gw := ⟨gw_in (List.mem_append_right _ (List.mem_of_getElem? (i := 371) (by decide +kernel))) rfl, gw_in (List.mem_append_right _ (List.mem_of_getElem? (i := 372) (by decide +kernel))) rfl⟩
abbrev b_M_commit : ByteArray := prog_5_method_12_code
def y_M_commit : MethodName := ⟨R_M, "commit", "(I)I"⟩
theorem cd_M_commit : Cond.code y_M_commit b_M_commit 3 (some .int) ∈ gw := gw_in (List.mem_append_right _ (List.mem_of_getElem? (i := 377) rfl)) rfl
theorem i_M_commit : Cond.instanceMethod y_M_commit ∈ gw ∧ Cond.selects y_M_commit.cls y_M_commit y_M_commit ∈ gw := ⟨gw_in (List.mem_append_right _ (List.mem_of_getElem? (i := 375) (by decide +kernel))) rfl, gw_in (List.mem_append_right _ (List.mem_of_getElem? (i := 376) (by decide +kernel))) rfl⟩
abbrev b_M_ends : ByteArray := prog_5_method_11_code
def y_M_ends : MethodName := ⟨R_M, "ends", "(II)I"⟩
theorem cd_M_ends : Cond.code y_M_ends b_M_ends 5 (some .int) ∈ gw := gw_in (List.mem_append_right _ (List.mem_of_getElem? (i := 381) rfl)) rfl
theorem i_M_ends : Cond.instanceMethod y_M_ends ∈ gw ∧ Cond.selects y_M_ends.cls y_M_ends y_M_ends ∈ gw := ⟨gw_in (List.mem_append_right _ (List.mem_of_getElem? (i := 380) (by decide +kernel))) rfl, gw_in (List.mem_append_left _ (List.mem_of_getElem? (i := 11) (by decide +kernel))) rfl⟩
abbrev b_M_abort : ByteArray := prog_5_method_13_code
def y_M_abort : MethodName := ⟨R_M, "abort", "(I)Z"⟩
theorem cd_M_abort : Cond.code y_M_abort b_M_abort 3 (some .boolean) ∈ gw := gw_in (List.mem_append_right _ (List.mem_of_getElem? (i := 385) rfl)) rfl
theorem i_M_abort : Cond.instanceMethod y_M_abort ∈ gw ∧ Cond.selects y_M_abort.cls y_M_abort y_M_abort ∈ gw := ⟨gw_in (List.mem_append_right _ (List.mem_of_getElem? (i := 383) (by decide +kernel))) rfl, gw_in (List.mem_append_right _ (List.mem_of_getElem? (i := 384) (by decide +kernel))) rfl⟩
abbrev b_M_crash : ByteArray := prog_5_method_14_code
def y_M_crash : MethodName := ⟨R_M, "crash", "()V"⟩
theorem cd_M_crash : Cond.code y_M_crash b_M_crash 3 none ∈ gw := gw_in (List.mem_append_right _ (List.mem_of_getElem? (i := 389) rfl)) rfl
theorem i_M_crash : Cond.instanceMethod y_M_crash ∈ gw ∧ Cond.selects y_M_crash.cls y_M_crash y_M_crash ∈ gw := ⟨gw_in (List.mem_append_right _ (List.mem_of_getElem? (i := 387) (by decide +kernel))) rfl, gw_in (List.mem_append_right _ (List.mem_of_getElem? (i := 388) (by decide +kernel))) rfl⟩
abbrev b_M_state : ByteArray := prog_5_method_15_code
def y_M_state : MethodName := ⟨R_M, "state", "(I)I"⟩
theorem cd_M_state : Cond.code y_M_state b_M_state 2 (some .int) ∈ gw := gw_in (List.mem_append_right _ (List.mem_of_getElem? (i := 394) rfl)) rfl
theorem i_M_state : Cond.instanceMethod y_M_state ∈ gw ∧ Cond.selects y_M_state.cls y_M_state y_M_state ∈ gw := ⟨gw_in (List.mem_append_right _ (List.mem_of_getElem? (i := 392) (by decide +kernel))) rfl, gw_in (List.mem_append_right _ (List.mem_of_getElem? (i := 393) (by decide +kernel))) rfl⟩
abbrev b_M_isGiven : ByteArray := prog_5_method_3_code
def y_M_isGiven : MethodName := ⟨R_M, "isGiven", "(I)Z"⟩
theorem cd_M_isGiven : Cond.code y_M_isGiven b_M_isGiven 2 (some .boolean) ∈ gw := gw_in (List.mem_append_right _ (List.mem_of_getElem? (i := 398) rfl)) rfl
theorem i_M_isGiven : Cond.instanceMethod y_M_isGiven ∈ gw ∧ Cond.selects y_M_isGiven.cls y_M_isGiven y_M_isGiven ∈ gw := ⟨gw_in (List.mem_append_right _ (List.mem_of_getElem? (i := 397) (by decide +kernel))) rfl, gw_in (List.mem_append_left _ (List.mem_of_getElem? (i := 12) (by decide +kernel))) rfl⟩
abbrev b_M_root : ByteArray := prog_5_method_16_code
def y_M_root : MethodName := ⟨R_M, "root", "(I)I"⟩
theorem cd_M_root : Cond.code y_M_root b_M_root 2 (some .int) ∈ gw := gw_in (List.mem_append_right _ (List.mem_of_getElem? (i := 402) rfl)) rfl
theorem i_M_root : Cond.instanceMethod y_M_root ∈ gw ∧ Cond.selects y_M_root.cls y_M_root y_M_root ∈ gw := ⟨gw_in (List.mem_append_right _ (List.mem_of_getElem? (i := 400) (by decide +kernel))) rfl, gw_in (List.mem_append_right _ (List.mem_of_getElem? (i := 401) (by decide +kernel))) rfl⟩
abbrev b_M_place : ByteArray := prog_5_method_17_code
def y_M_place : MethodName := ⟨R_M, "place", "(I)I"⟩
theorem cd_M_place : Cond.code y_M_place b_M_place 2 (some .int) ∈ gw := gw_in (List.mem_append_right _ (List.mem_of_getElem? (i := 406) rfl)) rfl
theorem i_M_place : Cond.instanceMethod y_M_place ∈ gw ∧ Cond.selects y_M_place.cls y_M_place y_M_place ∈ gw := ⟨gw_in (List.mem_append_right _ (List.mem_of_getElem? (i := 404) (by decide +kernel))) rfl, gw_in (List.mem_append_right _ (List.mem_of_getElem? (i := 405) (by decide +kernel))) rfl⟩
abbrev b_M_sees : ByteArray := prog_5_method_19_code
def y_M_sees : MethodName := ⟨R_M, "sees", "(IIIII)Z"⟩
theorem cd_M_sees : Cond.code y_M_sees b_M_sees 6 (some .boolean) ∈ gw := gw_in (List.mem_append_right _ (List.mem_of_getElem? (i := 410) rfl)) rfl
theorem i_M_sees : Cond.instanceMethod y_M_sees ∈ gw ∧ Cond.selects y_M_sees.cls y_M_sees y_M_sees ∈ gw := ⟨gw_in (List.mem_append_right _ (List.mem_of_getElem? (i := 408) (by decide +kernel))) rfl, gw_in (List.mem_append_right _ (List.mem_of_getElem? (i := 409) (by decide +kernel))) rfl⟩
abbrev b_M_isSeen : ByteArray := prog_5_method_18_code
def y_M_isSeen : MethodName := ⟨R_M, "isSeen", "(III)Z"⟩
theorem cd_M_isSeen : Cond.code y_M_isSeen b_M_isSeen 4 (some .boolean) ∈ gw := gw_in (List.mem_append_right _ (List.mem_of_getElem? (i := 414) rfl)) rfl
theorem i_M_isSeen : Cond.instanceMethod y_M_isSeen ∈ gw ∧ Cond.selects y_M_isSeen.cls y_M_isSeen y_M_isSeen ∈ gw := ⟨gw_in (List.mem_append_right _ (List.mem_of_getElem? (i := 413) (by decide +kernel))) rfl, gw_in (List.mem_append_left _ (List.mem_of_getElem? (i := 13) (by decide +kernel))) rfl⟩
abbrev b_M_ending : ByteArray := prog_5_method_20_code
def y_M_ending : MethodName := ⟨R_M, "ending", "(III)I"⟩
theorem cd_M_ending : Cond.code y_M_ending b_M_ending 5 (some .int) ∈ gw := gw_in (List.mem_append_right _ (List.mem_of_getElem? (i := 418) rfl)) rfl
theorem i_M_ending : Cond.instanceMethod y_M_ending ∈ gw ∧ Cond.selects y_M_ending.cls y_M_ending y_M_ending ∈ gw := ⟨gw_in (List.mem_append_right _ (List.mem_of_getElem? (i := 416) (by decide +kernel))) rfl, gw_in (List.mem_append_right _ (List.mem_of_getElem? (i := 417) (by decide +kernel))) rfl⟩
abbrev b_M_dead : ByteArray := prog_5_method_21_code
def y_M_dead : MethodName := ⟨R_M, "dead", "(II)Z"⟩
theorem cd_M_dead : Cond.code y_M_dead b_M_dead 5 (some .boolean) ∈ gw := gw_in (List.mem_append_right _ (List.mem_of_getElem? (i := 422) rfl)) rfl
theorem i_M_dead : Cond.instanceMethod y_M_dead ∈ gw ∧ Cond.selects y_M_dead.cls y_M_dead y_M_dead ∈ gw := ⟨gw_in (List.mem_append_right _ (List.mem_of_getElem? (i := 420) (by decide +kernel))) rfl, gw_in (List.mem_append_right _ (List.mem_of_getElem? (i := 421) (by decide +kernel))) rfl⟩
abbrev b_M_look : ByteArray := prog_5_method_22_code
def y_M_look : MethodName := ⟨R_M, "look", "(II)I"⟩
theorem cd_M_look : Cond.code y_M_look b_M_look 3 (some .int) ∈ gw := gw_in (List.mem_append_right _ (List.mem_of_getElem? (i := 426) rfl)) rfl
theorem i_M_look : Cond.instanceMethod y_M_look ∈ gw ∧ Cond.selects y_M_look.cls y_M_look y_M_look ∈ gw := ⟨gw_in (List.mem_append_right _ (List.mem_of_getElem? (i := 424) (by decide +kernel))) rfl, gw_in (List.mem_append_right _ (List.mem_of_getElem? (i := 425) (by decide +kernel))) rfl⟩
theorem k_W_9 : u_Cb R_W 9 y_D_init b_D_init 1 none 0 := ⟨gw_in (List.mem_append_right _ (List.mem_of_getElem? (i := 16) (by decide +kernel))) rfl, gw_in (List.mem_append_right _ (List.mem_of_getElem? (i := 1) (by decide +kernel))) rfl, cd_D_init, by decide +kernel⟩
theorem o_D_1 : Cond.methodLink R_D 1 Lib.objectInit ∈ gw := gw_in (List.mem_append_right _ (List.mem_of_getElem? (i := 19) (by decide +kernel))) rfl
theorem k_D_17 : u_Cb R_D 17 y_L_init b_L_init 1 none 0 := ⟨gw_in (List.mem_append_right _ (List.mem_of_getElem? (i := 26) (by decide +kernel))) rfl, gw_in (List.mem_append_right _ (List.mem_of_getElem? (i := 4) (by decide +kernel))) rfl, cd_L_init, by decide +kernel⟩
theorem k_L_1 : u_Cb R_L 1 y_AL_init b_AL_init 1 none 0 := ⟨gw_in (List.mem_append_right _ (List.mem_of_getElem? (i := 29) (by decide +kernel))) rfl, gw_in (List.mem_append_right _ (List.mem_of_getElem? (i := 3) (by decide +kernel))) rfl, cd_AL_init, by decide +kernel⟩
theorem k_AL_1 : u_Cb R_AL 1 y_AC_init b_AC_init 1 none 0 := ⟨gw_in (List.mem_append_right _ (List.mem_of_getElem? (i := 32) (by decide +kernel))) rfl, gw_in (List.mem_append_right _ (List.mem_of_getElem? (i := 2) (by decide +kernel))) rfl, cd_AC_init, by decide +kernel⟩
theorem o_AC_1 : Cond.methodLink R_AC 1 Lib.objectInit ∈ gw := gw_in (List.mem_append_right _ (List.mem_of_getElem? (i := 35) (by decide +kernel))) rfl
theorem k_W_13 : u_Cb R_W 13 y_D_begin b_D_begin 3 (some .boolean) 2 := ⟨gw_in (List.mem_append_right _ (List.mem_of_getElem? (i := 60) (by decide +kernel))) rfl, gw_in (List.mem_append_right _ (List.mem_of_getElem? (i := 1) (by decide +kernel))) rfl, cd_D_begin, by decide +kernel⟩
theorem k_D_26 : u_Cb R_D 26 y_D_isSession b_D_isSession 1 (some .boolean) 1 := ⟨gw_in (List.mem_append_right _ (List.mem_of_getElem? (i := 64) (by decide +kernel))) rfl, gw_in (List.mem_append_right _ (List.mem_of_getElem? (i := 1) (by decide +kernel))) rfl, cd_D_isSession, by decide +kernel⟩
theorem k_D_30 : u_Cb R_D 30 y_T_init b_T_init 2 none 1 := ⟨gw_in (List.mem_append_right _ (List.mem_of_getElem? (i := 68) (by decide +kernel))) rfl, gw_in (List.mem_append_right _ (List.mem_of_getElem? (i := 6) (by decide +kernel))) rfl, cd_T_init, by decide +kernel⟩
theorem o_T_3 : Cond.methodLink R_T 3 Lib.objectInit ∈ gw := gw_in (List.mem_append_right _ (List.mem_of_getElem? (i := 71) (by decide +kernel))) rfl
theorem k_W_18 : u_Cb R_W 18 y_D_statement b_D_statement 3 (some .int) 1 := ⟨gw_in (List.mem_append_right _ (List.mem_of_getElem? (i := 94) (by decide +kernel))) rfl, gw_in (List.mem_append_right _ (List.mem_of_getElem? (i := 1) (by decide +kernel))) rfl, cd_D_statement, by decide +kernel⟩
theorem k_D_33 : u_Cb R_D 33 y_D_transactionOf b_D_transactionOf 2 (some (.object "SnapshotDesk$Transaction")) 1 := ⟨gw_in (List.mem_append_right _ (List.mem_of_getElem? (i := 98) (by decide +kernel))) rfl, gw_in (List.mem_append_right _ (List.mem_of_getElem? (i := 1) (by decide +kernel))) rfl, cd_D_transactionOf, by decide +kernel⟩
theorem k_D_43 : u_Cb R_D 43 y_T_hasSnapshot b_T_hasSnapshot 1 (some .boolean) 0 := ⟨gw_in (List.mem_append_right _ (List.mem_of_getElem? (i := 102) (by decide +kernel))) rfl, gw_in (List.mem_append_right _ (List.mem_of_getElem? (i := 6) (by decide +kernel))) rfl, cd_T_hasSnapshot, by decide +kernel⟩
theorem k_W_23 : u_Cb R_W 23 y_D_number b_D_number 3 (some .int) 1 := ⟨gw_in (List.mem_append_right _ (List.mem_of_getElem? (i := 106) (by decide +kernel))) rfl, gw_in (List.mem_append_right _ (List.mem_of_getElem? (i := 1) (by decide +kernel))) rfl, cd_D_number, by decide +kernel⟩
theorem k_D_50 : u_Cb R_D 50 y_D_countLevelsWithoutNumber b_D_countLevelsWithoutNumber 3 (some .int) 1 := ⟨gw_in (List.mem_append_right _ (List.mem_of_getElem? (i := 110) (by decide +kernel))) rfl, gw_in (List.mem_append_right _ (List.mem_of_getElem? (i := 1) (by decide +kernel))) rfl, cd_D_countLevelsWithoutNumber, by decide +kernel⟩
theorem k_D_54 : u_Cb R_D 54 y_L_size b_L_size 1 (some .int) 0 := ⟨gw_in (List.mem_append_right _ (List.mem_of_getElem? (i := 113) (by decide +kernel))) rfl, gw_in (List.mem_append_right _ (List.mem_of_getElem? (i := 4) (by decide +kernel))) rfl, cd_L_size, by decide +kernel⟩
theorem k_D_58 : u_Cb R_D 58 y_D_giveMissingNumbers b_D_giveMissingNumbers 3 none 1 := ⟨gw_in (List.mem_append_right _ (List.mem_of_getElem? (i := 117) (by decide +kernel))) rfl, gw_in (List.mem_append_right _ (List.mem_of_getElem? (i := 1) (by decide +kernel))) rfl, cd_D_giveMissingNumbers, by decide +kernel⟩
theorem k_D_122 : u_Cb R_D 122 y_G_init b_G_init 3 none 2 := ⟨gw_in (List.mem_append_right _ (List.mem_of_getElem? (i := 123) (by decide +kernel))) rfl, gw_in (List.mem_append_right _ (List.mem_of_getElem? (i := 7) (by decide +kernel))) rfl, cd_G_init, by decide +kernel⟩
theorem o_G_3 : Cond.methodLink R_G 3 Lib.objectInit ∈ gw := gw_in (List.mem_append_right _ (List.mem_of_getElem? (i := 126) (by decide +kernel))) rfl
theorem k_D_125 : u_Cb R_D 125 y_L_add b_L_add 2 (some .boolean) 1 := ⟨gw_in (List.mem_append_right _ (List.mem_of_getElem? (i := 145) (by decide +kernel))) rfl, gw_in (List.mem_append_right _ (List.mem_of_getElem? (i := 4) (by decide +kernel))) rfl, cd_L_add, by decide +kernel⟩
theorem k_L_131 : u_Cb R_L 131 y_L_add3 b_L_add3 4 none 3 := ⟨gw_in (List.mem_append_right _ (List.mem_of_getElem? (i := 149) (by decide +kernel))) rfl, gw_in (List.mem_append_right _ (List.mem_of_getElem? (i := 4) (by decide +kernel))) rfl, cd_L_add3, by decide +kernel⟩
theorem k_L_129 : u_Cb R_L 129 y_L_grow b_L_grow 1 (some (.array (.object "java/lang/Object"))) 0 := ⟨gw_in (List.mem_append_right _ (List.mem_of_getElem? (i := 153) (by decide +kernel))) rfl, gw_in (List.mem_append_right _ (List.mem_of_getElem? (i := 4) (by decide +kernel))) rfl, cd_L_grow, by decide +kernel⟩
theorem k_L_69 : u_Cb R_L 69 y_L_growI b_L_growI 4 (some (.array (.object "java/lang/Object"))) 1 := ⟨gw_in (List.mem_append_right _ (List.mem_of_getElem? (i := 157) (by decide +kernel))) rfl, gw_in (List.mem_append_right _ (List.mem_of_getElem? (i := 4) (by decide +kernel))) rfl, cd_L_growI, by decide +kernel⟩
theorem k_L_73 : u_Cb R_L 73 y_AS_newLength b_AS_newLength 4 (some .int) 3 := ⟨gw_in (List.mem_append_right _ (List.mem_of_getElem? (i := 161) (by decide +kernel))) rfl, gw_in (List.mem_append_right _ (List.mem_of_getElem? (i := 8) (by decide +kernel))) rfl, cd_AS_newLength, by decide +kernel⟩
theorem q_AS_194 : Cond.methodLink R_AS 194 Lib.Math.max.name ∈ gw := gw_in (List.mem_append_right _ (List.mem_of_getElem? (i := 164) (by decide +kernel))) rfl
theorem k_AS_201 : u_Cb R_AS 201 y_AS_hugeLength b_AS_hugeLength 3 (some .int) 2 := ⟨gw_in (List.mem_append_right _ (List.mem_of_getElem? (i := 168) (by decide +kernel))) rfl, gw_in (List.mem_append_right _ (List.mem_of_getElem? (i := 8) (by decide +kernel))) rfl, cd_AS_hugeLength, by decide +kernel⟩
theorem k_L_66 : u_Cb R_L 66 y_AR_copyOf b_AR_copyOf 2 (some (.array (.object "java/lang/Object"))) 2 := ⟨gw_in (List.mem_append_right _ (List.mem_of_getElem? (i := 171) (by decide +kernel))) rfl, gw_in (List.mem_append_right _ (List.mem_of_getElem? (i := 10) (by decide +kernel))) rfl, cd_AR_copyOf, by decide +kernel⟩
theorem q_AR_86 : Cond.methodLink R_AR 86 ⟨"java/lang/Object", "getClass", "()Ljava/lang/Class;"⟩ ∈ gw := gw_in (List.mem_append_right _ (List.mem_of_getElem? (i := 174) (by decide +kernel))) rfl
theorem k_AR_300 : u_Cb R_AR 300 y_AR_copyOf3 b_AR_copyOf3 4 (some (.array (.object "java/lang/Object"))) 3 := ⟨gw_in (List.mem_append_right _ (List.mem_of_getElem? (i := 183) (by decide +kernel))) rfl, gw_in (List.mem_append_right _ (List.mem_of_getElem? (i := 10) (by decide +kernel))) rfl, cd_AR_copyOf3, by decide +kernel⟩
theorem q_AR_304 : Cond.methodLink R_AR 304 Lib.Math.min.name ∈ gw := gw_in (List.mem_append_right _ (List.mem_of_getElem? (i := 189) (by decide +kernel))) rfl
theorem q_AR_150 : Cond.methodLink R_AR 150 arraycopyName ∈ gw := gw_in (List.mem_append_right _ (List.mem_of_getElem? (i := 192) (by decide +kernel))) rfl
theorem q_L_79 : Cond.methodLink R_L 79 Lib.Math.max.name ∈ gw := gw_in (List.mem_append_right _ (List.mem_of_getElem? (i := 195) (by decide +kernel))) rfl
theorem k_W_27 : u_Cb R_W 27 y_D_save b_D_save 3 (some .int) 1 := ⟨gw_in (List.mem_append_right _ (List.mem_of_getElem? (i := 197) (by decide +kernel))) rfl, gw_in (List.mem_append_right _ (List.mem_of_getElem? (i := 1) (by decide +kernel))) rfl, cd_D_save, by decide +kernel⟩
theorem k_W_31 : u_Cb R_W 31 y_D_release b_D_release 6 (some .boolean) 2 := ⟨gw_in (List.mem_append_right _ (List.mem_of_getElem? (i := 201) (by decide +kernel))) rfl, gw_in (List.mem_append_right _ (List.mem_of_getElem? (i := 1) (by decide +kernel))) rfl, cd_D_release, by decide +kernel⟩
theorem k_D_69 : u_Cb R_D 69 y_T_canLeave b_T_canLeave 2 (some .boolean) 1 := ⟨gw_in (List.mem_append_right _ (List.mem_of_getElem? (i := 205) (by decide +kernel))) rfl, gw_in (List.mem_append_right _ (List.mem_of_getElem? (i := 6) (by decide +kernel))) rfl, cd_T_canLeave, by decide +kernel⟩
theorem k_D_72 : u_Cb R_D 72 y_L_get b_L_get 2 (some (.object "java/lang/Object")) 1 := ⟨gw_in (List.mem_append_right _ (List.mem_of_getElem? (i := 209) (by decide +kernel))) rfl, gw_in (List.mem_append_right _ (List.mem_of_getElem? (i := 4) (by decide +kernel))) rfl, cd_L_get, by decide +kernel⟩
theorem k_L_118 : u_Cb R_L 118 y_O_checkIndex b_O_checkIndex 2 (some .int) 2 := ⟨gw_in (List.mem_append_right _ (List.mem_of_getElem? (i := 213) (by decide +kernel))) rfl, gw_in (List.mem_append_right _ (List.mem_of_getElem? (i := 12) (by decide +kernel))) rfl, cd_O_checkIndex, by decide +kernel⟩
theorem k_O_105 : u_Cb R_O 105 y_P_checkIndex b_P_checkIndex 3 (some .int) 3 := ⟨gw_in (List.mem_append_right _ (List.mem_of_getElem? (i := 216) (by decide +kernel))) rfl, gw_in (List.mem_append_right _ (List.mem_of_getElem? (i := 13) (by decide +kernel))) rfl, cd_P_checkIndex, by decide +kernel⟩
theorem k_L_123 : u_Cb R_L 123 y_L_elementData b_L_elementData 2 (some (.object "java/lang/Object")) 1 := ⟨gw_in (List.mem_append_right _ (List.mem_of_getElem? (i := 219) (by decide +kernel))) rfl, gw_in (List.mem_append_right _ (List.mem_of_getElem? (i := 4) (by decide +kernel))) rfl, cd_L_elementData, by decide +kernel⟩
theorem k_D_78 : u_Cb R_D 78 y_T_owns b_T_owns 2 (some .boolean) 1 := ⟨gw_in (List.mem_append_right _ (List.mem_of_getElem? (i := 223) (by decide +kernel))) rfl, gw_in (List.mem_append_right _ (List.mem_of_getElem? (i := 6) (by decide +kernel))) rfl, cd_T_owns, by decide +kernel⟩
theorem k_D_85 : u_Cb R_D 85 y_T_clearLevelsFrom b_T_clearLevelsFrom 3 none 1 := ⟨gw_in (List.mem_append_right _ (List.mem_of_getElem? (i := 227) (by decide +kernel))) rfl, gw_in (List.mem_append_right _ (List.mem_of_getElem? (i := 6) (by decide +kernel))) rfl, cd_T_clearLevelsFrom, by decide +kernel⟩
theorem k_W_35 : u_Cb R_W 35 y_D_back b_D_back 4 (some .boolean) 2 := ⟨gw_in (List.mem_append_right _ (List.mem_of_getElem? (i := 231) (by decide +kernel))) rfl, gw_in (List.mem_append_right _ (List.mem_of_getElem? (i := 1) (by decide +kernel))) rfl, cd_D_back, by decide +kernel⟩
theorem k_D_88 : u_Cb R_D 88 y_D_abortNumbersFrom b_D_abortNumbersFrom 5 none 2 := ⟨gw_in (List.mem_append_right _ (List.mem_of_getElem? (i := 235) (by decide +kernel))) rfl, gw_in (List.mem_append_right _ (List.mem_of_getElem? (i := 1) (by decide +kernel))) rfl, cd_D_abortNumbersFrom, by decide +kernel⟩
theorem k_W_39 : u_Cb R_W 39 y_D_commit b_D_commit 3 (some .int) 1 := ⟨gw_in (List.mem_append_right _ (List.mem_of_getElem? (i := 239) (by decide +kernel))) rfl, gw_in (List.mem_append_right _ (List.mem_of_getElem? (i := 1) (by decide +kernel))) rfl, cd_D_commit, by decide +kernel⟩
theorem k_D_92 : u_Cb R_D 92 y_D_commitRunningNumbers b_D_commitRunningNumbers 4 none 1 := ⟨gw_in (List.mem_append_right _ (List.mem_of_getElem? (i := 243) (by decide +kernel))) rfl, gw_in (List.mem_append_right _ (List.mem_of_getElem? (i := 1) (by decide +kernel))) rfl, cd_D_commitRunningNumbers, by decide +kernel⟩
theorem k_W_43 : u_Cb R_W 43 y_D_abort b_D_abort 3 (some .boolean) 1 := ⟨gw_in (List.mem_append_right _ (List.mem_of_getElem? (i := 247) (by decide +kernel))) rfl, gw_in (List.mem_append_right _ (List.mem_of_getElem? (i := 1) (by decide +kernel))) rfl, cd_D_abort, by decide +kernel⟩
theorem k_W_48 : u_Cb R_W 48 y_D_crash b_D_crash 2 none 0 := ⟨gw_in (List.mem_append_right _ (List.mem_of_getElem? (i := 251) (by decide +kernel))) rfl, gw_in (List.mem_append_right _ (List.mem_of_getElem? (i := 1) (by decide +kernel))) rfl, cd_D_crash, by decide +kernel⟩
theorem k_D_95 : u_Cb R_D 95 y_D_abort b_D_abort 3 (some .boolean) 1 := ⟨gw_in (List.mem_append_right _ (List.mem_of_getElem? (i := 255) (by decide +kernel))) rfl, gw_in (List.mem_append_right _ (List.mem_of_getElem? (i := 1) (by decide +kernel))) rfl, cd_D_abort, by decide +kernel⟩
theorem k_W_52 : u_Cb R_W 52 y_D_state b_D_state 3 (some .int) 1 := ⟨gw_in (List.mem_append_right _ (List.mem_of_getElem? (i := 256) (by decide +kernel))) rfl, gw_in (List.mem_append_right _ (List.mem_of_getElem? (i := 1) (by decide +kernel))) rfl, cd_D_state, by decide +kernel⟩
theorem k_D_98 : u_Cb R_D 98 y_D_find b_D_find 2 (some (.object "SnapshotDesk$Given")) 1 := ⟨gw_in (List.mem_append_right _ (List.mem_of_getElem? (i := 260) (by decide +kernel))) rfl, gw_in (List.mem_append_right _ (List.mem_of_getElem? (i := 1) (by decide +kernel))) rfl, cd_D_find, by decide +kernel⟩
theorem k_W_56 : u_Cb R_W 56 y_D_root b_D_root 3 (some .int) 1 := ⟨gw_in (List.mem_append_right _ (List.mem_of_getElem? (i := 264) (by decide +kernel))) rfl, gw_in (List.mem_append_right _ (List.mem_of_getElem? (i := 1) (by decide +kernel))) rfl, cd_D_root, by decide +kernel⟩
theorem k_W_60 : u_Cb R_W 60 y_D_place b_D_place 3 (some .int) 1 := ⟨gw_in (List.mem_append_right _ (List.mem_of_getElem? (i := 268) (by decide +kernel))) rfl, gw_in (List.mem_append_right _ (List.mem_of_getElem? (i := 1) (by decide +kernel))) rfl, cd_D_place, by decide +kernel⟩
theorem k_W_64 : u_Cb R_W 64 y_D_sees b_D_sees 7 (some .boolean) 5 := ⟨gw_in (List.mem_append_right _ (List.mem_of_getElem? (i := 272) (by decide +kernel))) rfl, gw_in (List.mem_append_right _ (List.mem_of_getElem? (i := 1) (by decide +kernel))) rfl, cd_D_sees, by decide +kernel⟩
theorem k_D_111 : u_Cb R_D 111 y_D_seesDeed b_D_seesDeed 3 (some .boolean) 3 := ⟨gw_in (List.mem_append_right _ (List.mem_of_getElem? (i := 276) (by decide +kernel))) rfl, gw_in (List.mem_append_right _ (List.mem_of_getElem? (i := 1) (by decide +kernel))) rfl, cd_D_seesDeed, by decide +kernel⟩
theorem k_W_69 : u_Cb R_W 69 y_D_ending b_D_ending 7 (some .int) 3 := ⟨gw_in (List.mem_append_right _ (List.mem_of_getElem? (i := 279) (by decide +kernel))) rfl, gw_in (List.mem_append_right _ (List.mem_of_getElem? (i := 1) (by decide +kernel))) rfl, cd_D_ending, by decide +kernel⟩
theorem k_W_74 : u_Cb R_W 74 y_D_dead b_D_dead 4 (some .boolean) 2 := ⟨gw_in (List.mem_append_right _ (List.mem_of_getElem? (i := 283) (by decide +kernel))) rfl, gw_in (List.mem_append_right _ (List.mem_of_getElem? (i := 1) (by decide +kernel))) rfl, cd_D_dead, by decide +kernel⟩
theorem k_D_115 : u_Cb R_D 115 y_D_isInEveryLiveSnapshot b_D_isInEveryLiveSnapshot 4 (some .boolean) 1 := ⟨gw_in (List.mem_append_right _ (List.mem_of_getElem? (i := 287) (by decide +kernel))) rfl, gw_in (List.mem_append_right _ (List.mem_of_getElem? (i := 1) (by decide +kernel))) rfl, cd_D_isInEveryLiveSnapshot, by decide +kernel⟩
theorem k_W_78 : u_Cb R_W 78 y_D_look b_D_look 4 (some .int) 2 := ⟨gw_in (List.mem_append_right _ (List.mem_of_getElem? (i := 291) (by decide +kernel))) rfl, gw_in (List.mem_append_right _ (List.mem_of_getElem? (i := 1) (by decide +kernel))) rfl, cd_D_look, by decide +kernel⟩
theorem k_D_118 : u_Cb R_D 118 y_D_lookAt b_D_lookAt 2 (some .int) 2 := ⟨gw_in (List.mem_append_right _ (List.mem_of_getElem? (i := 295) (by decide +kernel))) rfl, gw_in (List.mem_append_right _ (List.mem_of_getElem? (i := 1) (by decide +kernel))) rfl, cd_D_lookAt, by decide +kernel⟩
theorem k_W_12 : u_Cb R_W 12 y_M_init b_M_init 1 none 0 := ⟨gw_in (List.mem_append_right _ (List.mem_of_getElem? (i := 300) (by decide +kernel))) rfl, gw_in (List.mem_append_right _ (List.mem_of_getElem? (i := 5) (by decide +kernel))) rfl, cd_M_init, by decide +kernel⟩
theorem o_M_1 : Cond.methodLink R_M 1 Lib.objectInit ∈ gw := gw_in (List.mem_append_right _ (List.mem_of_getElem? (i := 303) (by decide +kernel))) rfl
theorem k_W_17 : u_Cb R_W 17 y_M_begin b_M_begin 3 (some .boolean) 2 := ⟨gw_in (List.mem_append_right _ (List.mem_of_getElem? (i := 342) (by decide +kernel))) rfl, gw_in (List.mem_append_right _ (List.mem_of_getElem? (i := 5) (by decide +kernel))) rfl, cd_M_begin, by decide +kernel⟩
theorem k_W_22 : u_Cb R_W 22 y_M_statement b_M_statement 2 (some .int) 1 := ⟨gw_in (List.mem_append_right _ (List.mem_of_getElem? (i := 346) (by decide +kernel))) rfl, gw_in (List.mem_append_right _ (List.mem_of_getElem? (i := 5) (by decide +kernel))) rfl, cd_M_statement, by decide +kernel⟩
theorem k_M_45 : u_Cb R_M 45 y_M_runs b_M_runs 2 (some .boolean) 1 := ⟨gw_in (List.mem_append_right _ (List.mem_of_getElem? (i := 350) (by decide +kernel))) rfl, gw_in (List.mem_append_right _ (List.mem_of_getElem? (i := 5) (by decide +kernel))) rfl, cd_M_runs, by decide +kernel⟩
theorem k_W_26 : u_Cb R_W 26 y_M_number b_M_number 4 (some .int) 1 := ⟨gw_in (List.mem_append_right _ (List.mem_of_getElem? (i := 354) (by decide +kernel))) rfl, gw_in (List.mem_append_right _ (List.mem_of_getElem? (i := 5) (by decide +kernel))) rfl, cd_M_number, by decide +kernel⟩
theorem k_W_30 : u_Cb R_W 30 y_M_save b_M_save 2 (some .int) 1 := ⟨gw_in (List.mem_append_right _ (List.mem_of_getElem? (i := 358) (by decide +kernel))) rfl, gw_in (List.mem_append_right _ (List.mem_of_getElem? (i := 5) (by decide +kernel))) rfl, cd_M_save, by decide +kernel⟩
theorem k_W_34 : u_Cb R_W 34 y_M_release b_M_release 4 (some .boolean) 2 := ⟨gw_in (List.mem_append_right _ (List.mem_of_getElem? (i := 362) (by decide +kernel))) rfl, gw_in (List.mem_append_right _ (List.mem_of_getElem? (i := 5) (by decide +kernel))) rfl, cd_M_release, by decide +kernel⟩
theorem k_M_52 : u_Cb R_M 52 y_M_isFrom b_M_isFrom 4 (some .boolean) 3 := ⟨gw_in (List.mem_append_right _ (List.mem_of_getElem? (i := 366) (by decide +kernel))) rfl, gw_in (List.mem_append_right _ (List.mem_of_getElem? (i := 5) (by decide +kernel))) rfl, cd_M_isFrom, by decide +kernel⟩
theorem k_W_38 : u_Cb R_W 38 y_M_back b_M_back 4 (some .boolean) 2 := ⟨gw_in (List.mem_append_right _ (List.mem_of_getElem? (i := 370) (by decide +kernel))) rfl, gw_in (List.mem_append_right _ (List.mem_of_getElem? (i := 5) (by decide +kernel))) rfl, cd_M_back, by decide +kernel⟩
theorem k_W_42 : u_Cb R_W 42 y_M_commit b_M_commit 3 (some .int) 1 := ⟨gw_in (List.mem_append_right _ (List.mem_of_getElem? (i := 374) (by decide +kernel))) rfl, gw_in (List.mem_append_right _ (List.mem_of_getElem? (i := 5) (by decide +kernel))) rfl, cd_M_commit, by decide +kernel⟩
theorem k_M_56 : u_Cb R_M 56 y_M_ends b_M_ends 5 (some .int) 2 := ⟨gw_in (List.mem_append_right _ (List.mem_of_getElem? (i := 378) (by decide +kernel))) rfl, gw_in (List.mem_append_right _ (List.mem_of_getElem? (i := 5) (by decide +kernel))) rfl, cd_M_ends, by decide +kernel⟩
theorem k_W_47 : u_Cb R_W 47 y_M_abort b_M_abort 3 (some .boolean) 1 := ⟨gw_in (List.mem_append_right _ (List.mem_of_getElem? (i := 382) (by decide +kernel))) rfl, gw_in (List.mem_append_right _ (List.mem_of_getElem? (i := 5) (by decide +kernel))) rfl, cd_M_abort, by decide +kernel⟩
theorem k_W_51 : u_Cb R_W 51 y_M_crash b_M_crash 3 none 0 := ⟨gw_in (List.mem_append_right _ (List.mem_of_getElem? (i := 386) (by decide +kernel))) rfl, gw_in (List.mem_append_right _ (List.mem_of_getElem? (i := 5) (by decide +kernel))) rfl, cd_M_crash, by decide +kernel⟩
theorem k_M_60 : u_Cb R_M 60 y_M_abort b_M_abort 3 (some .boolean) 1 := ⟨gw_in (List.mem_append_right _ (List.mem_of_getElem? (i := 390) (by decide +kernel))) rfl, gw_in (List.mem_append_right _ (List.mem_of_getElem? (i := 5) (by decide +kernel))) rfl, cd_M_abort, by decide +kernel⟩
theorem k_W_55 : u_Cb R_W 55 y_M_state b_M_state 2 (some .int) 1 := ⟨gw_in (List.mem_append_right _ (List.mem_of_getElem? (i := 391) (by decide +kernel))) rfl, gw_in (List.mem_append_right _ (List.mem_of_getElem? (i := 5) (by decide +kernel))) rfl, cd_M_state, by decide +kernel⟩
theorem k_M_63 : u_Cb R_M 63 y_M_isGiven b_M_isGiven 2 (some .boolean) 1 := ⟨gw_in (List.mem_append_right _ (List.mem_of_getElem? (i := 395) (by decide +kernel))) rfl, gw_in (List.mem_append_right _ (List.mem_of_getElem? (i := 5) (by decide +kernel))) rfl, cd_M_isGiven, by decide +kernel⟩
theorem k_W_59 : u_Cb R_W 59 y_M_root b_M_root 2 (some .int) 1 := ⟨gw_in (List.mem_append_right _ (List.mem_of_getElem? (i := 399) (by decide +kernel))) rfl, gw_in (List.mem_append_right _ (List.mem_of_getElem? (i := 5) (by decide +kernel))) rfl, cd_M_root, by decide +kernel⟩
theorem k_W_63 : u_Cb R_W 63 y_M_place b_M_place 2 (some .int) 1 := ⟨gw_in (List.mem_append_right _ (List.mem_of_getElem? (i := 403) (by decide +kernel))) rfl, gw_in (List.mem_append_right _ (List.mem_of_getElem? (i := 5) (by decide +kernel))) rfl, cd_M_place, by decide +kernel⟩
theorem k_W_68 : u_Cb R_W 68 y_M_sees b_M_sees 6 (some .boolean) 5 := ⟨gw_in (List.mem_append_right _ (List.mem_of_getElem? (i := 407) (by decide +kernel))) rfl, gw_in (List.mem_append_right _ (List.mem_of_getElem? (i := 5) (by decide +kernel))) rfl, cd_M_sees, by decide +kernel⟩
theorem k_M_66 : u_Cb R_M 66 y_M_isSeen b_M_isSeen 4 (some .boolean) 3 := ⟨gw_in (List.mem_append_right _ (List.mem_of_getElem? (i := 411) (by decide +kernel))) rfl, gw_in (List.mem_append_right _ (List.mem_of_getElem? (i := 5) (by decide +kernel))) rfl, cd_M_isSeen, by decide +kernel⟩
theorem k_W_73 : u_Cb R_W 73 y_M_ending b_M_ending 5 (some .int) 3 := ⟨gw_in (List.mem_append_right _ (List.mem_of_getElem? (i := 415) (by decide +kernel))) rfl, gw_in (List.mem_append_right _ (List.mem_of_getElem? (i := 5) (by decide +kernel))) rfl, cd_M_ending, by decide +kernel⟩
theorem k_W_77 : u_Cb R_W 77 y_M_dead b_M_dead 5 (some .boolean) 2 := ⟨gw_in (List.mem_append_right _ (List.mem_of_getElem? (i := 419) (by decide +kernel))) rfl, gw_in (List.mem_append_right _ (List.mem_of_getElem? (i := 5) (by decide +kernel))) rfl, cd_M_dead, by decide +kernel⟩
theorem k_W_82 : u_Cb R_W 82 y_M_look b_M_look 3 (some .int) 2 := ⟨gw_in (List.mem_append_right _ (List.mem_of_getElem? (i := 423) (by decide +kernel))) rfl, gw_in (List.mem_append_right _ (List.mem_of_getElem? (i := 5) (by decide +kernel))) rfl, cd_M_look, by decide +kernel⟩
theorem g_L_39 : Cond.fieldLink R_L 39 "java/util/ArrayList" "DEFAULTCAPACITY_EMPTY_ELEMENTDATA" "[Ljava/lang/Object;" ∈ gw := gw_in (List.mem_append_right _ (List.mem_of_getElem? (i := 36) (by decide +kernel))) rfl
theorem f_L_9 : u_Ff R_L 9 4 1 R_L F_L 3 := ⟨rfl, by decide, i_L, "java/util/ArrayList", gw_in (List.mem_append_right _ (List.mem_of_getElem? (i := 38) (by decide +kernel))) rfl, Or.inl rfl⟩
theorem f_L_48 : u_Ff R_L 48 4 2 R_L F_L 3 := ⟨rfl, by decide, i_L, "java/util/ArrayList", gw_in (List.mem_append_right _ (List.mem_of_getElem? (i := 39) (by decide +kernel))) rfl, Or.inl rfl⟩
theorem f_AL_7 : u_Ff R_AL 7 4 0 R_L F_L 3 := ⟨rfl, by decide, i_L, "java/util/AbstractList", gw_in (List.mem_append_right _ (List.mem_of_getElem? (i := 40) (by decide +kernel))) rfl, Or.inl rfl⟩
theorem f_L_63 : u_Ff R_L 63 4 0 R_L F_L 3 := ⟨rfl, by decide, i_L, "java/util/ArrayList", gw_in (List.mem_append_right _ (List.mem_of_getElem? (i := 41) (by decide +kernel))) rfl, Or.inr (gw_in (List.mem_append_right _ (List.mem_of_getElem? (i := 42) (by decide +kernel))) rfl)⟩
theorem f_D_11 : u_Ff R_D 11 1 0 R_D F_D 3 := ⟨rfl, by decide, i_D, "SnapshotDesk", gw_in (List.mem_append_right _ (List.mem_of_getElem? (i := 50) (by decide +kernel))) rfl, Or.inl rfl⟩
theorem f_D_18 : u_Ff R_D 18 1 1 R_D F_D 3 := ⟨rfl, by decide, i_D, "SnapshotDesk", gw_in (List.mem_append_right _ (List.mem_of_getElem? (i := 51) (by decide +kernel))) rfl, Or.inl rfl⟩
theorem f_D_22 : u_Ff R_D 22 1 2 R_D F_D 3 := ⟨rfl, by decide, i_D, "SnapshotDesk", gw_in (List.mem_append_right _ (List.mem_of_getElem? (i := 52) (by decide +kernel))) rfl, Or.inl rfl⟩
theorem f_T_25 : u_Ff R_T 25 3 0 R_T F_T 5 := ⟨rfl, by decide, i_T, "SnapshotDesk$Transaction", gw_in (List.mem_append_right _ (List.mem_of_getElem? (i := 72) (by decide +kernel))) rfl, Or.inl rfl⟩
theorem f_D_40 : u_Ff R_D 40 3 0 R_T F_T 5 := ⟨rfl, by decide, i_T, "SnapshotDesk$Transaction", gw_in (List.mem_append_right _ (List.mem_of_getElem? (i := 73) (by decide +kernel))) rfl, Or.inl rfl⟩
theorem f_T_9 : u_Ff R_T 9 3 1 R_T F_T 5 := ⟨rfl, by decide, i_T, "SnapshotDesk$Transaction", gw_in (List.mem_append_right _ (List.mem_of_getElem? (i := 74) (by decide +kernel))) rfl, Or.inl rfl⟩
theorem f_D_62 : u_Ff R_D 62 3 1 R_T F_T 5 := ⟨rfl, by decide, i_T, "SnapshotDesk$Transaction", gw_in (List.mem_append_right _ (List.mem_of_getElem? (i := 75) (by decide +kernel))) rfl, Or.inl rfl⟩
theorem f_T_15 : u_Ff R_T 15 3 2 R_T F_T 5 := ⟨rfl, by decide, i_T, "SnapshotDesk$Transaction", gw_in (List.mem_append_right _ (List.mem_of_getElem? (i := 76) (by decide +kernel))) rfl, Or.inl rfl⟩
theorem f_D_66 : u_Ff R_D 66 3 2 R_T F_T 5 := ⟨rfl, by decide, i_T, "SnapshotDesk$Transaction", gw_in (List.mem_append_right _ (List.mem_of_getElem? (i := 77) (by decide +kernel))) rfl, Or.inl rfl⟩
theorem f_T_19 : u_Ff R_T 19 3 3 R_T F_T 5 := ⟨rfl, by decide, i_T, "SnapshotDesk$Transaction", gw_in (List.mem_append_right _ (List.mem_of_getElem? (i := 78) (by decide +kernel))) rfl, Or.inl rfl⟩
theorem f_D_37 : u_Ff R_D 37 3 3 R_T F_T 5 := ⟨rfl, by decide, i_T, "SnapshotDesk$Transaction", gw_in (List.mem_append_right _ (List.mem_of_getElem? (i := 79) (by decide +kernel))) rfl, Or.inl rfl⟩
theorem f_T_22 : u_Ff R_T 22 3 4 R_T F_T 5 := ⟨rfl, by decide, i_T, "SnapshotDesk$Transaction", gw_in (List.mem_append_right _ (List.mem_of_getElem? (i := 80) (by decide +kernel))) rfl, Or.inl rfl⟩
theorem f_D_47 : u_Ff R_D 47 3 4 R_T F_T 5 := ⟨rfl, by decide, i_T, "SnapshotDesk$Transaction", gw_in (List.mem_append_right _ (List.mem_of_getElem? (i := 81) (by decide +kernel))) rfl, Or.inl rfl⟩
theorem f_G_18 : u_Ff R_G 18 2 0 R_G F_G 4 := ⟨rfl, by decide, i_G, "SnapshotDesk$Given", gw_in (List.mem_append_right _ (List.mem_of_getElem? (i := 127) (by decide +kernel))) rfl, Or.inl rfl⟩
theorem f_T_28 : u_Ff R_T 28 2 0 R_G F_G 4 := ⟨rfl, by decide, i_G, "SnapshotDesk$Given", gw_in (List.mem_append_right _ (List.mem_of_getElem? (i := 128) (by decide +kernel))) rfl, Or.inl rfl⟩
theorem f_D_105 : u_Ff R_D 105 2 0 R_G F_G 4 := ⟨rfl, by decide, i_G, "SnapshotDesk$Given", gw_in (List.mem_append_right _ (List.mem_of_getElem? (i := 129) (by decide +kernel))) rfl, Or.inl rfl⟩
theorem f_G_21 : u_Ff R_G 21 2 1 R_G F_G 4 := ⟨rfl, by decide, i_G, "SnapshotDesk$Given", gw_in (List.mem_append_right _ (List.mem_of_getElem? (i := 130) (by decide +kernel))) rfl, Or.inl rfl⟩
theorem f_D_82 : u_Ff R_D 82 2 1 R_G F_G 4 := ⟨rfl, by decide, i_G, "SnapshotDesk$Given", gw_in (List.mem_append_right _ (List.mem_of_getElem? (i := 131) (by decide +kernel))) rfl, Or.inl rfl⟩
theorem f_G_9 : u_Ff R_G 9 2 2 R_G F_G 4 := ⟨rfl, by decide, i_G, "SnapshotDesk$Given", gw_in (List.mem_append_right _ (List.mem_of_getElem? (i := 132) (by decide +kernel))) rfl, Or.inl rfl⟩
theorem f_D_102 : u_Ff R_D 102 2 2 R_G F_G 4 := ⟨rfl, by decide, i_G, "SnapshotDesk$Given", gw_in (List.mem_append_right _ (List.mem_of_getElem? (i := 133) (by decide +kernel))) rfl, Or.inl rfl⟩
theorem f_G_15 : u_Ff R_G 15 2 3 R_G F_G 4 := ⟨rfl, by decide, i_G, "SnapshotDesk$Given", gw_in (List.mem_append_right _ (List.mem_of_getElem? (i := 134) (by decide +kernel))) rfl, Or.inl rfl⟩
theorem f_D_108 : u_Ff R_D 108 2 3 R_G F_G 4 := ⟨rfl, by decide, i_G, "SnapshotDesk$Given", gw_in (List.mem_append_right _ (List.mem_of_getElem? (i := 135) (by decide +kernel))) rfl, Or.inl rfl⟩
theorem f_M_41 : u_Ff R_M 41 0 0 R_M F_M 12 := ⟨rfl, by decide, i_M, "SnapshotDeskModel", gw_in (List.mem_append_right _ (List.mem_of_getElem? (i := 304) (by decide +kernel))) rfl, Or.inl rfl⟩
theorem f_M_49 : u_Ff R_M 49 0 1 R_M F_M 12 := ⟨rfl, by decide, i_M, "SnapshotDeskModel", gw_in (List.mem_append_right _ (List.mem_of_getElem? (i := 305) (by decide +kernel))) rfl, Or.inl rfl⟩
theorem f_M_7 : u_Ff R_M 7 0 2 R_M F_M 12 := ⟨rfl, by decide, i_M, "SnapshotDeskModel", gw_in (List.mem_append_right _ (List.mem_of_getElem? (i := 306) (by decide +kernel))) rfl, Or.inl rfl⟩
theorem f_M_13 : u_Ff R_M 13 0 3 R_M F_M 12 := ⟨rfl, by decide, i_M, "SnapshotDeskModel", gw_in (List.mem_append_right _ (List.mem_of_getElem? (i := 307) (by decide +kernel))) rfl, Or.inl rfl⟩
theorem f_M_16 : u_Ff R_M 16 0 4 R_M F_M 12 := ⟨rfl, by decide, i_M, "SnapshotDeskModel", gw_in (List.mem_append_right _ (List.mem_of_getElem? (i := 308) (by decide +kernel))) rfl, Or.inl rfl⟩
theorem f_M_19 : u_Ff R_M 19 0 5 R_M F_M 12 := ⟨rfl, by decide, i_M, "SnapshotDeskModel", gw_in (List.mem_append_right _ (List.mem_of_getElem? (i := 309) (by decide +kernel))) rfl, Or.inl rfl⟩
theorem f_M_22 : u_Ff R_M 22 0 6 R_M F_M 12 := ⟨rfl, by decide, i_M, "SnapshotDeskModel", gw_in (List.mem_append_right _ (List.mem_of_getElem? (i := 310) (by decide +kernel))) rfl, Or.inl rfl⟩
theorem f_M_26 : u_Ff R_M 26 0 7 R_M F_M 12 := ⟨rfl, by decide, i_M, "SnapshotDeskModel", gw_in (List.mem_append_right _ (List.mem_of_getElem? (i := 311) (by decide +kernel))) rfl, Or.inl rfl⟩
theorem f_M_29 : u_Ff R_M 29 0 8 R_M F_M 12 := ⟨rfl, by decide, i_M, "SnapshotDeskModel", gw_in (List.mem_append_right _ (List.mem_of_getElem? (i := 312) (by decide +kernel))) rfl, Or.inl rfl⟩
theorem f_M_32 : u_Ff R_M 32 0 9 R_M F_M 12 := ⟨rfl, by decide, i_M, "SnapshotDeskModel", gw_in (List.mem_append_right _ (List.mem_of_getElem? (i := 313) (by decide +kernel))) rfl, Or.inl rfl⟩
theorem f_M_35 : u_Ff R_M 35 0 10 R_M F_M 12 := ⟨rfl, by decide, i_M, "SnapshotDeskModel", gw_in (List.mem_append_right _ (List.mem_of_getElem? (i := 314) (by decide +kernel))) rfl, Or.inl rfl⟩
theorem f_M_38 : u_Ff R_M 38 0 11 R_M F_M 12 := ⟨rfl, by decide, i_M, "SnapshotDeskModel", gw_in (List.mem_append_right _ (List.mem_of_getElem? (i := 315) (by decide +kernel))) rfl, Or.inl rfl⟩
theorem l_W_7 : Cond.classLink R_W 7 "SnapshotDesk" ∈ gw := gw_in (List.mem_append_right _ (List.mem_of_getElem? (i := 14) (by decide +kernel))) rfl
theorem n_W_7 : u_Nf R_W 7 1 R_D F_D 3 ty_D [.null, .null, .int 0] := ⟨rfl, i_D, tk_D, l_W_7, gw_in (List.mem_append_right _ (List.mem_of_getElem? (i := 15) (by decide +kernel))) rfl, gw_in (List.mem_append_right _ (List.mem_of_getElem? (i := 1) (by decide +kernel))) rfl, by decide +kernel⟩
theorem l_D_9 : Cond.classLink R_D 9 "SnapshotDesk$Transaction" ∈ gw := gw_in (List.mem_append_right _ (List.mem_of_getElem? (i := 22) (by decide +kernel))) rfl
theorem n_D_9 : u_Nf R_D 9 3 R_T F_T 5 ty_T [.int 0, .null, .int 0, .int 0, .int 0] := ⟨rfl, i_T, tk_T, l_D_9, gw_in (List.mem_append_right _ (List.mem_of_getElem? (i := 67) (by decide +kernel))) rfl, gw_in (List.mem_append_right _ (List.mem_of_getElem? (i := 6) (by decide +kernel))) rfl, by decide +kernel⟩
theorem l_D_15 : Cond.classLink R_D 15 "java/util/ArrayList" ∈ gw := gw_in (List.mem_append_right _ (List.mem_of_getElem? (i := 24) (by decide +kernel))) rfl
theorem n_D_15 : u_Nf R_D 15 4 R_L F_L 3 ty_L [.int 0, .null, .int 0] := ⟨rfl, i_L, tk_L, l_D_15, gw_in (List.mem_append_right _ (List.mem_of_getElem? (i := 25) (by decide +kernel))) rfl, gw_in (List.mem_append_right _ (List.mem_of_getElem? (i := 4) (by decide +kernel))) rfl, by decide +kernel⟩
theorem l_D_76 : Cond.classLink R_D 76 "SnapshotDesk$Given" ∈ gw := gw_in (List.mem_append_right _ (List.mem_of_getElem? (i := 121) (by decide +kernel))) rfl
theorem n_D_76 : u_Nf R_D 76 2 R_G F_G 4 ty_G [.int 0, .int 0, .int 0, .int 0] := ⟨rfl, i_G, tk_G, l_D_76, gw_in (List.mem_append_right _ (List.mem_of_getElem? (i := 122) (by decide +kernel))) rfl, gw_in (List.mem_append_right _ (List.mem_of_getElem? (i := 7) (by decide +kernel))) rfl, by decide +kernel⟩
theorem l_AR_110 : Cond.classLink R_AR 110 "[Ljava/lang/Object;" ∈ gw := gw_in (List.mem_append_right _ (List.mem_of_getElem? (i := 186) (by decide +kernel))) rfl
theorem l_AR_2 : Cond.classLink R_AR 2 "java/lang/Object" ∈ gw := gw_in (List.mem_append_right _ (List.mem_of_getElem? (i := 188) (by decide +kernel))) rfl
theorem l_L_7 : Cond.classLink R_L 7 "java/lang/Object" ∈ gw := gw_in (List.mem_append_right _ (List.mem_of_getElem? (i := 196) (by decide +kernel))) rfl
theorem l_W_10 : Cond.classLink R_W 10 "SnapshotDeskModel" ∈ gw := gw_in (List.mem_append_right _ (List.mem_of_getElem? (i := 298) (by decide +kernel))) rfl
theorem n_W_10 : u_Nf R_W 10 0 R_M F_M 12 ty_M [.int 0, .int 0, .null, .null, .null, .null, .null, .null, .null, .null, .null, .null] := ⟨rfl, i_M, tk_M, l_W_10, gw_in (List.mem_append_right _ (List.mem_of_getElem? (i := 299) (by decide +kernel))) rfl, gw_in (List.mem_append_right _ (List.mem_of_getElem? (i := 5) (by decide +kernel))) rfl, by decide +kernel⟩
theorem a_int : Cond.arrayClass .int ∈ gw := gw_in (List.mem_append_right _ (List.mem_of_getElem? (i := 93) (by decide +kernel))) rfl
theorem a_bool : Cond.arrayClass .boolean ∈ gw := gw_in (List.mem_append_right _ (List.mem_of_getElem? (i := 341) (by decide +kernel))) rfl
theorem m_max_s : Cond.static Lib.Math.max.name ∈ gw := gw_in (List.mem_append_right _ (List.mem_of_getElem? (i := 165) (by decide +kernel))) rfl
theorem m_max_c : Cond.code Lib.Math.max.name Lib.Math.max.code 2 (some .int) ∈ gw := gw_in (List.mem_append_right _ (List.mem_of_getElem? (i := 166) rfl)) rfl
theorem m_min_s : Cond.static Lib.Math.min.name ∈ gw := gw_in (List.mem_append_right _ (List.mem_of_getElem? (i := 190) (by decide +kernel))) rfl
theorem m_min_c : Cond.code Lib.Math.min.name Lib.Math.min.code 2 (some .int) ∈ gw := gw_in (List.mem_append_right _ (List.mem_of_getElem? (i := 191) rfl)) rfl
theorem m_i : Cond.initialized "java/lang/Math" ∈ gw := gw_in (List.mem_append_right _ (List.mem_of_getElem? (i := 9) (by decide +kernel))) rfl
theorem ac_s : Cond.static arraycopyName ∈ gw := gw_in (List.mem_append_right _ (List.mem_of_getElem? (i := 193) (by decide +kernel))) rfl
theorem ac_n : Cond.native arraycopyName ∈ gw := gw_in (List.mem_append_right _ (List.mem_of_getElem? (i := 194) (by decide +kernel))) rfl
theorem ac_i : Cond.initialized "java/lang/System" ∈ gw := gw_in (List.mem_append_right _ (List.mem_of_getElem? (i := 11) (by decide +kernel))) rfl
theorem gc_n : Cond.native ⟨"java/lang/Object", "getClass", "()Ljava/lang/Class;"⟩ ∈ gw := gw_in (List.mem_append_right _ (List.mem_of_getElem? (i := 182) (by decide +kernel))) rfl
theorem gc_i : Cond.instanceMethod ⟨"java/lang/Object", "getClass", "()Ljava/lang/Class;"⟩ ∈ gw := gw_in (List.mem_append_right _ (List.mem_of_getElem? (i := 175) (by decide +kernel))) rfl
theorem gc_s : Cond.selects "[Ljava/lang/Object;" ⟨"java/lang/Object", "getClass", "()Ljava/lang/Class;"⟩ ⟨"java/lang/Object", "getClass", "()Ljava/lang/Class;"⟩ ∈ gw := gw_in (List.mem_append_right _ (List.mem_of_getElem? (i := 429) (by decide +kernel))) rfl
theorem o_I : Cond.instanceMethod Lib.objectInit ∈ gw := gw_in (List.mem_append_right _ (List.mem_of_getElem? (i := 20) (by decide +kernel))) rfl
theorem o_C : Cond.code Lib.objectInit ⟨#[0xb1]⟩ 1 none ∈ gw := gw_in (List.mem_append_right _ (List.mem_of_getElem? (i := 21) rfl)) rfl
