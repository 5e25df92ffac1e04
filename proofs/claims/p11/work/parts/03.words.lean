/-! THE WORDS of the tables, one by one, by program -/
theorem w_0 : Cond.initialized "ExpectRowsLaw" ∈ GW := gw_of (List.mem_append_right _ (List.mem_append_left _ (List.mem_of_getElem? (i := 0) rfl))) rfl
theorem w_1 : Cond.initialized "ExpectRows" ∈ GW := gw_of (List.mem_append_right _ (List.mem_append_left _ (List.mem_of_getElem? (i := 1) rfl))) rfl
theorem w_2 : Cond.initialized "ExpectRows$RowList" ∈ GW := gw_of (List.mem_append_right _ (List.mem_append_left _ (List.mem_of_getElem? (i := 2) rfl))) rfl
theorem w_3 : Cond.initialized "java/util/AbstractCollection" ∈ GW := gw_of (List.mem_append_right _ (List.mem_append_left _ (List.mem_of_getElem? (i := 3) rfl))) rfl
theorem w_4 : Cond.initialized "java/util/AbstractList" ∈ GW := gw_of (List.mem_append_right _ (List.mem_append_left _ (List.mem_of_getElem? (i := 4) rfl))) rfl
theorem w_5 : Cond.initialized "java/util/ArrayList" ∈ GW := gw_of (List.mem_append_right _ (List.mem_append_left _ (List.mem_of_getElem? (i := 5) rfl))) rfl
theorem w_6 : Cond.initialized "ExpectRows$HolidayList" ∈ GW := gw_of (List.mem_append_right _ (List.mem_append_left _ (List.mem_of_getElem? (i := 6) rfl))) rfl
theorem w_7 : Cond.initialized "ExpectRows$AlarmList" ∈ GW := gw_of (List.mem_append_right _ (List.mem_append_left _ (List.mem_of_getElem? (i := 7) rfl))) rfl
theorem w_8 : Cond.initialized "ExpectRows$PlaceCounts" ∈ GW := gw_of (List.mem_append_right _ (List.mem_append_left _ (List.mem_of_getElem? (i := 8) rfl))) rfl
theorem w_9 : Cond.initialized "ExpectRows$DeliveryList" ∈ GW := gw_of (List.mem_append_right _ (List.mem_append_left _ (List.mem_of_getElem? (i := 9) rfl))) rfl
theorem w_10 : Cond.initialized "ExpectRows$Item" ∈ GW := gw_of (List.mem_append_right _ (List.mem_append_left _ (List.mem_of_getElem? (i := 10) rfl))) rfl
theorem w_11 : Cond.initialized "ExpectRowsModel" ∈ GW := gw_of (List.mem_append_right _ (List.mem_append_left _ (List.mem_of_getElem? (i := 11) rfl))) rfl
theorem w_12 : Cond.initialized "ExpectRows$Row" ∈ GW := gw_of (List.mem_append_right _ (List.mem_append_left _ (List.mem_of_getElem? (i := 12) rfl))) rfl
theorem w_13 : Cond.initialized "jdk/internal/util/ArraysSupport" ∈ GW := gw_of (List.mem_append_right _ (List.mem_append_left _ (List.mem_of_getElem? (i := 13) rfl))) rfl
theorem w_14 : Cond.initialized "java/lang/Math" ∈ GW := gw_of (List.mem_append_right _ (List.mem_append_left _ (List.mem_of_getElem? (i := 14) rfl))) rfl
theorem w_15 : Cond.initialized "java/util/Arrays" ∈ GW := gw_of (List.mem_append_right _ (List.mem_append_left _ (List.mem_of_getElem? (i := 15) rfl))) rfl
theorem w_16 : Cond.initialized "java/lang/System" ∈ GW := gw_of (List.mem_append_right _ (List.mem_append_left _ (List.mem_of_getElem? (i := 16) rfl))) rfl
theorem w_17 : Cond.initialized "java/util/Objects" ∈ GW := gw_of (List.mem_append_right _ (List.mem_append_left _ (List.mem_of_getElem? (i := 17) rfl))) rfl
theorem w_18 : Cond.initialized "jdk/internal/util/Preconditions" ∈ GW := gw_of (List.mem_append_right _ (List.mem_append_left _ (List.mem_of_getElem? (i := 18) rfl))) rfl
theorem w_19 : Cond.initialized "ExpectRows$Alarm" ∈ GW := gw_of (List.mem_append_right _ (List.mem_append_left _ (List.mem_of_getElem? (i := 19) rfl))) rfl
theorem w_20 : Cond.initialized "java/lang/Throwable" ∈ GW := gw_of (List.mem_append_right _ (List.mem_append_left _ (List.mem_of_getElem? (i := 20) rfl))) rfl
theorem w_21 : Cond.initialized "java/lang/Exception" ∈ GW := gw_of (List.mem_append_right _ (List.mem_append_left _ (List.mem_of_getElem? (i := 21) rfl))) rfl
theorem w_22 : Cond.initialized "java/lang/RuntimeException" ∈ GW := gw_of (List.mem_append_right _ (List.mem_append_left _ (List.mem_of_getElem? (i := 22) rfl))) rfl
theorem w_23 : Cond.initialized "java/lang/ArithmeticException" ∈ GW := gw_of (List.mem_append_right _ (List.mem_append_left _ (List.mem_of_getElem? (i := 23) rfl))) rfl
theorem w_24 : Cond.classLink "ExpectRowsLaw" 8 "ExpectRows" ∈ GW := gw_of (List.mem_append_right _ (List.mem_append_left _ (List.mem_of_getElem? (i := 24) rfl))) rfl
theorem w_25 : Cond.instantiable "ExpectRows" 7 ∈ GW := gw_of (List.mem_append_right _ (List.mem_append_left _ (List.mem_of_getElem? (i := 25) rfl))) rfl
theorem w_26 : Cond.methodLink "ExpectRowsLaw" 15 ⟨"ExpectRows", "<init>", "()V"⟩ ∈ GW := gw_of (List.mem_append_right _ (List.mem_append_left _ (List.mem_of_getElem? (i := 26) rfl))) rfl
theorem w_27 : Cond.instanceMethod ⟨"ExpectRows", "<init>", "()V"⟩ ∈ GW := gw_of (List.mem_append_right _ (List.mem_append_left _ (List.mem_of_getElem? (i := 27) rfl))) rfl
theorem w_28 : Cond.code ⟨"ExpectRows", "<init>", "()V"⟩ prog_1_method_1_code 2 none ∈ GW := gw_of (List.mem_append_right _ (List.mem_append_left _ (List.mem_of_getElem? (i := 28) rfl))) rfl
theorem w_29 : Cond.methodLink "ExpectRows" 1 ⟨"java/lang/Object", "<init>", "()V"⟩ ∈ GW := gw_of (List.mem_append_right _ (List.mem_append_left _ (List.mem_of_getElem? (i := 29) rfl))) rfl
theorem w_30 : Cond.instanceMethod ⟨"java/lang/Object", "<init>", "()V"⟩ ∈ GW := gw_of (List.mem_append_right _ (List.mem_append_left _ (List.mem_of_getElem? (i := 30) rfl))) rfl
theorem w_31 : Cond.code ⟨"java/lang/Object", "<init>", "()V"⟩ object_method_1_code 1 none ∈ GW := gw_of (List.mem_append_right _ (List.mem_append_left _ (List.mem_of_getElem? (i := 31) rfl))) rfl
theorem w_32 : Cond.classLink "ExpectRows" 7 "ExpectRows$RowList" ∈ GW := gw_of (List.mem_append_right _ (List.mem_append_left _ (List.mem_of_getElem? (i := 32) rfl))) rfl
theorem w_33 : Cond.instantiable "ExpectRows$RowList" 2 ∈ GW := gw_of (List.mem_append_right _ (List.mem_append_left _ (List.mem_of_getElem? (i := 33) rfl))) rfl
theorem w_34 : Cond.methodLinkNest "ExpectRows" 9 ⟨"ExpectRows$RowList", "<init>", "()V"⟩ "ExpectRows" ∈ NW := nw_of (List.mem_append_right _ (List.mem_append_left _ (List.mem_of_getElem? (i := 34) rfl))) rfl
theorem w_35 : Cond.instanceMethod ⟨"ExpectRows$RowList", "<init>", "()V"⟩ ∈ GW := gw_of (List.mem_append_right _ (List.mem_append_left _ (List.mem_of_getElem? (i := 35) rfl))) rfl
theorem w_36 : Cond.code ⟨"ExpectRows$RowList", "<init>", "()V"⟩ prog_9_method_1_code 1 none ∈ GW := gw_of (List.mem_append_right _ (List.mem_append_left _ (List.mem_of_getElem? (i := 36) rfl))) rfl
theorem w_37 : Cond.methodLink "ExpectRows$RowList" 3 ⟨"java/lang/Object", "<init>", "()V"⟩ ∈ GW := gw_of (List.mem_append_right _ (List.mem_append_left _ (List.mem_of_getElem? (i := 37) rfl))) rfl
theorem w_38 : Cond.classLink "ExpectRows$RowList" 9 "java/util/ArrayList" ∈ GW := gw_of (List.mem_append_right _ (List.mem_append_left _ (List.mem_of_getElem? (i := 38) rfl))) rfl
theorem w_39 : Cond.instantiable "java/util/ArrayList" 3 ∈ GW := gw_of (List.mem_append_right _ (List.mem_append_left _ (List.mem_of_getElem? (i := 39) rfl))) rfl
theorem w_40 : Cond.methodLink "ExpectRows$RowList" 11 ⟨"java/util/ArrayList", "<init>", "()V"⟩ ∈ GW := gw_of (List.mem_append_right _ (List.mem_append_left _ (List.mem_of_getElem? (i := 40) rfl))) rfl
theorem w_41 : Cond.instanceMethod ⟨"java/util/ArrayList", "<init>", "()V"⟩ ∈ GW := gw_of (List.mem_append_right _ (List.mem_append_left _ (List.mem_of_getElem? (i := 41) rfl))) rfl
theorem w_42 : Cond.code ⟨"java/util/ArrayList", "<init>", "()V"⟩ prog_24_method_2_code 1 none ∈ GW := gw_of (List.mem_append_right _ (List.mem_append_left _ (List.mem_of_getElem? (i := 42) rfl))) rfl
theorem w_43 : Cond.methodLink "java/util/ArrayList" 1 ⟨"java/util/AbstractList", "<init>", "()V"⟩ ∈ GW := gw_of (List.mem_append_right _ (List.mem_append_left _ (List.mem_of_getElem? (i := 43) rfl))) rfl
theorem w_44 : Cond.instanceMethod ⟨"java/util/AbstractList", "<init>", "()V"⟩ ∈ GW := gw_of (List.mem_append_right _ (List.mem_append_left _ (List.mem_of_getElem? (i := 44) rfl))) rfl
theorem w_45 : Cond.code ⟨"java/util/AbstractList", "<init>", "()V"⟩ prog_23_method_1_code 1 none ∈ GW := gw_of (List.mem_append_right _ (List.mem_append_left _ (List.mem_of_getElem? (i := 45) rfl))) rfl
theorem w_46 : Cond.methodLink "java/util/AbstractList" 1 ⟨"java/util/AbstractCollection", "<init>", "()V"⟩ ∈ GW := gw_of (List.mem_append_right _ (List.mem_append_left _ (List.mem_of_getElem? (i := 46) rfl))) rfl
theorem w_47 : Cond.instanceMethod ⟨"java/util/AbstractCollection", "<init>", "()V"⟩ ∈ GW := gw_of (List.mem_append_right _ (List.mem_append_left _ (List.mem_of_getElem? (i := 47) rfl))) rfl
theorem w_48 : Cond.code ⟨"java/util/AbstractCollection", "<init>", "()V"⟩ prog_22_method_1_code 1 none ∈ GW := gw_of (List.mem_append_right _ (List.mem_append_left _ (List.mem_of_getElem? (i := 48) rfl))) rfl
theorem w_49 : Cond.methodLink "java/util/AbstractCollection" 1 ⟨"java/lang/Object", "<init>", "()V"⟩ ∈ GW := gw_of (List.mem_append_right _ (List.mem_append_left _ (List.mem_of_getElem? (i := 49) rfl))) rfl
theorem w_50 : Cond.fieldLink "java/util/ArrayList" 39 "java/util/ArrayList" "DEFAULTCAPACITY_EMPTY_ELEMENTDATA" "[Ljava/lang/Object;" ∈ GW := gw_of (List.mem_append_right _ (List.mem_append_left _ (List.mem_of_getElem? (i := 50) rfl))) rfl
theorem w_52 : Cond.fieldLink "java/util/ArrayList" 9 "java/util/ArrayList" "elementData" "[Ljava/lang/Object;" ∈ GW := gw_of (List.mem_append_right _ (List.mem_append_left _ (List.mem_of_getElem? (i := 52) rfl))) rfl
theorem w_53 : Cond.fieldLink "java/util/ArrayList" 48 "java/util/ArrayList" "size" "I" ∈ GW := gw_of (List.mem_append_right _ (List.mem_append_left _ (List.mem_of_getElem? (i := 53) rfl))) rfl
theorem w_54 : Cond.fieldLink "java/util/AbstractList" 7 "java/util/AbstractList" "modCount" "I" ∈ GW := gw_of (List.mem_append_right _ (List.mem_append_left _ (List.mem_of_getElem? (i := 54) rfl))) rfl
theorem w_55 : Cond.fieldLink "java/util/ArrayList" 63 "java/util/ArrayList" "modCount" "I" ∈ GW := gw_of (List.mem_append_right _ (List.mem_append_left _ (List.mem_of_getElem? (i := 55) rfl))) rfl
theorem w_56 : Cond.sameField "java/util/ArrayList" "java/util/AbstractList" "modCount" "I" ∈ GW := gw_of (List.mem_append_right _ (List.mem_append_left _ (List.mem_of_getElem? (i := 56) rfl))) rfl
theorem w_57 : Cond.lays "java/util/ArrayList" "java/util/ArrayList" "elementData" "[Ljava/lang/Object;" ∈ GW := gw_of (List.mem_append_right _ (List.mem_append_left _ (List.mem_of_getElem? (i := 57) rfl))) rfl
theorem w_59 : Cond.lays "java/util/ArrayList" "java/util/ArrayList" "size" "I" ∈ GW := gw_of (List.mem_append_right _ (List.mem_append_left _ (List.mem_of_getElem? (i := 59) rfl))) rfl
theorem w_61 : Cond.lays "java/util/ArrayList" "java/util/AbstractList" "modCount" "I" ∈ GW := gw_of (List.mem_append_right _ (List.mem_append_left _ (List.mem_of_getElem? (i := 61) rfl))) rfl
theorem w_63 : Cond.superclass "java/util/ArrayList" "java/util/AbstractList" ∈ GW := gw_of (List.mem_append_right _ (List.mem_append_left _ (List.mem_of_getElem? (i := 63) rfl))) rfl
theorem w_64 : Cond.fieldLink "ExpectRows$RowList" 12 "ExpectRows$RowList" "all" "Ljava/util/ArrayList;" ∈ GW := gw_of (List.mem_append_right _ (List.mem_append_left _ (List.mem_of_getElem? (i := 64) rfl))) rfl
theorem w_65 : Cond.fieldLink "ExpectRows$RowList" 18 "ExpectRows$RowList" "failed" "Ljava/util/ArrayList;" ∈ GW := gw_of (List.mem_append_right _ (List.mem_append_left _ (List.mem_of_getElem? (i := 65) rfl))) rfl
theorem w_66 : Cond.laysFinal "ExpectRows$RowList" "ExpectRows$RowList" "all" "Ljava/util/ArrayList;" ∈ GW := gw_of (List.mem_append_right _ (List.mem_append_left _ (List.mem_of_getElem? (i := 66) rfl))) rfl
theorem w_68 : Cond.laysFinal "ExpectRows$RowList" "ExpectRows$RowList" "failed" "Ljava/util/ArrayList;" ∈ GW := gw_of (List.mem_append_right _ (List.mem_append_left _ (List.mem_of_getElem? (i := 68) rfl))) rfl
theorem w_70 : Cond.superclass "ExpectRows$RowList" "java/lang/Object" ∈ GW := gw_of (List.mem_append_right _ (List.mem_append_left _ (List.mem_of_getElem? (i := 70) rfl))) rfl
theorem w_71 : Cond.classLink "ExpectRows" 16 "ExpectRows$HolidayList" ∈ GW := gw_of (List.mem_append_right _ (List.mem_append_left _ (List.mem_of_getElem? (i := 71) rfl))) rfl
theorem w_72 : Cond.instantiable "ExpectRows$HolidayList" 2 ∈ GW := gw_of (List.mem_append_right _ (List.mem_append_left _ (List.mem_of_getElem? (i := 72) rfl))) rfl
theorem w_73 : Cond.methodLinkNest "ExpectRows" 18 ⟨"ExpectRows$HolidayList", "<init>", "()V"⟩ "ExpectRows" ∈ NW := nw_of (List.mem_append_right _ (List.mem_append_left _ (List.mem_of_getElem? (i := 73) rfl))) rfl
theorem w_74 : Cond.instanceMethod ⟨"ExpectRows$HolidayList", "<init>", "()V"⟩ ∈ GW := gw_of (List.mem_append_right _ (List.mem_append_left _ (List.mem_of_getElem? (i := 74) rfl))) rfl
theorem w_75 : Cond.code ⟨"ExpectRows$HolidayList", "<init>", "()V"⟩ prog_5_method_1_code 1 none ∈ GW := gw_of (List.mem_append_right _ (List.mem_append_left _ (List.mem_of_getElem? (i := 75) rfl))) rfl
theorem w_76 : Cond.methodLink "ExpectRows$HolidayList" 3 ⟨"java/lang/Object", "<init>", "()V"⟩ ∈ GW := gw_of (List.mem_append_right _ (List.mem_append_left _ (List.mem_of_getElem? (i := 76) rfl))) rfl
theorem w_77 : Cond.fieldLink "ExpectRows$HolidayList" 9 "ExpectRows$HolidayList" "days" "[J" ∈ GW := gw_of (List.mem_append_right _ (List.mem_append_left _ (List.mem_of_getElem? (i := 77) rfl))) rfl
theorem w_78 : Cond.fieldLink "ExpectRows$HolidayList" 15 "ExpectRows$HolidayList" "count" "I" ∈ GW := gw_of (List.mem_append_right _ (List.mem_append_left _ (List.mem_of_getElem? (i := 78) rfl))) rfl
theorem w_79 : Cond.laysFinal "ExpectRows$HolidayList" "ExpectRows$HolidayList" "days" "[J" ∈ GW := gw_of (List.mem_append_right _ (List.mem_append_left _ (List.mem_of_getElem? (i := 79) rfl))) rfl
theorem w_81 : Cond.lays "ExpectRows$HolidayList" "ExpectRows$HolidayList" "count" "I" ∈ GW := gw_of (List.mem_append_right _ (List.mem_append_left _ (List.mem_of_getElem? (i := 81) rfl))) rfl
theorem w_83 : Cond.superclass "ExpectRows$HolidayList" "java/lang/Object" ∈ GW := gw_of (List.mem_append_right _ (List.mem_append_left _ (List.mem_of_getElem? (i := 83) rfl))) rfl
theorem w_84 : Cond.arrayClass .long ∈ GW := gw_of (List.mem_append_right _ (List.mem_append_left _ (List.mem_of_getElem? (i := 84) rfl))) rfl
theorem w_85 : Cond.classLink "ExpectRows" 23 "ExpectRows$AlarmList" ∈ GW := gw_of (List.mem_append_right _ (List.mem_append_left _ (List.mem_of_getElem? (i := 85) rfl))) rfl
theorem w_86 : Cond.instantiable "ExpectRows$AlarmList" 1 ∈ GW := gw_of (List.mem_append_right _ (List.mem_append_left _ (List.mem_of_getElem? (i := 86) rfl))) rfl
theorem w_87 : Cond.methodLinkNest "ExpectRows" 25 ⟨"ExpectRows$AlarmList", "<init>", "()V"⟩ "ExpectRows" ∈ NW := nw_of (List.mem_append_right _ (List.mem_append_left _ (List.mem_of_getElem? (i := 87) rfl))) rfl
theorem w_88 : Cond.instanceMethod ⟨"ExpectRows$AlarmList", "<init>", "()V"⟩ ∈ GW := gw_of (List.mem_append_right _ (List.mem_append_left _ (List.mem_of_getElem? (i := 88) rfl))) rfl
theorem w_89 : Cond.code ⟨"ExpectRows$AlarmList", "<init>", "()V"⟩ prog_3_method_1_code 1 none ∈ GW := gw_of (List.mem_append_right _ (List.mem_append_left _ (List.mem_of_getElem? (i := 89) rfl))) rfl
theorem w_90 : Cond.methodLink "ExpectRows$AlarmList" 3 ⟨"java/lang/Object", "<init>", "()V"⟩ ∈ GW := gw_of (List.mem_append_right _ (List.mem_append_left _ (List.mem_of_getElem? (i := 90) rfl))) rfl
theorem w_91 : Cond.classLink "ExpectRows$AlarmList" 9 "java/util/ArrayList" ∈ GW := gw_of (List.mem_append_right _ (List.mem_append_left _ (List.mem_of_getElem? (i := 91) rfl))) rfl
theorem w_92 : Cond.methodLink "ExpectRows$AlarmList" 11 ⟨"java/util/ArrayList", "<init>", "()V"⟩ ∈ GW := gw_of (List.mem_append_right _ (List.mem_append_left _ (List.mem_of_getElem? (i := 92) rfl))) rfl
theorem w_93 : Cond.fieldLink "ExpectRows$AlarmList" 12 "ExpectRows$AlarmList" "told" "Ljava/util/ArrayList;" ∈ GW := gw_of (List.mem_append_right _ (List.mem_append_left _ (List.mem_of_getElem? (i := 93) rfl))) rfl
theorem w_94 : Cond.laysFinal "ExpectRows$AlarmList" "ExpectRows$AlarmList" "told" "Ljava/util/ArrayList;" ∈ GW := gw_of (List.mem_append_right _ (List.mem_append_left _ (List.mem_of_getElem? (i := 94) rfl))) rfl
theorem w_96 : Cond.superclass "ExpectRows$AlarmList" "java/lang/Object" ∈ GW := gw_of (List.mem_append_right _ (List.mem_append_left _ (List.mem_of_getElem? (i := 96) rfl))) rfl
theorem w_97 : Cond.classLink "ExpectRows" 30 "ExpectRows$PlaceCounts" ∈ GW := gw_of (List.mem_append_right _ (List.mem_append_left _ (List.mem_of_getElem? (i := 97) rfl))) rfl
theorem w_98 : Cond.instantiable "ExpectRows$PlaceCounts" 2 ∈ GW := gw_of (List.mem_append_right _ (List.mem_append_left _ (List.mem_of_getElem? (i := 98) rfl))) rfl
theorem w_99 : Cond.methodLinkNest "ExpectRows" 32 ⟨"ExpectRows$PlaceCounts", "<init>", "()V"⟩ "ExpectRows" ∈ NW := nw_of (List.mem_append_right _ (List.mem_append_left _ (List.mem_of_getElem? (i := 99) rfl))) rfl
theorem w_100 : Cond.instanceMethod ⟨"ExpectRows$PlaceCounts", "<init>", "()V"⟩ ∈ GW := gw_of (List.mem_append_right _ (List.mem_append_left _ (List.mem_of_getElem? (i := 100) rfl))) rfl
theorem w_101 : Cond.code ⟨"ExpectRows$PlaceCounts", "<init>", "()V"⟩ prog_7_method_1_code 1 none ∈ GW := gw_of (List.mem_append_right _ (List.mem_append_left _ (List.mem_of_getElem? (i := 101) rfl))) rfl
theorem w_102 : Cond.methodLink "ExpectRows$PlaceCounts" 3 ⟨"java/lang/Object", "<init>", "()V"⟩ ∈ GW := gw_of (List.mem_append_right _ (List.mem_append_left _ (List.mem_of_getElem? (i := 102) rfl))) rfl
theorem w_103 : Cond.fieldLink "ExpectRows$PlaceCounts" 9 "ExpectRows$PlaceCounts" "begun" "[I" ∈ GW := gw_of (List.mem_append_right _ (List.mem_append_left _ (List.mem_of_getElem? (i := 103) rfl))) rfl
theorem w_104 : Cond.fieldLink "ExpectRows$PlaceCounts" 15 "ExpectRows$PlaceCounts" "late" "[I" ∈ GW := gw_of (List.mem_append_right _ (List.mem_append_left _ (List.mem_of_getElem? (i := 104) rfl))) rfl
theorem w_105 : Cond.laysFinal "ExpectRows$PlaceCounts" "ExpectRows$PlaceCounts" "begun" "[I" ∈ GW := gw_of (List.mem_append_right _ (List.mem_append_left _ (List.mem_of_getElem? (i := 105) rfl))) rfl
theorem w_107 : Cond.laysFinal "ExpectRows$PlaceCounts" "ExpectRows$PlaceCounts" "late" "[I" ∈ GW := gw_of (List.mem_append_right _ (List.mem_append_left _ (List.mem_of_getElem? (i := 107) rfl))) rfl
theorem w_109 : Cond.superclass "ExpectRows$PlaceCounts" "java/lang/Object" ∈ GW := gw_of (List.mem_append_right _ (List.mem_append_left _ (List.mem_of_getElem? (i := 109) rfl))) rfl
theorem w_110 : Cond.arrayClass .int ∈ GW := gw_of (List.mem_append_right _ (List.mem_append_left _ (List.mem_of_getElem? (i := 110) rfl))) rfl
theorem w_111 : Cond.classLink "ExpectRows" 37 "ExpectRows$DeliveryList" ∈ GW := gw_of (List.mem_append_right _ (List.mem_append_left _ (List.mem_of_getElem? (i := 111) rfl))) rfl
theorem w_112 : Cond.instantiable "ExpectRows$DeliveryList" 3 ∈ GW := gw_of (List.mem_append_right _ (List.mem_append_left _ (List.mem_of_getElem? (i := 112) rfl))) rfl
theorem w_113 : Cond.methodLinkNest "ExpectRows" 39 ⟨"ExpectRows$DeliveryList", "<init>", "()V"⟩ "ExpectRows" ∈ NW := nw_of (List.mem_append_right _ (List.mem_append_left _ (List.mem_of_getElem? (i := 113) rfl))) rfl
theorem w_114 : Cond.instanceMethod ⟨"ExpectRows$DeliveryList", "<init>", "()V"⟩ ∈ GW := gw_of (List.mem_append_right _ (List.mem_append_left _ (List.mem_of_getElem? (i := 114) rfl))) rfl
theorem w_115 : Cond.code ⟨"ExpectRows$DeliveryList", "<init>", "()V"⟩ prog_4_method_1_code 1 none ∈ GW := gw_of (List.mem_append_right _ (List.mem_append_left _ (List.mem_of_getElem? (i := 115) rfl))) rfl
theorem w_116 : Cond.methodLink "ExpectRows$DeliveryList" 3 ⟨"java/lang/Object", "<init>", "()V"⟩ ∈ GW := gw_of (List.mem_append_right _ (List.mem_append_left _ (List.mem_of_getElem? (i := 116) rfl))) rfl
theorem w_117 : Cond.fieldLink "ExpectRows$DeliveryList" 9 "ExpectRows$DeliveryList" "days" "[I" ∈ GW := gw_of (List.mem_append_right _ (List.mem_append_left _ (List.mem_of_getElem? (i := 117) rfl))) rfl
theorem w_118 : Cond.fieldLink "ExpectRows$DeliveryList" 15 "ExpectRows$DeliveryList" "services" "[I" ∈ GW := gw_of (List.mem_append_right _ (List.mem_append_left _ (List.mem_of_getElem? (i := 118) rfl))) rfl
theorem w_119 : Cond.fieldLink "ExpectRows$DeliveryList" 18 "ExpectRows$DeliveryList" "count" "I" ∈ GW := gw_of (List.mem_append_right _ (List.mem_append_left _ (List.mem_of_getElem? (i := 119) rfl))) rfl
theorem w_120 : Cond.laysFinal "ExpectRows$DeliveryList" "ExpectRows$DeliveryList" "days" "[I" ∈ GW := gw_of (List.mem_append_right _ (List.mem_append_left _ (List.mem_of_getElem? (i := 120) rfl))) rfl
theorem w_122 : Cond.laysFinal "ExpectRows$DeliveryList" "ExpectRows$DeliveryList" "services" "[I" ∈ GW := gw_of (List.mem_append_right _ (List.mem_append_left _ (List.mem_of_getElem? (i := 122) rfl))) rfl
theorem w_124 : Cond.lays "ExpectRows$DeliveryList" "ExpectRows$DeliveryList" "count" "I" ∈ GW := gw_of (List.mem_append_right _ (List.mem_append_left _ (List.mem_of_getElem? (i := 124) rfl))) rfl
theorem w_126 : Cond.superclass "ExpectRows$DeliveryList" "java/lang/Object" ∈ GW := gw_of (List.mem_append_right _ (List.mem_append_left _ (List.mem_of_getElem? (i := 126) rfl))) rfl
theorem w_127 : Cond.classLink "ExpectRows" 44 "ExpectRows$Item" ∈ GW := gw_of (List.mem_append_right _ (List.mem_append_left _ (List.mem_of_getElem? (i := 127) rfl))) rfl
theorem w_129 : Cond.instantiable "ExpectRows$Item" 8 ∈ GW := gw_of (List.mem_append_right _ (List.mem_append_left _ (List.mem_of_getElem? (i := 129) rfl))) rfl
theorem w_130 : Cond.methodLinkNest "ExpectRows" 54 ⟨"ExpectRows$Item", "<init>", "()V"⟩ "ExpectRows" ∈ NW := nw_of (List.mem_append_right _ (List.mem_append_left _ (List.mem_of_getElem? (i := 130) rfl))) rfl
theorem w_131 : Cond.instanceMethod ⟨"ExpectRows$Item", "<init>", "()V"⟩ ∈ GW := gw_of (List.mem_append_right _ (List.mem_append_left _ (List.mem_of_getElem? (i := 131) rfl))) rfl
theorem w_132 : Cond.code ⟨"ExpectRows$Item", "<init>", "()V"⟩ prog_6_method_1_code 1 none ∈ GW := gw_of (List.mem_append_right _ (List.mem_append_left _ (List.mem_of_getElem? (i := 132) rfl))) rfl
theorem w_133 : Cond.methodLink "ExpectRows$Item" 3 ⟨"java/lang/Object", "<init>", "()V"⟩ ∈ GW := gw_of (List.mem_append_right _ (List.mem_append_left _ (List.mem_of_getElem? (i := 133) rfl))) rfl
theorem w_134 : Cond.fieldLink "ExpectRows$Item" 9 "ExpectRows$Item" "state" "I" ∈ GW := gw_of (List.mem_append_right _ (List.mem_append_left _ (List.mem_of_getElem? (i := 134) rfl))) rfl
theorem w_135 : Cond.fieldLink "ExpectRows$Item" 15 "ExpectRows$Item" "first" "J" ∈ GW := gw_of (List.mem_append_right _ (List.mem_append_left _ (List.mem_of_getElem? (i := 135) rfl))) rfl
theorem w_136 : Cond.fieldLink "ExpectRows$Item" 19 "ExpectRows$Item" "last" "J" ∈ GW := gw_of (List.mem_append_right _ (List.mem_append_left _ (List.mem_of_getElem? (i := 136) rfl))) rfl
theorem w_137 : Cond.fieldLinkNest "ExpectRows" 162 "ExpectRows$Item" "last" "J" "ExpectRows" ∈ NW := nw_of (List.mem_append_right _ (List.mem_append_left _ (List.mem_of_getElem? (i := 137) rfl))) rfl
theorem w_138 : Cond.fieldLink "ExpectRows$Item" 22 "ExpectRows$Item" "row" "I" ∈ GW := gw_of (List.mem_append_right _ (List.mem_append_left _ (List.mem_of_getElem? (i := 138) rfl))) rfl
theorem w_139 : Cond.fieldLinkNest "ExpectRows$AlarmList" 24 "ExpectRows$Item" "row" "I" "ExpectRows" ∈ NW := nw_of (List.mem_append_right _ (List.mem_append_left _ (List.mem_of_getElem? (i := 139) rfl))) rfl
theorem w_140 : Cond.fieldLink "ExpectRows$Item" 25 "ExpectRows$Item" "place" "I" ∈ GW := gw_of (List.mem_append_right _ (List.mem_append_left _ (List.mem_of_getElem? (i := 140) rfl))) rfl
theorem w_141 : Cond.fieldLinkNest "ExpectRows$AlarmList" 30 "ExpectRows$Item" "place" "I" "ExpectRows" ∈ NW := nw_of (List.mem_append_right _ (List.mem_append_left _ (List.mem_of_getElem? (i := 141) rfl))) rfl
theorem w_142 : Cond.fieldLinkNest "ExpectRows" 209 "ExpectRows$Item" "place" "I" "ExpectRows" ∈ NW := nw_of (List.mem_append_right _ (List.mem_append_left _ (List.mem_of_getElem? (i := 142) rfl))) rfl
theorem w_143 : Cond.fieldLink "ExpectRows$Item" 28 "ExpectRows$Item" "due" "J" ∈ GW := gw_of (List.mem_append_right _ (List.mem_append_left _ (List.mem_of_getElem? (i := 143) rfl))) rfl
theorem w_144 : Cond.fieldLinkNest "ExpectRows$AlarmList" 33 "ExpectRows$Item" "due" "J" "ExpectRows" ∈ NW := nw_of (List.mem_append_right _ (List.mem_append_left _ (List.mem_of_getElem? (i := 144) rfl))) rfl
theorem w_145 : Cond.fieldLinkNest "ExpectRows" 206 "ExpectRows$Item" "due" "J" "ExpectRows" ∈ NW := nw_of (List.mem_append_right _ (List.mem_append_left _ (List.mem_of_getElem? (i := 145) rfl))) rfl
theorem w_146 : Cond.fieldLink "ExpectRows$Item" 31 "ExpectRows$Item" "late" "Z" ∈ GW := gw_of (List.mem_append_right _ (List.mem_append_left _ (List.mem_of_getElem? (i := 146) rfl))) rfl
theorem w_147 : Cond.fieldLinkNest "ExpectRows" 203 "ExpectRows$Item" "late" "Z" "ExpectRows" ∈ NW := nw_of (List.mem_append_right _ (List.mem_append_left _ (List.mem_of_getElem? (i := 147) rfl))) rfl
theorem w_148 : Cond.fieldLink "ExpectRows$Item" 35 "ExpectRows$Item" "lost" "Z" ∈ GW := gw_of (List.mem_append_right _ (List.mem_append_left _ (List.mem_of_getElem? (i := 148) rfl))) rfl
theorem w_149 : Cond.fieldLinkNest "ExpectRows" 158 "ExpectRows$Item" "lost" "Z" "ExpectRows" ∈ NW := nw_of (List.mem_append_right _ (List.mem_append_left _ (List.mem_of_getElem? (i := 149) rfl))) rfl
theorem w_150 : Cond.lays "ExpectRows$Item" "ExpectRows$Item" "state" "I" ∈ GW := gw_of (List.mem_append_right _ (List.mem_append_left _ (List.mem_of_getElem? (i := 150) rfl))) rfl
theorem w_152 : Cond.lays "ExpectRows$Item" "ExpectRows$Item" "first" "J" ∈ GW := gw_of (List.mem_append_right _ (List.mem_append_left _ (List.mem_of_getElem? (i := 152) rfl))) rfl
theorem w_154 : Cond.lays "ExpectRows$Item" "ExpectRows$Item" "last" "J" ∈ GW := gw_of (List.mem_append_right _ (List.mem_append_left _ (List.mem_of_getElem? (i := 154) rfl))) rfl
theorem w_156 : Cond.lays "ExpectRows$Item" "ExpectRows$Item" "row" "I" ∈ GW := gw_of (List.mem_append_right _ (List.mem_append_left _ (List.mem_of_getElem? (i := 156) rfl))) rfl
theorem w_158 : Cond.lays "ExpectRows$Item" "ExpectRows$Item" "place" "I" ∈ GW := gw_of (List.mem_append_right _ (List.mem_append_left _ (List.mem_of_getElem? (i := 158) rfl))) rfl
theorem w_160 : Cond.lays "ExpectRows$Item" "ExpectRows$Item" "due" "J" ∈ GW := gw_of (List.mem_append_right _ (List.mem_append_left _ (List.mem_of_getElem? (i := 160) rfl))) rfl
theorem w_162 : Cond.lays "ExpectRows$Item" "ExpectRows$Item" "late" "Z" ∈ GW := gw_of (List.mem_append_right _ (List.mem_append_left _ (List.mem_of_getElem? (i := 162) rfl))) rfl
theorem w_164 : Cond.lays "ExpectRows$Item" "ExpectRows$Item" "lost" "Z" ∈ GW := gw_of (List.mem_append_right _ (List.mem_append_left _ (List.mem_of_getElem? (i := 164) rfl))) rfl
theorem w_166 : Cond.superclass "ExpectRows$Item" "java/lang/Object" ∈ GW := gw_of (List.mem_append_right _ (List.mem_append_left _ (List.mem_of_getElem? (i := 166) rfl))) rfl
theorem w_167 : Cond.fieldLink "ExpectRows" 10 "ExpectRows" "rows" "LExpectRows$RowList;" ∈ GW := gw_of (List.mem_append_right _ (List.mem_append_left _ (List.mem_of_getElem? (i := 167) rfl))) rfl
theorem w_168 : Cond.fieldLink "ExpectRows" 19 "ExpectRows" "holidays" "LExpectRows$HolidayList;" ∈ GW := gw_of (List.mem_append_right _ (List.mem_append_left _ (List.mem_of_getElem? (i := 168) rfl))) rfl
theorem w_169 : Cond.fieldLink "ExpectRows" 26 "ExpectRows" "alarms" "LExpectRows$AlarmList;" ∈ GW := gw_of (List.mem_append_right _ (List.mem_append_left _ (List.mem_of_getElem? (i := 169) rfl))) rfl
theorem w_170 : Cond.fieldLink "ExpectRows" 33 "ExpectRows" "counts" "LExpectRows$PlaceCounts;" ∈ GW := gw_of (List.mem_append_right _ (List.mem_append_left _ (List.mem_of_getElem? (i := 170) rfl))) rfl
theorem w_171 : Cond.fieldLink "ExpectRows" 40 "ExpectRows" "deliveries" "LExpectRows$DeliveryList;" ∈ GW := gw_of (List.mem_append_right _ (List.mem_append_left _ (List.mem_of_getElem? (i := 171) rfl))) rfl
theorem w_172 : Cond.fieldLink "ExpectRows" 46 "ExpectRows" "items" "[LExpectRows$Item;" ∈ GW := gw_of (List.mem_append_right _ (List.mem_append_left _ (List.mem_of_getElem? (i := 172) rfl))) rfl
theorem w_173 : Cond.fieldLink "ExpectRows" 50 "ExpectRows" "clock" "J" ∈ GW := gw_of (List.mem_append_right _ (List.mem_append_left _ (List.mem_of_getElem? (i := 173) rfl))) rfl
theorem w_174 : Cond.laysFinal "ExpectRows" "ExpectRows" "rows" "LExpectRows$RowList;" ∈ GW := gw_of (List.mem_append_right _ (List.mem_append_left _ (List.mem_of_getElem? (i := 174) rfl))) rfl
theorem w_176 : Cond.laysFinal "ExpectRows" "ExpectRows" "holidays" "LExpectRows$HolidayList;" ∈ GW := gw_of (List.mem_append_right _ (List.mem_append_left _ (List.mem_of_getElem? (i := 176) rfl))) rfl
theorem w_178 : Cond.laysFinal "ExpectRows" "ExpectRows" "alarms" "LExpectRows$AlarmList;" ∈ GW := gw_of (List.mem_append_right _ (List.mem_append_left _ (List.mem_of_getElem? (i := 178) rfl))) rfl
theorem w_180 : Cond.laysFinal "ExpectRows" "ExpectRows" "counts" "LExpectRows$PlaceCounts;" ∈ GW := gw_of (List.mem_append_right _ (List.mem_append_left _ (List.mem_of_getElem? (i := 180) rfl))) rfl
theorem w_182 : Cond.laysFinal "ExpectRows" "ExpectRows" "deliveries" "LExpectRows$DeliveryList;" ∈ GW := gw_of (List.mem_append_right _ (List.mem_append_left _ (List.mem_of_getElem? (i := 182) rfl))) rfl
theorem w_184 : Cond.laysFinal "ExpectRows" "ExpectRows" "items" "[LExpectRows$Item;" ∈ GW := gw_of (List.mem_append_right _ (List.mem_append_left _ (List.mem_of_getElem? (i := 184) rfl))) rfl
theorem w_186 : Cond.lays "ExpectRows" "ExpectRows" "clock" "J" ∈ GW := gw_of (List.mem_append_right _ (List.mem_append_left _ (List.mem_of_getElem? (i := 186) rfl))) rfl
theorem w_188 : Cond.superclass "ExpectRows" "java/lang/Object" ∈ GW := gw_of (List.mem_append_right _ (List.mem_append_left _ (List.mem_of_getElem? (i := 188) rfl))) rfl
theorem w_189 : Cond.methodLink "ExpectRowsLaw" 21 ⟨"ExpectRows", "rule", "(IIIJZ)I"⟩ ∈ GW := gw_of (List.mem_append_right _ (List.mem_append_left _ (List.mem_of_getElem? (i := 189) rfl))) rfl
theorem w_190 : Cond.instanceMethod ⟨"ExpectRows", "rule", "(IIIJZ)I"⟩ ∈ GW := gw_of (List.mem_append_right _ (List.mem_append_left _ (List.mem_of_getElem? (i := 190) rfl))) rfl
theorem w_191 : Cond.selects "ExpectRows" ⟨"ExpectRows", "rule", "(IIIJZ)I"⟩ ⟨"ExpectRows", "rule", "(IIIJZ)I"⟩ ∈ GW := gw_of (List.mem_append_right _ (List.mem_append_left _ (List.mem_of_getElem? (i := 191) rfl))) rfl
theorem w_192 : Cond.code ⟨"ExpectRows", "rule", "(IIIJZ)I"⟩ prog_1_method_2_code 7 (some .int) ∈ GW := gw_of (List.mem_append_right _ (List.mem_append_left _ (List.mem_of_getElem? (i := 192) rfl))) rfl
theorem w_193 : Cond.methodLink "ExpectRows" 55 ⟨"ExpectRows", "isPlace", "(I)Z"⟩ ∈ GW := gw_of (List.mem_append_right _ (List.mem_append_left _ (List.mem_of_getElem? (i := 193) rfl))) rfl
theorem w_194 : Cond.static ⟨"ExpectRows", "isPlace", "(I)Z"⟩ ∈ GW := gw_of (List.mem_append_right _ (List.mem_append_left _ (List.mem_of_getElem? (i := 194) rfl))) rfl
theorem w_195 : Cond.code ⟨"ExpectRows", "isPlace", "(I)Z"⟩ prog_1_method_14_code 1 (some .boolean) ∈ GW := gw_of (List.mem_append_right _ (List.mem_append_left _ (List.mem_of_getElem? (i := 195) rfl))) rfl
theorem w_196 : Cond.methodLink "ExpectRows" 59 ⟨"ExpectRows", "isService", "(I)Z"⟩ ∈ GW := gw_of (List.mem_append_right _ (List.mem_append_left _ (List.mem_of_getElem? (i := 196) rfl))) rfl
theorem w_197 : Cond.static ⟨"ExpectRows", "isService", "(I)Z"⟩ ∈ GW := gw_of (List.mem_append_right _ (List.mem_append_left _ (List.mem_of_getElem? (i := 197) rfl))) rfl
theorem w_198 : Cond.code ⟨"ExpectRows", "isService", "(I)Z"⟩ prog_1_method_15_code 1 (some .boolean) ∈ GW := gw_of (List.mem_append_right _ (List.mem_append_left _ (List.mem_of_getElem? (i := 198) rfl))) rfl
theorem w_199 : Cond.constantLong "ExpectRows" 62 (10000000) ∈ GW := gw_of (List.mem_append_right _ (List.mem_append_left _ (List.mem_of_getElem? (i := 199) rfl))) rfl
theorem w_200 : Cond.methodLinkNest "ExpectRows" 64 ⟨"ExpectRows$RowList", "addRow", "(IIIJZ)I"⟩ "ExpectRows" ∈ NW := nw_of (List.mem_append_right _ (List.mem_append_left _ (List.mem_of_getElem? (i := 200) rfl))) rfl
theorem w_202 : Cond.instanceMethod ⟨"ExpectRows$RowList", "addRow", "(IIIJZ)I"⟩ ∈ GW := gw_of (List.mem_append_right _ (List.mem_append_left _ (List.mem_of_getElem? (i := 202) rfl))) rfl
theorem w_203 : Cond.code ⟨"ExpectRows$RowList", "addRow", "(IIIJZ)I"⟩ prog_9_method_2_code 8 (some .int) ∈ GW := gw_of (List.mem_append_right _ (List.mem_append_left _ (List.mem_of_getElem? (i := 203) rfl))) rfl
theorem w_204 : Cond.methodLink "ExpectRows$RowList" 21 ⟨"java/util/ArrayList", "size", "()I"⟩ ∈ GW := gw_of (List.mem_append_right _ (List.mem_append_left _ (List.mem_of_getElem? (i := 204) rfl))) rfl
theorem w_205 : Cond.instanceMethod ⟨"java/util/ArrayList", "size", "()I"⟩ ∈ GW := gw_of (List.mem_append_right _ (List.mem_append_left _ (List.mem_of_getElem? (i := 205) rfl))) rfl
theorem w_206 : Cond.selects "java/util/ArrayList" ⟨"java/util/ArrayList", "size", "()I"⟩ ⟨"java/util/ArrayList", "size", "()I"⟩ ∈ GW := gw_of (List.mem_append_right _ (List.mem_append_left _ (List.mem_of_getElem? (i := 206) rfl))) rfl
theorem w_207 : Cond.code ⟨"java/util/ArrayList", "size", "()I"⟩ prog_24_method_8_code 1 (some .int) ∈ GW := gw_of (List.mem_append_right _ (List.mem_append_left _ (List.mem_of_getElem? (i := 207) rfl))) rfl
theorem w_208 : Cond.classLink "ExpectRows$RowList" 25 "ExpectRows$Row" ∈ GW := gw_of (List.mem_append_right _ (List.mem_append_left _ (List.mem_of_getElem? (i := 208) rfl))) rfl
theorem w_209 : Cond.instantiable "ExpectRows$Row" 7 ∈ GW := gw_of (List.mem_append_right _ (List.mem_append_left _ (List.mem_of_getElem? (i := 209) rfl))) rfl
theorem w_210 : Cond.methodLinkNest "ExpectRows$RowList" 27 ⟨"ExpectRows$Row", "<init>", "(IIIIJZ)V"⟩ "ExpectRows" ∈ NW := nw_of (List.mem_append_right _ (List.mem_append_left _ (List.mem_of_getElem? (i := 210) rfl))) rfl
theorem w_211 : Cond.instanceMethod ⟨"ExpectRows$Row", "<init>", "(IIIIJZ)V"⟩ ∈ GW := gw_of (List.mem_append_right _ (List.mem_append_left _ (List.mem_of_getElem? (i := 211) rfl))) rfl
theorem w_212 : Cond.code ⟨"ExpectRows$Row", "<init>", "(IIIIJZ)V"⟩ prog_8_method_1_code 8 none ∈ GW := gw_of (List.mem_append_right _ (List.mem_append_left _ (List.mem_of_getElem? (i := 212) rfl))) rfl
theorem w_213 : Cond.methodLink "ExpectRows$Row" 3 ⟨"java/lang/Object", "<init>", "()V"⟩ ∈ GW := gw_of (List.mem_append_right _ (List.mem_append_left _ (List.mem_of_getElem? (i := 213) rfl))) rfl
theorem w_214 : Cond.fieldLink "ExpectRows$Row" 15 "ExpectRows$Row" "number" "I" ∈ GW := gw_of (List.mem_append_right _ (List.mem_append_left _ (List.mem_of_getElem? (i := 214) rfl))) rfl
theorem w_215 : Cond.fieldLinkNest "ExpectRows$RowList" 46 "ExpectRows$Row" "number" "I" "ExpectRows" ∈ NW := nw_of (List.mem_append_right _ (List.mem_append_left _ (List.mem_of_getElem? (i := 215) rfl))) rfl
theorem w_216 : Cond.fieldLinkNest "ExpectRows" 180 "ExpectRows$Row" "number" "I" "ExpectRows" ∈ NW := nw_of (List.mem_append_right _ (List.mem_append_left _ (List.mem_of_getElem? (i := 216) rfl))) rfl
theorem w_217 : Cond.fieldLink "ExpectRows$Row" 19 "ExpectRows$Row" "state" "I" ∈ GW := gw_of (List.mem_append_right _ (List.mem_append_left _ (List.mem_of_getElem? (i := 217) rfl))) rfl
theorem w_218 : Cond.fieldLink "ExpectRows$Row" 22 "ExpectRows$Row" "place" "I" ∈ GW := gw_of (List.mem_append_right _ (List.mem_append_left _ (List.mem_of_getElem? (i := 218) rfl))) rfl
theorem w_219 : Cond.fieldLink "ExpectRows$Row" 25 "ExpectRows$Row" "service" "I" ∈ GW := gw_of (List.mem_append_right _ (List.mem_append_left _ (List.mem_of_getElem? (i := 219) rfl))) rfl
theorem w_220 : Cond.fieldLink "ExpectRows$Row" 28 "ExpectRows$Row" "within" "J" ∈ GW := gw_of (List.mem_append_right _ (List.mem_append_left _ (List.mem_of_getElem? (i := 220) rfl))) rfl
theorem w_221 : Cond.fieldLinkNest "ExpectRows" 184 "ExpectRows$Row" "within" "J" "ExpectRows" ∈ NW := nw_of (List.mem_append_right _ (List.mem_append_left _ (List.mem_of_getElem? (i := 221) rfl))) rfl
theorem w_222 : Cond.fieldLink "ExpectRows$Row" 32 "ExpectRows$Row" "fails" "Z" ∈ GW := gw_of (List.mem_append_right _ (List.mem_append_left _ (List.mem_of_getElem? (i := 222) rfl))) rfl
theorem w_223 : Cond.fieldLinkNest "ExpectRows" 171 "ExpectRows$Row" "fails" "Z" "ExpectRows" ∈ NW := nw_of (List.mem_append_right _ (List.mem_append_left _ (List.mem_of_getElem? (i := 223) rfl))) rfl
theorem w_224 : Cond.fieldLink "ExpectRows$Row" 9 "ExpectRows$Row" "hasFailed" "Z" ∈ GW := gw_of (List.mem_append_right _ (List.mem_append_left _ (List.mem_of_getElem? (i := 224) rfl))) rfl
theorem w_225 : Cond.fieldLinkNest "ExpectRows$RowList" 42 "ExpectRows$Row" "hasFailed" "Z" "ExpectRows" ∈ NW := nw_of (List.mem_append_right _ (List.mem_append_left _ (List.mem_of_getElem? (i := 225) rfl))) rfl
theorem w_226 : Cond.laysFinal "ExpectRows$Row" "ExpectRows$Row" "number" "I" ∈ GW := gw_of (List.mem_append_right _ (List.mem_append_left _ (List.mem_of_getElem? (i := 226) rfl))) rfl
theorem w_228 : Cond.laysFinal "ExpectRows$Row" "ExpectRows$Row" "state" "I" ∈ GW := gw_of (List.mem_append_right _ (List.mem_append_left _ (List.mem_of_getElem? (i := 228) rfl))) rfl
theorem w_230 : Cond.laysFinal "ExpectRows$Row" "ExpectRows$Row" "place" "I" ∈ GW := gw_of (List.mem_append_right _ (List.mem_append_left _ (List.mem_of_getElem? (i := 230) rfl))) rfl
theorem w_232 : Cond.laysFinal "ExpectRows$Row" "ExpectRows$Row" "service" "I" ∈ GW := gw_of (List.mem_append_right _ (List.mem_append_left _ (List.mem_of_getElem? (i := 232) rfl))) rfl
theorem w_234 : Cond.laysFinal "ExpectRows$Row" "ExpectRows$Row" "within" "J" ∈ GW := gw_of (List.mem_append_right _ (List.mem_append_left _ (List.mem_of_getElem? (i := 234) rfl))) rfl
theorem w_236 : Cond.laysFinal "ExpectRows$Row" "ExpectRows$Row" "fails" "Z" ∈ GW := gw_of (List.mem_append_right _ (List.mem_append_left _ (List.mem_of_getElem? (i := 236) rfl))) rfl
theorem w_238 : Cond.lays "ExpectRows$Row" "ExpectRows$Row" "hasFailed" "Z" ∈ GW := gw_of (List.mem_append_right _ (List.mem_append_left _ (List.mem_of_getElem? (i := 238) rfl))) rfl
theorem w_240 : Cond.superclass "ExpectRows$Row" "java/lang/Object" ∈ GW := gw_of (List.mem_append_right _ (List.mem_append_right _ (List.mem_append_left _ (List.mem_of_getElem? (i := 0) rfl)))) rfl
theorem w_241 : Cond.methodLink "ExpectRows$RowList" 30 ⟨"java/util/ArrayList", "add", "(Ljava/lang/Object;)Z"⟩ ∈ GW := gw_of (List.mem_append_right _ (List.mem_append_right _ (List.mem_append_left _ (List.mem_of_getElem? (i := 1) rfl)))) rfl
theorem w_242 : Cond.instanceMethod ⟨"java/util/ArrayList", "add", "(Ljava/lang/Object;)Z"⟩ ∈ GW := gw_of (List.mem_append_right _ (List.mem_append_right _ (List.mem_append_left _ (List.mem_of_getElem? (i := 2) rfl)))) rfl
theorem w_243 : Cond.selects "java/util/ArrayList" ⟨"java/util/ArrayList", "add", "(Ljava/lang/Object;)Z"⟩ ⟨"java/util/ArrayList", "add", "(Ljava/lang/Object;)Z"⟩ ∈ GW := gw_of (List.mem_append_right _ (List.mem_append_right _ (List.mem_append_left _ (List.mem_of_getElem? (i := 3) rfl)))) rfl
theorem w_244 : Cond.code ⟨"java/util/ArrayList", "add", "(Ljava/lang/Object;)Z"⟩ prog_24_method_25_code 2 (some .boolean) ∈ GW := gw_of (List.mem_append_right _ (List.mem_append_right _ (List.mem_append_left _ (List.mem_of_getElem? (i := 4) rfl)))) rfl
theorem w_245 : Cond.methodLink "java/util/ArrayList" 131 ⟨"java/util/ArrayList", "add", "(Ljava/lang/Object;[Ljava/lang/Object;I)V"⟩ ∈ GW := gw_of (List.mem_append_right _ (List.mem_append_right _ (List.mem_append_left _ (List.mem_of_getElem? (i := 5) rfl)))) rfl
theorem w_247 : Cond.instanceMethod ⟨"java/util/ArrayList", "add", "(Ljava/lang/Object;[Ljava/lang/Object;I)V"⟩ ∈ GW := gw_of (List.mem_append_right _ (List.mem_append_right _ (List.mem_append_left _ (List.mem_of_getElem? (i := 7) rfl)))) rfl
theorem w_248 : Cond.code ⟨"java/util/ArrayList", "add", "(Ljava/lang/Object;[Ljava/lang/Object;I)V"⟩ prog_24_method_24_code 4 none ∈ GW := gw_of (List.mem_append_right _ (List.mem_append_right _ (List.mem_append_left _ (List.mem_of_getElem? (i := 8) rfl)))) rfl
theorem w_249 : Cond.methodLink "java/util/ArrayList" 129 ⟨"java/util/ArrayList", "grow", "()[Ljava/lang/Object;"⟩ ∈ GW := gw_of (List.mem_append_right _ (List.mem_append_right _ (List.mem_append_left _ (List.mem_of_getElem? (i := 9) rfl)))) rfl
theorem w_251 : Cond.instanceMethod ⟨"java/util/ArrayList", "grow", "()[Ljava/lang/Object;"⟩ ∈ GW := gw_of (List.mem_append_right _ (List.mem_append_right _ (List.mem_append_left _ (List.mem_of_getElem? (i := 11) rfl)))) rfl
theorem w_252 : Cond.code ⟨"java/util/ArrayList", "grow", "()[Ljava/lang/Object;"⟩ prog_24_method_7_code 1 (some (.array (.object "java/lang/Object"))) ∈ GW := gw_of (List.mem_append_right _ (List.mem_append_right _ (List.mem_append_left _ (List.mem_of_getElem? (i := 12) rfl)))) rfl
theorem w_253 : Cond.methodLink "java/util/ArrayList" 69 ⟨"java/util/ArrayList", "grow", "(I)[Ljava/lang/Object;"⟩ ∈ GW := gw_of (List.mem_append_right _ (List.mem_append_right _ (List.mem_append_left _ (List.mem_of_getElem? (i := 13) rfl)))) rfl
theorem w_255 : Cond.instanceMethod ⟨"java/util/ArrayList", "grow", "(I)[Ljava/lang/Object;"⟩ ∈ GW := gw_of (List.mem_append_right _ (List.mem_append_right _ (List.mem_append_left _ (List.mem_of_getElem? (i := 15) rfl)))) rfl
theorem w_256 : Cond.code ⟨"java/util/ArrayList", "grow", "(I)[Ljava/lang/Object;"⟩ prog_24_method_6_code 4 (some (.array (.object "java/lang/Object"))) ∈ GW := gw_of (List.mem_append_right _ (List.mem_append_right _ (List.mem_append_left _ (List.mem_of_getElem? (i := 16) rfl)))) rfl
theorem w_257 : Cond.methodLink "java/util/ArrayList" 73 ⟨"jdk/internal/util/ArraysSupport", "newLength", "(III)I"⟩ ∈ GW := gw_of (List.mem_append_right _ (List.mem_append_right _ (List.mem_append_left _ (List.mem_of_getElem? (i := 17) rfl)))) rfl
theorem w_258 : Cond.static ⟨"jdk/internal/util/ArraysSupport", "newLength", "(III)I"⟩ ∈ GW := gw_of (List.mem_append_right _ (List.mem_append_right _ (List.mem_append_left _ (List.mem_of_getElem? (i := 18) rfl)))) rfl
theorem w_259 : Cond.code ⟨"jdk/internal/util/ArraysSupport", "newLength", "(III)I"⟩ prog_31_method_27_code 4 (some .int) ∈ GW := gw_of (List.mem_append_right _ (List.mem_append_right _ (List.mem_append_left _ (List.mem_of_getElem? (i := 19) rfl)))) rfl
theorem w_260 : Cond.methodLink "jdk/internal/util/ArraysSupport" 194 ⟨"java/lang/Math", "max", "(II)I"⟩ ∈ GW := gw_of (List.mem_append_right _ (List.mem_append_right _ (List.mem_append_left _ (List.mem_of_getElem? (i := 20) rfl)))) rfl
theorem w_261 : Cond.static ⟨"java/lang/Math", "max", "(II)I"⟩ ∈ GW := gw_of (List.mem_append_right _ (List.mem_append_right _ (List.mem_append_left _ (List.mem_of_getElem? (i := 21) rfl)))) rfl
theorem w_262 : Cond.code ⟨"java/lang/Math", "max", "(II)I"⟩ prog_17_method_65_code 2 (some .int) ∈ GW := gw_of (List.mem_append_right _ (List.mem_append_right _ (List.mem_append_left _ (List.mem_of_getElem? (i := 22) rfl)))) rfl
theorem w_263 : Cond.constant "jdk/internal/util/ArraysSupport" 200 (2147483639) ∈ GW := gw_of (List.mem_append_right _ (List.mem_append_right _ (List.mem_append_left _ (List.mem_of_getElem? (i := 23) rfl)))) rfl
theorem w_264 : Cond.methodLink "jdk/internal/util/ArraysSupport" 201 ⟨"jdk/internal/util/ArraysSupport", "hugeLength", "(II)I"⟩ ∈ GW := gw_of (List.mem_append_right _ (List.mem_append_right _ (List.mem_append_left _ (List.mem_of_getElem? (i := 24) rfl)))) rfl
theorem w_265 : Cond.static ⟨"jdk/internal/util/ArraysSupport", "hugeLength", "(II)I"⟩ ∈ GW := gw_of (List.mem_append_right _ (List.mem_append_right _ (List.mem_append_left _ (List.mem_of_getElem? (i := 25) rfl)))) rfl
theorem w_266 : Cond.code ⟨"jdk/internal/util/ArraysSupport", "hugeLength", "(II)I"⟩ prog_31_method_28_code 3 (some .int) ∈ GW := gw_of (List.mem_append_right _ (List.mem_append_right _ (List.mem_append_left _ (List.mem_of_getElem? (i := 26) rfl)))) rfl
theorem w_267 : Cond.methodLink "java/util/ArrayList" 66 ⟨"java/util/Arrays", "copyOf", "([Ljava/lang/Object;I)[Ljava/lang/Object;"⟩ ∈ GW := gw_of (List.mem_append_right _ (List.mem_append_right _ (List.mem_append_left _ (List.mem_of_getElem? (i := 27) rfl)))) rfl
theorem w_268 : Cond.static ⟨"java/util/Arrays", "copyOf", "([Ljava/lang/Object;I)[Ljava/lang/Object;"⟩ ∈ GW := gw_of (List.mem_append_right _ (List.mem_append_right _ (List.mem_append_left _ (List.mem_of_getElem? (i := 28) rfl)))) rfl
theorem w_269 : Cond.code ⟨"java/util/Arrays", "copyOf", "([Ljava/lang/Object;I)[Ljava/lang/Object;"⟩ prog_25_method_119_code 2 (some (.array (.object "java/lang/Object"))) ∈ GW := gw_of (List.mem_append_right _ (List.mem_append_right _ (List.mem_append_left _ (List.mem_of_getElem? (i := 29) rfl)))) rfl
theorem w_270 : Cond.methodLink "java/util/Arrays" 86 ⟨"java/lang/Object", "getClass", "()Ljava/lang/Class;"⟩ ∈ GW := gw_of (List.mem_append_right _ (List.mem_append_right _ (List.mem_append_left _ (List.mem_of_getElem? (i := 30) rfl)))) rfl
theorem w_271 : Cond.instanceMethod ⟨"java/lang/Object", "getClass", "()Ljava/lang/Class;"⟩ ∈ GW := gw_of (List.mem_append_right _ (List.mem_append_right _ (List.mem_append_left _ (List.mem_of_getElem? (i := 31) rfl)))) rfl
theorem w_272 : Cond.sameMethod "java/lang/Object" "java/lang/Object" "getClass" "()Ljava/lang/Class;" ∈ GW := gw_of (List.mem_append_right _ (List.mem_append_right _ (List.mem_append_left _ (List.mem_of_getElem? (i := 32) rfl)))) rfl
theorem w_273 : Cond.selects "ExpectRows" ⟨"java/lang/Object", "getClass", "()Ljava/lang/Class;"⟩ ⟨"java/lang/Object", "getClass", "()Ljava/lang/Class;"⟩ ∈ GW := gw_of (List.mem_append_right _ (List.mem_append_right _ (List.mem_append_left _ (List.mem_of_getElem? (i := 33) rfl)))) rfl
theorem w_274 : Cond.selects "ExpectRows$Alarm" ⟨"java/lang/Object", "getClass", "()Ljava/lang/Class;"⟩ ⟨"java/lang/Object", "getClass", "()Ljava/lang/Class;"⟩ ∈ GW := gw_of (List.mem_append_right _ (List.mem_append_right _ (List.mem_append_left _ (List.mem_of_getElem? (i := 34) rfl)))) rfl
theorem w_275 : Cond.selects "ExpectRows$AlarmList" ⟨"java/lang/Object", "getClass", "()Ljava/lang/Class;"⟩ ⟨"java/lang/Object", "getClass", "()Ljava/lang/Class;"⟩ ∈ GW := gw_of (List.mem_append_right _ (List.mem_append_right _ (List.mem_append_left _ (List.mem_of_getElem? (i := 35) rfl)))) rfl
theorem w_276 : Cond.selects "ExpectRows$DeliveryList" ⟨"java/lang/Object", "getClass", "()Ljava/lang/Class;"⟩ ⟨"java/lang/Object", "getClass", "()Ljava/lang/Class;"⟩ ∈ GW := gw_of (List.mem_append_right _ (List.mem_append_right _ (List.mem_append_left _ (List.mem_of_getElem? (i := 36) rfl)))) rfl
theorem w_277 : Cond.selects "ExpectRows$HolidayList" ⟨"java/lang/Object", "getClass", "()Ljava/lang/Class;"⟩ ⟨"java/lang/Object", "getClass", "()Ljava/lang/Class;"⟩ ∈ GW := gw_of (List.mem_append_right _ (List.mem_append_right _ (List.mem_append_left _ (List.mem_of_getElem? (i := 37) rfl)))) rfl
theorem w_278 : Cond.selects "ExpectRows$Item" ⟨"java/lang/Object", "getClass", "()Ljava/lang/Class;"⟩ ⟨"java/lang/Object", "getClass", "()Ljava/lang/Class;"⟩ ∈ GW := gw_of (List.mem_append_right _ (List.mem_append_right _ (List.mem_append_left _ (List.mem_of_getElem? (i := 38) rfl)))) rfl
theorem w_279 : Cond.selects "ExpectRows$PlaceCounts" ⟨"java/lang/Object", "getClass", "()Ljava/lang/Class;"⟩ ⟨"java/lang/Object", "getClass", "()Ljava/lang/Class;"⟩ ∈ GW := gw_of (List.mem_append_right _ (List.mem_append_right _ (List.mem_append_left _ (List.mem_of_getElem? (i := 39) rfl)))) rfl
theorem w_280 : Cond.selects "ExpectRows$Row" ⟨"java/lang/Object", "getClass", "()Ljava/lang/Class;"⟩ ⟨"java/lang/Object", "getClass", "()Ljava/lang/Class;"⟩ ∈ GW := gw_of (List.mem_append_right _ (List.mem_append_right _ (List.mem_append_left _ (List.mem_of_getElem? (i := 40) rfl)))) rfl
theorem w_281 : Cond.selects "ExpectRows$RowList" ⟨"java/lang/Object", "getClass", "()Ljava/lang/Class;"⟩ ⟨"java/lang/Object", "getClass", "()Ljava/lang/Class;"⟩ ∈ GW := gw_of (List.mem_append_right _ (List.mem_append_right _ (List.mem_append_left _ (List.mem_of_getElem? (i := 41) rfl)))) rfl
theorem w_282 : Cond.selects "ExpectRowsModel" ⟨"java/lang/Object", "getClass", "()Ljava/lang/Class;"⟩ ⟨"java/lang/Object", "getClass", "()Ljava/lang/Class;"⟩ ∈ GW := gw_of (List.mem_append_right _ (List.mem_append_right _ (List.mem_append_left _ (List.mem_of_getElem? (i := 42) rfl)))) rfl
theorem w_283 : Cond.selects "java/lang/ArithmeticException" ⟨"java/lang/Object", "getClass", "()Ljava/lang/Class;"⟩ ⟨"java/lang/Object", "getClass", "()Ljava/lang/Class;"⟩ ∈ GW := gw_of (List.mem_append_right _ (List.mem_append_right _ (List.mem_append_left _ (List.mem_of_getElem? (i := 43) rfl)))) rfl
theorem w_284 : Cond.selects "java/util/ArrayList" ⟨"java/lang/Object", "getClass", "()Ljava/lang/Class;"⟩ ⟨"java/lang/Object", "getClass", "()Ljava/lang/Class;"⟩ ∈ GW := gw_of (List.mem_append_right _ (List.mem_append_right _ (List.mem_append_left _ (List.mem_of_getElem? (i := 44) rfl)))) rfl
theorem w_285 : Cond.native ⟨"java/lang/Object", "getClass", "()Ljava/lang/Class;"⟩ ∈ GW := gw_of (List.mem_append_right _ (List.mem_append_right _ (List.mem_append_left _ (List.mem_of_getElem? (i := 45) rfl)))) rfl
theorem w_286 : Cond.methodLink "java/util/Arrays" 300 ⟨"java/util/Arrays", "copyOf", "([Ljava/lang/Object;ILjava/lang/Class;)[Ljava/lang/Object;"⟩ ∈ GW := gw_of (List.mem_append_right _ (List.mem_append_right _ (List.mem_append_left _ (List.mem_of_getElem? (i := 46) rfl)))) rfl
theorem w_287 : Cond.static ⟨"java/util/Arrays", "copyOf", "([Ljava/lang/Object;ILjava/lang/Class;)[Ljava/lang/Object;"⟩ ∈ GW := gw_of (List.mem_append_right _ (List.mem_append_right _ (List.mem_append_left _ (List.mem_of_getElem? (i := 47) rfl)))) rfl
theorem w_288 : Cond.code ⟨"java/util/Arrays", "copyOf", "([Ljava/lang/Object;ILjava/lang/Class;)[Ljava/lang/Object;"⟩ prog_25_method_120_code 4 (some (.array (.object "java/lang/Object"))) ∈ GW := gw_of (List.mem_append_right _ (List.mem_append_right _ (List.mem_append_left _ (List.mem_of_getElem? (i := 48) rfl)))) rfl
theorem w_289 : Cond.classLink "java/util/Arrays" 110 "[Ljava/lang/Object;" ∈ GW := gw_of (List.mem_append_right _ (List.mem_append_right _ (List.mem_append_left _ (List.mem_of_getElem? (i := 49) rfl)))) rfl
theorem w_291 : Cond.classLink "java/util/Arrays" 2 "java/lang/Object" ∈ GW := gw_of (List.mem_append_right _ (List.mem_append_right _ (List.mem_append_left _ (List.mem_of_getElem? (i := 51) rfl)))) rfl
theorem w_292 : Cond.methodLink "java/util/Arrays" 304 ⟨"java/lang/Math", "min", "(II)I"⟩ ∈ GW := gw_of (List.mem_append_right _ (List.mem_append_right _ (List.mem_append_left _ (List.mem_of_getElem? (i := 52) rfl)))) rfl
theorem w_293 : Cond.static ⟨"java/lang/Math", "min", "(II)I"⟩ ∈ GW := gw_of (List.mem_append_right _ (List.mem_append_right _ (List.mem_append_left _ (List.mem_of_getElem? (i := 53) rfl)))) rfl
theorem w_294 : Cond.code ⟨"java/lang/Math", "min", "(II)I"⟩ prog_17_method_69_code 2 (some .int) ∈ GW := gw_of (List.mem_append_right _ (List.mem_append_right _ (List.mem_append_left _ (List.mem_of_getElem? (i := 54) rfl)))) rfl
theorem w_295 : Cond.methodLink "java/util/Arrays" 150 ⟨"java/lang/System", "arraycopy", "(Ljava/lang/Object;ILjava/lang/Object;II)V"⟩ ∈ GW := gw_of (List.mem_append_right _ (List.mem_append_right _ (List.mem_append_left _ (List.mem_of_getElem? (i := 55) rfl)))) rfl
theorem w_296 : Cond.static ⟨"java/lang/System", "arraycopy", "(Ljava/lang/Object;ILjava/lang/Object;II)V"⟩ ∈ GW := gw_of (List.mem_append_right _ (List.mem_append_right _ (List.mem_append_left _ (List.mem_of_getElem? (i := 56) rfl)))) rfl
theorem w_297 : Cond.native ⟨"java/lang/System", "arraycopy", "(Ljava/lang/Object;ILjava/lang/Object;II)V"⟩ ∈ GW := gw_of (List.mem_append_right _ (List.mem_append_right _ (List.mem_append_left _ (List.mem_of_getElem? (i := 57) rfl)))) rfl
theorem w_298 : Cond.methodLink "java/util/ArrayList" 79 ⟨"java/lang/Math", "max", "(II)I"⟩ ∈ GW := gw_of (List.mem_append_right _ (List.mem_append_right _ (List.mem_append_left _ (List.mem_of_getElem? (i := 58) rfl)))) rfl
theorem w_299 : Cond.classLink "java/util/ArrayList" 7 "java/lang/Object" ∈ GW := gw_of (List.mem_append_right _ (List.mem_append_right _ (List.mem_append_left _ (List.mem_of_getElem? (i := 59) rfl)))) rfl
theorem w_300 : Cond.methodLink "ExpectRowsLaw" 26 ⟨"ExpectRows", "event", "(IIIIJ)I"⟩ ∈ GW := gw_of (List.mem_append_right _ (List.mem_append_right _ (List.mem_append_left _ (List.mem_of_getElem? (i := 60) rfl)))) rfl
theorem w_301 : Cond.instanceMethod ⟨"ExpectRows", "event", "(IIIIJ)I"⟩ ∈ GW := gw_of (List.mem_append_right _ (List.mem_append_right _ (List.mem_append_left _ (List.mem_of_getElem? (i := 61) rfl)))) rfl
theorem w_302 : Cond.selects "ExpectRows" ⟨"ExpectRows", "event", "(IIIIJ)I"⟩ ⟨"ExpectRows", "event", "(IIIIJ)I"⟩ ∈ GW := gw_of (List.mem_append_right _ (List.mem_append_right _ (List.mem_append_left _ (List.mem_of_getElem? (i := 62) rfl)))) rfl
theorem w_303 : Cond.code ⟨"ExpectRows", "event", "(IIIIJ)I"⟩ prog_1_method_3_code 8 (some .int) ∈ GW := gw_of (List.mem_append_right _ (List.mem_append_right _ (List.mem_append_left _ (List.mem_of_getElem? (i := 63) rfl)))) rfl
theorem w_304 : Cond.methodLink "ExpectRows" 68 ⟨"ExpectRows", "isItem", "(I)Z"⟩ ∈ GW := gw_of (List.mem_append_right _ (List.mem_append_right _ (List.mem_append_left _ (List.mem_of_getElem? (i := 64) rfl)))) rfl
theorem w_305 : Cond.static ⟨"ExpectRows", "isItem", "(I)Z"⟩ ∈ GW := gw_of (List.mem_append_right _ (List.mem_append_right _ (List.mem_append_left _ (List.mem_of_getElem? (i := 65) rfl)))) rfl
theorem w_306 : Cond.code ⟨"ExpectRows", "isItem", "(I)Z"⟩ prog_1_method_13_code 1 (some .boolean) ∈ GW := gw_of (List.mem_append_right _ (List.mem_append_right _ (List.mem_append_left _ (List.mem_of_getElem? (i := 66) rfl)))) rfl
theorem w_307 : Cond.methodLinkNest "ExpectRows" 71 ⟨"ExpectRows$Item", "mayComeAt", "(J)Z"⟩ "ExpectRows" ∈ NW := nw_of (List.mem_append_right _ (List.mem_append_right _ (List.mem_append_left _ (List.mem_of_getElem? (i := 67) rfl)))) rfl
theorem w_309 : Cond.instanceMethod ⟨"ExpectRows$Item", "mayComeAt", "(J)Z"⟩ ∈ GW := gw_of (List.mem_append_right _ (List.mem_append_right _ (List.mem_append_left _ (List.mem_of_getElem? (i := 69) rfl)))) rfl
theorem w_310 : Cond.code ⟨"ExpectRows$Item", "mayComeAt", "(J)Z"⟩ prog_6_method_3_code 3 (some .boolean) ∈ GW := gw_of (List.mem_append_right _ (List.mem_append_right _ (List.mem_append_left _ (List.mem_of_getElem? (i := 70) rfl)))) rfl
theorem w_311 : Cond.constantLong "ExpectRows$Item" 38 (1000000000) ∈ GW := gw_of (List.mem_append_right _ (List.mem_append_right _ (List.mem_append_left _ (List.mem_of_getElem? (i := 71) rfl)))) rfl
theorem w_312 : Cond.methodLink "ExpectRows$Item" 40 ⟨"ExpectRows$Item", "isNew", "()Z"⟩ ∈ GW := gw_of (List.mem_append_right _ (List.mem_append_right _ (List.mem_append_left _ (List.mem_of_getElem? (i := 72) rfl)))) rfl
theorem w_314 : Cond.instanceMethod ⟨"ExpectRows$Item", "isNew", "()Z"⟩ ∈ GW := gw_of (List.mem_append_right _ (List.mem_append_right _ (List.mem_append_left _ (List.mem_of_getElem? (i := 74) rfl)))) rfl
theorem w_315 : Cond.code ⟨"ExpectRows$Item", "isNew", "()Z"⟩ prog_6_method_2_code 1 (some .boolean) ∈ GW := gw_of (List.mem_append_right _ (List.mem_append_right _ (List.mem_append_left _ (List.mem_of_getElem? (i := 75) rfl)))) rfl
theorem w_316 : Cond.methodLinkNest "ExpectRows" 75 ⟨"ExpectRows$Item", "expectNothing", "()V"⟩ "ExpectRows" ∈ NW := nw_of (List.mem_append_right _ (List.mem_append_right _ (List.mem_append_left _ (List.mem_of_getElem? (i := 76) rfl)))) rfl
theorem w_318 : Cond.instanceMethod ⟨"ExpectRows$Item", "expectNothing", "()V"⟩ ∈ GW := gw_of (List.mem_append_right _ (List.mem_append_right _ (List.mem_append_left _ (List.mem_of_getElem? (i := 78) rfl)))) rfl
theorem w_319 : Cond.code ⟨"ExpectRows$Item", "expectNothing", "()V"⟩ prog_6_method_9_code 1 none ∈ GW := gw_of (List.mem_append_right _ (List.mem_append_right _ (List.mem_append_left _ (List.mem_of_getElem? (i := 79) rfl)))) rfl
theorem w_320 : Cond.methodLinkNest "ExpectRows" 78 ⟨"ExpectRows$Item", "daysUntil", "(J)I"⟩ "ExpectRows" ∈ NW := nw_of (List.mem_append_right _ (List.mem_append_right _ (List.mem_append_left _ (List.mem_of_getElem? (i := 80) rfl)))) rfl
theorem w_322 : Cond.instanceMethod ⟨"ExpectRows$Item", "daysUntil", "(J)I"⟩ ∈ GW := gw_of (List.mem_append_right _ (List.mem_append_right _ (List.mem_append_left _ (List.mem_of_getElem? (i := 82) rfl)))) rfl
theorem w_323 : Cond.code ⟨"ExpectRows$Item", "daysUntil", "(J)I"⟩ prog_6_method_5_code 3 (some .int) ∈ GW := gw_of (List.mem_append_right _ (List.mem_append_right _ (List.mem_append_left _ (List.mem_of_getElem? (i := 83) rfl)))) rfl
theorem w_324 : Cond.constantLong "ExpectRows$Item" 44 (86400) ∈ GW := gw_of (List.mem_append_right _ (List.mem_append_right _ (List.mem_append_left _ (List.mem_of_getElem? (i := 84) rfl)))) rfl
theorem w_325 : Cond.methodLinkNest "ExpectRows" 82 ⟨"ExpectRows$DeliveryList", "addDelivery", "(II)V"⟩ "ExpectRows" ∈ NW := nw_of (List.mem_append_right _ (List.mem_append_right _ (List.mem_append_left _ (List.mem_of_getElem? (i := 85) rfl)))) rfl
theorem w_327 : Cond.instanceMethod ⟨"ExpectRows$DeliveryList", "addDelivery", "(II)V"⟩ ∈ GW := gw_of (List.mem_append_right _ (List.mem_append_right _ (List.mem_append_left _ (List.mem_of_getElem? (i := 87) rfl)))) rfl
theorem w_328 : Cond.code ⟨"ExpectRows$DeliveryList", "addDelivery", "(II)V"⟩ prog_4_method_2_code 4 none ∈ GW := gw_of (List.mem_append_right _ (List.mem_append_right _ (List.mem_append_left _ (List.mem_of_getElem? (i := 88) rfl)))) rfl
theorem w_329 : Cond.methodLinkNest "ExpectRows" 86 ⟨"ExpectRows$Item", "beginAnew", "()V"⟩ "ExpectRows" ∈ NW := nw_of (List.mem_append_right _ (List.mem_append_right _ (List.mem_append_left _ (List.mem_of_getElem? (i := 89) rfl)))) rfl
theorem w_331 : Cond.instanceMethod ⟨"ExpectRows$Item", "beginAnew", "()V"⟩ ∈ GW := gw_of (List.mem_append_right _ (List.mem_append_right _ (List.mem_append_left _ (List.mem_of_getElem? (i := 91) rfl)))) rfl
theorem w_332 : Cond.code ⟨"ExpectRows$Item", "beginAnew", "()V"⟩ prog_6_method_6_code 1 none ∈ GW := gw_of (List.mem_append_right _ (List.mem_append_right _ (List.mem_append_left _ (List.mem_of_getElem? (i := 92) rfl)))) rfl
theorem w_333 : Cond.methodLinkNest "ExpectRows" 89 ⟨"ExpectRows$Item", "takeEvent", "(IJ)V"⟩ "ExpectRows" ∈ NW := nw_of (List.mem_append_right _ (List.mem_append_right _ (List.mem_append_left _ (List.mem_of_getElem? (i := 93) rfl)))) rfl
theorem w_335 : Cond.instanceMethod ⟨"ExpectRows$Item", "takeEvent", "(IJ)V"⟩ ∈ GW := gw_of (List.mem_append_right _ (List.mem_append_right _ (List.mem_append_left _ (List.mem_of_getElem? (i := 95) rfl)))) rfl
theorem w_336 : Cond.code ⟨"ExpectRows$Item", "takeEvent", "(IJ)V"⟩ prog_6_method_4_code 4 none ∈ GW := gw_of (List.mem_append_right _ (List.mem_append_right _ (List.mem_append_left _ (List.mem_of_getElem? (i := 96) rfl)))) rfl
theorem w_337 : Cond.methodLinkNest "ExpectRows" 93 ⟨"ExpectRows$RowList", "firstFor", "(III)LExpectRows$Row;"⟩ "ExpectRows" ∈ NW := nw_of (List.mem_append_right _ (List.mem_append_right _ (List.mem_append_left _ (List.mem_of_getElem? (i := 97) rfl)))) rfl
theorem w_339 : Cond.instanceMethod ⟨"ExpectRows$RowList", "firstFor", "(III)LExpectRows$Row;"⟩ ∈ GW := gw_of (List.mem_append_right _ (List.mem_append_right _ (List.mem_append_left _ (List.mem_of_getElem? (i := 99) rfl)))) rfl
theorem w_340 : Cond.code ⟨"ExpectRows$RowList", "firstFor", "(III)LExpectRows$Row;"⟩ prog_9_method_3_code 6 (some (.object "ExpectRows$Row")) ∈ GW := gw_of (List.mem_append_right _ (List.mem_append_right _ (List.mem_append_left _ (List.mem_of_getElem? (i := 100) rfl)))) rfl
theorem w_341 : Cond.methodLink "ExpectRows$RowList" 34 ⟨"java/util/ArrayList", "get", "(I)Ljava/lang/Object;"⟩ ∈ GW := gw_of (List.mem_append_right _ (List.mem_append_right _ (List.mem_append_left _ (List.mem_of_getElem? (i := 101) rfl)))) rfl
theorem w_342 : Cond.instanceMethod ⟨"java/util/ArrayList", "get", "(I)Ljava/lang/Object;"⟩ ∈ GW := gw_of (List.mem_append_right _ (List.mem_append_right _ (List.mem_append_left _ (List.mem_of_getElem? (i := 102) rfl)))) rfl
theorem w_343 : Cond.selects "java/util/ArrayList" ⟨"java/util/ArrayList", "get", "(I)Ljava/lang/Object;"⟩ ⟨"java/util/ArrayList", "get", "(I)Ljava/lang/Object;"⟩ ∈ GW := gw_of (List.mem_append_right _ (List.mem_append_right _ (List.mem_append_left _ (List.mem_of_getElem? (i := 103) rfl)))) rfl
theorem w_344 : Cond.code ⟨"java/util/ArrayList", "get", "(I)Ljava/lang/Object;"⟩ prog_24_method_20_code 2 (some (.object "java/lang/Object")) ∈ GW := gw_of (List.mem_append_right _ (List.mem_append_right _ (List.mem_append_left _ (List.mem_of_getElem? (i := 104) rfl)))) rfl
theorem w_345 : Cond.methodLink "java/util/ArrayList" 118 ⟨"java/util/Objects", "checkIndex", "(II)I"⟩ ∈ GW := gw_of (List.mem_append_right _ (List.mem_append_right _ (List.mem_append_left _ (List.mem_of_getElem? (i := 105) rfl)))) rfl
theorem w_346 : Cond.static ⟨"java/util/Objects", "checkIndex", "(II)I"⟩ ∈ GW := gw_of (List.mem_append_right _ (List.mem_append_right _ (List.mem_append_left _ (List.mem_of_getElem? (i := 106) rfl)))) rfl
theorem w_347 : Cond.code ⟨"java/util/Objects", "checkIndex", "(II)I"⟩ prog_28_method_17_code 2 (some .int) ∈ GW := gw_of (List.mem_append_right _ (List.mem_append_right _ (List.mem_append_left _ (List.mem_of_getElem? (i := 107) rfl)))) rfl
theorem w_348 : Cond.methodLink "java/util/Objects" 105 ⟨"jdk/internal/util/Preconditions", "checkIndex", "(IILjava/util/function/BiFunction;)I"⟩ ∈ GW := gw_of (List.mem_append_right _ (List.mem_append_right _ (List.mem_append_left _ (List.mem_of_getElem? (i := 108) rfl)))) rfl
theorem w_349 : Cond.static ⟨"jdk/internal/util/Preconditions", "checkIndex", "(IILjava/util/function/BiFunction;)I"⟩ ∈ GW := gw_of (List.mem_append_right _ (List.mem_append_right _ (List.mem_append_left _ (List.mem_of_getElem? (i := 109) rfl)))) rfl
theorem w_350 : Cond.code ⟨"jdk/internal/util/Preconditions", "checkIndex", "(IILjava/util/function/BiFunction;)I"⟩ prog_32_method_11_code 3 (some .int) ∈ GW := gw_of (List.mem_append_right _ (List.mem_append_right _ (List.mem_append_left _ (List.mem_of_getElem? (i := 110) rfl)))) rfl
theorem w_351 : Cond.methodLink "java/util/ArrayList" 123 ⟨"java/util/ArrayList", "elementData", "(I)Ljava/lang/Object;"⟩ ∈ GW := gw_of (List.mem_append_right _ (List.mem_append_right _ (List.mem_append_left _ (List.mem_of_getElem? (i := 111) rfl)))) rfl
theorem w_352 : Cond.instanceMethod ⟨"java/util/ArrayList", "elementData", "(I)Ljava/lang/Object;"⟩ ∈ GW := gw_of (List.mem_append_right _ (List.mem_append_right _ (List.mem_append_left _ (List.mem_of_getElem? (i := 112) rfl)))) rfl
theorem w_353 : Cond.selects "java/util/ArrayList" ⟨"java/util/ArrayList", "elementData", "(I)Ljava/lang/Object;"⟩ ⟨"java/util/ArrayList", "elementData", "(I)Ljava/lang/Object;"⟩ ∈ GW := gw_of (List.mem_append_right _ (List.mem_append_right _ (List.mem_append_left _ (List.mem_of_getElem? (i := 113) rfl)))) rfl
theorem w_354 : Cond.code ⟨"java/util/ArrayList", "elementData", "(I)Ljava/lang/Object;"⟩ prog_24_method_18_code 2 (some (.object "java/lang/Object")) ∈ GW := gw_of (List.mem_append_right _ (List.mem_append_right _ (List.mem_append_left _ (List.mem_of_getElem? (i := 114) rfl)))) rfl
theorem w_355 : Cond.methodLinkNest "ExpectRows$RowList" 38 ⟨"ExpectRows$Row", "isFor", "(III)Z"⟩ "ExpectRows" ∈ NW := nw_of (List.mem_append_right _ (List.mem_append_right _ (List.mem_append_left _ (List.mem_of_getElem? (i := 115) rfl)))) rfl
theorem w_357 : Cond.instanceMethod ⟨"ExpectRows$Row", "isFor", "(III)Z"⟩ ∈ GW := gw_of (List.mem_append_right _ (List.mem_append_right _ (List.mem_append_left _ (List.mem_of_getElem? (i := 117) rfl)))) rfl
theorem w_358 : Cond.code ⟨"ExpectRows$Row", "isFor", "(III)Z"⟩ prog_8_method_2_code 4 (some .boolean) ∈ GW := gw_of (List.mem_append_right _ (List.mem_append_right _ (List.mem_append_left _ (List.mem_of_getElem? (i := 118) rfl)))) rfl
theorem w_359 : Cond.methodLink "ExpectRows" 97 ⟨"ExpectRows", "expectNext", "(LExpectRows$Item;LExpectRows$Row;IJ)I"⟩ ∈ GW := gw_of (List.mem_append_right _ (List.mem_append_right _ (List.mem_append_left _ (List.mem_of_getElem? (i := 119) rfl)))) rfl
theorem w_361 : Cond.instanceMethod ⟨"ExpectRows", "expectNext", "(LExpectRows$Item;LExpectRows$Row;IJ)I"⟩ ∈ GW := gw_of (List.mem_append_right _ (List.mem_append_right _ (List.mem_append_left _ (List.mem_of_getElem? (i := 121) rfl)))) rfl
theorem w_362 : Cond.code ⟨"ExpectRows", "expectNext", "(LExpectRows$Item;LExpectRows$Row;IJ)I"⟩ prog_1_method_17_code 6 (some .int) ∈ GW := gw_of (List.mem_append_right _ (List.mem_append_right _ (List.mem_append_left _ (List.mem_of_getElem? (i := 122) rfl)))) rfl
theorem w_363 : Cond.methodLinkNest "ExpectRows" 176 ⟨"ExpectRows$RowList", "noteFailed", "(LExpectRows$Row;)V"⟩ "ExpectRows" ∈ NW := nw_of (List.mem_append_right _ (List.mem_append_right _ (List.mem_append_left _ (List.mem_of_getElem? (i := 123) rfl)))) rfl
theorem w_365 : Cond.instanceMethod ⟨"ExpectRows$RowList", "noteFailed", "(LExpectRows$Row;)V"⟩ ∈ GW := gw_of (List.mem_append_right _ (List.mem_append_right _ (List.mem_append_left _ (List.mem_of_getElem? (i := 125) rfl)))) rfl
theorem w_366 : Cond.code ⟨"ExpectRows$RowList", "noteFailed", "(LExpectRows$Row;)V"⟩ prog_9_method_4_code 2 none ∈ GW := gw_of (List.mem_append_right _ (List.mem_append_right _ (List.mem_append_left _ (List.mem_of_getElem? (i := 126) rfl)))) rfl
theorem w_367 : Cond.methodLinkNest "ExpectRows" 187 ⟨"ExpectRows$HolidayList", "dueAfter", "(JJ)J"⟩ "ExpectRows" ∈ NW := nw_of (List.mem_append_right _ (List.mem_append_right _ (List.mem_append_left _ (List.mem_of_getElem? (i := 127) rfl)))) rfl
theorem w_369 : Cond.instanceMethod ⟨"ExpectRows$HolidayList", "dueAfter", "(JJ)J"⟩ ∈ GW := gw_of (List.mem_append_right _ (List.mem_append_right _ (List.mem_append_left _ (List.mem_of_getElem? (i := 129) rfl)))) rfl
theorem w_370 : Cond.code ⟨"ExpectRows$HolidayList", "dueAfter", "(JJ)J"⟩ prog_5_method_4_code 12 (some .long) ∈ GW := gw_of (List.mem_append_right _ (List.mem_append_right _ (List.mem_append_left _ (List.mem_of_getElem? (i := 130) rfl)))) rfl
theorem w_371 : Cond.constantLong "ExpectRows$HolidayList" 23 (86400) ∈ GW := gw_of (List.mem_append_right _ (List.mem_append_right _ (List.mem_append_left _ (List.mem_of_getElem? (i := 131) rfl)))) rfl
theorem w_372 : Cond.methodLink "ExpectRows$HolidayList" 25 ⟨"java/lang/Math", "max", "(JJ)J"⟩ ∈ GW := gw_of (List.mem_append_right _ (List.mem_append_right _ (List.mem_append_left _ (List.mem_of_getElem? (i := 132) rfl)))) rfl
theorem w_373 : Cond.static ⟨"java/lang/Math", "max", "(JJ)J"⟩ ∈ GW := gw_of (List.mem_append_right _ (List.mem_append_right _ (List.mem_append_left _ (List.mem_of_getElem? (i := 133) rfl)))) rfl
theorem w_374 : Cond.code ⟨"java/lang/Math", "max", "(JJ)J"⟩ prog_17_method_66_code 4 (some .long) ∈ GW := gw_of (List.mem_append_right _ (List.mem_append_right _ (List.mem_append_left _ (List.mem_of_getElem? (i := 134) rfl)))) rfl
theorem w_375 : Cond.methodLinkNest "ExpectRows" 191 ⟨"ExpectRows$Item", "expect", "(IIJ)V"⟩ "ExpectRows" ∈ NW := nw_of (List.mem_append_right _ (List.mem_append_right _ (List.mem_append_left _ (List.mem_of_getElem? (i := 135) rfl)))) rfl
theorem w_377 : Cond.instanceMethod ⟨"ExpectRows$Item", "expect", "(IIJ)V"⟩ ∈ GW := gw_of (List.mem_append_right _ (List.mem_append_right _ (List.mem_append_left _ (List.mem_of_getElem? (i := 137) rfl)))) rfl
theorem w_378 : Cond.code ⟨"ExpectRows$Item", "expect", "(IIJ)V"⟩ prog_6_method_8_code 5 none ∈ GW := gw_of (List.mem_append_right _ (List.mem_append_right _ (List.mem_append_left _ (List.mem_of_getElem? (i := 138) rfl)))) rfl
theorem w_379 : Cond.methodLinkNest "ExpectRows" 195 ⟨"ExpectRows$PlaceCounts", "addBegun", "(I)V"⟩ "ExpectRows" ∈ NW := nw_of (List.mem_append_right _ (List.mem_append_right _ (List.mem_append_left _ (List.mem_of_getElem? (i := 139) rfl)))) rfl
theorem w_381 : Cond.instanceMethod ⟨"ExpectRows$PlaceCounts", "addBegun", "(I)V"⟩ ∈ GW := gw_of (List.mem_append_right _ (List.mem_append_right _ (List.mem_append_left _ (List.mem_of_getElem? (i := 141) rfl)))) rfl
theorem w_382 : Cond.code ⟨"ExpectRows$PlaceCounts", "addBegun", "(I)V"⟩ prog_7_method_2_code 2 none ∈ GW := gw_of (List.mem_append_right _ (List.mem_append_right _ (List.mem_append_left _ (List.mem_of_getElem? (i := 142) rfl)))) rfl
theorem w_383 : Cond.methodLinkNest "ExpectRows$PlaceCounts" 18 ⟨"ExpectRows", "isPlace", "(I)Z"⟩ "ExpectRows" ∈ NW := nw_of (List.mem_append_right _ (List.mem_append_right _ (List.mem_append_left _ (List.mem_of_getElem? (i := 143) rfl)))) rfl
theorem w_384 : Cond.methodLink "ExpectRowsLaw" 31 ⟨"ExpectRows", "tick", "(J)I"⟩ ∈ GW := gw_of (List.mem_append_right _ (List.mem_append_right _ (List.mem_append_left _ (List.mem_of_getElem? (i := 144) rfl)))) rfl
theorem w_385 : Cond.instanceMethod ⟨"ExpectRows", "tick", "(J)I"⟩ ∈ GW := gw_of (List.mem_append_right _ (List.mem_append_right _ (List.mem_append_left _ (List.mem_of_getElem? (i := 145) rfl)))) rfl
theorem w_386 : Cond.selects "ExpectRows" ⟨"ExpectRows", "tick", "(J)I"⟩ ⟨"ExpectRows", "tick", "(J)I"⟩ ∈ GW := gw_of (List.mem_append_right _ (List.mem_append_right _ (List.mem_append_left _ (List.mem_of_getElem? (i := 146) rfl)))) rfl
theorem w_387 : Cond.code ⟨"ExpectRows", "tick", "(J)I"⟩ prog_1_method_4_code 5 (some .int) ∈ GW := gw_of (List.mem_append_right _ (List.mem_append_right _ (List.mem_append_left _ (List.mem_of_getElem? (i := 147) rfl)))) rfl
theorem w_388 : Cond.constantLong "ExpectRows" 101 (2000000000) ∈ GW := gw_of (List.mem_append_right _ (List.mem_append_right _ (List.mem_append_left _ (List.mem_of_getElem? (i := 148) rfl)))) rfl
theorem w_389 : Cond.methodLinkNest "ExpectRows" 103 ⟨"ExpectRows$AlarmList", "size", "()I"⟩ "ExpectRows" ∈ NW := nw_of (List.mem_append_right _ (List.mem_append_right _ (List.mem_append_left _ (List.mem_of_getElem? (i := 149) rfl)))) rfl
theorem w_391 : Cond.instanceMethod ⟨"ExpectRows$AlarmList", "size", "()I"⟩ ∈ GW := gw_of (List.mem_append_right _ (List.mem_append_right _ (List.mem_append_left _ (List.mem_of_getElem? (i := 151) rfl)))) rfl
theorem w_392 : Cond.code ⟨"ExpectRows$AlarmList", "size", "()I"⟩ prog_3_method_2_code 1 (some .int) ∈ GW := gw_of (List.mem_append_right _ (List.mem_append_right _ (List.mem_append_left _ (List.mem_of_getElem? (i := 152) rfl)))) rfl
theorem w_393 : Cond.methodLink "ExpectRows$AlarmList" 18 ⟨"java/util/ArrayList", "size", "()I"⟩ ∈ GW := gw_of (List.mem_append_right _ (List.mem_append_right _ (List.mem_append_left _ (List.mem_of_getElem? (i := 153) rfl)))) rfl
theorem w_394 : Cond.methodLink "ExpectRows" 107 ⟨"ExpectRows", "tellLate", "(ILExpectRows$Item;)V"⟩ ∈ GW := gw_of (List.mem_append_right _ (List.mem_append_right _ (List.mem_append_left _ (List.mem_of_getElem? (i := 154) rfl)))) rfl
theorem w_396 : Cond.instanceMethod ⟨"ExpectRows", "tellLate", "(ILExpectRows$Item;)V"⟩ ∈ GW := gw_of (List.mem_append_right _ (List.mem_append_right _ (List.mem_append_left _ (List.mem_of_getElem? (i := 156) rfl)))) rfl
theorem w_397 : Cond.code ⟨"ExpectRows", "tellLate", "(ILExpectRows$Item;)V"⟩ prog_1_method_18_code 3 none ∈ GW := gw_of (List.mem_append_right _ (List.mem_append_right _ (List.mem_append_left _ (List.mem_of_getElem? (i := 157) rfl)))) rfl
theorem w_398 : Cond.methodLinkNest "ExpectRows" 199 ⟨"ExpectRows$Item", "isExpected", "()Z"⟩ "ExpectRows" ∈ NW := nw_of (List.mem_append_right _ (List.mem_append_right _ (List.mem_append_left _ (List.mem_of_getElem? (i := 158) rfl)))) rfl
theorem w_400 : Cond.instanceMethod ⟨"ExpectRows$Item", "isExpected", "()Z"⟩ ∈ GW := gw_of (List.mem_append_right _ (List.mem_append_right _ (List.mem_append_left _ (List.mem_of_getElem? (i := 160) rfl)))) rfl
theorem w_401 : Cond.code ⟨"ExpectRows$Item", "isExpected", "()Z"⟩ prog_6_method_7_code 1 (some .boolean) ∈ GW := gw_of (List.mem_append_right _ (List.mem_append_right _ (List.mem_append_left _ (List.mem_of_getElem? (i := 161) rfl)))) rfl
theorem w_402 : Cond.methodLinkNest "ExpectRows" 212 ⟨"ExpectRows$PlaceCounts", "addLate", "(I)V"⟩ "ExpectRows" ∈ NW := nw_of (List.mem_append_right _ (List.mem_append_right _ (List.mem_append_left _ (List.mem_of_getElem? (i := 162) rfl)))) rfl
theorem w_404 : Cond.instanceMethod ⟨"ExpectRows$PlaceCounts", "addLate", "(I)V"⟩ ∈ GW := gw_of (List.mem_append_right _ (List.mem_append_right _ (List.mem_append_left _ (List.mem_of_getElem? (i := 164) rfl)))) rfl
theorem w_405 : Cond.code ⟨"ExpectRows$PlaceCounts", "addLate", "(I)V"⟩ prog_7_method_3_code 2 none ∈ GW := gw_of (List.mem_append_right _ (List.mem_append_right _ (List.mem_append_left _ (List.mem_of_getElem? (i := 165) rfl)))) rfl
theorem w_406 : Cond.methodLinkNest "ExpectRows" 215 ⟨"ExpectRows$AlarmList", "addAlarm", "(IILExpectRows$Item;)V"⟩ "ExpectRows" ∈ NW := nw_of (List.mem_append_right _ (List.mem_append_right _ (List.mem_append_left _ (List.mem_of_getElem? (i := 166) rfl)))) rfl
theorem w_408 : Cond.instanceMethod ⟨"ExpectRows$AlarmList", "addAlarm", "(IILExpectRows$Item;)V"⟩ ∈ GW := gw_of (List.mem_append_right _ (List.mem_append_right _ (List.mem_append_left _ (List.mem_of_getElem? (i := 168) rfl)))) rfl
theorem w_409 : Cond.code ⟨"ExpectRows$AlarmList", "addAlarm", "(IILExpectRows$Item;)V"⟩ prog_3_method_3_code 4 none ∈ GW := gw_of (List.mem_append_right _ (List.mem_append_right _ (List.mem_append_left _ (List.mem_of_getElem? (i := 169) rfl)))) rfl
theorem w_410 : Cond.classLink "ExpectRows$AlarmList" 22 "ExpectRows$Alarm" ∈ GW := gw_of (List.mem_append_right _ (List.mem_append_right _ (List.mem_append_left _ (List.mem_of_getElem? (i := 170) rfl)))) rfl
theorem w_411 : Cond.instantiable "ExpectRows$Alarm" 5 ∈ GW := gw_of (List.mem_append_right _ (List.mem_append_right _ (List.mem_append_left _ (List.mem_of_getElem? (i := 171) rfl)))) rfl
theorem w_412 : Cond.methodLinkNest "ExpectRows$AlarmList" 37 ⟨"ExpectRows$Alarm", "<init>", "(IIIII)V"⟩ "ExpectRows" ∈ NW := nw_of (List.mem_append_right _ (List.mem_append_right _ (List.mem_append_left _ (List.mem_of_getElem? (i := 172) rfl)))) rfl
theorem w_413 : Cond.instanceMethod ⟨"ExpectRows$Alarm", "<init>", "(IIIII)V"⟩ ∈ GW := gw_of (List.mem_append_right _ (List.mem_append_right _ (List.mem_append_left _ (List.mem_of_getElem? (i := 173) rfl)))) rfl
theorem w_414 : Cond.code ⟨"ExpectRows$Alarm", "<init>", "(IIIII)V"⟩ prog_2_method_1_code 6 none ∈ GW := gw_of (List.mem_append_right _ (List.mem_append_right _ (List.mem_append_left _ (List.mem_of_getElem? (i := 174) rfl)))) rfl
theorem w_415 : Cond.methodLink "ExpectRows$Alarm" 1 ⟨"java/lang/Object", "<init>", "()V"⟩ ∈ GW := gw_of (List.mem_append_right _ (List.mem_append_right _ (List.mem_append_left _ (List.mem_of_getElem? (i := 175) rfl)))) rfl
theorem w_416 : Cond.fieldLink "ExpectRows$Alarm" 7 "ExpectRows$Alarm" "item" "I" ∈ GW := gw_of (List.mem_append_right _ (List.mem_append_right _ (List.mem_append_left _ (List.mem_of_getElem? (i := 176) rfl)))) rfl
theorem w_417 : Cond.fieldLinkNest "ExpectRows$AlarmList" 48 "ExpectRows$Alarm" "item" "I" "ExpectRows" ∈ NW := nw_of (List.mem_append_right _ (List.mem_append_right _ (List.mem_append_left _ (List.mem_of_getElem? (i := 177) rfl)))) rfl
theorem w_418 : Cond.fieldLink "ExpectRows$Alarm" 13 "ExpectRows$Alarm" "kind" "I" ∈ GW := gw_of (List.mem_append_right _ (List.mem_append_right _ (List.mem_append_left _ (List.mem_of_getElem? (i := 178) rfl)))) rfl
theorem w_419 : Cond.fieldLinkNest "ExpectRows$AlarmList" 51 "ExpectRows$Alarm" "kind" "I" "ExpectRows" ∈ NW := nw_of (List.mem_append_right _ (List.mem_append_right _ (List.mem_append_left _ (List.mem_of_getElem? (i := 179) rfl)))) rfl
theorem w_420 : Cond.fieldLink "ExpectRows$Alarm" 16 "ExpectRows$Alarm" "row" "I" ∈ GW := gw_of (List.mem_append_right _ (List.mem_append_right _ (List.mem_append_left _ (List.mem_of_getElem? (i := 180) rfl)))) rfl
theorem w_421 : Cond.fieldLinkNest "ExpectRows$AlarmList" 54 "ExpectRows$Alarm" "row" "I" "ExpectRows" ∈ NW := nw_of (List.mem_append_right _ (List.mem_append_right _ (List.mem_append_left _ (List.mem_of_getElem? (i := 181) rfl)))) rfl
theorem w_422 : Cond.fieldLink "ExpectRows$Alarm" 19 "ExpectRows$Alarm" "place" "I" ∈ GW := gw_of (List.mem_append_right _ (List.mem_append_right _ (List.mem_append_left _ (List.mem_of_getElem? (i := 182) rfl)))) rfl
theorem w_423 : Cond.fieldLinkNest "ExpectRows$AlarmList" 55 "ExpectRows$Alarm" "place" "I" "ExpectRows" ∈ NW := nw_of (List.mem_append_right _ (List.mem_append_right _ (List.mem_append_left _ (List.mem_of_getElem? (i := 183) rfl)))) rfl
theorem w_424 : Cond.fieldLink "ExpectRows$Alarm" 22 "ExpectRows$Alarm" "due" "I" ∈ GW := gw_of (List.mem_append_right _ (List.mem_append_right _ (List.mem_append_left _ (List.mem_of_getElem? (i := 184) rfl)))) rfl
theorem w_425 : Cond.fieldLinkNest "ExpectRows$AlarmList" 56 "ExpectRows$Alarm" "due" "I" "ExpectRows" ∈ NW := nw_of (List.mem_append_right _ (List.mem_append_right _ (List.mem_append_left _ (List.mem_of_getElem? (i := 185) rfl)))) rfl
theorem w_426 : Cond.laysFinal "ExpectRows$Alarm" "ExpectRows$Alarm" "item" "I" ∈ GW := gw_of (List.mem_append_right _ (List.mem_append_right _ (List.mem_append_left _ (List.mem_of_getElem? (i := 186) rfl)))) rfl
theorem w_428 : Cond.laysFinal "ExpectRows$Alarm" "ExpectRows$Alarm" "kind" "I" ∈ GW := gw_of (List.mem_append_right _ (List.mem_append_right _ (List.mem_append_left _ (List.mem_of_getElem? (i := 188) rfl)))) rfl
theorem w_430 : Cond.laysFinal "ExpectRows$Alarm" "ExpectRows$Alarm" "row" "I" ∈ GW := gw_of (List.mem_append_right _ (List.mem_append_right _ (List.mem_append_left _ (List.mem_of_getElem? (i := 190) rfl)))) rfl
theorem w_432 : Cond.laysFinal "ExpectRows$Alarm" "ExpectRows$Alarm" "place" "I" ∈ GW := gw_of (List.mem_append_right _ (List.mem_append_right _ (List.mem_append_left _ (List.mem_of_getElem? (i := 192) rfl)))) rfl
theorem w_434 : Cond.laysFinal "ExpectRows$Alarm" "ExpectRows$Alarm" "due" "I" ∈ GW := gw_of (List.mem_append_right _ (List.mem_append_right _ (List.mem_append_left _ (List.mem_of_getElem? (i := 194) rfl)))) rfl
theorem w_436 : Cond.superclass "ExpectRows$Alarm" "java/lang/Object" ∈ GW := gw_of (List.mem_append_right _ (List.mem_append_right _ (List.mem_append_left _ (List.mem_of_getElem? (i := 196) rfl)))) rfl
theorem w_437 : Cond.methodLink "ExpectRows$AlarmList" 40 ⟨"java/util/ArrayList", "add", "(Ljava/lang/Object;)Z"⟩ ∈ GW := gw_of (List.mem_append_right _ (List.mem_append_right _ (List.mem_append_left _ (List.mem_of_getElem? (i := 197) rfl)))) rfl
theorem w_438 : Cond.methodLink "ExpectRows" 111 ⟨"ExpectRows", "tellLost", "(ILExpectRows$Item;)V"⟩ ∈ GW := gw_of (List.mem_append_right _ (List.mem_append_right _ (List.mem_append_left _ (List.mem_of_getElem? (i := 198) rfl)))) rfl
theorem w_440 : Cond.instanceMethod ⟨"ExpectRows", "tellLost", "(ILExpectRows$Item;)V"⟩ ∈ GW := gw_of (List.mem_append_right _ (List.mem_append_right _ (List.mem_append_left _ (List.mem_of_getElem? (i := 200) rfl)))) rfl
theorem w_441 : Cond.code ⟨"ExpectRows", "tellLost", "(ILExpectRows$Item;)V"⟩ prog_1_method_19_code 3 none ∈ GW := gw_of (List.mem_append_right _ (List.mem_append_right _ (List.mem_append_left _ (List.mem_of_getElem? (i := 201) rfl)))) rfl
theorem w_442 : Cond.constantLong "ExpectRows" 219 (864000) ∈ GW := gw_of (List.mem_append_right _ (List.mem_append_right _ (List.mem_append_left _ (List.mem_of_getElem? (i := 202) rfl)))) rfl
theorem w_443 : Cond.methodLink "ExpectRowsLaw" 36 ⟨"ExpectRows", "alarm", "(II)I"⟩ ∈ GW := gw_of (List.mem_append_right _ (List.mem_append_right _ (List.mem_append_left _ (List.mem_of_getElem? (i := 203) rfl)))) rfl
theorem w_444 : Cond.instanceMethod ⟨"ExpectRows", "alarm", "(II)I"⟩ ∈ GW := gw_of (List.mem_append_right _ (List.mem_append_right _ (List.mem_append_left _ (List.mem_of_getElem? (i := 204) rfl)))) rfl
theorem w_445 : Cond.selects "ExpectRows" ⟨"ExpectRows", "alarm", "(II)I"⟩ ⟨"ExpectRows", "alarm", "(II)I"⟩ ∈ GW := gw_of (List.mem_append_right _ (List.mem_append_right _ (List.mem_append_left _ (List.mem_of_getElem? (i := 205) rfl)))) rfl
theorem w_446 : Cond.code ⟨"ExpectRows", "alarm", "(II)I"⟩ prog_1_method_5_code 3 (some .int) ∈ GW := gw_of (List.mem_append_right _ (List.mem_append_right _ (List.mem_append_left _ (List.mem_of_getElem? (i := 206) rfl)))) rfl
theorem w_447 : Cond.methodLinkNest "ExpectRows" 114 ⟨"ExpectRows$AlarmList", "partOf", "(II)I"⟩ "ExpectRows" ∈ NW := nw_of (List.mem_append_right _ (List.mem_append_right _ (List.mem_append_left _ (List.mem_of_getElem? (i := 207) rfl)))) rfl
theorem w_449 : Cond.instanceMethod ⟨"ExpectRows$AlarmList", "partOf", "(II)I"⟩ ∈ GW := gw_of (List.mem_append_right _ (List.mem_append_right _ (List.mem_append_left _ (List.mem_of_getElem? (i := 209) rfl)))) rfl
theorem w_450 : Cond.code ⟨"ExpectRows$AlarmList", "partOf", "(II)I"⟩ prog_3_method_4_code 4 (some .int) ∈ GW := gw_of (List.mem_append_right _ (List.mem_append_right _ (List.mem_append_left _ (List.mem_of_getElem? (i := 210) rfl)))) rfl
theorem w_451 : Cond.methodLink "ExpectRows$AlarmList" 44 ⟨"java/util/ArrayList", "get", "(I)Ljava/lang/Object;"⟩ ∈ GW := gw_of (List.mem_append_right _ (List.mem_append_right _ (List.mem_append_left _ (List.mem_of_getElem? (i := 211) rfl)))) rfl
theorem w_452 : Cond.methodLink "ExpectRowsLaw" 41 ⟨"ExpectRows", "state", "(I)I"⟩ ∈ GW := gw_of (List.mem_append_right _ (List.mem_append_right _ (List.mem_append_left _ (List.mem_of_getElem? (i := 212) rfl)))) rfl
theorem w_453 : Cond.instanceMethod ⟨"ExpectRows", "state", "(I)I"⟩ ∈ GW := gw_of (List.mem_append_right _ (List.mem_append_right _ (List.mem_append_left _ (List.mem_of_getElem? (i := 213) rfl)))) rfl
theorem w_454 : Cond.selects "ExpectRows" ⟨"ExpectRows", "state", "(I)I"⟩ ⟨"ExpectRows", "state", "(I)I"⟩ ∈ GW := gw_of (List.mem_append_right _ (List.mem_append_right _ (List.mem_append_left _ (List.mem_of_getElem? (i := 214) rfl)))) rfl
theorem w_455 : Cond.code ⟨"ExpectRows", "state", "(I)I"⟩ prog_1_method_6_code 2 (some .int) ∈ GW := gw_of (List.mem_append_right _ (List.mem_append_right _ (List.mem_append_left _ (List.mem_of_getElem? (i := 215) rfl)))) rfl
theorem w_456 : Cond.methodLinkNest "ExpectRows" 118 ⟨"ExpectRows$Item", "toldState", "()I"⟩ "ExpectRows" ∈ NW := nw_of (List.mem_append_right _ (List.mem_append_right _ (List.mem_append_left _ (List.mem_of_getElem? (i := 216) rfl)))) rfl
theorem w_458 : Cond.instanceMethod ⟨"ExpectRows$Item", "toldState", "()I"⟩ ∈ GW := gw_of (List.mem_append_right _ (List.mem_append_right _ (List.mem_append_left _ (List.mem_of_getElem? (i := 218) rfl)))) rfl
theorem w_459 : Cond.code ⟨"ExpectRows$Item", "toldState", "()I"⟩ prog_6_method_10_code 1 (some .int) ∈ GW := gw_of (List.mem_append_right _ (List.mem_append_right _ (List.mem_append_left _ (List.mem_of_getElem? (i := 219) rfl)))) rfl
theorem w_460 : Cond.methodLink "ExpectRowsLaw" 46 ⟨"ExpectRows", "holiday", "(J)I"⟩ ∈ GW := gw_of (List.mem_append_right _ (List.mem_append_right _ (List.mem_append_left _ (List.mem_of_getElem? (i := 220) rfl)))) rfl
theorem w_461 : Cond.instanceMethod ⟨"ExpectRows", "holiday", "(J)I"⟩ ∈ GW := gw_of (List.mem_append_right _ (List.mem_append_right _ (List.mem_append_left _ (List.mem_of_getElem? (i := 221) rfl)))) rfl
theorem w_462 : Cond.selects "ExpectRows" ⟨"ExpectRows", "holiday", "(J)I"⟩ ⟨"ExpectRows", "holiday", "(J)I"⟩ ∈ GW := gw_of (List.mem_append_right _ (List.mem_append_right _ (List.mem_append_left _ (List.mem_of_getElem? (i := 222) rfl)))) rfl
theorem w_463 : Cond.code ⟨"ExpectRows", "holiday", "(J)I"⟩ prog_1_method_7_code 3 (some .int) ∈ GW := gw_of (List.mem_append_right _ (List.mem_append_right _ (List.mem_append_left _ (List.mem_of_getElem? (i := 223) rfl)))) rfl
theorem w_464 : Cond.constantLong "ExpectRows" 121 (20000) ∈ GW := gw_of (List.mem_append_right _ (List.mem_append_right _ (List.mem_append_left _ (List.mem_of_getElem? (i := 224) rfl)))) rfl
theorem w_465 : Cond.methodLinkNest "ExpectRows" 123 ⟨"ExpectRows$HolidayList", "addDay", "(J)I"⟩ "ExpectRows" ∈ NW := nw_of (List.mem_append_right _ (List.mem_append_right _ (List.mem_append_left _ (List.mem_of_getElem? (i := 225) rfl)))) rfl
theorem w_467 : Cond.instanceMethod ⟨"ExpectRows$HolidayList", "addDay", "(J)I"⟩ ∈ GW := gw_of (List.mem_append_right _ (List.mem_append_right _ (List.mem_append_left _ (List.mem_of_getElem? (i := 227) rfl)))) rfl
theorem w_468 : Cond.code ⟨"ExpectRows$HolidayList", "addDay", "(J)I"⟩ prog_5_method_2_code 4 (some .int) ∈ GW := gw_of (List.mem_append_right _ (List.mem_append_right _ (List.mem_append_left _ (List.mem_of_getElem? (i := 228) rfl)))) rfl
theorem w_469 : Cond.methodLink "ExpectRows$HolidayList" 19 ⟨"ExpectRows$HolidayList", "holds", "(J)Z"⟩ ∈ GW := gw_of (List.mem_append_right _ (List.mem_append_right _ (List.mem_append_left _ (List.mem_of_getElem? (i := 229) rfl)))) rfl
theorem w_471 : Cond.instanceMethod ⟨"ExpectRows$HolidayList", "holds", "(J)Z"⟩ ∈ GW := gw_of (List.mem_append_right _ (List.mem_append_right _ (List.mem_append_left _ (List.mem_of_getElem? (i := 231) rfl)))) rfl
theorem w_472 : Cond.code ⟨"ExpectRows$HolidayList", "holds", "(J)Z"⟩ prog_5_method_3_code 4 (some .boolean) ∈ GW := gw_of (List.mem_append_right _ (List.mem_append_right _ (List.mem_append_left _ (List.mem_of_getElem? (i := 232) rfl)))) rfl
theorem w_473 : Cond.methodLink "ExpectRowsLaw" 56 ⟨"ExpectRows", "percentile", "(II)J"⟩ ∈ GW := gw_of (List.mem_append_right _ (List.mem_append_right _ (List.mem_append_left _ (List.mem_of_getElem? (i := 233) rfl)))) rfl
theorem w_474 : Cond.instanceMethod ⟨"ExpectRows", "percentile", "(II)J"⟩ ∈ GW := gw_of (List.mem_append_right _ (List.mem_append_right _ (List.mem_append_left _ (List.mem_of_getElem? (i := 234) rfl)))) rfl
theorem w_475 : Cond.selects "ExpectRows" ⟨"ExpectRows", "percentile", "(II)J"⟩ ⟨"ExpectRows", "percentile", "(II)J"⟩ ∈ GW := gw_of (List.mem_append_right _ (List.mem_append_right _ (List.mem_append_left _ (List.mem_of_getElem? (i := 235) rfl)))) rfl
theorem w_476 : Cond.code ⟨"ExpectRows", "percentile", "(II)J"⟩ prog_1_method_9_code 5 (some .long) ∈ GW := gw_of (List.mem_append_right _ (List.mem_append_right _ (List.mem_append_left _ (List.mem_of_getElem? (i := 236) rfl)))) rfl
theorem w_477 : Cond.constantLong "ExpectRows" 128 (-102) ∈ GW := gw_of (List.mem_append_right _ (List.mem_append_right _ (List.mem_append_left _ (List.mem_of_getElem? (i := 237) rfl)))) rfl
theorem w_478 : Cond.methodLinkNest "ExpectRows" 147 ⟨"ExpectRows$DeliveryList", "countOf", "(I)I"⟩ "ExpectRows" ∈ NW := nw_of (List.mem_append_right _ (List.mem_append_right _ (List.mem_append_left _ (List.mem_of_getElem? (i := 238) rfl)))) rfl
theorem w_480 : Cond.instanceMethod ⟨"ExpectRows$DeliveryList", "countOf", "(I)I"⟩ ∈ GW := gw_of (List.mem_append_right _ (List.mem_append_right _ (List.mem_append_right _ (List.mem_append_left _ (List.mem_of_getElem? (i := 0) rfl))))) rfl
theorem w_481 : Cond.code ⟨"ExpectRows$DeliveryList", "countOf", "(I)I"⟩ prog_4_method_3_code 4 (some .int) ∈ GW := gw_of (List.mem_append_right _ (List.mem_append_right _ (List.mem_append_right _ (List.mem_append_left _ (List.mem_of_getElem? (i := 1) rfl))))) rfl
theorem w_482 : Cond.methodLink "ExpectRows" 150 ⟨"java/lang/Math", "max", "(II)I"⟩ ∈ GW := gw_of (List.mem_append_right _ (List.mem_append_right _ (List.mem_append_right _ (List.mem_append_left _ (List.mem_of_getElem? (i := 2) rfl))))) rfl
theorem w_483 : Cond.methodLinkNest "ExpectRows" 155 ⟨"ExpectRows$DeliveryList", "daysAtRank", "(II)I"⟩ "ExpectRows" ∈ NW := nw_of (List.mem_append_right _ (List.mem_append_right _ (List.mem_append_right _ (List.mem_append_left _ (List.mem_of_getElem? (i := 3) rfl))))) rfl
theorem w_485 : Cond.instanceMethod ⟨"ExpectRows$DeliveryList", "daysAtRank", "(II)I"⟩ ∈ GW := gw_of (List.mem_append_right _ (List.mem_append_right _ (List.mem_append_right _ (List.mem_append_left _ (List.mem_of_getElem? (i := 5) rfl))))) rfl
theorem w_486 : Cond.code ⟨"ExpectRows$DeliveryList", "daysAtRank", "(II)I"⟩ prog_4_method_4_code 5 (some .int) ∈ GW := gw_of (List.mem_append_right _ (List.mem_append_right _ (List.mem_append_right _ (List.mem_append_left _ (List.mem_of_getElem? (i := 6) rfl))))) rfl
theorem w_487 : Cond.methodLink "ExpectRowsLaw" 60 ⟨"ExpectRows", "found", "(IJ)I"⟩ ∈ GW := gw_of (List.mem_append_right _ (List.mem_append_right _ (List.mem_append_right _ (List.mem_append_left _ (List.mem_of_getElem? (i := 7) rfl))))) rfl
theorem w_488 : Cond.instanceMethod ⟨"ExpectRows", "found", "(IJ)I"⟩ ∈ GW := gw_of (List.mem_append_right _ (List.mem_append_right _ (List.mem_append_right _ (List.mem_append_left _ (List.mem_of_getElem? (i := 8) rfl))))) rfl
theorem w_489 : Cond.selects "ExpectRows" ⟨"ExpectRows", "found", "(IJ)I"⟩ ⟨"ExpectRows", "found", "(IJ)I"⟩ ∈ GW := gw_of (List.mem_append_right _ (List.mem_append_right _ (List.mem_append_right _ (List.mem_append_left _ (List.mem_of_getElem? (i := 9) rfl))))) rfl
theorem w_490 : Cond.code ⟨"ExpectRows", "found", "(IJ)I"⟩ prog_1_method_10_code 5 (some .int) ∈ GW := gw_of (List.mem_append_right _ (List.mem_append_right _ (List.mem_append_right _ (List.mem_append_left _ (List.mem_of_getElem? (i := 10) rfl))))) rfl
theorem w_491 : Cond.methodLink "ExpectRowsLaw" 65 ⟨"ExpectRows", "cluster", "(II)I"⟩ ∈ GW := gw_of (List.mem_append_right _ (List.mem_append_right _ (List.mem_append_right _ (List.mem_append_left _ (List.mem_of_getElem? (i := 11) rfl))))) rfl
theorem w_492 : Cond.instanceMethod ⟨"ExpectRows", "cluster", "(II)I"⟩ ∈ GW := gw_of (List.mem_append_right _ (List.mem_append_right _ (List.mem_append_right _ (List.mem_append_left _ (List.mem_of_getElem? (i := 12) rfl))))) rfl
theorem w_493 : Cond.selects "ExpectRows" ⟨"ExpectRows", "cluster", "(II)I"⟩ ⟨"ExpectRows", "cluster", "(II)I"⟩ ∈ GW := gw_of (List.mem_append_right _ (List.mem_append_right _ (List.mem_append_right _ (List.mem_append_left _ (List.mem_of_getElem? (i := 13) rfl))))) rfl
theorem w_494 : Cond.code ⟨"ExpectRows", "cluster", "(II)I"⟩ prog_1_method_11_code 4 (some .int) ∈ GW := gw_of (List.mem_append_right _ (List.mem_append_right _ (List.mem_append_right _ (List.mem_append_left _ (List.mem_of_getElem? (i := 14) rfl))))) rfl
theorem w_495 : Cond.methodLinkNest "ExpectRows" 165 ⟨"ExpectRows$PlaceCounts", "clusterPlace", "(I)I"⟩ "ExpectRows" ∈ NW := nw_of (List.mem_append_right _ (List.mem_append_right _ (List.mem_append_right _ (List.mem_append_left _ (List.mem_of_getElem? (i := 15) rfl))))) rfl
theorem w_497 : Cond.instanceMethod ⟨"ExpectRows$PlaceCounts", "clusterPlace", "(I)I"⟩ ∈ GW := gw_of (List.mem_append_right _ (List.mem_append_right _ (List.mem_append_right _ (List.mem_append_left _ (List.mem_of_getElem? (i := 17) rfl))))) rfl
theorem w_498 : Cond.code ⟨"ExpectRows$PlaceCounts", "clusterPlace", "(I)I"⟩ prog_7_method_7_code 3 (some .int) ∈ GW := gw_of (List.mem_append_right _ (List.mem_append_right _ (List.mem_append_right _ (List.mem_append_left _ (List.mem_of_getElem? (i := 18) rfl))))) rfl
theorem w_499 : Cond.methodLink "ExpectRows$PlaceCounts" 26 ⟨"ExpectRows$PlaceCounts", "isCluster", "(I)Z"⟩ ∈ GW := gw_of (List.mem_append_right _ (List.mem_append_right _ (List.mem_append_right _ (List.mem_append_left _ (List.mem_of_getElem? (i := 19) rfl))))) rfl
theorem w_501 : Cond.instanceMethod ⟨"ExpectRows$PlaceCounts", "isCluster", "(I)Z"⟩ ∈ GW := gw_of (List.mem_append_right _ (List.mem_append_right _ (List.mem_append_right _ (List.mem_append_left _ (List.mem_of_getElem? (i := 21) rfl))))) rfl
theorem w_502 : Cond.code ⟨"ExpectRows$PlaceCounts", "isCluster", "(I)Z"⟩ prog_7_method_6_code 2 (some .boolean) ∈ GW := gw_of (List.mem_append_right _ (List.mem_append_right _ (List.mem_append_right _ (List.mem_append_left _ (List.mem_of_getElem? (i := 22) rfl))))) rfl
theorem w_503 : Cond.methodLink "ExpectRows$PlaceCounts" 22 ⟨"ExpectRows$PlaceCounts", "lateAt", "(I)I"⟩ ∈ GW := gw_of (List.mem_append_right _ (List.mem_append_right _ (List.mem_append_right _ (List.mem_append_left _ (List.mem_of_getElem? (i := 23) rfl))))) rfl
theorem w_505 : Cond.instanceMethod ⟨"ExpectRows$PlaceCounts", "lateAt", "(I)I"⟩ ∈ GW := gw_of (List.mem_append_right _ (List.mem_append_right _ (List.mem_append_right _ (List.mem_append_left _ (List.mem_of_getElem? (i := 25) rfl))))) rfl
theorem w_506 : Cond.code ⟨"ExpectRows$PlaceCounts", "lateAt", "(I)I"⟩ prog_7_method_5_code 2 (some .int) ∈ GW := gw_of (List.mem_append_right _ (List.mem_append_right _ (List.mem_append_right _ (List.mem_append_left _ (List.mem_of_getElem? (i := 26) rfl))))) rfl
theorem w_507 : Cond.methodLink "ExpectRows$PlaceCounts" 29 ⟨"ExpectRows$PlaceCounts", "clustersBefore", "(I)I"⟩ ∈ GW := gw_of (List.mem_append_right _ (List.mem_append_right _ (List.mem_append_right _ (List.mem_append_left _ (List.mem_of_getElem? (i := 27) rfl))))) rfl
theorem w_509 : Cond.instanceMethod ⟨"ExpectRows$PlaceCounts", "clustersBefore", "(I)I"⟩ ∈ GW := gw_of (List.mem_append_right _ (List.mem_append_right _ (List.mem_append_right _ (List.mem_append_left _ (List.mem_of_getElem? (i := 29) rfl))))) rfl
theorem w_510 : Cond.code ⟨"ExpectRows$PlaceCounts", "clustersBefore", "(I)I"⟩ prog_7_method_8_code 4 (some .int) ∈ GW := gw_of (List.mem_append_right _ (List.mem_append_right _ (List.mem_append_right _ (List.mem_append_left _ (List.mem_of_getElem? (i := 30) rfl))))) rfl
theorem w_511 : Cond.methodLink "ExpectRows$PlaceCounts" 32 ⟨"ExpectRows$PlaceCounts", "comesBefore", "(II)Z"⟩ ∈ GW := gw_of (List.mem_append_right _ (List.mem_append_right _ (List.mem_append_right _ (List.mem_append_left _ (List.mem_of_getElem? (i := 31) rfl))))) rfl
theorem w_513 : Cond.instanceMethod ⟨"ExpectRows$PlaceCounts", "comesBefore", "(II)Z"⟩ ∈ GW := gw_of (List.mem_append_right _ (List.mem_append_right _ (List.mem_append_right _ (List.mem_append_left _ (List.mem_of_getElem? (i := 33) rfl))))) rfl
theorem w_514 : Cond.code ⟨"ExpectRows$PlaceCounts", "comesBefore", "(II)Z"⟩ prog_7_method_9_code 7 (some .boolean) ∈ GW := gw_of (List.mem_append_right _ (List.mem_append_right _ (List.mem_append_right _ (List.mem_append_left _ (List.mem_of_getElem? (i := 34) rfl))))) rfl
theorem w_515 : Cond.methodLink "ExpectRows$PlaceCounts" 36 ⟨"ExpectRows$PlaceCounts", "begunAt", "(I)I"⟩ ∈ GW := gw_of (List.mem_append_right _ (List.mem_append_right _ (List.mem_append_right _ (List.mem_append_left _ (List.mem_of_getElem? (i := 35) rfl))))) rfl
theorem w_517 : Cond.instanceMethod ⟨"ExpectRows$PlaceCounts", "begunAt", "(I)I"⟩ ∈ GW := gw_of (List.mem_append_right _ (List.mem_append_right _ (List.mem_append_right _ (List.mem_append_left _ (List.mem_of_getElem? (i := 37) rfl))))) rfl
theorem w_518 : Cond.code ⟨"ExpectRows$PlaceCounts", "begunAt", "(I)I"⟩ prog_7_method_4_code 2 (some .int) ∈ GW := gw_of (List.mem_append_right _ (List.mem_append_right _ (List.mem_append_right _ (List.mem_append_left _ (List.mem_of_getElem? (i := 38) rfl))))) rfl
theorem w_519 : Cond.methodLinkNest "ExpectRows" 130 ⟨"ExpectRows$PlaceCounts", "lateAt", "(I)I"⟩ "ExpectRows" ∈ NW := nw_of (List.mem_append_right _ (List.mem_append_right _ (List.mem_append_right _ (List.mem_append_left _ (List.mem_of_getElem? (i := 39) rfl))))) rfl
theorem w_520 : Cond.methodLinkNest "ExpectRows" 134 ⟨"ExpectRows$PlaceCounts", "begunAt", "(I)I"⟩ "ExpectRows" ∈ NW := nw_of (List.mem_append_right _ (List.mem_append_right _ (List.mem_append_right _ (List.mem_append_left _ (List.mem_of_getElem? (i := 40) rfl))))) rfl
theorem w_521 : Cond.methodLink "ExpectRowsLaw" 69 ⟨"ExpectRows", "failing", "(I)I"⟩ ∈ GW := gw_of (List.mem_append_right _ (List.mem_append_right _ (List.mem_append_right _ (List.mem_append_left _ (List.mem_of_getElem? (i := 41) rfl))))) rfl
theorem w_522 : Cond.instanceMethod ⟨"ExpectRows", "failing", "(I)I"⟩ ∈ GW := gw_of (List.mem_append_right _ (List.mem_append_right _ (List.mem_append_right _ (List.mem_append_left _ (List.mem_of_getElem? (i := 42) rfl))))) rfl
theorem w_523 : Cond.selects "ExpectRows" ⟨"ExpectRows", "failing", "(I)I"⟩ ⟨"ExpectRows", "failing", "(I)I"⟩ ∈ GW := gw_of (List.mem_append_right _ (List.mem_append_right _ (List.mem_append_right _ (List.mem_append_left _ (List.mem_of_getElem? (i := 43) rfl))))) rfl
theorem w_524 : Cond.code ⟨"ExpectRows", "failing", "(I)I"⟩ prog_1_method_12_code 2 (some .int) ∈ GW := gw_of (List.mem_append_right _ (List.mem_append_right _ (List.mem_append_right _ (List.mem_append_left _ (List.mem_of_getElem? (i := 44) rfl))))) rfl
theorem w_525 : Cond.methodLinkNest "ExpectRows" 168 ⟨"ExpectRows$RowList", "failedRow", "(I)I"⟩ "ExpectRows" ∈ NW := nw_of (List.mem_append_right _ (List.mem_append_right _ (List.mem_append_right _ (List.mem_append_left _ (List.mem_of_getElem? (i := 45) rfl))))) rfl
theorem w_527 : Cond.instanceMethod ⟨"ExpectRows$RowList", "failedRow", "(I)I"⟩ ∈ GW := gw_of (List.mem_append_right _ (List.mem_append_right _ (List.mem_append_right _ (List.mem_append_left _ (List.mem_of_getElem? (i := 47) rfl))))) rfl
theorem w_528 : Cond.code ⟨"ExpectRows$RowList", "failedRow", "(I)I"⟩ prog_9_method_5_code 2 (some .int) ∈ GW := gw_of (List.mem_append_right _ (List.mem_append_right _ (List.mem_append_right _ (List.mem_append_left _ (List.mem_of_getElem? (i := 48) rfl))))) rfl
theorem w_529 : Cond.methodLink "ExpectRowsLaw" 50 ⟨"ExpectRowsLaw", "share", "(LExpectRows;II[J)I"⟩ ∈ GW := gw_of (List.mem_append_right _ (List.mem_append_right _ (List.mem_append_right _ (List.mem_append_left _ (List.mem_of_getElem? (i := 49) rfl))))) rfl
theorem w_530 : Cond.static ⟨"ExpectRowsLaw", "share", "(LExpectRows;II[J)I"⟩ ∈ GW := gw_of (List.mem_append_right _ (List.mem_append_right _ (List.mem_append_right _ (List.mem_append_left _ (List.mem_of_getElem? (i := 50) rfl))))) rfl
theorem w_531 : Cond.codeWith ⟨"ExpectRowsLaw", "share", "(LExpectRows;II[J)I"⟩ method_3_code 5 (some .int) [(0, 9, 12, 13)] ∈ GW := gw_of (List.mem_append_right _ (List.mem_append_right _ (List.mem_append_right _ (List.mem_append_left _ (List.mem_of_getElem? (i := 51) rfl))))) rfl
theorem w_532 : Cond.classLink "ExpectRowsLaw" 13 "java/lang/ArithmeticException" ∈ GW := gw_of (List.mem_append_right _ (List.mem_append_right _ (List.mem_append_right _ (List.mem_append_left _ (List.mem_of_getElem? (i := 52) rfl))))) rfl
theorem w_533 : Cond.methodLink "ExpectRowsLaw" 7 ⟨"ExpectRows", "share", "(II)J"⟩ ∈ GW := gw_of (List.mem_append_right _ (List.mem_append_right _ (List.mem_append_right _ (List.mem_append_left _ (List.mem_of_getElem? (i := 53) rfl))))) rfl
theorem w_534 : Cond.instanceMethod ⟨"ExpectRows", "share", "(II)J"⟩ ∈ GW := gw_of (List.mem_append_right _ (List.mem_append_right _ (List.mem_append_right _ (List.mem_append_left _ (List.mem_of_getElem? (i := 54) rfl))))) rfl
theorem w_535 : Cond.selects "ExpectRows" ⟨"ExpectRows", "share", "(II)J"⟩ ⟨"ExpectRows", "share", "(II)J"⟩ ∈ GW := gw_of (List.mem_append_right _ (List.mem_append_right _ (List.mem_append_right _ (List.mem_append_left _ (List.mem_of_getElem? (i := 55) rfl))))) rfl
theorem w_536 : Cond.code ⟨"ExpectRows", "share", "(II)J"⟩ prog_1_method_8_code 6 (some .long) ∈ GW := gw_of (List.mem_append_right _ (List.mem_append_right _ (List.mem_append_right _ (List.mem_append_left _ (List.mem_of_getElem? (i := 56) rfl))))) rfl
theorem w_537 : Cond.constantLong "ExpectRows" 126 (-101) ∈ GW := gw_of (List.mem_append_right _ (List.mem_append_right _ (List.mem_append_right _ (List.mem_append_left _ (List.mem_of_getElem? (i := 57) rfl))))) rfl
theorem w_538 : Cond.classLink "ExpectRows" 137 "java/lang/ArithmeticException" ∈ GW := gw_of (List.mem_append_right _ (List.mem_append_right _ (List.mem_append_right _ (List.mem_append_left _ (List.mem_of_getElem? (i := 58) rfl))))) rfl
theorem w_539 : Cond.instantiable "java/lang/ArithmeticException" 6 ∈ GW := gw_of (List.mem_append_right _ (List.mem_append_right _ (List.mem_append_right _ (List.mem_append_left _ (List.mem_of_getElem? (i := 59) rfl))))) rfl
theorem w_540 : Cond.castable "java/lang/ArithmeticException" "java/lang/ArithmeticException" ∈ NW := nw_of (List.mem_append_right _ (List.mem_append_right _ (List.mem_append_right _ (List.mem_append_left _ (List.mem_of_getElem? (i := 60) rfl))))) rfl
theorem w_541 : Cond.declares ⟨"java/lang/RuntimeException", "<init>", "()V"⟩ ∈ NW := nw_of (List.mem_append_right _ (List.mem_append_right _ (List.mem_append_right _ (List.mem_append_left _ (List.mem_of_getElem? (i := 61) rfl))))) rfl
theorem w_542 : Cond.declares ⟨"java/lang/RuntimeException", "<init>", "(Ljava/lang/String;)V"⟩ ∈ NW := nw_of (List.mem_append_right _ (List.mem_append_right _ (List.mem_append_right _ (List.mem_append_left _ (List.mem_of_getElem? (i := 62) rfl))))) rfl
theorem w_543 : Cond.declares ⟨"java/lang/Exception", "<init>", "()V"⟩ ∈ NW := nw_of (List.mem_append_right _ (List.mem_append_right _ (List.mem_append_right _ (List.mem_append_left _ (List.mem_of_getElem? (i := 63) rfl))))) rfl
theorem w_544 : Cond.declares ⟨"java/lang/Exception", "<init>", "(Ljava/lang/String;)V"⟩ ∈ NW := nw_of (List.mem_append_right _ (List.mem_append_right _ (List.mem_append_right _ (List.mem_append_left _ (List.mem_of_getElem? (i := 64) rfl))))) rfl
theorem w_545 : Cond.declares ⟨"java/lang/Throwable", "<init>", "()V"⟩ ∈ NW := nw_of (List.mem_append_right _ (List.mem_append_right _ (List.mem_append_right _ (List.mem_append_left _ (List.mem_of_getElem? (i := 65) rfl))))) rfl
theorem w_546 : Cond.declares ⟨"java/lang/Throwable", "<init>", "(Ljava/lang/String;)V"⟩ ∈ NW := nw_of (List.mem_append_right _ (List.mem_append_right _ (List.mem_append_right _ (List.mem_append_left _ (List.mem_of_getElem? (i := 66) rfl))))) rfl
theorem w_547 : Cond.selects "java/lang/ArithmeticException" ⟨"java/lang/Throwable", "fillInStackTrace", "(I)Ljava/lang/Throwable;"⟩ ⟨"java/lang/Throwable", "fillInStackTrace", "(I)Ljava/lang/Throwable;"⟩ ∈ GW := gw_of (List.mem_append_right _ (List.mem_append_right _ (List.mem_append_right _ (List.mem_append_left _ (List.mem_of_getElem? (i := 67) rfl))))) rfl
theorem w_548 : Cond.selects "java/lang/ArithmeticException" ⟨"java/lang/Throwable", "fillInStackTrace", "()Ljava/lang/Throwable;"⟩ ⟨"java/lang/Throwable", "fillInStackTrace", "()Ljava/lang/Throwable;"⟩ ∈ GW := gw_of (List.mem_append_right _ (List.mem_append_right _ (List.mem_append_right _ (List.mem_append_left _ (List.mem_of_getElem? (i := 68) rfl))))) rfl
theorem w_549 : Cond.lays "java/lang/ArithmeticException" "java/lang/Throwable" "cause" "Ljava/lang/Throwable;" ∈ GW := gw_of (List.mem_append_right _ (List.mem_append_right _ (List.mem_append_right _ (List.mem_append_left _ (List.mem_of_getElem? (i := 69) rfl))))) rfl
theorem w_550 : Cond.lays "java/lang/Throwable" "java/lang/Throwable" "cause" "Ljava/lang/Throwable;" ∈ GW := gw_of (List.mem_append_right _ (List.mem_append_right _ (List.mem_append_right _ (List.mem_append_left _ (List.mem_of_getElem? (i := 70) rfl))))) rfl
theorem w_551 : Cond.lays "java/lang/ArithmeticException" "java/lang/Throwable" "stackTrace" "[Ljava/lang/StackTraceElement;" ∈ GW := gw_of (List.mem_append_right _ (List.mem_append_right _ (List.mem_append_right _ (List.mem_append_left _ (List.mem_of_getElem? (i := 71) rfl))))) rfl
theorem w_552 : Cond.lays "java/lang/Throwable" "java/lang/Throwable" "stackTrace" "[Ljava/lang/StackTraceElement;" ∈ GW := gw_of (List.mem_append_right _ (List.mem_append_right _ (List.mem_append_right _ (List.mem_append_left _ (List.mem_of_getElem? (i := 72) rfl))))) rfl
theorem w_553 : Cond.lays "java/lang/ArithmeticException" "java/lang/Throwable" "suppressedExceptions" "Ljava/util/List;" ∈ GW := gw_of (List.mem_append_right _ (List.mem_append_right _ (List.mem_append_right _ (List.mem_append_left _ (List.mem_of_getElem? (i := 73) rfl))))) rfl
theorem w_554 : Cond.lays "java/lang/Throwable" "java/lang/Throwable" "suppressedExceptions" "Ljava/util/List;" ∈ GW := gw_of (List.mem_append_right _ (List.mem_append_right _ (List.mem_append_right _ (List.mem_append_left _ (List.mem_of_getElem? (i := 74) rfl))))) rfl
theorem w_555 : Cond.lays "java/lang/ArithmeticException" "java/lang/Throwable" "detailMessage" "Ljava/lang/String;" ∈ GW := gw_of (List.mem_append_right _ (List.mem_append_right _ (List.mem_append_right _ (List.mem_append_left _ (List.mem_of_getElem? (i := 75) rfl))))) rfl
theorem w_556 : Cond.lays "java/lang/Throwable" "java/lang/Throwable" "detailMessage" "Ljava/lang/String;" ∈ GW := gw_of (List.mem_append_right _ (List.mem_append_right _ (List.mem_append_right _ (List.mem_append_left _ (List.mem_of_getElem? (i := 76) rfl))))) rfl
theorem w_557 : Cond.lays "java/lang/ArithmeticException" "java/lang/Throwable" "backtrace" "Ljava/lang/Object;" ∈ GW := gw_of (List.mem_append_right _ (List.mem_append_right _ (List.mem_append_right _ (List.mem_append_left _ (List.mem_of_getElem? (i := 77) rfl))))) rfl
theorem w_558 : Cond.lays "java/lang/Throwable" "java/lang/Throwable" "backtrace" "Ljava/lang/Object;" ∈ GW := gw_of (List.mem_append_right _ (List.mem_append_right _ (List.mem_append_right _ (List.mem_append_left _ (List.mem_of_getElem? (i := 78) rfl))))) rfl
theorem w_559 : Cond.fieldLink "java/lang/Throwable" 198 "java/lang/Throwable" "backtrace" "Ljava/lang/Object;" ∈ GW := gw_of (List.mem_append_right _ (List.mem_append_right _ (List.mem_append_right _ (List.mem_append_left _ (List.mem_of_getElem? (i := 79) rfl))))) rfl
theorem w_560 : Cond.superclass "java/lang/Throwable" "java/lang/Object" ∈ GW := gw_of (List.mem_append_right _ (List.mem_append_right _ (List.mem_append_right _ (List.mem_append_left _ (List.mem_of_getElem? (i := 80) rfl))))) rfl
theorem w_561 : Cond.instanceMethod ⟨"java/lang/Throwable", "<init>", "()V"⟩ ∈ GW := gw_of (List.mem_append_right _ (List.mem_append_right _ (List.mem_append_right _ (List.mem_append_left _ (List.mem_of_getElem? (i := 81) rfl))))) rfl
theorem w_562 : Cond.code ⟨"java/lang/Throwable", "<init>", "()V"⟩ prog_21_method_1_code 1 none ∈ GW := gw_of (List.mem_append_right _ (List.mem_append_right _ (List.mem_append_right _ (List.mem_append_left _ (List.mem_of_getElem? (i := 82) rfl))))) rfl
theorem w_563 : Cond.methodLink "java/lang/Throwable" 1 ⟨"java/lang/Object", "<init>", "()V"⟩ ∈ GW := gw_of (List.mem_append_right _ (List.mem_append_right _ (List.mem_append_right _ (List.mem_append_left _ (List.mem_of_getElem? (i := 83) rfl))))) rfl
theorem w_564 : Cond.fieldLink "java/lang/Throwable" 13 "java/lang/Throwable" "UNASSIGNED_STACK" "[Ljava/lang/StackTraceElement;" ∈ GW := gw_of (List.mem_append_right _ (List.mem_append_right _ (List.mem_append_right _ (List.mem_append_left _ (List.mem_of_getElem? (i := 84) rfl))))) rfl
theorem w_566 : Cond.fieldLink "java/lang/Throwable" 20 "java/lang/Throwable" "SUPPRESSED_SENTINEL" "Ljava/util/List;" ∈ GW := gw_of (List.mem_append_right _ (List.mem_append_right _ (List.mem_append_right _ (List.mem_append_left _ (List.mem_of_getElem? (i := 86) rfl))))) rfl
theorem w_568 : Cond.methodLink "java/lang/Throwable" 27 ⟨"java/lang/Throwable", "fillInStackTrace", "()Ljava/lang/Throwable;"⟩ ∈ GW := gw_of (List.mem_append_right _ (List.mem_append_right _ (List.mem_append_right _ (List.mem_append_left _ (List.mem_of_getElem? (i := 88) rfl))))) rfl
theorem w_569 : Cond.instanceMethod ⟨"java/lang/Throwable", "fillInStackTrace", "()Ljava/lang/Throwable;"⟩ ∈ GW := gw_of (List.mem_append_right _ (List.mem_append_right _ (List.mem_append_right _ (List.mem_append_left _ (List.mem_of_getElem? (i := 89) rfl))))) rfl
theorem w_570 : Cond.sameMethod "java/lang/Throwable" "java/lang/Throwable" "fillInStackTrace" "()Ljava/lang/Throwable;" ∈ GW := gw_of (List.mem_append_right _ (List.mem_append_right _ (List.mem_append_right _ (List.mem_append_left _ (List.mem_of_getElem? (i := 90) rfl))))) rfl
theorem w_571 : Cond.codeSync ⟨"java/lang/Throwable", "fillInStackTrace", "()Ljava/lang/Throwable;"⟩ prog_21_method_18_code 1 (some (.object "java/lang/Throwable")) ∈ GW := gw_of (List.mem_append_right _ (List.mem_append_right _ (List.mem_append_right _ (List.mem_append_left _ (List.mem_of_getElem? (i := 91) rfl))))) rfl
theorem w_572 : Cond.methodLink "java/lang/Throwable" 202 ⟨"java/lang/Throwable", "fillInStackTrace", "(I)Ljava/lang/Throwable;"⟩ ∈ GW := gw_of (List.mem_append_right _ (List.mem_append_right _ (List.mem_append_right _ (List.mem_append_left _ (List.mem_of_getElem? (i := 92) rfl))))) rfl
theorem w_574 : Cond.instanceMethod ⟨"java/lang/Throwable", "fillInStackTrace", "(I)Ljava/lang/Throwable;"⟩ ∈ GW := gw_of (List.mem_append_right _ (List.mem_append_right _ (List.mem_append_right _ (List.mem_append_left _ (List.mem_of_getElem? (i := 94) rfl))))) rfl
theorem w_575 : Cond.instantiable "java/lang/Throwable" 6 ∈ GW := gw_of (List.mem_append_right _ (List.mem_append_right _ (List.mem_append_right _ (List.mem_append_left _ (List.mem_of_getElem? (i := 95) rfl))))) rfl
theorem w_576 : Cond.native ⟨"java/lang/Throwable", "fillInStackTrace", "(I)Ljava/lang/Throwable;"⟩ ∈ GW := gw_of (List.mem_append_right _ (List.mem_append_right _ (List.mem_append_right _ (List.mem_append_left _ (List.mem_of_getElem? (i := 96) rfl))))) rfl
theorem w_578 : Cond.methodLink "ExpectRows" 141 ⟨"java/lang/ArithmeticException", "<init>", "(Ljava/lang/String;)V"⟩ ∈ GW := gw_of (List.mem_append_right _ (List.mem_append_right _ (List.mem_append_right _ (List.mem_append_left _ (List.mem_of_getElem? (i := 98) rfl))))) rfl
theorem w_579 : Cond.instanceMethod ⟨"java/lang/ArithmeticException", "<init>", "(Ljava/lang/String;)V"⟩ ∈ GW := gw_of (List.mem_append_right _ (List.mem_append_right _ (List.mem_append_right _ (List.mem_append_left _ (List.mem_of_getElem? (i := 99) rfl))))) rfl
theorem w_580 : Cond.code ⟨"java/lang/ArithmeticException", "<init>", "(Ljava/lang/String;)V"⟩ prog_13_method_2_code 2 none ∈ GW := gw_of (List.mem_append_right _ (List.mem_append_right _ (List.mem_append_right _ (List.mem_append_left _ (List.mem_of_getElem? (i := 100) rfl))))) rfl
theorem w_581 : Cond.methodLink "java/lang/ArithmeticException" 7 ⟨"java/lang/RuntimeException", "<init>", "(Ljava/lang/String;)V"⟩ ∈ GW := gw_of (List.mem_append_right _ (List.mem_append_right _ (List.mem_append_right _ (List.mem_append_left _ (List.mem_of_getElem? (i := 101) rfl))))) rfl
theorem w_582 : Cond.instanceMethod ⟨"java/lang/RuntimeException", "<init>", "(Ljava/lang/String;)V"⟩ ∈ GW := gw_of (List.mem_append_right _ (List.mem_append_right _ (List.mem_append_right _ (List.mem_append_left _ (List.mem_of_getElem? (i := 102) rfl))))) rfl
theorem w_583 : Cond.code ⟨"java/lang/RuntimeException", "<init>", "(Ljava/lang/String;)V"⟩ prog_18_method_2_code 2 none ∈ GW := gw_of (List.mem_append_right _ (List.mem_append_right _ (List.mem_append_right _ (List.mem_append_left _ (List.mem_of_getElem? (i := 103) rfl))))) rfl
theorem w_584 : Cond.methodLink "java/lang/RuntimeException" 7 ⟨"java/lang/Exception", "<init>", "(Ljava/lang/String;)V"⟩ ∈ GW := gw_of (List.mem_append_right _ (List.mem_append_right _ (List.mem_append_right _ (List.mem_append_left _ (List.mem_of_getElem? (i := 104) rfl))))) rfl
theorem w_585 : Cond.instanceMethod ⟨"java/lang/Exception", "<init>", "(Ljava/lang/String;)V"⟩ ∈ GW := gw_of (List.mem_append_right _ (List.mem_append_right _ (List.mem_append_right _ (List.mem_append_left _ (List.mem_of_getElem? (i := 105) rfl))))) rfl
theorem w_586 : Cond.code ⟨"java/lang/Exception", "<init>", "(Ljava/lang/String;)V"⟩ prog_15_method_2_code 2 none ∈ GW := gw_of (List.mem_append_right _ (List.mem_append_right _ (List.mem_append_right _ (List.mem_append_left _ (List.mem_of_getElem? (i := 106) rfl))))) rfl
theorem w_587 : Cond.methodLink "java/lang/Exception" 7 ⟨"java/lang/Throwable", "<init>", "(Ljava/lang/String;)V"⟩ ∈ GW := gw_of (List.mem_append_right _ (List.mem_append_right _ (List.mem_append_right _ (List.mem_append_left _ (List.mem_of_getElem? (i := 107) rfl))))) rfl
theorem w_588 : Cond.instanceMethod ⟨"java/lang/Throwable", "<init>", "(Ljava/lang/String;)V"⟩ ∈ GW := gw_of (List.mem_append_right _ (List.mem_append_right _ (List.mem_append_right _ (List.mem_append_left _ (List.mem_of_getElem? (i := 108) rfl))))) rfl
theorem w_589 : Cond.code ⟨"java/lang/Throwable", "<init>", "(Ljava/lang/String;)V"⟩ prog_21_method_2_code 2 none ∈ GW := gw_of (List.mem_append_right _ (List.mem_append_right _ (List.mem_append_right _ (List.mem_append_left _ (List.mem_of_getElem? (i := 109) rfl))))) rfl
theorem w_590 : Cond.fieldLink "java/lang/Throwable" 198 "java/lang/Throwable" "backtrace" "Ljava/lang/Object;" ∈ GW := gw_of (List.mem_append_right _ (List.mem_append_right _ (List.mem_append_right _ (List.mem_append_left _ (List.mem_of_getElem? (i := 110) rfl))))) rfl
theorem w_591 : Cond.fieldLink "java/lang/Throwable" 31 "java/lang/Throwable" "detailMessage" "Ljava/lang/String;" ∈ GW := gw_of (List.mem_append_right _ (List.mem_append_right _ (List.mem_append_right _ (List.mem_append_left _ (List.mem_of_getElem? (i := 111) rfl))))) rfl
theorem w_592 : Cond.fieldLink "java/lang/Throwable" 7 "java/lang/Throwable" "cause" "Ljava/lang/Throwable;" ∈ GW := gw_of (List.mem_append_right _ (List.mem_append_right _ (List.mem_append_right _ (List.mem_append_left _ (List.mem_of_getElem? (i := 112) rfl))))) rfl
theorem w_593 : Cond.fieldLink "java/lang/Throwable" 17 "java/lang/Throwable" "stackTrace" "[Ljava/lang/StackTraceElement;" ∈ GW := gw_of (List.mem_append_right _ (List.mem_append_right _ (List.mem_append_right _ (List.mem_append_left _ (List.mem_of_getElem? (i := 113) rfl))))) rfl
theorem w_594 : Cond.fieldLink "java/lang/Throwable" 24 "java/lang/Throwable" "suppressedExceptions" "Ljava/util/List;" ∈ GW := gw_of (List.mem_append_right _ (List.mem_append_right _ (List.mem_append_right _ (List.mem_append_left _ (List.mem_of_getElem? (i := 114) rfl))))) rfl
theorem w_599 : Cond.lays "java/lang/ArithmeticException" "java/lang/Throwable" "depth" "I" ∈ GW := gw_of (List.mem_append_right _ (List.mem_append_right _ (List.mem_append_right _ (List.mem_append_left _ (List.mem_of_getElem? (i := 119) rfl))))) rfl
theorem w_602 : Cond.superclass "java/lang/ArithmeticException" "java/lang/RuntimeException" ∈ GW := gw_of (List.mem_append_right _ (List.mem_append_right _ (List.mem_append_right _ (List.mem_append_left _ (List.mem_of_getElem? (i := 122) rfl))))) rfl
theorem w_603 : Cond.arrayClass .byte ∈ GW := gw_of (List.mem_append_right _ (List.mem_append_right _ (List.mem_append_right _ (List.mem_append_left _ (List.mem_of_getElem? (i := 123) rfl))))) rfl
theorem w_604 : Cond.methodLink "ExpectRows" 144 ⟨"ExpectRows", "commonDivisor", "(II)I"⟩ ∈ GW := gw_of (List.mem_append_right _ (List.mem_append_right _ (List.mem_append_right _ (List.mem_append_left _ (List.mem_of_getElem? (i := 124) rfl))))) rfl
theorem w_605 : Cond.static ⟨"ExpectRows", "commonDivisor", "(II)I"⟩ ∈ GW := gw_of (List.mem_append_right _ (List.mem_append_right _ (List.mem_append_right _ (List.mem_append_left _ (List.mem_of_getElem? (i := 125) rfl))))) rfl
theorem w_606 : Cond.code ⟨"ExpectRows", "commonDivisor", "(II)I"⟩ prog_1_method_16_code 6 (some .int) ∈ GW := gw_of (List.mem_append_right _ (List.mem_append_right _ (List.mem_append_right _ (List.mem_append_left _ (List.mem_of_getElem? (i := 126) rfl))))) rfl
theorem w_607 : Cond.classLink "ExpectRowsLaw" 16 "ExpectRowsModel" ∈ GW := gw_of (List.mem_append_right _ (List.mem_append_right _ (List.mem_append_right _ (List.mem_append_left _ (List.mem_of_getElem? (i := 127) rfl))))) rfl
theorem w_608 : Cond.instantiable "ExpectRowsModel" 26 ∈ GW := gw_of (List.mem_append_right _ (List.mem_append_right _ (List.mem_append_right _ (List.mem_append_left _ (List.mem_of_getElem? (i := 128) rfl))))) rfl
theorem w_609 : Cond.methodLink "ExpectRowsLaw" 18 ⟨"ExpectRowsModel", "<init>", "()V"⟩ ∈ GW := gw_of (List.mem_append_right _ (List.mem_append_right _ (List.mem_append_right _ (List.mem_append_left _ (List.mem_of_getElem? (i := 129) rfl))))) rfl
theorem w_610 : Cond.instanceMethod ⟨"ExpectRowsModel", "<init>", "()V"⟩ ∈ GW := gw_of (List.mem_append_right _ (List.mem_append_right _ (List.mem_append_right _ (List.mem_append_left _ (List.mem_of_getElem? (i := 130) rfl))))) rfl
theorem w_611 : Cond.code ⟨"ExpectRowsModel", "<init>", "()V"⟩ prog_11_method_1_code 2 none ∈ GW := gw_of (List.mem_append_right _ (List.mem_append_right _ (List.mem_append_right _ (List.mem_append_left _ (List.mem_of_getElem? (i := 131) rfl))))) rfl
theorem w_612 : Cond.methodLink "ExpectRowsModel" 1 ⟨"java/lang/Object", "<init>", "()V"⟩ ∈ GW := gw_of (List.mem_append_right _ (List.mem_append_right _ (List.mem_append_right _ (List.mem_append_left _ (List.mem_of_getElem? (i := 132) rfl))))) rfl
theorem w_613 : Cond.fieldLink "ExpectRowsModel" 72 "ExpectRowsModel" "thrown" "I" ∈ GW := gw_of (List.mem_append_right _ (List.mem_append_right _ (List.mem_append_right _ (List.mem_append_left _ (List.mem_of_getElem? (i := 133) rfl))))) rfl
theorem w_614 : Cond.fieldLink "ExpectRowsModel" 90 "ExpectRowsModel" "rules" "I" ∈ GW := gw_of (List.mem_append_right _ (List.mem_append_right _ (List.mem_append_right _ (List.mem_append_left _ (List.mem_of_getElem? (i := 134) rfl))))) rfl
theorem w_615 : Cond.fieldLink "ExpectRowsModel" 7 "ExpectRowsModel" "states" "[I" ∈ GW := gw_of (List.mem_append_right _ (List.mem_append_right _ (List.mem_append_right _ (List.mem_append_left _ (List.mem_of_getElem? (i := 135) rfl))))) rfl
theorem w_616 : Cond.fieldLink "ExpectRowsModel" 13 "ExpectRowsModel" "places" "[I" ∈ GW := gw_of (List.mem_append_right _ (List.mem_append_right _ (List.mem_append_right _ (List.mem_append_left _ (List.mem_of_getElem? (i := 136) rfl))))) rfl
theorem w_617 : Cond.fieldLink "ExpectRowsModel" 16 "ExpectRowsModel" "services" "[I" ∈ GW := gw_of (List.mem_append_right _ (List.mem_append_right _ (List.mem_append_right _ (List.mem_append_left _ (List.mem_of_getElem? (i := 137) rfl))))) rfl
theorem w_618 : Cond.fieldLink "ExpectRowsModel" 19 "ExpectRowsModel" "withins" "[J" ∈ GW := gw_of (List.mem_append_right _ (List.mem_append_right _ (List.mem_append_right _ (List.mem_append_left _ (List.mem_of_getElem? (i := 138) rfl))))) rfl
theorem w_619 : Cond.fieldLink "ExpectRowsModel" 23 "ExpectRowsModel" "failing" "[Z" ∈ GW := gw_of (List.mem_append_right _ (List.mem_append_right _ (List.mem_append_right _ (List.mem_append_left _ (List.mem_of_getElem? (i := 139) rfl))))) rfl
theorem w_620 : Cond.fieldLink "ExpectRowsModel" 27 "ExpectRowsModel" "item" "[I" ∈ GW := gw_of (List.mem_append_right _ (List.mem_append_right _ (List.mem_append_right _ (List.mem_append_left _ (List.mem_of_getElem? (i := 140) rfl))))) rfl
theorem w_621 : Cond.fieldLink "ExpectRowsModel" 30 "ExpectRowsModel" "firsts" "[J" ∈ GW := gw_of (List.mem_append_right _ (List.mem_append_right _ (List.mem_append_right _ (List.mem_append_left _ (List.mem_of_getElem? (i := 141) rfl))))) rfl
theorem w_622 : Cond.fieldLink "ExpectRowsModel" 33 "ExpectRowsModel" "lasts" "[J" ∈ GW := gw_of (List.mem_append_right _ (List.mem_append_right _ (List.mem_append_right _ (List.mem_append_left _ (List.mem_of_getElem? (i := 142) rfl))))) rfl
theorem w_623 : Cond.fieldLink "ExpectRowsModel" 36 "ExpectRowsModel" "rows" "[I" ∈ GW := gw_of (List.mem_append_right _ (List.mem_append_right _ (List.mem_append_right _ (List.mem_append_left _ (List.mem_of_getElem? (i := 143) rfl))))) rfl
theorem w_624 : Cond.fieldLink "ExpectRowsModel" 39 "ExpectRowsModel" "at" "[I" ∈ GW := gw_of (List.mem_append_right _ (List.mem_append_right _ (List.mem_append_right _ (List.mem_append_left _ (List.mem_of_getElem? (i := 144) rfl))))) rfl
theorem w_625 : Cond.fieldLink "ExpectRowsModel" 42 "ExpectRowsModel" "dues" "[J" ∈ GW := gw_of (List.mem_append_right _ (List.mem_append_right _ (List.mem_append_right _ (List.mem_append_left _ (List.mem_of_getElem? (i := 145) rfl))))) rfl
theorem w_626 : Cond.fieldLink "ExpectRowsModel" 45 "ExpectRowsModel" "isLate" "[Z" ∈ GW := gw_of (List.mem_append_right _ (List.mem_append_right _ (List.mem_append_right _ (List.mem_append_left _ (List.mem_of_getElem? (i := 146) rfl))))) rfl
theorem w_627 : Cond.fieldLink "ExpectRowsModel" 48 "ExpectRowsModel" "isLost" "[Z" ∈ GW := gw_of (List.mem_append_right _ (List.mem_append_right _ (List.mem_append_right _ (List.mem_append_left _ (List.mem_of_getElem? (i := 147) rfl))))) rfl
theorem w_628 : Cond.fieldLink "ExpectRowsModel" 51 "ExpectRowsModel" "holidays" "[Z" ∈ GW := gw_of (List.mem_append_right _ (List.mem_append_right _ (List.mem_append_right _ (List.mem_append_left _ (List.mem_of_getElem? (i := 148) rfl))))) rfl
theorem w_629 : Cond.fieldLink "ExpectRowsModel" 140 "ExpectRowsModel" "holidayCount" "I" ∈ GW := gw_of (List.mem_append_right _ (List.mem_append_right _ (List.mem_append_right _ (List.mem_append_left _ (List.mem_of_getElem? (i := 149) rfl))))) rfl
theorem w_630 : Cond.fieldLink "ExpectRowsModel" 128 "ExpectRowsModel" "clock" "J" ∈ GW := gw_of (List.mem_append_right _ (List.mem_append_right _ (List.mem_append_right _ (List.mem_append_left _ (List.mem_of_getElem? (i := 150) rfl))))) rfl
theorem w_631 : Cond.fieldLink "ExpectRowsModel" 125 "ExpectRowsModel" "alarms" "I" ∈ GW := gw_of (List.mem_append_right _ (List.mem_append_right _ (List.mem_append_right _ (List.mem_append_left _ (List.mem_of_getElem? (i := 151) rfl))))) rfl
theorem w_632 : Cond.fieldLink "ExpectRowsModel" 54 "ExpectRowsModel" "told" "[J" ∈ GW := gw_of (List.mem_append_right _ (List.mem_append_right _ (List.mem_append_right _ (List.mem_append_left _ (List.mem_of_getElem? (i := 152) rfl))))) rfl
theorem w_633 : Cond.fieldLink "ExpectRowsModel" 57 "ExpectRowsModel" "begun" "[I" ∈ GW := gw_of (List.mem_append_right _ (List.mem_append_right _ (List.mem_append_right _ (List.mem_append_left _ (List.mem_of_getElem? (i := 153) rfl))))) rfl
theorem w_634 : Cond.fieldLink "ExpectRowsModel" 60 "ExpectRowsModel" "late" "[I" ∈ GW := gw_of (List.mem_append_right _ (List.mem_append_right _ (List.mem_append_right _ (List.mem_append_left _ (List.mem_of_getElem? (i := 154) rfl))))) rfl
theorem w_635 : Cond.fieldLink "ExpectRowsModel" 63 "ExpectRowsModel" "counts" "[I" ∈ GW := gw_of (List.mem_append_right _ (List.mem_append_right _ (List.mem_append_right _ (List.mem_append_left _ (List.mem_of_getElem? (i := 155) rfl))))) rfl
theorem w_636 : Cond.fieldLink "ExpectRowsModel" 66 "ExpectRowsModel" "days" "[I" ∈ GW := gw_of (List.mem_append_right _ (List.mem_append_right _ (List.mem_append_right _ (List.mem_append_left _ (List.mem_of_getElem? (i := 156) rfl))))) rfl
theorem w_637 : Cond.fieldLink "ExpectRowsModel" 99 "ExpectRowsModel" "failed" "I" ∈ GW := gw_of (List.mem_append_right _ (List.mem_append_right _ (List.mem_append_right _ (List.mem_append_left _ (List.mem_of_getElem? (i := 157) rfl))))) rfl
theorem w_638 : Cond.fieldLink "ExpectRowsModel" 69 "ExpectRowsModel" "failedRows" "[I" ∈ GW := gw_of (List.mem_append_right _ (List.mem_append_right _ (List.mem_append_right _ (List.mem_append_left _ (List.mem_of_getElem? (i := 158) rfl))))) rfl
theorem w_639 : Cond.lays "ExpectRowsModel" "ExpectRowsModel" "thrown" "I" ∈ GW := gw_of (List.mem_append_right _ (List.mem_append_right _ (List.mem_append_right _ (List.mem_append_left _ (List.mem_of_getElem? (i := 159) rfl))))) rfl
theorem w_641 : Cond.lays "ExpectRowsModel" "ExpectRowsModel" "rules" "I" ∈ GW := gw_of (List.mem_append_right _ (List.mem_append_right _ (List.mem_append_right _ (List.mem_append_left _ (List.mem_of_getElem? (i := 161) rfl))))) rfl
theorem w_643 : Cond.laysFinal "ExpectRowsModel" "ExpectRowsModel" "states" "[I" ∈ GW := gw_of (List.mem_append_right _ (List.mem_append_right _ (List.mem_append_right _ (List.mem_append_left _ (List.mem_of_getElem? (i := 163) rfl))))) rfl
theorem w_645 : Cond.laysFinal "ExpectRowsModel" "ExpectRowsModel" "places" "[I" ∈ GW := gw_of (List.mem_append_right _ (List.mem_append_right _ (List.mem_append_right _ (List.mem_append_left _ (List.mem_of_getElem? (i := 165) rfl))))) rfl
theorem w_647 : Cond.laysFinal "ExpectRowsModel" "ExpectRowsModel" "services" "[I" ∈ GW := gw_of (List.mem_append_right _ (List.mem_append_right _ (List.mem_append_right _ (List.mem_append_left _ (List.mem_of_getElem? (i := 167) rfl))))) rfl
theorem w_649 : Cond.laysFinal "ExpectRowsModel" "ExpectRowsModel" "withins" "[J" ∈ GW := gw_of (List.mem_append_right _ (List.mem_append_right _ (List.mem_append_right _ (List.mem_append_left _ (List.mem_of_getElem? (i := 169) rfl))))) rfl
theorem w_651 : Cond.laysFinal "ExpectRowsModel" "ExpectRowsModel" "failing" "[Z" ∈ GW := gw_of (List.mem_append_right _ (List.mem_append_right _ (List.mem_append_right _ (List.mem_append_left _ (List.mem_of_getElem? (i := 171) rfl))))) rfl
theorem w_653 : Cond.laysFinal "ExpectRowsModel" "ExpectRowsModel" "item" "[I" ∈ GW := gw_of (List.mem_append_right _ (List.mem_append_right _ (List.mem_append_right _ (List.mem_append_left _ (List.mem_of_getElem? (i := 173) rfl))))) rfl
theorem w_655 : Cond.laysFinal "ExpectRowsModel" "ExpectRowsModel" "firsts" "[J" ∈ GW := gw_of (List.mem_append_right _ (List.mem_append_right _ (List.mem_append_right _ (List.mem_append_left _ (List.mem_of_getElem? (i := 175) rfl))))) rfl
theorem w_657 : Cond.laysFinal "ExpectRowsModel" "ExpectRowsModel" "lasts" "[J" ∈ GW := gw_of (List.mem_append_right _ (List.mem_append_right _ (List.mem_append_right _ (List.mem_append_left _ (List.mem_of_getElem? (i := 177) rfl))))) rfl
theorem w_659 : Cond.laysFinal "ExpectRowsModel" "ExpectRowsModel" "rows" "[I" ∈ GW := gw_of (List.mem_append_right _ (List.mem_append_right _ (List.mem_append_right _ (List.mem_append_left _ (List.mem_of_getElem? (i := 179) rfl))))) rfl
theorem w_661 : Cond.laysFinal "ExpectRowsModel" "ExpectRowsModel" "at" "[I" ∈ GW := gw_of (List.mem_append_right _ (List.mem_append_right _ (List.mem_append_right _ (List.mem_append_left _ (List.mem_of_getElem? (i := 181) rfl))))) rfl
theorem w_663 : Cond.laysFinal "ExpectRowsModel" "ExpectRowsModel" "dues" "[J" ∈ GW := gw_of (List.mem_append_right _ (List.mem_append_right _ (List.mem_append_right _ (List.mem_append_left _ (List.mem_of_getElem? (i := 183) rfl))))) rfl
theorem w_665 : Cond.laysFinal "ExpectRowsModel" "ExpectRowsModel" "isLate" "[Z" ∈ GW := gw_of (List.mem_append_right _ (List.mem_append_right _ (List.mem_append_right _ (List.mem_append_left _ (List.mem_of_getElem? (i := 185) rfl))))) rfl
theorem w_667 : Cond.laysFinal "ExpectRowsModel" "ExpectRowsModel" "isLost" "[Z" ∈ GW := gw_of (List.mem_append_right _ (List.mem_append_right _ (List.mem_append_right _ (List.mem_append_left _ (List.mem_of_getElem? (i := 187) rfl))))) rfl
theorem w_669 : Cond.laysFinal "ExpectRowsModel" "ExpectRowsModel" "holidays" "[Z" ∈ GW := gw_of (List.mem_append_right _ (List.mem_append_right _ (List.mem_append_right _ (List.mem_append_left _ (List.mem_of_getElem? (i := 189) rfl))))) rfl
theorem w_671 : Cond.lays "ExpectRowsModel" "ExpectRowsModel" "holidayCount" "I" ∈ GW := gw_of (List.mem_append_right _ (List.mem_append_right _ (List.mem_append_right _ (List.mem_append_left _ (List.mem_of_getElem? (i := 191) rfl))))) rfl
theorem w_673 : Cond.lays "ExpectRowsModel" "ExpectRowsModel" "clock" "J" ∈ GW := gw_of (List.mem_append_right _ (List.mem_append_right _ (List.mem_append_right _ (List.mem_append_left _ (List.mem_of_getElem? (i := 193) rfl))))) rfl
theorem w_675 : Cond.lays "ExpectRowsModel" "ExpectRowsModel" "alarms" "I" ∈ GW := gw_of (List.mem_append_right _ (List.mem_append_right _ (List.mem_append_right _ (List.mem_append_left _ (List.mem_of_getElem? (i := 195) rfl))))) rfl
theorem w_677 : Cond.laysFinal "ExpectRowsModel" "ExpectRowsModel" "told" "[J" ∈ GW := gw_of (List.mem_append_right _ (List.mem_append_right _ (List.mem_append_right _ (List.mem_append_left _ (List.mem_of_getElem? (i := 197) rfl))))) rfl
theorem w_679 : Cond.laysFinal "ExpectRowsModel" "ExpectRowsModel" "begun" "[I" ∈ GW := gw_of (List.mem_append_right _ (List.mem_append_right _ (List.mem_append_right _ (List.mem_append_left _ (List.mem_of_getElem? (i := 199) rfl))))) rfl
theorem w_681 : Cond.laysFinal "ExpectRowsModel" "ExpectRowsModel" "late" "[I" ∈ GW := gw_of (List.mem_append_right _ (List.mem_append_right _ (List.mem_append_right _ (List.mem_append_left _ (List.mem_of_getElem? (i := 201) rfl))))) rfl
theorem w_683 : Cond.laysFinal "ExpectRowsModel" "ExpectRowsModel" "counts" "[I" ∈ GW := gw_of (List.mem_append_right _ (List.mem_append_right _ (List.mem_append_right _ (List.mem_append_left _ (List.mem_of_getElem? (i := 203) rfl))))) rfl
theorem w_685 : Cond.laysFinal "ExpectRowsModel" "ExpectRowsModel" "days" "[I" ∈ GW := gw_of (List.mem_append_right _ (List.mem_append_right _ (List.mem_append_right _ (List.mem_append_left _ (List.mem_of_getElem? (i := 205) rfl))))) rfl
theorem w_687 : Cond.lays "ExpectRowsModel" "ExpectRowsModel" "failed" "I" ∈ GW := gw_of (List.mem_append_right _ (List.mem_append_right _ (List.mem_append_right _ (List.mem_append_left _ (List.mem_of_getElem? (i := 207) rfl))))) rfl
theorem w_689 : Cond.laysFinal "ExpectRowsModel" "ExpectRowsModel" "failedRows" "[I" ∈ GW := gw_of (List.mem_append_right _ (List.mem_append_right _ (List.mem_append_right _ (List.mem_append_left _ (List.mem_of_getElem? (i := 209) rfl))))) rfl
theorem w_691 : Cond.superclass "ExpectRowsModel" "java/lang/Object" ∈ GW := gw_of (List.mem_append_right _ (List.mem_append_right _ (List.mem_append_right _ (List.mem_append_left _ (List.mem_of_getElem? (i := 211) rfl))))) rfl
theorem w_692 : Cond.arrayClass .boolean ∈ GW := gw_of (List.mem_append_right _ (List.mem_append_right _ (List.mem_append_right _ (List.mem_append_left _ (List.mem_of_getElem? (i := 212) rfl))))) rfl
theorem w_693 : Cond.methodLink "ExpectRowsLaw" 25 ⟨"ExpectRowsModel", "rule", "(IIIJZ)I"⟩ ∈ GW := gw_of (List.mem_append_right _ (List.mem_append_right _ (List.mem_append_right _ (List.mem_append_left _ (List.mem_of_getElem? (i := 213) rfl))))) rfl
theorem w_694 : Cond.instanceMethod ⟨"ExpectRowsModel", "rule", "(IIIJZ)I"⟩ ∈ GW := gw_of (List.mem_append_right _ (List.mem_append_right _ (List.mem_append_right _ (List.mem_append_left _ (List.mem_of_getElem? (i := 214) rfl))))) rfl
theorem w_695 : Cond.selects "ExpectRowsModel" ⟨"ExpectRowsModel", "rule", "(IIIJZ)I"⟩ ⟨"ExpectRowsModel", "rule", "(IIIJZ)I"⟩ ∈ GW := gw_of (List.mem_append_right _ (List.mem_append_right _ (List.mem_append_right _ (List.mem_append_left _ (List.mem_of_getElem? (i := 215) rfl))))) rfl
theorem w_696 : Cond.code ⟨"ExpectRowsModel", "rule", "(IIIJZ)I"⟩ prog_11_method_4_code 7 (some .int) ∈ GW := gw_of (List.mem_append_right _ (List.mem_append_right _ (List.mem_append_right _ (List.mem_append_left _ (List.mem_of_getElem? (i := 216) rfl))))) rfl
theorem w_697 : Cond.constantLong "ExpectRowsModel" 76 (8) ∈ GW := gw_of (List.mem_append_right _ (List.mem_append_right _ (List.mem_append_right _ (List.mem_append_left _ (List.mem_of_getElem? (i := 217) rfl))))) rfl
theorem w_698 : Cond.methodLink "ExpectRowsModel" 78 ⟨"ExpectRowsModel", "isIn", "(JJJ)Z"⟩ ∈ GW := gw_of (List.mem_append_right _ (List.mem_append_right _ (List.mem_append_right _ (List.mem_append_left _ (List.mem_of_getElem? (i := 218) rfl))))) rfl
theorem w_699 : Cond.static ⟨"ExpectRowsModel", "isIn", "(JJJ)Z"⟩ ∈ GW := gw_of (List.mem_append_right _ (List.mem_append_right _ (List.mem_append_right _ (List.mem_append_left _ (List.mem_of_getElem? (i := 219) rfl))))) rfl
theorem w_700 : Cond.code ⟨"ExpectRowsModel", "isIn", "(JJJ)Z"⟩ prog_11_method_3_code 6 (some .boolean) ∈ GW := gw_of (List.mem_append_right _ (List.mem_append_right _ (List.mem_append_right _ (List.mem_append_left _ (List.mem_of_getElem? (i := 220) rfl))))) rfl
theorem w_701 : Cond.constantLong "ExpectRowsModel" 82 (-1) ∈ GW := gw_of (List.mem_append_right _ (List.mem_append_right _ (List.mem_append_right _ (List.mem_append_left _ (List.mem_of_getElem? (i := 221) rfl))))) rfl
theorem w_702 : Cond.constantLong "ExpectRowsModel" 84 (49) ∈ GW := gw_of (List.mem_append_right _ (List.mem_append_right _ (List.mem_append_right _ (List.mem_append_left _ (List.mem_of_getElem? (i := 222) rfl))))) rfl
theorem w_703 : Cond.constantLong "ExpectRowsModel" 86 (4) ∈ GW := gw_of (List.mem_append_right _ (List.mem_append_right _ (List.mem_append_right _ (List.mem_append_left _ (List.mem_of_getElem? (i := 223) rfl))))) rfl
theorem w_704 : Cond.constantLong "ExpectRowsModel" 88 (10000000) ∈ GW := gw_of (List.mem_append_right _ (List.mem_append_right _ (List.mem_append_right _ (List.mem_append_left _ (List.mem_of_getElem? (i := 224) rfl))))) rfl
theorem w_705 : Cond.methodLink "ExpectRowsLaw" 30 ⟨"ExpectRowsModel", "event", "(IIIIJ)I"⟩ ∈ GW := gw_of (List.mem_append_right _ (List.mem_append_right _ (List.mem_append_right _ (List.mem_append_left _ (List.mem_of_getElem? (i := 225) rfl))))) rfl
theorem w_706 : Cond.instanceMethod ⟨"ExpectRowsModel", "event", "(IIIIJ)I"⟩ ∈ GW := gw_of (List.mem_append_right _ (List.mem_append_right _ (List.mem_append_right _ (List.mem_append_left _ (List.mem_of_getElem? (i := 226) rfl))))) rfl
theorem w_707 : Cond.selects "ExpectRowsModel" ⟨"ExpectRowsModel", "event", "(IIIIJ)I"⟩ ⟨"ExpectRowsModel", "event", "(IIIIJ)I"⟩ ∈ GW := gw_of (List.mem_append_right _ (List.mem_append_right _ (List.mem_append_right _ (List.mem_append_left _ (List.mem_of_getElem? (i := 227) rfl))))) rfl
theorem w_708 : Cond.code ⟨"ExpectRowsModel", "event", "(IIIIJ)I"⟩ prog_11_method_10_code 8 (some .int) ∈ GW := gw_of (List.mem_append_right _ (List.mem_append_right _ (List.mem_append_right _ (List.mem_append_left _ (List.mem_of_getElem? (i := 228) rfl))))) rfl
theorem w_709 : Cond.constantLong "ExpectRowsModel" 102 (199) ∈ GW := gw_of (List.mem_append_right _ (List.mem_append_right _ (List.mem_append_right _ (List.mem_append_left _ (List.mem_of_getElem? (i := 229) rfl))))) rfl
theorem w_710 : Cond.constantLong "ExpectRowsModel" 104 (9) ∈ GW := gw_of (List.mem_append_right _ (List.mem_append_right _ (List.mem_append_right _ (List.mem_append_left _ (List.mem_of_getElem? (i := 230) rfl))))) rfl
theorem w_711 : Cond.methodLink "ExpectRowsModel" 106 ⟨"ExpectRowsModel", "isTime", "(IJ)Z"⟩ ∈ GW := gw_of (List.mem_append_right _ (List.mem_append_right _ (List.mem_append_right _ (List.mem_append_left _ (List.mem_of_getElem? (i := 231) rfl))))) rfl
theorem w_713 : Cond.instanceMethod ⟨"ExpectRowsModel", "isTime", "(IJ)Z"⟩ ∈ GW := gw_of (List.mem_append_right _ (List.mem_append_right _ (List.mem_append_right _ (List.mem_append_left _ (List.mem_of_getElem? (i := 233) rfl))))) rfl
theorem w_714 : Cond.code ⟨"ExpectRowsModel", "isTime", "(IJ)Z"⟩ prog_11_method_7_code 4 (some .boolean) ∈ GW := gw_of (List.mem_append_right _ (List.mem_append_right _ (List.mem_append_right _ (List.mem_append_left _ (List.mem_of_getElem? (i := 234) rfl))))) rfl
theorem w_715 : Cond.constantLong "ExpectRowsModel" 97 (1000000000) ∈ GW := gw_of (List.mem_append_right _ (List.mem_append_right _ (List.mem_append_right _ (List.mem_append_left _ (List.mem_of_getElem? (i := 235) rfl))))) rfl
theorem w_716 : Cond.methodLink "ExpectRowsModel" 110 ⟨"ExpectRowsModel", "end", "(I)V"⟩ ∈ GW := gw_of (List.mem_append_right _ (List.mem_append_right _ (List.mem_append_right _ (List.mem_append_left _ (List.mem_of_getElem? (i := 236) rfl))))) rfl
theorem w_718 : Cond.instanceMethod ⟨"ExpectRowsModel", "end", "(I)V"⟩ ∈ GW := gw_of (List.mem_append_right _ (List.mem_append_right _ (List.mem_append_right _ (List.mem_append_left _ (List.mem_of_getElem? (i := 238) rfl))))) rfl
theorem w_719 : Cond.code ⟨"ExpectRowsModel", "end", "(I)V"⟩ prog_11_method_5_code 2 none ∈ GW := gw_of (List.mem_append_right _ (List.mem_append_right _ (List.mem_append_right _ (List.mem_append_left _ (List.mem_of_getElem? (i := 239) rfl))))) rfl
theorem w_720 : Cond.constantLong "ExpectRowsModel" 93 (86400) ∈ GW := gw_of (List.mem_append_right _ (List.mem_append_right _ (List.mem_append_right _ (List.mem_append_right _ (List.mem_of_getElem? (i := 0) rfl))))) rfl
theorem w_721 : Cond.methodLink "ExpectRowsModel" 114 ⟨"ExpectRowsModel", "rowFor", "(III)I"⟩ ∈ GW := gw_of (List.mem_append_right _ (List.mem_append_right _ (List.mem_append_right _ (List.mem_append_right _ (List.mem_of_getElem? (i := 1) rfl))))) rfl
theorem w_723 : Cond.instanceMethod ⟨"ExpectRowsModel", "rowFor", "(III)I"⟩ ∈ GW := gw_of (List.mem_append_right _ (List.mem_append_right _ (List.mem_append_right _ (List.mem_append_right _ (List.mem_of_getElem? (i := 3) rfl))))) rfl
theorem w_724 : Cond.code ⟨"ExpectRowsModel", "rowFor", "(III)I"⟩ prog_11_method_8_code 5 (some .int) ∈ GW := gw_of (List.mem_append_right _ (List.mem_append_right _ (List.mem_append_right _ (List.mem_append_right _ (List.mem_of_getElem? (i := 4) rfl))))) rfl
theorem w_725 : Cond.methodLink "ExpectRowsModel" 118 ⟨"ExpectRowsModel", "fails", "(I)V"⟩ ∈ GW := gw_of (List.mem_append_right _ (List.mem_append_right _ (List.mem_append_right _ (List.mem_append_right _ (List.mem_of_getElem? (i := 5) rfl))))) rfl
theorem w_727 : Cond.instanceMethod ⟨"ExpectRowsModel", "fails", "(I)V"⟩ ∈ GW := gw_of (List.mem_append_right _ (List.mem_append_right _ (List.mem_append_right _ (List.mem_append_right _ (List.mem_of_getElem? (i := 7) rfl))))) rfl
theorem w_728 : Cond.code ⟨"ExpectRowsModel", "fails", "(I)V"⟩ prog_11_method_9_code 4 none ∈ GW := gw_of (List.mem_append_right _ (List.mem_append_right _ (List.mem_append_right _ (List.mem_append_right _ (List.mem_of_getElem? (i := 8) rfl))))) rfl
theorem w_729 : Cond.methodLink "ExpectRowsModel" 121 ⟨"ExpectRowsModel", "behind", "(JJ)J"⟩ ∈ GW := gw_of (List.mem_append_right _ (List.mem_append_right _ (List.mem_append_right _ (List.mem_append_right _ (List.mem_of_getElem? (i := 9) rfl))))) rfl
theorem w_731 : Cond.instanceMethod ⟨"ExpectRowsModel", "behind", "(JJ)J"⟩ ∈ GW := gw_of (List.mem_append_right _ (List.mem_append_right _ (List.mem_append_right _ (List.mem_append_right _ (List.mem_of_getElem? (i := 11) rfl))))) rfl
theorem w_732 : Cond.code ⟨"ExpectRowsModel", "behind", "(JJ)J"⟩ prog_11_method_6_code 15 (some .long) ∈ GW := gw_of (List.mem_append_right _ (List.mem_append_right _ (List.mem_append_right _ (List.mem_append_right _ (List.mem_of_getElem? (i := 12) rfl))))) rfl
theorem w_733 : Cond.constantLong "ExpectRowsModel" 95 (20000) ∈ GW := gw_of (List.mem_append_right _ (List.mem_append_right _ (List.mem_append_right _ (List.mem_append_right _ (List.mem_of_getElem? (i := 13) rfl))))) rfl
theorem w_734 : Cond.methodLink "ExpectRowsLaw" 35 ⟨"ExpectRowsModel", "tick", "(J)I"⟩ ∈ GW := gw_of (List.mem_append_right _ (List.mem_append_right _ (List.mem_append_right _ (List.mem_append_right _ (List.mem_of_getElem? (i := 14) rfl))))) rfl
theorem w_735 : Cond.instanceMethod ⟨"ExpectRowsModel", "tick", "(J)I"⟩ ∈ GW := gw_of (List.mem_append_right _ (List.mem_append_right _ (List.mem_append_right _ (List.mem_append_right _ (List.mem_of_getElem? (i := 15) rfl))))) rfl
theorem w_736 : Cond.selects "ExpectRowsModel" ⟨"ExpectRowsModel", "tick", "(J)I"⟩ ⟨"ExpectRowsModel", "tick", "(J)I"⟩ ∈ GW := gw_of (List.mem_append_right _ (List.mem_append_right _ (List.mem_append_right _ (List.mem_append_right _ (List.mem_of_getElem? (i := 16) rfl))))) rfl
theorem w_737 : Cond.code ⟨"ExpectRowsModel", "tick", "(J)I"⟩ prog_11_method_12_code 5 (some .int) ∈ GW := gw_of (List.mem_append_right _ (List.mem_append_right _ (List.mem_append_right _ (List.mem_append_right _ (List.mem_of_getElem? (i := 17) rfl))))) rfl
theorem w_738 : Cond.constantLong "ExpectRowsModel" 132 (2000000000) ∈ GW := gw_of (List.mem_append_right _ (List.mem_append_right _ (List.mem_append_right _ (List.mem_append_right _ (List.mem_of_getElem? (i := 18) rfl))))) rfl
theorem w_739 : Cond.methodLink "ExpectRowsModel" 134 ⟨"ExpectRowsModel", "tell", "(II)V"⟩ ∈ GW := gw_of (List.mem_append_right _ (List.mem_append_right _ (List.mem_append_right _ (List.mem_append_right _ (List.mem_of_getElem? (i := 19) rfl))))) rfl
theorem w_741 : Cond.instanceMethod ⟨"ExpectRowsModel", "tell", "(II)V"⟩ ∈ GW := gw_of (List.mem_append_right _ (List.mem_append_right _ (List.mem_append_right _ (List.mem_append_right _ (List.mem_of_getElem? (i := 21) rfl))))) rfl
theorem w_742 : Cond.code ⟨"ExpectRowsModel", "tell", "(II)V"⟩ prog_11_method_11_code 3 none ∈ GW := gw_of (List.mem_append_right _ (List.mem_append_right _ (List.mem_append_right _ (List.mem_append_right _ (List.mem_of_getElem? (i := 22) rfl))))) rfl
theorem w_743 : Cond.constantLong "ExpectRowsModel" 138 (864000) ∈ GW := gw_of (List.mem_append_right _ (List.mem_append_right _ (List.mem_append_right _ (List.mem_append_right _ (List.mem_of_getElem? (i := 23) rfl))))) rfl
theorem w_744 : Cond.methodLink "ExpectRowsLaw" 40 ⟨"ExpectRowsModel", "alarm", "(II)I"⟩ ∈ GW := gw_of (List.mem_append_right _ (List.mem_append_right _ (List.mem_append_right _ (List.mem_append_right _ (List.mem_of_getElem? (i := 24) rfl))))) rfl
theorem w_745 : Cond.instanceMethod ⟨"ExpectRowsModel", "alarm", "(II)I"⟩ ∈ GW := gw_of (List.mem_append_right _ (List.mem_append_right _ (List.mem_append_right _ (List.mem_append_right _ (List.mem_of_getElem? (i := 25) rfl))))) rfl
theorem w_746 : Cond.selects "ExpectRowsModel" ⟨"ExpectRowsModel", "alarm", "(II)I"⟩ ⟨"ExpectRowsModel", "alarm", "(II)I"⟩ ∈ GW := gw_of (List.mem_append_right _ (List.mem_append_right _ (List.mem_append_right _ (List.mem_append_right _ (List.mem_of_getElem? (i := 26) rfl))))) rfl
theorem w_747 : Cond.code ⟨"ExpectRowsModel", "alarm", "(II)I"⟩ prog_11_method_13_code 3 (some .int) ∈ GW := gw_of (List.mem_append_right _ (List.mem_append_right _ (List.mem_append_right _ (List.mem_append_right _ (List.mem_of_getElem? (i := 27) rfl))))) rfl
theorem w_748 : Cond.methodLink "ExpectRowsLaw" 45 ⟨"ExpectRowsModel", "state", "(I)I"⟩ ∈ GW := gw_of (List.mem_append_right _ (List.mem_append_right _ (List.mem_append_right _ (List.mem_append_right _ (List.mem_of_getElem? (i := 28) rfl))))) rfl
theorem w_749 : Cond.instanceMethod ⟨"ExpectRowsModel", "state", "(I)I"⟩ ∈ GW := gw_of (List.mem_append_right _ (List.mem_append_right _ (List.mem_append_right _ (List.mem_append_right _ (List.mem_of_getElem? (i := 29) rfl))))) rfl
theorem w_750 : Cond.selects "ExpectRowsModel" ⟨"ExpectRowsModel", "state", "(I)I"⟩ ⟨"ExpectRowsModel", "state", "(I)I"⟩ ∈ GW := gw_of (List.mem_append_right _ (List.mem_append_right _ (List.mem_append_right _ (List.mem_append_right _ (List.mem_of_getElem? (i := 30) rfl))))) rfl
theorem w_751 : Cond.code ⟨"ExpectRowsModel", "state", "(I)I"⟩ prog_11_method_14_code 2 (some .int) ∈ GW := gw_of (List.mem_append_right _ (List.mem_append_right _ (List.mem_append_right _ (List.mem_append_right _ (List.mem_of_getElem? (i := 31) rfl))))) rfl
theorem w_752 : Cond.methodLink "ExpectRowsLaw" 49 ⟨"ExpectRowsModel", "holiday", "(J)I"⟩ ∈ GW := gw_of (List.mem_append_right _ (List.mem_append_right _ (List.mem_append_right _ (List.mem_append_right _ (List.mem_of_getElem? (i := 32) rfl))))) rfl
theorem w_753 : Cond.instanceMethod ⟨"ExpectRowsModel", "holiday", "(J)I"⟩ ∈ GW := gw_of (List.mem_append_right _ (List.mem_append_right _ (List.mem_append_right _ (List.mem_append_right _ (List.mem_of_getElem? (i := 33) rfl))))) rfl
theorem w_754 : Cond.selects "ExpectRowsModel" ⟨"ExpectRowsModel", "holiday", "(J)I"⟩ ⟨"ExpectRowsModel", "holiday", "(J)I"⟩ ∈ GW := gw_of (List.mem_append_right _ (List.mem_append_right _ (List.mem_append_right _ (List.mem_append_right _ (List.mem_of_getElem? (i := 34) rfl))))) rfl
theorem w_755 : Cond.code ⟨"ExpectRowsModel", "holiday", "(J)I"⟩ prog_11_method_15_code 3 (some .int) ∈ GW := gw_of (List.mem_append_right _ (List.mem_append_right _ (List.mem_append_right _ (List.mem_append_right _ (List.mem_of_getElem? (i := 35) rfl))))) rfl
theorem w_756 : Cond.methodLink "ExpectRowsLaw" 55 ⟨"ExpectRowsModel", "share", "(II)J"⟩ ∈ GW := gw_of (List.mem_append_right _ (List.mem_append_right _ (List.mem_append_right _ (List.mem_append_right _ (List.mem_of_getElem? (i := 36) rfl))))) rfl
theorem w_757 : Cond.instanceMethod ⟨"ExpectRowsModel", "share", "(II)J"⟩ ∈ GW := gw_of (List.mem_append_right _ (List.mem_append_right _ (List.mem_append_right _ (List.mem_append_right _ (List.mem_of_getElem? (i := 37) rfl))))) rfl
theorem w_758 : Cond.selects "ExpectRowsModel" ⟨"ExpectRowsModel", "share", "(II)J"⟩ ⟨"ExpectRowsModel", "share", "(II)J"⟩ ∈ GW := gw_of (List.mem_append_right _ (List.mem_append_right _ (List.mem_append_right _ (List.mem_append_right _ (List.mem_of_getElem? (i := 38) rfl))))) rfl
theorem w_759 : Cond.code ⟨"ExpectRowsModel", "share", "(II)J"⟩ prog_11_method_16_code 4 (some .long) ∈ GW := gw_of (List.mem_append_right _ (List.mem_append_right _ (List.mem_append_right _ (List.mem_append_right _ (List.mem_of_getElem? (i := 39) rfl))))) rfl
theorem w_760 : Cond.constantLong "ExpectRowsModel" 143 (-101) ∈ GW := gw_of (List.mem_append_right _ (List.mem_append_right _ (List.mem_append_right _ (List.mem_append_right _ (List.mem_of_getElem? (i := 40) rfl))))) rfl
theorem w_761 : Cond.constantLong "ExpectRowsModel" 145 (-102) ∈ GW := gw_of (List.mem_append_right _ (List.mem_append_right _ (List.mem_append_right _ (List.mem_append_right _ (List.mem_of_getElem? (i := 41) rfl))))) rfl
theorem w_762 : Cond.methodLink "ExpectRowsLaw" 59 ⟨"ExpectRowsModel", "percentile", "(II)J"⟩ ∈ GW := gw_of (List.mem_append_right _ (List.mem_append_right _ (List.mem_append_right _ (List.mem_append_right _ (List.mem_of_getElem? (i := 42) rfl))))) rfl
theorem w_763 : Cond.instanceMethod ⟨"ExpectRowsModel", "percentile", "(II)J"⟩ ∈ GW := gw_of (List.mem_append_right _ (List.mem_append_right _ (List.mem_append_right _ (List.mem_append_right _ (List.mem_of_getElem? (i := 43) rfl))))) rfl
theorem w_764 : Cond.selects "ExpectRowsModel" ⟨"ExpectRowsModel", "percentile", "(II)J"⟩ ⟨"ExpectRowsModel", "percentile", "(II)J"⟩ ∈ GW := gw_of (List.mem_append_right _ (List.mem_append_right _ (List.mem_append_right _ (List.mem_append_right _ (List.mem_of_getElem? (i := 44) rfl))))) rfl
theorem w_765 : Cond.code ⟨"ExpectRowsModel", "percentile", "(II)J"⟩ prog_11_method_17_code 10 (some .long) ∈ GW := gw_of (List.mem_append_right _ (List.mem_append_right _ (List.mem_append_right _ (List.mem_append_right _ (List.mem_of_getElem? (i := 45) rfl))))) rfl
theorem w_766 : Cond.constantLong "ExpectRowsModel" 147 (1000) ∈ GW := gw_of (List.mem_append_right _ (List.mem_append_right _ (List.mem_append_right _ (List.mem_append_right _ (List.mem_of_getElem? (i := 46) rfl))))) rfl
theorem w_767 : Cond.constant "ExpectRowsModel" 149 (2147483647) ∈ GW := gw_of (List.mem_append_right _ (List.mem_append_right _ (List.mem_append_right _ (List.mem_append_right _ (List.mem_of_getElem? (i := 47) rfl))))) rfl
theorem w_768 : Cond.methodLink "ExpectRowsLaw" 64 ⟨"ExpectRowsModel", "found", "(IJ)I"⟩ ∈ GW := gw_of (List.mem_append_right _ (List.mem_append_right _ (List.mem_append_right _ (List.mem_append_right _ (List.mem_of_getElem? (i := 48) rfl))))) rfl
theorem w_769 : Cond.instanceMethod ⟨"ExpectRowsModel", "found", "(IJ)I"⟩ ∈ GW := gw_of (List.mem_append_right _ (List.mem_append_right _ (List.mem_append_right _ (List.mem_append_right _ (List.mem_of_getElem? (i := 49) rfl))))) rfl
theorem w_770 : Cond.selects "ExpectRowsModel" ⟨"ExpectRowsModel", "found", "(IJ)I"⟩ ⟨"ExpectRowsModel", "found", "(IJ)I"⟩ ∈ GW := gw_of (List.mem_append_right _ (List.mem_append_right _ (List.mem_append_right _ (List.mem_append_right _ (List.mem_of_getElem? (i := 50) rfl))))) rfl
theorem w_771 : Cond.code ⟨"ExpectRowsModel", "found", "(IJ)I"⟩ prog_11_method_18_code 4 (some .int) ∈ GW := gw_of (List.mem_append_right _ (List.mem_append_right _ (List.mem_append_right _ (List.mem_append_right _ (List.mem_of_getElem? (i := 51) rfl))))) rfl
theorem w_772 : Cond.methodLink "ExpectRowsLaw" 68 ⟨"ExpectRowsModel", "cluster", "(II)I"⟩ ∈ GW := gw_of (List.mem_append_right _ (List.mem_append_right _ (List.mem_append_right _ (List.mem_append_right _ (List.mem_of_getElem? (i := 52) rfl))))) rfl
theorem w_773 : Cond.instanceMethod ⟨"ExpectRowsModel", "cluster", "(II)I"⟩ ∈ GW := gw_of (List.mem_append_right _ (List.mem_append_right _ (List.mem_append_right _ (List.mem_append_right _ (List.mem_of_getElem? (i := 53) rfl))))) rfl
theorem w_774 : Cond.selects "ExpectRowsModel" ⟨"ExpectRowsModel", "cluster", "(II)I"⟩ ⟨"ExpectRowsModel", "cluster", "(II)I"⟩ ∈ GW := gw_of (List.mem_append_right _ (List.mem_append_right _ (List.mem_append_right _ (List.mem_append_right _ (List.mem_of_getElem? (i := 54) rfl))))) rfl
theorem w_775 : Cond.code ⟨"ExpectRowsModel", "cluster", "(II)I"⟩ prog_11_method_20_code 8 (some .int) ∈ GW := gw_of (List.mem_append_right _ (List.mem_append_right _ (List.mem_append_right _ (List.mem_append_right _ (List.mem_of_getElem? (i := 55) rfl))))) rfl
theorem w_776 : Cond.methodLink "ExpectRowsModel" 150 ⟨"ExpectRowsModel", "isBefore", "(II)Z"⟩ ∈ GW := gw_of (List.mem_append_right _ (List.mem_append_right _ (List.mem_append_right _ (List.mem_append_right _ (List.mem_of_getElem? (i := 56) rfl))))) rfl
theorem w_778 : Cond.instanceMethod ⟨"ExpectRowsModel", "isBefore", "(II)Z"⟩ ∈ GW := gw_of (List.mem_append_right _ (List.mem_append_right _ (List.mem_append_right _ (List.mem_append_right _ (List.mem_of_getElem? (i := 58) rfl))))) rfl
theorem w_779 : Cond.code ⟨"ExpectRowsModel", "isBefore", "(II)Z"⟩ prog_11_method_19_code 7 (some .boolean) ∈ GW := gw_of (List.mem_append_right _ (List.mem_append_right _ (List.mem_append_right _ (List.mem_append_right _ (List.mem_of_getElem? (i := 59) rfl))))) rfl
theorem w_780 : Cond.methodLink "ExpectRowsLaw" 72 ⟨"ExpectRowsModel", "failing", "(I)I"⟩ ∈ GW := gw_of (List.mem_append_right _ (List.mem_append_right _ (List.mem_append_right _ (List.mem_append_right _ (List.mem_of_getElem? (i := 60) rfl))))) rfl
theorem w_781 : Cond.instanceMethod ⟨"ExpectRowsModel", "failing", "(I)I"⟩ ∈ GW := gw_of (List.mem_append_right _ (List.mem_append_right _ (List.mem_append_right _ (List.mem_append_right _ (List.mem_of_getElem? (i := 61) rfl))))) rfl
theorem w_782 : Cond.selects "ExpectRowsModel" ⟨"ExpectRowsModel", "failing", "(I)I"⟩ ⟨"ExpectRowsModel", "failing", "(I)I"⟩ ∈ GW := gw_of (List.mem_append_right _ (List.mem_append_right _ (List.mem_append_right _ (List.mem_append_right _ (List.mem_of_getElem? (i := 62) rfl))))) rfl
theorem w_783 : Cond.code ⟨"ExpectRowsModel", "failing", "(I)I"⟩ prog_11_method_21_code 2 (some .int) ∈ GW := gw_of (List.mem_append_right _ (List.mem_append_right _ (List.mem_append_right _ (List.mem_append_right _ (List.mem_of_getElem? (i := 63) rfl))))) rfl
theorem w_784 : Cond.constantLong "ExpectRowsLaw" 19 (4294967295) ∈ GW := gw_of (List.mem_append_right _ (List.mem_append_right _ (List.mem_append_right _ (List.mem_append_right _ (List.mem_of_getElem? (i := 64) rfl))))) rfl
theorem w_785 : Cond.sameMethod "java/lang/Throwable" "java/lang/Throwable" "fillInStackTrace" "(I)Ljava/lang/Throwable;" ∈ GW := gw_of (List.mem_append_right _ (List.mem_append_right _ (List.mem_append_right _ (List.mem_append_right _ (List.mem_of_getElem? (i := 65) rfl))))) rfl
theorem w_786 : Cond.castable "ExpectRows$Row" "ExpectRows$Row" ∈ NW := nw_of (List.mem_append_right _ (List.mem_append_right _ (List.mem_append_right _ (List.mem_append_right _ (List.mem_of_getElem? (i := 66) rfl))))) rfl
theorem w_787 : Cond.castable "ExpectRows$Alarm" "ExpectRows$Alarm" ∈ NW := nw_of (List.mem_append_right _ (List.mem_append_right _ (List.mem_append_right _ (List.mem_append_right _ (List.mem_of_getElem? (i := 67) rfl))))) rfl
theorem w_788 : Cond.sameMethod "[Ljava/lang/Object;" "java/lang/Object" "getClass" "()Ljava/lang/Class;" ∈ GW := gw_of (List.mem_append_right _ (List.mem_append_right _ (List.mem_append_right _ (List.mem_append_right _ (List.mem_of_getElem? (i := 68) rfl))))) rfl
theorem w_789 : Cond.selects "[Ljava/lang/Object;" ⟨"java/lang/Object", "getClass", "()Ljava/lang/Class;"⟩ ⟨"java/lang/Object", "getClass", "()Ljava/lang/Class;"⟩ ∈ GW := gw_of (List.mem_append_right _ (List.mem_append_right _ (List.mem_append_right _ (List.mem_append_right _ (List.mem_of_getElem? (i := 69) rfl))))) rfl
theorem w_790 : Cond.declares ⟨"java/lang/Object", "getClass", "()Ljava/lang/Class;"⟩ ∈ NW := nw_of (List.mem_append_right _ (List.mem_append_right _ (List.mem_append_right _ (List.mem_append_right _ (List.mem_of_getElem? (i := 70) rfl))))) rfl
theorem w_791 : Cond.castable "ExpectRows" "java/lang/Object" ∈ NW := nw_of (List.mem_append_right _ (List.mem_append_right _ (List.mem_append_right _ (List.mem_append_right _ (List.mem_of_getElem? (i := 71) rfl))))) rfl
theorem w_792 : Cond.castable "ExpectRows$RowList" "java/lang/Object" ∈ NW := nw_of (List.mem_append_right _ (List.mem_append_right _ (List.mem_append_right _ (List.mem_append_right _ (List.mem_of_getElem? (i := 72) rfl))))) rfl
theorem w_793 : Cond.castable "ExpectRows$HolidayList" "java/lang/Object" ∈ NW := nw_of (List.mem_append_right _ (List.mem_append_right _ (List.mem_append_right _ (List.mem_append_right _ (List.mem_of_getElem? (i := 73) rfl))))) rfl
theorem w_794 : Cond.castable "ExpectRows$AlarmList" "java/lang/Object" ∈ NW := nw_of (List.mem_append_right _ (List.mem_append_right _ (List.mem_append_right _ (List.mem_append_right _ (List.mem_of_getElem? (i := 74) rfl))))) rfl
theorem w_795 : Cond.castable "ExpectRows$PlaceCounts" "java/lang/Object" ∈ NW := nw_of (List.mem_append_right _ (List.mem_append_right _ (List.mem_append_right _ (List.mem_append_right _ (List.mem_of_getElem? (i := 75) rfl))))) rfl
theorem w_796 : Cond.castable "ExpectRows$DeliveryList" "java/lang/Object" ∈ NW := nw_of (List.mem_append_right _ (List.mem_append_right _ (List.mem_append_right _ (List.mem_append_right _ (List.mem_of_getElem? (i := 76) rfl))))) rfl
theorem w_797 : Cond.castable "ExpectRows$Item" "java/lang/Object" ∈ NW := nw_of (List.mem_append_right _ (List.mem_append_right _ (List.mem_append_right _ (List.mem_append_right _ (List.mem_of_getElem? (i := 77) rfl))))) rfl
theorem w_798 : Cond.castable "ExpectRowsModel" "java/lang/Object" ∈ NW := nw_of (List.mem_append_right _ (List.mem_append_right _ (List.mem_append_right _ (List.mem_append_right _ (List.mem_of_getElem? (i := 78) rfl))))) rfl
theorem w_799 : Cond.castable "ExpectRows$Row" "java/lang/Object" ∈ NW := nw_of (List.mem_append_right _ (List.mem_append_right _ (List.mem_append_right _ (List.mem_append_right _ (List.mem_of_getElem? (i := 79) rfl))))) rfl
theorem w_800 : Cond.castable "ExpectRows$Alarm" "java/lang/Object" ∈ NW := nw_of (List.mem_append_right _ (List.mem_append_right _ (List.mem_append_right _ (List.mem_append_right _ (List.mem_of_getElem? (i := 80) rfl))))) rfl
theorem w_801 : Cond.castable "java/lang/String" "java/lang/Object" ∈ NW := nw_of (List.mem_append_right _ (List.mem_append_right _ (List.mem_append_right _ (List.mem_append_right _ (List.mem_of_getElem? (i := 81) rfl))))) rfl
theorem s_0 : Cond.selects "ExpectRows$RowList" ⟨"ExpectRows$RowList", "addRow", "(IIIJZ)I"⟩ ⟨"ExpectRows$RowList", "addRow", "(IIIJZ)I"⟩ ∈ GW := gw_of (List.mem_append_left _ (List.mem_of_getElem? (i := 0) rfl)) rfl
theorem s_1 : Cond.selects "java/util/ArrayList" ⟨"java/util/ArrayList", "add", "(Ljava/lang/Object;[Ljava/lang/Object;I)V"⟩ ⟨"java/util/ArrayList", "add", "(Ljava/lang/Object;[Ljava/lang/Object;I)V"⟩ ∈ GW := gw_of (List.mem_append_left _ (List.mem_of_getElem? (i := 1) rfl)) rfl
theorem s_2 : Cond.selects "java/util/ArrayList" ⟨"java/util/ArrayList", "grow", "()[Ljava/lang/Object;"⟩ ⟨"java/util/ArrayList", "grow", "()[Ljava/lang/Object;"⟩ ∈ GW := gw_of (List.mem_append_left _ (List.mem_of_getElem? (i := 2) rfl)) rfl
theorem s_3 : Cond.selects "java/util/ArrayList" ⟨"java/util/ArrayList", "grow", "(I)[Ljava/lang/Object;"⟩ ⟨"java/util/ArrayList", "grow", "(I)[Ljava/lang/Object;"⟩ ∈ GW := gw_of (List.mem_append_left _ (List.mem_of_getElem? (i := 3) rfl)) rfl
theorem s_4 : Cond.selects "ExpectRows$Item" ⟨"ExpectRows$Item", "mayComeAt", "(J)Z"⟩ ⟨"ExpectRows$Item", "mayComeAt", "(J)Z"⟩ ∈ GW := gw_of (List.mem_append_left _ (List.mem_of_getElem? (i := 4) rfl)) rfl
theorem s_5 : Cond.selects "ExpectRows$Item" ⟨"ExpectRows$Item", "isNew", "()Z"⟩ ⟨"ExpectRows$Item", "isNew", "()Z"⟩ ∈ GW := gw_of (List.mem_append_left _ (List.mem_of_getElem? (i := 5) rfl)) rfl
theorem s_6 : Cond.selects "ExpectRows$Item" ⟨"ExpectRows$Item", "expectNothing", "()V"⟩ ⟨"ExpectRows$Item", "expectNothing", "()V"⟩ ∈ GW := gw_of (List.mem_append_left _ (List.mem_of_getElem? (i := 6) rfl)) rfl
theorem s_7 : Cond.selects "ExpectRows$Item" ⟨"ExpectRows$Item", "daysUntil", "(J)I"⟩ ⟨"ExpectRows$Item", "daysUntil", "(J)I"⟩ ∈ GW := gw_of (List.mem_append_left _ (List.mem_of_getElem? (i := 7) rfl)) rfl
theorem s_8 : Cond.selects "ExpectRows$DeliveryList" ⟨"ExpectRows$DeliveryList", "addDelivery", "(II)V"⟩ ⟨"ExpectRows$DeliveryList", "addDelivery", "(II)V"⟩ ∈ GW := gw_of (List.mem_append_left _ (List.mem_of_getElem? (i := 8) rfl)) rfl
theorem s_9 : Cond.selects "ExpectRows$Item" ⟨"ExpectRows$Item", "beginAnew", "()V"⟩ ⟨"ExpectRows$Item", "beginAnew", "()V"⟩ ∈ GW := gw_of (List.mem_append_left _ (List.mem_of_getElem? (i := 9) rfl)) rfl
theorem s_10 : Cond.selects "ExpectRows$Item" ⟨"ExpectRows$Item", "takeEvent", "(IJ)V"⟩ ⟨"ExpectRows$Item", "takeEvent", "(IJ)V"⟩ ∈ GW := gw_of (List.mem_append_left _ (List.mem_of_getElem? (i := 10) rfl)) rfl
theorem s_11 : Cond.selects "ExpectRows$RowList" ⟨"ExpectRows$RowList", "firstFor", "(III)LExpectRows$Row;"⟩ ⟨"ExpectRows$RowList", "firstFor", "(III)LExpectRows$Row;"⟩ ∈ GW := gw_of (List.mem_append_left _ (List.mem_of_getElem? (i := 11) rfl)) rfl
theorem s_12 : Cond.selects "ExpectRows$Row" ⟨"ExpectRows$Row", "isFor", "(III)Z"⟩ ⟨"ExpectRows$Row", "isFor", "(III)Z"⟩ ∈ GW := gw_of (List.mem_append_left _ (List.mem_of_getElem? (i := 12) rfl)) rfl
theorem s_13 : Cond.selects "ExpectRows" ⟨"ExpectRows", "expectNext", "(LExpectRows$Item;LExpectRows$Row;IJ)I"⟩ ⟨"ExpectRows", "expectNext", "(LExpectRows$Item;LExpectRows$Row;IJ)I"⟩ ∈ GW := gw_of (List.mem_append_left _ (List.mem_of_getElem? (i := 13) rfl)) rfl
theorem s_14 : Cond.selects "ExpectRows$RowList" ⟨"ExpectRows$RowList", "noteFailed", "(LExpectRows$Row;)V"⟩ ⟨"ExpectRows$RowList", "noteFailed", "(LExpectRows$Row;)V"⟩ ∈ GW := gw_of (List.mem_append_left _ (List.mem_of_getElem? (i := 14) rfl)) rfl
theorem s_15 : Cond.selects "ExpectRows$HolidayList" ⟨"ExpectRows$HolidayList", "dueAfter", "(JJ)J"⟩ ⟨"ExpectRows$HolidayList", "dueAfter", "(JJ)J"⟩ ∈ GW := gw_of (List.mem_append_left _ (List.mem_of_getElem? (i := 15) rfl)) rfl
theorem s_16 : Cond.selects "ExpectRows$Item" ⟨"ExpectRows$Item", "expect", "(IIJ)V"⟩ ⟨"ExpectRows$Item", "expect", "(IIJ)V"⟩ ∈ GW := gw_of (List.mem_append_left _ (List.mem_of_getElem? (i := 16) rfl)) rfl
theorem s_17 : Cond.selects "ExpectRows$PlaceCounts" ⟨"ExpectRows$PlaceCounts", "addBegun", "(I)V"⟩ ⟨"ExpectRows$PlaceCounts", "addBegun", "(I)V"⟩ ∈ GW := gw_of (List.mem_append_left _ (List.mem_of_getElem? (i := 17) rfl)) rfl
theorem s_18 : Cond.selects "ExpectRows$AlarmList" ⟨"ExpectRows$AlarmList", "size", "()I"⟩ ⟨"ExpectRows$AlarmList", "size", "()I"⟩ ∈ GW := gw_of (List.mem_append_left _ (List.mem_of_getElem? (i := 18) rfl)) rfl
theorem s_19 : Cond.selects "ExpectRows" ⟨"ExpectRows", "tellLate", "(ILExpectRows$Item;)V"⟩ ⟨"ExpectRows", "tellLate", "(ILExpectRows$Item;)V"⟩ ∈ GW := gw_of (List.mem_append_left _ (List.mem_of_getElem? (i := 19) rfl)) rfl
theorem s_20 : Cond.selects "ExpectRows$Item" ⟨"ExpectRows$Item", "isExpected", "()Z"⟩ ⟨"ExpectRows$Item", "isExpected", "()Z"⟩ ∈ GW := gw_of (List.mem_append_left _ (List.mem_of_getElem? (i := 20) rfl)) rfl
theorem s_21 : Cond.selects "ExpectRows$PlaceCounts" ⟨"ExpectRows$PlaceCounts", "addLate", "(I)V"⟩ ⟨"ExpectRows$PlaceCounts", "addLate", "(I)V"⟩ ∈ GW := gw_of (List.mem_append_left _ (List.mem_of_getElem? (i := 21) rfl)) rfl
theorem s_22 : Cond.selects "ExpectRows$AlarmList" ⟨"ExpectRows$AlarmList", "addAlarm", "(IILExpectRows$Item;)V"⟩ ⟨"ExpectRows$AlarmList", "addAlarm", "(IILExpectRows$Item;)V"⟩ ∈ GW := gw_of (List.mem_append_left _ (List.mem_of_getElem? (i := 22) rfl)) rfl
theorem s_23 : Cond.selects "ExpectRows" ⟨"ExpectRows", "tellLost", "(ILExpectRows$Item;)V"⟩ ⟨"ExpectRows", "tellLost", "(ILExpectRows$Item;)V"⟩ ∈ GW := gw_of (List.mem_append_left _ (List.mem_of_getElem? (i := 23) rfl)) rfl
theorem s_24 : Cond.selects "ExpectRows$AlarmList" ⟨"ExpectRows$AlarmList", "partOf", "(II)I"⟩ ⟨"ExpectRows$AlarmList", "partOf", "(II)I"⟩ ∈ GW := gw_of (List.mem_append_left _ (List.mem_of_getElem? (i := 24) rfl)) rfl
theorem s_25 : Cond.selects "ExpectRows$Item" ⟨"ExpectRows$Item", "toldState", "()I"⟩ ⟨"ExpectRows$Item", "toldState", "()I"⟩ ∈ GW := gw_of (List.mem_append_left _ (List.mem_of_getElem? (i := 25) rfl)) rfl
theorem s_26 : Cond.selects "ExpectRows$HolidayList" ⟨"ExpectRows$HolidayList", "addDay", "(J)I"⟩ ⟨"ExpectRows$HolidayList", "addDay", "(J)I"⟩ ∈ GW := gw_of (List.mem_append_left _ (List.mem_of_getElem? (i := 26) rfl)) rfl
theorem s_27 : Cond.selects "ExpectRows$HolidayList" ⟨"ExpectRows$HolidayList", "holds", "(J)Z"⟩ ⟨"ExpectRows$HolidayList", "holds", "(J)Z"⟩ ∈ GW := gw_of (List.mem_append_left _ (List.mem_of_getElem? (i := 27) rfl)) rfl
theorem s_28 : Cond.selects "ExpectRows$DeliveryList" ⟨"ExpectRows$DeliveryList", "countOf", "(I)I"⟩ ⟨"ExpectRows$DeliveryList", "countOf", "(I)I"⟩ ∈ GW := gw_of (List.mem_append_left _ (List.mem_of_getElem? (i := 28) rfl)) rfl
theorem s_29 : Cond.selects "ExpectRows$DeliveryList" ⟨"ExpectRows$DeliveryList", "daysAtRank", "(II)I"⟩ ⟨"ExpectRows$DeliveryList", "daysAtRank", "(II)I"⟩ ∈ GW := gw_of (List.mem_append_left _ (List.mem_of_getElem? (i := 29) rfl)) rfl
theorem s_30 : Cond.selects "ExpectRows$PlaceCounts" ⟨"ExpectRows$PlaceCounts", "clusterPlace", "(I)I"⟩ ⟨"ExpectRows$PlaceCounts", "clusterPlace", "(I)I"⟩ ∈ GW := gw_of (List.mem_append_left _ (List.mem_of_getElem? (i := 30) rfl)) rfl
theorem s_31 : Cond.selects "ExpectRows$PlaceCounts" ⟨"ExpectRows$PlaceCounts", "isCluster", "(I)Z"⟩ ⟨"ExpectRows$PlaceCounts", "isCluster", "(I)Z"⟩ ∈ GW := gw_of (List.mem_append_left _ (List.mem_of_getElem? (i := 31) rfl)) rfl
theorem s_32 : Cond.selects "ExpectRows$PlaceCounts" ⟨"ExpectRows$PlaceCounts", "lateAt", "(I)I"⟩ ⟨"ExpectRows$PlaceCounts", "lateAt", "(I)I"⟩ ∈ GW := gw_of (List.mem_append_left _ (List.mem_of_getElem? (i := 32) rfl)) rfl
theorem s_33 : Cond.selects "ExpectRows$PlaceCounts" ⟨"ExpectRows$PlaceCounts", "clustersBefore", "(I)I"⟩ ⟨"ExpectRows$PlaceCounts", "clustersBefore", "(I)I"⟩ ∈ GW := gw_of (List.mem_append_left _ (List.mem_of_getElem? (i := 33) rfl)) rfl
theorem s_34 : Cond.selects "ExpectRows$PlaceCounts" ⟨"ExpectRows$PlaceCounts", "comesBefore", "(II)Z"⟩ ⟨"ExpectRows$PlaceCounts", "comesBefore", "(II)Z"⟩ ∈ GW := gw_of (List.mem_append_left _ (List.mem_of_getElem? (i := 34) rfl)) rfl
theorem s_35 : Cond.selects "ExpectRows$PlaceCounts" ⟨"ExpectRows$PlaceCounts", "begunAt", "(I)I"⟩ ⟨"ExpectRows$PlaceCounts", "begunAt", "(I)I"⟩ ∈ GW := gw_of (List.mem_append_left _ (List.mem_of_getElem? (i := 35) rfl)) rfl
theorem s_36 : Cond.selects "ExpectRows$RowList" ⟨"ExpectRows$RowList", "failedRow", "(I)I"⟩ ⟨"ExpectRows$RowList", "failedRow", "(I)I"⟩ ∈ GW := gw_of (List.mem_append_left _ (List.mem_of_getElem? (i := 36) rfl)) rfl
theorem s_37 : Cond.selects "java/lang/Throwable" ⟨"java/lang/Throwable", "fillInStackTrace", "(I)Ljava/lang/Throwable;"⟩ ⟨"java/lang/Throwable", "fillInStackTrace", "(I)Ljava/lang/Throwable;"⟩ ∈ GW := gw_of (List.mem_append_left _ (List.mem_of_getElem? (i := 37) rfl)) rfl
theorem s_38 : Cond.selects "ExpectRowsModel" ⟨"ExpectRowsModel", "isTime", "(IJ)Z"⟩ ⟨"ExpectRowsModel", "isTime", "(IJ)Z"⟩ ∈ GW := gw_of (List.mem_append_left _ (List.mem_of_getElem? (i := 38) rfl)) rfl
theorem s_39 : Cond.selects "ExpectRowsModel" ⟨"ExpectRowsModel", "end", "(I)V"⟩ ⟨"ExpectRowsModel", "end", "(I)V"⟩ ∈ GW := gw_of (List.mem_append_left _ (List.mem_of_getElem? (i := 39) rfl)) rfl
theorem s_40 : Cond.selects "ExpectRowsModel" ⟨"ExpectRowsModel", "rowFor", "(III)I"⟩ ⟨"ExpectRowsModel", "rowFor", "(III)I"⟩ ∈ GW := gw_of (List.mem_append_left _ (List.mem_of_getElem? (i := 40) rfl)) rfl
theorem s_41 : Cond.selects "ExpectRowsModel" ⟨"ExpectRowsModel", "fails", "(I)V"⟩ ⟨"ExpectRowsModel", "fails", "(I)V"⟩ ∈ GW := gw_of (List.mem_append_left _ (List.mem_of_getElem? (i := 41) rfl)) rfl
theorem s_42 : Cond.selects "ExpectRowsModel" ⟨"ExpectRowsModel", "behind", "(JJ)J"⟩ ⟨"ExpectRowsModel", "behind", "(JJ)J"⟩ ∈ GW := gw_of (List.mem_append_left _ (List.mem_of_getElem? (i := 42) rfl)) rfl
theorem s_43 : Cond.selects "ExpectRowsModel" ⟨"ExpectRowsModel", "tell", "(II)V"⟩ ⟨"ExpectRowsModel", "tell", "(II)V"⟩ ∈ GW := gw_of (List.mem_append_left _ (List.mem_of_getElem? (i := 43) rfl)) rfl
theorem s_44 : Cond.selects "ExpectRowsModel" ⟨"ExpectRowsModel", "isBefore", "(II)Z"⟩ ⟨"ExpectRowsModel", "isBefore", "(II)Z"⟩ ∈ GW := gw_of (List.mem_append_left _ (List.mem_of_getElem? (i := 44) rfl)) rfl
theorem cl_X : mm_cls 0 R_X F_X 7 t_X := ⟨rfl, fun w h => by
  obtain ⟨k, hk, rfl⟩ := List.mem_map.mp h
  have hk := List.mem_range.mp hk
  match k, hk with
  | 0, _ => exact w_174
  | 1, _ => exact w_176
  | 2, _ => exact w_178
  | 3, _ => exact w_180
  | 4, _ => exact w_182
  | 5, _ => exact w_184
  | 6, _ => exact w_186
  | k + 7, hk => exact absurd hk (by omega), by decide +kernel, by decide +kernel⟩
theorem ni_X : Cond.instantiable R_X 7 ∈ GW ∧ Cond.initialized R_X ∈ GW := ⟨w_25, w_1⟩
theorem cl_Alarm : mm_cls 1 R_Alarm F_Alarm 5 t_Alarm := ⟨rfl, fun w h => by
  obtain ⟨k, hk, rfl⟩ := List.mem_map.mp h
  have hk := List.mem_range.mp hk
  match k, hk with
  | 0, _ => exact w_426
  | 1, _ => exact w_428
  | 2, _ => exact w_430
  | 3, _ => exact w_432
  | 4, _ => exact w_434
  | k + 5, hk => exact absurd hk (by omega), by decide +kernel, by decide +kernel⟩
theorem ni_Alarm : Cond.instantiable R_Alarm 5 ∈ GW ∧ Cond.initialized R_Alarm ∈ GW := ⟨w_411, w_19⟩
theorem cl_AlarmL : mm_cls 2 R_AlarmL F_AlarmL 1 t_AlarmL := ⟨rfl, fun w h => by
  obtain ⟨k, hk, rfl⟩ := List.mem_map.mp h
  have hk := List.mem_range.mp hk
  match k, hk with
  | 0, _ => exact w_94
  | k + 1, hk => exact absurd hk (by omega), by decide +kernel, by decide +kernel⟩
theorem ni_AlarmL : Cond.instantiable R_AlarmL 1 ∈ GW ∧ Cond.initialized R_AlarmL ∈ GW := ⟨w_86, w_7⟩
theorem cl_Deliv : mm_cls 3 R_Deliv F_Deliv 3 t_Deliv := ⟨rfl, fun w h => by
  obtain ⟨k, hk, rfl⟩ := List.mem_map.mp h
  have hk := List.mem_range.mp hk
  match k, hk with
  | 0, _ => exact w_120
  | 1, _ => exact w_122
  | 2, _ => exact w_124
  | k + 3, hk => exact absurd hk (by omega), by decide +kernel, by decide +kernel⟩
theorem ni_Deliv : Cond.instantiable R_Deliv 3 ∈ GW ∧ Cond.initialized R_Deliv ∈ GW := ⟨w_112, w_9⟩
theorem cl_Holi : mm_cls 4 R_Holi F_Holi 2 t_Holi := ⟨rfl, fun w h => by
  obtain ⟨k, hk, rfl⟩ := List.mem_map.mp h
  have hk := List.mem_range.mp hk
  match k, hk with
  | 0, _ => exact w_79
  | 1, _ => exact w_81
  | k + 2, hk => exact absurd hk (by omega), by decide +kernel, by decide +kernel⟩
theorem ni_Holi : Cond.instantiable R_Holi 2 ∈ GW ∧ Cond.initialized R_Holi ∈ GW := ⟨w_72, w_6⟩
theorem cl_Item : mm_cls 5 R_Item F_Item 8 t_Item := ⟨rfl, fun w h => by
  obtain ⟨k, hk, rfl⟩ := List.mem_map.mp h
  have hk := List.mem_range.mp hk
  match k, hk with
  | 0, _ => exact w_150
  | 1, _ => exact w_152
  | 2, _ => exact w_154
  | 3, _ => exact w_156
  | 4, _ => exact w_158
  | 5, _ => exact w_160
  | 6, _ => exact w_162
  | 7, _ => exact w_164
  | k + 8, hk => exact absurd hk (by omega), by decide +kernel, by decide +kernel⟩
theorem ni_Item : Cond.instantiable R_Item 8 ∈ GW ∧ Cond.initialized R_Item ∈ GW := ⟨w_129, w_10⟩
theorem cl_Cnts : mm_cls 6 R_Cnts F_Cnts 2 t_Cnts := ⟨rfl, fun w h => by
  obtain ⟨k, hk, rfl⟩ := List.mem_map.mp h
  have hk := List.mem_range.mp hk
  match k, hk with
  | 0, _ => exact w_105
  | 1, _ => exact w_107
  | k + 2, hk => exact absurd hk (by omega), by decide +kernel, by decide +kernel⟩
theorem ni_Cnts : Cond.instantiable R_Cnts 2 ∈ GW ∧ Cond.initialized R_Cnts ∈ GW := ⟨w_98, w_8⟩
theorem cl_Row : mm_cls 7 R_Row F_Row 7 t_Row := ⟨rfl, fun w h => by
  obtain ⟨k, hk, rfl⟩ := List.mem_map.mp h
  have hk := List.mem_range.mp hk
  match k, hk with
  | 0, _ => exact w_226
  | 1, _ => exact w_228
  | 2, _ => exact w_230
  | 3, _ => exact w_232
  | 4, _ => exact w_234
  | 5, _ => exact w_236
  | 6, _ => exact w_238
  | k + 7, hk => exact absurd hk (by omega), by decide +kernel, by decide +kernel⟩
theorem ni_Row : Cond.instantiable R_Row 7 ∈ GW ∧ Cond.initialized R_Row ∈ GW := ⟨w_209, w_12⟩
theorem cl_RowL : mm_cls 8 R_RowL F_RowL 2 t_RowL := ⟨rfl, fun w h => by
  obtain ⟨k, hk, rfl⟩ := List.mem_map.mp h
  have hk := List.mem_range.mp hk
  match k, hk with
  | 0, _ => exact w_66
  | 1, _ => exact w_68
  | k + 2, hk => exact absurd hk (by omega), by decide +kernel, by decide +kernel⟩
theorem ni_RowL : Cond.instantiable R_RowL 2 ∈ GW ∧ Cond.initialized R_RowL ∈ GW := ⟨w_33, w_2⟩
theorem cl_Mod : mm_cls 9 R_Mod F_Mod 26 t_Mod := ⟨rfl, fun w h => by
  obtain ⟨k, hk, rfl⟩ := List.mem_map.mp h
  have hk := List.mem_range.mp hk
  match k, hk with
  | 0, _ => exact w_639
  | 1, _ => exact w_641
  | 2, _ => exact w_643
  | 3, _ => exact w_645
  | 4, _ => exact w_647
  | 5, _ => exact w_649
  | 6, _ => exact w_651
  | 7, _ => exact w_653
  | 8, _ => exact w_655
  | 9, _ => exact w_657
  | 10, _ => exact w_659
  | 11, _ => exact w_661
  | 12, _ => exact w_663
  | 13, _ => exact w_665
  | 14, _ => exact w_667
  | 15, _ => exact w_669
  | 16, _ => exact w_671
  | 17, _ => exact w_673
  | 18, _ => exact w_675
  | 19, _ => exact w_677
  | 20, _ => exact w_679
  | 21, _ => exact w_681
  | 22, _ => exact w_683
  | 23, _ => exact w_685
  | 24, _ => exact w_687
  | 25, _ => exact w_689
  | k + 26, hk => exact absurd hk (by omega), by decide +kernel, by decide +kernel⟩
theorem ni_Mod : Cond.instantiable R_Mod 26 ∈ GW ∧ Cond.initialized R_Mod ∈ GW := ⟨w_608, w_11⟩
theorem cl_AL : mm_cls 10 R_AL F_AL 3 t_AL := ⟨rfl, fun w h => by
  obtain ⟨k, hk, rfl⟩ := List.mem_map.mp h
  have hk := List.mem_range.mp hk
  match k, hk with
  | 0, _ => exact w_61
  | 1, _ => exact w_57
  | 2, _ => exact w_59
  | k + 3, hk => exact absurd hk (by omega), by decide +kernel, by decide +kernel⟩
theorem ni_AL : Cond.instantiable R_AL 3 ∈ GW ∧ Cond.initialized R_AL ∈ GW := ⟨w_39, w_5⟩
theorem fl_AL_9 : mm_fl "java/util/ArrayList" 9 F_AL 1 := Or.inl ⟨_, w_52, Or.inl rfl⟩
theorem fl_AL_48 : mm_fl "java/util/ArrayList" 48 F_AL 2 := Or.inl ⟨_, w_53, Or.inl rfl⟩
theorem fl_AbL_7 : mm_fl "java/util/AbstractList" 7 F_AL 0 := Or.inl ⟨_, w_54, Or.inl rfl⟩
theorem fl_RowL_12 : mm_fl "ExpectRows$RowList" 12 F_RowL 0 := Or.inl ⟨_, w_64, Or.inl rfl⟩
theorem fl_RowL_18 : mm_fl "ExpectRows$RowList" 18 F_RowL 1 := Or.inl ⟨_, w_65, Or.inl rfl⟩
theorem fl_Holi_9 : mm_fl "ExpectRows$HolidayList" 9 F_Holi 0 := Or.inl ⟨_, w_77, Or.inl rfl⟩
theorem fl_Holi_15 : mm_fl "ExpectRows$HolidayList" 15 F_Holi 1 := Or.inl ⟨_, w_78, Or.inl rfl⟩
theorem fl_AlarmL_12 : mm_fl "ExpectRows$AlarmList" 12 F_AlarmL 0 := Or.inl ⟨_, w_93, Or.inl rfl⟩
theorem fl_Cnts_9 : mm_fl "ExpectRows$PlaceCounts" 9 F_Cnts 0 := Or.inl ⟨_, w_103, Or.inl rfl⟩
theorem fl_Cnts_15 : mm_fl "ExpectRows$PlaceCounts" 15 F_Cnts 1 := Or.inl ⟨_, w_104, Or.inl rfl⟩
theorem fl_Deliv_9 : mm_fl "ExpectRows$DeliveryList" 9 F_Deliv 0 := Or.inl ⟨_, w_117, Or.inl rfl⟩
theorem fl_Deliv_15 : mm_fl "ExpectRows$DeliveryList" 15 F_Deliv 1 := Or.inl ⟨_, w_118, Or.inl rfl⟩
theorem fl_Deliv_18 : mm_fl "ExpectRows$DeliveryList" 18 F_Deliv 2 := Or.inl ⟨_, w_119, Or.inl rfl⟩
theorem fl_Item_9 : mm_fl "ExpectRows$Item" 9 F_Item 0 := Or.inl ⟨_, w_134, Or.inl rfl⟩
theorem fl_Item_15 : mm_fl "ExpectRows$Item" 15 F_Item 1 := Or.inl ⟨_, w_135, Or.inl rfl⟩
theorem fl_Item_19 : mm_fl "ExpectRows$Item" 19 F_Item 2 := Or.inl ⟨_, w_136, Or.inl rfl⟩
theorem fl_X_162 : mm_fl "ExpectRows" 162 F_Item 2 := Or.inr ⟨_, w_137⟩
theorem fl_Item_22 : mm_fl "ExpectRows$Item" 22 F_Item 3 := Or.inl ⟨_, w_138, Or.inl rfl⟩
theorem fl_AlarmL_24 : mm_fl "ExpectRows$AlarmList" 24 F_Item 3 := Or.inr ⟨_, w_139⟩
theorem fl_Item_25 : mm_fl "ExpectRows$Item" 25 F_Item 4 := Or.inl ⟨_, w_140, Or.inl rfl⟩
theorem fl_AlarmL_30 : mm_fl "ExpectRows$AlarmList" 30 F_Item 4 := Or.inr ⟨_, w_141⟩
theorem fl_X_209 : mm_fl "ExpectRows" 209 F_Item 4 := Or.inr ⟨_, w_142⟩
theorem fl_Item_28 : mm_fl "ExpectRows$Item" 28 F_Item 5 := Or.inl ⟨_, w_143, Or.inl rfl⟩
theorem fl_AlarmL_33 : mm_fl "ExpectRows$AlarmList" 33 F_Item 5 := Or.inr ⟨_, w_144⟩
theorem fl_X_206 : mm_fl "ExpectRows" 206 F_Item 5 := Or.inr ⟨_, w_145⟩
theorem fl_Item_31 : mm_fl "ExpectRows$Item" 31 F_Item 6 := Or.inl ⟨_, w_146, Or.inl rfl⟩
theorem fl_X_203 : mm_fl "ExpectRows" 203 F_Item 6 := Or.inr ⟨_, w_147⟩
theorem fl_Item_35 : mm_fl "ExpectRows$Item" 35 F_Item 7 := Or.inl ⟨_, w_148, Or.inl rfl⟩
theorem fl_X_158 : mm_fl "ExpectRows" 158 F_Item 7 := Or.inr ⟨_, w_149⟩
theorem fl_X_10 : mm_fl "ExpectRows" 10 F_X 0 := Or.inl ⟨_, w_167, Or.inl rfl⟩
theorem fl_X_19 : mm_fl "ExpectRows" 19 F_X 1 := Or.inl ⟨_, w_168, Or.inl rfl⟩
theorem fl_X_26 : mm_fl "ExpectRows" 26 F_X 2 := Or.inl ⟨_, w_169, Or.inl rfl⟩
theorem fl_X_33 : mm_fl "ExpectRows" 33 F_X 3 := Or.inl ⟨_, w_170, Or.inl rfl⟩
theorem fl_X_40 : mm_fl "ExpectRows" 40 F_X 4 := Or.inl ⟨_, w_171, Or.inl rfl⟩
theorem fl_X_46 : mm_fl "ExpectRows" 46 F_X 5 := Or.inl ⟨_, w_172, Or.inl rfl⟩
theorem fl_X_50 : mm_fl "ExpectRows" 50 F_X 6 := Or.inl ⟨_, w_173, Or.inl rfl⟩
theorem fl_Row_15 : mm_fl "ExpectRows$Row" 15 F_Row 0 := Or.inl ⟨_, w_214, Or.inl rfl⟩
theorem fl_RowL_46 : mm_fl "ExpectRows$RowList" 46 F_Row 0 := Or.inr ⟨_, w_215⟩
theorem fl_X_180 : mm_fl "ExpectRows" 180 F_Row 0 := Or.inr ⟨_, w_216⟩
theorem fl_Row_19 : mm_fl "ExpectRows$Row" 19 F_Row 1 := Or.inl ⟨_, w_217, Or.inl rfl⟩
theorem fl_Row_22 : mm_fl "ExpectRows$Row" 22 F_Row 2 := Or.inl ⟨_, w_218, Or.inl rfl⟩
theorem fl_Row_25 : mm_fl "ExpectRows$Row" 25 F_Row 3 := Or.inl ⟨_, w_219, Or.inl rfl⟩
theorem fl_Row_28 : mm_fl "ExpectRows$Row" 28 F_Row 4 := Or.inl ⟨_, w_220, Or.inl rfl⟩
theorem fl_X_184 : mm_fl "ExpectRows" 184 F_Row 4 := Or.inr ⟨_, w_221⟩
theorem fl_Row_32 : mm_fl "ExpectRows$Row" 32 F_Row 5 := Or.inl ⟨_, w_222, Or.inl rfl⟩
theorem fl_X_171 : mm_fl "ExpectRows" 171 F_Row 5 := Or.inr ⟨_, w_223⟩
theorem fl_Row_9 : mm_fl "ExpectRows$Row" 9 F_Row 6 := Or.inl ⟨_, w_224, Or.inl rfl⟩
theorem fl_RowL_42 : mm_fl "ExpectRows$RowList" 42 F_Row 6 := Or.inr ⟨_, w_225⟩
theorem fl_Alarm_7 : mm_fl "ExpectRows$Alarm" 7 F_Alarm 0 := Or.inl ⟨_, w_416, Or.inl rfl⟩
theorem fl_AlarmL_48 : mm_fl "ExpectRows$AlarmList" 48 F_Alarm 0 := Or.inr ⟨_, w_417⟩
theorem fl_Alarm_13 : mm_fl "ExpectRows$Alarm" 13 F_Alarm 1 := Or.inl ⟨_, w_418, Or.inl rfl⟩
theorem fl_AlarmL_51 : mm_fl "ExpectRows$AlarmList" 51 F_Alarm 1 := Or.inr ⟨_, w_419⟩
theorem fl_Alarm_16 : mm_fl "ExpectRows$Alarm" 16 F_Alarm 2 := Or.inl ⟨_, w_420, Or.inl rfl⟩
theorem fl_AlarmL_54 : mm_fl "ExpectRows$AlarmList" 54 F_Alarm 2 := Or.inr ⟨_, w_421⟩
theorem fl_Alarm_19 : mm_fl "ExpectRows$Alarm" 19 F_Alarm 3 := Or.inl ⟨_, w_422, Or.inl rfl⟩
theorem fl_AlarmL_55 : mm_fl "ExpectRows$AlarmList" 55 F_Alarm 3 := Or.inr ⟨_, w_423⟩
theorem fl_Alarm_22 : mm_fl "ExpectRows$Alarm" 22 F_Alarm 4 := Or.inl ⟨_, w_424, Or.inl rfl⟩
theorem fl_AlarmL_56 : mm_fl "ExpectRows$AlarmList" 56 F_Alarm 4 := Or.inr ⟨_, w_425⟩
theorem fl_Mod_72 : mm_fl "ExpectRowsModel" 72 F_Mod 0 := Or.inl ⟨_, w_613, Or.inl rfl⟩
theorem fl_Mod_90 : mm_fl "ExpectRowsModel" 90 F_Mod 1 := Or.inl ⟨_, w_614, Or.inl rfl⟩
theorem fl_Mod_7 : mm_fl "ExpectRowsModel" 7 F_Mod 2 := Or.inl ⟨_, w_615, Or.inl rfl⟩
theorem fl_Mod_13 : mm_fl "ExpectRowsModel" 13 F_Mod 3 := Or.inl ⟨_, w_616, Or.inl rfl⟩
theorem fl_Mod_16 : mm_fl "ExpectRowsModel" 16 F_Mod 4 := Or.inl ⟨_, w_617, Or.inl rfl⟩
theorem fl_Mod_19 : mm_fl "ExpectRowsModel" 19 F_Mod 5 := Or.inl ⟨_, w_618, Or.inl rfl⟩
theorem fl_Mod_23 : mm_fl "ExpectRowsModel" 23 F_Mod 6 := Or.inl ⟨_, w_619, Or.inl rfl⟩
theorem fl_Mod_27 : mm_fl "ExpectRowsModel" 27 F_Mod 7 := Or.inl ⟨_, w_620, Or.inl rfl⟩
theorem fl_Mod_30 : mm_fl "ExpectRowsModel" 30 F_Mod 8 := Or.inl ⟨_, w_621, Or.inl rfl⟩
theorem fl_Mod_33 : mm_fl "ExpectRowsModel" 33 F_Mod 9 := Or.inl ⟨_, w_622, Or.inl rfl⟩
theorem fl_Mod_36 : mm_fl "ExpectRowsModel" 36 F_Mod 10 := Or.inl ⟨_, w_623, Or.inl rfl⟩
theorem fl_Mod_39 : mm_fl "ExpectRowsModel" 39 F_Mod 11 := Or.inl ⟨_, w_624, Or.inl rfl⟩
theorem fl_Mod_42 : mm_fl "ExpectRowsModel" 42 F_Mod 12 := Or.inl ⟨_, w_625, Or.inl rfl⟩
theorem fl_Mod_45 : mm_fl "ExpectRowsModel" 45 F_Mod 13 := Or.inl ⟨_, w_626, Or.inl rfl⟩
theorem fl_Mod_48 : mm_fl "ExpectRowsModel" 48 F_Mod 14 := Or.inl ⟨_, w_627, Or.inl rfl⟩
theorem fl_Mod_51 : mm_fl "ExpectRowsModel" 51 F_Mod 15 := Or.inl ⟨_, w_628, Or.inl rfl⟩
theorem fl_Mod_140 : mm_fl "ExpectRowsModel" 140 F_Mod 16 := Or.inl ⟨_, w_629, Or.inl rfl⟩
theorem fl_Mod_128 : mm_fl "ExpectRowsModel" 128 F_Mod 17 := Or.inl ⟨_, w_630, Or.inl rfl⟩
theorem fl_Mod_125 : mm_fl "ExpectRowsModel" 125 F_Mod 18 := Or.inl ⟨_, w_631, Or.inl rfl⟩
theorem fl_Mod_54 : mm_fl "ExpectRowsModel" 54 F_Mod 19 := Or.inl ⟨_, w_632, Or.inl rfl⟩
theorem fl_Mod_57 : mm_fl "ExpectRowsModel" 57 F_Mod 20 := Or.inl ⟨_, w_633, Or.inl rfl⟩
theorem fl_Mod_60 : mm_fl "ExpectRowsModel" 60 F_Mod 21 := Or.inl ⟨_, w_634, Or.inl rfl⟩
theorem fl_Mod_63 : mm_fl "ExpectRowsModel" 63 F_Mod 22 := Or.inl ⟨_, w_635, Or.inl rfl⟩
theorem fl_Mod_66 : mm_fl "ExpectRowsModel" 66 F_Mod 23 := Or.inl ⟨_, w_636, Or.inl rfl⟩
theorem fl_Mod_99 : mm_fl "ExpectRowsModel" 99 F_Mod 24 := Or.inl ⟨_, w_637, Or.inl rfl⟩
theorem fl_Mod_69 : mm_fl "ExpectRowsModel" 69 F_Mod 25 := Or.inl ⟨_, w_638, Or.inl rfl⟩
theorem fl_AL_63 : mm_fl "java/util/ArrayList" 63 F_AL 0 := Or.inl ⟨_, w_55, Or.inr w_56⟩
theorem lk_Law_15 : mm_lk "ExpectRowsLaw" 15 y_X_init := Or.inl w_26
theorem lk_X_1 : mm_lk "ExpectRows" 1 y_Obj_init := Or.inl w_29
theorem lk_X_9 : mm_lk "ExpectRows" 9 y_RowL_init := Or.inr ⟨_, w_34⟩
theorem lk_RowL_3 : mm_lk "ExpectRows$RowList" 3 y_Obj_init := Or.inl w_37
theorem lk_RowL_11 : mm_lk "ExpectRows$RowList" 11 y_AL_init := Or.inl w_40
theorem lk_AL_1 : mm_lk "java/util/ArrayList" 1 y_AbL_init := Or.inl w_43
theorem lk_AbL_1 : mm_lk "java/util/AbstractList" 1 y_AbC_init := Or.inl w_46
theorem lk_AbC_1 : mm_lk "java/util/AbstractCollection" 1 y_Obj_init := Or.inl w_49
theorem lk_X_18 : mm_lk "ExpectRows" 18 y_Holi_init := Or.inr ⟨_, w_73⟩
theorem lk_Holi_3 : mm_lk "ExpectRows$HolidayList" 3 y_Obj_init := Or.inl w_76
theorem lk_X_25 : mm_lk "ExpectRows" 25 y_AlarmL_init := Or.inr ⟨_, w_87⟩
theorem lk_AlarmL_3 : mm_lk "ExpectRows$AlarmList" 3 y_Obj_init := Or.inl w_90
theorem lk_AlarmL_11 : mm_lk "ExpectRows$AlarmList" 11 y_AL_init := Or.inl w_92
theorem lk_X_32 : mm_lk "ExpectRows" 32 y_Cnts_init := Or.inr ⟨_, w_99⟩
theorem lk_Cnts_3 : mm_lk "ExpectRows$PlaceCounts" 3 y_Obj_init := Or.inl w_102
theorem lk_X_39 : mm_lk "ExpectRows" 39 y_Deliv_init := Or.inr ⟨_, w_113⟩
theorem lk_Deliv_3 : mm_lk "ExpectRows$DeliveryList" 3 y_Obj_init := Or.inl w_116
theorem lk_X_54 : mm_lk "ExpectRows" 54 y_Item_init := Or.inr ⟨_, w_130⟩
theorem lk_Item_3 : mm_lk "ExpectRows$Item" 3 y_Obj_init := Or.inl w_133
theorem lk_Law_21 : mm_lk "ExpectRowsLaw" 21 y_X_rule := Or.inl w_189
theorem lk_X_55 : mm_lk "ExpectRows" 55 y_X_isPlace := Or.inl w_193
theorem lk_X_59 : mm_lk "ExpectRows" 59 y_X_isService := Or.inl w_196
theorem lk_X_64 : mm_lk "ExpectRows" 64 y_RowL_addRow := Or.inr ⟨_, w_200⟩
theorem lk_RowL_21 : mm_lk "ExpectRows$RowList" 21 y_AL_size := Or.inl w_204
theorem lk_RowL_27 : mm_lk "ExpectRows$RowList" 27 y_Row_init := Or.inr ⟨_, w_210⟩
theorem lk_Row_3 : mm_lk "ExpectRows$Row" 3 y_Obj_init := Or.inl w_213
theorem lk_RowL_30 : mm_lk "ExpectRows$RowList" 30 y_AL_add1 := Or.inl w_241
theorem lk_AL_131 : mm_lk "java/util/ArrayList" 131 y_AL_add3 := Or.inl w_245
theorem lk_AL_129 : mm_lk "java/util/ArrayList" 129 y_AL_grow0 := Or.inl w_249
theorem lk_AL_69 : mm_lk "java/util/ArrayList" 69 y_AL_grow1 := Or.inl w_253
theorem lk_AL_73 : mm_lk "java/util/ArrayList" 73 y_ASup_newLength := Or.inl w_257
theorem lk_ASup_194 : mm_lk "jdk/internal/util/ArraysSupport" 194 y_Math_max := Or.inl w_260
theorem lk_ASup_201 : mm_lk "jdk/internal/util/ArraysSupport" 201 y_ASup_hugeLength := Or.inl w_264
theorem lk_AL_66 : mm_lk "java/util/ArrayList" 66 y_Arrs_copyOf2 := Or.inl w_267
theorem lk_Arrs_300 : mm_lk "java/util/Arrays" 300 y_Arrs_copyOf3 := Or.inl w_286
theorem lk_Arrs_304 : mm_lk "java/util/Arrays" 304 y_Math_min := Or.inl w_292
theorem lk_AL_79 : mm_lk "java/util/ArrayList" 79 y_Math_max := Or.inl w_298
theorem lk_Law_26 : mm_lk "ExpectRowsLaw" 26 y_X_event := Or.inl w_300
theorem lk_X_68 : mm_lk "ExpectRows" 68 y_X_isItem := Or.inl w_304
theorem lk_X_71 : mm_lk "ExpectRows" 71 y_Item_mayComeAt := Or.inr ⟨_, w_307⟩
theorem lk_Item_40 : mm_lk "ExpectRows$Item" 40 y_Item_isNew := Or.inl w_312
theorem lk_X_75 : mm_lk "ExpectRows" 75 y_Item_expectNothing := Or.inr ⟨_, w_316⟩
theorem lk_X_78 : mm_lk "ExpectRows" 78 y_Item_daysUntil := Or.inr ⟨_, w_320⟩
theorem lk_X_82 : mm_lk "ExpectRows" 82 y_Deliv_addDelivery := Or.inr ⟨_, w_325⟩
theorem lk_X_86 : mm_lk "ExpectRows" 86 y_Item_beginAnew := Or.inr ⟨_, w_329⟩
theorem lk_X_89 : mm_lk "ExpectRows" 89 y_Item_takeEvent := Or.inr ⟨_, w_333⟩
theorem lk_X_93 : mm_lk "ExpectRows" 93 y_RowL_firstFor := Or.inr ⟨_, w_337⟩
theorem lk_RowL_34 : mm_lk "ExpectRows$RowList" 34 y_AL_get := Or.inl w_341
theorem lk_AL_118 : mm_lk "java/util/ArrayList" 118 y_Objs_checkIndex := Or.inl w_345
theorem lk_Objs_105 : mm_lk "java/util/Objects" 105 y_Prec_checkIndex := Or.inl w_348
theorem lk_AL_123 : mm_lk "java/util/ArrayList" 123 y_AL_elementData := Or.inl w_351
theorem lk_RowL_38 : mm_lk "ExpectRows$RowList" 38 y_Row_isFor := Or.inr ⟨_, w_355⟩
theorem lk_X_97 : mm_lk "ExpectRows" 97 y_X_expectNext := Or.inl w_359
theorem lk_X_176 : mm_lk "ExpectRows" 176 y_RowL_noteFailed := Or.inr ⟨_, w_363⟩
theorem lk_X_187 : mm_lk "ExpectRows" 187 y_Holi_dueAfter := Or.inr ⟨_, w_367⟩
theorem lk_Holi_25 : mm_lk "ExpectRows$HolidayList" 25 y_Math_maxl := Or.inl w_372
theorem lk_X_191 : mm_lk "ExpectRows" 191 y_Item_expect := Or.inr ⟨_, w_375⟩
theorem lk_X_195 : mm_lk "ExpectRows" 195 y_Cnts_addBegun := Or.inr ⟨_, w_379⟩
theorem lk_Cnts_18 : mm_lk "ExpectRows$PlaceCounts" 18 y_X_isPlace := Or.inr ⟨_, w_383⟩
theorem lk_Law_31 : mm_lk "ExpectRowsLaw" 31 y_X_tick := Or.inl w_384
theorem lk_X_103 : mm_lk "ExpectRows" 103 y_AlarmL_size := Or.inr ⟨_, w_389⟩
theorem lk_AlarmL_18 : mm_lk "ExpectRows$AlarmList" 18 y_AL_size := Or.inl w_393
theorem lk_X_107 : mm_lk "ExpectRows" 107 y_X_tellLate := Or.inl w_394
theorem lk_X_199 : mm_lk "ExpectRows" 199 y_Item_isExpected := Or.inr ⟨_, w_398⟩
theorem lk_X_212 : mm_lk "ExpectRows" 212 y_Cnts_addLate := Or.inr ⟨_, w_402⟩
theorem lk_X_215 : mm_lk "ExpectRows" 215 y_AlarmL_addAlarm := Or.inr ⟨_, w_406⟩
theorem lk_AlarmL_37 : mm_lk "ExpectRows$AlarmList" 37 y_Alarm_init := Or.inr ⟨_, w_412⟩
theorem lk_Alarm_1 : mm_lk "ExpectRows$Alarm" 1 y_Obj_init := Or.inl w_415
theorem lk_AlarmL_40 : mm_lk "ExpectRows$AlarmList" 40 y_AL_add1 := Or.inl w_437
theorem lk_X_111 : mm_lk "ExpectRows" 111 y_X_tellLost := Or.inl w_438
theorem lk_Law_36 : mm_lk "ExpectRowsLaw" 36 y_X_alarm := Or.inl w_443
theorem lk_X_114 : mm_lk "ExpectRows" 114 y_AlarmL_partOf := Or.inr ⟨_, w_447⟩
theorem lk_AlarmL_44 : mm_lk "ExpectRows$AlarmList" 44 y_AL_get := Or.inl w_451
theorem lk_Law_41 : mm_lk "ExpectRowsLaw" 41 y_X_state := Or.inl w_452
theorem lk_X_118 : mm_lk "ExpectRows" 118 y_Item_toldState := Or.inr ⟨_, w_456⟩
theorem lk_Law_46 : mm_lk "ExpectRowsLaw" 46 y_X_holiday := Or.inl w_460
theorem lk_X_123 : mm_lk "ExpectRows" 123 y_Holi_addDay := Or.inr ⟨_, w_465⟩
theorem lk_Holi_19 : mm_lk "ExpectRows$HolidayList" 19 y_Holi_holds := Or.inl w_469
theorem lk_Law_56 : mm_lk "ExpectRowsLaw" 56 y_X_percentile := Or.inl w_473
theorem lk_X_147 : mm_lk "ExpectRows" 147 y_Deliv_countOf := Or.inr ⟨_, w_478⟩
theorem lk_X_150 : mm_lk "ExpectRows" 150 y_Math_max := Or.inl w_482
theorem lk_X_155 : mm_lk "ExpectRows" 155 y_Deliv_daysAtRank := Or.inr ⟨_, w_483⟩
theorem lk_Law_60 : mm_lk "ExpectRowsLaw" 60 y_X_found := Or.inl w_487
theorem lk_Law_65 : mm_lk "ExpectRowsLaw" 65 y_X_cluster := Or.inl w_491
theorem lk_X_165 : mm_lk "ExpectRows" 165 y_Cnts_clusterPlace := Or.inr ⟨_, w_495⟩
theorem lk_Cnts_26 : mm_lk "ExpectRows$PlaceCounts" 26 y_Cnts_isCluster := Or.inl w_499
theorem lk_Cnts_22 : mm_lk "ExpectRows$PlaceCounts" 22 y_Cnts_lateAt := Or.inl w_503
theorem lk_Cnts_29 : mm_lk "ExpectRows$PlaceCounts" 29 y_Cnts_clustersBefore := Or.inl w_507
theorem lk_Cnts_32 : mm_lk "ExpectRows$PlaceCounts" 32 y_Cnts_comesBefore := Or.inl w_511
theorem lk_Cnts_36 : mm_lk "ExpectRows$PlaceCounts" 36 y_Cnts_begunAt := Or.inl w_515
theorem lk_X_130 : mm_lk "ExpectRows" 130 y_Cnts_lateAt := Or.inr ⟨_, w_519⟩
theorem lk_X_134 : mm_lk "ExpectRows" 134 y_Cnts_begunAt := Or.inr ⟨_, w_520⟩
theorem lk_Law_69 : mm_lk "ExpectRowsLaw" 69 y_X_failing := Or.inl w_521
theorem lk_X_168 : mm_lk "ExpectRows" 168 y_RowL_failedRow := Or.inr ⟨_, w_525⟩
theorem lk_Law_50 : mm_lk "ExpectRowsLaw" 50 y_Law_share := Or.inl w_529
theorem lk_Law_7 : mm_lk "ExpectRowsLaw" 7 y_X_share := Or.inl w_533
theorem lk_Thr_1 : mm_lk "java/lang/Throwable" 1 y_Obj_init := Or.inl w_563
theorem lk_Thr_27 : mm_lk "java/lang/Throwable" 27 y_Thr_fillInStackTrace := Or.inl w_568
theorem lk_X_141 : mm_lk "ExpectRows" 141 y_ArE_init := Or.inl w_578
theorem lk_ArE_7 : mm_lk "java/lang/ArithmeticException" 7 y_RtE_init := Or.inl w_581
theorem lk_RtE_7 : mm_lk "java/lang/RuntimeException" 7 y_Exc_init := Or.inl w_584
theorem lk_Exc_7 : mm_lk "java/lang/Exception" 7 y_Thr_initS := Or.inl w_587
theorem lk_X_144 : mm_lk "ExpectRows" 144 y_X_commonDivisor := Or.inl w_604
theorem lk_Law_18 : mm_lk "ExpectRowsLaw" 18 y_Mod_init := Or.inl w_609
theorem lk_Mod_1 : mm_lk "ExpectRowsModel" 1 y_Obj_init := Or.inl w_612
theorem lk_Law_25 : mm_lk "ExpectRowsLaw" 25 y_Mod_rule := Or.inl w_693
theorem lk_Mod_78 : mm_lk "ExpectRowsModel" 78 y_Mod_isIn := Or.inl w_698
theorem lk_Law_30 : mm_lk "ExpectRowsLaw" 30 y_Mod_event := Or.inl w_705
theorem lk_Mod_106 : mm_lk "ExpectRowsModel" 106 y_Mod_isTime := Or.inl w_711
theorem lk_Mod_110 : mm_lk "ExpectRowsModel" 110 y_Mod_end := Or.inl w_716
theorem lk_Mod_114 : mm_lk "ExpectRowsModel" 114 y_Mod_rowFor := Or.inl w_721
theorem lk_Mod_118 : mm_lk "ExpectRowsModel" 118 y_Mod_fails := Or.inl w_725
theorem lk_Mod_121 : mm_lk "ExpectRowsModel" 121 y_Mod_behind := Or.inl w_729
theorem lk_Law_35 : mm_lk "ExpectRowsLaw" 35 y_Mod_tick := Or.inl w_734
theorem lk_Mod_134 : mm_lk "ExpectRowsModel" 134 y_Mod_tell := Or.inl w_739
theorem lk_Law_40 : mm_lk "ExpectRowsLaw" 40 y_Mod_alarm := Or.inl w_744
theorem lk_Law_45 : mm_lk "ExpectRowsLaw" 45 y_Mod_state := Or.inl w_748
theorem lk_Law_49 : mm_lk "ExpectRowsLaw" 49 y_Mod_holiday := Or.inl w_752
theorem lk_Law_55 : mm_lk "ExpectRowsLaw" 55 y_Mod_share := Or.inl w_756
theorem lk_Law_59 : mm_lk "ExpectRowsLaw" 59 y_Mod_percentile := Or.inl w_762
theorem lk_Law_64 : mm_lk "ExpectRowsLaw" 64 y_Mod_found := Or.inl w_768
theorem lk_Law_68 : mm_lk "ExpectRowsLaw" 68 y_Mod_cluster := Or.inl w_772
theorem lk_Mod_150 : mm_lk "ExpectRowsModel" 150 y_Mod_isBefore := Or.inl w_776
theorem lk_Law_72 : mm_lk "ExpectRowsLaw" 72 y_Mod_failing := Or.inl w_780
theorem me_X_init : mm_me y_X_init b_X_init 2 none 0 := ⟨w_28, w_1, by decide +kernel, by decide +kernel, by decide +kernel⟩
theorem in_X_init : y_X_init.name = "<init>" ∧ Cond.instanceMethod y_X_init ∈ GW := ⟨rfl, w_27⟩
theorem me_RowL_init : mm_me y_RowL_init b_RowL_init 1 none 0 := ⟨w_36, w_2, by decide +kernel, by decide +kernel, by decide +kernel⟩
theorem in_RowL_init : y_RowL_init.name = "<init>" ∧ Cond.instanceMethod y_RowL_init ∈ GW := ⟨rfl, w_35⟩
theorem me_AL_init : mm_me y_AL_init b_AL_init 1 none 0 := ⟨w_42, w_5, by decide +kernel, by decide +kernel, by decide +kernel⟩
theorem in_AL_init : y_AL_init.name = "<init>" ∧ Cond.instanceMethod y_AL_init ∈ GW := ⟨rfl, w_41⟩
theorem me_AbL_init : mm_me y_AbL_init b_AbL_init 1 none 0 := ⟨w_45, w_4, by decide +kernel, by decide +kernel, by decide +kernel⟩
theorem in_AbL_init : y_AbL_init.name = "<init>" ∧ Cond.instanceMethod y_AbL_init ∈ GW := ⟨rfl, w_44⟩
theorem me_AbC_init : mm_me y_AbC_init b_AbC_init 1 none 0 := ⟨w_48, w_3, by decide +kernel, by decide +kernel, by decide +kernel⟩
theorem in_AbC_init : y_AbC_init.name = "<init>" ∧ Cond.instanceMethod y_AbC_init ∈ GW := ⟨rfl, w_47⟩
theorem me_Holi_init : mm_me y_Holi_init b_Holi_init 1 none 0 := ⟨w_75, w_6, by decide +kernel, by decide +kernel, by decide +kernel⟩
theorem in_Holi_init : y_Holi_init.name = "<init>" ∧ Cond.instanceMethod y_Holi_init ∈ GW := ⟨rfl, w_74⟩
theorem me_AlarmL_init : mm_me y_AlarmL_init b_AlarmL_init 1 none 0 := ⟨w_89, w_7, by decide +kernel, by decide +kernel, by decide +kernel⟩
theorem in_AlarmL_init : y_AlarmL_init.name = "<init>" ∧ Cond.instanceMethod y_AlarmL_init ∈ GW := ⟨rfl, w_88⟩
theorem me_Cnts_init : mm_me y_Cnts_init b_Cnts_init 1 none 0 := ⟨w_101, w_8, by decide +kernel, by decide +kernel, by decide +kernel⟩
theorem in_Cnts_init : y_Cnts_init.name = "<init>" ∧ Cond.instanceMethod y_Cnts_init ∈ GW := ⟨rfl, w_100⟩
theorem me_Deliv_init : mm_me y_Deliv_init b_Deliv_init 1 none 0 := ⟨w_115, w_9, by decide +kernel, by decide +kernel, by decide +kernel⟩
theorem in_Deliv_init : y_Deliv_init.name = "<init>" ∧ Cond.instanceMethod y_Deliv_init ∈ GW := ⟨rfl, w_114⟩
theorem me_Item_init : mm_me y_Item_init b_Item_init 1 none 0 := ⟨w_132, w_10, by decide +kernel, by decide +kernel, by decide +kernel⟩
theorem in_Item_init : y_Item_init.name = "<init>" ∧ Cond.instanceMethod y_Item_init ∈ GW := ⟨rfl, w_131⟩
theorem me_X_rule : mm_me y_X_rule b_X_rule 7 (some .int) 5 := ⟨w_192, w_1, by decide +kernel, by decide +kernel, by decide +kernel⟩
theorem in_X_rule : Cond.instanceMethod y_X_rule ∈ GW ∧ Cond.selects y_X_rule.cls y_X_rule y_X_rule ∈ GW := ⟨w_190, w_191⟩
theorem me_X_isPlace : mm_me y_X_isPlace b_X_isPlace 1 (some .boolean) 1 := ⟨w_195, w_1, by decide +kernel, by decide +kernel, by decide +kernel⟩
theorem st_X_isPlace : Cond.static y_X_isPlace ∈ GW := w_194
theorem me_X_isService : mm_me y_X_isService b_X_isService 1 (some .boolean) 1 := ⟨w_198, w_1, by decide +kernel, by decide +kernel, by decide +kernel⟩
theorem st_X_isService : Cond.static y_X_isService ∈ GW := w_197
theorem me_RowL_addRow : mm_me y_RowL_addRow b_RowL_addRow 8 (some .int) 5 := ⟨w_203, w_2, by decide +kernel, by decide +kernel, by decide +kernel⟩
theorem in_RowL_addRow : Cond.instanceMethod y_RowL_addRow ∈ GW ∧ Cond.selects y_RowL_addRow.cls y_RowL_addRow y_RowL_addRow ∈ GW := ⟨w_202, s_0⟩
theorem me_AL_size : mm_me y_AL_size b_AL_size 1 (some .int) 0 := ⟨w_207, w_5, by decide +kernel, by decide +kernel, by decide +kernel⟩
theorem in_AL_size : Cond.instanceMethod y_AL_size ∈ GW ∧ Cond.selects y_AL_size.cls y_AL_size y_AL_size ∈ GW := ⟨w_205, w_206⟩
theorem me_Row_init : mm_me y_Row_init b_Row_init 8 none 6 := ⟨w_212, w_12, by decide +kernel, by decide +kernel, by decide +kernel⟩
theorem in_Row_init : y_Row_init.name = "<init>" ∧ Cond.instanceMethod y_Row_init ∈ GW := ⟨rfl, w_211⟩
theorem me_AL_add1 : mm_me y_AL_add1 b_AL_add1 2 (some .boolean) 1 := ⟨w_244, w_5, by decide +kernel, by decide +kernel, by decide +kernel⟩
theorem in_AL_add1 : Cond.instanceMethod y_AL_add1 ∈ GW ∧ Cond.selects y_AL_add1.cls y_AL_add1 y_AL_add1 ∈ GW := ⟨w_242, w_243⟩
theorem me_AL_add3 : mm_me y_AL_add3 b_AL_add3 4 none 3 := ⟨w_248, w_5, by decide +kernel, by decide +kernel, by decide +kernel⟩
theorem in_AL_add3 : Cond.instanceMethod y_AL_add3 ∈ GW ∧ Cond.selects y_AL_add3.cls y_AL_add3 y_AL_add3 ∈ GW := ⟨w_247, s_1⟩
theorem me_AL_grow0 : mm_me y_AL_grow0 b_AL_grow0 1 (some (.array (.object "java/lang/Object"))) 0 := ⟨w_252, w_5, by decide +kernel, by decide +kernel, by decide +kernel⟩
theorem in_AL_grow0 : Cond.instanceMethod y_AL_grow0 ∈ GW ∧ Cond.selects y_AL_grow0.cls y_AL_grow0 y_AL_grow0 ∈ GW := ⟨w_251, s_2⟩
theorem me_AL_grow1 : mm_me y_AL_grow1 b_AL_grow1 4 (some (.array (.object "java/lang/Object"))) 1 := ⟨w_256, w_5, by decide +kernel, by decide +kernel, by decide +kernel⟩
theorem in_AL_grow1 : Cond.instanceMethod y_AL_grow1 ∈ GW ∧ Cond.selects y_AL_grow1.cls y_AL_grow1 y_AL_grow1 ∈ GW := ⟨w_255, s_3⟩
theorem me_ASup_newLength : mm_me y_ASup_newLength b_ASup_newLength 4 (some .int) 3 := ⟨w_259, w_13, by decide +kernel, by decide +kernel, by decide +kernel⟩
theorem st_ASup_newLength : Cond.static y_ASup_newLength ∈ GW := w_258
theorem me_Math_max : mm_me y_Math_max b_Math_max 2 (some .int) 2 := ⟨w_262, w_14, by decide +kernel, by decide +kernel, by decide +kernel⟩
theorem st_Math_max : Cond.static y_Math_max ∈ GW := w_261
theorem me_ASup_hugeLength : mm_me y_ASup_hugeLength b_ASup_hugeLength 3 (some .int) 2 := ⟨w_266, w_13, by decide +kernel, by decide +kernel, by decide +kernel⟩
theorem st_ASup_hugeLength : Cond.static y_ASup_hugeLength ∈ GW := w_265
theorem me_Arrs_copyOf2 : mm_me y_Arrs_copyOf2 b_Arrs_copyOf2 2 (some (.array (.object "java/lang/Object"))) 2 := ⟨w_269, w_15, by decide +kernel, by decide +kernel, by decide +kernel⟩
theorem st_Arrs_copyOf2 : Cond.static y_Arrs_copyOf2 ∈ GW := w_268
theorem me_Arrs_copyOf3 : mm_me y_Arrs_copyOf3 b_Arrs_copyOf3 4 (some (.array (.object "java/lang/Object"))) 3 := ⟨w_288, w_15, by decide +kernel, by decide +kernel, by decide +kernel⟩
theorem st_Arrs_copyOf3 : Cond.static y_Arrs_copyOf3 ∈ GW := w_287
theorem me_Math_min : mm_me y_Math_min b_Math_min 2 (some .int) 2 := ⟨w_294, w_14, by decide +kernel, by decide +kernel, by decide +kernel⟩
theorem st_Math_min : Cond.static y_Math_min ∈ GW := w_293
theorem me_X_event : mm_me y_X_event b_X_event 8 (some .int) 5 := ⟨w_303, w_1, by decide +kernel, by decide +kernel, by decide +kernel⟩
theorem in_X_event : Cond.instanceMethod y_X_event ∈ GW ∧ Cond.selects y_X_event.cls y_X_event y_X_event ∈ GW := ⟨w_301, w_302⟩
theorem me_X_isItem : mm_me y_X_isItem b_X_isItem 1 (some .boolean) 1 := ⟨w_306, w_1, by decide +kernel, by decide +kernel, by decide +kernel⟩
theorem st_X_isItem : Cond.static y_X_isItem ∈ GW := w_305
theorem me_Item_mayComeAt : mm_me y_Item_mayComeAt b_Item_mayComeAt 3 (some .boolean) 1 := ⟨w_310, w_10, by decide +kernel, by decide +kernel, by decide +kernel⟩
theorem in_Item_mayComeAt : Cond.instanceMethod y_Item_mayComeAt ∈ GW ∧ Cond.selects y_Item_mayComeAt.cls y_Item_mayComeAt y_Item_mayComeAt ∈ GW := ⟨w_309, s_4⟩
theorem me_Item_isNew : mm_me y_Item_isNew b_Item_isNew 1 (some .boolean) 0 := ⟨w_315, w_10, by decide +kernel, by decide +kernel, by decide +kernel⟩
theorem in_Item_isNew : Cond.instanceMethod y_Item_isNew ∈ GW ∧ Cond.selects y_Item_isNew.cls y_Item_isNew y_Item_isNew ∈ GW := ⟨w_314, s_5⟩
theorem me_Item_expectNothing : mm_me y_Item_expectNothing b_Item_expectNothing 1 none 0 := ⟨w_319, w_10, by decide +kernel, by decide +kernel, by decide +kernel⟩
theorem in_Item_expectNothing : Cond.instanceMethod y_Item_expectNothing ∈ GW ∧ Cond.selects y_Item_expectNothing.cls y_Item_expectNothing y_Item_expectNothing ∈ GW := ⟨w_318, s_6⟩
theorem me_Item_daysUntil : mm_me y_Item_daysUntil b_Item_daysUntil 3 (some .int) 1 := ⟨w_323, w_10, by decide +kernel, by decide +kernel, by decide +kernel⟩
theorem in_Item_daysUntil : Cond.instanceMethod y_Item_daysUntil ∈ GW ∧ Cond.selects y_Item_daysUntil.cls y_Item_daysUntil y_Item_daysUntil ∈ GW := ⟨w_322, s_7⟩
theorem me_Deliv_addDelivery : mm_me y_Deliv_addDelivery b_Deliv_addDelivery 4 none 2 := ⟨w_328, w_9, by decide +kernel, by decide +kernel, by decide +kernel⟩
theorem in_Deliv_addDelivery : Cond.instanceMethod y_Deliv_addDelivery ∈ GW ∧ Cond.selects y_Deliv_addDelivery.cls y_Deliv_addDelivery y_Deliv_addDelivery ∈ GW := ⟨w_327, s_8⟩
theorem me_Item_beginAnew : mm_me y_Item_beginAnew b_Item_beginAnew 1 none 0 := ⟨w_332, w_10, by decide +kernel, by decide +kernel, by decide +kernel⟩
theorem in_Item_beginAnew : Cond.instanceMethod y_Item_beginAnew ∈ GW ∧ Cond.selects y_Item_beginAnew.cls y_Item_beginAnew y_Item_beginAnew ∈ GW := ⟨w_331, s_9⟩
theorem me_Item_takeEvent : mm_me y_Item_takeEvent b_Item_takeEvent 4 none 2 := ⟨w_336, w_10, by decide +kernel, by decide +kernel, by decide +kernel⟩
theorem in_Item_takeEvent : Cond.instanceMethod y_Item_takeEvent ∈ GW ∧ Cond.selects y_Item_takeEvent.cls y_Item_takeEvent y_Item_takeEvent ∈ GW := ⟨w_335, s_10⟩
theorem me_RowL_firstFor : mm_me y_RowL_firstFor b_RowL_firstFor 6 (some (.object "ExpectRows$Row")) 3 := ⟨w_340, w_2, by decide +kernel, by decide +kernel, by decide +kernel⟩
theorem in_RowL_firstFor : Cond.instanceMethod y_RowL_firstFor ∈ GW ∧ Cond.selects y_RowL_firstFor.cls y_RowL_firstFor y_RowL_firstFor ∈ GW := ⟨w_339, s_11⟩
theorem me_AL_get : mm_me y_AL_get b_AL_get 2 (some (.object "java/lang/Object")) 1 := ⟨w_344, w_5, by decide +kernel, by decide +kernel, by decide +kernel⟩
theorem in_AL_get : Cond.instanceMethod y_AL_get ∈ GW ∧ Cond.selects y_AL_get.cls y_AL_get y_AL_get ∈ GW := ⟨w_342, w_343⟩
theorem me_Objs_checkIndex : mm_me y_Objs_checkIndex b_Objs_checkIndex 2 (some .int) 2 := ⟨w_347, w_17, by decide +kernel, by decide +kernel, by decide +kernel⟩
theorem st_Objs_checkIndex : Cond.static y_Objs_checkIndex ∈ GW := w_346
theorem me_Prec_checkIndex : mm_me y_Prec_checkIndex b_Prec_checkIndex 3 (some .int) 3 := ⟨w_350, w_18, by decide +kernel, by decide +kernel, by decide +kernel⟩
theorem st_Prec_checkIndex : Cond.static y_Prec_checkIndex ∈ GW := w_349
theorem me_AL_elementData : mm_me y_AL_elementData b_AL_elementData 2 (some (.object "java/lang/Object")) 1 := ⟨w_354, w_5, by decide +kernel, by decide +kernel, by decide +kernel⟩
theorem in_AL_elementData : Cond.instanceMethod y_AL_elementData ∈ GW ∧ Cond.selects y_AL_elementData.cls y_AL_elementData y_AL_elementData ∈ GW := ⟨w_352, w_353⟩
theorem me_Row_isFor : mm_me y_Row_isFor b_Row_isFor 4 (some .boolean) 3 := ⟨w_358, w_12, by decide +kernel, by decide +kernel, by decide +kernel⟩
theorem in_Row_isFor : Cond.instanceMethod y_Row_isFor ∈ GW ∧ Cond.selects y_Row_isFor.cls y_Row_isFor y_Row_isFor ∈ GW := ⟨w_357, s_12⟩
theorem me_X_expectNext : mm_me y_X_expectNext b_X_expectNext 6 (some .int) 4 := ⟨w_362, w_1, by decide +kernel, by decide +kernel, by decide +kernel⟩
theorem in_X_expectNext : Cond.instanceMethod y_X_expectNext ∈ GW ∧ Cond.selects y_X_expectNext.cls y_X_expectNext y_X_expectNext ∈ GW := ⟨w_361, s_13⟩
theorem me_RowL_noteFailed : mm_me y_RowL_noteFailed b_RowL_noteFailed 2 none 1 := ⟨w_366, w_2, by decide +kernel, by decide +kernel, by decide +kernel⟩
theorem in_RowL_noteFailed : Cond.instanceMethod y_RowL_noteFailed ∈ GW ∧ Cond.selects y_RowL_noteFailed.cls y_RowL_noteFailed y_RowL_noteFailed ∈ GW := ⟨w_365, s_14⟩
theorem me_Holi_dueAfter : mm_me y_Holi_dueAfter b_Holi_dueAfter 12 (some .long) 2 := ⟨w_370, w_6, by decide +kernel, by decide +kernel, by decide +kernel⟩
theorem in_Holi_dueAfter : Cond.instanceMethod y_Holi_dueAfter ∈ GW ∧ Cond.selects y_Holi_dueAfter.cls y_Holi_dueAfter y_Holi_dueAfter ∈ GW := ⟨w_369, s_15⟩
theorem me_Math_maxl : mm_me y_Math_maxl b_Math_maxl 4 (some .long) 2 := ⟨w_374, w_14, by decide +kernel, by decide +kernel, by decide +kernel⟩
theorem st_Math_maxl : Cond.static y_Math_maxl ∈ GW := w_373
theorem me_Item_expect : mm_me y_Item_expect b_Item_expect 5 none 3 := ⟨w_378, w_10, by decide +kernel, by decide +kernel, by decide +kernel⟩
theorem in_Item_expect : Cond.instanceMethod y_Item_expect ∈ GW ∧ Cond.selects y_Item_expect.cls y_Item_expect y_Item_expect ∈ GW := ⟨w_377, s_16⟩
theorem me_Cnts_addBegun : mm_me y_Cnts_addBegun b_Cnts_addBegun 2 none 1 := ⟨w_382, w_8, by decide +kernel, by decide +kernel, by decide +kernel⟩
theorem in_Cnts_addBegun : Cond.instanceMethod y_Cnts_addBegun ∈ GW ∧ Cond.selects y_Cnts_addBegun.cls y_Cnts_addBegun y_Cnts_addBegun ∈ GW := ⟨w_381, s_17⟩
theorem me_X_tick : mm_me y_X_tick b_X_tick 5 (some .int) 1 := ⟨w_387, w_1, by decide +kernel, by decide +kernel, by decide +kernel⟩
theorem in_X_tick : Cond.instanceMethod y_X_tick ∈ GW ∧ Cond.selects y_X_tick.cls y_X_tick y_X_tick ∈ GW := ⟨w_385, w_386⟩
theorem me_AlarmL_size : mm_me y_AlarmL_size b_AlarmL_size 1 (some .int) 0 := ⟨w_392, w_7, by decide +kernel, by decide +kernel, by decide +kernel⟩
theorem in_AlarmL_size : Cond.instanceMethod y_AlarmL_size ∈ GW ∧ Cond.selects y_AlarmL_size.cls y_AlarmL_size y_AlarmL_size ∈ GW := ⟨w_391, s_18⟩
theorem me_X_tellLate : mm_me y_X_tellLate b_X_tellLate 3 none 2 := ⟨w_397, w_1, by decide +kernel, by decide +kernel, by decide +kernel⟩
theorem in_X_tellLate : Cond.instanceMethod y_X_tellLate ∈ GW ∧ Cond.selects y_X_tellLate.cls y_X_tellLate y_X_tellLate ∈ GW := ⟨w_396, s_19⟩
theorem me_Item_isExpected : mm_me y_Item_isExpected b_Item_isExpected 1 (some .boolean) 0 := ⟨w_401, w_10, by decide +kernel, by decide +kernel, by decide +kernel⟩
theorem in_Item_isExpected : Cond.instanceMethod y_Item_isExpected ∈ GW ∧ Cond.selects y_Item_isExpected.cls y_Item_isExpected y_Item_isExpected ∈ GW := ⟨w_400, s_20⟩
theorem me_Cnts_addLate : mm_me y_Cnts_addLate b_Cnts_addLate 2 none 1 := ⟨w_405, w_8, by decide +kernel, by decide +kernel, by decide +kernel⟩
theorem in_Cnts_addLate : Cond.instanceMethod y_Cnts_addLate ∈ GW ∧ Cond.selects y_Cnts_addLate.cls y_Cnts_addLate y_Cnts_addLate ∈ GW := ⟨w_404, s_21⟩
theorem me_AlarmL_addAlarm : mm_me y_AlarmL_addAlarm b_AlarmL_addAlarm 4 none 3 := ⟨w_409, w_7, by decide +kernel, by decide +kernel, by decide +kernel⟩
theorem in_AlarmL_addAlarm : Cond.instanceMethod y_AlarmL_addAlarm ∈ GW ∧ Cond.selects y_AlarmL_addAlarm.cls y_AlarmL_addAlarm y_AlarmL_addAlarm ∈ GW := ⟨w_408, s_22⟩
theorem me_Alarm_init : mm_me y_Alarm_init b_Alarm_init 6 none 5 := ⟨w_414, w_19, by decide +kernel, by decide +kernel, by decide +kernel⟩
theorem in_Alarm_init : y_Alarm_init.name = "<init>" ∧ Cond.instanceMethod y_Alarm_init ∈ GW := ⟨rfl, w_413⟩
theorem me_X_tellLost : mm_me y_X_tellLost b_X_tellLost 3 none 2 := ⟨w_441, w_1, by decide +kernel, by decide +kernel, by decide +kernel⟩
theorem in_X_tellLost : Cond.instanceMethod y_X_tellLost ∈ GW ∧ Cond.selects y_X_tellLost.cls y_X_tellLost y_X_tellLost ∈ GW := ⟨w_440, s_23⟩
theorem me_X_alarm : mm_me y_X_alarm b_X_alarm 3 (some .int) 2 := ⟨w_446, w_1, by decide +kernel, by decide +kernel, by decide +kernel⟩
theorem in_X_alarm : Cond.instanceMethod y_X_alarm ∈ GW ∧ Cond.selects y_X_alarm.cls y_X_alarm y_X_alarm ∈ GW := ⟨w_444, w_445⟩
theorem me_AlarmL_partOf : mm_me y_AlarmL_partOf b_AlarmL_partOf 4 (some .int) 2 := ⟨w_450, w_7, by decide +kernel, by decide +kernel, by decide +kernel⟩
theorem in_AlarmL_partOf : Cond.instanceMethod y_AlarmL_partOf ∈ GW ∧ Cond.selects y_AlarmL_partOf.cls y_AlarmL_partOf y_AlarmL_partOf ∈ GW := ⟨w_449, s_24⟩
theorem me_X_state : mm_me y_X_state b_X_state 2 (some .int) 1 := ⟨w_455, w_1, by decide +kernel, by decide +kernel, by decide +kernel⟩
theorem in_X_state : Cond.instanceMethod y_X_state ∈ GW ∧ Cond.selects y_X_state.cls y_X_state y_X_state ∈ GW := ⟨w_453, w_454⟩
theorem me_Item_toldState : mm_me y_Item_toldState b_Item_toldState 1 (some .int) 0 := ⟨w_459, w_10, by decide +kernel, by decide +kernel, by decide +kernel⟩
theorem in_Item_toldState : Cond.instanceMethod y_Item_toldState ∈ GW ∧ Cond.selects y_Item_toldState.cls y_Item_toldState y_Item_toldState ∈ GW := ⟨w_458, s_25⟩
theorem me_X_holiday : mm_me y_X_holiday b_X_holiday 3 (some .int) 1 := ⟨w_463, w_1, by decide +kernel, by decide +kernel, by decide +kernel⟩
theorem in_X_holiday : Cond.instanceMethod y_X_holiday ∈ GW ∧ Cond.selects y_X_holiday.cls y_X_holiday y_X_holiday ∈ GW := ⟨w_461, w_462⟩
theorem me_Holi_addDay : mm_me y_Holi_addDay b_Holi_addDay 4 (some .int) 1 := ⟨w_468, w_6, by decide +kernel, by decide +kernel, by decide +kernel⟩
theorem in_Holi_addDay : Cond.instanceMethod y_Holi_addDay ∈ GW ∧ Cond.selects y_Holi_addDay.cls y_Holi_addDay y_Holi_addDay ∈ GW := ⟨w_467, s_26⟩
theorem me_Holi_holds : mm_me y_Holi_holds b_Holi_holds 4 (some .boolean) 1 := ⟨w_472, w_6, by decide +kernel, by decide +kernel, by decide +kernel⟩
theorem in_Holi_holds : Cond.instanceMethod y_Holi_holds ∈ GW ∧ Cond.selects y_Holi_holds.cls y_Holi_holds y_Holi_holds ∈ GW := ⟨w_471, s_27⟩
theorem me_X_percentile : mm_me y_X_percentile b_X_percentile 5 (some .long) 2 := ⟨w_476, w_1, by decide +kernel, by decide +kernel, by decide +kernel⟩
theorem in_X_percentile : Cond.instanceMethod y_X_percentile ∈ GW ∧ Cond.selects y_X_percentile.cls y_X_percentile y_X_percentile ∈ GW := ⟨w_474, w_475⟩
theorem me_Deliv_countOf : mm_me y_Deliv_countOf b_Deliv_countOf 4 (some .int) 1 := ⟨w_481, w_9, by decide +kernel, by decide +kernel, by decide +kernel⟩
theorem in_Deliv_countOf : Cond.instanceMethod y_Deliv_countOf ∈ GW ∧ Cond.selects y_Deliv_countOf.cls y_Deliv_countOf y_Deliv_countOf ∈ GW := ⟨w_480, s_28⟩
theorem me_Deliv_daysAtRank : mm_me y_Deliv_daysAtRank b_Deliv_daysAtRank 5 (some .int) 2 := ⟨w_486, w_9, by decide +kernel, by decide +kernel, by decide +kernel⟩
theorem in_Deliv_daysAtRank : Cond.instanceMethod y_Deliv_daysAtRank ∈ GW ∧ Cond.selects y_Deliv_daysAtRank.cls y_Deliv_daysAtRank y_Deliv_daysAtRank ∈ GW := ⟨w_485, s_29⟩
theorem me_X_found : mm_me y_X_found b_X_found 5 (some .int) 2 := ⟨w_490, w_1, by decide +kernel, by decide +kernel, by decide +kernel⟩
theorem in_X_found : Cond.instanceMethod y_X_found ∈ GW ∧ Cond.selects y_X_found.cls y_X_found y_X_found ∈ GW := ⟨w_488, w_489⟩
theorem me_X_cluster : mm_me y_X_cluster b_X_cluster 4 (some .int) 2 := ⟨w_494, w_1, by decide +kernel, by decide +kernel, by decide +kernel⟩
theorem in_X_cluster : Cond.instanceMethod y_X_cluster ∈ GW ∧ Cond.selects y_X_cluster.cls y_X_cluster y_X_cluster ∈ GW := ⟨w_492, w_493⟩
theorem me_Cnts_clusterPlace : mm_me y_Cnts_clusterPlace b_Cnts_clusterPlace 3 (some .int) 1 := ⟨w_498, w_8, by decide +kernel, by decide +kernel, by decide +kernel⟩
theorem in_Cnts_clusterPlace : Cond.instanceMethod y_Cnts_clusterPlace ∈ GW ∧ Cond.selects y_Cnts_clusterPlace.cls y_Cnts_clusterPlace y_Cnts_clusterPlace ∈ GW := ⟨w_497, s_30⟩
theorem me_Cnts_isCluster : mm_me y_Cnts_isCluster b_Cnts_isCluster 2 (some .boolean) 1 := ⟨w_502, w_8, by decide +kernel, by decide +kernel, by decide +kernel⟩
theorem in_Cnts_isCluster : Cond.instanceMethod y_Cnts_isCluster ∈ GW ∧ Cond.selects y_Cnts_isCluster.cls y_Cnts_isCluster y_Cnts_isCluster ∈ GW := ⟨w_501, s_31⟩
theorem me_Cnts_lateAt : mm_me y_Cnts_lateAt b_Cnts_lateAt 2 (some .int) 1 := ⟨w_506, w_8, by decide +kernel, by decide +kernel, by decide +kernel⟩
theorem in_Cnts_lateAt : Cond.instanceMethod y_Cnts_lateAt ∈ GW ∧ Cond.selects y_Cnts_lateAt.cls y_Cnts_lateAt y_Cnts_lateAt ∈ GW := ⟨w_505, s_32⟩
theorem me_Cnts_clustersBefore : mm_me y_Cnts_clustersBefore b_Cnts_clustersBefore 4 (some .int) 1 := ⟨w_510, w_8, by decide +kernel, by decide +kernel, by decide +kernel⟩
theorem in_Cnts_clustersBefore : Cond.instanceMethod y_Cnts_clustersBefore ∈ GW ∧ Cond.selects y_Cnts_clustersBefore.cls y_Cnts_clustersBefore y_Cnts_clustersBefore ∈ GW := ⟨w_509, s_33⟩
theorem me_Cnts_comesBefore : mm_me y_Cnts_comesBefore b_Cnts_comesBefore 7 (some .boolean) 2 := ⟨w_514, w_8, by decide +kernel, by decide +kernel, by decide +kernel⟩
theorem in_Cnts_comesBefore : Cond.instanceMethod y_Cnts_comesBefore ∈ GW ∧ Cond.selects y_Cnts_comesBefore.cls y_Cnts_comesBefore y_Cnts_comesBefore ∈ GW := ⟨w_513, s_34⟩
theorem me_Cnts_begunAt : mm_me y_Cnts_begunAt b_Cnts_begunAt 2 (some .int) 1 := ⟨w_518, w_8, by decide +kernel, by decide +kernel, by decide +kernel⟩
theorem in_Cnts_begunAt : Cond.instanceMethod y_Cnts_begunAt ∈ GW ∧ Cond.selects y_Cnts_begunAt.cls y_Cnts_begunAt y_Cnts_begunAt ∈ GW := ⟨w_517, s_35⟩
theorem me_X_failing : mm_me y_X_failing b_X_failing 2 (some .int) 1 := ⟨w_524, w_1, by decide +kernel, by decide +kernel, by decide +kernel⟩
theorem in_X_failing : Cond.instanceMethod y_X_failing ∈ GW ∧ Cond.selects y_X_failing.cls y_X_failing y_X_failing ∈ GW := ⟨w_522, w_523⟩
theorem me_RowL_failedRow : mm_me y_RowL_failedRow b_RowL_failedRow 2 (some .int) 1 := ⟨w_528, w_2, by decide +kernel, by decide +kernel, by decide +kernel⟩
theorem in_RowL_failedRow : Cond.instanceMethod y_RowL_failedRow ∈ GW ∧ Cond.selects y_RowL_failedRow.cls y_RowL_failedRow y_RowL_failedRow ∈ GW := ⟨w_527, s_36⟩
theorem me_X_share : mm_me y_X_share b_X_share 6 (some .long) 2 := ⟨w_536, w_1, by decide +kernel, by decide +kernel, by decide +kernel⟩
theorem in_X_share : Cond.instanceMethod y_X_share ∈ GW ∧ Cond.selects y_X_share.cls y_X_share y_X_share ∈ GW := ⟨w_534, w_535⟩
theorem me_Thr_init0 : mm_me y_Thr_init0 b_Thr_init0 1 none 0 := ⟨w_562, w_20, by decide +kernel, by decide +kernel, by decide +kernel⟩
theorem in_Thr_init0 : y_Thr_init0.name = "<init>" ∧ Cond.instanceMethod y_Thr_init0 ∈ GW := ⟨rfl, w_561⟩
theorem me_ArE_init : mm_me y_ArE_init b_ArE_init 2 none 1 := ⟨w_580, w_23, by decide +kernel, by decide +kernel, by decide +kernel⟩
theorem in_ArE_init : y_ArE_init.name = "<init>" ∧ Cond.instanceMethod y_ArE_init ∈ GW := ⟨rfl, w_579⟩
theorem me_RtE_init : mm_me y_RtE_init b_RtE_init 2 none 1 := ⟨w_583, w_22, by decide +kernel, by decide +kernel, by decide +kernel⟩
theorem in_RtE_init : y_RtE_init.name = "<init>" ∧ Cond.instanceMethod y_RtE_init ∈ GW := ⟨rfl, w_582⟩
theorem me_Exc_init : mm_me y_Exc_init b_Exc_init 2 none 1 := ⟨w_586, w_21, by decide +kernel, by decide +kernel, by decide +kernel⟩
theorem in_Exc_init : y_Exc_init.name = "<init>" ∧ Cond.instanceMethod y_Exc_init ∈ GW := ⟨rfl, w_585⟩
theorem me_Thr_initS : mm_me y_Thr_initS b_Thr_initS 2 none 1 := ⟨w_589, w_20, by decide +kernel, by decide +kernel, by decide +kernel⟩
theorem in_Thr_initS : y_Thr_initS.name = "<init>" ∧ Cond.instanceMethod y_Thr_initS ∈ GW := ⟨rfl, w_588⟩
theorem me_X_commonDivisor : mm_me y_X_commonDivisor b_X_commonDivisor 6 (some .int) 2 := ⟨w_606, w_1, by decide +kernel, by decide +kernel, by decide +kernel⟩
theorem st_X_commonDivisor : Cond.static y_X_commonDivisor ∈ GW := w_605
theorem me_Mod_init : mm_me y_Mod_init b_Mod_init 2 none 0 := ⟨w_611, w_11, by decide +kernel, by decide +kernel, by decide +kernel⟩
theorem in_Mod_init : y_Mod_init.name = "<init>" ∧ Cond.instanceMethod y_Mod_init ∈ GW := ⟨rfl, w_610⟩
theorem me_Mod_rule : mm_me y_Mod_rule b_Mod_rule 7 (some .int) 5 := ⟨w_696, w_11, by decide +kernel, by decide +kernel, by decide +kernel⟩
theorem in_Mod_rule : Cond.instanceMethod y_Mod_rule ∈ GW ∧ Cond.selects y_Mod_rule.cls y_Mod_rule y_Mod_rule ∈ GW := ⟨w_694, w_695⟩
theorem me_Mod_isIn : mm_me y_Mod_isIn b_Mod_isIn 6 (some .boolean) 3 := ⟨w_700, w_11, by decide +kernel, by decide +kernel, by decide +kernel⟩
theorem st_Mod_isIn : Cond.static y_Mod_isIn ∈ GW := w_699
theorem me_Mod_event : mm_me y_Mod_event b_Mod_event 8 (some .int) 5 := ⟨w_708, w_11, by decide +kernel, by decide +kernel, by decide +kernel⟩
theorem in_Mod_event : Cond.instanceMethod y_Mod_event ∈ GW ∧ Cond.selects y_Mod_event.cls y_Mod_event y_Mod_event ∈ GW := ⟨w_706, w_707⟩
theorem me_Mod_isTime : mm_me y_Mod_isTime b_Mod_isTime 4 (some .boolean) 2 := ⟨w_714, w_11, by decide +kernel, by decide +kernel, by decide +kernel⟩
theorem in_Mod_isTime : Cond.instanceMethod y_Mod_isTime ∈ GW ∧ Cond.selects y_Mod_isTime.cls y_Mod_isTime y_Mod_isTime ∈ GW := ⟨w_713, s_38⟩
theorem me_Mod_end : mm_me y_Mod_end b_Mod_end 2 none 1 := ⟨w_719, w_11, by decide +kernel, by decide +kernel, by decide +kernel⟩
theorem in_Mod_end : Cond.instanceMethod y_Mod_end ∈ GW ∧ Cond.selects y_Mod_end.cls y_Mod_end y_Mod_end ∈ GW := ⟨w_718, s_39⟩
theorem me_Mod_rowFor : mm_me y_Mod_rowFor b_Mod_rowFor 5 (some .int) 3 := ⟨w_724, w_11, by decide +kernel, by decide +kernel, by decide +kernel⟩
theorem in_Mod_rowFor : Cond.instanceMethod y_Mod_rowFor ∈ GW ∧ Cond.selects y_Mod_rowFor.cls y_Mod_rowFor y_Mod_rowFor ∈ GW := ⟨w_723, s_40⟩
theorem me_Mod_fails : mm_me y_Mod_fails b_Mod_fails 4 none 1 := ⟨w_728, w_11, by decide +kernel, by decide +kernel, by decide +kernel⟩
theorem in_Mod_fails : Cond.instanceMethod y_Mod_fails ∈ GW ∧ Cond.selects y_Mod_fails.cls y_Mod_fails y_Mod_fails ∈ GW := ⟨w_727, s_41⟩
theorem me_Mod_behind : mm_me y_Mod_behind b_Mod_behind 15 (some .long) 2 := ⟨w_732, w_11, by decide +kernel, by decide +kernel, by decide +kernel⟩
theorem in_Mod_behind : Cond.instanceMethod y_Mod_behind ∈ GW ∧ Cond.selects y_Mod_behind.cls y_Mod_behind y_Mod_behind ∈ GW := ⟨w_731, s_42⟩
theorem me_Mod_tick : mm_me y_Mod_tick b_Mod_tick 5 (some .int) 1 := ⟨w_737, w_11, by decide +kernel, by decide +kernel, by decide +kernel⟩
theorem in_Mod_tick : Cond.instanceMethod y_Mod_tick ∈ GW ∧ Cond.selects y_Mod_tick.cls y_Mod_tick y_Mod_tick ∈ GW := ⟨w_735, w_736⟩
theorem me_Mod_tell : mm_me y_Mod_tell b_Mod_tell 3 none 2 := ⟨w_742, w_11, by decide +kernel, by decide +kernel, by decide +kernel⟩
theorem in_Mod_tell : Cond.instanceMethod y_Mod_tell ∈ GW ∧ Cond.selects y_Mod_tell.cls y_Mod_tell y_Mod_tell ∈ GW := ⟨w_741, s_43⟩
theorem me_Mod_alarm : mm_me y_Mod_alarm b_Mod_alarm 3 (some .int) 2 := ⟨w_747, w_11, by decide +kernel, by decide +kernel, by decide +kernel⟩
theorem in_Mod_alarm : Cond.instanceMethod y_Mod_alarm ∈ GW ∧ Cond.selects y_Mod_alarm.cls y_Mod_alarm y_Mod_alarm ∈ GW := ⟨w_745, w_746⟩
theorem me_Mod_state : mm_me y_Mod_state b_Mod_state 2 (some .int) 1 := ⟨w_751, w_11, by decide +kernel, by decide +kernel, by decide +kernel⟩
theorem in_Mod_state : Cond.instanceMethod y_Mod_state ∈ GW ∧ Cond.selects y_Mod_state.cls y_Mod_state y_Mod_state ∈ GW := ⟨w_749, w_750⟩
theorem me_Mod_holiday : mm_me y_Mod_holiday b_Mod_holiday 3 (some .int) 1 := ⟨w_755, w_11, by decide +kernel, by decide +kernel, by decide +kernel⟩
theorem in_Mod_holiday : Cond.instanceMethod y_Mod_holiday ∈ GW ∧ Cond.selects y_Mod_holiday.cls y_Mod_holiday y_Mod_holiday ∈ GW := ⟨w_753, w_754⟩
theorem me_Mod_share : mm_me y_Mod_share b_Mod_share 4 (some .long) 2 := ⟨w_759, w_11, by decide +kernel, by decide +kernel, by decide +kernel⟩
theorem in_Mod_share : Cond.instanceMethod y_Mod_share ∈ GW ∧ Cond.selects y_Mod_share.cls y_Mod_share y_Mod_share ∈ GW := ⟨w_757, w_758⟩
theorem me_Mod_percentile : mm_me y_Mod_percentile b_Mod_percentile 10 (some .long) 2 := ⟨w_765, w_11, by decide +kernel, by decide +kernel, by decide +kernel⟩
theorem in_Mod_percentile : Cond.instanceMethod y_Mod_percentile ∈ GW ∧ Cond.selects y_Mod_percentile.cls y_Mod_percentile y_Mod_percentile ∈ GW := ⟨w_763, w_764⟩
theorem me_Mod_found : mm_me y_Mod_found b_Mod_found 4 (some .int) 2 := ⟨w_771, w_11, by decide +kernel, by decide +kernel, by decide +kernel⟩
theorem in_Mod_found : Cond.instanceMethod y_Mod_found ∈ GW ∧ Cond.selects y_Mod_found.cls y_Mod_found y_Mod_found ∈ GW := ⟨w_769, w_770⟩
theorem me_Mod_cluster : mm_me y_Mod_cluster b_Mod_cluster 8 (some .int) 2 := ⟨w_775, w_11, by decide +kernel, by decide +kernel, by decide +kernel⟩
theorem in_Mod_cluster : Cond.instanceMethod y_Mod_cluster ∈ GW ∧ Cond.selects y_Mod_cluster.cls y_Mod_cluster y_Mod_cluster ∈ GW := ⟨w_773, w_774⟩
theorem me_Mod_isBefore : mm_me y_Mod_isBefore b_Mod_isBefore 7 (some .boolean) 2 := ⟨w_779, w_11, by decide +kernel, by decide +kernel, by decide +kernel⟩
theorem in_Mod_isBefore : Cond.instanceMethod y_Mod_isBefore ∈ GW ∧ Cond.selects y_Mod_isBefore.cls y_Mod_isBefore y_Mod_isBefore ∈ GW := ⟨w_778, s_44⟩
theorem me_Mod_failing : mm_me y_Mod_failing b_Mod_failing 2 (some .int) 1 := ⟨w_783, w_11, by decide +kernel, by decide +kernel, by decide +kernel⟩
theorem in_Mod_failing : Cond.instanceMethod y_Mod_failing ∈ GW ∧ Cond.selects y_Mod_failing.cls y_Mod_failing y_Mod_failing ∈ GW := ⟨w_781, w_782⟩
