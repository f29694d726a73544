theorem wd_1_0 : Cond.initialized RL ∈ tT := List.mem_filter.mpr ⟨tin_1 _ (List.mem_of_getElem? (i := 0) rfl), rfl⟩
theorem wd_1_1 : Cond.initialized RX11 ∈ tT := List.mem_filter.mpr ⟨tin_1 _ (List.mem_of_getElem? (i := 1) rfl), rfl⟩
theorem wd_1_2 : Cond.initialized RX3 ∈ tT := List.mem_filter.mpr ⟨tin_1 _ (List.mem_of_getElem? (i := 2) rfl), rfl⟩
theorem wd_1_3 : Cond.initialized RX9 ∈ tT := List.mem_filter.mpr ⟨tin_1 _ (List.mem_of_getElem? (i := 3) rfl), rfl⟩
theorem wd_1_4 : Cond.initialized RX4 ∈ tT := List.mem_filter.mpr ⟨tin_1 _ (List.mem_of_getElem? (i := 4) rfl), rfl⟩
theorem wd_1_5 : Cond.initialized RX12 ∈ tT := List.mem_filter.mpr ⟨tin_1 _ (List.mem_of_getElem? (i := 5) rfl), rfl⟩
theorem wd_1_6 : Cond.initialized RJ10 ∈ tT := List.mem_filter.mpr ⟨tin_1 _ (List.mem_of_getElem? (i := 6) rfl), rfl⟩
theorem wd_1_7 : Cond.initialized RX0 ∈ tT := List.mem_filter.mpr ⟨tin_1 _ (List.mem_of_getElem? (i := 7) rfl), rfl⟩
theorem wd_1_8 : Cond.initialized RX2 ∈ tT := List.mem_filter.mpr ⟨tin_1 _ (List.mem_of_getElem? (i := 8) rfl), rfl⟩
theorem wd_1_9 : Cond.initialized RX8 ∈ tT := List.mem_filter.mpr ⟨tin_1 _ (List.mem_of_getElem? (i := 9) rfl), rfl⟩
theorem wd_1_10 : Cond.initialized RX5 ∈ tT := List.mem_filter.mpr ⟨tin_1 _ (List.mem_of_getElem? (i := 10) rfl), rfl⟩
theorem wd_1_11 : Cond.initialized RX10 ∈ tT := List.mem_filter.mpr ⟨tin_1 _ (List.mem_of_getElem? (i := 11) rfl), rfl⟩
theorem wd_1_12 : Cond.initialized RX1 ∈ tT := List.mem_filter.mpr ⟨tin_1 _ (List.mem_of_getElem? (i := 12) rfl), rfl⟩
theorem wd_1_13 : Cond.initialized RX7 ∈ tT := List.mem_filter.mpr ⟨tin_1 _ (List.mem_of_getElem? (i := 13) rfl), rfl⟩
theorem wd_1_14 : Cond.initialized RX6 ∈ tT := List.mem_filter.mpr ⟨tin_1 _ (List.mem_of_getElem? (i := 14) rfl), rfl⟩
theorem wd_1_15 : Cond.initialized RJ9 ∈ tT := List.mem_filter.mpr ⟨tin_1 _ (List.mem_of_getElem? (i := 15) rfl), rfl⟩
theorem wd_1_16 : Cond.initialized RJ7 ∈ tT := List.mem_filter.mpr ⟨tin_1 _ (List.mem_of_getElem? (i := 16) rfl), rfl⟩
theorem wd_1_17 : Cond.initialized RJ6 ∈ tT := List.mem_filter.mpr ⟨tin_1 _ (List.mem_of_getElem? (i := 17) rfl), rfl⟩
theorem wd_1_18 : Cond.initialized "java/lang/Throwable" ∈ tT := List.mem_filter.mpr ⟨tin_1 _ (List.mem_of_getElem? (i := 18) rfl), rfl⟩
theorem wd_1_19 : Cond.initialized "java/lang/Exception" ∈ tT := List.mem_filter.mpr ⟨tin_1 _ (List.mem_of_getElem? (i := 19) rfl), rfl⟩
theorem wd_1_20 : Cond.initialized "java/lang/RuntimeException" ∈ tT := List.mem_filter.mpr ⟨tin_1 _ (List.mem_of_getElem? (i := 20) rfl), rfl⟩
theorem wd_1_21 : Cond.initialized "java/lang/IllegalArgumentException" ∈ tT := List.mem_filter.mpr ⟨tin_1 _ (List.mem_of_getElem? (i := 21) rfl), rfl⟩
theorem wd_1_22 : Cond.initialized "java/lang/IllegalStateException" ∈ tT := List.mem_filter.mpr ⟨tin_1 _ (List.mem_of_getElem? (i := 22) rfl), rfl⟩
theorem wd_1_23 : Cond.initialized "java/lang/UnsupportedOperationException" ∈ tT := List.mem_filter.mpr ⟨tin_1 _ (List.mem_of_getElem? (i := 23) rfl), rfl⟩
theorem wd_1_24 : Cond.classLink RL 8 RX11 ∈ tT := List.mem_filter.mpr ⟨tin_1 _ (List.mem_of_getElem? (i := 24) rfl), rfl⟩
theorem wd_1_25 : Cond.instantiable RX11 8 ∈ tT := List.mem_filter.mpr ⟨tin_1 _ (List.mem_of_getElem? (i := 25) rfl), rfl⟩
theorem wd_1_26 : Cond.methodLink RL 17 yX11_init ∈ tT := List.mem_filter.mpr ⟨tin_1 _ (List.mem_of_getElem? (i := 26) rfl), rfl⟩
theorem wd_1_27 : Cond.instanceMethod yX11_init ∈ tT := List.mem_filter.mpr ⟨tin_1 _ (List.mem_of_getElem? (i := 27) rfl), rfl⟩
theorem wd_1_28 : Cond.code yX11_init cX11_init 2 none ∈ tT := List.mem_filter.mpr ⟨tin_1 _ (List.mem_of_getElem? (i := 28) rfl), rfl⟩
theorem wd_1_29 : Cond.methodLink RX11 1 objectInit ∈ tT := List.mem_filter.mpr ⟨tin_1 _ (List.mem_of_getElem? (i := 29) rfl), rfl⟩
theorem wd_1_30 : Cond.instanceMethod objectInit ∈ tT := List.mem_filter.mpr ⟨tin_1 _ (List.mem_of_getElem? (i := 30) rfl), rfl⟩
theorem wd_1_31 : Cond.code objectInit object_method_1_code 1 none ∈ tT := List.mem_filter.mpr ⟨tin_1 _ (List.mem_of_getElem? (i := 31) rfl), rfl⟩
theorem wd_1_32 : Cond.classLink RX11 7 RX3 ∈ tT := List.mem_filter.mpr ⟨tin_1 _ (List.mem_of_getElem? (i := 32) rfl), rfl⟩
theorem wd_1_33 : Cond.instantiable RX3 11 ∈ tT := List.mem_filter.mpr ⟨tin_1 _ (List.mem_of_getElem? (i := 33) rfl), rfl⟩
theorem wd_1_35 : Cond.instanceMethod yX3_init ∈ tT := List.mem_filter.mpr ⟨tin_1 _ (List.mem_of_getElem? (i := 35) rfl), rfl⟩
theorem wd_1_36 : Cond.code yX3_init cX3_init 1 none ∈ tT := List.mem_filter.mpr ⟨tin_1 _ (List.mem_of_getElem? (i := 36) rfl), rfl⟩
theorem wd_1_37 : Cond.methodLink RX3 3 objectInit ∈ tT := List.mem_filter.mpr ⟨tin_1 _ (List.mem_of_getElem? (i := 37) rfl), rfl⟩
theorem wd_1_38 : Cond.classLink RX3 30 RX0 ∈ tT := List.mem_filter.mpr ⟨tin_1 _ (List.mem_of_getElem? (i := 38) rfl), rfl⟩
theorem wd_1_40 : Cond.classLink RX3 36 RX9 ∈ tT := List.mem_filter.mpr ⟨tin_1 _ (List.mem_of_getElem? (i := 40) rfl), rfl⟩
theorem wd_1_41 : Cond.instantiable RX9 5 ∈ tT := List.mem_filter.mpr ⟨tin_1 _ (List.mem_of_getElem? (i := 41) rfl), rfl⟩
theorem wd_1_43 : Cond.instanceMethod yX9_init ∈ tT := List.mem_filter.mpr ⟨tin_1 _ (List.mem_of_getElem? (i := 43) rfl), rfl⟩
theorem wd_1_44 : Cond.code yX9_init cX9_init 1 none ∈ tT := List.mem_filter.mpr ⟨tin_1 _ (List.mem_of_getElem? (i := 44) rfl), rfl⟩
theorem wd_1_45 : Cond.methodLink RX9 3 objectInit ∈ tT := List.mem_filter.mpr ⟨tin_1 _ (List.mem_of_getElem? (i := 45) rfl), rfl⟩
theorem wd_1_46 : Cond.fieldLink RX9 31 "BladeBetweenThumbs$Span" "low" "I" ∈ tT := List.mem_filter.mpr ⟨tin_1 _ (List.mem_of_getElem? (i := 46) rfl), rfl⟩
theorem wd_1_47 : Cond.fieldLink RX11 139 "BladeBetweenThumbs$Span" "low" "I" ∈ tT := List.mem_filter.mpr ⟨tin_1 _ (List.mem_of_getElem? (i := 47) rfl), rfl⟩
theorem wd_1_48 : Cond.fieldLink RX3 80 "BladeBetweenThumbs$Span" "low" "I" ∈ tT := List.mem_filter.mpr ⟨tin_1 _ (List.mem_of_getElem? (i := 48) rfl), rfl⟩
theorem wd_1_49 : Cond.fieldLink RX9 9 "BladeBetweenThumbs$Span" "high" "I" ∈ tT := List.mem_filter.mpr ⟨tin_1 _ (List.mem_of_getElem? (i := 49) rfl), rfl⟩
theorem wd_1_50 : Cond.fieldLink RX11 144 "BladeBetweenThumbs$Span" "high" "I" ∈ tT := List.mem_filter.mpr ⟨tin_1 _ (List.mem_of_getElem? (i := 50) rfl), rfl⟩
theorem wd_1_51 : Cond.fieldLink RX3 85 "BladeBetweenThumbs$Span" "high" "I" ∈ tT := List.mem_filter.mpr ⟨tin_1 _ (List.mem_of_getElem? (i := 51) rfl), rfl⟩
theorem wd_1_52 : Cond.fieldLink RX9 15 "BladeBetweenThumbs$Span" "grip" "I" ∈ tT := List.mem_filter.mpr ⟨tin_1 _ (List.mem_of_getElem? (i := 52) rfl), rfl⟩
theorem wd_1_53 : Cond.fieldLink RX3 87 "BladeBetweenThumbs$Span" "grip" "I" ∈ tT := List.mem_filter.mpr ⟨tin_1 _ (List.mem_of_getElem? (i := 53) rfl), rfl⟩
theorem wd_1_54 : Cond.fieldLink RX9 40 "BladeBetweenThumbs$Span" "softest" "I" ∈ tT := List.mem_filter.mpr ⟨tin_1 _ (List.mem_of_getElem? (i := 54) rfl), rfl⟩
theorem wd_1_55 : Cond.fieldLink RX11 147 "BladeBetweenThumbs$Span" "softest" "I" ∈ tT := List.mem_filter.mpr ⟨tin_1 _ (List.mem_of_getElem? (i := 55) rfl), rfl⟩
theorem wd_1_56 : Cond.fieldLink RX3 93 "BladeBetweenThumbs$Span" "softest" "I" ∈ tT := List.mem_filter.mpr ⟨tin_1 _ (List.mem_of_getElem? (i := 56) rfl), rfl⟩
theorem wd_1_57 : Cond.fieldLink RX9 24 "BladeBetweenThumbs$Span" "hardest" "I" ∈ tT := List.mem_filter.mpr ⟨tin_1 _ (List.mem_of_getElem? (i := 57) rfl), rfl⟩
theorem wd_1_58 : Cond.fieldLink RX11 150 "BladeBetweenThumbs$Span" "hardest" "I" ∈ tT := List.mem_filter.mpr ⟨tin_1 _ (List.mem_of_getElem? (i := 58) rfl), rfl⟩
theorem wd_1_59 : Cond.fieldLink RX3 98 "BladeBetweenThumbs$Span" "hardest" "I" ∈ tT := List.mem_filter.mpr ⟨tin_1 _ (List.mem_of_getElem? (i := 59) rfl), rfl⟩
theorem wd_1_60 : Cond.lays RX9 "BladeBetweenThumbs$Span" "low" "I" ∈ tT := List.mem_filter.mpr ⟨tin_1 _ (List.mem_of_getElem? (i := 60) rfl), rfl⟩
theorem wd_1_62 : Cond.lays RX9 "BladeBetweenThumbs$Span" "high" "I" ∈ tT := List.mem_filter.mpr ⟨tin_1 _ (List.mem_of_getElem? (i := 62) rfl), rfl⟩
theorem wd_1_64 : Cond.lays RX9 "BladeBetweenThumbs$Span" "grip" "I" ∈ tT := List.mem_filter.mpr ⟨tin_1 _ (List.mem_of_getElem? (i := 64) rfl), rfl⟩
theorem wd_1_66 : Cond.lays RX9 "BladeBetweenThumbs$Span" "softest" "I" ∈ tT := List.mem_filter.mpr ⟨tin_1 _ (List.mem_of_getElem? (i := 66) rfl), rfl⟩
theorem wd_1_68 : Cond.lays RX9 "BladeBetweenThumbs$Span" "hardest" "I" ∈ tT := List.mem_filter.mpr ⟨tin_1 _ (List.mem_of_getElem? (i := 68) rfl), rfl⟩
theorem wd_1_70 : Cond.superclass RX9 "java/lang/Object" ∈ tT := List.mem_filter.mpr ⟨tin_1 _ (List.mem_of_getElem? (i := 70) rfl), rfl⟩
theorem wd_1_71 : Cond.arrayClass .int ∈ tT := List.mem_filter.mpr ⟨tin_1 _ (List.mem_of_getElem? (i := 71) rfl), rfl⟩
theorem wd_1_72 : Cond.fieldLink RX3 43 "BladeBetweenThumbs$Hedge" "blades" "I" ∈ tT := List.mem_filter.mpr ⟨tin_1 _ (List.mem_of_getElem? (i := 72) rfl), rfl⟩
theorem wd_1_73 : Cond.fieldLink RX11 174 "BladeBetweenThumbs$Hedge" "blades" "I" ∈ tT := List.mem_filter.mpr ⟨tin_1 _ (List.mem_of_getElem? (i := 73) rfl), rfl⟩
theorem wd_1_74 : Cond.fieldLink RX3 9 "BladeBetweenThumbs$Hedge" "breadth" "[I" ∈ tT := List.mem_filter.mpr ⟨tin_1 _ (List.mem_of_getElem? (i := 74) rfl), rfl⟩
theorem wd_1_75 : Cond.fieldLink RX11 67 "BladeBetweenThumbs$Hedge" "breadth" "[I" ∈ tT := List.mem_filter.mpr ⟨tin_1 _ (List.mem_of_getElem? (i := 75) rfl), rfl⟩
theorem wd_1_76 : Cond.fieldLink RX3 15 "BladeBetweenThumbs$Hedge" "length" "[I" ∈ tT := List.mem_filter.mpr ⟨tin_1 _ (List.mem_of_getElem? (i := 76) rfl), rfl⟩
theorem wd_1_77 : Cond.fieldLink RX11 71 "BladeBetweenThumbs$Hedge" "length" "[I" ∈ tT := List.mem_filter.mpr ⟨tin_1 _ (List.mem_of_getElem? (i := 77) rfl), rfl⟩
theorem wd_1_78 : Cond.fieldLink RX3 18 "BladeBetweenThumbs$Hedge" "wet" "[I" ∈ tT := List.mem_filter.mpr ⟨tin_1 _ (List.mem_of_getElem? (i := 78) rfl), rfl⟩
theorem wd_1_79 : Cond.fieldLink RX11 74 "BladeBetweenThumbs$Hedge" "wet" "[I" ∈ tT := List.mem_filter.mpr ⟨tin_1 _ (List.mem_of_getElem? (i := 79) rfl), rfl⟩
theorem wd_1_80 : Cond.fieldLink RX3 21 "BladeBetweenThumbs$Hedge" "wear" "[I" ∈ tT := List.mem_filter.mpr ⟨tin_1 _ (List.mem_of_getElem? (i := 80) rfl), rfl⟩
theorem wd_1_81 : Cond.fieldLink RX11 77 "BladeBetweenThumbs$Hedge" "wear" "[I" ∈ tT := List.mem_filter.mpr ⟨tin_1 _ (List.mem_of_getElem? (i := 81) rfl), rfl⟩
theorem wd_1_82 : Cond.fieldLink RX3 53 "BladeBetweenThumbs$Hedge" "thumbs" "I" ∈ tT := List.mem_filter.mpr ⟨tin_1 _ (List.mem_of_getElem? (i := 82) rfl), rfl⟩
theorem wd_1_83 : Cond.fieldLink RX11 168 "BladeBetweenThumbs$Hedge" "thumbs" "I" ∈ tT := List.mem_filter.mpr ⟨tin_1 _ (List.mem_of_getElem? (i := 83) rfl), rfl⟩
theorem wd_1_84 : Cond.fieldLink RX3 24 "BladeBetweenThumbs$Hedge" "slit" "[I" ∈ tT := List.mem_filter.mpr ⟨tin_1 _ (List.mem_of_getElem? (i := 84) rfl), rfl⟩
theorem wd_1_85 : Cond.fieldLink RX11 90 "BladeBetweenThumbs$Hedge" "slit" "[I" ∈ tT := List.mem_filter.mpr ⟨tin_1 _ (List.mem_of_getElem? (i := 85) rfl), rfl⟩
theorem wd_1_86 : Cond.fieldLink RX3 27 "BladeBetweenThumbs$Hedge" "grip" "[I" ∈ tT := List.mem_filter.mpr ⟨tin_1 _ (List.mem_of_getElem? (i := 86) rfl), rfl⟩
theorem wd_1_87 : Cond.fieldLink RX11 93 "BladeBetweenThumbs$Hedge" "grip" "[I" ∈ tT := List.mem_filter.mpr ⟨tin_1 _ (List.mem_of_getElem? (i := 87) rfl), rfl⟩
theorem wd_1_88 : Cond.fieldLink RX3 56 "BladeBetweenThumbs$Hedge" "blows" "I" ∈ tT := List.mem_filter.mpr ⟨tin_1 _ (List.mem_of_getElem? (i := 88) rfl), rfl⟩
theorem wd_1_89 : Cond.fieldLink RX11 194 "BladeBetweenThumbs$Hedge" "blows" "I" ∈ tT := List.mem_filter.mpr ⟨tin_1 _ (List.mem_of_getElem? (i := 89) rfl), rfl⟩
theorem wd_1_90 : Cond.fieldLink RX3 32 "BladeBetweenThumbs$Hedge" "blow" "[LBladeBetweenThumbs$Blow;" ∈ tT := List.mem_filter.mpr ⟨tin_1 _ (List.mem_of_getElem? (i := 90) rfl), rfl⟩
theorem wd_1_91 : Cond.fieldLink RX11 99 "BladeBetweenThumbs$Hedge" "blow" "[LBladeBetweenThumbs$Blow;" ∈ tT := List.mem_filter.mpr ⟨tin_1 _ (List.mem_of_getElem? (i := 91) rfl), rfl⟩
theorem wd_1_92 : Cond.fieldLink RX3 39 "BladeBetweenThumbs$Hedge" "span" "LBladeBetweenThumbs$Span;" ∈ tT := List.mem_filter.mpr ⟨tin_1 _ (List.mem_of_getElem? (i := 92) rfl), rfl⟩
theorem wd_1_93 : Cond.lays RX3 "BladeBetweenThumbs$Hedge" "blades" "I" ∈ tT := List.mem_filter.mpr ⟨tin_1 _ (List.mem_of_getElem? (i := 93) rfl), rfl⟩
theorem wd_1_95 : Cond.laysFinal RX3 "BladeBetweenThumbs$Hedge" "breadth" "[I" ∈ tT := List.mem_filter.mpr ⟨tin_1 _ (List.mem_of_getElem? (i := 95) rfl), rfl⟩
theorem wd_1_97 : Cond.laysFinal RX3 "BladeBetweenThumbs$Hedge" "length" "[I" ∈ tT := List.mem_filter.mpr ⟨tin_1 _ (List.mem_of_getElem? (i := 97) rfl), rfl⟩
theorem wd_1_99 : Cond.laysFinal RX3 "BladeBetweenThumbs$Hedge" "wet" "[I" ∈ tT := List.mem_filter.mpr ⟨tin_1 _ (List.mem_of_getElem? (i := 99) rfl), rfl⟩
theorem wd_1_101 : Cond.laysFinal RX3 "BladeBetweenThumbs$Hedge" "wear" "[I" ∈ tT := List.mem_filter.mpr ⟨tin_1 _ (List.mem_of_getElem? (i := 101) rfl), rfl⟩
theorem wd_1_103 : Cond.lays RX3 "BladeBetweenThumbs$Hedge" "thumbs" "I" ∈ tT := List.mem_filter.mpr ⟨tin_1 _ (List.mem_of_getElem? (i := 103) rfl), rfl⟩
theorem wd_1_105 : Cond.laysFinal RX3 "BladeBetweenThumbs$Hedge" "slit" "[I" ∈ tT := List.mem_filter.mpr ⟨tin_1 _ (List.mem_of_getElem? (i := 105) rfl), rfl⟩
theorem wd_1_107 : Cond.laysFinal RX3 "BladeBetweenThumbs$Hedge" "grip" "[I" ∈ tT := List.mem_filter.mpr ⟨tin_1 _ (List.mem_of_getElem? (i := 107) rfl), rfl⟩
theorem wd_1_109 : Cond.lays RX3 "BladeBetweenThumbs$Hedge" "blows" "I" ∈ tT := List.mem_filter.mpr ⟨tin_1 _ (List.mem_of_getElem? (i := 109) rfl), rfl⟩
theorem wd_1_111 : Cond.laysFinal RX3 "BladeBetweenThumbs$Hedge" "blow" "[LBladeBetweenThumbs$Blow;" ∈ tT := List.mem_filter.mpr ⟨tin_1 _ (List.mem_of_getElem? (i := 111) rfl), rfl⟩
theorem wd_1_113 : Cond.laysFinal RX3 "BladeBetweenThumbs$Hedge" "span" "LBladeBetweenThumbs$Span;" ∈ tT := List.mem_filter.mpr ⟨tin_1 _ (List.mem_of_getElem? (i := 113) rfl), rfl⟩
theorem wd_1_115 : Cond.superclass RX3 "java/lang/Object" ∈ tT := List.mem_filter.mpr ⟨tin_1 _ (List.mem_of_getElem? (i := 115) rfl), rfl⟩
theorem wd_1_116 : Cond.classLink RX11 22 RX4 ∈ tT := List.mem_filter.mpr ⟨tin_1 _ (List.mem_of_getElem? (i := 116) rfl), rfl⟩
theorem wd_1_118 : Cond.instantiable RX4 5 ∈ tT := List.mem_filter.mpr ⟨tin_1 _ (List.mem_of_getElem? (i := 118) rfl), rfl⟩
theorem wd_1_120 : Cond.instanceMethod yX4_init ∈ tT := List.mem_filter.mpr ⟨tin_1 _ (List.mem_of_getElem? (i := 120) rfl), rfl⟩
theorem wd_1_121 : Cond.code yX4_init cX4_init 1 none ∈ tT := List.mem_filter.mpr ⟨tin_1 _ (List.mem_of_getElem? (i := 121) rfl), rfl⟩
theorem wd_1_122 : Cond.methodLink RX4 3 objectInit ∈ tT := List.mem_filter.mpr ⟨tin_1 _ (List.mem_of_getElem? (i := 122) rfl), rfl⟩
theorem wd_1_123 : Cond.fieldLink RX4 15 "BladeBetweenThumbs$Shelf" "blow" "LBladeBetweenThumbs$Blow;" ∈ tT := List.mem_filter.mpr ⟨tin_1 _ (List.mem_of_getElem? (i := 123) rfl), rfl⟩
theorem wd_1_124 : Cond.fieldLink RX11 121 "BladeBetweenThumbs$Shelf" "blow" "LBladeBetweenThumbs$Blow;" ∈ tT := List.mem_filter.mpr ⟨tin_1 _ (List.mem_of_getElem? (i := 124) rfl), rfl⟩
theorem wd_1_125 : Cond.fieldLink RX4 19 "BladeBetweenThumbs$Shelf" "isRow" "Z" ∈ tT := List.mem_filter.mpr ⟨tin_1 _ (List.mem_of_getElem? (i := 125) rfl), rfl⟩
theorem wd_1_126 : Cond.fieldLink RX11 313 "BladeBetweenThumbs$Shelf" "isRow" "Z" ∈ tT := List.mem_filter.mpr ⟨tin_1 _ (List.mem_of_getElem? (i := 126) rfl), rfl⟩
theorem wd_1_127 : Cond.fieldLink RX11 40 "BladeBetweenThumbs$Shelf" "sort" "I" ∈ tT := List.mem_filter.mpr ⟨tin_1 _ (List.mem_of_getElem? (i := 127) rfl), rfl⟩
theorem wd_1_128 : Cond.fieldLink RX4 30 "BladeBetweenThumbs$Shelf" "sort" "I" ∈ tT := List.mem_filter.mpr ⟨tin_1 _ (List.mem_of_getElem? (i := 128) rfl), rfl⟩
theorem wd_1_129 : Cond.fieldLink RX11 52 "BladeBetweenThumbs$Shelf" "size" "I" ∈ tT := List.mem_filter.mpr ⟨tin_1 _ (List.mem_of_getElem? (i := 129) rfl), rfl⟩
theorem wd_1_130 : Cond.fieldLink RX4 23 "BladeBetweenThumbs$Shelf" "size" "I" ∈ tT := List.mem_filter.mpr ⟨tin_1 _ (List.mem_of_getElem? (i := 130) rfl), rfl⟩
theorem wd_1_131 : Cond.fieldLink RX4 9 "BladeBetweenThumbs$Shelf" "cells" "[I" ∈ tT := List.mem_filter.mpr ⟨tin_1 _ (List.mem_of_getElem? (i := 131) rfl), rfl⟩
theorem wd_1_132 : Cond.fieldLink RX11 244 "BladeBetweenThumbs$Shelf" "cells" "[I" ∈ tT := List.mem_filter.mpr ⟨tin_1 _ (List.mem_of_getElem? (i := 132) rfl), rfl⟩
theorem wd_1_133 : Cond.lays RX4 "BladeBetweenThumbs$Shelf" "blow" "LBladeBetweenThumbs$Blow;" ∈ tT := List.mem_filter.mpr ⟨tin_1 _ (List.mem_of_getElem? (i := 133) rfl), rfl⟩
theorem wd_1_135 : Cond.lays RX4 "BladeBetweenThumbs$Shelf" "isRow" "Z" ∈ tT := List.mem_filter.mpr ⟨tin_1 _ (List.mem_of_getElem? (i := 135) rfl), rfl⟩
theorem wd_1_137 : Cond.lays RX4 "BladeBetweenThumbs$Shelf" "sort" "I" ∈ tT := List.mem_filter.mpr ⟨tin_1 _ (List.mem_of_getElem? (i := 137) rfl), rfl⟩
theorem wd_1_139 : Cond.lays RX4 "BladeBetweenThumbs$Shelf" "size" "I" ∈ tT := List.mem_filter.mpr ⟨tin_1 _ (List.mem_of_getElem? (i := 139) rfl), rfl⟩
theorem wd_1_141 : Cond.laysFinal RX4 "BladeBetweenThumbs$Shelf" "cells" "[I" ∈ tT := List.mem_filter.mpr ⟨tin_1 _ (List.mem_of_getElem? (i := 141) rfl), rfl⟩
theorem wd_1_143 : Cond.superclass RX4 "java/lang/Object" ∈ tT := List.mem_filter.mpr ⟨tin_1 _ (List.mem_of_getElem? (i := 143) rfl), rfl⟩
theorem wd_1_144 : Cond.arrayClass .long ∈ tT := List.mem_filter.mpr ⟨tin_1 _ (List.mem_of_getElem? (i := 144) rfl), rfl⟩
theorem wd_1_145 : Cond.fieldLink RX11 10 "BladeBetweenThumbs" "now" "LBladeBetweenThumbs$Hedge;" ∈ tT := List.mem_filter.mpr ⟨tin_1 _ (List.mem_of_getElem? (i := 145) rfl), rfl⟩
theorem wd_1_146 : Cond.fieldLink RX11 16 "BladeBetweenThumbs" "kept" "LBladeBetweenThumbs$Hedge;" ∈ tT := List.mem_filter.mpr ⟨tin_1 _ (List.mem_of_getElem? (i := 146) rfl), rfl⟩
theorem wd_1_147 : Cond.fieldLink RX11 19 "BladeBetweenThumbs" "spare" "LBladeBetweenThumbs$Hedge;" ∈ tT := List.mem_filter.mpr ⟨tin_1 _ (List.mem_of_getElem? (i := 147) rfl), rfl⟩
theorem wd_1_148 : Cond.fieldLink RX11 280 "BladeBetweenThumbs" "isKept" "Z" ∈ tT := List.mem_filter.mpr ⟨tin_1 _ (List.mem_of_getElem? (i := 148) rfl), rfl⟩
theorem wd_1_149 : Cond.fieldLink RX11 24 "BladeBetweenThumbs" "shelves" "[LBladeBetweenThumbs$Shelf;" ∈ tT := List.mem_filter.mpr ⟨tin_1 _ (List.mem_of_getElem? (i := 149) rfl), rfl⟩
theorem wd_1_150 : Cond.fieldLink RX11 28 "BladeBetweenThumbs" "chances" "[J" ∈ tT := List.mem_filter.mpr ⟨tin_1 _ (List.mem_of_getElem? (i := 150) rfl), rfl⟩
theorem wd_1_151 : Cond.fieldLink RX11 32 "BladeBetweenThumbs" "chancesBehind" "[J" ∈ tT := List.mem_filter.mpr ⟨tin_1 _ (List.mem_of_getElem? (i := 151) rfl), rfl⟩
theorem wd_1_152 : Cond.fieldLink RX11 266 "BladeBetweenThumbs" "seed" "I" ∈ tT := List.mem_filter.mpr ⟨tin_1 _ (List.mem_of_getElem? (i := 152) rfl), rfl⟩
theorem wd_1_153 : Cond.laysFinal RX11 "BladeBetweenThumbs" "now" "LBladeBetweenThumbs$Hedge;" ∈ tT := List.mem_filter.mpr ⟨tin_1 _ (List.mem_of_getElem? (i := 153) rfl), rfl⟩
theorem wd_1_155 : Cond.laysFinal RX11 "BladeBetweenThumbs" "kept" "LBladeBetweenThumbs$Hedge;" ∈ tT := List.mem_filter.mpr ⟨tin_1 _ (List.mem_of_getElem? (i := 155) rfl), rfl⟩
theorem wd_1_157 : Cond.laysFinal RX11 "BladeBetweenThumbs" "spare" "LBladeBetweenThumbs$Hedge;" ∈ tT := List.mem_filter.mpr ⟨tin_1 _ (List.mem_of_getElem? (i := 157) rfl), rfl⟩
theorem wd_1_159 : Cond.lays RX11 "BladeBetweenThumbs" "isKept" "Z" ∈ tT := List.mem_filter.mpr ⟨tin_1 _ (List.mem_of_getElem? (i := 159) rfl), rfl⟩
theorem wd_1_161 : Cond.laysFinal RX11 "BladeBetweenThumbs" "shelves" "[LBladeBetweenThumbs$Shelf;" ∈ tT := List.mem_filter.mpr ⟨tin_1 _ (List.mem_of_getElem? (i := 161) rfl), rfl⟩
theorem wd_1_163 : Cond.lays RX11 "BladeBetweenThumbs" "chances" "[J" ∈ tT := List.mem_filter.mpr ⟨tin_1 _ (List.mem_of_getElem? (i := 163) rfl), rfl⟩
theorem wd_1_165 : Cond.lays RX11 "BladeBetweenThumbs" "chancesBehind" "[J" ∈ tT := List.mem_filter.mpr ⟨tin_1 _ (List.mem_of_getElem? (i := 165) rfl), rfl⟩
theorem wd_1_167 : Cond.lays RX11 "BladeBetweenThumbs" "seed" "I" ∈ tT := List.mem_filter.mpr ⟨tin_1 _ (List.mem_of_getElem? (i := 167) rfl), rfl⟩
theorem wd_1_169 : Cond.superclass RX11 "java/lang/Object" ∈ tT := List.mem_filter.mpr ⟨tin_1 _ (List.mem_of_getElem? (i := 169) rfl), rfl⟩
theorem wd_1_170 : Cond.methodLink RL 21 yX11_hedge ∈ tT := List.mem_filter.mpr ⟨tin_1 _ (List.mem_of_getElem? (i := 170) rfl), rfl⟩
theorem wd_1_171 : Cond.instanceMethod yX11_hedge ∈ tT := List.mem_filter.mpr ⟨tin_1 _ (List.mem_of_getElem? (i := 171) rfl), rfl⟩
theorem wd_1_172 : Cond.selects RX11 yX11_hedge yX11_hedge ∈ tT := List.mem_filter.mpr ⟨tin_1 _ (List.mem_of_getElem? (i := 172) rfl), rfl⟩
theorem wd_1_173 : Cond.code yX11_hedge cX11_hedge 7 (some .int) ∈ tT := List.mem_filter.mpr ⟨tin_1 _ (List.mem_of_getElem? (i := 173) rfl), rfl⟩
theorem wd_1_174 : Cond.methodLink RX11 36 yX11_rowRefusal ∈ tT := List.mem_filter.mpr ⟨tin_1 _ (List.mem_of_getElem? (i := 174) rfl), rfl⟩
theorem wd_1_176 : Cond.instanceMethod yX11_rowRefusal ∈ tT := List.mem_filter.mpr ⟨tin_1 _ (List.mem_of_getElem? (i := 176) rfl), rfl⟩
theorem wd_1_177 : Cond.code yX11_rowRefusal cX11_rowRefusal 2 (some .int) ∈ tT := List.mem_filter.mpr ⟨tin_1 _ (List.mem_of_getElem? (i := 177) rfl), rfl⟩
theorem wd_1_178 : Cond.methodLink RX11 86 yX11_isOut ∈ tT := List.mem_filter.mpr ⟨tin_1 _ (List.mem_of_getElem? (i := 178) rfl), rfl⟩
theorem wd_1_179 : Cond.static yX11_isOut ∈ tT := List.mem_filter.mpr ⟨tin_1 _ (List.mem_of_getElem? (i := 179) rfl), rfl⟩
theorem wd_1_180 : Cond.code yX11_isOut cX11_isOut 3 (some .boolean) ∈ tT := List.mem_filter.mpr ⟨tin_1 _ (List.mem_of_getElem? (i := 180) rfl), rfl⟩
theorem wd_1_181 : Cond.methodLink RX11 339 yX4_isEmpty ∈ tT := List.mem_filter.mpr ⟨tin_1 _ (List.mem_of_getElem? (i := 181) rfl), rfl⟩
theorem wd_1_182 : Cond.instanceMethod yX4_isEmpty ∈ tT := List.mem_filter.mpr ⟨tin_1 _ (List.mem_of_getElem? (i := 182) rfl), rfl⟩
theorem wd_1_183 : Cond.selects RX4 yX4_isEmpty yX4_isEmpty ∈ tT := List.mem_filter.mpr ⟨tin_1 _ (List.mem_of_getElem? (i := 183) rfl), rfl⟩
theorem wd_1_184 : Cond.code yX4_isEmpty cX4_isEmpty 1 (some .boolean) ∈ tT := List.mem_filter.mpr ⟨tin_1 _ (List.mem_of_getElem? (i := 184) rfl), rfl⟩
theorem wd_1_185 : Cond.methodLink RX11 44 yX11_firstBadByte ∈ tT := List.mem_filter.mpr ⟨tin_1 _ (List.mem_of_getElem? (i := 185) rfl), rfl⟩
theorem wd_1_186 : Cond.static yX11_firstBadByte ∈ tT := List.mem_filter.mpr ⟨tin_1 _ (List.mem_of_getElem? (i := 186) rfl), rfl⟩
theorem wd_1_187 : Cond.code yX11_firstBadByte cX11_firstBadByte 5 (some .int) ∈ tT := List.mem_filter.mpr ⟨tin_1 _ (List.mem_of_getElem? (i := 187) rfl), rfl⟩
theorem wd_1_188 : Cond.methodLink RX11 343 yX4_byteAt ∈ tT := List.mem_filter.mpr ⟨tin_1 _ (List.mem_of_getElem? (i := 188) rfl), rfl⟩
theorem wd_1_189 : Cond.instanceMethod yX4_byteAt ∈ tT := List.mem_filter.mpr ⟨tin_1 _ (List.mem_of_getElem? (i := 189) rfl), rfl⟩
theorem wd_1_190 : Cond.selects RX4 yX4_byteAt yX4_byteAt ∈ tT := List.mem_filter.mpr ⟨tin_1 _ (List.mem_of_getElem? (i := 190) rfl), rfl⟩
theorem wd_1_191 : Cond.code yX4_byteAt cX4_byteAt 2 (some .int) ∈ tT := List.mem_filter.mpr ⟨tin_1 _ (List.mem_of_getElem? (i := 191) rfl), rfl⟩
theorem wd_1_192 : Cond.methodLink RX4 40 yX4_hasPlace ∈ tT := List.mem_filter.mpr ⟨tin_1 _ (List.mem_of_getElem? (i := 192) rfl), rfl⟩
theorem wd_1_193 : Cond.instanceMethod yX4_hasPlace ∈ tT := List.mem_filter.mpr ⟨tin_1 _ (List.mem_of_getElem? (i := 193) rfl), rfl⟩
theorem wd_1_194 : Cond.selects RX4 yX4_hasPlace yX4_hasPlace ∈ tT := List.mem_filter.mpr ⟨tin_1 _ (List.mem_of_getElem? (i := 194) rfl), rfl⟩
theorem wd_1_195 : Cond.code yX4_hasPlace cX4_hasPlace 2 (some .boolean) ∈ tT := List.mem_filter.mpr ⟨tin_1 _ (List.mem_of_getElem? (i := 195) rfl), rfl⟩
theorem wd_1_196 : Cond.methodLink RX11 346 yX11_digitsBehind ∈ tT := List.mem_filter.mpr ⟨tin_1 _ (List.mem_of_getElem? (i := 196) rfl), rfl⟩
theorem wd_1_197 : Cond.static yX11_digitsBehind ∈ tT := List.mem_filter.mpr ⟨tin_1 _ (List.mem_of_getElem? (i := 197) rfl), rfl⟩
theorem wd_1_198 : Cond.code yX11_digitsBehind cX11_digitsBehind 1 (some .int) ∈ tT := List.mem_filter.mpr ⟨tin_1 _ (List.mem_of_getElem? (i := 198) rfl), rfl⟩
theorem wd_1_199 : Cond.methodLink RX11 48 yX3_become ∈ tT := List.mem_filter.mpr ⟨tin_1 _ (List.mem_of_getElem? (i := 199) rfl), rfl⟩
theorem wd_1_200 : Cond.instanceMethod yX3_become ∈ tT := List.mem_filter.mpr ⟨tin_1 _ (List.mem_of_getElem? (i := 200) rfl), rfl⟩
theorem wd_1_201 : Cond.selects RX3 yX3_become yX3_become ∈ tT := List.mem_filter.mpr ⟨tin_1 _ (List.mem_of_getElem? (i := 201) rfl), rfl⟩
theorem wd_1_202 : Cond.code yX3_become cX3_become 3 none ∈ tT := List.mem_filter.mpr ⟨tin_1 _ (List.mem_of_getElem? (i := 202) rfl), rfl⟩
theorem wd_1_203 : Cond.methodLink RX3 47 ⟨"java/lang/System", "arraycopy", "(Ljava/lang/Object;ILjava/lang/Object;II)V"⟩ ∈ tT := List.mem_filter.mpr ⟨tin_1 _ (List.mem_of_getElem? (i := 203) rfl), rfl⟩
theorem wd_1_204 : Cond.static ⟨"java/lang/System", "arraycopy", "(Ljava/lang/Object;ILjava/lang/Object;II)V"⟩ ∈ tT := List.mem_filter.mpr ⟨tin_1 _ (List.mem_of_getElem? (i := 204) rfl), rfl⟩
theorem wd_1_205 : Cond.native ⟨"java/lang/System", "arraycopy", "(Ljava/lang/Object;ILjava/lang/Object;II)V"⟩ ∈ tT := List.mem_filter.mpr ⟨tin_1 _ (List.mem_of_getElem? (i := 205) rfl), rfl⟩
theorem wd_1_206 : Cond.methodLink RX11 55 yX11_isDoneOnSpare ∈ tT := List.mem_filter.mpr ⟨tin_1 _ (List.mem_of_getElem? (i := 206) rfl), rfl⟩
theorem wd_1_208 : Cond.instanceMethod yX11_isDoneOnSpare ∈ tT := List.mem_filter.mpr ⟨tin_1 _ (List.mem_of_getElem? (i := 208) rfl), rfl⟩
theorem wd_1_209 : Cond.code yX11_isDoneOnSpare cX11_isDoneOnSpare 3 (some .boolean) ∈ tT := List.mem_filter.mpr ⟨tin_1 _ (List.mem_of_getElem? (i := 209) rfl), rfl⟩
theorem wd_1_210 : Cond.methodLink RX11 349 yX4_twoDigitsAt ∈ tT := List.mem_filter.mpr ⟨tin_1 _ (List.mem_of_getElem? (i := 210) rfl), rfl⟩
theorem wd_1_211 : Cond.instanceMethod yX4_twoDigitsAt ∈ tT := List.mem_filter.mpr ⟨tin_1 _ (List.mem_of_getElem? (i := 211) rfl), rfl⟩
theorem wd_1_212 : Cond.selects RX4 yX4_twoDigitsAt yX4_twoDigitsAt ∈ tT := List.mem_filter.mpr ⟨tin_1 _ (List.mem_of_getElem? (i := 212) rfl), rfl⟩
theorem wd_1_213 : Cond.code yX4_twoDigitsAt cX4_twoDigitsAt 2 (some .int) ∈ tT := List.mem_filter.mpr ⟨tin_1 _ (List.mem_of_getElem? (i := 213) rfl), rfl⟩
theorem wd_1_214 : Cond.methodLink RX4 48 yX4_digitAt ∈ tT := List.mem_filter.mpr ⟨tin_1 _ (List.mem_of_getElem? (i := 214) rfl), rfl⟩
theorem wd_1_215 : Cond.instanceMethod yX4_digitAt ∈ tT := List.mem_filter.mpr ⟨tin_1 _ (List.mem_of_getElem? (i := 215) rfl), rfl⟩
theorem wd_1_216 : Cond.selects RX4 yX4_digitAt yX4_digitAt ∈ tT := List.mem_filter.mpr ⟨tin_1 _ (List.mem_of_getElem? (i := 216) rfl), rfl⟩
theorem wd_1_217 : Cond.code yX4_digitAt cX4_digitAt 2 (some .int) ∈ tT := List.mem_filter.mpr ⟨tin_1 _ (List.mem_of_getElem? (i := 217) rfl), rfl⟩
theorem wd_1_218 : Cond.methodLink RX4 44 yX4_byteAt ∈ tT := List.mem_filter.mpr ⟨tin_1 _ (List.mem_of_getElem? (i := 218) rfl), rfl⟩
theorem wd_1_219 : Cond.methodLink RX11 352 yX4_digitAt ∈ tT := List.mem_filter.mpr ⟨tin_1 _ (List.mem_of_getElem? (i := 219) rfl), rfl⟩
theorem wd_1_220 : Cond.methodLink RX11 114 yX3_addBlade ∈ tT := List.mem_filter.mpr ⟨tin_1 _ (List.mem_of_getElem? (i := 220) rfl), rfl⟩
theorem wd_1_221 : Cond.instanceMethod yX3_addBlade ∈ tT := List.mem_filter.mpr ⟨tin_1 _ (List.mem_of_getElem? (i := 221) rfl), rfl⟩
theorem wd_1_222 : Cond.selects RX3 yX3_addBlade yX3_addBlade ∈ tT := List.mem_filter.mpr ⟨tin_1 _ (List.mem_of_getElem? (i := 222) rfl), rfl⟩
theorem wd_1_223 : Cond.code yX3_addBlade cX3_addBlade 4 (some .int) ∈ tT := List.mem_filter.mpr ⟨tin_1 _ (List.mem_of_getElem? (i := 223) rfl), rfl⟩
theorem wd_1_225 : Cond.methodLink RX11 128 yX3_addThumbs ∈ tT := List.mem_filter.mpr ⟨tin_1 _ (List.mem_of_getElem? (i := 225) rfl), rfl⟩
theorem wd_1_226 : Cond.instanceMethod yX3_addThumbs ∈ tT := List.mem_filter.mpr ⟨tin_1 _ (List.mem_of_getElem? (i := 226) rfl), rfl⟩
theorem wd_1_227 : Cond.selects RX3 yX3_addThumbs yX3_addThumbs ∈ tT := List.mem_filter.mpr ⟨tin_1 _ (List.mem_of_getElem? (i := 227) rfl), rfl⟩
theorem wd_1_228 : Cond.code yX3_addThumbs cX3_addThumbs 3 (some .int) ∈ tT := List.mem_filter.mpr ⟨tin_1 _ (List.mem_of_getElem? (i := 228) rfl), rfl⟩
theorem wd_1_229 : Cond.methodLink RX11 291 yX11_newBlow ∈ tT := List.mem_filter.mpr ⟨tin_1 _ (List.mem_of_getElem? (i := 229) rfl), rfl⟩
theorem wd_1_230 : Cond.static yX11_newBlow ∈ tT := List.mem_filter.mpr ⟨tin_1 _ (List.mem_of_getElem? (i := 230) rfl), rfl⟩
theorem wd_1_231 : Cond.code yX11_newBlow cX11_newBlow 2 (some (.object "BladeBetweenThumbs$Blow")) ∈ tT := List.mem_filter.mpr ⟨tin_1 _ (List.mem_of_getElem? (i := 231) rfl), rfl⟩
theorem wd_1_232 : Cond.classLink RX11 104 RX0 ∈ tT := List.mem_filter.mpr ⟨tin_1 _ (List.mem_of_getElem? (i := 232) rfl), rfl⟩
theorem wd_1_233 : Cond.instantiable RX0 2 ∈ tT := List.mem_filter.mpr ⟨tin_1 _ (List.mem_of_getElem? (i := 233) rfl), rfl⟩
theorem wd_1_234 : Cond.methodLink RX11 358 yX0_init ∈ tT := List.mem_filter.mpr ⟨tin_1 _ (List.mem_of_getElem? (i := 234) rfl), rfl⟩
theorem wd_1_235 : Cond.instanceMethod yX0_init ∈ tT := List.mem_filter.mpr ⟨tin_1 _ (List.mem_of_getElem? (i := 235) rfl), rfl⟩
theorem wd_1_236 : Cond.code yX0_init cX0_init 3 none ∈ tT := List.mem_filter.mpr ⟨tin_1 _ (List.mem_of_getElem? (i := 236) rfl), rfl⟩
theorem wd_1_237 : Cond.methodLink RX0 1 objectInit ∈ tT := List.mem_filter.mpr ⟨tin_1 _ (List.mem_of_getElem? (i := 237) rfl), rfl⟩
theorem wd_1_238 : Cond.fieldLink RX0 7 "BladeBetweenThumbs$Blow" "kind" "I" ∈ tT := List.mem_filter.mpr ⟨tin_1 _ (List.mem_of_getElem? (i := 238) rfl), rfl⟩
theorem wd_1_239 : Cond.fieldLink RX11 103 "BladeBetweenThumbs$Blow" "kind" "I" ∈ tT := List.mem_filter.mpr ⟨tin_1 _ (List.mem_of_getElem? (i := 239) rfl), rfl⟩
theorem wd_2_0 : Cond.fieldLink RX0 13 "BladeBetweenThumbs$Blow" "figure" "I" ∈ tT := List.mem_filter.mpr ⟨tin_2 _ (List.mem_of_getElem? (i := 0) rfl), rfl⟩
theorem wd_2_1 : Cond.fieldLink RX10 11 "BladeBetweenThumbs$Splitting" "figure" "I" ∈ tT := List.mem_filter.mpr ⟨tin_2 _ (List.mem_of_getElem? (i := 1) rfl), rfl⟩
theorem wd_2_2 : Cond.sameField "BladeBetweenThumbs$Splitting" "BladeBetweenThumbs$Blow" "figure" "I" ∈ tT := List.mem_filter.mpr ⟨tin_2 _ (List.mem_of_getElem? (i := 2) rfl), rfl⟩
theorem wd_2_3 : Cond.fieldLink RX6 15 "BladeBetweenThumbs$Slipped" "figure" "I" ∈ tT := List.mem_filter.mpr ⟨tin_2 _ (List.mem_of_getElem? (i := 3) rfl), rfl⟩
theorem wd_2_4 : Cond.sameField "BladeBetweenThumbs$Slipped" "BladeBetweenThumbs$Blow" "figure" "I" ∈ tT := List.mem_filter.mpr ⟨tin_2 _ (List.mem_of_getElem? (i := 4) rfl), rfl⟩
theorem wd_2_5 : Cond.fieldLink RX8 24 "BladeBetweenThumbs$Sounding" "figure" "I" ∈ tT := List.mem_filter.mpr ⟨tin_2 _ (List.mem_of_getElem? (i := 5) rfl), rfl⟩
theorem wd_2_6 : Cond.sameField "BladeBetweenThumbs$Sounding" "BladeBetweenThumbs$Blow" "figure" "I" ∈ tT := List.mem_filter.mpr ⟨tin_2 _ (List.mem_of_getElem? (i := 6) rfl), rfl⟩
theorem wd_2_7 : Cond.fieldLink RX11 108 "BladeBetweenThumbs$Blow" "figure" "I" ∈ tT := List.mem_filter.mpr ⟨tin_2 _ (List.mem_of_getElem? (i := 7) rfl), rfl⟩
theorem wd_2_8 : Cond.fieldLink RX5 29 "BladeBetweenThumbs$Shrieking" "figure" "I" ∈ tT := List.mem_filter.mpr ⟨tin_2 _ (List.mem_of_getElem? (i := 8) rfl), rfl⟩
theorem wd_2_9 : Cond.sameField "BladeBetweenThumbs$Shrieking" "BladeBetweenThumbs$Blow" "figure" "I" ∈ tT := List.mem_filter.mpr ⟨tin_2 _ (List.mem_of_getElem? (i := 9) rfl), rfl⟩
theorem wd_2_10 : Cond.laysFinal RX0 "BladeBetweenThumbs$Blow" "kind" "I" ∈ tT := List.mem_filter.mpr ⟨tin_2 _ (List.mem_of_getElem? (i := 10) rfl), rfl⟩
theorem wd_2_12 : Cond.laysFinal RX0 "BladeBetweenThumbs$Blow" "figure" "I" ∈ tT := List.mem_filter.mpr ⟨tin_2 _ (List.mem_of_getElem? (i := 12) rfl), rfl⟩
theorem wd_2_14 : Cond.superclass RX0 "java/lang/Object" ∈ tT := List.mem_filter.mpr ⟨tin_2 _ (List.mem_of_getElem? (i := 14) rfl), rfl⟩
theorem wd_2_15 : Cond.classLink RX11 360 RX2 ∈ tT := List.mem_filter.mpr ⟨tin_2 _ (List.mem_of_getElem? (i := 15) rfl), rfl⟩
theorem wd_2_16 : Cond.instantiable RX2 2 ∈ tT := List.mem_filter.mpr ⟨tin_2 _ (List.mem_of_getElem? (i := 16) rfl), rfl⟩
theorem wd_2_17 : Cond.methodLink RX11 362 yX2_init ∈ tT := List.mem_filter.mpr ⟨tin_2 _ (List.mem_of_getElem? (i := 17) rfl), rfl⟩
theorem wd_2_18 : Cond.instanceMethod yX2_init ∈ tT := List.mem_filter.mpr ⟨tin_2 _ (List.mem_of_getElem? (i := 18) rfl), rfl⟩
theorem wd_2_19 : Cond.code yX2_init cX2_init 3 none ∈ tT := List.mem_filter.mpr ⟨tin_2 _ (List.mem_of_getElem? (i := 19) rfl), rfl⟩
theorem wd_2_20 : Cond.methodLink RX2 3 yX0_init ∈ tT := List.mem_filter.mpr ⟨tin_2 _ (List.mem_of_getElem? (i := 20) rfl), rfl⟩
theorem wd_2_21 : Cond.laysFinal RX2 "BladeBetweenThumbs$Blow" "kind" "I" ∈ tT := List.mem_filter.mpr ⟨tin_2 _ (List.mem_of_getElem? (i := 21) rfl), rfl⟩
theorem wd_2_22 : Cond.laysFinal RX2 "BladeBetweenThumbs$Blow" "figure" "I" ∈ tT := List.mem_filter.mpr ⟨tin_2 _ (List.mem_of_getElem? (i := 22) rfl), rfl⟩
theorem wd_2_23 : Cond.superclass RX2 RX0 ∈ tT := List.mem_filter.mpr ⟨tin_2 _ (List.mem_of_getElem? (i := 23) rfl), rfl⟩
theorem wd_2_24 : Cond.classLink RX11 363 RX8 ∈ tT := List.mem_filter.mpr ⟨tin_2 _ (List.mem_of_getElem? (i := 24) rfl), rfl⟩
theorem wd_2_25 : Cond.instantiable RX8 2 ∈ tT := List.mem_filter.mpr ⟨tin_2 _ (List.mem_of_getElem? (i := 25) rfl), rfl⟩
theorem wd_2_26 : Cond.methodLink RX11 365 yX8_init ∈ tT := List.mem_filter.mpr ⟨tin_2 _ (List.mem_of_getElem? (i := 26) rfl), rfl⟩
theorem wd_2_27 : Cond.instanceMethod yX8_init ∈ tT := List.mem_filter.mpr ⟨tin_2 _ (List.mem_of_getElem? (i := 27) rfl), rfl⟩
theorem wd_2_28 : Cond.code yX8_init cX8_init 3 none ∈ tT := List.mem_filter.mpr ⟨tin_2 _ (List.mem_of_getElem? (i := 28) rfl), rfl⟩
theorem wd_2_29 : Cond.methodLink RX8 1 yX0_init ∈ tT := List.mem_filter.mpr ⟨tin_2 _ (List.mem_of_getElem? (i := 29) rfl), rfl⟩
theorem wd_2_30 : Cond.laysFinal RX8 "BladeBetweenThumbs$Blow" "kind" "I" ∈ tT := List.mem_filter.mpr ⟨tin_2 _ (List.mem_of_getElem? (i := 30) rfl), rfl⟩
theorem wd_2_31 : Cond.laysFinal RX8 "BladeBetweenThumbs$Blow" "figure" "I" ∈ tT := List.mem_filter.mpr ⟨tin_2 _ (List.mem_of_getElem? (i := 31) rfl), rfl⟩
theorem wd_2_32 : Cond.superclass RX8 RX0 ∈ tT := List.mem_filter.mpr ⟨tin_2 _ (List.mem_of_getElem? (i := 32) rfl), rfl⟩
theorem wd_2_33 : Cond.classLink RX11 366 RX5 ∈ tT := List.mem_filter.mpr ⟨tin_2 _ (List.mem_of_getElem? (i := 33) rfl), rfl⟩
theorem wd_2_34 : Cond.instantiable RX5 2 ∈ tT := List.mem_filter.mpr ⟨tin_2 _ (List.mem_of_getElem? (i := 34) rfl), rfl⟩
theorem wd_2_35 : Cond.methodLink RX11 368 yX5_init ∈ tT := List.mem_filter.mpr ⟨tin_2 _ (List.mem_of_getElem? (i := 35) rfl), rfl⟩
theorem wd_2_36 : Cond.instanceMethod yX5_init ∈ tT := List.mem_filter.mpr ⟨tin_2 _ (List.mem_of_getElem? (i := 36) rfl), rfl⟩
theorem wd_2_37 : Cond.code yX5_init cX5_init 3 none ∈ tT := List.mem_filter.mpr ⟨tin_2 _ (List.mem_of_getElem? (i := 37) rfl), rfl⟩
theorem wd_2_38 : Cond.methodLink RX5 1 yX8_init ∈ tT := List.mem_filter.mpr ⟨tin_2 _ (List.mem_of_getElem? (i := 38) rfl), rfl⟩
theorem wd_2_39 : Cond.laysFinal RX5 "BladeBetweenThumbs$Blow" "kind" "I" ∈ tT := List.mem_filter.mpr ⟨tin_2 _ (List.mem_of_getElem? (i := 39) rfl), rfl⟩
theorem wd_2_40 : Cond.laysFinal RX5 "BladeBetweenThumbs$Blow" "figure" "I" ∈ tT := List.mem_filter.mpr ⟨tin_2 _ (List.mem_of_getElem? (i := 40) rfl), rfl⟩
theorem wd_2_41 : Cond.superclass RX5 RX8 ∈ tT := List.mem_filter.mpr ⟨tin_2 _ (List.mem_of_getElem? (i := 41) rfl), rfl⟩
theorem wd_2_42 : Cond.classLink RX11 369 RX10 ∈ tT := List.mem_filter.mpr ⟨tin_2 _ (List.mem_of_getElem? (i := 42) rfl), rfl⟩
theorem wd_2_43 : Cond.instantiable RX10 2 ∈ tT := List.mem_filter.mpr ⟨tin_2 _ (List.mem_of_getElem? (i := 43) rfl), rfl⟩
theorem wd_2_44 : Cond.methodLink RX11 371 yX10_init ∈ tT := List.mem_filter.mpr ⟨tin_2 _ (List.mem_of_getElem? (i := 44) rfl), rfl⟩
theorem wd_2_45 : Cond.instanceMethod yX10_init ∈ tT := List.mem_filter.mpr ⟨tin_2 _ (List.mem_of_getElem? (i := 45) rfl), rfl⟩
theorem wd_2_46 : Cond.code yX10_init cX10_init 3 none ∈ tT := List.mem_filter.mpr ⟨tin_2 _ (List.mem_of_getElem? (i := 46) rfl), rfl⟩
theorem wd_2_47 : Cond.methodLink RX10 1 yX0_init ∈ tT := List.mem_filter.mpr ⟨tin_2 _ (List.mem_of_getElem? (i := 47) rfl), rfl⟩
theorem wd_2_48 : Cond.laysFinal RX10 "BladeBetweenThumbs$Blow" "kind" "I" ∈ tT := List.mem_filter.mpr ⟨tin_2 _ (List.mem_of_getElem? (i := 48) rfl), rfl⟩
theorem wd_2_49 : Cond.laysFinal RX10 "BladeBetweenThumbs$Blow" "figure" "I" ∈ tT := List.mem_filter.mpr ⟨tin_2 _ (List.mem_of_getElem? (i := 49) rfl), rfl⟩
theorem wd_2_50 : Cond.superclass RX10 RX0 ∈ tT := List.mem_filter.mpr ⟨tin_2 _ (List.mem_of_getElem? (i := 50) rfl), rfl⟩
theorem wd_2_51 : Cond.classLink RX11 372 RX1 ∈ tT := List.mem_filter.mpr ⟨tin_2 _ (List.mem_of_getElem? (i := 51) rfl), rfl⟩
theorem wd_2_52 : Cond.instantiable RX1 2 ∈ tT := List.mem_filter.mpr ⟨tin_2 _ (List.mem_of_getElem? (i := 52) rfl), rfl⟩
theorem wd_2_53 : Cond.methodLink RX11 374 yX1_init ∈ tT := List.mem_filter.mpr ⟨tin_2 _ (List.mem_of_getElem? (i := 53) rfl), rfl⟩
theorem wd_2_54 : Cond.instanceMethod yX1_init ∈ tT := List.mem_filter.mpr ⟨tin_2 _ (List.mem_of_getElem? (i := 54) rfl), rfl⟩
theorem wd_2_55 : Cond.code yX1_init cX1_init 3 none ∈ tT := List.mem_filter.mpr ⟨tin_2 _ (List.mem_of_getElem? (i := 55) rfl), rfl⟩
theorem wd_2_56 : Cond.methodLink RX1 1 yX8_init ∈ tT := List.mem_filter.mpr ⟨tin_2 _ (List.mem_of_getElem? (i := 56) rfl), rfl⟩
theorem wd_2_57 : Cond.laysFinal RX1 "BladeBetweenThumbs$Blow" "kind" "I" ∈ tT := List.mem_filter.mpr ⟨tin_2 _ (List.mem_of_getElem? (i := 57) rfl), rfl⟩
theorem wd_2_58 : Cond.laysFinal RX1 "BladeBetweenThumbs$Blow" "figure" "I" ∈ tT := List.mem_filter.mpr ⟨tin_2 _ (List.mem_of_getElem? (i := 58) rfl), rfl⟩
theorem wd_2_59 : Cond.superclass RX1 RX8 ∈ tT := List.mem_filter.mpr ⟨tin_2 _ (List.mem_of_getElem? (i := 59) rfl), rfl⟩
theorem wd_2_60 : Cond.classLink RX11 375 RX7 ∈ tT := List.mem_filter.mpr ⟨tin_2 _ (List.mem_of_getElem? (i := 60) rfl), rfl⟩
theorem wd_2_61 : Cond.instantiable RX7 2 ∈ tT := List.mem_filter.mpr ⟨tin_2 _ (List.mem_of_getElem? (i := 61) rfl), rfl⟩
theorem wd_2_62 : Cond.methodLink RX11 377 yX7_init ∈ tT := List.mem_filter.mpr ⟨tin_2 _ (List.mem_of_getElem? (i := 62) rfl), rfl⟩
theorem wd_2_63 : Cond.instanceMethod yX7_init ∈ tT := List.mem_filter.mpr ⟨tin_2 _ (List.mem_of_getElem? (i := 63) rfl), rfl⟩
theorem wd_2_64 : Cond.code yX7_init cX7_init 3 none ∈ tT := List.mem_filter.mpr ⟨tin_2 _ (List.mem_of_getElem? (i := 64) rfl), rfl⟩
theorem wd_2_65 : Cond.methodLink RX7 1 yX1_init ∈ tT := List.mem_filter.mpr ⟨tin_2 _ (List.mem_of_getElem? (i := 65) rfl), rfl⟩
theorem wd_2_66 : Cond.laysFinal RX7 "BladeBetweenThumbs$Blow" "kind" "I" ∈ tT := List.mem_filter.mpr ⟨tin_2 _ (List.mem_of_getElem? (i := 66) rfl), rfl⟩
theorem wd_2_67 : Cond.laysFinal RX7 "BladeBetweenThumbs$Blow" "figure" "I" ∈ tT := List.mem_filter.mpr ⟨tin_2 _ (List.mem_of_getElem? (i := 67) rfl), rfl⟩
theorem wd_2_68 : Cond.superclass RX7 RX1 ∈ tT := List.mem_filter.mpr ⟨tin_2 _ (List.mem_of_getElem? (i := 68) rfl), rfl⟩
theorem wd_2_69 : Cond.classLink RX11 378 RX6 ∈ tT := List.mem_filter.mpr ⟨tin_2 _ (List.mem_of_getElem? (i := 69) rfl), rfl⟩
theorem wd_2_70 : Cond.instantiable RX6 2 ∈ tT := List.mem_filter.mpr ⟨tin_2 _ (List.mem_of_getElem? (i := 70) rfl), rfl⟩
theorem wd_2_71 : Cond.methodLink RX11 380 yX6_init ∈ tT := List.mem_filter.mpr ⟨tin_2 _ (List.mem_of_getElem? (i := 71) rfl), rfl⟩
theorem wd_2_72 : Cond.instanceMethod yX6_init ∈ tT := List.mem_filter.mpr ⟨tin_2 _ (List.mem_of_getElem? (i := 72) rfl), rfl⟩
theorem wd_2_73 : Cond.code yX6_init cX6_init 3 none ∈ tT := List.mem_filter.mpr ⟨tin_2 _ (List.mem_of_getElem? (i := 73) rfl), rfl⟩
theorem wd_2_74 : Cond.methodLink RX6 1 yX2_init ∈ tT := List.mem_filter.mpr ⟨tin_2 _ (List.mem_of_getElem? (i := 74) rfl), rfl⟩
theorem wd_2_75 : Cond.laysFinal RX6 "BladeBetweenThumbs$Blow" "kind" "I" ∈ tT := List.mem_filter.mpr ⟨tin_2 _ (List.mem_of_getElem? (i := 75) rfl), rfl⟩
theorem wd_2_76 : Cond.laysFinal RX6 "BladeBetweenThumbs$Blow" "figure" "I" ∈ tT := List.mem_filter.mpr ⟨tin_2 _ (List.mem_of_getElem? (i := 76) rfl), rfl⟩
theorem wd_2_77 : Cond.superclass RX6 RX2 ∈ tT := List.mem_filter.mpr ⟨tin_2 _ (List.mem_of_getElem? (i := 77) rfl), rfl⟩
theorem wd_2_78 : Cond.methodLink RX11 124 yX3_addBlow ∈ tT := List.mem_filter.mpr ⟨tin_2 _ (List.mem_of_getElem? (i := 78) rfl), rfl⟩
theorem wd_2_79 : Cond.instanceMethod yX3_addBlow ∈ tT := List.mem_filter.mpr ⟨tin_2 _ (List.mem_of_getElem? (i := 79) rfl), rfl⟩
theorem wd_2_80 : Cond.selects RX3 yX3_addBlow yX3_addBlow ∈ tT := List.mem_filter.mpr ⟨tin_2 _ (List.mem_of_getElem? (i := 80) rfl), rfl⟩
theorem wd_2_81 : Cond.code yX3_addBlow cX3_addBlow 2 (some .int) ∈ tT := List.mem_filter.mpr ⟨tin_2 _ (List.mem_of_getElem? (i := 81) rfl), rfl⟩
theorem wd_2_82 : Cond.methodLink RX11 355 yX11_isTriedOnSpare ∈ tT := List.mem_filter.mpr ⟨tin_2 _ (List.mem_of_getElem? (i := 82) rfl), rfl⟩
theorem wd_2_84 : Cond.instanceMethod yX11_isTriedOnSpare ∈ tT := List.mem_filter.mpr ⟨tin_2 _ (List.mem_of_getElem? (i := 84) rfl), rfl⟩
theorem wd_2_85 : Cond.code yX11_isTriedOnSpare cX11_isTriedOnSpare 8 (some .boolean) ∈ tT := List.mem_filter.mpr ⟨tin_2 _ (List.mem_of_getElem? (i := 85) rfl), rfl⟩
theorem wd_2_86 : Cond.methodLink RX11 132 yX3_hasAll ∈ tT := List.mem_filter.mpr ⟨tin_2 _ (List.mem_of_getElem? (i := 86) rfl), rfl⟩
theorem wd_2_87 : Cond.instanceMethod yX3_hasAll ∈ tT := List.mem_filter.mpr ⟨tin_2 _ (List.mem_of_getElem? (i := 87) rfl), rfl⟩
theorem wd_2_88 : Cond.selects RX3 yX3_hasAll yX3_hasAll ∈ tT := List.mem_filter.mpr ⟨tin_2 _ (List.mem_of_getElem? (i := 88) rfl), rfl⟩
theorem wd_2_89 : Cond.code yX3_hasAll cX3_hasAll 4 (some .boolean) ∈ tT := List.mem_filter.mpr ⟨tin_2 _ (List.mem_of_getElem? (i := 89) rfl), rfl⟩
theorem wd_2_90 : Cond.methodLink RX3 59 yX3_hasBlade ∈ tT := List.mem_filter.mpr ⟨tin_2 _ (List.mem_of_getElem? (i := 90) rfl), rfl⟩
theorem wd_2_91 : Cond.instanceMethod yX3_hasBlade ∈ tT := List.mem_filter.mpr ⟨tin_2 _ (List.mem_of_getElem? (i := 91) rfl), rfl⟩
theorem wd_2_92 : Cond.selects RX3 yX3_hasBlade yX3_hasBlade ∈ tT := List.mem_filter.mpr ⟨tin_2 _ (List.mem_of_getElem? (i := 92) rfl), rfl⟩
theorem wd_2_93 : Cond.code yX3_hasBlade cX3_hasBlade 2 (some .boolean) ∈ tT := List.mem_filter.mpr ⟨tin_2 _ (List.mem_of_getElem? (i := 93) rfl), rfl⟩
theorem wd_2_94 : Cond.methodLink RX3 63 yX3_hasThumbs ∈ tT := List.mem_filter.mpr ⟨tin_2 _ (List.mem_of_getElem? (i := 94) rfl), rfl⟩
theorem wd_2_95 : Cond.instanceMethod yX3_hasThumbs ∈ tT := List.mem_filter.mpr ⟨tin_2 _ (List.mem_of_getElem? (i := 95) rfl), rfl⟩
theorem wd_2_96 : Cond.selects RX3 yX3_hasThumbs yX3_hasThumbs ∈ tT := List.mem_filter.mpr ⟨tin_2 _ (List.mem_of_getElem? (i := 96) rfl), rfl⟩
theorem wd_2_97 : Cond.code yX3_hasThumbs cX3_hasThumbs 2 (some .boolean) ∈ tT := List.mem_filter.mpr ⟨tin_2 _ (List.mem_of_getElem? (i := 97) rfl), rfl⟩
theorem wd_2_98 : Cond.methodLink RX3 66 yX3_hasBlow ∈ tT := List.mem_filter.mpr ⟨tin_2 _ (List.mem_of_getElem? (i := 98) rfl), rfl⟩
theorem wd_2_99 : Cond.instanceMethod yX3_hasBlow ∈ tT := List.mem_filter.mpr ⟨tin_2 _ (List.mem_of_getElem? (i := 99) rfl), rfl⟩
theorem wd_2_100 : Cond.selects RX3 yX3_hasBlow yX3_hasBlow ∈ tT := List.mem_filter.mpr ⟨tin_2 _ (List.mem_of_getElem? (i := 100) rfl), rfl⟩
theorem wd_2_101 : Cond.code yX3_hasBlow cX3_hasBlow 2 (some .boolean) ∈ tT := List.mem_filter.mpr ⟨tin_2 _ (List.mem_of_getElem? (i := 101) rfl), rfl⟩
theorem wd_2_102 : Cond.methodLink RX11 80 yX3_isSplit ∈ tT := List.mem_filter.mpr ⟨tin_2 _ (List.mem_of_getElem? (i := 102) rfl), rfl⟩
theorem wd_2_103 : Cond.instanceMethod yX3_isSplit ∈ tT := List.mem_filter.mpr ⟨tin_2 _ (List.mem_of_getElem? (i := 103) rfl), rfl⟩
theorem wd_2_104 : Cond.selects RX3 yX3_isSplit yX3_isSplit ∈ tT := List.mem_filter.mpr ⟨tin_2 _ (List.mem_of_getElem? (i := 104) rfl), rfl⟩
theorem wd_2_105 : Cond.code yX3_isSplit cX3_isSplit 2 (some .boolean) ∈ tT := List.mem_filter.mpr ⟨tin_2 _ (List.mem_of_getElem? (i := 105) rfl), rfl⟩
theorem wd_2_106 : Cond.methodLink RX11 111 yX0_wearBy ∈ tT := List.mem_filter.mpr ⟨tin_2 _ (List.mem_of_getElem? (i := 106) rfl), rfl⟩
theorem wd_2_107 : Cond.instanceMethod yX0_wearBy ∈ tT := List.mem_filter.mpr ⟨tin_2 _ (List.mem_of_getElem? (i := 107) rfl), rfl⟩
theorem wd_2_108 : Cond.selects RX0 yX0_wearBy yX0_wearBy ∈ tT := List.mem_filter.mpr ⟨tin_2 _ (List.mem_of_getElem? (i := 108) rfl), rfl⟩
theorem wd_2_109 : Cond.sameMethod "BladeBetweenThumbs$Blow" "BladeBetweenThumbs$Blow" "wearBy" "(I)I" ∈ tT := List.mem_filter.mpr ⟨tin_2 _ (List.mem_of_getElem? (i := 109) rfl), rfl⟩
theorem wd_2_110 : Cond.selects RX1 yX0_wearBy yX8_wearBy ∈ tT := List.mem_filter.mpr ⟨tin_2 _ (List.mem_of_getElem? (i := 110) rfl), rfl⟩
theorem wd_2_111 : Cond.instanceMethod yX8_wearBy ∈ tT := List.mem_filter.mpr ⟨tin_2 _ (List.mem_of_getElem? (i := 111) rfl), rfl⟩
theorem wd_2_112 : Cond.code yX8_wearBy cX8_wearBy 2 (some .int) ∈ tT := List.mem_filter.mpr ⟨tin_2 _ (List.mem_of_getElem? (i := 112) rfl), rfl⟩
theorem wd_2_113 : Cond.methodLink RX8 16 yX0_wearBy ∈ tT := List.mem_filter.mpr ⟨tin_2 _ (List.mem_of_getElem? (i := 113) rfl), rfl⟩
theorem wd_2_114 : Cond.selects RX2 yX0_wearBy yX0_wearBy ∈ tT := List.mem_filter.mpr ⟨tin_2 _ (List.mem_of_getElem? (i := 114) rfl), rfl⟩
theorem wd_2_115 : Cond.selects RX5 yX0_wearBy yX5_wearBy ∈ tT := List.mem_filter.mpr ⟨tin_2 _ (List.mem_of_getElem? (i := 115) rfl), rfl⟩
theorem wd_2_116 : Cond.instanceMethod yX5_wearBy ∈ tT := List.mem_filter.mpr ⟨tin_2 _ (List.mem_of_getElem? (i := 116) rfl), rfl⟩
theorem wd_2_117 : Cond.code yX5_wearBy cX5_wearBy 2 (some .int) ∈ tT := List.mem_filter.mpr ⟨tin_2 _ (List.mem_of_getElem? (i := 117) rfl), rfl⟩
theorem wd_2_118 : Cond.methodLink RX5 22 yX8_wearBy ∈ tT := List.mem_filter.mpr ⟨tin_2 _ (List.mem_of_getElem? (i := 118) rfl), rfl⟩
theorem wd_2_119 : Cond.selects RX6 yX0_wearBy yX6_wearBy ∈ tT := List.mem_filter.mpr ⟨tin_2 _ (List.mem_of_getElem? (i := 119) rfl), rfl⟩
theorem wd_2_120 : Cond.instanceMethod yX6_wearBy ∈ tT := List.mem_filter.mpr ⟨tin_2 _ (List.mem_of_getElem? (i := 120) rfl), rfl⟩
theorem wd_2_121 : Cond.code yX6_wearBy cX6_wearBy 2 (some .int) ∈ tT := List.mem_filter.mpr ⟨tin_2 _ (List.mem_of_getElem? (i := 121) rfl), rfl⟩
theorem wd_2_122 : Cond.methodLink RX6 7 ⟨"BladeBetweenThumbs$Empty", "wearBy", "(I)I"⟩ ∈ tT := List.mem_filter.mpr ⟨tin_2 _ (List.mem_of_getElem? (i := 122) rfl), rfl⟩
theorem wd_2_123 : Cond.sameMethod "BladeBetweenThumbs$Empty" "BladeBetweenThumbs$Blow" "wearBy" "(I)I" ∈ tT := List.mem_filter.mpr ⟨tin_2 _ (List.mem_of_getElem? (i := 123) rfl), rfl⟩
theorem wd_2_125 : Cond.selects RX7 yX0_wearBy yX7_wearBy ∈ tT := List.mem_filter.mpr ⟨tin_2 _ (List.mem_of_getElem? (i := 125) rfl), rfl⟩
theorem wd_2_126 : Cond.instanceMethod yX7_wearBy ∈ tT := List.mem_filter.mpr ⟨tin_2 _ (List.mem_of_getElem? (i := 126) rfl), rfl⟩
theorem wd_2_127 : Cond.code yX7_wearBy cX7_wearBy 2 (some .int) ∈ tT := List.mem_filter.mpr ⟨tin_2 _ (List.mem_of_getElem? (i := 127) rfl), rfl⟩
theorem wd_2_128 : Cond.selects RX8 yX0_wearBy yX8_wearBy ∈ tT := List.mem_filter.mpr ⟨tin_2 _ (List.mem_of_getElem? (i := 128) rfl), rfl⟩
theorem wd_2_129 : Cond.selects RX10 yX0_wearBy yX10_wearBy ∈ tT := List.mem_filter.mpr ⟨tin_2 _ (List.mem_of_getElem? (i := 129) rfl), rfl⟩
theorem wd_2_130 : Cond.instanceMethod yX10_wearBy ∈ tT := List.mem_filter.mpr ⟨tin_2 _ (List.mem_of_getElem? (i := 130) rfl), rfl⟩
theorem wd_2_131 : Cond.code yX10_wearBy cX10_wearBy 2 (some .int) ∈ tT := List.mem_filter.mpr ⟨tin_2 _ (List.mem_of_getElem? (i := 131) rfl), rfl⟩
theorem wd_2_132 : Cond.methodLink RX10 21 yX0_wearBy ∈ tT := List.mem_filter.mpr ⟨tin_2 _ (List.mem_of_getElem? (i := 132) rfl), rfl⟩
theorem wd_2_133 : Cond.code yX0_wearBy cX0_wearBy 2 (some .int) ∈ tT := List.mem_filter.mpr ⟨tin_2 _ (List.mem_of_getElem? (i := 133) rfl), rfl⟩
theorem wd_2_134 : Cond.methodLink RX11 59 yX11_lengthAt ∈ tT := List.mem_filter.mpr ⟨tin_2 _ (List.mem_of_getElem? (i := 134) rfl), rfl⟩
theorem wd_2_135 : Cond.static yX11_lengthAt ∈ tT := List.mem_filter.mpr ⟨tin_2 _ (List.mem_of_getElem? (i := 135) rfl), rfl⟩
theorem wd_2_136 : Cond.code yX11_lengthAt cX11_lengthAt 2 (some .int) ∈ tT := List.mem_filter.mpr ⟨tin_2 _ (List.mem_of_getElem? (i := 136) rfl), rfl⟩
theorem wd_2_137 : Cond.methodLink RX11 185 yJ9_max_7cf53 ∈ tT := List.mem_filter.mpr ⟨tin_2 _ (List.mem_of_getElem? (i := 137) rfl), rfl⟩
theorem wd_2_138 : Cond.static yJ9_max_7cf53 ∈ tT := List.mem_filter.mpr ⟨tin_2 _ (List.mem_of_getElem? (i := 138) rfl), rfl⟩
theorem wd_2_139 : Cond.code yJ9_max_7cf53 cJ9_max_7cf53 2 (some .int) ∈ tT := List.mem_filter.mpr ⟨tin_2 _ (List.mem_of_getElem? (i := 139) rfl), rfl⟩
theorem wd_2_140 : Cond.methodLink RL 26 yX11_blade ∈ tT := List.mem_filter.mpr ⟨tin_2 _ (List.mem_of_getElem? (i := 140) rfl), rfl⟩
theorem wd_2_141 : Cond.instanceMethod yX11_blade ∈ tT := List.mem_filter.mpr ⟨tin_2 _ (List.mem_of_getElem? (i := 141) rfl), rfl⟩
theorem wd_2_142 : Cond.selects RX11 yX11_blade yX11_blade ∈ tT := List.mem_filter.mpr ⟨tin_2 _ (List.mem_of_getElem? (i := 142) rfl), rfl⟩
theorem wd_2_143 : Cond.code yX11_blade cX11_blade 3 (some .int) ∈ tT := List.mem_filter.mpr ⟨tin_2 _ (List.mem_of_getElem? (i := 143) rfl), rfl⟩
theorem wd_2_144 : Cond.methodLink RX11 63 yX3_hasBlade ∈ tT := List.mem_filter.mpr ⟨tin_2 _ (List.mem_of_getElem? (i := 144) rfl), rfl⟩
theorem wd_2_145 : Cond.methodLink RL 31 yX11_thumbs ∈ tT := List.mem_filter.mpr ⟨tin_2 _ (List.mem_of_getElem? (i := 145) rfl), rfl⟩
theorem wd_2_146 : Cond.instanceMethod yX11_thumbs ∈ tT := List.mem_filter.mpr ⟨tin_2 _ (List.mem_of_getElem? (i := 146) rfl), rfl⟩
theorem wd_2_147 : Cond.selects RX11 yX11_thumbs yX11_thumbs ∈ tT := List.mem_filter.mpr ⟨tin_2 _ (List.mem_of_getElem? (i := 147) rfl), rfl⟩
theorem wd_2_148 : Cond.code yX11_thumbs cX11_thumbs 3 (some .int) ∈ tT := List.mem_filter.mpr ⟨tin_2 _ (List.mem_of_getElem? (i := 148) rfl), rfl⟩
theorem wd_2_149 : Cond.methodLink RX11 83 yX3_hasThumbs ∈ tT := List.mem_filter.mpr ⟨tin_2 _ (List.mem_of_getElem? (i := 149) rfl), rfl⟩
theorem wd_2_150 : Cond.methodLink RL 35 yX11_blow ∈ tT := List.mem_filter.mpr ⟨tin_2 _ (List.mem_of_getElem? (i := 150) rfl), rfl⟩
theorem wd_2_151 : Cond.instanceMethod yX11_blow ∈ tT := List.mem_filter.mpr ⟨tin_2 _ (List.mem_of_getElem? (i := 151) rfl), rfl⟩
theorem wd_2_152 : Cond.selects RX11 yX11_blow yX11_blow ∈ tT := List.mem_filter.mpr ⟨tin_2 _ (List.mem_of_getElem? (i := 152) rfl), rfl⟩
theorem wd_2_153 : Cond.code yX11_blow cX11_blow 3 (some .int) ∈ tT := List.mem_filter.mpr ⟨tin_2 _ (List.mem_of_getElem? (i := 153) rfl), rfl⟩
theorem wd_2_154 : Cond.methodLink RX11 96 yX3_hasBlow ∈ tT := List.mem_filter.mpr ⟨tin_2 _ (List.mem_of_getElem? (i := 154) rfl), rfl⟩
theorem wd_2_155 : Cond.methodLink RL 39 yX11_grows ∈ tT := List.mem_filter.mpr ⟨tin_2 _ (List.mem_of_getElem? (i := 155) rfl), rfl⟩
theorem wd_2_156 : Cond.instanceMethod yX11_grows ∈ tT := List.mem_filter.mpr ⟨tin_2 _ (List.mem_of_getElem? (i := 156) rfl), rfl⟩
theorem wd_2_157 : Cond.selects RX11 yX11_grows yX11_grows ∈ tT := List.mem_filter.mpr ⟨tin_2 _ (List.mem_of_getElem? (i := 157) rfl), rfl⟩
theorem wd_2_158 : Cond.code yX11_grows cX11_grows 4 (some .int) ∈ tT := List.mem_filter.mpr ⟨tin_2 _ (List.mem_of_getElem? (i := 158) rfl), rfl⟩
theorem wd_2_159 : Cond.methodLink RL 44 yX11_learns ∈ tT := List.mem_filter.mpr ⟨tin_2 _ (List.mem_of_getElem? (i := 159) rfl), rfl⟩
theorem wd_2_160 : Cond.instanceMethod yX11_learns ∈ tT := List.mem_filter.mpr ⟨tin_2 _ (List.mem_of_getElem? (i := 160) rfl), rfl⟩
theorem wd_2_161 : Cond.selects RX11 yX11_learns yX11_learns ∈ tT := List.mem_filter.mpr ⟨tin_2 _ (List.mem_of_getElem? (i := 161) rfl), rfl⟩
theorem wd_2_162 : Cond.code yX11_learns cX11_learns 3 (some .int) ∈ tT := List.mem_filter.mpr ⟨tin_2 _ (List.mem_of_getElem? (i := 162) rfl), rfl⟩
theorem wd_2_163 : Cond.methodLink RX11 118 yX11_blowRefusal ∈ tT := List.mem_filter.mpr ⟨tin_2 _ (List.mem_of_getElem? (i := 163) rfl), rfl⟩
theorem wd_2_165 : Cond.instanceMethod yX11_blowRefusal ∈ tT := List.mem_filter.mpr ⟨tin_2 _ (List.mem_of_getElem? (i := 165) rfl), rfl⟩
theorem wd_2_166 : Cond.code yX11_blowRefusal cX11_blowRefusal 2 (some .int) ∈ tT := List.mem_filter.mpr ⟨tin_2 _ (List.mem_of_getElem? (i := 166) rfl), rfl⟩
theorem wd_2_167 : Cond.methodLink RL 48 yX11_comes ∈ tT := List.mem_filter.mpr ⟨tin_2 _ (List.mem_of_getElem? (i := 167) rfl), rfl⟩
theorem wd_2_168 : Cond.instanceMethod yX11_comes ∈ tT := List.mem_filter.mpr ⟨tin_2 _ (List.mem_of_getElem? (i := 168) rfl), rfl⟩
theorem wd_2_169 : Cond.selects RX11 yX11_comes yX11_comes ∈ tT := List.mem_filter.mpr ⟨tin_2 _ (List.mem_of_getElem? (i := 169) rfl), rfl⟩
theorem wd_2_170 : Cond.code yX11_comes cX11_comes 3 (some .int) ∈ tT := List.mem_filter.mpr ⟨tin_2 _ (List.mem_of_getElem? (i := 170) rfl), rfl⟩
theorem wd_2_171 : Cond.methodLink RL 52 yX11_wets ∈ tT := List.mem_filter.mpr ⟨tin_2 _ (List.mem_of_getElem? (i := 171) rfl), rfl⟩
theorem wd_2_172 : Cond.instanceMethod yX11_wets ∈ tT := List.mem_filter.mpr ⟨tin_2 _ (List.mem_of_getElem? (i := 172) rfl), rfl⟩
theorem wd_2_173 : Cond.selects RX11 yX11_wets yX11_wets ∈ tT := List.mem_filter.mpr ⟨tin_2 _ (List.mem_of_getElem? (i := 173) rfl), rfl⟩
theorem wd_2_174 : Cond.code yX11_wets cX11_wets 4 (some .int) ∈ tT := List.mem_filter.mpr ⟨tin_2 _ (List.mem_of_getElem? (i := 174) rfl), rfl⟩
theorem wd_2_175 : Cond.methodLink RL 56 yX11_span ∈ tT := List.mem_filter.mpr ⟨tin_2 _ (List.mem_of_getElem? (i := 175) rfl), rfl⟩
theorem wd_2_176 : Cond.instanceMethod yX11_span ∈ tT := List.mem_filter.mpr ⟨tin_2 _ (List.mem_of_getElem? (i := 176) rfl), rfl⟩
theorem wd_2_177 : Cond.selects RX11 yX11_span yX11_span ∈ tT := List.mem_filter.mpr ⟨tin_2 _ (List.mem_of_getElem? (i := 177) rfl), rfl⟩
theorem wd_2_178 : Cond.code yX11_span cX11_span 6 (some .int) ∈ tT := List.mem_filter.mpr ⟨tin_2 _ (List.mem_of_getElem? (i := 178) rfl), rfl⟩
theorem wd_2_179 : Cond.methodLink RX11 135 yX3_spanOf ∈ tT := List.mem_filter.mpr ⟨tin_2 _ (List.mem_of_getElem? (i := 179) rfl), rfl⟩
theorem wd_2_180 : Cond.instanceMethod yX3_spanOf ∈ tT := List.mem_filter.mpr ⟨tin_2 _ (List.mem_of_getElem? (i := 180) rfl), rfl⟩
theorem wd_2_181 : Cond.selects RX3 yX3_spanOf yX3_spanOf ∈ tT := List.mem_filter.mpr ⟨tin_2 _ (List.mem_of_getElem? (i := 181) rfl), rfl⟩
theorem wd_2_182 : Cond.code yX3_spanOf cX3_spanOf 4 (some (.object "BladeBetweenThumbs$Span")) ∈ tT := List.mem_filter.mpr ⟨tin_2 _ (List.mem_of_getElem? (i := 182) rfl), rfl⟩
theorem wd_2_183 : Cond.methodLink RX3 76 yX0_low ∈ tT := List.mem_filter.mpr ⟨tin_2 _ (List.mem_of_getElem? (i := 183) rfl), rfl⟩
theorem wd_2_184 : Cond.instanceMethod yX0_low ∈ tT := List.mem_filter.mpr ⟨tin_2 _ (List.mem_of_getElem? (i := 184) rfl), rfl⟩
theorem wd_2_185 : Cond.selects RX0 yX0_low yX0_low ∈ tT := List.mem_filter.mpr ⟨tin_2 _ (List.mem_of_getElem? (i := 185) rfl), rfl⟩
theorem wd_2_186 : Cond.sameMethod "BladeBetweenThumbs$Blow" "BladeBetweenThumbs$Blow" "low" "(II)I" ∈ tT := List.mem_filter.mpr ⟨tin_2 _ (List.mem_of_getElem? (i := 186) rfl), rfl⟩
theorem wd_2_187 : Cond.selects RX1 yX0_low yX8_low ∈ tT := List.mem_filter.mpr ⟨tin_2 _ (List.mem_of_getElem? (i := 187) rfl), rfl⟩
theorem wd_2_188 : Cond.instanceMethod yX8_low ∈ tT := List.mem_filter.mpr ⟨tin_2 _ (List.mem_of_getElem? (i := 188) rfl), rfl⟩
theorem wd_2_189 : Cond.code yX8_low cX8_low 3 (some .int) ∈ tT := List.mem_filter.mpr ⟨tin_2 _ (List.mem_of_getElem? (i := 189) rfl), rfl⟩
theorem wd_2_190 : Cond.methodLink RX8 7 yX0_low ∈ tT := List.mem_filter.mpr ⟨tin_2 _ (List.mem_of_getElem? (i := 190) rfl), rfl⟩
theorem wd_2_191 : Cond.methodLink RX8 11 yJ9_max_7cf53 ∈ tT := List.mem_filter.mpr ⟨tin_2 _ (List.mem_of_getElem? (i := 191) rfl), rfl⟩
theorem wd_2_192 : Cond.selects RX2 yX0_low yX0_low ∈ tT := List.mem_filter.mpr ⟨tin_2 _ (List.mem_of_getElem? (i := 192) rfl), rfl⟩
theorem wd_2_193 : Cond.selects RX5 yX0_low yX5_low ∈ tT := List.mem_filter.mpr ⟨tin_2 _ (List.mem_of_getElem? (i := 193) rfl), rfl⟩
theorem wd_2_194 : Cond.instanceMethod yX5_low ∈ tT := List.mem_filter.mpr ⟨tin_2 _ (List.mem_of_getElem? (i := 194) rfl), rfl⟩
theorem wd_2_195 : Cond.code yX5_low cX5_low 3 (some .int) ∈ tT := List.mem_filter.mpr ⟨tin_2 _ (List.mem_of_getElem? (i := 195) rfl), rfl⟩
theorem wd_2_196 : Cond.methodLink RX5 7 yX8_low ∈ tT := List.mem_filter.mpr ⟨tin_2 _ (List.mem_of_getElem? (i := 196) rfl), rfl⟩
theorem wd_2_197 : Cond.selects RX6 yX0_low yX0_low ∈ tT := List.mem_filter.mpr ⟨tin_2 _ (List.mem_of_getElem? (i := 197) rfl), rfl⟩
theorem wd_2_198 : Cond.selects RX7 yX0_low yX7_low ∈ tT := List.mem_filter.mpr ⟨tin_2 _ (List.mem_of_getElem? (i := 198) rfl), rfl⟩
theorem wd_2_199 : Cond.instanceMethod yX7_low ∈ tT := List.mem_filter.mpr ⟨tin_2 _ (List.mem_of_getElem? (i := 199) rfl), rfl⟩
theorem wd_2_200 : Cond.code yX7_low cX7_low 3 (some .int) ∈ tT := List.mem_filter.mpr ⟨tin_2 _ (List.mem_of_getElem? (i := 200) rfl), rfl⟩
theorem wd_2_201 : Cond.methodLink RX7 7 ⟨"BladeBetweenThumbs$Cupped", "low", "(II)I"⟩ ∈ tT := List.mem_filter.mpr ⟨tin_2 _ (List.mem_of_getElem? (i := 201) rfl), rfl⟩
theorem wd_2_202 : Cond.sameMethod "BladeBetweenThumbs$Cupped" "BladeBetweenThumbs$Sounding" "low" "(II)I" ∈ tT := List.mem_filter.mpr ⟨tin_2 _ (List.mem_of_getElem? (i := 202) rfl), rfl⟩
theorem wd_2_204 : Cond.selects RX8 yX0_low yX8_low ∈ tT := List.mem_filter.mpr ⟨tin_2 _ (List.mem_of_getElem? (i := 204) rfl), rfl⟩
theorem wd_2_205 : Cond.selects RX10 yX0_low yX0_low ∈ tT := List.mem_filter.mpr ⟨tin_2 _ (List.mem_of_getElem? (i := 205) rfl), rfl⟩
theorem wd_2_206 : Cond.code yX0_low cX0_low 3 (some .int) ∈ tT := List.mem_filter.mpr ⟨tin_2 _ (List.mem_of_getElem? (i := 206) rfl), rfl⟩
theorem wd_2_207 : Cond.methodLink RX3 82 yX0_high ∈ tT := List.mem_filter.mpr ⟨tin_2 _ (List.mem_of_getElem? (i := 207) rfl), rfl⟩
theorem wd_2_208 : Cond.instanceMethod yX0_high ∈ tT := List.mem_filter.mpr ⟨tin_2 _ (List.mem_of_getElem? (i := 208) rfl), rfl⟩
theorem wd_2_209 : Cond.selects RX0 yX0_high yX0_high ∈ tT := List.mem_filter.mpr ⟨tin_2 _ (List.mem_of_getElem? (i := 209) rfl), rfl⟩
theorem wd_2_210 : Cond.sameMethod "BladeBetweenThumbs$Blow" "BladeBetweenThumbs$Blow" "high" "(II)I" ∈ tT := List.mem_filter.mpr ⟨tin_2 _ (List.mem_of_getElem? (i := 210) rfl), rfl⟩
theorem wd_2_211 : Cond.selects RX1 yX0_high yX0_high ∈ tT := List.mem_filter.mpr ⟨tin_2 _ (List.mem_of_getElem? (i := 211) rfl), rfl⟩
theorem wd_2_212 : Cond.selects RX2 yX0_high yX0_high ∈ tT := List.mem_filter.mpr ⟨tin_2 _ (List.mem_of_getElem? (i := 212) rfl), rfl⟩
theorem wd_2_213 : Cond.selects RX5 yX0_high yX5_high ∈ tT := List.mem_filter.mpr ⟨tin_2 _ (List.mem_of_getElem? (i := 213) rfl), rfl⟩
theorem wd_2_214 : Cond.instanceMethod yX5_high ∈ tT := List.mem_filter.mpr ⟨tin_2 _ (List.mem_of_getElem? (i := 214) rfl), rfl⟩
theorem wd_2_215 : Cond.code yX5_high cX5_high 3 (some .int) ∈ tT := List.mem_filter.mpr ⟨tin_2 _ (List.mem_of_getElem? (i := 215) rfl), rfl⟩
theorem wd_2_216 : Cond.methodLink RX5 11 ⟨"BladeBetweenThumbs$Sounding", "high", "(II)I"⟩ ∈ tT := List.mem_filter.mpr ⟨tin_2 _ (List.mem_of_getElem? (i := 216) rfl), rfl⟩
theorem wd_2_217 : Cond.sameMethod "BladeBetweenThumbs$Sounding" "BladeBetweenThumbs$Blow" "high" "(II)I" ∈ tT := List.mem_filter.mpr ⟨tin_2 _ (List.mem_of_getElem? (i := 217) rfl), rfl⟩
theorem wd_2_219 : Cond.selects RX6 yX0_high yX0_high ∈ tT := List.mem_filter.mpr ⟨tin_2 _ (List.mem_of_getElem? (i := 219) rfl), rfl⟩
theorem wd_2_220 : Cond.selects RX7 yX0_high yX0_high ∈ tT := List.mem_filter.mpr ⟨tin_2 _ (List.mem_of_getElem? (i := 220) rfl), rfl⟩
theorem wd_2_221 : Cond.selects RX8 yX0_high yX0_high ∈ tT := List.mem_filter.mpr ⟨tin_2 _ (List.mem_of_getElem? (i := 221) rfl), rfl⟩
theorem wd_2_222 : Cond.selects RX10 yX0_high yX0_high ∈ tT := List.mem_filter.mpr ⟨tin_2 _ (List.mem_of_getElem? (i := 222) rfl), rfl⟩
theorem wd_2_223 : Cond.code yX0_high cX0_high 3 (some .int) ∈ tT := List.mem_filter.mpr ⟨tin_2 _ (List.mem_of_getElem? (i := 223) rfl), rfl⟩
theorem wd_2_224 : Cond.methodLink RX3 89 yX0_softest ∈ tT := List.mem_filter.mpr ⟨tin_2 _ (List.mem_of_getElem? (i := 224) rfl), rfl⟩
theorem wd_2_225 : Cond.instanceMethod yX0_softest ∈ tT := List.mem_filter.mpr ⟨tin_2 _ (List.mem_of_getElem? (i := 225) rfl), rfl⟩
theorem wd_2_226 : Cond.selects RX0 yX0_softest yX0_softest ∈ tT := List.mem_filter.mpr ⟨tin_2 _ (List.mem_of_getElem? (i := 226) rfl), rfl⟩
theorem wd_2_227 : Cond.sameMethod "BladeBetweenThumbs$Blow" "BladeBetweenThumbs$Blow" "softest" "(I)I" ∈ tT := List.mem_filter.mpr ⟨tin_2 _ (List.mem_of_getElem? (i := 227) rfl), rfl⟩
theorem wd_2_228 : Cond.selects RX1 yX0_softest yX0_softest ∈ tT := List.mem_filter.mpr ⟨tin_2 _ (List.mem_of_getElem? (i := 228) rfl), rfl⟩
theorem wd_2_229 : Cond.selects RX2 yX0_softest yX2_softest ∈ tT := List.mem_filter.mpr ⟨tin_2 _ (List.mem_of_getElem? (i := 229) rfl), rfl⟩
theorem wd_2_230 : Cond.instanceMethod yX2_softest ∈ tT := List.mem_filter.mpr ⟨tin_2 _ (List.mem_of_getElem? (i := 230) rfl), rfl⟩
theorem wd_2_231 : Cond.code yX2_softest cX2_softest 2 (some .int) ∈ tT := List.mem_filter.mpr ⟨tin_2 _ (List.mem_of_getElem? (i := 231) rfl), rfl⟩
theorem wd_2_232 : Cond.selects RX5 yX0_softest yX5_softest ∈ tT := List.mem_filter.mpr ⟨tin_2 _ (List.mem_of_getElem? (i := 232) rfl), rfl⟩
theorem wd_2_233 : Cond.instanceMethod yX5_softest ∈ tT := List.mem_filter.mpr ⟨tin_2 _ (List.mem_of_getElem? (i := 233) rfl), rfl⟩
theorem wd_2_234 : Cond.code yX5_softest cX5_softest 2 (some .int) ∈ tT := List.mem_filter.mpr ⟨tin_2 _ (List.mem_of_getElem? (i := 234) rfl), rfl⟩
theorem wd_2_235 : Cond.methodLink RX5 14 ⟨"BladeBetweenThumbs$Sounding", "softest", "(I)I"⟩ ∈ tT := List.mem_filter.mpr ⟨tin_2 _ (List.mem_of_getElem? (i := 235) rfl), rfl⟩
theorem wd_2_236 : Cond.sameMethod "BladeBetweenThumbs$Sounding" "BladeBetweenThumbs$Blow" "softest" "(I)I" ∈ tT := List.mem_filter.mpr ⟨tin_2 _ (List.mem_of_getElem? (i := 236) rfl), rfl⟩
theorem wd_2_238 : Cond.selects RX6 yX0_softest yX2_softest ∈ tT := List.mem_filter.mpr ⟨tin_2 _ (List.mem_of_getElem? (i := 238) rfl), rfl⟩
theorem wd_2_239 : Cond.selects RX7 yX0_softest yX7_softest ∈ tT := List.mem_filter.mpr ⟨tin_2 _ (List.mem_of_getElem? (i := 239) rfl), rfl⟩
theorem wd_3_0 : Cond.instanceMethod yX7_softest ∈ tT := List.mem_filter.mpr ⟨tin_3 _ (List.mem_of_getElem? (i := 0) rfl), rfl⟩
theorem wd_3_1 : Cond.code yX7_softest cX7_softest 2 (some .int) ∈ tT := List.mem_filter.mpr ⟨tin_3 _ (List.mem_of_getElem? (i := 1) rfl), rfl⟩
theorem wd_3_2 : Cond.methodLink RX7 11 ⟨"BladeBetweenThumbs$Cupped", "softest", "(I)I"⟩ ∈ tT := List.mem_filter.mpr ⟨tin_3 _ (List.mem_of_getElem? (i := 2) rfl), rfl⟩
theorem wd_3_3 : Cond.sameMethod "BladeBetweenThumbs$Cupped" "BladeBetweenThumbs$Blow" "softest" "(I)I" ∈ tT := List.mem_filter.mpr ⟨tin_3 _ (List.mem_of_getElem? (i := 3) rfl), rfl⟩
theorem wd_3_4 : Cond.selects RX8 yX0_softest yX0_softest ∈ tT := List.mem_filter.mpr ⟨tin_3 _ (List.mem_of_getElem? (i := 4) rfl), rfl⟩
theorem wd_3_5 : Cond.selects RX10 yX0_softest yX0_softest ∈ tT := List.mem_filter.mpr ⟨tin_3 _ (List.mem_of_getElem? (i := 5) rfl), rfl⟩
theorem wd_3_6 : Cond.code yX0_softest cX0_softest 2 (some .int) ∈ tT := List.mem_filter.mpr ⟨tin_3 _ (List.mem_of_getElem? (i := 6) rfl), rfl⟩
theorem wd_3_7 : Cond.methodLink RX3 95 yX0_hardest ∈ tT := List.mem_filter.mpr ⟨tin_3 _ (List.mem_of_getElem? (i := 7) rfl), rfl⟩
theorem wd_3_8 : Cond.instanceMethod yX0_hardest ∈ tT := List.mem_filter.mpr ⟨tin_3 _ (List.mem_of_getElem? (i := 8) rfl), rfl⟩
theorem wd_3_9 : Cond.selects RX0 yX0_hardest yX0_hardest ∈ tT := List.mem_filter.mpr ⟨tin_3 _ (List.mem_of_getElem? (i := 9) rfl), rfl⟩
theorem wd_3_10 : Cond.sameMethod "BladeBetweenThumbs$Blow" "BladeBetweenThumbs$Blow" "hardest" "(I)I" ∈ tT := List.mem_filter.mpr ⟨tin_3 _ (List.mem_of_getElem? (i := 10) rfl), rfl⟩
theorem wd_3_11 : Cond.selects RX1 yX0_hardest yX0_hardest ∈ tT := List.mem_filter.mpr ⟨tin_3 _ (List.mem_of_getElem? (i := 11) rfl), rfl⟩
theorem wd_3_12 : Cond.selects RX2 yX0_hardest yX0_hardest ∈ tT := List.mem_filter.mpr ⟨tin_3 _ (List.mem_of_getElem? (i := 12) rfl), rfl⟩
theorem wd_3_13 : Cond.selects RX5 yX0_hardest yX0_hardest ∈ tT := List.mem_filter.mpr ⟨tin_3 _ (List.mem_of_getElem? (i := 13) rfl), rfl⟩
theorem wd_3_14 : Cond.selects RX6 yX0_hardest yX0_hardest ∈ tT := List.mem_filter.mpr ⟨tin_3 _ (List.mem_of_getElem? (i := 14) rfl), rfl⟩
theorem wd_3_15 : Cond.selects RX7 yX0_hardest yX7_hardest ∈ tT := List.mem_filter.mpr ⟨tin_3 _ (List.mem_of_getElem? (i := 15) rfl), rfl⟩
theorem wd_3_16 : Cond.instanceMethod yX7_hardest ∈ tT := List.mem_filter.mpr ⟨tin_3 _ (List.mem_of_getElem? (i := 16) rfl), rfl⟩
theorem wd_3_17 : Cond.code yX7_hardest cX7_hardest 2 (some .int) ∈ tT := List.mem_filter.mpr ⟨tin_3 _ (List.mem_of_getElem? (i := 17) rfl), rfl⟩
theorem wd_3_18 : Cond.methodLink RX7 15 ⟨"BladeBetweenThumbs$Cupped", "hardest", "(I)I"⟩ ∈ tT := List.mem_filter.mpr ⟨tin_3 _ (List.mem_of_getElem? (i := 18) rfl), rfl⟩
theorem wd_3_19 : Cond.sameMethod "BladeBetweenThumbs$Cupped" "BladeBetweenThumbs$Blow" "hardest" "(I)I" ∈ tT := List.mem_filter.mpr ⟨tin_3 _ (List.mem_of_getElem? (i := 19) rfl), rfl⟩
theorem wd_3_21 : Cond.selects RX8 yX0_hardest yX0_hardest ∈ tT := List.mem_filter.mpr ⟨tin_3 _ (List.mem_of_getElem? (i := 21) rfl), rfl⟩
theorem wd_3_22 : Cond.selects RX10 yX0_hardest yX10_hardest ∈ tT := List.mem_filter.mpr ⟨tin_3 _ (List.mem_of_getElem? (i := 22) rfl), rfl⟩
theorem wd_3_23 : Cond.instanceMethod yX10_hardest ∈ tT := List.mem_filter.mpr ⟨tin_3 _ (List.mem_of_getElem? (i := 23) rfl), rfl⟩
theorem wd_3_24 : Cond.code yX10_hardest cX10_hardest 2 (some .int) ∈ tT := List.mem_filter.mpr ⟨tin_3 _ (List.mem_of_getElem? (i := 24) rfl), rfl⟩
theorem wd_3_25 : Cond.methodLink RX10 7 yX0_hardest ∈ tT := List.mem_filter.mpr ⟨tin_3 _ (List.mem_of_getElem? (i := 25) rfl), rfl⟩
theorem wd_3_26 : Cond.code yX0_hardest cX0_hardest 2 (some .int) ∈ tT := List.mem_filter.mpr ⟨tin_3 _ (List.mem_of_getElem? (i := 26) rfl), rfl⟩
theorem wd_3_27 : Cond.methodLink RL 61 yX11_sounds ∈ tT := List.mem_filter.mpr ⟨tin_3 _ (List.mem_of_getElem? (i := 27) rfl), rfl⟩
theorem wd_3_28 : Cond.instanceMethod yX11_sounds ∈ tT := List.mem_filter.mpr ⟨tin_3 _ (List.mem_of_getElem? (i := 28) rfl), rfl⟩
theorem wd_3_29 : Cond.selects RX11 yX11_sounds yX11_sounds ∈ tT := List.mem_filter.mpr ⟨tin_3 _ (List.mem_of_getElem? (i := 29) rfl), rfl⟩
theorem wd_3_30 : Cond.code yX11_sounds cX11_sounds 6 (some .int) ∈ tT := List.mem_filter.mpr ⟨tin_3 _ (List.mem_of_getElem? (i := 30) rfl), rfl⟩
theorem wd_3_31 : Cond.methodLink RX11 153 yX9_wrongBits ∈ tT := List.mem_filter.mpr ⟨tin_3 _ (List.mem_of_getElem? (i := 31) rfl), rfl⟩
theorem wd_3_32 : Cond.instanceMethod yX9_wrongBits ∈ tT := List.mem_filter.mpr ⟨tin_3 _ (List.mem_of_getElem? (i := 32) rfl), rfl⟩
theorem wd_3_33 : Cond.selects RX9 yX9_wrongBits yX9_wrongBits ∈ tT := List.mem_filter.mpr ⟨tin_3 _ (List.mem_of_getElem? (i := 33) rfl), rfl⟩
theorem wd_3_34 : Cond.code yX9_wrongBits cX9_wrongBits 4 (some .int) ∈ tT := List.mem_filter.mpr ⟨tin_3 _ (List.mem_of_getElem? (i := 34) rfl), rfl⟩
theorem wd_3_35 : Cond.methodLink RL 66 yX11_pitch ∈ tT := List.mem_filter.mpr ⟨tin_3 _ (List.mem_of_getElem? (i := 35) rfl), rfl⟩
theorem wd_3_36 : Cond.instanceMethod yX11_pitch ∈ tT := List.mem_filter.mpr ⟨tin_3 _ (List.mem_of_getElem? (i := 36) rfl), rfl⟩
theorem wd_3_37 : Cond.selects RX11 yX11_pitch yX11_pitch ∈ tT := List.mem_filter.mpr ⟨tin_3 _ (List.mem_of_getElem? (i := 37) rfl), rfl⟩
theorem wd_3_38 : Cond.code yX11_pitch cX11_pitch 5 (some .int) ∈ tT := List.mem_filter.mpr ⟨tin_3 _ (List.mem_of_getElem? (i := 38) rfl), rfl⟩
theorem wd_3_39 : Cond.constant RX11 156 (1000000001) ∈ tT := List.mem_filter.mpr ⟨tin_3 _ (List.mem_of_getElem? (i := 39) rfl), rfl⟩
theorem wd_3_40 : Cond.methodLink RX11 157 yX0_pitchAt ∈ tT := List.mem_filter.mpr ⟨tin_3 _ (List.mem_of_getElem? (i := 40) rfl), rfl⟩
theorem wd_3_41 : Cond.instanceMethod yX0_pitchAt ∈ tT := List.mem_filter.mpr ⟨tin_3 _ (List.mem_of_getElem? (i := 41) rfl), rfl⟩
theorem wd_3_42 : Cond.selects RX0 yX0_pitchAt yX0_pitchAt ∈ tT := List.mem_filter.mpr ⟨tin_3 _ (List.mem_of_getElem? (i := 42) rfl), rfl⟩
theorem wd_3_43 : Cond.sameMethod "BladeBetweenThumbs$Blow" "BladeBetweenThumbs$Blow" "pitchAt" "(III)I" ∈ tT := List.mem_filter.mpr ⟨tin_3 _ (List.mem_of_getElem? (i := 43) rfl), rfl⟩
theorem wd_3_44 : Cond.selects RX1 yX0_pitchAt yX1_pitchAt ∈ tT := List.mem_filter.mpr ⟨tin_3 _ (List.mem_of_getElem? (i := 44) rfl), rfl⟩
theorem wd_3_45 : Cond.instanceMethod yX1_pitchAt ∈ tT := List.mem_filter.mpr ⟨tin_3 _ (List.mem_of_getElem? (i := 45) rfl), rfl⟩
theorem wd_3_46 : Cond.code yX1_pitchAt cX1_pitchAt 4 (some .int) ∈ tT := List.mem_filter.mpr ⟨tin_3 _ (List.mem_of_getElem? (i := 46) rfl), rfl⟩
theorem wd_3_47 : Cond.methodLink RX1 7 ⟨"BladeBetweenThumbs$Sounding", "pitchAt", "(III)I"⟩ ∈ tT := List.mem_filter.mpr ⟨tin_3 _ (List.mem_of_getElem? (i := 47) rfl), rfl⟩
theorem wd_3_48 : Cond.sameMethod "BladeBetweenThumbs$Sounding" "BladeBetweenThumbs$Blow" "pitchAt" "(III)I" ∈ tT := List.mem_filter.mpr ⟨tin_3 _ (List.mem_of_getElem? (i := 48) rfl), rfl⟩
theorem wd_3_50 : Cond.selects RX2 yX0_pitchAt yX0_pitchAt ∈ tT := List.mem_filter.mpr ⟨tin_3 _ (List.mem_of_getElem? (i := 50) rfl), rfl⟩
theorem wd_3_51 : Cond.selects RX5 yX0_pitchAt yX5_pitchAt ∈ tT := List.mem_filter.mpr ⟨tin_3 _ (List.mem_of_getElem? (i := 51) rfl), rfl⟩
theorem wd_3_52 : Cond.instanceMethod yX5_pitchAt ∈ tT := List.mem_filter.mpr ⟨tin_3 _ (List.mem_of_getElem? (i := 52) rfl), rfl⟩
theorem wd_3_53 : Cond.code yX5_pitchAt cX5_pitchAt 4 (some .int) ∈ tT := List.mem_filter.mpr ⟨tin_3 _ (List.mem_of_getElem? (i := 53) rfl), rfl⟩
theorem wd_3_54 : Cond.methodLink RX5 18 ⟨"BladeBetweenThumbs$Sounding", "pitchAt", "(III)I"⟩ ∈ tT := List.mem_filter.mpr ⟨tin_3 _ (List.mem_of_getElem? (i := 54) rfl), rfl⟩
theorem wd_3_55 : Cond.selects RX6 yX0_pitchAt yX0_pitchAt ∈ tT := List.mem_filter.mpr ⟨tin_3 _ (List.mem_of_getElem? (i := 55) rfl), rfl⟩
theorem wd_3_56 : Cond.selects RX7 yX0_pitchAt yX1_pitchAt ∈ tT := List.mem_filter.mpr ⟨tin_3 _ (List.mem_of_getElem? (i := 56) rfl), rfl⟩
theorem wd_3_57 : Cond.selects RX8 yX0_pitchAt yX0_pitchAt ∈ tT := List.mem_filter.mpr ⟨tin_3 _ (List.mem_of_getElem? (i := 57) rfl), rfl⟩
theorem wd_3_58 : Cond.selects RX10 yX0_pitchAt yX10_pitchAt ∈ tT := List.mem_filter.mpr ⟨tin_3 _ (List.mem_of_getElem? (i := 58) rfl), rfl⟩
theorem wd_3_59 : Cond.instanceMethod yX10_pitchAt ∈ tT := List.mem_filter.mpr ⟨tin_3 _ (List.mem_of_getElem? (i := 59) rfl), rfl⟩
theorem wd_3_60 : Cond.code yX10_pitchAt cX10_pitchAt 4 (some .int) ∈ tT := List.mem_filter.mpr ⟨tin_3 _ (List.mem_of_getElem? (i := 60) rfl), rfl⟩
theorem wd_3_61 : Cond.methodLink RX10 17 yX0_pitchAt ∈ tT := List.mem_filter.mpr ⟨tin_3 _ (List.mem_of_getElem? (i := 61) rfl), rfl⟩
theorem wd_3_62 : Cond.code yX0_pitchAt cX0_pitchAt 4 (some .int) ∈ tT := List.mem_filter.mpr ⟨tin_3 _ (List.mem_of_getElem? (i := 62) rfl), rfl⟩
theorem wd_3_63 : Cond.methodLink RL 70 yX11_tries ∈ tT := List.mem_filter.mpr ⟨tin_3 _ (List.mem_of_getElem? (i := 63) rfl), rfl⟩
theorem wd_3_64 : Cond.instanceMethod yX11_tries ∈ tT := List.mem_filter.mpr ⟨tin_3 _ (List.mem_of_getElem? (i := 64) rfl), rfl⟩
theorem wd_3_65 : Cond.selects RX11 yX11_tries yX11_tries ∈ tT := List.mem_filter.mpr ⟨tin_3 _ (List.mem_of_getElem? (i := 65) rfl), rfl⟩
theorem wd_3_66 : Cond.code yX11_tries cX11_tries 7 (some .int) ∈ tT := List.mem_filter.mpr ⟨tin_3 _ (List.mem_of_getElem? (i := 66) rfl), rfl⟩
theorem wd_3_67 : Cond.methodLink RX11 160 yX3_blowOnce ∈ tT := List.mem_filter.mpr ⟨tin_3 _ (List.mem_of_getElem? (i := 67) rfl), rfl⟩
theorem wd_3_68 : Cond.instanceMethod yX3_blowOnce ∈ tT := List.mem_filter.mpr ⟨tin_3 _ (List.mem_of_getElem? (i := 68) rfl), rfl⟩
theorem wd_3_69 : Cond.selects RX3 yX3_blowOnce yX3_blowOnce ∈ tT := List.mem_filter.mpr ⟨tin_3 _ (List.mem_of_getElem? (i := 69) rfl), rfl⟩
theorem wd_3_70 : Cond.code yX3_blowOnce cX3_blowOnce 6 (some .int) ∈ tT := List.mem_filter.mpr ⟨tin_3 _ (List.mem_of_getElem? (i := 70) rfl), rfl⟩
theorem wd_3_71 : Cond.methodLink RX3 100 yX0_wearBy ∈ tT := List.mem_filter.mpr ⟨tin_3 _ (List.mem_of_getElem? (i := 71) rfl), rfl⟩
theorem wd_3_72 : Cond.methodLink RX3 103 yX3_spanOf ∈ tT := List.mem_filter.mpr ⟨tin_3 _ (List.mem_of_getElem? (i := 72) rfl), rfl⟩
theorem wd_3_73 : Cond.methodLink RX3 107 yX9_wrongBits ∈ tT := List.mem_filter.mpr ⟨tin_3 _ (List.mem_of_getElem? (i := 73) rfl), rfl⟩
theorem wd_3_74 : Cond.methodLink RL 74 yX11_where ∈ tT := List.mem_filter.mpr ⟨tin_3 _ (List.mem_of_getElem? (i := 74) rfl), rfl⟩
theorem wd_3_75 : Cond.instanceMethod yX11_where ∈ tT := List.mem_filter.mpr ⟨tin_3 _ (List.mem_of_getElem? (i := 75) rfl), rfl⟩
theorem wd_3_76 : Cond.selects RX11 yX11_where yX11_where ∈ tT := List.mem_filter.mpr ⟨tin_3 _ (List.mem_of_getElem? (i := 76) rfl), rfl⟩
theorem wd_3_77 : Cond.code yX11_where cX11_where 7 (some .int) ∈ tT := List.mem_filter.mpr ⟨tin_3 _ (List.mem_of_getElem? (i := 77) rfl), rfl⟩
theorem wd_3_78 : Cond.methodLink RX11 164 yX9_pairs ∈ tT := List.mem_filter.mpr ⟨tin_3 _ (List.mem_of_getElem? (i := 78) rfl), rfl⟩
theorem wd_3_79 : Cond.instanceMethod yX9_pairs ∈ tT := List.mem_filter.mpr ⟨tin_3 _ (List.mem_of_getElem? (i := 79) rfl), rfl⟩
theorem wd_3_80 : Cond.selects RX9 yX9_pairs yX9_pairs ∈ tT := List.mem_filter.mpr ⟨tin_3 _ (List.mem_of_getElem? (i := 80) rfl), rfl⟩
theorem wd_3_81 : Cond.code yX9_pairs cX9_pairs 1 (some .int) ∈ tT := List.mem_filter.mpr ⟨tin_3 _ (List.mem_of_getElem? (i := 81) rfl), rfl⟩
theorem wd_3_82 : Cond.methodLink RX9 27 yX9_topTight ∈ tT := List.mem_filter.mpr ⟨tin_3 _ (List.mem_of_getElem? (i := 82) rfl), rfl⟩
theorem wd_3_83 : Cond.instanceMethod yX9_topTight ∈ tT := List.mem_filter.mpr ⟨tin_3 _ (List.mem_of_getElem? (i := 83) rfl), rfl⟩
theorem wd_3_84 : Cond.selects RX9 yX9_topTight yX9_topTight ∈ tT := List.mem_filter.mpr ⟨tin_3 _ (List.mem_of_getElem? (i := 84) rfl), rfl⟩
theorem wd_3_85 : Cond.code yX9_topTight cX9_topTight 1 (some .int) ∈ tT := List.mem_filter.mpr ⟨tin_3 _ (List.mem_of_getElem? (i := 85) rfl), rfl⟩
theorem wd_3_86 : Cond.methodLink RX9 18 yJ9_min_7cf53 ∈ tT := List.mem_filter.mpr ⟨tin_3 _ (List.mem_of_getElem? (i := 86) rfl), rfl⟩
theorem wd_3_87 : Cond.static yJ9_min_7cf53 ∈ tT := List.mem_filter.mpr ⟨tin_3 _ (List.mem_of_getElem? (i := 87) rfl), rfl⟩
theorem wd_3_88 : Cond.code yJ9_min_7cf53 cJ9_min_7cf53 2 (some .int) ∈ tT := List.mem_filter.mpr ⟨tin_3 _ (List.mem_of_getElem? (i := 88) rfl), rfl⟩
theorem wd_3_89 : Cond.methodLink RX9 34 yJ9_max_7cf53 ∈ tT := List.mem_filter.mpr ⟨tin_3 _ (List.mem_of_getElem? (i := 89) rfl), rfl⟩
theorem wd_3_90 : Cond.methodLink RX9 37 yX9_topForce ∈ tT := List.mem_filter.mpr ⟨tin_3 _ (List.mem_of_getElem? (i := 90) rfl), rfl⟩
theorem wd_3_91 : Cond.instanceMethod yX9_topForce ∈ tT := List.mem_filter.mpr ⟨tin_3 _ (List.mem_of_getElem? (i := 91) rfl), rfl⟩
theorem wd_3_92 : Cond.selects RX9 yX9_topForce yX9_topForce ∈ tT := List.mem_filter.mpr ⟨tin_3 _ (List.mem_of_getElem? (i := 92) rfl), rfl⟩
theorem wd_3_93 : Cond.code yX9_topForce cX9_topForce 1 (some .int) ∈ tT := List.mem_filter.mpr ⟨tin_3 _ (List.mem_of_getElem? (i := 93) rfl), rfl⟩
theorem wd_3_94 : Cond.methodLink RL 78 yX11_whoCan ∈ tT := List.mem_filter.mpr ⟨tin_3 _ (List.mem_of_getElem? (i := 94) rfl), rfl⟩
theorem wd_3_95 : Cond.instanceMethod yX11_whoCan ∈ tT := List.mem_filter.mpr ⟨tin_3 _ (List.mem_of_getElem? (i := 95) rfl), rfl⟩
theorem wd_3_96 : Cond.selects RX11 yX11_whoCan yX11_whoCan ∈ tT := List.mem_filter.mpr ⟨tin_3 _ (List.mem_of_getElem? (i := 96) rfl), rfl⟩
theorem wd_3_97 : Cond.code yX11_whoCan cX11_whoCan 3 (some .int) ∈ tT := List.mem_filter.mpr ⟨tin_3 _ (List.mem_of_getElem? (i := 97) rfl), rfl⟩
theorem wd_3_98 : Cond.methodLink RX11 171 yX11_canAny ∈ tT := List.mem_filter.mpr ⟨tin_3 _ (List.mem_of_getElem? (i := 98) rfl), rfl⟩
theorem wd_3_100 : Cond.instanceMethod yX11_canAny ∈ tT := List.mem_filter.mpr ⟨tin_3 _ (List.mem_of_getElem? (i := 100) rfl), rfl⟩
theorem wd_3_101 : Cond.code yX11_canAny cX11_canAny 4 (some .boolean) ∈ tT := List.mem_filter.mpr ⟨tin_3 _ (List.mem_of_getElem? (i := 101) rfl), rfl⟩
theorem wd_3_102 : Cond.methodLink RL 83 yX11_which ∈ tT := List.mem_filter.mpr ⟨tin_3 _ (List.mem_of_getElem? (i := 102) rfl), rfl⟩
theorem wd_3_103 : Cond.instanceMethod yX11_which ∈ tT := List.mem_filter.mpr ⟨tin_3 _ (List.mem_of_getElem? (i := 103) rfl), rfl⟩
theorem wd_3_104 : Cond.selects RX11 yX11_which yX11_which ∈ tT := List.mem_filter.mpr ⟨tin_3 _ (List.mem_of_getElem? (i := 104) rfl), rfl⟩
theorem wd_3_105 : Cond.code yX11_which cX11_which 7 (some .int) ∈ tT := List.mem_filter.mpr ⟨tin_3 _ (List.mem_of_getElem? (i := 105) rfl), rfl⟩
theorem wd_3_106 : Cond.methodLink RL 87 yX11_wrong ∈ tT := List.mem_filter.mpr ⟨tin_3 _ (List.mem_of_getElem? (i := 106) rfl), rfl⟩
theorem wd_3_107 : Cond.instanceMethod yX11_wrong ∈ tT := List.mem_filter.mpr ⟨tin_3 _ (List.mem_of_getElem? (i := 107) rfl), rfl⟩
theorem wd_3_108 : Cond.selects RX11 yX11_wrong yX11_wrong ∈ tT := List.mem_filter.mpr ⟨tin_3 _ (List.mem_of_getElem? (i := 108) rfl), rfl⟩
theorem wd_3_109 : Cond.code yX11_wrong cX11_wrong 6 (some .int) ∈ tT := List.mem_filter.mpr ⟨tin_3 _ (List.mem_of_getElem? (i := 109) rfl), rfl⟩
theorem wd_3_110 : Cond.methodLink RL 91 yX11_next ∈ tT := List.mem_filter.mpr ⟨tin_3 _ (List.mem_of_getElem? (i := 110) rfl), rfl⟩
theorem wd_3_111 : Cond.instanceMethod yX11_next ∈ tT := List.mem_filter.mpr ⟨tin_3 _ (List.mem_of_getElem? (i := 111) rfl), rfl⟩
theorem wd_3_112 : Cond.selects RX11 yX11_next yX11_next ∈ tT := List.mem_filter.mpr ⟨tin_3 _ (List.mem_of_getElem? (i := 112) rfl), rfl⟩
theorem wd_3_113 : Cond.code yX11_next cX11_next 11 (some .int) ∈ tT := List.mem_filter.mpr ⟨tin_3 _ (List.mem_of_getElem? (i := 113) rfl), rfl⟩
theorem wd_3_114 : Cond.methodLink RX11 177 yX9_topTight ∈ tT := List.mem_filter.mpr ⟨tin_3 _ (List.mem_of_getElem? (i := 114) rfl), rfl⟩
theorem wd_3_115 : Cond.methodLink RX11 180 yJ9_min_7cf53 ∈ tT := List.mem_filter.mpr ⟨tin_3 _ (List.mem_of_getElem? (i := 115) rfl), rfl⟩
theorem wd_3_116 : Cond.methodLink RX11 188 yX9_topForce ∈ tT := List.mem_filter.mpr ⟨tin_3 _ (List.mem_of_getElem? (i := 116) rfl), rfl⟩
theorem wd_3_117 : Cond.methodLink RX11 191 yJ9_abs_0f7a4 ∈ tT := List.mem_filter.mpr ⟨tin_3 _ (List.mem_of_getElem? (i := 117) rfl), rfl⟩
theorem wd_3_118 : Cond.static yJ9_abs_0f7a4 ∈ tT := List.mem_filter.mpr ⟨tin_3 _ (List.mem_of_getElem? (i := 118) rfl), rfl⟩
theorem wd_3_119 : Cond.code yJ9_abs_0f7a4 cJ9_abs_0f7a4 1 (some .int) ∈ tT := List.mem_filter.mpr ⟨tin_3 _ (List.mem_of_getElem? (i := 119) rfl), rfl⟩
theorem wd_3_120 : Cond.methodLink RL 95 yX11_halves ∈ tT := List.mem_filter.mpr ⟨tin_3 _ (List.mem_of_getElem? (i := 120) rfl), rfl⟩
theorem wd_3_121 : Cond.instanceMethod yX11_halves ∈ tT := List.mem_filter.mpr ⟨tin_3 _ (List.mem_of_getElem? (i := 121) rfl), rfl⟩
theorem wd_3_122 : Cond.selects RX11 yX11_halves yX11_halves ∈ tT := List.mem_filter.mpr ⟨tin_3 _ (List.mem_of_getElem? (i := 122) rfl), rfl⟩
theorem wd_3_123 : Cond.code yX11_halves cX11_halves 9 (some .int) ∈ tT := List.mem_filter.mpr ⟨tin_3 _ (List.mem_of_getElem? (i := 123) rfl), rfl⟩
theorem wd_3_124 : Cond.methodLink RL 99 yX11_ways ∈ tT := List.mem_filter.mpr ⟨tin_3 _ (List.mem_of_getElem? (i := 124) rfl), rfl⟩
theorem wd_3_125 : Cond.instanceMethod yX11_ways ∈ tT := List.mem_filter.mpr ⟨tin_3 _ (List.mem_of_getElem? (i := 125) rfl), rfl⟩
theorem wd_3_126 : Cond.selects RX11 yX11_ways yX11_ways ∈ tT := List.mem_filter.mpr ⟨tin_3 _ (List.mem_of_getElem? (i := 126) rfl), rfl⟩
theorem wd_3_127 : Cond.code yX11_ways cX11_ways 6 (some .int) ∈ tT := List.mem_filter.mpr ⟨tin_3 _ (List.mem_of_getElem? (i := 127) rfl), rfl⟩
theorem wd_3_128 : Cond.methodLink RX11 197 yX11_waysBy ∈ tT := List.mem_filter.mpr ⟨tin_3 _ (List.mem_of_getElem? (i := 128) rfl), rfl⟩
theorem wd_3_130 : Cond.instanceMethod yX11_waysBy ∈ tT := List.mem_filter.mpr ⟨tin_3 _ (List.mem_of_getElem? (i := 130) rfl), rfl⟩
theorem wd_3_131 : Cond.code yX11_waysBy cX11_waysBy 9 (some .int) ∈ tT := List.mem_filter.mpr ⟨tin_3 _ (List.mem_of_getElem? (i := 131) rfl), rfl⟩
theorem wd_3_132 : Cond.methodLink RL 103 yX11_tune ∈ tT := List.mem_filter.mpr ⟨tin_3 _ (List.mem_of_getElem? (i := 132) rfl), rfl⟩
theorem wd_3_133 : Cond.instanceMethod yX11_tune ∈ tT := List.mem_filter.mpr ⟨tin_3 _ (List.mem_of_getElem? (i := 133) rfl), rfl⟩
theorem wd_3_134 : Cond.selects RX11 yX11_tune yX11_tune ∈ tT := List.mem_filter.mpr ⟨tin_3 _ (List.mem_of_getElem? (i := 134) rfl), rfl⟩
theorem wd_3_135 : Cond.code yX11_tune cX11_tune 7 (some .int) ∈ tT := List.mem_filter.mpr ⟨tin_3 _ (List.mem_of_getElem? (i := 135) rfl), rfl⟩
theorem wd_3_136 : Cond.constant RX11 201 (999999) ∈ tT := List.mem_filter.mpr ⟨tin_3 _ (List.mem_of_getElem? (i := 136) rfl), rfl⟩
theorem wd_3_137 : Cond.methodLink RX11 202 yX11_bladesFor ∈ tT := List.mem_filter.mpr ⟨tin_3 _ (List.mem_of_getElem? (i := 137) rfl), rfl⟩
theorem wd_3_139 : Cond.instanceMethod yX11_bladesFor ∈ tT := List.mem_filter.mpr ⟨tin_3 _ (List.mem_of_getElem? (i := 139) rfl), rfl⟩
theorem wd_3_140 : Cond.code yX11_bladesFor cX11_bladesFor 6 (some .int) ∈ tT := List.mem_filter.mpr ⟨tin_3 _ (List.mem_of_getElem? (i := 140) rfl), rfl⟩
theorem wd_3_141 : Cond.methodLink RX11 205 yX11_areThreeUnlike ∈ tT := List.mem_filter.mpr ⟨tin_3 _ (List.mem_of_getElem? (i := 141) rfl), rfl⟩
theorem wd_3_142 : Cond.static yX11_areThreeUnlike ∈ tT := List.mem_filter.mpr ⟨tin_3 _ (List.mem_of_getElem? (i := 142) rfl), rfl⟩
theorem wd_3_143 : Cond.code yX11_areThreeUnlike cX11_areThreeUnlike 6 (some .boolean) ∈ tT := List.mem_filter.mpr ⟨tin_3 _ (List.mem_of_getElem? (i := 143) rfl), rfl⟩
theorem wd_3_144 : Cond.methodLink RL 107 yX11_lasts ∈ tT := List.mem_filter.mpr ⟨tin_3 _ (List.mem_of_getElem? (i := 144) rfl), rfl⟩
theorem wd_3_145 : Cond.instanceMethod yX11_lasts ∈ tT := List.mem_filter.mpr ⟨tin_3 _ (List.mem_of_getElem? (i := 145) rfl), rfl⟩
theorem wd_3_146 : Cond.selects RX11 yX11_lasts yX11_lasts ∈ tT := List.mem_filter.mpr ⟨tin_3 _ (List.mem_of_getElem? (i := 146) rfl), rfl⟩
theorem wd_3_147 : Cond.code yX11_lasts cX11_lasts 4 (some .int) ∈ tT := List.mem_filter.mpr ⟨tin_3 _ (List.mem_of_getElem? (i := 147) rfl), rfl⟩
theorem wd_3_148 : Cond.methodLink RX11 208 yX11_triesLeft ∈ tT := List.mem_filter.mpr ⟨tin_3 _ (List.mem_of_getElem? (i := 148) rfl), rfl⟩
theorem wd_3_150 : Cond.instanceMethod yX11_triesLeft ∈ tT := List.mem_filter.mpr ⟨tin_3 _ (List.mem_of_getElem? (i := 150) rfl), rfl⟩
theorem wd_3_151 : Cond.code yX11_triesLeft cX11_triesLeft 6 (some .int) ∈ tT := List.mem_filter.mpr ⟨tin_3 _ (List.mem_of_getElem? (i := 151) rfl), rfl⟩
theorem wd_3_152 : Cond.methodLink RL 111 yX11_bestForce ∈ tT := List.mem_filter.mpr ⟨tin_3 _ (List.mem_of_getElem? (i := 152) rfl), rfl⟩
theorem wd_3_153 : Cond.instanceMethod yX11_bestForce ∈ tT := List.mem_filter.mpr ⟨tin_3 _ (List.mem_of_getElem? (i := 153) rfl), rfl⟩
theorem wd_3_154 : Cond.selects RX11 yX11_bestForce yX11_bestForce ∈ tT := List.mem_filter.mpr ⟨tin_3 _ (List.mem_of_getElem? (i := 154) rfl), rfl⟩
theorem wd_3_155 : Cond.code yX11_bestForce cX11_bestForce 9 (some .int) ∈ tT := List.mem_filter.mpr ⟨tin_3 _ (List.mem_of_getElem? (i := 155) rfl), rfl⟩
theorem wd_3_156 : Cond.methodLink RL 115 yX11_clash ∈ tT := List.mem_filter.mpr ⟨tin_3 _ (List.mem_of_getElem? (i := 156) rfl), rfl⟩
theorem wd_3_157 : Cond.instanceMethod yX11_clash ∈ tT := List.mem_filter.mpr ⟨tin_3 _ (List.mem_of_getElem? (i := 157) rfl), rfl⟩
theorem wd_3_158 : Cond.selects RX11 yX11_clash yX11_clash ∈ tT := List.mem_filter.mpr ⟨tin_3 _ (List.mem_of_getElem? (i := 158) rfl), rfl⟩
theorem wd_3_159 : Cond.code yX11_clash cX11_clash 8 (some .int) ∈ tT := List.mem_filter.mpr ⟨tin_3 _ (List.mem_of_getElem? (i := 159) rfl), rfl⟩
theorem wd_3_160 : Cond.methodLink RX11 211 yX11_doClash ∈ tT := List.mem_filter.mpr ⟨tin_3 _ (List.mem_of_getElem? (i := 160) rfl), rfl⟩
theorem wd_3_162 : Cond.instanceMethod yX11_doClash ∈ tT := List.mem_filter.mpr ⟨tin_3 _ (List.mem_of_getElem? (i := 162) rfl), rfl⟩
theorem wd_3_163 : Cond.code yX11_doClash cX11_doClash 8 (some .boolean) ∈ tT := List.mem_filter.mpr ⟨tin_3 _ (List.mem_of_getElem? (i := 163) rfl), rfl⟩
theorem wd_3_164 : Cond.methodLink RL 119 yX11_heard ∈ tT := List.mem_filter.mpr ⟨tin_3 _ (List.mem_of_getElem? (i := 164) rfl), rfl⟩
theorem wd_3_165 : Cond.instanceMethod yX11_heard ∈ tT := List.mem_filter.mpr ⟨tin_3 _ (List.mem_of_getElem? (i := 165) rfl), rfl⟩
theorem wd_3_166 : Cond.selects RX11 yX11_heard yX11_heard ∈ tT := List.mem_filter.mpr ⟨tin_3 _ (List.mem_of_getElem? (i := 166) rfl), rfl⟩
theorem wd_3_167 : Cond.code yX11_heard cX11_heard 7 (some .int) ∈ tT := List.mem_filter.mpr ⟨tin_3 _ (List.mem_of_getElem? (i := 167) rfl), rfl⟩
theorem wd_3_168 : Cond.methodLink RL 123 yX11_nearer ∈ tT := List.mem_filter.mpr ⟨tin_3 _ (List.mem_of_getElem? (i := 168) rfl), rfl⟩
theorem wd_3_169 : Cond.instanceMethod yX11_nearer ∈ tT := List.mem_filter.mpr ⟨tin_3 _ (List.mem_of_getElem? (i := 169) rfl), rfl⟩
theorem wd_3_170 : Cond.selects RX11 yX11_nearer yX11_nearer ∈ tT := List.mem_filter.mpr ⟨tin_3 _ (List.mem_of_getElem? (i := 170) rfl), rfl⟩
theorem wd_3_171 : Cond.code yX11_nearer cX11_nearer 5 (some .long) ∈ tT := List.mem_filter.mpr ⟨tin_3 _ (List.mem_of_getElem? (i := 171) rfl), rfl⟩
theorem wd_3_172 : Cond.methodLink RX11 215 yX11_areTenths ∈ tT := List.mem_filter.mpr ⟨tin_3 _ (List.mem_of_getElem? (i := 172) rfl), rfl⟩
theorem wd_3_173 : Cond.static yX11_areTenths ∈ tT := List.mem_filter.mpr ⟨tin_3 _ (List.mem_of_getElem? (i := 173) rfl), rfl⟩
theorem wd_3_174 : Cond.code yX11_areTenths cX11_areTenths 1 (some .boolean) ∈ tT := List.mem_filter.mpr ⟨tin_3 _ (List.mem_of_getElem? (i := 174) rfl), rfl⟩
theorem wd_3_175 : Cond.constantLong RX11 218 (1000000001) ∈ tT := List.mem_filter.mpr ⟨tin_3 _ (List.mem_of_getElem? (i := 175) rfl), rfl⟩
theorem wd_3_176 : Cond.methodLink RX11 220 yX11_arrivals ∈ tT := List.mem_filter.mpr ⟨tin_3 _ (List.mem_of_getElem? (i := 176) rfl), rfl⟩
theorem wd_3_178 : Cond.instanceMethod yX11_arrivals ∈ tT := List.mem_filter.mpr ⟨tin_3 _ (List.mem_of_getElem? (i := 178) rfl), rfl⟩
theorem wd_3_179 : Cond.code yX11_arrivals cX11_arrivals 5 (some .long) ∈ tT := List.mem_filter.mpr ⟨tin_3 _ (List.mem_of_getElem? (i := 179) rfl), rfl⟩
theorem wd_3_180 : Cond.methodLink RX11 381 yJ7_fill_d0a16 ∈ tT := List.mem_filter.mpr ⟨tin_3 _ (List.mem_of_getElem? (i := 180) rfl), rfl⟩
theorem wd_3_181 : Cond.static yJ7_fill_d0a16 ∈ tT := List.mem_filter.mpr ⟨tin_3 _ (List.mem_of_getElem? (i := 181) rfl), rfl⟩
theorem wd_3_182 : Cond.code yJ7_fill_d0a16 cJ7_fill_d0a16 5 none ∈ tT := List.mem_filter.mpr ⟨tin_3 _ (List.mem_of_getElem? (i := 182) rfl), rfl⟩
theorem wd_3_183 : Cond.methodLink RX11 387 yX11_callOnce ∈ tT := List.mem_filter.mpr ⟨tin_3 _ (List.mem_of_getElem? (i := 183) rfl), rfl⟩
theorem wd_3_185 : Cond.instanceMethod yX11_callOnce ∈ tT := List.mem_filter.mpr ⟨tin_3 _ (List.mem_of_getElem? (i := 185) rfl), rfl⟩
theorem wd_3_186 : Cond.code yX11_callOnce cX11_callOnce 4 none ∈ tT := List.mem_filter.mpr ⟨tin_3 _ (List.mem_of_getElem? (i := 186) rfl), rfl⟩
theorem wd_3_187 : Cond.constantLong RX11 390 (10) ∈ tT := List.mem_filter.mpr ⟨tin_3 _ (List.mem_of_getElem? (i := 187) rfl), rfl⟩
theorem wd_3_188 : Cond.methodLink RX11 224 yX11_powerOf10 ∈ tT := List.mem_filter.mpr ⟨tin_3 _ (List.mem_of_getElem? (i := 188) rfl), rfl⟩
theorem wd_3_189 : Cond.static yX11_powerOf10 ∈ tT := List.mem_filter.mpr ⟨tin_3 _ (List.mem_of_getElem? (i := 189) rfl), rfl⟩
theorem wd_3_190 : Cond.code yX11_powerOf10 cX11_powerOf10 4 (some .long) ∈ tT := List.mem_filter.mpr ⟨tin_3 _ (List.mem_of_getElem? (i := 190) rfl), rfl⟩
theorem wd_3_191 : Cond.methodLink RX11 228 yX11_inLeastTerms ∈ tT := List.mem_filter.mpr ⟨tin_3 _ (List.mem_of_getElem? (i := 191) rfl), rfl⟩
theorem wd_3_192 : Cond.static yX11_inLeastTerms ∈ tT := List.mem_filter.mpr ⟨tin_3 _ (List.mem_of_getElem? (i := 192) rfl), rfl⟩
theorem wd_3_193 : Cond.code yX11_inLeastTerms cX11_inLeastTerms 12 (some .long) ∈ tT := List.mem_filter.mpr ⟨tin_3 _ (List.mem_of_getElem? (i := 193) rfl), rfl⟩
theorem wd_3_194 : Cond.methodLink RL 128 yX11_often ∈ tT := List.mem_filter.mpr ⟨tin_3 _ (List.mem_of_getElem? (i := 194) rfl), rfl⟩
theorem wd_3_195 : Cond.instanceMethod yX11_often ∈ tT := List.mem_filter.mpr ⟨tin_3 _ (List.mem_of_getElem? (i := 195) rfl), rfl⟩
theorem wd_3_196 : Cond.selects RX11 yX11_often yX11_often ∈ tT := List.mem_filter.mpr ⟨tin_3 _ (List.mem_of_getElem? (i := 196) rfl), rfl⟩
theorem wd_3_197 : Cond.code yX11_often cX11_often 4 (some .int) ∈ tT := List.mem_filter.mpr ⟨tin_3 _ (List.mem_of_getElem? (i := 197) rfl), rfl⟩
theorem wd_3_198 : Cond.constantLong RX11 232 (2) ∈ tT := List.mem_filter.mpr ⟨tin_3 _ (List.mem_of_getElem? (i := 198) rfl), rfl⟩
theorem wd_3_199 : Cond.methodLink RL 132 yX11_answer ∈ tT := List.mem_filter.mpr ⟨tin_3 _ (List.mem_of_getElem? (i := 199) rfl), rfl⟩
theorem wd_3_200 : Cond.instanceMethod yX11_answer ∈ tT := List.mem_filter.mpr ⟨tin_3 _ (List.mem_of_getElem? (i := 200) rfl), rfl⟩
theorem wd_3_201 : Cond.selects RX11 yX11_answer yX11_answer ∈ tT := List.mem_filter.mpr ⟨tin_3 _ (List.mem_of_getElem? (i := 201) rfl), rfl⟩
theorem wd_3_202 : Cond.code yX11_answer cX11_answer 7 (some .long) ∈ tT := List.mem_filter.mpr ⟨tin_3 _ (List.mem_of_getElem? (i := 202) rfl), rfl⟩
theorem wd_3_203 : Cond.methodLink RL 137 yX11_telling ∈ tT := List.mem_filter.mpr ⟨tin_3 _ (List.mem_of_getElem? (i := 203) rfl), rfl⟩
theorem wd_3_204 : Cond.instanceMethod yX11_telling ∈ tT := List.mem_filter.mpr ⟨tin_3 _ (List.mem_of_getElem? (i := 204) rfl), rfl⟩
theorem wd_3_205 : Cond.selects RX11 yX11_telling yX11_telling ∈ tT := List.mem_filter.mpr ⟨tin_3 _ (List.mem_of_getElem? (i := 205) rfl), rfl⟩
theorem wd_3_206 : Cond.code yX11_telling cX11_telling 9 (some .int) ∈ tT := List.mem_filter.mpr ⟨tin_3 _ (List.mem_of_getElem? (i := 206) rfl), rfl⟩
theorem wd_3_207 : Cond.methodLink RX11 234 yX11_pairsWhenTold ∈ tT := List.mem_filter.mpr ⟨tin_3 _ (List.mem_of_getElem? (i := 207) rfl), rfl⟩
theorem wd_3_209 : Cond.instanceMethod yX11_pairsWhenTold ∈ tT := List.mem_filter.mpr ⟨tin_3 _ (List.mem_of_getElem? (i := 209) rfl), rfl⟩
theorem wd_3_210 : Cond.code yX11_pairsWhenTold cX11_pairsWhenTold 6 (some .int) ∈ tT := List.mem_filter.mpr ⟨tin_3 _ (List.mem_of_getElem? (i := 210) rfl), rfl⟩
theorem wd_3_211 : Cond.methodLink RL 141 yX11_odds ∈ tT := List.mem_filter.mpr ⟨tin_3 _ (List.mem_of_getElem? (i := 211) rfl), rfl⟩
theorem wd_3_212 : Cond.instanceMethod yX11_odds ∈ tT := List.mem_filter.mpr ⟨tin_3 _ (List.mem_of_getElem? (i := 212) rfl), rfl⟩
theorem wd_3_213 : Cond.selects RX11 yX11_odds yX11_odds ∈ tT := List.mem_filter.mpr ⟨tin_3 _ (List.mem_of_getElem? (i := 213) rfl), rfl⟩
theorem wd_3_214 : Cond.code yX11_odds cX11_odds 5 (some .long) ∈ tT := List.mem_filter.mpr ⟨tin_3 _ (List.mem_of_getElem? (i := 214) rfl), rfl⟩
theorem wd_3_215 : Cond.methodLink RX11 237 yX11_pairsInGrip ∈ tT := List.mem_filter.mpr ⟨tin_3 _ (List.mem_of_getElem? (i := 215) rfl), rfl⟩
theorem wd_3_217 : Cond.instanceMethod yX11_pairsInGrip ∈ tT := List.mem_filter.mpr ⟨tin_3 _ (List.mem_of_getElem? (i := 217) rfl), rfl⟩
theorem wd_3_218 : Cond.code yX11_pairsInGrip cX11_pairsInGrip 2 (some .int) ∈ tT := List.mem_filter.mpr ⟨tin_3 _ (List.mem_of_getElem? (i := 218) rfl), rfl⟩
theorem wd_3_219 : Cond.methodLink RL 145 yX11_enough ∈ tT := List.mem_filter.mpr ⟨tin_3 _ (List.mem_of_getElem? (i := 219) rfl), rfl⟩
theorem wd_3_220 : Cond.instanceMethod yX11_enough ∈ tT := List.mem_filter.mpr ⟨tin_3 _ (List.mem_of_getElem? (i := 220) rfl), rfl⟩
theorem wd_3_221 : Cond.selects RX11 yX11_enough yX11_enough ∈ tT := List.mem_filter.mpr ⟨tin_3 _ (List.mem_of_getElem? (i := 221) rfl), rfl⟩
theorem wd_3_222 : Cond.code yX11_enough cX11_enough 6 (some .int) ∈ tT := List.mem_filter.mpr ⟨tin_3 _ (List.mem_of_getElem? (i := 222) rfl), rfl⟩
theorem wd_3_223 : Cond.methodLink RL 149 yX11_heap ∈ tT := List.mem_filter.mpr ⟨tin_3 _ (List.mem_of_getElem? (i := 223) rfl), rfl⟩
theorem wd_3_224 : Cond.instanceMethod yX11_heap ∈ tT := List.mem_filter.mpr ⟨tin_3 _ (List.mem_of_getElem? (i := 224) rfl), rfl⟩
theorem wd_3_225 : Cond.selects RX11 yX11_heap yX11_heap ∈ tT := List.mem_filter.mpr ⟨tin_3 _ (List.mem_of_getElem? (i := 225) rfl), rfl⟩
theorem wd_3_226 : Cond.code yX11_heap cX11_heap 8 (some .int) ∈ tT := List.mem_filter.mpr ⟨tin_3 _ (List.mem_of_getElem? (i := 226) rfl), rfl⟩
theorem wd_3_227 : Cond.methodLink RX11 240 yX11_firstForged ∈ tT := List.mem_filter.mpr ⟨tin_3 _ (List.mem_of_getElem? (i := 227) rfl), rfl⟩
theorem wd_3_229 : Cond.instanceMethod yX11_firstForged ∈ tT := List.mem_filter.mpr ⟨tin_3 _ (List.mem_of_getElem? (i := 229) rfl), rfl⟩
theorem wd_3_230 : Cond.code yX11_firstForged cX11_firstForged 4 (some .int) ∈ tT := List.mem_filter.mpr ⟨tin_3 _ (List.mem_of_getElem? (i := 230) rfl), rfl⟩
theorem wd_3_231 : Cond.methodLink RX11 247 yX11_leastForceThatFits ∈ tT := List.mem_filter.mpr ⟨tin_3 _ (List.mem_of_getElem? (i := 231) rfl), rfl⟩
theorem wd_3_233 : Cond.instanceMethod yX11_leastForceThatFits ∈ tT := List.mem_filter.mpr ⟨tin_3 _ (List.mem_of_getElem? (i := 233) rfl), rfl⟩
theorem wd_3_234 : Cond.code yX11_leastForceThatFits cX11_leastForceThatFits 4 (some .int) ∈ tT := List.mem_filter.mpr ⟨tin_3 _ (List.mem_of_getElem? (i := 234) rfl), rfl⟩
theorem wd_3_235 : Cond.methodLink RX11 250 yX11_forcesThatFit ∈ tT := List.mem_filter.mpr ⟨tin_3 _ (List.mem_of_getElem? (i := 235) rfl), rfl⟩
theorem wd_3_237 : Cond.instanceMethod yX11_forcesThatFit ∈ tT := List.mem_filter.mpr ⟨tin_3 _ (List.mem_of_getElem? (i := 237) rfl), rfl⟩
theorem wd_3_238 : Cond.code yX11_forcesThatFit cX11_forcesThatFit 5 (some .int) ∈ tT := List.mem_filter.mpr ⟨tin_3 _ (List.mem_of_getElem? (i := 238) rfl), rfl⟩
theorem wd_3_239 : Cond.methodLink RL 153 yX11_forged ∈ tT := List.mem_filter.mpr ⟨tin_3 _ (List.mem_of_getElem? (i := 239) rfl), rfl⟩
theorem wd_4_0 : Cond.instanceMethod yX11_forged ∈ tT := List.mem_filter.mpr ⟨tin_4 _ (List.mem_of_getElem? (i := 0) rfl), rfl⟩
theorem wd_4_1 : Cond.selects RX11 yX11_forged yX11_forged ∈ tT := List.mem_filter.mpr ⟨tin_4 _ (List.mem_of_getElem? (i := 1) rfl), rfl⟩
theorem wd_4_2 : Cond.code yX11_forged cX11_forged 4 (some .int) ∈ tT := List.mem_filter.mpr ⟨tin_4 _ (List.mem_of_getElem? (i := 2) rfl), rfl⟩
theorem wd_4_3 : Cond.methodLink RL 157 yX11_remainder ∈ tT := List.mem_filter.mpr ⟨tin_4 _ (List.mem_of_getElem? (i := 3) rfl), rfl⟩
theorem wd_4_4 : Cond.instanceMethod yX11_remainder ∈ tT := List.mem_filter.mpr ⟨tin_4 _ (List.mem_of_getElem? (i := 4) rfl), rfl⟩
theorem wd_4_5 : Cond.selects RX11 yX11_remainder yX11_remainder ∈ tT := List.mem_filter.mpr ⟨tin_4 _ (List.mem_of_getElem? (i := 5) rfl), rfl⟩
theorem wd_4_6 : Cond.code yX11_remainder cX11_remainder 7 (some .int) ∈ tT := List.mem_filter.mpr ⟨tin_4 _ (List.mem_of_getElem? (i := 6) rfl), rfl⟩
theorem wd_4_7 : Cond.constant RX11 253 (1000000000) ∈ tT := List.mem_filter.mpr ⟨tin_4 _ (List.mem_of_getElem? (i := 7) rfl), rfl⟩
theorem wd_4_8 : Cond.methodLink RX11 254 yX4_hasPlace ∈ tT := List.mem_filter.mpr ⟨tin_4 _ (List.mem_of_getElem? (i := 8) rfl), rfl⟩
theorem wd_4_9 : Cond.constant RX11 257 (1000000013) ∈ tT := List.mem_filter.mpr ⟨tin_4 _ (List.mem_of_getElem? (i := 9) rfl), rfl⟩
theorem wd_4_10 : Cond.constant RX11 258 (1000000016) ∈ tT := List.mem_filter.mpr ⟨tin_4 _ (List.mem_of_getElem? (i := 10) rfl), rfl⟩
theorem wd_4_11 : Cond.methodLink RL 161 yX11_judge ∈ tT := List.mem_filter.mpr ⟨tin_4 _ (List.mem_of_getElem? (i := 11) rfl), rfl⟩
theorem wd_4_12 : Cond.instanceMethod yX11_judge ∈ tT := List.mem_filter.mpr ⟨tin_4 _ (List.mem_of_getElem? (i := 12) rfl), rfl⟩
theorem wd_4_13 : Cond.selects RX11 yX11_judge yX11_judge ∈ tT := List.mem_filter.mpr ⟨tin_4 _ (List.mem_of_getElem? (i := 13) rfl), rfl⟩
theorem wd_4_14 : Cond.code yX11_judge cX11_judge 11 (some .int) ∈ tT := List.mem_filter.mpr ⟨tin_4 _ (List.mem_of_getElem? (i := 14) rfl), rfl⟩
theorem wd_4_15 : Cond.methodLink RX11 259 yX11_rowsRefusal ∈ tT := List.mem_filter.mpr ⟨tin_4 _ (List.mem_of_getElem? (i := 15) rfl), rfl⟩
theorem wd_4_17 : Cond.instanceMethod yX11_rowsRefusal ∈ tT := List.mem_filter.mpr ⟨tin_4 _ (List.mem_of_getElem? (i := 17) rfl), rfl⟩
theorem wd_4_18 : Cond.code yX11_rowsRefusal cX11_rowsRefusal 5 (some .int) ∈ tT := List.mem_filter.mpr ⟨tin_4 _ (List.mem_of_getElem? (i := 18) rfl), rfl⟩
theorem wd_4_19 : Cond.methodLink RX11 262 yX11_firstNotSo ∈ tT := List.mem_filter.mpr ⟨tin_4 _ (List.mem_of_getElem? (i := 19) rfl), rfl⟩
theorem wd_4_21 : Cond.instanceMethod yX11_firstNotSo ∈ tT := List.mem_filter.mpr ⟨tin_4 _ (List.mem_of_getElem? (i := 21) rfl), rfl⟩
theorem wd_4_22 : Cond.code yX11_firstNotSo cX11_firstNotSo 11 (some .int) ∈ tT := List.mem_filter.mpr ⟨tin_4 _ (List.mem_of_getElem? (i := 22) rfl), rfl⟩
theorem wd_4_23 : Cond.methodLink RX11 392 yX4_leastOfSort ∈ tT := List.mem_filter.mpr ⟨tin_4 _ (List.mem_of_getElem? (i := 23) rfl), rfl⟩
theorem wd_4_24 : Cond.instanceMethod yX4_leastOfSort ∈ tT := List.mem_filter.mpr ⟨tin_4 _ (List.mem_of_getElem? (i := 24) rfl), rfl⟩
theorem wd_4_25 : Cond.selects RX4 yX4_leastOfSort yX4_leastOfSort ∈ tT := List.mem_filter.mpr ⟨tin_4 _ (List.mem_of_getElem? (i := 25) rfl), rfl⟩
theorem wd_4_26 : Cond.code yX4_leastOfSort cX4_leastOfSort 1 (some .int) ∈ tT := List.mem_filter.mpr ⟨tin_4 _ (List.mem_of_getElem? (i := 26) rfl), rfl⟩
theorem wd_4_27 : Cond.constant RX4 39 (-2147483648) ∈ tT := List.mem_filter.mpr ⟨tin_4 _ (List.mem_of_getElem? (i := 27) rfl), rfl⟩
theorem wd_4_28 : Cond.methodLink RL 165 yX11_walks ∈ tT := List.mem_filter.mpr ⟨tin_4 _ (List.mem_of_getElem? (i := 28) rfl), rfl⟩
theorem wd_4_29 : Cond.instanceMethod yX11_walks ∈ tT := List.mem_filter.mpr ⟨tin_4 _ (List.mem_of_getElem? (i := 29) rfl), rfl⟩
theorem wd_4_30 : Cond.selects RX11 yX11_walks yX11_walks ∈ tT := List.mem_filter.mpr ⟨tin_4 _ (List.mem_of_getElem? (i := 30) rfl), rfl⟩
theorem wd_4_31 : Cond.code yX11_walks cX11_walks 7 (some .int) ∈ tT := List.mem_filter.mpr ⟨tin_4 _ (List.mem_of_getElem? (i := 31) rfl), rfl⟩
theorem wd_4_32 : Cond.methodLink RX11 269 yX11_walkOnSpare ∈ tT := List.mem_filter.mpr ⟨tin_4 _ (List.mem_of_getElem? (i := 32) rfl), rfl⟩
theorem wd_4_34 : Cond.instanceMethod yX11_walkOnSpare ∈ tT := List.mem_filter.mpr ⟨tin_4 _ (List.mem_of_getElem? (i := 34) rfl), rfl⟩
theorem wd_4_35 : Cond.code yX11_walkOnSpare cX11_walkOnSpare 8 (some .int) ∈ tT := List.mem_filter.mpr ⟨tin_4 _ (List.mem_of_getElem? (i := 35) rfl), rfl⟩
theorem wd_4_36 : Cond.methodLink RX11 395 yX11_draw ∈ tT := List.mem_filter.mpr ⟨tin_4 _ (List.mem_of_getElem? (i := 36) rfl), rfl⟩
theorem wd_4_38 : Cond.instanceMethod yX11_draw ∈ tT := List.mem_filter.mpr ⟨tin_4 _ (List.mem_of_getElem? (i := 38) rfl), rfl⟩
theorem wd_4_39 : Cond.code yX11_draw cX11_draw 3 (some .int) ∈ tT := List.mem_filter.mpr ⟨tin_4 _ (List.mem_of_getElem? (i := 39) rfl), rfl⟩
theorem wd_4_40 : Cond.constant RX11 398 (1103515245) ∈ tT := List.mem_filter.mpr ⟨tin_4 _ (List.mem_of_getElem? (i := 40) rfl), rfl⟩
theorem wd_4_41 : Cond.constant RX11 399 (2147483647) ∈ tT := List.mem_filter.mpr ⟨tin_4 _ (List.mem_of_getElem? (i := 41) rfl), rfl⟩
theorem wd_4_42 : Cond.constant RX11 400 (65536) ∈ tT := List.mem_filter.mpr ⟨tin_4 _ (List.mem_of_getElem? (i := 42) rfl), rfl⟩
theorem wd_4_43 : Cond.methodLink RX11 272 yX3_splitBits ∈ tT := List.mem_filter.mpr ⟨tin_4 _ (List.mem_of_getElem? (i := 43) rfl), rfl⟩
theorem wd_4_44 : Cond.instanceMethod yX3_splitBits ∈ tT := List.mem_filter.mpr ⟨tin_4 _ (List.mem_of_getElem? (i := 44) rfl), rfl⟩
theorem wd_4_45 : Cond.selects RX3 yX3_splitBits yX3_splitBits ∈ tT := List.mem_filter.mpr ⟨tin_4 _ (List.mem_of_getElem? (i := 45) rfl), rfl⟩
theorem wd_4_46 : Cond.code yX3_splitBits cX3_splitBits 3 (some .int) ∈ tT := List.mem_filter.mpr ⟨tin_4 _ (List.mem_of_getElem? (i := 46) rfl), rfl⟩
theorem wd_4_47 : Cond.methodLink RX3 73 yX3_isSplit ∈ tT := List.mem_filter.mpr ⟨tin_4 _ (List.mem_of_getElem? (i := 47) rfl), rfl⟩
theorem wd_4_48 : Cond.methodLink RX11 275 yJ6_bitCount_0f7a4 ∈ tT := List.mem_filter.mpr ⟨tin_4 _ (List.mem_of_getElem? (i := 48) rfl), rfl⟩
theorem wd_4_49 : Cond.static yJ6_bitCount_0f7a4 ∈ tT := List.mem_filter.mpr ⟨tin_4 _ (List.mem_of_getElem? (i := 49) rfl), rfl⟩
theorem wd_4_50 : Cond.code yJ6_bitCount_0f7a4 cJ6_bitCount_0f7a4 1 (some .int) ∈ tT := List.mem_filter.mpr ⟨tin_4 _ (List.mem_of_getElem? (i := 50) rfl), rfl⟩
theorem wd_4_51 : Cond.constant RJ6 265 (1431655765) ∈ tT := List.mem_filter.mpr ⟨tin_4 _ (List.mem_of_getElem? (i := 51) rfl), rfl⟩
theorem wd_4_52 : Cond.constant RJ6 266 (858993459) ∈ tT := List.mem_filter.mpr ⟨tin_4 _ (List.mem_of_getElem? (i := 52) rfl), rfl⟩
theorem wd_4_53 : Cond.constant RJ6 267 (252645135) ∈ tT := List.mem_filter.mpr ⟨tin_4 _ (List.mem_of_getElem? (i := 53) rfl), rfl⟩
theorem wd_4_54 : Cond.methodLink RL 169 yX11_image ∈ tT := List.mem_filter.mpr ⟨tin_4 _ (List.mem_of_getElem? (i := 54) rfl), rfl⟩
theorem wd_4_55 : Cond.instanceMethod yX11_image ∈ tT := List.mem_filter.mpr ⟨tin_4 _ (List.mem_of_getElem? (i := 55) rfl), rfl⟩
theorem wd_4_56 : Cond.selects RX11 yX11_image yX11_image ∈ tT := List.mem_filter.mpr ⟨tin_4 _ (List.mem_of_getElem? (i := 56) rfl), rfl⟩
theorem wd_4_57 : Cond.code yX11_image cX11_image 1 (some .int) ∈ tT := List.mem_filter.mpr ⟨tin_4 _ (List.mem_of_getElem? (i := 57) rfl), rfl⟩
theorem wd_4_58 : Cond.methodLink RL 173 yX11_restore ∈ tT := List.mem_filter.mpr ⟨tin_4 _ (List.mem_of_getElem? (i := 58) rfl), rfl⟩
theorem wd_4_59 : Cond.instanceMethod yX11_restore ∈ tT := List.mem_filter.mpr ⟨tin_4 _ (List.mem_of_getElem? (i := 59) rfl), rfl⟩
theorem wd_4_60 : Cond.selects RX11 yX11_restore yX11_restore ∈ tT := List.mem_filter.mpr ⟨tin_4 _ (List.mem_of_getElem? (i := 60) rfl), rfl⟩
theorem wd_4_61 : Cond.code yX11_restore cX11_restore 1 (some .int) ∈ tT := List.mem_filter.mpr ⟨tin_4 _ (List.mem_of_getElem? (i := 61) rfl), rfl⟩
theorem wd_4_62 : Cond.methodLink RL 177 yX11_count ∈ tT := List.mem_filter.mpr ⟨tin_4 _ (List.mem_of_getElem? (i := 62) rfl), rfl⟩
theorem wd_4_63 : Cond.instanceMethod yX11_count ∈ tT := List.mem_filter.mpr ⟨tin_4 _ (List.mem_of_getElem? (i := 63) rfl), rfl⟩
theorem wd_4_64 : Cond.selects RX11 yX11_count yX11_count ∈ tT := List.mem_filter.mpr ⟨tin_4 _ (List.mem_of_getElem? (i := 64) rfl), rfl⟩
theorem wd_4_65 : Cond.code yX11_count cX11_count 2 (some .int) ∈ tT := List.mem_filter.mpr ⟨tin_4 _ (List.mem_of_getElem? (i := 65) rfl), rfl⟩
theorem wd_4_66 : Cond.methodLink RX11 284 yX11_sumOf ∈ tT := List.mem_filter.mpr ⟨tin_4 _ (List.mem_of_getElem? (i := 66) rfl), rfl⟩
theorem wd_4_67 : Cond.static yX11_sumOf ∈ tT := List.mem_filter.mpr ⟨tin_4 _ (List.mem_of_getElem? (i := 67) rfl), rfl⟩
theorem wd_4_68 : Cond.code yX11_sumOf cX11_sumOf 4 (some .int) ∈ tT := List.mem_filter.mpr ⟨tin_4 _ (List.mem_of_getElem? (i := 68) rfl), rfl⟩
theorem wd_4_69 : Cond.methodLink RL 181 yX11_keep ∈ tT := List.mem_filter.mpr ⟨tin_4 _ (List.mem_of_getElem? (i := 69) rfl), rfl⟩
theorem wd_4_70 : Cond.instanceMethod yX11_keep ∈ tT := List.mem_filter.mpr ⟨tin_4 _ (List.mem_of_getElem? (i := 70) rfl), rfl⟩
theorem wd_4_71 : Cond.selects RX11 yX11_keep yX11_keep ∈ tT := List.mem_filter.mpr ⟨tin_4 _ (List.mem_of_getElem? (i := 71) rfl), rfl⟩
theorem wd_4_72 : Cond.code yX11_keep cX11_keep 6 (some .int) ∈ tT := List.mem_filter.mpr ⟨tin_4 _ (List.mem_of_getElem? (i := 72) rfl), rfl⟩
theorem wd_4_73 : Cond.methodLink RX11 288 yX4_holdNothing ∈ tT := List.mem_filter.mpr ⟨tin_4 _ (List.mem_of_getElem? (i := 73) rfl), rfl⟩
theorem wd_4_74 : Cond.instanceMethod yX4_holdNothing ∈ tT := List.mem_filter.mpr ⟨tin_4 _ (List.mem_of_getElem? (i := 74) rfl), rfl⟩
theorem wd_4_75 : Cond.selects RX4 yX4_holdNothing yX4_holdNothing ∈ tT := List.mem_filter.mpr ⟨tin_4 _ (List.mem_of_getElem? (i := 75) rfl), rfl⟩
theorem wd_4_76 : Cond.code yX4_holdNothing cX4_holdNothing 1 none ∈ tT := List.mem_filter.mpr ⟨tin_4 _ (List.mem_of_getElem? (i := 76) rfl), rfl⟩
theorem wd_4_77 : Cond.methodLink RX11 295 yX4_holdBlow ∈ tT := List.mem_filter.mpr ⟨tin_4 _ (List.mem_of_getElem? (i := 77) rfl), rfl⟩
theorem wd_4_78 : Cond.instanceMethod yX4_holdBlow ∈ tT := List.mem_filter.mpr ⟨tin_4 _ (List.mem_of_getElem? (i := 78) rfl), rfl⟩
theorem wd_4_79 : Cond.selects RX4 yX4_holdBlow yX4_holdBlow ∈ tT := List.mem_filter.mpr ⟨tin_4 _ (List.mem_of_getElem? (i := 79) rfl), rfl⟩
theorem wd_4_80 : Cond.code yX4_holdBlow cX4_holdBlow 2 none ∈ tT := List.mem_filter.mpr ⟨tin_4 _ (List.mem_of_getElem? (i := 80) rfl), rfl⟩
theorem wd_4_81 : Cond.methodLink RX4 27 yX4_holdNothing ∈ tT := List.mem_filter.mpr ⟨tin_4 _ (List.mem_of_getElem? (i := 81) rfl), rfl⟩
theorem wd_4_82 : Cond.methodLink RL 185 yX11_row ∈ tT := List.mem_filter.mpr ⟨tin_4 _ (List.mem_of_getElem? (i := 82) rfl), rfl⟩
theorem wd_4_83 : Cond.instanceMethod yX11_row ∈ tT := List.mem_filter.mpr ⟨tin_4 _ (List.mem_of_getElem? (i := 83) rfl), rfl⟩
theorem wd_4_84 : Cond.selects RX11 yX11_row yX11_row ∈ tT := List.mem_filter.mpr ⟨tin_4 _ (List.mem_of_getElem? (i := 84) rfl), rfl⟩
theorem wd_4_85 : Cond.code yX11_row cX11_row 4 (some .int) ∈ tT := List.mem_filter.mpr ⟨tin_4 _ (List.mem_of_getElem? (i := 85) rfl), rfl⟩
theorem wd_4_86 : Cond.methodLink RX11 299 yX4_holdRow ∈ tT := List.mem_filter.mpr ⟨tin_4 _ (List.mem_of_getElem? (i := 86) rfl), rfl⟩
theorem wd_4_87 : Cond.instanceMethod yX4_holdRow ∈ tT := List.mem_filter.mpr ⟨tin_4 _ (List.mem_of_getElem? (i := 87) rfl), rfl⟩
theorem wd_4_88 : Cond.selects RX4 yX4_holdRow yX4_holdRow ∈ tT := List.mem_filter.mpr ⟨tin_4 _ (List.mem_of_getElem? (i := 88) rfl), rfl⟩
theorem wd_4_89 : Cond.code yX4_holdRow cX4_holdRow 3 none ∈ tT := List.mem_filter.mpr ⟨tin_4 _ (List.mem_of_getElem? (i := 89) rfl), rfl⟩
theorem wd_4_90 : Cond.methodLink RX4 33 yJ7_fill_53178 ∈ tT := List.mem_filter.mpr ⟨tin_4 _ (List.mem_of_getElem? (i := 90) rfl), rfl⟩
theorem wd_4_91 : Cond.static yJ7_fill_53178 ∈ tT := List.mem_filter.mpr ⟨tin_4 _ (List.mem_of_getElem? (i := 91) rfl), rfl⟩
theorem wd_4_92 : Cond.code yJ7_fill_53178 cJ7_fill_53178 4 none ∈ tT := List.mem_filter.mpr ⟨tin_4 _ (List.mem_of_getElem? (i := 92) rfl), rfl⟩
theorem wd_4_93 : Cond.methodLink RL 189 yX11_put ∈ tT := List.mem_filter.mpr ⟨tin_4 _ (List.mem_of_getElem? (i := 93) rfl), rfl⟩
theorem wd_4_94 : Cond.instanceMethod yX11_put ∈ tT := List.mem_filter.mpr ⟨tin_4 _ (List.mem_of_getElem? (i := 94) rfl), rfl⟩
theorem wd_4_95 : Cond.selects RX11 yX11_put yX11_put ∈ tT := List.mem_filter.mpr ⟨tin_4 _ (List.mem_of_getElem? (i := 95) rfl), rfl⟩
theorem wd_4_96 : Cond.code yX11_put cX11_put 6 (some .int) ∈ tT := List.mem_filter.mpr ⟨tin_4 _ (List.mem_of_getElem? (i := 96) rfl), rfl⟩
theorem wd_4_97 : Cond.methodLink RX11 303 yX4_cutToSort ∈ tT := List.mem_filter.mpr ⟨tin_4 _ (List.mem_of_getElem? (i := 97) rfl), rfl⟩
theorem wd_4_98 : Cond.instanceMethod yX4_cutToSort ∈ tT := List.mem_filter.mpr ⟨tin_4 _ (List.mem_of_getElem? (i := 98) rfl), rfl⟩
theorem wd_4_99 : Cond.selects RX4 yX4_cutToSort yX4_cutToSort ∈ tT := List.mem_filter.mpr ⟨tin_4 _ (List.mem_of_getElem? (i := 99) rfl), rfl⟩
theorem wd_4_100 : Cond.code yX4_cutToSort cX4_cutToSort 2 (some .int) ∈ tT := List.mem_filter.mpr ⟨tin_4 _ (List.mem_of_getElem? (i := 100) rfl), rfl⟩
theorem wd_4_101 : Cond.methodLink RL 202 yX11_copy ∈ tT := List.mem_filter.mpr ⟨tin_4 _ (List.mem_of_getElem? (i := 101) rfl), rfl⟩
theorem wd_4_102 : Cond.instanceMethod yX11_copy ∈ tT := List.mem_filter.mpr ⟨tin_4 _ (List.mem_of_getElem? (i := 102) rfl), rfl⟩
theorem wd_4_103 : Cond.selects RX11 yX11_copy yX11_copy ∈ tT := List.mem_filter.mpr ⟨tin_4 _ (List.mem_of_getElem? (i := 103) rfl), rfl⟩
theorem wd_4_104 : Cond.code yX11_copy cX11_copy 9 (some .int) ∈ tT := List.mem_filter.mpr ⟨tin_4 _ (List.mem_of_getElem? (i := 104) rfl), rfl⟩
theorem wd_4_105 : Cond.methodLink RX11 321 yX4_hasPlaces ∈ tT := List.mem_filter.mpr ⟨tin_4 _ (List.mem_of_getElem? (i := 105) rfl), rfl⟩
theorem wd_4_106 : Cond.instanceMethod yX4_hasPlaces ∈ tT := List.mem_filter.mpr ⟨tin_4 _ (List.mem_of_getElem? (i := 106) rfl), rfl⟩
theorem wd_4_107 : Cond.selects RX4 yX4_hasPlaces yX4_hasPlaces ∈ tT := List.mem_filter.mpr ⟨tin_4 _ (List.mem_of_getElem? (i := 107) rfl), rfl⟩
theorem wd_4_108 : Cond.code yX4_hasPlaces cX4_hasPlaces 3 (some .boolean) ∈ tT := List.mem_filter.mpr ⟨tin_4 _ (List.mem_of_getElem? (i := 108) rfl), rfl⟩
theorem wd_4_109 : Cond.methodLink RX11 325 ⟨"java/lang/System", "arraycopy", "(Ljava/lang/Object;ILjava/lang/Object;II)V"⟩ ∈ tT := List.mem_filter.mpr ⟨tin_4 _ (List.mem_of_getElem? (i := 109) rfl), rfl⟩
theorem wd_4_110 : Cond.methodLink RL 206 yX11_cost ∈ tT := List.mem_filter.mpr ⟨tin_4 _ (List.mem_of_getElem? (i := 110) rfl), rfl⟩
theorem wd_4_111 : Cond.instanceMethod yX11_cost ∈ tT := List.mem_filter.mpr ⟨tin_4 _ (List.mem_of_getElem? (i := 111) rfl), rfl⟩
theorem wd_4_112 : Cond.selects RX11 yX11_cost yX11_cost ∈ tT := List.mem_filter.mpr ⟨tin_4 _ (List.mem_of_getElem? (i := 112) rfl), rfl⟩
theorem wd_4_113 : Cond.code yX11_cost cX11_cost 3 (some .int) ∈ tT := List.mem_filter.mpr ⟨tin_4 _ (List.mem_of_getElem? (i := 113) rfl), rfl⟩
theorem wd_4_114 : Cond.methodLink RX11 331 yX0_costs ∈ tT := List.mem_filter.mpr ⟨tin_4 _ (List.mem_of_getElem? (i := 114) rfl), rfl⟩
theorem wd_4_115 : Cond.instanceMethod yX0_costs ∈ tT := List.mem_filter.mpr ⟨tin_4 _ (List.mem_of_getElem? (i := 115) rfl), rfl⟩
theorem wd_4_116 : Cond.selects RX0 yX0_costs yX0_costs ∈ tT := List.mem_filter.mpr ⟨tin_4 _ (List.mem_of_getElem? (i := 116) rfl), rfl⟩
theorem wd_4_117 : Cond.sameMethod "BladeBetweenThumbs$Blow" "BladeBetweenThumbs$Blow" "costs" "()I" ∈ tT := List.mem_filter.mpr ⟨tin_4 _ (List.mem_of_getElem? (i := 117) rfl), rfl⟩
theorem wd_4_118 : Cond.selects RX1 yX0_costs yX1_costs ∈ tT := List.mem_filter.mpr ⟨tin_4 _ (List.mem_of_getElem? (i := 118) rfl), rfl⟩
theorem wd_4_119 : Cond.instanceMethod yX1_costs ∈ tT := List.mem_filter.mpr ⟨tin_4 _ (List.mem_of_getElem? (i := 119) rfl), rfl⟩
theorem wd_4_120 : Cond.code yX1_costs cX1_costs 1 (some .int) ∈ tT := List.mem_filter.mpr ⟨tin_4 _ (List.mem_of_getElem? (i := 120) rfl), rfl⟩
theorem wd_4_121 : Cond.methodLink RX1 11 yX8_costs ∈ tT := List.mem_filter.mpr ⟨tin_4 _ (List.mem_of_getElem? (i := 121) rfl), rfl⟩
theorem wd_4_122 : Cond.instanceMethod yX8_costs ∈ tT := List.mem_filter.mpr ⟨tin_4 _ (List.mem_of_getElem? (i := 122) rfl), rfl⟩
theorem wd_4_123 : Cond.code yX8_costs cX8_costs 1 (some .int) ∈ tT := List.mem_filter.mpr ⟨tin_4 _ (List.mem_of_getElem? (i := 123) rfl), rfl⟩
theorem wd_4_124 : Cond.methodLink RX8 20 yX0_costs ∈ tT := List.mem_filter.mpr ⟨tin_4 _ (List.mem_of_getElem? (i := 124) rfl), rfl⟩
theorem wd_4_125 : Cond.selects RX2 yX0_costs yX2_costs ∈ tT := List.mem_filter.mpr ⟨tin_4 _ (List.mem_of_getElem? (i := 125) rfl), rfl⟩
theorem wd_4_126 : Cond.instanceMethod yX2_costs ∈ tT := List.mem_filter.mpr ⟨tin_4 _ (List.mem_of_getElem? (i := 126) rfl), rfl⟩
theorem wd_4_127 : Cond.code yX2_costs cX2_costs 1 (some .int) ∈ tT := List.mem_filter.mpr ⟨tin_4 _ (List.mem_of_getElem? (i := 127) rfl), rfl⟩
theorem wd_4_128 : Cond.methodLink RX2 9 yX0_costs ∈ tT := List.mem_filter.mpr ⟨tin_4 _ (List.mem_of_getElem? (i := 128) rfl), rfl⟩
theorem wd_4_129 : Cond.selects RX5 yX0_costs yX5_costs ∈ tT := List.mem_filter.mpr ⟨tin_4 _ (List.mem_of_getElem? (i := 129) rfl), rfl⟩
theorem wd_4_130 : Cond.instanceMethod yX5_costs ∈ tT := List.mem_filter.mpr ⟨tin_4 _ (List.mem_of_getElem? (i := 130) rfl), rfl⟩
theorem wd_4_131 : Cond.code yX5_costs cX5_costs 1 (some .int) ∈ tT := List.mem_filter.mpr ⟨tin_4 _ (List.mem_of_getElem? (i := 131) rfl), rfl⟩
theorem wd_4_132 : Cond.methodLink RX5 25 yX8_costs ∈ tT := List.mem_filter.mpr ⟨tin_4 _ (List.mem_of_getElem? (i := 132) rfl), rfl⟩
theorem wd_4_133 : Cond.selects RX6 yX0_costs yX6_costs ∈ tT := List.mem_filter.mpr ⟨tin_4 _ (List.mem_of_getElem? (i := 133) rfl), rfl⟩
theorem wd_4_134 : Cond.instanceMethod yX6_costs ∈ tT := List.mem_filter.mpr ⟨tin_4 _ (List.mem_of_getElem? (i := 134) rfl), rfl⟩
theorem wd_4_135 : Cond.code yX6_costs cX6_costs 1 (some .int) ∈ tT := List.mem_filter.mpr ⟨tin_4 _ (List.mem_of_getElem? (i := 135) rfl), rfl⟩
theorem wd_4_136 : Cond.methodLink RX6 11 yX2_costs ∈ tT := List.mem_filter.mpr ⟨tin_4 _ (List.mem_of_getElem? (i := 136) rfl), rfl⟩
theorem wd_4_137 : Cond.selects RX7 yX0_costs yX7_costs ∈ tT := List.mem_filter.mpr ⟨tin_4 _ (List.mem_of_getElem? (i := 137) rfl), rfl⟩
theorem wd_4_138 : Cond.instanceMethod yX7_costs ∈ tT := List.mem_filter.mpr ⟨tin_4 _ (List.mem_of_getElem? (i := 138) rfl), rfl⟩
theorem wd_4_139 : Cond.code yX7_costs cX7_costs 1 (some .int) ∈ tT := List.mem_filter.mpr ⟨tin_4 _ (List.mem_of_getElem? (i := 139) rfl), rfl⟩
theorem wd_4_140 : Cond.methodLink RX7 18 yX1_costs ∈ tT := List.mem_filter.mpr ⟨tin_4 _ (List.mem_of_getElem? (i := 140) rfl), rfl⟩
theorem wd_4_141 : Cond.selects RX8 yX0_costs yX8_costs ∈ tT := List.mem_filter.mpr ⟨tin_4 _ (List.mem_of_getElem? (i := 141) rfl), rfl⟩
theorem wd_4_142 : Cond.selects RX10 yX0_costs yX10_costs ∈ tT := List.mem_filter.mpr ⟨tin_4 _ (List.mem_of_getElem? (i := 142) rfl), rfl⟩
theorem wd_4_143 : Cond.instanceMethod yX10_costs ∈ tT := List.mem_filter.mpr ⟨tin_4 _ (List.mem_of_getElem? (i := 143) rfl), rfl⟩
theorem wd_4_144 : Cond.code yX10_costs cX10_costs 1 (some .int) ∈ tT := List.mem_filter.mpr ⟨tin_4 _ (List.mem_of_getElem? (i := 144) rfl), rfl⟩
theorem wd_4_145 : Cond.methodLink RX10 24 yX0_costs ∈ tT := List.mem_filter.mpr ⟨tin_4 _ (List.mem_of_getElem? (i := 145) rfl), rfl⟩
theorem wd_4_146 : Cond.code yX0_costs cX0_costs 1 (some .int) ∈ tT := List.mem_filter.mpr ⟨tin_4 _ (List.mem_of_getElem? (i := 146) rfl), rfl⟩
theorem wd_4_147 : Cond.methodLink RL 210 yX11_toss ∈ tT := List.mem_filter.mpr ⟨tin_4 _ (List.mem_of_getElem? (i := 147) rfl), rfl⟩
theorem wd_4_148 : Cond.instanceMethod yX11_toss ∈ tT := List.mem_filter.mpr ⟨tin_4 _ (List.mem_of_getElem? (i := 148) rfl), rfl⟩
theorem wd_4_149 : Cond.selects RX11 yX11_toss yX11_toss ∈ tT := List.mem_filter.mpr ⟨tin_4 _ (List.mem_of_getElem? (i := 149) rfl), rfl⟩
theorem wd_4_151 : Cond.classLink RX11 316 "java/lang/IllegalStateException" ∈ tT := List.mem_filter.mpr ⟨tin_4 _ (List.mem_of_getElem? (i := 151) rfl), rfl⟩
theorem wd_4_152 : Cond.classLink RX11 306 "java/lang/IllegalArgumentException" ∈ tT := List.mem_filter.mpr ⟨tin_4 _ (List.mem_of_getElem? (i := 152) rfl), rfl⟩
theorem wd_4_153 : Cond.classLink RX11 337 "java/lang/UnsupportedOperationException" ∈ tT := List.mem_filter.mpr ⟨tin_4 _ (List.mem_of_getElem? (i := 153) rfl), rfl⟩
theorem wd_4_154 : Cond.methodLink RX11 334 yX0_fail ∈ tT := List.mem_filter.mpr ⟨tin_4 _ (List.mem_of_getElem? (i := 154) rfl), rfl⟩
theorem wd_4_155 : Cond.instanceMethod yX0_fail ∈ tT := List.mem_filter.mpr ⟨tin_4 _ (List.mem_of_getElem? (i := 155) rfl), rfl⟩
theorem wd_4_156 : Cond.selects RX0 yX0_fail yX0_fail ∈ tT := List.mem_filter.mpr ⟨tin_4 _ (List.mem_of_getElem? (i := 156) rfl), rfl⟩
theorem wd_4_157 : Cond.sameMethod "BladeBetweenThumbs$Blow" "BladeBetweenThumbs$Blow" "fail" "()V" ∈ tT := List.mem_filter.mpr ⟨tin_4 _ (List.mem_of_getElem? (i := 157) rfl), rfl⟩
theorem wd_4_158 : Cond.selects RX1 yX0_fail yX8_fail ∈ tT := List.mem_filter.mpr ⟨tin_4 _ (List.mem_of_getElem? (i := 158) rfl), rfl⟩
theorem wd_4_159 : Cond.instanceMethod yX8_fail ∈ tT := List.mem_filter.mpr ⟨tin_4 _ (List.mem_of_getElem? (i := 159) rfl), rfl⟩
theorem wd_4_160 : Cond.code yX8_fail cX8_fail 1 none ∈ tT := List.mem_filter.mpr ⟨tin_4 _ (List.mem_of_getElem? (i := 160) rfl), rfl⟩
theorem wd_4_161 : Cond.classLink RX8 30 "java/lang/IllegalArgumentException" ∈ tT := List.mem_filter.mpr ⟨tin_4 _ (List.mem_of_getElem? (i := 161) rfl), rfl⟩
theorem wd_4_162 : Cond.instantiable "java/lang/IllegalArgumentException" 6 ∈ tT := List.mem_filter.mpr ⟨tin_4 _ (List.mem_of_getElem? (i := 162) rfl), rfl⟩
theorem wd_4_170 : Cond.selects "java/lang/IllegalArgumentException" ⟨"java/lang/Throwable", "fillInStackTrace", "(I)Ljava/lang/Throwable;"⟩ ⟨"java/lang/Throwable", "fillInStackTrace", "(I)Ljava/lang/Throwable;"⟩ ∈ tT := List.mem_filter.mpr ⟨tin_4 _ (List.mem_of_getElem? (i := 170) rfl), rfl⟩
theorem wd_4_171 : Cond.selects "java/lang/IllegalArgumentException" ⟨"java/lang/Throwable", "fillInStackTrace", "()Ljava/lang/Throwable;"⟩ ⟨"java/lang/Throwable", "fillInStackTrace", "()Ljava/lang/Throwable;"⟩ ∈ tT := List.mem_filter.mpr ⟨tin_4 _ (List.mem_of_getElem? (i := 171) rfl), rfl⟩
theorem wd_4_172 : Cond.lays "java/lang/IllegalArgumentException" "java/lang/Throwable" "cause" "Ljava/lang/Throwable;" ∈ tT := List.mem_filter.mpr ⟨tin_4 _ (List.mem_of_getElem? (i := 172) rfl), rfl⟩
theorem wd_4_173 : Cond.lays "java/lang/Throwable" "java/lang/Throwable" "cause" "Ljava/lang/Throwable;" ∈ tT := List.mem_filter.mpr ⟨tin_4 _ (List.mem_of_getElem? (i := 173) rfl), rfl⟩
theorem wd_4_174 : Cond.lays "java/lang/IllegalArgumentException" "java/lang/Throwable" "stackTrace" "[Ljava/lang/StackTraceElement;" ∈ tT := List.mem_filter.mpr ⟨tin_4 _ (List.mem_of_getElem? (i := 174) rfl), rfl⟩
theorem wd_4_175 : Cond.lays "java/lang/Throwable" "java/lang/Throwable" "stackTrace" "[Ljava/lang/StackTraceElement;" ∈ tT := List.mem_filter.mpr ⟨tin_4 _ (List.mem_of_getElem? (i := 175) rfl), rfl⟩
theorem wd_4_176 : Cond.lays "java/lang/IllegalArgumentException" "java/lang/Throwable" "suppressedExceptions" "Ljava/util/List;" ∈ tT := List.mem_filter.mpr ⟨tin_4 _ (List.mem_of_getElem? (i := 176) rfl), rfl⟩
theorem wd_4_177 : Cond.lays "java/lang/Throwable" "java/lang/Throwable" "suppressedExceptions" "Ljava/util/List;" ∈ tT := List.mem_filter.mpr ⟨tin_4 _ (List.mem_of_getElem? (i := 177) rfl), rfl⟩
theorem wd_4_178 : Cond.lays "java/lang/IllegalArgumentException" "java/lang/Throwable" "detailMessage" "Ljava/lang/String;" ∈ tT := List.mem_filter.mpr ⟨tin_4 _ (List.mem_of_getElem? (i := 178) rfl), rfl⟩
theorem wd_4_179 : Cond.lays "java/lang/Throwable" "java/lang/Throwable" "detailMessage" "Ljava/lang/String;" ∈ tT := List.mem_filter.mpr ⟨tin_4 _ (List.mem_of_getElem? (i := 179) rfl), rfl⟩
theorem wd_4_180 : Cond.lays "java/lang/IllegalArgumentException" "java/lang/Throwable" "backtrace" "Ljava/lang/Object;" ∈ tT := List.mem_filter.mpr ⟨tin_4 _ (List.mem_of_getElem? (i := 180) rfl), rfl⟩
theorem wd_4_181 : Cond.lays "java/lang/Throwable" "java/lang/Throwable" "backtrace" "Ljava/lang/Object;" ∈ tT := List.mem_filter.mpr ⟨tin_4 _ (List.mem_of_getElem? (i := 181) rfl), rfl⟩
theorem wd_4_182 : Cond.fieldLink "java/lang/Throwable" 198 "java/lang/Throwable" "backtrace" "Ljava/lang/Object;" ∈ tT := List.mem_filter.mpr ⟨tin_4 _ (List.mem_of_getElem? (i := 182) rfl), rfl⟩
theorem wd_4_183 : Cond.superclass "java/lang/Throwable" "java/lang/Object" ∈ tT := List.mem_filter.mpr ⟨tin_4 _ (List.mem_of_getElem? (i := 183) rfl), rfl⟩
theorem wd_4_184 : Cond.instanceMethod ⟨"java/lang/Throwable", "<init>", "()V"⟩ ∈ tT := List.mem_filter.mpr ⟨tin_4 _ (List.mem_of_getElem? (i := 184) rfl), rfl⟩
theorem wd_4_185 : Cond.code ⟨"java/lang/Throwable", "<init>", "()V"⟩ prog_23_method_1_code 1 none ∈ tT := List.mem_filter.mpr ⟨tin_4 _ (List.mem_of_getElem? (i := 185) rfl), rfl⟩
theorem wd_4_186 : Cond.methodLink "java/lang/Throwable" 1 objectInit ∈ tT := List.mem_filter.mpr ⟨tin_4 _ (List.mem_of_getElem? (i := 186) rfl), rfl⟩
theorem wd_4_187 : Cond.fieldLink "java/lang/Throwable" 13 "java/lang/Throwable" "UNASSIGNED_STACK" "[Ljava/lang/StackTraceElement;" ∈ tT := List.mem_filter.mpr ⟨tin_4 _ (List.mem_of_getElem? (i := 187) rfl), rfl⟩
theorem wd_4_189 : Cond.fieldLink "java/lang/Throwable" 20 "java/lang/Throwable" "SUPPRESSED_SENTINEL" "Ljava/util/List;" ∈ tT := List.mem_filter.mpr ⟨tin_4 _ (List.mem_of_getElem? (i := 189) rfl), rfl⟩
theorem wd_4_191 : Cond.methodLink "java/lang/Throwable" 27 ⟨"java/lang/Throwable", "fillInStackTrace", "()Ljava/lang/Throwable;"⟩ ∈ tT := List.mem_filter.mpr ⟨tin_4 _ (List.mem_of_getElem? (i := 191) rfl), rfl⟩
theorem wd_4_192 : Cond.instanceMethod ⟨"java/lang/Throwable", "fillInStackTrace", "()Ljava/lang/Throwable;"⟩ ∈ tT := List.mem_filter.mpr ⟨tin_4 _ (List.mem_of_getElem? (i := 192) rfl), rfl⟩
theorem wd_4_193 : Cond.sameMethod "java/lang/Throwable" "java/lang/Throwable" "fillInStackTrace" "()Ljava/lang/Throwable;" ∈ tT := List.mem_filter.mpr ⟨tin_4 _ (List.mem_of_getElem? (i := 193) rfl), rfl⟩
theorem wd_4_194 : Cond.selects "java/lang/IllegalStateException" ⟨"java/lang/Throwable", "fillInStackTrace", "()Ljava/lang/Throwable;"⟩ ⟨"java/lang/Throwable", "fillInStackTrace", "()Ljava/lang/Throwable;"⟩ ∈ tT := List.mem_filter.mpr ⟨tin_4 _ (List.mem_of_getElem? (i := 194) rfl), rfl⟩
theorem wd_4_195 : Cond.selects "java/lang/UnsupportedOperationException" ⟨"java/lang/Throwable", "fillInStackTrace", "()Ljava/lang/Throwable;"⟩ ⟨"java/lang/Throwable", "fillInStackTrace", "()Ljava/lang/Throwable;"⟩ ∈ tT := List.mem_filter.mpr ⟨tin_4 _ (List.mem_of_getElem? (i := 195) rfl), rfl⟩
theorem wd_4_197 : Cond.methodLink "java/lang/Throwable" 202 ⟨"java/lang/Throwable", "fillInStackTrace", "(I)Ljava/lang/Throwable;"⟩ ∈ tT := List.mem_filter.mpr ⟨tin_4 _ (List.mem_of_getElem? (i := 197) rfl), rfl⟩
theorem wd_4_199 : Cond.instanceMethod ⟨"java/lang/Throwable", "fillInStackTrace", "(I)Ljava/lang/Throwable;"⟩ ∈ tT := List.mem_filter.mpr ⟨tin_4 _ (List.mem_of_getElem? (i := 199) rfl), rfl⟩
theorem wd_4_200 : Cond.instantiable "java/lang/Throwable" 6 ∈ tT := List.mem_filter.mpr ⟨tin_4 _ (List.mem_of_getElem? (i := 200) rfl), rfl⟩
theorem wd_4_201 : Cond.native ⟨"java/lang/Throwable", "fillInStackTrace", "(I)Ljava/lang/Throwable;"⟩ ∈ tT := List.mem_filter.mpr ⟨tin_4 _ (List.mem_of_getElem? (i := 201) rfl), rfl⟩
theorem wd_4_202 : Cond.methodLink RX8 32 ⟨"java/lang/IllegalArgumentException", "<init>", "()V"⟩ ∈ tT := List.mem_filter.mpr ⟨tin_4 _ (List.mem_of_getElem? (i := 202) rfl), rfl⟩
theorem wd_4_203 : Cond.instanceMethod ⟨"java/lang/IllegalArgumentException", "<init>", "()V"⟩ ∈ tT := List.mem_filter.mpr ⟨tin_4 _ (List.mem_of_getElem? (i := 203) rfl), rfl⟩
theorem wd_4_204 : Cond.code ⟨"java/lang/IllegalArgumentException", "<init>", "()V"⟩ prog_16_method_1_code 1 none ∈ tT := List.mem_filter.mpr ⟨tin_4 _ (List.mem_of_getElem? (i := 204) rfl), rfl⟩
theorem wd_4_205 : Cond.methodLink "java/lang/IllegalArgumentException" 1 ⟨"java/lang/RuntimeException", "<init>", "()V"⟩ ∈ tT := List.mem_filter.mpr ⟨tin_4 _ (List.mem_of_getElem? (i := 205) rfl), rfl⟩
theorem wd_4_206 : Cond.instanceMethod ⟨"java/lang/RuntimeException", "<init>", "()V"⟩ ∈ tT := List.mem_filter.mpr ⟨tin_4 _ (List.mem_of_getElem? (i := 206) rfl), rfl⟩
theorem wd_4_207 : Cond.code ⟨"java/lang/RuntimeException", "<init>", "()V"⟩ prog_20_method_1_code 1 none ∈ tT := List.mem_filter.mpr ⟨tin_4 _ (List.mem_of_getElem? (i := 207) rfl), rfl⟩
theorem wd_4_208 : Cond.methodLink "java/lang/RuntimeException" 1 ⟨"java/lang/Exception", "<init>", "()V"⟩ ∈ tT := List.mem_filter.mpr ⟨tin_4 _ (List.mem_of_getElem? (i := 208) rfl), rfl⟩
theorem wd_4_209 : Cond.instanceMethod ⟨"java/lang/Exception", "<init>", "()V"⟩ ∈ tT := List.mem_filter.mpr ⟨tin_4 _ (List.mem_of_getElem? (i := 209) rfl), rfl⟩
theorem wd_4_210 : Cond.code ⟨"java/lang/Exception", "<init>", "()V"⟩ prog_15_method_1_code 1 none ∈ tT := List.mem_filter.mpr ⟨tin_4 _ (List.mem_of_getElem? (i := 210) rfl), rfl⟩
theorem wd_4_211 : Cond.methodLink "java/lang/Exception" 1 ⟨"java/lang/Throwable", "<init>", "()V"⟩ ∈ tT := List.mem_filter.mpr ⟨tin_4 _ (List.mem_of_getElem? (i := 211) rfl), rfl⟩
theorem wd_4_213 : Cond.fieldLink "java/lang/Throwable" 31 "java/lang/Throwable" "detailMessage" "Ljava/lang/String;" ∈ tT := List.mem_filter.mpr ⟨tin_4 _ (List.mem_of_getElem? (i := 213) rfl), rfl⟩
theorem wd_4_214 : Cond.fieldLink "java/lang/Throwable" 7 "java/lang/Throwable" "cause" "Ljava/lang/Throwable;" ∈ tT := List.mem_filter.mpr ⟨tin_4 _ (List.mem_of_getElem? (i := 214) rfl), rfl⟩
theorem wd_4_215 : Cond.fieldLink "java/lang/Throwable" 17 "java/lang/Throwable" "stackTrace" "[Ljava/lang/StackTraceElement;" ∈ tT := List.mem_filter.mpr ⟨tin_4 _ (List.mem_of_getElem? (i := 215) rfl), rfl⟩
theorem wd_4_216 : Cond.fieldLink "java/lang/Throwable" 24 "java/lang/Throwable" "suppressedExceptions" "Ljava/util/List;" ∈ tT := List.mem_filter.mpr ⟨tin_4 _ (List.mem_of_getElem? (i := 216) rfl), rfl⟩
theorem wd_4_221 : Cond.lays "java/lang/IllegalArgumentException" "java/lang/Throwable" "depth" "I" ∈ tT := List.mem_filter.mpr ⟨tin_4 _ (List.mem_of_getElem? (i := 221) rfl), rfl⟩
theorem wd_4_224 : Cond.superclass "java/lang/IllegalArgumentException" "java/lang/RuntimeException" ∈ tT := List.mem_filter.mpr ⟨tin_4 _ (List.mem_of_getElem? (i := 224) rfl), rfl⟩
theorem wd_4_225 : Cond.selects RX2 yX0_fail yX2_fail ∈ tT := List.mem_filter.mpr ⟨tin_4 _ (List.mem_of_getElem? (i := 225) rfl), rfl⟩
theorem wd_4_226 : Cond.instanceMethod yX2_fail ∈ tT := List.mem_filter.mpr ⟨tin_4 _ (List.mem_of_getElem? (i := 226) rfl), rfl⟩
theorem wd_4_227 : Cond.code yX2_fail cX2_fail 1 none ∈ tT := List.mem_filter.mpr ⟨tin_4 _ (List.mem_of_getElem? (i := 227) rfl), rfl⟩
theorem wd_4_228 : Cond.selects RX5 yX0_fail yX5_fail ∈ tT := List.mem_filter.mpr ⟨tin_4 _ (List.mem_of_getElem? (i := 228) rfl), rfl⟩
theorem wd_4_229 : Cond.instanceMethod yX5_fail ∈ tT := List.mem_filter.mpr ⟨tin_4 _ (List.mem_of_getElem? (i := 229) rfl), rfl⟩
theorem wd_4_230 : Cond.code yX5_fail cX5_fail 1 none ∈ tT := List.mem_filter.mpr ⟨tin_4 _ (List.mem_of_getElem? (i := 230) rfl), rfl⟩
theorem wd_4_231 : Cond.classLink RX5 35 "java/lang/UnsupportedOperationException" ∈ tT := List.mem_filter.mpr ⟨tin_4 _ (List.mem_of_getElem? (i := 231) rfl), rfl⟩
theorem wd_4_232 : Cond.instantiable "java/lang/UnsupportedOperationException" 6 ∈ tT := List.mem_filter.mpr ⟨tin_4 _ (List.mem_of_getElem? (i := 232) rfl), rfl⟩
theorem wd_4_234 : Cond.selects "java/lang/UnsupportedOperationException" ⟨"java/lang/Throwable", "fillInStackTrace", "(I)Ljava/lang/Throwable;"⟩ ⟨"java/lang/Throwable", "fillInStackTrace", "(I)Ljava/lang/Throwable;"⟩ ∈ tT := List.mem_filter.mpr ⟨tin_4 _ (List.mem_of_getElem? (i := 234) rfl), rfl⟩
theorem wd_4_235 : Cond.lays "java/lang/UnsupportedOperationException" "java/lang/Throwable" "cause" "Ljava/lang/Throwable;" ∈ tT := List.mem_filter.mpr ⟨tin_4 _ (List.mem_of_getElem? (i := 235) rfl), rfl⟩
theorem wd_4_236 : Cond.lays "java/lang/UnsupportedOperationException" "java/lang/Throwable" "stackTrace" "[Ljava/lang/StackTraceElement;" ∈ tT := List.mem_filter.mpr ⟨tin_4 _ (List.mem_of_getElem? (i := 236) rfl), rfl⟩
theorem wd_4_237 : Cond.lays "java/lang/UnsupportedOperationException" "java/lang/Throwable" "suppressedExceptions" "Ljava/util/List;" ∈ tT := List.mem_filter.mpr ⟨tin_4 _ (List.mem_of_getElem? (i := 237) rfl), rfl⟩
theorem wd_4_238 : Cond.lays "java/lang/UnsupportedOperationException" "java/lang/Throwable" "detailMessage" "Ljava/lang/String;" ∈ tT := List.mem_filter.mpr ⟨tin_4 _ (List.mem_of_getElem? (i := 238) rfl), rfl⟩
theorem wd_4_239 : Cond.lays "java/lang/UnsupportedOperationException" "java/lang/Throwable" "backtrace" "Ljava/lang/Object;" ∈ tT := List.mem_filter.mpr ⟨tin_4 _ (List.mem_of_getElem? (i := 239) rfl), rfl⟩
theorem wd_5_0 : Cond.methodLink RX5 37 ⟨"java/lang/UnsupportedOperationException", "<init>", "()V"⟩ ∈ tT := List.mem_filter.mpr ⟨tin_5 _ (List.mem_of_getElem? (i := 0) rfl), rfl⟩
theorem wd_5_1 : Cond.instanceMethod ⟨"java/lang/UnsupportedOperationException", "<init>", "()V"⟩ ∈ tT := List.mem_filter.mpr ⟨tin_5 _ (List.mem_of_getElem? (i := 1) rfl), rfl⟩
theorem wd_5_2 : Cond.code ⟨"java/lang/UnsupportedOperationException", "<init>", "()V"⟩ prog_24_method_1_code 1 none ∈ tT := List.mem_filter.mpr ⟨tin_5 _ (List.mem_of_getElem? (i := 2) rfl), rfl⟩
theorem wd_5_3 : Cond.methodLink "java/lang/UnsupportedOperationException" 1 ⟨"java/lang/RuntimeException", "<init>", "()V"⟩ ∈ tT := List.mem_filter.mpr ⟨tin_5 _ (List.mem_of_getElem? (i := 3) rfl), rfl⟩
theorem wd_5_4 : Cond.lays "java/lang/UnsupportedOperationException" "java/lang/Throwable" "depth" "I" ∈ tT := List.mem_filter.mpr ⟨tin_5 _ (List.mem_of_getElem? (i := 4) rfl), rfl⟩
theorem wd_5_5 : Cond.superclass "java/lang/UnsupportedOperationException" "java/lang/RuntimeException" ∈ tT := List.mem_filter.mpr ⟨tin_5 _ (List.mem_of_getElem? (i := 5) rfl), rfl⟩
theorem wd_5_6 : Cond.selects RX6 yX0_fail yX2_fail ∈ tT := List.mem_filter.mpr ⟨tin_5 _ (List.mem_of_getElem? (i := 6) rfl), rfl⟩
theorem wd_5_7 : Cond.selects RX7 yX0_fail yX8_fail ∈ tT := List.mem_filter.mpr ⟨tin_5 _ (List.mem_of_getElem? (i := 7) rfl), rfl⟩
theorem wd_5_8 : Cond.selects RX8 yX0_fail yX8_fail ∈ tT := List.mem_filter.mpr ⟨tin_5 _ (List.mem_of_getElem? (i := 8) rfl), rfl⟩
theorem wd_5_9 : Cond.selects RX10 yX0_fail yX0_fail ∈ tT := List.mem_filter.mpr ⟨tin_5 _ (List.mem_of_getElem? (i := 9) rfl), rfl⟩
theorem wd_5_10 : Cond.code yX0_fail cX0_fail 1 none ∈ tT := List.mem_filter.mpr ⟨tin_5 _ (List.mem_of_getElem? (i := 10) rfl), rfl⟩
theorem wd_5_11 : Cond.classLink RX0 16 "java/lang/IllegalStateException" ∈ tT := List.mem_filter.mpr ⟨tin_5 _ (List.mem_of_getElem? (i := 11) rfl), rfl⟩
theorem wd_5_12 : Cond.instantiable "java/lang/IllegalStateException" 6 ∈ tT := List.mem_filter.mpr ⟨tin_5 _ (List.mem_of_getElem? (i := 12) rfl), rfl⟩
theorem wd_5_14 : Cond.selects "java/lang/IllegalStateException" ⟨"java/lang/Throwable", "fillInStackTrace", "(I)Ljava/lang/Throwable;"⟩ ⟨"java/lang/Throwable", "fillInStackTrace", "(I)Ljava/lang/Throwable;"⟩ ∈ tT := List.mem_filter.mpr ⟨tin_5 _ (List.mem_of_getElem? (i := 14) rfl), rfl⟩
theorem wd_5_15 : Cond.lays "java/lang/IllegalStateException" "java/lang/Throwable" "cause" "Ljava/lang/Throwable;" ∈ tT := List.mem_filter.mpr ⟨tin_5 _ (List.mem_of_getElem? (i := 15) rfl), rfl⟩
theorem wd_5_16 : Cond.lays "java/lang/IllegalStateException" "java/lang/Throwable" "stackTrace" "[Ljava/lang/StackTraceElement;" ∈ tT := List.mem_filter.mpr ⟨tin_5 _ (List.mem_of_getElem? (i := 16) rfl), rfl⟩
theorem wd_5_17 : Cond.lays "java/lang/IllegalStateException" "java/lang/Throwable" "suppressedExceptions" "Ljava/util/List;" ∈ tT := List.mem_filter.mpr ⟨tin_5 _ (List.mem_of_getElem? (i := 17) rfl), rfl⟩
theorem wd_5_18 : Cond.lays "java/lang/IllegalStateException" "java/lang/Throwable" "detailMessage" "Ljava/lang/String;" ∈ tT := List.mem_filter.mpr ⟨tin_5 _ (List.mem_of_getElem? (i := 18) rfl), rfl⟩
theorem wd_5_19 : Cond.lays "java/lang/IllegalStateException" "java/lang/Throwable" "backtrace" "Ljava/lang/Object;" ∈ tT := List.mem_filter.mpr ⟨tin_5 _ (List.mem_of_getElem? (i := 19) rfl), rfl⟩
theorem wd_5_20 : Cond.methodLink RX0 18 ⟨"java/lang/IllegalStateException", "<init>", "()V"⟩ ∈ tT := List.mem_filter.mpr ⟨tin_5 _ (List.mem_of_getElem? (i := 20) rfl), rfl⟩
theorem wd_5_21 : Cond.instanceMethod ⟨"java/lang/IllegalStateException", "<init>", "()V"⟩ ∈ tT := List.mem_filter.mpr ⟨tin_5 _ (List.mem_of_getElem? (i := 21) rfl), rfl⟩
theorem wd_5_22 : Cond.code ⟨"java/lang/IllegalStateException", "<init>", "()V"⟩ prog_17_method_1_code 1 none ∈ tT := List.mem_filter.mpr ⟨tin_5 _ (List.mem_of_getElem? (i := 22) rfl), rfl⟩
theorem wd_5_23 : Cond.methodLink "java/lang/IllegalStateException" 1 ⟨"java/lang/RuntimeException", "<init>", "()V"⟩ ∈ tT := List.mem_filter.mpr ⟨tin_5 _ (List.mem_of_getElem? (i := 23) rfl), rfl⟩
theorem wd_5_24 : Cond.lays "java/lang/IllegalStateException" "java/lang/Throwable" "depth" "I" ∈ tT := List.mem_filter.mpr ⟨tin_5 _ (List.mem_of_getElem? (i := 24) rfl), rfl⟩
theorem wd_5_25 : Cond.superclass "java/lang/IllegalStateException" "java/lang/RuntimeException" ∈ tT := List.mem_filter.mpr ⟨tin_5 _ (List.mem_of_getElem? (i := 25) rfl), rfl⟩
theorem wd_5_26 : Cond.methodLink RL 193 yL_element ∈ tT := List.mem_filter.mpr ⟨tin_5 _ (List.mem_of_getElem? (i := 26) rfl), rfl⟩
theorem wd_5_27 : Cond.static yL_element ∈ tT := List.mem_filter.mpr ⟨tin_5 _ (List.mem_of_getElem? (i := 27) rfl), rfl⟩
theorem wd_5_29 : Cond.classLink RL 13 "java/lang/IllegalArgumentException" ∈ tT := List.mem_filter.mpr ⟨tin_5 _ (List.mem_of_getElem? (i := 29) rfl), rfl⟩
theorem wd_5_30 : Cond.classLink RL 15 "java/lang/IllegalStateException" ∈ tT := List.mem_filter.mpr ⟨tin_5 _ (List.mem_of_getElem? (i := 30) rfl), rfl⟩
theorem wd_5_31 : Cond.methodLink RL 7 yX11_element ∈ tT := List.mem_filter.mpr ⟨tin_5 _ (List.mem_of_getElem? (i := 31) rfl), rfl⟩
theorem wd_5_32 : Cond.instanceMethod yX11_element ∈ tT := List.mem_filter.mpr ⟨tin_5 _ (List.mem_of_getElem? (i := 32) rfl), rfl⟩
theorem wd_5_33 : Cond.selects RX11 yX11_element yX11_element ∈ tT := List.mem_filter.mpr ⟨tin_5 _ (List.mem_of_getElem? (i := 33) rfl), rfl⟩
theorem wd_5_34 : Cond.code yX11_element cX11_element 4 (some .long) ∈ tT := List.mem_filter.mpr ⟨tin_5 _ (List.mem_of_getElem? (i := 34) rfl), rfl⟩
theorem wd_5_36 : Cond.methodLink RX11 310 ⟨"java/lang/IllegalArgumentException", "<init>", "(Ljava/lang/String;)V"⟩ ∈ tT := List.mem_filter.mpr ⟨tin_5 _ (List.mem_of_getElem? (i := 36) rfl), rfl⟩
theorem wd_5_37 : Cond.instanceMethod ⟨"java/lang/IllegalArgumentException", "<init>", "(Ljava/lang/String;)V"⟩ ∈ tT := List.mem_filter.mpr ⟨tin_5 _ (List.mem_of_getElem? (i := 37) rfl), rfl⟩
theorem wd_5_38 : Cond.code ⟨"java/lang/IllegalArgumentException", "<init>", "(Ljava/lang/String;)V"⟩ prog_16_method_2_code 2 none ∈ tT := List.mem_filter.mpr ⟨tin_5 _ (List.mem_of_getElem? (i := 38) rfl), rfl⟩
theorem wd_5_39 : Cond.methodLink "java/lang/IllegalArgumentException" 7 ⟨"java/lang/RuntimeException", "<init>", "(Ljava/lang/String;)V"⟩ ∈ tT := List.mem_filter.mpr ⟨tin_5 _ (List.mem_of_getElem? (i := 39) rfl), rfl⟩
theorem wd_5_40 : Cond.instanceMethod ⟨"java/lang/RuntimeException", "<init>", "(Ljava/lang/String;)V"⟩ ∈ tT := List.mem_filter.mpr ⟨tin_5 _ (List.mem_of_getElem? (i := 40) rfl), rfl⟩
theorem wd_5_41 : Cond.code ⟨"java/lang/RuntimeException", "<init>", "(Ljava/lang/String;)V"⟩ prog_20_method_2_code 2 none ∈ tT := List.mem_filter.mpr ⟨tin_5 _ (List.mem_of_getElem? (i := 41) rfl), rfl⟩
theorem wd_5_42 : Cond.methodLink "java/lang/RuntimeException" 7 ⟨"java/lang/Exception", "<init>", "(Ljava/lang/String;)V"⟩ ∈ tT := List.mem_filter.mpr ⟨tin_5 _ (List.mem_of_getElem? (i := 42) rfl), rfl⟩
theorem wd_5_43 : Cond.instanceMethod ⟨"java/lang/Exception", "<init>", "(Ljava/lang/String;)V"⟩ ∈ tT := List.mem_filter.mpr ⟨tin_5 _ (List.mem_of_getElem? (i := 43) rfl), rfl⟩
theorem wd_5_44 : Cond.code ⟨"java/lang/Exception", "<init>", "(Ljava/lang/String;)V"⟩ prog_15_method_2_code 2 none ∈ tT := List.mem_filter.mpr ⟨tin_5 _ (List.mem_of_getElem? (i := 44) rfl), rfl⟩
theorem wd_5_45 : Cond.methodLink "java/lang/Exception" 7 ⟨"java/lang/Throwable", "<init>", "(Ljava/lang/String;)V"⟩ ∈ tT := List.mem_filter.mpr ⟨tin_5 _ (List.mem_of_getElem? (i := 45) rfl), rfl⟩
theorem wd_5_46 : Cond.instanceMethod ⟨"java/lang/Throwable", "<init>", "(Ljava/lang/String;)V"⟩ ∈ tT := List.mem_filter.mpr ⟨tin_5 _ (List.mem_of_getElem? (i := 46) rfl), rfl⟩
theorem wd_5_47 : Cond.code ⟨"java/lang/Throwable", "<init>", "(Ljava/lang/String;)V"⟩ prog_23_method_2_code 2 none ∈ tT := List.mem_filter.mpr ⟨tin_5 _ (List.mem_of_getElem? (i := 47) rfl), rfl⟩
theorem wd_5_49 : Cond.methodLink RX11 320 ⟨"java/lang/IllegalStateException", "<init>", "(Ljava/lang/String;)V"⟩ ∈ tT := List.mem_filter.mpr ⟨tin_5 _ (List.mem_of_getElem? (i := 49) rfl), rfl⟩
theorem wd_5_50 : Cond.instanceMethod ⟨"java/lang/IllegalStateException", "<init>", "(Ljava/lang/String;)V"⟩ ∈ tT := List.mem_filter.mpr ⟨tin_5 _ (List.mem_of_getElem? (i := 50) rfl), rfl⟩
theorem wd_5_51 : Cond.code ⟨"java/lang/IllegalStateException", "<init>", "(Ljava/lang/String;)V"⟩ prog_17_method_2_code 2 none ∈ tT := List.mem_filter.mpr ⟨tin_5 _ (List.mem_of_getElem? (i := 51) rfl), rfl⟩
theorem wd_5_52 : Cond.methodLink "java/lang/IllegalStateException" 7 ⟨"java/lang/RuntimeException", "<init>", "(Ljava/lang/String;)V"⟩ ∈ tT := List.mem_filter.mpr ⟨tin_5 _ (List.mem_of_getElem? (i := 52) rfl), rfl⟩
theorem wd_5_53 : Cond.arrayClass .byte ∈ tT := List.mem_filter.mpr ⟨tin_5 _ (List.mem_of_getElem? (i := 53) rfl), rfl⟩
theorem wd_5_54 : Cond.classLink RL 18 RX12 ∈ tT := List.mem_filter.mpr ⟨tin_5 _ (List.mem_of_getElem? (i := 54) rfl), rfl⟩
theorem wd_5_55 : Cond.instantiable RX12 22 ∈ tT := List.mem_filter.mpr ⟨tin_5 _ (List.mem_of_getElem? (i := 55) rfl), rfl⟩
theorem wd_5_56 : Cond.methodLink RL 20 yX12_init ∈ tT := List.mem_filter.mpr ⟨tin_5 _ (List.mem_of_getElem? (i := 56) rfl), rfl⟩
theorem wd_5_57 : Cond.instanceMethod yX12_init ∈ tT := List.mem_filter.mpr ⟨tin_5 _ (List.mem_of_getElem? (i := 57) rfl), rfl⟩
theorem wd_5_58 : Cond.code yX12_init cX12_init 1 none ∈ tT := List.mem_filter.mpr ⟨tin_5 _ (List.mem_of_getElem? (i := 58) rfl), rfl⟩
theorem wd_5_59 : Cond.methodLink RX12 1 objectInit ∈ tT := List.mem_filter.mpr ⟨tin_5 _ (List.mem_of_getElem? (i := 59) rfl), rfl⟩
theorem wd_5_60 : Cond.fieldLink RX12 9 "BladeBetweenThumbsModel" "s" "[I" ∈ tT := List.mem_filter.mpr ⟨tin_5 _ (List.mem_of_getElem? (i := 60) rfl), rfl⟩
theorem wd_5_61 : Cond.fieldLink RX12 13 "BladeBetweenThumbsModel" "image" "[I" ∈ tT := List.mem_filter.mpr ⟨tin_5 _ (List.mem_of_getElem? (i := 61) rfl), rfl⟩
theorem wd_5_62 : Cond.fieldLink RX12 16 "BladeBetweenThumbsModel" "was" "[I" ∈ tT := List.mem_filter.mpr ⟨tin_5 _ (List.mem_of_getElem? (i := 62) rfl), rfl⟩
theorem wd_5_63 : Cond.fieldLink RX12 278 "BladeBetweenThumbsModel" "hasImage" "Z" ∈ tT := List.mem_filter.mpr ⟨tin_5 _ (List.mem_of_getElem? (i := 63) rfl), rfl⟩
theorem wd_5_64 : Cond.fieldLink RX12 19 "BladeBetweenThumbsModel" "help" "I" ∈ tT := List.mem_filter.mpr ⟨tin_5 _ (List.mem_of_getElem? (i := 64) rfl), rfl⟩
theorem wd_5_65 : Cond.fieldLink RX12 117 "BladeBetweenThumbsModel" "at" "I" ∈ tT := List.mem_filter.mpr ⟨tin_5 _ (List.mem_of_getElem? (i := 65) rfl), rfl⟩
theorem wd_5_66 : Cond.fieldLink RX12 123 "BladeBetweenThumbsModel" "rowAt" "I" ∈ tT := List.mem_filter.mpr ⟨tin_5 _ (List.mem_of_getElem? (i := 66) rfl), rfl⟩
theorem wd_5_67 : Cond.fieldLink RX12 120 "BladeBetweenThumbsModel" "rowEnd" "I" ∈ tT := List.mem_filter.mpr ⟨tin_5 _ (List.mem_of_getElem? (i := 67) rfl), rfl⟩
theorem wd_5_68 : Cond.fieldLink RX12 23 "BladeBetweenThumbsModel" "numbers" "[I" ∈ tT := List.mem_filter.mpr ⟨tin_5 _ (List.mem_of_getElem? (i := 68) rfl), rfl⟩
theorem wd_5_69 : Cond.fieldLink RX12 195 "BladeBetweenThumbsModel" "pairsMany" "I" ∈ tT := List.mem_filter.mpr ⟨tin_5 _ (List.mem_of_getElem? (i := 69) rfl), rfl⟩
theorem wd_5_70 : Cond.fieldLink RX12 189 "BladeBetweenThumbsModel" "leastTight" "I" ∈ tT := List.mem_filter.mpr ⟨tin_5 _ (List.mem_of_getElem? (i := 70) rfl), rfl⟩
theorem wd_5_71 : Cond.fieldLink RX12 192 "BladeBetweenThumbsModel" "leastForce" "I" ∈ tT := List.mem_filter.mpr ⟨tin_5 _ (List.mem_of_getElem? (i := 71) rfl), rfl⟩
theorem wd_5_72 : Cond.fieldLink RX12 26 "BladeBetweenThumbsModel" "off" "[J" ∈ tT := List.mem_filter.mpr ⟨tin_5 _ (List.mem_of_getElem? (i := 72) rfl), rfl⟩
theorem wd_5_73 : Cond.fieldLink RX12 30 "BladeBetweenThumbsModel" "then" "[J" ∈ tT := List.mem_filter.mpr ⟨tin_5 _ (List.mem_of_getElem? (i := 73) rfl), rfl⟩
theorem wd_5_74 : Cond.fieldLink RX12 265 "BladeBetweenThumbsModel" "seed" "I" ∈ tT := List.mem_filter.mpr ⟨tin_5 _ (List.mem_of_getElem? (i := 74) rfl), rfl⟩
theorem wd_5_75 : Cond.fieldLink RX12 33 "BladeBetweenThumbsModel" "kept" "[I" ∈ tT := List.mem_filter.mpr ⟨tin_5 _ (List.mem_of_getElem? (i := 75) rfl), rfl⟩
theorem wd_5_76 : Cond.fieldLink RX12 36 "BladeBetweenThumbsModel" "keptKind" "[I" ∈ tT := List.mem_filter.mpr ⟨tin_5 _ (List.mem_of_getElem? (i := 76) rfl), rfl⟩
theorem wd_5_77 : Cond.fieldLink RX12 39 "BladeBetweenThumbsModel" "keptFigure" "[I" ∈ tT := List.mem_filter.mpr ⟨tin_5 _ (List.mem_of_getElem? (i := 77) rfl), rfl⟩
theorem wd_5_78 : Cond.fieldLink RX12 42 "BladeBetweenThumbsModel" "sort" "[I" ∈ tT := List.mem_filter.mpr ⟨tin_5 _ (List.mem_of_getElem? (i := 78) rfl), rfl⟩
theorem wd_5_79 : Cond.fieldLink RX12 45 "BladeBetweenThumbsModel" "size" "[I" ∈ tT := List.mem_filter.mpr ⟨tin_5 _ (List.mem_of_getElem? (i := 79) rfl), rfl⟩
theorem wd_5_80 : Cond.fieldLink RX12 48 "BladeBetweenThumbsModel" "element" "[I" ∈ tT := List.mem_filter.mpr ⟨tin_5 _ (List.mem_of_getElem? (i := 80) rfl), rfl⟩
theorem wd_5_81 : Cond.fieldLink RX12 282 "BladeBetweenThumbsModel" "thrown" "I" ∈ tT := List.mem_filter.mpr ⟨tin_5 _ (List.mem_of_getElem? (i := 81) rfl), rfl⟩
theorem wd_5_82 : Cond.laysFinal RX12 "BladeBetweenThumbsModel" "s" "[I" ∈ tT := List.mem_filter.mpr ⟨tin_5 _ (List.mem_of_getElem? (i := 82) rfl), rfl⟩
theorem wd_5_84 : Cond.laysFinal RX12 "BladeBetweenThumbsModel" "image" "[I" ∈ tT := List.mem_filter.mpr ⟨tin_5 _ (List.mem_of_getElem? (i := 84) rfl), rfl⟩
theorem wd_5_86 : Cond.laysFinal RX12 "BladeBetweenThumbsModel" "was" "[I" ∈ tT := List.mem_filter.mpr ⟨tin_5 _ (List.mem_of_getElem? (i := 86) rfl), rfl⟩
theorem wd_5_88 : Cond.lays RX12 "BladeBetweenThumbsModel" "hasImage" "Z" ∈ tT := List.mem_filter.mpr ⟨tin_5 _ (List.mem_of_getElem? (i := 88) rfl), rfl⟩
theorem wd_5_90 : Cond.lays RX12 "BladeBetweenThumbsModel" "help" "I" ∈ tT := List.mem_filter.mpr ⟨tin_5 _ (List.mem_of_getElem? (i := 90) rfl), rfl⟩
theorem wd_5_92 : Cond.lays RX12 "BladeBetweenThumbsModel" "at" "I" ∈ tT := List.mem_filter.mpr ⟨tin_5 _ (List.mem_of_getElem? (i := 92) rfl), rfl⟩
theorem wd_5_94 : Cond.lays RX12 "BladeBetweenThumbsModel" "rowAt" "I" ∈ tT := List.mem_filter.mpr ⟨tin_5 _ (List.mem_of_getElem? (i := 94) rfl), rfl⟩
theorem wd_5_96 : Cond.lays RX12 "BladeBetweenThumbsModel" "rowEnd" "I" ∈ tT := List.mem_filter.mpr ⟨tin_5 _ (List.mem_of_getElem? (i := 96) rfl), rfl⟩
theorem wd_5_98 : Cond.laysFinal RX12 "BladeBetweenThumbsModel" "numbers" "[I" ∈ tT := List.mem_filter.mpr ⟨tin_5 _ (List.mem_of_getElem? (i := 98) rfl), rfl⟩
theorem wd_5_100 : Cond.lays RX12 "BladeBetweenThumbsModel" "pairsMany" "I" ∈ tT := List.mem_filter.mpr ⟨tin_5 _ (List.mem_of_getElem? (i := 100) rfl), rfl⟩
theorem wd_5_102 : Cond.lays RX12 "BladeBetweenThumbsModel" "leastTight" "I" ∈ tT := List.mem_filter.mpr ⟨tin_5 _ (List.mem_of_getElem? (i := 102) rfl), rfl⟩
theorem wd_5_104 : Cond.lays RX12 "BladeBetweenThumbsModel" "leastForce" "I" ∈ tT := List.mem_filter.mpr ⟨tin_5 _ (List.mem_of_getElem? (i := 104) rfl), rfl⟩
theorem wd_5_106 : Cond.laysFinal RX12 "BladeBetweenThumbsModel" "off" "[J" ∈ tT := List.mem_filter.mpr ⟨tin_5 _ (List.mem_of_getElem? (i := 106) rfl), rfl⟩
theorem wd_5_108 : Cond.laysFinal RX12 "BladeBetweenThumbsModel" "then" "[J" ∈ tT := List.mem_filter.mpr ⟨tin_5 _ (List.mem_of_getElem? (i := 108) rfl), rfl⟩
theorem wd_5_110 : Cond.lays RX12 "BladeBetweenThumbsModel" "seed" "I" ∈ tT := List.mem_filter.mpr ⟨tin_5 _ (List.mem_of_getElem? (i := 110) rfl), rfl⟩
theorem wd_5_112 : Cond.laysFinal RX12 "BladeBetweenThumbsModel" "kept" "[I" ∈ tT := List.mem_filter.mpr ⟨tin_5 _ (List.mem_of_getElem? (i := 112) rfl), rfl⟩
theorem wd_5_114 : Cond.laysFinal RX12 "BladeBetweenThumbsModel" "keptKind" "[I" ∈ tT := List.mem_filter.mpr ⟨tin_5 _ (List.mem_of_getElem? (i := 114) rfl), rfl⟩
theorem wd_5_116 : Cond.laysFinal RX12 "BladeBetweenThumbsModel" "keptFigure" "[I" ∈ tT := List.mem_filter.mpr ⟨tin_5 _ (List.mem_of_getElem? (i := 116) rfl), rfl⟩
theorem wd_5_118 : Cond.laysFinal RX12 "BladeBetweenThumbsModel" "sort" "[I" ∈ tT := List.mem_filter.mpr ⟨tin_5 _ (List.mem_of_getElem? (i := 118) rfl), rfl⟩
theorem wd_5_120 : Cond.laysFinal RX12 "BladeBetweenThumbsModel" "size" "[I" ∈ tT := List.mem_filter.mpr ⟨tin_5 _ (List.mem_of_getElem? (i := 120) rfl), rfl⟩
theorem wd_5_122 : Cond.laysFinal RX12 "BladeBetweenThumbsModel" "element" "[I" ∈ tT := List.mem_filter.mpr ⟨tin_5 _ (List.mem_of_getElem? (i := 122) rfl), rfl⟩
theorem wd_5_124 : Cond.lays RX12 "BladeBetweenThumbsModel" "thrown" "I" ∈ tT := List.mem_filter.mpr ⟨tin_5 _ (List.mem_of_getElem? (i := 124) rfl), rfl⟩
theorem wd_5_126 : Cond.superclass RX12 "java/lang/Object" ∈ tT := List.mem_filter.mpr ⟨tin_5 _ (List.mem_of_getElem? (i := 126) rfl), rfl⟩
theorem wd_5_127 : Cond.methodLink RL 25 yX12_hedge ∈ tT := List.mem_filter.mpr ⟨tin_5 _ (List.mem_of_getElem? (i := 127) rfl), rfl⟩
theorem wd_5_128 : Cond.instanceMethod yX12_hedge ∈ tT := List.mem_filter.mpr ⟨tin_5 _ (List.mem_of_getElem? (i := 128) rfl), rfl⟩
theorem wd_5_129 : Cond.selects RX12 yX12_hedge yX12_hedge ∈ tT := List.mem_filter.mpr ⟨tin_5 _ (List.mem_of_getElem? (i := 129) rfl), rfl⟩
theorem wd_5_130 : Cond.code yX12_hedge cX12_hedge 8 (some .int) ∈ tT := List.mem_filter.mpr ⟨tin_5 _ (List.mem_of_getElem? (i := 130) rfl), rfl⟩
theorem wd_5_131 : Cond.methodLink RX12 157 yX12_wrongRow ∈ tT := List.mem_filter.mpr ⟨tin_5 _ (List.mem_of_getElem? (i := 131) rfl), rfl⟩
theorem wd_5_133 : Cond.instanceMethod yX12_wrongRow ∈ tT := List.mem_filter.mpr ⟨tin_5 _ (List.mem_of_getElem? (i := 133) rfl), rfl⟩
theorem wd_5_134 : Cond.code yX12_wrongRow cX12_wrongRow 3 (some .int) ∈ tT := List.mem_filter.mpr ⟨tin_5 _ (List.mem_of_getElem? (i := 134) rfl), rfl⟩
theorem wd_5_135 : Cond.methodLink RX12 259 yX12_isShelf ∈ tT := List.mem_filter.mpr ⟨tin_5 _ (List.mem_of_getElem? (i := 135) rfl), rfl⟩
theorem wd_5_136 : Cond.static yX12_isShelf ∈ tT := List.mem_filter.mpr ⟨tin_5 _ (List.mem_of_getElem? (i := 136) rfl), rfl⟩
theorem wd_5_137 : Cond.code yX12_isShelf cX12_isShelf 1 (some .boolean) ∈ tT := List.mem_filter.mpr ⟨tin_5 _ (List.mem_of_getElem? (i := 137) rfl), rfl⟩
theorem wd_5_138 : Cond.methodLink RX12 58 yX12_isIn ∈ tT := List.mem_filter.mpr ⟨tin_5 _ (List.mem_of_getElem? (i := 138) rfl), rfl⟩
theorem wd_5_139 : Cond.static yX12_isIn ∈ tT := List.mem_filter.mpr ⟨tin_5 _ (List.mem_of_getElem? (i := 139) rfl), rfl⟩
theorem wd_5_140 : Cond.code yX12_isIn cX12_isIn 3 (some .boolean) ∈ tT := List.mem_filter.mpr ⟨tin_5 _ (List.mem_of_getElem? (i := 140) rfl), rfl⟩
theorem wd_5_141 : Cond.methodLink RX12 160 yX12_readsStatement ∈ tT := List.mem_filter.mpr ⟨tin_5 _ (List.mem_of_getElem? (i := 141) rfl), rfl⟩
theorem wd_5_143 : Cond.instanceMethod yX12_readsStatement ∈ tT := List.mem_filter.mpr ⟨tin_5 _ (List.mem_of_getElem? (i := 143) rfl), rfl⟩
theorem wd_5_144 : Cond.code yX12_readsStatement cX12_readsStatement 3 (some .boolean) ∈ tT := List.mem_filter.mpr ⟨tin_5 _ (List.mem_of_getElem? (i := 144) rfl), rfl⟩
theorem wd_5_145 : Cond.methodLink RX12 126 yX12_here ∈ tT := List.mem_filter.mpr ⟨tin_5 _ (List.mem_of_getElem? (i := 145) rfl), rfl⟩
theorem wd_5_147 : Cond.instanceMethod yX12_here ∈ tT := List.mem_filter.mpr ⟨tin_5 _ (List.mem_of_getElem? (i := 147) rfl), rfl⟩
theorem wd_5_148 : Cond.code yX12_here cX12_here 1 (some .int) ∈ tT := List.mem_filter.mpr ⟨tin_5 _ (List.mem_of_getElem? (i := 148) rfl), rfl⟩
theorem wd_5_149 : Cond.methodLink RX12 130 yX12_readsNumber ∈ tT := List.mem_filter.mpr ⟨tin_5 _ (List.mem_of_getElem? (i := 149) rfl), rfl⟩
theorem wd_5_151 : Cond.instanceMethod yX12_readsNumber ∈ tT := List.mem_filter.mpr ⟨tin_5 _ (List.mem_of_getElem? (i := 151) rfl), rfl⟩
theorem wd_5_152 : Cond.code yX12_readsNumber cX12_readsNumber 4 (some .boolean) ∈ tT := List.mem_filter.mpr ⟨tin_5 _ (List.mem_of_getElem? (i := 152) rfl), rfl⟩
theorem wd_5_153 : Cond.methodLink RX12 164 yX12_copies ∈ tT := List.mem_filter.mpr ⟨tin_5 _ (List.mem_of_getElem? (i := 153) rfl), rfl⟩
theorem wd_5_154 : Cond.static yX12_copies ∈ tT := List.mem_filter.mpr ⟨tin_5 _ (List.mem_of_getElem? (i := 154) rfl), rfl⟩
theorem wd_5_155 : Cond.code yX12_copies cX12_copies 3 none ∈ tT := List.mem_filter.mpr ⟨tin_5 _ (List.mem_of_getElem? (i := 155) rfl), rfl⟩
theorem wd_5_156 : Cond.methodLink RX12 168 yX12_isDone ∈ tT := List.mem_filter.mpr ⟨tin_5 _ (List.mem_of_getElem? (i := 156) rfl), rfl⟩
theorem wd_5_158 : Cond.instanceMethod yX12_isDone ∈ tT := List.mem_filter.mpr ⟨tin_5 _ (List.mem_of_getElem? (i := 158) rfl), rfl⟩
theorem wd_5_159 : Cond.code yX12_isDone cX12_isDone 4 (some .boolean) ∈ tT := List.mem_filter.mpr ⟨tin_5 _ (List.mem_of_getElem? (i := 159) rfl), rfl⟩
theorem wd_5_160 : Cond.methodLink RX12 134 yX12_isBladeLike ∈ tT := List.mem_filter.mpr ⟨tin_5 _ (List.mem_of_getElem? (i := 160) rfl), rfl⟩
theorem wd_5_161 : Cond.static yX12_isBladeLike ∈ tT := List.mem_filter.mpr ⟨tin_5 _ (List.mem_of_getElem? (i := 161) rfl), rfl⟩
theorem wd_5_162 : Cond.code yX12_isBladeLike cX12_isBladeLike 3 (some .boolean) ∈ tT := List.mem_filter.mpr ⟨tin_5 _ (List.mem_of_getElem? (i := 162) rfl), rfl⟩
theorem wd_5_163 : Cond.methodLink RX12 137 yX12_addsBlade ∈ tT := List.mem_filter.mpr ⟨tin_5 _ (List.mem_of_getElem? (i := 163) rfl), rfl⟩
theorem wd_5_165 : Cond.instanceMethod yX12_addsBlade ∈ tT := List.mem_filter.mpr ⟨tin_5 _ (List.mem_of_getElem? (i := 165) rfl), rfl⟩
theorem wd_5_166 : Cond.code yX12_addsBlade cX12_addsBlade 4 none ∈ tT := List.mem_filter.mpr ⟨tin_5 _ (List.mem_of_getElem? (i := 166) rfl), rfl⟩
theorem wd_5_167 : Cond.methodLink RX12 51 yX12_atBlade ∈ tT := List.mem_filter.mpr ⟨tin_5 _ (List.mem_of_getElem? (i := 167) rfl), rfl⟩
theorem wd_5_168 : Cond.static yX12_atBlade ∈ tT := List.mem_filter.mpr ⟨tin_5 _ (List.mem_of_getElem? (i := 168) rfl), rfl⟩
theorem wd_5_169 : Cond.code yX12_atBlade cX12_atBlade 2 (some .int) ∈ tT := List.mem_filter.mpr ⟨tin_5 _ (List.mem_of_getElem? (i := 169) rfl), rfl⟩
theorem wd_5_170 : Cond.methodLink RX12 141 yX12_addsThumbs ∈ tT := List.mem_filter.mpr ⟨tin_5 _ (List.mem_of_getElem? (i := 170) rfl), rfl⟩
theorem wd_5_172 : Cond.instanceMethod yX12_addsThumbs ∈ tT := List.mem_filter.mpr ⟨tin_5 _ (List.mem_of_getElem? (i := 172) rfl), rfl⟩
theorem wd_5_173 : Cond.code yX12_addsThumbs cX12_addsThumbs 3 none ∈ tT := List.mem_filter.mpr ⟨tin_5 _ (List.mem_of_getElem? (i := 173) rfl), rfl⟩
theorem wd_5_174 : Cond.methodLink RX12 75 yX12_atThumbs ∈ tT := List.mem_filter.mpr ⟨tin_5 _ (List.mem_of_getElem? (i := 174) rfl), rfl⟩
theorem wd_5_175 : Cond.static yX12_atThumbs ∈ tT := List.mem_filter.mpr ⟨tin_5 _ (List.mem_of_getElem? (i := 175) rfl), rfl⟩
theorem wd_5_176 : Cond.code yX12_atThumbs cX12_atThumbs 2 (some .int) ∈ tT := List.mem_filter.mpr ⟨tin_5 _ (List.mem_of_getElem? (i := 176) rfl), rfl⟩
theorem wd_5_177 : Cond.methodLink RX12 145 yX12_addsBlow ∈ tT := List.mem_filter.mpr ⟨tin_5 _ (List.mem_of_getElem? (i := 177) rfl), rfl⟩
theorem wd_5_179 : Cond.instanceMethod yX12_addsBlow ∈ tT := List.mem_filter.mpr ⟨tin_5 _ (List.mem_of_getElem? (i := 179) rfl), rfl⟩
theorem wd_5_180 : Cond.code yX12_addsBlow cX12_addsBlow 3 none ∈ tT := List.mem_filter.mpr ⟨tin_5 _ (List.mem_of_getElem? (i := 180) rfl), rfl⟩
theorem wd_5_181 : Cond.methodLink RX12 55 yX12_atBlow ∈ tT := List.mem_filter.mpr ⟨tin_5 _ (List.mem_of_getElem? (i := 181) rfl), rfl⟩
theorem wd_5_182 : Cond.static yX12_atBlow ∈ tT := List.mem_filter.mpr ⟨tin_5 _ (List.mem_of_getElem? (i := 182) rfl), rfl⟩
theorem wd_5_183 : Cond.code yX12_atBlow cX12_atBlow 2 (some .int) ∈ tT := List.mem_filter.mpr ⟨tin_5 _ (List.mem_of_getElem? (i := 183) rfl), rfl⟩
theorem wd_5_184 : Cond.methodLink RX12 148 yX12_areAll ∈ tT := List.mem_filter.mpr ⟨tin_5 _ (List.mem_of_getElem? (i := 184) rfl), rfl⟩
theorem wd_5_186 : Cond.instanceMethod yX12_areAll ∈ tT := List.mem_filter.mpr ⟨tin_5 _ (List.mem_of_getElem? (i := 186) rfl), rfl⟩
theorem wd_5_187 : Cond.code yX12_areAll cX12_areAll 4 (some .boolean) ∈ tT := List.mem_filter.mpr ⟨tin_5 _ (List.mem_of_getElem? (i := 187) rfl), rfl⟩
theorem wd_5_188 : Cond.methodLink RX12 62 yX12_isBlade ∈ tT := List.mem_filter.mpr ⟨tin_5 _ (List.mem_of_getElem? (i := 188) rfl), rfl⟩
theorem wd_5_190 : Cond.instanceMethod yX12_isBlade ∈ tT := List.mem_filter.mpr ⟨tin_5 _ (List.mem_of_getElem? (i := 190) rfl), rfl⟩
theorem wd_5_191 : Cond.code yX12_isBlade cX12_isBlade 2 (some .boolean) ∈ tT := List.mem_filter.mpr ⟨tin_5 _ (List.mem_of_getElem? (i := 191) rfl), rfl⟩
theorem wd_5_192 : Cond.methodLink RX12 66 yX12_isThumbs ∈ tT := List.mem_filter.mpr ⟨tin_5 _ (List.mem_of_getElem? (i := 192) rfl), rfl⟩
theorem wd_5_194 : Cond.instanceMethod yX12_isThumbs ∈ tT := List.mem_filter.mpr ⟨tin_5 _ (List.mem_of_getElem? (i := 194) rfl), rfl⟩
theorem wd_5_195 : Cond.code yX12_isThumbs cX12_isThumbs 2 (some .boolean) ∈ tT := List.mem_filter.mpr ⟨tin_5 _ (List.mem_of_getElem? (i := 195) rfl), rfl⟩
theorem wd_5_196 : Cond.methodLink RX12 69 yX12_isBlow ∈ tT := List.mem_filter.mpr ⟨tin_5 _ (List.mem_of_getElem? (i := 196) rfl), rfl⟩
theorem wd_5_198 : Cond.instanceMethod yX12_isBlow ∈ tT := List.mem_filter.mpr ⟨tin_5 _ (List.mem_of_getElem? (i := 198) rfl), rfl⟩
theorem wd_5_199 : Cond.code yX12_isBlow cX12_isBlow 2 (some .boolean) ∈ tT := List.mem_filter.mpr ⟨tin_5 _ (List.mem_of_getElem? (i := 199) rfl), rfl⟩
theorem wd_5_200 : Cond.methodLink RX12 151 yX12_isSplit ∈ tT := List.mem_filter.mpr ⟨tin_5 _ (List.mem_of_getElem? (i := 200) rfl), rfl⟩
theorem wd_5_202 : Cond.instanceMethod yX12_isSplit ∈ tT := List.mem_filter.mpr ⟨tin_5 _ (List.mem_of_getElem? (i := 202) rfl), rfl⟩
theorem wd_5_203 : Cond.code yX12_isSplit cX12_isSplit 2 (some .boolean) ∈ tT := List.mem_filter.mpr ⟨tin_5 _ (List.mem_of_getElem? (i := 203) rfl), rfl⟩
theorem wd_5_204 : Cond.methodLink RX12 72 yX12_bladeOf ∈ tT := List.mem_filter.mpr ⟨tin_5 _ (List.mem_of_getElem? (i := 204) rfl), rfl⟩
theorem wd_5_206 : Cond.instanceMethod yX12_bladeOf ∈ tT := List.mem_filter.mpr ⟨tin_5 _ (List.mem_of_getElem? (i := 206) rfl), rfl⟩
theorem wd_5_207 : Cond.code yX12_bladeOf cX12_bladeOf 3 (some .int) ∈ tT := List.mem_filter.mpr ⟨tin_5 _ (List.mem_of_getElem? (i := 207) rfl), rfl⟩
theorem wd_5_208 : Cond.methodLink RX12 154 yX12_wears ∈ tT := List.mem_filter.mpr ⟨tin_5 _ (List.mem_of_getElem? (i := 208) rfl), rfl⟩
theorem wd_5_210 : Cond.instanceMethod yX12_wears ∈ tT := List.mem_filter.mpr ⟨tin_5 _ (List.mem_of_getElem? (i := 210) rfl), rfl⟩
theorem wd_5_211 : Cond.code yX12_wears cX12_wears 4 (some .int) ∈ tT := List.mem_filter.mpr ⟨tin_5 _ (List.mem_of_getElem? (i := 211) rfl), rfl⟩
theorem wd_5_212 : Cond.methodLink RX12 82 yX12_kind ∈ tT := List.mem_filter.mpr ⟨tin_5 _ (List.mem_of_getElem? (i := 212) rfl), rfl⟩
theorem wd_5_214 : Cond.instanceMethod yX12_kind ∈ tT := List.mem_filter.mpr ⟨tin_5 _ (List.mem_of_getElem? (i := 214) rfl), rfl⟩
theorem wd_5_215 : Cond.code yX12_kind cX12_kind 2 (some .int) ∈ tT := List.mem_filter.mpr ⟨tin_5 _ (List.mem_of_getElem? (i := 215) rfl), rfl⟩
theorem wd_5_216 : Cond.methodLink RX12 95 yX12_figure ∈ tT := List.mem_filter.mpr ⟨tin_5 _ (List.mem_of_getElem? (i := 216) rfl), rfl⟩
theorem wd_5_218 : Cond.instanceMethod yX12_figure ∈ tT := List.mem_filter.mpr ⟨tin_5 _ (List.mem_of_getElem? (i := 218) rfl), rfl⟩
theorem wd_5_219 : Cond.code yX12_figure cX12_figure 2 (some .int) ∈ tT := List.mem_filter.mpr ⟨tin_5 _ (List.mem_of_getElem? (i := 219) rfl), rfl⟩
theorem wd_5_220 : Cond.methodLink RL 30 yX12_blade ∈ tT := List.mem_filter.mpr ⟨tin_5 _ (List.mem_of_getElem? (i := 220) rfl), rfl⟩
theorem wd_5_221 : Cond.instanceMethod yX12_blade ∈ tT := List.mem_filter.mpr ⟨tin_5 _ (List.mem_of_getElem? (i := 221) rfl), rfl⟩
theorem wd_5_222 : Cond.selects RX12 yX12_blade yX12_blade ∈ tT := List.mem_filter.mpr ⟨tin_5 _ (List.mem_of_getElem? (i := 222) rfl), rfl⟩
theorem wd_5_223 : Cond.code yX12_blade cX12_blade 3 (some .int) ∈ tT := List.mem_filter.mpr ⟨tin_5 _ (List.mem_of_getElem? (i := 223) rfl), rfl⟩
theorem wd_5_224 : Cond.methodLink RL 34 yX12_thumbs ∈ tT := List.mem_filter.mpr ⟨tin_5 _ (List.mem_of_getElem? (i := 224) rfl), rfl⟩
theorem wd_5_225 : Cond.instanceMethod yX12_thumbs ∈ tT := List.mem_filter.mpr ⟨tin_5 _ (List.mem_of_getElem? (i := 225) rfl), rfl⟩
theorem wd_5_226 : Cond.selects RX12 yX12_thumbs yX12_thumbs ∈ tT := List.mem_filter.mpr ⟨tin_5 _ (List.mem_of_getElem? (i := 226) rfl), rfl⟩
theorem wd_5_227 : Cond.code yX12_thumbs cX12_thumbs 3 (some .int) ∈ tT := List.mem_filter.mpr ⟨tin_5 _ (List.mem_of_getElem? (i := 227) rfl), rfl⟩
theorem wd_5_228 : Cond.methodLink RL 38 yX12_blow ∈ tT := List.mem_filter.mpr ⟨tin_5 _ (List.mem_of_getElem? (i := 228) rfl), rfl⟩
theorem wd_5_229 : Cond.instanceMethod yX12_blow ∈ tT := List.mem_filter.mpr ⟨tin_5 _ (List.mem_of_getElem? (i := 229) rfl), rfl⟩
theorem wd_5_230 : Cond.selects RX12 yX12_blow yX12_blow ∈ tT := List.mem_filter.mpr ⟨tin_5 _ (List.mem_of_getElem? (i := 230) rfl), rfl⟩
theorem wd_5_231 : Cond.code yX12_blow cX12_blow 3 (some .int) ∈ tT := List.mem_filter.mpr ⟨tin_5 _ (List.mem_of_getElem? (i := 231) rfl), rfl⟩
theorem wd_5_232 : Cond.methodLink RL 43 yX12_grows ∈ tT := List.mem_filter.mpr ⟨tin_5 _ (List.mem_of_getElem? (i := 232) rfl), rfl⟩
theorem wd_5_233 : Cond.instanceMethod yX12_grows ∈ tT := List.mem_filter.mpr ⟨tin_5 _ (List.mem_of_getElem? (i := 233) rfl), rfl⟩
theorem wd_5_234 : Cond.selects RX12 yX12_grows yX12_grows ∈ tT := List.mem_filter.mpr ⟨tin_5 _ (List.mem_of_getElem? (i := 234) rfl), rfl⟩
theorem wd_5_235 : Cond.code yX12_grows cX12_grows 4 (some .int) ∈ tT := List.mem_filter.mpr ⟨tin_5 _ (List.mem_of_getElem? (i := 235) rfl), rfl⟩
theorem wd_5_236 : Cond.methodLink RL 47 yX12_learns ∈ tT := List.mem_filter.mpr ⟨tin_5 _ (List.mem_of_getElem? (i := 236) rfl), rfl⟩
theorem wd_5_237 : Cond.instanceMethod yX12_learns ∈ tT := List.mem_filter.mpr ⟨tin_5 _ (List.mem_of_getElem? (i := 237) rfl), rfl⟩
theorem wd_5_238 : Cond.selects RX12 yX12_learns yX12_learns ∈ tT := List.mem_filter.mpr ⟨tin_5 _ (List.mem_of_getElem? (i := 238) rfl), rfl⟩
theorem wd_5_239 : Cond.code yX12_learns cX12_learns 3 (some .int) ∈ tT := List.mem_filter.mpr ⟨tin_5 _ (List.mem_of_getElem? (i := 239) rfl), rfl⟩
theorem wd_6_0 : Cond.methodLink RX12 171 yX12_wrongKept ∈ tT := List.mem_filter.mpr ⟨tin_6 _ (List.mem_of_getElem? (i := 0) rfl), rfl⟩
theorem wd_6_2 : Cond.instanceMethod yX12_wrongKept ∈ tT := List.mem_filter.mpr ⟨tin_6 _ (List.mem_of_getElem? (i := 2) rfl), rfl⟩
theorem wd_6_3 : Cond.code yX12_wrongKept cX12_wrongKept 2 (some .int) ∈ tT := List.mem_filter.mpr ⟨tin_6 _ (List.mem_of_getElem? (i := 3) rfl), rfl⟩
theorem wd_6_4 : Cond.methodLink RL 51 yX12_comes ∈ tT := List.mem_filter.mpr ⟨tin_6 _ (List.mem_of_getElem? (i := 4) rfl), rfl⟩
theorem wd_6_5 : Cond.instanceMethod yX12_comes ∈ tT := List.mem_filter.mpr ⟨tin_6 _ (List.mem_of_getElem? (i := 5) rfl), rfl⟩
theorem wd_6_6 : Cond.selects RX12 yX12_comes yX12_comes ∈ tT := List.mem_filter.mpr ⟨tin_6 _ (List.mem_of_getElem? (i := 6) rfl), rfl⟩
theorem wd_6_7 : Cond.code yX12_comes cX12_comes 3 (some .int) ∈ tT := List.mem_filter.mpr ⟨tin_6 _ (List.mem_of_getElem? (i := 7) rfl), rfl⟩
theorem wd_6_8 : Cond.methodLink RX12 174 yX12_isForce ∈ tT := List.mem_filter.mpr ⟨tin_6 _ (List.mem_of_getElem? (i := 8) rfl), rfl⟩
theorem wd_6_9 : Cond.static yX12_isForce ∈ tT := List.mem_filter.mpr ⟨tin_6 _ (List.mem_of_getElem? (i := 9) rfl), rfl⟩
theorem wd_6_10 : Cond.code yX12_isForce cX12_isForce 1 (some .boolean) ∈ tT := List.mem_filter.mpr ⟨tin_6 _ (List.mem_of_getElem? (i := 10) rfl), rfl⟩
theorem wd_6_11 : Cond.methodLink RL 55 yX12_wets ∈ tT := List.mem_filter.mpr ⟨tin_6 _ (List.mem_of_getElem? (i := 11) rfl), rfl⟩
theorem wd_6_12 : Cond.instanceMethod yX12_wets ∈ tT := List.mem_filter.mpr ⟨tin_6 _ (List.mem_of_getElem? (i := 12) rfl), rfl⟩
theorem wd_6_13 : Cond.selects RX12 yX12_wets yX12_wets ∈ tT := List.mem_filter.mpr ⟨tin_6 _ (List.mem_of_getElem? (i := 13) rfl), rfl⟩
theorem wd_6_14 : Cond.code yX12_wets cX12_wets 4 (some .int) ∈ tT := List.mem_filter.mpr ⟨tin_6 _ (List.mem_of_getElem? (i := 14) rfl), rfl⟩
theorem wd_6_15 : Cond.methodLink RL 60 yX12_span ∈ tT := List.mem_filter.mpr ⟨tin_6 _ (List.mem_of_getElem? (i := 15) rfl), rfl⟩
theorem wd_6_16 : Cond.instanceMethod yX12_span ∈ tT := List.mem_filter.mpr ⟨tin_6 _ (List.mem_of_getElem? (i := 16) rfl), rfl⟩
theorem wd_6_17 : Cond.selects RX12 yX12_span yX12_span ∈ tT := List.mem_filter.mpr ⟨tin_6 _ (List.mem_of_getElem? (i := 17) rfl), rfl⟩
theorem wd_6_18 : Cond.code yX12_span cX12_span 5 (some .int) ∈ tT := List.mem_filter.mpr ⟨tin_6 _ (List.mem_of_getElem? (i := 18) rfl), rfl⟩
theorem wd_6_19 : Cond.methodLink RX12 98 yX12_low ∈ tT := List.mem_filter.mpr ⟨tin_6 _ (List.mem_of_getElem? (i := 19) rfl), rfl⟩
theorem wd_6_21 : Cond.instanceMethod yX12_low ∈ tT := List.mem_filter.mpr ⟨tin_6 _ (List.mem_of_getElem? (i := 21) rfl), rfl⟩
theorem wd_6_22 : Cond.code yX12_low cX12_low 5 (some .int) ∈ tT := List.mem_filter.mpr ⟨tin_6 _ (List.mem_of_getElem? (i := 22) rfl), rfl⟩
theorem wd_6_23 : Cond.methodLink RX12 88 yX12_lowPlain ∈ tT := List.mem_filter.mpr ⟨tin_6 _ (List.mem_of_getElem? (i := 23) rfl), rfl⟩
theorem wd_6_25 : Cond.instanceMethod yX12_lowPlain ∈ tT := List.mem_filter.mpr ⟨tin_6 _ (List.mem_of_getElem? (i := 25) rfl), rfl⟩
theorem wd_6_26 : Cond.code yX12_lowPlain cX12_lowPlain 5 (some .int) ∈ tT := List.mem_filter.mpr ⟨tin_6 _ (List.mem_of_getElem? (i := 26) rfl), rfl⟩
theorem wd_6_27 : Cond.methodLink RX12 78 yX12_slitOf ∈ tT := List.mem_filter.mpr ⟨tin_6 _ (List.mem_of_getElem? (i := 27) rfl), rfl⟩
theorem wd_6_29 : Cond.instanceMethod yX12_slitOf ∈ tT := List.mem_filter.mpr ⟨tin_6 _ (List.mem_of_getElem? (i := 29) rfl), rfl⟩
theorem wd_6_30 : Cond.code yX12_slitOf cX12_slitOf 3 (some .int) ∈ tT := List.mem_filter.mpr ⟨tin_6 _ (List.mem_of_getElem? (i := 30) rfl), rfl⟩
theorem wd_6_31 : Cond.methodLink RX12 85 yX12_isSounding ∈ tT := List.mem_filter.mpr ⟨tin_6 _ (List.mem_of_getElem? (i := 31) rfl), rfl⟩
theorem wd_6_32 : Cond.static yX12_isSounding ∈ tT := List.mem_filter.mpr ⟨tin_6 _ (List.mem_of_getElem? (i := 32) rfl), rfl⟩
theorem wd_6_33 : Cond.code yX12_isSounding cX12_isSounding 1 (some .boolean) ∈ tT := List.mem_filter.mpr ⟨tin_6 _ (List.mem_of_getElem? (i := 33) rfl), rfl⟩
theorem wd_6_34 : Cond.methodLink RX12 101 yX12_high ∈ tT := List.mem_filter.mpr ⟨tin_6 _ (List.mem_of_getElem? (i := 34) rfl), rfl⟩
theorem wd_6_36 : Cond.instanceMethod yX12_high ∈ tT := List.mem_filter.mpr ⟨tin_6 _ (List.mem_of_getElem? (i := 36) rfl), rfl⟩
theorem wd_6_37 : Cond.code yX12_high cX12_high 5 (some .int) ∈ tT := List.mem_filter.mpr ⟨tin_6 _ (List.mem_of_getElem? (i := 37) rfl), rfl⟩
theorem wd_6_38 : Cond.methodLink RX12 92 yX12_softest ∈ tT := List.mem_filter.mpr ⟨tin_6 _ (List.mem_of_getElem? (i := 38) rfl), rfl⟩
theorem wd_6_40 : Cond.instanceMethod yX12_softest ∈ tT := List.mem_filter.mpr ⟨tin_6 _ (List.mem_of_getElem? (i := 40) rfl), rfl⟩
theorem wd_6_41 : Cond.code yX12_softest cX12_softest 4 (some .int) ∈ tT := List.mem_filter.mpr ⟨tin_6 _ (List.mem_of_getElem? (i := 41) rfl), rfl⟩
theorem wd_6_42 : Cond.methodLink RX12 107 yX12_hardest ∈ tT := List.mem_filter.mpr ⟨tin_6 _ (List.mem_of_getElem? (i := 42) rfl), rfl⟩
theorem wd_6_44 : Cond.instanceMethod yX12_hardest ∈ tT := List.mem_filter.mpr ⟨tin_6 _ (List.mem_of_getElem? (i := 44) rfl), rfl⟩
theorem wd_6_45 : Cond.code yX12_hardest cX12_hardest 3 (some .int) ∈ tT := List.mem_filter.mpr ⟨tin_6 _ (List.mem_of_getElem? (i := 45) rfl), rfl⟩
theorem wd_6_46 : Cond.methodLink RL 65 yX12_sounds ∈ tT := List.mem_filter.mpr ⟨tin_6 _ (List.mem_of_getElem? (i := 46) rfl), rfl⟩
theorem wd_6_47 : Cond.instanceMethod yX12_sounds ∈ tT := List.mem_filter.mpr ⟨tin_6 _ (List.mem_of_getElem? (i := 47) rfl), rfl⟩
theorem wd_6_48 : Cond.selects RX12 yX12_sounds yX12_sounds ∈ tT := List.mem_filter.mpr ⟨tin_6 _ (List.mem_of_getElem? (i := 48) rfl), rfl⟩
theorem wd_6_49 : Cond.code yX12_sounds cX12_sounds 6 (some .int) ∈ tT := List.mem_filter.mpr ⟨tin_6 _ (List.mem_of_getElem? (i := 49) rfl), rfl⟩
theorem wd_6_50 : Cond.methodLink RX12 177 yX12_isTold ∈ tT := List.mem_filter.mpr ⟨tin_6 _ (List.mem_of_getElem? (i := 50) rfl), rfl⟩
theorem wd_6_52 : Cond.instanceMethod yX12_isTold ∈ tT := List.mem_filter.mpr ⟨tin_6 _ (List.mem_of_getElem? (i := 52) rfl), rfl⟩
theorem wd_6_53 : Cond.code yX12_isTold cX12_isTold 6 (some .boolean) ∈ tT := List.mem_filter.mpr ⟨tin_6 _ (List.mem_of_getElem? (i := 53) rfl), rfl⟩
theorem wd_6_54 : Cond.methodLink RX12 181 yX12_isSound ∈ tT := List.mem_filter.mpr ⟨tin_6 _ (List.mem_of_getElem? (i := 54) rfl), rfl⟩
theorem wd_6_56 : Cond.instanceMethod yX12_isSound ∈ tT := List.mem_filter.mpr ⟨tin_6 _ (List.mem_of_getElem? (i := 56) rfl), rfl⟩
theorem wd_6_57 : Cond.code yX12_isSound cX12_isSound 6 (some .boolean) ∈ tT := List.mem_filter.mpr ⟨tin_6 _ (List.mem_of_getElem? (i := 57) rfl), rfl⟩
theorem wd_6_58 : Cond.methodLink RX12 110 yX12_isTight ∈ tT := List.mem_filter.mpr ⟨tin_6 _ (List.mem_of_getElem? (i := 58) rfl), rfl⟩
theorem wd_6_60 : Cond.instanceMethod yX12_isTight ∈ tT := List.mem_filter.mpr ⟨tin_6 _ (List.mem_of_getElem? (i := 60) rfl), rfl⟩
theorem wd_6_61 : Cond.code yX12_isTight cX12_isTight 5 (some .boolean) ∈ tT := List.mem_filter.mpr ⟨tin_6 _ (List.mem_of_getElem? (i := 61) rfl), rfl⟩
theorem wd_6_62 : Cond.methodLink RX12 104 yX12_gripOf ∈ tT := List.mem_filter.mpr ⟨tin_6 _ (List.mem_of_getElem? (i := 62) rfl), rfl⟩
theorem wd_6_64 : Cond.instanceMethod yX12_gripOf ∈ tT := List.mem_filter.mpr ⟨tin_6 _ (List.mem_of_getElem? (i := 64) rfl), rfl⟩
theorem wd_6_65 : Cond.code yX12_gripOf cX12_gripOf 3 (some .int) ∈ tT := List.mem_filter.mpr ⟨tin_6 _ (List.mem_of_getElem? (i := 65) rfl), rfl⟩
theorem wd_6_66 : Cond.methodLink RX12 114 yX12_isHard ∈ tT := List.mem_filter.mpr ⟨tin_6 _ (List.mem_of_getElem? (i := 66) rfl), rfl⟩
theorem wd_6_68 : Cond.instanceMethod yX12_isHard ∈ tT := List.mem_filter.mpr ⟨tin_6 _ (List.mem_of_getElem? (i := 68) rfl), rfl⟩
theorem wd_6_69 : Cond.code yX12_isHard cX12_isHard 4 (some .boolean) ∈ tT := List.mem_filter.mpr ⟨tin_6 _ (List.mem_of_getElem? (i := 69) rfl), rfl⟩
theorem wd_6_70 : Cond.methodLink RL 69 yX12_pitch ∈ tT := List.mem_filter.mpr ⟨tin_6 _ (List.mem_of_getElem? (i := 70) rfl), rfl⟩
theorem wd_6_71 : Cond.instanceMethod yX12_pitch ∈ tT := List.mem_filter.mpr ⟨tin_6 _ (List.mem_of_getElem? (i := 71) rfl), rfl⟩
theorem wd_6_72 : Cond.selects RX12 yX12_pitch yX12_pitch ∈ tT := List.mem_filter.mpr ⟨tin_6 _ (List.mem_of_getElem? (i := 72) rfl), rfl⟩
theorem wd_6_73 : Cond.code yX12_pitch cX12_pitch 5 (some .int) ∈ tT := List.mem_filter.mpr ⟨tin_6 _ (List.mem_of_getElem? (i := 73) rfl), rfl⟩
theorem wd_6_74 : Cond.methodLink RX12 184 yX12_pitchOf ∈ tT := List.mem_filter.mpr ⟨tin_6 _ (List.mem_of_getElem? (i := 74) rfl), rfl⟩
theorem wd_6_76 : Cond.instanceMethod yX12_pitchOf ∈ tT := List.mem_filter.mpr ⟨tin_6 _ (List.mem_of_getElem? (i := 76) rfl), rfl⟩
theorem wd_6_77 : Cond.code yX12_pitchOf cX12_pitchOf 6 (some .int) ∈ tT := List.mem_filter.mpr ⟨tin_6 _ (List.mem_of_getElem? (i := 77) rfl), rfl⟩
theorem wd_6_78 : Cond.constant RX12 188 (1000000001) ∈ tT := List.mem_filter.mpr ⟨tin_6 _ (List.mem_of_getElem? (i := 78) rfl), rfl⟩
theorem wd_6_79 : Cond.methodLink RL 73 yX12_tries ∈ tT := List.mem_filter.mpr ⟨tin_6 _ (List.mem_of_getElem? (i := 79) rfl), rfl⟩
theorem wd_6_80 : Cond.instanceMethod yX12_tries ∈ tT := List.mem_filter.mpr ⟨tin_6 _ (List.mem_of_getElem? (i := 80) rfl), rfl⟩
theorem wd_6_81 : Cond.selects RX12 yX12_tries yX12_tries ∈ tT := List.mem_filter.mpr ⟨tin_6 _ (List.mem_of_getElem? (i := 81) rfl), rfl⟩
theorem wd_6_82 : Cond.code yX12_tries cX12_tries 6 (some .int) ∈ tT := List.mem_filter.mpr ⟨tin_6 _ (List.mem_of_getElem? (i := 82) rfl), rfl⟩
theorem wd_6_83 : Cond.methodLink RL 77 yX12_where ∈ tT := List.mem_filter.mpr ⟨tin_6 _ (List.mem_of_getElem? (i := 83) rfl), rfl⟩
theorem wd_6_84 : Cond.instanceMethod yX12_where ∈ tT := List.mem_filter.mpr ⟨tin_6 _ (List.mem_of_getElem? (i := 84) rfl), rfl⟩
theorem wd_6_85 : Cond.selects RX12 yX12_where yX12_where ∈ tT := List.mem_filter.mpr ⟨tin_6 _ (List.mem_of_getElem? (i := 85) rfl), rfl⟩
theorem wd_6_86 : Cond.code yX12_where cX12_where 5 (some .int) ∈ tT := List.mem_filter.mpr ⟨tin_6 _ (List.mem_of_getElem? (i := 86) rfl), rfl⟩
theorem wd_6_87 : Cond.methodLink RX12 198 yX12_looks ∈ tT := List.mem_filter.mpr ⟨tin_6 _ (List.mem_of_getElem? (i := 87) rfl), rfl⟩
theorem wd_6_89 : Cond.instanceMethod yX12_looks ∈ tT := List.mem_filter.mpr ⟨tin_6 _ (List.mem_of_getElem? (i := 89) rfl), rfl⟩
theorem wd_6_90 : Cond.code yX12_looks cX12_looks 7 none ∈ tT := List.mem_filter.mpr ⟨tin_6 _ (List.mem_of_getElem? (i := 90) rfl), rfl⟩
theorem wd_6_91 : Cond.methodLink RL 82 yX12_whoCan ∈ tT := List.mem_filter.mpr ⟨tin_6 _ (List.mem_of_getElem? (i := 91) rfl), rfl⟩
theorem wd_6_92 : Cond.instanceMethod yX12_whoCan ∈ tT := List.mem_filter.mpr ⟨tin_6 _ (List.mem_of_getElem? (i := 92) rfl), rfl⟩
theorem wd_6_93 : Cond.selects RX12 yX12_whoCan yX12_whoCan ∈ tT := List.mem_filter.mpr ⟨tin_6 _ (List.mem_of_getElem? (i := 93) rfl), rfl⟩
theorem wd_6_94 : Cond.code yX12_whoCan cX12_whoCan 4 (some .int) ∈ tT := List.mem_filter.mpr ⟨tin_6 _ (List.mem_of_getElem? (i := 94) rfl), rfl⟩
theorem wd_6_95 : Cond.methodLink RX12 201 yX12_bestBlade ∈ tT := List.mem_filter.mpr ⟨tin_6 _ (List.mem_of_getElem? (i := 95) rfl), rfl⟩
theorem wd_6_97 : Cond.instanceMethod yX12_bestBlade ∈ tT := List.mem_filter.mpr ⟨tin_6 _ (List.mem_of_getElem? (i := 97) rfl), rfl⟩
theorem wd_6_98 : Cond.code yX12_bestBlade cX12_bestBlade 6 (some .int) ∈ tT := List.mem_filter.mpr ⟨tin_6 _ (List.mem_of_getElem? (i := 98) rfl), rfl⟩
theorem wd_6_99 : Cond.methodLink RL 86 yX12_which ∈ tT := List.mem_filter.mpr ⟨tin_6 _ (List.mem_of_getElem? (i := 99) rfl), rfl⟩
theorem wd_6_100 : Cond.instanceMethod yX12_which ∈ tT := List.mem_filter.mpr ⟨tin_6 _ (List.mem_of_getElem? (i := 100) rfl), rfl⟩
theorem wd_6_101 : Cond.selects RX12 yX12_which yX12_which ∈ tT := List.mem_filter.mpr ⟨tin_6 _ (List.mem_of_getElem? (i := 101) rfl), rfl⟩
theorem wd_6_102 : Cond.code yX12_which cX12_which 3 (some .int) ∈ tT := List.mem_filter.mpr ⟨tin_6 _ (List.mem_of_getElem? (i := 102) rfl), rfl⟩
theorem wd_6_103 : Cond.methodLink RL 90 yX12_wrong ∈ tT := List.mem_filter.mpr ⟨tin_6 _ (List.mem_of_getElem? (i := 103) rfl), rfl⟩
theorem wd_6_104 : Cond.instanceMethod yX12_wrong ∈ tT := List.mem_filter.mpr ⟨tin_6 _ (List.mem_of_getElem? (i := 104) rfl), rfl⟩
theorem wd_6_105 : Cond.selects RX12 yX12_wrong yX12_wrong ∈ tT := List.mem_filter.mpr ⟨tin_6 _ (List.mem_of_getElem? (i := 105) rfl), rfl⟩
theorem wd_6_106 : Cond.code yX12_wrong cX12_wrong 7 (some .int) ∈ tT := List.mem_filter.mpr ⟨tin_6 _ (List.mem_of_getElem? (i := 106) rfl), rfl⟩
theorem wd_6_107 : Cond.methodLink RL 94 yX12_next ∈ tT := List.mem_filter.mpr ⟨tin_6 _ (List.mem_of_getElem? (i := 107) rfl), rfl⟩
theorem wd_6_108 : Cond.instanceMethod yX12_next ∈ tT := List.mem_filter.mpr ⟨tin_6 _ (List.mem_of_getElem? (i := 108) rfl), rfl⟩
theorem wd_6_109 : Cond.selects RX12 yX12_next yX12_next ∈ tT := List.mem_filter.mpr ⟨tin_6 _ (List.mem_of_getElem? (i := 109) rfl), rfl⟩
theorem wd_6_110 : Cond.code yX12_next cX12_next 11 (some .int) ∈ tT := List.mem_filter.mpr ⟨tin_6 _ (List.mem_of_getElem? (i := 110) rfl), rfl⟩
theorem wd_6_111 : Cond.constant RX12 204 (1000000000) ∈ tT := List.mem_filter.mpr ⟨tin_6 _ (List.mem_of_getElem? (i := 111) rfl), rfl⟩
theorem wd_6_112 : Cond.methodLink RX12 205 yX12_size ∈ tT := List.mem_filter.mpr ⟨tin_6 _ (List.mem_of_getElem? (i := 112) rfl), rfl⟩
theorem wd_6_113 : Cond.static yX12_size ∈ tT := List.mem_filter.mpr ⟨tin_6 _ (List.mem_of_getElem? (i := 113) rfl), rfl⟩
theorem wd_6_114 : Cond.code yX12_size cX12_size 1 (some .int) ∈ tT := List.mem_filter.mpr ⟨tin_6 _ (List.mem_of_getElem? (i := 114) rfl), rfl⟩
theorem wd_6_115 : Cond.methodLink RL 98 yX12_halves ∈ tT := List.mem_filter.mpr ⟨tin_6 _ (List.mem_of_getElem? (i := 115) rfl), rfl⟩
theorem wd_6_116 : Cond.instanceMethod yX12_halves ∈ tT := List.mem_filter.mpr ⟨tin_6 _ (List.mem_of_getElem? (i := 116) rfl), rfl⟩
theorem wd_6_117 : Cond.selects RX12 yX12_halves yX12_halves ∈ tT := List.mem_filter.mpr ⟨tin_6 _ (List.mem_of_getElem? (i := 117) rfl), rfl⟩
theorem wd_6_118 : Cond.code yX12_halves cX12_halves 8 (some .int) ∈ tT := List.mem_filter.mpr ⟨tin_6 _ (List.mem_of_getElem? (i := 118) rfl), rfl⟩
theorem wd_6_119 : Cond.methodLink RL 102 yX12_ways ∈ tT := List.mem_filter.mpr ⟨tin_6 _ (List.mem_of_getElem? (i := 119) rfl), rfl⟩
theorem wd_6_120 : Cond.instanceMethod yX12_ways ∈ tT := List.mem_filter.mpr ⟨tin_6 _ (List.mem_of_getElem? (i := 120) rfl), rfl⟩
theorem wd_6_121 : Cond.selects RX12 yX12_ways yX12_ways ∈ tT := List.mem_filter.mpr ⟨tin_6 _ (List.mem_of_getElem? (i := 121) rfl), rfl⟩
theorem wd_6_122 : Cond.code yX12_ways cX12_ways 5 (some .int) ∈ tT := List.mem_filter.mpr ⟨tin_6 _ (List.mem_of_getElem? (i := 122) rfl), rfl⟩
theorem wd_6_123 : Cond.methodLink RX12 210 yX12_waysBy ∈ tT := List.mem_filter.mpr ⟨tin_6 _ (List.mem_of_getElem? (i := 123) rfl), rfl⟩
theorem wd_6_125 : Cond.instanceMethod yX12_waysBy ∈ tT := List.mem_filter.mpr ⟨tin_6 _ (List.mem_of_getElem? (i := 125) rfl), rfl⟩
theorem wd_6_126 : Cond.code yX12_waysBy cX12_waysBy 8 (some .int) ∈ tT := List.mem_filter.mpr ⟨tin_6 _ (List.mem_of_getElem? (i := 126) rfl), rfl⟩
theorem wd_6_127 : Cond.methodLink RX12 207 yX12_canAnyForce ∈ tT := List.mem_filter.mpr ⟨tin_6 _ (List.mem_of_getElem? (i := 127) rfl), rfl⟩
theorem wd_6_129 : Cond.instanceMethod yX12_canAnyForce ∈ tT := List.mem_filter.mpr ⟨tin_6 _ (List.mem_of_getElem? (i := 129) rfl), rfl⟩
theorem wd_6_130 : Cond.code yX12_canAnyForce cX12_canAnyForce 4 (some .boolean) ∈ tT := List.mem_filter.mpr ⟨tin_6 _ (List.mem_of_getElem? (i := 130) rfl), rfl⟩
theorem wd_6_131 : Cond.methodLink RL 106 yX12_tune ∈ tT := List.mem_filter.mpr ⟨tin_6 _ (List.mem_of_getElem? (i := 131) rfl), rfl⟩
theorem wd_6_132 : Cond.instanceMethod yX12_tune ∈ tT := List.mem_filter.mpr ⟨tin_6 _ (List.mem_of_getElem? (i := 132) rfl), rfl⟩
theorem wd_6_133 : Cond.selects RX12 yX12_tune yX12_tune ∈ tT := List.mem_filter.mpr ⟨tin_6 _ (List.mem_of_getElem? (i := 133) rfl), rfl⟩
theorem wd_6_134 : Cond.code yX12_tune cX12_tune 10 (some .int) ∈ tT := List.mem_filter.mpr ⟨tin_6 _ (List.mem_of_getElem? (i := 134) rfl), rfl⟩
theorem wd_6_135 : Cond.constant RX12 213 (999999) ∈ tT := List.mem_filter.mpr ⟨tin_6 _ (List.mem_of_getElem? (i := 135) rfl), rfl⟩
theorem wd_6_136 : Cond.methodLink RX12 214 yX12_bladesFor ∈ tT := List.mem_filter.mpr ⟨tin_6 _ (List.mem_of_getElem? (i := 136) rfl), rfl⟩
theorem wd_6_138 : Cond.instanceMethod yX12_bladesFor ∈ tT := List.mem_filter.mpr ⟨tin_6 _ (List.mem_of_getElem? (i := 138) rfl), rfl⟩
theorem wd_6_139 : Cond.code yX12_bladesFor cX12_bladesFor 5 (some .int) ∈ tT := List.mem_filter.mpr ⟨tin_6 _ (List.mem_of_getElem? (i := 139) rfl), rfl⟩
theorem wd_6_140 : Cond.methodLink RL 110 yX12_lasts ∈ tT := List.mem_filter.mpr ⟨tin_6 _ (List.mem_of_getElem? (i := 140) rfl), rfl⟩
theorem wd_6_141 : Cond.instanceMethod yX12_lasts ∈ tT := List.mem_filter.mpr ⟨tin_6 _ (List.mem_of_getElem? (i := 141) rfl), rfl⟩
theorem wd_6_142 : Cond.selects RX12 yX12_lasts yX12_lasts ∈ tT := List.mem_filter.mpr ⟨tin_6 _ (List.mem_of_getElem? (i := 142) rfl), rfl⟩
theorem wd_6_143 : Cond.code yX12_lasts cX12_lasts 4 (some .int) ∈ tT := List.mem_filter.mpr ⟨tin_6 _ (List.mem_of_getElem? (i := 143) rfl), rfl⟩
theorem wd_6_144 : Cond.methodLink RX12 217 yX12_lastsOf ∈ tT := List.mem_filter.mpr ⟨tin_6 _ (List.mem_of_getElem? (i := 144) rfl), rfl⟩
theorem wd_6_146 : Cond.instanceMethod yX12_lastsOf ∈ tT := List.mem_filter.mpr ⟨tin_6 _ (List.mem_of_getElem? (i := 146) rfl), rfl⟩
theorem wd_6_147 : Cond.code yX12_lastsOf cX12_lastsOf 6 (some .int) ∈ tT := List.mem_filter.mpr ⟨tin_6 _ (List.mem_of_getElem? (i := 147) rfl), rfl⟩
theorem wd_6_148 : Cond.methodLink RL 114 yX12_bestForce ∈ tT := List.mem_filter.mpr ⟨tin_6 _ (List.mem_of_getElem? (i := 148) rfl), rfl⟩
theorem wd_6_149 : Cond.instanceMethod yX12_bestForce ∈ tT := List.mem_filter.mpr ⟨tin_6 _ (List.mem_of_getElem? (i := 149) rfl), rfl⟩
theorem wd_6_150 : Cond.selects RX12 yX12_bestForce yX12_bestForce ∈ tT := List.mem_filter.mpr ⟨tin_6 _ (List.mem_of_getElem? (i := 150) rfl), rfl⟩
theorem wd_6_151 : Cond.code yX12_bestForce cX12_bestForce 6 (some .int) ∈ tT := List.mem_filter.mpr ⟨tin_6 _ (List.mem_of_getElem? (i := 151) rfl), rfl⟩
theorem wd_6_152 : Cond.methodLink RL 118 yX12_clash ∈ tT := List.mem_filter.mpr ⟨tin_6 _ (List.mem_of_getElem? (i := 152) rfl), rfl⟩
theorem wd_6_153 : Cond.instanceMethod yX12_clash ∈ tT := List.mem_filter.mpr ⟨tin_6 _ (List.mem_of_getElem? (i := 153) rfl), rfl⟩
theorem wd_6_154 : Cond.selects RX12 yX12_clash yX12_clash ∈ tT := List.mem_filter.mpr ⟨tin_6 _ (List.mem_of_getElem? (i := 154) rfl), rfl⟩
theorem wd_6_155 : Cond.code yX12_clash cX12_clash 8 (some .int) ∈ tT := List.mem_filter.mpr ⟨tin_6 _ (List.mem_of_getElem? (i := 155) rfl), rfl⟩
theorem wd_6_156 : Cond.methodLink RL 122 yX12_heard ∈ tT := List.mem_filter.mpr ⟨tin_6 _ (List.mem_of_getElem? (i := 156) rfl), rfl⟩
theorem wd_6_157 : Cond.instanceMethod yX12_heard ∈ tT := List.mem_filter.mpr ⟨tin_6 _ (List.mem_of_getElem? (i := 157) rfl), rfl⟩
theorem wd_6_158 : Cond.selects RX12 yX12_heard yX12_heard ∈ tT := List.mem_filter.mpr ⟨tin_6 _ (List.mem_of_getElem? (i := 158) rfl), rfl⟩
theorem wd_6_159 : Cond.code yX12_heard cX12_heard 4 (some .int) ∈ tT := List.mem_filter.mpr ⟨tin_6 _ (List.mem_of_getElem? (i := 159) rfl), rfl⟩
theorem wd_6_160 : Cond.methodLink RL 127 yX12_nearer ∈ tT := List.mem_filter.mpr ⟨tin_6 _ (List.mem_of_getElem? (i := 160) rfl), rfl⟩
theorem wd_6_161 : Cond.instanceMethod yX12_nearer ∈ tT := List.mem_filter.mpr ⟨tin_6 _ (List.mem_of_getElem? (i := 161) rfl), rfl⟩
theorem wd_6_162 : Cond.selects RX12 yX12_nearer yX12_nearer ∈ tT := List.mem_filter.mpr ⟨tin_6 _ (List.mem_of_getElem? (i := 162) rfl), rfl⟩
theorem wd_6_163 : Cond.code yX12_nearer cX12_nearer 5 (some .long) ∈ tT := List.mem_filter.mpr ⟨tin_6 _ (List.mem_of_getElem? (i := 163) rfl), rfl⟩
theorem wd_6_164 : Cond.methodLink RX12 226 yX12_areOdds ∈ tT := List.mem_filter.mpr ⟨tin_6 _ (List.mem_of_getElem? (i := 164) rfl), rfl⟩
theorem wd_6_165 : Cond.static yX12_areOdds ∈ tT := List.mem_filter.mpr ⟨tin_6 _ (List.mem_of_getElem? (i := 165) rfl), rfl⟩
theorem wd_6_166 : Cond.code yX12_areOdds cX12_areOdds 2 (some .boolean) ∈ tT := List.mem_filter.mpr ⟨tin_6 _ (List.mem_of_getElem? (i := 166) rfl), rfl⟩
theorem wd_6_167 : Cond.constantLong RX12 229 (1000000001) ∈ tT := List.mem_filter.mpr ⟨tin_6 _ (List.mem_of_getElem? (i := 167) rfl), rfl⟩
theorem wd_6_168 : Cond.methodLink RX12 231 yX12_nearParts ∈ tT := List.mem_filter.mpr ⟨tin_6 _ (List.mem_of_getElem? (i := 168) rfl), rfl⟩
theorem wd_6_170 : Cond.instanceMethod yX12_nearParts ∈ tT := List.mem_filter.mpr ⟨tin_6 _ (List.mem_of_getElem? (i := 170) rfl), rfl⟩
theorem wd_6_171 : Cond.code yX12_nearParts cX12_nearParts 9 (some .long) ∈ tT := List.mem_filter.mpr ⟨tin_6 _ (List.mem_of_getElem? (i := 171) rfl), rfl⟩
theorem wd_6_172 : Cond.constantLong RX12 224 (10) ∈ tT := List.mem_filter.mpr ⟨tin_6 _ (List.mem_of_getElem? (i := 172) rfl), rfl⟩
theorem wd_6_173 : Cond.methodLink RX12 235 yX12_tens ∈ tT := List.mem_filter.mpr ⟨tin_6 _ (List.mem_of_getElem? (i := 173) rfl), rfl⟩
theorem wd_6_174 : Cond.static yX12_tens ∈ tT := List.mem_filter.mpr ⟨tin_6 _ (List.mem_of_getElem? (i := 174) rfl), rfl⟩
theorem wd_6_175 : Cond.code yX12_tens cX12_tens 4 (some .long) ∈ tT := List.mem_filter.mpr ⟨tin_6 _ (List.mem_of_getElem? (i := 175) rfl), rfl⟩
theorem wd_6_176 : Cond.methodLink RX12 239 yX12_partOf ∈ tT := List.mem_filter.mpr ⟨tin_6 _ (List.mem_of_getElem? (i := 176) rfl), rfl⟩
theorem wd_6_177 : Cond.static yX12_partOf ∈ tT := List.mem_filter.mpr ⟨tin_6 _ (List.mem_of_getElem? (i := 177) rfl), rfl⟩
theorem wd_6_178 : Cond.code yX12_partOf cX12_partOf 5 (some .long) ∈ tT := List.mem_filter.mpr ⟨tin_6 _ (List.mem_of_getElem? (i := 178) rfl), rfl⟩
theorem wd_6_179 : Cond.methodLink RX12 220 yX12_gcd ∈ tT := List.mem_filter.mpr ⟨tin_6 _ (List.mem_of_getElem? (i := 179) rfl), rfl⟩
theorem wd_6_180 : Cond.static yX12_gcd ∈ tT := List.mem_filter.mpr ⟨tin_6 _ (List.mem_of_getElem? (i := 180) rfl), rfl⟩
theorem wd_6_181 : Cond.code yX12_gcd cX12_gcd 10 (some .long) ∈ tT := List.mem_filter.mpr ⟨tin_6 _ (List.mem_of_getElem? (i := 181) rfl), rfl⟩
theorem wd_6_182 : Cond.methodLink RL 131 yX12_often ∈ tT := List.mem_filter.mpr ⟨tin_6 _ (List.mem_of_getElem? (i := 182) rfl), rfl⟩
theorem wd_6_183 : Cond.instanceMethod yX12_often ∈ tT := List.mem_filter.mpr ⟨tin_6 _ (List.mem_of_getElem? (i := 183) rfl), rfl⟩
theorem wd_6_184 : Cond.selects RX12 yX12_often yX12_often ∈ tT := List.mem_filter.mpr ⟨tin_6 _ (List.mem_of_getElem? (i := 184) rfl), rfl⟩
theorem wd_6_185 : Cond.code yX12_often cX12_often 4 (some .int) ∈ tT := List.mem_filter.mpr ⟨tin_6 _ (List.mem_of_getElem? (i := 185) rfl), rfl⟩
theorem wd_6_186 : Cond.constantLong RX12 243 (2) ∈ tT := List.mem_filter.mpr ⟨tin_6 _ (List.mem_of_getElem? (i := 186) rfl), rfl⟩
theorem wd_6_187 : Cond.methodLink RL 136 yX12_answer ∈ tT := List.mem_filter.mpr ⟨tin_6 _ (List.mem_of_getElem? (i := 187) rfl), rfl⟩
theorem wd_6_188 : Cond.instanceMethod yX12_answer ∈ tT := List.mem_filter.mpr ⟨tin_6 _ (List.mem_of_getElem? (i := 188) rfl), rfl⟩
theorem wd_6_189 : Cond.selects RX12 yX12_answer yX12_answer ∈ tT := List.mem_filter.mpr ⟨tin_6 _ (List.mem_of_getElem? (i := 189) rfl), rfl⟩
theorem wd_6_190 : Cond.code yX12_answer cX12_answer 8 (some .long) ∈ tT := List.mem_filter.mpr ⟨tin_6 _ (List.mem_of_getElem? (i := 190) rfl), rfl⟩
theorem wd_6_191 : Cond.constantLong RX12 245 (5) ∈ tT := List.mem_filter.mpr ⟨tin_6 _ (List.mem_of_getElem? (i := 191) rfl), rfl⟩
theorem wd_6_192 : Cond.constantLong RX12 247 (3) ∈ tT := List.mem_filter.mpr ⟨tin_6 _ (List.mem_of_getElem? (i := 192) rfl), rfl⟩
theorem wd_6_193 : Cond.methodLink RL 140 yX12_telling ∈ tT := List.mem_filter.mpr ⟨tin_6 _ (List.mem_of_getElem? (i := 193) rfl), rfl⟩
theorem wd_6_194 : Cond.instanceMethod yX12_telling ∈ tT := List.mem_filter.mpr ⟨tin_6 _ (List.mem_of_getElem? (i := 194) rfl), rfl⟩
theorem wd_6_195 : Cond.selects RX12 yX12_telling yX12_telling ∈ tT := List.mem_filter.mpr ⟨tin_6 _ (List.mem_of_getElem? (i := 195) rfl), rfl⟩
theorem wd_6_196 : Cond.code yX12_telling cX12_telling 8 (some .int) ∈ tT := List.mem_filter.mpr ⟨tin_6 _ (List.mem_of_getElem? (i := 196) rfl), rfl⟩
theorem wd_6_197 : Cond.methodLink RX12 249 yX12_whereBy ∈ tT := List.mem_filter.mpr ⟨tin_6 _ (List.mem_of_getElem? (i := 197) rfl), rfl⟩
theorem wd_6_199 : Cond.instanceMethod yX12_whereBy ∈ tT := List.mem_filter.mpr ⟨tin_6 _ (List.mem_of_getElem? (i := 199) rfl), rfl⟩
theorem wd_6_200 : Cond.code yX12_whereBy cX12_whereBy 5 (some .int) ∈ tT := List.mem_filter.mpr ⟨tin_6 _ (List.mem_of_getElem? (i := 200) rfl), rfl⟩
theorem wd_6_201 : Cond.methodLink RL 144 yX12_odds ∈ tT := List.mem_filter.mpr ⟨tin_6 _ (List.mem_of_getElem? (i := 201) rfl), rfl⟩
theorem wd_6_202 : Cond.instanceMethod yX12_odds ∈ tT := List.mem_filter.mpr ⟨tin_6 _ (List.mem_of_getElem? (i := 202) rfl), rfl⟩
theorem wd_6_203 : Cond.selects RX12 yX12_odds yX12_odds ∈ tT := List.mem_filter.mpr ⟨tin_6 _ (List.mem_of_getElem? (i := 203) rfl), rfl⟩
theorem wd_6_204 : Cond.code yX12_odds cX12_odds 5 (some .long) ∈ tT := List.mem_filter.mpr ⟨tin_6 _ (List.mem_of_getElem? (i := 204) rfl), rfl⟩
theorem wd_6_205 : Cond.methodLink RX12 252 yX12_allPairs ∈ tT := List.mem_filter.mpr ⟨tin_6 _ (List.mem_of_getElem? (i := 205) rfl), rfl⟩
theorem wd_6_207 : Cond.instanceMethod yX12_allPairs ∈ tT := List.mem_filter.mpr ⟨tin_6 _ (List.mem_of_getElem? (i := 207) rfl), rfl⟩
theorem wd_6_208 : Cond.code yX12_allPairs cX12_allPairs 2 (some .int) ∈ tT := List.mem_filter.mpr ⟨tin_6 _ (List.mem_of_getElem? (i := 208) rfl), rfl⟩
theorem wd_6_209 : Cond.methodLink RL 148 yX12_enough ∈ tT := List.mem_filter.mpr ⟨tin_6 _ (List.mem_of_getElem? (i := 209) rfl), rfl⟩
theorem wd_6_210 : Cond.instanceMethod yX12_enough ∈ tT := List.mem_filter.mpr ⟨tin_6 _ (List.mem_of_getElem? (i := 210) rfl), rfl⟩
theorem wd_6_211 : Cond.selects RX12 yX12_enough yX12_enough ∈ tT := List.mem_filter.mpr ⟨tin_6 _ (List.mem_of_getElem? (i := 211) rfl), rfl⟩
theorem wd_6_212 : Cond.code yX12_enough cX12_enough 5 (some .int) ∈ tT := List.mem_filter.mpr ⟨tin_6 _ (List.mem_of_getElem? (i := 212) rfl), rfl⟩
theorem wd_6_213 : Cond.methodLink RL 152 yX12_heap ∈ tT := List.mem_filter.mpr ⟨tin_6 _ (List.mem_of_getElem? (i := 213) rfl), rfl⟩
theorem wd_6_214 : Cond.instanceMethod yX12_heap ∈ tT := List.mem_filter.mpr ⟨tin_6 _ (List.mem_of_getElem? (i := 214) rfl), rfl⟩
theorem wd_6_215 : Cond.selects RX12 yX12_heap yX12_heap ∈ tT := List.mem_filter.mpr ⟨tin_6 _ (List.mem_of_getElem? (i := 215) rfl), rfl⟩
theorem wd_6_216 : Cond.code yX12_heap cX12_heap 9 (some .int) ∈ tT := List.mem_filter.mpr ⟨tin_6 _ (List.mem_of_getElem? (i := 216) rfl), rfl⟩
theorem wd_6_217 : Cond.methodLink RX12 255 yX12_forcesFor ∈ tT := List.mem_filter.mpr ⟨tin_6 _ (List.mem_of_getElem? (i := 217) rfl), rfl⟩
theorem wd_6_219 : Cond.instanceMethod yX12_forcesFor ∈ tT := List.mem_filter.mpr ⟨tin_6 _ (List.mem_of_getElem? (i := 219) rfl), rfl⟩
theorem wd_6_220 : Cond.code yX12_forcesFor cX12_forcesFor 5 (some .int) ∈ tT := List.mem_filter.mpr ⟨tin_6 _ (List.mem_of_getElem? (i := 220) rfl), rfl⟩
theorem wd_6_221 : Cond.methodLink RL 156 yX12_forged ∈ tT := List.mem_filter.mpr ⟨tin_6 _ (List.mem_of_getElem? (i := 221) rfl), rfl⟩
theorem wd_6_222 : Cond.instanceMethod yX12_forged ∈ tT := List.mem_filter.mpr ⟨tin_6 _ (List.mem_of_getElem? (i := 222) rfl), rfl⟩
theorem wd_6_223 : Cond.selects RX12 yX12_forged yX12_forged ∈ tT := List.mem_filter.mpr ⟨tin_6 _ (List.mem_of_getElem? (i := 223) rfl), rfl⟩
theorem wd_6_224 : Cond.code yX12_forged cX12_forged 5 (some .int) ∈ tT := List.mem_filter.mpr ⟨tin_6 _ (List.mem_of_getElem? (i := 224) rfl), rfl⟩
theorem wd_6_225 : Cond.methodLink RL 160 yX12_remainder ∈ tT := List.mem_filter.mpr ⟨tin_6 _ (List.mem_of_getElem? (i := 225) rfl), rfl⟩
theorem wd_6_226 : Cond.instanceMethod yX12_remainder ∈ tT := List.mem_filter.mpr ⟨tin_6 _ (List.mem_of_getElem? (i := 226) rfl), rfl⟩
theorem wd_6_227 : Cond.selects RX12 yX12_remainder yX12_remainder ∈ tT := List.mem_filter.mpr ⟨tin_6 _ (List.mem_of_getElem? (i := 227) rfl), rfl⟩
theorem wd_6_228 : Cond.code yX12_remainder cX12_remainder 5 (some .int) ∈ tT := List.mem_filter.mpr ⟨tin_6 _ (List.mem_of_getElem? (i := 228) rfl), rfl⟩
theorem wd_6_229 : Cond.methodLink RL 164 yX12_judge ∈ tT := List.mem_filter.mpr ⟨tin_6 _ (List.mem_of_getElem? (i := 229) rfl), rfl⟩
theorem wd_6_230 : Cond.instanceMethod yX12_judge ∈ tT := List.mem_filter.mpr ⟨tin_6 _ (List.mem_of_getElem? (i := 230) rfl), rfl⟩
theorem wd_6_231 : Cond.selects RX12 yX12_judge yX12_judge ∈ tT := List.mem_filter.mpr ⟨tin_6 _ (List.mem_of_getElem? (i := 231) rfl), rfl⟩
theorem wd_6_232 : Cond.code yX12_judge cX12_judge 13 (some .int) ∈ tT := List.mem_filter.mpr ⟨tin_6 _ (List.mem_of_getElem? (i := 232) rfl), rfl⟩
theorem wd_6_233 : Cond.methodLink RX12 262 yX12_leastOf ∈ tT := List.mem_filter.mpr ⟨tin_6 _ (List.mem_of_getElem? (i := 233) rfl), rfl⟩
theorem wd_6_234 : Cond.static yX12_leastOf ∈ tT := List.mem_filter.mpr ⟨tin_6 _ (List.mem_of_getElem? (i := 234) rfl), rfl⟩
theorem wd_6_235 : Cond.code yX12_leastOf cX12_leastOf 1 (some .int) ∈ tT := List.mem_filter.mpr ⟨tin_6 _ (List.mem_of_getElem? (i := 235) rfl), rfl⟩
theorem wd_6_236 : Cond.constant RX12 258 (-2147483648) ∈ tT := List.mem_filter.mpr ⟨tin_6 _ (List.mem_of_getElem? (i := 236) rfl), rfl⟩
theorem wd_6_237 : Cond.methodLink RL 168 yX12_walks ∈ tT := List.mem_filter.mpr ⟨tin_6 _ (List.mem_of_getElem? (i := 237) rfl), rfl⟩
theorem wd_6_238 : Cond.instanceMethod yX12_walks ∈ tT := List.mem_filter.mpr ⟨tin_6 _ (List.mem_of_getElem? (i := 238) rfl), rfl⟩
theorem wd_6_239 : Cond.selects RX12 yX12_walks yX12_walks ∈ tT := List.mem_filter.mpr ⟨tin_6 _ (List.mem_of_getElem? (i := 239) rfl), rfl⟩
theorem wd_7_0 : Cond.code yX12_walks cX12_walks 13 (some .int) ∈ tT := List.mem_filter.mpr ⟨tin_7 _ (List.mem_of_getElem? (i := 0) rfl), rfl⟩
theorem wd_7_1 : Cond.methodLink RX12 271 yX12_drawn ∈ tT := List.mem_filter.mpr ⟨tin_7 _ (List.mem_of_getElem? (i := 1) rfl), rfl⟩
theorem wd_7_3 : Cond.instanceMethod yX12_drawn ∈ tT := List.mem_filter.mpr ⟨tin_7 _ (List.mem_of_getElem? (i := 3) rfl), rfl⟩
theorem wd_7_4 : Cond.code yX12_drawn cX12_drawn 2 (some .int) ∈ tT := List.mem_filter.mpr ⟨tin_7 _ (List.mem_of_getElem? (i := 4) rfl), rfl⟩
theorem wd_7_5 : Cond.constant RX12 268 (1103515245) ∈ tT := List.mem_filter.mpr ⟨tin_7 _ (List.mem_of_getElem? (i := 5) rfl), rfl⟩
theorem wd_7_6 : Cond.constant RX12 269 (2147483647) ∈ tT := List.mem_filter.mpr ⟨tin_7 _ (List.mem_of_getElem? (i := 6) rfl), rfl⟩
theorem wd_7_7 : Cond.constant RX12 270 (65536) ∈ tT := List.mem_filter.mpr ⟨tin_7 _ (List.mem_of_getElem? (i := 7) rfl), rfl⟩
theorem wd_7_8 : Cond.methodLink RX12 274 yX12_tries ∈ tT := List.mem_filter.mpr ⟨tin_7 _ (List.mem_of_getElem? (i := 8) rfl), rfl⟩
theorem wd_7_9 : Cond.methodLink RL 172 yX12_image ∈ tT := List.mem_filter.mpr ⟨tin_7 _ (List.mem_of_getElem? (i := 9) rfl), rfl⟩
theorem wd_7_10 : Cond.instanceMethod yX12_image ∈ tT := List.mem_filter.mpr ⟨tin_7 _ (List.mem_of_getElem? (i := 10) rfl), rfl⟩
theorem wd_7_11 : Cond.selects RX12 yX12_image yX12_image ∈ tT := List.mem_filter.mpr ⟨tin_7 _ (List.mem_of_getElem? (i := 11) rfl), rfl⟩
theorem wd_7_12 : Cond.code yX12_image cX12_image 1 (some .int) ∈ tT := List.mem_filter.mpr ⟨tin_7 _ (List.mem_of_getElem? (i := 12) rfl), rfl⟩
theorem wd_7_13 : Cond.methodLink RL 176 yX12_restore ∈ tT := List.mem_filter.mpr ⟨tin_7 _ (List.mem_of_getElem? (i := 13) rfl), rfl⟩
theorem wd_7_14 : Cond.instanceMethod yX12_restore ∈ tT := List.mem_filter.mpr ⟨tin_7 _ (List.mem_of_getElem? (i := 14) rfl), rfl⟩
theorem wd_7_15 : Cond.selects RX12 yX12_restore yX12_restore ∈ tT := List.mem_filter.mpr ⟨tin_7 _ (List.mem_of_getElem? (i := 15) rfl), rfl⟩
theorem wd_7_16 : Cond.code yX12_restore cX12_restore 1 (some .int) ∈ tT := List.mem_filter.mpr ⟨tin_7 _ (List.mem_of_getElem? (i := 16) rfl), rfl⟩
theorem wd_7_17 : Cond.methodLink RL 180 yX12_count ∈ tT := List.mem_filter.mpr ⟨tin_7 _ (List.mem_of_getElem? (i := 17) rfl), rfl⟩
theorem wd_7_18 : Cond.instanceMethod yX12_count ∈ tT := List.mem_filter.mpr ⟨tin_7 _ (List.mem_of_getElem? (i := 18) rfl), rfl⟩
theorem wd_7_19 : Cond.selects RX12 yX12_count yX12_count ∈ tT := List.mem_filter.mpr ⟨tin_7 _ (List.mem_of_getElem? (i := 19) rfl), rfl⟩
theorem wd_7_20 : Cond.code yX12_count cX12_count 4 (some .int) ∈ tT := List.mem_filter.mpr ⟨tin_7 _ (List.mem_of_getElem? (i := 20) rfl), rfl⟩
theorem wd_7_21 : Cond.methodLink RL 199 yX12_thrown ∈ tT := List.mem_filter.mpr ⟨tin_7 _ (List.mem_of_getElem? (i := 21) rfl), rfl⟩
theorem wd_7_22 : Cond.instanceMethod yX12_thrown ∈ tT := List.mem_filter.mpr ⟨tin_7 _ (List.mem_of_getElem? (i := 22) rfl), rfl⟩
theorem wd_7_23 : Cond.selects RX12 yX12_thrown yX12_thrown ∈ tT := List.mem_filter.mpr ⟨tin_7 _ (List.mem_of_getElem? (i := 23) rfl), rfl⟩
theorem wd_7_24 : Cond.code yX12_thrown cX12_thrown 1 (some .int) ∈ tT := List.mem_filter.mpr ⟨tin_7 _ (List.mem_of_getElem? (i := 24) rfl), rfl⟩
theorem wd_7_25 : Cond.methodLink RL 184 yX12_keep ∈ tT := List.mem_filter.mpr ⟨tin_7 _ (List.mem_of_getElem? (i := 25) rfl), rfl⟩
theorem wd_7_26 : Cond.instanceMethod yX12_keep ∈ tT := List.mem_filter.mpr ⟨tin_7 _ (List.mem_of_getElem? (i := 26) rfl), rfl⟩
theorem wd_7_27 : Cond.selects RX12 yX12_keep yX12_keep ∈ tT := List.mem_filter.mpr ⟨tin_7 _ (List.mem_of_getElem? (i := 27) rfl), rfl⟩
theorem wd_7_28 : Cond.code yX12_keep cX12_keep 5 (some .int) ∈ tT := List.mem_filter.mpr ⟨tin_7 _ (List.mem_of_getElem? (i := 28) rfl), rfl⟩
theorem wd_7_29 : Cond.methodLink RL 188 yX12_row ∈ tT := List.mem_filter.mpr ⟨tin_7 _ (List.mem_of_getElem? (i := 29) rfl), rfl⟩
theorem wd_7_30 : Cond.instanceMethod yX12_row ∈ tT := List.mem_filter.mpr ⟨tin_7 _ (List.mem_of_getElem? (i := 30) rfl), rfl⟩
theorem wd_7_31 : Cond.selects RX12 yX12_row yX12_row ∈ tT := List.mem_filter.mpr ⟨tin_7 _ (List.mem_of_getElem? (i := 31) rfl), rfl⟩
theorem wd_7_32 : Cond.code yX12_row cX12_row 5 (some .int) ∈ tT := List.mem_filter.mpr ⟨tin_7 _ (List.mem_of_getElem? (i := 32) rfl), rfl⟩
theorem wd_7_33 : Cond.methodLink RL 192 yX12_put ∈ tT := List.mem_filter.mpr ⟨tin_7 _ (List.mem_of_getElem? (i := 33) rfl), rfl⟩
theorem wd_7_34 : Cond.instanceMethod yX12_put ∈ tT := List.mem_filter.mpr ⟨tin_7 _ (List.mem_of_getElem? (i := 34) rfl), rfl⟩
theorem wd_7_35 : Cond.selects RX12 yX12_put yX12_put ∈ tT := List.mem_filter.mpr ⟨tin_7 _ (List.mem_of_getElem? (i := 35) rfl), rfl⟩
theorem wd_7_36 : Cond.code yX12_put cX12_put 5 (some .int) ∈ tT := List.mem_filter.mpr ⟨tin_7 _ (List.mem_of_getElem? (i := 36) rfl), rfl⟩
theorem wd_7_37 : Cond.methodLink RL 198 yX12_element ∈ tT := List.mem_filter.mpr ⟨tin_7 _ (List.mem_of_getElem? (i := 37) rfl), rfl⟩
theorem wd_7_38 : Cond.instanceMethod yX12_element ∈ tT := List.mem_filter.mpr ⟨tin_7 _ (List.mem_of_getElem? (i := 38) rfl), rfl⟩
theorem wd_7_39 : Cond.selects RX12 yX12_element yX12_element ∈ tT := List.mem_filter.mpr ⟨tin_7 _ (List.mem_of_getElem? (i := 39) rfl), rfl⟩
theorem wd_7_40 : Cond.code yX12_element cX12_element 3 (some .long) ∈ tT := List.mem_filter.mpr ⟨tin_7 _ (List.mem_of_getElem? (i := 40) rfl), rfl⟩
theorem wd_7_41 : Cond.methodLink RL 205 yX12_copy ∈ tT := List.mem_filter.mpr ⟨tin_7 _ (List.mem_of_getElem? (i := 41) rfl), rfl⟩
theorem wd_7_42 : Cond.instanceMethod yX12_copy ∈ tT := List.mem_filter.mpr ⟨tin_7 _ (List.mem_of_getElem? (i := 42) rfl), rfl⟩
theorem wd_7_43 : Cond.selects RX12 yX12_copy yX12_copy ∈ tT := List.mem_filter.mpr ⟨tin_7 _ (List.mem_of_getElem? (i := 43) rfl), rfl⟩
theorem wd_7_44 : Cond.code yX12_copy cX12_copy 8 (some .int) ∈ tT := List.mem_filter.mpr ⟨tin_7 _ (List.mem_of_getElem? (i := 44) rfl), rfl⟩
theorem wd_7_45 : Cond.methodLink RL 209 yX12_cost ∈ tT := List.mem_filter.mpr ⟨tin_7 _ (List.mem_of_getElem? (i := 45) rfl), rfl⟩
theorem wd_7_46 : Cond.instanceMethod yX12_cost ∈ tT := List.mem_filter.mpr ⟨tin_7 _ (List.mem_of_getElem? (i := 46) rfl), rfl⟩
theorem wd_7_47 : Cond.selects RX12 yX12_cost yX12_cost ∈ tT := List.mem_filter.mpr ⟨tin_7 _ (List.mem_of_getElem? (i := 47) rfl), rfl⟩
theorem wd_7_48 : Cond.code yX12_cost cX12_cost 3 (some .int) ∈ tT := List.mem_filter.mpr ⟨tin_7 _ (List.mem_of_getElem? (i := 48) rfl), rfl⟩
theorem wd_7_49 : Cond.methodLink RX12 285 yX12_costBy ∈ tT := List.mem_filter.mpr ⟨tin_7 _ (List.mem_of_getElem? (i := 49) rfl), rfl⟩
theorem wd_7_50 : Cond.static yX12_costBy ∈ tT := List.mem_filter.mpr ⟨tin_7 _ (List.mem_of_getElem? (i := 50) rfl), rfl⟩
theorem wd_7_51 : Cond.code yX12_costBy cX12_costBy 2 (some .int) ∈ tT := List.mem_filter.mpr ⟨tin_7 _ (List.mem_of_getElem? (i := 51) rfl), rfl⟩
theorem wd_7_52 : Cond.methodLink RL 213 yX12_toss ∈ tT := List.mem_filter.mpr ⟨tin_7 _ (List.mem_of_getElem? (i := 52) rfl), rfl⟩
theorem wd_7_53 : Cond.instanceMethod yX12_toss ∈ tT := List.mem_filter.mpr ⟨tin_7 _ (List.mem_of_getElem? (i := 53) rfl), rfl⟩
theorem wd_7_54 : Cond.selects RX12 yX12_toss yX12_toss ∈ tT := List.mem_filter.mpr ⟨tin_7 _ (List.mem_of_getElem? (i := 54) rfl), rfl⟩
theorem wd_7_55 : Cond.code yX12_toss cX12_toss 5 (some .int) ∈ tT := List.mem_filter.mpr ⟨tin_7 _ (List.mem_of_getElem? (i := 55) rfl), rfl⟩
theorem wd_7_56 : Cond.sameMethod "BladeBetweenThumbs$Sounding" "BladeBetweenThumbs$Sounding" "wearBy" "(I)I" ∈ tT := List.mem_filter.mpr ⟨tin_7 _ (List.mem_of_getElem? (i := 56) rfl), rfl⟩
theorem wd_7_57 : Cond.sameMethod "BladeBetweenThumbs$Sounding" "BladeBetweenThumbs$Sounding" "low" "(II)I" ∈ tT := List.mem_filter.mpr ⟨tin_7 _ (List.mem_of_getElem? (i := 57) rfl), rfl⟩
theorem wd_7_58 : Cond.sameMethod "BladeBetweenThumbs$Sounding" "BladeBetweenThumbs$Sounding" "costs" "()I" ∈ tT := List.mem_filter.mpr ⟨tin_7 _ (List.mem_of_getElem? (i := 58) rfl), rfl⟩
theorem wd_7_59 : Cond.sameMethod "BladeBetweenThumbs$Empty" "BladeBetweenThumbs$Empty" "costs" "()I" ∈ tT := List.mem_filter.mpr ⟨tin_7 _ (List.mem_of_getElem? (i := 59) rfl), rfl⟩
theorem wd_7_60 : Cond.sameMethod "BladeBetweenThumbs$Cupped" "BladeBetweenThumbs$Cupped" "costs" "()I" ∈ tT := List.mem_filter.mpr ⟨tin_7 _ (List.mem_of_getElem? (i := 60) rfl), rfl⟩
theorem wd_7_61 : Cond.sameMethod "java/lang/Throwable" "java/lang/Throwable" "fillInStackTrace" "(I)Ljava/lang/Throwable;" ∈ tT := List.mem_filter.mpr ⟨tin_7 _ (List.mem_of_getElem? (i := 61) rfl), rfl⟩
theorem pin_1 : ∀ q ∈ lw_privs_1, q ∈ lw_privs := fun _ h => List.mem_append_left _ h
theorem pin_2 : ∀ q ∈ lw_privs_2, q ∈ lw_privs := fun _ h => List.mem_append_right _ (List.mem_append_left _ h)
theorem pin_3 : ∀ q ∈ lw_privs_3, q ∈ lw_privs := fun _ h => List.mem_append_right _ (List.mem_append_right _ (List.mem_append_left _ h))
theorem pin_4 : ∀ q ∈ lw_privs_4, q ∈ lw_privs := fun _ h => List.mem_append_right _ (List.mem_append_right _ (List.mem_append_right _ (h)))
theorem wp_1_0 : Cond.selects RX11 yX11_rowRefusal yX11_rowRefusal ∈ tT := tsel (n := 8) rfl (pin_1 _ (List.mem_of_getElem? (i := 0) rfl))
theorem wp_1_1 : Cond.selects RX11 yX11_isDoneOnSpare yX11_isDoneOnSpare ∈ tT := tsel (n := 8) rfl (pin_1 _ (List.mem_of_getElem? (i := 1) rfl))
theorem wp_1_2 : Cond.selects RX11 yX11_isTriedOnSpare yX11_isTriedOnSpare ∈ tT := tsel (n := 8) rfl (pin_1 _ (List.mem_of_getElem? (i := 2) rfl))
theorem wp_1_3 : Cond.selects RX11 yX11_blowRefusal yX11_blowRefusal ∈ tT := tsel (n := 8) rfl (pin_1 _ (List.mem_of_getElem? (i := 3) rfl))
theorem wp_1_4 : Cond.selects RX11 yX11_canAny yX11_canAny ∈ tT := tsel (n := 8) rfl (pin_1 _ (List.mem_of_getElem? (i := 4) rfl))
theorem wp_1_5 : Cond.selects RX11 yX11_waysBy yX11_waysBy ∈ tT := tsel (n := 8) rfl (pin_1 _ (List.mem_of_getElem? (i := 5) rfl))
theorem wp_1_6 : Cond.selects RX11 yX11_bladesFor yX11_bladesFor ∈ tT := tsel (n := 8) rfl (pin_1 _ (List.mem_of_getElem? (i := 6) rfl))
theorem wp_1_7 : Cond.selects RX11 yX11_triesLeft yX11_triesLeft ∈ tT := tsel (n := 8) rfl (pin_1 _ (List.mem_of_getElem? (i := 7) rfl))
theorem wp_1_8 : Cond.selects RX11 yX11_doClash yX11_doClash ∈ tT := tsel (n := 8) rfl (pin_1 _ (List.mem_of_getElem? (i := 8) rfl))
theorem wp_1_9 : Cond.selects RX11 yX11_arrivals yX11_arrivals ∈ tT := tsel (n := 8) rfl (pin_1 _ (List.mem_of_getElem? (i := 9) rfl))
theorem wp_1_10 : Cond.selects RX11 yX11_callOnce yX11_callOnce ∈ tT := tsel (n := 8) rfl (pin_1 _ (List.mem_of_getElem? (i := 10) rfl))
theorem wp_1_11 : Cond.selects RX11 yX11_pairsWhenTold yX11_pairsWhenTold ∈ tT := tsel (n := 8) rfl (pin_1 _ (List.mem_of_getElem? (i := 11) rfl))
theorem wp_1_12 : Cond.selects RX11 yX11_pairsInGrip yX11_pairsInGrip ∈ tT := tsel (n := 8) rfl (pin_1 _ (List.mem_of_getElem? (i := 12) rfl))
theorem wp_1_13 : Cond.selects RX11 yX11_firstForged yX11_firstForged ∈ tT := tsel (n := 8) rfl (pin_1 _ (List.mem_of_getElem? (i := 13) rfl))
theorem wp_1_14 : Cond.selects RX11 yX11_leastForceThatFits yX11_leastForceThatFits ∈ tT := tsel (n := 8) rfl (pin_1 _ (List.mem_of_getElem? (i := 14) rfl))
theorem wp_1_15 : Cond.selects RX11 yX11_forcesThatFit yX11_forcesThatFit ∈ tT := tsel (n := 8) rfl (pin_1 _ (List.mem_of_getElem? (i := 15) rfl))
theorem wp_2_0 : Cond.selects RX11 yX11_rowsRefusal yX11_rowsRefusal ∈ tT := tsel (n := 8) rfl (pin_2 _ (List.mem_of_getElem? (i := 0) rfl))
theorem wp_2_1 : Cond.selects RX11 yX11_firstNotSo yX11_firstNotSo ∈ tT := tsel (n := 8) rfl (pin_2 _ (List.mem_of_getElem? (i := 1) rfl))
theorem wp_2_2 : Cond.selects RX11 yX11_walkOnSpare yX11_walkOnSpare ∈ tT := tsel (n := 8) rfl (pin_2 _ (List.mem_of_getElem? (i := 2) rfl))
theorem wp_2_3 : Cond.selects RX11 yX11_draw yX11_draw ∈ tT := tsel (n := 8) rfl (pin_2 _ (List.mem_of_getElem? (i := 3) rfl))
theorem wp_2_4 : Cond.selects "java/lang/Throwable" ⟨"java/lang/Throwable", "fillInStackTrace", "(I)Ljava/lang/Throwable;"⟩ ⟨"java/lang/Throwable", "fillInStackTrace", "(I)Ljava/lang/Throwable;"⟩ ∈ tT := tsel (n := 6) rfl (pin_2 _ (List.mem_of_getElem? (i := 4) rfl))
theorem wp_2_5 : Cond.selects RX12 yX12_wrongRow yX12_wrongRow ∈ tT := tsel (n := 22) rfl (pin_2 _ (List.mem_of_getElem? (i := 5) rfl))
theorem wp_2_6 : Cond.selects RX12 yX12_readsStatement yX12_readsStatement ∈ tT := tsel (n := 22) rfl (pin_2 _ (List.mem_of_getElem? (i := 6) rfl))
theorem wp_2_7 : Cond.selects RX12 yX12_here yX12_here ∈ tT := tsel (n := 22) rfl (pin_2 _ (List.mem_of_getElem? (i := 7) rfl))
theorem wp_2_8 : Cond.selects RX12 yX12_readsNumber yX12_readsNumber ∈ tT := tsel (n := 22) rfl (pin_2 _ (List.mem_of_getElem? (i := 8) rfl))
theorem wp_2_9 : Cond.selects RX12 yX12_isDone yX12_isDone ∈ tT := tsel (n := 22) rfl (pin_2 _ (List.mem_of_getElem? (i := 9) rfl))
theorem wp_2_10 : Cond.selects RX12 yX12_addsBlade yX12_addsBlade ∈ tT := tsel (n := 22) rfl (pin_2 _ (List.mem_of_getElem? (i := 10) rfl))
theorem wp_2_11 : Cond.selects RX12 yX12_addsThumbs yX12_addsThumbs ∈ tT := tsel (n := 22) rfl (pin_2 _ (List.mem_of_getElem? (i := 11) rfl))
theorem wp_2_12 : Cond.selects RX12 yX12_addsBlow yX12_addsBlow ∈ tT := tsel (n := 22) rfl (pin_2 _ (List.mem_of_getElem? (i := 12) rfl))
theorem wp_2_13 : Cond.selects RX12 yX12_areAll yX12_areAll ∈ tT := tsel (n := 22) rfl (pin_2 _ (List.mem_of_getElem? (i := 13) rfl))
theorem wp_2_14 : Cond.selects RX12 yX12_isBlade yX12_isBlade ∈ tT := tsel (n := 22) rfl (pin_2 _ (List.mem_of_getElem? (i := 14) rfl))
theorem wp_2_15 : Cond.selects RX12 yX12_isThumbs yX12_isThumbs ∈ tT := tsel (n := 22) rfl (pin_2 _ (List.mem_of_getElem? (i := 15) rfl))
theorem wp_3_0 : Cond.selects RX12 yX12_isBlow yX12_isBlow ∈ tT := tsel (n := 22) rfl (pin_3 _ (List.mem_of_getElem? (i := 0) rfl))
theorem wp_3_1 : Cond.selects RX12 yX12_isSplit yX12_isSplit ∈ tT := tsel (n := 22) rfl (pin_3 _ (List.mem_of_getElem? (i := 1) rfl))
theorem wp_3_2 : Cond.selects RX12 yX12_bladeOf yX12_bladeOf ∈ tT := tsel (n := 22) rfl (pin_3 _ (List.mem_of_getElem? (i := 2) rfl))
theorem wp_3_3 : Cond.selects RX12 yX12_wears yX12_wears ∈ tT := tsel (n := 22) rfl (pin_3 _ (List.mem_of_getElem? (i := 3) rfl))
theorem wp_3_4 : Cond.selects RX12 yX12_kind yX12_kind ∈ tT := tsel (n := 22) rfl (pin_3 _ (List.mem_of_getElem? (i := 4) rfl))
theorem wp_3_5 : Cond.selects RX12 yX12_figure yX12_figure ∈ tT := tsel (n := 22) rfl (pin_3 _ (List.mem_of_getElem? (i := 5) rfl))
theorem wp_3_6 : Cond.selects RX12 yX12_wrongKept yX12_wrongKept ∈ tT := tsel (n := 22) rfl (pin_3 _ (List.mem_of_getElem? (i := 6) rfl))
theorem wp_3_7 : Cond.selects RX12 yX12_low yX12_low ∈ tT := tsel (n := 22) rfl (pin_3 _ (List.mem_of_getElem? (i := 7) rfl))
theorem wp_3_8 : Cond.selects RX12 yX12_lowPlain yX12_lowPlain ∈ tT := tsel (n := 22) rfl (pin_3 _ (List.mem_of_getElem? (i := 8) rfl))
theorem wp_3_9 : Cond.selects RX12 yX12_slitOf yX12_slitOf ∈ tT := tsel (n := 22) rfl (pin_3 _ (List.mem_of_getElem? (i := 9) rfl))
theorem wp_3_10 : Cond.selects RX12 yX12_high yX12_high ∈ tT := tsel (n := 22) rfl (pin_3 _ (List.mem_of_getElem? (i := 10) rfl))
theorem wp_3_11 : Cond.selects RX12 yX12_softest yX12_softest ∈ tT := tsel (n := 22) rfl (pin_3 _ (List.mem_of_getElem? (i := 11) rfl))
theorem wp_3_12 : Cond.selects RX12 yX12_hardest yX12_hardest ∈ tT := tsel (n := 22) rfl (pin_3 _ (List.mem_of_getElem? (i := 12) rfl))
theorem wp_3_13 : Cond.selects RX12 yX12_isTold yX12_isTold ∈ tT := tsel (n := 22) rfl (pin_3 _ (List.mem_of_getElem? (i := 13) rfl))
theorem wp_3_14 : Cond.selects RX12 yX12_isSound yX12_isSound ∈ tT := tsel (n := 22) rfl (pin_3 _ (List.mem_of_getElem? (i := 14) rfl))
theorem wp_3_15 : Cond.selects RX12 yX12_isTight yX12_isTight ∈ tT := tsel (n := 22) rfl (pin_3 _ (List.mem_of_getElem? (i := 15) rfl))
theorem wp_4_0 : Cond.selects RX12 yX12_gripOf yX12_gripOf ∈ tT := tsel (n := 22) rfl (pin_4 _ (List.mem_of_getElem? (i := 0) rfl))
theorem wp_4_1 : Cond.selects RX12 yX12_isHard yX12_isHard ∈ tT := tsel (n := 22) rfl (pin_4 _ (List.mem_of_getElem? (i := 1) rfl))
theorem wp_4_2 : Cond.selects RX12 yX12_pitchOf yX12_pitchOf ∈ tT := tsel (n := 22) rfl (pin_4 _ (List.mem_of_getElem? (i := 2) rfl))
theorem wp_4_3 : Cond.selects RX12 yX12_looks yX12_looks ∈ tT := tsel (n := 22) rfl (pin_4 _ (List.mem_of_getElem? (i := 3) rfl))
theorem wp_4_4 : Cond.selects RX12 yX12_bestBlade yX12_bestBlade ∈ tT := tsel (n := 22) rfl (pin_4 _ (List.mem_of_getElem? (i := 4) rfl))
theorem wp_4_5 : Cond.selects RX12 yX12_waysBy yX12_waysBy ∈ tT := tsel (n := 22) rfl (pin_4 _ (List.mem_of_getElem? (i := 5) rfl))
theorem wp_4_6 : Cond.selects RX12 yX12_canAnyForce yX12_canAnyForce ∈ tT := tsel (n := 22) rfl (pin_4 _ (List.mem_of_getElem? (i := 6) rfl))
theorem wp_4_7 : Cond.selects RX12 yX12_bladesFor yX12_bladesFor ∈ tT := tsel (n := 22) rfl (pin_4 _ (List.mem_of_getElem? (i := 7) rfl))
theorem wp_4_8 : Cond.selects RX12 yX12_lastsOf yX12_lastsOf ∈ tT := tsel (n := 22) rfl (pin_4 _ (List.mem_of_getElem? (i := 8) rfl))
theorem wp_4_9 : Cond.selects RX12 yX12_nearParts yX12_nearParts ∈ tT := tsel (n := 22) rfl (pin_4 _ (List.mem_of_getElem? (i := 9) rfl))
theorem wp_4_10 : Cond.selects RX12 yX12_whereBy yX12_whereBy ∈ tT := tsel (n := 22) rfl (pin_4 _ (List.mem_of_getElem? (i := 10) rfl))
theorem wp_4_11 : Cond.selects RX12 yX12_allPairs yX12_allPairs ∈ tT := tsel (n := 22) rfl (pin_4 _ (List.mem_of_getElem? (i := 11) rfl))
theorem wp_4_12 : Cond.selects RX12 yX12_forcesFor yX12_forcesFor ∈ tT := tsel (n := 22) rfl (pin_4 _ (List.mem_of_getElem? (i := 12) rfl))
theorem wp_4_13 : Cond.selects RX12 yX12_drawn yX12_drawn ∈ tT := tsel (n := 22) rfl (pin_4 _ (List.mem_of_getElem? (i := 13) rfl))
theorem in_X0 : ∀ w ∈ u_ws RX0 TX0 2, w ∈ tT := (List.forall_mem_cons.mpr ⟨wd_2_10, List.forall_mem_cons.mpr ⟨wd_2_12, fun _ h => absurd h List.not_mem_nil⟩⟩)
theorem in_X1 : ∀ w ∈ u_ws RX1 TX1 2, w ∈ tT := (List.forall_mem_cons.mpr ⟨wd_2_57, List.forall_mem_cons.mpr ⟨wd_2_58, fun _ h => absurd h List.not_mem_nil⟩⟩)
theorem in_X2 : ∀ w ∈ u_ws RX2 TX2 2, w ∈ tT := (List.forall_mem_cons.mpr ⟨wd_2_21, List.forall_mem_cons.mpr ⟨wd_2_22, fun _ h => absurd h List.not_mem_nil⟩⟩)
theorem in_X3 : ∀ w ∈ u_ws RX3 TX3 11, w ∈ tT := (List.forall_mem_cons.mpr ⟨wd_1_93, List.forall_mem_cons.mpr ⟨wd_1_95, List.forall_mem_cons.mpr ⟨wd_1_97, List.forall_mem_cons.mpr ⟨wd_1_99, List.forall_mem_cons.mpr ⟨wd_1_101, List.forall_mem_cons.mpr ⟨wd_1_103, List.forall_mem_cons.mpr ⟨wd_1_105, List.forall_mem_cons.mpr ⟨wd_1_107, List.forall_mem_cons.mpr ⟨wd_1_109, List.forall_mem_cons.mpr ⟨wd_1_111, List.forall_mem_cons.mpr ⟨wd_1_113, fun _ h => absurd h List.not_mem_nil⟩⟩⟩⟩⟩⟩⟩⟩⟩⟩⟩)
theorem in_X4 : ∀ w ∈ u_ws RX4 TX4 5, w ∈ tT := (List.forall_mem_cons.mpr ⟨wd_1_133, List.forall_mem_cons.mpr ⟨wd_1_135, List.forall_mem_cons.mpr ⟨wd_1_137, List.forall_mem_cons.mpr ⟨wd_1_139, List.forall_mem_cons.mpr ⟨wd_1_141, fun _ h => absurd h List.not_mem_nil⟩⟩⟩⟩⟩)
theorem in_X5 : ∀ w ∈ u_ws RX5 TX5 2, w ∈ tT := (List.forall_mem_cons.mpr ⟨wd_2_39, List.forall_mem_cons.mpr ⟨wd_2_40, fun _ h => absurd h List.not_mem_nil⟩⟩)
theorem in_X6 : ∀ w ∈ u_ws RX6 TX6 2, w ∈ tT := (List.forall_mem_cons.mpr ⟨wd_2_75, List.forall_mem_cons.mpr ⟨wd_2_76, fun _ h => absurd h List.not_mem_nil⟩⟩)
theorem in_X7 : ∀ w ∈ u_ws RX7 TX7 2, w ∈ tT := (List.forall_mem_cons.mpr ⟨wd_2_66, List.forall_mem_cons.mpr ⟨wd_2_67, fun _ h => absurd h List.not_mem_nil⟩⟩)
theorem in_X8 : ∀ w ∈ u_ws RX8 TX8 2, w ∈ tT := (List.forall_mem_cons.mpr ⟨wd_2_30, List.forall_mem_cons.mpr ⟨wd_2_31, fun _ h => absurd h List.not_mem_nil⟩⟩)
theorem in_X9 : ∀ w ∈ u_ws RX9 TX9 5, w ∈ tT := (List.forall_mem_cons.mpr ⟨wd_1_60, List.forall_mem_cons.mpr ⟨wd_1_62, List.forall_mem_cons.mpr ⟨wd_1_64, List.forall_mem_cons.mpr ⟨wd_1_66, List.forall_mem_cons.mpr ⟨wd_1_68, fun _ h => absurd h List.not_mem_nil⟩⟩⟩⟩⟩)
theorem in_X10 : ∀ w ∈ u_ws RX10 TX10 2, w ∈ tT := (List.forall_mem_cons.mpr ⟨wd_2_48, List.forall_mem_cons.mpr ⟨wd_2_49, fun _ h => absurd h List.not_mem_nil⟩⟩)
theorem in_X11 : ∀ w ∈ u_ws RX11 TX11 8, w ∈ tT := (List.forall_mem_cons.mpr ⟨wd_1_153, List.forall_mem_cons.mpr ⟨wd_1_155, List.forall_mem_cons.mpr ⟨wd_1_157, List.forall_mem_cons.mpr ⟨wd_1_159, List.forall_mem_cons.mpr ⟨wd_1_161, List.forall_mem_cons.mpr ⟨wd_1_163, List.forall_mem_cons.mpr ⟨wd_1_165, List.forall_mem_cons.mpr ⟨wd_1_167, fun _ h => absurd h List.not_mem_nil⟩⟩⟩⟩⟩⟩⟩⟩)
theorem in_X12 : ∀ w ∈ u_ws RX12 TX12 22, w ∈ tT := (List.forall_mem_cons.mpr ⟨wd_5_82, List.forall_mem_cons.mpr ⟨wd_5_84, List.forall_mem_cons.mpr ⟨wd_5_86, List.forall_mem_cons.mpr ⟨wd_5_88, List.forall_mem_cons.mpr ⟨wd_5_90, List.forall_mem_cons.mpr ⟨wd_5_92, List.forall_mem_cons.mpr ⟨wd_5_94, List.forall_mem_cons.mpr ⟨wd_5_96, List.forall_mem_cons.mpr ⟨wd_5_98, List.forall_mem_cons.mpr ⟨wd_5_100, List.forall_mem_cons.mpr ⟨wd_5_102, List.forall_mem_cons.mpr ⟨wd_5_104, List.forall_mem_cons.mpr ⟨wd_5_106, List.forall_mem_cons.mpr ⟨wd_5_108, List.forall_mem_cons.mpr ⟨wd_5_110, List.forall_mem_cons.mpr ⟨wd_5_112, List.forall_mem_cons.mpr ⟨wd_5_114, List.forall_mem_cons.mpr ⟨wd_5_116, List.forall_mem_cons.mpr ⟨wd_5_118, List.forall_mem_cons.mpr ⟨wd_5_120, List.forall_mem_cons.mpr ⟨wd_5_122, List.forall_mem_cons.mpr ⟨wd_5_124, fun _ h => absurd h List.not_mem_nil⟩⟩⟩⟩⟩⟩⟩⟩⟩⟩⟩⟩⟩⟩⟩⟩⟩⟩⟩⟩⟩⟩)
