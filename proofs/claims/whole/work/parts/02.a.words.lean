theorem tq_0 : Cond.methodLink R_D 1 objectInit ∈ TB := tb_of (List.mem_of_getElem? (i := 12) (by decide +kernel)) rfl
theorem tq_1 : Cond.classLink R_D 7 R_R ∈ TB := tb_of (List.mem_of_getElem? (i := 15) (by decide +kernel)) rfl
theorem tq_2 : Cond.instantiable R_R 2 ∈ TB := tb_of (List.mem_of_getElem? (i := 16) (by decide +kernel)) rfl
theorem tq_3 : Cond.initialized R_R ∈ TB := tb_of (List.mem_of_getElem? (i := 2) (by decide +kernel)) rfl
theorem tq_4 : Cond.methodLink R_D 11 y_R_init ∈ TB := tb_of (List.mem_of_getElem? (i := 17) (by decide +kernel)) rfl
theorem tq_5 : Cond.instanceMethod y_R_init ∈ TB := tb_of (List.mem_of_getElem? (i := 18) (by decide +kernel)) rfl
theorem tq_6 : Cond.fieldLink R_D 14 "ValueDesk" "tape" "LValueDesk$Row;" ∈ TB := tb_of (List.mem_of_getElem? (i := 76) (by decide +kernel)) rfl
theorem tq_7 : Cond.fieldLink R_D 18 "ValueDesk" "draft" "LValueDesk$Row;" ∈ TB := tb_of (List.mem_of_getElem? (i := 77) (by decide +kernel)) rfl
theorem tq_8 : Cond.fieldLink R_D 21 "ValueDesk" "last" "LValueDesk$Row;" ∈ TB := tb_of (List.mem_of_getElem? (i := 78) (by decide +kernel)) rfl
theorem tq_9 : Cond.classLink R_D 24 R_E ∈ TB := tb_of (List.mem_of_getElem? (i := 32) (by decide +kernel)) rfl
theorem tq_10 : Cond.fieldLink R_D 26 "ValueDesk" "entities" "[LValueDesk$Entity;" ∈ TB := tb_of (List.mem_of_getElem? (i := 79) (by decide +kernel)) rfl
theorem tq_11 : Cond.instantiable R_E 3 ∈ TB := tb_of (List.mem_of_getElem? (i := 34) (by decide +kernel)) rfl
theorem tq_12 : Cond.initialized R_E ∈ TB := tb_of (List.mem_of_getElem? (i := 4) (by decide +kernel)) rfl
theorem tq_13 : Cond.instanceMethod y_E_init ∈ TB := tb_of (List.mem_of_getElem? (i := 36) (by decide +kernel)) rfl
theorem tq_14 : Cond.classLink R_D 31 R_F ∈ TB := tb_of (List.mem_of_getElem? (i := 53) (by decide +kernel)) rfl
theorem tq_15 : Cond.instantiable R_F 4 ∈ TB := tb_of (List.mem_of_getElem? (i := 54) (by decide +kernel)) rfl
theorem tq_16 : Cond.initialized R_F ∈ TB := tb_of (List.mem_of_getElem? (i := 5) (by decide +kernel)) rfl
theorem tq_17 : Cond.instanceMethod y_F_init ∈ TB := tb_of (List.mem_of_getElem? (i := 56) (by decide +kernel)) rfl
theorem tq_18 : Cond.fieldLink R_D 34 "ValueDesk" "reference" "LValueDesk$Reference;" ∈ TB := tb_of (List.mem_of_getElem? (i := 80) (by decide +kernel)) rfl
theorem tq_19 : Cond.fieldLink R_D 38 "ValueDesk" "faultPlace" "I" ∈ TB := tb_of (List.mem_of_getElem? (i := 81) (by decide +kernel)) rfl
theorem tq_20 : Cond.methodLink R_D 42 y_R_size ∈ TB := tb_of (List.mem_of_getElem? (i := 108) (by decide +kernel)) rfl
theorem tq_21 : Cond.instanceMethod y_R_size ∈ TB := tb_of (List.mem_of_getElem? (i := 109) (by decide +kernel)) rfl
theorem tq_22 : Cond.selects R_R y_R_size y_R_size ∈ TB := tb_of (List.mem_of_getElem? (i := 110) (by decide +kernel)) rfl
theorem tq_23 : Cond.methodLink R_D 46 y_R_add ∈ TB := tb_of (List.mem_of_getElem? (i := 112) (by decide +kernel)) rfl
theorem tq_24 : Cond.instanceMethod y_R_add ∈ TB := tb_of (List.mem_of_getElem? (i := 113) (by decide +kernel)) rfl
theorem tq_25 : Cond.selects R_R y_R_add y_R_add ∈ TB := tb_of (List.mem_of_getElem? (i := 114) (by decide +kernel)) rfl
theorem tq_26 : Cond.methodLink R_D 50 y_D_entityOf ∈ TB := tb_of (List.mem_of_getElem? (i := 120) (by decide +kernel)) rfl
theorem tq_27 : Cond.initialized R_D ∈ TB := tb_of (List.mem_of_getElem? (i := 1) (by decide +kernel)) rfl
theorem tq_28 : Cond.instanceMethod y_D_entityOf ∈ TB := tb_of (List.mem_of_getElem? (i := 122) (by decide +kernel)) rfl
theorem tq_29 : Cond.selects R_D y_D_entityOf y_D_entityOf ∈ TB := tb_se (List.mem_of_getElem? (i := 0) (by decide +kernel)) rfl
theorem tq_30 : Cond.methodLink R_D 54 y_D_readDraft ∈ TB := tb_of (List.mem_of_getElem? (i := 124) (by decide +kernel)) rfl
theorem tq_31 : Cond.instanceMethod y_D_readDraft ∈ TB := tb_of (List.mem_of_getElem? (i := 126) (by decide +kernel)) rfl
theorem tq_32 : Cond.selects R_D y_D_readDraft y_D_readDraft ∈ TB := tb_se (List.mem_of_getElem? (i := 1) (by decide +kernel)) rfl
theorem tq_33 : Cond.methodLink R_D 57 y_R_empty ∈ TB := tb_of (List.mem_of_getElem? (i := 128) (by decide +kernel)) rfl
theorem tq_34 : Cond.instanceMethod y_R_empty ∈ TB := tb_of (List.mem_of_getElem? (i := 129) (by decide +kernel)) rfl
theorem tq_35 : Cond.selects R_R y_R_empty y_R_empty ∈ TB := tb_of (List.mem_of_getElem? (i := 130) (by decide +kernel)) rfl
theorem tq_36 : Cond.methodLink R_D 64 y_E_learn ∈ TB := tb_of (List.mem_of_getElem? (i := 183) (by decide +kernel)) rfl
theorem tq_37 : Cond.instanceMethod y_E_learn ∈ TB := tb_of (List.mem_of_getElem? (i := 184) (by decide +kernel)) rfl
theorem tq_38 : Cond.selects R_E y_E_learn y_E_learn ∈ TB := tb_of (List.mem_of_getElem? (i := 185) (by decide +kernel)) rfl
theorem tq_39 : Cond.constant R_D 68 100000 ∈ TB := tb_of (List.mem_of_getElem? (i := 195) (by decide +kernel)) rfl
theorem tq_40 : Cond.fieldLink R_D 69 "ValueDesk" "limitOfMeter" "I" ∈ TB := tb_of (List.mem_of_getElem? (i := 82) (by decide +kernel)) rfl
theorem tq_41 : Cond.fieldLink R_D 72 "ValueDesk" "meter" "I" ∈ TB := tb_of (List.mem_of_getElem? (i := 83) (by decide +kernel)) rfl
theorem tq_42 : Cond.fieldLink R_D 75 "ValueDesk" "deepest" "I" ∈ TB := tb_of (List.mem_of_getElem? (i := 84) (by decide +kernel)) rfl
theorem tq_43 : Cond.methodLink R_D 78 y_D_readValue ∈ TB := tb_of (List.mem_of_getElem? (i := 196) (by decide +kernel)) rfl
theorem tq_44 : Cond.instanceMethod y_D_readValue ∈ TB := tb_of (List.mem_of_getElem? (i := 198) (by decide +kernel)) rfl
theorem tq_45 : Cond.selects R_D y_D_readValue y_D_readValue ∈ TB := tb_se (List.mem_of_getElem? (i := 11) (by decide +kernel)) rfl
theorem tq_46 : Cond.methodLink R_D 82 y_R_squeeze ∈ TB := tb_of (List.mem_of_getElem? (i := 217) (by decide +kernel)) rfl
theorem tq_47 : Cond.instanceMethod y_R_squeeze ∈ TB := tb_of (List.mem_of_getElem? (i := 218) (by decide +kernel)) rfl
theorem tq_48 : Cond.selects R_R y_R_squeeze y_R_squeeze ∈ TB := tb_of (List.mem_of_getElem? (i := 219) (by decide +kernel)) rfl
theorem tq_49 : Cond.methodLink R_D 85 y_R_wordAt ∈ TB := tb_of (List.mem_of_getElem? (i := 229) (by decide +kernel)) rfl
theorem tq_50 : Cond.instanceMethod y_R_wordAt ∈ TB := tb_of (List.mem_of_getElem? (i := 230) (by decide +kernel)) rfl
theorem tq_51 : Cond.selects R_R y_R_wordAt y_R_wordAt ∈ TB := tb_of (List.mem_of_getElem? (i := 231) (by decide +kernel)) rfl
theorem tq_52 : Cond.constantLong R_D 89 (-1) ∈ TB := tb_of (List.mem_of_getElem? (i := 238) (by decide +kernel)) rfl
theorem tq_53 : Cond.methodLink R_D 94 y_D_known ∈ TB := tb_of (List.mem_of_getElem? (i := 243) (by decide +kernel)) rfl
theorem tq_54 : Cond.instanceMethod y_D_known ∈ TB := tb_of (List.mem_of_getElem? (i := 245) (by decide +kernel)) rfl
theorem tq_55 : Cond.selects R_D y_D_known y_D_known ∈ TB := tb_se (List.mem_of_getElem? (i := 16) (by decide +kernel)) rfl
theorem tq_56 : Cond.methodLink R_D 96 y_D_fail ∈ TB := tb_of (List.mem_of_getElem? (i := 160) (by decide +kernel)) rfl
theorem tq_57 : Cond.instanceMethod y_D_fail ∈ TB := tb_of (List.mem_of_getElem? (i := 162) (by decide +kernel)) rfl
theorem tq_58 : Cond.selects R_D y_D_fail y_D_fail ∈ TB := tb_se (List.mem_of_getElem? (i := 6) (by decide +kernel)) rfl
theorem tq_59 : Cond.methodLink R_D 100 y_R_at ∈ TB := tb_of (List.mem_of_getElem? (i := 132) (by decide +kernel)) rfl
theorem tq_60 : Cond.instanceMethod y_R_at ∈ TB := tb_of (List.mem_of_getElem? (i := 133) (by decide +kernel)) rfl
theorem tq_61 : Cond.selects R_R y_R_at y_R_at ∈ TB := tb_of (List.mem_of_getElem? (i := 134) (by decide +kernel)) rfl
theorem tq_62 : Cond.methodLink R_D 104 y_F_read ∈ TB := tb_of (List.mem_of_getElem? (i := 136) (by decide +kernel)) rfl
theorem tq_63 : Cond.instanceMethod y_F_read ∈ TB := tb_of (List.mem_of_getElem? (i := 137) (by decide +kernel)) rfl
theorem tq_64 : Cond.selects R_F y_F_read y_F_read ∈ TB := tb_of (List.mem_of_getElem? (i := 138) (by decide +kernel)) rfl
theorem tq_65 : Cond.methodLink R_D 111 y_D_draftReference ∈ TB := tb_of (List.mem_of_getElem? (i := 156) (by decide +kernel)) rfl
theorem tq_66 : Cond.instanceMethod y_D_draftReference ∈ TB := tb_of (List.mem_of_getElem? (i := 158) (by decide +kernel)) rfl
theorem tq_67 : Cond.selects R_D y_D_draftReference y_D_draftReference ∈ TB := tb_se (List.mem_of_getElem? (i := 5) (by decide +kernel)) rfl
theorem tq_68 : Cond.methodLink R_D 114 y_D_draftByte ∈ TB := tb_of (List.mem_of_getElem? (i := 179) (by decide +kernel)) rfl
theorem tq_69 : Cond.instanceMethod y_D_draftByte ∈ TB := tb_of (List.mem_of_getElem? (i := 181) (by decide +kernel)) rfl
theorem tq_70 : Cond.selects R_D y_D_draftByte y_D_draftByte ∈ TB := tb_se (List.mem_of_getElem? (i := 10) (by decide +kernel)) rfl
theorem tq_71 : Cond.methodLink R_D 117 y_D_isCharacter ∈ TB := tb_of (List.mem_of_getElem? (i := 172) (by decide +kernel)) rfl
theorem tq_72 : Cond.static y_D_isCharacter ∈ TB := tb_of (List.mem_of_getElem? (i := 173) (by decide +kernel)) rfl
theorem tq_73 : Cond.methodLink R_D 120 y_D_addTo ∈ TB := tb_of (List.mem_of_getElem? (i := 175) (by decide +kernel)) rfl
theorem tq_74 : Cond.instanceMethod y_D_addTo ∈ TB := tb_of (List.mem_of_getElem? (i := 177) (by decide +kernel)) rfl
theorem tq_75 : Cond.selects R_D y_D_addTo y_D_addTo ∈ TB := tb_se (List.mem_of_getElem? (i := 9) (by decide +kernel)) rfl
theorem tq_76 : Cond.methodLink R_D 129 y_D_draftAsItStands ∈ TB := tb_of (List.mem_of_getElem? (i := 164) (by decide +kernel)) rfl
theorem tq_77 : Cond.instanceMethod y_D_draftAsItStands ∈ TB := tb_of (List.mem_of_getElem? (i := 166) (by decide +kernel)) rfl
theorem tq_78 : Cond.selects R_D y_D_draftAsItStands y_D_draftAsItStands ∈ TB := tb_se (List.mem_of_getElem? (i := 7) (by decide +kernel)) rfl
theorem tq_79 : Cond.methodLink R_D 132 y_D_addByNumber ∈ TB := tb_of (List.mem_of_getElem? (i := 168) (by decide +kernel)) rfl
theorem tq_80 : Cond.instanceMethod y_D_addByNumber ∈ TB := tb_of (List.mem_of_getElem? (i := 170) (by decide +kernel)) rfl
theorem tq_81 : Cond.selects R_D y_D_addByNumber y_D_addByNumber ∈ TB := tb_se (List.mem_of_getElem? (i := 8) (by decide +kernel)) rfl
theorem tq_82 : Cond.methodLink R_D 139 y_D_takeReference ∈ TB := tb_of (List.mem_of_getElem? (i := 200) (by decide +kernel)) rfl
theorem tq_83 : Cond.instanceMethod y_D_takeReference ∈ TB := tb_of (List.mem_of_getElem? (i := 202) (by decide +kernel)) rfl
theorem tq_84 : Cond.selects R_D y_D_takeReference y_D_takeReference ∈ TB := tb_se (List.mem_of_getElem? (i := 12) (by decide +kernel)) rfl
theorem tq_85 : Cond.methodLink R_D 142 y_D_failBroken ∈ TB := tb_of (List.mem_of_getElem? (i := 209) (by decide +kernel)) rfl
theorem tq_86 : Cond.instanceMethod y_D_failBroken ∈ TB := tb_of (List.mem_of_getElem? (i := 211) (by decide +kernel)) rfl
theorem tq_87 : Cond.selects R_D y_D_failBroken y_D_failBroken ∈ TB := tb_se (List.mem_of_getElem? (i := 14) (by decide +kernel)) rfl
theorem tq_88 : Cond.methodLink R_D 145 y_D_takeByte ∈ TB := tb_of (List.mem_of_getElem? (i := 213) (by decide +kernel)) rfl
theorem tq_89 : Cond.instanceMethod y_D_takeByte ∈ TB := tb_of (List.mem_of_getElem? (i := 215) (by decide +kernel)) rfl
theorem tq_90 : Cond.selects R_D y_D_takeByte y_D_takeByte ∈ TB := tb_se (List.mem_of_getElem? (i := 15) (by decide +kernel)) rfl
theorem tq_91 : Cond.methodLink R_D 148 y_D_takeEntity ∈ TB := tb_of (List.mem_of_getElem? (i := 204) (by decide +kernel)) rfl
theorem tq_92 : Cond.instanceMethod y_D_takeEntity ∈ TB := tb_of (List.mem_of_getElem? (i := 206) (by decide +kernel)) rfl
theorem tq_93 : Cond.selects R_D y_D_takeEntity y_D_takeEntity ∈ TB := tb_se (List.mem_of_getElem? (i := 13) (by decide +kernel)) rfl
theorem tq_94 : Cond.methodLink R_D 155 Lib.Math.max.name ∈ TB := tb_of (List.mem_of_getElem? (i := 208) (by decide +kernel)) rfl
theorem tq_95 : Cond.methodLink R_M 1 objectInit ∈ TB := tb_of (List.mem_of_getElem? (i := 256) (by decide +kernel)) rfl
theorem tq_96 : Cond.fieldLink R_M 7 "ValueDeskModel" "thrownCode" "I" ∈ TB := tb_of (List.mem_of_getElem? (i := 257) (by decide +kernel)) rfl
theorem tq_97 : Cond.fieldLink R_M 13 "ValueDeskModel" "tape" "[I" ∈ TB := tb_of (List.mem_of_getElem? (i := 258) (by decide +kernel)) rfl
theorem tq_98 : Cond.fieldLink R_M 17 "ValueDeskModel" "bytes" "I" ∈ TB := tb_of (List.mem_of_getElem? (i := 259) (by decide +kernel)) rfl
theorem tq_99 : Cond.fieldLink R_M 20 "ValueDeskModel" "has" "[Z" ∈ TB := tb_of (List.mem_of_getElem? (i := 260) (by decide +kernel)) rfl
theorem tq_100 : Cond.fieldLink R_M 24 "ValueDeskModel" "size" "[I" ∈ TB := tb_of (List.mem_of_getElem? (i := 261) (by decide +kernel)) rfl
theorem tq_101 : Cond.fieldLink R_M 27 "ValueDeskModel" "texts" "[I" ∈ TB := tb_of (List.mem_of_getElem? (i := 262) (by decide +kernel)) rfl
theorem tq_102 : Cond.fieldLink R_M 30 "ValueDeskModel" "value" "[I" ∈ TB := tb_of (List.mem_of_getElem? (i := 263) (by decide +kernel)) rfl
theorem tq_103 : Cond.fieldLink R_M 33 "ValueDeskModel" "values" "I" ∈ TB := tb_of (List.mem_of_getElem? (i := 264) (by decide +kernel)) rfl
theorem tq_104 : Cond.fieldLink R_M 36 "ValueDeskModel" "faultPlace" "I" ∈ TB := tb_of (List.mem_of_getElem? (i := 265) (by decide +kernel)) rfl
theorem tq_105 : Cond.fieldLink R_M 39 "ValueDeskModel" "meter" "I" ∈ TB := tb_of (List.mem_of_getElem? (i := 266) (by decide +kernel)) rfl
theorem tq_106 : Cond.fieldLink R_M 42 "ValueDeskModel" "deepest" "I" ∈ TB := tb_of (List.mem_of_getElem? (i := 267) (by decide +kernel)) rfl
theorem tq_107 : Cond.fieldLink R_M 45 "ValueDeskModel" "deep" "I" ∈ TB := tb_of (List.mem_of_getElem? (i := 268) (by decide +kernel)) rfl
theorem tq_108 : Cond.fieldLink R_M 48 "ValueDeskModel" "entity" "[I" ∈ TB := tb_of (List.mem_of_getElem? (i := 269) (by decide +kernel)) rfl
theorem tq_109 : Cond.fieldLink R_M 51 "ValueDeskModel" "at" "[I" ∈ TB := tb_of (List.mem_of_getElem? (i := 270) (by decide +kernel)) rfl
theorem tq_110 : Cond.fieldLink R_M 54 "ValueDeskModel" "fault" "I" ∈ TB := tb_of (List.mem_of_getElem? (i := 271) (by decide +kernel)) rfl
theorem tq_111 : Cond.fieldLink R_M 57 "ValueDeskModel" "outer" "I" ∈ TB := tb_of (List.mem_of_getElem? (i := 272) (by decide +kernel)) rfl
theorem tq_112 : Cond.fieldLink R_M 60 "ValueDeskModel" "kind" "I" ∈ TB := tb_of (List.mem_of_getElem? (i := 273) (by decide +kernel)) rfl
theorem tq_113 : Cond.fieldLink R_M 63 "ValueDeskModel" "number" "I" ∈ TB := tb_of (List.mem_of_getElem? (i := 274) (by decide +kernel)) rfl
theorem tq_114 : Cond.fieldLink R_M 66 "ValueDeskModel" "behind" "I" ∈ TB := tb_of (List.mem_of_getElem? (i := 275) (by decide +kernel)) rfl
theorem tq_115 : Cond.fieldLink R_M 69 "ValueDeskModel" "made" "[I" ∈ TB := tb_of (List.mem_of_getElem? (i := 276) (by decide +kernel)) rfl
theorem tq_116 : Cond.fieldLink R_M 72 "ValueDeskModel" "makes" "I" ∈ TB := tb_of (List.mem_of_getElem? (i := 277) (by decide +kernel)) rfl
theorem tq_117 : Cond.methodLink R_M 75 y_M_length ∈ TB := tb_of (List.mem_of_getElem? (i := 342) (by decide +kernel)) rfl
theorem tq_118 : Cond.initialized R_M ∈ TB := tb_of (List.mem_of_getElem? (i := 6) (by decide +kernel)) rfl
theorem tq_119 : Cond.instanceMethod y_M_length ∈ TB := tb_of (List.mem_of_getElem? (i := 344) (by decide +kernel)) rfl
theorem tq_120 : Cond.selects R_M y_M_length y_M_length ∈ TB := tb_se (List.mem_of_getElem? (i := 20) (by decide +kernel)) rfl
theorem tq_121 : Cond.methodLink R_M 79 y_M_fails ∈ TB := tb_of (List.mem_of_getElem? (i := 353) (by decide +kernel)) rfl
theorem tq_122 : Cond.instanceMethod y_M_fails ∈ TB := tb_of (List.mem_of_getElem? (i := 355) (by decide +kernel)) rfl
theorem tq_123 : Cond.selects R_M y_M_fails y_M_fails ∈ TB := tb_se (List.mem_of_getElem? (i := 22) (by decide +kernel)) rfl
theorem tq_124 : Cond.methodLink R_M 83 y_M_byteOf ∈ TB := tb_of (List.mem_of_getElem? (i := 338) (by decide +kernel)) rfl
theorem tq_125 : Cond.instanceMethod y_M_byteOf ∈ TB := tb_of (List.mem_of_getElem? (i := 340) (by decide +kernel)) rfl
theorem tq_126 : Cond.selects R_M y_M_byteOf y_M_byteOf ∈ TB := tb_se (List.mem_of_getElem? (i := 19) (by decide +kernel)) rfl
theorem tq_127 : Cond.methodLink R_M 87 y_M_digit ∈ TB := tb_of (List.mem_of_getElem? (i := 346) (by decide +kernel)) rfl
theorem tq_128 : Cond.static y_M_digit ∈ TB := tb_of (List.mem_of_getElem? (i := 347) (by decide +kernel)) rfl
theorem tq_129 : Cond.methodLink R_M 91 y_M_stops ∈ TB := tb_of (List.mem_of_getElem? (i := 349) (by decide +kernel)) rfl
theorem tq_130 : Cond.instanceMethod y_M_stops ∈ TB := tb_of (List.mem_of_getElem? (i := 351) (by decide +kernel)) rfl
theorem tq_131 : Cond.selects R_M y_M_stops y_M_stops ∈ TB := tb_se (List.mem_of_getElem? (i := 21) (by decide +kernel)) rfl
theorem tq_132 : Cond.methodLink R_M 95 y_M_isCharacter ∈ TB := tb_of (List.mem_of_getElem? (i := 357) (by decide +kernel)) rfl
theorem tq_133 : Cond.static y_M_isCharacter ∈ TB := tb_of (List.mem_of_getElem? (i := 358) (by decide +kernel)) rfl
theorem tq_134 : Cond.methodLink R_M 99 y_M_isOpen ∈ TB := tb_of (List.mem_of_getElem? (i := 377) (by decide +kernel)) rfl
theorem tq_135 : Cond.instanceMethod y_M_isOpen ∈ TB := tb_of (List.mem_of_getElem? (i := 379) (by decide +kernel)) rfl
theorem tq_136 : Cond.selects R_M y_M_isOpen y_M_isOpen ∈ TB := tb_se (List.mem_of_getElem? (i := 26) (by decide +kernel)) rfl
theorem tq_137 : Cond.methodLink R_M 102 y_M_look ∈ TB := tb_of (List.mem_of_getElem? (i := 334) (by decide +kernel)) rfl
theorem tq_138 : Cond.instanceMethod y_M_look ∈ TB := tb_of (List.mem_of_getElem? (i := 336) (by decide +kernel)) rfl
theorem tq_139 : Cond.selects R_M y_M_look y_M_look ∈ TB := tb_se (List.mem_of_getElem? (i := 18) (by decide +kernel)) rfl
theorem tq_140 : Cond.methodLink R_M 105 y_M_open ∈ TB := tb_of (List.mem_of_getElem? (i := 373) (by decide +kernel)) rfl
theorem tq_141 : Cond.instanceMethod y_M_open ∈ TB := tb_of (List.mem_of_getElem? (i := 375) (by decide +kernel)) rfl
theorem tq_142 : Cond.selects R_M y_M_open y_M_open ∈ TB := tb_se (List.mem_of_getElem? (i := 25) (by decide +kernel)) rfl
theorem tq_143 : Cond.methodLink R_M 109 y_M_add ∈ TB := tb_of (List.mem_of_getElem? (i := 381) (by decide +kernel)) rfl
theorem tq_144 : Cond.instanceMethod y_M_add ∈ TB := tb_of (List.mem_of_getElem? (i := 383) (by decide +kernel)) rfl
theorem tq_145 : Cond.selects R_M y_M_add y_M_add ∈ TB := tb_se (List.mem_of_getElem? (i := 27) (by decide +kernel)) rfl
theorem tq_146 : Cond.methodLink R_M 112 y_M_begin ∈ TB := tb_of (List.mem_of_getElem? (i := 330) (by decide +kernel)) rfl
theorem tq_147 : Cond.instanceMethod y_M_begin ∈ TB := tb_of (List.mem_of_getElem? (i := 332) (by decide +kernel)) rfl
theorem tq_148 : Cond.selects R_M y_M_begin y_M_begin ∈ TB := tb_se (List.mem_of_getElem? (i := 17) (by decide +kernel)) rfl
theorem tq_149 : Cond.methodLink R_M 115 y_M_defining ∈ TB := tb_of (List.mem_of_getElem? (i := 360) (by decide +kernel)) rfl
theorem tq_150 : Cond.instanceMethod y_M_defining ∈ TB := tb_of (List.mem_of_getElem? (i := 362) (by decide +kernel)) rfl
theorem tq_151 : Cond.selects R_M y_M_defining y_M_defining ∈ TB := tb_se (List.mem_of_getElem? (i := 23) (by decide +kernel)) rfl
theorem tq_152 : Cond.constant R_M 118 100000 ∈ TB := tb_of (List.mem_of_getElem? (i := 368) (by decide +kernel)) rfl
theorem tq_153 : Cond.methodLink R_M 119 y_M_step ∈ TB := tb_of (List.mem_of_getElem? (i := 369) (by decide +kernel)) rfl
theorem tq_154 : Cond.instanceMethod y_M_step ∈ TB := tb_of (List.mem_of_getElem? (i := 371) (by decide +kernel)) rfl
theorem tq_155 : Cond.selects R_M y_M_step y_M_step ∈ TB := tb_se (List.mem_of_getElem? (i := 24) (by decide +kernel)) rfl
theorem tq_156 : Cond.methodLink R_M 122 y_M_trim ∈ TB := tb_of (List.mem_of_getElem? (i := 385) (by decide +kernel)) rfl
theorem tq_157 : Cond.instanceMethod y_M_trim ∈ TB := tb_of (List.mem_of_getElem? (i := 387) (by decide +kernel)) rfl
theorem tq_158 : Cond.selects R_M y_M_trim y_M_trim ∈ TB := tb_se (List.mem_of_getElem? (i := 28) (by decide +kernel)) rfl
theorem tq_159 : Cond.constantLong R_M 125 (-1) ∈ TB := tb_of (List.mem_of_getElem? (i := 397) (by decide +kernel)) rfl
theorem tq_160 : Cond.methodLink R_M 127 y_M_eight ∈ TB := tb_of (List.mem_of_getElem? (i := 398) (by decide +kernel)) rfl
theorem tq_161 : Cond.static y_M_eight ∈ TB := tb_of (List.mem_of_getElem? (i := 399) (by decide +kernel)) rfl
theorem tq_162 : Cond.methodLink R_M 131 y_M_known ∈ TB := tb_of (List.mem_of_getElem? (i := 409) (by decide +kernel)) rfl
theorem tq_163 : Cond.instanceMethod y_M_known ∈ TB := tb_of (List.mem_of_getElem? (i := 411) (by decide +kernel)) rfl
theorem tq_164 : Cond.selects R_M y_M_known y_M_known ∈ TB := tb_se (List.mem_of_getElem? (i := 29) (by decide +kernel)) rfl
theorem tq_165 : Cond.methodLink R_E 3 objectInit ∈ TB := tb_of (List.mem_of_getElem? (i := 38) (by decide +kernel)) rfl
theorem tq_166 : Cond.classLink R_E 9 R_R ∈ TB := tb_of (List.mem_of_getElem? (i := 39) (by decide +kernel)) rfl
theorem tq_167 : Cond.methodLink R_E 11 y_R_init ∈ TB := tb_of (List.mem_of_getElem? (i := 40) (by decide +kernel)) rfl
theorem tq_168 : Cond.fieldLink R_E 14 "ValueDesk$Entity" "row" "LValueDesk$Row;" ∈ TB := tb_of (List.mem_of_getElem? (i := 41) (by decide +kernel)) rfl
theorem tq_169 : Cond.methodLink R_E 20 y_R_empty ∈ TB := tb_of (List.mem_of_getElem? (i := 187) (by decide +kernel)) rfl
theorem tq_170 : Cond.methodLink R_E 23 y_R_size ∈ TB := tb_of (List.mem_of_getElem? (i := 188) (by decide +kernel)) rfl
theorem tq_171 : Cond.methodLink R_E 27 y_R_at ∈ TB := tb_of (List.mem_of_getElem? (i := 189) (by decide +kernel)) rfl
theorem tq_172 : Cond.methodLink R_E 31 y_R_add ∈ TB := tb_of (List.mem_of_getElem? (i := 190) (by decide +kernel)) rfl
theorem tq_173 : Cond.fieldLink R_E 35 "ValueDesk$Entity" "known" "Z" ∈ TB := tb_of (List.mem_of_getElem? (i := 43) (by decide +kernel)) rfl
theorem tq_174 : Cond.methodLink R_F 3 objectInit ∈ TB := tb_of (List.mem_of_getElem? (i := 58) (by decide +kernel)) rfl
theorem tq_175 : Cond.methodLink R_F 9 y_R_at ∈ TB := tb_of (List.mem_of_getElem? (i := 140) (by decide +kernel)) rfl
theorem tq_176 : Cond.fieldLink R_F 15 "ValueDesk$Reference" "toEntity" "Z" ∈ TB := tb_of (List.mem_of_getElem? (i := 61) (by decide +kernel)) rfl
theorem tq_177 : Cond.methodLink R_F 21 y_F_readNumber ∈ TB := tb_of (List.mem_of_getElem? (i := 141) (by decide +kernel)) rfl
theorem tq_178 : Cond.instanceMethod y_F_readNumber ∈ TB := tb_of (List.mem_of_getElem? (i := 143) (by decide +kernel)) rfl
theorem tq_179 : Cond.selects R_F y_F_readNumber y_F_readNumber ∈ TB := tb_se (List.mem_of_getElem? (i := 2) (by decide +kernel)) rfl
theorem tq_180 : Cond.fieldLink R_F 25 "ValueDesk$Reference" "number" "I" ∈ TB := tb_of (List.mem_of_getElem? (i := 63) (by decide +kernel)) rfl
theorem tq_181 : Cond.methodLink R_F 29 y_F_close ∈ TB := tb_of (List.mem_of_getElem? (i := 152) (by decide +kernel)) rfl
theorem tq_182 : Cond.instanceMethod y_F_close ∈ TB := tb_of (List.mem_of_getElem? (i := 154) (by decide +kernel)) rfl
theorem tq_183 : Cond.selects R_F y_F_close y_F_close ∈ TB := tb_se (List.mem_of_getElem? (i := 4) (by decide +kernel)) rfl
theorem tq_184 : Cond.methodLink R_F 32 y_F_breakOff ∈ TB := tb_of (List.mem_of_getElem? (i := 148) (by decide +kernel)) rfl
theorem tq_185 : Cond.instanceMethod y_F_breakOff ∈ TB := tb_of (List.mem_of_getElem? (i := 150) (by decide +kernel)) rfl
theorem tq_186 : Cond.selects R_F y_F_breakOff y_F_breakOff ∈ TB := tb_se (List.mem_of_getElem? (i := 3) (by decide +kernel)) rfl
theorem tq_187 : Cond.methodLink R_F 36 y_F_digitOf ∈ TB := tb_of (List.mem_of_getElem? (i := 145) (by decide +kernel)) rfl
theorem tq_188 : Cond.static y_F_digitOf ∈ TB := tb_of (List.mem_of_getElem? (i := 146) (by decide +kernel)) rfl
theorem tq_189 : Cond.fieldLink R_F 40 "ValueDesk$Reference" "whole" "Z" ∈ TB := tb_of (List.mem_of_getElem? (i := 59) (by decide +kernel)) rfl
theorem tq_190 : Cond.fieldLink R_F 43 "ValueDesk$Reference" "end" "I" ∈ TB := tb_of (List.mem_of_getElem? (i := 65) (by decide +kernel)) rfl
theorem tq_191 : Cond.methodLink R_R 3 objectInit ∈ TB := tb_of (List.mem_of_getElem? (i := 20) (by decide +kernel)) rfl
theorem tq_192 : Cond.methodLink R_R 9 Lib.Math.max.name ∈ TB := tb_of (List.mem_of_getElem? (i := 21) (by decide +kernel)) rfl
theorem tq_193 : Cond.fieldLink R_R 15 "ValueDesk$Row" "bytes" "[I" ∈ TB := tb_of (List.mem_of_getElem? (i := 24) (by decide +kernel)) rfl
theorem tq_194 : Cond.fieldLink R_R 21 "ValueDesk$Row" "size" "I" ∈ TB := tb_of (List.mem_of_getElem? (i := 25) (by decide +kernel)) rfl
theorem tq_195 : Cond.constantLong R_R 25 (-1) ∈ TB := tb_of (List.mem_of_getElem? (i := 233) (by decide +kernel)) rfl
theorem tq_196 : Cond.classLink R_L 7 R_D ∈ TB := tb_of (List.mem_of_getElem? (i := 7) (by decide +kernel)) rfl
theorem tq_197 : Cond.instantiable R_D 9 ∈ TB := tb_of (List.mem_of_getElem? (i := 8) (by decide +kernel)) rfl
theorem tq_198 : Cond.methodLink R_L 9 y_D_init ∈ TB := tb_of (List.mem_of_getElem? (i := 9) (by decide +kernel)) rfl
theorem tq_199 : Cond.instanceMethod y_D_init ∈ TB := tb_of (List.mem_of_getElem? (i := 10) (by decide +kernel)) rfl
theorem tq_200 : Cond.classLink R_L 10 R_M ∈ TB := tb_of (List.mem_of_getElem? (i := 251) (by decide +kernel)) rfl
theorem tq_201 : Cond.instantiable R_M 21 ∈ TB := tb_of (List.mem_of_getElem? (i := 252) (by decide +kernel)) rfl
theorem tq_202 : Cond.methodLink R_L 12 y_M_init ∈ TB := tb_of (List.mem_of_getElem? (i := 253) (by decide +kernel)) rfl
theorem tq_203 : Cond.instanceMethod y_M_init ∈ TB := tb_of (List.mem_of_getElem? (i := 254) (by decide +kernel)) rfl
theorem tq_204 : Cond.constantLong R_L 13 4294967295 ∈ TB := tb_of (List.mem_of_getElem? (i := 417) (by decide +kernel)) rfl
theorem tq_205 : Cond.methodLink R_L 15 y_D_put ∈ TB := tb_of (List.mem_of_getElem? (i := 104) (by decide +kernel)) rfl
theorem tq_206 : Cond.instanceMethod y_D_put ∈ TB := tb_of (List.mem_of_getElem? (i := 105) (by decide +kernel)) rfl
theorem tq_207 : Cond.selects R_D y_D_put y_D_put ∈ TB := tb_of (List.mem_of_getElem? (i := 106) (by decide +kernel)) rfl
theorem tq_208 : Cond.methodLink R_L 19 y_M_put ∈ TB := tb_of (List.mem_of_getElem? (i := 322) (by decide +kernel)) rfl
theorem tq_209 : Cond.instanceMethod y_M_put ∈ TB := tb_of (List.mem_of_getElem? (i := 323) (by decide +kernel)) rfl
theorem tq_210 : Cond.selects R_M y_M_put y_M_put ∈ TB := tb_of (List.mem_of_getElem? (i := 324) (by decide +kernel)) rfl
theorem tq_211 : Cond.methodLink R_L 20 y_D_define ∈ TB := tb_of (List.mem_of_getElem? (i := 116) (by decide +kernel)) rfl
theorem tq_212 : Cond.instanceMethod y_D_define ∈ TB := tb_of (List.mem_of_getElem? (i := 117) (by decide +kernel)) rfl
theorem tq_213 : Cond.selects R_D y_D_define y_D_define ∈ TB := tb_of (List.mem_of_getElem? (i := 118) (by decide +kernel)) rfl
theorem tq_214 : Cond.methodLink R_L 24 y_M_define ∈ TB := tb_of (List.mem_of_getElem? (i := 326) (by decide +kernel)) rfl
theorem tq_215 : Cond.instanceMethod y_M_define ∈ TB := tb_of (List.mem_of_getElem? (i := 327) (by decide +kernel)) rfl
theorem tq_216 : Cond.selects R_M y_M_define y_M_define ∈ TB := tb_of (List.mem_of_getElem? (i := 328) (by decide +kernel)) rfl
theorem tq_217 : Cond.methodLink R_L 25 y_D_value ∈ TB := tb_of (List.mem_of_getElem? (i := 191) (by decide +kernel)) rfl
theorem tq_218 : Cond.instanceMethod y_D_value ∈ TB := tb_of (List.mem_of_getElem? (i := 192) (by decide +kernel)) rfl
theorem tq_219 : Cond.selects R_D y_D_value y_D_value ∈ TB := tb_of (List.mem_of_getElem? (i := 193) (by decide +kernel)) rfl
theorem tq_220 : Cond.methodLink R_L 29 y_M_value ∈ TB := tb_of (List.mem_of_getElem? (i := 364) (by decide +kernel)) rfl
theorem tq_221 : Cond.instanceMethod y_M_value ∈ TB := tb_of (List.mem_of_getElem? (i := 365) (by decide +kernel)) rfl
theorem tq_222 : Cond.selects R_M y_M_value y_M_value ∈ TB := tb_of (List.mem_of_getElem? (i := 366) (by decide +kernel)) rfl
theorem tq_223 : Cond.methodLink R_L 30 y_D_place ∈ TB := tb_of (List.mem_of_getElem? (i := 221) (by decide +kernel)) rfl
theorem tq_224 : Cond.instanceMethod y_D_place ∈ TB := tb_of (List.mem_of_getElem? (i := 222) (by decide +kernel)) rfl
theorem tq_225 : Cond.selects R_D y_D_place y_D_place ∈ TB := tb_of (List.mem_of_getElem? (i := 223) (by decide +kernel)) rfl
theorem tq_226 : Cond.methodLink R_L 34 y_M_place ∈ TB := tb_of (List.mem_of_getElem? (i := 389) (by decide +kernel)) rfl
theorem tq_227 : Cond.instanceMethod y_M_place ∈ TB := tb_of (List.mem_of_getElem? (i := 390) (by decide +kernel)) rfl
theorem tq_228 : Cond.selects R_M y_M_place y_M_place ∈ TB := tb_of (List.mem_of_getElem? (i := 391) (by decide +kernel)) rfl
theorem tq_229 : Cond.methodLink R_L 35 y_D_characters ∈ TB := tb_of (List.mem_of_getElem? (i := 225) (by decide +kernel)) rfl
theorem tq_230 : Cond.instanceMethod y_D_characters ∈ TB := tb_of (List.mem_of_getElem? (i := 226) (by decide +kernel)) rfl
theorem tq_231 : Cond.selects R_D y_D_characters y_D_characters ∈ TB := tb_of (List.mem_of_getElem? (i := 227) (by decide +kernel)) rfl
theorem tq_232 : Cond.methodLink R_L 39 y_M_characters ∈ TB := tb_of (List.mem_of_getElem? (i := 393) (by decide +kernel)) rfl
theorem tq_233 : Cond.instanceMethod y_M_characters ∈ TB := tb_of (List.mem_of_getElem? (i := 394) (by decide +kernel)) rfl
theorem tq_234 : Cond.selects R_M y_M_characters y_M_characters ∈ TB := tb_of (List.mem_of_getElem? (i := 395) (by decide +kernel)) rfl
theorem tq_235 : Cond.methodLink R_L 40 y_D_text ∈ TB := tb_of (List.mem_of_getElem? (i := 234) (by decide +kernel)) rfl
theorem tq_236 : Cond.instanceMethod y_D_text ∈ TB := tb_of (List.mem_of_getElem? (i := 235) (by decide +kernel)) rfl
theorem tq_237 : Cond.selects R_D y_D_text y_D_text ∈ TB := tb_of (List.mem_of_getElem? (i := 236) (by decide +kernel)) rfl
theorem tq_238 : Cond.methodLink R_L 44 y_M_text ∈ TB := tb_of (List.mem_of_getElem? (i := 401) (by decide +kernel)) rfl
theorem tq_239 : Cond.instanceMethod y_M_text ∈ TB := tb_of (List.mem_of_getElem? (i := 402) (by decide +kernel)) rfl
theorem tq_240 : Cond.selects R_M y_M_text y_M_text ∈ TB := tb_of (List.mem_of_getElem? (i := 403) (by decide +kernel)) rfl
theorem tq_241 : Cond.methodLink R_L 45 y_D_clear ∈ TB := tb_of (List.mem_of_getElem? (i := 239) (by decide +kernel)) rfl
theorem tq_242 : Cond.instanceMethod y_D_clear ∈ TB := tb_of (List.mem_of_getElem? (i := 240) (by decide +kernel)) rfl
theorem tq_243 : Cond.selects R_D y_D_clear y_D_clear ∈ TB := tb_of (List.mem_of_getElem? (i := 241) (by decide +kernel)) rfl
theorem tq_244 : Cond.methodLink R_L 48 y_M_clear ∈ TB := tb_of (List.mem_of_getElem? (i := 405) (by decide +kernel)) rfl
theorem tq_245 : Cond.instanceMethod y_M_clear ∈ TB := tb_of (List.mem_of_getElem? (i := 406) (by decide +kernel)) rfl
theorem tq_246 : Cond.selects R_M y_M_clear y_M_clear ∈ TB := tb_of (List.mem_of_getElem? (i := 407) (by decide +kernel)) rfl
theorem tq_247 : Cond.methodLink R_L 49 y_D_count ∈ TB := tb_of (List.mem_of_getElem? (i := 247) (by decide +kernel)) rfl
theorem tq_248 : Cond.instanceMethod y_D_count ∈ TB := tb_of (List.mem_of_getElem? (i := 248) (by decide +kernel)) rfl
theorem tq_249 : Cond.selects R_D y_D_count y_D_count ∈ TB := tb_of (List.mem_of_getElem? (i := 249) (by decide +kernel)) rfl
theorem tq_250 : Cond.methodLink R_L 52 y_M_count ∈ TB := tb_of (List.mem_of_getElem? (i := 413) (by decide +kernel)) rfl
theorem tq_251 : Cond.instanceMethod y_M_count ∈ TB := tb_of (List.mem_of_getElem? (i := 414) (by decide +kernel)) rfl
theorem tq_252 : Cond.selects R_M y_M_count y_M_count ∈ TB := tb_of (List.mem_of_getElem? (i := 415) (by decide +kernel)) rfl
theorem tq_oi : Cond.instanceMethod objectInit ∈ TB := tb_of (List.mem_of_getElem? (i := 13) (by decide +kernel)) rfl
theorem tq_oc : Cond.code objectInit ⟨#[0xb1]⟩ 1 none ∈ TB := tb_of (List.mem_of_getElem? (i := 14) rfl) rfl
theorem tq_ai : Cond.arrayClass .int ∈ TB := tb_of (List.mem_of_getElem? (i := 31) (by decide +kernel)) rfl
theorem tq_az : Cond.arrayClass .boolean ∈ TB := tb_of (List.mem_of_getElem? (i := 321) (by decide +kernel)) rfl
theorem tq_ms : Cond.static Lib.Math.max.name ∈ TB := tb_of (List.mem_of_getElem? (i := 22) (by decide +kernel)) rfl
theorem tq_mi : Cond.initialized "java/lang/Math" ∈ TB := tb_of (List.mem_of_getElem? (i := 3) (by decide +kernel)) rfl
theorem tq_mc : Cond.code Lib.Math.max.name Lib.Math.max.code 2 (some .int) ∈ TB := tb_of (List.mem_of_getElem? (i := 23) rfl) rfl
