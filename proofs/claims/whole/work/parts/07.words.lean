theorem m_0 : Cond.selects y_DeviceSets_deviceAt.cls y_DeviceSets_deviceAt y_DeviceSets_deviceAt ∈ sy_T := sy_mem (i := 0) (by decide +kernel) rfl
theorem m_1 : Cond.selects y_DeviceSets_setAt.cls y_DeviceSets_setAt y_DeviceSets_setAt ∈ sy_T := sy_mem (i := 1) (by decide +kernel) rfl
theorem m_2 : Cond.selects y_DeviceSets_conflictsIn.cls y_DeviceSets_conflictsIn y_DeviceSets_conflictsIn ∈ sy_T := sy_mem (i := 2) (by decide +kernel) rfl
theorem m_3 : Cond.selects y_DeviceSets_liveIn.cls y_DeviceSets_liveIn y_DeviceSets_liveIn ∈ sy_T := sy_mem (i := 3) (by decide +kernel) rfl
theorem m_4 : Cond.selects y_Corrections_isFor.cls y_Corrections_isFor y_Corrections_isFor ∈ sy_T := sy_mem (i := 4) (by decide +kernel) rfl
theorem m_5 : Cond.selects y_DeviceSets_seenIn.cls y_DeviceSets_seenIn y_DeviceSets_seenIn ∈ sy_T := sy_mem (i := 5) (by decide +kernel) rfl
theorem m_6 : Cond.selects y_Tellings_isBefore.cls y_Tellings_isBefore y_Tellings_isBefore ∈ sy_T := sy_mem (i := 6) (by decide +kernel) rfl
theorem m_7 : Cond.selects y_Tellings_isOfLater.cls y_Tellings_isOfLater y_Tellings_isOfLater ∈ sy_T := sy_mem (i := 7) (by decide +kernel) rfl
theorem m_8 : Cond.selects y_Corrections_isStronger.cls y_Corrections_isStronger y_Corrections_isStronger ∈ sy_T := sy_mem (i := 8) (by decide +kernel) rfl
theorem m_9 : Cond.selects y_Tellings_ofGreatestLife.cls y_Tellings_ofGreatestLife y_Tellings_ofGreatestLife ∈ sy_T := sy_mem (i := 9) (by decide +kernel) rfl
theorem m_10 : Cond.selects y_Tellings_nextNumber.cls y_Tellings_nextNumber y_Tellings_nextNumber ∈ sy_T := sy_mem (i := 10) (by decide +kernel) rfl
theorem m_11 : Cond.selects y_Tellings_countBefore.cls y_Tellings_countBefore y_Tellings_countBefore ∈ sy_T := sy_mem (i := 11) (by decide +kernel) rfl
theorem m_12 : Cond.selects y_Clock_markBefore.cls y_Clock_markBefore y_Clock_markBefore ∈ sy_T := sy_mem (i := 12) (by decide +kernel) rfl
theorem m_13 : Cond.selects y_Clock_isBetween.cls y_Clock_isBetween y_Clock_isBetween ∈ sy_T := sy_mem (i := 13) (by decide +kernel) rfl
theorem m_14 : Cond.selects y_DeviceSets_joinChanges.cls y_DeviceSets_joinChanges y_DeviceSets_joinChanges ∈ sy_T := sy_mem (i := 14) (by decide +kernel) rfl
theorem m_15 : Cond.selects y_Model_isDevice.cls y_Model_isDevice y_Model_isDevice ∈ sy_T := sy_mem (i := 15) (by decide +kernel) rfl
theorem m_16 : Cond.selects y_Model_isSet.cls y_Model_isSet y_Model_isSet ∈ sy_T := sy_mem (i := 16) (by decide +kernel) rfl
theorem m_17 : Cond.selects y_Model_joinTo.cls y_Model_joinTo y_Model_joinTo ∈ sy_T := sy_mem (i := 17) (by decide +kernel) rfl
theorem m_18 : Cond.selects y_Model_bring.cls y_Model_bring y_Model_bring ∈ sy_T := sy_mem (i := 18) (by decide +kernel) rfl
theorem m_19 : Cond.selects y_Model_conflicts.cls y_Model_conflicts y_Model_conflicts ∈ sy_T := sy_mem (i := 19) (by decide +kernel) rfl
theorem m_20 : Cond.selects y_Model_isConflict.cls y_Model_isConflict y_Model_isConflict ∈ sy_T := sy_mem (i := 20) (by decide +kernel) rfl
theorem m_21 : Cond.selects y_Model_isHere.cls y_Model_isHere y_Model_isHere ∈ sy_T := sy_mem (i := 21) (by decide +kernel) rfl
theorem m_22 : Cond.selects y_Model_isChosen.cls y_Model_isChosen y_Model_isChosen ∈ sy_T := sy_mem (i := 22) (by decide +kernel) rfl
theorem m_23 : Cond.selects y_Model_isSameKey.cls y_Model_isSameKey y_Model_isSameKey ∈ sy_T := sy_mem (i := 23) (by decide +kernel) rfl
theorem m_24 : Cond.selects y_Model_isSeen.cls y_Model_isSeen y_Model_isSeen ∈ sy_T := sy_mem (i := 24) (by decide +kernel) rfl
theorem m_25 : Cond.selects y_Model_isBefore.cls y_Model_isBefore y_Model_isBefore ∈ sy_T := sy_mem (i := 25) (by decide +kernel) rfl
theorem m_26 : Cond.selects y_Model_isLater.cls y_Model_isLater y_Model_isLater ∈ sy_T := sy_mem (i := 26) (by decide +kernel) rfl
theorem m_27 : Cond.selects y_Model_nextNumber.cls y_Model_nextNumber y_Model_nextNumber ∈ sy_T := sy_mem (i := 27) (by decide +kernel) rfl
theorem m_28 : Cond.selects y_Model_isKeyBefore.cls y_Model_isKeyBefore y_Model_isKeyBefore ∈ sy_T := sy_mem (i := 28) (by decide +kernel) rfl
theorem m_30 : Cond.initialized R_DeviceSets ∈ sy_T := sy_mem (i := 30) (by decide +kernel) rfl
theorem m_31 : Cond.initialized R_Tellings ∈ sy_T := sy_mem (i := 31) (by decide +kernel) rfl
theorem m_32 : Cond.initialized R_Corrections ∈ sy_T := sy_mem (i := 32) (by decide +kernel) rfl
theorem m_33 : Cond.initialized R_Model ∈ sy_T := sy_mem (i := 33) (by decide +kernel) rfl
theorem m_34 : Cond.initialized R_Device ∈ sy_T := sy_mem (i := 34) (by decide +kernel) rfl
theorem m_35 : Cond.initialized R_Clock ∈ sy_T := sy_mem (i := 35) (by decide +kernel) rfl
theorem m_36 : Cond.initialized R_ToldSet ∈ sy_T := sy_mem (i := 36) (by decide +kernel) rfl
theorem m_37 : Cond.initialized R_Held ∈ sy_T := sy_mem (i := 37) (by decide +kernel) rfl
theorem m_38 : Cond.initialized "java/lang/Math" ∈ sy_T := sy_mem (i := 38) (by decide +kernel) rfl
theorem m_39 : Cond.initialized R_Long ∈ sy_T := sy_mem (i := 39) (by decide +kernel) rfl
theorem m_40 : Cond.classLink R_Law 7 R_DeviceSets ∈ sy_T := sy_mem (i := 40) (by decide +kernel) rfl
theorem m_41 : Cond.instantiable R_DeviceSets 7 ∈ sy_T := sy_mem (i := 41) (by decide +kernel) rfl
theorem m_42 : Cond.methodLink R_Law 9 y_DeviceSets_init ∈ sy_T := sy_mem (i := 42) (by decide +kernel) rfl
theorem m_43 : Cond.instanceMethod y_DeviceSets_init ∈ sy_T := sy_mem (i := 43) (by decide +kernel) rfl
set_option maxRecDepth 100000 in
theorem m_44 : Cond.code y_DeviceSets_init b_DeviceSets_init 1 none ∈ sy_T := sy_mem (i := 44) rfl rfl
theorem m_45 : Cond.methodLink R_DeviceSets 1 objectInit ∈ sy_T := sy_mem (i := 45) (by decide +kernel) rfl
theorem m_48 : Cond.classLink R_DeviceSets 9 R_Device ∈ sy_T := sy_mem (i := 48) (by decide +kernel) rfl
theorem m_50 : Cond.classLink R_DeviceSets 15 R_ToldSet ∈ sy_T := sy_mem (i := 50) (by decide +kernel) rfl
theorem m_52 : Cond.classLink R_DeviceSets 21 R_Tellings ∈ sy_T := sy_mem (i := 52) (by decide +kernel) rfl
theorem m_53 : Cond.instantiable R_Tellings 8 ∈ sy_T := sy_mem (i := 53) (by decide +kernel) rfl
theorem m_54 : Cond.methodLinkNest R_DeviceSets 23 y_Tellings_init R_DeviceSets ∈ sy_N := sy_memN (i := 54) (by decide +kernel) rfl
theorem m_55 : Cond.instanceMethod y_Tellings_init ∈ sy_T := sy_mem (i := 55) (by decide +kernel) rfl
set_option maxRecDepth 100000 in
theorem m_56 : Cond.code y_Tellings_init b_Tellings_init 1 none ∈ sy_T := sy_mem (i := 56) rfl rfl
theorem m_57 : Cond.methodLink R_Tellings 3 objectInit ∈ sy_T := sy_mem (i := 57) (by decide +kernel) rfl
theorem m_58 : Cond.fieldLink R_Tellings 9 R_Tellings "device" "[I" ∈ sy_T := sy_mem (i := 58) (by decide +kernel) rfl
theorem m_59 : Cond.fieldLink R_Tellings 15 R_Tellings "life" "[I" ∈ sy_T := sy_mem (i := 59) (by decide +kernel) rfl
theorem m_60 : Cond.fieldLink R_Tellings 18 R_Tellings "number" "[I" ∈ sy_T := sy_mem (i := 60) (by decide +kernel) rfl
theorem m_61 : Cond.fieldLink R_Tellings 21 R_Tellings "kind" "[I" ∈ sy_T := sy_mem (i := 61) (by decide +kernel) rfl
theorem m_62 : Cond.fieldLink R_Tellings 24 R_Tellings "second" "[J" ∈ sy_T := sy_mem (i := 62) (by decide +kernel) rfl
theorem m_63 : Cond.fieldLinkNest R_DeviceSets 130 R_Tellings "second" "[J" R_DeviceSets ∈ sy_N := sy_memN (i := 63) (by decide +kernel) rfl
theorem m_64 : Cond.fieldLink R_Tellings 28 R_Tellings "value" "[J" ∈ sy_T := sy_mem (i := 64) (by decide +kernel) rfl
theorem m_65 : Cond.fieldLinkNest R_DeviceSets 122 R_Tellings "value" "[J" R_DeviceSets ∈ sy_N := sy_memN (i := 65) (by decide +kernel) rfl
theorem m_66 : Cond.fieldLink R_Tellings 31 R_Tellings "on" "[J" ∈ sy_T := sy_mem (i := 66) (by decide +kernel) rfl
theorem m_67 : Cond.fieldLink R_Tellings 34 R_Tellings "count" "I" ∈ sy_T := sy_mem (i := 67) (by decide +kernel) rfl
theorem m_87 : Cond.classLink R_DeviceSets 28 R_Corrections ∈ sy_T := sy_mem (i := 87) (by decide +kernel) rfl
theorem m_88 : Cond.instantiable R_Corrections 6 ∈ sy_T := sy_mem (i := 88) (by decide +kernel) rfl
theorem m_89 : Cond.methodLinkNest R_DeviceSets 30 y_Corrections_init R_DeviceSets ∈ sy_N := sy_memN (i := 89) (by decide +kernel) rfl
theorem m_90 : Cond.instanceMethod y_Corrections_init ∈ sy_T := sy_mem (i := 90) (by decide +kernel) rfl
set_option maxRecDepth 100000 in
theorem m_91 : Cond.code y_Corrections_init b_Corrections_init 1 none ∈ sy_T := sy_mem (i := 91) rfl rfl
theorem m_92 : Cond.methodLink R_Corrections 3 objectInit ∈ sy_T := sy_mem (i := 92) (by decide +kernel) rfl
theorem m_93 : Cond.fieldLink R_Corrections 9 R_Corrections "device" "[I" ∈ sy_T := sy_mem (i := 93) (by decide +kernel) rfl
theorem m_94 : Cond.fieldLink R_Corrections 15 R_Corrections "kind" "[I" ∈ sy_T := sy_mem (i := 94) (by decide +kernel) rfl
theorem m_95 : Cond.fieldLink R_Corrections 18 R_Corrections "second" "[J" ∈ sy_T := sy_mem (i := 95) (by decide +kernel) rfl
theorem m_96 : Cond.fieldLink R_Corrections 22 R_Corrections "value" "[J" ∈ sy_T := sy_mem (i := 96) (by decide +kernel) rfl
theorem m_97 : Cond.fieldLinkNest R_DeviceSets 137 R_Corrections "value" "[J" R_DeviceSets ∈ sy_N := sy_memN (i := 97) (by decide +kernel) rfl
theorem m_98 : Cond.fieldLink R_Corrections 25 R_Corrections "told" "[J" ∈ sy_T := sy_mem (i := 98) (by decide +kernel) rfl
theorem m_99 : Cond.fieldLink R_Corrections 28 R_Corrections "count" "I" ∈ sy_T := sy_mem (i := 99) (by decide +kernel) rfl
theorem m_113 : Cond.fieldLink R_DeviceSets 11 R_DeviceSets "devices" "[LDeviceSets$Device;" ∈ sy_T := sy_mem (i := 113) (by decide +kernel) rfl
theorem m_114 : Cond.fieldLink R_DeviceSets 17 R_DeviceSets "sets" "[LDeviceSets$ToldSet;" ∈ sy_T := sy_mem (i := 114) (by decide +kernel) rfl
theorem m_115 : Cond.fieldLink R_DeviceSets 24 R_DeviceSets "tellings" "LDeviceSets$Tellings;" ∈ sy_T := sy_mem (i := 115) (by decide +kernel) rfl
theorem m_116 : Cond.fieldLink R_DeviceSets 31 R_DeviceSets "corrections" "LDeviceSets$Corrections;" ∈ sy_T := sy_mem (i := 116) (by decide +kernel) rfl
theorem m_117 : Cond.fieldLink R_DeviceSets 35 R_DeviceSets "deviceCount" "I" ∈ sy_T := sy_mem (i := 117) (by decide +kernel) rfl
theorem m_118 : Cond.fieldLink R_DeviceSets 70 R_DeviceSets "setCount" "I" ∈ sy_T := sy_mem (i := 118) (by decide +kernel) rfl
theorem m_119 : Cond.fieldLink R_DeviceSets 175 R_DeviceSets "batchCount" "I" ∈ sy_T := sy_mem (i := 119) (by decide +kernel) rfl
theorem m_135 : Cond.methodLink R_Law 13 y_DeviceSets_device ∈ sy_T := sy_mem (i := 135) (by decide +kernel) rfl
theorem m_136 : Cond.instanceMethod y_DeviceSets_device ∈ sy_T := sy_mem (i := 136) (by decide +kernel) rfl
theorem m_137 : Cond.selects y_DeviceSets_device.cls y_DeviceSets_device y_DeviceSets_device ∈ sy_T := sy_mem (i := 137) (by decide +kernel) rfl
set_option maxRecDepth 100000 in
theorem m_138 : Cond.code y_DeviceSets_device b_DeviceSets_device 1 (some .int) ∈ sy_T := sy_mem (i := 138) rfl rfl
theorem m_139 : Cond.instantiable R_Device 3 ∈ sy_T := sy_mem (i := 139) (by decide +kernel) rfl
theorem m_140 : Cond.methodLinkNest R_DeviceSets 39 y_Device_init R_DeviceSets ∈ sy_N := sy_memN (i := 140) (by decide +kernel) rfl
theorem m_141 : Cond.instanceMethod y_Device_init ∈ sy_T := sy_mem (i := 141) (by decide +kernel) rfl
set_option maxRecDepth 100000 in
theorem m_142 : Cond.code y_Device_init b_Device_init 1 none ∈ sy_T := sy_mem (i := 142) rfl rfl
theorem m_143 : Cond.methodLink R_Device 1 objectInit ∈ sy_T := sy_mem (i := 143) (by decide +kernel) rfl
theorem m_144 : Cond.classLink R_Device 7 R_Clock ∈ sy_T := sy_mem (i := 144) (by decide +kernel) rfl
theorem m_145 : Cond.instantiable R_Clock 3 ∈ sy_T := sy_mem (i := 145) (by decide +kernel) rfl
theorem m_146 : Cond.methodLinkNest R_Device 9 y_Clock_init R_DeviceSets ∈ sy_N := sy_memN (i := 146) (by decide +kernel) rfl
theorem m_147 : Cond.instanceMethod y_Clock_init ∈ sy_T := sy_mem (i := 147) (by decide +kernel) rfl
set_option maxRecDepth 100000 in
theorem m_148 : Cond.code y_Clock_init b_Clock_init 1 none ∈ sy_T := sy_mem (i := 148) rfl rfl
theorem m_149 : Cond.methodLink R_Clock 3 objectInit ∈ sy_T := sy_mem (i := 149) (by decide +kernel) rfl
theorem m_150 : Cond.fieldLink R_Clock 9 R_Clock "seconds" "[J" ∈ sy_T := sy_mem (i := 150) (by decide +kernel) rfl
theorem m_151 : Cond.fieldLink R_Clock 15 R_Clock "trueSeconds" "[J" ∈ sy_T := sy_mem (i := 151) (by decide +kernel) rfl
theorem m_152 : Cond.fieldLink R_Clock 18 R_Clock "count" "I" ∈ sy_T := sy_mem (i := 152) (by decide +kernel) rfl
theorem m_160 : Cond.fieldLink R_Device 10 R_Device "clock" "LDeviceSets$Clock;" ∈ sy_T := sy_mem (i := 160) (by decide +kernel) rfl
theorem m_161 : Cond.fieldLinkNest R_DeviceSets 198 R_Device "clock" "LDeviceSets$Clock;" R_DeviceSets ∈ sy_N := sy_memN (i := 161) (by decide +kernel) rfl
theorem m_162 : Cond.fieldLinkNest R_DeviceSets 59 R_Device "life" "I" R_DeviceSets ∈ sy_N := sy_memN (i := 162) (by decide +kernel) rfl
theorem m_163 : Cond.fieldLinkNest R_DeviceSets 48 R_Device "firstNumber" "J" R_DeviceSets ∈ sy_N := sy_memN (i := 163) (by decide +kernel) rfl
theorem m_171 : Cond.methodLink R_Law 20 y_DeviceSets_tell ∈ sy_T := sy_mem (i := 171) (by decide +kernel) rfl
theorem m_172 : Cond.instanceMethod y_DeviceSets_tell ∈ sy_T := sy_mem (i := 172) (by decide +kernel) rfl
theorem m_173 : Cond.selects y_DeviceSets_tell.cls y_DeviceSets_tell y_DeviceSets_tell ∈ sy_T := sy_mem (i := 173) (by decide +kernel) rfl
set_option maxRecDepth 100000 in
theorem m_174 : Cond.code y_DeviceSets_tell b_DeviceSets_tell 12 (some .int) ∈ sy_T := sy_mem (i := 174) rfl rfl
theorem m_175 : Cond.methodLink R_DeviceSets 40 y_DeviceSets_deviceAt ∈ sy_T := sy_mem (i := 175) (by decide +kernel) rfl
theorem m_177 : Cond.instanceMethod y_DeviceSets_deviceAt ∈ sy_T := sy_mem (i := 177) (by decide +kernel) rfl
set_option maxRecDepth 100000 in
theorem m_178 : Cond.code y_DeviceSets_deviceAt b_DeviceSets_deviceAt 2 (some (.object "DeviceSets$Device")) ∈ sy_T := sy_mem (i := 178) rfl rfl
theorem m_179 : Cond.methodLink R_DeviceSets 44 y_DeviceSets_isNumber ∈ sy_T := sy_mem (i := 179) (by decide +kernel) rfl
theorem m_180 : Cond.static y_DeviceSets_isNumber ∈ sy_T := sy_mem (i := 180) (by decide +kernel) rfl
set_option maxRecDepth 100000 in
theorem m_181 : Cond.code y_DeviceSets_isNumber b_DeviceSets_isNumber 2 (some .boolean) ∈ sy_T := sy_mem (i := 181) rfl rfl
theorem m_182 : Cond.constantLong R_DeviceSets 237 (1000000) ∈ sy_T := sy_mem (i := 182) (by decide +kernel) rfl
theorem m_183 : Cond.methodLink R_DeviceSets 52 y_DeviceSets_isKind ∈ sy_T := sy_mem (i := 183) (by decide +kernel) rfl
theorem m_184 : Cond.static y_DeviceSets_isKind ∈ sy_T := sy_mem (i := 184) (by decide +kernel) rfl
set_option maxRecDepth 100000 in
theorem m_185 : Cond.code y_DeviceSets_isKind b_DeviceSets_isKind 1 (some .boolean) ∈ sy_T := sy_mem (i := 185) rfl rfl
theorem m_186 : Cond.methodLink R_DeviceSets 56 y_DeviceSets_isValue ∈ sy_T := sy_mem (i := 186) (by decide +kernel) rfl
theorem m_187 : Cond.static y_DeviceSets_isValue ∈ sy_T := sy_mem (i := 187) (by decide +kernel) rfl
set_option maxRecDepth 100000 in
theorem m_188 : Cond.code y_DeviceSets_isValue b_DeviceSets_isValue 2 (some .boolean) ∈ sy_T := sy_mem (i := 188) rfl rfl
theorem m_189 : Cond.constantLong R_DeviceSets 239 (-1000000000) ∈ sy_T := sy_mem (i := 189) (by decide +kernel) rfl
theorem m_190 : Cond.constantLong R_DeviceSets 241 (1000000000) ∈ sy_T := sy_mem (i := 190) (by decide +kernel) rfl
theorem m_191 : Cond.methodLink R_DeviceSets 62 y_Tellings_has ∈ sy_T := sy_mem (i := 191) (by decide +kernel) rfl
theorem m_192 : Cond.instanceMethod y_Tellings_has ∈ sy_T := sy_mem (i := 192) (by decide +kernel) rfl
theorem m_193 : Cond.selects y_Tellings_has.cls y_Tellings_has y_Tellings_has ∈ sy_T := sy_mem (i := 193) (by decide +kernel) rfl
set_option maxRecDepth 100000 in
theorem m_194 : Cond.code y_Tellings_has b_Tellings_has 10 (some .boolean) ∈ sy_T := sy_mem (i := 194) rfl rfl
theorem m_195 : Cond.methodLink R_DeviceSets 66 y_Tellings_add ∈ sy_T := sy_mem (i := 195) (by decide +kernel) rfl
theorem m_196 : Cond.instanceMethod y_Tellings_add ∈ sy_T := sy_mem (i := 196) (by decide +kernel) rfl
theorem m_197 : Cond.selects y_Tellings_add.cls y_Tellings_add y_Tellings_add ∈ sy_T := sy_mem (i := 197) (by decide +kernel) rfl
set_option maxRecDepth 100000 in
theorem m_198 : Cond.code y_Tellings_add b_Tellings_add 11 (some .boolean) ∈ sy_T := sy_mem (i := 198) rfl rfl
theorem m_199 : Cond.methodLink R_Law 25 y_DeviceSets_reset ∈ sy_T := sy_mem (i := 199) (by decide +kernel) rfl
theorem m_200 : Cond.instanceMethod y_DeviceSets_reset ∈ sy_T := sy_mem (i := 200) (by decide +kernel) rfl
theorem m_201 : Cond.selects y_DeviceSets_reset.cls y_DeviceSets_reset y_DeviceSets_reset ∈ sy_T := sy_mem (i := 201) (by decide +kernel) rfl
set_option maxRecDepth 100000 in
theorem m_202 : Cond.code y_DeviceSets_reset b_DeviceSets_reset 5 (some .boolean) ∈ sy_T := sy_mem (i := 202) rfl rfl
theorem m_203 : Cond.methodLink R_Law 30 y_DeviceSets_life ∈ sy_T := sy_mem (i := 203) (by decide +kernel) rfl
theorem m_204 : Cond.instanceMethod y_DeviceSets_life ∈ sy_T := sy_mem (i := 204) (by decide +kernel) rfl
theorem m_205 : Cond.selects y_DeviceSets_life.cls y_DeviceSets_life y_DeviceSets_life ∈ sy_T := sy_mem (i := 205) (by decide +kernel) rfl
set_option maxRecDepth 100000 in
theorem m_206 : Cond.code y_DeviceSets_life b_DeviceSets_life 3 (some .int) ∈ sy_T := sy_mem (i := 206) rfl rfl
theorem m_207 : Cond.methodLink R_Law 35 y_DeviceSets_set ∈ sy_T := sy_mem (i := 207) (by decide +kernel) rfl
theorem m_208 : Cond.instanceMethod y_DeviceSets_set ∈ sy_T := sy_mem (i := 208) (by decide +kernel) rfl
theorem m_209 : Cond.selects y_DeviceSets_set.cls y_DeviceSets_set y_DeviceSets_set ∈ sy_T := sy_mem (i := 209) (by decide +kernel) rfl
set_option maxRecDepth 100000 in
theorem m_210 : Cond.code y_DeviceSets_set b_DeviceSets_set 2 (some .int) ∈ sy_T := sy_mem (i := 210) rfl rfl
theorem m_211 : Cond.instantiable R_ToldSet 3 ∈ sy_T := sy_mem (i := 211) (by decide +kernel) rfl
theorem m_212 : Cond.methodLink R_DeviceSets 73 y_Tellings_ofDevice ∈ sy_T := sy_mem (i := 212) (by decide +kernel) rfl
theorem m_213 : Cond.instanceMethod y_Tellings_ofDevice ∈ sy_T := sy_mem (i := 213) (by decide +kernel) rfl
theorem m_214 : Cond.selects y_Tellings_ofDevice.cls y_Tellings_ofDevice y_Tellings_ofDevice ∈ sy_T := sy_mem (i := 214) (by decide +kernel) rfl
set_option maxRecDepth 100000 in
theorem m_215 : Cond.code y_Tellings_ofDevice b_Tellings_ofDevice 5 (some .long) ∈ sy_T := sy_mem (i := 215) rfl rfl
theorem m_216 : Cond.methodLinkNest R_Tellings 38 y_DeviceSets_bit R_DeviceSets ∈ sy_N := sy_memN (i := 216) (by decide +kernel) rfl
theorem m_217 : Cond.static y_DeviceSets_bit ∈ sy_T := sy_mem (i := 217) (by decide +kernel) rfl
set_option maxRecDepth 100000 in
theorem m_218 : Cond.code y_DeviceSets_bit b_DeviceSets_bit 1 (some .long) ∈ sy_T := sy_mem (i := 218) rfl rfl
theorem m_219 : Cond.methodLink R_DeviceSets 77 y_ToldSet_init ∈ sy_T := sy_mem (i := 219) (by decide +kernel) rfl
theorem m_220 : Cond.instanceMethod y_ToldSet_init ∈ sy_T := sy_mem (i := 220) (by decide +kernel) rfl
set_option maxRecDepth 100000 in
theorem m_221 : Cond.code y_ToldSet_init b_ToldSet_init 3 none ∈ sy_T := sy_mem (i := 221) rfl rfl
theorem m_222 : Cond.methodLink R_ToldSet 3 objectInit ∈ sy_T := sy_mem (i := 222) (by decide +kernel) rfl
theorem m_223 : Cond.classLink R_ToldSet 9 R_Held ∈ sy_T := sy_mem (i := 223) (by decide +kernel) rfl
theorem m_224 : Cond.instantiable R_Held 4 ∈ sy_T := sy_mem (i := 224) (by decide +kernel) rfl
theorem m_225 : Cond.methodLinkNest R_ToldSet 11 y_Held_init R_DeviceSets ∈ sy_N := sy_memN (i := 225) (by decide +kernel) rfl
theorem m_226 : Cond.instanceMethod y_Held_init ∈ sy_T := sy_mem (i := 226) (by decide +kernel) rfl
set_option maxRecDepth 100000 in
theorem m_227 : Cond.code y_Held_init b_Held_init 1 none ∈ sy_T := sy_mem (i := 227) rfl rfl
theorem m_228 : Cond.methodLink R_Held 1 objectInit ∈ sy_T := sy_mem (i := 228) (by decide +kernel) rfl
theorem m_229 : Cond.fieldLinkNest R_ToldSet 25 R_Held "tellings" "J" R_DeviceSets ∈ sy_N := sy_memN (i := 229) (by decide +kernel) rfl
theorem m_230 : Cond.fieldLink R_Held 7 R_Held "tellings" "J" ∈ sy_T := sy_mem (i := 230) (by decide +kernel) rfl
theorem m_231 : Cond.fieldLinkNest R_DeviceSets 138 R_Held "tellings" "J" R_DeviceSets ∈ sy_N := sy_memN (i := 231) (by decide +kernel) rfl
theorem m_232 : Cond.fieldLink R_Held 15 R_Held "corrections" "J" ∈ sy_T := sy_mem (i := 232) (by decide +kernel) rfl
theorem m_233 : Cond.fieldLinkNest R_DeviceSets 106 R_Held "corrections" "J" R_DeviceSets ∈ sy_N := sy_memN (i := 233) (by decide +kernel) rfl
theorem m_234 : Cond.fieldLink R_Held 18 R_Held "choices" "J" ∈ sy_T := sy_mem (i := 234) (by decide +kernel) rfl
theorem m_235 : Cond.fieldLinkNest R_DeviceSets 165 R_Held "choices" "J" R_DeviceSets ∈ sy_N := sy_memN (i := 235) (by decide +kernel) rfl
theorem m_236 : Cond.fieldLink R_Held 21 R_Held "bound" "J" ∈ sy_T := sy_mem (i := 236) (by decide +kernel) rfl
theorem m_237 : Cond.fieldLinkNest R_DeviceSets 183 R_Held "bound" "J" R_DeviceSets ∈ sy_N := sy_memN (i := 237) (by decide +kernel) rfl
theorem m_247 : Cond.fieldLink R_ToldSet 12 R_ToldSet "held" "LDeviceSets$Held;" ∈ sy_T := sy_mem (i := 247) (by decide +kernel) rfl
theorem m_248 : Cond.fieldLinkNest R_DeviceSets 88 R_ToldSet "held" "LDeviceSets$Held;" R_DeviceSets ∈ sy_N := sy_memN (i := 248) (by decide +kernel) rfl
theorem m_249 : Cond.fieldLink R_ToldSet 18 R_ToldSet "waiting" "LDeviceSets$Held;" ∈ sy_T := sy_mem (i := 249) (by decide +kernel) rfl
theorem m_250 : Cond.fieldLink R_ToldSet 21 R_ToldSet "openBatch" "I" ∈ sy_T := sy_mem (i := 250) (by decide +kernel) rfl
theorem m_251 : Cond.fieldLinkNest R_DeviceSets 172 R_ToldSet "openBatch" "I" R_DeviceSets ∈ sy_N := sy_memN (i := 251) (by decide +kernel) rfl
theorem m_259 : Cond.methodLink R_Law 39 y_DeviceSets_join ∈ sy_T := sy_mem (i := 259) (by decide +kernel) rfl
theorem m_260 : Cond.instanceMethod y_DeviceSets_join ∈ sy_T := sy_mem (i := 260) (by decide +kernel) rfl
theorem m_261 : Cond.selects y_DeviceSets_join.cls y_DeviceSets_join y_DeviceSets_join ∈ sy_T := sy_mem (i := 261) (by decide +kernel) rfl
set_option maxRecDepth 100000 in
theorem m_262 : Cond.code y_DeviceSets_join b_DeviceSets_join 5 (some .int) ∈ sy_T := sy_mem (i := 262) rfl rfl
theorem m_263 : Cond.methodLink R_DeviceSets 80 y_DeviceSets_setAt ∈ sy_T := sy_mem (i := 263) (by decide +kernel) rfl
theorem m_265 : Cond.instanceMethod y_DeviceSets_setAt ∈ sy_T := sy_mem (i := 265) (by decide +kernel) rfl
set_option maxRecDepth 100000 in
theorem m_266 : Cond.code y_DeviceSets_setAt b_DeviceSets_setAt 2 (some (.object "DeviceSets$ToldSet")) ∈ sy_T := sy_mem (i := 266) rfl rfl
theorem m_267 : Cond.methodLink R_DeviceSets 84 y_ToldSet_bring ∈ sy_T := sy_mem (i := 267) (by decide +kernel) rfl
theorem m_268 : Cond.instanceMethod y_ToldSet_bring ∈ sy_T := sy_mem (i := 268) (by decide +kernel) rfl
theorem m_269 : Cond.selects y_ToldSet_bring.cls y_ToldSet_bring y_ToldSet_bring ∈ sy_T := sy_mem (i := 269) (by decide +kernel) rfl
set_option maxRecDepth 100000 in
theorem m_270 : Cond.code y_ToldSet_bring b_ToldSet_bring 2 (some .boolean) ∈ sy_T := sy_mem (i := 270) rfl rfl
theorem m_271 : Cond.methodLink R_ToldSet 29 y_Held_takeIn ∈ sy_T := sy_mem (i := 271) (by decide +kernel) rfl
theorem m_272 : Cond.instanceMethod y_Held_takeIn ∈ sy_T := sy_mem (i := 272) (by decide +kernel) rfl
theorem m_273 : Cond.selects y_Held_takeIn.cls y_Held_takeIn y_Held_takeIn ∈ sy_T := sy_mem (i := 273) (by decide +kernel) rfl
set_option maxRecDepth 100000 in
theorem m_274 : Cond.code y_Held_takeIn b_Held_takeIn 3 (some .boolean) ∈ sy_T := sy_mem (i := 274) rfl rfl
theorem m_275 : Cond.constantLong R_Held 13 (-1) ∈ sy_T := sy_mem (i := 275) (by decide +kernel) rfl
theorem m_276 : Cond.methodLink R_Held 24 Lib.MathLoose.max_long.x ∈ sy_T := sy_mem (i := 276) (by decide +kernel) rfl
theorem m_277 : Cond.static Lib.MathLoose.max_long.x ∈ sy_T := sy_mem (i := 277) (by decide +kernel) rfl
set_option maxRecDepth 100000 in
theorem m_278 : Cond.code Lib.MathLoose.max_long.x Lib.MathLoose.max_long.code 4 (some .long) ∈ sy_T := sy_mem (i := 278) rfl rfl
theorem m_279 : Cond.methodLink R_DeviceSets 92 y_DeviceSets_conflictsIn ∈ sy_T := sy_mem (i := 279) (by decide +kernel) rfl
theorem m_281 : Cond.instanceMethod y_DeviceSets_conflictsIn ∈ sy_T := sy_mem (i := 281) (by decide +kernel) rfl
set_option maxRecDepth 100000 in
theorem m_282 : Cond.code y_DeviceSets_conflictsIn b_DeviceSets_conflictsIn 2 (some .long) ∈ sy_T := sy_mem (i := 282) rfl rfl
theorem m_283 : Cond.methodLink R_DeviceSets 158 y_DeviceSets_liveIn ∈ sy_T := sy_mem (i := 283) (by decide +kernel) rfl
theorem m_285 : Cond.instanceMethod y_DeviceSets_liveIn ∈ sy_T := sy_mem (i := 285) (by decide +kernel) rfl
set_option maxRecDepth 100000 in
theorem m_286 : Cond.code y_DeviceSets_liveIn b_DeviceSets_liveIn 2 (some .long) ∈ sy_T := sy_mem (i := 286) rfl rfl
theorem m_287 : Cond.methodLink R_DeviceSets 228 y_Tellings_notBelow ∈ sy_T := sy_mem (i := 287) (by decide +kernel) rfl
theorem m_288 : Cond.instanceMethod y_Tellings_notBelow ∈ sy_T := sy_mem (i := 288) (by decide +kernel) rfl
theorem m_289 : Cond.selects y_Tellings_notBelow.cls y_Tellings_notBelow y_Tellings_notBelow ∈ sy_T := sy_mem (i := 289) (by decide +kernel) rfl
set_option maxRecDepth 100000 in
theorem m_290 : Cond.code y_Tellings_notBelow b_Tellings_notBelow 8 (some .long) ∈ sy_T := sy_mem (i := 290) rfl rfl
theorem m_291 : Cond.methodLinkNest R_Tellings 42 y_DeviceSets_isIn R_DeviceSets ∈ sy_N := sy_memN (i := 291) (by decide +kernel) rfl
theorem m_292 : Cond.static y_DeviceSets_isIn ∈ sy_T := sy_mem (i := 292) (by decide +kernel) rfl
set_option maxRecDepth 100000 in
theorem m_293 : Cond.code y_DeviceSets_isIn b_DeviceSets_isIn 3 (some .boolean) ∈ sy_T := sy_mem (i := 293) rfl rfl
theorem m_294 : Cond.methodLink R_DeviceSets 110 y_DeviceSets_bit ∈ sy_T := sy_mem (i := 294) (by decide +kernel) rfl
theorem m_295 : Cond.methodLink R_DeviceSets 231 y_Tellings_unsettled ∈ sy_T := sy_mem (i := 295) (by decide +kernel) rfl
theorem m_296 : Cond.instanceMethod y_Tellings_unsettled ∈ sy_T := sy_mem (i := 296) (by decide +kernel) rfl
theorem m_297 : Cond.selects y_Tellings_unsettled.cls y_Tellings_unsettled y_Tellings_unsettled ∈ sy_T := sy_mem (i := 297) (by decide +kernel) rfl
set_option maxRecDepth 100000 in
theorem m_298 : Cond.code y_Tellings_unsettled b_Tellings_unsettled 12 (some .long) ∈ sy_T := sy_mem (i := 298) rfl rfl
theorem m_299 : Cond.methodLink R_Tellings 46 y_Tellings_ofKeyOf ∈ sy_T := sy_mem (i := 299) (by decide +kernel) rfl
theorem m_300 : Cond.instanceMethod y_Tellings_ofKeyOf ∈ sy_T := sy_mem (i := 300) (by decide +kernel) rfl
theorem m_301 : Cond.selects y_Tellings_ofKeyOf.cls y_Tellings_ofKeyOf y_Tellings_ofKeyOf ∈ sy_T := sy_mem (i := 301) (by decide +kernel) rfl
set_option maxRecDepth 100000 in
theorem m_302 : Cond.code y_Tellings_ofKeyOf b_Tellings_ofKeyOf 7 (some .long) ∈ sy_T := sy_mem (i := 302) rfl rfl
theorem m_303 : Cond.constantLong R_Tellings 50 (-1) ∈ sy_T := sy_mem (i := 303) (by decide +kernel) rfl
theorem m_304 : Cond.methodLink R_DeviceSets 96 y_Long_bitCount ∈ sy_T := sy_mem (i := 304) (by decide +kernel) rfl
theorem m_305 : Cond.static y_Long_bitCount ∈ sy_T := sy_mem (i := 305) (by decide +kernel) rfl
set_option maxRecDepth 100000 in
theorem m_306 : Cond.code y_Long_bitCount b_Long_bitCount 2 (some .int) ∈ sy_T := sy_mem (i := 306) rfl rfl
theorem m_307 : Cond.constantLong R_Long 314 (6148914691236517205) ∈ sy_T := sy_mem (i := 307) (by decide +kernel) rfl
theorem m_308 : Cond.constantLong R_Long 316 (3689348814741910323) ∈ sy_T := sy_mem (i := 308) (by decide +kernel) rfl
theorem m_309 : Cond.constantLong R_Long 318 (1085102592571150095) ∈ sy_T := sy_mem (i := 309) (by decide +kernel) rfl
theorem m_310 : Cond.methodLink R_Law 44 y_DeviceSets_correct ∈ sy_T := sy_mem (i := 310) (by decide +kernel) rfl
theorem m_311 : Cond.instanceMethod y_DeviceSets_correct ∈ sy_T := sy_mem (i := 311) (by decide +kernel) rfl
theorem m_312 : Cond.selects y_DeviceSets_correct.cls y_DeviceSets_correct y_DeviceSets_correct ∈ sy_T := sy_mem (i := 312) (by decide +kernel) rfl
set_option maxRecDepth 100000 in
theorem m_313 : Cond.code y_DeviceSets_correct b_DeviceSets_correct 12 (some .boolean) ∈ sy_T := sy_mem (i := 313) rfl rfl
theorem m_314 : Cond.methodLink R_DeviceSets 102 y_Corrections_findOrAdd ∈ sy_T := sy_mem (i := 314) (by decide +kernel) rfl
theorem m_315 : Cond.instanceMethod y_Corrections_findOrAdd ∈ sy_T := sy_mem (i := 315) (by decide +kernel) rfl
theorem m_316 : Cond.selects y_Corrections_findOrAdd.cls y_Corrections_findOrAdd y_Corrections_findOrAdd ∈ sy_T := sy_mem (i := 316) (by decide +kernel) rfl
set_option maxRecDepth 100000 in
theorem m_317 : Cond.code y_Corrections_findOrAdd b_Corrections_findOrAdd 10 (some .int) ∈ sy_T := sy_mem (i := 317) rfl rfl
theorem m_318 : Cond.methodLink R_Corrections 32 y_Corrections_isFor ∈ sy_T := sy_mem (i := 318) (by decide +kernel) rfl
theorem m_320 : Cond.instanceMethod y_Corrections_isFor ∈ sy_T := sy_mem (i := 320) (by decide +kernel) rfl
set_option maxRecDepth 100000 in
theorem m_321 : Cond.code y_Corrections_isFor b_Corrections_isFor 6 (some .boolean) ∈ sy_T := sy_mem (i := 321) rfl rfl
theorem m_322 : Cond.methodLink R_Law 49 y_DeviceSets_last ∈ sy_T := sy_mem (i := 322) (by decide +kernel) rfl
theorem m_323 : Cond.instanceMethod y_DeviceSets_last ∈ sy_T := sy_mem (i := 323) (by decide +kernel) rfl
theorem m_324 : Cond.selects y_DeviceSets_last.cls y_DeviceSets_last y_DeviceSets_last ∈ sy_T := sy_mem (i := 324) (by decide +kernel) rfl
set_option maxRecDepth 100000 in
theorem m_325 : Cond.code y_DeviceSets_last b_DeviceSets_last 6 (some .long) ∈ sy_T := sy_mem (i := 325) rfl rfl
theorem m_326 : Cond.constantLong R_DeviceSets 113 (-9223372036854775808) ∈ sy_T := sy_mem (i := 326) (by decide +kernel) rfl
theorem m_327 : Cond.methodLink R_DeviceSets 115 y_DeviceSets_seenIn ∈ sy_T := sy_mem (i := 327) (by decide +kernel) rfl
theorem m_329 : Cond.instanceMethod y_DeviceSets_seenIn ∈ sy_T := sy_mem (i := 329) (by decide +kernel) rfl
set_option maxRecDepth 100000 in
theorem m_330 : Cond.code y_DeviceSets_seenIn b_DeviceSets_seenIn 4 (some .long) ∈ sy_T := sy_mem (i := 330) rfl rfl
theorem m_331 : Cond.methodLink R_DeviceSets 151 y_Tellings_ofKind ∈ sy_T := sy_mem (i := 331) (by decide +kernel) rfl
theorem m_332 : Cond.instanceMethod y_Tellings_ofKind ∈ sy_T := sy_mem (i := 332) (by decide +kernel) rfl
theorem m_333 : Cond.selects y_Tellings_ofKind.cls y_Tellings_ofKind y_Tellings_ofKind ∈ sy_T := sy_mem (i := 333) (by decide +kernel) rfl
set_option maxRecDepth 100000 in
theorem m_334 : Cond.code y_Tellings_ofKind b_Tellings_ofKind 6 (some .long) ∈ sy_T := sy_mem (i := 334) rfl rfl
theorem m_335 : Cond.methodLink R_DeviceSets 234 y_Tellings_holding ∈ sy_T := sy_mem (i := 335) (by decide +kernel) rfl
theorem m_336 : Cond.instanceMethod y_Tellings_holding ∈ sy_T := sy_mem (i := 336) (by decide +kernel) rfl
theorem m_337 : Cond.selects y_Tellings_holding.cls y_Tellings_holding y_Tellings_holding ∈ sy_T := sy_mem (i := 337) (by decide +kernel) rfl
set_option maxRecDepth 100000 in
theorem m_338 : Cond.code y_Tellings_holding b_Tellings_holding 10 (some .long) ∈ sy_T := sy_mem (i := 338) rfl rfl
theorem m_339 : Cond.methodLink R_Tellings 52 y_Tellings_first ∈ sy_T := sy_mem (i := 339) (by decide +kernel) rfl
theorem m_340 : Cond.instanceMethod y_Tellings_first ∈ sy_T := sy_mem (i := 340) (by decide +kernel) rfl
theorem m_341 : Cond.selects y_Tellings_first.cls y_Tellings_first y_Tellings_first ∈ sy_T := sy_mem (i := 341) (by decide +kernel) rfl
set_option maxRecDepth 100000 in
theorem m_342 : Cond.code y_Tellings_first b_Tellings_first 5 (some .int) ∈ sy_T := sy_mem (i := 342) rfl rfl
theorem m_343 : Cond.methodLink R_Tellings 56 y_Tellings_isBefore ∈ sy_T := sy_mem (i := 343) (by decide +kernel) rfl
theorem m_345 : Cond.instanceMethod y_Tellings_isBefore ∈ sy_T := sy_mem (i := 345) (by decide +kernel) rfl
set_option maxRecDepth 100000 in
theorem m_346 : Cond.code y_Tellings_isBefore b_Tellings_isBefore 3 (some .boolean) ∈ sy_T := sy_mem (i := 346) rfl rfl
theorem m_347 : Cond.methodLink R_DeviceSets 119 y_Tellings_latestNumbered ∈ sy_T := sy_mem (i := 347) (by decide +kernel) rfl
theorem m_348 : Cond.instanceMethod y_Tellings_latestNumbered ∈ sy_T := sy_mem (i := 348) (by decide +kernel) rfl
theorem m_349 : Cond.selects y_Tellings_latestNumbered.cls y_Tellings_latestNumbered y_Tellings_latestNumbered ∈ sy_T := sy_mem (i := 349) (by decide +kernel) rfl
set_option maxRecDepth 100000 in
theorem m_350 : Cond.code y_Tellings_latestNumbered b_Tellings_latestNumbered 5 (some .int) ∈ sy_T := sy_mem (i := 350) rfl rfl
theorem m_351 : Cond.methodLink R_Law 54 y_DeviceSets_known ∈ sy_T := sy_mem (i := 351) (by decide +kernel) rfl
theorem m_352 : Cond.instanceMethod y_DeviceSets_known ∈ sy_T := sy_mem (i := 352) (by decide +kernel) rfl
theorem m_353 : Cond.selects y_DeviceSets_known.cls y_DeviceSets_known y_DeviceSets_known ∈ sy_T := sy_mem (i := 353) (by decide +kernel) rfl
set_option maxRecDepth 100000 in
theorem m_354 : Cond.code y_DeviceSets_known b_DeviceSets_known 11 (some .long) ∈ sy_T := sy_mem (i := 354) rfl rfl
theorem m_355 : Cond.methodLink R_DeviceSets 126 y_Tellings_latestKnown ∈ sy_T := sy_mem (i := 355) (by decide +kernel) rfl
theorem m_356 : Cond.instanceMethod y_Tellings_latestKnown ∈ sy_T := sy_mem (i := 356) (by decide +kernel) rfl
theorem m_357 : Cond.selects y_Tellings_latestKnown.cls y_Tellings_latestKnown y_Tellings_latestKnown ∈ sy_T := sy_mem (i := 357) (by decide +kernel) rfl
set_option maxRecDepth 100000 in
theorem m_358 : Cond.code y_Tellings_latestKnown b_Tellings_latestKnown 9 (some .int) ∈ sy_T := sy_mem (i := 358) rfl rfl
theorem m_359 : Cond.methodLink R_Tellings 64 y_Tellings_isOfLater ∈ sy_T := sy_mem (i := 359) (by decide +kernel) rfl
theorem m_361 : Cond.instanceMethod y_Tellings_isOfLater ∈ sy_T := sy_mem (i := 361) (by decide +kernel) rfl
set_option maxRecDepth 100000 in
theorem m_362 : Cond.code y_Tellings_isOfLater b_Tellings_isOfLater 3 (some .boolean) ∈ sy_T := sy_mem (i := 362) rfl rfl
theorem m_363 : Cond.methodLink R_DeviceSets 133 y_Corrections_latest ∈ sy_T := sy_mem (i := 363) (by decide +kernel) rfl
theorem m_364 : Cond.instanceMethod y_Corrections_latest ∈ sy_T := sy_mem (i := 364) (by decide +kernel) rfl
theorem m_365 : Cond.selects y_Corrections_latest.cls y_Corrections_latest y_Corrections_latest ∈ sy_T := sy_mem (i := 365) (by decide +kernel) rfl
set_option maxRecDepth 100000 in
theorem m_366 : Cond.code y_Corrections_latest b_Corrections_latest 11 (some .int) ∈ sy_T := sy_mem (i := 366) rfl rfl
theorem m_367 : Cond.methodLinkNest R_Corrections 36 y_DeviceSets_isIn R_DeviceSets ∈ sy_N := sy_memN (i := 367) (by decide +kernel) rfl
theorem m_368 : Cond.methodLink R_Corrections 40 y_Corrections_isStronger ∈ sy_T := sy_mem (i := 368) (by decide +kernel) rfl
theorem m_370 : Cond.instanceMethod y_Corrections_isStronger ∈ sy_T := sy_mem (i := 370) (by decide +kernel) rfl
set_option maxRecDepth 100000 in
theorem m_371 : Cond.code y_Corrections_isStronger b_Corrections_isStronger 3 (some .boolean) ∈ sy_T := sy_mem (i := 371) rfl rfl
theorem m_372 : Cond.methodLink R_Law 59 y_DeviceSets_gap ∈ sy_T := sy_mem (i := 372) (by decide +kernel) rfl
theorem m_373 : Cond.instanceMethod y_DeviceSets_gap ∈ sy_T := sy_mem (i := 373) (by decide +kernel) rfl
theorem m_374 : Cond.selects y_DeviceSets_gap.cls y_DeviceSets_gap y_DeviceSets_gap ∈ sy_T := sy_mem (i := 374) (by decide +kernel) rfl
set_option maxRecDepth 100000 in
theorem m_375 : Cond.code y_DeviceSets_gap b_DeviceSets_gap 5 (some .int) ∈ sy_T := sy_mem (i := 375) rfl rfl
theorem m_376 : Cond.methodLink R_DeviceSets 140 y_Tellings_missingNumber ∈ sy_T := sy_mem (i := 376) (by decide +kernel) rfl
theorem m_377 : Cond.instanceMethod y_Tellings_missingNumber ∈ sy_T := sy_mem (i := 377) (by decide +kernel) rfl
theorem m_378 : Cond.selects y_Tellings_missingNumber.cls y_Tellings_missingNumber y_Tellings_missingNumber ∈ sy_T := sy_mem (i := 378) (by decide +kernel) rfl
set_option maxRecDepth 100000 in
theorem m_379 : Cond.code y_Tellings_missingNumber b_Tellings_missingNumber 11 (some .int) ∈ sy_T := sy_mem (i := 379) rfl rfl
theorem m_380 : Cond.methodLink R_Tellings 67 y_Tellings_ofGreatestLife ∈ sy_T := sy_mem (i := 380) (by decide +kernel) rfl
theorem m_382 : Cond.instanceMethod y_Tellings_ofGreatestLife ∈ sy_T := sy_mem (i := 382) (by decide +kernel) rfl
set_option maxRecDepth 100000 in
theorem m_383 : Cond.code y_Tellings_ofGreatestLife b_Tellings_ofGreatestLife 7 (some .long) ∈ sy_T := sy_mem (i := 383) rfl rfl
theorem m_384 : Cond.methodLink R_Tellings 71 y_Tellings_nextNumber ∈ sy_T := sy_mem (i := 384) (by decide +kernel) rfl
theorem m_386 : Cond.instanceMethod y_Tellings_nextNumber ∈ sy_T := sy_mem (i := 386) (by decide +kernel) rfl
set_option maxRecDepth 100000 in
theorem m_387 : Cond.code y_Tellings_nextNumber b_Tellings_nextNumber 6 (some .int) ∈ sy_T := sy_mem (i := 387) rfl rfl
theorem m_388 : Cond.methodLink R_Law 64 y_DeviceSets_conflict ∈ sy_T := sy_mem (i := 388) (by decide +kernel) rfl
theorem m_389 : Cond.instanceMethod y_DeviceSets_conflict ∈ sy_T := sy_mem (i := 389) (by decide +kernel) rfl
theorem m_390 : Cond.selects y_DeviceSets_conflict.cls y_DeviceSets_conflict y_DeviceSets_conflict ∈ sy_T := sy_mem (i := 390) (by decide +kernel) rfl
set_option maxRecDepth 100000 in
theorem m_391 : Cond.code y_DeviceSets_conflict b_DeviceSets_conflict 6 (some .int) ∈ sy_T := sy_mem (i := 391) rfl rfl
theorem m_392 : Cond.methodLink R_DeviceSets 144 y_Tellings_inPlace ∈ sy_T := sy_mem (i := 392) (by decide +kernel) rfl
theorem m_393 : Cond.instanceMethod y_Tellings_inPlace ∈ sy_T := sy_mem (i := 393) (by decide +kernel) rfl
theorem m_394 : Cond.selects y_Tellings_inPlace.cls y_Tellings_inPlace y_Tellings_inPlace ∈ sy_T := sy_mem (i := 394) (by decide +kernel) rfl
set_option maxRecDepth 100000 in
theorem m_395 : Cond.code y_Tellings_inPlace b_Tellings_inPlace 5 (some .int) ∈ sy_T := sy_mem (i := 395) rfl rfl
theorem m_396 : Cond.methodLink R_Tellings 60 y_Tellings_countBefore ∈ sy_T := sy_mem (i := 396) (by decide +kernel) rfl
theorem m_398 : Cond.instanceMethod y_Tellings_countBefore ∈ sy_T := sy_mem (i := 398) (by decide +kernel) rfl
set_option maxRecDepth 100000 in
theorem m_399 : Cond.code y_Tellings_countBefore b_Tellings_countBefore 6 (some .int) ∈ sy_T := sy_mem (i := 399) rfl rfl
theorem m_400 : Cond.methodLink R_DeviceSets 147 y_Tellings_keyPart ∈ sy_T := sy_mem (i := 400) (by decide +kernel) rfl
theorem m_401 : Cond.instanceMethod y_Tellings_keyPart ∈ sy_T := sy_mem (i := 401) (by decide +kernel) rfl
theorem m_402 : Cond.selects y_Tellings_keyPart.cls y_Tellings_keyPart y_Tellings_keyPart ∈ sy_T := sy_mem (i := 402) (by decide +kernel) rfl
set_option maxRecDepth 100000 in
theorem m_403 : Cond.code y_Tellings_keyPart b_Tellings_keyPart 3 (some .int) ∈ sy_T := sy_mem (i := 403) rfl rfl
theorem m_404 : Cond.methodLink R_Law 68 y_DeviceSets_settle ∈ sy_T := sy_mem (i := 404) (by decide +kernel) rfl
theorem m_405 : Cond.instanceMethod y_DeviceSets_settle ∈ sy_T := sy_mem (i := 405) (by decide +kernel) rfl
theorem m_406 : Cond.selects y_DeviceSets_settle.cls y_DeviceSets_settle y_DeviceSets_settle ∈ sy_T := sy_mem (i := 406) (by decide +kernel) rfl
set_option maxRecDepth 100000 in
theorem m_407 : Cond.code y_DeviceSets_settle b_DeviceSets_settle 8 (some .int) ∈ sy_T := sy_mem (i := 407) rfl rfl
theorem m_408 : Cond.methodLink R_DeviceSets 155 y_Tellings_first ∈ sy_T := sy_mem (i := 408) (by decide +kernel) rfl
theorem m_409 : Cond.methodLink R_DeviceSets 161 y_Tellings_ofKeyOf ∈ sy_T := sy_mem (i := 409) (by decide +kernel) rfl
theorem m_410 : Cond.methodLink R_Law 73 y_DeviceSets_equal ∈ sy_T := sy_mem (i := 410) (by decide +kernel) rfl
theorem m_411 : Cond.instanceMethod y_DeviceSets_equal ∈ sy_T := sy_mem (i := 411) (by decide +kernel) rfl
theorem m_412 : Cond.selects y_DeviceSets_equal.cls y_DeviceSets_equal y_DeviceSets_equal ∈ sy_T := sy_mem (i := 412) (by decide +kernel) rfl
set_option maxRecDepth 100000 in
theorem m_413 : Cond.code y_DeviceSets_equal b_DeviceSets_equal 5 (some .boolean) ∈ sy_T := sy_mem (i := 413) rfl rfl
theorem m_414 : Cond.methodLink R_DeviceSets 168 y_Held_isLike ∈ sy_T := sy_mem (i := 414) (by decide +kernel) rfl
theorem m_415 : Cond.instanceMethod y_Held_isLike ∈ sy_T := sy_mem (i := 415) (by decide +kernel) rfl
theorem m_416 : Cond.selects y_Held_isLike.cls y_Held_isLike y_Held_isLike ∈ sy_T := sy_mem (i := 416) (by decide +kernel) rfl
set_option maxRecDepth 100000 in
theorem m_417 : Cond.code y_Held_isLike b_Held_isLike 2 (some .boolean) ∈ sy_T := sy_mem (i := 417) rfl rfl
theorem m_418 : Cond.methodLink R_Law 78 y_DeviceSets_batch ∈ sy_T := sy_mem (i := 418) (by decide +kernel) rfl
theorem m_419 : Cond.instanceMethod y_DeviceSets_batch ∈ sy_T := sy_mem (i := 419) (by decide +kernel) rfl
theorem m_420 : Cond.selects y_DeviceSets_batch.cls y_DeviceSets_batch y_DeviceSets_batch ∈ sy_T := sy_mem (i := 420) (by decide +kernel) rfl
set_option maxRecDepth 100000 in
theorem m_421 : Cond.code y_DeviceSets_batch b_DeviceSets_batch 3 (some .int) ∈ sy_T := sy_mem (i := 421) rfl rfl
theorem m_422 : Cond.methodLink R_Law 82 y_DeviceSets_endBatch ∈ sy_T := sy_mem (i := 422) (by decide +kernel) rfl
theorem m_423 : Cond.instanceMethod y_DeviceSets_endBatch ∈ sy_T := sy_mem (i := 423) (by decide +kernel) rfl
theorem m_424 : Cond.selects y_DeviceSets_endBatch.cls y_DeviceSets_endBatch y_DeviceSets_endBatch ∈ sy_T := sy_mem (i := 424) (by decide +kernel) rfl
set_option maxRecDepth 100000 in
theorem m_425 : Cond.code y_DeviceSets_endBatch b_DeviceSets_endBatch 4 (some .boolean) ∈ sy_T := sy_mem (i := 425) rfl rfl
theorem m_426 : Cond.methodLink R_DeviceSets 178 y_ToldSet_takeWaiting ∈ sy_T := sy_mem (i := 426) (by decide +kernel) rfl
theorem m_427 : Cond.instanceMethod y_ToldSet_takeWaiting ∈ sy_T := sy_mem (i := 427) (by decide +kernel) rfl
theorem m_428 : Cond.selects y_ToldSet_takeWaiting.cls y_ToldSet_takeWaiting y_ToldSet_takeWaiting ∈ sy_T := sy_mem (i := 428) (by decide +kernel) rfl
set_option maxRecDepth 100000 in
theorem m_429 : Cond.code y_ToldSet_takeWaiting b_ToldSet_takeWaiting 1 none ∈ sy_T := sy_mem (i := 429) rfl rfl
theorem m_430 : Cond.methodLink R_ToldSet 33 y_Held_clear ∈ sy_T := sy_mem (i := 430) (by decide +kernel) rfl
theorem m_431 : Cond.instanceMethod y_Held_clear ∈ sy_T := sy_mem (i := 431) (by decide +kernel) rfl
theorem m_432 : Cond.selects y_Held_clear.cls y_Held_clear y_Held_clear ∈ sy_T := sy_mem (i := 432) (by decide +kernel) rfl
set_option maxRecDepth 100000 in
theorem m_433 : Cond.code y_Held_clear b_Held_clear 1 none ∈ sy_T := sy_mem (i := 433) rfl rfl
theorem m_434 : Cond.methodLink R_Law 87 y_DeviceSets_retain ∈ sy_T := sy_mem (i := 434) (by decide +kernel) rfl
theorem m_435 : Cond.instanceMethod y_DeviceSets_retain ∈ sy_T := sy_mem (i := 435) (by decide +kernel) rfl
theorem m_436 : Cond.selects y_DeviceSets_retain.cls y_DeviceSets_retain y_DeviceSets_retain ∈ sy_T := sy_mem (i := 436) (by decide +kernel) rfl
set_option maxRecDepth 100000 in
theorem m_437 : Cond.code y_DeviceSets_retain b_DeviceSets_retain 7 (some .int) ∈ sy_T := sy_mem (i := 437) rfl rfl
theorem m_438 : Cond.constantLong R_DeviceSets 181 (2000000) ∈ sy_T := sy_mem (i := 438) (by decide +kernel) rfl
theorem m_439 : Cond.methodLink R_DeviceSets 186 Lib.MathLoose.max_long.x ∈ sy_T := sy_mem (i := 439) (by decide +kernel) rfl
theorem m_440 : Cond.constantLong R_DeviceSets 192 (-1) ∈ sy_T := sy_mem (i := 440) (by decide +kernel) rfl
theorem m_441 : Cond.methodLink R_Law 92 y_DeviceSets_kept ∈ sy_T := sy_mem (i := 441) (by decide +kernel) rfl
theorem m_442 : Cond.instanceMethod y_DeviceSets_kept ∈ sy_T := sy_mem (i := 442) (by decide +kernel) rfl
theorem m_443 : Cond.selects y_DeviceSets_kept.cls y_DeviceSets_kept y_DeviceSets_kept ∈ sy_T := sy_mem (i := 443) (by decide +kernel) rfl
set_option maxRecDepth 100000 in
theorem m_444 : Cond.code y_DeviceSets_kept b_DeviceSets_kept 4 (some .long) ∈ sy_T := sy_mem (i := 444) rfl rfl
theorem m_445 : Cond.methodLink R_DeviceSets 194 y_Tellings_sumOfKind ∈ sy_T := sy_mem (i := 445) (by decide +kernel) rfl
theorem m_446 : Cond.instanceMethod y_Tellings_sumOfKind ∈ sy_T := sy_mem (i := 446) (by decide +kernel) rfl
theorem m_447 : Cond.selects y_Tellings_sumOfKind.cls y_Tellings_sumOfKind y_Tellings_sumOfKind ∈ sy_T := sy_mem (i := 447) (by decide +kernel) rfl
set_option maxRecDepth 100000 in
theorem m_448 : Cond.code y_Tellings_sumOfKind b_Tellings_sumOfKind 7 (some .long) ∈ sy_T := sy_mem (i := 448) rfl rfl
theorem m_449 : Cond.methodLink R_Law 97 y_DeviceSets_mark ∈ sy_T := sy_mem (i := 449) (by decide +kernel) rfl
theorem m_450 : Cond.instanceMethod y_DeviceSets_mark ∈ sy_T := sy_mem (i := 450) (by decide +kernel) rfl
theorem m_451 : Cond.selects y_DeviceSets_mark.cls y_DeviceSets_mark y_DeviceSets_mark ∈ sy_T := sy_mem (i := 451) (by decide +kernel) rfl
set_option maxRecDepth 100000 in
theorem m_452 : Cond.code y_DeviceSets_mark b_DeviceSets_mark 7 (some .boolean) ∈ sy_T := sy_mem (i := 452) rfl rfl
theorem m_453 : Cond.methodLink R_DeviceSets 202 y_Clock_addMark ∈ sy_T := sy_mem (i := 453) (by decide +kernel) rfl
theorem m_454 : Cond.instanceMethod y_Clock_addMark ∈ sy_T := sy_mem (i := 454) (by decide +kernel) rfl
theorem m_455 : Cond.selects y_Clock_addMark.cls y_Clock_addMark y_Clock_addMark ∈ sy_T := sy_mem (i := 455) (by decide +kernel) rfl
set_option maxRecDepth 100000 in
theorem m_456 : Cond.code y_Clock_addMark b_Clock_addMark 5 (some .boolean) ∈ sy_T := sy_mem (i := 456) rfl rfl
theorem m_457 : Cond.methodLink R_Law 102 y_DeviceSets_corrected ∈ sy_T := sy_mem (i := 457) (by decide +kernel) rfl
theorem m_458 : Cond.instanceMethod y_DeviceSets_corrected ∈ sy_T := sy_mem (i := 458) (by decide +kernel) rfl
theorem m_459 : Cond.selects y_DeviceSets_corrected.cls y_DeviceSets_corrected y_DeviceSets_corrected ∈ sy_T := sy_mem (i := 459) (by decide +kernel) rfl
set_option maxRecDepth 100000 in
theorem m_460 : Cond.code y_DeviceSets_corrected b_DeviceSets_corrected 12 (some .long) ∈ sy_T := sy_mem (i := 460) rfl rfl
theorem m_461 : Cond.methodLink R_DeviceSets 208 y_Clock_numerator ∈ sy_T := sy_mem (i := 461) (by decide +kernel) rfl
theorem m_462 : Cond.instanceMethod y_Clock_numerator ∈ sy_T := sy_mem (i := 462) (by decide +kernel) rfl
theorem m_463 : Cond.selects y_Clock_numerator.cls y_Clock_numerator y_Clock_numerator ∈ sy_T := sy_mem (i := 463) (by decide +kernel) rfl
set_option maxRecDepth 100000 in
theorem m_464 : Cond.code y_Clock_numerator b_Clock_numerator 8 (some .long) ∈ sy_T := sy_mem (i := 464) rfl rfl
theorem m_465 : Cond.methodLink R_Clock 22 y_Clock_markBefore ∈ sy_T := sy_mem (i := 465) (by decide +kernel) rfl
theorem m_467 : Cond.instanceMethod y_Clock_markBefore ∈ sy_T := sy_mem (i := 467) (by decide +kernel) rfl
set_option maxRecDepth 100000 in
theorem m_468 : Cond.code y_Clock_markBefore b_Clock_markBefore 5 (some .int) ∈ sy_T := sy_mem (i := 468) rfl rfl
theorem m_469 : Cond.methodLink R_Clock 26 y_Clock_isBetween ∈ sy_T := sy_mem (i := 469) (by decide +kernel) rfl
theorem m_471 : Cond.instanceMethod y_Clock_isBetween ∈ sy_T := sy_mem (i := 471) (by decide +kernel) rfl
set_option maxRecDepth 100000 in
theorem m_472 : Cond.code y_Clock_isBetween b_Clock_isBetween 2 (some .boolean) ∈ sy_T := sy_mem (i := 472) rfl rfl
theorem m_473 : Cond.methodLink R_Clock 30 Lib.Math.max.name ∈ sy_T := sy_mem (i := 473) (by decide +kernel) rfl
theorem m_474 : Cond.static Lib.Math.max.name ∈ sy_T := sy_mem (i := 474) (by decide +kernel) rfl
set_option maxRecDepth 100000 in
theorem m_475 : Cond.code Lib.Math.max.name Lib.Math.max.code 2 (some .int) ∈ sy_T := sy_mem (i := 475) rfl rfl
theorem m_476 : Cond.methodLink R_DeviceSets 212 y_Clock_denominator ∈ sy_T := sy_mem (i := 476) (by decide +kernel) rfl
theorem m_477 : Cond.instanceMethod y_Clock_denominator ∈ sy_T := sy_mem (i := 477) (by decide +kernel) rfl
theorem m_478 : Cond.selects y_Clock_denominator.cls y_Clock_denominator y_Clock_denominator ∈ sy_T := sy_mem (i := 478) (by decide +kernel) rfl
set_option maxRecDepth 100000 in
theorem m_479 : Cond.code y_Clock_denominator b_Clock_denominator 4 (some .long) ∈ sy_T := sy_mem (i := 479) rfl rfl
theorem m_480 : Cond.methodLink R_DeviceSets 215 Lib.MathLoose.abs_long.x ∈ sy_T := sy_mem (i := 480) (by decide +kernel) rfl
theorem m_481 : Cond.static Lib.MathLoose.abs_long.x ∈ sy_T := sy_mem (i := 481) (by decide +kernel) rfl
set_option maxRecDepth 100000 in
theorem m_482 : Cond.code Lib.MathLoose.abs_long.x Lib.MathLoose.abs_long.code 2 (some .long) ∈ sy_T := sy_mem (i := 482) rfl rfl
theorem m_483 : Cond.methodLink R_DeviceSets 218 y_DeviceSets_commonDivisor ∈ sy_T := sy_mem (i := 483) (by decide +kernel) rfl
theorem m_484 : Cond.static y_DeviceSets_commonDivisor ∈ sy_T := sy_mem (i := 484) (by decide +kernel) rfl
set_option maxRecDepth 100000 in
theorem m_485 : Cond.code y_DeviceSets_commonDivisor b_DeviceSets_commonDivisor 11 (some .long) ∈ sy_T := sy_mem (i := 485) rfl rfl
theorem m_486 : Cond.methodLink R_Law 107 y_DeviceSets_play ∈ sy_T := sy_mem (i := 486) (by decide +kernel) rfl
theorem m_487 : Cond.instanceMethod y_DeviceSets_play ∈ sy_T := sy_mem (i := 487) (by decide +kernel) rfl
theorem m_488 : Cond.selects y_DeviceSets_play.cls y_DeviceSets_play y_DeviceSets_play ∈ sy_T := sy_mem (i := 488) (by decide +kernel) rfl
set_option maxRecDepth 100000 in
theorem m_489 : Cond.code y_DeviceSets_play b_DeviceSets_play 10 (some .int) ∈ sy_T := sy_mem (i := 489) rfl rfl
theorem m_490 : Cond.methodLink R_DeviceSets 221 y_DeviceSets_nextDraw ∈ sy_T := sy_mem (i := 490) (by decide +kernel) rfl
theorem m_491 : Cond.static y_DeviceSets_nextDraw ∈ sy_T := sy_mem (i := 491) (by decide +kernel) rfl
set_option maxRecDepth 100000 in
theorem m_492 : Cond.code y_DeviceSets_nextDraw b_DeviceSets_nextDraw 2 (some .long) ∈ sy_T := sy_mem (i := 492) rfl rfl
theorem m_493 : Cond.constantLong R_DeviceSets 243 (6364136223846793005) ∈ sy_T := sy_mem (i := 493) (by decide +kernel) rfl
theorem m_494 : Cond.constantLong R_DeviceSets 245 (1442695040888963407) ∈ sy_T := sy_mem (i := 494) (by decide +kernel) rfl
theorem m_495 : Cond.methodLink R_DeviceSets 224 y_DeviceSets_joinChanges ∈ sy_T := sy_mem (i := 495) (by decide +kernel) rfl
theorem m_497 : Cond.instanceMethod y_DeviceSets_joinChanges ∈ sy_T := sy_mem (i := 497) (by decide +kernel) rfl
set_option maxRecDepth 100000 in
theorem m_498 : Cond.code y_DeviceSets_joinChanges b_DeviceSets_joinChanges 5 (some .boolean) ∈ sy_T := sy_mem (i := 498) rfl rfl
theorem m_499 : Cond.classLink R_Law 10 R_Model ∈ sy_T := sy_mem (i := 499) (by decide +kernel) rfl
theorem m_500 : Cond.instantiable R_Model 23 ∈ sy_T := sy_mem (i := 500) (by decide +kernel) rfl
theorem m_501 : Cond.methodLink R_Law 12 y_Model_init ∈ sy_T := sy_mem (i := 501) (by decide +kernel) rfl
theorem m_502 : Cond.instanceMethod y_Model_init ∈ sy_T := sy_mem (i := 502) (by decide +kernel) rfl
set_option maxRecDepth 100000 in
theorem m_503 : Cond.code y_Model_init b_Model_init 2 none ∈ sy_T := sy_mem (i := 503) rfl rfl
theorem m_504 : Cond.methodLink R_Model 1 objectInit ∈ sy_T := sy_mem (i := 504) (by decide +kernel) rfl
theorem m_505 : Cond.fieldLink R_Model 66 R_Model "devices" "I" ∈ sy_T := sy_mem (i := 505) (by decide +kernel) rfl
theorem m_506 : Cond.fieldLink R_Model 7 R_Model "lives" "[I" ∈ sy_T := sy_mem (i := 506) (by decide +kernel) rfl
theorem m_507 : Cond.fieldLink R_Model 13 R_Model "begins" "[J" ∈ sy_T := sy_mem (i := 507) (by decide +kernel) rfl
theorem m_508 : Cond.fieldLink R_Model 89 R_Model "tellings" "I" ∈ sy_T := sy_mem (i := 508) (by decide +kernel) rfl
theorem m_509 : Cond.fieldLink R_Model 17 R_Model "device" "[I" ∈ sy_T := sy_mem (i := 509) (by decide +kernel) rfl
theorem m_510 : Cond.fieldLink R_Model 20 R_Model "life" "[I" ∈ sy_T := sy_mem (i := 510) (by decide +kernel) rfl
theorem m_511 : Cond.fieldLink R_Model 23 R_Model "number" "[I" ∈ sy_T := sy_mem (i := 511) (by decide +kernel) rfl
theorem m_512 : Cond.fieldLink R_Model 26 R_Model "kind" "[I" ∈ sy_T := sy_mem (i := 512) (by decide +kernel) rfl
theorem m_513 : Cond.fieldLink R_Model 29 R_Model "second" "[I" ∈ sy_T := sy_mem (i := 513) (by decide +kernel) rfl
theorem m_514 : Cond.fieldLink R_Model 32 R_Model "value" "[J" ∈ sy_T := sy_mem (i := 514) (by decide +kernel) rfl
theorem m_515 : Cond.fieldLink R_Model 35 R_Model "on" "[I" ∈ sy_T := sy_mem (i := 515) (by decide +kernel) rfl
theorem m_516 : Cond.fieldLink R_Model 106 R_Model "corrections" "I" ∈ sy_T := sy_mem (i := 516) (by decide +kernel) rfl
theorem m_517 : Cond.fieldLink R_Model 38 R_Model "fixes" "[J" ∈ sy_T := sy_mem (i := 517) (by decide +kernel) rfl
theorem m_518 : Cond.fieldLink R_Model 70 R_Model "sets" "I" ∈ sy_T := sy_mem (i := 518) (by decide +kernel) rfl
theorem m_519 : Cond.fieldLink R_Model 139 R_Model "batches" "I" ∈ sy_T := sy_mem (i := 519) (by decide +kernel) rfl
theorem m_520 : Cond.fieldLink R_Model 41 R_Model "has" "[Z" ∈ sy_T := sy_mem (i := 520) (by decide +kernel) rfl
theorem m_521 : Cond.fieldLink R_Model 45 R_Model "chosen" "[Z" ∈ sy_T := sy_mem (i := 521) (by decide +kernel) rfl
theorem m_522 : Cond.fieldLink R_Model 48 R_Model "fixed" "[Z" ∈ sy_T := sy_mem (i := 522) (by decide +kernel) rfl
theorem m_523 : Cond.fieldLink R_Model 51 R_Model "bounds" "[J" ∈ sy_T := sy_mem (i := 523) (by decide +kernel) rfl
theorem m_524 : Cond.fieldLink R_Model 54 R_Model "open" "[I" ∈ sy_T := sy_mem (i := 524) (by decide +kernel) rfl
theorem m_525 : Cond.fieldLink R_Model 57 R_Model "marks" "[I" ∈ sy_T := sy_mem (i := 525) (by decide +kernel) rfl
theorem m_526 : Cond.fieldLink R_Model 60 R_Model "markSecond" "[I" ∈ sy_T := sy_mem (i := 526) (by decide +kernel) rfl
theorem m_527 : Cond.fieldLink R_Model 63 R_Model "markTrue" "[I" ∈ sy_T := sy_mem (i := 527) (by decide +kernel) rfl
theorem m_576 : Cond.methodLink R_Law 17 y_Model_device ∈ sy_T := sy_mem (i := 576) (by decide +kernel) rfl
theorem m_577 : Cond.instanceMethod y_Model_device ∈ sy_T := sy_mem (i := 577) (by decide +kernel) rfl
theorem m_578 : Cond.selects y_Model_device.cls y_Model_device y_Model_device ∈ sy_T := sy_mem (i := 578) (by decide +kernel) rfl
set_option maxRecDepth 100000 in
theorem m_579 : Cond.code y_Model_device b_Model_device 1 (some .int) ∈ sy_T := sy_mem (i := 579) rfl rfl
theorem m_580 : Cond.methodLink R_Law 24 y_Model_tell ∈ sy_T := sy_mem (i := 580) (by decide +kernel) rfl
theorem m_581 : Cond.instanceMethod y_Model_tell ∈ sy_T := sy_mem (i := 581) (by decide +kernel) rfl
theorem m_582 : Cond.selects y_Model_tell.cls y_Model_tell y_Model_tell ∈ sy_T := sy_mem (i := 582) (by decide +kernel) rfl
set_option maxRecDepth 100000 in
theorem m_583 : Cond.code y_Model_tell b_Model_tell 12 (some .int) ∈ sy_T := sy_mem (i := 583) rfl rfl
theorem m_584 : Cond.methodLink R_Model 73 y_Model_isDevice ∈ sy_T := sy_mem (i := 584) (by decide +kernel) rfl
theorem m_586 : Cond.instanceMethod y_Model_isDevice ∈ sy_T := sy_mem (i := 586) (by decide +kernel) rfl
set_option maxRecDepth 100000 in
theorem m_587 : Cond.code y_Model_isDevice b_Model_isDevice 2 (some .boolean) ∈ sy_T := sy_mem (i := 587) rfl rfl
theorem m_588 : Cond.constantLong R_Model 77 (1000000) ∈ sy_T := sy_mem (i := 588) (by decide +kernel) rfl
theorem m_589 : Cond.methodLink R_Model 79 y_Model_isIn ∈ sy_T := sy_mem (i := 589) (by decide +kernel) rfl
theorem m_590 : Cond.static y_Model_isIn ∈ sy_T := sy_mem (i := 590) (by decide +kernel) rfl
set_option maxRecDepth 100000 in
theorem m_591 : Cond.code y_Model_isIn b_Model_isIn 6 (some .boolean) ∈ sy_T := sy_mem (i := 591) rfl rfl
theorem m_592 : Cond.constantLong R_Model 83 (3) ∈ sy_T := sy_mem (i := 592) (by decide +kernel) rfl
theorem m_593 : Cond.constantLong R_Model 85 (-1000000000) ∈ sy_T := sy_mem (i := 593) (by decide +kernel) rfl
theorem m_594 : Cond.constantLong R_Model 87 (1000000000) ∈ sy_T := sy_mem (i := 594) (by decide +kernel) rfl
theorem m_595 : Cond.methodLink R_Law 29 y_Model_reset ∈ sy_T := sy_mem (i := 595) (by decide +kernel) rfl
theorem m_596 : Cond.instanceMethod y_Model_reset ∈ sy_T := sy_mem (i := 596) (by decide +kernel) rfl
theorem m_597 : Cond.selects y_Model_reset.cls y_Model_reset y_Model_reset ∈ sy_T := sy_mem (i := 597) (by decide +kernel) rfl
set_option maxRecDepth 100000 in
theorem m_598 : Cond.code y_Model_reset b_Model_reset 4 (some .boolean) ∈ sy_T := sy_mem (i := 598) rfl rfl
theorem m_599 : Cond.methodLink R_Law 34 y_Model_life ∈ sy_T := sy_mem (i := 599) (by decide +kernel) rfl
theorem m_600 : Cond.instanceMethod y_Model_life ∈ sy_T := sy_mem (i := 600) (by decide +kernel) rfl
theorem m_601 : Cond.selects y_Model_life.cls y_Model_life y_Model_life ∈ sy_T := sy_mem (i := 601) (by decide +kernel) rfl
set_option maxRecDepth 100000 in
theorem m_602 : Cond.code y_Model_life b_Model_life 2 (some .int) ∈ sy_T := sy_mem (i := 602) rfl rfl
theorem m_603 : Cond.methodLink R_Law 38 y_Model_set ∈ sy_T := sy_mem (i := 603) (by decide +kernel) rfl
theorem m_604 : Cond.instanceMethod y_Model_set ∈ sy_T := sy_mem (i := 604) (by decide +kernel) rfl
theorem m_605 : Cond.selects y_Model_set.cls y_Model_set y_Model_set ∈ sy_T := sy_mem (i := 605) (by decide +kernel) rfl
set_option maxRecDepth 100000 in
theorem m_606 : Cond.code y_Model_set b_Model_set 3 (some .int) ∈ sy_T := sy_mem (i := 606) rfl rfl
theorem m_607 : Cond.methodLink R_Law 43 y_Model_join ∈ sy_T := sy_mem (i := 607) (by decide +kernel) rfl
theorem m_608 : Cond.instanceMethod y_Model_join ∈ sy_T := sy_mem (i := 608) (by decide +kernel) rfl
theorem m_609 : Cond.selects y_Model_join.cls y_Model_join y_Model_join ∈ sy_T := sy_mem (i := 609) (by decide +kernel) rfl
set_option maxRecDepth 100000 in
theorem m_610 : Cond.code y_Model_join b_Model_join 4 (some .int) ∈ sy_T := sy_mem (i := 610) rfl rfl
theorem m_611 : Cond.methodLink R_Model 96 y_Model_isSet ∈ sy_T := sy_mem (i := 611) (by decide +kernel) rfl
theorem m_613 : Cond.instanceMethod y_Model_isSet ∈ sy_T := sy_mem (i := 613) (by decide +kernel) rfl
set_option maxRecDepth 100000 in
theorem m_614 : Cond.code y_Model_isSet b_Model_isSet 2 (some .boolean) ∈ sy_T := sy_mem (i := 614) rfl rfl
theorem m_615 : Cond.methodLink R_Model 99 y_Model_joinTo ∈ sy_T := sy_mem (i := 615) (by decide +kernel) rfl
theorem m_617 : Cond.instanceMethod y_Model_joinTo ∈ sy_T := sy_mem (i := 617) (by decide +kernel) rfl
set_option maxRecDepth 100000 in
theorem m_618 : Cond.code y_Model_joinTo b_Model_joinTo 3 (some .boolean) ∈ sy_T := sy_mem (i := 618) rfl rfl
theorem m_619 : Cond.methodLink R_Model 92 y_Model_bring ∈ sy_T := sy_mem (i := 619) (by decide +kernel) rfl
theorem m_621 : Cond.instanceMethod y_Model_bring ∈ sy_T := sy_mem (i := 621) (by decide +kernel) rfl
set_option maxRecDepth 100000 in
theorem m_622 : Cond.code y_Model_bring b_Model_bring 7 (some .boolean) ∈ sy_T := sy_mem (i := 622) rfl rfl
theorem m_623 : Cond.methodLink R_Model 102 y_Model_conflicts ∈ sy_T := sy_mem (i := 623) (by decide +kernel) rfl
theorem m_625 : Cond.instanceMethod y_Model_conflicts ∈ sy_T := sy_mem (i := 625) (by decide +kernel) rfl
set_option maxRecDepth 100000 in
theorem m_626 : Cond.code y_Model_conflicts b_Model_conflicts 4 (some .int) ∈ sy_T := sy_mem (i := 626) rfl rfl
theorem m_627 : Cond.methodLink R_Model 133 y_Model_isConflict ∈ sy_T := sy_mem (i := 627) (by decide +kernel) rfl
theorem m_629 : Cond.instanceMethod y_Model_isConflict ∈ sy_T := sy_mem (i := 629) (by decide +kernel) rfl
set_option maxRecDepth 100000 in
theorem m_630 : Cond.code y_Model_isConflict b_Model_isConflict 6 (some .boolean) ∈ sy_T := sy_mem (i := 630) rfl rfl
theorem m_631 : Cond.methodLink R_Model 109 y_Model_isHere ∈ sy_T := sy_mem (i := 631) (by decide +kernel) rfl
theorem m_633 : Cond.instanceMethod y_Model_isHere ∈ sy_T := sy_mem (i := 633) (by decide +kernel) rfl
set_option maxRecDepth 100000 in
theorem m_634 : Cond.code y_Model_isHere b_Model_isHere 3 (some .boolean) ∈ sy_T := sy_mem (i := 634) rfl rfl
theorem m_635 : Cond.methodLink R_Model 112 y_Model_isChosen ∈ sy_T := sy_mem (i := 635) (by decide +kernel) rfl
theorem m_637 : Cond.instanceMethod y_Model_isChosen ∈ sy_T := sy_mem (i := 637) (by decide +kernel) rfl
set_option maxRecDepth 100000 in
theorem m_638 : Cond.code y_Model_isChosen b_Model_isChosen 3 (some .boolean) ∈ sy_T := sy_mem (i := 638) rfl rfl
theorem m_639 : Cond.methodLink R_Model 115 y_Model_isSameKey ∈ sy_T := sy_mem (i := 639) (by decide +kernel) rfl
theorem m_641 : Cond.instanceMethod y_Model_isSameKey ∈ sy_T := sy_mem (i := 641) (by decide +kernel) rfl
set_option maxRecDepth 100000 in
theorem m_642 : Cond.code y_Model_isSameKey b_Model_isSameKey 3 (some .boolean) ∈ sy_T := sy_mem (i := 642) rfl rfl
theorem m_643 : Cond.methodLink R_Law 48 y_Model_correct ∈ sy_T := sy_mem (i := 643) (by decide +kernel) rfl
theorem m_644 : Cond.instanceMethod y_Model_correct ∈ sy_T := sy_mem (i := 644) (by decide +kernel) rfl
theorem m_645 : Cond.selects y_Model_correct.cls y_Model_correct y_Model_correct ∈ sy_T := sy_mem (i := 645) (by decide +kernel) rfl
set_option maxRecDepth 100000 in
theorem m_646 : Cond.code y_Model_correct b_Model_correct 11 (some .boolean) ∈ sy_T := sy_mem (i := 646) rfl rfl
theorem m_647 : Cond.methodLink R_Law 53 y_Model_last ∈ sy_T := sy_mem (i := 647) (by decide +kernel) rfl
theorem m_648 : Cond.instanceMethod y_Model_last ∈ sy_T := sy_mem (i := 648) (by decide +kernel) rfl
theorem m_649 : Cond.selects y_Model_last.cls y_Model_last y_Model_last ∈ sy_T := sy_mem (i := 649) (by decide +kernel) rfl
set_option maxRecDepth 100000 in
theorem m_650 : Cond.code y_Model_last b_Model_last 7 (some .long) ∈ sy_T := sy_mem (i := 650) rfl rfl
theorem m_651 : Cond.methodLink R_Model 121 y_Model_isSeen ∈ sy_T := sy_mem (i := 651) (by decide +kernel) rfl
theorem m_653 : Cond.instanceMethod y_Model_isSeen ∈ sy_T := sy_mem (i := 653) (by decide +kernel) rfl
set_option maxRecDepth 100000 in
theorem m_654 : Cond.code y_Model_isSeen b_Model_isSeen 6 (some .boolean) ∈ sy_T := sy_mem (i := 654) rfl rfl
theorem m_655 : Cond.methodLink R_Model 118 y_Model_isBefore ∈ sy_T := sy_mem (i := 655) (by decide +kernel) rfl
theorem m_657 : Cond.instanceMethod y_Model_isBefore ∈ sy_T := sy_mem (i := 657) (by decide +kernel) rfl
set_option maxRecDepth 100000 in
theorem m_658 : Cond.code y_Model_isBefore b_Model_isBefore 3 (some .boolean) ∈ sy_T := sy_mem (i := 658) rfl rfl
theorem m_659 : Cond.constantLong R_Model 124 (-9223372036854775808) ∈ sy_T := sy_mem (i := 659) (by decide +kernel) rfl
theorem m_660 : Cond.methodLink R_Law 58 y_Model_known ∈ sy_T := sy_mem (i := 660) (by decide +kernel) rfl
theorem m_661 : Cond.instanceMethod y_Model_known ∈ sy_T := sy_mem (i := 661) (by decide +kernel) rfl
theorem m_662 : Cond.selects y_Model_known.cls y_Model_known y_Model_known ∈ sy_T := sy_mem (i := 662) (by decide +kernel) rfl
set_option maxRecDepth 100000 in
theorem m_663 : Cond.code y_Model_known b_Model_known 13 (some .long) ∈ sy_T := sy_mem (i := 663) rfl rfl
theorem m_664 : Cond.methodLink R_Model 126 y_Model_isLater ∈ sy_T := sy_mem (i := 664) (by decide +kernel) rfl
theorem m_666 : Cond.instanceMethod y_Model_isLater ∈ sy_T := sy_mem (i := 666) (by decide +kernel) rfl
set_option maxRecDepth 100000 in
theorem m_667 : Cond.code y_Model_isLater b_Model_isLater 3 (some .boolean) ∈ sy_T := sy_mem (i := 667) rfl rfl
theorem m_668 : Cond.methodLink R_Law 63 y_Model_gap ∈ sy_T := sy_mem (i := 668) (by decide +kernel) rfl
theorem m_669 : Cond.instanceMethod y_Model_gap ∈ sy_T := sy_mem (i := 669) (by decide +kernel) rfl
theorem m_670 : Cond.selects y_Model_gap.cls y_Model_gap y_Model_gap ∈ sy_T := sy_mem (i := 670) (by decide +kernel) rfl
set_option maxRecDepth 100000 in
theorem m_671 : Cond.code y_Model_gap b_Model_gap 9 (some .int) ∈ sy_T := sy_mem (i := 671) rfl rfl
theorem m_672 : Cond.methodLink R_Model 129 y_Model_nextNumber ∈ sy_T := sy_mem (i := 672) (by decide +kernel) rfl
theorem m_674 : Cond.instanceMethod y_Model_nextNumber ∈ sy_T := sy_mem (i := 674) (by decide +kernel) rfl
set_option maxRecDepth 100000 in
theorem m_675 : Cond.code y_Model_nextNumber b_Model_nextNumber 8 (some .int) ∈ sy_T := sy_mem (i := 675) rfl rfl
theorem m_676 : Cond.methodLink R_Law 67 y_Model_conflict ∈ sy_T := sy_mem (i := 676) (by decide +kernel) rfl
theorem m_677 : Cond.instanceMethod y_Model_conflict ∈ sy_T := sy_mem (i := 677) (by decide +kernel) rfl
theorem m_678 : Cond.selects y_Model_conflict.cls y_Model_conflict y_Model_conflict ∈ sy_T := sy_mem (i := 678) (by decide +kernel) rfl
set_option maxRecDepth 100000 in
theorem m_679 : Cond.code y_Model_conflict b_Model_conflict 7 (some .int) ∈ sy_T := sy_mem (i := 679) rfl rfl
theorem m_680 : Cond.methodLink R_Model 136 y_Model_isKeyBefore ∈ sy_T := sy_mem (i := 680) (by decide +kernel) rfl
theorem m_682 : Cond.instanceMethod y_Model_isKeyBefore ∈ sy_T := sy_mem (i := 682) (by decide +kernel) rfl
set_option maxRecDepth 100000 in
theorem m_683 : Cond.code y_Model_isKeyBefore b_Model_isKeyBefore 3 (some .boolean) ∈ sy_T := sy_mem (i := 683) rfl rfl
theorem m_684 : Cond.methodLink R_Law 72 y_Model_settle ∈ sy_T := sy_mem (i := 684) (by decide +kernel) rfl
theorem m_685 : Cond.instanceMethod y_Model_settle ∈ sy_T := sy_mem (i := 685) (by decide +kernel) rfl
theorem m_686 : Cond.selects y_Model_settle.cls y_Model_settle y_Model_settle ∈ sy_T := sy_mem (i := 686) (by decide +kernel) rfl
set_option maxRecDepth 100000 in
theorem m_687 : Cond.code y_Model_settle b_Model_settle 9 (some .int) ∈ sy_T := sy_mem (i := 687) rfl rfl
theorem m_688 : Cond.methodLink R_Law 77 y_Model_equal ∈ sy_T := sy_mem (i := 688) (by decide +kernel) rfl
theorem m_689 : Cond.instanceMethod y_Model_equal ∈ sy_T := sy_mem (i := 689) (by decide +kernel) rfl
theorem m_690 : Cond.selects y_Model_equal.cls y_Model_equal y_Model_equal ∈ sy_T := sy_mem (i := 690) (by decide +kernel) rfl
set_option maxRecDepth 100000 in
theorem m_691 : Cond.code y_Model_equal b_Model_equal 7 (some .boolean) ∈ sy_T := sy_mem (i := 691) rfl rfl
theorem m_692 : Cond.methodLink R_Law 81 y_Model_batch ∈ sy_T := sy_mem (i := 692) (by decide +kernel) rfl
theorem m_693 : Cond.instanceMethod y_Model_batch ∈ sy_T := sy_mem (i := 693) (by decide +kernel) rfl
theorem m_694 : Cond.selects y_Model_batch.cls y_Model_batch y_Model_batch ∈ sy_T := sy_mem (i := 694) (by decide +kernel) rfl
set_option maxRecDepth 100000 in
theorem m_695 : Cond.code y_Model_batch b_Model_batch 4 (some .int) ∈ sy_T := sy_mem (i := 695) rfl rfl
theorem m_696 : Cond.methodLink R_Law 86 y_Model_endBatch ∈ sy_T := sy_mem (i := 696) (by decide +kernel) rfl
theorem m_697 : Cond.instanceMethod y_Model_endBatch ∈ sy_T := sy_mem (i := 697) (by decide +kernel) rfl
theorem m_698 : Cond.selects y_Model_endBatch.cls y_Model_endBatch y_Model_endBatch ∈ sy_T := sy_mem (i := 698) (by decide +kernel) rfl
set_option maxRecDepth 100000 in
theorem m_699 : Cond.code y_Model_endBatch b_Model_endBatch 4 (some .boolean) ∈ sy_T := sy_mem (i := 699) rfl rfl
theorem m_700 : Cond.methodLink R_Law 91 y_Model_retain ∈ sy_T := sy_mem (i := 700) (by decide +kernel) rfl
theorem m_701 : Cond.instanceMethod y_Model_retain ∈ sy_T := sy_mem (i := 701) (by decide +kernel) rfl
theorem m_702 : Cond.selects y_Model_retain.cls y_Model_retain y_Model_retain ∈ sy_T := sy_mem (i := 702) (by decide +kernel) rfl
set_option maxRecDepth 100000 in
theorem m_703 : Cond.code y_Model_retain b_Model_retain 6 (some .int) ∈ sy_T := sy_mem (i := 703) rfl rfl
theorem m_704 : Cond.constantLong R_Model 142 (2000000) ∈ sy_T := sy_mem (i := 704) (by decide +kernel) rfl
theorem m_705 : Cond.methodLink R_Law 96 y_Model_kept ∈ sy_T := sy_mem (i := 705) (by decide +kernel) rfl
theorem m_706 : Cond.instanceMethod y_Model_kept ∈ sy_T := sy_mem (i := 706) (by decide +kernel) rfl
theorem m_707 : Cond.selects y_Model_kept.cls y_Model_kept y_Model_kept ∈ sy_T := sy_mem (i := 707) (by decide +kernel) rfl
set_option maxRecDepth 100000 in
theorem m_708 : Cond.code y_Model_kept b_Model_kept 6 (some .long) ∈ sy_T := sy_mem (i := 708) rfl rfl
theorem m_709 : Cond.methodLink R_Law 101 y_Model_mark ∈ sy_T := sy_mem (i := 709) (by decide +kernel) rfl
theorem m_710 : Cond.instanceMethod y_Model_mark ∈ sy_T := sy_mem (i := 710) (by decide +kernel) rfl
theorem m_711 : Cond.selects y_Model_mark.cls y_Model_mark y_Model_mark ∈ sy_T := sy_mem (i := 711) (by decide +kernel) rfl
set_option maxRecDepth 100000 in
theorem m_712 : Cond.code y_Model_mark b_Model_mark 7 (some .boolean) ∈ sy_T := sy_mem (i := 712) rfl rfl
theorem m_713 : Cond.methodLink R_Law 106 y_Model_corrected ∈ sy_T := sy_mem (i := 713) (by decide +kernel) rfl
theorem m_714 : Cond.instanceMethod y_Model_corrected ∈ sy_T := sy_mem (i := 714) (by decide +kernel) rfl
theorem m_715 : Cond.selects y_Model_corrected.cls y_Model_corrected y_Model_corrected ∈ sy_T := sy_mem (i := 715) (by decide +kernel) rfl
set_option maxRecDepth 100000 in
theorem m_716 : Cond.code y_Model_corrected b_Model_corrected 13 (some .long) ∈ sy_T := sy_mem (i := 716) rfl rfl
theorem m_717 : Cond.methodLink R_Model 144 y_Model_common ∈ sy_T := sy_mem (i := 717) (by decide +kernel) rfl
theorem m_718 : Cond.static y_Model_common ∈ sy_T := sy_mem (i := 718) (by decide +kernel) rfl
set_option maxRecDepth 100000 in
theorem m_719 : Cond.code y_Model_common b_Model_common 10 (some .long) ∈ sy_T := sy_mem (i := 719) rfl rfl
theorem m_720 : Cond.methodLink R_Law 111 y_Model_play ∈ sy_T := sy_mem (i := 720) (by decide +kernel) rfl
theorem m_721 : Cond.instanceMethod y_Model_play ∈ sy_T := sy_mem (i := 721) (by decide +kernel) rfl
theorem m_722 : Cond.selects y_Model_play.cls y_Model_play y_Model_play ∈ sy_T := sy_mem (i := 722) (by decide +kernel) rfl
set_option maxRecDepth 100000 in
theorem m_723 : Cond.code y_Model_play b_Model_play 10 (some .int) ∈ sy_T := sy_mem (i := 723) rfl rfl
theorem m_724 : Cond.constantLong R_Model 148 (6364136223846793005) ∈ sy_T := sy_mem (i := 724) (by decide +kernel) rfl
theorem m_725 : Cond.constantLong R_Model 150 (1442695040888963407) ∈ sy_T := sy_mem (i := 725) (by decide +kernel) rfl
theorem m_726 : Cond.constantLong R_Law 18 (4294967295) ∈ sy_T := sy_mem (i := 726) (by decide +kernel) rfl
theorem i0_DeviceSets : ∀ w ∈ w_DeviceSets, w ∈ lw_tbl := by decide +kernel
theorem i1_DeviceSets : ∀ w ∈ w_DeviceSets, goodWord w = true := by decide +kernel
theorem i_DeviceSets : ∀ w ∈ w_DeviceSets, w ∈ sy_T := fun w h => List.mem_filter.mpr ⟨i0_DeviceSets w h, i1_DeviceSets w h⟩
theorem i0_Device : ∀ w ∈ w_Device, w ∈ lw_tbl := by decide +kernel
theorem i1_Device : ∀ w ∈ w_Device, goodWord w = true := by decide +kernel
theorem i_Device : ∀ w ∈ w_Device, w ∈ sy_T := fun w h => List.mem_filter.mpr ⟨i0_Device w h, i1_Device w h⟩
theorem i0_Clock : ∀ w ∈ w_Clock, w ∈ lw_tbl := by decide +kernel
theorem i1_Clock : ∀ w ∈ w_Clock, goodWord w = true := by decide +kernel
theorem i_Clock : ∀ w ∈ w_Clock, w ∈ sy_T := fun w h => List.mem_filter.mpr ⟨i0_Clock w h, i1_Clock w h⟩
theorem i0_Held : ∀ w ∈ w_Held, w ∈ lw_tbl := by decide +kernel
theorem i1_Held : ∀ w ∈ w_Held, goodWord w = true := by decide +kernel
theorem i_Held : ∀ w ∈ w_Held, w ∈ sy_T := fun w h => List.mem_filter.mpr ⟨i0_Held w h, i1_Held w h⟩
theorem i0_ToldSet : ∀ w ∈ w_ToldSet, w ∈ lw_tbl := by decide +kernel
theorem i1_ToldSet : ∀ w ∈ w_ToldSet, goodWord w = true := by decide +kernel
theorem i_ToldSet : ∀ w ∈ w_ToldSet, w ∈ sy_T := fun w h => List.mem_filter.mpr ⟨i0_ToldSet w h, i1_ToldSet w h⟩
theorem i0_Tellings : ∀ w ∈ w_Tellings, w ∈ lw_tbl := by decide +kernel
theorem i1_Tellings : ∀ w ∈ w_Tellings, goodWord w = true := by decide +kernel
theorem i_Tellings : ∀ w ∈ w_Tellings, w ∈ sy_T := fun w h => List.mem_filter.mpr ⟨i0_Tellings w h, i1_Tellings w h⟩
theorem i0_Corrections : ∀ w ∈ w_Corrections, w ∈ lw_tbl := by decide +kernel
theorem i1_Corrections : ∀ w ∈ w_Corrections, goodWord w = true := by decide +kernel
theorem i_Corrections : ∀ w ∈ w_Corrections, w ∈ sy_T := fun w h => List.mem_filter.mpr ⟨i0_Corrections w h, i1_Corrections w h⟩
theorem i0_Model : ∀ w ∈ w_Model, w ∈ lw_tbl := by decide +kernel
theorem i1_Model : ∀ w ∈ w_Model, goodWord w = true := by decide +kernel
theorem i_Model : ∀ w ∈ w_Model, w ∈ sy_T := fun w h => List.mem_filter.mpr ⟨i0_Model w h, i1_Model w h⟩
theorem cl_DeviceSets_23 : sy_LIN R_DeviceSets 23 y_Tellings_init R_DeviceSets b_Tellings_init 1 := ⟨m_56, m_54, m_55, m_31⟩
theorem cl_DeviceSets_30 : sy_LIN R_DeviceSets 30 y_Corrections_init R_DeviceSets b_Corrections_init 1 := ⟨m_91, m_89, m_90, m_32⟩
theorem cl_DeviceSets_39 : sy_LIN R_DeviceSets 39 y_Device_init R_DeviceSets b_Device_init 1 := ⟨m_142, m_140, m_141, m_34⟩
theorem cl_DeviceSets_40 : sy_LV R_DeviceSets 40 y_DeviceSets_deviceAt b_DeviceSets_deviceAt 2 (some (.object "DeviceSets$Device")) := ⟨m_178, m_175, m_177, m_0, m_30⟩
theorem cl_DeviceSets_44 : sy_LS R_DeviceSets 44 y_DeviceSets_isNumber b_DeviceSets_isNumber 2 (some .boolean) := ⟨m_181, m_179, m_180, m_30⟩
theorem cl_DeviceSets_52 : sy_LS R_DeviceSets 52 y_DeviceSets_isKind b_DeviceSets_isKind 1 (some .boolean) := ⟨m_185, m_183, m_184, m_30⟩
theorem cl_DeviceSets_56 : sy_LS R_DeviceSets 56 y_DeviceSets_isValue b_DeviceSets_isValue 2 (some .boolean) := ⟨m_188, m_186, m_187, m_30⟩
theorem cl_DeviceSets_62 : sy_LV R_DeviceSets 62 y_Tellings_has b_Tellings_has 10 (some .boolean) := ⟨m_194, m_191, m_192, m_193, m_31⟩
theorem cl_DeviceSets_66 : sy_LV R_DeviceSets 66 y_Tellings_add b_Tellings_add 11 (some .boolean) := ⟨m_198, m_195, m_196, m_197, m_31⟩
theorem cl_DeviceSets_73 : sy_LV R_DeviceSets 73 y_Tellings_ofDevice b_Tellings_ofDevice 5 (some .long) := ⟨m_215, m_212, m_213, m_214, m_31⟩
theorem cl_DeviceSets_77 : sy_LI R_DeviceSets 77 y_ToldSet_init b_ToldSet_init 3 := ⟨m_221, m_219, m_220, m_36⟩
theorem cl_DeviceSets_80 : sy_LV R_DeviceSets 80 y_DeviceSets_setAt b_DeviceSets_setAt 2 (some (.object "DeviceSets$ToldSet")) := ⟨m_266, m_263, m_265, m_1, m_30⟩
theorem cl_DeviceSets_84 : sy_LV R_DeviceSets 84 y_ToldSet_bring b_ToldSet_bring 2 (some .boolean) := ⟨m_270, m_267, m_268, m_269, m_36⟩
theorem cl_DeviceSets_92 : sy_LV R_DeviceSets 92 y_DeviceSets_conflictsIn b_DeviceSets_conflictsIn 2 (some .long) := ⟨m_282, m_279, m_281, m_2, m_30⟩
theorem cl_DeviceSets_96 : sy_LS R_DeviceSets 96 y_Long_bitCount b_Long_bitCount 2 (some .int) := ⟨m_306, m_304, m_305, m_39⟩
theorem cl_DeviceSets_102 : sy_LV R_DeviceSets 102 y_Corrections_findOrAdd b_Corrections_findOrAdd 10 (some .int) := ⟨m_317, m_314, m_315, m_316, m_32⟩
theorem cl_DeviceSets_110 : sy_LS R_DeviceSets 110 y_DeviceSets_bit b_DeviceSets_bit 1 (some .long) := ⟨m_218, m_294, m_217, m_30⟩
theorem cl_DeviceSets_115 : sy_LV R_DeviceSets 115 y_DeviceSets_seenIn b_DeviceSets_seenIn 4 (some .long) := ⟨m_330, m_327, m_329, m_5, m_30⟩
theorem cl_DeviceSets_119 : sy_LV R_DeviceSets 119 y_Tellings_latestNumbered b_Tellings_latestNumbered 5 (some .int) := ⟨m_350, m_347, m_348, m_349, m_31⟩
theorem cl_DeviceSets_126 : sy_LV R_DeviceSets 126 y_Tellings_latestKnown b_Tellings_latestKnown 9 (some .int) := ⟨m_358, m_355, m_356, m_357, m_31⟩
theorem cl_DeviceSets_133 : sy_LV R_DeviceSets 133 y_Corrections_latest b_Corrections_latest 11 (some .int) := ⟨m_366, m_363, m_364, m_365, m_32⟩
theorem cl_DeviceSets_140 : sy_LV R_DeviceSets 140 y_Tellings_missingNumber b_Tellings_missingNumber 11 (some .int) := ⟨m_379, m_376, m_377, m_378, m_31⟩
theorem cl_DeviceSets_144 : sy_LV R_DeviceSets 144 y_Tellings_inPlace b_Tellings_inPlace 5 (some .int) := ⟨m_395, m_392, m_393, m_394, m_31⟩
theorem cl_DeviceSets_147 : sy_LV R_DeviceSets 147 y_Tellings_keyPart b_Tellings_keyPart 3 (some .int) := ⟨m_403, m_400, m_401, m_402, m_31⟩
theorem cl_DeviceSets_151 : sy_LV R_DeviceSets 151 y_Tellings_ofKind b_Tellings_ofKind 6 (some .long) := ⟨m_334, m_331, m_332, m_333, m_31⟩
theorem cl_DeviceSets_155 : sy_LV R_DeviceSets 155 y_Tellings_first b_Tellings_first 5 (some .int) := ⟨m_342, m_408, m_340, m_341, m_31⟩
theorem cl_DeviceSets_158 : sy_LV R_DeviceSets 158 y_DeviceSets_liveIn b_DeviceSets_liveIn 2 (some .long) := ⟨m_286, m_283, m_285, m_3, m_30⟩
theorem cl_DeviceSets_161 : sy_LV R_DeviceSets 161 y_Tellings_ofKeyOf b_Tellings_ofKeyOf 7 (some .long) := ⟨m_302, m_409, m_300, m_301, m_31⟩
theorem cl_DeviceSets_168 : sy_LV R_DeviceSets 168 y_Held_isLike b_Held_isLike 2 (some .boolean) := ⟨m_417, m_414, m_415, m_416, m_37⟩
theorem cl_DeviceSets_178 : sy_LV R_DeviceSets 178 y_ToldSet_takeWaiting b_ToldSet_takeWaiting 1 none := ⟨m_429, m_426, m_427, m_428, m_36⟩
theorem cl_DeviceSets_194 : sy_LV R_DeviceSets 194 y_Tellings_sumOfKind b_Tellings_sumOfKind 7 (some .long) := ⟨m_448, m_445, m_446, m_447, m_31⟩
theorem cl_DeviceSets_202 : sy_LV R_DeviceSets 202 y_Clock_addMark b_Clock_addMark 5 (some .boolean) := ⟨m_456, m_453, m_454, m_455, m_35⟩
theorem cl_DeviceSets_208 : sy_LV R_DeviceSets 208 y_Clock_numerator b_Clock_numerator 8 (some .long) := ⟨m_464, m_461, m_462, m_463, m_35⟩
theorem cl_DeviceSets_212 : sy_LV R_DeviceSets 212 y_Clock_denominator b_Clock_denominator 4 (some .long) := ⟨m_479, m_476, m_477, m_478, m_35⟩
theorem cl_DeviceSets_218 : sy_LS R_DeviceSets 218 y_DeviceSets_commonDivisor b_DeviceSets_commonDivisor 11 (some .long) := ⟨m_485, m_483, m_484, m_30⟩
theorem cl_DeviceSets_221 : sy_LS R_DeviceSets 221 y_DeviceSets_nextDraw b_DeviceSets_nextDraw 2 (some .long) := ⟨m_492, m_490, m_491, m_30⟩
theorem cl_DeviceSets_224 : sy_LV R_DeviceSets 224 y_DeviceSets_joinChanges b_DeviceSets_joinChanges 5 (some .boolean) := ⟨m_498, m_495, m_497, m_14, m_30⟩
theorem cl_DeviceSets_228 : sy_LV R_DeviceSets 228 y_Tellings_notBelow b_Tellings_notBelow 8 (some .long) := ⟨m_290, m_287, m_288, m_289, m_31⟩
theorem cl_DeviceSets_231 : sy_LV R_DeviceSets 231 y_Tellings_unsettled b_Tellings_unsettled 12 (some .long) := ⟨m_298, m_295, m_296, m_297, m_31⟩
theorem cl_DeviceSets_234 : sy_LV R_DeviceSets 234 y_Tellings_holding b_Tellings_holding 10 (some .long) := ⟨m_338, m_335, m_336, m_337, m_31⟩
theorem cl_Model_73 : sy_LV R_Model 73 y_Model_isDevice b_Model_isDevice 2 (some .boolean) := ⟨m_587, m_584, m_586, m_15, m_33⟩
theorem cl_Model_79 : sy_LS R_Model 79 y_Model_isIn b_Model_isIn 6 (some .boolean) := ⟨m_591, m_589, m_590, m_33⟩
theorem cl_Model_92 : sy_LV R_Model 92 y_Model_bring b_Model_bring 7 (some .boolean) := ⟨m_622, m_619, m_621, m_18, m_33⟩
theorem cl_Model_96 : sy_LV R_Model 96 y_Model_isSet b_Model_isSet 2 (some .boolean) := ⟨m_614, m_611, m_613, m_16, m_33⟩
theorem cl_Model_99 : sy_LV R_Model 99 y_Model_joinTo b_Model_joinTo 3 (some .boolean) := ⟨m_618, m_615, m_617, m_17, m_33⟩
theorem cl_Model_102 : sy_LV R_Model 102 y_Model_conflicts b_Model_conflicts 4 (some .int) := ⟨m_626, m_623, m_625, m_19, m_33⟩
theorem cl_Model_109 : sy_LV R_Model 109 y_Model_isHere b_Model_isHere 3 (some .boolean) := ⟨m_634, m_631, m_633, m_21, m_33⟩
theorem cl_Model_112 : sy_LV R_Model 112 y_Model_isChosen b_Model_isChosen 3 (some .boolean) := ⟨m_638, m_635, m_637, m_22, m_33⟩
theorem cl_Model_115 : sy_LV R_Model 115 y_Model_isSameKey b_Model_isSameKey 3 (some .boolean) := ⟨m_642, m_639, m_641, m_23, m_33⟩
theorem cl_Model_118 : sy_LV R_Model 118 y_Model_isBefore b_Model_isBefore 3 (some .boolean) := ⟨m_658, m_655, m_657, m_25, m_33⟩
theorem cl_Model_121 : sy_LV R_Model 121 y_Model_isSeen b_Model_isSeen 6 (some .boolean) := ⟨m_654, m_651, m_653, m_24, m_33⟩
theorem cl_Model_126 : sy_LV R_Model 126 y_Model_isLater b_Model_isLater 3 (some .boolean) := ⟨m_667, m_664, m_666, m_26, m_33⟩
theorem cl_Model_129 : sy_LV R_Model 129 y_Model_nextNumber b_Model_nextNumber 8 (some .int) := ⟨m_675, m_672, m_674, m_27, m_33⟩
theorem cl_Model_133 : sy_LV R_Model 133 y_Model_isConflict b_Model_isConflict 6 (some .boolean) := ⟨m_630, m_627, m_629, m_20, m_33⟩
theorem cl_Model_136 : sy_LV R_Model 136 y_Model_isKeyBefore b_Model_isKeyBefore 3 (some .boolean) := ⟨m_683, m_680, m_682, m_28, m_33⟩
theorem cl_Model_144 : sy_LS R_Model 144 y_Model_common b_Model_common 10 (some .long) := ⟨m_719, m_717, m_718, m_33⟩
theorem cl_Clock_22 : sy_LV R_Clock 22 y_Clock_markBefore b_Clock_markBefore 5 (some .int) := ⟨m_468, m_465, m_467, m_12, m_35⟩
theorem cl_Clock_26 : sy_LV R_Clock 26 y_Clock_isBetween b_Clock_isBetween 2 (some .boolean) := ⟨m_472, m_469, m_471, m_13, m_35⟩
theorem cl_Corrections_32 : sy_LV R_Corrections 32 y_Corrections_isFor b_Corrections_isFor 6 (some .boolean) := ⟨m_321, m_318, m_320, m_4, m_32⟩
theorem cl_Corrections_36 : sy_LSN R_Corrections 36 y_DeviceSets_isIn R_DeviceSets b_DeviceSets_isIn 3 (some .boolean) := ⟨m_293, m_367, m_292, m_30⟩
theorem cl_Corrections_40 : sy_LV R_Corrections 40 y_Corrections_isStronger b_Corrections_isStronger 3 (some .boolean) := ⟨m_371, m_368, m_370, m_8, m_32⟩
theorem cl_Device_9 : sy_LIN R_Device 9 y_Clock_init R_DeviceSets b_Clock_init 1 := ⟨m_148, m_146, m_147, m_35⟩
theorem cl_Tellings_38 : sy_LSN R_Tellings 38 y_DeviceSets_bit R_DeviceSets b_DeviceSets_bit 1 (some .long) := ⟨m_218, m_216, m_217, m_30⟩
theorem cl_Tellings_42 : sy_LSN R_Tellings 42 y_DeviceSets_isIn R_DeviceSets b_DeviceSets_isIn 3 (some .boolean) := ⟨m_293, m_291, m_292, m_30⟩
theorem cl_Tellings_46 : sy_LV R_Tellings 46 y_Tellings_ofKeyOf b_Tellings_ofKeyOf 7 (some .long) := ⟨m_302, m_299, m_300, m_301, m_31⟩
theorem cl_Tellings_52 : sy_LV R_Tellings 52 y_Tellings_first b_Tellings_first 5 (some .int) := ⟨m_342, m_339, m_340, m_341, m_31⟩
theorem cl_Tellings_56 : sy_LV R_Tellings 56 y_Tellings_isBefore b_Tellings_isBefore 3 (some .boolean) := ⟨m_346, m_343, m_345, m_6, m_31⟩
theorem cl_Tellings_60 : sy_LV R_Tellings 60 y_Tellings_countBefore b_Tellings_countBefore 6 (some .int) := ⟨m_399, m_396, m_398, m_11, m_31⟩
theorem cl_Tellings_64 : sy_LV R_Tellings 64 y_Tellings_isOfLater b_Tellings_isOfLater 3 (some .boolean) := ⟨m_362, m_359, m_361, m_7, m_31⟩
theorem cl_Tellings_67 : sy_LV R_Tellings 67 y_Tellings_ofGreatestLife b_Tellings_ofGreatestLife 7 (some .long) := ⟨m_383, m_380, m_382, m_9, m_31⟩
theorem cl_Tellings_71 : sy_LV R_Tellings 71 y_Tellings_nextNumber b_Tellings_nextNumber 6 (some .int) := ⟨m_387, m_384, m_386, m_10, m_31⟩
theorem cl_ToldSet_11 : sy_LIN R_ToldSet 11 y_Held_init R_DeviceSets b_Held_init 1 := ⟨m_227, m_225, m_226, m_37⟩
theorem cl_ToldSet_29 : sy_LV R_ToldSet 29 y_Held_takeIn b_Held_takeIn 3 (some .boolean) := ⟨m_274, m_271, m_272, m_273, m_37⟩
theorem cl_ToldSet_33 : sy_LV R_ToldSet 33 y_Held_clear b_Held_clear 1 none := ⟨m_433, m_430, m_431, m_432, m_37⟩
theorem cl_Law_9 : sy_LI R_Law 9 y_DeviceSets_init b_DeviceSets_init 1 := ⟨m_44, m_42, m_43, m_30⟩
theorem cl_Law_12 : sy_LI R_Law 12 y_Model_init b_Model_init 2 := ⟨m_503, m_501, m_502, m_33⟩
theorem cl_Law_13 : sy_LV R_Law 13 y_DeviceSets_device b_DeviceSets_device 1 (some .int) := ⟨m_138, m_135, m_136, m_137, m_30⟩
theorem cl_Law_17 : sy_LV R_Law 17 y_Model_device b_Model_device 1 (some .int) := ⟨m_579, m_576, m_577, m_578, m_33⟩
theorem cl_Law_20 : sy_LV R_Law 20 y_DeviceSets_tell b_DeviceSets_tell 12 (some .int) := ⟨m_174, m_171, m_172, m_173, m_30⟩
theorem cl_Law_24 : sy_LV R_Law 24 y_Model_tell b_Model_tell 12 (some .int) := ⟨m_583, m_580, m_581, m_582, m_33⟩
theorem cl_Law_25 : sy_LV R_Law 25 y_DeviceSets_reset b_DeviceSets_reset 5 (some .boolean) := ⟨m_202, m_199, m_200, m_201, m_30⟩
theorem cl_Law_29 : sy_LV R_Law 29 y_Model_reset b_Model_reset 4 (some .boolean) := ⟨m_598, m_595, m_596, m_597, m_33⟩
theorem cl_Law_30 : sy_LV R_Law 30 y_DeviceSets_life b_DeviceSets_life 3 (some .int) := ⟨m_206, m_203, m_204, m_205, m_30⟩
theorem cl_Law_34 : sy_LV R_Law 34 y_Model_life b_Model_life 2 (some .int) := ⟨m_602, m_599, m_600, m_601, m_33⟩
theorem cl_Law_35 : sy_LV R_Law 35 y_DeviceSets_set b_DeviceSets_set 2 (some .int) := ⟨m_210, m_207, m_208, m_209, m_30⟩
theorem cl_Law_38 : sy_LV R_Law 38 y_Model_set b_Model_set 3 (some .int) := ⟨m_606, m_603, m_604, m_605, m_33⟩
theorem cl_Law_39 : sy_LV R_Law 39 y_DeviceSets_join b_DeviceSets_join 5 (some .int) := ⟨m_262, m_259, m_260, m_261, m_30⟩
theorem cl_Law_43 : sy_LV R_Law 43 y_Model_join b_Model_join 4 (some .int) := ⟨m_610, m_607, m_608, m_609, m_33⟩
theorem cl_Law_44 : sy_LV R_Law 44 y_DeviceSets_correct b_DeviceSets_correct 12 (some .boolean) := ⟨m_313, m_310, m_311, m_312, m_30⟩
theorem cl_Law_48 : sy_LV R_Law 48 y_Model_correct b_Model_correct 11 (some .boolean) := ⟨m_646, m_643, m_644, m_645, m_33⟩
theorem cl_Law_49 : sy_LV R_Law 49 y_DeviceSets_last b_DeviceSets_last 6 (some .long) := ⟨m_325, m_322, m_323, m_324, m_30⟩
theorem cl_Law_53 : sy_LV R_Law 53 y_Model_last b_Model_last 7 (some .long) := ⟨m_650, m_647, m_648, m_649, m_33⟩
theorem cl_Law_54 : sy_LV R_Law 54 y_DeviceSets_known b_DeviceSets_known 11 (some .long) := ⟨m_354, m_351, m_352, m_353, m_30⟩
theorem cl_Law_58 : sy_LV R_Law 58 y_Model_known b_Model_known 13 (some .long) := ⟨m_663, m_660, m_661, m_662, m_33⟩
theorem cl_Law_59 : sy_LV R_Law 59 y_DeviceSets_gap b_DeviceSets_gap 5 (some .int) := ⟨m_375, m_372, m_373, m_374, m_30⟩
theorem cl_Law_63 : sy_LV R_Law 63 y_Model_gap b_Model_gap 9 (some .int) := ⟨m_671, m_668, m_669, m_670, m_33⟩
theorem cl_Law_64 : sy_LV R_Law 64 y_DeviceSets_conflict b_DeviceSets_conflict 6 (some .int) := ⟨m_391, m_388, m_389, m_390, m_30⟩
theorem cl_Law_67 : sy_LV R_Law 67 y_Model_conflict b_Model_conflict 7 (some .int) := ⟨m_679, m_676, m_677, m_678, m_33⟩
theorem cl_Law_68 : sy_LV R_Law 68 y_DeviceSets_settle b_DeviceSets_settle 8 (some .int) := ⟨m_407, m_404, m_405, m_406, m_30⟩
theorem cl_Law_72 : sy_LV R_Law 72 y_Model_settle b_Model_settle 9 (some .int) := ⟨m_687, m_684, m_685, m_686, m_33⟩
theorem cl_Law_73 : sy_LV R_Law 73 y_DeviceSets_equal b_DeviceSets_equal 5 (some .boolean) := ⟨m_413, m_410, m_411, m_412, m_30⟩
theorem cl_Law_77 : sy_LV R_Law 77 y_Model_equal b_Model_equal 7 (some .boolean) := ⟨m_691, m_688, m_689, m_690, m_33⟩
theorem cl_Law_78 : sy_LV R_Law 78 y_DeviceSets_batch b_DeviceSets_batch 3 (some .int) := ⟨m_421, m_418, m_419, m_420, m_30⟩
theorem cl_Law_81 : sy_LV R_Law 81 y_Model_batch b_Model_batch 4 (some .int) := ⟨m_695, m_692, m_693, m_694, m_33⟩
theorem cl_Law_82 : sy_LV R_Law 82 y_DeviceSets_endBatch b_DeviceSets_endBatch 4 (some .boolean) := ⟨m_425, m_422, m_423, m_424, m_30⟩
theorem cl_Law_86 : sy_LV R_Law 86 y_Model_endBatch b_Model_endBatch 4 (some .boolean) := ⟨m_699, m_696, m_697, m_698, m_33⟩
theorem cl_Law_87 : sy_LV R_Law 87 y_DeviceSets_retain b_DeviceSets_retain 7 (some .int) := ⟨m_437, m_434, m_435, m_436, m_30⟩
theorem cl_Law_91 : sy_LV R_Law 91 y_Model_retain b_Model_retain 6 (some .int) := ⟨m_703, m_700, m_701, m_702, m_33⟩
theorem cl_Law_92 : sy_LV R_Law 92 y_DeviceSets_kept b_DeviceSets_kept 4 (some .long) := ⟨m_444, m_441, m_442, m_443, m_30⟩
theorem cl_Law_96 : sy_LV R_Law 96 y_Model_kept b_Model_kept 6 (some .long) := ⟨m_708, m_705, m_706, m_707, m_33⟩
theorem cl_Law_97 : sy_LV R_Law 97 y_DeviceSets_mark b_DeviceSets_mark 7 (some .boolean) := ⟨m_452, m_449, m_450, m_451, m_30⟩
theorem cl_Law_101 : sy_LV R_Law 101 y_Model_mark b_Model_mark 7 (some .boolean) := ⟨m_712, m_709, m_710, m_711, m_33⟩
theorem cl_Law_102 : sy_LV R_Law 102 y_DeviceSets_corrected b_DeviceSets_corrected 12 (some .long) := ⟨m_460, m_457, m_458, m_459, m_30⟩
theorem cl_Law_106 : sy_LV R_Law 106 y_Model_corrected b_Model_corrected 13 (some .long) := ⟨m_716, m_713, m_714, m_715, m_33⟩
theorem cl_Law_107 : sy_LV R_Law 107 y_DeviceSets_play b_DeviceSets_play 10 (some .int) := ⟨m_489, m_486, m_487, m_488, m_30⟩
theorem cl_Law_111 : sy_LV R_Law 111 y_Model_play b_Model_play 10 (some .int) := ⟨m_723, m_720, m_721, m_722, m_33⟩
