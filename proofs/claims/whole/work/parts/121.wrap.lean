theorem mlL_7 : Cond.methodLink RL 7 yX8_load ∈ bsG := bsG_in 510 (by decide +kernel) rfl
theorem mlL_17 : Cond.methodLink RL 17 yX8_count ∈ bsG := bsG_in 745 (by decide +kernel) rfl
theorem mlL_22 : Cond.methodLink RL 22 yX8_slot ∈ bsG := bsG_in 799 (by decide +kernel) rfl
theorem mlL_26 : Cond.methodLink RL 26 yX8_image ∈ bsG := bsG_in 814 (by decide +kernel) rfl
theorem mlL_29 : Cond.methodLink RL 29 yX8_install ∈ bsG := bsG_in 824 (by decide +kernel) rfl
theorem mlL_32 : Cond.methodLink RL 32 yX8_boot ∈ bsG := bsG_in 835 (by decide +kernel) rfl
theorem mlL_35 : Cond.methodLink RL 35 yX8_whyNot ∈ bsG := bsG_in 853 (by decide +kernel) rfl
theorem mlL_38 : Cond.methodLink RL 38 yX8_choice ∈ bsG := bsG_in 864 (by decide +kernel) rfl
theorem mlL_42 : Cond.methodLink RL 42 yX8_place ∈ bsG := bsG_in 879 (by decide +kernel) rfl
theorem mlL_45 : Cond.methodLink RL 45 yX8_newest ∈ bsG := bsG_in 887 (by decide +kernel) rfl
theorem mlL_48 : Cond.methodLink RL 48 yX8_spare ∈ bsG := bsG_in 894 (by decide +kernel) rfl
theorem mlL_51 : Cond.methodLink RL 51 yX8_fallback ∈ bsG := bsG_in 909 (by decide +kernel) rfl
theorem mlL_54 : Cond.methodLink RL 54 yX8_weakest ∈ bsG := bsG_in 917 (by decide +kernel) rfl
theorem mlL_57 : Cond.methodLink RL 57 yX8_twins ∈ bsG := bsG_in 924 (by decide +kernel) rfl
theorem mlL_60 : Cond.methodLink RL 60 yX8_sinking ∈ bsG := bsG_in 931 (by decide +kernel) rfl
theorem mlL_63 : Cond.methodLink RL 63 yX8_floorWith ∈ bsG := bsG_in 938 (by decide +kernel) rfl
theorem mlL_66 : Cond.methodLink RL 66 yX8_mayHold ∈ bsG := bsG_in 953 (by decide +kernel) rfl
theorem mlL_70 : Cond.methodLink RL 70 yX8_mostBoots ∈ bsG := bsG_in 960 (by decide +kernel) rfl
theorem mlL_73 : Cond.methodLink RL 73 yX8_bootsOf ∈ bsG := bsG_in 967 (by decide +kernel) rfl
theorem mlL_76 : Cond.methodLink RL 76 yX8_stateIn ∈ bsG := bsG_in 975 (by decide +kernel) rfl
theorem mlL_79 : Cond.methodLink RL 79 yX8_slotIn ∈ bsG := bsG_in 1061 (by decide +kernel) rfl
theorem mlL_82 : Cond.methodLink RL 82 yX8_floorIn ∈ bsG := bsG_in 1068 (by decide +kernel) rfl
theorem mlL_85 : Cond.methodLink RL 85 yX8_bootsIn ∈ bsG := bsG_in 1075 (by decide +kernel) rfl
theorem mlL_88 : Cond.methodLink RL 88 yX8_runsIn ∈ bsG := bsG_in 1082 (by decide +kernel) rfl
theorem mlL_91 : Cond.methodLink RL 91 yX8_crashesIn ∈ bsG := bsG_in 1089 (by decide +kernel) rfl
theorem mlL_94 : Cond.methodLink RL 94 yX8_newerIn ∈ bsG := bsG_in 1096 (by decide +kernel) rfl
theorem mlL_97 : Cond.methodLink RL 97 yX8_rescueIn ∈ bsG := bsG_in 1109 (by decide +kernel) rfl
theorem mlL_100 : Cond.methodLink RL 100 yX8_goodIn ∈ bsG := bsG_in 1120 (by decide +kernel) rfl
theorem mlL_103 : Cond.methodLink RL 103 yX8_calmIn ∈ bsG := bsG_in 1131 (by decide +kernel) rfl
theorem mlL_106 : Cond.methodLink RL 106 yX8_triesIn ∈ bsG := bsG_in 1138 (by decide +kernel) rfl
theorem mlL_109 : Cond.methodLink RL 109 yX8_ifBooted ∈ bsG := bsG_in 1145 (by decide +kernel) rfl
theorem mlL_112 : Cond.methodLink RL 112 yX8_givenUpIf ∈ bsG := bsG_in 1153 (by decide +kernel) rfl
theorem mlL_115 : Cond.methodLink RL 115 yX8_settlesOn ∈ bsG := bsG_in 1160 (by decide +kernel) rfl
theorem mlL_118 : Cond.methodLink RL 118 yX8_settlesWithout ∈ bsG := bsG_in 1171 (by decide +kernel) rfl
theorem mlL_121 : Cond.methodLink RL 121 yX8_ifInstalled ∈ bsG := bsG_in 1184 (by decide +kernel) rfl
theorem mlL_125 : Cond.methodLink RL 125 yX8_triesFor ∈ bsG := bsG_in 1197 (by decide +kernel) rfl
theorem mlL_128 : Cond.methodLink RL 128 yX8_bestWatch ∈ bsG := bsG_in 1204 (by decide +kernel) rfl
theorem mlL_131 : Cond.methodLink RL 131 yX8_highestFloor ∈ bsG := bsG_in 1211 (by decide +kernel) rfl
theorem mlL_134 : Cond.methodLink RL 134 yX8_keySlot ∈ bsG := bsG_in 1219 (by decide +kernel) rfl
theorem mlL_145 : Cond.methodLink RL 145 yX8_writeSlots ∈ bsG := bsG_in 1244 (by decide +kernel) rfl
theorem mlL_148 : Cond.methodLink RL 148 yX8_writeBoots ∈ bsG := bsG_in 1268 (by decide +kernel) rfl
theorem mlL_151 : Cond.methodLink RL 151 yX8_writeMachine ∈ bsG := bsG_in 1282 (by decide +kernel) rfl
theorem mlL_154 : Cond.methodLink RL 154 yX8_textByte ∈ bsG := bsG_in 1315 (by decide +kernel) rfl
theorem mlL_157 : Cond.methodLink RL 157 yX8_power ∈ bsG := bsG_in 1322 (by decide +kernel) rfl
theorem mlL_160 : Cond.methodLink RL 160 yX8_cut ∈ bsG := bsG_in 1334 (by decide +kernel) rfl
theorem mlL_163 : Cond.methodLink RL 163 yX8_reboot ∈ bsG := bsG_in 1349 (by decide +kernel) rfl
theorem mlL_166 : Cond.methodLink RL 166 yX8_tick ∈ bsG := bsG_in 1356 (by decide +kernel) rfl
theorem mlL_169 : Cond.methodLink RL 169 yX8_begin ∈ bsG := bsG_in 1363 (by decide +kernel) rfl
theorem mlL_173 : Cond.methodLink RL 173 yX8_spoil ∈ bsG := bsG_in 1370 (by decide +kernel) rfl
theorem mlL_176 : Cond.methodLink RL 176 yX8_mark ∈ bsG := bsG_in 1377 (by decide +kernel) rfl
theorem mlL_179 : Cond.methodLink RL 179 yX8_setNumber ∈ bsG := bsG_in 1384 (by decide +kernel) rfl
theorem mlL_182 : Cond.methodLink RL 182 yX8_undo ∈ bsG := bsG_in 1407 (by decide +kernel) rfl
theorem mlL_185 : Cond.methodLink RL 185 yX8_save ∈ bsG := bsG_in 1414 (by decide +kernel) rfl
theorem mlL_188 : Cond.methodLink RL 188 yX8_restore ∈ bsG := bsG_in 1421 (by decide +kernel) rfl
theorem cl_13 : Cond.classLink RL 13 "java/lang/IndexOutOfBoundsException" ∈ bsG := bsG_in 508 (by decide +kernel) rfl
theorem cl_15 : Cond.classLink RL 15 "java/lang/IllegalArgumentException" ∈ bsG := bsG_in 509 (by decide +kernel) rfl
theorem cl_20 : Cond.classLink RL 20 "java/lang/IllegalStateException" ∈ bsG := bsG_in 744 (by decide +kernel) rfl
theorem dpX8_begin : (parseMethodDescriptor yX8_begin.desc).map (fun d => d.parameters.length) = some 5 := by decide +kernel
theorem wyX8_begin : bsWy yX8_begin cX8_begin 6 (some .int) := ⟨bsG_in 1364 (by decide +kernel) rfl, bsG_in 1365 (by decide +kernel) rfl, bsG_in 102 (by decide +kernel) rfl, bsG_in 1366 (by decide +kernel) rfl, by decide +kernel, by decide +kernel⟩
theorem dpX8_bestWatch : (parseMethodDescriptor yX8_bestWatch.desc).map (fun d => d.parameters.length) = some 1 := by decide +kernel
theorem wyX8_bestWatch : bsWy yX8_bestWatch cX8_bestWatch 3 (some .int) := ⟨bsG_in 1205 (by decide +kernel) rfl, bsG_in 1206 (by decide +kernel) rfl, bsG_in 102 (by decide +kernel) rfl, bsG_in 1207 (by decide +kernel) rfl, by decide +kernel, by decide +kernel⟩
theorem dpX8_boot : (parseMethodDescriptor yX8_boot.desc).map (fun d => d.parameters.length) = some 2 := by decide +kernel
theorem wyX8_boot : bsWy yX8_boot cX8_boot 4 (some .int) := ⟨bsG_in 836 (by decide +kernel) rfl, bsG_in 837 (by decide +kernel) rfl, bsG_in 102 (by decide +kernel) rfl, bsG_in 838 (by decide +kernel) rfl, by decide +kernel, by decide +kernel⟩
theorem dpX8_bootsIn : (parseMethodDescriptor yX8_bootsIn.desc).map (fun d => d.parameters.length) = some 1 := by decide +kernel
theorem wyX8_bootsIn : bsWy yX8_bootsIn cX8_bootsIn 2 (some .int) := ⟨bsG_in 1076 (by decide +kernel) rfl, bsG_in 1077 (by decide +kernel) rfl, bsG_in 102 (by decide +kernel) rfl, bsG_in 1078 (by decide +kernel) rfl, by decide +kernel, by decide +kernel⟩
theorem dpX8_bootsOf : (parseMethodDescriptor yX8_bootsOf.desc).map (fun d => d.parameters.length) = some 1 := by decide +kernel
theorem wyX8_bootsOf : bsWy yX8_bootsOf cX8_bootsOf 4 (some .int) := ⟨bsG_in 968 (by decide +kernel) rfl, bsG_in 969 (by decide +kernel) rfl, bsG_in 102 (by decide +kernel) rfl, bsG_in 970 (by decide +kernel) rfl, by decide +kernel, by decide +kernel⟩
theorem dpX8_calmIn : (parseMethodDescriptor yX8_calmIn.desc).map (fun d => d.parameters.length) = some 0 := by decide +kernel
theorem wyX8_calmIn : bsWy yX8_calmIn cX8_calmIn 4 (some .int) := ⟨bsG_in 1132 (by decide +kernel) rfl, bsG_in 1133 (by decide +kernel) rfl, bsG_in 102 (by decide +kernel) rfl, bsG_in 1134 (by decide +kernel) rfl, by decide +kernel, by decide +kernel⟩
theorem dpX8_choice : (parseMethodDescriptor yX8_choice.desc).map (fun d => d.parameters.length) = some 0 := by decide +kernel
theorem wyX8_choice : bsWy yX8_choice cX8_choice 1 (some .int) := ⟨bsG_in 865 (by decide +kernel) rfl, bsG_in 866 (by decide +kernel) rfl, bsG_in 102 (by decide +kernel) rfl, bsG_in 867 (by decide +kernel) rfl, by decide +kernel, by decide +kernel⟩
theorem dpX8_count : (parseMethodDescriptor yX8_count.desc).map (fun d => d.parameters.length) = some 1 := by decide +kernel
theorem wyX8_count : bsWy yX8_count cX8_count 2 (some .int) := ⟨bsG_in 746 (by decide +kernel) rfl, bsG_in 747 (by decide +kernel) rfl, bsG_in 102 (by decide +kernel) rfl, bsG_in 748 (by decide +kernel) rfl, by decide +kernel, by decide +kernel⟩
theorem dpX8_crashesIn : (parseMethodDescriptor yX8_crashesIn.desc).map (fun d => d.parameters.length) = some 1 := by decide +kernel
theorem wyX8_crashesIn : bsWy yX8_crashesIn cX8_crashesIn 2 (some .int) := ⟨bsG_in 1090 (by decide +kernel) rfl, bsG_in 1091 (by decide +kernel) rfl, bsG_in 102 (by decide +kernel) rfl, bsG_in 1092 (by decide +kernel) rfl, by decide +kernel, by decide +kernel⟩
theorem dpX8_cut : (parseMethodDescriptor yX8_cut.desc).map (fun d => d.parameters.length) = some 0 := by decide +kernel
theorem wyX8_cut : bsWy yX8_cut cX8_cut 2 (some .int) := ⟨bsG_in 1335 (by decide +kernel) rfl, bsG_in 1336 (by decide +kernel) rfl, bsG_in 102 (by decide +kernel) rfl, bsG_in 1337 (by decide +kernel) rfl, by decide +kernel, by decide +kernel⟩
theorem dpX8_fallback : (parseMethodDescriptor yX8_fallback.desc).map (fun d => d.parameters.length) = some 0 := by decide +kernel
theorem wyX8_fallback : bsWy yX8_fallback cX8_fallback 1 (some .int) := ⟨bsG_in 910 (by decide +kernel) rfl, bsG_in 911 (by decide +kernel) rfl, bsG_in 102 (by decide +kernel) rfl, bsG_in 912 (by decide +kernel) rfl, by decide +kernel, by decide +kernel⟩
theorem dpX8_floorIn : (parseMethodDescriptor yX8_floorIn.desc).map (fun d => d.parameters.length) = some 1 := by decide +kernel
theorem wyX8_floorIn : bsWy yX8_floorIn cX8_floorIn 2 (some .int) := ⟨bsG_in 1069 (by decide +kernel) rfl, bsG_in 1070 (by decide +kernel) rfl, bsG_in 102 (by decide +kernel) rfl, bsG_in 1071 (by decide +kernel) rfl, by decide +kernel, by decide +kernel⟩
theorem dpX8_floorWith : (parseMethodDescriptor yX8_floorWith.desc).map (fun d => d.parameters.length) = some 1 := by decide +kernel
theorem wyX8_floorWith : bsWy yX8_floorWith cX8_floorWith 2 (some .int) := ⟨bsG_in 939 (by decide +kernel) rfl, bsG_in 940 (by decide +kernel) rfl, bsG_in 102 (by decide +kernel) rfl, bsG_in 941 (by decide +kernel) rfl, by decide +kernel, by decide +kernel⟩
theorem dpX8_givenUpIf : (parseMethodDescriptor yX8_givenUpIf.desc).map (fun d => d.parameters.length) = some 0 := by decide +kernel
theorem wyX8_givenUpIf : bsWy yX8_givenUpIf cX8_givenUpIf 1 (some .int) := ⟨bsG_in 1154 (by decide +kernel) rfl, bsG_in 1155 (by decide +kernel) rfl, bsG_in 102 (by decide +kernel) rfl, bsG_in 1156 (by decide +kernel) rfl, by decide +kernel, by decide +kernel⟩
theorem dpX8_goodIn : (parseMethodDescriptor yX8_goodIn.desc).map (fun d => d.parameters.length) = some 1 := by decide +kernel
theorem wyX8_goodIn : bsWy yX8_goodIn cX8_goodIn 2 (some .int) := ⟨bsG_in 1121 (by decide +kernel) rfl, bsG_in 1122 (by decide +kernel) rfl, bsG_in 102 (by decide +kernel) rfl, bsG_in 1123 (by decide +kernel) rfl, by decide +kernel, by decide +kernel⟩
theorem dpX8_highestFloor : (parseMethodDescriptor yX8_highestFloor.desc).map (fun d => d.parameters.length) = some 0 := by decide +kernel
theorem wyX8_highestFloor : bsWy yX8_highestFloor cX8_highestFloor 4 (some .int) := ⟨bsG_in 1212 (by decide +kernel) rfl, bsG_in 1213 (by decide +kernel) rfl, bsG_in 102 (by decide +kernel) rfl, bsG_in 1214 (by decide +kernel) rfl, by decide +kernel, by decide +kernel⟩
theorem dpX8_ifBooted : (parseMethodDescriptor yX8_ifBooted.desc).map (fun d => d.parameters.length) = some 0 := by decide +kernel
theorem wyX8_ifBooted : bsWy yX8_ifBooted cX8_ifBooted 1 (some .int) := ⟨bsG_in 1146 (by decide +kernel) rfl, bsG_in 1147 (by decide +kernel) rfl, bsG_in 102 (by decide +kernel) rfl, bsG_in 1148 (by decide +kernel) rfl, by decide +kernel, by decide +kernel⟩
theorem dpX8_ifInstalled : (parseMethodDescriptor yX8_ifInstalled.desc).map (fun d => d.parameters.length) = some 3 := by decide +kernel
theorem wyX8_ifInstalled : bsWy yX8_ifInstalled cX8_ifInstalled 4 (some .int) := ⟨bsG_in 1185 (by decide +kernel) rfl, bsG_in 1186 (by decide +kernel) rfl, bsG_in 102 (by decide +kernel) rfl, bsG_in 1187 (by decide +kernel) rfl, by decide +kernel, by decide +kernel⟩
theorem dpX8_image : (parseMethodDescriptor yX8_image.desc).map (fun d => d.parameters.length) = some 2 := by decide +kernel
theorem wyX8_image : bsWy yX8_image cX8_image 4 (some .int) := ⟨bsG_in 815 (by decide +kernel) rfl, bsG_in 816 (by decide +kernel) rfl, bsG_in 102 (by decide +kernel) rfl, bsG_in 817 (by decide +kernel) rfl, by decide +kernel, by decide +kernel⟩
theorem dpX8_install : (parseMethodDescriptor yX8_install.desc).map (fun d => d.parameters.length) = some 1 := by decide +kernel
theorem wyX8_install : bsWy yX8_install cX8_install 3 (some .int) := ⟨bsG_in 825 (by decide +kernel) rfl, bsG_in 826 (by decide +kernel) rfl, bsG_in 102 (by decide +kernel) rfl, bsG_in 827 (by decide +kernel) rfl, by decide +kernel, by decide +kernel⟩
theorem dpX8_keySlot : (parseMethodDescriptor yX8_keySlot.desc).map (fun d => d.parameters.length) = some 0 := by decide +kernel
theorem wyX8_keySlot : bsWy yX8_keySlot cX8_keySlot 5 (some .int) := ⟨bsG_in 1220 (by decide +kernel) rfl, bsG_in 1221 (by decide +kernel) rfl, bsG_in 102 (by decide +kernel) rfl, bsG_in 1222 (by decide +kernel) rfl, by decide +kernel, by decide +kernel⟩
theorem dpX8_load : (parseMethodDescriptor yX8_load.desc).map (fun d => d.parameters.length) = some 1 := by decide +kernel
theorem wyX8_load : bsWy yX8_load cX8_load 3 (some .int) := ⟨bsG_in 511 (by decide +kernel) rfl, bsG_in 512 (by decide +kernel) rfl, bsG_in 102 (by decide +kernel) rfl, bsG_in 513 (by decide +kernel) rfl, by decide +kernel, by decide +kernel⟩
theorem dpX8_mark : (parseMethodDescriptor yX8_mark.desc).map (fun d => d.parameters.length) = some 3 := by decide +kernel
theorem wyX8_mark : bsWy yX8_mark cX8_mark 6 (some .int) := ⟨bsG_in 1378 (by decide +kernel) rfl, bsG_in 1379 (by decide +kernel) rfl, bsG_in 102 (by decide +kernel) rfl, bsG_in 1380 (by decide +kernel) rfl, by decide +kernel, by decide +kernel⟩
theorem dpX8_mayHold : (parseMethodDescriptor yX8_mayHold.desc).map (fun d => d.parameters.length) = some 1 := by decide +kernel
theorem wyX8_mayHold : bsWy yX8_mayHold cX8_mayHold 5 (some .boolean) := ⟨bsG_in 954 (by decide +kernel) rfl, bsG_in 955 (by decide +kernel) rfl, bsG_in 102 (by decide +kernel) rfl, bsG_in 956 (by decide +kernel) rfl, by decide +kernel, by decide +kernel⟩
theorem dpX8_mostBoots : (parseMethodDescriptor yX8_mostBoots.desc).map (fun d => d.parameters.length) = some 0 := by decide +kernel
theorem wyX8_mostBoots : bsWy yX8_mostBoots cX8_mostBoots 3 (some .int) := ⟨bsG_in 961 (by decide +kernel) rfl, bsG_in 962 (by decide +kernel) rfl, bsG_in 102 (by decide +kernel) rfl, bsG_in 963 (by decide +kernel) rfl, by decide +kernel, by decide +kernel⟩
theorem dpX8_newerIn : (parseMethodDescriptor yX8_newerIn.desc).map (fun d => d.parameters.length) = some 0 := by decide +kernel
theorem wyX8_newerIn : bsWy yX8_newerIn cX8_newerIn 3 (some .int) := ⟨bsG_in 1097 (by decide +kernel) rfl, bsG_in 1098 (by decide +kernel) rfl, bsG_in 102 (by decide +kernel) rfl, bsG_in 1099 (by decide +kernel) rfl, by decide +kernel, by decide +kernel⟩
theorem dpX8_newest : (parseMethodDescriptor yX8_newest.desc).map (fun d => d.parameters.length) = some 0 := by decide +kernel
theorem wyX8_newest : bsWy yX8_newest cX8_newest 5 (some .int) := ⟨bsG_in 888 (by decide +kernel) rfl, bsG_in 889 (by decide +kernel) rfl, bsG_in 102 (by decide +kernel) rfl, bsG_in 890 (by decide +kernel) rfl, by decide +kernel, by decide +kernel⟩
theorem dpX8_place : (parseMethodDescriptor yX8_place.desc).map (fun d => d.parameters.length) = some 1 := by decide +kernel
theorem wyX8_place : bsWy yX8_place cX8_place 6 (some .int) := ⟨bsG_in 880 (by decide +kernel) rfl, bsG_in 881 (by decide +kernel) rfl, bsG_in 102 (by decide +kernel) rfl, bsG_in 882 (by decide +kernel) rfl, by decide +kernel, by decide +kernel⟩
theorem dpX8_power : (parseMethodDescriptor yX8_power.desc).map (fun d => d.parameters.length) = some 0 := by decide +kernel
theorem wyX8_power : bsWy yX8_power cX8_power 1 (some .int) := ⟨bsG_in 1323 (by decide +kernel) rfl, bsG_in 1324 (by decide +kernel) rfl, bsG_in 102 (by decide +kernel) rfl, bsG_in 1325 (by decide +kernel) rfl, by decide +kernel, by decide +kernel⟩
theorem dpX8_reboot : (parseMethodDescriptor yX8_reboot.desc).map (fun d => d.parameters.length) = some 0 := by decide +kernel
theorem wyX8_reboot : bsWy yX8_reboot cX8_reboot 1 (some .int) := ⟨bsG_in 1350 (by decide +kernel) rfl, bsG_in 1351 (by decide +kernel) rfl, bsG_in 102 (by decide +kernel) rfl, bsG_in 1352 (by decide +kernel) rfl, by decide +kernel, by decide +kernel⟩
theorem dpX8_rescueIn : (parseMethodDescriptor yX8_rescueIn.desc).map (fun d => d.parameters.length) = some 0 := by decide +kernel
theorem wyX8_rescueIn : bsWy yX8_rescueIn cX8_rescueIn 1 (some .int) := ⟨bsG_in 1110 (by decide +kernel) rfl, bsG_in 1111 (by decide +kernel) rfl, bsG_in 102 (by decide +kernel) rfl, bsG_in 1112 (by decide +kernel) rfl, by decide +kernel, by decide +kernel⟩
theorem dpX8_restore : (parseMethodDescriptor yX8_restore.desc).map (fun d => d.parameters.length) = some 1 := by decide +kernel
theorem wyX8_restore : bsWy yX8_restore cX8_restore 2 (some .int) := ⟨bsG_in 1422 (by decide +kernel) rfl, bsG_in 1423 (by decide +kernel) rfl, bsG_in 102 (by decide +kernel) rfl, bsG_in 1424 (by decide +kernel) rfl, by decide +kernel, by decide +kernel⟩
theorem dpX8_runsIn : (parseMethodDescriptor yX8_runsIn.desc).map (fun d => d.parameters.length) = some 2 := by decide +kernel
theorem wyX8_runsIn : bsWy yX8_runsIn cX8_runsIn 3 (some .int) := ⟨bsG_in 1083 (by decide +kernel) rfl, bsG_in 1084 (by decide +kernel) rfl, bsG_in 102 (by decide +kernel) rfl, bsG_in 1085 (by decide +kernel) rfl, by decide +kernel, by decide +kernel⟩
theorem dpX8_save : (parseMethodDescriptor yX8_save.desc).map (fun d => d.parameters.length) = some 1 := by decide +kernel
theorem wyX8_save : bsWy yX8_save cX8_save 2 (some .int) := ⟨bsG_in 1415 (by decide +kernel) rfl, bsG_in 1416 (by decide +kernel) rfl, bsG_in 102 (by decide +kernel) rfl, bsG_in 1417 (by decide +kernel) rfl, by decide +kernel, by decide +kernel⟩
theorem dpX8_setNumber : (parseMethodDescriptor yX8_setNumber.desc).map (fun d => d.parameters.length) = some 2 := by decide +kernel
theorem wyX8_setNumber : bsWy yX8_setNumber cX8_setNumber 3 (some .int) := ⟨bsG_in 1385 (by decide +kernel) rfl, bsG_in 1386 (by decide +kernel) rfl, bsG_in 102 (by decide +kernel) rfl, bsG_in 1387 (by decide +kernel) rfl, by decide +kernel, by decide +kernel⟩
theorem dpX8_settlesOn : (parseMethodDescriptor yX8_settlesOn.desc).map (fun d => d.parameters.length) = some 0 := by decide +kernel
theorem wyX8_settlesOn : bsWy yX8_settlesOn cX8_settlesOn 1 (some .int) := ⟨bsG_in 1161 (by decide +kernel) rfl, bsG_in 1162 (by decide +kernel) rfl, bsG_in 102 (by decide +kernel) rfl, bsG_in 1163 (by decide +kernel) rfl, by decide +kernel, by decide +kernel⟩
theorem dpX8_settlesWithout : (parseMethodDescriptor yX8_settlesWithout.desc).map (fun d => d.parameters.length) = some 1 := by decide +kernel
theorem wyX8_settlesWithout : bsWy yX8_settlesWithout cX8_settlesWithout 2 (some .int) := ⟨bsG_in 1172 (by decide +kernel) rfl, bsG_in 1173 (by decide +kernel) rfl, bsG_in 102 (by decide +kernel) rfl, bsG_in 1174 (by decide +kernel) rfl, by decide +kernel, by decide +kernel⟩
theorem dpX8_sinking : (parseMethodDescriptor yX8_sinking.desc).map (fun d => d.parameters.length) = some 0 := by decide +kernel
theorem wyX8_sinking : bsWy yX8_sinking cX8_sinking 4 (some .int) := ⟨bsG_in 932 (by decide +kernel) rfl, bsG_in 933 (by decide +kernel) rfl, bsG_in 102 (by decide +kernel) rfl, bsG_in 934 (by decide +kernel) rfl, by decide +kernel, by decide +kernel⟩
theorem dpX8_slot : (parseMethodDescriptor yX8_slot.desc).map (fun d => d.parameters.length) = some 2 := by decide +kernel
theorem wyX8_slot : bsWy yX8_slot cX8_slot 4 (some .int) := ⟨bsG_in 800 (by decide +kernel) rfl, bsG_in 801 (by decide +kernel) rfl, bsG_in 102 (by decide +kernel) rfl, bsG_in 802 (by decide +kernel) rfl, by decide +kernel, by decide +kernel⟩
theorem dpX8_slotIn : (parseMethodDescriptor yX8_slotIn.desc).map (fun d => d.parameters.length) = some 1 := by decide +kernel
theorem wyX8_slotIn : bsWy yX8_slotIn cX8_slotIn 2 (some .int) := ⟨bsG_in 1062 (by decide +kernel) rfl, bsG_in 1063 (by decide +kernel) rfl, bsG_in 102 (by decide +kernel) rfl, bsG_in 1064 (by decide +kernel) rfl, by decide +kernel, by decide +kernel⟩
theorem dpX8_spare : (parseMethodDescriptor yX8_spare.desc).map (fun d => d.parameters.length) = some 0 := by decide +kernel
theorem wyX8_spare : bsWy yX8_spare cX8_spare 4 (some .int) := ⟨bsG_in 895 (by decide +kernel) rfl, bsG_in 896 (by decide +kernel) rfl, bsG_in 102 (by decide +kernel) rfl, bsG_in 897 (by decide +kernel) rfl, by decide +kernel, by decide +kernel⟩
theorem dpX8_spoil : (parseMethodDescriptor yX8_spoil.desc).map (fun d => d.parameters.length) = some 2 := by decide +kernel
theorem wyX8_spoil : bsWy yX8_spoil cX8_spoil 5 (some .int) := ⟨bsG_in 1371 (by decide +kernel) rfl, bsG_in 1372 (by decide +kernel) rfl, bsG_in 102 (by decide +kernel) rfl, bsG_in 1373 (by decide +kernel) rfl, by decide +kernel, by decide +kernel⟩
theorem dpX8_stateIn : (parseMethodDescriptor yX8_stateIn.desc).map (fun d => d.parameters.length) = some 1 := by decide +kernel
theorem wyX8_stateIn : bsWy yX8_stateIn cX8_stateIn 2 (some .int) := ⟨bsG_in 976 (by decide +kernel) rfl, bsG_in 977 (by decide +kernel) rfl, bsG_in 102 (by decide +kernel) rfl, bsG_in 978 (by decide +kernel) rfl, by decide +kernel, by decide +kernel⟩
theorem dpX8_textByte : (parseMethodDescriptor yX8_textByte.desc).map (fun d => d.parameters.length) = some 1 := by decide +kernel
theorem wyX8_textByte : bsWy yX8_textByte cX8_textByte 2 (some .int) := ⟨bsG_in 1316 (by decide +kernel) rfl, bsG_in 1317 (by decide +kernel) rfl, bsG_in 102 (by decide +kernel) rfl, bsG_in 1318 (by decide +kernel) rfl, by decide +kernel, by decide +kernel⟩
theorem dpX8_tick : (parseMethodDescriptor yX8_tick.desc).map (fun d => d.parameters.length) = some 1 := by decide +kernel
theorem wyX8_tick : bsWy yX8_tick cX8_tick 4 (some .int) := ⟨bsG_in 1357 (by decide +kernel) rfl, bsG_in 1358 (by decide +kernel) rfl, bsG_in 102 (by decide +kernel) rfl, bsG_in 1359 (by decide +kernel) rfl, by decide +kernel, by decide +kernel⟩
theorem dpX8_triesFor : (parseMethodDescriptor yX8_triesFor.desc).map (fun d => d.parameters.length) = some 1 := by decide +kernel
theorem wyX8_triesFor : bsWy yX8_triesFor cX8_triesFor 3 (some .int) := ⟨bsG_in 1198 (by decide +kernel) rfl, bsG_in 1199 (by decide +kernel) rfl, bsG_in 102 (by decide +kernel) rfl, bsG_in 1200 (by decide +kernel) rfl, by decide +kernel, by decide +kernel⟩
theorem dpX8_triesIn : (parseMethodDescriptor yX8_triesIn.desc).map (fun d => d.parameters.length) = some 2 := by decide +kernel
theorem wyX8_triesIn : bsWy yX8_triesIn cX8_triesIn 3 (some .int) := ⟨bsG_in 1139 (by decide +kernel) rfl, bsG_in 1140 (by decide +kernel) rfl, bsG_in 102 (by decide +kernel) rfl, bsG_in 1141 (by decide +kernel) rfl, by decide +kernel, by decide +kernel⟩
theorem dpX8_twins : (parseMethodDescriptor yX8_twins.desc).map (fun d => d.parameters.length) = some 1 := by decide +kernel
theorem wyX8_twins : bsWy yX8_twins cX8_twins 6 (some .int) := ⟨bsG_in 925 (by decide +kernel) rfl, bsG_in 926 (by decide +kernel) rfl, bsG_in 102 (by decide +kernel) rfl, bsG_in 927 (by decide +kernel) rfl, by decide +kernel, by decide +kernel⟩
theorem dpX8_undo : (parseMethodDescriptor yX8_undo.desc).map (fun d => d.parameters.length) = some 0 := by decide +kernel
theorem wyX8_undo : bsWy yX8_undo cX8_undo 1 (some .int) := ⟨bsG_in 1408 (by decide +kernel) rfl, bsG_in 1409 (by decide +kernel) rfl, bsG_in 102 (by decide +kernel) rfl, bsG_in 1410 (by decide +kernel) rfl, by decide +kernel, by decide +kernel⟩
theorem dpX8_weakest : (parseMethodDescriptor yX8_weakest.desc).map (fun d => d.parameters.length) = some 0 := by decide +kernel
theorem wyX8_weakest : bsWy yX8_weakest cX8_weakest 5 (some .int) := ⟨bsG_in 918 (by decide +kernel) rfl, bsG_in 919 (by decide +kernel) rfl, bsG_in 102 (by decide +kernel) rfl, bsG_in 920 (by decide +kernel) rfl, by decide +kernel, by decide +kernel⟩
theorem dpX8_whyNot : (parseMethodDescriptor yX8_whyNot.desc).map (fun d => d.parameters.length) = some 1 := by decide +kernel
theorem wyX8_whyNot : bsWy yX8_whyNot cX8_whyNot 2 (some .int) := ⟨bsG_in 854 (by decide +kernel) rfl, bsG_in 855 (by decide +kernel) rfl, bsG_in 102 (by decide +kernel) rfl, bsG_in 856 (by decide +kernel) rfl, by decide +kernel, by decide +kernel⟩
theorem dpX8_writeBoots : (parseMethodDescriptor yX8_writeBoots.desc).map (fun d => d.parameters.length) = some 0 := by decide +kernel
theorem wyX8_writeBoots : bsWy yX8_writeBoots cX8_writeBoots 3 (some .int) := ⟨bsG_in 1269 (by decide +kernel) rfl, bsG_in 1270 (by decide +kernel) rfl, bsG_in 102 (by decide +kernel) rfl, bsG_in 1271 (by decide +kernel) rfl, by decide +kernel, by decide +kernel⟩
theorem dpX8_writeMachine : (parseMethodDescriptor yX8_writeMachine.desc).map (fun d => d.parameters.length) = some 0 := by decide +kernel
theorem wyX8_writeMachine : bsWy yX8_writeMachine cX8_writeMachine 2 (some .int) := ⟨bsG_in 1283 (by decide +kernel) rfl, bsG_in 1284 (by decide +kernel) rfl, bsG_in 102 (by decide +kernel) rfl, bsG_in 1285 (by decide +kernel) rfl, by decide +kernel, by decide +kernel⟩
theorem dpX8_writeSlots : (parseMethodDescriptor yX8_writeSlots.desc).map (fun d => d.parameters.length) = some 0 := by decide +kernel
theorem wyX8_writeSlots : bsWy yX8_writeSlots cX8_writeSlots 2 (some .int) := ⟨bsG_in 1245 (by decide +kernel) rfl, bsG_in 1246 (by decide +kernel) rfl, bsG_in 102 (by decide +kernel) rfl, bsG_in 1247 (by decide +kernel) rfl, by decide +kernel, by decide +kernel⟩
abbrev rmL_load : Room := { frames := 10, cells := 1, slots := 6, locals := 221 }
set_option maxHeartbeats 4000000 in
set_option maxRecDepth 100000 in
theorem cL_load_ok {l : Launch} {ρ : bsR} {cA : Nat → ClassId} {dC : Nat → ClassId} {dI : Nat → Nat → Nat} (hst : l.stackTraces = false) {a1 : Int32} {X : bsX} {r : bsXr} {lo : Int64} {od : UInt64} (hf : fX8_load a1 X = some r) (hr : r.1 = 0 ∨ r.1 = 2 ∨ r.1 = 3) : bsWi l yL_load cL_load 4 (some .int) [(0, 9, 12, 13), (0, 9, 15, 15)] rmL_load ρ cA dC dI [.ref (ρ 13 0 0), .int a1, .ref (ρ 15 0 0)] X lo od ((if r.1 = 2 then (1 : Int32) else (if r.1 = 3 then (2 : Int32) else (0 : Int32))), r.2.2) (if r.1 = 0 then r.2.1.toInt64 else lo) od := by
  refine bsWi_of (by decide +kernel) (Nat.le_of_ble_eq_true rfl) (fun p e s m args below meth c C T9 => ?_)
  have C : bsCx p m c cL_load 4 s args (Cond.codeWith yL_load cL_load 4 (some .int) [(0, 9, 12, 13), (0, 9, 15, 15)] :: bsG) RL ρ cA dC dI (bsRz ρ cA lo od) meth (some .int) := C
  refine v_sub [0, 1, 2] rfl ?_
  refine v_aload_n C dL_load_0 rfl rfl ?_
  refine v_iconst (v := 0) C dL_load_1 (by decide) ?_
  refine v_aload_n C dL_load_2 rfl rfl ?_
  refine v_iload_n C dL_load_3 rfl rfl ?_
  refine v_wcalli (y := yX8_load) (As := [.int a1]) (rest := [.int 0, .ref (ρ 15 0 0)]) C T9 (cX8_load_ok hst hf) mlL_7 wyX8_load bsm_X8 bsc_X8 rfl dpX8_load ⟨Nat.le_of_ble_eq_true rfl, Nat.le_of_ble_eq_true rfl⟩ ⟨Nat.le_of_ble_eq_true rfl, Nat.le_of_ble_eq_true rfl⟩ rfl (Nat.le_of_ble_eq_true rfl) dL_load_4 (fun h0 => ?_) (fun h0 => ?_)
  · rcases hr with h1 | h1 | h1
    · omega
    · rw [h1]
      refine ⟨12, ⟨[], ⟨0, 9, 12, 13⟩, [⟨0, 9, 15, 15⟩], rfl, (fun z hz => nomatch hz), by decide, by decide, cl_13, rfl, by decide⟩, fun q9 => ?_⟩
      refine v_astore_n (lv' := [(3, .ref q9), (0, .ref (ρ 13 0 0)), (1, .int a1), (2, .ref (ρ 15 0 0))]) C dL_load_12 rfl (by decide) rfl ?_
      refine v_iconst (v := 1) C dL_load_13 (by decide) ?_
      exact v_wret C rfl (Nat.le_of_ble_eq_true rfl) (Nat.le_of_ble_eq_true rfl) dL_load_14
    · rw [h1]
      refine ⟨15, ⟨[⟨0, 9, 12, 13⟩], ⟨0, 9, 15, 15⟩, [], rfl, (by
      intro z hz
      rcases List.mem_cons.mp hz with rfl | hz
      · exact ⟨by decide, "java/lang/IndexOutOfBoundsException", by decide, by decide, cl_13⟩
      · cases hz), by decide, by decide, cl_15, rfl, by decide⟩, fun q9 => ?_⟩
      refine v_astore_n (lv' := [(3, .ref q9), (0, .ref (ρ 13 0 0)), (1, .int a1), (2, .ref (ρ 15 0 0))]) C dL_load_15 rfl (by decide) rfl ?_
      refine v_iconst (v := 2) C dL_load_16 (by decide) ?_
      exact v_wret C rfl (Nat.le_of_ble_eq_true rfl) (Nat.le_of_ble_eq_true rfl) dL_load_17
  · rw [h0]
    rw [if_pos (rfl : (0 : Nat) = 0)]
    refine v_i2l C dL_load_7 ?_
    refine v_last C dL_load_8 ?_
    have C := bsCx_Rz C r.2.1.toInt64 od
    refine v_goto (tgt := 18) C dL_load_9 (by decide) ?_
    refine v_iconst (v := 0) C dL_load_18 (by decide) ?_
    exact v_wret C rfl (Nat.le_of_ble_eq_true rfl) (Nat.le_of_ble_eq_true rfl) dL_load_19
abbrev rmL_count : Room := { frames := 8, cells := 2, slots := 12, locals := 122 }
set_option maxHeartbeats 4000000 in
set_option maxRecDepth 100000 in
theorem cL_count_ok {l : Launch} {ρ : bsR} {cA : Nat → ClassId} {dC : Nat → ClassId} {dI : Nat → Nat → Nat} (hst : l.stackTraces = false) {a1 : Int32} {X : bsX} {r : bsXr} {lo : Int64} {od : UInt64} (hf : fX8_count a1 X = some r) (hr : r.1 = 0 ∨ r.1 = 1 ∨ r.1 = 3) : bsWi l yL_count cL_count 4 (some .int) [(0, 9, 12, 20), (0, 9, 15, 15)] rmL_count ρ cA dC dI [.ref (ρ 13 0 0), .int a1, .ref (ρ 15 0 0)] X lo od ((if r.1 = 1 then (1 : Int32) else (if r.1 = 3 then (2 : Int32) else (0 : Int32))), r.2.2) (if r.1 = 0 then r.2.1.toInt64 else lo) od := by
  refine bsWi_of (by decide +kernel) (Nat.le_of_ble_eq_true rfl) (fun p e s m args below meth c C T9 => ?_)
  have C : bsCx p m c cL_count 4 s args (Cond.codeWith yL_count cL_count 4 (some .int) [(0, 9, 12, 20), (0, 9, 15, 15)] :: bsG) RL ρ cA dC dI (bsRz ρ cA lo od) meth (some .int) := C
  refine v_sub [0, 1, 2] rfl ?_
  refine v_aload_n C dL_count_0 rfl rfl ?_
  refine v_iconst (v := 0) C dL_count_1 (by decide) ?_
  refine v_aload_n C dL_count_2 rfl rfl ?_
  refine v_iload_n C dL_count_3 rfl rfl ?_
  refine v_wcalli (y := yX8_count) (As := [.int a1]) (rest := [.int 0, .ref (ρ 15 0 0)]) C T9 (cX8_count_ok hst hf) mlL_17 wyX8_count bsm_X8 bsc_X8 rfl dpX8_count ⟨Nat.le_of_ble_eq_true rfl, Nat.le_of_ble_eq_true rfl⟩ ⟨Nat.le_of_ble_eq_true rfl, Nat.le_of_ble_eq_true rfl⟩ rfl (Nat.le_of_ble_eq_true rfl) dL_count_4 (fun h0 => ?_) (fun h0 => ?_)
  · rcases hr with h1 | h1 | h1
    · omega
    · rw [h1]
      refine ⟨12, ⟨[], ⟨0, 9, 12, 20⟩, [⟨0, 9, 15, 15⟩], rfl, (fun z hz => nomatch hz), by decide, by decide, cl_20, rfl, by decide⟩, fun q9 => ?_⟩
      refine v_astore_n (lv' := [(3, .ref q9), (0, .ref (ρ 13 0 0)), (1, .int a1), (2, .ref (ρ 15 0 0))]) C dL_count_12 rfl (by decide) rfl ?_
      refine v_iconst (v := 1) C dL_count_13 (by decide) ?_
      exact v_wret C rfl (Nat.le_of_ble_eq_true rfl) (Nat.le_of_ble_eq_true rfl) dL_count_14
    · rw [h1]
      refine ⟨15, ⟨[⟨0, 9, 12, 20⟩], ⟨0, 9, 15, 15⟩, [], rfl, (by
      intro z hz
      rcases List.mem_cons.mp hz with rfl | hz
      · exact ⟨by decide, "java/lang/IllegalStateException", by decide, by decide, cl_20⟩
      · cases hz), by decide, by decide, cl_15, rfl, by decide⟩, fun q9 => ?_⟩
      refine v_astore_n (lv' := [(3, .ref q9), (0, .ref (ρ 13 0 0)), (1, .int a1), (2, .ref (ρ 15 0 0))]) C dL_count_15 rfl (by decide) rfl ?_
      refine v_iconst (v := 2) C dL_count_16 (by decide) ?_
      exact v_wret C rfl (Nat.le_of_ble_eq_true rfl) (Nat.le_of_ble_eq_true rfl) dL_count_17
  · rw [h0]
    rw [if_pos (rfl : (0 : Nat) = 0)]
    refine v_i2l C dL_count_7 ?_
    refine v_last C dL_count_8 ?_
    have C := bsCx_Rz C r.2.1.toInt64 od
    refine v_goto (tgt := 18) C dL_count_9 (by decide) ?_
    refine v_iconst (v := 0) C dL_count_18 (by decide) ?_
    exact v_wret C rfl (Nat.le_of_ble_eq_true rfl) (Nat.le_of_ble_eq_true rfl) dL_count_19
abbrev rmL_slot : Room := { frames := 9, cells := 3, slots := 18, locals := 145 }
set_option maxHeartbeats 4000000 in
set_option maxRecDepth 100000 in
theorem cL_slot_ok {l : Launch} {ρ : bsR} {cA : Nat → ClassId} {dC : Nat → ClassId} {dI : Nat → Nat → Nat} (hst : l.stackTraces = false) {a1 a2 : Int32} {X : bsX} {r : bsXr} {lo : Int64} {od : UInt64} (hf : fX8_slot a1 a2 X = some r) (hr : r.1 = 0 ∨ r.1 = 1 ∨ r.1 = 2 ∨ r.1 = 3) : bsWi l yL_slot cL_slot 5 (some .int) [(0, 10, 13, 20), (0, 10, 17, 13), (0, 10, 21, 15)] rmL_slot ρ cA dC dI [.ref (ρ 13 0 0), .int a1, .int a2, .ref (ρ 15 0 0)] X lo od ((if r.1 = 1 then (1 : Int32) else (if r.1 = 2 then (2 : Int32) else (if r.1 = 3 then (3 : Int32) else (0 : Int32)))), r.2.2) (if r.1 = 0 then r.2.1.toInt64 else lo) od := by
  refine bsWi_of (by decide +kernel) (Nat.le_of_ble_eq_true rfl) (fun p e s m args below meth c C T9 => ?_)
  have C : bsCx p m c cL_slot 5 s args (Cond.codeWith yL_slot cL_slot 5 (some .int) [(0, 10, 13, 20), (0, 10, 17, 13), (0, 10, 21, 15)] :: bsG) RL ρ cA dC dI (bsRz ρ cA lo od) meth (some .int) := C
  refine v_sub [0, 1, 2, 3] rfl ?_
  refine v_aload_n C dL_slot_0 rfl rfl ?_
  refine v_iconst (v := 0) C dL_slot_1 (by decide) ?_
  refine v_aload_n C dL_slot_2 rfl rfl ?_
  refine v_iload_n C dL_slot_3 rfl rfl ?_
  refine v_iload_n C dL_slot_4 rfl rfl ?_
  refine v_wcalli (y := yX8_slot) (As := [.int a1, .int a2]) (rest := [.int 0, .ref (ρ 15 0 0)]) C T9 (cX8_slot_ok hst hf) mlL_22 wyX8_slot bsm_X8 bsc_X8 rfl dpX8_slot ⟨Nat.le_of_ble_eq_true rfl, Nat.le_of_ble_eq_true rfl⟩ ⟨Nat.le_of_ble_eq_true rfl, Nat.le_of_ble_eq_true rfl⟩ rfl (Nat.le_of_ble_eq_true rfl) dL_slot_5 (fun h0 => ?_) (fun h0 => ?_)
  · rcases hr with h1 | h1 | h1 | h1
    · omega
    · rw [h1]
      refine ⟨13, ⟨[], ⟨0, 10, 13, 20⟩, [⟨0, 10, 17, 13⟩, ⟨0, 10, 21, 15⟩], rfl, (fun z hz => nomatch hz), by decide, by decide, cl_20, rfl, by decide⟩, fun q9 => ?_⟩
      refine v_astore (lv' := [(4, .ref q9), (0, .ref (ρ 13 0 0)), (1, .int a1), (2, .int a2), (3, .ref (ρ 15 0 0))]) C dL_slot_13 (by decide) rfl ?_
      refine v_iconst (v := 1) C dL_slot_15 (by decide) ?_
      exact v_wret C rfl (Nat.le_of_ble_eq_true rfl) (Nat.le_of_ble_eq_true rfl) dL_slot_16
    · rw [h1]
      refine ⟨17, ⟨[⟨0, 10, 13, 20⟩], ⟨0, 10, 17, 13⟩, [⟨0, 10, 21, 15⟩], rfl, (by
      intro z hz
      rcases List.mem_cons.mp hz with rfl | hz
      · exact ⟨by decide, "java/lang/IllegalStateException", by decide, by decide, cl_20⟩
      · cases hz), by decide, by decide, cl_13, rfl, by decide⟩, fun q9 => ?_⟩
      refine v_astore (lv' := [(4, .ref q9), (0, .ref (ρ 13 0 0)), (1, .int a1), (2, .int a2), (3, .ref (ρ 15 0 0))]) C dL_slot_17 (by decide) rfl ?_
      refine v_iconst (v := 2) C dL_slot_19 (by decide) ?_
      exact v_wret C rfl (Nat.le_of_ble_eq_true rfl) (Nat.le_of_ble_eq_true rfl) dL_slot_20
    · rw [h1]
      refine ⟨21, ⟨[⟨0, 10, 13, 20⟩, ⟨0, 10, 17, 13⟩], ⟨0, 10, 21, 15⟩, [], rfl, (by
      intro z hz
      rcases List.mem_cons.mp hz with rfl | hz
      · exact ⟨by decide, "java/lang/IllegalStateException", by decide, by decide, cl_20⟩
      · rcases List.mem_cons.mp hz with rfl | hz
        · exact ⟨by decide, "java/lang/IndexOutOfBoundsException", by decide, by decide, cl_13⟩
        · cases hz), by decide, by decide, cl_15, rfl, by decide⟩, fun q9 => ?_⟩
      refine v_astore (lv' := [(4, .ref q9), (0, .ref (ρ 13 0 0)), (1, .int a1), (2, .int a2), (3, .ref (ρ 15 0 0))]) C dL_slot_21 (by decide) rfl ?_
      refine v_iconst (v := 3) C dL_slot_23 (by decide) ?_
      exact v_wret C rfl (Nat.le_of_ble_eq_true rfl) (Nat.le_of_ble_eq_true rfl) dL_slot_24
  · rw [h0]
    rw [if_pos (rfl : (0 : Nat) = 0)]
    refine v_i2l C dL_slot_8 ?_
    refine v_last C dL_slot_9 ?_
    have C := bsCx_Rz C r.2.1.toInt64 od
    refine v_goto (tgt := 25) C dL_slot_10 (by decide) ?_
    refine v_iconst (v := 0) C dL_slot_25 (by decide) ?_
    exact v_wret C rfl (Nat.le_of_ble_eq_true rfl) (Nat.le_of_ble_eq_true rfl) dL_slot_26
abbrev rmL_image : Room := { frames := 9, cells := 3, slots := 18, locals := 145 }
set_option maxHeartbeats 4000000 in
set_option maxRecDepth 100000 in
theorem cL_image_ok {l : Launch} {ρ : bsR} {cA : Nat → ClassId} {dC : Nat → ClassId} {dI : Nat → Nat → Nat} (hst : l.stackTraces = false) {a1 a2 : Int32} {X : bsX} {r : bsXr} {lo : Int64} {od : UInt64} (hf : fX8_image a1 a2 X = some r) (hr : r.1 = 0 ∨ r.1 = 1 ∨ r.1 = 2 ∨ r.1 = 3) : bsWi l yL_image cL_image 5 (some .int) [(0, 10, 13, 20), (0, 10, 17, 13), (0, 10, 21, 15)] rmL_image ρ cA dC dI [.ref (ρ 13 0 0), .int a1, .int a2, .ref (ρ 15 0 0)] X lo od ((if r.1 = 1 then (1 : Int32) else (if r.1 = 2 then (2 : Int32) else (if r.1 = 3 then (3 : Int32) else (0 : Int32)))), r.2.2) (if r.1 = 0 then r.2.1.toInt64 else lo) od := by
  refine bsWi_of (by decide +kernel) (Nat.le_of_ble_eq_true rfl) (fun p e s m args below meth c C T9 => ?_)
  have C : bsCx p m c cL_image 5 s args (Cond.codeWith yL_image cL_image 5 (some .int) [(0, 10, 13, 20), (0, 10, 17, 13), (0, 10, 21, 15)] :: bsG) RL ρ cA dC dI (bsRz ρ cA lo od) meth (some .int) := C
  refine v_sub [0, 1, 2, 3] rfl ?_
  refine v_aload_n C dL_image_0 rfl rfl ?_
  refine v_iconst (v := 0) C dL_image_1 (by decide) ?_
  refine v_aload_n C dL_image_2 rfl rfl ?_
  refine v_iload_n C dL_image_3 rfl rfl ?_
  refine v_iload_n C dL_image_4 rfl rfl ?_
  refine v_wcalli (y := yX8_image) (As := [.int a1, .int a2]) (rest := [.int 0, .ref (ρ 15 0 0)]) C T9 (cX8_image_ok hst hf) mlL_26 wyX8_image bsm_X8 bsc_X8 rfl dpX8_image ⟨Nat.le_of_ble_eq_true rfl, Nat.le_of_ble_eq_true rfl⟩ ⟨Nat.le_of_ble_eq_true rfl, Nat.le_of_ble_eq_true rfl⟩ rfl (Nat.le_of_ble_eq_true rfl) dL_image_5 (fun h0 => ?_) (fun h0 => ?_)
  · rcases hr with h1 | h1 | h1 | h1
    · omega
    · rw [h1]
      refine ⟨13, ⟨[], ⟨0, 10, 13, 20⟩, [⟨0, 10, 17, 13⟩, ⟨0, 10, 21, 15⟩], rfl, (fun z hz => nomatch hz), by decide, by decide, cl_20, rfl, by decide⟩, fun q9 => ?_⟩
      refine v_astore (lv' := [(4, .ref q9), (0, .ref (ρ 13 0 0)), (1, .int a1), (2, .int a2), (3, .ref (ρ 15 0 0))]) C dL_image_13 (by decide) rfl ?_
      refine v_iconst (v := 1) C dL_image_15 (by decide) ?_
      exact v_wret C rfl (Nat.le_of_ble_eq_true rfl) (Nat.le_of_ble_eq_true rfl) dL_image_16
    · rw [h1]
      refine ⟨17, ⟨[⟨0, 10, 13, 20⟩], ⟨0, 10, 17, 13⟩, [⟨0, 10, 21, 15⟩], rfl, (by
      intro z hz
      rcases List.mem_cons.mp hz with rfl | hz
      · exact ⟨by decide, "java/lang/IllegalStateException", by decide, by decide, cl_20⟩
      · cases hz), by decide, by decide, cl_13, rfl, by decide⟩, fun q9 => ?_⟩
      refine v_astore (lv' := [(4, .ref q9), (0, .ref (ρ 13 0 0)), (1, .int a1), (2, .int a2), (3, .ref (ρ 15 0 0))]) C dL_image_17 (by decide) rfl ?_
      refine v_iconst (v := 2) C dL_image_19 (by decide) ?_
      exact v_wret C rfl (Nat.le_of_ble_eq_true rfl) (Nat.le_of_ble_eq_true rfl) dL_image_20
    · rw [h1]
      refine ⟨21, ⟨[⟨0, 10, 13, 20⟩, ⟨0, 10, 17, 13⟩], ⟨0, 10, 21, 15⟩, [], rfl, (by
      intro z hz
      rcases List.mem_cons.mp hz with rfl | hz
      · exact ⟨by decide, "java/lang/IllegalStateException", by decide, by decide, cl_20⟩
      · rcases List.mem_cons.mp hz with rfl | hz
        · exact ⟨by decide, "java/lang/IndexOutOfBoundsException", by decide, by decide, cl_13⟩
        · cases hz), by decide, by decide, cl_15, rfl, by decide⟩, fun q9 => ?_⟩
      refine v_astore (lv' := [(4, .ref q9), (0, .ref (ρ 13 0 0)), (1, .int a1), (2, .int a2), (3, .ref (ρ 15 0 0))]) C dL_image_21 (by decide) rfl ?_
      refine v_iconst (v := 3) C dL_image_23 (by decide) ?_
      exact v_wret C rfl (Nat.le_of_ble_eq_true rfl) (Nat.le_of_ble_eq_true rfl) dL_image_24
  · rw [h0]
    rw [if_pos (rfl : (0 : Nat) = 0)]
    refine v_i2l C dL_image_8 ?_
    refine v_last C dL_image_9 ?_
    have C := bsCx_Rz C r.2.1.toInt64 od
    refine v_goto (tgt := 25) C dL_image_10 (by decide) ?_
    refine v_iconst (v := 0) C dL_image_25 (by decide) ?_
    exact v_wret C rfl (Nat.le_of_ble_eq_true rfl) (Nat.le_of_ble_eq_true rfl) dL_image_26
abbrev rmL_install : Room := { frames := 8, cells := 2, slots := 12, locals := 125 }
set_option maxHeartbeats 4000000 in
set_option maxRecDepth 100000 in
theorem cL_install_ok {l : Launch} {ρ : bsR} {cA : Nat → ClassId} {dC : Nat → ClassId} {dI : Nat → Nat → Nat} (hst : l.stackTraces = false) {a1 : Int32} {X : bsX} {r : bsXr} {lo : Int64} {od : UInt64} (hf : fX8_install a1 X = some r) (hr : r.1 = 0 ∨ r.1 = 1 ∨ r.1 = 3) : bsWi l yL_install cL_install 4 (some .int) [(0, 9, 12, 20), (0, 9, 15, 15)] rmL_install ρ cA dC dI [.ref (ρ 13 0 0), .int a1, .ref (ρ 15 0 0)] X lo od ((if r.1 = 1 then (1 : Int32) else (if r.1 = 3 then (2 : Int32) else (0 : Int32))), r.2.2) (if r.1 = 0 then r.2.1.toInt64 else lo) od := by
  refine bsWi_of (by decide +kernel) (Nat.le_of_ble_eq_true rfl) (fun p e s m args below meth c C T9 => ?_)
  have C : bsCx p m c cL_install 4 s args (Cond.codeWith yL_install cL_install 4 (some .int) [(0, 9, 12, 20), (0, 9, 15, 15)] :: bsG) RL ρ cA dC dI (bsRz ρ cA lo od) meth (some .int) := C
  refine v_sub [0, 1, 2] rfl ?_
  refine v_aload_n C dL_install_0 rfl rfl ?_
  refine v_iconst (v := 0) C dL_install_1 (by decide) ?_
  refine v_aload_n C dL_install_2 rfl rfl ?_
  refine v_iload_n C dL_install_3 rfl rfl ?_
  refine v_wcalli (y := yX8_install) (As := [.int a1]) (rest := [.int 0, .ref (ρ 15 0 0)]) C T9 (cX8_install_ok hst hf) mlL_29 wyX8_install bsm_X8 bsc_X8 rfl dpX8_install ⟨Nat.le_of_ble_eq_true rfl, Nat.le_of_ble_eq_true rfl⟩ ⟨Nat.le_of_ble_eq_true rfl, Nat.le_of_ble_eq_true rfl⟩ rfl (Nat.le_of_ble_eq_true rfl) dL_install_4 (fun h0 => ?_) (fun h0 => ?_)
  · rcases hr with h1 | h1 | h1
    · omega
    · rw [h1]
      refine ⟨12, ⟨[], ⟨0, 9, 12, 20⟩, [⟨0, 9, 15, 15⟩], rfl, (fun z hz => nomatch hz), by decide, by decide, cl_20, rfl, by decide⟩, fun q9 => ?_⟩
      refine v_astore_n (lv' := [(3, .ref q9), (0, .ref (ρ 13 0 0)), (1, .int a1), (2, .ref (ρ 15 0 0))]) C dL_install_12 rfl (by decide) rfl ?_
      refine v_iconst (v := 1) C dL_install_13 (by decide) ?_
      exact v_wret C rfl (Nat.le_of_ble_eq_true rfl) (Nat.le_of_ble_eq_true rfl) dL_install_14
    · rw [h1]
      refine ⟨15, ⟨[⟨0, 9, 12, 20⟩], ⟨0, 9, 15, 15⟩, [], rfl, (by
      intro z hz
      rcases List.mem_cons.mp hz with rfl | hz
      · exact ⟨by decide, "java/lang/IllegalStateException", by decide, by decide, cl_20⟩
      · cases hz), by decide, by decide, cl_15, rfl, by decide⟩, fun q9 => ?_⟩
      refine v_astore_n (lv' := [(3, .ref q9), (0, .ref (ρ 13 0 0)), (1, .int a1), (2, .ref (ρ 15 0 0))]) C dL_install_15 rfl (by decide) rfl ?_
      refine v_iconst (v := 2) C dL_install_16 (by decide) ?_
      exact v_wret C rfl (Nat.le_of_ble_eq_true rfl) (Nat.le_of_ble_eq_true rfl) dL_install_17
  · rw [h0]
    rw [if_pos (rfl : (0 : Nat) = 0)]
    refine v_i2l C dL_install_7 ?_
    refine v_last C dL_install_8 ?_
    have C := bsCx_Rz C r.2.1.toInt64 od
    refine v_goto (tgt := 18) C dL_install_9 (by decide) ?_
    refine v_iconst (v := 0) C dL_install_18 (by decide) ?_
    exact v_wret C rfl (Nat.le_of_ble_eq_true rfl) (Nat.le_of_ble_eq_true rfl) dL_install_19
abbrev rmL_boot : Room := { frames := 8, cells := 2, slots := 12, locals := 126 }
set_option maxHeartbeats 4000000 in
set_option maxRecDepth 100000 in
theorem cL_boot_ok {l : Launch} {ρ : bsR} {cA : Nat → ClassId} {dC : Nat → ClassId} {dI : Nat → Nat → Nat} (hst : l.stackTraces = false) {a1 a2 : Int32} {X : bsX} {r : bsXr} {lo : Int64} {od : UInt64} (hf : fX8_boot a1 a2 X = some r) (hr : r.1 = 0 ∨ r.1 = 1 ∨ r.1 = 3) : bsWi l yL_boot cL_boot 5 (some .int) [(0, 10, 13, 20), (0, 10, 17, 15)] rmL_boot ρ cA dC dI [.ref (ρ 13 0 0), .int a1, .int a2, .ref (ρ 15 0 0)] X lo od ((if r.1 = 1 then (1 : Int32) else (if r.1 = 3 then (2 : Int32) else (0 : Int32))), r.2.2) (if r.1 = 0 then r.2.1.toInt64 else lo) od := by
  refine bsWi_of (by decide +kernel) (Nat.le_of_ble_eq_true rfl) (fun p e s m args below meth c C T9 => ?_)
  have C : bsCx p m c cL_boot 5 s args (Cond.codeWith yL_boot cL_boot 5 (some .int) [(0, 10, 13, 20), (0, 10, 17, 15)] :: bsG) RL ρ cA dC dI (bsRz ρ cA lo od) meth (some .int) := C
  refine v_sub [0, 1, 2, 3] rfl ?_
  refine v_aload_n C dL_boot_0 rfl rfl ?_
  refine v_iconst (v := 0) C dL_boot_1 (by decide) ?_
  refine v_aload_n C dL_boot_2 rfl rfl ?_
  refine v_iload_n C dL_boot_3 rfl rfl ?_
  refine v_iload_n C dL_boot_4 rfl rfl ?_
  refine v_wcalli (y := yX8_boot) (As := [.int a1, .int a2]) (rest := [.int 0, .ref (ρ 15 0 0)]) C T9 (cX8_boot_ok hst hf) mlL_32 wyX8_boot bsm_X8 bsc_X8 rfl dpX8_boot ⟨Nat.le_of_ble_eq_true rfl, Nat.le_of_ble_eq_true rfl⟩ ⟨Nat.le_of_ble_eq_true rfl, Nat.le_of_ble_eq_true rfl⟩ rfl (Nat.le_of_ble_eq_true rfl) dL_boot_5 (fun h0 => ?_) (fun h0 => ?_)
  · rcases hr with h1 | h1 | h1
    · omega
    · rw [h1]
      refine ⟨13, ⟨[], ⟨0, 10, 13, 20⟩, [⟨0, 10, 17, 15⟩], rfl, (fun z hz => nomatch hz), by decide, by decide, cl_20, rfl, by decide⟩, fun q9 => ?_⟩
      refine v_astore (lv' := [(4, .ref q9), (0, .ref (ρ 13 0 0)), (1, .int a1), (2, .int a2), (3, .ref (ρ 15 0 0))]) C dL_boot_13 (by decide) rfl ?_
      refine v_iconst (v := 1) C dL_boot_15 (by decide) ?_
      exact v_wret C rfl (Nat.le_of_ble_eq_true rfl) (Nat.le_of_ble_eq_true rfl) dL_boot_16
    · rw [h1]
      refine ⟨17, ⟨[⟨0, 10, 13, 20⟩], ⟨0, 10, 17, 15⟩, [], rfl, (by
      intro z hz
      rcases List.mem_cons.mp hz with rfl | hz
      · exact ⟨by decide, "java/lang/IllegalStateException", by decide, by decide, cl_20⟩
      · cases hz), by decide, by decide, cl_15, rfl, by decide⟩, fun q9 => ?_⟩
      refine v_astore (lv' := [(4, .ref q9), (0, .ref (ρ 13 0 0)), (1, .int a1), (2, .int a2), (3, .ref (ρ 15 0 0))]) C dL_boot_17 (by decide) rfl ?_
      refine v_iconst (v := 2) C dL_boot_19 (by decide) ?_
      exact v_wret C rfl (Nat.le_of_ble_eq_true rfl) (Nat.le_of_ble_eq_true rfl) dL_boot_20
  · rw [h0]
    rw [if_pos (rfl : (0 : Nat) = 0)]
    refine v_i2l C dL_boot_8 ?_
    refine v_last C dL_boot_9 ?_
    have C := bsCx_Rz C r.2.1.toInt64 od
    refine v_goto (tgt := 21) C dL_boot_10 (by decide) ?_
    refine v_iconst (v := 0) C dL_boot_21 (by decide) ?_
    exact v_wret C rfl (Nat.le_of_ble_eq_true rfl) (Nat.le_of_ble_eq_true rfl) dL_boot_22
abbrev rmL_whyNot : Room := { frames := 9, cells := 2, slots := 12, locals := 143 }
set_option maxHeartbeats 4000000 in
set_option maxRecDepth 100000 in
theorem cL_whyNot_ok {l : Launch} {ρ : bsR} {cA : Nat → ClassId} {dC : Nat → ClassId} {dI : Nat → Nat → Nat} (hst : l.stackTraces = false) {a1 : Int32} {X : bsX} {r : bsXr} {lo : Int64} {od : UInt64} (hf : fX8_whyNot a1 X = some r) (hr : r.1 = 0 ∨ r.1 = 1 ∨ r.1 = 2) : bsWi l yL_whyNot cL_whyNot 4 (some .int) [(0, 9, 12, 20), (0, 9, 15, 13)] rmL_whyNot ρ cA dC dI [.ref (ρ 13 0 0), .int a1, .ref (ρ 15 0 0)] X lo od ((if r.1 = 1 then (1 : Int32) else (if r.1 = 2 then (2 : Int32) else (0 : Int32))), r.2.2) (if r.1 = 0 then r.2.1.toInt64 else lo) od := by
  refine bsWi_of (by decide +kernel) (Nat.le_of_ble_eq_true rfl) (fun p e s m args below meth c C T9 => ?_)
  have C : bsCx p m c cL_whyNot 4 s args (Cond.codeWith yL_whyNot cL_whyNot 4 (some .int) [(0, 9, 12, 20), (0, 9, 15, 13)] :: bsG) RL ρ cA dC dI (bsRz ρ cA lo od) meth (some .int) := C
  refine v_sub [0, 1, 2] rfl ?_
  refine v_aload_n C dL_whyNot_0 rfl rfl ?_
  refine v_iconst (v := 0) C dL_whyNot_1 (by decide) ?_
  refine v_aload_n C dL_whyNot_2 rfl rfl ?_
  refine v_iload_n C dL_whyNot_3 rfl rfl ?_
  refine v_wcalli (y := yX8_whyNot) (As := [.int a1]) (rest := [.int 0, .ref (ρ 15 0 0)]) C T9 (cX8_whyNot_ok hst hf) mlL_35 wyX8_whyNot bsm_X8 bsc_X8 rfl dpX8_whyNot ⟨Nat.le_of_ble_eq_true rfl, Nat.le_of_ble_eq_true rfl⟩ ⟨Nat.le_of_ble_eq_true rfl, Nat.le_of_ble_eq_true rfl⟩ rfl (Nat.le_of_ble_eq_true rfl) dL_whyNot_4 (fun h0 => ?_) (fun h0 => ?_)
  · rcases hr with h1 | h1 | h1
    · omega
    · rw [h1]
      refine ⟨12, ⟨[], ⟨0, 9, 12, 20⟩, [⟨0, 9, 15, 13⟩], rfl, (fun z hz => nomatch hz), by decide, by decide, cl_20, rfl, by decide⟩, fun q9 => ?_⟩
      refine v_astore_n (lv' := [(3, .ref q9), (0, .ref (ρ 13 0 0)), (1, .int a1), (2, .ref (ρ 15 0 0))]) C dL_whyNot_12 rfl (by decide) rfl ?_
      refine v_iconst (v := 1) C dL_whyNot_13 (by decide) ?_
      exact v_wret C rfl (Nat.le_of_ble_eq_true rfl) (Nat.le_of_ble_eq_true rfl) dL_whyNot_14
    · rw [h1]
      refine ⟨15, ⟨[⟨0, 9, 12, 20⟩], ⟨0, 9, 15, 13⟩, [], rfl, (by
      intro z hz
      rcases List.mem_cons.mp hz with rfl | hz
      · exact ⟨by decide, "java/lang/IllegalStateException", by decide, by decide, cl_20⟩
      · cases hz), by decide, by decide, cl_13, rfl, by decide⟩, fun q9 => ?_⟩
      refine v_astore_n (lv' := [(3, .ref q9), (0, .ref (ρ 13 0 0)), (1, .int a1), (2, .ref (ρ 15 0 0))]) C dL_whyNot_15 rfl (by decide) rfl ?_
      refine v_iconst (v := 2) C dL_whyNot_16 (by decide) ?_
      exact v_wret C rfl (Nat.le_of_ble_eq_true rfl) (Nat.le_of_ble_eq_true rfl) dL_whyNot_17
  · rw [h0]
    rw [if_pos (rfl : (0 : Nat) = 0)]
    refine v_i2l C dL_whyNot_7 ?_
    refine v_last C dL_whyNot_8 ?_
    have C := bsCx_Rz C r.2.1.toInt64 od
    refine v_goto (tgt := 18) C dL_whyNot_9 (by decide) ?_
    refine v_iconst (v := 0) C dL_whyNot_18 (by decide) ?_
    exact v_wret C rfl (Nat.le_of_ble_eq_true rfl) (Nat.le_of_ble_eq_true rfl) dL_whyNot_19
abbrev rmL_choice : Room := { frames := 8, cells := 1, slots := 6, locals := 121 }
set_option maxHeartbeats 4000000 in
set_option maxRecDepth 100000 in
theorem cL_choice_ok {l : Launch} {ρ : bsR} {cA : Nat → ClassId} {dC : Nat → ClassId} {dI : Nat → Nat → Nat} (hst : l.stackTraces = false) {X : bsX} {r : bsXr} {lo : Int64} {od : UInt64} (hf : fX8_choice  X = some r) (hr : r.1 = 0 ∨ r.1 = 1) : bsWi l yL_choice cL_choice 3 (some .int) [(0, 8, 11, 20)] rmL_choice ρ cA dC dI [.ref (ρ 13 0 0), .ref (ρ 15 0 0)] X lo od ((if r.1 = 1 then (1 : Int32) else (0 : Int32)), r.2.2) (if r.1 = 0 then r.2.1.toInt64 else lo) od := by
  refine bsWi_of (by decide +kernel) (Nat.le_of_ble_eq_true rfl) (fun p e s m args below meth c C T9 => ?_)
  have C : bsCx p m c cL_choice 3 s args (Cond.codeWith yL_choice cL_choice 3 (some .int) [(0, 8, 11, 20)] :: bsG) RL ρ cA dC dI (bsRz ρ cA lo od) meth (some .int) := C
  refine v_sub [0, 1] rfl ?_
  refine v_aload_n C dL_choice_0 rfl rfl ?_
  refine v_iconst (v := 0) C dL_choice_1 (by decide) ?_
  refine v_aload_n C dL_choice_2 rfl rfl ?_
  refine v_wcalli (y := yX8_choice) (As := []) (rest := [.int 0, .ref (ρ 15 0 0)]) C T9 (cX8_choice_ok hst hf) mlL_38 wyX8_choice bsm_X8 bsc_X8 rfl dpX8_choice ⟨Nat.le_of_ble_eq_true rfl, Nat.le_of_ble_eq_true rfl⟩ ⟨Nat.le_of_ble_eq_true rfl, Nat.le_of_ble_eq_true rfl⟩ rfl (Nat.le_of_ble_eq_true rfl) dL_choice_3 (fun h0 => ?_) (fun h0 => ?_)
  · rcases hr with h1 | h1
    · omega
    · rw [h1]
      refine ⟨11, ⟨[], ⟨0, 8, 11, 20⟩, [], rfl, (fun z hz => nomatch hz), by decide, by decide, cl_20, rfl, by decide⟩, fun q9 => ?_⟩
      refine v_astore_n (lv' := [(2, .ref q9), (0, .ref (ρ 13 0 0)), (1, .ref (ρ 15 0 0))]) C dL_choice_11 rfl (by decide) rfl ?_
      refine v_iconst (v := 1) C dL_choice_12 (by decide) ?_
      exact v_wret C rfl (Nat.le_of_ble_eq_true rfl) (Nat.le_of_ble_eq_true rfl) dL_choice_13
  · rw [h0]
    rw [if_pos (rfl : (0 : Nat) = 0)]
    refine v_i2l C dL_choice_6 ?_
    refine v_last C dL_choice_7 ?_
    have C := bsCx_Rz C r.2.1.toInt64 od
    refine v_goto (tgt := 14) C dL_choice_8 (by decide) ?_
    refine v_iconst (v := 0) C dL_choice_14 (by decide) ?_
    exact v_wret C rfl (Nat.le_of_ble_eq_true rfl) (Nat.le_of_ble_eq_true rfl) dL_choice_15
abbrev rmL_place : Room := { frames := 9, cells := 2, slots := 12, locals := 147 }
set_option maxHeartbeats 4000000 in
set_option maxRecDepth 100000 in
theorem cL_place_ok {l : Launch} {ρ : bsR} {cA : Nat → ClassId} {dC : Nat → ClassId} {dI : Nat → Nat → Nat} (hst : l.stackTraces = false) {a1 : Int32} {X : bsX} {r : bsXr} {lo : Int64} {od : UInt64} (hf : fX8_place a1 X = some r) (hr : r.1 = 0 ∨ r.1 = 1 ∨ r.1 = 2) : bsWi l yL_place cL_place 4 (some .int) [(0, 9, 12, 20), (0, 9, 15, 13)] rmL_place ρ cA dC dI [.ref (ρ 13 0 0), .int a1, .ref (ρ 15 0 0)] X lo od ((if r.1 = 1 then (1 : Int32) else (if r.1 = 2 then (2 : Int32) else (0 : Int32))), r.2.2) (if r.1 = 0 then r.2.1.toInt64 else lo) od := by
  refine bsWi_of (by decide +kernel) (Nat.le_of_ble_eq_true rfl) (fun p e s m args below meth c C T9 => ?_)
  have C : bsCx p m c cL_place 4 s args (Cond.codeWith yL_place cL_place 4 (some .int) [(0, 9, 12, 20), (0, 9, 15, 13)] :: bsG) RL ρ cA dC dI (bsRz ρ cA lo od) meth (some .int) := C
  refine v_sub [0, 1, 2] rfl ?_
  refine v_aload_n C dL_place_0 rfl rfl ?_
  refine v_iconst (v := 0) C dL_place_1 (by decide) ?_
  refine v_aload_n C dL_place_2 rfl rfl ?_
  refine v_iload_n C dL_place_3 rfl rfl ?_
  refine v_wcalli (y := yX8_place) (As := [.int a1]) (rest := [.int 0, .ref (ρ 15 0 0)]) C T9 (cX8_place_ok hst hf) mlL_42 wyX8_place bsm_X8 bsc_X8 rfl dpX8_place ⟨Nat.le_of_ble_eq_true rfl, Nat.le_of_ble_eq_true rfl⟩ ⟨Nat.le_of_ble_eq_true rfl, Nat.le_of_ble_eq_true rfl⟩ rfl (Nat.le_of_ble_eq_true rfl) dL_place_4 (fun h0 => ?_) (fun h0 => ?_)
  · rcases hr with h1 | h1 | h1
    · omega
    · rw [h1]
      refine ⟨12, ⟨[], ⟨0, 9, 12, 20⟩, [⟨0, 9, 15, 13⟩], rfl, (fun z hz => nomatch hz), by decide, by decide, cl_20, rfl, by decide⟩, fun q9 => ?_⟩
      refine v_astore_n (lv' := [(3, .ref q9), (0, .ref (ρ 13 0 0)), (1, .int a1), (2, .ref (ρ 15 0 0))]) C dL_place_12 rfl (by decide) rfl ?_
      refine v_iconst (v := 1) C dL_place_13 (by decide) ?_
      exact v_wret C rfl (Nat.le_of_ble_eq_true rfl) (Nat.le_of_ble_eq_true rfl) dL_place_14
    · rw [h1]
      refine ⟨15, ⟨[⟨0, 9, 12, 20⟩], ⟨0, 9, 15, 13⟩, [], rfl, (by
      intro z hz
      rcases List.mem_cons.mp hz with rfl | hz
      · exact ⟨by decide, "java/lang/IllegalStateException", by decide, by decide, cl_20⟩
      · cases hz), by decide, by decide, cl_13, rfl, by decide⟩, fun q9 => ?_⟩
      refine v_astore_n (lv' := [(3, .ref q9), (0, .ref (ρ 13 0 0)), (1, .int a1), (2, .ref (ρ 15 0 0))]) C dL_place_15 rfl (by decide) rfl ?_
      refine v_iconst (v := 2) C dL_place_16 (by decide) ?_
      exact v_wret C rfl (Nat.le_of_ble_eq_true rfl) (Nat.le_of_ble_eq_true rfl) dL_place_17
  · rw [h0]
    rw [if_pos (rfl : (0 : Nat) = 0)]
    refine v_i2l C dL_place_7 ?_
    refine v_last C dL_place_8 ?_
    have C := bsCx_Rz C r.2.1.toInt64 od
    refine v_goto (tgt := 18) C dL_place_9 (by decide) ?_
    refine v_iconst (v := 0) C dL_place_18 (by decide) ?_
    exact v_wret C rfl (Nat.le_of_ble_eq_true rfl) (Nat.le_of_ble_eq_true rfl) dL_place_19
abbrev rmL_newest : Room := { frames := 8, cells := 1, slots := 6, locals := 125 }
set_option maxHeartbeats 4000000 in
set_option maxRecDepth 100000 in
theorem cL_newest_ok {l : Launch} {ρ : bsR} {cA : Nat → ClassId} {dC : Nat → ClassId} {dI : Nat → Nat → Nat} (hst : l.stackTraces = false) {X : bsX} {r : bsXr} {lo : Int64} {od : UInt64} (hf : fX8_newest  X = some r) (hr : r.1 = 0 ∨ r.1 = 1) : bsWi l yL_newest cL_newest 3 (some .int) [(0, 8, 11, 20)] rmL_newest ρ cA dC dI [.ref (ρ 13 0 0), .ref (ρ 15 0 0)] X lo od ((if r.1 = 1 then (1 : Int32) else (0 : Int32)), r.2.2) (if r.1 = 0 then r.2.1.toInt64 else lo) od := by
  refine bsWi_of (by decide +kernel) (Nat.le_of_ble_eq_true rfl) (fun p e s m args below meth c C T9 => ?_)
  have C : bsCx p m c cL_newest 3 s args (Cond.codeWith yL_newest cL_newest 3 (some .int) [(0, 8, 11, 20)] :: bsG) RL ρ cA dC dI (bsRz ρ cA lo od) meth (some .int) := C
  refine v_sub [0, 1] rfl ?_
  refine v_aload_n C dL_newest_0 rfl rfl ?_
  refine v_iconst (v := 0) C dL_newest_1 (by decide) ?_
  refine v_aload_n C dL_newest_2 rfl rfl ?_
  refine v_wcalli (y := yX8_newest) (As := []) (rest := [.int 0, .ref (ρ 15 0 0)]) C T9 (cX8_newest_ok hst hf) mlL_45 wyX8_newest bsm_X8 bsc_X8 rfl dpX8_newest ⟨Nat.le_of_ble_eq_true rfl, Nat.le_of_ble_eq_true rfl⟩ ⟨Nat.le_of_ble_eq_true rfl, Nat.le_of_ble_eq_true rfl⟩ rfl (Nat.le_of_ble_eq_true rfl) dL_newest_3 (fun h0 => ?_) (fun h0 => ?_)
  · rcases hr with h1 | h1
    · omega
    · rw [h1]
      refine ⟨11, ⟨[], ⟨0, 8, 11, 20⟩, [], rfl, (fun z hz => nomatch hz), by decide, by decide, cl_20, rfl, by decide⟩, fun q9 => ?_⟩
      refine v_astore_n (lv' := [(2, .ref q9), (0, .ref (ρ 13 0 0)), (1, .ref (ρ 15 0 0))]) C dL_newest_11 rfl (by decide) rfl ?_
      refine v_iconst (v := 1) C dL_newest_12 (by decide) ?_
      exact v_wret C rfl (Nat.le_of_ble_eq_true rfl) (Nat.le_of_ble_eq_true rfl) dL_newest_13
  · rw [h0]
    rw [if_pos (rfl : (0 : Nat) = 0)]
    refine v_i2l C dL_newest_6 ?_
    refine v_last C dL_newest_7 ?_
    have C := bsCx_Rz C r.2.1.toInt64 od
    refine v_goto (tgt := 14) C dL_newest_8 (by decide) ?_
    refine v_iconst (v := 0) C dL_newest_14 (by decide) ?_
    exact v_wret C rfl (Nat.le_of_ble_eq_true rfl) (Nat.le_of_ble_eq_true rfl) dL_newest_15
abbrev rmL_spare : Room := { frames := 8, cells := 1, slots := 6, locals := 124 }
set_option maxHeartbeats 4000000 in
set_option maxRecDepth 100000 in
theorem cL_spare_ok {l : Launch} {ρ : bsR} {cA : Nat → ClassId} {dC : Nat → ClassId} {dI : Nat → Nat → Nat} (hst : l.stackTraces = false) {X : bsX} {r : bsXr} {lo : Int64} {od : UInt64} (hf : fX8_spare  X = some r) (hr : r.1 = 0 ∨ r.1 = 1) : bsWi l yL_spare cL_spare 3 (some .int) [(0, 8, 11, 20)] rmL_spare ρ cA dC dI [.ref (ρ 13 0 0), .ref (ρ 15 0 0)] X lo od ((if r.1 = 1 then (1 : Int32) else (0 : Int32)), r.2.2) (if r.1 = 0 then r.2.1.toInt64 else lo) od := by
  refine bsWi_of (by decide +kernel) (Nat.le_of_ble_eq_true rfl) (fun p e s m args below meth c C T9 => ?_)
  have C : bsCx p m c cL_spare 3 s args (Cond.codeWith yL_spare cL_spare 3 (some .int) [(0, 8, 11, 20)] :: bsG) RL ρ cA dC dI (bsRz ρ cA lo od) meth (some .int) := C
  refine v_sub [0, 1] rfl ?_
  refine v_aload_n C dL_spare_0 rfl rfl ?_
  refine v_iconst (v := 0) C dL_spare_1 (by decide) ?_
  refine v_aload_n C dL_spare_2 rfl rfl ?_
  refine v_wcalli (y := yX8_spare) (As := []) (rest := [.int 0, .ref (ρ 15 0 0)]) C T9 (cX8_spare_ok hst hf) mlL_48 wyX8_spare bsm_X8 bsc_X8 rfl dpX8_spare ⟨Nat.le_of_ble_eq_true rfl, Nat.le_of_ble_eq_true rfl⟩ ⟨Nat.le_of_ble_eq_true rfl, Nat.le_of_ble_eq_true rfl⟩ rfl (Nat.le_of_ble_eq_true rfl) dL_spare_3 (fun h0 => ?_) (fun h0 => ?_)
  · rcases hr with h1 | h1
    · omega
    · rw [h1]
      refine ⟨11, ⟨[], ⟨0, 8, 11, 20⟩, [], rfl, (fun z hz => nomatch hz), by decide, by decide, cl_20, rfl, by decide⟩, fun q9 => ?_⟩
      refine v_astore_n (lv' := [(2, .ref q9), (0, .ref (ρ 13 0 0)), (1, .ref (ρ 15 0 0))]) C dL_spare_11 rfl (by decide) rfl ?_
      refine v_iconst (v := 1) C dL_spare_12 (by decide) ?_
      exact v_wret C rfl (Nat.le_of_ble_eq_true rfl) (Nat.le_of_ble_eq_true rfl) dL_spare_13
  · rw [h0]
    rw [if_pos (rfl : (0 : Nat) = 0)]
    refine v_i2l C dL_spare_6 ?_
    refine v_last C dL_spare_7 ?_
    have C := bsCx_Rz C r.2.1.toInt64 od
    refine v_goto (tgt := 14) C dL_spare_8 (by decide) ?_
    refine v_iconst (v := 0) C dL_spare_14 (by decide) ?_
    exact v_wret C rfl (Nat.le_of_ble_eq_true rfl) (Nat.le_of_ble_eq_true rfl) dL_spare_15
abbrev rmL_fallback : Room := { frames := 8, cells := 1, slots := 6, locals := 121 }
set_option maxHeartbeats 4000000 in
set_option maxRecDepth 100000 in
theorem cL_fallback_ok {l : Launch} {ρ : bsR} {cA : Nat → ClassId} {dC : Nat → ClassId} {dI : Nat → Nat → Nat} (hst : l.stackTraces = false) {X : bsX} {r : bsXr} {lo : Int64} {od : UInt64} (hf : fX8_fallback  X = some r) (hr : r.1 = 0 ∨ r.1 = 1) : bsWi l yL_fallback cL_fallback 3 (some .int) [(0, 8, 11, 20)] rmL_fallback ρ cA dC dI [.ref (ρ 13 0 0), .ref (ρ 15 0 0)] X lo od ((if r.1 = 1 then (1 : Int32) else (0 : Int32)), r.2.2) (if r.1 = 0 then r.2.1.toInt64 else lo) od := by
  refine bsWi_of (by decide +kernel) (Nat.le_of_ble_eq_true rfl) (fun p e s m args below meth c C T9 => ?_)
  have C : bsCx p m c cL_fallback 3 s args (Cond.codeWith yL_fallback cL_fallback 3 (some .int) [(0, 8, 11, 20)] :: bsG) RL ρ cA dC dI (bsRz ρ cA lo od) meth (some .int) := C
  refine v_sub [0, 1] rfl ?_
  refine v_aload_n C dL_fallback_0 rfl rfl ?_
  refine v_iconst (v := 0) C dL_fallback_1 (by decide) ?_
  refine v_aload_n C dL_fallback_2 rfl rfl ?_
  refine v_wcalli (y := yX8_fallback) (As := []) (rest := [.int 0, .ref (ρ 15 0 0)]) C T9 (cX8_fallback_ok hst hf) mlL_51 wyX8_fallback bsm_X8 bsc_X8 rfl dpX8_fallback ⟨Nat.le_of_ble_eq_true rfl, Nat.le_of_ble_eq_true rfl⟩ ⟨Nat.le_of_ble_eq_true rfl, Nat.le_of_ble_eq_true rfl⟩ rfl (Nat.le_of_ble_eq_true rfl) dL_fallback_3 (fun h0 => ?_) (fun h0 => ?_)
  · rcases hr with h1 | h1
    · omega
    · rw [h1]
      refine ⟨11, ⟨[], ⟨0, 8, 11, 20⟩, [], rfl, (fun z hz => nomatch hz), by decide, by decide, cl_20, rfl, by decide⟩, fun q9 => ?_⟩
      refine v_astore_n (lv' := [(2, .ref q9), (0, .ref (ρ 13 0 0)), (1, .ref (ρ 15 0 0))]) C dL_fallback_11 rfl (by decide) rfl ?_
      refine v_iconst (v := 1) C dL_fallback_12 (by decide) ?_
      exact v_wret C rfl (Nat.le_of_ble_eq_true rfl) (Nat.le_of_ble_eq_true rfl) dL_fallback_13
  · rw [h0]
    rw [if_pos (rfl : (0 : Nat) = 0)]
    refine v_i2l C dL_fallback_6 ?_
    refine v_last C dL_fallback_7 ?_
    have C := bsCx_Rz C r.2.1.toInt64 od
    refine v_goto (tgt := 14) C dL_fallback_8 (by decide) ?_
    refine v_iconst (v := 0) C dL_fallback_14 (by decide) ?_
    exact v_wret C rfl (Nat.le_of_ble_eq_true rfl) (Nat.le_of_ble_eq_true rfl) dL_fallback_15
abbrev rmL_weakest : Room := { frames := 8, cells := 1, slots := 6, locals := 125 }
set_option maxHeartbeats 4000000 in
set_option maxRecDepth 100000 in
theorem cL_weakest_ok {l : Launch} {ρ : bsR} {cA : Nat → ClassId} {dC : Nat → ClassId} {dI : Nat → Nat → Nat} (hst : l.stackTraces = false) {X : bsX} {r : bsXr} {lo : Int64} {od : UInt64} (hf : fX8_weakest  X = some r) (hr : r.1 = 0 ∨ r.1 = 1) : bsWi l yL_weakest cL_weakest 3 (some .int) [(0, 8, 11, 20)] rmL_weakest ρ cA dC dI [.ref (ρ 13 0 0), .ref (ρ 15 0 0)] X lo od ((if r.1 = 1 then (1 : Int32) else (0 : Int32)), r.2.2) (if r.1 = 0 then r.2.1.toInt64 else lo) od := by
  refine bsWi_of (by decide +kernel) (Nat.le_of_ble_eq_true rfl) (fun p e s m args below meth c C T9 => ?_)
  have C : bsCx p m c cL_weakest 3 s args (Cond.codeWith yL_weakest cL_weakest 3 (some .int) [(0, 8, 11, 20)] :: bsG) RL ρ cA dC dI (bsRz ρ cA lo od) meth (some .int) := C
  refine v_sub [0, 1] rfl ?_
  refine v_aload_n C dL_weakest_0 rfl rfl ?_
  refine v_iconst (v := 0) C dL_weakest_1 (by decide) ?_
  refine v_aload_n C dL_weakest_2 rfl rfl ?_
  refine v_wcalli (y := yX8_weakest) (As := []) (rest := [.int 0, .ref (ρ 15 0 0)]) C T9 (cX8_weakest_ok hst hf) mlL_54 wyX8_weakest bsm_X8 bsc_X8 rfl dpX8_weakest ⟨Nat.le_of_ble_eq_true rfl, Nat.le_of_ble_eq_true rfl⟩ ⟨Nat.le_of_ble_eq_true rfl, Nat.le_of_ble_eq_true rfl⟩ rfl (Nat.le_of_ble_eq_true rfl) dL_weakest_3 (fun h0 => ?_) (fun h0 => ?_)
  · rcases hr with h1 | h1
    · omega
    · rw [h1]
      refine ⟨11, ⟨[], ⟨0, 8, 11, 20⟩, [], rfl, (fun z hz => nomatch hz), by decide, by decide, cl_20, rfl, by decide⟩, fun q9 => ?_⟩
      refine v_astore_n (lv' := [(2, .ref q9), (0, .ref (ρ 13 0 0)), (1, .ref (ρ 15 0 0))]) C dL_weakest_11 rfl (by decide) rfl ?_
      refine v_iconst (v := 1) C dL_weakest_12 (by decide) ?_
      exact v_wret C rfl (Nat.le_of_ble_eq_true rfl) (Nat.le_of_ble_eq_true rfl) dL_weakest_13
  · rw [h0]
    rw [if_pos (rfl : (0 : Nat) = 0)]
    refine v_i2l C dL_weakest_6 ?_
    refine v_last C dL_weakest_7 ?_
    have C := bsCx_Rz C r.2.1.toInt64 od
    refine v_goto (tgt := 14) C dL_weakest_8 (by decide) ?_
    refine v_iconst (v := 0) C dL_weakest_14 (by decide) ?_
    exact v_wret C rfl (Nat.le_of_ble_eq_true rfl) (Nat.le_of_ble_eq_true rfl) dL_weakest_15
abbrev rmL_twins : Room := { frames := 9, cells := 2, slots := 12, locals := 147 }
set_option maxHeartbeats 4000000 in
set_option maxRecDepth 100000 in
theorem cL_twins_ok {l : Launch} {ρ : bsR} {cA : Nat → ClassId} {dC : Nat → ClassId} {dI : Nat → Nat → Nat} (hst : l.stackTraces = false) {a1 : Int32} {X : bsX} {r : bsXr} {lo : Int64} {od : UInt64} (hf : fX8_twins a1 X = some r) (hr : r.1 = 0 ∨ r.1 = 1 ∨ r.1 = 2) : bsWi l yL_twins cL_twins 4 (some .int) [(0, 9, 12, 20), (0, 9, 15, 13)] rmL_twins ρ cA dC dI [.ref (ρ 13 0 0), .int a1, .ref (ρ 15 0 0)] X lo od ((if r.1 = 1 then (1 : Int32) else (if r.1 = 2 then (2 : Int32) else (0 : Int32))), r.2.2) (if r.1 = 0 then r.2.1.toInt64 else lo) od := by
  refine bsWi_of (by decide +kernel) (Nat.le_of_ble_eq_true rfl) (fun p e s m args below meth c C T9 => ?_)
  have C : bsCx p m c cL_twins 4 s args (Cond.codeWith yL_twins cL_twins 4 (some .int) [(0, 9, 12, 20), (0, 9, 15, 13)] :: bsG) RL ρ cA dC dI (bsRz ρ cA lo od) meth (some .int) := C
  refine v_sub [0, 1, 2] rfl ?_
  refine v_aload_n C dL_twins_0 rfl rfl ?_
  refine v_iconst (v := 0) C dL_twins_1 (by decide) ?_
  refine v_aload_n C dL_twins_2 rfl rfl ?_
  refine v_iload_n C dL_twins_3 rfl rfl ?_
  refine v_wcalli (y := yX8_twins) (As := [.int a1]) (rest := [.int 0, .ref (ρ 15 0 0)]) C T9 (cX8_twins_ok hst hf) mlL_57 wyX8_twins bsm_X8 bsc_X8 rfl dpX8_twins ⟨Nat.le_of_ble_eq_true rfl, Nat.le_of_ble_eq_true rfl⟩ ⟨Nat.le_of_ble_eq_true rfl, Nat.le_of_ble_eq_true rfl⟩ rfl (Nat.le_of_ble_eq_true rfl) dL_twins_4 (fun h0 => ?_) (fun h0 => ?_)
  · rcases hr with h1 | h1 | h1
    · omega
    · rw [h1]
      refine ⟨12, ⟨[], ⟨0, 9, 12, 20⟩, [⟨0, 9, 15, 13⟩], rfl, (fun z hz => nomatch hz), by decide, by decide, cl_20, rfl, by decide⟩, fun q9 => ?_⟩
      refine v_astore_n (lv' := [(3, .ref q9), (0, .ref (ρ 13 0 0)), (1, .int a1), (2, .ref (ρ 15 0 0))]) C dL_twins_12 rfl (by decide) rfl ?_
      refine v_iconst (v := 1) C dL_twins_13 (by decide) ?_
      exact v_wret C rfl (Nat.le_of_ble_eq_true rfl) (Nat.le_of_ble_eq_true rfl) dL_twins_14
    · rw [h1]
      refine ⟨15, ⟨[⟨0, 9, 12, 20⟩], ⟨0, 9, 15, 13⟩, [], rfl, (by
      intro z hz
      rcases List.mem_cons.mp hz with rfl | hz
      · exact ⟨by decide, "java/lang/IllegalStateException", by decide, by decide, cl_20⟩
      · cases hz), by decide, by decide, cl_13, rfl, by decide⟩, fun q9 => ?_⟩
      refine v_astore_n (lv' := [(3, .ref q9), (0, .ref (ρ 13 0 0)), (1, .int a1), (2, .ref (ρ 15 0 0))]) C dL_twins_15 rfl (by decide) rfl ?_
      refine v_iconst (v := 2) C dL_twins_16 (by decide) ?_
      exact v_wret C rfl (Nat.le_of_ble_eq_true rfl) (Nat.le_of_ble_eq_true rfl) dL_twins_17
  · rw [h0]
    rw [if_pos (rfl : (0 : Nat) = 0)]
    refine v_i2l C dL_twins_7 ?_
    refine v_last C dL_twins_8 ?_
    have C := bsCx_Rz C r.2.1.toInt64 od
    refine v_goto (tgt := 18) C dL_twins_9 (by decide) ?_
    refine v_iconst (v := 0) C dL_twins_18 (by decide) ?_
    exact v_wret C rfl (Nat.le_of_ble_eq_true rfl) (Nat.le_of_ble_eq_true rfl) dL_twins_19
abbrev rmL_sinking : Room := { frames := 8, cells := 1, slots := 6, locals := 124 }
set_option maxHeartbeats 4000000 in
set_option maxRecDepth 100000 in
theorem cL_sinking_ok {l : Launch} {ρ : bsR} {cA : Nat → ClassId} {dC : Nat → ClassId} {dI : Nat → Nat → Nat} (hst : l.stackTraces = false) {X : bsX} {r : bsXr} {lo : Int64} {od : UInt64} (hf : fX8_sinking  X = some r) (hr : r.1 = 0 ∨ r.1 = 1) : bsWi l yL_sinking cL_sinking 3 (some .int) [(0, 8, 11, 20)] rmL_sinking ρ cA dC dI [.ref (ρ 13 0 0), .ref (ρ 15 0 0)] X lo od ((if r.1 = 1 then (1 : Int32) else (0 : Int32)), r.2.2) (if r.1 = 0 then r.2.1.toInt64 else lo) od := by
  refine bsWi_of (by decide +kernel) (Nat.le_of_ble_eq_true rfl) (fun p e s m args below meth c C T9 => ?_)
  have C : bsCx p m c cL_sinking 3 s args (Cond.codeWith yL_sinking cL_sinking 3 (some .int) [(0, 8, 11, 20)] :: bsG) RL ρ cA dC dI (bsRz ρ cA lo od) meth (some .int) := C
  refine v_sub [0, 1] rfl ?_
  refine v_aload_n C dL_sinking_0 rfl rfl ?_
  refine v_iconst (v := 0) C dL_sinking_1 (by decide) ?_
  refine v_aload_n C dL_sinking_2 rfl rfl ?_
  refine v_wcalli (y := yX8_sinking) (As := []) (rest := [.int 0, .ref (ρ 15 0 0)]) C T9 (cX8_sinking_ok hst hf) mlL_60 wyX8_sinking bsm_X8 bsc_X8 rfl dpX8_sinking ⟨Nat.le_of_ble_eq_true rfl, Nat.le_of_ble_eq_true rfl⟩ ⟨Nat.le_of_ble_eq_true rfl, Nat.le_of_ble_eq_true rfl⟩ rfl (Nat.le_of_ble_eq_true rfl) dL_sinking_3 (fun h0 => ?_) (fun h0 => ?_)
  · rcases hr with h1 | h1
    · omega
    · rw [h1]
      refine ⟨11, ⟨[], ⟨0, 8, 11, 20⟩, [], rfl, (fun z hz => nomatch hz), by decide, by decide, cl_20, rfl, by decide⟩, fun q9 => ?_⟩
      refine v_astore_n (lv' := [(2, .ref q9), (0, .ref (ρ 13 0 0)), (1, .ref (ρ 15 0 0))]) C dL_sinking_11 rfl (by decide) rfl ?_
      refine v_iconst (v := 1) C dL_sinking_12 (by decide) ?_
      exact v_wret C rfl (Nat.le_of_ble_eq_true rfl) (Nat.le_of_ble_eq_true rfl) dL_sinking_13
  · rw [h0]
    rw [if_pos (rfl : (0 : Nat) = 0)]
    refine v_i2l C dL_sinking_6 ?_
    refine v_last C dL_sinking_7 ?_
    have C := bsCx_Rz C r.2.1.toInt64 od
    refine v_goto (tgt := 14) C dL_sinking_8 (by decide) ?_
    refine v_iconst (v := 0) C dL_sinking_14 (by decide) ?_
    exact v_wret C rfl (Nat.le_of_ble_eq_true rfl) (Nat.le_of_ble_eq_true rfl) dL_sinking_15
abbrev rmL_floorWith : Room := { frames := 9, cells := 2, slots := 12, locals := 143 }
set_option maxHeartbeats 4000000 in
set_option maxRecDepth 100000 in
theorem cL_floorWith_ok {l : Launch} {ρ : bsR} {cA : Nat → ClassId} {dC : Nat → ClassId} {dI : Nat → Nat → Nat} (hst : l.stackTraces = false) {a1 : Int32} {X : bsX} {r : bsXr} {lo : Int64} {od : UInt64} (hf : fX8_floorWith a1 X = some r) (hr : r.1 = 0 ∨ r.1 = 1 ∨ r.1 = 2) : bsWi l yL_floorWith cL_floorWith 4 (some .int) [(0, 9, 12, 20), (0, 9, 15, 13)] rmL_floorWith ρ cA dC dI [.ref (ρ 13 0 0), .int a1, .ref (ρ 15 0 0)] X lo od ((if r.1 = 1 then (1 : Int32) else (if r.1 = 2 then (2 : Int32) else (0 : Int32))), r.2.2) (if r.1 = 0 then r.2.1.toInt64 else lo) od := by
  refine bsWi_of (by decide +kernel) (Nat.le_of_ble_eq_true rfl) (fun p e s m args below meth c C T9 => ?_)
  have C : bsCx p m c cL_floorWith 4 s args (Cond.codeWith yL_floorWith cL_floorWith 4 (some .int) [(0, 9, 12, 20), (0, 9, 15, 13)] :: bsG) RL ρ cA dC dI (bsRz ρ cA lo od) meth (some .int) := C
  refine v_sub [0, 1, 2] rfl ?_
  refine v_aload_n C dL_floorWith_0 rfl rfl ?_
  refine v_iconst (v := 0) C dL_floorWith_1 (by decide) ?_
  refine v_aload_n C dL_floorWith_2 rfl rfl ?_
  refine v_iload_n C dL_floorWith_3 rfl rfl ?_
  refine v_wcalli (y := yX8_floorWith) (As := [.int a1]) (rest := [.int 0, .ref (ρ 15 0 0)]) C T9 (cX8_floorWith_ok hst hf) mlL_63 wyX8_floorWith bsm_X8 bsc_X8 rfl dpX8_floorWith ⟨Nat.le_of_ble_eq_true rfl, Nat.le_of_ble_eq_true rfl⟩ ⟨Nat.le_of_ble_eq_true rfl, Nat.le_of_ble_eq_true rfl⟩ rfl (Nat.le_of_ble_eq_true rfl) dL_floorWith_4 (fun h0 => ?_) (fun h0 => ?_)
  · rcases hr with h1 | h1 | h1
    · omega
    · rw [h1]
      refine ⟨12, ⟨[], ⟨0, 9, 12, 20⟩, [⟨0, 9, 15, 13⟩], rfl, (fun z hz => nomatch hz), by decide, by decide, cl_20, rfl, by decide⟩, fun q9 => ?_⟩
      refine v_astore_n (lv' := [(3, .ref q9), (0, .ref (ρ 13 0 0)), (1, .int a1), (2, .ref (ρ 15 0 0))]) C dL_floorWith_12 rfl (by decide) rfl ?_
      refine v_iconst (v := 1) C dL_floorWith_13 (by decide) ?_
      exact v_wret C rfl (Nat.le_of_ble_eq_true rfl) (Nat.le_of_ble_eq_true rfl) dL_floorWith_14
    · rw [h1]
      refine ⟨15, ⟨[⟨0, 9, 12, 20⟩], ⟨0, 9, 15, 13⟩, [], rfl, (by
      intro z hz
      rcases List.mem_cons.mp hz with rfl | hz
      · exact ⟨by decide, "java/lang/IllegalStateException", by decide, by decide, cl_20⟩
      · cases hz), by decide, by decide, cl_13, rfl, by decide⟩, fun q9 => ?_⟩
      refine v_astore_n (lv' := [(3, .ref q9), (0, .ref (ρ 13 0 0)), (1, .int a1), (2, .ref (ρ 15 0 0))]) C dL_floorWith_15 rfl (by decide) rfl ?_
      refine v_iconst (v := 2) C dL_floorWith_16 (by decide) ?_
      exact v_wret C rfl (Nat.le_of_ble_eq_true rfl) (Nat.le_of_ble_eq_true rfl) dL_floorWith_17
  · rw [h0]
    rw [if_pos (rfl : (0 : Nat) = 0)]
    refine v_i2l C dL_floorWith_7 ?_
    refine v_last C dL_floorWith_8 ?_
    have C := bsCx_Rz C r.2.1.toInt64 od
    refine v_goto (tgt := 18) C dL_floorWith_9 (by decide) ?_
    refine v_iconst (v := 0) C dL_floorWith_18 (by decide) ?_
    exact v_wret C rfl (Nat.le_of_ble_eq_true rfl) (Nat.le_of_ble_eq_true rfl) dL_floorWith_19
abbrev rmL_mayHold : Room := { frames := 9, cells := 2, slots := 12, locals := 146 }
set_option maxHeartbeats 4000000 in
set_option maxRecDepth 100000 in
theorem cL_mayHold_ok {l : Launch} {ρ : bsR} {cA : Nat → ClassId} {dC : Nat → ClassId} {dI : Nat → Nat → Nat} (hst : l.stackTraces = false) {a1 : Int32} {X : bsX} {r : bsXr} {lo : Int64} {od : UInt64} (hf : fX8_mayHold a1 X = some r) (hr : r.1 = 0 ∨ r.1 = 1 ∨ r.1 = 2) : bsWi l yL_mayHold cL_mayHold 4 (some .int) [(0, 16, 19, 20), (0, 16, 22, 13)] rmL_mayHold ρ cA dC dI [.ref (ρ 13 0 0), .int a1, .ref (ρ 15 0 0)] X lo od ((if r.1 = 1 then (1 : Int32) else (if r.1 = 2 then (2 : Int32) else (0 : Int32))), r.2.2) (if r.1 = 0 then (if r.2.1 = 0 then (0 : Int64) else (1 : Int64)) else lo) od := by
  refine bsWi_of (by decide +kernel) (Nat.le_of_ble_eq_true rfl) (fun p e s m args below meth c C T9 => ?_)
  have C : bsCx p m c cL_mayHold 4 s args (Cond.codeWith yL_mayHold cL_mayHold 4 (some .int) [(0, 16, 19, 20), (0, 16, 22, 13)] :: bsG) RL ρ cA dC dI (bsRz ρ cA lo od) meth (some .int) := C
  refine v_sub [0, 1, 2] rfl ?_
  refine v_aload_n C dL_mayHold_0 rfl rfl ?_
  refine v_iconst (v := 0) C dL_mayHold_1 (by decide) ?_
  refine v_aload_n C dL_mayHold_2 rfl rfl ?_
  refine v_iload_n C dL_mayHold_3 rfl rfl ?_
  refine v_wcalli (y := yX8_mayHold) (As := [.int a1]) (rest := [.int 0, .ref (ρ 15 0 0)]) C T9 (cX8_mayHold_ok hst hf) mlL_66 wyX8_mayHold bsm_X8 bsc_X8 rfl dpX8_mayHold ⟨Nat.le_of_ble_eq_true rfl, Nat.le_of_ble_eq_true rfl⟩ ⟨Nat.le_of_ble_eq_true rfl, Nat.le_of_ble_eq_true rfl⟩ rfl (Nat.le_of_ble_eq_true rfl) dL_mayHold_4 (fun h0 => ?_) (fun h0 => ?_)
  · rcases hr with h1 | h1 | h1
    · omega
    · rw [h1]
      refine ⟨19, ⟨[], ⟨0, 16, 19, 20⟩, [⟨0, 16, 22, 13⟩], rfl, (fun z hz => nomatch hz), by decide, by decide, cl_20, rfl, by decide⟩, fun q9 => ?_⟩
      refine v_astore_n (lv' := [(3, .ref q9), (0, .ref (ρ 13 0 0)), (1, .int a1), (2, .ref (ρ 15 0 0))]) C dL_mayHold_19 rfl (by decide) rfl ?_
      refine v_iconst (v := 1) C dL_mayHold_20 (by decide) ?_
      exact v_wret C rfl (Nat.le_of_ble_eq_true rfl) (Nat.le_of_ble_eq_true rfl) dL_mayHold_21
    · rw [h1]
      refine ⟨22, ⟨[⟨0, 16, 19, 20⟩], ⟨0, 16, 22, 13⟩, [], rfl, (by
      intro z hz
      rcases List.mem_cons.mp hz with rfl | hz
      · exact ⟨by decide, "java/lang/IllegalStateException", by decide, by decide, cl_20⟩
      · cases hz), by decide, by decide, cl_13, rfl, by decide⟩, fun q9 => ?_⟩
      refine v_astore_n (lv' := [(3, .ref q9), (0, .ref (ρ 13 0 0)), (1, .int a1), (2, .ref (ρ 15 0 0))]) C dL_mayHold_22 rfl (by decide) rfl ?_
      refine v_iconst (v := 2) C dL_mayHold_23 (by decide) ?_
      exact v_wret C rfl (Nat.le_of_ble_eq_true rfl) (Nat.le_of_ble_eq_true rfl) dL_mayHold_24
  · rw [h0]
    refine v_if_eq (tgt := 14) C dL_mayHold_7 (by decide) (fun h => ?_) (fun h => ?_)
    · rw [if_pos (rfl : (0 : Nat) = 0), if_pos h]
      refine v_lconst (v := 0) C dL_mayHold_14 (by decide) ?_
      refine v_last C dL_mayHold_15 ?_
      have C := bsCx_Rz C 0 od
      refine v_goto (tgt := 25) C dL_mayHold_16 (by decide) ?_
      refine v_iconst (v := 0) C dL_mayHold_25 (by decide) ?_
      exact v_wret C rfl (Nat.le_of_ble_eq_true rfl) (Nat.le_of_ble_eq_true rfl) dL_mayHold_26
    · rw [if_pos (rfl : (0 : Nat) = 0), if_neg h]
      refine v_lconst (v := 1) C dL_mayHold_10 (by decide) ?_
      refine v_goto (tgt := 15) C dL_mayHold_11 (by decide) ?_
      refine v_last C dL_mayHold_15 ?_
      have C := bsCx_Rz C 1 od
      refine v_goto (tgt := 25) C dL_mayHold_16 (by decide) ?_
      refine v_iconst (v := 0) C dL_mayHold_25 (by decide) ?_
      exact v_wret C rfl (Nat.le_of_ble_eq_true rfl) (Nat.le_of_ble_eq_true rfl) dL_mayHold_26
abbrev rmL_mostBoots : Room := { frames := 8, cells := 1, slots := 6, locals := 123 }
set_option maxHeartbeats 4000000 in
set_option maxRecDepth 100000 in
theorem cL_mostBoots_ok {l : Launch} {ρ : bsR} {cA : Nat → ClassId} {dC : Nat → ClassId} {dI : Nat → Nat → Nat} (hst : l.stackTraces = false) {X : bsX} {r : bsXr} {lo : Int64} {od : UInt64} (hf : fX8_mostBoots  X = some r) (hr : r.1 = 0 ∨ r.1 = 1) : bsWi l yL_mostBoots cL_mostBoots 3 (some .int) [(0, 8, 11, 20)] rmL_mostBoots ρ cA dC dI [.ref (ρ 13 0 0), .ref (ρ 15 0 0)] X lo od ((if r.1 = 1 then (1 : Int32) else (0 : Int32)), r.2.2) (if r.1 = 0 then r.2.1.toInt64 else lo) od := by
  refine bsWi_of (by decide +kernel) (Nat.le_of_ble_eq_true rfl) (fun p e s m args below meth c C T9 => ?_)
  have C : bsCx p m c cL_mostBoots 3 s args (Cond.codeWith yL_mostBoots cL_mostBoots 3 (some .int) [(0, 8, 11, 20)] :: bsG) RL ρ cA dC dI (bsRz ρ cA lo od) meth (some .int) := C
  refine v_sub [0, 1] rfl ?_
  refine v_aload_n C dL_mostBoots_0 rfl rfl ?_
  refine v_iconst (v := 0) C dL_mostBoots_1 (by decide) ?_
  refine v_aload_n C dL_mostBoots_2 rfl rfl ?_
  refine v_wcalli (y := yX8_mostBoots) (As := []) (rest := [.int 0, .ref (ρ 15 0 0)]) C T9 (cX8_mostBoots_ok hst hf) mlL_70 wyX8_mostBoots bsm_X8 bsc_X8 rfl dpX8_mostBoots ⟨Nat.le_of_ble_eq_true rfl, Nat.le_of_ble_eq_true rfl⟩ ⟨Nat.le_of_ble_eq_true rfl, Nat.le_of_ble_eq_true rfl⟩ rfl (Nat.le_of_ble_eq_true rfl) dL_mostBoots_3 (fun h0 => ?_) (fun h0 => ?_)
  · rcases hr with h1 | h1
    · omega
    · rw [h1]
      refine ⟨11, ⟨[], ⟨0, 8, 11, 20⟩, [], rfl, (fun z hz => nomatch hz), by decide, by decide, cl_20, rfl, by decide⟩, fun q9 => ?_⟩
      refine v_astore_n (lv' := [(2, .ref q9), (0, .ref (ρ 13 0 0)), (1, .ref (ρ 15 0 0))]) C dL_mostBoots_11 rfl (by decide) rfl ?_
      refine v_iconst (v := 1) C dL_mostBoots_12 (by decide) ?_
      exact v_wret C rfl (Nat.le_of_ble_eq_true rfl) (Nat.le_of_ble_eq_true rfl) dL_mostBoots_13
  · rw [h0]
    rw [if_pos (rfl : (0 : Nat) = 0)]
    refine v_i2l C dL_mostBoots_6 ?_
    refine v_last C dL_mostBoots_7 ?_
    have C := bsCx_Rz C r.2.1.toInt64 od
    refine v_goto (tgt := 14) C dL_mostBoots_8 (by decide) ?_
    refine v_iconst (v := 0) C dL_mostBoots_14 (by decide) ?_
    exact v_wret C rfl (Nat.le_of_ble_eq_true rfl) (Nat.le_of_ble_eq_true rfl) dL_mostBoots_15
abbrev rmL_bootsOf : Room := { frames := 9, cells := 2, slots := 12, locals := 145 }
set_option maxHeartbeats 4000000 in
set_option maxRecDepth 100000 in
theorem cL_bootsOf_ok {l : Launch} {ρ : bsR} {cA : Nat → ClassId} {dC : Nat → ClassId} {dI : Nat → Nat → Nat} (hst : l.stackTraces = false) {a1 : Int32} {X : bsX} {r : bsXr} {lo : Int64} {od : UInt64} (hf : fX8_bootsOf a1 X = some r) (hr : r.1 = 0 ∨ r.1 = 1 ∨ r.1 = 2) : bsWi l yL_bootsOf cL_bootsOf 4 (some .int) [(0, 9, 12, 20), (0, 9, 15, 13)] rmL_bootsOf ρ cA dC dI [.ref (ρ 13 0 0), .int a1, .ref (ρ 15 0 0)] X lo od ((if r.1 = 1 then (1 : Int32) else (if r.1 = 2 then (2 : Int32) else (0 : Int32))), r.2.2) (if r.1 = 0 then r.2.1.toInt64 else lo) od := by
  refine bsWi_of (by decide +kernel) (Nat.le_of_ble_eq_true rfl) (fun p e s m args below meth c C T9 => ?_)
  have C : bsCx p m c cL_bootsOf 4 s args (Cond.codeWith yL_bootsOf cL_bootsOf 4 (some .int) [(0, 9, 12, 20), (0, 9, 15, 13)] :: bsG) RL ρ cA dC dI (bsRz ρ cA lo od) meth (some .int) := C
  refine v_sub [0, 1, 2] rfl ?_
  refine v_aload_n C dL_bootsOf_0 rfl rfl ?_
  refine v_iconst (v := 0) C dL_bootsOf_1 (by decide) ?_
  refine v_aload_n C dL_bootsOf_2 rfl rfl ?_
  refine v_iload_n C dL_bootsOf_3 rfl rfl ?_
  refine v_wcalli (y := yX8_bootsOf) (As := [.int a1]) (rest := [.int 0, .ref (ρ 15 0 0)]) C T9 (cX8_bootsOf_ok hst hf) mlL_73 wyX8_bootsOf bsm_X8 bsc_X8 rfl dpX8_bootsOf ⟨Nat.le_of_ble_eq_true rfl, Nat.le_of_ble_eq_true rfl⟩ ⟨Nat.le_of_ble_eq_true rfl, Nat.le_of_ble_eq_true rfl⟩ rfl (Nat.le_of_ble_eq_true rfl) dL_bootsOf_4 (fun h0 => ?_) (fun h0 => ?_)
  · rcases hr with h1 | h1 | h1
    · omega
    · rw [h1]
      refine ⟨12, ⟨[], ⟨0, 9, 12, 20⟩, [⟨0, 9, 15, 13⟩], rfl, (fun z hz => nomatch hz), by decide, by decide, cl_20, rfl, by decide⟩, fun q9 => ?_⟩
      refine v_astore_n (lv' := [(3, .ref q9), (0, .ref (ρ 13 0 0)), (1, .int a1), (2, .ref (ρ 15 0 0))]) C dL_bootsOf_12 rfl (by decide) rfl ?_
      refine v_iconst (v := 1) C dL_bootsOf_13 (by decide) ?_
      exact v_wret C rfl (Nat.le_of_ble_eq_true rfl) (Nat.le_of_ble_eq_true rfl) dL_bootsOf_14
    · rw [h1]
      refine ⟨15, ⟨[⟨0, 9, 12, 20⟩], ⟨0, 9, 15, 13⟩, [], rfl, (by
      intro z hz
      rcases List.mem_cons.mp hz with rfl | hz
      · exact ⟨by decide, "java/lang/IllegalStateException", by decide, by decide, cl_20⟩
      · cases hz), by decide, by decide, cl_13, rfl, by decide⟩, fun q9 => ?_⟩
      refine v_astore_n (lv' := [(3, .ref q9), (0, .ref (ρ 13 0 0)), (1, .int a1), (2, .ref (ρ 15 0 0))]) C dL_bootsOf_15 rfl (by decide) rfl ?_
      refine v_iconst (v := 2) C dL_bootsOf_16 (by decide) ?_
      exact v_wret C rfl (Nat.le_of_ble_eq_true rfl) (Nat.le_of_ble_eq_true rfl) dL_bootsOf_17
  · rw [h0]
    rw [if_pos (rfl : (0 : Nat) = 0)]
    refine v_i2l C dL_bootsOf_7 ?_
    refine v_last C dL_bootsOf_8 ?_
    have C := bsCx_Rz C r.2.1.toInt64 od
    refine v_goto (tgt := 18) C dL_bootsOf_9 (by decide) ?_
    refine v_iconst (v := 0) C dL_bootsOf_18 (by decide) ?_
    exact v_wret C rfl (Nat.le_of_ble_eq_true rfl) (Nat.le_of_ble_eq_true rfl) dL_bootsOf_19
abbrev rmL_stateIn : Room := { frames := 9, cells := 2, slots := 12, locals := 172 }
set_option maxHeartbeats 4000000 in
set_option maxRecDepth 100000 in
theorem cL_stateIn_ok {l : Launch} {ρ : bsR} {cA : Nat → ClassId} {dC : Nat → ClassId} {dI : Nat → Nat → Nat} (hst : l.stackTraces = false) {a1 : Int32} {X : bsX} {r : bsXr} {lo : Int64} {od : UInt64} (hf : fX8_stateIn a1 X = some r) (hr : r.1 = 0 ∨ r.1 = 1 ∨ r.1 = 3) : bsWi l yL_stateIn cL_stateIn 4 (some .int) [(0, 9, 12, 20), (0, 9, 15, 15)] rmL_stateIn ρ cA dC dI [.ref (ρ 13 0 0), .int a1, .ref (ρ 15 0 0)] X lo od ((if r.1 = 1 then (1 : Int32) else (if r.1 = 3 then (2 : Int32) else (0 : Int32))), r.2.2) (if r.1 = 0 then r.2.1.toInt64 else lo) od := by
  refine bsWi_of (by decide +kernel) (Nat.le_of_ble_eq_true rfl) (fun p e s m args below meth c C T9 => ?_)
  have C : bsCx p m c cL_stateIn 4 s args (Cond.codeWith yL_stateIn cL_stateIn 4 (some .int) [(0, 9, 12, 20), (0, 9, 15, 15)] :: bsG) RL ρ cA dC dI (bsRz ρ cA lo od) meth (some .int) := C
  refine v_sub [0, 1, 2] rfl ?_
  refine v_aload_n C dL_stateIn_0 rfl rfl ?_
  refine v_iconst (v := 0) C dL_stateIn_1 (by decide) ?_
  refine v_aload_n C dL_stateIn_2 rfl rfl ?_
  refine v_iload_n C dL_stateIn_3 rfl rfl ?_
  refine v_wcalli (y := yX8_stateIn) (As := [.int a1]) (rest := [.int 0, .ref (ρ 15 0 0)]) C T9 (cX8_stateIn_ok hst hf) mlL_76 wyX8_stateIn bsm_X8 bsc_X8 rfl dpX8_stateIn ⟨Nat.le_of_ble_eq_true rfl, Nat.le_of_ble_eq_true rfl⟩ ⟨Nat.le_of_ble_eq_true rfl, Nat.le_of_ble_eq_true rfl⟩ rfl (Nat.le_of_ble_eq_true rfl) dL_stateIn_4 (fun h0 => ?_) (fun h0 => ?_)
  · rcases hr with h1 | h1 | h1
    · omega
    · rw [h1]
      refine ⟨12, ⟨[], ⟨0, 9, 12, 20⟩, [⟨0, 9, 15, 15⟩], rfl, (fun z hz => nomatch hz), by decide, by decide, cl_20, rfl, by decide⟩, fun q9 => ?_⟩
      refine v_astore_n (lv' := [(3, .ref q9), (0, .ref (ρ 13 0 0)), (1, .int a1), (2, .ref (ρ 15 0 0))]) C dL_stateIn_12 rfl (by decide) rfl ?_
      refine v_iconst (v := 1) C dL_stateIn_13 (by decide) ?_
      exact v_wret C rfl (Nat.le_of_ble_eq_true rfl) (Nat.le_of_ble_eq_true rfl) dL_stateIn_14
    · rw [h1]
      refine ⟨15, ⟨[⟨0, 9, 12, 20⟩], ⟨0, 9, 15, 15⟩, [], rfl, (by
      intro z hz
      rcases List.mem_cons.mp hz with rfl | hz
      · exact ⟨by decide, "java/lang/IllegalStateException", by decide, by decide, cl_20⟩
      · cases hz), by decide, by decide, cl_15, rfl, by decide⟩, fun q9 => ?_⟩
      refine v_astore_n (lv' := [(3, .ref q9), (0, .ref (ρ 13 0 0)), (1, .int a1), (2, .ref (ρ 15 0 0))]) C dL_stateIn_15 rfl (by decide) rfl ?_
      refine v_iconst (v := 2) C dL_stateIn_16 (by decide) ?_
      exact v_wret C rfl (Nat.le_of_ble_eq_true rfl) (Nat.le_of_ble_eq_true rfl) dL_stateIn_17
  · rw [h0]
    rw [if_pos (rfl : (0 : Nat) = 0)]
    refine v_i2l C dL_stateIn_7 ?_
    refine v_last C dL_stateIn_8 ?_
    have C := bsCx_Rz C r.2.1.toInt64 od
    refine v_goto (tgt := 18) C dL_stateIn_9 (by decide) ?_
    refine v_iconst (v := 0) C dL_stateIn_18 (by decide) ?_
    exact v_wret C rfl (Nat.le_of_ble_eq_true rfl) (Nat.le_of_ble_eq_true rfl) dL_stateIn_19
abbrev rmL_slotIn : Room := { frames := 9, cells := 2, slots := 12, locals := 172 }
set_option maxHeartbeats 4000000 in
set_option maxRecDepth 100000 in
theorem cL_slotIn_ok {l : Launch} {ρ : bsR} {cA : Nat → ClassId} {dC : Nat → ClassId} {dI : Nat → Nat → Nat} (hst : l.stackTraces = false) {a1 : Int32} {X : bsX} {r : bsXr} {lo : Int64} {od : UInt64} (hf : fX8_slotIn a1 X = some r) (hr : r.1 = 0 ∨ r.1 = 1 ∨ r.1 = 3) : bsWi l yL_slotIn cL_slotIn 4 (some .int) [(0, 9, 12, 20), (0, 9, 15, 15)] rmL_slotIn ρ cA dC dI [.ref (ρ 13 0 0), .int a1, .ref (ρ 15 0 0)] X lo od ((if r.1 = 1 then (1 : Int32) else (if r.1 = 3 then (2 : Int32) else (0 : Int32))), r.2.2) (if r.1 = 0 then r.2.1.toInt64 else lo) od := by
  refine bsWi_of (by decide +kernel) (Nat.le_of_ble_eq_true rfl) (fun p e s m args below meth c C T9 => ?_)
  have C : bsCx p m c cL_slotIn 4 s args (Cond.codeWith yL_slotIn cL_slotIn 4 (some .int) [(0, 9, 12, 20), (0, 9, 15, 15)] :: bsG) RL ρ cA dC dI (bsRz ρ cA lo od) meth (some .int) := C
  refine v_sub [0, 1, 2] rfl ?_
  refine v_aload_n C dL_slotIn_0 rfl rfl ?_
  refine v_iconst (v := 0) C dL_slotIn_1 (by decide) ?_
  refine v_aload_n C dL_slotIn_2 rfl rfl ?_
  refine v_iload_n C dL_slotIn_3 rfl rfl ?_
  refine v_wcalli (y := yX8_slotIn) (As := [.int a1]) (rest := [.int 0, .ref (ρ 15 0 0)]) C T9 (cX8_slotIn_ok hst hf) mlL_79 wyX8_slotIn bsm_X8 bsc_X8 rfl dpX8_slotIn ⟨Nat.le_of_ble_eq_true rfl, Nat.le_of_ble_eq_true rfl⟩ ⟨Nat.le_of_ble_eq_true rfl, Nat.le_of_ble_eq_true rfl⟩ rfl (Nat.le_of_ble_eq_true rfl) dL_slotIn_4 (fun h0 => ?_) (fun h0 => ?_)
  · rcases hr with h1 | h1 | h1
    · omega
    · rw [h1]
      refine ⟨12, ⟨[], ⟨0, 9, 12, 20⟩, [⟨0, 9, 15, 15⟩], rfl, (fun z hz => nomatch hz), by decide, by decide, cl_20, rfl, by decide⟩, fun q9 => ?_⟩
      refine v_astore_n (lv' := [(3, .ref q9), (0, .ref (ρ 13 0 0)), (1, .int a1), (2, .ref (ρ 15 0 0))]) C dL_slotIn_12 rfl (by decide) rfl ?_
      refine v_iconst (v := 1) C dL_slotIn_13 (by decide) ?_
      exact v_wret C rfl (Nat.le_of_ble_eq_true rfl) (Nat.le_of_ble_eq_true rfl) dL_slotIn_14
    · rw [h1]
      refine ⟨15, ⟨[⟨0, 9, 12, 20⟩], ⟨0, 9, 15, 15⟩, [], rfl, (by
      intro z hz
      rcases List.mem_cons.mp hz with rfl | hz
      · exact ⟨by decide, "java/lang/IllegalStateException", by decide, by decide, cl_20⟩
      · cases hz), by decide, by decide, cl_15, rfl, by decide⟩, fun q9 => ?_⟩
      refine v_astore_n (lv' := [(3, .ref q9), (0, .ref (ρ 13 0 0)), (1, .int a1), (2, .ref (ρ 15 0 0))]) C dL_slotIn_15 rfl (by decide) rfl ?_
      refine v_iconst (v := 2) C dL_slotIn_16 (by decide) ?_
      exact v_wret C rfl (Nat.le_of_ble_eq_true rfl) (Nat.le_of_ble_eq_true rfl) dL_slotIn_17
  · rw [h0]
    rw [if_pos (rfl : (0 : Nat) = 0)]
    refine v_i2l C dL_slotIn_7 ?_
    refine v_last C dL_slotIn_8 ?_
    have C := bsCx_Rz C r.2.1.toInt64 od
    refine v_goto (tgt := 18) C dL_slotIn_9 (by decide) ?_
    refine v_iconst (v := 0) C dL_slotIn_18 (by decide) ?_
    exact v_wret C rfl (Nat.le_of_ble_eq_true rfl) (Nat.le_of_ble_eq_true rfl) dL_slotIn_19
abbrev rmL_floorIn : Room := { frames := 9, cells := 2, slots := 12, locals := 172 }
set_option maxHeartbeats 4000000 in
set_option maxRecDepth 100000 in
theorem cL_floorIn_ok {l : Launch} {ρ : bsR} {cA : Nat → ClassId} {dC : Nat → ClassId} {dI : Nat → Nat → Nat} (hst : l.stackTraces = false) {a1 : Int32} {X : bsX} {r : bsXr} {lo : Int64} {od : UInt64} (hf : fX8_floorIn a1 X = some r) (hr : r.1 = 0 ∨ r.1 = 1 ∨ r.1 = 3) : bsWi l yL_floorIn cL_floorIn 4 (some .int) [(0, 9, 12, 20), (0, 9, 15, 15)] rmL_floorIn ρ cA dC dI [.ref (ρ 13 0 0), .int a1, .ref (ρ 15 0 0)] X lo od ((if r.1 = 1 then (1 : Int32) else (if r.1 = 3 then (2 : Int32) else (0 : Int32))), r.2.2) (if r.1 = 0 then r.2.1.toInt64 else lo) od := by
  refine bsWi_of (by decide +kernel) (Nat.le_of_ble_eq_true rfl) (fun p e s m args below meth c C T9 => ?_)
  have C : bsCx p m c cL_floorIn 4 s args (Cond.codeWith yL_floorIn cL_floorIn 4 (some .int) [(0, 9, 12, 20), (0, 9, 15, 15)] :: bsG) RL ρ cA dC dI (bsRz ρ cA lo od) meth (some .int) := C
  refine v_sub [0, 1, 2] rfl ?_
  refine v_aload_n C dL_floorIn_0 rfl rfl ?_
  refine v_iconst (v := 0) C dL_floorIn_1 (by decide) ?_
  refine v_aload_n C dL_floorIn_2 rfl rfl ?_
  refine v_iload_n C dL_floorIn_3 rfl rfl ?_
  refine v_wcalli (y := yX8_floorIn) (As := [.int a1]) (rest := [.int 0, .ref (ρ 15 0 0)]) C T9 (cX8_floorIn_ok hst hf) mlL_82 wyX8_floorIn bsm_X8 bsc_X8 rfl dpX8_floorIn ⟨Nat.le_of_ble_eq_true rfl, Nat.le_of_ble_eq_true rfl⟩ ⟨Nat.le_of_ble_eq_true rfl, Nat.le_of_ble_eq_true rfl⟩ rfl (Nat.le_of_ble_eq_true rfl) dL_floorIn_4 (fun h0 => ?_) (fun h0 => ?_)
  · rcases hr with h1 | h1 | h1
    · omega
    · rw [h1]
      refine ⟨12, ⟨[], ⟨0, 9, 12, 20⟩, [⟨0, 9, 15, 15⟩], rfl, (fun z hz => nomatch hz), by decide, by decide, cl_20, rfl, by decide⟩, fun q9 => ?_⟩
      refine v_astore_n (lv' := [(3, .ref q9), (0, .ref (ρ 13 0 0)), (1, .int a1), (2, .ref (ρ 15 0 0))]) C dL_floorIn_12 rfl (by decide) rfl ?_
      refine v_iconst (v := 1) C dL_floorIn_13 (by decide) ?_
      exact v_wret C rfl (Nat.le_of_ble_eq_true rfl) (Nat.le_of_ble_eq_true rfl) dL_floorIn_14
    · rw [h1]
      refine ⟨15, ⟨[⟨0, 9, 12, 20⟩], ⟨0, 9, 15, 15⟩, [], rfl, (by
      intro z hz
      rcases List.mem_cons.mp hz with rfl | hz
      · exact ⟨by decide, "java/lang/IllegalStateException", by decide, by decide, cl_20⟩
      · cases hz), by decide, by decide, cl_15, rfl, by decide⟩, fun q9 => ?_⟩
      refine v_astore_n (lv' := [(3, .ref q9), (0, .ref (ρ 13 0 0)), (1, .int a1), (2, .ref (ρ 15 0 0))]) C dL_floorIn_15 rfl (by decide) rfl ?_
      refine v_iconst (v := 2) C dL_floorIn_16 (by decide) ?_
      exact v_wret C rfl (Nat.le_of_ble_eq_true rfl) (Nat.le_of_ble_eq_true rfl) dL_floorIn_17
  · rw [h0]
    rw [if_pos (rfl : (0 : Nat) = 0)]
    refine v_i2l C dL_floorIn_7 ?_
    refine v_last C dL_floorIn_8 ?_
    have C := bsCx_Rz C r.2.1.toInt64 od
    refine v_goto (tgt := 18) C dL_floorIn_9 (by decide) ?_
    refine v_iconst (v := 0) C dL_floorIn_18 (by decide) ?_
    exact v_wret C rfl (Nat.le_of_ble_eq_true rfl) (Nat.le_of_ble_eq_true rfl) dL_floorIn_19
abbrev rmL_bootsIn : Room := { frames := 9, cells := 2, slots := 12, locals := 172 }
set_option maxHeartbeats 4000000 in
set_option maxRecDepth 100000 in
theorem cL_bootsIn_ok {l : Launch} {ρ : bsR} {cA : Nat → ClassId} {dC : Nat → ClassId} {dI : Nat → Nat → Nat} (hst : l.stackTraces = false) {a1 : Int32} {X : bsX} {r : bsXr} {lo : Int64} {od : UInt64} (hf : fX8_bootsIn a1 X = some r) (hr : r.1 = 0 ∨ r.1 = 1 ∨ r.1 = 3) : bsWi l yL_bootsIn cL_bootsIn 4 (some .int) [(0, 9, 12, 20), (0, 9, 15, 15)] rmL_bootsIn ρ cA dC dI [.ref (ρ 13 0 0), .int a1, .ref (ρ 15 0 0)] X lo od ((if r.1 = 1 then (1 : Int32) else (if r.1 = 3 then (2 : Int32) else (0 : Int32))), r.2.2) (if r.1 = 0 then r.2.1.toInt64 else lo) od := by
  refine bsWi_of (by decide +kernel) (Nat.le_of_ble_eq_true rfl) (fun p e s m args below meth c C T9 => ?_)
  have C : bsCx p m c cL_bootsIn 4 s args (Cond.codeWith yL_bootsIn cL_bootsIn 4 (some .int) [(0, 9, 12, 20), (0, 9, 15, 15)] :: bsG) RL ρ cA dC dI (bsRz ρ cA lo od) meth (some .int) := C
  refine v_sub [0, 1, 2] rfl ?_
  refine v_aload_n C dL_bootsIn_0 rfl rfl ?_
  refine v_iconst (v := 0) C dL_bootsIn_1 (by decide) ?_
  refine v_aload_n C dL_bootsIn_2 rfl rfl ?_
  refine v_iload_n C dL_bootsIn_3 rfl rfl ?_
  refine v_wcalli (y := yX8_bootsIn) (As := [.int a1]) (rest := [.int 0, .ref (ρ 15 0 0)]) C T9 (cX8_bootsIn_ok hst hf) mlL_85 wyX8_bootsIn bsm_X8 bsc_X8 rfl dpX8_bootsIn ⟨Nat.le_of_ble_eq_true rfl, Nat.le_of_ble_eq_true rfl⟩ ⟨Nat.le_of_ble_eq_true rfl, Nat.le_of_ble_eq_true rfl⟩ rfl (Nat.le_of_ble_eq_true rfl) dL_bootsIn_4 (fun h0 => ?_) (fun h0 => ?_)
  · rcases hr with h1 | h1 | h1
    · omega
    · rw [h1]
      refine ⟨12, ⟨[], ⟨0, 9, 12, 20⟩, [⟨0, 9, 15, 15⟩], rfl, (fun z hz => nomatch hz), by decide, by decide, cl_20, rfl, by decide⟩, fun q9 => ?_⟩
      refine v_astore_n (lv' := [(3, .ref q9), (0, .ref (ρ 13 0 0)), (1, .int a1), (2, .ref (ρ 15 0 0))]) C dL_bootsIn_12 rfl (by decide) rfl ?_
      refine v_iconst (v := 1) C dL_bootsIn_13 (by decide) ?_
      exact v_wret C rfl (Nat.le_of_ble_eq_true rfl) (Nat.le_of_ble_eq_true rfl) dL_bootsIn_14
    · rw [h1]
      refine ⟨15, ⟨[⟨0, 9, 12, 20⟩], ⟨0, 9, 15, 15⟩, [], rfl, (by
      intro z hz
      rcases List.mem_cons.mp hz with rfl | hz
      · exact ⟨by decide, "java/lang/IllegalStateException", by decide, by decide, cl_20⟩
      · cases hz), by decide, by decide, cl_15, rfl, by decide⟩, fun q9 => ?_⟩
      refine v_astore_n (lv' := [(3, .ref q9), (0, .ref (ρ 13 0 0)), (1, .int a1), (2, .ref (ρ 15 0 0))]) C dL_bootsIn_15 rfl (by decide) rfl ?_
      refine v_iconst (v := 2) C dL_bootsIn_16 (by decide) ?_
      exact v_wret C rfl (Nat.le_of_ble_eq_true rfl) (Nat.le_of_ble_eq_true rfl) dL_bootsIn_17
  · rw [h0]
    rw [if_pos (rfl : (0 : Nat) = 0)]
    refine v_i2l C dL_bootsIn_7 ?_
    refine v_last C dL_bootsIn_8 ?_
    have C := bsCx_Rz C r.2.1.toInt64 od
    refine v_goto (tgt := 18) C dL_bootsIn_9 (by decide) ?_
    refine v_iconst (v := 0) C dL_bootsIn_18 (by decide) ?_
    exact v_wret C rfl (Nat.le_of_ble_eq_true rfl) (Nat.le_of_ble_eq_true rfl) dL_bootsIn_19
abbrev rmL_runsIn : Room := { frames := 9, cells := 4, slots := 24, locals := 173 }
set_option maxHeartbeats 4000000 in
set_option maxRecDepth 100000 in
theorem cL_runsIn_ok {l : Launch} {ρ : bsR} {cA : Nat → ClassId} {dC : Nat → ClassId} {dI : Nat → Nat → Nat} (hst : l.stackTraces = false) {a1 a2 : Int32} {X : bsX} {r : bsXr} {lo : Int64} {od : UInt64} (hf : fX8_runsIn a1 a2 X = some r) (hr : r.1 = 0 ∨ r.1 = 1 ∨ r.1 = 2 ∨ r.1 = 3) : bsWi l yL_runsIn cL_runsIn 5 (some .int) [(0, 10, 13, 20), (0, 10, 17, 13), (0, 10, 21, 15)] rmL_runsIn ρ cA dC dI [.ref (ρ 13 0 0), .int a1, .int a2, .ref (ρ 15 0 0)] X lo od ((if r.1 = 1 then (1 : Int32) else (if r.1 = 2 then (2 : Int32) else (if r.1 = 3 then (3 : Int32) else (0 : Int32)))), r.2.2) (if r.1 = 0 then r.2.1.toInt64 else lo) od := by
  refine bsWi_of (by decide +kernel) (Nat.le_of_ble_eq_true rfl) (fun p e s m args below meth c C T9 => ?_)
  have C : bsCx p m c cL_runsIn 5 s args (Cond.codeWith yL_runsIn cL_runsIn 5 (some .int) [(0, 10, 13, 20), (0, 10, 17, 13), (0, 10, 21, 15)] :: bsG) RL ρ cA dC dI (bsRz ρ cA lo od) meth (some .int) := C
  refine v_sub [0, 1, 2, 3] rfl ?_
  refine v_aload_n C dL_runsIn_0 rfl rfl ?_
  refine v_iconst (v := 0) C dL_runsIn_1 (by decide) ?_
  refine v_aload_n C dL_runsIn_2 rfl rfl ?_
  refine v_iload_n C dL_runsIn_3 rfl rfl ?_
  refine v_iload_n C dL_runsIn_4 rfl rfl ?_
  refine v_wcalli (y := yX8_runsIn) (As := [.int a1, .int a2]) (rest := [.int 0, .ref (ρ 15 0 0)]) C T9 (cX8_runsIn_ok hst hf) mlL_88 wyX8_runsIn bsm_X8 bsc_X8 rfl dpX8_runsIn ⟨Nat.le_of_ble_eq_true rfl, Nat.le_of_ble_eq_true rfl⟩ ⟨Nat.le_of_ble_eq_true rfl, Nat.le_of_ble_eq_true rfl⟩ rfl (Nat.le_of_ble_eq_true rfl) dL_runsIn_5 (fun h0 => ?_) (fun h0 => ?_)
  · rcases hr with h1 | h1 | h1 | h1
    · omega
    · rw [h1]
      refine ⟨13, ⟨[], ⟨0, 10, 13, 20⟩, [⟨0, 10, 17, 13⟩, ⟨0, 10, 21, 15⟩], rfl, (fun z hz => nomatch hz), by decide, by decide, cl_20, rfl, by decide⟩, fun q9 => ?_⟩
      refine v_astore (lv' := [(4, .ref q9), (0, .ref (ρ 13 0 0)), (1, .int a1), (2, .int a2), (3, .ref (ρ 15 0 0))]) C dL_runsIn_13 (by decide) rfl ?_
      refine v_iconst (v := 1) C dL_runsIn_15 (by decide) ?_
      exact v_wret C rfl (Nat.le_of_ble_eq_true rfl) (Nat.le_of_ble_eq_true rfl) dL_runsIn_16
    · rw [h1]
      refine ⟨17, ⟨[⟨0, 10, 13, 20⟩], ⟨0, 10, 17, 13⟩, [⟨0, 10, 21, 15⟩], rfl, (by
      intro z hz
      rcases List.mem_cons.mp hz with rfl | hz
      · exact ⟨by decide, "java/lang/IllegalStateException", by decide, by decide, cl_20⟩
      · cases hz), by decide, by decide, cl_13, rfl, by decide⟩, fun q9 => ?_⟩
      refine v_astore (lv' := [(4, .ref q9), (0, .ref (ρ 13 0 0)), (1, .int a1), (2, .int a2), (3, .ref (ρ 15 0 0))]) C dL_runsIn_17 (by decide) rfl ?_
      refine v_iconst (v := 2) C dL_runsIn_19 (by decide) ?_
      exact v_wret C rfl (Nat.le_of_ble_eq_true rfl) (Nat.le_of_ble_eq_true rfl) dL_runsIn_20
    · rw [h1]
      refine ⟨21, ⟨[⟨0, 10, 13, 20⟩, ⟨0, 10, 17, 13⟩], ⟨0, 10, 21, 15⟩, [], rfl, (by
      intro z hz
      rcases List.mem_cons.mp hz with rfl | hz
      · exact ⟨by decide, "java/lang/IllegalStateException", by decide, by decide, cl_20⟩
      · rcases List.mem_cons.mp hz with rfl | hz
        · exact ⟨by decide, "java/lang/IndexOutOfBoundsException", by decide, by decide, cl_13⟩
        · cases hz), by decide, by decide, cl_15, rfl, by decide⟩, fun q9 => ?_⟩
      refine v_astore (lv' := [(4, .ref q9), (0, .ref (ρ 13 0 0)), (1, .int a1), (2, .int a2), (3, .ref (ρ 15 0 0))]) C dL_runsIn_21 (by decide) rfl ?_
      refine v_iconst (v := 3) C dL_runsIn_23 (by decide) ?_
      exact v_wret C rfl (Nat.le_of_ble_eq_true rfl) (Nat.le_of_ble_eq_true rfl) dL_runsIn_24
  · rw [h0]
    rw [if_pos (rfl : (0 : Nat) = 0)]
    refine v_i2l C dL_runsIn_8 ?_
    refine v_last C dL_runsIn_9 ?_
    have C := bsCx_Rz C r.2.1.toInt64 od
    refine v_goto (tgt := 25) C dL_runsIn_10 (by decide) ?_
    refine v_iconst (v := 0) C dL_runsIn_25 (by decide) ?_
    exact v_wret C rfl (Nat.le_of_ble_eq_true rfl) (Nat.le_of_ble_eq_true rfl) dL_runsIn_26
abbrev rmL_crashesIn : Room := { frames := 9, cells := 2, slots := 12, locals := 172 }
set_option maxHeartbeats 4000000 in
set_option maxRecDepth 100000 in
theorem cL_crashesIn_ok {l : Launch} {ρ : bsR} {cA : Nat → ClassId} {dC : Nat → ClassId} {dI : Nat → Nat → Nat} (hst : l.stackTraces = false) {a1 : Int32} {X : bsX} {r : bsXr} {lo : Int64} {od : UInt64} (hf : fX8_crashesIn a1 X = some r) (hr : r.1 = 0 ∨ r.1 = 1 ∨ r.1 = 3) : bsWi l yL_crashesIn cL_crashesIn 4 (some .int) [(0, 9, 12, 20), (0, 9, 15, 15)] rmL_crashesIn ρ cA dC dI [.ref (ρ 13 0 0), .int a1, .ref (ρ 15 0 0)] X lo od ((if r.1 = 1 then (1 : Int32) else (if r.1 = 3 then (2 : Int32) else (0 : Int32))), r.2.2) (if r.1 = 0 then r.2.1.toInt64 else lo) od := by
  refine bsWi_of (by decide +kernel) (Nat.le_of_ble_eq_true rfl) (fun p e s m args below meth c C T9 => ?_)
  have C : bsCx p m c cL_crashesIn 4 s args (Cond.codeWith yL_crashesIn cL_crashesIn 4 (some .int) [(0, 9, 12, 20), (0, 9, 15, 15)] :: bsG) RL ρ cA dC dI (bsRz ρ cA lo od) meth (some .int) := C
  refine v_sub [0, 1, 2] rfl ?_
  refine v_aload_n C dL_crashesIn_0 rfl rfl ?_
  refine v_iconst (v := 0) C dL_crashesIn_1 (by decide) ?_
  refine v_aload_n C dL_crashesIn_2 rfl rfl ?_
  refine v_iload_n C dL_crashesIn_3 rfl rfl ?_
  refine v_wcalli (y := yX8_crashesIn) (As := [.int a1]) (rest := [.int 0, .ref (ρ 15 0 0)]) C T9 (cX8_crashesIn_ok hst hf) mlL_91 wyX8_crashesIn bsm_X8 bsc_X8 rfl dpX8_crashesIn ⟨Nat.le_of_ble_eq_true rfl, Nat.le_of_ble_eq_true rfl⟩ ⟨Nat.le_of_ble_eq_true rfl, Nat.le_of_ble_eq_true rfl⟩ rfl (Nat.le_of_ble_eq_true rfl) dL_crashesIn_4 (fun h0 => ?_) (fun h0 => ?_)
  · rcases hr with h1 | h1 | h1
    · omega
    · rw [h1]
      refine ⟨12, ⟨[], ⟨0, 9, 12, 20⟩, [⟨0, 9, 15, 15⟩], rfl, (fun z hz => nomatch hz), by decide, by decide, cl_20, rfl, by decide⟩, fun q9 => ?_⟩
      refine v_astore_n (lv' := [(3, .ref q9), (0, .ref (ρ 13 0 0)), (1, .int a1), (2, .ref (ρ 15 0 0))]) C dL_crashesIn_12 rfl (by decide) rfl ?_
      refine v_iconst (v := 1) C dL_crashesIn_13 (by decide) ?_
      exact v_wret C rfl (Nat.le_of_ble_eq_true rfl) (Nat.le_of_ble_eq_true rfl) dL_crashesIn_14
    · rw [h1]
      refine ⟨15, ⟨[⟨0, 9, 12, 20⟩], ⟨0, 9, 15, 15⟩, [], rfl, (by
      intro z hz
      rcases List.mem_cons.mp hz with rfl | hz
      · exact ⟨by decide, "java/lang/IllegalStateException", by decide, by decide, cl_20⟩
      · cases hz), by decide, by decide, cl_15, rfl, by decide⟩, fun q9 => ?_⟩
      refine v_astore_n (lv' := [(3, .ref q9), (0, .ref (ρ 13 0 0)), (1, .int a1), (2, .ref (ρ 15 0 0))]) C dL_crashesIn_15 rfl (by decide) rfl ?_
      refine v_iconst (v := 2) C dL_crashesIn_16 (by decide) ?_
      exact v_wret C rfl (Nat.le_of_ble_eq_true rfl) (Nat.le_of_ble_eq_true rfl) dL_crashesIn_17
  · rw [h0]
    rw [if_pos (rfl : (0 : Nat) = 0)]
    refine v_i2l C dL_crashesIn_7 ?_
    refine v_last C dL_crashesIn_8 ?_
    have C := bsCx_Rz C r.2.1.toInt64 od
    refine v_goto (tgt := 18) C dL_crashesIn_9 (by decide) ?_
    refine v_iconst (v := 0) C dL_crashesIn_18 (by decide) ?_
    exact v_wret C rfl (Nat.le_of_ble_eq_true rfl) (Nat.le_of_ble_eq_true rfl) dL_crashesIn_19
abbrev rmL_newerIn : Room := { frames := 8, cells := 1, slots := 6, locals := 130 }
set_option maxHeartbeats 4000000 in
set_option maxRecDepth 100000 in
theorem cL_newerIn_ok {l : Launch} {ρ : bsR} {cA : Nat → ClassId} {dC : Nat → ClassId} {dI : Nat → Nat → Nat} (hst : l.stackTraces = false) {X : bsX} {r : bsXr} {lo : Int64} {od : UInt64} (hf : fX8_newerIn  X = some r) (hr : r.1 = 0 ∨ r.1 = 1) : bsWi l yL_newerIn cL_newerIn 3 (some .int) [(0, 8, 11, 20)] rmL_newerIn ρ cA dC dI [.ref (ρ 13 0 0), .ref (ρ 15 0 0)] X lo od ((if r.1 = 1 then (1 : Int32) else (0 : Int32)), r.2.2) (if r.1 = 0 then r.2.1.toInt64 else lo) od := by
  refine bsWi_of (by decide +kernel) (Nat.le_of_ble_eq_true rfl) (fun p e s m args below meth c C T9 => ?_)
  have C : bsCx p m c cL_newerIn 3 s args (Cond.codeWith yL_newerIn cL_newerIn 3 (some .int) [(0, 8, 11, 20)] :: bsG) RL ρ cA dC dI (bsRz ρ cA lo od) meth (some .int) := C
  refine v_sub [0, 1] rfl ?_
  refine v_aload_n C dL_newerIn_0 rfl rfl ?_
  refine v_iconst (v := 0) C dL_newerIn_1 (by decide) ?_
  refine v_aload_n C dL_newerIn_2 rfl rfl ?_
  refine v_wcalli (y := yX8_newerIn) (As := []) (rest := [.int 0, .ref (ρ 15 0 0)]) C T9 (cX8_newerIn_ok hst hf) mlL_94 wyX8_newerIn bsm_X8 bsc_X8 rfl dpX8_newerIn ⟨Nat.le_of_ble_eq_true rfl, Nat.le_of_ble_eq_true rfl⟩ ⟨Nat.le_of_ble_eq_true rfl, Nat.le_of_ble_eq_true rfl⟩ rfl (Nat.le_of_ble_eq_true rfl) dL_newerIn_3 (fun h0 => ?_) (fun h0 => ?_)
  · rcases hr with h1 | h1
    · omega
    · rw [h1]
      refine ⟨11, ⟨[], ⟨0, 8, 11, 20⟩, [], rfl, (fun z hz => nomatch hz), by decide, by decide, cl_20, rfl, by decide⟩, fun q9 => ?_⟩
      refine v_astore_n (lv' := [(2, .ref q9), (0, .ref (ρ 13 0 0)), (1, .ref (ρ 15 0 0))]) C dL_newerIn_11 rfl (by decide) rfl ?_
      refine v_iconst (v := 1) C dL_newerIn_12 (by decide) ?_
      exact v_wret C rfl (Nat.le_of_ble_eq_true rfl) (Nat.le_of_ble_eq_true rfl) dL_newerIn_13
  · rw [h0]
    rw [if_pos (rfl : (0 : Nat) = 0)]
    refine v_i2l C dL_newerIn_6 ?_
    refine v_last C dL_newerIn_7 ?_
    have C := bsCx_Rz C r.2.1.toInt64 od
    refine v_goto (tgt := 14) C dL_newerIn_8 (by decide) ?_
    refine v_iconst (v := 0) C dL_newerIn_14 (by decide) ?_
    exact v_wret C rfl (Nat.le_of_ble_eq_true rfl) (Nat.le_of_ble_eq_true rfl) dL_newerIn_15
abbrev rmL_rescueIn : Room := { frames := 8, cells := 1, slots := 6, locals := 149 }
set_option maxHeartbeats 4000000 in
set_option maxRecDepth 100000 in
theorem cL_rescueIn_ok {l : Launch} {ρ : bsR} {cA : Nat → ClassId} {dC : Nat → ClassId} {dI : Nat → Nat → Nat} (hst : l.stackTraces = false) {X : bsX} {r : bsXr} {lo : Int64} {od : UInt64} (hf : fX8_rescueIn  X = some r) (hr : r.1 = 0 ∨ r.1 = 1) : bsWi l yL_rescueIn cL_rescueIn 3 (some .int) [(0, 8, 11, 20)] rmL_rescueIn ρ cA dC dI [.ref (ρ 13 0 0), .ref (ρ 15 0 0)] X lo od ((if r.1 = 1 then (1 : Int32) else (0 : Int32)), r.2.2) (if r.1 = 0 then r.2.1.toInt64 else lo) od := by
  refine bsWi_of (by decide +kernel) (Nat.le_of_ble_eq_true rfl) (fun p e s m args below meth c C T9 => ?_)
  have C : bsCx p m c cL_rescueIn 3 s args (Cond.codeWith yL_rescueIn cL_rescueIn 3 (some .int) [(0, 8, 11, 20)] :: bsG) RL ρ cA dC dI (bsRz ρ cA lo od) meth (some .int) := C
  refine v_sub [0, 1] rfl ?_
  refine v_aload_n C dL_rescueIn_0 rfl rfl ?_
  refine v_iconst (v := 0) C dL_rescueIn_1 (by decide) ?_
  refine v_aload_n C dL_rescueIn_2 rfl rfl ?_
  refine v_wcalli (y := yX8_rescueIn) (As := []) (rest := [.int 0, .ref (ρ 15 0 0)]) C T9 (cX8_rescueIn_ok hst hf) mlL_97 wyX8_rescueIn bsm_X8 bsc_X8 rfl dpX8_rescueIn ⟨Nat.le_of_ble_eq_true rfl, Nat.le_of_ble_eq_true rfl⟩ ⟨Nat.le_of_ble_eq_true rfl, Nat.le_of_ble_eq_true rfl⟩ rfl (Nat.le_of_ble_eq_true rfl) dL_rescueIn_3 (fun h0 => ?_) (fun h0 => ?_)
  · rcases hr with h1 | h1
    · omega
    · rw [h1]
      refine ⟨11, ⟨[], ⟨0, 8, 11, 20⟩, [], rfl, (fun z hz => nomatch hz), by decide, by decide, cl_20, rfl, by decide⟩, fun q9 => ?_⟩
      refine v_astore_n (lv' := [(2, .ref q9), (0, .ref (ρ 13 0 0)), (1, .ref (ρ 15 0 0))]) C dL_rescueIn_11 rfl (by decide) rfl ?_
      refine v_iconst (v := 1) C dL_rescueIn_12 (by decide) ?_
      exact v_wret C rfl (Nat.le_of_ble_eq_true rfl) (Nat.le_of_ble_eq_true rfl) dL_rescueIn_13
  · rw [h0]
    rw [if_pos (rfl : (0 : Nat) = 0)]
    refine v_i2l C dL_rescueIn_6 ?_
    refine v_last C dL_rescueIn_7 ?_
    have C := bsCx_Rz C r.2.1.toInt64 od
    refine v_goto (tgt := 14) C dL_rescueIn_8 (by decide) ?_
    refine v_iconst (v := 0) C dL_rescueIn_14 (by decide) ?_
    exact v_wret C rfl (Nat.le_of_ble_eq_true rfl) (Nat.le_of_ble_eq_true rfl) dL_rescueIn_15
abbrev rmL_goodIn : Room := { frames := 9, cells := 2, slots := 12, locals := 151 }
set_option maxHeartbeats 4000000 in
set_option maxRecDepth 100000 in
theorem cL_goodIn_ok {l : Launch} {ρ : bsR} {cA : Nat → ClassId} {dC : Nat → ClassId} {dI : Nat → Nat → Nat} (hst : l.stackTraces = false) {a1 : Int32} {X : bsX} {r : bsXr} {lo : Int64} {od : UInt64} (hf : fX8_goodIn a1 X = some r) (hr : r.1 = 0 ∨ r.1 = 1 ∨ r.1 = 2) : bsWi l yL_goodIn cL_goodIn 4 (some .int) [(0, 9, 12, 20), (0, 9, 15, 13)] rmL_goodIn ρ cA dC dI [.ref (ρ 13 0 0), .int a1, .ref (ρ 15 0 0)] X lo od ((if r.1 = 1 then (1 : Int32) else (if r.1 = 2 then (2 : Int32) else (0 : Int32))), r.2.2) (if r.1 = 0 then r.2.1.toInt64 else lo) od := by
  refine bsWi_of (by decide +kernel) (Nat.le_of_ble_eq_true rfl) (fun p e s m args below meth c C T9 => ?_)
  have C : bsCx p m c cL_goodIn 4 s args (Cond.codeWith yL_goodIn cL_goodIn 4 (some .int) [(0, 9, 12, 20), (0, 9, 15, 13)] :: bsG) RL ρ cA dC dI (bsRz ρ cA lo od) meth (some .int) := C
  refine v_sub [0, 1, 2] rfl ?_
  refine v_aload_n C dL_goodIn_0 rfl rfl ?_
  refine v_iconst (v := 0) C dL_goodIn_1 (by decide) ?_
  refine v_aload_n C dL_goodIn_2 rfl rfl ?_
  refine v_iload_n C dL_goodIn_3 rfl rfl ?_
  refine v_wcalli (y := yX8_goodIn) (As := [.int a1]) (rest := [.int 0, .ref (ρ 15 0 0)]) C T9 (cX8_goodIn_ok hst hf) mlL_100 wyX8_goodIn bsm_X8 bsc_X8 rfl dpX8_goodIn ⟨Nat.le_of_ble_eq_true rfl, Nat.le_of_ble_eq_true rfl⟩ ⟨Nat.le_of_ble_eq_true rfl, Nat.le_of_ble_eq_true rfl⟩ rfl (Nat.le_of_ble_eq_true rfl) dL_goodIn_4 (fun h0 => ?_) (fun h0 => ?_)
  · rcases hr with h1 | h1 | h1
    · omega
    · rw [h1]
      refine ⟨12, ⟨[], ⟨0, 9, 12, 20⟩, [⟨0, 9, 15, 13⟩], rfl, (fun z hz => nomatch hz), by decide, by decide, cl_20, rfl, by decide⟩, fun q9 => ?_⟩
      refine v_astore_n (lv' := [(3, .ref q9), (0, .ref (ρ 13 0 0)), (1, .int a1), (2, .ref (ρ 15 0 0))]) C dL_goodIn_12 rfl (by decide) rfl ?_
      refine v_iconst (v := 1) C dL_goodIn_13 (by decide) ?_
      exact v_wret C rfl (Nat.le_of_ble_eq_true rfl) (Nat.le_of_ble_eq_true rfl) dL_goodIn_14
    · rw [h1]
      refine ⟨15, ⟨[⟨0, 9, 12, 20⟩], ⟨0, 9, 15, 13⟩, [], rfl, (by
      intro z hz
      rcases List.mem_cons.mp hz with rfl | hz
      · exact ⟨by decide, "java/lang/IllegalStateException", by decide, by decide, cl_20⟩
      · cases hz), by decide, by decide, cl_13, rfl, by decide⟩, fun q9 => ?_⟩
      refine v_astore_n (lv' := [(3, .ref q9), (0, .ref (ρ 13 0 0)), (1, .int a1), (2, .ref (ρ 15 0 0))]) C dL_goodIn_15 rfl (by decide) rfl ?_
      refine v_iconst (v := 2) C dL_goodIn_16 (by decide) ?_
      exact v_wret C rfl (Nat.le_of_ble_eq_true rfl) (Nat.le_of_ble_eq_true rfl) dL_goodIn_17
  · rw [h0]
    rw [if_pos (rfl : (0 : Nat) = 0)]
    refine v_i2l C dL_goodIn_7 ?_
    refine v_last C dL_goodIn_8 ?_
    have C := bsCx_Rz C r.2.1.toInt64 od
    refine v_goto (tgt := 18) C dL_goodIn_9 (by decide) ?_
    refine v_iconst (v := 0) C dL_goodIn_18 (by decide) ?_
    exact v_wret C rfl (Nat.le_of_ble_eq_true rfl) (Nat.le_of_ble_eq_true rfl) dL_goodIn_19
abbrev rmL_calmIn : Room := { frames := 8, cells := 1, slots := 6, locals := 131 }
set_option maxHeartbeats 4000000 in
set_option maxRecDepth 100000 in
theorem cL_calmIn_ok {l : Launch} {ρ : bsR} {cA : Nat → ClassId} {dC : Nat → ClassId} {dI : Nat → Nat → Nat} (hst : l.stackTraces = false) {X : bsX} {r : bsXr} {lo : Int64} {od : UInt64} (hf : fX8_calmIn  X = some r) (hr : r.1 = 0 ∨ r.1 = 1) : bsWi l yL_calmIn cL_calmIn 3 (some .int) [(0, 8, 11, 20)] rmL_calmIn ρ cA dC dI [.ref (ρ 13 0 0), .ref (ρ 15 0 0)] X lo od ((if r.1 = 1 then (1 : Int32) else (0 : Int32)), r.2.2) (if r.1 = 0 then r.2.1.toInt64 else lo) od := by
  refine bsWi_of (by decide +kernel) (Nat.le_of_ble_eq_true rfl) (fun p e s m args below meth c C T9 => ?_)
  have C : bsCx p m c cL_calmIn 3 s args (Cond.codeWith yL_calmIn cL_calmIn 3 (some .int) [(0, 8, 11, 20)] :: bsG) RL ρ cA dC dI (bsRz ρ cA lo od) meth (some .int) := C
  refine v_sub [0, 1] rfl ?_
  refine v_aload_n C dL_calmIn_0 rfl rfl ?_
  refine v_iconst (v := 0) C dL_calmIn_1 (by decide) ?_
  refine v_aload_n C dL_calmIn_2 rfl rfl ?_
  refine v_wcalli (y := yX8_calmIn) (As := []) (rest := [.int 0, .ref (ρ 15 0 0)]) C T9 (cX8_calmIn_ok hst hf) mlL_103 wyX8_calmIn bsm_X8 bsc_X8 rfl dpX8_calmIn ⟨Nat.le_of_ble_eq_true rfl, Nat.le_of_ble_eq_true rfl⟩ ⟨Nat.le_of_ble_eq_true rfl, Nat.le_of_ble_eq_true rfl⟩ rfl (Nat.le_of_ble_eq_true rfl) dL_calmIn_3 (fun h0 => ?_) (fun h0 => ?_)
  · rcases hr with h1 | h1
    · omega
    · rw [h1]
      refine ⟨11, ⟨[], ⟨0, 8, 11, 20⟩, [], rfl, (fun z hz => nomatch hz), by decide, by decide, cl_20, rfl, by decide⟩, fun q9 => ?_⟩
      refine v_astore_n (lv' := [(2, .ref q9), (0, .ref (ρ 13 0 0)), (1, .ref (ρ 15 0 0))]) C dL_calmIn_11 rfl (by decide) rfl ?_
      refine v_iconst (v := 1) C dL_calmIn_12 (by decide) ?_
      exact v_wret C rfl (Nat.le_of_ble_eq_true rfl) (Nat.le_of_ble_eq_true rfl) dL_calmIn_13
  · rw [h0]
    rw [if_pos (rfl : (0 : Nat) = 0)]
    refine v_i2l C dL_calmIn_6 ?_
    refine v_last C dL_calmIn_7 ?_
    have C := bsCx_Rz C r.2.1.toInt64 od
    refine v_goto (tgt := 14) C dL_calmIn_8 (by decide) ?_
    refine v_iconst (v := 0) C dL_calmIn_14 (by decide) ?_
    exact v_wret C rfl (Nat.le_of_ble_eq_true rfl) (Nat.le_of_ble_eq_true rfl) dL_calmIn_15
abbrev rmL_triesIn : Room := { frames := 9, cells := 4, slots := 24, locals := 173 }
set_option maxHeartbeats 4000000 in
set_option maxRecDepth 100000 in
theorem cL_triesIn_ok {l : Launch} {ρ : bsR} {cA : Nat → ClassId} {dC : Nat → ClassId} {dI : Nat → Nat → Nat} (hst : l.stackTraces = false) {a1 a2 : Int32} {X : bsX} {r : bsXr} {lo : Int64} {od : UInt64} (hf : fX8_triesIn a1 a2 X = some r) (hr : r.1 = 0 ∨ r.1 = 1 ∨ r.1 = 2 ∨ r.1 = 3) : bsWi l yL_triesIn cL_triesIn 5 (some .int) [(0, 10, 13, 20), (0, 10, 17, 13), (0, 10, 21, 15)] rmL_triesIn ρ cA dC dI [.ref (ρ 13 0 0), .int a1, .int a2, .ref (ρ 15 0 0)] X lo od ((if r.1 = 1 then (1 : Int32) else (if r.1 = 2 then (2 : Int32) else (if r.1 = 3 then (3 : Int32) else (0 : Int32)))), r.2.2) (if r.1 = 0 then r.2.1.toInt64 else lo) od := by
  refine bsWi_of (by decide +kernel) (Nat.le_of_ble_eq_true rfl) (fun p e s m args below meth c C T9 => ?_)
  have C : bsCx p m c cL_triesIn 5 s args (Cond.codeWith yL_triesIn cL_triesIn 5 (some .int) [(0, 10, 13, 20), (0, 10, 17, 13), (0, 10, 21, 15)] :: bsG) RL ρ cA dC dI (bsRz ρ cA lo od) meth (some .int) := C
  refine v_sub [0, 1, 2, 3] rfl ?_
  refine v_aload_n C dL_triesIn_0 rfl rfl ?_
  refine v_iconst (v := 0) C dL_triesIn_1 (by decide) ?_
  refine v_aload_n C dL_triesIn_2 rfl rfl ?_
  refine v_iload_n C dL_triesIn_3 rfl rfl ?_
  refine v_iload_n C dL_triesIn_4 rfl rfl ?_
  refine v_wcalli (y := yX8_triesIn) (As := [.int a1, .int a2]) (rest := [.int 0, .ref (ρ 15 0 0)]) C T9 (cX8_triesIn_ok hst hf) mlL_106 wyX8_triesIn bsm_X8 bsc_X8 rfl dpX8_triesIn ⟨Nat.le_of_ble_eq_true rfl, Nat.le_of_ble_eq_true rfl⟩ ⟨Nat.le_of_ble_eq_true rfl, Nat.le_of_ble_eq_true rfl⟩ rfl (Nat.le_of_ble_eq_true rfl) dL_triesIn_5 (fun h0 => ?_) (fun h0 => ?_)
  · rcases hr with h1 | h1 | h1 | h1
    · omega
    · rw [h1]
      refine ⟨13, ⟨[], ⟨0, 10, 13, 20⟩, [⟨0, 10, 17, 13⟩, ⟨0, 10, 21, 15⟩], rfl, (fun z hz => nomatch hz), by decide, by decide, cl_20, rfl, by decide⟩, fun q9 => ?_⟩
      refine v_astore (lv' := [(4, .ref q9), (0, .ref (ρ 13 0 0)), (1, .int a1), (2, .int a2), (3, .ref (ρ 15 0 0))]) C dL_triesIn_13 (by decide) rfl ?_
      refine v_iconst (v := 1) C dL_triesIn_15 (by decide) ?_
      exact v_wret C rfl (Nat.le_of_ble_eq_true rfl) (Nat.le_of_ble_eq_true rfl) dL_triesIn_16
    · rw [h1]
      refine ⟨17, ⟨[⟨0, 10, 13, 20⟩], ⟨0, 10, 17, 13⟩, [⟨0, 10, 21, 15⟩], rfl, (by
      intro z hz
      rcases List.mem_cons.mp hz with rfl | hz
      · exact ⟨by decide, "java/lang/IllegalStateException", by decide, by decide, cl_20⟩
      · cases hz), by decide, by decide, cl_13, rfl, by decide⟩, fun q9 => ?_⟩
      refine v_astore (lv' := [(4, .ref q9), (0, .ref (ρ 13 0 0)), (1, .int a1), (2, .int a2), (3, .ref (ρ 15 0 0))]) C dL_triesIn_17 (by decide) rfl ?_
      refine v_iconst (v := 2) C dL_triesIn_19 (by decide) ?_
      exact v_wret C rfl (Nat.le_of_ble_eq_true rfl) (Nat.le_of_ble_eq_true rfl) dL_triesIn_20
    · rw [h1]
      refine ⟨21, ⟨[⟨0, 10, 13, 20⟩, ⟨0, 10, 17, 13⟩], ⟨0, 10, 21, 15⟩, [], rfl, (by
      intro z hz
      rcases List.mem_cons.mp hz with rfl | hz
      · exact ⟨by decide, "java/lang/IllegalStateException", by decide, by decide, cl_20⟩
      · rcases List.mem_cons.mp hz with rfl | hz
        · exact ⟨by decide, "java/lang/IndexOutOfBoundsException", by decide, by decide, cl_13⟩
        · cases hz), by decide, by decide, cl_15, rfl, by decide⟩, fun q9 => ?_⟩
      refine v_astore (lv' := [(4, .ref q9), (0, .ref (ρ 13 0 0)), (1, .int a1), (2, .int a2), (3, .ref (ρ 15 0 0))]) C dL_triesIn_21 (by decide) rfl ?_
      refine v_iconst (v := 3) C dL_triesIn_23 (by decide) ?_
      exact v_wret C rfl (Nat.le_of_ble_eq_true rfl) (Nat.le_of_ble_eq_true rfl) dL_triesIn_24
  · rw [h0]
    rw [if_pos (rfl : (0 : Nat) = 0)]
    refine v_i2l C dL_triesIn_8 ?_
    refine v_last C dL_triesIn_9 ?_
    have C := bsCx_Rz C r.2.1.toInt64 od
    refine v_goto (tgt := 25) C dL_triesIn_10 (by decide) ?_
    refine v_iconst (v := 0) C dL_triesIn_25 (by decide) ?_
    exact v_wret C rfl (Nat.le_of_ble_eq_true rfl) (Nat.le_of_ble_eq_true rfl) dL_triesIn_26
abbrev rmL_ifBooted : Room := { frames := 8, cells := 1, slots := 6, locals := 121 }
set_option maxHeartbeats 4000000 in
set_option maxRecDepth 100000 in
theorem cL_ifBooted_ok {l : Launch} {ρ : bsR} {cA : Nat → ClassId} {dC : Nat → ClassId} {dI : Nat → Nat → Nat} (hst : l.stackTraces = false) {X : bsX} {r : bsXr} {lo : Int64} {od : UInt64} (hf : fX8_ifBooted  X = some r) (hr : r.1 = 0 ∨ r.1 = 1) : bsWi l yL_ifBooted cL_ifBooted 3 (some .int) [(0, 8, 11, 20)] rmL_ifBooted ρ cA dC dI [.ref (ρ 13 0 0), .ref (ρ 15 0 0)] X lo od ((if r.1 = 1 then (1 : Int32) else (0 : Int32)), r.2.2) (if r.1 = 0 then r.2.1.toInt64 else lo) od := by
  refine bsWi_of (by decide +kernel) (Nat.le_of_ble_eq_true rfl) (fun p e s m args below meth c C T9 => ?_)
  have C : bsCx p m c cL_ifBooted 3 s args (Cond.codeWith yL_ifBooted cL_ifBooted 3 (some .int) [(0, 8, 11, 20)] :: bsG) RL ρ cA dC dI (bsRz ρ cA lo od) meth (some .int) := C
  refine v_sub [0, 1] rfl ?_
  refine v_aload_n C dL_ifBooted_0 rfl rfl ?_
  refine v_iconst (v := 0) C dL_ifBooted_1 (by decide) ?_
  refine v_aload_n C dL_ifBooted_2 rfl rfl ?_
  refine v_wcalli (y := yX8_ifBooted) (As := []) (rest := [.int 0, .ref (ρ 15 0 0)]) C T9 (cX8_ifBooted_ok hst hf) mlL_109 wyX8_ifBooted bsm_X8 bsc_X8 rfl dpX8_ifBooted ⟨Nat.le_of_ble_eq_true rfl, Nat.le_of_ble_eq_true rfl⟩ ⟨Nat.le_of_ble_eq_true rfl, Nat.le_of_ble_eq_true rfl⟩ rfl (Nat.le_of_ble_eq_true rfl) dL_ifBooted_3 (fun h0 => ?_) (fun h0 => ?_)
  · rcases hr with h1 | h1
    · omega
    · rw [h1]
      refine ⟨11, ⟨[], ⟨0, 8, 11, 20⟩, [], rfl, (fun z hz => nomatch hz), by decide, by decide, cl_20, rfl, by decide⟩, fun q9 => ?_⟩
      refine v_astore_n (lv' := [(2, .ref q9), (0, .ref (ρ 13 0 0)), (1, .ref (ρ 15 0 0))]) C dL_ifBooted_11 rfl (by decide) rfl ?_
      refine v_iconst (v := 1) C dL_ifBooted_12 (by decide) ?_
      exact v_wret C rfl (Nat.le_of_ble_eq_true rfl) (Nat.le_of_ble_eq_true rfl) dL_ifBooted_13
  · rw [h0]
    rw [if_pos (rfl : (0 : Nat) = 0)]
    refine v_i2l C dL_ifBooted_6 ?_
    refine v_last C dL_ifBooted_7 ?_
    have C := bsCx_Rz C r.2.1.toInt64 od
    refine v_goto (tgt := 14) C dL_ifBooted_8 (by decide) ?_
    refine v_iconst (v := 0) C dL_ifBooted_14 (by decide) ?_
    exact v_wret C rfl (Nat.le_of_ble_eq_true rfl) (Nat.le_of_ble_eq_true rfl) dL_ifBooted_15
abbrev rmL_givenUpIf : Room := { frames := 8, cells := 1, slots := 6, locals := 121 }
set_option maxHeartbeats 4000000 in
set_option maxRecDepth 100000 in
theorem cL_givenUpIf_ok {l : Launch} {ρ : bsR} {cA : Nat → ClassId} {dC : Nat → ClassId} {dI : Nat → Nat → Nat} (hst : l.stackTraces = false) {X : bsX} {r : bsXr} {lo : Int64} {od : UInt64} (hf : fX8_givenUpIf  X = some r) (hr : r.1 = 0 ∨ r.1 = 1) : bsWi l yL_givenUpIf cL_givenUpIf 3 (some .int) [(0, 8, 11, 20)] rmL_givenUpIf ρ cA dC dI [.ref (ρ 13 0 0), .ref (ρ 15 0 0)] X lo od ((if r.1 = 1 then (1 : Int32) else (0 : Int32)), r.2.2) (if r.1 = 0 then r.2.1.toInt64 else lo) od := by
  refine bsWi_of (by decide +kernel) (Nat.le_of_ble_eq_true rfl) (fun p e s m args below meth c C T9 => ?_)
  have C : bsCx p m c cL_givenUpIf 3 s args (Cond.codeWith yL_givenUpIf cL_givenUpIf 3 (some .int) [(0, 8, 11, 20)] :: bsG) RL ρ cA dC dI (bsRz ρ cA lo od) meth (some .int) := C
  refine v_sub [0, 1] rfl ?_
  refine v_aload_n C dL_givenUpIf_0 rfl rfl ?_
  refine v_iconst (v := 0) C dL_givenUpIf_1 (by decide) ?_
  refine v_aload_n C dL_givenUpIf_2 rfl rfl ?_
  refine v_wcalli (y := yX8_givenUpIf) (As := []) (rest := [.int 0, .ref (ρ 15 0 0)]) C T9 (cX8_givenUpIf_ok hst hf) mlL_112 wyX8_givenUpIf bsm_X8 bsc_X8 rfl dpX8_givenUpIf ⟨Nat.le_of_ble_eq_true rfl, Nat.le_of_ble_eq_true rfl⟩ ⟨Nat.le_of_ble_eq_true rfl, Nat.le_of_ble_eq_true rfl⟩ rfl (Nat.le_of_ble_eq_true rfl) dL_givenUpIf_3 (fun h0 => ?_) (fun h0 => ?_)
  · rcases hr with h1 | h1
    · omega
    · rw [h1]
      refine ⟨11, ⟨[], ⟨0, 8, 11, 20⟩, [], rfl, (fun z hz => nomatch hz), by decide, by decide, cl_20, rfl, by decide⟩, fun q9 => ?_⟩
      refine v_astore_n (lv' := [(2, .ref q9), (0, .ref (ρ 13 0 0)), (1, .ref (ρ 15 0 0))]) C dL_givenUpIf_11 rfl (by decide) rfl ?_
      refine v_iconst (v := 1) C dL_givenUpIf_12 (by decide) ?_
      exact v_wret C rfl (Nat.le_of_ble_eq_true rfl) (Nat.le_of_ble_eq_true rfl) dL_givenUpIf_13
  · rw [h0]
    rw [if_pos (rfl : (0 : Nat) = 0)]
    refine v_i2l C dL_givenUpIf_6 ?_
    refine v_last C dL_givenUpIf_7 ?_
    have C := bsCx_Rz C r.2.1.toInt64 od
    refine v_goto (tgt := 14) C dL_givenUpIf_8 (by decide) ?_
    refine v_iconst (v := 0) C dL_givenUpIf_14 (by decide) ?_
    exact v_wret C rfl (Nat.le_of_ble_eq_true rfl) (Nat.le_of_ble_eq_true rfl) dL_givenUpIf_15
abbrev rmL_settlesOn : Room := { frames := 8, cells := 1, slots := 6, locals := 170 }
set_option maxHeartbeats 4000000 in
set_option maxRecDepth 100000 in
theorem cL_settlesOn_ok {l : Launch} {ρ : bsR} {cA : Nat → ClassId} {dC : Nat → ClassId} {dI : Nat → Nat → Nat} (hst : l.stackTraces = false) {X : bsX} {r : bsXr} {lo : Int64} {od : UInt64} (hf : fX8_settlesOn  X = some r) (hr : r.1 = 0 ∨ r.1 = 1) : bsWi l yL_settlesOn cL_settlesOn 3 (some .int) [(0, 8, 11, 20)] rmL_settlesOn ρ cA dC dI [.ref (ρ 13 0 0), .ref (ρ 15 0 0)] X lo od ((if r.1 = 1 then (1 : Int32) else (0 : Int32)), r.2.2) (if r.1 = 0 then r.2.1.toInt64 else lo) od := by
  refine bsWi_of (by decide +kernel) (Nat.le_of_ble_eq_true rfl) (fun p e s m args below meth c C T9 => ?_)
  have C : bsCx p m c cL_settlesOn 3 s args (Cond.codeWith yL_settlesOn cL_settlesOn 3 (some .int) [(0, 8, 11, 20)] :: bsG) RL ρ cA dC dI (bsRz ρ cA lo od) meth (some .int) := C
  refine v_sub [0, 1] rfl ?_
  refine v_aload_n C dL_settlesOn_0 rfl rfl ?_
  refine v_iconst (v := 0) C dL_settlesOn_1 (by decide) ?_
  refine v_aload_n C dL_settlesOn_2 rfl rfl ?_
  refine v_wcalli (y := yX8_settlesOn) (As := []) (rest := [.int 0, .ref (ρ 15 0 0)]) C T9 (cX8_settlesOn_ok hst hf) mlL_115 wyX8_settlesOn bsm_X8 bsc_X8 rfl dpX8_settlesOn ⟨Nat.le_of_ble_eq_true rfl, Nat.le_of_ble_eq_true rfl⟩ ⟨Nat.le_of_ble_eq_true rfl, Nat.le_of_ble_eq_true rfl⟩ rfl (Nat.le_of_ble_eq_true rfl) dL_settlesOn_3 (fun h0 => ?_) (fun h0 => ?_)
  · rcases hr with h1 | h1
    · omega
    · rw [h1]
      refine ⟨11, ⟨[], ⟨0, 8, 11, 20⟩, [], rfl, (fun z hz => nomatch hz), by decide, by decide, cl_20, rfl, by decide⟩, fun q9 => ?_⟩
      refine v_astore_n (lv' := [(2, .ref q9), (0, .ref (ρ 13 0 0)), (1, .ref (ρ 15 0 0))]) C dL_settlesOn_11 rfl (by decide) rfl ?_
      refine v_iconst (v := 1) C dL_settlesOn_12 (by decide) ?_
      exact v_wret C rfl (Nat.le_of_ble_eq_true rfl) (Nat.le_of_ble_eq_true rfl) dL_settlesOn_13
  · rw [h0]
    rw [if_pos (rfl : (0 : Nat) = 0)]
    refine v_i2l C dL_settlesOn_6 ?_
    refine v_last C dL_settlesOn_7 ?_
    have C := bsCx_Rz C r.2.1.toInt64 od
    refine v_goto (tgt := 14) C dL_settlesOn_8 (by decide) ?_
    refine v_iconst (v := 0) C dL_settlesOn_14 (by decide) ?_
    exact v_wret C rfl (Nat.le_of_ble_eq_true rfl) (Nat.le_of_ble_eq_true rfl) dL_settlesOn_15
abbrev rmL_settlesWithout : Room := { frames := 9, cells := 2, slots := 12, locals := 171 }
set_option maxHeartbeats 4000000 in
set_option maxRecDepth 100000 in
theorem cL_settlesWithout_ok {l : Launch} {ρ : bsR} {cA : Nat → ClassId} {dC : Nat → ClassId} {dI : Nat → Nat → Nat} (hst : l.stackTraces = false) {a1 : Int32} {X : bsX} {r : bsXr} {lo : Int64} {od : UInt64} (hf : fX8_settlesWithout a1 X = some r) (hr : r.1 = 0 ∨ r.1 = 1 ∨ r.1 = 2) : bsWi l yL_settlesWithout cL_settlesWithout 4 (some .int) [(0, 9, 12, 20), (0, 9, 15, 13)] rmL_settlesWithout ρ cA dC dI [.ref (ρ 13 0 0), .int a1, .ref (ρ 15 0 0)] X lo od ((if r.1 = 1 then (1 : Int32) else (if r.1 = 2 then (2 : Int32) else (0 : Int32))), r.2.2) (if r.1 = 0 then r.2.1.toInt64 else lo) od := by
  refine bsWi_of (by decide +kernel) (Nat.le_of_ble_eq_true rfl) (fun p e s m args below meth c C T9 => ?_)
  have C : bsCx p m c cL_settlesWithout 4 s args (Cond.codeWith yL_settlesWithout cL_settlesWithout 4 (some .int) [(0, 9, 12, 20), (0, 9, 15, 13)] :: bsG) RL ρ cA dC dI (bsRz ρ cA lo od) meth (some .int) := C
  refine v_sub [0, 1, 2] rfl ?_
  refine v_aload_n C dL_settlesWithout_0 rfl rfl ?_
  refine v_iconst (v := 0) C dL_settlesWithout_1 (by decide) ?_
  refine v_aload_n C dL_settlesWithout_2 rfl rfl ?_
  refine v_iload_n C dL_settlesWithout_3 rfl rfl ?_
  refine v_wcalli (y := yX8_settlesWithout) (As := [.int a1]) (rest := [.int 0, .ref (ρ 15 0 0)]) C T9 (cX8_settlesWithout_ok hst hf) mlL_118 wyX8_settlesWithout bsm_X8 bsc_X8 rfl dpX8_settlesWithout ⟨Nat.le_of_ble_eq_true rfl, Nat.le_of_ble_eq_true rfl⟩ ⟨Nat.le_of_ble_eq_true rfl, Nat.le_of_ble_eq_true rfl⟩ rfl (Nat.le_of_ble_eq_true rfl) dL_settlesWithout_4 (fun h0 => ?_) (fun h0 => ?_)
  · rcases hr with h1 | h1 | h1
    · omega
    · rw [h1]
      refine ⟨12, ⟨[], ⟨0, 9, 12, 20⟩, [⟨0, 9, 15, 13⟩], rfl, (fun z hz => nomatch hz), by decide, by decide, cl_20, rfl, by decide⟩, fun q9 => ?_⟩
      refine v_astore_n (lv' := [(3, .ref q9), (0, .ref (ρ 13 0 0)), (1, .int a1), (2, .ref (ρ 15 0 0))]) C dL_settlesWithout_12 rfl (by decide) rfl ?_
      refine v_iconst (v := 1) C dL_settlesWithout_13 (by decide) ?_
      exact v_wret C rfl (Nat.le_of_ble_eq_true rfl) (Nat.le_of_ble_eq_true rfl) dL_settlesWithout_14
    · rw [h1]
      refine ⟨15, ⟨[⟨0, 9, 12, 20⟩], ⟨0, 9, 15, 13⟩, [], rfl, (by
      intro z hz
      rcases List.mem_cons.mp hz with rfl | hz
      · exact ⟨by decide, "java/lang/IllegalStateException", by decide, by decide, cl_20⟩
      · cases hz), by decide, by decide, cl_13, rfl, by decide⟩, fun q9 => ?_⟩
      refine v_astore_n (lv' := [(3, .ref q9), (0, .ref (ρ 13 0 0)), (1, .int a1), (2, .ref (ρ 15 0 0))]) C dL_settlesWithout_15 rfl (by decide) rfl ?_
      refine v_iconst (v := 2) C dL_settlesWithout_16 (by decide) ?_
      exact v_wret C rfl (Nat.le_of_ble_eq_true rfl) (Nat.le_of_ble_eq_true rfl) dL_settlesWithout_17
  · rw [h0]
    rw [if_pos (rfl : (0 : Nat) = 0)]
    refine v_i2l C dL_settlesWithout_7 ?_
    refine v_last C dL_settlesWithout_8 ?_
    have C := bsCx_Rz C r.2.1.toInt64 od
    refine v_goto (tgt := 18) C dL_settlesWithout_9 (by decide) ?_
    refine v_iconst (v := 0) C dL_settlesWithout_18 (by decide) ?_
    exact v_wret C rfl (Nat.le_of_ble_eq_true rfl) (Nat.le_of_ble_eq_true rfl) dL_settlesWithout_19
abbrev rmL_ifInstalled : Room := { frames := 9, cells := 4, slots := 24, locals := 173 }
set_option maxHeartbeats 4000000 in
set_option maxRecDepth 100000 in
theorem cL_ifInstalled_ok {l : Launch} {ρ : bsR} {cA : Nat → ClassId} {dC : Nat → ClassId} {dI : Nat → Nat → Nat} (hst : l.stackTraces = false) {a1 a2 a3 : Int32} {X : bsX} {r : bsXr} {lo : Int64} {od : UInt64} (hf : fX8_ifInstalled a1 a2 a3 X = some r) (hr : r.1 = 0 ∨ r.1 = 1 ∨ r.1 = 2 ∨ r.1 = 3) : bsWi l yL_ifInstalled cL_ifInstalled 6 (some .int) [(0, 12, 15, 20), (0, 12, 19, 13), (0, 12, 23, 15)] rmL_ifInstalled ρ cA dC dI [.ref (ρ 13 0 0), .int a1, .int a2, .int a3, .ref (ρ 15 0 0)] X lo od ((if r.1 = 1 then (1 : Int32) else (if r.1 = 2 then (2 : Int32) else (if r.1 = 3 then (3 : Int32) else (0 : Int32)))), r.2.2) (if r.1 = 0 then r.2.1.toInt64 else lo) od := by
  refine bsWi_of (by decide +kernel) (Nat.le_of_ble_eq_true rfl) (fun p e s m args below meth c C T9 => ?_)
  have C : bsCx p m c cL_ifInstalled 6 s args (Cond.codeWith yL_ifInstalled cL_ifInstalled 6 (some .int) [(0, 12, 15, 20), (0, 12, 19, 13), (0, 12, 23, 15)] :: bsG) RL ρ cA dC dI (bsRz ρ cA lo od) meth (some .int) := C
  refine v_sub [0, 1, 2, 3, 4] rfl ?_
  refine v_aload C dL_ifInstalled_0 rfl ?_
  refine v_iconst (v := 0) C dL_ifInstalled_2 (by decide) ?_
  refine v_aload_n C dL_ifInstalled_3 rfl rfl ?_
  refine v_iload_n C dL_ifInstalled_4 rfl rfl ?_
  refine v_iload_n C dL_ifInstalled_5 rfl rfl ?_
  refine v_iload_n C dL_ifInstalled_6 rfl rfl ?_
  refine v_wcalli (y := yX8_ifInstalled) (As := [.int a1, .int a2, .int a3]) (rest := [.int 0, .ref (ρ 15 0 0)]) C T9 (cX8_ifInstalled_ok hst hf) mlL_121 wyX8_ifInstalled bsm_X8 bsc_X8 rfl dpX8_ifInstalled ⟨Nat.le_of_ble_eq_true rfl, Nat.le_of_ble_eq_true rfl⟩ ⟨Nat.le_of_ble_eq_true rfl, Nat.le_of_ble_eq_true rfl⟩ rfl (Nat.le_of_ble_eq_true rfl) dL_ifInstalled_7 (fun h0 => ?_) (fun h0 => ?_)
  · rcases hr with h1 | h1 | h1 | h1
    · omega
    · rw [h1]
      refine ⟨15, ⟨[], ⟨0, 12, 15, 20⟩, [⟨0, 12, 19, 13⟩, ⟨0, 12, 23, 15⟩], rfl, (fun z hz => nomatch hz), by decide, by decide, cl_20, rfl, by decide⟩, fun q9 => ?_⟩
      refine v_astore (lv' := [(5, .ref q9), (0, .ref (ρ 13 0 0)), (1, .int a1), (2, .int a2), (3, .int a3), (4, .ref (ρ 15 0 0))]) C dL_ifInstalled_15 (by decide) rfl ?_
      refine v_iconst (v := 1) C dL_ifInstalled_17 (by decide) ?_
      exact v_wret C rfl (Nat.le_of_ble_eq_true rfl) (Nat.le_of_ble_eq_true rfl) dL_ifInstalled_18
    · rw [h1]
      refine ⟨19, ⟨[⟨0, 12, 15, 20⟩], ⟨0, 12, 19, 13⟩, [⟨0, 12, 23, 15⟩], rfl, (by
      intro z hz
      rcases List.mem_cons.mp hz with rfl | hz
      · exact ⟨by decide, "java/lang/IllegalStateException", by decide, by decide, cl_20⟩
      · cases hz), by decide, by decide, cl_13, rfl, by decide⟩, fun q9 => ?_⟩
      refine v_astore (lv' := [(5, .ref q9), (0, .ref (ρ 13 0 0)), (1, .int a1), (2, .int a2), (3, .int a3), (4, .ref (ρ 15 0 0))]) C dL_ifInstalled_19 (by decide) rfl ?_
      refine v_iconst (v := 2) C dL_ifInstalled_21 (by decide) ?_
      exact v_wret C rfl (Nat.le_of_ble_eq_true rfl) (Nat.le_of_ble_eq_true rfl) dL_ifInstalled_22
    · rw [h1]
      refine ⟨23, ⟨[⟨0, 12, 15, 20⟩, ⟨0, 12, 19, 13⟩], ⟨0, 12, 23, 15⟩, [], rfl, (by
      intro z hz
      rcases List.mem_cons.mp hz with rfl | hz
      · exact ⟨by decide, "java/lang/IllegalStateException", by decide, by decide, cl_20⟩
      · rcases List.mem_cons.mp hz with rfl | hz
        · exact ⟨by decide, "java/lang/IndexOutOfBoundsException", by decide, by decide, cl_13⟩
        · cases hz), by decide, by decide, cl_15, rfl, by decide⟩, fun q9 => ?_⟩
      refine v_astore (lv' := [(5, .ref q9), (0, .ref (ρ 13 0 0)), (1, .int a1), (2, .int a2), (3, .int a3), (4, .ref (ρ 15 0 0))]) C dL_ifInstalled_23 (by decide) rfl ?_
      refine v_iconst (v := 3) C dL_ifInstalled_25 (by decide) ?_
      exact v_wret C rfl (Nat.le_of_ble_eq_true rfl) (Nat.le_of_ble_eq_true rfl) dL_ifInstalled_26
  · rw [h0]
    rw [if_pos (rfl : (0 : Nat) = 0)]
    refine v_i2l C dL_ifInstalled_10 ?_
    refine v_last C dL_ifInstalled_11 ?_
    have C := bsCx_Rz C r.2.1.toInt64 od
    refine v_goto (tgt := 27) C dL_ifInstalled_12 (by decide) ?_
    refine v_iconst (v := 0) C dL_ifInstalled_27 (by decide) ?_
    exact v_wret C rfl (Nat.le_of_ble_eq_true rfl) (Nat.le_of_ble_eq_true rfl) dL_ifInstalled_28
abbrev rmL_triesFor : Room := { frames := 9, cells := 2, slots := 12, locals := 152 }
set_option maxHeartbeats 4000000 in
set_option maxRecDepth 100000 in
theorem cL_triesFor_ok {l : Launch} {ρ : bsR} {cA : Nat → ClassId} {dC : Nat → ClassId} {dI : Nat → Nat → Nat} (hst : l.stackTraces = false) {a1 : Int32} {X : bsX} {r : bsXr} {lo : Int64} {od : UInt64} (hf : fX8_triesFor a1 X = some r) (hr : r.1 = 0 ∨ r.1 = 1 ∨ r.1 = 2) : bsWi l yL_triesFor cL_triesFor 4 (some .int) [(0, 9, 12, 20), (0, 9, 15, 13)] rmL_triesFor ρ cA dC dI [.ref (ρ 13 0 0), .int a1, .ref (ρ 15 0 0)] X lo od ((if r.1 = 1 then (1 : Int32) else (if r.1 = 2 then (2 : Int32) else (0 : Int32))), r.2.2) (if r.1 = 0 then r.2.1.toInt64 else lo) od := by
  refine bsWi_of (by decide +kernel) (Nat.le_of_ble_eq_true rfl) (fun p e s m args below meth c C T9 => ?_)
  have C : bsCx p m c cL_triesFor 4 s args (Cond.codeWith yL_triesFor cL_triesFor 4 (some .int) [(0, 9, 12, 20), (0, 9, 15, 13)] :: bsG) RL ρ cA dC dI (bsRz ρ cA lo od) meth (some .int) := C
  refine v_sub [0, 1, 2] rfl ?_
  refine v_aload_n C dL_triesFor_0 rfl rfl ?_
  refine v_iconst (v := 0) C dL_triesFor_1 (by decide) ?_
  refine v_aload_n C dL_triesFor_2 rfl rfl ?_
  refine v_iload_n C dL_triesFor_3 rfl rfl ?_
  refine v_wcalli (y := yX8_triesFor) (As := [.int a1]) (rest := [.int 0, .ref (ρ 15 0 0)]) C T9 (cX8_triesFor_ok hst hf) mlL_125 wyX8_triesFor bsm_X8 bsc_X8 rfl dpX8_triesFor ⟨Nat.le_of_ble_eq_true rfl, Nat.le_of_ble_eq_true rfl⟩ ⟨Nat.le_of_ble_eq_true rfl, Nat.le_of_ble_eq_true rfl⟩ rfl (Nat.le_of_ble_eq_true rfl) dL_triesFor_4 (fun h0 => ?_) (fun h0 => ?_)
  · rcases hr with h1 | h1 | h1
    · omega
    · rw [h1]
      refine ⟨12, ⟨[], ⟨0, 9, 12, 20⟩, [⟨0, 9, 15, 13⟩], rfl, (fun z hz => nomatch hz), by decide, by decide, cl_20, rfl, by decide⟩, fun q9 => ?_⟩
      refine v_astore_n (lv' := [(3, .ref q9), (0, .ref (ρ 13 0 0)), (1, .int a1), (2, .ref (ρ 15 0 0))]) C dL_triesFor_12 rfl (by decide) rfl ?_
      refine v_iconst (v := 1) C dL_triesFor_13 (by decide) ?_
      exact v_wret C rfl (Nat.le_of_ble_eq_true rfl) (Nat.le_of_ble_eq_true rfl) dL_triesFor_14
    · rw [h1]
      refine ⟨15, ⟨[⟨0, 9, 12, 20⟩], ⟨0, 9, 15, 13⟩, [], rfl, (by
      intro z hz
      rcases List.mem_cons.mp hz with rfl | hz
      · exact ⟨by decide, "java/lang/IllegalStateException", by decide, by decide, cl_20⟩
      · cases hz), by decide, by decide, cl_13, rfl, by decide⟩, fun q9 => ?_⟩
      refine v_astore_n (lv' := [(3, .ref q9), (0, .ref (ρ 13 0 0)), (1, .int a1), (2, .ref (ρ 15 0 0))]) C dL_triesFor_15 rfl (by decide) rfl ?_
      refine v_iconst (v := 2) C dL_triesFor_16 (by decide) ?_
      exact v_wret C rfl (Nat.le_of_ble_eq_true rfl) (Nat.le_of_ble_eq_true rfl) dL_triesFor_17
  · rw [h0]
    rw [if_pos (rfl : (0 : Nat) = 0)]
    refine v_i2l C dL_triesFor_7 ?_
    refine v_last C dL_triesFor_8 ?_
    have C := bsCx_Rz C r.2.1.toInt64 od
    refine v_goto (tgt := 18) C dL_triesFor_9 (by decide) ?_
    refine v_iconst (v := 0) C dL_triesFor_18 (by decide) ?_
    exact v_wret C rfl (Nat.le_of_ble_eq_true rfl) (Nat.le_of_ble_eq_true rfl) dL_triesFor_19
abbrev rmL_bestWatch : Room := { frames := 9, cells := 2, slots := 12, locals := 152 }
set_option maxHeartbeats 4000000 in
set_option maxRecDepth 100000 in
theorem cL_bestWatch_ok {l : Launch} {ρ : bsR} {cA : Nat → ClassId} {dC : Nat → ClassId} {dI : Nat → Nat → Nat} (hst : l.stackTraces = false) {a1 : Int32} {X : bsX} {r : bsXr} {lo : Int64} {od : UInt64} (hf : fX8_bestWatch a1 X = some r) (hr : r.1 = 0 ∨ r.1 = 1 ∨ r.1 = 2) : bsWi l yL_bestWatch cL_bestWatch 4 (some .int) [(0, 9, 12, 20), (0, 9, 15, 13)] rmL_bestWatch ρ cA dC dI [.ref (ρ 13 0 0), .int a1, .ref (ρ 15 0 0)] X lo od ((if r.1 = 1 then (1 : Int32) else (if r.1 = 2 then (2 : Int32) else (0 : Int32))), r.2.2) (if r.1 = 0 then r.2.1.toInt64 else lo) od := by
  refine bsWi_of (by decide +kernel) (Nat.le_of_ble_eq_true rfl) (fun p e s m args below meth c C T9 => ?_)
  have C : bsCx p m c cL_bestWatch 4 s args (Cond.codeWith yL_bestWatch cL_bestWatch 4 (some .int) [(0, 9, 12, 20), (0, 9, 15, 13)] :: bsG) RL ρ cA dC dI (bsRz ρ cA lo od) meth (some .int) := C
  refine v_sub [0, 1, 2] rfl ?_
  refine v_aload_n C dL_bestWatch_0 rfl rfl ?_
  refine v_iconst (v := 0) C dL_bestWatch_1 (by decide) ?_
  refine v_aload_n C dL_bestWatch_2 rfl rfl ?_
  refine v_iload_n C dL_bestWatch_3 rfl rfl ?_
  refine v_wcalli (y := yX8_bestWatch) (As := [.int a1]) (rest := [.int 0, .ref (ρ 15 0 0)]) C T9 (cX8_bestWatch_ok hst hf) mlL_128 wyX8_bestWatch bsm_X8 bsc_X8 rfl dpX8_bestWatch ⟨Nat.le_of_ble_eq_true rfl, Nat.le_of_ble_eq_true rfl⟩ ⟨Nat.le_of_ble_eq_true rfl, Nat.le_of_ble_eq_true rfl⟩ rfl (Nat.le_of_ble_eq_true rfl) dL_bestWatch_4 (fun h0 => ?_) (fun h0 => ?_)
  · rcases hr with h1 | h1 | h1
    · omega
    · rw [h1]
      refine ⟨12, ⟨[], ⟨0, 9, 12, 20⟩, [⟨0, 9, 15, 13⟩], rfl, (fun z hz => nomatch hz), by decide, by decide, cl_20, rfl, by decide⟩, fun q9 => ?_⟩
      refine v_astore_n (lv' := [(3, .ref q9), (0, .ref (ρ 13 0 0)), (1, .int a1), (2, .ref (ρ 15 0 0))]) C dL_bestWatch_12 rfl (by decide) rfl ?_
      refine v_iconst (v := 1) C dL_bestWatch_13 (by decide) ?_
      exact v_wret C rfl (Nat.le_of_ble_eq_true rfl) (Nat.le_of_ble_eq_true rfl) dL_bestWatch_14
    · rw [h1]
      refine ⟨15, ⟨[⟨0, 9, 12, 20⟩], ⟨0, 9, 15, 13⟩, [], rfl, (by
      intro z hz
      rcases List.mem_cons.mp hz with rfl | hz
      · exact ⟨by decide, "java/lang/IllegalStateException", by decide, by decide, cl_20⟩
      · cases hz), by decide, by decide, cl_13, rfl, by decide⟩, fun q9 => ?_⟩
      refine v_astore_n (lv' := [(3, .ref q9), (0, .ref (ρ 13 0 0)), (1, .int a1), (2, .ref (ρ 15 0 0))]) C dL_bestWatch_15 rfl (by decide) rfl ?_
      refine v_iconst (v := 2) C dL_bestWatch_16 (by decide) ?_
      exact v_wret C rfl (Nat.le_of_ble_eq_true rfl) (Nat.le_of_ble_eq_true rfl) dL_bestWatch_17
  · rw [h0]
    rw [if_pos (rfl : (0 : Nat) = 0)]
    refine v_i2l C dL_bestWatch_7 ?_
    refine v_last C dL_bestWatch_8 ?_
    have C := bsCx_Rz C r.2.1.toInt64 od
    refine v_goto (tgt := 18) C dL_bestWatch_9 (by decide) ?_
    refine v_iconst (v := 0) C dL_bestWatch_18 (by decide) ?_
    exact v_wret C rfl (Nat.le_of_ble_eq_true rfl) (Nat.le_of_ble_eq_true rfl) dL_bestWatch_19
abbrev rmL_highestFloor : Room := { frames := 8, cells := 1, slots := 6, locals := 124 }
set_option maxHeartbeats 4000000 in
set_option maxRecDepth 100000 in
theorem cL_highestFloor_ok {l : Launch} {ρ : bsR} {cA : Nat → ClassId} {dC : Nat → ClassId} {dI : Nat → Nat → Nat} (hst : l.stackTraces = false) {X : bsX} {r : bsXr} {lo : Int64} {od : UInt64} (hf : fX8_highestFloor  X = some r) (hr : r.1 = 0 ∨ r.1 = 1) : bsWi l yL_highestFloor cL_highestFloor 3 (some .int) [(0, 8, 11, 20)] rmL_highestFloor ρ cA dC dI [.ref (ρ 13 0 0), .ref (ρ 15 0 0)] X lo od ((if r.1 = 1 then (1 : Int32) else (0 : Int32)), r.2.2) (if r.1 = 0 then r.2.1.toInt64 else lo) od := by
  refine bsWi_of (by decide +kernel) (Nat.le_of_ble_eq_true rfl) (fun p e s m args below meth c C T9 => ?_)
  have C : bsCx p m c cL_highestFloor 3 s args (Cond.codeWith yL_highestFloor cL_highestFloor 3 (some .int) [(0, 8, 11, 20)] :: bsG) RL ρ cA dC dI (bsRz ρ cA lo od) meth (some .int) := C
  refine v_sub [0, 1] rfl ?_
  refine v_aload_n C dL_highestFloor_0 rfl rfl ?_
  refine v_iconst (v := 0) C dL_highestFloor_1 (by decide) ?_
  refine v_aload_n C dL_highestFloor_2 rfl rfl ?_
  refine v_wcalli (y := yX8_highestFloor) (As := []) (rest := [.int 0, .ref (ρ 15 0 0)]) C T9 (cX8_highestFloor_ok hst hf) mlL_131 wyX8_highestFloor bsm_X8 bsc_X8 rfl dpX8_highestFloor ⟨Nat.le_of_ble_eq_true rfl, Nat.le_of_ble_eq_true rfl⟩ ⟨Nat.le_of_ble_eq_true rfl, Nat.le_of_ble_eq_true rfl⟩ rfl (Nat.le_of_ble_eq_true rfl) dL_highestFloor_3 (fun h0 => ?_) (fun h0 => ?_)
  · rcases hr with h1 | h1
    · omega
    · rw [h1]
      refine ⟨11, ⟨[], ⟨0, 8, 11, 20⟩, [], rfl, (fun z hz => nomatch hz), by decide, by decide, cl_20, rfl, by decide⟩, fun q9 => ?_⟩
      refine v_astore_n (lv' := [(2, .ref q9), (0, .ref (ρ 13 0 0)), (1, .ref (ρ 15 0 0))]) C dL_highestFloor_11 rfl (by decide) rfl ?_
      refine v_iconst (v := 1) C dL_highestFloor_12 (by decide) ?_
      exact v_wret C rfl (Nat.le_of_ble_eq_true rfl) (Nat.le_of_ble_eq_true rfl) dL_highestFloor_13
  · rw [h0]
    rw [if_pos (rfl : (0 : Nat) = 0)]
    refine v_i2l C dL_highestFloor_6 ?_
    refine v_last C dL_highestFloor_7 ?_
    have C := bsCx_Rz C r.2.1.toInt64 od
    refine v_goto (tgt := 14) C dL_highestFloor_8 (by decide) ?_
    refine v_iconst (v := 0) C dL_highestFloor_14 (by decide) ?_
    exact v_wret C rfl (Nat.le_of_ble_eq_true rfl) (Nat.le_of_ble_eq_true rfl) dL_highestFloor_15
abbrev rmL_keySlot : Room := { frames := 8, cells := 1, slots := 6, locals := 174 }
set_option maxHeartbeats 4000000 in
set_option maxRecDepth 100000 in
theorem cL_keySlot_ok {l : Launch} {ρ : bsR} {cA : Nat → ClassId} {dC : Nat → ClassId} {dI : Nat → Nat → Nat} (hst : l.stackTraces = false) {X : bsX} {r : bsXr} {lo : Int64} {od : UInt64} (hf : fX8_keySlot  X = some r) (hr : r.1 = 0 ∨ r.1 = 1) : bsWi l yL_keySlot cL_keySlot 3 (some .int) [(0, 8, 11, 20)] rmL_keySlot ρ cA dC dI [.ref (ρ 13 0 0), .ref (ρ 15 0 0)] X lo od ((if r.1 = 1 then (1 : Int32) else (0 : Int32)), r.2.2) (if r.1 = 0 then r.2.1.toInt64 else lo) od := by
  refine bsWi_of (by decide +kernel) (Nat.le_of_ble_eq_true rfl) (fun p e s m args below meth c C T9 => ?_)
  have C : bsCx p m c cL_keySlot 3 s args (Cond.codeWith yL_keySlot cL_keySlot 3 (some .int) [(0, 8, 11, 20)] :: bsG) RL ρ cA dC dI (bsRz ρ cA lo od) meth (some .int) := C
  refine v_sub [0, 1] rfl ?_
  refine v_aload_n C dL_keySlot_0 rfl rfl ?_
  refine v_iconst (v := 0) C dL_keySlot_1 (by decide) ?_
  refine v_aload_n C dL_keySlot_2 rfl rfl ?_
  refine v_wcalli (y := yX8_keySlot) (As := []) (rest := [.int 0, .ref (ρ 15 0 0)]) C T9 (cX8_keySlot_ok hst hf) mlL_134 wyX8_keySlot bsm_X8 bsc_X8 rfl dpX8_keySlot ⟨Nat.le_of_ble_eq_true rfl, Nat.le_of_ble_eq_true rfl⟩ ⟨Nat.le_of_ble_eq_true rfl, Nat.le_of_ble_eq_true rfl⟩ rfl (Nat.le_of_ble_eq_true rfl) dL_keySlot_3 (fun h0 => ?_) (fun h0 => ?_)
  · rcases hr with h1 | h1
    · omega
    · rw [h1]
      refine ⟨11, ⟨[], ⟨0, 8, 11, 20⟩, [], rfl, (fun z hz => nomatch hz), by decide, by decide, cl_20, rfl, by decide⟩, fun q9 => ?_⟩
      refine v_astore_n (lv' := [(2, .ref q9), (0, .ref (ρ 13 0 0)), (1, .ref (ρ 15 0 0))]) C dL_keySlot_11 rfl (by decide) rfl ?_
      refine v_iconst (v := 1) C dL_keySlot_12 (by decide) ?_
      exact v_wret C rfl (Nat.le_of_ble_eq_true rfl) (Nat.le_of_ble_eq_true rfl) dL_keySlot_13
  · rw [h0]
    rw [if_pos (rfl : (0 : Nat) = 0)]
    refine v_i2l C dL_keySlot_6 ?_
    refine v_last C dL_keySlot_7 ?_
    have C := bsCx_Rz C r.2.1.toInt64 od
    refine v_goto (tgt := 14) C dL_keySlot_8 (by decide) ?_
    refine v_iconst (v := 0) C dL_keySlot_14 (by decide) ?_
    exact v_wret C rfl (Nat.le_of_ble_eq_true rfl) (Nat.le_of_ble_eq_true rfl) dL_keySlot_15
abbrev rmL_writeSlots : Room := { frames := 8, cells := 1, slots := 6, locals := 122 }
set_option maxHeartbeats 4000000 in
set_option maxRecDepth 100000 in
theorem cL_writeSlots_ok {l : Launch} {ρ : bsR} {cA : Nat → ClassId} {dC : Nat → ClassId} {dI : Nat → Nat → Nat} (hst : l.stackTraces = false) {X : bsX} {r : bsXr} {lo : Int64} {od : UInt64} (hf : fX8_writeSlots  X = some r) (hr : r.1 = 0 ∨ r.1 = 1) : bsWi l yL_writeSlots cL_writeSlots 3 (some .int) [(0, 8, 11, 20)] rmL_writeSlots ρ cA dC dI [.ref (ρ 13 0 0), .ref (ρ 15 0 0)] X lo od ((if r.1 = 1 then (1 : Int32) else (0 : Int32)), r.2.2) (if r.1 = 0 then r.2.1.toInt64 else lo) od := by
  refine bsWi_of (by decide +kernel) (Nat.le_of_ble_eq_true rfl) (fun p e s m args below meth c C T9 => ?_)
  have C : bsCx p m c cL_writeSlots 3 s args (Cond.codeWith yL_writeSlots cL_writeSlots 3 (some .int) [(0, 8, 11, 20)] :: bsG) RL ρ cA dC dI (bsRz ρ cA lo od) meth (some .int) := C
  refine v_sub [0, 1] rfl ?_
  refine v_aload_n C dL_writeSlots_0 rfl rfl ?_
  refine v_iconst (v := 0) C dL_writeSlots_1 (by decide) ?_
  refine v_aload_n C dL_writeSlots_2 rfl rfl ?_
  refine v_wcalli (y := yX8_writeSlots) (As := []) (rest := [.int 0, .ref (ρ 15 0 0)]) C T9 (cX8_writeSlots_ok hst hf) mlL_145 wyX8_writeSlots bsm_X8 bsc_X8 rfl dpX8_writeSlots ⟨Nat.le_of_ble_eq_true rfl, Nat.le_of_ble_eq_true rfl⟩ ⟨Nat.le_of_ble_eq_true rfl, Nat.le_of_ble_eq_true rfl⟩ rfl (Nat.le_of_ble_eq_true rfl) dL_writeSlots_3 (fun h0 => ?_) (fun h0 => ?_)
  · rcases hr with h1 | h1
    · omega
    · rw [h1]
      refine ⟨11, ⟨[], ⟨0, 8, 11, 20⟩, [], rfl, (fun z hz => nomatch hz), by decide, by decide, cl_20, rfl, by decide⟩, fun q9 => ?_⟩
      refine v_astore_n (lv' := [(2, .ref q9), (0, .ref (ρ 13 0 0)), (1, .ref (ρ 15 0 0))]) C dL_writeSlots_11 rfl (by decide) rfl ?_
      refine v_iconst (v := 1) C dL_writeSlots_12 (by decide) ?_
      exact v_wret C rfl (Nat.le_of_ble_eq_true rfl) (Nat.le_of_ble_eq_true rfl) dL_writeSlots_13
  · rw [h0]
    rw [if_pos (rfl : (0 : Nat) = 0)]
    refine v_i2l C dL_writeSlots_6 ?_
    refine v_last C dL_writeSlots_7 ?_
    have C := bsCx_Rz C r.2.1.toInt64 od
    refine v_goto (tgt := 14) C dL_writeSlots_8 (by decide) ?_
    refine v_iconst (v := 0) C dL_writeSlots_14 (by decide) ?_
    exact v_wret C rfl (Nat.le_of_ble_eq_true rfl) (Nat.le_of_ble_eq_true rfl) dL_writeSlots_15
abbrev rmL_writeBoots : Room := { frames := 8, cells := 1, slots := 6, locals := 129 }
set_option maxHeartbeats 4000000 in
set_option maxRecDepth 100000 in
theorem cL_writeBoots_ok {l : Launch} {ρ : bsR} {cA : Nat → ClassId} {dC : Nat → ClassId} {dI : Nat → Nat → Nat} (hst : l.stackTraces = false) {X : bsX} {r : bsXr} {lo : Int64} {od : UInt64} (hf : fX8_writeBoots  X = some r) (hr : r.1 = 0 ∨ r.1 = 1) : bsWi l yL_writeBoots cL_writeBoots 3 (some .int) [(0, 8, 11, 20)] rmL_writeBoots ρ cA dC dI [.ref (ρ 13 0 0), .ref (ρ 15 0 0)] X lo od ((if r.1 = 1 then (1 : Int32) else (0 : Int32)), r.2.2) (if r.1 = 0 then r.2.1.toInt64 else lo) od := by
  refine bsWi_of (by decide +kernel) (Nat.le_of_ble_eq_true rfl) (fun p e s m args below meth c C T9 => ?_)
  have C : bsCx p m c cL_writeBoots 3 s args (Cond.codeWith yL_writeBoots cL_writeBoots 3 (some .int) [(0, 8, 11, 20)] :: bsG) RL ρ cA dC dI (bsRz ρ cA lo od) meth (some .int) := C
  refine v_sub [0, 1] rfl ?_
  refine v_aload_n C dL_writeBoots_0 rfl rfl ?_
  refine v_iconst (v := 0) C dL_writeBoots_1 (by decide) ?_
  refine v_aload_n C dL_writeBoots_2 rfl rfl ?_
  refine v_wcalli (y := yX8_writeBoots) (As := []) (rest := [.int 0, .ref (ρ 15 0 0)]) C T9 (cX8_writeBoots_ok hst hf) mlL_148 wyX8_writeBoots bsm_X8 bsc_X8 rfl dpX8_writeBoots ⟨Nat.le_of_ble_eq_true rfl, Nat.le_of_ble_eq_true rfl⟩ ⟨Nat.le_of_ble_eq_true rfl, Nat.le_of_ble_eq_true rfl⟩ rfl (Nat.le_of_ble_eq_true rfl) dL_writeBoots_3 (fun h0 => ?_) (fun h0 => ?_)
  · rcases hr with h1 | h1
    · omega
    · rw [h1]
      refine ⟨11, ⟨[], ⟨0, 8, 11, 20⟩, [], rfl, (fun z hz => nomatch hz), by decide, by decide, cl_20, rfl, by decide⟩, fun q9 => ?_⟩
      refine v_astore_n (lv' := [(2, .ref q9), (0, .ref (ρ 13 0 0)), (1, .ref (ρ 15 0 0))]) C dL_writeBoots_11 rfl (by decide) rfl ?_
      refine v_iconst (v := 1) C dL_writeBoots_12 (by decide) ?_
      exact v_wret C rfl (Nat.le_of_ble_eq_true rfl) (Nat.le_of_ble_eq_true rfl) dL_writeBoots_13
  · rw [h0]
    rw [if_pos (rfl : (0 : Nat) = 0)]
    refine v_i2l C dL_writeBoots_6 ?_
    refine v_last C dL_writeBoots_7 ?_
    have C := bsCx_Rz C r.2.1.toInt64 od
    refine v_goto (tgt := 14) C dL_writeBoots_8 (by decide) ?_
    refine v_iconst (v := 0) C dL_writeBoots_14 (by decide) ?_
    exact v_wret C rfl (Nat.le_of_ble_eq_true rfl) (Nat.le_of_ble_eq_true rfl) dL_writeBoots_15
abbrev rmL_writeMachine : Room := { frames := 8, cells := 1, slots := 6, locals := 149 }
set_option maxHeartbeats 4000000 in
set_option maxRecDepth 100000 in
theorem cL_writeMachine_ok {l : Launch} {ρ : bsR} {cA : Nat → ClassId} {dC : Nat → ClassId} {dI : Nat → Nat → Nat} (hst : l.stackTraces = false) {X : bsX} {r : bsXr} {lo : Int64} {od : UInt64} (hf : fX8_writeMachine  X = some r) (hr : r.1 = 0 ∨ r.1 = 1) : bsWi l yL_writeMachine cL_writeMachine 3 (some .int) [(0, 8, 11, 20)] rmL_writeMachine ρ cA dC dI [.ref (ρ 13 0 0), .ref (ρ 15 0 0)] X lo od ((if r.1 = 1 then (1 : Int32) else (0 : Int32)), r.2.2) (if r.1 = 0 then r.2.1.toInt64 else lo) od := by
  refine bsWi_of (by decide +kernel) (Nat.le_of_ble_eq_true rfl) (fun p e s m args below meth c C T9 => ?_)
  have C : bsCx p m c cL_writeMachine 3 s args (Cond.codeWith yL_writeMachine cL_writeMachine 3 (some .int) [(0, 8, 11, 20)] :: bsG) RL ρ cA dC dI (bsRz ρ cA lo od) meth (some .int) := C
  refine v_sub [0, 1] rfl ?_
  refine v_aload_n C dL_writeMachine_0 rfl rfl ?_
  refine v_iconst (v := 0) C dL_writeMachine_1 (by decide) ?_
  refine v_aload_n C dL_writeMachine_2 rfl rfl ?_
  refine v_wcalli (y := yX8_writeMachine) (As := []) (rest := [.int 0, .ref (ρ 15 0 0)]) C T9 (cX8_writeMachine_ok hst hf) mlL_151 wyX8_writeMachine bsm_X8 bsc_X8 rfl dpX8_writeMachine ⟨Nat.le_of_ble_eq_true rfl, Nat.le_of_ble_eq_true rfl⟩ ⟨Nat.le_of_ble_eq_true rfl, Nat.le_of_ble_eq_true rfl⟩ rfl (Nat.le_of_ble_eq_true rfl) dL_writeMachine_3 (fun h0 => ?_) (fun h0 => ?_)
  · rcases hr with h1 | h1
    · omega
    · rw [h1]
      refine ⟨11, ⟨[], ⟨0, 8, 11, 20⟩, [], rfl, (fun z hz => nomatch hz), by decide, by decide, cl_20, rfl, by decide⟩, fun q9 => ?_⟩
      refine v_astore_n (lv' := [(2, .ref q9), (0, .ref (ρ 13 0 0)), (1, .ref (ρ 15 0 0))]) C dL_writeMachine_11 rfl (by decide) rfl ?_
      refine v_iconst (v := 1) C dL_writeMachine_12 (by decide) ?_
      exact v_wret C rfl (Nat.le_of_ble_eq_true rfl) (Nat.le_of_ble_eq_true rfl) dL_writeMachine_13
  · rw [h0]
    rw [if_pos (rfl : (0 : Nat) = 0)]
    refine v_i2l C dL_writeMachine_6 ?_
    refine v_last C dL_writeMachine_7 ?_
    have C := bsCx_Rz C r.2.1.toInt64 od
    refine v_goto (tgt := 14) C dL_writeMachine_8 (by decide) ?_
    refine v_iconst (v := 0) C dL_writeMachine_14 (by decide) ?_
    exact v_wret C rfl (Nat.le_of_ble_eq_true rfl) (Nat.le_of_ble_eq_true rfl) dL_writeMachine_15
abbrev rmL_textByte : Room := { frames := 7, cells := 1, slots := 6, locals := 102 }
set_option maxHeartbeats 4000000 in
set_option maxRecDepth 100000 in
theorem cL_textByte_ok {l : Launch} {ρ : bsR} {cA : Nat → ClassId} {dC : Nat → ClassId} {dI : Nat → Nat → Nat} (hst : l.stackTraces = false) {a1 : Int32} {X : bsX} {r : bsXr} {lo : Int64} {od : UInt64} (hf : fX8_textByte a1 X = some r) (hr : r.1 = 0 ∨ r.1 = 2) : bsWi l yL_textByte cL_textByte 4 (some .int) [(0, 9, 12, 13)] rmL_textByte ρ cA dC dI [.ref (ρ 13 0 0), .int a1, .ref (ρ 15 0 0)] X lo od ((if r.1 = 2 then (1 : Int32) else (0 : Int32)), r.2.2) (if r.1 = 0 then r.2.1.toInt64 else lo) od := by
  refine bsWi_of (by decide +kernel) (Nat.le_of_ble_eq_true rfl) (fun p e s m args below meth c C T9 => ?_)
  have C : bsCx p m c cL_textByte 4 s args (Cond.codeWith yL_textByte cL_textByte 4 (some .int) [(0, 9, 12, 13)] :: bsG) RL ρ cA dC dI (bsRz ρ cA lo od) meth (some .int) := C
  refine v_sub [0, 1, 2] rfl ?_
  refine v_aload_n C dL_textByte_0 rfl rfl ?_
  refine v_iconst (v := 0) C dL_textByte_1 (by decide) ?_
  refine v_aload_n C dL_textByte_2 rfl rfl ?_
  refine v_iload_n C dL_textByte_3 rfl rfl ?_
  refine v_wcalli (y := yX8_textByte) (As := [.int a1]) (rest := [.int 0, .ref (ρ 15 0 0)]) C T9 (cX8_textByte_ok hst hf) mlL_154 wyX8_textByte bsm_X8 bsc_X8 rfl dpX8_textByte ⟨Nat.le_of_ble_eq_true rfl, Nat.le_of_ble_eq_true rfl⟩ ⟨Nat.le_of_ble_eq_true rfl, Nat.le_of_ble_eq_true rfl⟩ rfl (Nat.le_of_ble_eq_true rfl) dL_textByte_4 (fun h0 => ?_) (fun h0 => ?_)
  · rcases hr with h1 | h1
    · omega
    · rw [h1]
      refine ⟨12, ⟨[], ⟨0, 9, 12, 13⟩, [], rfl, (fun z hz => nomatch hz), by decide, by decide, cl_13, rfl, by decide⟩, fun q9 => ?_⟩
      refine v_astore_n (lv' := [(3, .ref q9), (0, .ref (ρ 13 0 0)), (1, .int a1), (2, .ref (ρ 15 0 0))]) C dL_textByte_12 rfl (by decide) rfl ?_
      refine v_iconst (v := 1) C dL_textByte_13 (by decide) ?_
      exact v_wret C rfl (Nat.le_of_ble_eq_true rfl) (Nat.le_of_ble_eq_true rfl) dL_textByte_14
  · rw [h0]
    rw [if_pos (rfl : (0 : Nat) = 0)]
    refine v_i2l C dL_textByte_7 ?_
    refine v_last C dL_textByte_8 ?_
    have C := bsCx_Rz C r.2.1.toInt64 od
    refine v_goto (tgt := 15) C dL_textByte_9 (by decide) ?_
    refine v_iconst (v := 0) C dL_textByte_15 (by decide) ?_
    exact v_wret C rfl (Nat.le_of_ble_eq_true rfl) (Nat.le_of_ble_eq_true rfl) dL_textByte_16
abbrev rmL_power : Room := { frames := 8, cells := 2, slots := 12, locals := 121 }
set_option maxHeartbeats 4000000 in
set_option maxRecDepth 100000 in
theorem cL_power_ok {l : Launch} {ρ : bsR} {cA : Nat → ClassId} {dC : Nat → ClassId} {dI : Nat → Nat → Nat} (hst : l.stackTraces = false) {X : bsX} {r : bsXr} {lo : Int64} {od : UInt64} (hf : fX8_power  X = some r) (hr : r.1 = 0 ∨ r.1 = 1 ∨ r.1 = 3) : bsWi l yL_power cL_power 3 (some .int) [(0, 8, 11, 20), (0, 8, 14, 15)] rmL_power ρ cA dC dI [.ref (ρ 13 0 0), .ref (ρ 15 0 0)] X lo od ((if r.1 = 1 then (1 : Int32) else (if r.1 = 3 then (2 : Int32) else (0 : Int32))), r.2.2) (if r.1 = 0 then r.2.1.toInt64 else lo) od := by
  refine bsWi_of (by decide +kernel) (Nat.le_of_ble_eq_true rfl) (fun p e s m args below meth c C T9 => ?_)
  have C : bsCx p m c cL_power 3 s args (Cond.codeWith yL_power cL_power 3 (some .int) [(0, 8, 11, 20), (0, 8, 14, 15)] :: bsG) RL ρ cA dC dI (bsRz ρ cA lo od) meth (some .int) := C
  refine v_sub [0, 1] rfl ?_
  refine v_aload_n C dL_power_0 rfl rfl ?_
  refine v_iconst (v := 0) C dL_power_1 (by decide) ?_
  refine v_aload_n C dL_power_2 rfl rfl ?_
  refine v_wcalli (y := yX8_power) (As := []) (rest := [.int 0, .ref (ρ 15 0 0)]) C T9 (cX8_power_ok hst hf) mlL_157 wyX8_power bsm_X8 bsc_X8 rfl dpX8_power ⟨Nat.le_of_ble_eq_true rfl, Nat.le_of_ble_eq_true rfl⟩ ⟨Nat.le_of_ble_eq_true rfl, Nat.le_of_ble_eq_true rfl⟩ rfl (Nat.le_of_ble_eq_true rfl) dL_power_3 (fun h0 => ?_) (fun h0 => ?_)
  · rcases hr with h1 | h1 | h1
    · omega
    · rw [h1]
      refine ⟨11, ⟨[], ⟨0, 8, 11, 20⟩, [⟨0, 8, 14, 15⟩], rfl, (fun z hz => nomatch hz), by decide, by decide, cl_20, rfl, by decide⟩, fun q9 => ?_⟩
      refine v_astore_n (lv' := [(2, .ref q9), (0, .ref (ρ 13 0 0)), (1, .ref (ρ 15 0 0))]) C dL_power_11 rfl (by decide) rfl ?_
      refine v_iconst (v := 1) C dL_power_12 (by decide) ?_
      exact v_wret C rfl (Nat.le_of_ble_eq_true rfl) (Nat.le_of_ble_eq_true rfl) dL_power_13
    · rw [h1]
      refine ⟨14, ⟨[⟨0, 8, 11, 20⟩], ⟨0, 8, 14, 15⟩, [], rfl, (by
      intro z hz
      rcases List.mem_cons.mp hz with rfl | hz
      · exact ⟨by decide, "java/lang/IllegalStateException", by decide, by decide, cl_20⟩
      · cases hz), by decide, by decide, cl_15, rfl, by decide⟩, fun q9 => ?_⟩
      refine v_astore_n (lv' := [(2, .ref q9), (0, .ref (ρ 13 0 0)), (1, .ref (ρ 15 0 0))]) C dL_power_14 rfl (by decide) rfl ?_
      refine v_iconst (v := 2) C dL_power_15 (by decide) ?_
      exact v_wret C rfl (Nat.le_of_ble_eq_true rfl) (Nat.le_of_ble_eq_true rfl) dL_power_16
  · rw [h0]
    rw [if_pos (rfl : (0 : Nat) = 0)]
    refine v_i2l C dL_power_6 ?_
    refine v_last C dL_power_7 ?_
    have C := bsCx_Rz C r.2.1.toInt64 od
    refine v_goto (tgt := 17) C dL_power_8 (by decide) ?_
    refine v_iconst (v := 0) C dL_power_17 (by decide) ?_
    exact v_wret C rfl (Nat.le_of_ble_eq_true rfl) (Nat.le_of_ble_eq_true rfl) dL_power_18
abbrev rmL_cut : Room := { frames := 9, cells := 2, slots := 12, locals := 142 }
set_option maxHeartbeats 4000000 in
set_option maxRecDepth 100000 in
theorem cL_cut_ok {l : Launch} {ρ : bsR} {cA : Nat → ClassId} {dC : Nat → ClassId} {dI : Nat → Nat → Nat} (hst : l.stackTraces = false) {X : bsX} {r : bsXr} {lo : Int64} {od : UInt64} (hf : fX8_cut  X = some r) (hr : r.1 = 0 ∨ r.1 = 1 ∨ r.1 = 3) : bsWi l yL_cut cL_cut 3 (some .int) [(0, 8, 11, 20), (0, 8, 14, 15)] rmL_cut ρ cA dC dI [.ref (ρ 13 0 0), .ref (ρ 15 0 0)] X lo od ((if r.1 = 1 then (1 : Int32) else (if r.1 = 3 then (2 : Int32) else (0 : Int32))), r.2.2) (if r.1 = 0 then r.2.1.toInt64 else lo) od := by
  refine bsWi_of (by decide +kernel) (Nat.le_of_ble_eq_true rfl) (fun p e s m args below meth c C T9 => ?_)
  have C : bsCx p m c cL_cut 3 s args (Cond.codeWith yL_cut cL_cut 3 (some .int) [(0, 8, 11, 20), (0, 8, 14, 15)] :: bsG) RL ρ cA dC dI (bsRz ρ cA lo od) meth (some .int) := C
  refine v_sub [0, 1] rfl ?_
  refine v_aload_n C dL_cut_0 rfl rfl ?_
  refine v_iconst (v := 0) C dL_cut_1 (by decide) ?_
  refine v_aload_n C dL_cut_2 rfl rfl ?_
  refine v_wcalli (y := yX8_cut) (As := []) (rest := [.int 0, .ref (ρ 15 0 0)]) C T9 (cX8_cut_ok hst hf) mlL_160 wyX8_cut bsm_X8 bsc_X8 rfl dpX8_cut ⟨Nat.le_of_ble_eq_true rfl, Nat.le_of_ble_eq_true rfl⟩ ⟨Nat.le_of_ble_eq_true rfl, Nat.le_of_ble_eq_true rfl⟩ rfl (Nat.le_of_ble_eq_true rfl) dL_cut_3 (fun h0 => ?_) (fun h0 => ?_)
  · rcases hr with h1 | h1 | h1
    · omega
    · rw [h1]
      refine ⟨11, ⟨[], ⟨0, 8, 11, 20⟩, [⟨0, 8, 14, 15⟩], rfl, (fun z hz => nomatch hz), by decide, by decide, cl_20, rfl, by decide⟩, fun q9 => ?_⟩
      refine v_astore_n (lv' := [(2, .ref q9), (0, .ref (ρ 13 0 0)), (1, .ref (ρ 15 0 0))]) C dL_cut_11 rfl (by decide) rfl ?_
      refine v_iconst (v := 1) C dL_cut_12 (by decide) ?_
      exact v_wret C rfl (Nat.le_of_ble_eq_true rfl) (Nat.le_of_ble_eq_true rfl) dL_cut_13
    · rw [h1]
      refine ⟨14, ⟨[⟨0, 8, 11, 20⟩], ⟨0, 8, 14, 15⟩, [], rfl, (by
      intro z hz
      rcases List.mem_cons.mp hz with rfl | hz
      · exact ⟨by decide, "java/lang/IllegalStateException", by decide, by decide, cl_20⟩
      · cases hz), by decide, by decide, cl_15, rfl, by decide⟩, fun q9 => ?_⟩
      refine v_astore_n (lv' := [(2, .ref q9), (0, .ref (ρ 13 0 0)), (1, .ref (ρ 15 0 0))]) C dL_cut_14 rfl (by decide) rfl ?_
      refine v_iconst (v := 2) C dL_cut_15 (by decide) ?_
      exact v_wret C rfl (Nat.le_of_ble_eq_true rfl) (Nat.le_of_ble_eq_true rfl) dL_cut_16
  · rw [h0]
    rw [if_pos (rfl : (0 : Nat) = 0)]
    refine v_i2l C dL_cut_6 ?_
    refine v_last C dL_cut_7 ?_
    have C := bsCx_Rz C r.2.1.toInt64 od
    refine v_goto (tgt := 17) C dL_cut_8 (by decide) ?_
    refine v_iconst (v := 0) C dL_cut_17 (by decide) ?_
    exact v_wret C rfl (Nat.le_of_ble_eq_true rfl) (Nat.le_of_ble_eq_true rfl) dL_cut_18
abbrev rmL_reboot : Room := { frames := 9, cells := 2, slots := 12, locals := 141 }
set_option maxHeartbeats 4000000 in
set_option maxRecDepth 100000 in
theorem cL_reboot_ok {l : Launch} {ρ : bsR} {cA : Nat → ClassId} {dC : Nat → ClassId} {dI : Nat → Nat → Nat} (hst : l.stackTraces = false) {X : bsX} {r : bsXr} {lo : Int64} {od : UInt64} (hf : fX8_reboot  X = some r) (hr : r.1 = 0 ∨ r.1 = 1 ∨ r.1 = 3) : bsWi l yL_reboot cL_reboot 3 (some .int) [(0, 8, 11, 20), (0, 8, 14, 15)] rmL_reboot ρ cA dC dI [.ref (ρ 13 0 0), .ref (ρ 15 0 0)] X lo od ((if r.1 = 1 then (1 : Int32) else (if r.1 = 3 then (2 : Int32) else (0 : Int32))), r.2.2) (if r.1 = 0 then r.2.1.toInt64 else lo) od := by
  refine bsWi_of (by decide +kernel) (Nat.le_of_ble_eq_true rfl) (fun p e s m args below meth c C T9 => ?_)
  have C : bsCx p m c cL_reboot 3 s args (Cond.codeWith yL_reboot cL_reboot 3 (some .int) [(0, 8, 11, 20), (0, 8, 14, 15)] :: bsG) RL ρ cA dC dI (bsRz ρ cA lo od) meth (some .int) := C
  refine v_sub [0, 1] rfl ?_
  refine v_aload_n C dL_reboot_0 rfl rfl ?_
  refine v_iconst (v := 0) C dL_reboot_1 (by decide) ?_
  refine v_aload_n C dL_reboot_2 rfl rfl ?_
  refine v_wcalli (y := yX8_reboot) (As := []) (rest := [.int 0, .ref (ρ 15 0 0)]) C T9 (cX8_reboot_ok hst hf) mlL_163 wyX8_reboot bsm_X8 bsc_X8 rfl dpX8_reboot ⟨Nat.le_of_ble_eq_true rfl, Nat.le_of_ble_eq_true rfl⟩ ⟨Nat.le_of_ble_eq_true rfl, Nat.le_of_ble_eq_true rfl⟩ rfl (Nat.le_of_ble_eq_true rfl) dL_reboot_3 (fun h0 => ?_) (fun h0 => ?_)
  · rcases hr with h1 | h1 | h1
    · omega
    · rw [h1]
      refine ⟨11, ⟨[], ⟨0, 8, 11, 20⟩, [⟨0, 8, 14, 15⟩], rfl, (fun z hz => nomatch hz), by decide, by decide, cl_20, rfl, by decide⟩, fun q9 => ?_⟩
      refine v_astore_n (lv' := [(2, .ref q9), (0, .ref (ρ 13 0 0)), (1, .ref (ρ 15 0 0))]) C dL_reboot_11 rfl (by decide) rfl ?_
      refine v_iconst (v := 1) C dL_reboot_12 (by decide) ?_
      exact v_wret C rfl (Nat.le_of_ble_eq_true rfl) (Nat.le_of_ble_eq_true rfl) dL_reboot_13
    · rw [h1]
      refine ⟨14, ⟨[⟨0, 8, 11, 20⟩], ⟨0, 8, 14, 15⟩, [], rfl, (by
      intro z hz
      rcases List.mem_cons.mp hz with rfl | hz
      · exact ⟨by decide, "java/lang/IllegalStateException", by decide, by decide, cl_20⟩
      · cases hz), by decide, by decide, cl_15, rfl, by decide⟩, fun q9 => ?_⟩
      refine v_astore_n (lv' := [(2, .ref q9), (0, .ref (ρ 13 0 0)), (1, .ref (ρ 15 0 0))]) C dL_reboot_14 rfl (by decide) rfl ?_
      refine v_iconst (v := 2) C dL_reboot_15 (by decide) ?_
      exact v_wret C rfl (Nat.le_of_ble_eq_true rfl) (Nat.le_of_ble_eq_true rfl) dL_reboot_16
  · rw [h0]
    rw [if_pos (rfl : (0 : Nat) = 0)]
    refine v_i2l C dL_reboot_6 ?_
    refine v_last C dL_reboot_7 ?_
    have C := bsCx_Rz C r.2.1.toInt64 od
    refine v_goto (tgt := 17) C dL_reboot_8 (by decide) ?_
    refine v_iconst (v := 0) C dL_reboot_17 (by decide) ?_
    exact v_wret C rfl (Nat.le_of_ble_eq_true rfl) (Nat.le_of_ble_eq_true rfl) dL_reboot_18
abbrev rmL_tick : Room := { frames := 8, cells := 3, slots := 18, locals := 131 }
set_option maxHeartbeats 4000000 in
set_option maxRecDepth 100000 in
theorem cL_tick_ok {l : Launch} {ρ : bsR} {cA : Nat → ClassId} {dC : Nat → ClassId} {dI : Nat → Nat → Nat} (hst : l.stackTraces = false) {a1 : Int32} {X : bsX} {r : bsXr} {lo : Int64} {od : UInt64} (hf : fX8_tick a1 X = some r) (hr : r.1 = 0 ∨ r.1 = 1 ∨ r.1 = 3) : bsWi l yL_tick cL_tick 4 (some .int) [(0, 9, 12, 20), (0, 9, 15, 15)] rmL_tick ρ cA dC dI [.ref (ρ 13 0 0), .int a1, .ref (ρ 15 0 0)] X lo od ((if r.1 = 1 then (1 : Int32) else (if r.1 = 3 then (2 : Int32) else (0 : Int32))), r.2.2) (if r.1 = 0 then r.2.1.toInt64 else lo) od := by
  refine bsWi_of (by decide +kernel) (Nat.le_of_ble_eq_true rfl) (fun p e s m args below meth c C T9 => ?_)
  have C : bsCx p m c cL_tick 4 s args (Cond.codeWith yL_tick cL_tick 4 (some .int) [(0, 9, 12, 20), (0, 9, 15, 15)] :: bsG) RL ρ cA dC dI (bsRz ρ cA lo od) meth (some .int) := C
  refine v_sub [0, 1, 2] rfl ?_
  refine v_aload_n C dL_tick_0 rfl rfl ?_
  refine v_iconst (v := 0) C dL_tick_1 (by decide) ?_
  refine v_aload_n C dL_tick_2 rfl rfl ?_
  refine v_iload_n C dL_tick_3 rfl rfl ?_
  refine v_wcalli (y := yX8_tick) (As := [.int a1]) (rest := [.int 0, .ref (ρ 15 0 0)]) C T9 (cX8_tick_ok hst hf) mlL_166 wyX8_tick bsm_X8 bsc_X8 rfl dpX8_tick ⟨Nat.le_of_ble_eq_true rfl, Nat.le_of_ble_eq_true rfl⟩ ⟨Nat.le_of_ble_eq_true rfl, Nat.le_of_ble_eq_true rfl⟩ rfl (Nat.le_of_ble_eq_true rfl) dL_tick_4 (fun h0 => ?_) (fun h0 => ?_)
  · rcases hr with h1 | h1 | h1
    · omega
    · rw [h1]
      refine ⟨12, ⟨[], ⟨0, 9, 12, 20⟩, [⟨0, 9, 15, 15⟩], rfl, (fun z hz => nomatch hz), by decide, by decide, cl_20, rfl, by decide⟩, fun q9 => ?_⟩
      refine v_astore_n (lv' := [(3, .ref q9), (0, .ref (ρ 13 0 0)), (1, .int a1), (2, .ref (ρ 15 0 0))]) C dL_tick_12 rfl (by decide) rfl ?_
      refine v_iconst (v := 1) C dL_tick_13 (by decide) ?_
      exact v_wret C rfl (Nat.le_of_ble_eq_true rfl) (Nat.le_of_ble_eq_true rfl) dL_tick_14
    · rw [h1]
      refine ⟨15, ⟨[⟨0, 9, 12, 20⟩], ⟨0, 9, 15, 15⟩, [], rfl, (by
      intro z hz
      rcases List.mem_cons.mp hz with rfl | hz
      · exact ⟨by decide, "java/lang/IllegalStateException", by decide, by decide, cl_20⟩
      · cases hz), by decide, by decide, cl_15, rfl, by decide⟩, fun q9 => ?_⟩
      refine v_astore_n (lv' := [(3, .ref q9), (0, .ref (ρ 13 0 0)), (1, .int a1), (2, .ref (ρ 15 0 0))]) C dL_tick_15 rfl (by decide) rfl ?_
      refine v_iconst (v := 2) C dL_tick_16 (by decide) ?_
      exact v_wret C rfl (Nat.le_of_ble_eq_true rfl) (Nat.le_of_ble_eq_true rfl) dL_tick_17
  · rw [h0]
    rw [if_pos (rfl : (0 : Nat) = 0)]
    refine v_i2l C dL_tick_7 ?_
    refine v_last C dL_tick_8 ?_
    have C := bsCx_Rz C r.2.1.toInt64 od
    refine v_goto (tgt := 18) C dL_tick_9 (by decide) ?_
    refine v_iconst (v := 0) C dL_tick_18 (by decide) ?_
    exact v_wret C rfl (Nat.le_of_ble_eq_true rfl) (Nat.le_of_ble_eq_true rfl) dL_tick_19
abbrev rmL_begin : Room := { frames := 9, cells := 9, slots := 54, locals := 147 }
set_option maxHeartbeats 4000000 in
set_option maxRecDepth 100000 in
theorem cL_begin_ok {l : Launch} {ρ : bsR} {cA : Nat → ClassId} {dC : Nat → ClassId} {dI : Nat → Nat → Nat} (hst : l.stackTraces = false) {a1 a2 a3 a4 a5 : Int32} {X : bsX} {r : bsXr} {lo : Int64} {od : UInt64} (hf : fX8_begin a1 a2 a3 a4 a5 X = some r) (hr : r.1 = 0 ∨ r.1 = 1 ∨ r.1 = 2 ∨ r.1 = 3) : bsWi l yL_begin cL_begin 8 (some .int) [(0, 16, 19, 20), (0, 16, 23, 13), (0, 16, 27, 15)] rmL_begin ρ cA dC dI [.ref (ρ 13 0 0), .int a1, .int a2, .int a3, .int a4, .int a5, .ref (ρ 15 0 0)] X lo od ((if r.1 = 1 then (1 : Int32) else (if r.1 = 2 then (2 : Int32) else (if r.1 = 3 then (3 : Int32) else (0 : Int32)))), r.2.2) (if r.1 = 0 then r.2.1.toInt64 else lo) od := by
  refine bsWi_of (by decide +kernel) (Nat.le_of_ble_eq_true rfl) (fun p e s m args below meth c C T9 => ?_)
  have C : bsCx p m c cL_begin 8 s args (Cond.codeWith yL_begin cL_begin 8 (some .int) [(0, 16, 19, 20), (0, 16, 23, 13), (0, 16, 27, 15)] :: bsG) RL ρ cA dC dI (bsRz ρ cA lo od) meth (some .int) := C
  refine v_sub [0, 1, 2, 3, 4, 5, 6] rfl ?_
  refine v_aload C dL_begin_0 rfl ?_
  refine v_iconst (v := 0) C dL_begin_2 (by decide) ?_
  refine v_aload_n C dL_begin_3 rfl rfl ?_
  refine v_iload_n C dL_begin_4 rfl rfl ?_
  refine v_iload_n C dL_begin_5 rfl rfl ?_
  refine v_iload_n C dL_begin_6 rfl rfl ?_
  refine v_iload C dL_begin_7 rfl ?_
  refine v_iload C dL_begin_9 rfl ?_
  refine v_wcalli (y := yX8_begin) (As := [.int a1, .int a2, .int a3, .int a4, .int a5]) (rest := [.int 0, .ref (ρ 15 0 0)]) C T9 (cX8_begin_ok hst hf) mlL_169 wyX8_begin bsm_X8 bsc_X8 rfl dpX8_begin ⟨Nat.le_of_ble_eq_true rfl, Nat.le_of_ble_eq_true rfl⟩ ⟨Nat.le_of_ble_eq_true rfl, Nat.le_of_ble_eq_true rfl⟩ rfl (Nat.le_of_ble_eq_true rfl) dL_begin_11 (fun h0 => ?_) (fun h0 => ?_)
  · rcases hr with h1 | h1 | h1 | h1
    · omega
    · rw [h1]
      refine ⟨19, ⟨[], ⟨0, 16, 19, 20⟩, [⟨0, 16, 23, 13⟩, ⟨0, 16, 27, 15⟩], rfl, (fun z hz => nomatch hz), by decide, by decide, cl_20, rfl, by decide⟩, fun q9 => ?_⟩
      refine v_astore (lv' := [(7, .ref q9), (0, .ref (ρ 13 0 0)), (1, .int a1), (2, .int a2), (3, .int a3), (4, .int a4), (5, .int a5), (6, .ref (ρ 15 0 0))]) C dL_begin_19 (by decide) rfl ?_
      refine v_iconst (v := 1) C dL_begin_21 (by decide) ?_
      exact v_wret C rfl (Nat.le_of_ble_eq_true rfl) (Nat.le_of_ble_eq_true rfl) dL_begin_22
    · rw [h1]
      refine ⟨23, ⟨[⟨0, 16, 19, 20⟩], ⟨0, 16, 23, 13⟩, [⟨0, 16, 27, 15⟩], rfl, (by
      intro z hz
      rcases List.mem_cons.mp hz with rfl | hz
      · exact ⟨by decide, "java/lang/IllegalStateException", by decide, by decide, cl_20⟩
      · cases hz), by decide, by decide, cl_13, rfl, by decide⟩, fun q9 => ?_⟩
      refine v_astore (lv' := [(7, .ref q9), (0, .ref (ρ 13 0 0)), (1, .int a1), (2, .int a2), (3, .int a3), (4, .int a4), (5, .int a5), (6, .ref (ρ 15 0 0))]) C dL_begin_23 (by decide) rfl ?_
      refine v_iconst (v := 2) C dL_begin_25 (by decide) ?_
      exact v_wret C rfl (Nat.le_of_ble_eq_true rfl) (Nat.le_of_ble_eq_true rfl) dL_begin_26
    · rw [h1]
      refine ⟨27, ⟨[⟨0, 16, 19, 20⟩, ⟨0, 16, 23, 13⟩], ⟨0, 16, 27, 15⟩, [], rfl, (by
      intro z hz
      rcases List.mem_cons.mp hz with rfl | hz
      · exact ⟨by decide, "java/lang/IllegalStateException", by decide, by decide, cl_20⟩
      · rcases List.mem_cons.mp hz with rfl | hz
        · exact ⟨by decide, "java/lang/IndexOutOfBoundsException", by decide, by decide, cl_13⟩
        · cases hz), by decide, by decide, cl_15, rfl, by decide⟩, fun q9 => ?_⟩
      refine v_astore (lv' := [(7, .ref q9), (0, .ref (ρ 13 0 0)), (1, .int a1), (2, .int a2), (3, .int a3), (4, .int a4), (5, .int a5), (6, .ref (ρ 15 0 0))]) C dL_begin_27 (by decide) rfl ?_
      refine v_iconst (v := 3) C dL_begin_29 (by decide) ?_
      exact v_wret C rfl (Nat.le_of_ble_eq_true rfl) (Nat.le_of_ble_eq_true rfl) dL_begin_30
  · rw [h0]
    rw [if_pos (rfl : (0 : Nat) = 0)]
    refine v_i2l C dL_begin_14 ?_
    refine v_last C dL_begin_15 ?_
    have C := bsCx_Rz C r.2.1.toInt64 od
    refine v_goto (tgt := 31) C dL_begin_16 (by decide) ?_
    refine v_iconst (v := 0) C dL_begin_31 (by decide) ?_
    exact v_wret C rfl (Nat.le_of_ble_eq_true rfl) (Nat.le_of_ble_eq_true rfl) dL_begin_32
abbrev rmL_spoil : Room := { frames := 9, cells := 4, slots := 24, locals := 146 }
set_option maxHeartbeats 4000000 in
set_option maxRecDepth 100000 in
theorem cL_spoil_ok {l : Launch} {ρ : bsR} {cA : Nat → ClassId} {dC : Nat → ClassId} {dI : Nat → Nat → Nat} (hst : l.stackTraces = false) {a1 a2 : Int32} {X : bsX} {r : bsXr} {lo : Int64} {od : UInt64} (hf : fX8_spoil a1 a2 X = some r) (hr : r.1 = 0 ∨ r.1 = 1 ∨ r.1 = 2 ∨ r.1 = 3) : bsWi l yL_spoil cL_spoil 5 (some .int) [(0, 10, 13, 20), (0, 10, 17, 13), (0, 10, 21, 15)] rmL_spoil ρ cA dC dI [.ref (ρ 13 0 0), .int a1, .int a2, .ref (ρ 15 0 0)] X lo od ((if r.1 = 1 then (1 : Int32) else (if r.1 = 2 then (2 : Int32) else (if r.1 = 3 then (3 : Int32) else (0 : Int32)))), r.2.2) (if r.1 = 0 then r.2.1.toInt64 else lo) od := by
  refine bsWi_of (by decide +kernel) (Nat.le_of_ble_eq_true rfl) (fun p e s m args below meth c C T9 => ?_)
  have C : bsCx p m c cL_spoil 5 s args (Cond.codeWith yL_spoil cL_spoil 5 (some .int) [(0, 10, 13, 20), (0, 10, 17, 13), (0, 10, 21, 15)] :: bsG) RL ρ cA dC dI (bsRz ρ cA lo od) meth (some .int) := C
  refine v_sub [0, 1, 2, 3] rfl ?_
  refine v_aload_n C dL_spoil_0 rfl rfl ?_
  refine v_iconst (v := 0) C dL_spoil_1 (by decide) ?_
  refine v_aload_n C dL_spoil_2 rfl rfl ?_
  refine v_iload_n C dL_spoil_3 rfl rfl ?_
  refine v_iload_n C dL_spoil_4 rfl rfl ?_
  refine v_wcalli (y := yX8_spoil) (As := [.int a1, .int a2]) (rest := [.int 0, .ref (ρ 15 0 0)]) C T9 (cX8_spoil_ok hst hf) mlL_173 wyX8_spoil bsm_X8 bsc_X8 rfl dpX8_spoil ⟨Nat.le_of_ble_eq_true rfl, Nat.le_of_ble_eq_true rfl⟩ ⟨Nat.le_of_ble_eq_true rfl, Nat.le_of_ble_eq_true rfl⟩ rfl (Nat.le_of_ble_eq_true rfl) dL_spoil_5 (fun h0 => ?_) (fun h0 => ?_)
  · rcases hr with h1 | h1 | h1 | h1
    · omega
    · rw [h1]
      refine ⟨13, ⟨[], ⟨0, 10, 13, 20⟩, [⟨0, 10, 17, 13⟩, ⟨0, 10, 21, 15⟩], rfl, (fun z hz => nomatch hz), by decide, by decide, cl_20, rfl, by decide⟩, fun q9 => ?_⟩
      refine v_astore (lv' := [(4, .ref q9), (0, .ref (ρ 13 0 0)), (1, .int a1), (2, .int a2), (3, .ref (ρ 15 0 0))]) C dL_spoil_13 (by decide) rfl ?_
      refine v_iconst (v := 1) C dL_spoil_15 (by decide) ?_
      exact v_wret C rfl (Nat.le_of_ble_eq_true rfl) (Nat.le_of_ble_eq_true rfl) dL_spoil_16
    · rw [h1]
      refine ⟨17, ⟨[⟨0, 10, 13, 20⟩], ⟨0, 10, 17, 13⟩, [⟨0, 10, 21, 15⟩], rfl, (by
      intro z hz
      rcases List.mem_cons.mp hz with rfl | hz
      · exact ⟨by decide, "java/lang/IllegalStateException", by decide, by decide, cl_20⟩
      · cases hz), by decide, by decide, cl_13, rfl, by decide⟩, fun q9 => ?_⟩
      refine v_astore (lv' := [(4, .ref q9), (0, .ref (ρ 13 0 0)), (1, .int a1), (2, .int a2), (3, .ref (ρ 15 0 0))]) C dL_spoil_17 (by decide) rfl ?_
      refine v_iconst (v := 2) C dL_spoil_19 (by decide) ?_
      exact v_wret C rfl (Nat.le_of_ble_eq_true rfl) (Nat.le_of_ble_eq_true rfl) dL_spoil_20
    · rw [h1]
      refine ⟨21, ⟨[⟨0, 10, 13, 20⟩, ⟨0, 10, 17, 13⟩], ⟨0, 10, 21, 15⟩, [], rfl, (by
      intro z hz
      rcases List.mem_cons.mp hz with rfl | hz
      · exact ⟨by decide, "java/lang/IllegalStateException", by decide, by decide, cl_20⟩
      · rcases List.mem_cons.mp hz with rfl | hz
        · exact ⟨by decide, "java/lang/IndexOutOfBoundsException", by decide, by decide, cl_13⟩
        · cases hz), by decide, by decide, cl_15, rfl, by decide⟩, fun q9 => ?_⟩
      refine v_astore (lv' := [(4, .ref q9), (0, .ref (ρ 13 0 0)), (1, .int a1), (2, .int a2), (3, .ref (ρ 15 0 0))]) C dL_spoil_21 (by decide) rfl ?_
      refine v_iconst (v := 3) C dL_spoil_23 (by decide) ?_
      exact v_wret C rfl (Nat.le_of_ble_eq_true rfl) (Nat.le_of_ble_eq_true rfl) dL_spoil_24
  · rw [h0]
    rw [if_pos (rfl : (0 : Nat) = 0)]
    refine v_i2l C dL_spoil_8 ?_
    refine v_last C dL_spoil_9 ?_
    have C := bsCx_Rz C r.2.1.toInt64 od
    refine v_goto (tgt := 25) C dL_spoil_10 (by decide) ?_
    refine v_iconst (v := 0) C dL_spoil_25 (by decide) ?_
    exact v_wret C rfl (Nat.le_of_ble_eq_true rfl) (Nat.le_of_ble_eq_true rfl) dL_spoil_26
abbrev rmL_mark : Room := { frames := 9, cells := 5, slots := 30, locals := 147 }
set_option maxHeartbeats 4000000 in
set_option maxRecDepth 100000 in
theorem cL_mark_ok {l : Launch} {ρ : bsR} {cA : Nat → ClassId} {dC : Nat → ClassId} {dI : Nat → Nat → Nat} (hst : l.stackTraces = false) {a1 a2 a3 : Int32} {X : bsX} {r : bsXr} {lo : Int64} {od : UInt64} (hf : fX8_mark a1 a2 a3 X = some r) (hr : r.1 = 0 ∨ r.1 = 1 ∨ r.1 = 2 ∨ r.1 = 3) : bsWi l yL_mark cL_mark 6 (some .int) [(0, 12, 15, 20), (0, 12, 19, 13), (0, 12, 23, 15)] rmL_mark ρ cA dC dI [.ref (ρ 13 0 0), .int a1, .int a2, .int a3, .ref (ρ 15 0 0)] X lo od ((if r.1 = 1 then (1 : Int32) else (if r.1 = 2 then (2 : Int32) else (if r.1 = 3 then (3 : Int32) else (0 : Int32)))), r.2.2) (if r.1 = 0 then r.2.1.toInt64 else lo) od := by
  refine bsWi_of (by decide +kernel) (Nat.le_of_ble_eq_true rfl) (fun p e s m args below meth c C T9 => ?_)
  have C : bsCx p m c cL_mark 6 s args (Cond.codeWith yL_mark cL_mark 6 (some .int) [(0, 12, 15, 20), (0, 12, 19, 13), (0, 12, 23, 15)] :: bsG) RL ρ cA dC dI (bsRz ρ cA lo od) meth (some .int) := C
  refine v_sub [0, 1, 2, 3, 4] rfl ?_
  refine v_aload C dL_mark_0 rfl ?_
  refine v_iconst (v := 0) C dL_mark_2 (by decide) ?_
  refine v_aload_n C dL_mark_3 rfl rfl ?_
  refine v_iload_n C dL_mark_4 rfl rfl ?_
  refine v_iload_n C dL_mark_5 rfl rfl ?_
  refine v_iload_n C dL_mark_6 rfl rfl ?_
  refine v_wcalli (y := yX8_mark) (As := [.int a1, .int a2, .int a3]) (rest := [.int 0, .ref (ρ 15 0 0)]) C T9 (cX8_mark_ok hst hf) mlL_176 wyX8_mark bsm_X8 bsc_X8 rfl dpX8_mark ⟨Nat.le_of_ble_eq_true rfl, Nat.le_of_ble_eq_true rfl⟩ ⟨Nat.le_of_ble_eq_true rfl, Nat.le_of_ble_eq_true rfl⟩ rfl (Nat.le_of_ble_eq_true rfl) dL_mark_7 (fun h0 => ?_) (fun h0 => ?_)
  · rcases hr with h1 | h1 | h1 | h1
    · omega
    · rw [h1]
      refine ⟨15, ⟨[], ⟨0, 12, 15, 20⟩, [⟨0, 12, 19, 13⟩, ⟨0, 12, 23, 15⟩], rfl, (fun z hz => nomatch hz), by decide, by decide, cl_20, rfl, by decide⟩, fun q9 => ?_⟩
      refine v_astore (lv' := [(5, .ref q9), (0, .ref (ρ 13 0 0)), (1, .int a1), (2, .int a2), (3, .int a3), (4, .ref (ρ 15 0 0))]) C dL_mark_15 (by decide) rfl ?_
      refine v_iconst (v := 1) C dL_mark_17 (by decide) ?_
      exact v_wret C rfl (Nat.le_of_ble_eq_true rfl) (Nat.le_of_ble_eq_true rfl) dL_mark_18
    · rw [h1]
      refine ⟨19, ⟨[⟨0, 12, 15, 20⟩], ⟨0, 12, 19, 13⟩, [⟨0, 12, 23, 15⟩], rfl, (by
      intro z hz
      rcases List.mem_cons.mp hz with rfl | hz
      · exact ⟨by decide, "java/lang/IllegalStateException", by decide, by decide, cl_20⟩
      · cases hz), by decide, by decide, cl_13, rfl, by decide⟩, fun q9 => ?_⟩
      refine v_astore (lv' := [(5, .ref q9), (0, .ref (ρ 13 0 0)), (1, .int a1), (2, .int a2), (3, .int a3), (4, .ref (ρ 15 0 0))]) C dL_mark_19 (by decide) rfl ?_
      refine v_iconst (v := 2) C dL_mark_21 (by decide) ?_
      exact v_wret C rfl (Nat.le_of_ble_eq_true rfl) (Nat.le_of_ble_eq_true rfl) dL_mark_22
    · rw [h1]
      refine ⟨23, ⟨[⟨0, 12, 15, 20⟩, ⟨0, 12, 19, 13⟩], ⟨0, 12, 23, 15⟩, [], rfl, (by
      intro z hz
      rcases List.mem_cons.mp hz with rfl | hz
      · exact ⟨by decide, "java/lang/IllegalStateException", by decide, by decide, cl_20⟩
      · rcases List.mem_cons.mp hz with rfl | hz
        · exact ⟨by decide, "java/lang/IndexOutOfBoundsException", by decide, by decide, cl_13⟩
        · cases hz), by decide, by decide, cl_15, rfl, by decide⟩, fun q9 => ?_⟩
      refine v_astore (lv' := [(5, .ref q9), (0, .ref (ρ 13 0 0)), (1, .int a1), (2, .int a2), (3, .int a3), (4, .ref (ρ 15 0 0))]) C dL_mark_23 (by decide) rfl ?_
      refine v_iconst (v := 3) C dL_mark_25 (by decide) ?_
      exact v_wret C rfl (Nat.le_of_ble_eq_true rfl) (Nat.le_of_ble_eq_true rfl) dL_mark_26
  · rw [h0]
    rw [if_pos (rfl : (0 : Nat) = 0)]
    refine v_i2l C dL_mark_10 ?_
    refine v_last C dL_mark_11 ?_
    have C := bsCx_Rz C r.2.1.toInt64 od
    refine v_goto (tgt := 27) C dL_mark_12 (by decide) ?_
    refine v_iconst (v := 0) C dL_mark_27 (by decide) ?_
    exact v_wret C rfl (Nat.le_of_ble_eq_true rfl) (Nat.le_of_ble_eq_true rfl) dL_mark_28
abbrev rmL_setNumber : Room := { frames := 9, cells := 2, slots := 12, locals := 147 }
set_option maxHeartbeats 4000000 in
set_option maxRecDepth 100000 in
theorem cL_setNumber_ok {l : Launch} {ρ : bsR} {cA : Nat → ClassId} {dC : Nat → ClassId} {dI : Nat → Nat → Nat} (hst : l.stackTraces = false) {a1 a2 : Int32} {X : bsX} {r : bsXr} {lo : Int64} {od : UInt64} (hf : fX8_setNumber a1 a2 X = some r) (hr : r.1 = 0 ∨ r.1 = 1 ∨ r.1 = 3) : bsWi l yL_setNumber cL_setNumber 5 (some .int) [(0, 10, 13, 20), (0, 10, 17, 15)] rmL_setNumber ρ cA dC dI [.ref (ρ 13 0 0), .int a1, .int a2, .ref (ρ 15 0 0)] X lo od ((if r.1 = 1 then (1 : Int32) else (if r.1 = 3 then (2 : Int32) else (0 : Int32))), r.2.2) (if r.1 = 0 then r.2.1.toInt64 else lo) od := by
  refine bsWi_of (by decide +kernel) (Nat.le_of_ble_eq_true rfl) (fun p e s m args below meth c C T9 => ?_)
  have C : bsCx p m c cL_setNumber 5 s args (Cond.codeWith yL_setNumber cL_setNumber 5 (some .int) [(0, 10, 13, 20), (0, 10, 17, 15)] :: bsG) RL ρ cA dC dI (bsRz ρ cA lo od) meth (some .int) := C
  refine v_sub [0, 1, 2, 3] rfl ?_
  refine v_aload_n C dL_setNumber_0 rfl rfl ?_
  refine v_iconst (v := 0) C dL_setNumber_1 (by decide) ?_
  refine v_aload_n C dL_setNumber_2 rfl rfl ?_
  refine v_iload_n C dL_setNumber_3 rfl rfl ?_
  refine v_iload_n C dL_setNumber_4 rfl rfl ?_
  refine v_wcalli (y := yX8_setNumber) (As := [.int a1, .int a2]) (rest := [.int 0, .ref (ρ 15 0 0)]) C T9 (cX8_setNumber_ok hst hf) mlL_179 wyX8_setNumber bsm_X8 bsc_X8 rfl dpX8_setNumber ⟨Nat.le_of_ble_eq_true rfl, Nat.le_of_ble_eq_true rfl⟩ ⟨Nat.le_of_ble_eq_true rfl, Nat.le_of_ble_eq_true rfl⟩ rfl (Nat.le_of_ble_eq_true rfl) dL_setNumber_5 (fun h0 => ?_) (fun h0 => ?_)
  · rcases hr with h1 | h1 | h1
    · omega
    · rw [h1]
      refine ⟨13, ⟨[], ⟨0, 10, 13, 20⟩, [⟨0, 10, 17, 15⟩], rfl, (fun z hz => nomatch hz), by decide, by decide, cl_20, rfl, by decide⟩, fun q9 => ?_⟩
      refine v_astore (lv' := [(4, .ref q9), (0, .ref (ρ 13 0 0)), (1, .int a1), (2, .int a2), (3, .ref (ρ 15 0 0))]) C dL_setNumber_13 (by decide) rfl ?_
      refine v_iconst (v := 1) C dL_setNumber_15 (by decide) ?_
      exact v_wret C rfl (Nat.le_of_ble_eq_true rfl) (Nat.le_of_ble_eq_true rfl) dL_setNumber_16
    · rw [h1]
      refine ⟨17, ⟨[⟨0, 10, 13, 20⟩], ⟨0, 10, 17, 15⟩, [], rfl, (by
      intro z hz
      rcases List.mem_cons.mp hz with rfl | hz
      · exact ⟨by decide, "java/lang/IllegalStateException", by decide, by decide, cl_20⟩
      · cases hz), by decide, by decide, cl_15, rfl, by decide⟩, fun q9 => ?_⟩
      refine v_astore (lv' := [(4, .ref q9), (0, .ref (ρ 13 0 0)), (1, .int a1), (2, .int a2), (3, .ref (ρ 15 0 0))]) C dL_setNumber_17 (by decide) rfl ?_
      refine v_iconst (v := 2) C dL_setNumber_19 (by decide) ?_
      exact v_wret C rfl (Nat.le_of_ble_eq_true rfl) (Nat.le_of_ble_eq_true rfl) dL_setNumber_20
  · rw [h0]
    rw [if_pos (rfl : (0 : Nat) = 0)]
    refine v_i2l C dL_setNumber_8 ?_
    refine v_last C dL_setNumber_9 ?_
    have C := bsCx_Rz C r.2.1.toInt64 od
    refine v_goto (tgt := 21) C dL_setNumber_10 (by decide) ?_
    refine v_iconst (v := 0) C dL_setNumber_21 (by decide) ?_
    exact v_wret C rfl (Nat.le_of_ble_eq_true rfl) (Nat.le_of_ble_eq_true rfl) dL_setNumber_22
abbrev rmL_undo : Room := { frames := 7, cells := 1, slots := 6, locals := 101 }
set_option maxHeartbeats 4000000 in
set_option maxRecDepth 100000 in
theorem cL_undo_ok {l : Launch} {ρ : bsR} {cA : Nat → ClassId} {dC : Nat → ClassId} {dI : Nat → Nat → Nat} (hst : l.stackTraces = false) {X : bsX} {r : bsXr} {lo : Int64} {od : UInt64} (hf : fX8_undo  X = some r) (hr : r.1 = 0 ∨ r.1 = 1) : bsWi l yL_undo cL_undo 3 (some .int) [(0, 8, 11, 20)] rmL_undo ρ cA dC dI [.ref (ρ 13 0 0), .ref (ρ 15 0 0)] X lo od ((if r.1 = 1 then (1 : Int32) else (0 : Int32)), r.2.2) (if r.1 = 0 then r.2.1.toInt64 else lo) od := by
  refine bsWi_of (by decide +kernel) (Nat.le_of_ble_eq_true rfl) (fun p e s m args below meth c C T9 => ?_)
  have C : bsCx p m c cL_undo 3 s args (Cond.codeWith yL_undo cL_undo 3 (some .int) [(0, 8, 11, 20)] :: bsG) RL ρ cA dC dI (bsRz ρ cA lo od) meth (some .int) := C
  refine v_sub [0, 1] rfl ?_
  refine v_aload_n C dL_undo_0 rfl rfl ?_
  refine v_iconst (v := 0) C dL_undo_1 (by decide) ?_
  refine v_aload_n C dL_undo_2 rfl rfl ?_
  refine v_wcalli (y := yX8_undo) (As := []) (rest := [.int 0, .ref (ρ 15 0 0)]) C T9 (cX8_undo_ok hst hf) mlL_182 wyX8_undo bsm_X8 bsc_X8 rfl dpX8_undo ⟨Nat.le_of_ble_eq_true rfl, Nat.le_of_ble_eq_true rfl⟩ ⟨Nat.le_of_ble_eq_true rfl, Nat.le_of_ble_eq_true rfl⟩ rfl (Nat.le_of_ble_eq_true rfl) dL_undo_3 (fun h0 => ?_) (fun h0 => ?_)
  · rcases hr with h1 | h1
    · omega
    · rw [h1]
      refine ⟨11, ⟨[], ⟨0, 8, 11, 20⟩, [], rfl, (fun z hz => nomatch hz), by decide, by decide, cl_20, rfl, by decide⟩, fun q9 => ?_⟩
      refine v_astore_n (lv' := [(2, .ref q9), (0, .ref (ρ 13 0 0)), (1, .ref (ρ 15 0 0))]) C dL_undo_11 rfl (by decide) rfl ?_
      refine v_iconst (v := 1) C dL_undo_12 (by decide) ?_
      exact v_wret C rfl (Nat.le_of_ble_eq_true rfl) (Nat.le_of_ble_eq_true rfl) dL_undo_13
  · rw [h0]
    rw [if_pos (rfl : (0 : Nat) = 0)]
    refine v_i2l C dL_undo_6 ?_
    refine v_last C dL_undo_7 ?_
    have C := bsCx_Rz C r.2.1.toInt64 od
    refine v_goto (tgt := 14) C dL_undo_8 (by decide) ?_
    refine v_iconst (v := 0) C dL_undo_14 (by decide) ?_
    exact v_wret C rfl (Nat.le_of_ble_eq_true rfl) (Nat.le_of_ble_eq_true rfl) dL_undo_15
abbrev rmL_save : Room := { frames := 8, cells := 2, slots := 12, locals := 122 }
set_option maxHeartbeats 4000000 in
set_option maxRecDepth 100000 in
theorem cL_save_ok {l : Launch} {ρ : bsR} {cA : Nat → ClassId} {dC : Nat → ClassId} {dI : Nat → Nat → Nat} (hst : l.stackTraces = false) {a1 : Int32} {X : bsX} {r : bsXr} {lo : Int64} {od : UInt64} (hf : fX8_save a1 X = some r) (hr : r.1 = 0 ∨ r.1 = 1 ∨ r.1 = 2) : bsWi l yL_save cL_save 4 (some .int) [(0, 9, 12, 20), (0, 9, 15, 13)] rmL_save ρ cA dC dI [.ref (ρ 13 0 0), .int a1, .ref (ρ 15 0 0)] X lo od ((if r.1 = 1 then (1 : Int32) else (if r.1 = 2 then (2 : Int32) else (0 : Int32))), r.2.2) (if r.1 = 0 then r.2.1.toInt64 else lo) od := by
  refine bsWi_of (by decide +kernel) (Nat.le_of_ble_eq_true rfl) (fun p e s m args below meth c C T9 => ?_)
  have C : bsCx p m c cL_save 4 s args (Cond.codeWith yL_save cL_save 4 (some .int) [(0, 9, 12, 20), (0, 9, 15, 13)] :: bsG) RL ρ cA dC dI (bsRz ρ cA lo od) meth (some .int) := C
  refine v_sub [0, 1, 2] rfl ?_
  refine v_aload_n C dL_save_0 rfl rfl ?_
  refine v_iconst (v := 0) C dL_save_1 (by decide) ?_
  refine v_aload_n C dL_save_2 rfl rfl ?_
  refine v_iload_n C dL_save_3 rfl rfl ?_
  refine v_wcalli (y := yX8_save) (As := [.int a1]) (rest := [.int 0, .ref (ρ 15 0 0)]) C T9 (cX8_save_ok hst hf) mlL_185 wyX8_save bsm_X8 bsc_X8 rfl dpX8_save ⟨Nat.le_of_ble_eq_true rfl, Nat.le_of_ble_eq_true rfl⟩ ⟨Nat.le_of_ble_eq_true rfl, Nat.le_of_ble_eq_true rfl⟩ rfl (Nat.le_of_ble_eq_true rfl) dL_save_4 (fun h0 => ?_) (fun h0 => ?_)
  · rcases hr with h1 | h1 | h1
    · omega
    · rw [h1]
      refine ⟨12, ⟨[], ⟨0, 9, 12, 20⟩, [⟨0, 9, 15, 13⟩], rfl, (fun z hz => nomatch hz), by decide, by decide, cl_20, rfl, by decide⟩, fun q9 => ?_⟩
      refine v_astore_n (lv' := [(3, .ref q9), (0, .ref (ρ 13 0 0)), (1, .int a1), (2, .ref (ρ 15 0 0))]) C dL_save_12 rfl (by decide) rfl ?_
      refine v_iconst (v := 1) C dL_save_13 (by decide) ?_
      exact v_wret C rfl (Nat.le_of_ble_eq_true rfl) (Nat.le_of_ble_eq_true rfl) dL_save_14
    · rw [h1]
      refine ⟨15, ⟨[⟨0, 9, 12, 20⟩], ⟨0, 9, 15, 13⟩, [], rfl, (by
      intro z hz
      rcases List.mem_cons.mp hz with rfl | hz
      · exact ⟨by decide, "java/lang/IllegalStateException", by decide, by decide, cl_20⟩
      · cases hz), by decide, by decide, cl_13, rfl, by decide⟩, fun q9 => ?_⟩
      refine v_astore_n (lv' := [(3, .ref q9), (0, .ref (ρ 13 0 0)), (1, .int a1), (2, .ref (ρ 15 0 0))]) C dL_save_15 rfl (by decide) rfl ?_
      refine v_iconst (v := 2) C dL_save_16 (by decide) ?_
      exact v_wret C rfl (Nat.le_of_ble_eq_true rfl) (Nat.le_of_ble_eq_true rfl) dL_save_17
  · rw [h0]
    rw [if_pos (rfl : (0 : Nat) = 0)]
    refine v_i2l C dL_save_7 ?_
    refine v_last C dL_save_8 ?_
    have C := bsCx_Rz C r.2.1.toInt64 od
    refine v_goto (tgt := 18) C dL_save_9 (by decide) ?_
    refine v_iconst (v := 0) C dL_save_18 (by decide) ?_
    exact v_wret C rfl (Nat.le_of_ble_eq_true rfl) (Nat.le_of_ble_eq_true rfl) dL_save_19
abbrev rmL_restore : Room := { frames := 7, cells := 1, slots := 6, locals := 102 }
set_option maxHeartbeats 4000000 in
set_option maxRecDepth 100000 in
theorem cL_restore_ok {l : Launch} {ρ : bsR} {cA : Nat → ClassId} {dC : Nat → ClassId} {dI : Nat → Nat → Nat} (hst : l.stackTraces = false) {a1 : Int32} {X : bsX} {r : bsXr} {lo : Int64} {od : UInt64} (hf : fX8_restore a1 X = some r) (hr : r.1 = 0 ∨ r.1 = 2 ∨ r.1 = 1) : bsWi l yL_restore cL_restore 4 (some .int) [(0, 9, 12, 13), (0, 9, 15, 20)] rmL_restore ρ cA dC dI [.ref (ρ 13 0 0), .int a1, .ref (ρ 15 0 0)] X lo od ((if r.1 = 2 then (1 : Int32) else (if r.1 = 1 then (2 : Int32) else (0 : Int32))), r.2.2) (if r.1 = 0 then r.2.1.toInt64 else lo) od := by
  refine bsWi_of (by decide +kernel) (Nat.le_of_ble_eq_true rfl) (fun p e s m args below meth c C T9 => ?_)
  have C : bsCx p m c cL_restore 4 s args (Cond.codeWith yL_restore cL_restore 4 (some .int) [(0, 9, 12, 13), (0, 9, 15, 20)] :: bsG) RL ρ cA dC dI (bsRz ρ cA lo od) meth (some .int) := C
  refine v_sub [0, 1, 2] rfl ?_
  refine v_aload_n C dL_restore_0 rfl rfl ?_
  refine v_iconst (v := 0) C dL_restore_1 (by decide) ?_
  refine v_aload_n C dL_restore_2 rfl rfl ?_
  refine v_iload_n C dL_restore_3 rfl rfl ?_
  refine v_wcalli (y := yX8_restore) (As := [.int a1]) (rest := [.int 0, .ref (ρ 15 0 0)]) C T9 (cX8_restore_ok hst hf) mlL_188 wyX8_restore bsm_X8 bsc_X8 rfl dpX8_restore ⟨Nat.le_of_ble_eq_true rfl, Nat.le_of_ble_eq_true rfl⟩ ⟨Nat.le_of_ble_eq_true rfl, Nat.le_of_ble_eq_true rfl⟩ rfl (Nat.le_of_ble_eq_true rfl) dL_restore_4 (fun h0 => ?_) (fun h0 => ?_)
  · rcases hr with h1 | h1 | h1
    · omega
    · rw [h1]
      refine ⟨12, ⟨[], ⟨0, 9, 12, 13⟩, [⟨0, 9, 15, 20⟩], rfl, (fun z hz => nomatch hz), by decide, by decide, cl_13, rfl, by decide⟩, fun q9 => ?_⟩
      refine v_astore_n (lv' := [(3, .ref q9), (0, .ref (ρ 13 0 0)), (1, .int a1), (2, .ref (ρ 15 0 0))]) C dL_restore_12 rfl (by decide) rfl ?_
      refine v_iconst (v := 1) C dL_restore_13 (by decide) ?_
      exact v_wret C rfl (Nat.le_of_ble_eq_true rfl) (Nat.le_of_ble_eq_true rfl) dL_restore_14
    · rw [h1]
      refine ⟨15, ⟨[⟨0, 9, 12, 13⟩], ⟨0, 9, 15, 20⟩, [], rfl, (by
      intro z hz
      rcases List.mem_cons.mp hz with rfl | hz
      · exact ⟨by decide, "java/lang/IndexOutOfBoundsException", by decide, by decide, cl_13⟩
      · cases hz), by decide, by decide, cl_20, rfl, by decide⟩, fun q9 => ?_⟩
      refine v_astore_n (lv' := [(3, .ref q9), (0, .ref (ρ 13 0 0)), (1, .int a1), (2, .ref (ρ 15 0 0))]) C dL_restore_15 rfl (by decide) rfl ?_
      refine v_iconst (v := 2) C dL_restore_16 (by decide) ?_
      exact v_wret C rfl (Nat.le_of_ble_eq_true rfl) (Nat.le_of_ble_eq_true rfl) dL_restore_17
  · rw [h0]
    rw [if_pos (rfl : (0 : Nat) = 0)]
    refine v_i2l C dL_restore_7 ?_
    refine v_last C dL_restore_8 ?_
    have C := bsCx_Rz C r.2.1.toInt64 od
    refine v_goto (tgt := 18) C dL_restore_9 (by decide) ?_
    refine v_iconst (v := 0) C dL_restore_18 (by decide) ?_
    exact v_wret C rfl (Nat.le_of_ble_eq_true rfl) (Nat.le_of_ble_eq_true rfl) dL_restore_19
