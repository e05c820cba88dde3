theorem ml_X0_34 : Cond.methodLink RX0 34 yX0_kept ∈ bsG := bsG_in 1098 (by decide +kernel) rfl
theorem ml_X1_29 : Cond.methodLink RX1 29 yX1_set ∈ bsG := bsG_in 1156 (by decide +kernel) rfl
theorem ml_X2_22 : Cond.methodLink RX2 22 yX1_copyFrom ∈ bsG := bsG_in 908 (by decide +kernel) rfl
theorem ml_X2_32 : Cond.methodLink RX2 32 yX2_isOn ∈ bsG := bsG_in 1196 (by decide +kernel) rfl
theorem ml_X2_36 : Cond.methodLink RX2 36 yX1_remove ∈ bsG := bsG_in 1152 (by decide +kernel) rfl
theorem ml_X3_45 : Cond.methodLink RX3 45 yX5_copyFrom ∈ bsG := bsG_in 892 (by decide +kernel) rfl
theorem ml_X3_49 : Cond.methodLink RX3 49 yX2_copyFrom ∈ bsG := bsG_in 904 (by decide +kernel) rfl
theorem ml_X3_52 : Cond.methodLink RX3 52 yX0_copyFrom ∈ bsG := bsG_in 909 (by decide +kernel) rfl
theorem ml_X3_55 : Cond.methodLink RX3 55 yX6_copyFrom ∈ bsG := bsG_in 913 (by decide +kernel) rfl
theorem ml_X3_83 : Cond.methodLink RX3 83 yX3_isRunning ∈ bsG := bsG_in 1039 (by decide +kernel) rfl
theorem ml_X3_96 : Cond.methodLink RX3 96 yX5_isBootableFrom ∈ bsG := bsG_in 1051 (by decide +kernel) rfl
theorem ml_X3_115 : Cond.methodLink RX3 115 yX3_isBootable ∈ bsG := bsG_in 1047 (by decide +kernel) rfl
theorem ml_X3_119 : Cond.methodLink RX3 119 yX5_isAheadOf ∈ bsG := bsG_in 1120 (by decide +kernel) rfl
theorem ml_X3_131 : Cond.methodLink RX3 131 yX3_firstBut ∈ bsG := bsG_in 1116 (by decide +kernel) rfl
theorem ml_X3_135 : Cond.methodLink RX3 135 yX3_tryToRun ∈ bsG := bsG_in 1124 (by decide +kernel) rfl
theorem ml_X3_138 : Cond.methodLink RX3 138 yX0_add ∈ bsG := bsG_in 1132 (by decide +kernel) rfl
theorem ml_X3_149 : Cond.methodLink RX3 149 yX5_giveUp ∈ bsG := bsG_in 1128 (by decide +kernel) rfl
theorem ml_X3_158 : Cond.methodLink RX3 158 yX2_stop ∈ bsG := bsG_in 1148 (by decide +kernel) rfl
theorem ml_X3_161 : Cond.methodLink RX3 161 yX3_isInRescue ∈ bsG := bsG_in 1169 (by decide +kernel) rfl
theorem ml_X3_167 : Cond.methodLink RX3 167 yX3_growOlder ∈ bsG := bsG_in 1173 (by decide +kernel) rfl
theorem ml_X3_171 : Cond.methodLink RX3 171 yX3_bootBy ∈ bsG := bsG_in 1191 (by decide +kernel) rfl
theorem ml_X3_174 : Cond.methodLink RX3 174 yX2_goOn ∈ bsG := bsG_in 1192 (by decide +kernel) rfl
theorem ml_X3_177 : Cond.methodLink RX3 177 yX3_takeInstall ∈ bsG := bsG_in 1197 (by decide +kernel) rfl
theorem ml_X3_186 : Cond.methodLink RX3 186 yX3_crash ∈ bsG := bsG_in 1177 (by decide +kernel) rfl
theorem ml_X3_191 : Cond.methodLink RX3 191 yX3_succeed ∈ bsG := bsG_in 1181 (by decide +kernel) rfl
theorem ml_X3_207 : Cond.methodLink RX3 207 yX3_floorByGoodAnd ∈ bsG := bsG_in 1185 (by decide +kernel) rfl
theorem ml_X3_213 : Cond.methodLink RX3 213 yX3_makeRoomAbove ∈ bsG := bsG_in 1201 (by decide +kernel) rfl
theorem ml_X3_217 : Cond.methodLink RX3 217 yX1_copyFrom ∈ bsG := bsG_in 1209 (by decide +kernel) rfl
theorem ml_X3_220 : Cond.methodLink RX3 220 yX3_greatestPriorityBut ∈ bsG := bsG_in 1205 (by decide +kernel) rfl
theorem ml_X3_224 : Cond.methodLink RX3 224 yX5_setMark ∈ bsG := bsG_in 1210 (by decide +kernel) rfl
theorem ml_X3_228 : Cond.methodLink RX3 228 yX2_isOn ∈ bsG := bsG_in 1273 (by decide +kernel) rfl
theorem ml_X3_231 : Cond.methodLink RX3 231 yX3_isSettled ∈ bsG := bsG_in 1269 (by decide +kernel) rfl
theorem ml_X3_234 : Cond.methodLink RX3 234 yX3_passTick ∈ bsG := bsG_in 1274 (by decide +kernel) rfl
theorem ml_X5_20 : Cond.methodLink RX5 20 yX1_copyFrom ∈ bsG := bsG_in 896 (by decide +kernel) rfl
theorem ml_X5_34 : Cond.methodLink RX5 34 yX5_setMark ∈ bsG := bsG_in 900 (by decide +kernel) rfl
theorem ml_X5_50 : Cond.methodLink RX5 50 yX1_remove ∈ bsG := bsG_in 1219 (by decide +kernel) rfl
theorem dpX0_add : (parseMethodDescriptor yX0_add.desc).map (fun d => d.parameters.length) = some 4 := by decide +kernel
theorem wyX0_add : bsWy yX0_add cX0_add 6 none := ⟨bsG_in 1133 (by decide +kernel) rfl, bsG_in 1134 (by decide +kernel) rfl, bsG_in 57 (by decide +kernel) rfl, bsG_in 1135 (by decide +kernel) rfl, by decide +kernel, by decide +kernel⟩
theorem dpX0_copyFrom : (parseMethodDescriptor yX0_copyFrom.desc).map (fun d => d.parameters.length) = some 1 := by decide +kernel
theorem wyX0_copyFrom : bsWy yX0_copyFrom cX0_copyFrom 3 none := ⟨bsG_in 910 (by decide +kernel) rfl, bsG_in 911 (by decide +kernel) rfl, bsG_in 57 (by decide +kernel) rfl, bsG_in 912 (by decide +kernel) rfl, by decide +kernel, by decide +kernel⟩
theorem dpX0_kept : (parseMethodDescriptor yX0_kept.desc).map (fun d => d.parameters.length) = some 0 := by decide +kernel
theorem wyX0_kept : bsWy yX0_kept cX0_kept 1 (some .int) := ⟨bsG_in 1099 (by decide +kernel) rfl, bsG_in 1100 (by decide +kernel) rfl, bsG_in 57 (by decide +kernel) rfl, bsG_in 1101 (by decide +kernel) rfl, by decide +kernel, by decide +kernel⟩
theorem dpX1_copyFrom : (parseMethodDescriptor yX1_copyFrom.desc).map (fun d => d.parameters.length) = some 1 := by decide +kernel
theorem wyX1_copyFrom : bsWy yX1_copyFrom cX1_copyFrom 2 none := ⟨bsG_in 897 (by decide +kernel) rfl, bsG_in 898 (by decide +kernel) rfl, bsG_in 56 (by decide +kernel) rfl, bsG_in 899 (by decide +kernel) rfl, by decide +kernel, by decide +kernel⟩
theorem dpX1_remove : (parseMethodDescriptor yX1_remove.desc).map (fun d => d.parameters.length) = some 0 := by decide +kernel
theorem wyX1_remove : bsWy yX1_remove cX1_remove 1 none := ⟨bsG_in 1153 (by decide +kernel) rfl, bsG_in 1154 (by decide +kernel) rfl, bsG_in 56 (by decide +kernel) rfl, bsG_in 1155 (by decide +kernel) rfl, by decide +kernel, by decide +kernel⟩
theorem dpX1_set : (parseMethodDescriptor yX1_set.desc).map (fun d => d.parameters.length) = some 3 := by decide +kernel
theorem wyX1_set : bsWy yX1_set cX1_set 4 none := ⟨bsG_in 966 (by decide +kernel) rfl, bsG_in 967 (by decide +kernel) rfl, bsG_in 56 (by decide +kernel) rfl, bsG_in 968 (by decide +kernel) rfl, by decide +kernel, by decide +kernel⟩
theorem dpX2_copyFrom : (parseMethodDescriptor yX2_copyFrom.desc).map (fun d => d.parameters.length) = some 1 := by decide +kernel
theorem wyX2_copyFrom : bsWy yX2_copyFrom cX2_copyFrom 2 none := ⟨bsG_in 905 (by decide +kernel) rfl, bsG_in 906 (by decide +kernel) rfl, bsG_in 55 (by decide +kernel) rfl, bsG_in 907 (by decide +kernel) rfl, by decide +kernel, by decide +kernel⟩
theorem dpX2_goOn : (parseMethodDescriptor yX2_goOn.desc).map (fun d => d.parameters.length) = some 0 := by decide +kernel
theorem wyX2_goOn : bsWy yX2_goOn cX2_goOn 1 (some .boolean) := ⟨bsG_in 1193 (by decide +kernel) rfl, bsG_in 1194 (by decide +kernel) rfl, bsG_in 55 (by decide +kernel) rfl, bsG_in 1195 (by decide +kernel) rfl, by decide +kernel, by decide +kernel⟩
theorem dpX2_isOn : (parseMethodDescriptor yX2_isOn.desc).map (fun d => d.parameters.length) = some 0 := by decide +kernel
theorem wyX2_isOn : bsWy yX2_isOn cX2_isOn 1 (some .boolean) := ⟨bsG_in 1087 (by decide +kernel) rfl, bsG_in 1088 (by decide +kernel) rfl, bsG_in 55 (by decide +kernel) rfl, bsG_in 1089 (by decide +kernel) rfl, by decide +kernel, by decide +kernel⟩
theorem dpX2_stop : (parseMethodDescriptor yX2_stop.desc).map (fun d => d.parameters.length) = some 0 := by decide +kernel
theorem wyX2_stop : bsWy yX2_stop cX2_stop 1 none := ⟨bsG_in 1149 (by decide +kernel) rfl, bsG_in 1150 (by decide +kernel) rfl, bsG_in 55 (by decide +kernel) rfl, bsG_in 1151 (by decide +kernel) rfl, by decide +kernel, by decide +kernel⟩
theorem dpX3_bootBy : (parseMethodDescriptor yX3_bootBy.desc).map (fun d => d.parameters.length) = some 1 := by decide +kernel
theorem wyX3_bootBy : bsWy yX3_bootBy cX3_bootBy 5 (some .int) := ⟨bsG_in 1113 (by decide +kernel) rfl, bsG_in 1114 (by decide +kernel) rfl, bsG_in 54 (by decide +kernel) rfl, bsG_in 1115 (by decide +kernel) rfl, by decide +kernel, by decide +kernel⟩
theorem dpX3_crash : (parseMethodDescriptor yX3_crash.desc).map (fun d => d.parameters.length) = some 1 := by decide +kernel
theorem wyX3_crash : bsWy yX3_crash cX3_crash 2 none := ⟨bsG_in 1179 (by decide +kernel) rfl, bsG_in 20 (by decide +kernel) rfl, bsG_in 54 (by decide +kernel) rfl, bsG_in 1180 (by decide +kernel) rfl, by decide +kernel, by decide +kernel⟩
theorem dpX3_firstBut : (parseMethodDescriptor yX3_firstBut.desc).map (fun d => d.parameters.length) = some 1 := by decide +kernel
theorem wyX3_firstBut : bsWy yX3_firstBut cX3_firstBut 5 (some .int) := ⟨bsG_in 1117 (by decide +kernel) rfl, bsG_in 1118 (by decide +kernel) rfl, bsG_in 54 (by decide +kernel) rfl, bsG_in 1119 (by decide +kernel) rfl, by decide +kernel, by decide +kernel⟩
theorem dpX3_floorByGoodAnd : (parseMethodDescriptor yX3_floorByGoodAnd.desc).map (fun d => d.parameters.length) = some 1 := by decide +kernel
theorem wyX3_floorByGoodAnd : bsWy yX3_floorByGoodAnd cX3_floorByGoodAnd 5 (some .int) := ⟨bsG_in 1186 (by decide +kernel) rfl, bsG_in 1187 (by decide +kernel) rfl, bsG_in 54 (by decide +kernel) rfl, bsG_in 1188 (by decide +kernel) rfl, by decide +kernel, by decide +kernel⟩
theorem dpX3_greatestPriorityBut : (parseMethodDescriptor yX3_greatestPriorityBut.desc).map (fun d => d.parameters.length) = some 1 := by decide +kernel
theorem wyX3_greatestPriorityBut : bsWy yX3_greatestPriorityBut cX3_greatestPriorityBut 4 (some .int) := ⟨bsG_in 1207 (by decide +kernel) rfl, bsG_in 23 (by decide +kernel) rfl, bsG_in 54 (by decide +kernel) rfl, bsG_in 1208 (by decide +kernel) rfl, by decide +kernel, by decide +kernel⟩
theorem dpX3_growOlder : (parseMethodDescriptor yX3_growOlder.desc).map (fun d => d.parameters.length) = some 1 := by decide +kernel
theorem wyX3_growOlder : bsWy yX3_growOlder cX3_growOlder 2 (some .int) := ⟨bsG_in 1175 (by decide +kernel) rfl, bsG_in 19 (by decide +kernel) rfl, bsG_in 54 (by decide +kernel) rfl, bsG_in 1176 (by decide +kernel) rfl, by decide +kernel, by decide +kernel⟩
theorem dpX3_isBootable : (parseMethodDescriptor yX3_isBootable.desc).map (fun d => d.parameters.length) = some 1 := by decide +kernel
theorem wyX3_isBootable : bsWy yX3_isBootable cX3_isBootable 2 (some .boolean) := ⟨bsG_in 1048 (by decide +kernel) rfl, bsG_in 1049 (by decide +kernel) rfl, bsG_in 54 (by decide +kernel) rfl, bsG_in 1050 (by decide +kernel) rfl, by decide +kernel, by decide +kernel⟩
theorem dpX3_isInRescue : (parseMethodDescriptor yX3_isInRescue.desc).map (fun d => d.parameters.length) = some 0 := by decide +kernel
theorem wyX3_isInRescue : bsWy yX3_isInRescue cX3_isInRescue 1 (some .boolean) := ⟨bsG_in 1170 (by decide +kernel) rfl, bsG_in 1171 (by decide +kernel) rfl, bsG_in 54 (by decide +kernel) rfl, bsG_in 1172 (by decide +kernel) rfl, by decide +kernel, by decide +kernel⟩
theorem dpX3_isRunning : (parseMethodDescriptor yX3_isRunning.desc).map (fun d => d.parameters.length) = some 0 := by decide +kernel
theorem wyX3_isRunning : bsWy yX3_isRunning cX3_isRunning 1 (some .boolean) := ⟨bsG_in 1040 (by decide +kernel) rfl, bsG_in 1041 (by decide +kernel) rfl, bsG_in 54 (by decide +kernel) rfl, bsG_in 1042 (by decide +kernel) rfl, by decide +kernel, by decide +kernel⟩
theorem dpX3_isSettled : (parseMethodDescriptor yX3_isSettled.desc).map (fun d => d.parameters.length) = some 0 := by decide +kernel
theorem wyX3_isSettled : bsWy yX3_isSettled cX3_isSettled 2 (some .boolean) := ⟨bsG_in 1270 (by decide +kernel) rfl, bsG_in 1271 (by decide +kernel) rfl, bsG_in 54 (by decide +kernel) rfl, bsG_in 1272 (by decide +kernel) rfl, by decide +kernel, by decide +kernel⟩
theorem dpX3_makeRoomAbove : (parseMethodDescriptor yX3_makeRoomAbove.desc).map (fun d => d.parameters.length) = some 1 := by decide +kernel
theorem wyX3_makeRoomAbove : bsWy yX3_makeRoomAbove cX3_makeRoomAbove 3 none := ⟨bsG_in 1203 (by decide +kernel) rfl, bsG_in 22 (by decide +kernel) rfl, bsG_in 54 (by decide +kernel) rfl, bsG_in 1204 (by decide +kernel) rfl, by decide +kernel, by decide +kernel⟩
theorem dpX3_passTick : (parseMethodDescriptor yX3_passTick.desc).map (fun d => d.parameters.length) = some 0 := by decide +kernel
theorem wyX3_passTick : bsWy yX3_passTick cX3_passTick 2 none := ⟨bsG_in 1166 (by decide +kernel) rfl, bsG_in 1167 (by decide +kernel) rfl, bsG_in 54 (by decide +kernel) rfl, bsG_in 1168 (by decide +kernel) rfl, by decide +kernel, by decide +kernel⟩
theorem dpX3_succeed : (parseMethodDescriptor yX3_succeed.desc).map (fun d => d.parameters.length) = some 1 := by decide +kernel
theorem wyX3_succeed : bsWy yX3_succeed cX3_succeed 2 none := ⟨bsG_in 1183 (by decide +kernel) rfl, bsG_in 21 (by decide +kernel) rfl, bsG_in 54 (by decide +kernel) rfl, bsG_in 1184 (by decide +kernel) rfl, by decide +kernel, by decide +kernel⟩
theorem dpX3_takeInstall : (parseMethodDescriptor yX3_takeInstall.desc).map (fun d => d.parameters.length) = some 0 := by decide +kernel
theorem wyX3_takeInstall : bsWy yX3_takeInstall cX3_takeInstall 2 none := ⟨bsG_in 1198 (by decide +kernel) rfl, bsG_in 1199 (by decide +kernel) rfl, bsG_in 54 (by decide +kernel) rfl, bsG_in 1200 (by decide +kernel) rfl, by decide +kernel, by decide +kernel⟩
theorem dpX3_tryToRun : (parseMethodDescriptor yX3_tryToRun.desc).map (fun d => d.parameters.length) = some 1 := by decide +kernel
theorem wyX3_tryToRun : bsWy yX3_tryToRun cX3_tryToRun 2 (some .boolean) := ⟨bsG_in 1126 (by decide +kernel) rfl, bsG_in 17 (by decide +kernel) rfl, bsG_in 54 (by decide +kernel) rfl, bsG_in 1127 (by decide +kernel) rfl, by decide +kernel, by decide +kernel⟩
theorem dpX5_copyFrom : (parseMethodDescriptor yX5_copyFrom.desc).map (fun d => d.parameters.length) = some 1 := by decide +kernel
theorem wyX5_copyFrom : bsWy yX5_copyFrom cX5_copyFrom 2 none := ⟨bsG_in 893 (by decide +kernel) rfl, bsG_in 894 (by decide +kernel) rfl, bsG_in 59 (by decide +kernel) rfl, bsG_in 895 (by decide +kernel) rfl, by decide +kernel, by decide +kernel⟩
theorem dpX5_giveUp : (parseMethodDescriptor yX5_giveUp.desc).map (fun d => d.parameters.length) = some 0 := by decide +kernel
theorem wyX5_giveUp : bsWy yX5_giveUp cX5_giveUp 1 none := ⟨bsG_in 1129 (by decide +kernel) rfl, bsG_in 1130 (by decide +kernel) rfl, bsG_in 59 (by decide +kernel) rfl, bsG_in 1131 (by decide +kernel) rfl, by decide +kernel, by decide +kernel⟩
theorem dpX5_isAheadOf : (parseMethodDescriptor yX5_isAheadOf.desc).map (fun d => d.parameters.length) = some 1 := by decide +kernel
theorem wyX5_isAheadOf : bsWy yX5_isAheadOf cX5_isAheadOf 2 (some .boolean) := ⟨bsG_in 1121 (by decide +kernel) rfl, bsG_in 1122 (by decide +kernel) rfl, bsG_in 59 (by decide +kernel) rfl, bsG_in 1123 (by decide +kernel) rfl, by decide +kernel, by decide +kernel⟩
theorem dpX5_isBootableFrom : (parseMethodDescriptor yX5_isBootableFrom.desc).map (fun d => d.parameters.length) = some 1 := by decide +kernel
theorem wyX5_isBootableFrom : bsWy yX5_isBootableFrom cX5_isBootableFrom 3 (some .boolean) := ⟨bsG_in 1052 (by decide +kernel) rfl, bsG_in 1053 (by decide +kernel) rfl, bsG_in 59 (by decide +kernel) rfl, bsG_in 1054 (by decide +kernel) rfl, by decide +kernel, by decide +kernel⟩
theorem dpX5_setMark : (parseMethodDescriptor yX5_setMark.desc).map (fun d => d.parameters.length) = some 3 := by decide +kernel
theorem wyX5_setMark : bsWy yX5_setMark cX5_setMark 4 none := ⟨bsG_in 901 (by decide +kernel) rfl, bsG_in 902 (by decide +kernel) rfl, bsG_in 59 (by decide +kernel) rfl, bsG_in 903 (by decide +kernel) rfl, by decide +kernel, by decide +kernel⟩
theorem dpX6_copyFrom : (parseMethodDescriptor yX6_copyFrom.desc).map (fun d => d.parameters.length) = some 1 := by decide +kernel
theorem wyX6_copyFrom : bsWy yX6_copyFrom cX6_copyFrom 2 none := ⟨bsG_in 914 (by decide +kernel) rfl, bsG_in 915 (by decide +kernel) rfl, bsG_in 58 (by decide +kernel) rfl, bsG_in 916 (by decide +kernel) rfl, by decide +kernel, by decide +kernel⟩
theorem mm_X0_28 : Cond.methodLink RX0 28 Lib.Math.min.name ∈ bsG := bsG_in 1102 (by decide +kernel) rfl
theorem mm_X3_122 : Cond.methodLink RX3 122 Lib.Math.min.name ∈ bsG := bsG_in 1189 (by decide +kernel) rfl
theorem mm_X3_128 : Cond.methodLink RX3 128 Lib.Math.max.name ∈ bsG := bsG_in 1190 (by decide +kernel) rfl
/-! BootSlots$BootLog.copyFrom(LBootSlots$BootLog;)V -/
def fX0_copyFrom_2 (g g2 : Nat) : Nat → Int32 → bsX → Option bsX
  | 0, _, _ => none
  | n + 1, x2, X => if (12 : Int32) ≤ x2 then (some (bsWr X g 3 0 4 (X g2 3 0 4))) else (if bsIn x2 12 then (fX0_copyFrom_2 g g2 n (x2 + (1 : Int32)) (bsWr (bsWr (bsWr (bsWr X g 7 0 (bsIx x2) (X g2 7 0 (bsIx x2))) g 8 0 (bsIx x2) ((bsWr X g 7 0 (bsIx x2) (X g2 7 0 (bsIx x2))) g2 8 0 (bsIx x2))) g 9 0 (bsIx x2) ((bsWr (bsWr X g 7 0 (bsIx x2) (X g2 7 0 (bsIx x2))) g 8 0 (bsIx x2) ((bsWr X g 7 0 (bsIx x2) (X g2 7 0 (bsIx x2))) g2 8 0 (bsIx x2))) g2 9 0 (bsIx x2))) g 10 0 (bsIx x2) ((bsWr (bsWr (bsWr X g 7 0 (bsIx x2) (X g2 7 0 (bsIx x2))) g 8 0 (bsIx x2) ((bsWr X g 7 0 (bsIx x2) (X g2 7 0 (bsIx x2))) g2 8 0 (bsIx x2))) g 9 0 (bsIx x2) ((bsWr (bsWr X g 7 0 (bsIx x2) (X g2 7 0 (bsIx x2))) g 8 0 (bsIx x2) ((bsWr X g 7 0 (bsIx x2) (X g2 7 0 (bsIx x2))) g2 8 0 (bsIx x2))) g2 9 0 (bsIx x2))) g2 10 0 (bsIx x2)))) else none)
def fX0_copyFrom (g g2 : Nat) (X : bsX) : Option bsX := fX0_copyFrom_2 g g2  bsF (0 : Int32) X
abbrev rmX0_copyFrom : Room := { frames := 0, cells := 0, slots := 0, locals := 0 }
set_option maxHeartbeats 4000000 in
set_option maxRecDepth 100000 in
theorem wX0_copyFrom_2 {p : Program} {l : Launch} {e : Env} {s : State} {m : MethodId} {args : Array Value} {below : List Frame} {meth : Method} {c : Code} {ρ : bsR} {cA : Nat → ClassId} {dC : Nat → ClassId} {dI : Nat → Nat → Nat} {Rz : va_W} {Ts : List Cond} {g g2 : Nat} (hg : g < 13) (hg2 : g2 < 13)  {z : bsX} (C : bsCx p m c cX0_copyFrom 3 s args Ts RX0 ρ cA dC dI Rz meth none) : ∀ (n : Nat) (x2 : Int32) (X : bsX), fX0_copyFrom_2 g g2 n x2 X = some z → bsV p l e rmX0_copyFrom s m args below meth c 0 0 (MQ below (bsQv ρ cA dC dI Rz z s.heap.size) args s 0 0 (bsA ρ cA Rz s.heap.size)) ρ cA dC dI Rz 3 2 [(0, .ref (ρ g 3 0)), (1, .ref (ρ g2 3 0)), (2, .int x2)] [] X := by
  intro n
  induction n with
  | zero => intro x2 X hf; exact (nomatch hf)
  | succ n ih =>
    intro x2 X hf
    rw [fX0_copyFrom_2] at hf
    refine v_iload_n C dX0_copyFrom_2 rfl rfl ?_
    refine v_bipush (v := 12) C dX0_copyFrom_3 (by decide) ?_
    refine v_icmp_ge (tgt := 62) C dX0_copyFrom_5 (by decide) (fun h9 => ?_) (fun h9 => ?_)
    · replace hf := bs_pos h9 hf
      refine v_aload_n C dX0_copyFrom_62 rfl rfl ?_
      refine v_aload_n C dX0_copyFrom_63 rfl rfl ?_
      refine gf_X0_24 C hg2 dX0_copyFrom_64 ?_
      refine pf_X0_24 C hg dX0_copyFrom_67 ?_
      exact v_vret C hf dX0_copyFrom_70
    · replace hf := bs_neg h9 hf
      refine v_aload_n C dX0_copyFrom_8 rfl rfl ?_
      refine gf_X0_9 C hg dX0_copyFrom_9 ?_
      refine v_iload_n C dX0_copyFrom_12 rfl rfl ?_
      refine v_aload_n C dX0_copyFrom_13 rfl rfl ?_
      refine gf_X0_9 C hg2 dX0_copyFrom_14 ?_
      refine v_iload_n C dX0_copyFrom_17 rfl rfl ?_
      obtain ⟨hi1, hf⟩ := bs_if hf
      refine v_iald (n := 12) C (bsm_K7 hg2) (bsc_K7 hg2) hi1 dX0_copyFrom_18 ?_
      refine v_iast (n := 12) C (bsm_K7 hg) (fun _ => (bsc_K7 hg)) hi1 dX0_copyFrom_19 ?_
      refine v_aload_n C dX0_copyFrom_20 rfl rfl ?_
      refine gf_X0_15 C hg dX0_copyFrom_21 ?_
      refine v_iload_n C dX0_copyFrom_24 rfl rfl ?_
      refine v_aload_n C dX0_copyFrom_25 rfl rfl ?_
      refine gf_X0_15 C hg2 dX0_copyFrom_26 ?_
      refine v_iload_n C dX0_copyFrom_29 rfl rfl ?_
      refine v_iald (n := 12) C (bsm_K8 hg2) (bsc_K8 hg2) hi1 dX0_copyFrom_30 ?_
      refine v_iast (n := 12) C (bsm_K8 hg) (fun _ => (bsc_K8 hg)) hi1 dX0_copyFrom_31 ?_
      refine v_aload_n C dX0_copyFrom_32 rfl rfl ?_
      refine gf_X0_18 C hg dX0_copyFrom_33 ?_
      refine v_iload_n C dX0_copyFrom_36 rfl rfl ?_
      refine v_aload_n C dX0_copyFrom_37 rfl rfl ?_
      refine gf_X0_18 C hg2 dX0_copyFrom_38 ?_
      refine v_iload_n C dX0_copyFrom_41 rfl rfl ?_
      refine v_iald (n := 12) C (bsm_K9 hg2) (bsc_K9 hg2) hi1 dX0_copyFrom_42 ?_
      refine v_iast (n := 12) C (bsm_K9 hg) (fun _ => (bsc_K9 hg)) hi1 dX0_copyFrom_43 ?_
      refine v_aload_n C dX0_copyFrom_44 rfl rfl ?_
      refine gf_X0_21 C hg dX0_copyFrom_45 ?_
      refine v_iload_n C dX0_copyFrom_48 rfl rfl ?_
      refine v_aload_n C dX0_copyFrom_49 rfl rfl ?_
      refine gf_X0_21 C hg2 dX0_copyFrom_50 ?_
      refine v_iload_n C dX0_copyFrom_53 rfl rfl ?_
      refine v_iald (n := 12) C (bsm_K10 hg2) (bsc_K10 hg2) hi1 dX0_copyFrom_54 ?_
      refine v_iast (n := 12) C (bsm_K10 hg) (fun _ => (bsc_K10 hg)) hi1 dX0_copyFrom_55 ?_
      refine v_iinc (k0 := 2) (v := (x2 + (1 : Int32))) (lv' := [(2, .int (x2 + (1 : Int32))), (0, .ref (ρ g 3 0)), (1, .ref (ρ g2 3 0))]) C dX0_copyFrom_56 rfl rfl (by decide) rfl ?_
      refine v_goto (tgt := 2) C dX0_copyFrom_59 (by decide) ?_
      refine v_sub [1, 2, 0] rfl ?_
      exact ih _ _  hf
set_option maxHeartbeats 4000000 in
set_option maxRecDepth 100000 in
theorem cX0_copyFrom_ok {l : Launch} {ρ : bsR} {cA : Nat → ClassId} {dC : Nat → ClassId} {dI : Nat → Nat → Nat} {Rz : va_W} {g g2 : Nat} (hg : g < 13) (hg2 : g2 < 13) {X : bsX} {z : bsX} (hf : fX0_copyFrom g g2 X = some z) : bsMv l yX0_copyFrom cX0_copyFrom 3 none rmX0_copyFrom ρ cA dC dI Rz [.ref (ρ g 3 0), .ref (ρ g2 3 0)] X z := by
  refine bsMv_of (by decide) (Nat.le_of_ble_eq_true rfl) (fun p e s m args below meth c C => ?_)
  have C : bsCx p m c cX0_copyFrom 3 s args (Cond.code yX0_copyFrom cX0_copyFrom 3 none :: bsG) RX0 ρ cA dC dI Rz meth none := C
  rw [fX0_copyFrom] at hf
  refine v_sub [0, 1] rfl ?_
  refine v_iconst (v := 0) C dX0_copyFrom_0 (by decide) ?_
  refine v_istore_n (lv' := [(2, .int (0 : Int32)), (0, .ref (ρ g 3 0)), (1, .ref (ρ g2 3 0))]) C dX0_copyFrom_1 rfl (by decide) rfl ?_
  refine v_sub [1, 2, 0] rfl ?_
  exact wX0_copyFrom_2 hg hg2  C  bsF _ _  hf
/-! BootSlots$BootLog.add(IIII)V -/
def fX0_add_54 (g : Nat) (X : bsX) : Option bsX := some (bsWr X g 3 0 4 ((X g 3 0 4) + (1 : Int32)))
def fX0_add (g : Nat) (a1 : Int32) (a2 : Int32) (a3 : Int32) (a4 : Int32) (X : bsX) : Option bsX := if ((X g 3 0 4) - (X g 3 0 4) / (12 : Int32) * (12 : Int32)) < 0 then (fX0_add_54 g   X) else (if (12 : Int32) ≤ ((X g 3 0 4) - (X g 3 0 4) / (12 : Int32) * (12 : Int32)) then (fX0_add_54 g   X) else (if bsIn ((X g 3 0 4) - (X g 3 0 4) / (12 : Int32) * (12 : Int32)) 12 then (fX0_add_54 g   (bsWr (bsWr (bsWr (bsWr X g 7 0 (bsIx ((X g 3 0 4) - (X g 3 0 4) / (12 : Int32) * (12 : Int32))) a1) g 8 0 (bsIx ((X g 3 0 4) - (X g 3 0 4) / (12 : Int32) * (12 : Int32))) a2) g 9 0 (bsIx ((X g 3 0 4) - (X g 3 0 4) / (12 : Int32) * (12 : Int32))) a3) g 10 0 (bsIx ((X g 3 0 4) - (X g 3 0 4) / (12 : Int32) * (12 : Int32))) a4)) else none))
abbrev rmX0_add : Room := { frames := 0, cells := 0, slots := 0, locals := 0 }
set_option maxHeartbeats 4000000 in
set_option maxRecDepth 100000 in
theorem wX0_add_54 {p : Program} {l : Launch} {e : Env} {s : State} {m : MethodId} {args : Array Value} {below : List Frame} {meth : Method} {c : Code} {ρ : bsR} {cA : Nat → ClassId} {dC : Nat → ClassId} {dI : Nat → Nat → Nat} {Rz : va_W} {Ts : List Cond} {g : Nat} (hg : g < 13)  {z : bsX} (C : bsCx p m c cX0_add 6 s args Ts RX0 ρ cA dC dI Rz meth none) (X : bsX) (hf : fX0_add_54 g X = some z) : bsV p l e rmX0_add s m args below meth c 0 0 (MQ below (bsQv ρ cA dC dI Rz z s.heap.size) args s 0 0 (bsA ρ cA Rz s.heap.size)) ρ cA dC dI Rz 6 54 [(0, .ref (ρ g 3 0))] [] X := by
  rw [fX0_add_54] at hf
  refine v_aload_n C dX0_add_54 rfl rfl ?_
  refine v_dup C dX0_add_55 rfl ?_
  refine gf_X0_24 C hg dX0_add_56 ?_
  refine v_iconst (v := 1) C dX0_add_59 (by decide) ?_
  refine v_iadd C dX0_add_60 ?_
  refine pf_X0_24 C hg dX0_add_61 ?_
  exact v_vret C hf dX0_add_64
set_option maxHeartbeats 4000000 in
set_option maxRecDepth 100000 in
theorem cX0_add_ok {l : Launch} {ρ : bsR} {cA : Nat → ClassId} {dC : Nat → ClassId} {dI : Nat → Nat → Nat} {Rz : va_W} {g : Nat} (hg : g < 13) {a1 : Int32} {a2 : Int32} {a3 : Int32} {a4 : Int32} {X : bsX} {z : bsX} (hf : fX0_add g a1 a2 a3 a4 X = some z) : bsMv l yX0_add cX0_add 6 none rmX0_add ρ cA dC dI Rz [.ref (ρ g 3 0), .int a1, .int a2, .int a3, .int a4] X z := by
  refine bsMv_of (by decide) (Nat.le_of_ble_eq_true rfl) (fun p e s m args below meth c C => ?_)
  have C : bsCx p m c cX0_add 6 s args (Cond.code yX0_add cX0_add 6 none :: bsG) RX0 ρ cA dC dI Rz meth none := C
  rw [fX0_add] at hf
  refine v_sub [0, 1, 2, 3, 4] rfl ?_
  refine v_aload_n C dX0_add_0 rfl rfl ?_
  refine gf_X0_24 C hg dX0_add_1 ?_
  refine v_bipush (v := 12) C dX0_add_4 (by decide) ?_
  refine v_irem C dX0_add_6 (by decide) ?_
  refine v_istore (lv' := [(5, .int ((X g 3 0 4) - (X g 3 0 4) / (12 : Int32) * (12 : Int32))), (0, .ref (ρ g 3 0)), (1, .int a1), (2, .int a2), (3, .int a3), (4, .int a4)]) C dX0_add_7 (by decide) rfl ?_
  refine v_iload C dX0_add_9 rfl ?_
  refine v_if_lt (tgt := 54) C dX0_add_11 (by decide) (fun h6 => ?_) (fun h6 => ?_)
  · replace hf := bs_pos h6 hf
    refine v_sub [1] rfl ?_
    exact wX0_add_54 hg  C  _  hf
  · replace hf := bs_neg h6 hf
    refine v_iload C dX0_add_14 rfl ?_
    refine v_bipush (v := 12) C dX0_add_16 (by decide) ?_
    refine v_icmp_ge (tgt := 54) C dX0_add_18 (by decide) (fun h5 => ?_) (fun h5 => ?_)
    · replace hf := bs_pos h5 hf
      refine v_sub [1] rfl ?_
      exact wX0_add_54 hg  C  _  hf
    · replace hf := bs_neg h5 hf
      refine v_aload_n C dX0_add_21 rfl rfl ?_
      refine gf_X0_9 C hg dX0_add_22 ?_
      refine v_iload C dX0_add_25 rfl ?_
      refine v_iload_n C dX0_add_27 rfl rfl ?_
      obtain ⟨hi1, hf⟩ := bs_if hf
      refine v_iast (n := 12) C (bsm_K7 hg) (fun _ => (bsc_K7 hg)) hi1 dX0_add_28 ?_
      refine v_aload_n C dX0_add_29 rfl rfl ?_
      refine gf_X0_15 C hg dX0_add_30 ?_
      refine v_iload C dX0_add_33 rfl ?_
      refine v_iload_n C dX0_add_35 rfl rfl ?_
      refine v_iast (n := 12) C (bsm_K8 hg) (fun _ => (bsc_K8 hg)) hi1 dX0_add_36 ?_
      refine v_aload_n C dX0_add_37 rfl rfl ?_
      refine gf_X0_18 C hg dX0_add_38 ?_
      refine v_iload C dX0_add_41 rfl ?_
      refine v_iload_n C dX0_add_43 rfl rfl ?_
      refine v_iast (n := 12) C (bsm_K9 hg) (fun _ => (bsc_K9 hg)) hi1 dX0_add_44 ?_
      refine v_aload_n C dX0_add_45 rfl rfl ?_
      refine gf_X0_21 C hg dX0_add_46 ?_
      refine v_iload C dX0_add_49 rfl ?_
      refine v_iload C dX0_add_51 rfl ?_
      refine v_iast (n := 12) C (bsm_K10 hg) (fun _ => (bsc_K10 hg)) hi1 dX0_add_53 ?_
      refine v_sub [1] rfl ?_
      exact wX0_add_54 hg  C  _  hf
/-! BootSlots$BootLog.kept()I -/
def fX0_kept (g : Nat) (X : bsX) : Option (Int32 × bsX) := some ((bsMin (X g 3 0 4) (12 : Int32)), X)
abbrev rmX0_kept : Room := { frames := 1, cells := 0, slots := 0, locals := 21 }
set_option maxHeartbeats 4000000 in
set_option maxRecDepth 100000 in
theorem cX0_kept_ok {l : Launch} {ρ : bsR} {cA : Nat → ClassId} {dC : Nat → ClassId} {dI : Nat → Nat → Nat} {Rz : va_W} {g : Nat} (hg : g < 13) {X : bsX} {z : (Int32 × bsX)} (hf : fX0_kept g X = some z) : bsMi l yX0_kept cX0_kept 1 (some .int) rmX0_kept ρ cA dC dI Rz [.ref (ρ g 3 0)] X z := by
  refine bsMi_of (by decide) (Nat.le_of_ble_eq_true rfl) (fun p e s m args below meth c C => ?_)
  have C : bsCx p m c cX0_kept 1 s args (Cond.code yX0_kept cX0_kept 1 (some .int) :: bsG) RX0 ρ cA dC dI Rz meth (some .int) := C
  rw [fX0_kept] at hf
  refine v_sub [0] rfl ?_
  refine v_aload_n C dX0_kept_0 rfl rfl ?_
  refine gf_X0_24 C hg dX0_kept_1 ?_
  refine v_bipush (v := 12) C dX0_kept_4 (by decide) ?_
  refine v_mmin C (Nat.le_of_ble_eq_true rfl) (Nat.le_of_ble_eq_true rfl) (Nat.le_of_ble_eq_true rfl) (Nat.le_of_ble_eq_true rfl) (mm_X0_28) dX0_kept_6 ?_
  exact v_iret C hf dX0_kept_9
/-! BootSlots$BootLog.rowOf(I)I -/
def fX0_rowOf (g : Nat) (a1 : Int32) (X : bsX) : Option (Int32 × bsX) := if a1 < 0 then (some ((-1 : Int32), X)) else ((fX0_kept g  X).bind fun r1 => if a1 < r1.1 then (some (((((r1.2 g 3 0 4) - (1 : Int32)) - a1) - (((r1.2 g 3 0 4) - (1 : Int32)) - a1) / (12 : Int32) * (12 : Int32)), r1.2)) else (some ((-1 : Int32), r1.2)))
abbrev rmX0_rowOf : Room := { frames := 2, cells := 0, slots := 0, locals := 41 }
set_option maxHeartbeats 4000000 in
set_option maxRecDepth 100000 in
theorem cX0_rowOf_ok {l : Launch} {ρ : bsR} {cA : Nat → ClassId} {dC : Nat → ClassId} {dI : Nat → Nat → Nat} {Rz : va_W} {g : Nat} (hg : g < 13) {a1 : Int32} {X : bsX} {z : (Int32 × bsX)} (hf : fX0_rowOf g a1 X = some z) : bsMi l yX0_rowOf cX0_rowOf 2 (some .int) rmX0_rowOf ρ cA dC dI Rz [.ref (ρ g 3 0), .int a1] X z := by
  refine bsMi_of (by decide) (Nat.le_of_ble_eq_true rfl) (fun p e s m args below meth c C => ?_)
  have C : bsCx p m c cX0_rowOf 2 s args (Cond.code yX0_rowOf cX0_rowOf 2 (some .int) :: bsG) RX0 ρ cA dC dI Rz meth (some .int) := C
  rw [fX0_rowOf] at hf
  refine v_sub [0, 1] rfl ?_
  refine v_iload_n C dX0_rowOf_0 rfl rfl ?_
  refine v_if_lt (tgt := 12) C dX0_rowOf_1 (by decide) (fun h4 => ?_) (fun h4 => ?_)
  · replace hf := bs_pos h4 hf
    refine v_iconst (v := -1) C dX0_rowOf_12 (by decide) ?_
    exact v_iret C hf dX0_rowOf_13
  · replace hf := bs_neg h4 hf
    refine v_iload_n C dX0_rowOf_4 rfl rfl ?_
    refine v_aload_n C dX0_rowOf_5 rfl rfl ?_
    obtain ⟨r1, hc2, hf⟩ := bs_bind hf
    refine v_callVi (y := yX0_kept) (As := []) (rest := [.int a1]) C (cX0_kept_ok hg hc2) ml_X0_34 wyX0_kept (bsm_X0 hg) (bsc_X0 hg) rfl dpX0_kept ⟨Nat.le_of_ble_eq_true rfl, Nat.le_of_ble_eq_true rfl⟩ ⟨rfl, rfl⟩ ⟨Nat.le_of_ble_eq_true rfl, Nat.le_of_ble_eq_true rfl⟩ rfl (Nat.le_of_ble_eq_true rfl) dX0_rowOf_6 ?_
    refine v_icmp_lt (tgt := 14) C dX0_rowOf_9 (by decide) (fun h3 => ?_) (fun h3 => ?_)
    · replace hf := bs_pos h3 hf
      refine v_aload_n C dX0_rowOf_14 rfl rfl ?_
      refine gf_X0_24 C hg dX0_rowOf_15 ?_
      refine v_iconst (v := 1) C dX0_rowOf_18 (by decide) ?_
      refine v_isub C dX0_rowOf_19 ?_
      refine v_iload_n C dX0_rowOf_20 rfl rfl ?_
      refine v_isub C dX0_rowOf_21 ?_
      refine v_bipush (v := 12) C dX0_rowOf_22 (by decide) ?_
      refine v_irem C dX0_rowOf_24 (by decide) ?_
      exact v_iret C hf dX0_rowOf_25
    · replace hf := bs_neg h3 hf
      refine v_iconst (v := -1) C dX0_rowOf_12 (by decide) ?_
      exact v_iret C hf dX0_rowOf_13
/-! BootSlots$Image.copyFrom(LBootSlots$Image;)V -/
def fX1_copyFrom (g j g2 j2 : Nat) (X : bsX) : Option bsX := if (X g2 6 j2 0) = 0 ∨ (X g2 6 j2 0) = 1 then (if ((bsWr (bsWr (bsWr (bsWr X g 6 j 0 (X g2 6 j2 0)) g 6 j 1 ((bsWr X g 6 j 0 (X g2 6 j2 0)) g2 6 j2 1)) g 6 j 2 ((bsWr (bsWr X g 6 j 0 (X g2 6 j2 0)) g 6 j 1 ((bsWr X g 6 j 0 (X g2 6 j2 0)) g2 6 j2 1)) g2 6 j2 2)) g 6 j 3 ((bsWr (bsWr (bsWr X g 6 j 0 (X g2 6 j2 0)) g 6 j 1 ((bsWr X g 6 j 0 (X g2 6 j2 0)) g2 6 j2 1)) g 6 j 2 ((bsWr (bsWr X g 6 j 0 (X g2 6 j2 0)) g 6 j 1 ((bsWr X g 6 j 0 (X g2 6 j2 0)) g2 6 j2 1)) g2 6 j2 2)) g2 6 j2 3)) g2 6 j2 4) = 0 ∨ ((bsWr (bsWr (bsWr (bsWr X g 6 j 0 (X g2 6 j2 0)) g 6 j 1 ((bsWr X g 6 j 0 (X g2 6 j2 0)) g2 6 j2 1)) g 6 j 2 ((bsWr (bsWr X g 6 j 0 (X g2 6 j2 0)) g 6 j 1 ((bsWr X g 6 j 0 (X g2 6 j2 0)) g2 6 j2 1)) g2 6 j2 2)) g 6 j 3 ((bsWr (bsWr (bsWr X g 6 j 0 (X g2 6 j2 0)) g 6 j 1 ((bsWr X g 6 j 0 (X g2 6 j2 0)) g2 6 j2 1)) g 6 j 2 ((bsWr (bsWr X g 6 j 0 (X g2 6 j2 0)) g 6 j 1 ((bsWr X g 6 j 0 (X g2 6 j2 0)) g2 6 j2 1)) g2 6 j2 2)) g2 6 j2 3)) g2 6 j2 4) = 1 then (if ((bsWr (bsWr (bsWr (bsWr (bsWr X g 6 j 0 (X g2 6 j2 0)) g 6 j 1 ((bsWr X g 6 j 0 (X g2 6 j2 0)) g2 6 j2 1)) g 6 j 2 ((bsWr (bsWr X g 6 j 0 (X g2 6 j2 0)) g 6 j 1 ((bsWr X g 6 j 0 (X g2 6 j2 0)) g2 6 j2 1)) g2 6 j2 2)) g 6 j 3 ((bsWr (bsWr (bsWr X g 6 j 0 (X g2 6 j2 0)) g 6 j 1 ((bsWr X g 6 j 0 (X g2 6 j2 0)) g2 6 j2 1)) g 6 j 2 ((bsWr (bsWr X g 6 j 0 (X g2 6 j2 0)) g 6 j 1 ((bsWr X g 6 j 0 (X g2 6 j2 0)) g2 6 j2 1)) g2 6 j2 2)) g2 6 j2 3)) g 6 j 4 ((bsWr (bsWr (bsWr (bsWr X g 6 j 0 (X g2 6 j2 0)) g 6 j 1 ((bsWr X g 6 j 0 (X g2 6 j2 0)) g2 6 j2 1)) g 6 j 2 ((bsWr (bsWr X g 6 j 0 (X g2 6 j2 0)) g 6 j 1 ((bsWr X g 6 j 0 (X g2 6 j2 0)) g2 6 j2 1)) g2 6 j2 2)) g 6 j 3 ((bsWr (bsWr (bsWr X g 6 j 0 (X g2 6 j2 0)) g 6 j 1 ((bsWr X g 6 j 0 (X g2 6 j2 0)) g2 6 j2 1)) g 6 j 2 ((bsWr (bsWr X g 6 j 0 (X g2 6 j2 0)) g 6 j 1 ((bsWr X g 6 j 0 (X g2 6 j2 0)) g2 6 j2 1)) g2 6 j2 2)) g2 6 j2 3)) g2 6 j2 4)) g2 6 j2 5) = 0 ∨ ((bsWr (bsWr (bsWr (bsWr (bsWr X g 6 j 0 (X g2 6 j2 0)) g 6 j 1 ((bsWr X g 6 j 0 (X g2 6 j2 0)) g2 6 j2 1)) g 6 j 2 ((bsWr (bsWr X g 6 j 0 (X g2 6 j2 0)) g 6 j 1 ((bsWr X g 6 j 0 (X g2 6 j2 0)) g2 6 j2 1)) g2 6 j2 2)) g 6 j 3 ((bsWr (bsWr (bsWr X g 6 j 0 (X g2 6 j2 0)) g 6 j 1 ((bsWr X g 6 j 0 (X g2 6 j2 0)) g2 6 j2 1)) g 6 j 2 ((bsWr (bsWr X g 6 j 0 (X g2 6 j2 0)) g 6 j 1 ((bsWr X g 6 j 0 (X g2 6 j2 0)) g2 6 j2 1)) g2 6 j2 2)) g2 6 j2 3)) g 6 j 4 ((bsWr (bsWr (bsWr (bsWr X g 6 j 0 (X g2 6 j2 0)) g 6 j 1 ((bsWr X g 6 j 0 (X g2 6 j2 0)) g2 6 j2 1)) g 6 j 2 ((bsWr (bsWr X g 6 j 0 (X g2 6 j2 0)) g 6 j 1 ((bsWr X g 6 j 0 (X g2 6 j2 0)) g2 6 j2 1)) g2 6 j2 2)) g 6 j 3 ((bsWr (bsWr (bsWr X g 6 j 0 (X g2 6 j2 0)) g 6 j 1 ((bsWr X g 6 j 0 (X g2 6 j2 0)) g2 6 j2 1)) g 6 j 2 ((bsWr (bsWr X g 6 j 0 (X g2 6 j2 0)) g 6 j 1 ((bsWr X g 6 j 0 (X g2 6 j2 0)) g2 6 j2 1)) g2 6 j2 2)) g2 6 j2 3)) g2 6 j2 4)) g2 6 j2 5) = 1 then (some (bsWr (bsWr (bsWr (bsWr (bsWr (bsWr X g 6 j 0 (X g2 6 j2 0)) g 6 j 1 ((bsWr X g 6 j 0 (X g2 6 j2 0)) g2 6 j2 1)) g 6 j 2 ((bsWr (bsWr X g 6 j 0 (X g2 6 j2 0)) g 6 j 1 ((bsWr X g 6 j 0 (X g2 6 j2 0)) g2 6 j2 1)) g2 6 j2 2)) g 6 j 3 ((bsWr (bsWr (bsWr X g 6 j 0 (X g2 6 j2 0)) g 6 j 1 ((bsWr X g 6 j 0 (X g2 6 j2 0)) g2 6 j2 1)) g 6 j 2 ((bsWr (bsWr X g 6 j 0 (X g2 6 j2 0)) g 6 j 1 ((bsWr X g 6 j 0 (X g2 6 j2 0)) g2 6 j2 1)) g2 6 j2 2)) g2 6 j2 3)) g 6 j 4 ((bsWr (bsWr (bsWr (bsWr X g 6 j 0 (X g2 6 j2 0)) g 6 j 1 ((bsWr X g 6 j 0 (X g2 6 j2 0)) g2 6 j2 1)) g 6 j 2 ((bsWr (bsWr X g 6 j 0 (X g2 6 j2 0)) g 6 j 1 ((bsWr X g 6 j 0 (X g2 6 j2 0)) g2 6 j2 1)) g2 6 j2 2)) g 6 j 3 ((bsWr (bsWr (bsWr X g 6 j 0 (X g2 6 j2 0)) g 6 j 1 ((bsWr X g 6 j 0 (X g2 6 j2 0)) g2 6 j2 1)) g 6 j 2 ((bsWr (bsWr X g 6 j 0 (X g2 6 j2 0)) g 6 j 1 ((bsWr X g 6 j 0 (X g2 6 j2 0)) g2 6 j2 1)) g2 6 j2 2)) g2 6 j2 3)) g2 6 j2 4)) g 6 j 5 ((bsWr (bsWr (bsWr (bsWr (bsWr X g 6 j 0 (X g2 6 j2 0)) g 6 j 1 ((bsWr X g 6 j 0 (X g2 6 j2 0)) g2 6 j2 1)) g 6 j 2 ((bsWr (bsWr X g 6 j 0 (X g2 6 j2 0)) g 6 j 1 ((bsWr X g 6 j 0 (X g2 6 j2 0)) g2 6 j2 1)) g2 6 j2 2)) g 6 j 3 ((bsWr (bsWr (bsWr X g 6 j 0 (X g2 6 j2 0)) g 6 j 1 ((bsWr X g 6 j 0 (X g2 6 j2 0)) g2 6 j2 1)) g 6 j 2 ((bsWr (bsWr X g 6 j 0 (X g2 6 j2 0)) g 6 j 1 ((bsWr X g 6 j 0 (X g2 6 j2 0)) g2 6 j2 1)) g2 6 j2 2)) g2 6 j2 3)) g 6 j 4 ((bsWr (bsWr (bsWr (bsWr X g 6 j 0 (X g2 6 j2 0)) g 6 j 1 ((bsWr X g 6 j 0 (X g2 6 j2 0)) g2 6 j2 1)) g 6 j 2 ((bsWr (bsWr X g 6 j 0 (X g2 6 j2 0)) g 6 j 1 ((bsWr X g 6 j 0 (X g2 6 j2 0)) g2 6 j2 1)) g2 6 j2 2)) g 6 j 3 ((bsWr (bsWr (bsWr X g 6 j 0 (X g2 6 j2 0)) g 6 j 1 ((bsWr X g 6 j 0 (X g2 6 j2 0)) g2 6 j2 1)) g 6 j 2 ((bsWr (bsWr X g 6 j 0 (X g2 6 j2 0)) g 6 j 1 ((bsWr X g 6 j 0 (X g2 6 j2 0)) g2 6 j2 1)) g2 6 j2 2)) g2 6 j2 3)) g2 6 j2 4)) g2 6 j2 5))) else none) else none) else none
abbrev rmX1_copyFrom : Room := { frames := 0, cells := 0, slots := 0, locals := 0 }
set_option maxHeartbeats 4000000 in
set_option maxRecDepth 100000 in
theorem cX1_copyFrom_ok {l : Launch} {ρ : bsR} {cA : Nat → ClassId} {dC : Nat → ClassId} {dI : Nat → Nat → Nat} {Rz : va_W} {g j g2 j2 : Nat} (hg : g < 13) (hj : j < 7) (hg2 : g2 < 13) (hj2 : j2 < 7) {X : bsX} {z : bsX} (hf : fX1_copyFrom g j g2 j2 X = some z) : bsMv l yX1_copyFrom cX1_copyFrom 2 none rmX1_copyFrom ρ cA dC dI Rz [.ref (ρ g 6 j), .ref (ρ g2 6 j2)] X z := by
  refine bsMv_of (by decide) (Nat.le_of_ble_eq_true rfl) (fun p e s m args below meth c C => ?_)
  have C : bsCx p m c cX1_copyFrom 2 s args (Cond.code yX1_copyFrom cX1_copyFrom 2 none :: bsG) RX1 ρ cA dC dI Rz meth none := C
  rw [fX1_copyFrom] at hf
  refine v_sub [0, 1] rfl ?_
  refine v_aload_n C dX1_copyFrom_0 rfl rfl ?_
  refine v_aload_n C dX1_copyFrom_1 rfl rfl ?_
  refine gf_X1_7 C hg2 hj2 dX1_copyFrom_2 ?_
  obtain ⟨hb1, hf⟩ := bs_if hf
  refine pf_X1_7 C hg hj hb1 dX1_copyFrom_5 ?_
  refine v_aload_n C dX1_copyFrom_8 rfl rfl ?_
  refine v_aload_n C dX1_copyFrom_9 rfl rfl ?_
  refine gf_X1_13 C hg2 hj2 dX1_copyFrom_10 ?_
  refine pf_X1_13 C hg hj dX1_copyFrom_13 ?_
  refine v_aload_n C dX1_copyFrom_16 rfl rfl ?_
  refine v_aload_n C dX1_copyFrom_17 rfl rfl ?_
  refine gf_X1_17 C hg2 hj2 dX1_copyFrom_18 ?_
  refine pf_X1_17 C hg hj dX1_copyFrom_21 ?_
  refine v_aload_n C dX1_copyFrom_24 rfl rfl ?_
  refine v_aload_n C dX1_copyFrom_25 rfl rfl ?_
  refine gf_X1_20 C hg2 hj2 dX1_copyFrom_26 ?_
  refine pf_X1_20 C hg hj dX1_copyFrom_29 ?_
  refine v_aload_n C dX1_copyFrom_32 rfl rfl ?_
  refine v_aload_n C dX1_copyFrom_33 rfl rfl ?_
  refine gf_X1_23 C hg2 hj2 dX1_copyFrom_34 ?_
  obtain ⟨hb2, hf⟩ := bs_if hf
  refine pf_X1_23 C hg hj hb2 dX1_copyFrom_37 ?_
  refine v_aload_n C dX1_copyFrom_40 rfl rfl ?_
  refine v_aload_n C dX1_copyFrom_41 rfl rfl ?_
  refine gf_X1_26 C hg2 hj2 dX1_copyFrom_42 ?_
  obtain ⟨hb3, hf⟩ := bs_if hf
  refine pf_X1_26 C hg hj hb3 dX1_copyFrom_45 ?_
  exact v_vret C hf dX1_copyFrom_48
/-! BootSlots$Image.set(III)V -/
def fX1_set (g j : Nat) (a1 : Int32) (a2 : Int32) (a3 : Int32) (X : bsX) : Option bsX := some (bsWr (bsWr (bsWr (bsWr (bsWr (bsWr X g 6 j 0 (1 : Int32)) g 6 j 1 a1) g 6 j 2 a2) g 6 j 3 a3) g 6 j 4 (0 : Int32)) g 6 j 5 (0 : Int32))
abbrev rmX1_set : Room := { frames := 0, cells := 0, slots := 0, locals := 0 }
set_option maxHeartbeats 4000000 in
set_option maxRecDepth 100000 in
theorem cX1_set_ok {l : Launch} {ρ : bsR} {cA : Nat → ClassId} {dC : Nat → ClassId} {dI : Nat → Nat → Nat} {Rz : va_W} {g j : Nat} (hg : g < 13) (hj : j < 7) {a1 : Int32} {a2 : Int32} {a3 : Int32} {X : bsX} {z : bsX} (hf : fX1_set g j a1 a2 a3 X = some z) : bsMv l yX1_set cX1_set 4 none rmX1_set ρ cA dC dI Rz [.ref (ρ g 6 j), .int a1, .int a2, .int a3] X z := by
  refine bsMv_of (by decide) (Nat.le_of_ble_eq_true rfl) (fun p e s m args below meth c C => ?_)
  have C : bsCx p m c cX1_set 4 s args (Cond.code yX1_set cX1_set 4 none :: bsG) RX1 ρ cA dC dI Rz meth none := C
  rw [fX1_set] at hf
  refine v_sub [0, 1, 2, 3] rfl ?_
  refine v_aload_n C dX1_set_0 rfl rfl ?_
  refine v_iconst (v := 1) C dX1_set_1 (by decide) ?_
  refine pf_X1_7 C hg hj (by decide) dX1_set_2 ?_
  refine v_aload_n C dX1_set_5 rfl rfl ?_
  refine v_iload_n C dX1_set_6 rfl rfl ?_
  refine pf_X1_13 C hg hj dX1_set_7 ?_
  refine v_aload_n C dX1_set_10 rfl rfl ?_
  refine v_iload_n C dX1_set_11 rfl rfl ?_
  refine pf_X1_17 C hg hj dX1_set_12 ?_
  refine v_aload_n C dX1_set_15 rfl rfl ?_
  refine v_iload_n C dX1_set_16 rfl rfl ?_
  refine pf_X1_20 C hg hj dX1_set_17 ?_
  refine v_aload_n C dX1_set_20 rfl rfl ?_
  refine v_iconst (v := 0) C dX1_set_21 (by decide) ?_
  refine pf_X1_23 C hg hj (by decide) dX1_set_22 ?_
  refine v_aload_n C dX1_set_25 rfl rfl ?_
  refine v_iconst (v := 0) C dX1_set_26 (by decide) ?_
  refine pf_X1_26 C hg hj (by decide) dX1_set_27 ?_
  exact v_vret C hf dX1_set_30
/-! BootSlots$Image.remove()V -/
def fX1_remove (g j : Nat) (X : bsX) : Option bsX := (fX1_set g j (0 : Int32) (0 : Int32) (0 : Int32) X).bind fun r1 => some (bsWr r1 g 6 j 0 (0 : Int32))
abbrev rmX1_remove : Room := { frames := 1, cells := 0, slots := 0, locals := 23 }
set_option maxHeartbeats 4000000 in
set_option maxRecDepth 100000 in
theorem cX1_remove_ok {l : Launch} {ρ : bsR} {cA : Nat → ClassId} {dC : Nat → ClassId} {dI : Nat → Nat → Nat} {Rz : va_W} {g j : Nat} (hg : g < 13) (hj : j < 7) {X : bsX} {z : bsX} (hf : fX1_remove g j X = some z) : bsMv l yX1_remove cX1_remove 1 none rmX1_remove ρ cA dC dI Rz [.ref (ρ g 6 j)] X z := by
  refine bsMv_of (by decide) (Nat.le_of_ble_eq_true rfl) (fun p e s m args below meth c C => ?_)
  have C : bsCx p m c cX1_remove 1 s args (Cond.code yX1_remove cX1_remove 1 none :: bsG) RX1 ρ cA dC dI Rz meth none := C
  rw [fX1_remove] at hf
  refine v_sub [0] rfl ?_
  refine v_aload_n C dX1_remove_0 rfl rfl ?_
  refine v_iconst (v := 0) C dX1_remove_1 (by decide) ?_
  refine v_iconst (v := 0) C dX1_remove_2 (by decide) ?_
  refine v_iconst (v := 0) C dX1_remove_3 (by decide) ?_
  obtain ⟨r1, hc2, hf⟩ := bs_bind hf
  refine v_callVv (y := yX1_set) (As := [.int (0 : Int32), .int (0 : Int32), .int (0 : Int32)]) (rest := []) C (cX1_set_ok hg hj hc2) ml_X1_29 wyX1_set (bsm_X1 hg hj) (bsc_X1 hg) rfl dpX1_set ⟨Nat.le_of_ble_eq_true rfl, Nat.le_of_ble_eq_true rfl⟩ ⟨rfl, rfl⟩ ⟨Nat.le_of_ble_eq_true rfl, Nat.le_of_ble_eq_true rfl⟩ rfl (Nat.le_of_ble_eq_true rfl) dX1_remove_4 ?_
  refine v_aload_n C dX1_remove_7 rfl rfl ?_
  refine v_iconst (v := 0) C dX1_remove_8 (by decide) ?_
  refine pf_X1_7 C hg hj (by decide) dX1_remove_9 ?_
  exact v_vret C hf dX1_remove_12
/-! BootSlots$Install.isOn()Z -/
def fX2_isOn (g : Nat) (X : bsX) : Option (Int32 × bsX) := if (X g 2 0 1) < 0 then (some ((0 : Int32), X)) else (some ((1 : Int32), X))
abbrev rmX2_isOn : Room := { frames := 0, cells := 0, slots := 0, locals := 0 }
set_option maxHeartbeats 4000000 in
set_option maxRecDepth 100000 in
theorem cX2_isOn_ok {l : Launch} {ρ : bsR} {cA : Nat → ClassId} {dC : Nat → ClassId} {dI : Nat → Nat → Nat} {Rz : va_W} {g : Nat} (hg : g < 13) {X : bsX} {z : (Int32 × bsX)} (hf : fX2_isOn g X = some z) : bsMi l yX2_isOn cX2_isOn 1 (some .boolean) rmX2_isOn ρ cA dC dI Rz [.ref (ρ g 2 0)] X z := by
  refine bsMi_of (by decide) (Nat.le_of_ble_eq_true rfl) (fun p e s m args below meth c C => ?_)
  have C : bsCx p m c cX2_isOn 1 s args (Cond.code yX2_isOn cX2_isOn 1 (some .boolean) :: bsG) RX2 ρ cA dC dI Rz meth (some .boolean) := C
  rw [fX2_isOn] at hf
  refine v_sub [0] rfl ?_
  refine v_aload_n C dX2_isOn_0 rfl rfl ?_
  refine gf_X2_18 C hg dX2_isOn_1 ?_
  refine v_if_lt (tgt := 11) C dX2_isOn_4 (by decide) (fun h1 => ?_) (fun h1 => ?_)
  · replace hf := bs_pos h1 hf
    refine v_iconst (v := 0) C dX2_isOn_11 (by decide) ?_
    exact v_zret C (bsZ01 (by decide)).1 hf dX2_isOn_12
  · replace hf := bs_neg h1 hf
    refine v_iconst (v := 1) C dX2_isOn_7 (by decide) ?_
    refine v_goto (tgt := 12) C dX2_isOn_8 (by decide) ?_
    exact v_zret C (bsZ01 (by decide)).1 hf dX2_isOn_12
/-! BootSlots$Install.copyFrom(LBootSlots$Install;)V -/
def fX2_copyFrom (g g2 : Nat) (X : bsX) : Option bsX := (fX1_copyFrom g 6 g2 6  X).bind fun r1 => some (bsWr (bsWr (bsWr r1 g 2 0 1 (r1 g2 2 0 1)) g 2 0 2 ((bsWr r1 g 2 0 1 (r1 g2 2 0 1)) g2 2 0 2)) g 2 0 3 ((bsWr (bsWr r1 g 2 0 1 (r1 g2 2 0 1)) g 2 0 2 ((bsWr r1 g 2 0 1 (r1 g2 2 0 1)) g2 2 0 2)) g2 2 0 3))
abbrev rmX2_copyFrom : Room := { frames := 1, cells := 0, slots := 0, locals := 21 }
set_option maxHeartbeats 4000000 in
set_option maxRecDepth 100000 in
theorem cX2_copyFrom_ok {l : Launch} {ρ : bsR} {cA : Nat → ClassId} {dC : Nat → ClassId} {dI : Nat → Nat → Nat} {Rz : va_W} {g g2 : Nat} (hg : g < 13) (hg2 : g2 < 13) {X : bsX} {z : bsX} (hf : fX2_copyFrom g g2 X = some z) : bsMv l yX2_copyFrom cX2_copyFrom 2 none rmX2_copyFrom ρ cA dC dI Rz [.ref (ρ g 2 0), .ref (ρ g2 2 0)] X z := by
  refine bsMv_of (by decide) (Nat.le_of_ble_eq_true rfl) (fun p e s m args below meth c C => ?_)
  have C : bsCx p m c cX2_copyFrom 2 s args (Cond.code yX2_copyFrom cX2_copyFrom 2 none :: bsG) RX2 ρ cA dC dI Rz meth none := C
  rw [fX2_copyFrom] at hf
  refine v_sub [0, 1] rfl ?_
  refine v_aload_n C dX2_copyFrom_0 rfl rfl ?_
  refine gf_X2_12 C hg dX2_copyFrom_1 ?_
  refine v_aload_n C dX2_copyFrom_4 rfl rfl ?_
  refine gf_X2_12 C hg2 dX2_copyFrom_5 ?_
  obtain ⟨r1, hc2, hf⟩ := bs_bind hf
  refine v_callVv (y := yX1_copyFrom) (As := [.ref (ρ g2 6 6)]) (rest := []) C (cX1_copyFrom_ok hg (by decide) hg2 (by decide) hc2) ml_X2_22 wyX1_copyFrom (bsm_X1 hg (by decide)) (bsc_X1 hg) rfl dpX1_copyFrom ⟨Nat.le_of_ble_eq_true rfl, Nat.le_of_ble_eq_true rfl⟩ ⟨rfl, rfl⟩ ⟨Nat.le_of_ble_eq_true rfl, Nat.le_of_ble_eq_true rfl⟩ rfl (Nat.le_of_ble_eq_true rfl) dX2_copyFrom_8 ?_
  refine v_aload_n C dX2_copyFrom_11 rfl rfl ?_
  refine v_aload_n C dX2_copyFrom_12 rfl rfl ?_
  refine gf_X2_18 C hg2 dX2_copyFrom_13 ?_
  refine pf_X2_18 C hg dX2_copyFrom_16 ?_
  refine v_aload_n C dX2_copyFrom_19 rfl rfl ?_
  refine v_aload_n C dX2_copyFrom_20 rfl rfl ?_
  refine gf_X2_26 C hg2 dX2_copyFrom_21 ?_
  refine pf_X2_26 C hg dX2_copyFrom_24 ?_
  refine v_aload_n C dX2_copyFrom_27 rfl rfl ?_
  refine v_aload_n C dX2_copyFrom_28 rfl rfl ?_
  refine gf_X2_29 C hg2 dX2_copyFrom_29 ?_
  refine pf_X2_29 C hg dX2_copyFrom_32 ?_
  exact v_vret C hf dX2_copyFrom_35
/-! BootSlots$Install.set(II)V -/
def fX2_set (g : Nat) (a1 : Int32) (a2 : Int32) (X : bsX) : Option bsX := some (bsWr (bsWr (bsWr X g 2 0 1 a1) g 2 0 2 a2) g 2 0 3 (3 : Int32))
abbrev rmX2_set : Room := { frames := 0, cells := 0, slots := 0, locals := 0 }
set_option maxHeartbeats 4000000 in
set_option maxRecDepth 100000 in
theorem cX2_set_ok {l : Launch} {ρ : bsR} {cA : Nat → ClassId} {dC : Nat → ClassId} {dI : Nat → Nat → Nat} {Rz : va_W} {g : Nat} (hg : g < 13) {a1 : Int32} {a2 : Int32} {X : bsX} {z : bsX} (hf : fX2_set g a1 a2 X = some z) : bsMv l yX2_set cX2_set 3 none rmX2_set ρ cA dC dI Rz [.ref (ρ g 2 0), .int a1, .int a2] X z := by
  refine bsMv_of (by decide) (Nat.le_of_ble_eq_true rfl) (fun p e s m args below meth c C => ?_)
  have C : bsCx p m c cX2_set 3 s args (Cond.code yX2_set cX2_set 3 none :: bsG) RX2 ρ cA dC dI Rz meth none := C
  rw [fX2_set] at hf
  refine v_sub [0, 1, 2] rfl ?_
  refine v_aload_n C dX2_set_0 rfl rfl ?_
  refine v_iload_n C dX2_set_1 rfl rfl ?_
  refine pf_X2_18 C hg dX2_set_2 ?_
  refine v_aload_n C dX2_set_5 rfl rfl ?_
  refine v_iload_n C dX2_set_6 rfl rfl ?_
  refine pf_X2_26 C hg dX2_set_7 ?_
  refine v_aload_n C dX2_set_10 rfl rfl ?_
  refine v_iconst (v := 3) C dX2_set_11 (by decide) ?_
  refine pf_X2_29 C hg dX2_set_12 ?_
  exact v_vret C hf dX2_set_15
/-! BootSlots$Install.goOn()Z -/
def fX2_goOn (g : Nat) (X : bsX) : Option (Int32 × bsX) := (fX2_isOn g  X).bind fun r1 => if r1.1 = 0 then (some ((0 : Int32), r1.2)) else (if 0 < ((bsWr r1.2 g 2 0 2 ((r1.2 g 2 0 2) - (1 : Int32))) g 2 0 2) then (some ((0 : Int32), (bsWr r1.2 g 2 0 2 ((r1.2 g 2 0 2) - (1 : Int32))))) else (some ((1 : Int32), (bsWr r1.2 g 2 0 2 ((r1.2 g 2 0 2) - (1 : Int32))))))
abbrev rmX2_goOn : Room := { frames := 1, cells := 0, slots := 0, locals := 20 }
set_option maxHeartbeats 4000000 in
set_option maxRecDepth 100000 in
theorem cX2_goOn_ok {l : Launch} {ρ : bsR} {cA : Nat → ClassId} {dC : Nat → ClassId} {dI : Nat → Nat → Nat} {Rz : va_W} {g : Nat} (hg : g < 13) {X : bsX} {z : (Int32 × bsX)} (hf : fX2_goOn g X = some z) : bsMi l yX2_goOn cX2_goOn 1 (some .boolean) rmX2_goOn ρ cA dC dI Rz [.ref (ρ g 2 0)] X z := by
  refine bsMi_of (by decide) (Nat.le_of_ble_eq_true rfl) (fun p e s m args below meth c C => ?_)
  have C : bsCx p m c cX2_goOn 1 s args (Cond.code yX2_goOn cX2_goOn 1 (some .boolean) :: bsG) RX2 ρ cA dC dI Rz meth (some .boolean) := C
  rw [fX2_goOn] at hf
  refine v_sub [0] rfl ?_
  refine v_aload_n C dX2_goOn_0 rfl rfl ?_
  obtain ⟨r1, hc2, hf⟩ := bs_bind hf
  refine v_callVi (y := yX2_isOn) (As := []) (rest := []) C (cX2_isOn_ok hg hc2) ml_X2_32 wyX2_isOn (bsm_X2 hg) (bsc_X2 hg) rfl dpX2_isOn ⟨Nat.le_of_ble_eq_true rfl, Nat.le_of_ble_eq_true rfl⟩ ⟨rfl, rfl⟩ ⟨Nat.le_of_ble_eq_true rfl, Nat.le_of_ble_eq_true rfl⟩ rfl (Nat.le_of_ble_eq_true rfl) dX2_goOn_1 ?_
  refine v_if_ne (tgt := 9) C dX2_goOn_4 (by decide) (fun h4 => ?_) (fun h4 => ?_)
  · replace hf := bs_neg h4 hf
    refine v_aload_n C dX2_goOn_9 rfl rfl ?_
    refine v_dup C dX2_goOn_10 rfl ?_
    refine gf_X2_26 C hg dX2_goOn_11 ?_
    refine v_iconst (v := 1) C dX2_goOn_14 (by decide) ?_
    refine v_isub C dX2_goOn_15 ?_
    refine pf_X2_26 C hg dX2_goOn_16 ?_
    refine v_aload_n C dX2_goOn_19 rfl rfl ?_
    refine gf_X2_26 C hg dX2_goOn_20 ?_
    refine v_if_gt (tgt := 30) C dX2_goOn_23 (by decide) (fun h3 => ?_) (fun h3 => ?_)
    · replace hf := bs_pos h3 hf
      refine v_iconst (v := 0) C dX2_goOn_30 (by decide) ?_
      exact v_zret C (bsZ01 (by decide)).1 hf dX2_goOn_31
    · replace hf := bs_neg h3 hf
      refine v_iconst (v := 1) C dX2_goOn_26 (by decide) ?_
      refine v_goto (tgt := 31) C dX2_goOn_27 (by decide) ?_
      exact v_zret C (bsZ01 (by decide)).1 hf dX2_goOn_31
  · replace hf := bs_pos h4 hf
    refine v_iconst (v := 0) C dX2_goOn_7 (by decide) ?_
    exact v_zret C (bsZ01 (by decide)).1 hf dX2_goOn_8
/-! BootSlots$Install.stop()V -/
def fX2_stop (g : Nat) (X : bsX) : Option bsX := (fX1_remove g 6  (bsWr (bsWr (bsWr X g 2 0 1 (-1 : Int32)) g 2 0 2 (0 : Int32)) g 2 0 3 (0 : Int32))).bind fun r1 => some r1
abbrev rmX2_stop : Room := { frames := 2, cells := 0, slots := 0, locals := 43 }
set_option maxHeartbeats 4000000 in
set_option maxRecDepth 100000 in
theorem cX2_stop_ok {l : Launch} {ρ : bsR} {cA : Nat → ClassId} {dC : Nat → ClassId} {dI : Nat → Nat → Nat} {Rz : va_W} {g : Nat} (hg : g < 13) {X : bsX} {z : bsX} (hf : fX2_stop g X = some z) : bsMv l yX2_stop cX2_stop 1 none rmX2_stop ρ cA dC dI Rz [.ref (ρ g 2 0)] X z := by
  refine bsMv_of (by decide) (Nat.le_of_ble_eq_true rfl) (fun p e s m args below meth c C => ?_)
  have C : bsCx p m c cX2_stop 1 s args (Cond.code yX2_stop cX2_stop 1 none :: bsG) RX2 ρ cA dC dI Rz meth none := C
  rw [fX2_stop] at hf
  refine v_sub [0] rfl ?_
  refine v_aload_n C dX2_stop_0 rfl rfl ?_
  refine v_iconst (v := -1) C dX2_stop_1 (by decide) ?_
  refine pf_X2_18 C hg dX2_stop_2 ?_
  refine v_aload_n C dX2_stop_5 rfl rfl ?_
  refine v_iconst (v := 0) C dX2_stop_6 (by decide) ?_
  refine pf_X2_26 C hg dX2_stop_7 ?_
  refine v_aload_n C dX2_stop_10 rfl rfl ?_
  refine v_iconst (v := 0) C dX2_stop_11 (by decide) ?_
  refine pf_X2_29 C hg dX2_stop_12 ?_
  refine v_aload_n C dX2_stop_15 rfl rfl ?_
  refine gf_X2_12 C hg dX2_stop_16 ?_
  obtain ⟨r1, hc2, hf⟩ := bs_bind hf
  refine v_callVv (y := yX1_remove) (As := []) (rest := []) C (cX1_remove_ok hg (by decide) hc2) ml_X2_36 wyX1_remove (bsm_X1 hg (by decide)) (bsc_X1 hg) rfl dpX1_remove ⟨Nat.le_of_ble_eq_true rfl, Nat.le_of_ble_eq_true rfl⟩ ⟨rfl, rfl⟩ ⟨Nat.le_of_ble_eq_true rfl, Nat.le_of_ble_eq_true rfl⟩ rfl (Nat.le_of_ble_eq_true rfl) dX2_stop_19 ?_
  exact v_vret C hf dX2_stop_22
/-! BootSlots$Slot.setMark(IIZ)V -/
def fX5_setMark (g j : Nat) (a1 : Int32) (a2 : Int32) (a3 : Int32) (X : bsX) : Option bsX := if a3 = 0 ∨ a3 = 1 then (some (bsWr (bsWr (bsWr X g 5 j 2 a1) g 5 j 3 a2) g 5 j 4 a3)) else none
abbrev rmX5_setMark : Room := { frames := 0, cells := 0, slots := 0, locals := 0 }
set_option maxHeartbeats 4000000 in
set_option maxRecDepth 100000 in
theorem cX5_setMark_ok {l : Launch} {ρ : bsR} {cA : Nat → ClassId} {dC : Nat → ClassId} {dI : Nat → Nat → Nat} {Rz : va_W} {g j : Nat} (hg : g < 13) (hj : j < 6) {a1 : Int32} {a2 : Int32} {a3 : Int32} {X : bsX} {z : bsX} (hf : fX5_setMark g j a1 a2 a3 X = some z) : bsMv l yX5_setMark cX5_setMark 4 none rmX5_setMark ρ cA dC dI Rz [.ref (ρ g 5 j), .int a1, .int a2, .int a3] X z := by
  refine bsMv_of (by decide) (Nat.le_of_ble_eq_true rfl) (fun p e s m args below meth c C => ?_)
  have C : bsCx p m c cX5_setMark 4 s args (Cond.code yX5_setMark cX5_setMark 4 none :: bsG) RX5 ρ cA dC dI Rz meth none := C
  rw [fX5_setMark] at hf
  refine v_sub [0, 1, 2, 3] rfl ?_
  refine v_aload_n C dX5_setMark_0 rfl rfl ?_
  refine v_iload_n C dX5_setMark_1 rfl rfl ?_
  refine pf_X5_24 C hg hj dX5_setMark_2 ?_
  refine v_aload_n C dX5_setMark_5 rfl rfl ?_
  refine v_iload_n C dX5_setMark_6 rfl rfl ?_
  refine pf_X5_27 C hg hj dX5_setMark_7 ?_
  refine v_aload_n C dX5_setMark_10 rfl rfl ?_
  refine v_iload_n C dX5_setMark_11 rfl rfl ?_
  obtain ⟨hb1, hf⟩ := bs_if hf
  refine pf_X5_30 C hg hj hb1 dX5_setMark_12 ?_
  exact v_vret C hf dX5_setMark_15
/-! BootSlots$Slot.copyFrom(LBootSlots$Slot;)V -/
def fX5_copyFrom (g j g2 j2 : Nat) (X : bsX) : Option bsX := (fX1_copyFrom g j g2 j2  X).bind fun r1 => (fX5_setMark g j (r1 g2 5 j2 2) (r1 g2 5 j2 3) (r1 g2 5 j2 4) r1).bind fun r3 => some (bsWr (bsWr (bsWr (bsWr r3 g 5 j 5 (r3 g2 5 j2 5)) g 5 j 6 ((bsWr r3 g 5 j 5 (r3 g2 5 j2 5)) g2 5 j2 6)) g 5 j 7 ((bsWr (bsWr r3 g 5 j 5 (r3 g2 5 j2 5)) g 5 j 6 ((bsWr r3 g 5 j 5 (r3 g2 5 j2 5)) g2 5 j2 6)) g2 5 j2 7)) g 5 j 8 ((bsWr (bsWr (bsWr r3 g 5 j 5 (r3 g2 5 j2 5)) g 5 j 6 ((bsWr r3 g 5 j 5 (r3 g2 5 j2 5)) g2 5 j2 6)) g 5 j 7 ((bsWr (bsWr r3 g 5 j 5 (r3 g2 5 j2 5)) g 5 j 6 ((bsWr r3 g 5 j 5 (r3 g2 5 j2 5)) g2 5 j2 6)) g2 5 j2 7)) g2 5 j2 8))
abbrev rmX5_copyFrom : Room := { frames := 1, cells := 0, slots := 0, locals := 23 }
set_option maxHeartbeats 4000000 in
set_option maxRecDepth 100000 in
theorem cX5_copyFrom_ok {l : Launch} {ρ : bsR} {cA : Nat → ClassId} {dC : Nat → ClassId} {dI : Nat → Nat → Nat} {Rz : va_W} {g j g2 j2 : Nat} (hg : g < 13) (hj : j < 6) (hg2 : g2 < 13) (hj2 : j2 < 6) {X : bsX} {z : bsX} (hf : fX5_copyFrom g j g2 j2 X = some z) : bsMv l yX5_copyFrom cX5_copyFrom 2 none rmX5_copyFrom ρ cA dC dI Rz [.ref (ρ g 5 j), .ref (ρ g2 5 j2)] X z := by
  refine bsMv_of (by decide) (Nat.le_of_ble_eq_true rfl) (fun p e s m args below meth c C => ?_)
  have C : bsCx p m c cX5_copyFrom 2 s args (Cond.code yX5_copyFrom cX5_copyFrom 2 none :: bsG) RX5 ρ cA dC dI Rz meth none := C
  rw [fX5_copyFrom] at hf
  refine v_sub [0, 1] rfl ?_
  refine v_aload_n C dX5_copyFrom_0 rfl rfl ?_
  refine gf_X5_10 C hg hj dX5_copyFrom_1 ?_
  refine v_aload_n C dX5_copyFrom_4 rfl rfl ?_
  refine gf_X5_10 C hg2 hj2 dX5_copyFrom_5 ?_
  obtain ⟨r1, hc2, hf⟩ := bs_bind hf
  refine v_callVv (y := yX1_copyFrom) (As := [.ref (ρ g2 6 j2)]) (rest := []) C (cX1_copyFrom_ok hg (Nat.lt_succ_of_lt hj) hg2 (Nat.lt_succ_of_lt hj2) hc2) ml_X5_20 wyX1_copyFrom (bsm_X1 hg (Nat.lt_succ_of_lt hj)) (bsc_X1 hg) rfl dpX1_copyFrom ⟨Nat.le_of_ble_eq_true rfl, Nat.le_of_ble_eq_true rfl⟩ ⟨rfl, rfl⟩ ⟨Nat.le_of_ble_eq_true rfl, Nat.le_of_ble_eq_true rfl⟩ rfl (Nat.le_of_ble_eq_true rfl) dX5_copyFrom_8 ?_
  refine v_aload_n C dX5_copyFrom_11 rfl rfl ?_
  refine v_aload_n C dX5_copyFrom_12 rfl rfl ?_
  refine gf_X5_24 C hg2 hj2 dX5_copyFrom_13 ?_
  refine v_aload_n C dX5_copyFrom_16 rfl rfl ?_
  refine gf_X5_27 C hg2 hj2 dX5_copyFrom_17 ?_
  refine v_aload_n C dX5_copyFrom_20 rfl rfl ?_
  refine gf_X5_30 C hg2 hj2 dX5_copyFrom_21 ?_
  obtain ⟨r3, hc4, hf⟩ := bs_bind hf
  refine v_callVv (y := yX5_setMark) (As := [.int (r1 g2 5 j2 2), .int (r1 g2 5 j2 3), .int (r1 g2 5 j2 4)]) (rest := []) C (cX5_setMark_ok hg hj hc4) ml_X5_34 wyX5_setMark (bsm_X5 hg hj) (bsc_X5 hg) rfl dpX5_setMark ⟨Nat.le_of_ble_eq_true rfl, Nat.le_of_ble_eq_true rfl⟩ ⟨rfl, rfl⟩ ⟨Nat.le_of_ble_eq_true rfl, Nat.le_of_ble_eq_true rfl⟩ rfl (Nat.le_of_ble_eq_true rfl) dX5_copyFrom_24 ?_
  refine v_aload_n C dX5_copyFrom_27 rfl rfl ?_
  refine v_aload_n C dX5_copyFrom_28 rfl rfl ?_
  refine gf_X5_38 C hg2 hj2 dX5_copyFrom_29 ?_
  refine pf_X5_38 C hg hj dX5_copyFrom_32 ?_
  refine v_aload_n C dX5_copyFrom_35 rfl rfl ?_
  refine v_aload_n C dX5_copyFrom_36 rfl rfl ?_
  refine gf_X5_41 C hg2 hj2 dX5_copyFrom_37 ?_
  refine pf_X5_41 C hg hj dX5_copyFrom_40 ?_
  refine v_aload_n C dX5_copyFrom_43 rfl rfl ?_
  refine v_aload_n C dX5_copyFrom_44 rfl rfl ?_
  refine gf_X5_44 C hg2 hj2 dX5_copyFrom_45 ?_
  refine pf_X5_44 C hg hj dX5_copyFrom_48 ?_
  refine v_aload_n C dX5_copyFrom_51 rfl rfl ?_
  refine v_aload_n C dX5_copyFrom_52 rfl rfl ?_
  refine gf_X5_47 C hg2 hj2 dX5_copyFrom_53 ?_
  refine pf_X5_47 C hg hj dX5_copyFrom_56 ?_
  exact v_vret C hf dX5_copyFrom_59
/-! BootSlots$Slot.makeEmpty()V -/
def fX5_makeEmpty (g j : Nat) (X : bsX) : Option bsX := (fX1_remove g j  X).bind fun r1 => (fX5_setMark g j (0 : Int32) (0 : Int32) (0 : Int32) r1).bind fun r3 => some (bsWr r3 g 5 j 5 (0 : Int32))
abbrev rmX5_makeEmpty : Room := { frames := 2, cells := 0, slots := 0, locals := 43 }
set_option maxHeartbeats 4000000 in
set_option maxRecDepth 100000 in
theorem cX5_makeEmpty_ok {l : Launch} {ρ : bsR} {cA : Nat → ClassId} {dC : Nat → ClassId} {dI : Nat → Nat → Nat} {Rz : va_W} {g j : Nat} (hg : g < 13) (hj : j < 6) {X : bsX} {z : bsX} (hf : fX5_makeEmpty g j X = some z) : bsMv l yX5_makeEmpty cX5_makeEmpty 1 none rmX5_makeEmpty ρ cA dC dI Rz [.ref (ρ g 5 j)] X z := by
  refine bsMv_of (by decide) (Nat.le_of_ble_eq_true rfl) (fun p e s m args below meth c C => ?_)
  have C : bsCx p m c cX5_makeEmpty 1 s args (Cond.code yX5_makeEmpty cX5_makeEmpty 1 none :: bsG) RX5 ρ cA dC dI Rz meth none := C
  rw [fX5_makeEmpty] at hf
  refine v_sub [0] rfl ?_
  refine v_aload_n C dX5_makeEmpty_0 rfl rfl ?_
  refine gf_X5_10 C hg hj dX5_makeEmpty_1 ?_
  obtain ⟨r1, hc2, hf⟩ := bs_bind hf
  refine v_callVv (y := yX1_remove) (As := []) (rest := []) C (cX1_remove_ok hg (Nat.lt_succ_of_lt hj) hc2) ml_X5_50 wyX1_remove (bsm_X1 hg (Nat.lt_succ_of_lt hj)) (bsc_X1 hg) rfl dpX1_remove ⟨Nat.le_of_ble_eq_true rfl, Nat.le_of_ble_eq_true rfl⟩ ⟨rfl, rfl⟩ ⟨Nat.le_of_ble_eq_true rfl, Nat.le_of_ble_eq_true rfl⟩ rfl (Nat.le_of_ble_eq_true rfl) dX5_makeEmpty_4 ?_
  refine v_aload_n C dX5_makeEmpty_7 rfl rfl ?_
  refine v_iconst (v := 0) C dX5_makeEmpty_8 (by decide) ?_
  refine v_iconst (v := 0) C dX5_makeEmpty_9 (by decide) ?_
  refine v_iconst (v := 0) C dX5_makeEmpty_10 (by decide) ?_
  obtain ⟨r3, hc4, hf⟩ := bs_bind hf
  refine v_callVv (y := yX5_setMark) (As := [.int (0 : Int32), .int (0 : Int32), .int (0 : Int32)]) (rest := []) C (cX5_setMark_ok hg hj hc4) ml_X5_34 wyX5_setMark (bsm_X5 hg hj) (bsc_X5 hg) rfl dpX5_setMark ⟨Nat.le_of_ble_eq_true rfl, Nat.le_of_ble_eq_true rfl⟩ ⟨rfl, rfl⟩ ⟨Nat.le_of_ble_eq_true rfl, Nat.le_of_ble_eq_true rfl⟩ rfl (Nat.le_of_ble_eq_true rfl) dX5_makeEmpty_11 ?_
  refine v_aload_n C dX5_makeEmpty_14 rfl rfl ?_
  refine v_iconst (v := 0) C dX5_makeEmpty_15 (by decide) ?_
  refine pf_X5_38 C hg hj dX5_makeEmpty_16 ?_
  exact v_vret C hf dX5_makeEmpty_19
/-! BootSlots$Slot.giveUp()V -/
def fX5_giveUp (g j : Nat) (X : bsX) : Option bsX := some (bsWr (bsWr X g 5 j 2 (0 : Int32)) g 5 j 4 (0 : Int32))
abbrev rmX5_giveUp : Room := { frames := 0, cells := 0, slots := 0, locals := 0 }
set_option maxHeartbeats 4000000 in
set_option maxRecDepth 100000 in
theorem cX5_giveUp_ok {l : Launch} {ρ : bsR} {cA : Nat → ClassId} {dC : Nat → ClassId} {dI : Nat → Nat → Nat} {Rz : va_W} {g j : Nat} (hg : g < 13) (hj : j < 6) {X : bsX} {z : bsX} (hf : fX5_giveUp g j X = some z) : bsMv l yX5_giveUp cX5_giveUp 1 none rmX5_giveUp ρ cA dC dI Rz [.ref (ρ g 5 j)] X z := by
  refine bsMv_of (by decide) (Nat.le_of_ble_eq_true rfl) (fun p e s m args below meth c C => ?_)
  have C : bsCx p m c cX5_giveUp 1 s args (Cond.code yX5_giveUp cX5_giveUp 1 none :: bsG) RX5 ρ cA dC dI Rz meth none := C
  rw [fX5_giveUp] at hf
  refine v_sub [0] rfl ?_
  refine v_aload_n C dX5_giveUp_0 rfl rfl ?_
  refine v_iconst (v := 0) C dX5_giveUp_1 (by decide) ?_
  refine pf_X5_24 C hg hj dX5_giveUp_2 ?_
  refine v_aload_n C dX5_giveUp_5 rfl rfl ?_
  refine v_iconst (v := 0) C dX5_giveUp_6 (by decide) ?_
  refine pf_X5_30 C hg hj (by decide) dX5_giveUp_7 ?_
  exact v_vret C hf dX5_giveUp_10
/-! BootSlots$Slot.isBootableFrom(I)Z -/
def fX5_isBootableFrom_62 (g j : Nat) (X : bsX) : Option (Int32 × bsX) := some ((1 : Int32), X)
def fX5_isBootableFrom_36 (g j : Nat) (y0 : Int32) (X : bsX) : Option (Int32 × bsX) := if y0 = 0 then (some ((0 : Int32), X)) else (if (X g 5 j 2) ≤ 0 then (some ((0 : Int32), X)) else (if (X g 5 j 4) = 0 then (if (X g 5 j 3) ≤ 0 then (some ((0 : Int32), X)) else (fX5_isBootableFrom_62 g j   X)) else (fX5_isBootableFrom_62 g j   X)))
def fX5_isBootableFrom_35 (g j : Nat) (X : bsX) : Option (Int32 × bsX) := fX5_isBootableFrom_36 g j  (0 : Int32) X
def fX5_isBootableFrom (g j : Nat) (a1 : Int32) (X : bsX) : Option (Int32 × bsX) := if (X g 6 j 0) = 0 then (fX5_isBootableFrom_35 g j   X) else (if (X g 6 j 4) = 0 then (if (X g 6 j 1) < a1 then (fX5_isBootableFrom_35 g j   X) else (fX5_isBootableFrom_36 g j  (1 : Int32) X)) else (fX5_isBootableFrom_35 g j   X))
abbrev rmX5_isBootableFrom : Room := { frames := 0, cells := 0, slots := 0, locals := 0 }
set_option maxHeartbeats 4000000 in
set_option maxRecDepth 100000 in
theorem wX5_isBootableFrom_62 {p : Program} {l : Launch} {e : Env} {s : State} {m : MethodId} {args : Array Value} {below : List Frame} {meth : Method} {c : Code} {ρ : bsR} {cA : Nat → ClassId} {dC : Nat → ClassId} {dI : Nat → Nat → Nat} {Rz : va_W} {Ts : List Cond} {g j : Nat} (hg : g < 13) (hj : j < 6)  {z : (Int32 × bsX)} (C : bsCx p m c cX5_isBootableFrom 3 s args Ts RX5 ρ cA dC dI Rz meth (some .boolean)) (X : bsX) (hf : fX5_isBootableFrom_62 g j X = some z) : bsV p l e rmX5_isBootableFrom s m args below meth c 0 0 (MQ below (bsQi ρ cA dC dI Rz z s.heap.size) args s 0 0 (bsA ρ cA Rz s.heap.size)) ρ cA dC dI Rz 3 62 [] [] X := by
  rw [fX5_isBootableFrom_62] at hf
  refine v_iconst (v := 1) C dX5_isBootableFrom_62 (by decide) ?_
  refine v_goto (tgt := 67) C dX5_isBootableFrom_63 (by decide) ?_
  exact v_zret C (bsZ01 (by decide)).1 hf dX5_isBootableFrom_67
set_option maxHeartbeats 4000000 in
set_option maxRecDepth 100000 in
theorem wX5_isBootableFrom_36 {p : Program} {l : Launch} {e : Env} {s : State} {m : MethodId} {args : Array Value} {below : List Frame} {meth : Method} {c : Code} {ρ : bsR} {cA : Nat → ClassId} {dC : Nat → ClassId} {dI : Nat → Nat → Nat} {Rz : va_W} {Ts : List Cond} {g j : Nat} (hg : g < 13) (hj : j < 6)  {z : (Int32 × bsX)} (C : bsCx p m c cX5_isBootableFrom 3 s args Ts RX5 ρ cA dC dI Rz meth (some .boolean)) (y0 : Int32) (X : bsX) (hf : fX5_isBootableFrom_36 g j y0 X = some z) : bsV p l e rmX5_isBootableFrom s m args below meth c 0 0 (MQ below (bsQi ρ cA dC dI Rz z s.heap.size) args s 0 0 (bsA ρ cA Rz s.heap.size)) ρ cA dC dI Rz 3 36 [(0, .ref (ρ g 5 j))] [.int y0] X := by
  rw [fX5_isBootableFrom_36] at hf
  refine v_istore_n (lv' := [(2, .int y0), (0, .ref (ρ g 5 j))]) C dX5_isBootableFrom_36 rfl (by decide) rfl ?_
  refine v_iload_n C dX5_isBootableFrom_37 rfl rfl ?_
  refine v_if_eq (tgt := 66) C dX5_isBootableFrom_38 (by decide) (fun h4 => ?_) (fun h4 => ?_)
  · replace hf := bs_pos h4 hf
    refine v_iconst (v := 0) C dX5_isBootableFrom_66 (by decide) ?_
    exact v_zret C (bsZ01 (by decide)).1 hf dX5_isBootableFrom_67
  · replace hf := bs_neg h4 hf
    refine v_aload_n C dX5_isBootableFrom_41 rfl rfl ?_
    refine gf_X5_24 C hg hj dX5_isBootableFrom_42 ?_
    refine v_if_le (tgt := 66) C dX5_isBootableFrom_45 (by decide) (fun h3 => ?_) (fun h3 => ?_)
    · replace hf := bs_pos h3 hf
      refine v_iconst (v := 0) C dX5_isBootableFrom_66 (by decide) ?_
      exact v_zret C (bsZ01 (by decide)).1 hf dX5_isBootableFrom_67
    · replace hf := bs_neg h3 hf
      refine v_aload_n C dX5_isBootableFrom_48 rfl rfl ?_
      refine gf_X5_30 C hg hj dX5_isBootableFrom_49 ?_
      refine v_if_ne (tgt := 62) C dX5_isBootableFrom_52 (by decide) (fun h2 => ?_) (fun h2 => ?_)
      · replace hf := bs_neg h2 hf
        refine v_sub [] rfl ?_
        exact wX5_isBootableFrom_62 hg hj  C  _  hf
      · replace hf := bs_pos h2 hf
        refine v_aload_n C dX5_isBootableFrom_55 rfl rfl ?_
        refine gf_X5_27 C hg hj dX5_isBootableFrom_56 ?_
        refine v_if_le (tgt := 66) C dX5_isBootableFrom_59 (by decide) (fun h1 => ?_) (fun h1 => ?_)
        · replace hf := bs_pos h1 hf
          refine v_iconst (v := 0) C dX5_isBootableFrom_66 (by decide) ?_
          exact v_zret C (bsZ01 (by decide)).1 hf dX5_isBootableFrom_67
        · replace hf := bs_neg h1 hf
          refine v_sub [] rfl ?_
          exact wX5_isBootableFrom_62 hg hj  C  _  hf
set_option maxHeartbeats 4000000 in
set_option maxRecDepth 100000 in
theorem wX5_isBootableFrom_35 {p : Program} {l : Launch} {e : Env} {s : State} {m : MethodId} {args : Array Value} {below : List Frame} {meth : Method} {c : Code} {ρ : bsR} {cA : Nat → ClassId} {dC : Nat → ClassId} {dI : Nat → Nat → Nat} {Rz : va_W} {Ts : List Cond} {g j : Nat} (hg : g < 13) (hj : j < 6)  {z : (Int32 × bsX)} (C : bsCx p m c cX5_isBootableFrom 3 s args Ts RX5 ρ cA dC dI Rz meth (some .boolean)) (X : bsX) (hf : fX5_isBootableFrom_35 g j X = some z) : bsV p l e rmX5_isBootableFrom s m args below meth c 0 0 (MQ below (bsQi ρ cA dC dI Rz z s.heap.size) args s 0 0 (bsA ρ cA Rz s.heap.size)) ρ cA dC dI Rz 3 35 [(0, .ref (ρ g 5 j))] [] X := by
  rw [fX5_isBootableFrom_35] at hf
  refine v_iconst (v := 0) C dX5_isBootableFrom_35 (by decide) ?_
  refine v_sub [0] rfl ?_
  exact wX5_isBootableFrom_36 hg hj  C  _ _  hf
set_option maxHeartbeats 4000000 in
set_option maxRecDepth 100000 in
theorem cX5_isBootableFrom_ok {l : Launch} {ρ : bsR} {cA : Nat → ClassId} {dC : Nat → ClassId} {dI : Nat → Nat → Nat} {Rz : va_W} {g j : Nat} (hg : g < 13) (hj : j < 6) {a1 : Int32} {X : bsX} {z : (Int32 × bsX)} (hf : fX5_isBootableFrom g j a1 X = some z) : bsMi l yX5_isBootableFrom cX5_isBootableFrom 3 (some .boolean) rmX5_isBootableFrom ρ cA dC dI Rz [.ref (ρ g 5 j), .int a1] X z := by
  refine bsMi_of (by decide) (Nat.le_of_ble_eq_true rfl) (fun p e s m args below meth c C => ?_)
  have C : bsCx p m c cX5_isBootableFrom 3 s args (Cond.code yX5_isBootableFrom cX5_isBootableFrom 3 (some .boolean) :: bsG) RX5 ρ cA dC dI Rz meth (some .boolean) := C
  rw [fX5_isBootableFrom] at hf
  refine v_sub [0, 1] rfl ?_
  refine v_aload_n C dX5_isBootableFrom_0 rfl rfl ?_
  refine gf_X5_10 C hg hj dX5_isBootableFrom_1 ?_
  refine gf_X5_53 C hg (Nat.lt_succ_of_lt hj) dX5_isBootableFrom_4 ?_
  refine v_if_eq (tgt := 35) C dX5_isBootableFrom_7 (by decide) (fun h7 => ?_) (fun h7 => ?_)
  · replace hf := bs_pos h7 hf
    refine v_sub [0] rfl ?_
    exact wX5_isBootableFrom_35 hg hj  C  _  hf
  · replace hf := bs_neg h7 hf
    refine v_aload_n C dX5_isBootableFrom_10 rfl rfl ?_
    refine gf_X5_10 C hg hj dX5_isBootableFrom_11 ?_
    refine gf_X5_56 C hg (Nat.lt_succ_of_lt hj) dX5_isBootableFrom_14 ?_
    refine v_if_ne (tgt := 35) C dX5_isBootableFrom_17 (by decide) (fun h6 => ?_) (fun h6 => ?_)
    · replace hf := bs_neg h6 hf
      refine v_sub [0] rfl ?_
      exact wX5_isBootableFrom_35 hg hj  C  _  hf
    · replace hf := bs_pos h6 hf
      refine v_aload_n C dX5_isBootableFrom_20 rfl rfl ?_
      refine gf_X5_10 C hg hj dX5_isBootableFrom_21 ?_
      refine gf_X5_59 C hg (Nat.lt_succ_of_lt hj) dX5_isBootableFrom_24 ?_
      refine v_iload_n C dX5_isBootableFrom_27 rfl rfl ?_
      refine v_icmp_lt (tgt := 35) C dX5_isBootableFrom_28 (by decide) (fun h5 => ?_) (fun h5 => ?_)
      · replace hf := bs_pos h5 hf
        refine v_sub [0] rfl ?_
        exact wX5_isBootableFrom_35 hg hj  C  _  hf
      · replace hf := bs_neg h5 hf
        refine v_iconst (v := 1) C dX5_isBootableFrom_31 (by decide) ?_
        refine v_goto (tgt := 36) C dX5_isBootableFrom_32 (by decide) ?_
        refine v_sub [0] rfl ?_
        exact wX5_isBootableFrom_36 hg hj  C  _ _  hf
/-! BootSlots$Slot.isAheadOf(LBootSlots$Slot;)Z -/
def fX5_isAheadOf (g j j2 : Nat) (X : bsX) : Option (Int32 × bsX) := if (X g 5 j 2) = (X g 5 j2 2) then (if (X g 5 j 4) = (X g 5 j2 4) then (if (X g 6 j 1) = (X g 6 j2 1) then (if (nI j2) ≤ (nI j) then (some ((0 : Int32), X)) else (some ((1 : Int32), X))) else (if (X g 6 j 1) ≤ (X g 6 j2 1) then (some ((0 : Int32), X)) else (some ((1 : Int32), X)))) else (if (X g 5 j 4) = 0 ∨ (X g 5 j 4) = 1 then (some ((X g 5 j 4), X)) else none)) else (if (X g 5 j 2) ≤ (X g 5 j2 2) then (some ((0 : Int32), X)) else (some ((1 : Int32), X)))
abbrev rmX5_isAheadOf : Room := { frames := 0, cells := 0, slots := 0, locals := 0 }
set_option maxHeartbeats 4000000 in
set_option maxRecDepth 100000 in
theorem cX5_isAheadOf_ok {l : Launch} {ρ : bsR} {cA : Nat → ClassId} {dC : Nat → ClassId} {dI : Nat → Nat → Nat} {Rz : va_W} {g j j2 : Nat} (hg : g < 13) (hj : j < 6) (hj2 : j2 < 6) {X : bsX} {z : (Int32 × bsX)} (hf : fX5_isAheadOf g j j2 X = some z) : bsMi l yX5_isAheadOf cX5_isAheadOf 2 (some .boolean) rmX5_isAheadOf ρ cA dC dI Rz [.ref (ρ g 5 j), .ref (ρ g 5 j2)] X z := by
  refine bsMi_of (by decide) (Nat.le_of_ble_eq_true rfl) (fun p e s m args below meth c C => ?_)
  have C : bsCx p m c cX5_isAheadOf 2 s args (Cond.code yX5_isAheadOf cX5_isAheadOf 2 (some .boolean) :: bsG) RX5 ρ cA dC dI Rz meth (some .boolean) := C
  rw [fX5_isAheadOf] at hf
  refine v_sub [0, 1] rfl ?_
  refine v_aload_n C dX5_isAheadOf_0 rfl rfl ?_
  refine gf_X5_24 C hg hj dX5_isAheadOf_1 ?_
  refine v_aload_n C dX5_isAheadOf_4 rfl rfl ?_
  refine gf_X5_24 C hg hj2 dX5_isAheadOf_5 ?_
  refine v_icmp_eq (tgt := 28) C dX5_isAheadOf_8 (by decide) (fun h7 => ?_) (fun h7 => ?_)
  · replace hf := bs_pos h7 hf
    refine v_aload_n C dX5_isAheadOf_28 rfl rfl ?_
    refine gf_X5_30 C hg hj dX5_isAheadOf_29 ?_
    refine v_aload_n C dX5_isAheadOf_32 rfl rfl ?_
    refine gf_X5_30 C hg hj2 dX5_isAheadOf_33 ?_
    refine v_icmp_eq (tgt := 44) C dX5_isAheadOf_36 (by decide) (fun h5 => ?_) (fun h5 => ?_)
    · replace hf := bs_pos h5 hf
      refine v_aload_n C dX5_isAheadOf_44 rfl rfl ?_
      refine gf_X5_10 C hg hj dX5_isAheadOf_45 ?_
      refine gf_X5_59 C hg (Nat.lt_succ_of_lt hj) dX5_isAheadOf_48 ?_
      refine v_aload_n C dX5_isAheadOf_51 rfl rfl ?_
      refine gf_X5_10 C hg hj2 dX5_isAheadOf_52 ?_
      refine gf_X5_59 C hg (Nat.lt_succ_of_lt hj2) dX5_isAheadOf_55 ?_
      refine v_icmp_eq (tgt := 84) C dX5_isAheadOf_58 (by decide) (fun h3 => ?_) (fun h3 => ?_)
      · replace hf := bs_pos h3 hf
        refine v_aload_n C dX5_isAheadOf_84 rfl rfl ?_
        refine gf_X5_16 C hg hj dX5_isAheadOf_85 ?_
        refine v_aload_n C dX5_isAheadOf_88 rfl rfl ?_
        refine gf_X5_16 C hg hj2 dX5_isAheadOf_89 ?_
        refine v_icmp_ge (tgt := 99) C dX5_isAheadOf_92 (by decide) (fun h1 => ?_) (fun h1 => ?_)
        · replace hf := bs_pos h1 hf
          refine v_iconst (v := 0) C dX5_isAheadOf_99 (by decide) ?_
          exact v_zret C (bsZ01 (by decide)).1 hf dX5_isAheadOf_100
        · replace hf := bs_neg h1 hf
          refine v_iconst (v := 1) C dX5_isAheadOf_95 (by decide) ?_
          refine v_goto (tgt := 100) C dX5_isAheadOf_96 (by decide) ?_
          exact v_zret C (bsZ01 (by decide)).1 hf dX5_isAheadOf_100
      · replace hf := bs_neg h3 hf
        refine v_aload_n C dX5_isAheadOf_61 rfl rfl ?_
        refine gf_X5_10 C hg hj dX5_isAheadOf_62 ?_
        refine gf_X5_59 C hg (Nat.lt_succ_of_lt hj) dX5_isAheadOf_65 ?_
        refine v_aload_n C dX5_isAheadOf_68 rfl rfl ?_
        refine gf_X5_10 C hg hj2 dX5_isAheadOf_69 ?_
        refine gf_X5_59 C hg (Nat.lt_succ_of_lt hj2) dX5_isAheadOf_72 ?_
        refine v_icmp_le (tgt := 82) C dX5_isAheadOf_75 (by decide) (fun h2 => ?_) (fun h2 => ?_)
        · replace hf := bs_pos h2 hf
          refine v_iconst (v := 0) C dX5_isAheadOf_82 (by decide) ?_
          exact v_zret C (bsZ01 (by decide)).1 hf dX5_isAheadOf_83
        · replace hf := bs_neg h2 hf
          refine v_iconst (v := 1) C dX5_isAheadOf_78 (by decide) ?_
          refine v_goto (tgt := 83) C dX5_isAheadOf_79 (by decide) ?_
          exact v_zret C (bsZ01 (by decide)).1 hf dX5_isAheadOf_83
    · replace hf := bs_neg h5 hf
      refine v_aload_n C dX5_isAheadOf_39 rfl rfl ?_
      refine gf_X5_30 C hg hj dX5_isAheadOf_40 ?_
      obtain ⟨hb4, hf⟩ := bs_if hf
      exact v_zret C (bsZ01 hb4).1 hf dX5_isAheadOf_43
  · replace hf := bs_neg h7 hf
    refine v_aload_n C dX5_isAheadOf_11 rfl rfl ?_
    refine gf_X5_24 C hg hj dX5_isAheadOf_12 ?_
    refine v_aload_n C dX5_isAheadOf_15 rfl rfl ?_
    refine gf_X5_24 C hg hj2 dX5_isAheadOf_16 ?_
    refine v_icmp_le (tgt := 26) C dX5_isAheadOf_19 (by decide) (fun h6 => ?_) (fun h6 => ?_)
    · replace hf := bs_pos h6 hf
      refine v_iconst (v := 0) C dX5_isAheadOf_26 (by decide) ?_
      exact v_zret C (bsZ01 (by decide)).1 hf dX5_isAheadOf_27
    · replace hf := bs_neg h6 hf
      refine v_iconst (v := 1) C dX5_isAheadOf_22 (by decide) ?_
      refine v_goto (tgt := 27) C dX5_isAheadOf_23 (by decide) ?_
      exact v_zret C (bsZ01 (by decide)).1 hf dX5_isAheadOf_27
/-! BootSlots$Tally.copyFrom(LBootSlots$Tally;)V -/
def fX6_copyFrom (g g2 : Nat) (X : bsX) : Option bsX := some (bsWr (bsWr (bsWr (bsWr (bsWr (bsWr (bsWr X g 4 0 0 (X g2 4 0 0)) g 4 0 1 ((bsWr X g 4 0 0 (X g2 4 0 0)) g2 4 0 1)) g 4 0 2 ((bsWr (bsWr X g 4 0 0 (X g2 4 0 0)) g 4 0 1 ((bsWr X g 4 0 0 (X g2 4 0 0)) g2 4 0 1)) g2 4 0 2)) g 4 0 3 ((bsWr (bsWr (bsWr X g 4 0 0 (X g2 4 0 0)) g 4 0 1 ((bsWr X g 4 0 0 (X g2 4 0 0)) g2 4 0 1)) g 4 0 2 ((bsWr (bsWr X g 4 0 0 (X g2 4 0 0)) g 4 0 1 ((bsWr X g 4 0 0 (X g2 4 0 0)) g2 4 0 1)) g2 4 0 2)) g2 4 0 3)) g 4 0 4 ((bsWr (bsWr (bsWr (bsWr X g 4 0 0 (X g2 4 0 0)) g 4 0 1 ((bsWr X g 4 0 0 (X g2 4 0 0)) g2 4 0 1)) g 4 0 2 ((bsWr (bsWr X g 4 0 0 (X g2 4 0 0)) g 4 0 1 ((bsWr X g 4 0 0 (X g2 4 0 0)) g2 4 0 1)) g2 4 0 2)) g 4 0 3 ((bsWr (bsWr (bsWr X g 4 0 0 (X g2 4 0 0)) g 4 0 1 ((bsWr X g 4 0 0 (X g2 4 0 0)) g2 4 0 1)) g 4 0 2 ((bsWr (bsWr X g 4 0 0 (X g2 4 0 0)) g 4 0 1 ((bsWr X g 4 0 0 (X g2 4 0 0)) g2 4 0 1)) g2 4 0 2)) g2 4 0 3)) g2 4 0 4)) g 4 0 5 ((bsWr (bsWr (bsWr (bsWr (bsWr X g 4 0 0 (X g2 4 0 0)) g 4 0 1 ((bsWr X g 4 0 0 (X g2 4 0 0)) g2 4 0 1)) g 4 0 2 ((bsWr (bsWr X g 4 0 0 (X g2 4 0 0)) g 4 0 1 ((bsWr X g 4 0 0 (X g2 4 0 0)) g2 4 0 1)) g2 4 0 2)) g 4 0 3 ((bsWr (bsWr (bsWr X g 4 0 0 (X g2 4 0 0)) g 4 0 1 ((bsWr X g 4 0 0 (X g2 4 0 0)) g2 4 0 1)) g 4 0 2 ((bsWr (bsWr X g 4 0 0 (X g2 4 0 0)) g 4 0 1 ((bsWr X g 4 0 0 (X g2 4 0 0)) g2 4 0 1)) g2 4 0 2)) g2 4 0 3)) g 4 0 4 ((bsWr (bsWr (bsWr (bsWr X g 4 0 0 (X g2 4 0 0)) g 4 0 1 ((bsWr X g 4 0 0 (X g2 4 0 0)) g2 4 0 1)) g 4 0 2 ((bsWr (bsWr X g 4 0 0 (X g2 4 0 0)) g 4 0 1 ((bsWr X g 4 0 0 (X g2 4 0 0)) g2 4 0 1)) g2 4 0 2)) g 4 0 3 ((bsWr (bsWr (bsWr X g 4 0 0 (X g2 4 0 0)) g 4 0 1 ((bsWr X g 4 0 0 (X g2 4 0 0)) g2 4 0 1)) g 4 0 2 ((bsWr (bsWr X g 4 0 0 (X g2 4 0 0)) g 4 0 1 ((bsWr X g 4 0 0 (X g2 4 0 0)) g2 4 0 1)) g2 4 0 2)) g2 4 0 3)) g2 4 0 4)) g2 4 0 5)) g 4 0 6 ((bsWr (bsWr (bsWr (bsWr (bsWr (bsWr X g 4 0 0 (X g2 4 0 0)) g 4 0 1 ((bsWr X g 4 0 0 (X g2 4 0 0)) g2 4 0 1)) g 4 0 2 ((bsWr (bsWr X g 4 0 0 (X g2 4 0 0)) g 4 0 1 ((bsWr X g 4 0 0 (X g2 4 0 0)) g2 4 0 1)) g2 4 0 2)) g 4 0 3 ((bsWr (bsWr (bsWr X g 4 0 0 (X g2 4 0 0)) g 4 0 1 ((bsWr X g 4 0 0 (X g2 4 0 0)) g2 4 0 1)) g 4 0 2 ((bsWr (bsWr X g 4 0 0 (X g2 4 0 0)) g 4 0 1 ((bsWr X g 4 0 0 (X g2 4 0 0)) g2 4 0 1)) g2 4 0 2)) g2 4 0 3)) g 4 0 4 ((bsWr (bsWr (bsWr (bsWr X g 4 0 0 (X g2 4 0 0)) g 4 0 1 ((bsWr X g 4 0 0 (X g2 4 0 0)) g2 4 0 1)) g 4 0 2 ((bsWr (bsWr X g 4 0 0 (X g2 4 0 0)) g 4 0 1 ((bsWr X g 4 0 0 (X g2 4 0 0)) g2 4 0 1)) g2 4 0 2)) g 4 0 3 ((bsWr (bsWr (bsWr X g 4 0 0 (X g2 4 0 0)) g 4 0 1 ((bsWr X g 4 0 0 (X g2 4 0 0)) g2 4 0 1)) g 4 0 2 ((bsWr (bsWr X g 4 0 0 (X g2 4 0 0)) g 4 0 1 ((bsWr X g 4 0 0 (X g2 4 0 0)) g2 4 0 1)) g2 4 0 2)) g2 4 0 3)) g2 4 0 4)) g 4 0 5 ((bsWr (bsWr (bsWr (bsWr (bsWr X g 4 0 0 (X g2 4 0 0)) g 4 0 1 ((bsWr X g 4 0 0 (X g2 4 0 0)) g2 4 0 1)) g 4 0 2 ((bsWr (bsWr X g 4 0 0 (X g2 4 0 0)) g 4 0 1 ((bsWr X g 4 0 0 (X g2 4 0 0)) g2 4 0 1)) g2 4 0 2)) g 4 0 3 ((bsWr (bsWr (bsWr X g 4 0 0 (X g2 4 0 0)) g 4 0 1 ((bsWr X g 4 0 0 (X g2 4 0 0)) g2 4 0 1)) g 4 0 2 ((bsWr (bsWr X g 4 0 0 (X g2 4 0 0)) g 4 0 1 ((bsWr X g 4 0 0 (X g2 4 0 0)) g2 4 0 1)) g2 4 0 2)) g2 4 0 3)) g 4 0 4 ((bsWr (bsWr (bsWr (bsWr X g 4 0 0 (X g2 4 0 0)) g 4 0 1 ((bsWr X g 4 0 0 (X g2 4 0 0)) g2 4 0 1)) g 4 0 2 ((bsWr (bsWr X g 4 0 0 (X g2 4 0 0)) g 4 0 1 ((bsWr X g 4 0 0 (X g2 4 0 0)) g2 4 0 1)) g2 4 0 2)) g 4 0 3 ((bsWr (bsWr (bsWr X g 4 0 0 (X g2 4 0 0)) g 4 0 1 ((bsWr X g 4 0 0 (X g2 4 0 0)) g2 4 0 1)) g 4 0 2 ((bsWr (bsWr X g 4 0 0 (X g2 4 0 0)) g 4 0 1 ((bsWr X g 4 0 0 (X g2 4 0 0)) g2 4 0 1)) g2 4 0 2)) g2 4 0 3)) g2 4 0 4)) g2 4 0 5)) g2 4 0 6))
abbrev rmX6_copyFrom : Room := { frames := 0, cells := 0, slots := 0, locals := 0 }
set_option maxHeartbeats 4000000 in
set_option maxRecDepth 100000 in
theorem cX6_copyFrom_ok {l : Launch} {ρ : bsR} {cA : Nat → ClassId} {dC : Nat → ClassId} {dI : Nat → Nat → Nat} {Rz : va_W} {g g2 : Nat} (hg : g < 13) (hg2 : g2 < 13) {X : bsX} {z : bsX} (hf : fX6_copyFrom g g2 X = some z) : bsMv l yX6_copyFrom cX6_copyFrom 2 none rmX6_copyFrom ρ cA dC dI Rz [.ref (ρ g 4 0), .ref (ρ g2 4 0)] X z := by
  refine bsMv_of (by decide) (Nat.le_of_ble_eq_true rfl) (fun p e s m args below meth c C => ?_)
  have C : bsCx p m c cX6_copyFrom 2 s args (Cond.code yX6_copyFrom cX6_copyFrom 2 none :: bsG) RX6 ρ cA dC dI Rz meth none := C
  rw [fX6_copyFrom] at hf
  refine v_sub [0, 1] rfl ?_
  refine v_aload_n C dX6_copyFrom_0 rfl rfl ?_
  refine v_aload_n C dX6_copyFrom_1 rfl rfl ?_
  refine gf_X6_7 C hg2 dX6_copyFrom_2 ?_
  refine pf_X6_7 C hg dX6_copyFrom_5 ?_
  refine v_aload_n C dX6_copyFrom_8 rfl rfl ?_
  refine v_aload_n C dX6_copyFrom_9 rfl rfl ?_
  refine gf_X6_13 C hg2 dX6_copyFrom_10 ?_
  refine pf_X6_13 C hg dX6_copyFrom_13 ?_
  refine v_aload_n C dX6_copyFrom_16 rfl rfl ?_
  refine v_aload_n C dX6_copyFrom_17 rfl rfl ?_
  refine gf_X6_16 C hg2 dX6_copyFrom_18 ?_
  refine pf_X6_16 C hg dX6_copyFrom_21 ?_
  refine v_aload_n C dX6_copyFrom_24 rfl rfl ?_
  refine v_aload_n C dX6_copyFrom_25 rfl rfl ?_
  refine gf_X6_19 C hg2 dX6_copyFrom_26 ?_
  refine pf_X6_19 C hg dX6_copyFrom_29 ?_
  refine v_aload_n C dX6_copyFrom_32 rfl rfl ?_
  refine v_aload_n C dX6_copyFrom_33 rfl rfl ?_
  refine gf_X6_22 C hg2 dX6_copyFrom_34 ?_
  refine pf_X6_22 C hg dX6_copyFrom_37 ?_
  refine v_aload_n C dX6_copyFrom_40 rfl rfl ?_
  refine v_aload_n C dX6_copyFrom_41 rfl rfl ?_
  refine gf_X6_25 C hg2 dX6_copyFrom_42 ?_
  refine pf_X6_25 C hg dX6_copyFrom_45 ?_
  refine v_aload_n C dX6_copyFrom_48 rfl rfl ?_
  refine v_aload_n C dX6_copyFrom_49 rfl rfl ?_
  refine gf_X6_28 C hg2 dX6_copyFrom_50 ?_
  refine pf_X6_28 C hg dX6_copyFrom_53 ?_
  exact v_vret C hf dX6_copyFrom_56
/-! BootSlots$Machine.copyFrom(LBootSlots$Machine;)V -/
def fX3_copyFrom_2 (g g2 : Nat) : Nat → Int32 → bsX → Option bsX
  | 0, _, _ => none
  | n + 1, x2, X => if (6 : Int32) ≤ x2 then ((fX2_copyFrom g g2  X).bind fun r1 => (fX0_copyFrom g g2  r1).bind fun r3 => (fX6_copyFrom g g2  r3).bind fun r5 => if ((bsWr (bsWr (bsWr (bsWr (bsWr (bsWr r5 g 0 0 4 (r5 g2 0 0 4)) g 0 0 5 ((bsWr r5 g 0 0 4 (r5 g2 0 0 4)) g2 0 0 5)) g 0 0 6 ((bsWr (bsWr r5 g 0 0 4 (r5 g2 0 0 4)) g 0 0 5 ((bsWr r5 g 0 0 4 (r5 g2 0 0 4)) g2 0 0 5)) g2 0 0 6)) g 0 0 7 ((bsWr (bsWr (bsWr r5 g 0 0 4 (r5 g2 0 0 4)) g 0 0 5 ((bsWr r5 g 0 0 4 (r5 g2 0 0 4)) g2 0 0 5)) g 0 0 6 ((bsWr (bsWr r5 g 0 0 4 (r5 g2 0 0 4)) g 0 0 5 ((bsWr r5 g 0 0 4 (r5 g2 0 0 4)) g2 0 0 5)) g2 0 0 6)) g2 0 0 7)) g 0 0 8 ((bsWr (bsWr (bsWr (bsWr r5 g 0 0 4 (r5 g2 0 0 4)) g 0 0 5 ((bsWr r5 g 0 0 4 (r5 g2 0 0 4)) g2 0 0 5)) g 0 0 6 ((bsWr (bsWr r5 g 0 0 4 (r5 g2 0 0 4)) g 0 0 5 ((bsWr r5 g 0 0 4 (r5 g2 0 0 4)) g2 0 0 5)) g2 0 0 6)) g 0 0 7 ((bsWr (bsWr (bsWr r5 g 0 0 4 (r5 g2 0 0 4)) g 0 0 5 ((bsWr r5 g 0 0 4 (r5 g2 0 0 4)) g2 0 0 5)) g 0 0 6 ((bsWr (bsWr r5 g 0 0 4 (r5 g2 0 0 4)) g 0 0 5 ((bsWr r5 g 0 0 4 (r5 g2 0 0 4)) g2 0 0 5)) g2 0 0 6)) g2 0 0 7)) g2 0 0 8)) g 0 0 9 ((bsWr (bsWr (bsWr (bsWr (bsWr r5 g 0 0 4 (r5 g2 0 0 4)) g 0 0 5 ((bsWr r5 g 0 0 4 (r5 g2 0 0 4)) g2 0 0 5)) g 0 0 6 ((bsWr (bsWr r5 g 0 0 4 (r5 g2 0 0 4)) g 0 0 5 ((bsWr r5 g 0 0 4 (r5 g2 0 0 4)) g2 0 0 5)) g2 0 0 6)) g 0 0 7 ((bsWr (bsWr (bsWr r5 g 0 0 4 (r5 g2 0 0 4)) g 0 0 5 ((bsWr r5 g 0 0 4 (r5 g2 0 0 4)) g2 0 0 5)) g 0 0 6 ((bsWr (bsWr r5 g 0 0 4 (r5 g2 0 0 4)) g 0 0 5 ((bsWr r5 g 0 0 4 (r5 g2 0 0 4)) g2 0 0 5)) g2 0 0 6)) g2 0 0 7)) g 0 0 8 ((bsWr (bsWr (bsWr (bsWr r5 g 0 0 4 (r5 g2 0 0 4)) g 0 0 5 ((bsWr r5 g 0 0 4 (r5 g2 0 0 4)) g2 0 0 5)) g 0 0 6 ((bsWr (bsWr r5 g 0 0 4 (r5 g2 0 0 4)) g 0 0 5 ((bsWr r5 g 0 0 4 (r5 g2 0 0 4)) g2 0 0 5)) g2 0 0 6)) g 0 0 7 ((bsWr (bsWr (bsWr r5 g 0 0 4 (r5 g2 0 0 4)) g 0 0 5 ((bsWr r5 g 0 0 4 (r5 g2 0 0 4)) g2 0 0 5)) g 0 0 6 ((bsWr (bsWr r5 g 0 0 4 (r5 g2 0 0 4)) g 0 0 5 ((bsWr r5 g 0 0 4 (r5 g2 0 0 4)) g2 0 0 5)) g2 0 0 6)) g2 0 0 7)) g2 0 0 8)) g2 0 0 9)) g2 0 0 10) = 0 ∨ ((bsWr (bsWr (bsWr (bsWr (bsWr (bsWr r5 g 0 0 4 (r5 g2 0 0 4)) g 0 0 5 ((bsWr r5 g 0 0 4 (r5 g2 0 0 4)) g2 0 0 5)) g 0 0 6 ((bsWr (bsWr r5 g 0 0 4 (r5 g2 0 0 4)) g 0 0 5 ((bsWr r5 g 0 0 4 (r5 g2 0 0 4)) g2 0 0 5)) g2 0 0 6)) g 0 0 7 ((bsWr (bsWr (bsWr r5 g 0 0 4 (r5 g2 0 0 4)) g 0 0 5 ((bsWr r5 g 0 0 4 (r5 g2 0 0 4)) g2 0 0 5)) g 0 0 6 ((bsWr (bsWr r5 g 0 0 4 (r5 g2 0 0 4)) g 0 0 5 ((bsWr r5 g 0 0 4 (r5 g2 0 0 4)) g2 0 0 5)) g2 0 0 6)) g2 0 0 7)) g 0 0 8 ((bsWr (bsWr (bsWr (bsWr r5 g 0 0 4 (r5 g2 0 0 4)) g 0 0 5 ((bsWr r5 g 0 0 4 (r5 g2 0 0 4)) g2 0 0 5)) g 0 0 6 ((bsWr (bsWr r5 g 0 0 4 (r5 g2 0 0 4)) g 0 0 5 ((bsWr r5 g 0 0 4 (r5 g2 0 0 4)) g2 0 0 5)) g2 0 0 6)) g 0 0 7 ((bsWr (bsWr (bsWr r5 g 0 0 4 (r5 g2 0 0 4)) g 0 0 5 ((bsWr r5 g 0 0 4 (r5 g2 0 0 4)) g2 0 0 5)) g 0 0 6 ((bsWr (bsWr r5 g 0 0 4 (r5 g2 0 0 4)) g 0 0 5 ((bsWr r5 g 0 0 4 (r5 g2 0 0 4)) g2 0 0 5)) g2 0 0 6)) g2 0 0 7)) g2 0 0 8)) g 0 0 9 ((bsWr (bsWr (bsWr (bsWr (bsWr r5 g 0 0 4 (r5 g2 0 0 4)) g 0 0 5 ((bsWr r5 g 0 0 4 (r5 g2 0 0 4)) g2 0 0 5)) g 0 0 6 ((bsWr (bsWr r5 g 0 0 4 (r5 g2 0 0 4)) g 0 0 5 ((bsWr r5 g 0 0 4 (r5 g2 0 0 4)) g2 0 0 5)) g2 0 0 6)) g 0 0 7 ((bsWr (bsWr (bsWr r5 g 0 0 4 (r5 g2 0 0 4)) g 0 0 5 ((bsWr r5 g 0 0 4 (r5 g2 0 0 4)) g2 0 0 5)) g 0 0 6 ((bsWr (bsWr r5 g 0 0 4 (r5 g2 0 0 4)) g 0 0 5 ((bsWr r5 g 0 0 4 (r5 g2 0 0 4)) g2 0 0 5)) g2 0 0 6)) g2 0 0 7)) g 0 0 8 ((bsWr (bsWr (bsWr (bsWr r5 g 0 0 4 (r5 g2 0 0 4)) g 0 0 5 ((bsWr r5 g 0 0 4 (r5 g2 0 0 4)) g2 0 0 5)) g 0 0 6 ((bsWr (bsWr r5 g 0 0 4 (r5 g2 0 0 4)) g 0 0 5 ((bsWr r5 g 0 0 4 (r5 g2 0 0 4)) g2 0 0 5)) g2 0 0 6)) g 0 0 7 ((bsWr (bsWr (bsWr r5 g 0 0 4 (r5 g2 0 0 4)) g 0 0 5 ((bsWr r5 g 0 0 4 (r5 g2 0 0 4)) g2 0 0 5)) g 0 0 6 ((bsWr (bsWr r5 g 0 0 4 (r5 g2 0 0 4)) g 0 0 5 ((bsWr r5 g 0 0 4 (r5 g2 0 0 4)) g2 0 0 5)) g2 0 0 6)) g2 0 0 7)) g2 0 0 8)) g2 0 0 9)) g2 0 0 10) = 1 then (some (bsWr (bsWr (bsWr (bsWr (bsWr (bsWr (bsWr (bsWr (bsWr r5 g 0 0 4 (r5 g2 0 0 4)) g 0 0 5 ((bsWr r5 g 0 0 4 (r5 g2 0 0 4)) g2 0 0 5)) g 0 0 6 ((bsWr (bsWr r5 g 0 0 4 (r5 g2 0 0 4)) g 0 0 5 ((bsWr r5 g 0 0 4 (r5 g2 0 0 4)) g2 0 0 5)) g2 0 0 6)) g 0 0 7 ((bsWr (bsWr (bsWr r5 g 0 0 4 (r5 g2 0 0 4)) g 0 0 5 ((bsWr r5 g 0 0 4 (r5 g2 0 0 4)) g2 0 0 5)) g 0 0 6 ((bsWr (bsWr r5 g 0 0 4 (r5 g2 0 0 4)) g 0 0 5 ((bsWr r5 g 0 0 4 (r5 g2 0 0 4)) g2 0 0 5)) g2 0 0 6)) g2 0 0 7)) g 0 0 8 ((bsWr (bsWr (bsWr (bsWr r5 g 0 0 4 (r5 g2 0 0 4)) g 0 0 5 ((bsWr r5 g 0 0 4 (r5 g2 0 0 4)) g2 0 0 5)) g 0 0 6 ((bsWr (bsWr r5 g 0 0 4 (r5 g2 0 0 4)) g 0 0 5 ((bsWr r5 g 0 0 4 (r5 g2 0 0 4)) g2 0 0 5)) g2 0 0 6)) g 0 0 7 ((bsWr (bsWr (bsWr r5 g 0 0 4 (r5 g2 0 0 4)) g 0 0 5 ((bsWr r5 g 0 0 4 (r5 g2 0 0 4)) g2 0 0 5)) g 0 0 6 ((bsWr (bsWr r5 g 0 0 4 (r5 g2 0 0 4)) g 0 0 5 ((bsWr r5 g 0 0 4 (r5 g2 0 0 4)) g2 0 0 5)) g2 0 0 6)) g2 0 0 7)) g2 0 0 8)) g 0 0 9 ((bsWr (bsWr (bsWr (bsWr (bsWr r5 g 0 0 4 (r5 g2 0 0 4)) g 0 0 5 ((bsWr r5 g 0 0 4 (r5 g2 0 0 4)) g2 0 0 5)) g 0 0 6 ((bsWr (bsWr r5 g 0 0 4 (r5 g2 0 0 4)) g 0 0 5 ((bsWr r5 g 0 0 4 (r5 g2 0 0 4)) g2 0 0 5)) g2 0 0 6)) g 0 0 7 ((bsWr (bsWr (bsWr r5 g 0 0 4 (r5 g2 0 0 4)) g 0 0 5 ((bsWr r5 g 0 0 4 (r5 g2 0 0 4)) g2 0 0 5)) g 0 0 6 ((bsWr (bsWr r5 g 0 0 4 (r5 g2 0 0 4)) g 0 0 5 ((bsWr r5 g 0 0 4 (r5 g2 0 0 4)) g2 0 0 5)) g2 0 0 6)) g2 0 0 7)) g 0 0 8 ((bsWr (bsWr (bsWr (bsWr r5 g 0 0 4 (r5 g2 0 0 4)) g 0 0 5 ((bsWr r5 g 0 0 4 (r5 g2 0 0 4)) g2 0 0 5)) g 0 0 6 ((bsWr (bsWr r5 g 0 0 4 (r5 g2 0 0 4)) g 0 0 5 ((bsWr r5 g 0 0 4 (r5 g2 0 0 4)) g2 0 0 5)) g2 0 0 6)) g 0 0 7 ((bsWr (bsWr (bsWr r5 g 0 0 4 (r5 g2 0 0 4)) g 0 0 5 ((bsWr r5 g 0 0 4 (r5 g2 0 0 4)) g2 0 0 5)) g 0 0 6 ((bsWr (bsWr r5 g 0 0 4 (r5 g2 0 0 4)) g 0 0 5 ((bsWr r5 g 0 0 4 (r5 g2 0 0 4)) g2 0 0 5)) g2 0 0 6)) g2 0 0 7)) g2 0 0 8)) g2 0 0 9)) g 0 0 10 ((bsWr (bsWr (bsWr (bsWr (bsWr (bsWr r5 g 0 0 4 (r5 g2 0 0 4)) g 0 0 5 ((bsWr r5 g 0 0 4 (r5 g2 0 0 4)) g2 0 0 5)) g 0 0 6 ((bsWr (bsWr r5 g 0 0 4 (r5 g2 0 0 4)) g 0 0 5 ((bsWr r5 g 0 0 4 (r5 g2 0 0 4)) g2 0 0 5)) g2 0 0 6)) g 0 0 7 ((bsWr (bsWr (bsWr r5 g 0 0 4 (r5 g2 0 0 4)) g 0 0 5 ((bsWr r5 g 0 0 4 (r5 g2 0 0 4)) g2 0 0 5)) g 0 0 6 ((bsWr (bsWr r5 g 0 0 4 (r5 g2 0 0 4)) g 0 0 5 ((bsWr r5 g 0 0 4 (r5 g2 0 0 4)) g2 0 0 5)) g2 0 0 6)) g2 0 0 7)) g 0 0 8 ((bsWr (bsWr (bsWr (bsWr r5 g 0 0 4 (r5 g2 0 0 4)) g 0 0 5 ((bsWr r5 g 0 0 4 (r5 g2 0 0 4)) g2 0 0 5)) g 0 0 6 ((bsWr (bsWr r5 g 0 0 4 (r5 g2 0 0 4)) g 0 0 5 ((bsWr r5 g 0 0 4 (r5 g2 0 0 4)) g2 0 0 5)) g2 0 0 6)) g 0 0 7 ((bsWr (bsWr (bsWr r5 g 0 0 4 (r5 g2 0 0 4)) g 0 0 5 ((bsWr r5 g 0 0 4 (r5 g2 0 0 4)) g2 0 0 5)) g 0 0 6 ((bsWr (bsWr r5 g 0 0 4 (r5 g2 0 0 4)) g 0 0 5 ((bsWr r5 g 0 0 4 (r5 g2 0 0 4)) g2 0 0 5)) g2 0 0 6)) g2 0 0 7)) g2 0 0 8)) g 0 0 9 ((bsWr (bsWr (bsWr (bsWr (bsWr r5 g 0 0 4 (r5 g2 0 0 4)) g 0 0 5 ((bsWr r5 g 0 0 4 (r5 g2 0 0 4)) g2 0 0 5)) g 0 0 6 ((bsWr (bsWr r5 g 0 0 4 (r5 g2 0 0 4)) g 0 0 5 ((bsWr r5 g 0 0 4 (r5 g2 0 0 4)) g2 0 0 5)) g2 0 0 6)) g 0 0 7 ((bsWr (bsWr (bsWr r5 g 0 0 4 (r5 g2 0 0 4)) g 0 0 5 ((bsWr r5 g 0 0 4 (r5 g2 0 0 4)) g2 0 0 5)) g 0 0 6 ((bsWr (bsWr r5 g 0 0 4 (r5 g2 0 0 4)) g 0 0 5 ((bsWr r5 g 0 0 4 (r5 g2 0 0 4)) g2 0 0 5)) g2 0 0 6)) g2 0 0 7)) g 0 0 8 ((bsWr (bsWr (bsWr (bsWr r5 g 0 0 4 (r5 g2 0 0 4)) g 0 0 5 ((bsWr r5 g 0 0 4 (r5 g2 0 0 4)) g2 0 0 5)) g 0 0 6 ((bsWr (bsWr r5 g 0 0 4 (r5 g2 0 0 4)) g 0 0 5 ((bsWr r5 g 0 0 4 (r5 g2 0 0 4)) g2 0 0 5)) g2 0 0 6)) g 0 0 7 ((bsWr (bsWr (bsWr r5 g 0 0 4 (r5 g2 0 0 4)) g 0 0 5 ((bsWr r5 g 0 0 4 (r5 g2 0 0 4)) g2 0 0 5)) g 0 0 6 ((bsWr (bsWr r5 g 0 0 4 (r5 g2 0 0 4)) g 0 0 5 ((bsWr r5 g 0 0 4 (r5 g2 0 0 4)) g2 0 0 5)) g2 0 0 6)) g2 0 0 7)) g2 0 0 8)) g2 0 0 9)) g2 0 0 10)) g 0 0 11 ((bsWr (bsWr (bsWr (bsWr (bsWr (bsWr (bsWr r5 g 0 0 4 (r5 g2 0 0 4)) g 0 0 5 ((bsWr r5 g 0 0 4 (r5 g2 0 0 4)) g2 0 0 5)) g 0 0 6 ((bsWr (bsWr r5 g 0 0 4 (r5 g2 0 0 4)) g 0 0 5 ((bsWr r5 g 0 0 4 (r5 g2 0 0 4)) g2 0 0 5)) g2 0 0 6)) g 0 0 7 ((bsWr (bsWr (bsWr r5 g 0 0 4 (r5 g2 0 0 4)) g 0 0 5 ((bsWr r5 g 0 0 4 (r5 g2 0 0 4)) g2 0 0 5)) g 0 0 6 ((bsWr (bsWr r5 g 0 0 4 (r5 g2 0 0 4)) g 0 0 5 ((bsWr r5 g 0 0 4 (r5 g2 0 0 4)) g2 0 0 5)) g2 0 0 6)) g2 0 0 7)) g 0 0 8 ((bsWr (bsWr (bsWr (bsWr r5 g 0 0 4 (r5 g2 0 0 4)) g 0 0 5 ((bsWr r5 g 0 0 4 (r5 g2 0 0 4)) g2 0 0 5)) g 0 0 6 ((bsWr (bsWr r5 g 0 0 4 (r5 g2 0 0 4)) g 0 0 5 ((bsWr r5 g 0 0 4 (r5 g2 0 0 4)) g2 0 0 5)) g2 0 0 6)) g 0 0 7 ((bsWr (bsWr (bsWr r5 g 0 0 4 (r5 g2 0 0 4)) g 0 0 5 ((bsWr r5 g 0 0 4 (r5 g2 0 0 4)) g2 0 0 5)) g 0 0 6 ((bsWr (bsWr r5 g 0 0 4 (r5 g2 0 0 4)) g 0 0 5 ((bsWr r5 g 0 0 4 (r5 g2 0 0 4)) g2 0 0 5)) g2 0 0 6)) g2 0 0 7)) g2 0 0 8)) g 0 0 9 ((bsWr (bsWr (bsWr (bsWr (bsWr r5 g 0 0 4 (r5 g2 0 0 4)) g 0 0 5 ((bsWr r5 g 0 0 4 (r5 g2 0 0 4)) g2 0 0 5)) g 0 0 6 ((bsWr (bsWr r5 g 0 0 4 (r5 g2 0 0 4)) g 0 0 5 ((bsWr r5 g 0 0 4 (r5 g2 0 0 4)) g2 0 0 5)) g2 0 0 6)) g 0 0 7 ((bsWr (bsWr (bsWr r5 g 0 0 4 (r5 g2 0 0 4)) g 0 0 5 ((bsWr r5 g 0 0 4 (r5 g2 0 0 4)) g2 0 0 5)) g 0 0 6 ((bsWr (bsWr r5 g 0 0 4 (r5 g2 0 0 4)) g 0 0 5 ((bsWr r5 g 0 0 4 (r5 g2 0 0 4)) g2 0 0 5)) g2 0 0 6)) g2 0 0 7)) g 0 0 8 ((bsWr (bsWr (bsWr (bsWr r5 g 0 0 4 (r5 g2 0 0 4)) g 0 0 5 ((bsWr r5 g 0 0 4 (r5 g2 0 0 4)) g2 0 0 5)) g 0 0 6 ((bsWr (bsWr r5 g 0 0 4 (r5 g2 0 0 4)) g 0 0 5 ((bsWr r5 g 0 0 4 (r5 g2 0 0 4)) g2 0 0 5)) g2 0 0 6)) g 0 0 7 ((bsWr (bsWr (bsWr r5 g 0 0 4 (r5 g2 0 0 4)) g 0 0 5 ((bsWr r5 g 0 0 4 (r5 g2 0 0 4)) g2 0 0 5)) g 0 0 6 ((bsWr (bsWr r5 g 0 0 4 (r5 g2 0 0 4)) g 0 0 5 ((bsWr r5 g 0 0 4 (r5 g2 0 0 4)) g2 0 0 5)) g2 0 0 6)) g2 0 0 7)) g2 0 0 8)) g2 0 0 9)) g 0 0 10 ((bsWr (bsWr (bsWr (bsWr (bsWr (bsWr r5 g 0 0 4 (r5 g2 0 0 4)) g 0 0 5 ((bsWr r5 g 0 0 4 (r5 g2 0 0 4)) g2 0 0 5)) g 0 0 6 ((bsWr (bsWr r5 g 0 0 4 (r5 g2 0 0 4)) g 0 0 5 ((bsWr r5 g 0 0 4 (r5 g2 0 0 4)) g2 0 0 5)) g2 0 0 6)) g 0 0 7 ((bsWr (bsWr (bsWr r5 g 0 0 4 (r5 g2 0 0 4)) g 0 0 5 ((bsWr r5 g 0 0 4 (r5 g2 0 0 4)) g2 0 0 5)) g 0 0 6 ((bsWr (bsWr r5 g 0 0 4 (r5 g2 0 0 4)) g 0 0 5 ((bsWr r5 g 0 0 4 (r5 g2 0 0 4)) g2 0 0 5)) g2 0 0 6)) g2 0 0 7)) g 0 0 8 ((bsWr (bsWr (bsWr (bsWr r5 g 0 0 4 (r5 g2 0 0 4)) g 0 0 5 ((bsWr r5 g 0 0 4 (r5 g2 0 0 4)) g2 0 0 5)) g 0 0 6 ((bsWr (bsWr r5 g 0 0 4 (r5 g2 0 0 4)) g 0 0 5 ((bsWr r5 g 0 0 4 (r5 g2 0 0 4)) g2 0 0 5)) g2 0 0 6)) g 0 0 7 ((bsWr (bsWr (bsWr r5 g 0 0 4 (r5 g2 0 0 4)) g 0 0 5 ((bsWr r5 g 0 0 4 (r5 g2 0 0 4)) g2 0 0 5)) g 0 0 6 ((bsWr (bsWr r5 g 0 0 4 (r5 g2 0 0 4)) g 0 0 5 ((bsWr r5 g 0 0 4 (r5 g2 0 0 4)) g2 0 0 5)) g2 0 0 6)) g2 0 0 7)) g2 0 0 8)) g 0 0 9 ((bsWr (bsWr (bsWr (bsWr (bsWr r5 g 0 0 4 (r5 g2 0 0 4)) g 0 0 5 ((bsWr r5 g 0 0 4 (r5 g2 0 0 4)) g2 0 0 5)) g 0 0 6 ((bsWr (bsWr r5 g 0 0 4 (r5 g2 0 0 4)) g 0 0 5 ((bsWr r5 g 0 0 4 (r5 g2 0 0 4)) g2 0 0 5)) g2 0 0 6)) g 0 0 7 ((bsWr (bsWr (bsWr r5 g 0 0 4 (r5 g2 0 0 4)) g 0 0 5 ((bsWr r5 g 0 0 4 (r5 g2 0 0 4)) g2 0 0 5)) g 0 0 6 ((bsWr (bsWr r5 g 0 0 4 (r5 g2 0 0 4)) g 0 0 5 ((bsWr r5 g 0 0 4 (r5 g2 0 0 4)) g2 0 0 5)) g2 0 0 6)) g2 0 0 7)) g 0 0 8 ((bsWr (bsWr (bsWr (bsWr r5 g 0 0 4 (r5 g2 0 0 4)) g 0 0 5 ((bsWr r5 g 0 0 4 (r5 g2 0 0 4)) g2 0 0 5)) g 0 0 6 ((bsWr (bsWr r5 g 0 0 4 (r5 g2 0 0 4)) g 0 0 5 ((bsWr r5 g 0 0 4 (r5 g2 0 0 4)) g2 0 0 5)) g2 0 0 6)) g 0 0 7 ((bsWr (bsWr (bsWr r5 g 0 0 4 (r5 g2 0 0 4)) g 0 0 5 ((bsWr r5 g 0 0 4 (r5 g2 0 0 4)) g2 0 0 5)) g 0 0 6 ((bsWr (bsWr r5 g 0 0 4 (r5 g2 0 0 4)) g 0 0 5 ((bsWr r5 g 0 0 4 (r5 g2 0 0 4)) g2 0 0 5)) g2 0 0 6)) g2 0 0 7)) g2 0 0 8)) g2 0 0 9)) g2 0 0 10)) g2 0 0 11)) g 0 0 12 ((bsWr (bsWr (bsWr (bsWr (bsWr (bsWr (bsWr (bsWr r5 g 0 0 4 (r5 g2 0 0 4)) g 0 0 5 ((bsWr r5 g 0 0 4 (r5 g2 0 0 4)) g2 0 0 5)) g 0 0 6 ((bsWr (bsWr r5 g 0 0 4 (r5 g2 0 0 4)) g 0 0 5 ((bsWr r5 g 0 0 4 (r5 g2 0 0 4)) g2 0 0 5)) g2 0 0 6)) g 0 0 7 ((bsWr (bsWr (bsWr r5 g 0 0 4 (r5 g2 0 0 4)) g 0 0 5 ((bsWr r5 g 0 0 4 (r5 g2 0 0 4)) g2 0 0 5)) g 0 0 6 ((bsWr (bsWr r5 g 0 0 4 (r5 g2 0 0 4)) g 0 0 5 ((bsWr r5 g 0 0 4 (r5 g2 0 0 4)) g2 0 0 5)) g2 0 0 6)) g2 0 0 7)) g 0 0 8 ((bsWr (bsWr (bsWr (bsWr r5 g 0 0 4 (r5 g2 0 0 4)) g 0 0 5 ((bsWr r5 g 0 0 4 (r5 g2 0 0 4)) g2 0 0 5)) g 0 0 6 ((bsWr (bsWr r5 g 0 0 4 (r5 g2 0 0 4)) g 0 0 5 ((bsWr r5 g 0 0 4 (r5 g2 0 0 4)) g2 0 0 5)) g2 0 0 6)) g 0 0 7 ((bsWr (bsWr (bsWr r5 g 0 0 4 (r5 g2 0 0 4)) g 0 0 5 ((bsWr r5 g 0 0 4 (r5 g2 0 0 4)) g2 0 0 5)) g 0 0 6 ((bsWr (bsWr r5 g 0 0 4 (r5 g2 0 0 4)) g 0 0 5 ((bsWr r5 g 0 0 4 (r5 g2 0 0 4)) g2 0 0 5)) g2 0 0 6)) g2 0 0 7)) g2 0 0 8)) g 0 0 9 ((bsWr (bsWr (bsWr (bsWr (bsWr r5 g 0 0 4 (r5 g2 0 0 4)) g 0 0 5 ((bsWr r5 g 0 0 4 (r5 g2 0 0 4)) g2 0 0 5)) g 0 0 6 ((bsWr (bsWr r5 g 0 0 4 (r5 g2 0 0 4)) g 0 0 5 ((bsWr r5 g 0 0 4 (r5 g2 0 0 4)) g2 0 0 5)) g2 0 0 6)) g 0 0 7 ((bsWr (bsWr (bsWr r5 g 0 0 4 (r5 g2 0 0 4)) g 0 0 5 ((bsWr r5 g 0 0 4 (r5 g2 0 0 4)) g2 0 0 5)) g 0 0 6 ((bsWr (bsWr r5 g 0 0 4 (r5 g2 0 0 4)) g 0 0 5 ((bsWr r5 g 0 0 4 (r5 g2 0 0 4)) g2 0 0 5)) g2 0 0 6)) g2 0 0 7)) g 0 0 8 ((bsWr (bsWr (bsWr (bsWr r5 g 0 0 4 (r5 g2 0 0 4)) g 0 0 5 ((bsWr r5 g 0 0 4 (r5 g2 0 0 4)) g2 0 0 5)) g 0 0 6 ((bsWr (bsWr r5 g 0 0 4 (r5 g2 0 0 4)) g 0 0 5 ((bsWr r5 g 0 0 4 (r5 g2 0 0 4)) g2 0 0 5)) g2 0 0 6)) g 0 0 7 ((bsWr (bsWr (bsWr r5 g 0 0 4 (r5 g2 0 0 4)) g 0 0 5 ((bsWr r5 g 0 0 4 (r5 g2 0 0 4)) g2 0 0 5)) g 0 0 6 ((bsWr (bsWr r5 g 0 0 4 (r5 g2 0 0 4)) g 0 0 5 ((bsWr r5 g 0 0 4 (r5 g2 0 0 4)) g2 0 0 5)) g2 0 0 6)) g2 0 0 7)) g2 0 0 8)) g2 0 0 9)) g 0 0 10 ((bsWr (bsWr (bsWr (bsWr (bsWr (bsWr r5 g 0 0 4 (r5 g2 0 0 4)) g 0 0 5 ((bsWr r5 g 0 0 4 (r5 g2 0 0 4)) g2 0 0 5)) g 0 0 6 ((bsWr (bsWr r5 g 0 0 4 (r5 g2 0 0 4)) g 0 0 5 ((bsWr r5 g 0 0 4 (r5 g2 0 0 4)) g2 0 0 5)) g2 0 0 6)) g 0 0 7 ((bsWr (bsWr (bsWr r5 g 0 0 4 (r5 g2 0 0 4)) g 0 0 5 ((bsWr r5 g 0 0 4 (r5 g2 0 0 4)) g2 0 0 5)) g 0 0 6 ((bsWr (bsWr r5 g 0 0 4 (r5 g2 0 0 4)) g 0 0 5 ((bsWr r5 g 0 0 4 (r5 g2 0 0 4)) g2 0 0 5)) g2 0 0 6)) g2 0 0 7)) g 0 0 8 ((bsWr (bsWr (bsWr (bsWr r5 g 0 0 4 (r5 g2 0 0 4)) g 0 0 5 ((bsWr r5 g 0 0 4 (r5 g2 0 0 4)) g2 0 0 5)) g 0 0 6 ((bsWr (bsWr r5 g 0 0 4 (r5 g2 0 0 4)) g 0 0 5 ((bsWr r5 g 0 0 4 (r5 g2 0 0 4)) g2 0 0 5)) g2 0 0 6)) g 0 0 7 ((bsWr (bsWr (bsWr r5 g 0 0 4 (r5 g2 0 0 4)) g 0 0 5 ((bsWr r5 g 0 0 4 (r5 g2 0 0 4)) g2 0 0 5)) g 0 0 6 ((bsWr (bsWr r5 g 0 0 4 (r5 g2 0 0 4)) g 0 0 5 ((bsWr r5 g 0 0 4 (r5 g2 0 0 4)) g2 0 0 5)) g2 0 0 6)) g2 0 0 7)) g2 0 0 8)) g 0 0 9 ((bsWr (bsWr (bsWr (bsWr (bsWr r5 g 0 0 4 (r5 g2 0 0 4)) g 0 0 5 ((bsWr r5 g 0 0 4 (r5 g2 0 0 4)) g2 0 0 5)) g 0 0 6 ((bsWr (bsWr r5 g 0 0 4 (r5 g2 0 0 4)) g 0 0 5 ((bsWr r5 g 0 0 4 (r5 g2 0 0 4)) g2 0 0 5)) g2 0 0 6)) g 0 0 7 ((bsWr (bsWr (bsWr r5 g 0 0 4 (r5 g2 0 0 4)) g 0 0 5 ((bsWr r5 g 0 0 4 (r5 g2 0 0 4)) g2 0 0 5)) g 0 0 6 ((bsWr (bsWr r5 g 0 0 4 (r5 g2 0 0 4)) g 0 0 5 ((bsWr r5 g 0 0 4 (r5 g2 0 0 4)) g2 0 0 5)) g2 0 0 6)) g2 0 0 7)) g 0 0 8 ((bsWr (bsWr (bsWr (bsWr r5 g 0 0 4 (r5 g2 0 0 4)) g 0 0 5 ((bsWr r5 g 0 0 4 (r5 g2 0 0 4)) g2 0 0 5)) g 0 0 6 ((bsWr (bsWr r5 g 0 0 4 (r5 g2 0 0 4)) g 0 0 5 ((bsWr r5 g 0 0 4 (r5 g2 0 0 4)) g2 0 0 5)) g2 0 0 6)) g 0 0 7 ((bsWr (bsWr (bsWr r5 g 0 0 4 (r5 g2 0 0 4)) g 0 0 5 ((bsWr r5 g 0 0 4 (r5 g2 0 0 4)) g2 0 0 5)) g 0 0 6 ((bsWr (bsWr r5 g 0 0 4 (r5 g2 0 0 4)) g 0 0 5 ((bsWr r5 g 0 0 4 (r5 g2 0 0 4)) g2 0 0 5)) g2 0 0 6)) g2 0 0 7)) g2 0 0 8)) g2 0 0 9)) g2 0 0 10)) g 0 0 11 ((bsWr (bsWr (bsWr (bsWr (bsWr (bsWr (bsWr r5 g 0 0 4 (r5 g2 0 0 4)) g 0 0 5 ((bsWr r5 g 0 0 4 (r5 g2 0 0 4)) g2 0 0 5)) g 0 0 6 ((bsWr (bsWr r5 g 0 0 4 (r5 g2 0 0 4)) g 0 0 5 ((bsWr r5 g 0 0 4 (r5 g2 0 0 4)) g2 0 0 5)) g2 0 0 6)) g 0 0 7 ((bsWr (bsWr (bsWr r5 g 0 0 4 (r5 g2 0 0 4)) g 0 0 5 ((bsWr r5 g 0 0 4 (r5 g2 0 0 4)) g2 0 0 5)) g 0 0 6 ((bsWr (bsWr r5 g 0 0 4 (r5 g2 0 0 4)) g 0 0 5 ((bsWr r5 g 0 0 4 (r5 g2 0 0 4)) g2 0 0 5)) g2 0 0 6)) g2 0 0 7)) g 0 0 8 ((bsWr (bsWr (bsWr (bsWr r5 g 0 0 4 (r5 g2 0 0 4)) g 0 0 5 ((bsWr r5 g 0 0 4 (r5 g2 0 0 4)) g2 0 0 5)) g 0 0 6 ((bsWr (bsWr r5 g 0 0 4 (r5 g2 0 0 4)) g 0 0 5 ((bsWr r5 g 0 0 4 (r5 g2 0 0 4)) g2 0 0 5)) g2 0 0 6)) g 0 0 7 ((bsWr (bsWr (bsWr r5 g 0 0 4 (r5 g2 0 0 4)) g 0 0 5 ((bsWr r5 g 0 0 4 (r5 g2 0 0 4)) g2 0 0 5)) g 0 0 6 ((bsWr (bsWr r5 g 0 0 4 (r5 g2 0 0 4)) g 0 0 5 ((bsWr r5 g 0 0 4 (r5 g2 0 0 4)) g2 0 0 5)) g2 0 0 6)) g2 0 0 7)) g2 0 0 8)) g 0 0 9 ((bsWr (bsWr (bsWr (bsWr (bsWr r5 g 0 0 4 (r5 g2 0 0 4)) g 0 0 5 ((bsWr r5 g 0 0 4 (r5 g2 0 0 4)) g2 0 0 5)) g 0 0 6 ((bsWr (bsWr r5 g 0 0 4 (r5 g2 0 0 4)) g 0 0 5 ((bsWr r5 g 0 0 4 (r5 g2 0 0 4)) g2 0 0 5)) g2 0 0 6)) g 0 0 7 ((bsWr (bsWr (bsWr r5 g 0 0 4 (r5 g2 0 0 4)) g 0 0 5 ((bsWr r5 g 0 0 4 (r5 g2 0 0 4)) g2 0 0 5)) g 0 0 6 ((bsWr (bsWr r5 g 0 0 4 (r5 g2 0 0 4)) g 0 0 5 ((bsWr r5 g 0 0 4 (r5 g2 0 0 4)) g2 0 0 5)) g2 0 0 6)) g2 0 0 7)) g 0 0 8 ((bsWr (bsWr (bsWr (bsWr r5 g 0 0 4 (r5 g2 0 0 4)) g 0 0 5 ((bsWr r5 g 0 0 4 (r5 g2 0 0 4)) g2 0 0 5)) g 0 0 6 ((bsWr (bsWr r5 g 0 0 4 (r5 g2 0 0 4)) g 0 0 5 ((bsWr r5 g 0 0 4 (r5 g2 0 0 4)) g2 0 0 5)) g2 0 0 6)) g 0 0 7 ((bsWr (bsWr (bsWr r5 g 0 0 4 (r5 g2 0 0 4)) g 0 0 5 ((bsWr r5 g 0 0 4 (r5 g2 0 0 4)) g2 0 0 5)) g 0 0 6 ((bsWr (bsWr r5 g 0 0 4 (r5 g2 0 0 4)) g 0 0 5 ((bsWr r5 g 0 0 4 (r5 g2 0 0 4)) g2 0 0 5)) g2 0 0 6)) g2 0 0 7)) g2 0 0 8)) g2 0 0 9)) g 0 0 10 ((bsWr (bsWr (bsWr (bsWr (bsWr (bsWr r5 g 0 0 4 (r5 g2 0 0 4)) g 0 0 5 ((bsWr r5 g 0 0 4 (r5 g2 0 0 4)) g2 0 0 5)) g 0 0 6 ((bsWr (bsWr r5 g 0 0 4 (r5 g2 0 0 4)) g 0 0 5 ((bsWr r5 g 0 0 4 (r5 g2 0 0 4)) g2 0 0 5)) g2 0 0 6)) g 0 0 7 ((bsWr (bsWr (bsWr r5 g 0 0 4 (r5 g2 0 0 4)) g 0 0 5 ((bsWr r5 g 0 0 4 (r5 g2 0 0 4)) g2 0 0 5)) g 0 0 6 ((bsWr (bsWr r5 g 0 0 4 (r5 g2 0 0 4)) g 0 0 5 ((bsWr r5 g 0 0 4 (r5 g2 0 0 4)) g2 0 0 5)) g2 0 0 6)) g2 0 0 7)) g 0 0 8 ((bsWr (bsWr (bsWr (bsWr r5 g 0 0 4 (r5 g2 0 0 4)) g 0 0 5 ((bsWr r5 g 0 0 4 (r5 g2 0 0 4)) g2 0 0 5)) g 0 0 6 ((bsWr (bsWr r5 g 0 0 4 (r5 g2 0 0 4)) g 0 0 5 ((bsWr r5 g 0 0 4 (r5 g2 0 0 4)) g2 0 0 5)) g2 0 0 6)) g 0 0 7 ((bsWr (bsWr (bsWr r5 g 0 0 4 (r5 g2 0 0 4)) g 0 0 5 ((bsWr r5 g 0 0 4 (r5 g2 0 0 4)) g2 0 0 5)) g 0 0 6 ((bsWr (bsWr r5 g 0 0 4 (r5 g2 0 0 4)) g 0 0 5 ((bsWr r5 g 0 0 4 (r5 g2 0 0 4)) g2 0 0 5)) g2 0 0 6)) g2 0 0 7)) g2 0 0 8)) g 0 0 9 ((bsWr (bsWr (bsWr (bsWr (bsWr r5 g 0 0 4 (r5 g2 0 0 4)) g 0 0 5 ((bsWr r5 g 0 0 4 (r5 g2 0 0 4)) g2 0 0 5)) g 0 0 6 ((bsWr (bsWr r5 g 0 0 4 (r5 g2 0 0 4)) g 0 0 5 ((bsWr r5 g 0 0 4 (r5 g2 0 0 4)) g2 0 0 5)) g2 0 0 6)) g 0 0 7 ((bsWr (bsWr (bsWr r5 g 0 0 4 (r5 g2 0 0 4)) g 0 0 5 ((bsWr r5 g 0 0 4 (r5 g2 0 0 4)) g2 0 0 5)) g 0 0 6 ((bsWr (bsWr r5 g 0 0 4 (r5 g2 0 0 4)) g 0 0 5 ((bsWr r5 g 0 0 4 (r5 g2 0 0 4)) g2 0 0 5)) g2 0 0 6)) g2 0 0 7)) g 0 0 8 ((bsWr (bsWr (bsWr (bsWr r5 g 0 0 4 (r5 g2 0 0 4)) g 0 0 5 ((bsWr r5 g 0 0 4 (r5 g2 0 0 4)) g2 0 0 5)) g 0 0 6 ((bsWr (bsWr r5 g 0 0 4 (r5 g2 0 0 4)) g 0 0 5 ((bsWr r5 g 0 0 4 (r5 g2 0 0 4)) g2 0 0 5)) g2 0 0 6)) g 0 0 7 ((bsWr (bsWr (bsWr r5 g 0 0 4 (r5 g2 0 0 4)) g 0 0 5 ((bsWr r5 g 0 0 4 (r5 g2 0 0 4)) g2 0 0 5)) g 0 0 6 ((bsWr (bsWr r5 g 0 0 4 (r5 g2 0 0 4)) g 0 0 5 ((bsWr r5 g 0 0 4 (r5 g2 0 0 4)) g2 0 0 5)) g2 0 0 6)) g2 0 0 7)) g2 0 0 8)) g2 0 0 9)) g2 0 0 10)) g2 0 0 11)) g2 0 0 12))) else none) else (if bsIn x2 6 then ((fX5_copyFrom g (bsIx x2) g2 (bsIx x2)  X).bind fun r10 => fX3_copyFrom_2 g g2 n (x2 + (1 : Int32)) r10) else none)
def fX3_copyFrom (g g2 : Nat) (X : bsX) : Option bsX := fX3_copyFrom_2 g g2  bsF (0 : Int32) X
abbrev rmX3_copyFrom : Room := { frames := 2, cells := 0, slots := 0, locals := 44 }
set_option maxHeartbeats 4000000 in
set_option maxRecDepth 100000 in
theorem wX3_copyFrom_2 {p : Program} {l : Launch} {e : Env} {s : State} {m : MethodId} {args : Array Value} {below : List Frame} {meth : Method} {c : Code} {ρ : bsR} {cA : Nat → ClassId} {dC : Nat → ClassId} {dI : Nat → Nat → Nat} {Rz : va_W} {Ts : List Cond} {g g2 : Nat} (hg : g < 13) (hg2 : g2 < 13)  {z : bsX} (C : bsCx p m c cX3_copyFrom 3 s args Ts RX3 ρ cA dC dI Rz meth none) : ∀ (n : Nat) (x2 : Int32) (X : bsX), fX3_copyFrom_2 g g2 n x2 X = some z → bsV p l e rmX3_copyFrom s m args below meth c 0 0 (MQ below (bsQv ρ cA dC dI Rz z s.heap.size) args s 0 0 (bsA ρ cA Rz s.heap.size)) ρ cA dC dI Rz 3 2 [(0, .ref (ρ g 0 0)), (1, .ref (ρ g2 0 0)), (2, .int x2)] [] X := by
  intro n
  induction n with
  | zero => intro x2 X hf; exact (nomatch hf)
  | succ n ih =>
    intro x2 X hf
    rw [fX3_copyFrom_2] at hf
    refine v_iload_n C dX3_copyFrom_2 rfl rfl ?_
    refine v_bipush (v := 6) C dX3_copyFrom_3 (by decide) ?_
    refine v_icmp_ge (tgt := 29) C dX3_copyFrom_5 (by decide) (fun h12 => ?_) (fun h12 => ?_)
    · replace hf := bs_pos h12 hf
      refine v_aload_n C dX3_copyFrom_29 rfl rfl ?_
      refine gf_X3_20 C hg dX3_copyFrom_30 ?_
      refine v_aload_n C dX3_copyFrom_33 rfl rfl ?_
      refine gf_X3_20 C hg2 dX3_copyFrom_34 ?_
      obtain ⟨r1, hc2, hf⟩ := bs_bind hf
      refine v_callVv (y := yX2_copyFrom) (As := [.ref (ρ g2 2 0)]) (rest := []) C (cX2_copyFrom_ok hg hg2 hc2) ml_X3_49 wyX2_copyFrom (bsm_X2 hg) (bsc_X2 hg) rfl dpX2_copyFrom ⟨Nat.le_of_ble_eq_true rfl, Nat.le_of_ble_eq_true rfl⟩ ⟨rfl, rfl⟩ ⟨Nat.le_of_ble_eq_true rfl, Nat.le_of_ble_eq_true rfl⟩ rfl (Nat.le_of_ble_eq_true rfl) dX3_copyFrom_37 ?_
      refine v_aload_n C dX3_copyFrom_40 rfl rfl ?_
      refine gf_X3_27 C hg dX3_copyFrom_41 ?_
      refine v_aload_n C dX3_copyFrom_44 rfl rfl ?_
      refine gf_X3_27 C hg2 dX3_copyFrom_45 ?_
      obtain ⟨r3, hc4, hf⟩ := bs_bind hf
      refine v_callVv (y := yX0_copyFrom) (As := [.ref (ρ g2 3 0)]) (rest := []) C (cX0_copyFrom_ok hg hg2 hc4) ml_X3_52 wyX0_copyFrom (bsm_X0 hg) (bsc_X0 hg) rfl dpX0_copyFrom ⟨Nat.le_of_ble_eq_true rfl, Nat.le_of_ble_eq_true rfl⟩ ⟨rfl, rfl⟩ ⟨Nat.le_of_ble_eq_true rfl, Nat.le_of_ble_eq_true rfl⟩ rfl (Nat.le_of_ble_eq_true rfl) dX3_copyFrom_48 ?_
      refine v_aload_n C dX3_copyFrom_51 rfl rfl ?_
      refine gf_X3_34 C hg dX3_copyFrom_52 ?_
      refine v_aload_n C dX3_copyFrom_55 rfl rfl ?_
      refine gf_X3_34 C hg2 dX3_copyFrom_56 ?_
      obtain ⟨r5, hc6, hf⟩ := bs_bind hf
      refine v_callVv (y := yX6_copyFrom) (As := [.ref (ρ g2 4 0)]) (rest := []) C (cX6_copyFrom_ok hg hg2 hc6) ml_X3_55 wyX6_copyFrom (bsm_X6 hg) (bsc_X6 hg) rfl dpX6_copyFrom ⟨Nat.le_of_ble_eq_true rfl, Nat.le_of_ble_eq_true rfl⟩ ⟨rfl, rfl⟩ ⟨Nat.le_of_ble_eq_true rfl, Nat.le_of_ble_eq_true rfl⟩ rfl (Nat.le_of_ble_eq_true rfl) dX3_copyFrom_59 ?_
      refine v_aload_n C dX3_copyFrom_62 rfl rfl ?_
      refine v_aload_n C dX3_copyFrom_63 rfl rfl ?_
      refine gf_X3_58 C hg2 dX3_copyFrom_64 ?_
      refine pf_X3_58 C hg dX3_copyFrom_67 ?_
      refine v_aload_n C dX3_copyFrom_70 rfl rfl ?_
      refine v_aload_n C dX3_copyFrom_71 rfl rfl ?_
      refine gf_X3_61 C hg2 dX3_copyFrom_72 ?_
      refine pf_X3_61 C hg dX3_copyFrom_75 ?_
      refine v_aload_n C dX3_copyFrom_78 rfl rfl ?_
      refine v_aload_n C dX3_copyFrom_79 rfl rfl ?_
      refine gf_X3_64 C hg2 dX3_copyFrom_80 ?_
      refine pf_X3_64 C hg dX3_copyFrom_83 ?_
      refine v_aload_n C dX3_copyFrom_86 rfl rfl ?_
      refine v_aload_n C dX3_copyFrom_87 rfl rfl ?_
      refine gf_X3_67 C hg2 dX3_copyFrom_88 ?_
      refine pf_X3_67 C hg dX3_copyFrom_91 ?_
      refine v_aload_n C dX3_copyFrom_94 rfl rfl ?_
      refine v_aload_n C dX3_copyFrom_95 rfl rfl ?_
      refine gf_X3_70 C hg2 dX3_copyFrom_96 ?_
      refine pf_X3_70 C hg dX3_copyFrom_99 ?_
      refine v_aload_n C dX3_copyFrom_102 rfl rfl ?_
      refine v_aload_n C dX3_copyFrom_103 rfl rfl ?_
      refine gf_X3_73 C hg2 dX3_copyFrom_104 ?_
      refine pf_X3_73 C hg dX3_copyFrom_107 ?_
      refine v_aload_n C dX3_copyFrom_110 rfl rfl ?_
      refine v_aload_n C dX3_copyFrom_111 rfl rfl ?_
      refine gf_X3_76 C hg2 dX3_copyFrom_112 ?_
      obtain ⟨hb7, hf⟩ := bs_if hf
      refine pf_X3_76 C hg hb7 dX3_copyFrom_115 ?_
      refine v_aload_n C dX3_copyFrom_118 rfl rfl ?_
      refine v_aload_n C dX3_copyFrom_119 rfl rfl ?_
      refine gf_X3_38 C hg2 dX3_copyFrom_120 ?_
      refine pf_X3_38 C hg dX3_copyFrom_123 ?_
      refine v_aload_n C dX3_copyFrom_126 rfl rfl ?_
      refine v_aload_n C dX3_copyFrom_127 rfl rfl ?_
      refine gf_X3_80 C hg2 dX3_copyFrom_128 ?_
      refine pf_X3_80 C hg dX3_copyFrom_131 ?_
      exact v_vret C hf dX3_copyFrom_134
    · replace hf := bs_neg h12 hf
      refine v_aload_n C dX3_copyFrom_8 rfl rfl ?_
      refine gf_X3_11 C hg dX3_copyFrom_9 ?_
      refine v_iload_n C dX3_copyFrom_12 rfl rfl ?_
      obtain ⟨hi8, hf⟩ := bs_if hf
      refine v_aald (t0 := 3) (n := 6) C (bsm_K1 hg) (bsc_K1 hg) rfl hi8 rfl dX3_copyFrom_13 ?_
      refine v_aload_n C dX3_copyFrom_14 rfl rfl ?_
      refine gf_X3_11 C hg2 dX3_copyFrom_15 ?_
      refine v_iload_n C dX3_copyFrom_18 rfl rfl ?_
      refine v_aald (t0 := 3) (n := 6) C (bsm_K1 hg2) (bsc_K1 hg2) rfl hi8 rfl dX3_copyFrom_19 ?_
      obtain ⟨r10, hc11, hf⟩ := bs_bind hf
      refine v_callVv (y := yX5_copyFrom) (As := [.ref (ρ g2 5 (bsIx x2))]) (rest := []) C (cX5_copyFrom_ok hg (bsIx_lt hi8) hg2 (bsIx_lt hi8) hc11) ml_X3_45 wyX5_copyFrom (bsm_X5 hg (bsIx_lt hi8)) (bsc_X5 hg) rfl dpX5_copyFrom ⟨Nat.le_of_ble_eq_true rfl, Nat.le_of_ble_eq_true rfl⟩ ⟨rfl, rfl⟩ ⟨Nat.le_of_ble_eq_true rfl, Nat.le_of_ble_eq_true rfl⟩ rfl (Nat.le_of_ble_eq_true rfl) dX3_copyFrom_20 ?_
      refine v_iinc (k0 := 2) (v := (x2 + (1 : Int32))) (lv' := [(2, .int (x2 + (1 : Int32))), (0, .ref (ρ g 0 0)), (1, .ref (ρ g2 0 0))]) C dX3_copyFrom_23 rfl rfl (by decide) rfl ?_
      refine v_goto (tgt := 2) C dX3_copyFrom_26 (by decide) ?_
      refine v_sub [1, 2, 0] rfl ?_
      exact ih _ _  hf
set_option maxHeartbeats 4000000 in
set_option maxRecDepth 100000 in
theorem cX3_copyFrom_ok {l : Launch} {ρ : bsR} {cA : Nat → ClassId} {dC : Nat → ClassId} {dI : Nat → Nat → Nat} {Rz : va_W} {g g2 : Nat} (hg : g < 13) (hg2 : g2 < 13) {X : bsX} {z : bsX} (hf : fX3_copyFrom g g2 X = some z) : bsMv l yX3_copyFrom cX3_copyFrom 3 none rmX3_copyFrom ρ cA dC dI Rz [.ref (ρ g 0 0), .ref (ρ g2 0 0)] X z := by
  refine bsMv_of (by decide) (Nat.le_of_ble_eq_true rfl) (fun p e s m args below meth c C => ?_)
  have C : bsCx p m c cX3_copyFrom 3 s args (Cond.code yX3_copyFrom cX3_copyFrom 3 none :: bsG) RX3 ρ cA dC dI Rz meth none := C
  rw [fX3_copyFrom] at hf
  refine v_sub [0, 1] rfl ?_
  refine v_iconst (v := 0) C dX3_copyFrom_0 (by decide) ?_
  refine v_istore_n (lv' := [(2, .int (0 : Int32)), (0, .ref (ρ g 0 0)), (1, .ref (ρ g2 0 0))]) C dX3_copyFrom_1 rfl (by decide) rfl ?_
  refine v_sub [1, 2, 0] rfl ?_
  exact wX3_copyFrom_2 hg hg2  C  bsF _ _  hf
/-! BootSlots$Machine.isRunning()Z -/
def fX3_isRunning (g : Nat) (X : bsX) : Option (Int32 × bsX) := if (X g 0 0 11) < 0 then (some ((0 : Int32), X)) else (if (6 : Int32) ≤ (X g 0 0 11) then (some ((0 : Int32), X)) else (some ((1 : Int32), X)))
abbrev rmX3_isRunning : Room := { frames := 0, cells := 0, slots := 0, locals := 0 }
set_option maxHeartbeats 4000000 in
set_option maxRecDepth 100000 in
theorem cX3_isRunning_ok {l : Launch} {ρ : bsR} {cA : Nat → ClassId} {dC : Nat → ClassId} {dI : Nat → Nat → Nat} {Rz : va_W} {g : Nat} (hg : g < 13) {X : bsX} {z : (Int32 × bsX)} (hf : fX3_isRunning g X = some z) : bsMi l yX3_isRunning cX3_isRunning 1 (some .boolean) rmX3_isRunning ρ cA dC dI Rz [.ref (ρ g 0 0)] X z := by
  refine bsMi_of (by decide) (Nat.le_of_ble_eq_true rfl) (fun p e s m args below meth c C => ?_)
  have C : bsCx p m c cX3_isRunning 1 s args (Cond.code yX3_isRunning cX3_isRunning 1 (some .boolean) :: bsG) RX3 ρ cA dC dI Rz meth (some .boolean) := C
  rw [fX3_isRunning] at hf
  refine v_sub [0] rfl ?_
  refine v_aload_n C dX3_isRunning_0 rfl rfl ?_
  refine gf_X3_38 C hg dX3_isRunning_1 ?_
  refine v_if_lt (tgt := 20) C dX3_isRunning_4 (by decide) (fun h2 => ?_) (fun h2 => ?_)
  · replace hf := bs_pos h2 hf
    refine v_iconst (v := 0) C dX3_isRunning_20 (by decide) ?_
    exact v_zret C (bsZ01 (by decide)).1 hf dX3_isRunning_21
  · replace hf := bs_neg h2 hf
    refine v_aload_n C dX3_isRunning_7 rfl rfl ?_
    refine gf_X3_38 C hg dX3_isRunning_8 ?_
    refine v_bipush (v := 6) C dX3_isRunning_11 (by decide) ?_
    refine v_icmp_ge (tgt := 20) C dX3_isRunning_13 (by decide) (fun h1 => ?_) (fun h1 => ?_)
    · replace hf := bs_pos h1 hf
      refine v_iconst (v := 0) C dX3_isRunning_20 (by decide) ?_
      exact v_zret C (bsZ01 (by decide)).1 hf dX3_isRunning_21
    · replace hf := bs_neg h1 hf
      refine v_iconst (v := 1) C dX3_isRunning_16 (by decide) ?_
      refine v_goto (tgt := 21) C dX3_isRunning_17 (by decide) ?_
      exact v_zret C (bsZ01 (by decide)).1 hf dX3_isRunning_21
/-! BootSlots$Machine.isInRescue()Z -/
def fX3_isInRescue (g : Nat) (X : bsX) : Option (Int32 × bsX) := if (X g 0 0 10) = 0 then (some ((0 : Int32), X)) else ((fX3_isRunning g  X).bind fun r1 => if r1.1 = 0 then (some ((1 : Int32), r1.2)) else (some ((0 : Int32), r1.2)))
abbrev rmX3_isInRescue : Room := { frames := 1, cells := 0, slots := 0, locals := 20 }
set_option maxHeartbeats 4000000 in
set_option maxRecDepth 100000 in
theorem cX3_isInRescue_ok {l : Launch} {ρ : bsR} {cA : Nat → ClassId} {dC : Nat → ClassId} {dI : Nat → Nat → Nat} {Rz : va_W} {g : Nat} (hg : g < 13) {X : bsX} {z : (Int32 × bsX)} (hf : fX3_isInRescue g X = some z) : bsMi l yX3_isInRescue cX3_isInRescue 1 (some .boolean) rmX3_isInRescue ρ cA dC dI Rz [.ref (ρ g 0 0)] X z := by
  refine bsMi_of (by decide) (Nat.le_of_ble_eq_true rfl) (fun p e s m args below meth c C => ?_)
  have C : bsCx p m c cX3_isInRescue 1 s args (Cond.code yX3_isInRescue cX3_isInRescue 1 (some .boolean) :: bsG) RX3 ρ cA dC dI Rz meth (some .boolean) := C
  rw [fX3_isInRescue] at hf
  refine v_sub [0] rfl ?_
  refine v_aload_n C dX3_isInRescue_0 rfl rfl ?_
  refine gf_X3_76 C hg dX3_isInRescue_1 ?_
  refine v_if_eq (tgt := 18) C dX3_isInRescue_4 (by decide) (fun h4 => ?_) (fun h4 => ?_)
  · replace hf := bs_pos h4 hf
    refine v_iconst (v := 0) C dX3_isInRescue_18 (by decide) ?_
    exact v_zret C (bsZ01 (by decide)).1 hf dX3_isInRescue_19
  · replace hf := bs_neg h4 hf
    refine v_aload_n C dX3_isInRescue_7 rfl rfl ?_
    obtain ⟨r1, hc2, hf⟩ := bs_bind hf
    refine v_callVi (y := yX3_isRunning) (As := []) (rest := []) C (cX3_isRunning_ok hg hc2) ml_X3_83 wyX3_isRunning (bsm_X3 hg) (bsc_X3 hg) rfl dpX3_isRunning ⟨Nat.le_of_ble_eq_true rfl, Nat.le_of_ble_eq_true rfl⟩ ⟨rfl, rfl⟩ ⟨Nat.le_of_ble_eq_true rfl, Nat.le_of_ble_eq_true rfl⟩ rfl (Nat.le_of_ble_eq_true rfl) dX3_isInRescue_8 ?_
    refine v_if_ne (tgt := 18) C dX3_isInRescue_11 (by decide) (fun h3 => ?_) (fun h3 => ?_)
    · replace hf := bs_neg h3 hf
      refine v_iconst (v := 0) C dX3_isInRescue_18 (by decide) ?_
      exact v_zret C (bsZ01 (by decide)).1 hf dX3_isInRescue_19
    · replace hf := bs_pos h3 hf
      refine v_iconst (v := 1) C dX3_isInRescue_14 (by decide) ?_
      refine v_goto (tgt := 19) C dX3_isInRescue_15 (by decide) ?_
      exact v_zret C (bsZ01 (by decide)).1 hf dX3_isInRescue_19
/-! BootSlots$Machine.state()I -/
def fX3_state (g : Nat) (X : bsX) : Option (Int32 × bsX) := if (X g 0 0 10) = 0 then (some ((0 : Int32), X)) else ((fX3_isRunning g  X).bind fun r1 => if r1.1 = 0 then (some ((2 : Int32), r1.2)) else (some ((1 : Int32), r1.2)))
abbrev rmX3_state : Room := { frames := 1, cells := 0, slots := 0, locals := 20 }
set_option maxHeartbeats 4000000 in
set_option maxRecDepth 100000 in
theorem cX3_state_ok {l : Launch} {ρ : bsR} {cA : Nat → ClassId} {dC : Nat → ClassId} {dI : Nat → Nat → Nat} {Rz : va_W} {g : Nat} (hg : g < 13) {X : bsX} {z : (Int32 × bsX)} (hf : fX3_state g X = some z) : bsMi l yX3_state cX3_state 1 (some .int) rmX3_state ρ cA dC dI Rz [.ref (ρ g 0 0)] X z := by
  refine bsMi_of (by decide) (Nat.le_of_ble_eq_true rfl) (fun p e s m args below meth c C => ?_)
  have C : bsCx p m c cX3_state 1 s args (Cond.code yX3_state cX3_state 1 (some .int) :: bsG) RX3 ρ cA dC dI Rz meth (some .int) := C
  rw [fX3_state] at hf
  refine v_sub [0] rfl ?_
  refine v_aload_n C dX3_state_0 rfl rfl ?_
  refine gf_X3_76 C hg dX3_state_1 ?_
  refine v_if_ne (tgt := 9) C dX3_state_4 (by decide) (fun h4 => ?_) (fun h4 => ?_)
  · replace hf := bs_neg h4 hf
    refine v_aload_n C dX3_state_9 rfl rfl ?_
    obtain ⟨r1, hc2, hf⟩ := bs_bind hf
    refine v_callVi (y := yX3_isRunning) (As := []) (rest := []) C (cX3_isRunning_ok hg hc2) ml_X3_83 wyX3_isRunning (bsm_X3 hg) (bsc_X3 hg) rfl dpX3_isRunning ⟨Nat.le_of_ble_eq_true rfl, Nat.le_of_ble_eq_true rfl⟩ ⟨rfl, rfl⟩ ⟨Nat.le_of_ble_eq_true rfl, Nat.le_of_ble_eq_true rfl⟩ rfl (Nat.le_of_ble_eq_true rfl) dX3_state_10 ?_
    refine v_if_eq (tgt := 20) C dX3_state_13 (by decide) (fun h3 => ?_) (fun h3 => ?_)
    · replace hf := bs_pos h3 hf
      refine v_iconst (v := 2) C dX3_state_20 (by decide) ?_
      exact v_iret C hf dX3_state_21
    · replace hf := bs_neg h3 hf
      refine v_iconst (v := 1) C dX3_state_16 (by decide) ?_
      refine v_goto (tgt := 21) C dX3_state_17 (by decide) ?_
      exact v_iret C hf dX3_state_21
  · replace hf := bs_pos h4 hf
    refine v_iconst (v := 0) C dX3_state_7 (by decide) ?_
    exact v_iret C hf dX3_state_8
/-! BootSlots$Machine.isBootable(LBootSlots$Slot;)Z -/
def fX3_isBootable (g j1 : Nat) (X : bsX) : Option (Int32 × bsX) := (fX5_isBootableFrom g j1 (X g 0 0 8) X).bind fun r1 => if r1.1 = 0 ∨ r1.1 = 1 then (some (r1.1, r1.2)) else none
abbrev rmX3_isBootable : Room := { frames := 1, cells := 0, slots := 0, locals := 22 }
set_option maxHeartbeats 4000000 in
set_option maxRecDepth 100000 in
theorem cX3_isBootable_ok {l : Launch} {ρ : bsR} {cA : Nat → ClassId} {dC : Nat → ClassId} {dI : Nat → Nat → Nat} {Rz : va_W} {g j1 : Nat} (hg : g < 13) (hj1 : j1 < 6) {X : bsX} {z : (Int32 × bsX)} (hf : fX3_isBootable g j1 X = some z) : bsMi l yX3_isBootable cX3_isBootable 2 (some .boolean) rmX3_isBootable ρ cA dC dI Rz [.ref (ρ g 0 0), .ref (ρ g 5 j1)] X z := by
  refine bsMi_of (by decide) (Nat.le_of_ble_eq_true rfl) (fun p e s m args below meth c C => ?_)
  have C : bsCx p m c cX3_isBootable 2 s args (Cond.code yX3_isBootable cX3_isBootable 2 (some .boolean) :: bsG) RX3 ρ cA dC dI Rz meth (some .boolean) := C
  rw [fX3_isBootable] at hf
  refine v_sub [0, 1] rfl ?_
  refine v_aload_n C dX3_isBootable_0 rfl rfl ?_
  refine v_aload_n C dX3_isBootable_1 rfl rfl ?_
  refine gf_X3_70 C hg dX3_isBootable_2 ?_
  obtain ⟨r1, hc2, hf⟩ := bs_bind hf
  refine v_callVi (y := yX5_isBootableFrom) (As := [.int (X g 0 0 8)]) (rest := []) C (cX5_isBootableFrom_ok hg hj1 hc2) ml_X3_96 wyX5_isBootableFrom (bsm_X5 hg hj1) (bsc_X5 hg) rfl dpX5_isBootableFrom ⟨Nat.le_of_ble_eq_true rfl, Nat.le_of_ble_eq_true rfl⟩ ⟨rfl, rfl⟩ ⟨Nat.le_of_ble_eq_true rfl, Nat.le_of_ble_eq_true rfl⟩ rfl (Nat.le_of_ble_eq_true rfl) dX3_isBootable_5 ?_
  obtain ⟨hb3, hf⟩ := bs_if hf
  exact v_zret C (bsZ01 hb3).1 hf dX3_isBootable_8
/-! BootSlots$Machine.obstacle(LBootSlots$Slot;)I -/
def fX3_obstacle_63 (g j1 : Nat) (X : bsX) : Option (Int32 × bsX) := some ((0 : Int32), X)
def fX3_obstacle (g j1 : Nat) (X : bsX) : Option (Int32 × bsX) := if (X g 6 j1 0) = 0 then (some ((1 : Int32), X)) else (if (X g 6 j1 4) = 0 then (if (X g 0 0 8) ≤ (X g 6 j1 1) then (if (X g 5 j1 2) = 0 then (some ((4 : Int32), X)) else (if (X g 5 j1 4) = 0 then (if (X g 5 j1 3) ≤ 0 then (some ((5 : Int32), X)) else (fX3_obstacle_63 g j1   X)) else (fX3_obstacle_63 g j1   X))) else (some ((3 : Int32), X))) else (some ((2 : Int32), X)))
abbrev rmX3_obstacle : Room := { frames := 0, cells := 0, slots := 0, locals := 0 }
set_option maxHeartbeats 4000000 in
set_option maxRecDepth 100000 in
theorem wX3_obstacle_63 {p : Program} {l : Launch} {e : Env} {s : State} {m : MethodId} {args : Array Value} {below : List Frame} {meth : Method} {c : Code} {ρ : bsR} {cA : Nat → ClassId} {dC : Nat → ClassId} {dI : Nat → Nat → Nat} {Rz : va_W} {Ts : List Cond} {g j1 : Nat} (hg : g < 13) (hj1 : j1 < 6)  {z : (Int32 × bsX)} (C : bsCx p m c cX3_obstacle 2 s args Ts RX3 ρ cA dC dI Rz meth (some .int)) (X : bsX) (hf : fX3_obstacle_63 g j1 X = some z) : bsV p l e rmX3_obstacle s m args below meth c 0 0 (MQ below (bsQi ρ cA dC dI Rz z s.heap.size) args s 0 0 (bsA ρ cA Rz s.heap.size)) ρ cA dC dI Rz 2 63 [] [] X := by
  rw [fX3_obstacle_63] at hf
  refine v_iconst (v := 0) C dX3_obstacle_63 (by decide) ?_
  refine v_goto (tgt := 68) C dX3_obstacle_64 (by decide) ?_
  exact v_iret C hf dX3_obstacle_68
set_option maxHeartbeats 4000000 in
set_option maxRecDepth 100000 in
theorem cX3_obstacle_ok {l : Launch} {ρ : bsR} {cA : Nat → ClassId} {dC : Nat → ClassId} {dI : Nat → Nat → Nat} {Rz : va_W} {g j1 : Nat} (hg : g < 13) (hj1 : j1 < 6) {X : bsX} {z : (Int32 × bsX)} (hf : fX3_obstacle g j1 X = some z) : bsMi l yX3_obstacle cX3_obstacle 2 (some .int) rmX3_obstacle ρ cA dC dI Rz [.ref (ρ g 0 0), .ref (ρ g 5 j1)] X z := by
  refine bsMi_of (by decide) (Nat.le_of_ble_eq_true rfl) (fun p e s m args below meth c C => ?_)
  have C : bsCx p m c cX3_obstacle 2 s args (Cond.code yX3_obstacle cX3_obstacle 2 (some .int) :: bsG) RX3 ρ cA dC dI Rz meth (some .int) := C
  rw [fX3_obstacle] at hf
  refine v_sub [0, 1] rfl ?_
  refine v_aload_n C dX3_obstacle_0 rfl rfl ?_
  refine gf_X3_87 C hg hj1 dX3_obstacle_1 ?_
  refine gf_X3_100 C hg (Nat.lt_succ_of_lt hj1) dX3_obstacle_4 ?_
  refine v_if_ne (tgt := 12) C dX3_obstacle_7 (by decide) (fun h6 => ?_) (fun h6 => ?_)
  · replace hf := bs_neg h6 hf
    refine v_aload_n C dX3_obstacle_12 rfl rfl ?_
    refine gf_X3_87 C hg hj1 dX3_obstacle_13 ?_
    refine gf_X3_103 C hg (Nat.lt_succ_of_lt hj1) dX3_obstacle_16 ?_
    refine v_if_eq (tgt := 24) C dX3_obstacle_19 (by decide) (fun h5 => ?_) (fun h5 => ?_)
    · replace hf := bs_pos h5 hf
      refine v_aload_n C dX3_obstacle_24 rfl rfl ?_
      refine gf_X3_87 C hg hj1 dX3_obstacle_25 ?_
      refine gf_X3_91 C hg (Nat.lt_succ_of_lt hj1) dX3_obstacle_28 ?_
      refine v_aload_n C dX3_obstacle_31 rfl rfl ?_
      refine gf_X3_70 C hg dX3_obstacle_32 ?_
      refine v_icmp_ge (tgt := 40) C dX3_obstacle_35 (by decide) (fun h4 => ?_) (fun h4 => ?_)
      · replace hf := bs_pos h4 hf
        refine v_aload_n C dX3_obstacle_40 rfl rfl ?_
        refine gf_X3_106 C hg hj1 dX3_obstacle_41 ?_
        refine v_if_ne (tgt := 49) C dX3_obstacle_44 (by decide) (fun h3 => ?_) (fun h3 => ?_)
        · replace hf := bs_neg h3 hf
          refine v_aload_n C dX3_obstacle_49 rfl rfl ?_
          refine gf_X3_109 C hg hj1 dX3_obstacle_50 ?_
          refine v_if_ne (tgt := 63) C dX3_obstacle_53 (by decide) (fun h2 => ?_) (fun h2 => ?_)
          · replace hf := bs_neg h2 hf
            refine v_sub [] rfl ?_
            exact wX3_obstacle_63 hg hj1  C  _  hf
          · replace hf := bs_pos h2 hf
            refine v_aload_n C dX3_obstacle_56 rfl rfl ?_
            refine gf_X3_112 C hg hj1 dX3_obstacle_57 ?_
            refine v_if_le (tgt := 67) C dX3_obstacle_60 (by decide) (fun h1 => ?_) (fun h1 => ?_)
            · replace hf := bs_pos h1 hf
              refine v_iconst (v := 5) C dX3_obstacle_67 (by decide) ?_
              exact v_iret C hf dX3_obstacle_68
            · replace hf := bs_neg h1 hf
              refine v_sub [] rfl ?_
              exact wX3_obstacle_63 hg hj1  C  _  hf
        · replace hf := bs_pos h3 hf
          refine v_iconst (v := 4) C dX3_obstacle_47 (by decide) ?_
          exact v_iret C hf dX3_obstacle_48
      · replace hf := bs_neg h4 hf
        refine v_iconst (v := 3) C dX3_obstacle_38 (by decide) ?_
        exact v_iret C hf dX3_obstacle_39
    · replace hf := bs_neg h5 hf
      refine v_iconst (v := 2) C dX3_obstacle_22 (by decide) ?_
      exact v_iret C hf dX3_obstacle_23
  · replace hf := bs_pos h6 hf
    refine v_iconst (v := 1) C dX3_obstacle_10 (by decide) ?_
    exact v_iret C hf dX3_obstacle_11
/-! BootSlots$Machine.bootableSlots()I -/
def fX3_bootableSlots_26 (g : Nat) (k4 : Int32 → Int32 → bsX → Option (Int32 × bsX)) (x1 : Int32) (x2 : Int32) (X : bsX) : Option (Int32 × bsX) := k4 x1 (x2 + (1 : Int32)) X
def fX3_bootableSlots_4 (g : Nat) : Nat → Int32 → Int32 → bsX → Option (Int32 × bsX)
  | 0, _, _, _ => none
  | n + 1, x1, x2, X => if (6 : Int32) ≤ x2 then (some (x1, X)) else (if bsIn x2 6 then ((fX3_isBootable g (bsIx x2)  X).bind fun r2 => if r2.1 = 0 then (fX3_bootableSlots_26 g (fX3_bootableSlots_4 g n) x1 x2 r2.2) else (fX3_bootableSlots_26 g (fX3_bootableSlots_4 g n) (x1 + (1 : Int32)) x2 r2.2)) else none)
def fX3_bootableSlots (g : Nat) (X : bsX) : Option (Int32 × bsX) := fX3_bootableSlots_4 g  bsF (0 : Int32) (0 : Int32) X
abbrev rmX3_bootableSlots : Room := { frames := 2, cells := 0, slots := 0, locals := 43 }
set_option maxHeartbeats 4000000 in
set_option maxRecDepth 100000 in
theorem wX3_bootableSlots_26 {p : Program} {l : Launch} {e : Env} {s : State} {m : MethodId} {args : Array Value} {below : List Frame} {meth : Method} {c : Code} {ρ : bsR} {cA : Nat → ClassId} {dC : Nat → ClassId} {dI : Nat → Nat → Nat} {Rz : va_W} {Ts : List Cond} {g : Nat} (hg : g < 13) (k4 : Int32 → Int32 → bsX → Option (Int32 × bsX))  {z : (Int32 × bsX)} (C : bsCx p m c cX3_bootableSlots 3 s args Ts RX3 ρ cA dC dI Rz meth (some .int)) (hk4 : ∀ (x1 : Int32) (x2 : Int32) (X : bsX), k4 x1 x2 X = some z → bsV p l e rmX3_bootableSlots s m args below meth c 0 0 (MQ below (bsQi ρ cA dC dI Rz z s.heap.size) args s 0 0 (bsA ρ cA Rz s.heap.size)) ρ cA dC dI Rz 3 4 [(0, .ref (ρ g 0 0)), (1, .int x1), (2, .int x2)] [] X)  (x1 : Int32) (x2 : Int32) (X : bsX) (hf : fX3_bootableSlots_26 g k4 x1 x2 X = some z) : bsV p l e rmX3_bootableSlots s m args below meth c 0 0 (MQ below (bsQi ρ cA dC dI Rz z s.heap.size) args s 0 0 (bsA ρ cA Rz s.heap.size)) ρ cA dC dI Rz 3 26 [(0, .ref (ρ g 0 0)), (1, .int x1), (2, .int x2)] [] X := by
  rw [fX3_bootableSlots_26] at hf
  refine v_iinc (k0 := 2) (v := (x2 + (1 : Int32))) (lv' := [(2, .int (x2 + (1 : Int32))), (0, .ref (ρ g 0 0)), (1, .int x1)]) C dX3_bootableSlots_26 rfl rfl (by decide) rfl ?_
  refine v_goto (tgt := 4) C dX3_bootableSlots_29 (by decide) ?_
  refine v_sub [1, 2, 0] rfl ?_
  exact hk4 _ _ _  hf
set_option maxHeartbeats 4000000 in
set_option maxRecDepth 100000 in
theorem wX3_bootableSlots_4 {p : Program} {l : Launch} {e : Env} {s : State} {m : MethodId} {args : Array Value} {below : List Frame} {meth : Method} {c : Code} {ρ : bsR} {cA : Nat → ClassId} {dC : Nat → ClassId} {dI : Nat → Nat → Nat} {Rz : va_W} {Ts : List Cond} {g : Nat} (hg : g < 13)  {z : (Int32 × bsX)} (C : bsCx p m c cX3_bootableSlots 3 s args Ts RX3 ρ cA dC dI Rz meth (some .int)) : ∀ (n : Nat) (x1 : Int32) (x2 : Int32) (X : bsX), fX3_bootableSlots_4 g n x1 x2 X = some z → bsV p l e rmX3_bootableSlots s m args below meth c 0 0 (MQ below (bsQi ρ cA dC dI Rz z s.heap.size) args s 0 0 (bsA ρ cA Rz s.heap.size)) ρ cA dC dI Rz 3 4 [(0, .ref (ρ g 0 0)), (1, .int x1), (2, .int x2)] [] X := by
  intro n
  induction n with
  | zero => intro x1 x2 X hf; exact (nomatch hf)
  | succ n ih =>
    intro x1 x2 X hf
    rw [fX3_bootableSlots_4] at hf
    refine v_iload_n C dX3_bootableSlots_4 rfl rfl ?_
    refine v_bipush (v := 6) C dX3_bootableSlots_5 (by decide) ?_
    refine v_icmp_ge (tgt := 32) C dX3_bootableSlots_7 (by decide) (fun h5 => ?_) (fun h5 => ?_)
    · replace hf := bs_pos h5 hf
      refine v_iload_n C dX3_bootableSlots_32 rfl rfl ?_
      exact v_iret C hf dX3_bootableSlots_33
    · replace hf := bs_neg h5 hf
      refine v_aload_n C dX3_bootableSlots_10 rfl rfl ?_
      refine v_aload_n C dX3_bootableSlots_11 rfl rfl ?_
      refine gf_X3_11 C hg dX3_bootableSlots_12 ?_
      refine v_iload_n C dX3_bootableSlots_15 rfl rfl ?_
      obtain ⟨hi1, hf⟩ := bs_if hf
      refine v_aald (t0 := 3) (n := 6) C (bsm_K1 hg) (bsc_K1 hg) rfl hi1 rfl dX3_bootableSlots_16 ?_
      obtain ⟨r2, hc3, hf⟩ := bs_bind hf
      refine v_callVi (y := yX3_isBootable) (As := [.ref (ρ g 5 (bsIx x2))]) (rest := []) C (cX3_isBootable_ok hg (bsIx_lt hi1) hc3) ml_X3_115 wyX3_isBootable (bsm_X3 hg) (bsc_X3 hg) rfl dpX3_isBootable ⟨Nat.le_of_ble_eq_true rfl, Nat.le_of_ble_eq_true rfl⟩ ⟨rfl, rfl⟩ ⟨Nat.le_of_ble_eq_true rfl, Nat.le_of_ble_eq_true rfl⟩ rfl (Nat.le_of_ble_eq_true rfl) dX3_bootableSlots_17 ?_
      refine v_if_eq (tgt := 26) C dX3_bootableSlots_20 (by decide) (fun h4 => ?_) (fun h4 => ?_)
      · replace hf := bs_pos h4 hf
        refine v_sub [0, 1, 2] rfl ?_
        exact wX3_bootableSlots_26 hg (fX3_bootableSlots_4 g n) C (fun b0 b1 X  h => ih b0 b1 X  h) _ _ _  hf
      · replace hf := bs_neg h4 hf
        refine v_iinc (k0 := 1) (v := (x1 + (1 : Int32))) (lv' := [(1, .int (x1 + (1 : Int32))), (0, .ref (ρ g 0 0)), (2, .int x2)]) C dX3_bootableSlots_23 rfl rfl (by decide) rfl ?_
        refine v_sub [1, 0, 2] rfl ?_
        exact wX3_bootableSlots_26 hg (fX3_bootableSlots_4 g n) C (fun b0 b1 X  h => ih b0 b1 X  h) _ _ _  hf
set_option maxHeartbeats 4000000 in
set_option maxRecDepth 100000 in
theorem cX3_bootableSlots_ok {l : Launch} {ρ : bsR} {cA : Nat → ClassId} {dC : Nat → ClassId} {dI : Nat → Nat → Nat} {Rz : va_W} {g : Nat} (hg : g < 13) {X : bsX} {z : (Int32 × bsX)} (hf : fX3_bootableSlots g X = some z) : bsMi l yX3_bootableSlots cX3_bootableSlots 3 (some .int) rmX3_bootableSlots ρ cA dC dI Rz [.ref (ρ g 0 0)] X z := by
  refine bsMi_of (by decide) (Nat.le_of_ble_eq_true rfl) (fun p e s m args below meth c C => ?_)
  have C : bsCx p m c cX3_bootableSlots 3 s args (Cond.code yX3_bootableSlots cX3_bootableSlots 3 (some .int) :: bsG) RX3 ρ cA dC dI Rz meth (some .int) := C
  rw [fX3_bootableSlots] at hf
  refine v_sub [0] rfl ?_
  refine v_iconst (v := 0) C dX3_bootableSlots_0 (by decide) ?_
  refine v_istore_n (lv' := [(1, .int (0 : Int32)), (0, .ref (ρ g 0 0))]) C dX3_bootableSlots_1 rfl (by decide) rfl ?_
  refine v_iconst (v := 0) C dX3_bootableSlots_2 (by decide) ?_
  refine v_istore_n (lv' := [(2, .int (0 : Int32)), (1, .int (0 : Int32)), (0, .ref (ρ g 0 0))]) C dX3_bootableSlots_3 rfl (by decide) rfl ?_
  refine v_sub [2, 1, 0] rfl ?_
  exact wX3_bootableSlots_4 hg  C  bsF _ _ _  hf
/-! BootSlots$Machine.goodSlots()I -/
def fX3_goodSlots_25 (g : Nat) (k4 : Int32 → Int32 → bsX → Option (Int32 × bsX)) (x1 : Int32) (x2 : Int32) (X : bsX) : Option (Int32 × bsX) := k4 x1 (x2 + (1 : Int32)) X
def fX3_goodSlots_4 (g : Nat) : Nat → Int32 → Int32 → bsX → Option (Int32 × bsX)
  | 0, _, _, _ => none
  | n + 1, x1, x2, X => if (6 : Int32) ≤ x2 then (some (x1, X)) else (if bsIn x2 6 then (if (X g 5 (bsIx x2) 4) = 0 then (fX3_goodSlots_25 g (fX3_goodSlots_4 g n) x1 x2 X) else (fX3_goodSlots_25 g (fX3_goodSlots_4 g n) (x1 + (1 : Int32)) x2 X)) else none)
def fX3_goodSlots (g : Nat) (X : bsX) : Option (Int32 × bsX) := fX3_goodSlots_4 g  bsF (0 : Int32) (0 : Int32) X
abbrev rmX3_goodSlots : Room := { frames := 0, cells := 0, slots := 0, locals := 0 }
set_option maxHeartbeats 4000000 in
set_option maxRecDepth 100000 in
theorem wX3_goodSlots_25 {p : Program} {l : Launch} {e : Env} {s : State} {m : MethodId} {args : Array Value} {below : List Frame} {meth : Method} {c : Code} {ρ : bsR} {cA : Nat → ClassId} {dC : Nat → ClassId} {dI : Nat → Nat → Nat} {Rz : va_W} {Ts : List Cond} {g : Nat} (hg : g < 13) (k4 : Int32 → Int32 → bsX → Option (Int32 × bsX))  {z : (Int32 × bsX)} (C : bsCx p m c cX3_goodSlots 3 s args Ts RX3 ρ cA dC dI Rz meth (some .int)) (hk4 : ∀ (x1 : Int32) (x2 : Int32) (X : bsX), k4 x1 x2 X = some z → bsV p l e rmX3_goodSlots s m args below meth c 0 0 (MQ below (bsQi ρ cA dC dI Rz z s.heap.size) args s 0 0 (bsA ρ cA Rz s.heap.size)) ρ cA dC dI Rz 3 4 [(0, .ref (ρ g 0 0)), (1, .int x1), (2, .int x2)] [] X)  (x1 : Int32) (x2 : Int32) (X : bsX) (hf : fX3_goodSlots_25 g k4 x1 x2 X = some z) : bsV p l e rmX3_goodSlots s m args below meth c 0 0 (MQ below (bsQi ρ cA dC dI Rz z s.heap.size) args s 0 0 (bsA ρ cA Rz s.heap.size)) ρ cA dC dI Rz 3 25 [(0, .ref (ρ g 0 0)), (1, .int x1), (2, .int x2)] [] X := by
  rw [fX3_goodSlots_25] at hf
  refine v_iinc (k0 := 2) (v := (x2 + (1 : Int32))) (lv' := [(2, .int (x2 + (1 : Int32))), (0, .ref (ρ g 0 0)), (1, .int x1)]) C dX3_goodSlots_25 rfl rfl (by decide) rfl ?_
  refine v_goto (tgt := 4) C dX3_goodSlots_28 (by decide) ?_
  refine v_sub [1, 2, 0] rfl ?_
  exact hk4 _ _ _  hf
set_option maxHeartbeats 4000000 in
set_option maxRecDepth 100000 in
theorem wX3_goodSlots_4 {p : Program} {l : Launch} {e : Env} {s : State} {m : MethodId} {args : Array Value} {below : List Frame} {meth : Method} {c : Code} {ρ : bsR} {cA : Nat → ClassId} {dC : Nat → ClassId} {dI : Nat → Nat → Nat} {Rz : va_W} {Ts : List Cond} {g : Nat} (hg : g < 13)  {z : (Int32 × bsX)} (C : bsCx p m c cX3_goodSlots 3 s args Ts RX3 ρ cA dC dI Rz meth (some .int)) : ∀ (n : Nat) (x1 : Int32) (x2 : Int32) (X : bsX), fX3_goodSlots_4 g n x1 x2 X = some z → bsV p l e rmX3_goodSlots s m args below meth c 0 0 (MQ below (bsQi ρ cA dC dI Rz z s.heap.size) args s 0 0 (bsA ρ cA Rz s.heap.size)) ρ cA dC dI Rz 3 4 [(0, .ref (ρ g 0 0)), (1, .int x1), (2, .int x2)] [] X := by
  intro n
  induction n with
  | zero => intro x1 x2 X hf; exact (nomatch hf)
  | succ n ih =>
    intro x1 x2 X hf
    rw [fX3_goodSlots_4] at hf
    refine v_iload_n C dX3_goodSlots_4 rfl rfl ?_
    refine v_bipush (v := 6) C dX3_goodSlots_5 (by decide) ?_
    refine v_icmp_ge (tgt := 31) C dX3_goodSlots_7 (by decide) (fun h3 => ?_) (fun h3 => ?_)
    · replace hf := bs_pos h3 hf
      refine v_iload_n C dX3_goodSlots_31 rfl rfl ?_
      exact v_iret C hf dX3_goodSlots_32
    · replace hf := bs_neg h3 hf
      refine v_aload_n C dX3_goodSlots_10 rfl rfl ?_
      refine gf_X3_11 C hg dX3_goodSlots_11 ?_
      refine v_iload_n C dX3_goodSlots_14 rfl rfl ?_
      obtain ⟨hi1, hf⟩ := bs_if hf
      refine v_aald (t0 := 3) (n := 6) C (bsm_K1 hg) (bsc_K1 hg) rfl hi1 rfl dX3_goodSlots_15 ?_
      refine gf_X3_109 C hg (bsIx_lt hi1) dX3_goodSlots_16 ?_
      refine v_if_eq (tgt := 25) C dX3_goodSlots_19 (by decide) (fun h2 => ?_) (fun h2 => ?_)
      · replace hf := bs_pos h2 hf
        refine v_sub [0, 1, 2] rfl ?_
        exact wX3_goodSlots_25 hg (fX3_goodSlots_4 g n) C (fun b0 b1 X  h => ih b0 b1 X  h) _ _ _  hf
      · replace hf := bs_neg h2 hf
        refine v_iinc (k0 := 1) (v := (x1 + (1 : Int32))) (lv' := [(1, .int (x1 + (1 : Int32))), (0, .ref (ρ g 0 0)), (2, .int x2)]) C dX3_goodSlots_22 rfl rfl (by decide) rfl ?_
        refine v_sub [1, 0, 2] rfl ?_
        exact wX3_goodSlots_25 hg (fX3_goodSlots_4 g n) C (fun b0 b1 X  h => ih b0 b1 X  h) _ _ _  hf
set_option maxHeartbeats 4000000 in
set_option maxRecDepth 100000 in
theorem cX3_goodSlots_ok {l : Launch} {ρ : bsR} {cA : Nat → ClassId} {dC : Nat → ClassId} {dI : Nat → Nat → Nat} {Rz : va_W} {g : Nat} (hg : g < 13) {X : bsX} {z : (Int32 × bsX)} (hf : fX3_goodSlots g X = some z) : bsMi l yX3_goodSlots cX3_goodSlots 3 (some .int) rmX3_goodSlots ρ cA dC dI Rz [.ref (ρ g 0 0)] X z := by
  refine bsMi_of (by decide) (Nat.le_of_ble_eq_true rfl) (fun p e s m args below meth c C => ?_)
  have C : bsCx p m c cX3_goodSlots 3 s args (Cond.code yX3_goodSlots cX3_goodSlots 3 (some .int) :: bsG) RX3 ρ cA dC dI Rz meth (some .int) := C
  rw [fX3_goodSlots] at hf
  refine v_sub [0] rfl ?_
  refine v_iconst (v := 0) C dX3_goodSlots_0 (by decide) ?_
  refine v_istore_n (lv' := [(1, .int (0 : Int32)), (0, .ref (ρ g 0 0))]) C dX3_goodSlots_1 rfl (by decide) rfl ?_
  refine v_iconst (v := 0) C dX3_goodSlots_2 (by decide) ?_
  refine v_istore_n (lv' := [(2, .int (0 : Int32)), (1, .int (0 : Int32)), (0, .ref (ρ g 0 0))]) C dX3_goodSlots_3 rfl (by decide) rfl ?_
  refine v_sub [2, 1, 0] rfl ?_
  exact wX3_goodSlots_4 hg  C  bsF _ _ _  hf
/-! BootSlots$Machine.allTries()I -/
def fX3_allTries_4 (g : Nat) : Nat → Int32 → Int32 → bsX → Option (Int32 × bsX)
  | 0, _, _, _ => none
  | n + 1, x1, x2, X => if (6 : Int32) ≤ x2 then (some (x1, X)) else (if bsIn x2 6 then (fX3_allTries_4 g n (x1 + (X g 5 (bsIx x2) 3)) (x2 + (1 : Int32)) X) else none)
def fX3_allTries (g : Nat) (X : bsX) : Option (Int32 × bsX) := fX3_allTries_4 g  bsF (0 : Int32) (0 : Int32) X
abbrev rmX3_allTries : Room := { frames := 0, cells := 0, slots := 0, locals := 0 }
set_option maxHeartbeats 4000000 in
set_option maxRecDepth 100000 in
theorem wX3_allTries_4 {p : Program} {l : Launch} {e : Env} {s : State} {m : MethodId} {args : Array Value} {below : List Frame} {meth : Method} {c : Code} {ρ : bsR} {cA : Nat → ClassId} {dC : Nat → ClassId} {dI : Nat → Nat → Nat} {Rz : va_W} {Ts : List Cond} {g : Nat} (hg : g < 13)  {z : (Int32 × bsX)} (C : bsCx p m c cX3_allTries 3 s args Ts RX3 ρ cA dC dI Rz meth (some .int)) : ∀ (n : Nat) (x1 : Int32) (x2 : Int32) (X : bsX), fX3_allTries_4 g n x1 x2 X = some z → bsV p l e rmX3_allTries s m args below meth c 0 0 (MQ below (bsQi ρ cA dC dI Rz z s.heap.size) args s 0 0 (bsA ρ cA Rz s.heap.size)) ρ cA dC dI Rz 3 4 [(0, .ref (ρ g 0 0)), (1, .int x1), (2, .int x2)] [] X := by
  intro n
  induction n with
  | zero => intro x1 x2 X hf; exact (nomatch hf)
  | succ n ih =>
    intro x1 x2 X hf
    rw [fX3_allTries_4] at hf
    refine v_iload_n C dX3_allTries_4 rfl rfl ?_
    refine v_bipush (v := 6) C dX3_allTries_5 (by decide) ?_
    refine v_icmp_ge (tgt := 28) C dX3_allTries_7 (by decide) (fun h2 => ?_) (fun h2 => ?_)
    · replace hf := bs_pos h2 hf
      refine v_iload_n C dX3_allTries_28 rfl rfl ?_
      exact v_iret C hf dX3_allTries_29
    · replace hf := bs_neg h2 hf
      refine v_iload_n C dX3_allTries_10 rfl rfl ?_
      refine v_aload_n C dX3_allTries_11 rfl rfl ?_
      refine gf_X3_11 C hg dX3_allTries_12 ?_
      refine v_iload_n C dX3_allTries_15 rfl rfl ?_
      obtain ⟨hi1, hf⟩ := bs_if hf
      refine v_aald (t0 := 3) (n := 6) C (bsm_K1 hg) (bsc_K1 hg) rfl hi1 rfl dX3_allTries_16 ?_
      refine gf_X3_112 C hg (bsIx_lt hi1) dX3_allTries_17 ?_
      refine v_iadd C dX3_allTries_20 ?_
      refine v_istore_n (lv' := [(1, .int (x1 + (X g 5 (bsIx x2) 3))), (0, .ref (ρ g 0 0)), (2, .int x2)]) C dX3_allTries_21 rfl (by decide) rfl ?_
      refine v_iinc (k0 := 2) (v := (x2 + (1 : Int32))) (lv' := [(2, .int (x2 + (1 : Int32))), (1, .int (x1 + (X g 5 (bsIx x2) 3))), (0, .ref (ρ g 0 0))]) C dX3_allTries_22 rfl rfl (by decide) rfl ?_
      refine v_goto (tgt := 4) C dX3_allTries_25 (by decide) ?_
      refine v_sub [2, 1, 0] rfl ?_
      exact ih _ _ _  hf
set_option maxHeartbeats 4000000 in
set_option maxRecDepth 100000 in
theorem cX3_allTries_ok {l : Launch} {ρ : bsR} {cA : Nat → ClassId} {dC : Nat → ClassId} {dI : Nat → Nat → Nat} {Rz : va_W} {g : Nat} (hg : g < 13) {X : bsX} {z : (Int32 × bsX)} (hf : fX3_allTries g X = some z) : bsMi l yX3_allTries cX3_allTries 3 (some .int) rmX3_allTries ρ cA dC dI Rz [.ref (ρ g 0 0)] X z := by
  refine bsMi_of (by decide) (Nat.le_of_ble_eq_true rfl) (fun p e s m args below meth c C => ?_)
  have C : bsCx p m c cX3_allTries 3 s args (Cond.code yX3_allTries cX3_allTries 3 (some .int) :: bsG) RX3 ρ cA dC dI Rz meth (some .int) := C
  rw [fX3_allTries] at hf
  refine v_sub [0] rfl ?_
  refine v_iconst (v := 0) C dX3_allTries_0 (by decide) ?_
  refine v_istore_n (lv' := [(1, .int (0 : Int32)), (0, .ref (ρ g 0 0))]) C dX3_allTries_1 rfl (by decide) rfl ?_
  refine v_iconst (v := 0) C dX3_allTries_2 (by decide) ?_
  refine v_istore_n (lv' := [(2, .int (0 : Int32)), (1, .int (0 : Int32)), (0, .ref (ρ g 0 0))]) C dX3_allTries_3 rfl (by decide) rfl ?_
  refine v_sub [2, 1, 0] rfl ?_
  exact wX3_allTries_4 hg  C  bsF _ _ _  hf
/-! BootSlots$Machine.firstBut(I)I -/
def fX3_firstBut_67 (g : Nat) (k4 : Int32 → Int32 → Int32 → bsX → Option (Int32 × bsX)) (x1 : Int32) (x2 : Int32) (x3 : Int32) (X : bsX) : Option (Int32 × bsX) := k4 x1 x2 (x3 + (1 : Int32)) X
def fX3_firstBut_65 (g : Nat) (k4 : Int32 → Int32 → Int32 → bsX → Option (Int32 × bsX)) (x1 : Int32) (x3 : Int32) (X : bsX) : Option (Int32 × bsX) := fX3_firstBut_67 g k4 x1 x3 x3 X
def fX3_firstBut_36 (g : Nat) (k4 : Int32 → Int32 → Int32 → bsX → Option (Int32 × bsX)) (x1 : Int32) (x2 : Int32) (x3 : Int32) (y0 : Int32) (X : bsX) : Option (Int32 × bsX) := if y0 = 0 then (fX3_firstBut_67 g k4 x1 x2 x3 X) else (if x2 < 0 then (fX3_firstBut_65 g k4 x1 x3 X) else (if bsIn x3 6 then (if bsIn x2 6 then ((fX5_isAheadOf g (bsIx x3) (bsIx x2)  X).bind fun r9 => if r9.1 = 0 then (fX3_firstBut_67 g k4 x1 x2 x3 r9.2) else (fX3_firstBut_65 g k4 x1 x3 r9.2)) else none) else none))
def fX3_firstBut_35 (g : Nat) (k4 : Int32 → Int32 → Int32 → bsX → Option (Int32 × bsX)) (x1 : Int32) (x2 : Int32) (x3 : Int32) (X : bsX) : Option (Int32 × bsX) := fX3_firstBut_36 g k4 x1 x2 x3 (0 : Int32) X
def fX3_firstBut_4 (g : Nat) : Nat → Int32 → Int32 → Int32 → bsX → Option (Int32 × bsX)
  | 0, _, _, _, _ => none
  | n + 1, x1, x2, x3, X => if (6 : Int32) ≤ x3 then (some (x2, X)) else (if x3 = x1 then (fX3_firstBut_35 g (fX3_firstBut_4 g n) x1 x2 x3 X) else (if bsIn x3 6 then ((fX5_isBootableFrom g (bsIx x3) (X g 0 0 8) X).bind fun r2 => if r2.1 = 0 then (fX3_firstBut_35 g (fX3_firstBut_4 g n) x1 x2 x3 r2.2) else (fX3_firstBut_36 g (fX3_firstBut_4 g n) x1 x2 x3 (1 : Int32) r2.2)) else none))
def fX3_firstBut (g : Nat) (a1 : Int32) (X : bsX) : Option (Int32 × bsX) := fX3_firstBut_4 g  bsF a1 (-1 : Int32) (0 : Int32) X
abbrev rmX3_firstBut : Room := { frames := 1, cells := 0, slots := 0, locals := 22 }
set_option maxHeartbeats 4000000 in
set_option maxRecDepth 100000 in
theorem wX3_firstBut_67 {p : Program} {l : Launch} {e : Env} {s : State} {m : MethodId} {args : Array Value} {below : List Frame} {meth : Method} {c : Code} {ρ : bsR} {cA : Nat → ClassId} {dC : Nat → ClassId} {dI : Nat → Nat → Nat} {Rz : va_W} {Ts : List Cond} {g : Nat} (hg : g < 13) (k4 : Int32 → Int32 → Int32 → bsX → Option (Int32 × bsX))  {z : (Int32 × bsX)} (C : bsCx p m c cX3_firstBut 5 s args Ts RX3 ρ cA dC dI Rz meth (some .int)) (hk4 : ∀ (x1 : Int32) (x2 : Int32) (x3 : Int32) (X : bsX), k4 x1 x2 x3 X = some z → bsV p l e rmX3_firstBut s m args below meth c 0 0 (MQ below (bsQi ρ cA dC dI Rz z s.heap.size) args s 0 0 (bsA ρ cA Rz s.heap.size)) ρ cA dC dI Rz 5 4 [(0, .ref (ρ g 0 0)), (1, .int x1), (2, .int x2), (3, .int x3)] [] X)  (x1 : Int32) (x2 : Int32) (x3 : Int32) (X : bsX) (hf : fX3_firstBut_67 g k4 x1 x2 x3 X = some z) : bsV p l e rmX3_firstBut s m args below meth c 0 0 (MQ below (bsQi ρ cA dC dI Rz z s.heap.size) args s 0 0 (bsA ρ cA Rz s.heap.size)) ρ cA dC dI Rz 5 67 [(0, .ref (ρ g 0 0)), (1, .int x1), (2, .int x2), (3, .int x3)] [] X := by
  rw [fX3_firstBut_67] at hf
  refine v_iinc (k0 := 3) (v := (x3 + (1 : Int32))) (lv' := [(3, .int (x3 + (1 : Int32))), (0, .ref (ρ g 0 0)), (1, .int x1), (2, .int x2)]) C dX3_firstBut_67 rfl rfl (by decide) rfl ?_
  refine v_goto (tgt := 4) C dX3_firstBut_70 (by decide) ?_
  refine v_sub [1, 2, 3, 0] rfl ?_
  exact hk4 _ _ _ _  hf
set_option maxHeartbeats 4000000 in
set_option maxRecDepth 100000 in
theorem wX3_firstBut_65 {p : Program} {l : Launch} {e : Env} {s : State} {m : MethodId} {args : Array Value} {below : List Frame} {meth : Method} {c : Code} {ρ : bsR} {cA : Nat → ClassId} {dC : Nat → ClassId} {dI : Nat → Nat → Nat} {Rz : va_W} {Ts : List Cond} {g : Nat} (hg : g < 13) (k4 : Int32 → Int32 → Int32 → bsX → Option (Int32 × bsX))  {z : (Int32 × bsX)} (C : bsCx p m c cX3_firstBut 5 s args Ts RX3 ρ cA dC dI Rz meth (some .int)) (hk4 : ∀ (x1 : Int32) (x2 : Int32) (x3 : Int32) (X : bsX), k4 x1 x2 x3 X = some z → bsV p l e rmX3_firstBut s m args below meth c 0 0 (MQ below (bsQi ρ cA dC dI Rz z s.heap.size) args s 0 0 (bsA ρ cA Rz s.heap.size)) ρ cA dC dI Rz 5 4 [(0, .ref (ρ g 0 0)), (1, .int x1), (2, .int x2), (3, .int x3)] [] X)  (x1 : Int32) (x3 : Int32) (X : bsX) (hf : fX3_firstBut_65 g k4 x1 x3 X = some z) : bsV p l e rmX3_firstBut s m args below meth c 0 0 (MQ below (bsQi ρ cA dC dI Rz z s.heap.size) args s 0 0 (bsA ρ cA Rz s.heap.size)) ρ cA dC dI Rz 5 65 [(0, .ref (ρ g 0 0)), (1, .int x1), (3, .int x3)] [] X := by
  rw [fX3_firstBut_65] at hf
  refine v_iload_n C dX3_firstBut_65 rfl rfl ?_
  refine v_istore_n (lv' := [(2, .int x3), (0, .ref (ρ g 0 0)), (1, .int x1), (3, .int x3)]) C dX3_firstBut_66 rfl (by decide) rfl ?_
  refine v_sub [1, 2, 0, 3] rfl ?_
  exact wX3_firstBut_67 hg k4 C hk4 _ _ _ _  hf
set_option maxHeartbeats 4000000 in
set_option maxRecDepth 100000 in
theorem wX3_firstBut_36 {p : Program} {l : Launch} {e : Env} {s : State} {m : MethodId} {args : Array Value} {below : List Frame} {meth : Method} {c : Code} {ρ : bsR} {cA : Nat → ClassId} {dC : Nat → ClassId} {dI : Nat → Nat → Nat} {Rz : va_W} {Ts : List Cond} {g : Nat} (hg : g < 13) (k4 : Int32 → Int32 → Int32 → bsX → Option (Int32 × bsX))  {z : (Int32 × bsX)} (C : bsCx p m c cX3_firstBut 5 s args Ts RX3 ρ cA dC dI Rz meth (some .int)) (hk4 : ∀ (x1 : Int32) (x2 : Int32) (x3 : Int32) (X : bsX), k4 x1 x2 x3 X = some z → bsV p l e rmX3_firstBut s m args below meth c 0 0 (MQ below (bsQi ρ cA dC dI Rz z s.heap.size) args s 0 0 (bsA ρ cA Rz s.heap.size)) ρ cA dC dI Rz 5 4 [(0, .ref (ρ g 0 0)), (1, .int x1), (2, .int x2), (3, .int x3)] [] X)  (x1 : Int32) (x2 : Int32) (x3 : Int32) (y0 : Int32) (X : bsX) (hf : fX3_firstBut_36 g k4 x1 x2 x3 y0 X = some z) : bsV p l e rmX3_firstBut s m args below meth c 0 0 (MQ below (bsQi ρ cA dC dI Rz z s.heap.size) args s 0 0 (bsA ρ cA Rz s.heap.size)) ρ cA dC dI Rz 5 36 [(0, .ref (ρ g 0 0)), (1, .int x1), (2, .int x2), (3, .int x3)] [.int y0] X := by
  rw [fX3_firstBut_36] at hf
  refine v_istore (lv' := [(4, .int y0), (0, .ref (ρ g 0 0)), (1, .int x1), (2, .int x2), (3, .int x3)]) C dX3_firstBut_36 (by decide) rfl ?_
  refine v_iload C dX3_firstBut_38 rfl ?_
  refine v_if_eq (tgt := 67) C dX3_firstBut_40 (by decide) (fun h13 => ?_) (fun h13 => ?_)
  · replace hf := bs_pos h13 hf
    refine v_sub [1, 2, 3, 4] rfl ?_
    exact wX3_firstBut_67 hg k4 C hk4 _ _ _ _  hf
  · replace hf := bs_neg h13 hf
    refine v_iload_n C dX3_firstBut_43 rfl rfl ?_
    refine v_if_lt (tgt := 65) C dX3_firstBut_44 (by decide) (fun h12 => ?_) (fun h12 => ?_)
    · replace hf := bs_pos h12 hf
      refine v_sub [1, 2, 4] rfl ?_
      exact wX3_firstBut_65 hg k4 C hk4 _ _ _  hf
    · replace hf := bs_neg h12 hf
      refine v_aload_n C dX3_firstBut_47 rfl rfl ?_
      refine gf_X3_11 C hg dX3_firstBut_48 ?_
      refine v_iload_n C dX3_firstBut_51 rfl rfl ?_
      obtain ⟨hi7, hf⟩ := bs_if hf
      refine v_aald (t0 := 3) (n := 6) C (bsm_K1 hg) (bsc_K1 hg) rfl hi7 rfl dX3_firstBut_52 ?_
      refine v_aload_n C dX3_firstBut_53 rfl rfl ?_
      refine gf_X3_11 C hg dX3_firstBut_54 ?_
      refine v_iload_n C dX3_firstBut_57 rfl rfl ?_
      obtain ⟨hi8, hf⟩ := bs_if hf
      refine v_aald (t0 := 3) (n := 6) C (bsm_K1 hg) (bsc_K1 hg) rfl hi8 rfl dX3_firstBut_58 ?_
      obtain ⟨r9, hc10, hf⟩ := bs_bind hf
      refine v_callVi (y := yX5_isAheadOf) (As := [.ref (ρ g 5 (bsIx x2))]) (rest := []) C (cX5_isAheadOf_ok hg (bsIx_lt hi7) (bsIx_lt hi8) hc10) ml_X3_119 wyX5_isAheadOf (bsm_X5 hg (bsIx_lt hi7)) (bsc_X5 hg) rfl dpX5_isAheadOf ⟨Nat.le_of_ble_eq_true rfl, Nat.le_of_ble_eq_true rfl⟩ ⟨rfl, rfl⟩ ⟨Nat.le_of_ble_eq_true rfl, Nat.le_of_ble_eq_true rfl⟩ rfl (Nat.le_of_ble_eq_true rfl) dX3_firstBut_59 ?_
      refine v_if_eq (tgt := 67) C dX3_firstBut_62 (by decide) (fun h11 => ?_) (fun h11 => ?_)
      · replace hf := bs_pos h11 hf
        refine v_sub [1, 2, 3, 4] rfl ?_
        exact wX3_firstBut_67 hg k4 C hk4 _ _ _ _  hf
      · replace hf := bs_neg h11 hf
        refine v_sub [1, 2, 4] rfl ?_
        exact wX3_firstBut_65 hg k4 C hk4 _ _ _  hf
set_option maxHeartbeats 4000000 in
set_option maxRecDepth 100000 in
theorem wX3_firstBut_35 {p : Program} {l : Launch} {e : Env} {s : State} {m : MethodId} {args : Array Value} {below : List Frame} {meth : Method} {c : Code} {ρ : bsR} {cA : Nat → ClassId} {dC : Nat → ClassId} {dI : Nat → Nat → Nat} {Rz : va_W} {Ts : List Cond} {g : Nat} (hg : g < 13) (k4 : Int32 → Int32 → Int32 → bsX → Option (Int32 × bsX))  {z : (Int32 × bsX)} (C : bsCx p m c cX3_firstBut 5 s args Ts RX3 ρ cA dC dI Rz meth (some .int)) (hk4 : ∀ (x1 : Int32) (x2 : Int32) (x3 : Int32) (X : bsX), k4 x1 x2 x3 X = some z → bsV p l e rmX3_firstBut s m args below meth c 0 0 (MQ below (bsQi ρ cA dC dI Rz z s.heap.size) args s 0 0 (bsA ρ cA Rz s.heap.size)) ρ cA dC dI Rz 5 4 [(0, .ref (ρ g 0 0)), (1, .int x1), (2, .int x2), (3, .int x3)] [] X)  (x1 : Int32) (x2 : Int32) (x3 : Int32) (X : bsX) (hf : fX3_firstBut_35 g k4 x1 x2 x3 X = some z) : bsV p l e rmX3_firstBut s m args below meth c 0 0 (MQ below (bsQi ρ cA dC dI Rz z s.heap.size) args s 0 0 (bsA ρ cA Rz s.heap.size)) ρ cA dC dI Rz 5 35 [(0, .ref (ρ g 0 0)), (1, .int x1), (2, .int x2), (3, .int x3)] [] X := by
  rw [fX3_firstBut_35] at hf
  refine v_iconst (v := 0) C dX3_firstBut_35 (by decide) ?_
  refine v_sub [0, 1, 2, 3] rfl ?_
  exact wX3_firstBut_36 hg k4 C hk4 _ _ _ _ _  hf
set_option maxHeartbeats 4000000 in
set_option maxRecDepth 100000 in
theorem wX3_firstBut_4 {p : Program} {l : Launch} {e : Env} {s : State} {m : MethodId} {args : Array Value} {below : List Frame} {meth : Method} {c : Code} {ρ : bsR} {cA : Nat → ClassId} {dC : Nat → ClassId} {dI : Nat → Nat → Nat} {Rz : va_W} {Ts : List Cond} {g : Nat} (hg : g < 13)  {z : (Int32 × bsX)} (C : bsCx p m c cX3_firstBut 5 s args Ts RX3 ρ cA dC dI Rz meth (some .int)) : ∀ (n : Nat) (x1 : Int32) (x2 : Int32) (x3 : Int32) (X : bsX), fX3_firstBut_4 g n x1 x2 x3 X = some z → bsV p l e rmX3_firstBut s m args below meth c 0 0 (MQ below (bsQi ρ cA dC dI Rz z s.heap.size) args s 0 0 (bsA ρ cA Rz s.heap.size)) ρ cA dC dI Rz 5 4 [(0, .ref (ρ g 0 0)), (1, .int x1), (2, .int x2), (3, .int x3)] [] X := by
  intro n
  induction n with
  | zero => intro x1 x2 x3 X hf; exact (nomatch hf)
  | succ n ih =>
    intro x1 x2 x3 X hf
    rw [fX3_firstBut_4] at hf
    refine v_iload_n C dX3_firstBut_4 rfl rfl ?_
    refine v_bipush (v := 6) C dX3_firstBut_5 (by decide) ?_
    refine v_icmp_ge (tgt := 73) C dX3_firstBut_7 (by decide) (fun h6 => ?_) (fun h6 => ?_)
    · replace hf := bs_pos h6 hf
      refine v_iload_n C dX3_firstBut_73 rfl rfl ?_
      exact v_iret C hf dX3_firstBut_74
    · replace hf := bs_neg h6 hf
      refine v_iload_n C dX3_firstBut_10 rfl rfl ?_
      refine v_iload_n C dX3_firstBut_11 rfl rfl ?_
      refine v_icmp_eq (tgt := 35) C dX3_firstBut_12 (by decide) (fun h5 => ?_) (fun h5 => ?_)
      · replace hf := bs_pos h5 hf
        refine v_sub [0, 1, 2, 3] rfl ?_
        exact wX3_firstBut_35 hg (fX3_firstBut_4 g n) C (fun b0 b1 b2 X  h => ih b0 b1 b2 X  h) _ _ _ _  hf
      · replace hf := bs_neg h5 hf
        refine v_aload_n C dX3_firstBut_15 rfl rfl ?_
        refine gf_X3_11 C hg dX3_firstBut_16 ?_
        refine v_iload_n C dX3_firstBut_19 rfl rfl ?_
        obtain ⟨hi1, hf⟩ := bs_if hf
        refine v_aald (t0 := 3) (n := 6) C (bsm_K1 hg) (bsc_K1 hg) rfl hi1 rfl dX3_firstBut_20 ?_
        refine v_aload_n C dX3_firstBut_21 rfl rfl ?_
        refine gf_X3_70 C hg dX3_firstBut_22 ?_
        obtain ⟨r2, hc3, hf⟩ := bs_bind hf
        refine v_callVi (y := yX5_isBootableFrom) (As := [.int (X g 0 0 8)]) (rest := []) C (cX5_isBootableFrom_ok hg (bsIx_lt hi1) hc3) ml_X3_96 wyX5_isBootableFrom (bsm_X5 hg (bsIx_lt hi1)) (bsc_X5 hg) rfl dpX5_isBootableFrom ⟨Nat.le_of_ble_eq_true rfl, Nat.le_of_ble_eq_true rfl⟩ ⟨rfl, rfl⟩ ⟨Nat.le_of_ble_eq_true rfl, Nat.le_of_ble_eq_true rfl⟩ rfl (Nat.le_of_ble_eq_true rfl) dX3_firstBut_25 ?_
        refine v_if_eq (tgt := 35) C dX3_firstBut_28 (by decide) (fun h4 => ?_) (fun h4 => ?_)
        · replace hf := bs_pos h4 hf
          refine v_sub [0, 1, 2, 3] rfl ?_
          exact wX3_firstBut_35 hg (fX3_firstBut_4 g n) C (fun b0 b1 b2 X  h => ih b0 b1 b2 X  h) _ _ _ _  hf
        · replace hf := bs_neg h4 hf
          refine v_iconst (v := 1) C dX3_firstBut_31 (by decide) ?_
          refine v_goto (tgt := 36) C dX3_firstBut_32 (by decide) ?_
          refine v_sub [0, 1, 2, 3] rfl ?_
          exact wX3_firstBut_36 hg (fX3_firstBut_4 g n) C (fun b0 b1 b2 X  h => ih b0 b1 b2 X  h) _ _ _ _ _  hf
set_option maxHeartbeats 4000000 in
set_option maxRecDepth 100000 in
theorem cX3_firstBut_ok {l : Launch} {ρ : bsR} {cA : Nat → ClassId} {dC : Nat → ClassId} {dI : Nat → Nat → Nat} {Rz : va_W} {g : Nat} (hg : g < 13) {a1 : Int32} {X : bsX} {z : (Int32 × bsX)} (hf : fX3_firstBut g a1 X = some z) : bsMi l yX3_firstBut cX3_firstBut 5 (some .int) rmX3_firstBut ρ cA dC dI Rz [.ref (ρ g 0 0), .int a1] X z := by
  refine bsMi_of (by decide) (Nat.le_of_ble_eq_true rfl) (fun p e s m args below meth c C => ?_)
  have C : bsCx p m c cX3_firstBut 5 s args (Cond.code yX3_firstBut cX3_firstBut 5 (some .int) :: bsG) RX3 ρ cA dC dI Rz meth (some .int) := C
  rw [fX3_firstBut] at hf
  refine v_sub [0, 1] rfl ?_
  refine v_iconst (v := -1) C dX3_firstBut_0 (by decide) ?_
  refine v_istore_n (lv' := [(2, .int (-1 : Int32)), (0, .ref (ρ g 0 0)), (1, .int a1)]) C dX3_firstBut_1 rfl (by decide) rfl ?_
  refine v_iconst (v := 0) C dX3_firstBut_2 (by decide) ?_
  refine v_istore_n (lv' := [(3, .int (0 : Int32)), (2, .int (-1 : Int32)), (0, .ref (ρ g 0 0)), (1, .int a1)]) C dX3_firstBut_3 rfl (by decide) rfl ?_
  refine v_sub [2, 3, 1, 0] rfl ?_
  exact wX3_firstBut_4 hg  C  bsF _ _ _ _  hf
/-! BootSlots$Machine.floorByGoodAnd(I)I -/
def fX3_floorByGoodAnd_54 (g : Nat) (k8 : Int32 → Int32 → Int32 → Int32 → bsX → Option (Int32 × bsX)) (x1 : Int32) (x2 : Int32) (x3 : Int32) (x4 : Int32) (X : bsX) : Option (Int32 × bsX) := k8 x1 x2 x3 (x4 + (1 : Int32)) X
def fX3_floorByGoodAnd_34 (g : Nat) (k8 : Int32 → Int32 → Int32 → Int32 → bsX → Option (Int32 × bsX)) (x1 : Int32) (x2 : Int32) (x4 : Int32) (X : bsX) : Option (Int32 × bsX) := if bsIn x4 6 then (fX3_floorByGoodAnd_54 g k8 x1 (bsMin x2 (X g 6 (bsIx x4) 1)) (1 : Int32) x4 X) else none
def fX3_floorByGoodAnd_8 (g : Nat) : Nat → Int32 → Int32 → Int32 → Int32 → bsX → Option (Int32 × bsX)
  | 0, _, _, _, _, _ => none
  | n + 1, x1, x2, x3, x4, X => if (6 : Int32) ≤ x4 then (if x3 = 0 then (some ((X g 0 0 8), X)) else (some ((bsMax (X g 0 0 8) x2), X))) else (if bsIn x4 6 then (if (X g 5 (bsIx x4) 4) = 0 then (if x4 = x1 then (fX3_floorByGoodAnd_34 g (fX3_floorByGoodAnd_8 g n) x1 x2 x4 X) else (fX3_floorByGoodAnd_54 g (fX3_floorByGoodAnd_8 g n) x1 x2 x3 x4 X)) else (fX3_floorByGoodAnd_34 g (fX3_floorByGoodAnd_8 g n) x1 x2 x4 X)) else none)
def fX3_floorByGoodAnd (g : Nat) (a1 : Int32) (X : bsX) : Option (Int32 × bsX) := fX3_floorByGoodAnd_8 g  bsF a1 (99 : Int32) (0 : Int32) (0 : Int32) X
abbrev rmX3_floorByGoodAnd : Room := { frames := 1, cells := 0, slots := 0, locals := 21 }
set_option maxHeartbeats 4000000 in
set_option maxRecDepth 100000 in
theorem wX3_floorByGoodAnd_54 {p : Program} {l : Launch} {e : Env} {s : State} {m : MethodId} {args : Array Value} {below : List Frame} {meth : Method} {c : Code} {ρ : bsR} {cA : Nat → ClassId} {dC : Nat → ClassId} {dI : Nat → Nat → Nat} {Rz : va_W} {Ts : List Cond} {g : Nat} (hg : g < 13) (k8 : Int32 → Int32 → Int32 → Int32 → bsX → Option (Int32 × bsX))  {z : (Int32 × bsX)} (C : bsCx p m c cX3_floorByGoodAnd 5 s args Ts RX3 ρ cA dC dI Rz meth (some .int)) (hk8 : ∀ (x1 : Int32) (x2 : Int32) (x3 : Int32) (x4 : Int32) (X : bsX), k8 x1 x2 x3 x4 X = some z → bsV p l e rmX3_floorByGoodAnd s m args below meth c 0 0 (MQ below (bsQi ρ cA dC dI Rz z s.heap.size) args s 0 0 (bsA ρ cA Rz s.heap.size)) ρ cA dC dI Rz 5 8 [(0, .ref (ρ g 0 0)), (1, .int x1), (2, .int x2), (3, .int x3), (4, .int x4)] [] X)  (x1 : Int32) (x2 : Int32) (x3 : Int32) (x4 : Int32) (X : bsX) (hf : fX3_floorByGoodAnd_54 g k8 x1 x2 x3 x4 X = some z) : bsV p l e rmX3_floorByGoodAnd s m args below meth c 0 0 (MQ below (bsQi ρ cA dC dI Rz z s.heap.size) args s 0 0 (bsA ρ cA Rz s.heap.size)) ρ cA dC dI Rz 5 54 [(0, .ref (ρ g 0 0)), (1, .int x1), (2, .int x2), (3, .int x3), (4, .int x4)] [] X := by
  rw [fX3_floorByGoodAnd_54] at hf
  refine v_iinc (k0 := 4) (v := (x4 + (1 : Int32))) (lv' := [(4, .int (x4 + (1 : Int32))), (0, .ref (ρ g 0 0)), (1, .int x1), (2, .int x2), (3, .int x3)]) C dX3_floorByGoodAnd_54 rfl rfl (by decide) rfl ?_
  refine v_goto (tgt := 8) C dX3_floorByGoodAnd_57 (by decide) ?_
  refine v_sub [1, 2, 3, 4, 0] rfl ?_
  exact hk8 _ _ _ _ _  hf
set_option maxHeartbeats 4000000 in
set_option maxRecDepth 100000 in
theorem wX3_floorByGoodAnd_34 {p : Program} {l : Launch} {e : Env} {s : State} {m : MethodId} {args : Array Value} {below : List Frame} {meth : Method} {c : Code} {ρ : bsR} {cA : Nat → ClassId} {dC : Nat → ClassId} {dI : Nat → Nat → Nat} {Rz : va_W} {Ts : List Cond} {g : Nat} (hg : g < 13) (k8 : Int32 → Int32 → Int32 → Int32 → bsX → Option (Int32 × bsX))  {z : (Int32 × bsX)} (C : bsCx p m c cX3_floorByGoodAnd 5 s args Ts RX3 ρ cA dC dI Rz meth (some .int)) (hk8 : ∀ (x1 : Int32) (x2 : Int32) (x3 : Int32) (x4 : Int32) (X : bsX), k8 x1 x2 x3 x4 X = some z → bsV p l e rmX3_floorByGoodAnd s m args below meth c 0 0 (MQ below (bsQi ρ cA dC dI Rz z s.heap.size) args s 0 0 (bsA ρ cA Rz s.heap.size)) ρ cA dC dI Rz 5 8 [(0, .ref (ρ g 0 0)), (1, .int x1), (2, .int x2), (3, .int x3), (4, .int x4)] [] X)  (x1 : Int32) (x2 : Int32) (x4 : Int32) (X : bsX) (hf : fX3_floorByGoodAnd_34 g k8 x1 x2 x4 X = some z) : bsV p l e rmX3_floorByGoodAnd s m args below meth c 0 0 (MQ below (bsQi ρ cA dC dI Rz z s.heap.size) args s 0 0 (bsA ρ cA Rz s.heap.size)) ρ cA dC dI Rz 5 34 [(0, .ref (ρ g 0 0)), (1, .int x1), (2, .int x2), (4, .int x4)] [] X := by
  rw [fX3_floorByGoodAnd_34] at hf
  refine v_iconst (v := 1) C dX3_floorByGoodAnd_34 (by decide) ?_
  refine v_istore_n (lv' := [(3, .int (1 : Int32)), (0, .ref (ρ g 0 0)), (1, .int x1), (2, .int x2), (4, .int x4)]) C dX3_floorByGoodAnd_35 rfl (by decide) rfl ?_
  refine v_iload_n C dX3_floorByGoodAnd_36 rfl rfl ?_
  refine v_aload_n C dX3_floorByGoodAnd_37 rfl rfl ?_
  refine gf_X3_11 C hg dX3_floorByGoodAnd_38 ?_
  refine v_iload C dX3_floorByGoodAnd_41 rfl ?_
  obtain ⟨hi6, hf⟩ := bs_if hf
  refine v_aald (t0 := 3) (n := 6) C (bsm_K1 hg) (bsc_K1 hg) rfl hi6 rfl dX3_floorByGoodAnd_43 ?_
  refine gf_X3_87 C hg (bsIx_lt hi6) dX3_floorByGoodAnd_44 ?_
  refine gf_X3_91 C hg (Nat.lt_succ_of_lt (bsIx_lt hi6)) dX3_floorByGoodAnd_47 ?_
  refine v_mmin C (Nat.le_of_ble_eq_true rfl) (Nat.le_of_ble_eq_true rfl) (Nat.le_of_ble_eq_true rfl) (Nat.le_of_ble_eq_true rfl) (mm_X3_122) dX3_floorByGoodAnd_50 ?_
  refine v_istore_n (lv' := [(2, .int (bsMin x2 (X g 6 (bsIx x4) 1))), (3, .int (1 : Int32)), (0, .ref (ρ g 0 0)), (1, .int x1), (4, .int x4)]) C dX3_floorByGoodAnd_53 rfl (by decide) rfl ?_
  refine v_sub [2, 3, 0, 1, 4] rfl ?_
  exact wX3_floorByGoodAnd_54 hg k8 C hk8 _ _ _ _ _  hf
set_option maxHeartbeats 4000000 in
set_option maxRecDepth 100000 in
theorem wX3_floorByGoodAnd_8 {p : Program} {l : Launch} {e : Env} {s : State} {m : MethodId} {args : Array Value} {below : List Frame} {meth : Method} {c : Code} {ρ : bsR} {cA : Nat → ClassId} {dC : Nat → ClassId} {dI : Nat → Nat → Nat} {Rz : va_W} {Ts : List Cond} {g : Nat} (hg : g < 13)  {z : (Int32 × bsX)} (C : bsCx p m c cX3_floorByGoodAnd 5 s args Ts RX3 ρ cA dC dI Rz meth (some .int)) : ∀ (n : Nat) (x1 : Int32) (x2 : Int32) (x3 : Int32) (x4 : Int32) (X : bsX), fX3_floorByGoodAnd_8 g n x1 x2 x3 x4 X = some z → bsV p l e rmX3_floorByGoodAnd s m args below meth c 0 0 (MQ below (bsQi ρ cA dC dI Rz z s.heap.size) args s 0 0 (bsA ρ cA Rz s.heap.size)) ρ cA dC dI Rz 5 8 [(0, .ref (ρ g 0 0)), (1, .int x1), (2, .int x2), (3, .int x3), (4, .int x4)] [] X := by
  intro n
  induction n with
  | zero => intro x1 x2 x3 x4 X hf; exact (nomatch hf)
  | succ n ih =>
    intro x1 x2 x3 x4 X hf
    rw [fX3_floorByGoodAnd_8] at hf
    refine v_iload C dX3_floorByGoodAnd_8 rfl ?_
    refine v_bipush (v := 6) C dX3_floorByGoodAnd_10 (by decide) ?_
    refine v_icmp_ge (tgt := 60) C dX3_floorByGoodAnd_12 (by decide) (fun h5 => ?_) (fun h5 => ?_)
    · replace hf := bs_pos h5 hf
      refine v_iload_n C dX3_floorByGoodAnd_60 rfl rfl ?_
      refine v_if_eq (tgt := 75) C dX3_floorByGoodAnd_61 (by decide) (fun h1 => ?_) (fun h1 => ?_)
      · replace hf := bs_pos h1 hf
        refine v_aload_n C dX3_floorByGoodAnd_75 rfl rfl ?_
        refine gf_X3_70 C hg dX3_floorByGoodAnd_76 ?_
        exact v_iret C hf dX3_floorByGoodAnd_79
      · replace hf := bs_neg h1 hf
        refine v_aload_n C dX3_floorByGoodAnd_64 rfl rfl ?_
        refine gf_X3_70 C hg dX3_floorByGoodAnd_65 ?_
        refine v_iload_n C dX3_floorByGoodAnd_68 rfl rfl ?_
        refine v_mmax C (Nat.le_of_ble_eq_true rfl) (Nat.le_of_ble_eq_true rfl) (Nat.le_of_ble_eq_true rfl) (Nat.le_of_ble_eq_true rfl) (mm_X3_128) dX3_floorByGoodAnd_69 ?_
        refine v_goto (tgt := 79) C dX3_floorByGoodAnd_72 (by decide) ?_
        exact v_iret C hf dX3_floorByGoodAnd_79
    · replace hf := bs_neg h5 hf
      refine v_aload_n C dX3_floorByGoodAnd_15 rfl rfl ?_
      refine gf_X3_11 C hg dX3_floorByGoodAnd_16 ?_
      refine v_iload C dX3_floorByGoodAnd_19 rfl ?_
      obtain ⟨hi2, hf⟩ := bs_if hf
      refine v_aald (t0 := 3) (n := 6) C (bsm_K1 hg) (bsc_K1 hg) rfl hi2 rfl dX3_floorByGoodAnd_21 ?_
      refine gf_X3_109 C hg (bsIx_lt hi2) dX3_floorByGoodAnd_22 ?_
      refine v_if_ne (tgt := 34) C dX3_floorByGoodAnd_25 (by decide) (fun h4 => ?_) (fun h4 => ?_)
      · replace hf := bs_neg h4 hf
        refine v_sub [0, 1, 2, 4] rfl ?_
        exact wX3_floorByGoodAnd_34 hg (fX3_floorByGoodAnd_8 g n) C (fun b0 b1 b2 b3 X  h => ih b0 b1 b2 b3 X  h) _ _ _ _  hf
      · replace hf := bs_pos h4 hf
        refine v_iload C dX3_floorByGoodAnd_28 rfl ?_
        refine v_iload_n C dX3_floorByGoodAnd_30 rfl rfl ?_
        refine v_icmp_ne (tgt := 54) C dX3_floorByGoodAnd_31 (by decide) (fun h3 => ?_) (fun h3 => ?_)
        · replace hf := bs_neg h3 hf
          refine v_sub [0, 1, 2, 3, 4] rfl ?_
          exact wX3_floorByGoodAnd_54 hg (fX3_floorByGoodAnd_8 g n) C (fun b0 b1 b2 b3 X  h => ih b0 b1 b2 b3 X  h) _ _ _ _ _  hf
        · replace hf := bs_pos h3 hf
          refine v_sub [0, 1, 2, 4] rfl ?_
          exact wX3_floorByGoodAnd_34 hg (fX3_floorByGoodAnd_8 g n) C (fun b0 b1 b2 b3 X  h => ih b0 b1 b2 b3 X  h) _ _ _ _  hf
set_option maxHeartbeats 4000000 in
set_option maxRecDepth 100000 in
theorem cX3_floorByGoodAnd_ok {l : Launch} {ρ : bsR} {cA : Nat → ClassId} {dC : Nat → ClassId} {dI : Nat → Nat → Nat} {Rz : va_W} {g : Nat} (hg : g < 13) {a1 : Int32} {X : bsX} {z : (Int32 × bsX)} (hf : fX3_floorByGoodAnd g a1 X = some z) : bsMi l yX3_floorByGoodAnd cX3_floorByGoodAnd 5 (some .int) rmX3_floorByGoodAnd ρ cA dC dI Rz [.ref (ρ g 0 0), .int a1] X z := by
  refine bsMi_of (by decide) (Nat.le_of_ble_eq_true rfl) (fun p e s m args below meth c C => ?_)
  have C : bsCx p m c cX3_floorByGoodAnd 5 s args (Cond.code yX3_floorByGoodAnd cX3_floorByGoodAnd 5 (some .int) :: bsG) RX3 ρ cA dC dI Rz meth (some .int) := C
  rw [fX3_floorByGoodAnd] at hf
  refine v_sub [0, 1] rfl ?_
  refine v_bipush (v := 99) C dX3_floorByGoodAnd_0 (by decide) ?_
  refine v_istore_n (lv' := [(2, .int (99 : Int32)), (0, .ref (ρ g 0 0)), (1, .int a1)]) C dX3_floorByGoodAnd_2 rfl (by decide) rfl ?_
  refine v_iconst (v := 0) C dX3_floorByGoodAnd_3 (by decide) ?_
  refine v_istore_n (lv' := [(3, .int (0 : Int32)), (2, .int (99 : Int32)), (0, .ref (ρ g 0 0)), (1, .int a1)]) C dX3_floorByGoodAnd_4 rfl (by decide) rfl ?_
  refine v_iconst (v := 0) C dX3_floorByGoodAnd_5 (by decide) ?_
  refine v_istore (lv' := [(4, .int (0 : Int32)), (3, .int (0 : Int32)), (2, .int (99 : Int32)), (0, .ref (ρ g 0 0)), (1, .int a1)]) C dX3_floorByGoodAnd_6 (by decide) rfl ?_
  refine v_sub [3, 4, 2, 1, 0] rfl ?_
  exact wX3_floorByGoodAnd_8 hg  C  bsF _ _ _ _ _  hf
/-! BootSlots$Machine.tryToRun(LBootSlots$Slot;)Z -/
def fX3_tryToRun_40 (g j1 : Nat) (X : bsX) : Option (Int32 × bsX) := if (X g 6 j1 5) = 0 then (some ((1 : Int32), (bsWr X g 5 j1 6 ((X g 5 j1 6) + (1 : Int32))))) else ((fX5_giveUp g j1  X).bind fun r1 => some ((0 : Int32), (bsWr r1 g 4 0 1 ((r1 g 4 0 1) + (1 : Int32)))))
def fX3_tryToRun (g j1 : Nat) (X : bsX) : Option (Int32 × bsX) := if (X g 5 j1 4) = 0 then (fX3_tryToRun_40 g j1   (bsWr (bsWr (bsWr X g 5 j1 3 ((X g 5 j1 3) - (1 : Int32))) g 5 j1 7 (((bsWr X g 5 j1 3 ((X g 5 j1 3) - (1 : Int32))) g 5 j1 7) + (1 : Int32))) g 4 0 0 (((bsWr (bsWr X g 5 j1 3 ((X g 5 j1 3) - (1 : Int32))) g 5 j1 7 (((bsWr X g 5 j1 3 ((X g 5 j1 3) - (1 : Int32))) g 5 j1 7) + (1 : Int32))) g 4 0 0) + (1 : Int32)))) else (fX3_tryToRun_40 g j1   X)
abbrev rmX3_tryToRun : Room := { frames := 1, cells := 0, slots := 0, locals := 20 }
set_option maxHeartbeats 4000000 in
set_option maxRecDepth 100000 in
theorem wX3_tryToRun_40 {p : Program} {l : Launch} {e : Env} {s : State} {m : MethodId} {args : Array Value} {below : List Frame} {meth : Method} {c : Code} {ρ : bsR} {cA : Nat → ClassId} {dC : Nat → ClassId} {dI : Nat → Nat → Nat} {Rz : va_W} {Ts : List Cond} {g j1 : Nat} (hg : g < 13) (hj1 : j1 < 6)  {z : (Int32 × bsX)} (C : bsCx p m c cX3_tryToRun 2 s args Ts RX3 ρ cA dC dI Rz meth (some .boolean)) (X : bsX) (hf : fX3_tryToRun_40 g j1 X = some z) : bsV p l e rmX3_tryToRun s m args below meth c 0 0 (MQ below (bsQi ρ cA dC dI Rz z s.heap.size) args s 0 0 (bsA ρ cA Rz s.heap.size)) ρ cA dC dI Rz 2 40 [(0, .ref (ρ g 0 0)), (1, .ref (ρ g 5 j1))] [] X := by
  rw [fX3_tryToRun_40] at hf
  refine v_aload_n C dX3_tryToRun_40 rfl rfl ?_
  refine gf_X3_87 C hg hj1 dX3_tryToRun_41 ?_
  refine gf_X3_146 C hg (Nat.lt_succ_of_lt hj1) dX3_tryToRun_44 ?_
  refine v_if_eq (tgt := 69) C dX3_tryToRun_47 (by decide) (fun h3 => ?_) (fun h3 => ?_)
  · replace hf := bs_pos h3 hf
    refine v_aload_n C dX3_tryToRun_69 rfl rfl ?_
    refine v_dup C dX3_tryToRun_70 rfl ?_
    refine gf_X3_155 C hg hj1 dX3_tryToRun_71 ?_
    refine v_iconst (v := 1) C dX3_tryToRun_74 (by decide) ?_
    refine v_iadd C dX3_tryToRun_75 ?_
    refine pf_X3_155 C hg hj1 dX3_tryToRun_76 ?_
    refine v_iconst (v := 1) C dX3_tryToRun_79 (by decide) ?_
    exact v_zret C (bsZ01 (by decide)).1 hf dX3_tryToRun_80
  · replace hf := bs_neg h3 hf
    refine v_aload_n C dX3_tryToRun_50 rfl rfl ?_
    obtain ⟨r1, hc2, hf⟩ := bs_bind hf
    refine v_callVv (y := yX5_giveUp) (As := []) (rest := []) C (cX5_giveUp_ok hg hj1 hc2) ml_X3_149 wyX5_giveUp (bsm_X5 hg hj1) (bsc_X5 hg) rfl dpX5_giveUp ⟨Nat.le_of_ble_eq_true rfl, Nat.le_of_ble_eq_true rfl⟩ ⟨rfl, rfl⟩ ⟨Nat.le_of_ble_eq_true rfl, Nat.le_of_ble_eq_true rfl⟩ rfl (Nat.le_of_ble_eq_true rfl) dX3_tryToRun_51 ?_
    refine v_aload_n C dX3_tryToRun_54 rfl rfl ?_
    refine gf_X3_34 C hg dX3_tryToRun_55 ?_
    refine v_dup C dX3_tryToRun_58 rfl ?_
    refine gf_X3_152 C hg dX3_tryToRun_59 ?_
    refine v_iconst (v := 1) C dX3_tryToRun_62 (by decide) ?_
    refine v_iadd C dX3_tryToRun_63 ?_
    refine pf_X3_152 C hg dX3_tryToRun_64 ?_
    refine v_iconst (v := 0) C dX3_tryToRun_67 (by decide) ?_
    exact v_zret C (bsZ01 (by decide)).1 hf dX3_tryToRun_68
set_option maxHeartbeats 4000000 in
set_option maxRecDepth 100000 in
theorem cX3_tryToRun_ok {l : Launch} {ρ : bsR} {cA : Nat → ClassId} {dC : Nat → ClassId} {dI : Nat → Nat → Nat} {Rz : va_W} {g j1 : Nat} (hg : g < 13) (hj1 : j1 < 6) {X : bsX} {z : (Int32 × bsX)} (hf : fX3_tryToRun g j1 X = some z) : bsMi l yX3_tryToRun cX3_tryToRun 2 (some .boolean) rmX3_tryToRun ρ cA dC dI Rz [.ref (ρ g 0 0), .ref (ρ g 5 j1)] X z := by
  refine bsMi_of (by decide) (Nat.le_of_ble_eq_true rfl) (fun p e s m args below meth c C => ?_)
  have C : bsCx p m c cX3_tryToRun 2 s args (Cond.code yX3_tryToRun cX3_tryToRun 2 (some .boolean) :: bsG) RX3 ρ cA dC dI Rz meth (some .boolean) := C
  rw [fX3_tryToRun] at hf
  refine v_sub [0, 1] rfl ?_
  refine v_aload_n C dX3_tryToRun_0 rfl rfl ?_
  refine gf_X3_109 C hg hj1 dX3_tryToRun_1 ?_
  refine v_if_ne (tgt := 40) C dX3_tryToRun_4 (by decide) (fun h4 => ?_) (fun h4 => ?_)
  · replace hf := bs_neg h4 hf
    refine v_sub [0, 1] rfl ?_
    exact wX3_tryToRun_40 hg hj1  C  _  hf
  · replace hf := bs_pos h4 hf
    refine v_aload_n C dX3_tryToRun_7 rfl rfl ?_
    refine v_dup C dX3_tryToRun_8 rfl ?_
    refine gf_X3_112 C hg hj1 dX3_tryToRun_9 ?_
    refine v_iconst (v := 1) C dX3_tryToRun_12 (by decide) ?_
    refine v_isub C dX3_tryToRun_13 ?_
    refine pf_X3_112 C hg hj1 dX3_tryToRun_14 ?_
    refine v_aload_n C dX3_tryToRun_17 rfl rfl ?_
    refine v_dup C dX3_tryToRun_18 rfl ?_
    refine gf_X3_142 C hg hj1 dX3_tryToRun_19 ?_
    refine v_iconst (v := 1) C dX3_tryToRun_22 (by decide) ?_
    refine v_iadd C dX3_tryToRun_23 ?_
    refine pf_X3_142 C hg hj1 dX3_tryToRun_24 ?_
    refine v_aload_n C dX3_tryToRun_27 rfl rfl ?_
    refine gf_X3_34 C hg dX3_tryToRun_28 ?_
    refine v_dup C dX3_tryToRun_31 rfl ?_
    refine gf_X3_145 C hg dX3_tryToRun_32 ?_
    refine v_iconst (v := 1) C dX3_tryToRun_35 (by decide) ?_
    refine v_iadd C dX3_tryToRun_36 ?_
    refine pf_X3_145 C hg dX3_tryToRun_37 ?_
    refine v_sub [0, 1] rfl ?_
    exact wX3_tryToRun_40 hg hj1  C  _  hf
/-! BootSlots$Machine.bootBy(I)I -/
def fX3_bootBy_85 (g : Nat) (k19 : Int32 → Int32 → Int32 → bsX → Option (Int32 × bsX)) (x1 : Int32) (x2 : Int32) (x3 : Int32) (X : bsX) : Option (Int32 × bsX) := k19 x1 x2 (x3 + (1 : Int32)) X
def fX3_bootBy_91 (g : Nat) (x1 : Int32) (x2 : Int32) (X : bsX) : Option (Int32 × bsX) := (fX0_add g (X g 0 0 9) x1 x2 (X g 0 0 11) X).bind fun r1 => some (x2, r1)
def fX3_bootBy_19 (g : Nat) : Nat → Int32 → Int32 → Int32 → bsX → Option (Int32 × bsX)
  | 0, _, _, _, _ => none
  | n + 1, x1, x2, x3, X => if (6 : Int32) ≤ x3 then (fX3_bootBy_91 g  x1 x2 X) else (if (X g 0 0 11) = (-1 : Int32) then ((fX3_firstBut g (-1 : Int32) X).bind fun r3 => if r3.1 < 0 then (fX3_bootBy_91 g  x1 x2 r3.2) else (if r3.1 < (6 : Int32) then (if bsIn r3.1 6 then ((fX3_tryToRun g (bsIx r3.1)  r3.2).bind fun r6 => if r6.1 = 0 then (fX3_bootBy_85 g (fX3_bootBy_19 g n) x1 (x2 ||| ((1 : Int32) <<< (r3.1 &&& 31))) x3 r6.2) else (fX3_bootBy_85 g (fX3_bootBy_19 g n) x1 x2 x3 (bsWr r6.2 g 0 0 11 r3.1))) else none) else (fX3_bootBy_91 g  x1 x2 r3.2))) else (fX3_bootBy_91 g  x1 x2 X))
def fX3_bootBy (g : Nat) (a1 : Int32) (X : bsX) : Option (Int32 × bsX) := fX3_bootBy_19 g  bsF a1 (0 : Int32) (0 : Int32) (bsWr (bsWr (bsWr X g 0 0 10 (1 : Int32)) g 0 0 11 (-1 : Int32)) g 0 0 12 (0 : Int32))
abbrev rmX3_bootBy : Room := { frames := 2, cells := 0, slots := 0, locals := 46 }
set_option maxHeartbeats 4000000 in
set_option maxRecDepth 100000 in
theorem wX3_bootBy_85 {p : Program} {l : Launch} {e : Env} {s : State} {m : MethodId} {args : Array Value} {below : List Frame} {meth : Method} {c : Code} {ρ : bsR} {cA : Nat → ClassId} {dC : Nat → ClassId} {dI : Nat → Nat → Nat} {Rz : va_W} {Ts : List Cond} {g : Nat} (hg : g < 13) (k19 : Int32 → Int32 → Int32 → bsX → Option (Int32 × bsX))  {z : (Int32 × bsX)} (C : bsCx p m c cX3_bootBy 5 s args Ts RX3 ρ cA dC dI Rz meth (some .int)) (hk19 : ∀ (x1 : Int32) (x2 : Int32) (x3 : Int32) (X : bsX), k19 x1 x2 x3 X = some z → bsV p l e rmX3_bootBy s m args below meth c 0 0 (MQ below (bsQi ρ cA dC dI Rz z s.heap.size) args s 0 0 (bsA ρ cA Rz s.heap.size)) ρ cA dC dI Rz 5 19 [(0, .ref (ρ g 0 0)), (1, .int x1), (2, .int x2), (3, .int x3)] [] X)  (x1 : Int32) (x2 : Int32) (x3 : Int32) (X : bsX) (hf : fX3_bootBy_85 g k19 x1 x2 x3 X = some z) : bsV p l e rmX3_bootBy s m args below meth c 0 0 (MQ below (bsQi ρ cA dC dI Rz z s.heap.size) args s 0 0 (bsA ρ cA Rz s.heap.size)) ρ cA dC dI Rz 5 85 [(0, .ref (ρ g 0 0)), (1, .int x1), (2, .int x2), (3, .int x3)] [] X := by
  rw [fX3_bootBy_85] at hf
  refine v_iinc (k0 := 3) (v := (x3 + (1 : Int32))) (lv' := [(3, .int (x3 + (1 : Int32))), (0, .ref (ρ g 0 0)), (1, .int x1), (2, .int x2)]) C dX3_bootBy_85 rfl rfl (by decide) rfl ?_
  refine v_goto (tgt := 19) C dX3_bootBy_88 (by decide) ?_
  refine v_sub [1, 2, 3, 0] rfl ?_
  exact hk19 _ _ _ _  hf
set_option maxHeartbeats 4000000 in
set_option maxRecDepth 100000 in
theorem wX3_bootBy_91 {p : Program} {l : Launch} {e : Env} {s : State} {m : MethodId} {args : Array Value} {below : List Frame} {meth : Method} {c : Code} {ρ : bsR} {cA : Nat → ClassId} {dC : Nat → ClassId} {dI : Nat → Nat → Nat} {Rz : va_W} {Ts : List Cond} {g : Nat} (hg : g < 13)  {z : (Int32 × bsX)} (C : bsCx p m c cX3_bootBy 5 s args Ts RX3 ρ cA dC dI Rz meth (some .int)) (x1 : Int32) (x2 : Int32) (X : bsX) (hf : fX3_bootBy_91 g x1 x2 X = some z) : bsV p l e rmX3_bootBy s m args below meth c 0 0 (MQ below (bsQi ρ cA dC dI Rz z s.heap.size) args s 0 0 (bsA ρ cA Rz s.heap.size)) ρ cA dC dI Rz 5 91 [(0, .ref (ρ g 0 0)), (1, .int x1), (2, .int x2)] [] X := by
  rw [fX3_bootBy_91] at hf
  refine v_aload_n C dX3_bootBy_91 rfl rfl ?_
  refine gf_X3_27 C hg dX3_bootBy_92 ?_
  refine v_aload_n C dX3_bootBy_95 rfl rfl ?_
  refine gf_X3_73 C hg dX3_bootBy_96 ?_
  refine v_iload_n C dX3_bootBy_99 rfl rfl ?_
  refine v_iload_n C dX3_bootBy_100 rfl rfl ?_
  refine v_aload_n C dX3_bootBy_101 rfl rfl ?_
  refine gf_X3_38 C hg dX3_bootBy_102 ?_
  obtain ⟨r1, hc2, hf⟩ := bs_bind hf
  refine v_callVv (y := yX0_add) (As := [.int (X g 0 0 9), .int x1, .int x2, .int (X g 0 0 11)]) (rest := []) C (cX0_add_ok hg hc2) ml_X3_138 wyX0_add (bsm_X0 hg) (bsc_X0 hg) rfl dpX0_add ⟨Nat.le_of_ble_eq_true rfl, Nat.le_of_ble_eq_true rfl⟩ ⟨rfl, rfl⟩ ⟨Nat.le_of_ble_eq_true rfl, Nat.le_of_ble_eq_true rfl⟩ rfl (Nat.le_of_ble_eq_true rfl) dX3_bootBy_105 ?_
  refine v_iload_n C dX3_bootBy_108 rfl rfl ?_
  exact v_iret C hf dX3_bootBy_109
set_option maxHeartbeats 4000000 in
set_option maxRecDepth 100000 in
theorem wX3_bootBy_19 {p : Program} {l : Launch} {e : Env} {s : State} {m : MethodId} {args : Array Value} {below : List Frame} {meth : Method} {c : Code} {ρ : bsR} {cA : Nat → ClassId} {dC : Nat → ClassId} {dI : Nat → Nat → Nat} {Rz : va_W} {Ts : List Cond} {g : Nat} (hg : g < 13)  {z : (Int32 × bsX)} (C : bsCx p m c cX3_bootBy 5 s args Ts RX3 ρ cA dC dI Rz meth (some .int)) : ∀ (n : Nat) (x1 : Int32) (x2 : Int32) (x3 : Int32) (X : bsX), fX3_bootBy_19 g n x1 x2 x3 X = some z → bsV p l e rmX3_bootBy s m args below meth c 0 0 (MQ below (bsQi ρ cA dC dI Rz z s.heap.size) args s 0 0 (bsA ρ cA Rz s.heap.size)) ρ cA dC dI Rz 5 19 [(0, .ref (ρ g 0 0)), (1, .int x1), (2, .int x2), (3, .int x3)] [] X := by
  intro n
  induction n with
  | zero => intro x1 x2 x3 X hf; exact (nomatch hf)
  | succ n ih =>
    intro x1 x2 x3 X hf
    rw [fX3_bootBy_19] at hf
    refine v_iload_n C dX3_bootBy_19 rfl rfl ?_
    refine v_bipush (v := 6) C dX3_bootBy_20 (by decide) ?_
    refine v_icmp_ge (tgt := 91) C dX3_bootBy_22 (by decide) (fun h12 => ?_) (fun h12 => ?_)
    · replace hf := bs_pos h12 hf
      refine v_sub [0, 1, 2] rfl ?_
      exact wX3_bootBy_91 hg  C  _ _ _  hf
    · replace hf := bs_neg h12 hf
      refine v_aload_n C dX3_bootBy_25 rfl rfl ?_
      refine gf_X3_38 C hg dX3_bootBy_26 ?_
      refine v_iconst (v := -1) C dX3_bootBy_29 (by decide) ?_
      refine v_icmp_ne (tgt := 91) C dX3_bootBy_30 (by decide) (fun h11 => ?_) (fun h11 => ?_)
      · replace hf := bs_neg h11 hf
        refine v_sub [0, 1, 2] rfl ?_
        exact wX3_bootBy_91 hg  C  _ _ _  hf
      · replace hf := bs_pos h11 hf
        refine v_aload_n C dX3_bootBy_33 rfl rfl ?_
        refine v_iconst (v := -1) C dX3_bootBy_34 (by decide) ?_
        obtain ⟨r3, hc4, hf⟩ := bs_bind hf
        refine v_callVi (y := yX3_firstBut) (As := [.int (-1 : Int32)]) (rest := []) C (cX3_firstBut_ok hg hc4) ml_X3_131 wyX3_firstBut (bsm_X3 hg) (bsc_X3 hg) rfl dpX3_firstBut ⟨Nat.le_of_ble_eq_true rfl, Nat.le_of_ble_eq_true rfl⟩ ⟨rfl, rfl⟩ ⟨Nat.le_of_ble_eq_true rfl, Nat.le_of_ble_eq_true rfl⟩ rfl (Nat.le_of_ble_eq_true rfl) dX3_bootBy_35 ?_
        refine v_istore (lv' := [(4, .int r3.1), (0, .ref (ρ g 0 0)), (1, .int x1), (2, .int x2), (3, .int x3)]) C dX3_bootBy_38 (by decide) rfl ?_
        refine v_iload C dX3_bootBy_40 rfl ?_
        refine v_if_lt (tgt := 91) C dX3_bootBy_42 (by decide) (fun h10 => ?_) (fun h10 => ?_)
        · replace hf := bs_pos h10 hf
          refine v_sub [1, 2, 3] rfl ?_
          exact wX3_bootBy_91 hg  C  _ _ _  hf
        · replace hf := bs_neg h10 hf
          refine v_iload C dX3_bootBy_45 rfl ?_
          refine v_bipush (v := 6) C dX3_bootBy_47 (by decide) ?_
          refine v_icmp_lt (tgt := 55) C dX3_bootBy_49 (by decide) (fun h9 => ?_) (fun h9 => ?_)
          · replace hf := bs_pos h9 hf
            refine v_aload_n C dX3_bootBy_55 rfl rfl ?_
            refine v_aload_n C dX3_bootBy_56 rfl rfl ?_
            refine gf_X3_11 C hg dX3_bootBy_57 ?_
            refine v_iload C dX3_bootBy_60 rfl ?_
            obtain ⟨hi5, hf⟩ := bs_if hf
            refine v_aald (t0 := 3) (n := 6) C (bsm_K1 hg) (bsc_K1 hg) rfl hi5 rfl dX3_bootBy_62 ?_
            obtain ⟨r6, hc7, hf⟩ := bs_bind hf
            refine v_callVi (y := yX3_tryToRun) (As := [.ref (ρ g 5 (bsIx r3.1))]) (rest := []) C (cX3_tryToRun_ok hg (bsIx_lt hi5) hc7) ml_X3_135 wyX3_tryToRun (bsm_X3 hg) (bsc_X3 hg) rfl dpX3_tryToRun ⟨Nat.le_of_ble_eq_true rfl, Nat.le_of_ble_eq_true rfl⟩ ⟨rfl, rfl⟩ ⟨Nat.le_of_ble_eq_true rfl, Nat.le_of_ble_eq_true rfl⟩ rfl (Nat.le_of_ble_eq_true rfl) dX3_bootBy_63 ?_
            refine v_if_eq (tgt := 78) C dX3_bootBy_66 (by decide) (fun h8 => ?_) (fun h8 => ?_)
            · replace hf := bs_pos h8 hf
              refine v_iload_n C dX3_bootBy_78 rfl rfl ?_
              refine v_iconst (v := 1) C dX3_bootBy_79 (by decide) ?_
              refine v_iload C dX3_bootBy_80 rfl ?_
              refine v_ishl C dX3_bootBy_82 ?_
              refine v_ior C dX3_bootBy_83 ?_
              refine v_istore_n (lv' := [(2, .int (x2 ||| ((1 : Int32) <<< (r3.1 &&& 31)))), (4, .int r3.1), (0, .ref (ρ g 0 0)), (1, .int x1), (3, .int x3)]) C dX3_bootBy_84 rfl (by decide) rfl ?_
              refine v_sub [2, 3, 0, 4] rfl ?_
              exact wX3_bootBy_85 hg (fX3_bootBy_19 g n) C (fun b0 b1 b2 X  h => ih b0 b1 b2 X  h) _ _ _ _  hf
            · replace hf := bs_neg h8 hf
              refine v_aload_n C dX3_bootBy_69 rfl rfl ?_
              refine v_iload C dX3_bootBy_70 rfl ?_
              refine pf_X3_38 C hg dX3_bootBy_72 ?_
              refine v_goto (tgt := 85) C dX3_bootBy_75 (by decide) ?_
              refine v_sub [1, 2, 3, 4] rfl ?_
              exact wX3_bootBy_85 hg (fX3_bootBy_19 g n) C (fun b0 b1 b2 X  h => ih b0 b1 b2 X  h) _ _ _ _  hf
          · replace hf := bs_neg h9 hf
            refine v_goto (tgt := 91) C dX3_bootBy_52 (by decide) ?_
            refine v_sub [1, 2, 3] rfl ?_
            exact wX3_bootBy_91 hg  C  _ _ _  hf
set_option maxHeartbeats 4000000 in
set_option maxRecDepth 100000 in
theorem cX3_bootBy_ok {l : Launch} {ρ : bsR} {cA : Nat → ClassId} {dC : Nat → ClassId} {dI : Nat → Nat → Nat} {Rz : va_W} {g : Nat} (hg : g < 13) {a1 : Int32} {X : bsX} {z : (Int32 × bsX)} (hf : fX3_bootBy g a1 X = some z) : bsMi l yX3_bootBy cX3_bootBy 5 (some .int) rmX3_bootBy ρ cA dC dI Rz [.ref (ρ g 0 0), .int a1] X z := by
  refine bsMi_of (by decide) (Nat.le_of_ble_eq_true rfl) (fun p e s m args below meth c C => ?_)
  have C : bsCx p m c cX3_bootBy 5 s args (Cond.code yX3_bootBy cX3_bootBy 5 (some .int) :: bsG) RX3 ρ cA dC dI Rz meth (some .int) := C
  rw [fX3_bootBy] at hf
  refine v_sub [0, 1] rfl ?_
  refine v_iconst (v := 0) C dX3_bootBy_0 (by decide) ?_
  refine v_istore_n (lv' := [(2, .int (0 : Int32)), (0, .ref (ρ g 0 0)), (1, .int a1)]) C dX3_bootBy_1 rfl (by decide) rfl ?_
  refine v_aload_n C dX3_bootBy_2 rfl rfl ?_
  refine v_iconst (v := 1) C dX3_bootBy_3 (by decide) ?_
  refine pf_X3_76 C hg (by decide) dX3_bootBy_4 ?_
  refine v_aload_n C dX3_bootBy_7 rfl rfl ?_
  refine v_iconst (v := -1) C dX3_bootBy_8 (by decide) ?_
  refine pf_X3_38 C hg dX3_bootBy_9 ?_
  refine v_aload_n C dX3_bootBy_12 rfl rfl ?_
  refine v_iconst (v := 0) C dX3_bootBy_13 (by decide) ?_
  refine pf_X3_80 C hg dX3_bootBy_14 ?_
  refine v_iconst (v := 0) C dX3_bootBy_17 (by decide) ?_
  refine v_istore_n (lv' := [(3, .int (0 : Int32)), (2, .int (0 : Int32)), (0, .ref (ρ g 0 0)), (1, .int a1)]) C dX3_bootBy_18 rfl (by decide) rfl ?_
  refine v_sub [2, 3, 1, 0] rfl ?_
  exact wX3_bootBy_19 hg  C  bsF _ _ _ _  hf
/-! BootSlots$Machine.switchOff()V -/
def fX3_switchOff (g : Nat) (X : bsX) : Option bsX := (fX2_stop g  (bsWr (bsWr (bsWr X g 0 0 10 (0 : Int32)) g 0 0 11 (-1 : Int32)) g 0 0 12 (0 : Int32))).bind fun r1 => some r1
abbrev rmX3_switchOff : Room := { frames := 3, cells := 0, slots := 0, locals := 63 }
set_option maxHeartbeats 4000000 in
set_option maxRecDepth 100000 in
theorem cX3_switchOff_ok {l : Launch} {ρ : bsR} {cA : Nat → ClassId} {dC : Nat → ClassId} {dI : Nat → Nat → Nat} {Rz : va_W} {g : Nat} (hg : g < 13) {X : bsX} {z : bsX} (hf : fX3_switchOff g X = some z) : bsMv l yX3_switchOff cX3_switchOff 1 none rmX3_switchOff ρ cA dC dI Rz [.ref (ρ g 0 0)] X z := by
  refine bsMv_of (by decide) (Nat.le_of_ble_eq_true rfl) (fun p e s m args below meth c C => ?_)
  have C : bsCx p m c cX3_switchOff 1 s args (Cond.code yX3_switchOff cX3_switchOff 1 none :: bsG) RX3 ρ cA dC dI Rz meth none := C
  rw [fX3_switchOff] at hf
  refine v_sub [0] rfl ?_
  refine v_aload_n C dX3_switchOff_0 rfl rfl ?_
  refine v_iconst (v := 0) C dX3_switchOff_1 (by decide) ?_
  refine pf_X3_76 C hg (by decide) dX3_switchOff_2 ?_
  refine v_aload_n C dX3_switchOff_5 rfl rfl ?_
  refine v_iconst (v := -1) C dX3_switchOff_6 (by decide) ?_
  refine pf_X3_38 C hg dX3_switchOff_7 ?_
  refine v_aload_n C dX3_switchOff_10 rfl rfl ?_
  refine v_iconst (v := 0) C dX3_switchOff_11 (by decide) ?_
  refine pf_X3_80 C hg dX3_switchOff_12 ?_
  refine v_aload_n C dX3_switchOff_15 rfl rfl ?_
  refine gf_X3_20 C hg dX3_switchOff_16 ?_
  obtain ⟨r1, hc2, hf⟩ := bs_bind hf
  refine v_callVv (y := yX2_stop) (As := []) (rest := []) C (cX2_stop_ok hg hc2) ml_X3_158 wyX2_stop (bsm_X2 hg) (bsc_X2 hg) rfl dpX2_stop ⟨Nat.le_of_ble_eq_true rfl, Nat.le_of_ble_eq_true rfl⟩ ⟨rfl, rfl⟩ ⟨Nat.le_of_ble_eq_true rfl, Nat.le_of_ble_eq_true rfl⟩ rfl (Nat.le_of_ble_eq_true rfl) dX3_switchOff_19 ?_
  exact v_vret C hf dX3_switchOff_22
/-! BootSlots$Machine.crash(LBootSlots$Slot;)V -/
def fX3_crash (g j1 : Nat) (X : bsX) : Option bsX := if ((bsWr (bsWr X g 4 0 2 ((X g 4 0 2) + (1 : Int32))) g 5 j1 5 (((bsWr X g 4 0 2 ((X g 4 0 2) + (1 : Int32))) g 5 j1 5) + (1 : Int32))) g 5 j1 4) = 0 then (some (bsWr (bsWr X g 4 0 2 ((X g 4 0 2) + (1 : Int32))) g 5 j1 5 (((bsWr X g 4 0 2 ((X g 4 0 2) + (1 : Int32))) g 5 j1 5) + (1 : Int32)))) else (if ((bsWr (bsWr X g 4 0 2 ((X g 4 0 2) + (1 : Int32))) g 5 j1 5 (((bsWr X g 4 0 2 ((X g 4 0 2) + (1 : Int32))) g 5 j1 5) + (1 : Int32))) g 5 j1 5) < ((bsWr (bsWr X g 4 0 2 ((X g 4 0 2) + (1 : Int32))) g 5 j1 5 (((bsWr X g 4 0 2 ((X g 4 0 2) + (1 : Int32))) g 5 j1 5) + (1 : Int32))) g 0 0 6) then (some (bsWr (bsWr X g 4 0 2 ((X g 4 0 2) + (1 : Int32))) g 5 j1 5 (((bsWr X g 4 0 2 ((X g 4 0 2) + (1 : Int32))) g 5 j1 5) + (1 : Int32)))) else (some (bsWr (bsWr (bsWr (bsWr (bsWr X g 4 0 2 ((X g 4 0 2) + (1 : Int32))) g 5 j1 5 (((bsWr X g 4 0 2 ((X g 4 0 2) + (1 : Int32))) g 5 j1 5) + (1 : Int32))) g 5 j1 4 (0 : Int32)) g 5 j1 3 ((bsWr (bsWr (bsWr X g 4 0 2 ((X g 4 0 2) + (1 : Int32))) g 5 j1 5 (((bsWr X g 4 0 2 ((X g 4 0 2) + (1 : Int32))) g 5 j1 5) + (1 : Int32))) g 5 j1 4 (0 : Int32)) g 0 0 7)) g 5 j1 5 (0 : Int32))))
abbrev rmX3_crash : Room := { frames := 0, cells := 0, slots := 0, locals := 0 }
set_option maxHeartbeats 4000000 in
set_option maxRecDepth 100000 in
theorem cX3_crash_ok {l : Launch} {ρ : bsR} {cA : Nat → ClassId} {dC : Nat → ClassId} {dI : Nat → Nat → Nat} {Rz : va_W} {g j1 : Nat} (hg : g < 13) (hj1 : j1 < 6) {X : bsX} {z : bsX} (hf : fX3_crash g j1 X = some z) : bsMv l yX3_crash cX3_crash 2 none rmX3_crash ρ cA dC dI Rz [.ref (ρ g 0 0), .ref (ρ g 5 j1)] X z := by
  refine bsMv_of (by decide) (Nat.le_of_ble_eq_true rfl) (fun p e s m args below meth c C => ?_)
  have C : bsCx p m c cX3_crash 2 s args (Cond.code yX3_crash cX3_crash 2 none :: bsG) RX3 ρ cA dC dI Rz meth none := C
  rw [fX3_crash] at hf
  refine v_sub [0, 1] rfl ?_
  refine v_aload_n C dX3_crash_0 rfl rfl ?_
  refine gf_X3_34 C hg dX3_crash_1 ?_
  refine v_dup C dX3_crash_4 rfl ?_
  refine gf_X3_197 C hg dX3_crash_5 ?_
  refine v_iconst (v := 1) C dX3_crash_8 (by decide) ?_
  refine v_iadd C dX3_crash_9 ?_
  refine pf_X3_197 C hg dX3_crash_10 ?_
  refine v_aload_n C dX3_crash_13 rfl rfl ?_
  refine v_dup C dX3_crash_14 rfl ?_
  refine gf_X3_200 C hg hj1 dX3_crash_15 ?_
  refine v_iconst (v := 1) C dX3_crash_18 (by decide) ?_
  refine v_iadd C dX3_crash_19 ?_
  refine pf_X3_200 C hg hj1 dX3_crash_20 ?_
  refine v_aload_n C dX3_crash_23 rfl rfl ?_
  refine gf_X3_109 C hg hj1 dX3_crash_24 ?_
  refine v_if_eq (tgt := 59) C dX3_crash_27 (by decide) (fun h2 => ?_) (fun h2 => ?_)
  · replace hf := bs_pos h2 hf
    exact v_vret C hf dX3_crash_59
  · replace hf := bs_neg h2 hf
    refine v_aload_n C dX3_crash_30 rfl rfl ?_
    refine gf_X3_200 C hg hj1 dX3_crash_31 ?_
    refine v_aload_n C dX3_crash_34 rfl rfl ?_
    refine gf_X3_64 C hg dX3_crash_35 ?_
    refine v_icmp_lt (tgt := 59) C dX3_crash_38 (by decide) (fun h1 => ?_) (fun h1 => ?_)
    · replace hf := bs_pos h1 hf
      exact v_vret C hf dX3_crash_59
    · replace hf := bs_neg h1 hf
      refine v_aload_n C dX3_crash_41 rfl rfl ?_
      refine v_iconst (v := 0) C dX3_crash_42 (by decide) ?_
      refine pf_X3_109 C hg hj1 (by decide) dX3_crash_43 ?_
      refine v_aload_n C dX3_crash_46 rfl rfl ?_
      refine v_aload_n C dX3_crash_47 rfl rfl ?_
      refine gf_X3_67 C hg dX3_crash_48 ?_
      refine pf_X3_112 C hg hj1 dX3_crash_51 ?_
      refine v_aload_n C dX3_crash_54 rfl rfl ?_
      refine v_iconst (v := 0) C dX3_crash_55 (by decide) ?_
      refine pf_X3_200 C hg hj1 dX3_crash_56 ?_
      exact v_vret C hf dX3_crash_59
/-! BootSlots$Machine.succeed(LBootSlots$Slot;)V -/
def fX3_succeed_40 (g j1 : Nat) (X : bsX) : Option bsX := (fX3_floorByGoodAnd g (-1 : Int32) (bsWr X g 5 j1 5 (0 : Int32))).bind fun r1 => some (bsWr r1.2 g 0 0 8 r1.1)
def fX3_succeed (g j1 : Nat) (X : bsX) : Option bsX := if (X g 5 j1 4) = 0 then (fX3_succeed_40 g j1   (bsWr (bsWr (bsWr (bsWr X g 5 j1 4 (1 : Int32)) g 5 j1 3 (0 : Int32)) g 5 j1 8 (((bsWr (bsWr X g 5 j1 4 (1 : Int32)) g 5 j1 3 (0 : Int32)) g 5 j1 8) + (1 : Int32))) g 4 0 4 (((bsWr (bsWr (bsWr X g 5 j1 4 (1 : Int32)) g 5 j1 3 (0 : Int32)) g 5 j1 8 (((bsWr (bsWr X g 5 j1 4 (1 : Int32)) g 5 j1 3 (0 : Int32)) g 5 j1 8) + (1 : Int32))) g 4 0 4) + (1 : Int32)))) else (fX3_succeed_40 g j1   X)
abbrev rmX3_succeed : Room := { frames := 2, cells := 0, slots := 0, locals := 45 }
set_option maxHeartbeats 4000000 in
set_option maxRecDepth 100000 in
theorem wX3_succeed_40 {p : Program} {l : Launch} {e : Env} {s : State} {m : MethodId} {args : Array Value} {below : List Frame} {meth : Method} {c : Code} {ρ : bsR} {cA : Nat → ClassId} {dC : Nat → ClassId} {dI : Nat → Nat → Nat} {Rz : va_W} {Ts : List Cond} {g j1 : Nat} (hg : g < 13) (hj1 : j1 < 6)  {z : bsX} (C : bsCx p m c cX3_succeed 2 s args Ts RX3 ρ cA dC dI Rz meth none) (X : bsX) (hf : fX3_succeed_40 g j1 X = some z) : bsV p l e rmX3_succeed s m args below meth c 0 0 (MQ below (bsQv ρ cA dC dI Rz z s.heap.size) args s 0 0 (bsA ρ cA Rz s.heap.size)) ρ cA dC dI Rz 2 40 [(0, .ref (ρ g 0 0)), (1, .ref (ρ g 5 j1))] [] X := by
  rw [fX3_succeed_40] at hf
  refine v_aload_n C dX3_succeed_40 rfl rfl ?_
  refine v_iconst (v := 0) C dX3_succeed_41 (by decide) ?_
  refine pf_X3_200 C hg hj1 dX3_succeed_42 ?_
  refine v_aload_n C dX3_succeed_45 rfl rfl ?_
  refine v_aload_n C dX3_succeed_46 rfl rfl ?_
  refine v_iconst (v := -1) C dX3_succeed_47 (by decide) ?_
  obtain ⟨r1, hc2, hf⟩ := bs_bind hf
  refine v_callVi (y := yX3_floorByGoodAnd) (As := [.int (-1 : Int32)]) (rest := [.ref (ρ g 0 0)]) C (cX3_floorByGoodAnd_ok hg hc2) ml_X3_207 wyX3_floorByGoodAnd (bsm_X3 hg) (bsc_X3 hg) rfl dpX3_floorByGoodAnd ⟨Nat.le_of_ble_eq_true rfl, Nat.le_of_ble_eq_true rfl⟩ ⟨rfl, rfl⟩ ⟨Nat.le_of_ble_eq_true rfl, Nat.le_of_ble_eq_true rfl⟩ rfl (Nat.le_of_ble_eq_true rfl) dX3_succeed_48 ?_
  refine pf_X3_70 C hg dX3_succeed_51 ?_
  exact v_vret C hf dX3_succeed_54
set_option maxHeartbeats 4000000 in
set_option maxRecDepth 100000 in
theorem cX3_succeed_ok {l : Launch} {ρ : bsR} {cA : Nat → ClassId} {dC : Nat → ClassId} {dI : Nat → Nat → Nat} {Rz : va_W} {g j1 : Nat} (hg : g < 13) (hj1 : j1 < 6) {X : bsX} {z : bsX} (hf : fX3_succeed g j1 X = some z) : bsMv l yX3_succeed cX3_succeed 2 none rmX3_succeed ρ cA dC dI Rz [.ref (ρ g 0 0), .ref (ρ g 5 j1)] X z := by
  refine bsMv_of (by decide) (Nat.le_of_ble_eq_true rfl) (fun p e s m args below meth c C => ?_)
  have C : bsCx p m c cX3_succeed 2 s args (Cond.code yX3_succeed cX3_succeed 2 none :: bsG) RX3 ρ cA dC dI Rz meth none := C
  rw [fX3_succeed] at hf
  refine v_sub [0, 1] rfl ?_
  refine v_aload_n C dX3_succeed_0 rfl rfl ?_
  refine gf_X3_109 C hg hj1 dX3_succeed_1 ?_
  refine v_if_ne (tgt := 40) C dX3_succeed_4 (by decide) (fun h3 => ?_) (fun h3 => ?_)
  · replace hf := bs_neg h3 hf
    refine v_sub [0, 1] rfl ?_
    exact wX3_succeed_40 hg hj1  C  _  hf
  · replace hf := bs_pos h3 hf
    refine v_aload_n C dX3_succeed_7 rfl rfl ?_
    refine v_iconst (v := 1) C dX3_succeed_8 (by decide) ?_
    refine pf_X3_109 C hg hj1 (by decide) dX3_succeed_9 ?_
    refine v_aload_n C dX3_succeed_12 rfl rfl ?_
    refine v_iconst (v := 0) C dX3_succeed_13 (by decide) ?_
    refine pf_X3_112 C hg hj1 dX3_succeed_14 ?_
    refine v_aload_n C dX3_succeed_17 rfl rfl ?_
    refine v_dup C dX3_succeed_18 rfl ?_
    refine gf_X3_203 C hg hj1 dX3_succeed_19 ?_
    refine v_iconst (v := 1) C dX3_succeed_22 (by decide) ?_
    refine v_iadd C dX3_succeed_23 ?_
    refine pf_X3_203 C hg hj1 dX3_succeed_24 ?_
    refine v_aload_n C dX3_succeed_27 rfl rfl ?_
    refine gf_X3_34 C hg dX3_succeed_28 ?_
    refine v_dup C dX3_succeed_31 rfl ?_
    refine gf_X3_206 C hg dX3_succeed_32 ?_
    refine v_iconst (v := 1) C dX3_succeed_35 (by decide) ?_
    refine v_iadd C dX3_succeed_36 ?_
    refine pf_X3_206 C hg dX3_succeed_37 ?_
    refine v_sub [0, 1] rfl ?_
    exact wX3_succeed_40 hg hj1  C  _  hf
/-! BootSlots$Machine.growOlder(LBootSlots$Slot;)I -/
def fX3_growOlder (g j1 : Nat) (X : bsX) : Option (Int32 × bsX) := if ((bsWr X g 0 0 12 ((X g 0 0 12) + (1 : Int32))) g 0 0 12) = ((bsWr X g 0 0 12 ((X g 0 0 12) + (1 : Int32))) g 6 j1 3) then ((fX3_crash g j1  (bsWr X g 0 0 12 ((X g 0 0 12) + (1 : Int32)))).bind fun r6 => some ((2 : Int32), r6)) else (if ((bsWr X g 0 0 12 ((X g 0 0 12) + (1 : Int32))) g 0 0 12) = ((bsWr X g 0 0 12 ((X g 0 0 12) + (1 : Int32))) g 6 j1 2) then ((fX3_succeed g j1  (bsWr X g 0 0 12 ((X g 0 0 12) + (1 : Int32)))).bind fun r3 => some ((-1 : Int32), r3)) else (if ((bsWr X g 0 0 12 ((X g 0 0 12) + (1 : Int32))) g 0 0 12) = ((bsWr X g 0 0 12 ((X g 0 0 12) + (1 : Int32))) g 0 0 5) then (if ((bsWr X g 0 0 12 ((X g 0 0 12) + (1 : Int32))) g 5 j1 4) = 0 then (some ((3 : Int32), (bsWr (bsWr X g 0 0 12 ((X g 0 0 12) + (1 : Int32))) g 4 0 3 (((bsWr X g 0 0 12 ((X g 0 0 12) + (1 : Int32))) g 4 0 3) + (1 : Int32))))) else (some ((-1 : Int32), (bsWr X g 0 0 12 ((X g 0 0 12) + (1 : Int32)))))) else (some ((-1 : Int32), (bsWr X g 0 0 12 ((X g 0 0 12) + (1 : Int32)))))))
abbrev rmX3_growOlder : Room := { frames := 3, cells := 0, slots := 0, locals := 66 }
set_option maxHeartbeats 4000000 in
set_option maxRecDepth 100000 in
theorem cX3_growOlder_ok {l : Launch} {ρ : bsR} {cA : Nat → ClassId} {dC : Nat → ClassId} {dI : Nat → Nat → Nat} {Rz : va_W} {g j1 : Nat} (hg : g < 13) (hj1 : j1 < 6) {X : bsX} {z : (Int32 × bsX)} (hf : fX3_growOlder g j1 X = some z) : bsMi l yX3_growOlder cX3_growOlder 2 (some .int) rmX3_growOlder ρ cA dC dI Rz [.ref (ρ g 0 0), .ref (ρ g 5 j1)] X z := by
  refine bsMi_of (by decide) (Nat.le_of_ble_eq_true rfl) (fun p e s m args below meth c C => ?_)
  have C : bsCx p m c cX3_growOlder 2 s args (Cond.code yX3_growOlder cX3_growOlder 2 (some .int) :: bsG) RX3 ρ cA dC dI Rz meth (some .int) := C
  rw [fX3_growOlder] at hf
  refine v_sub [0, 1] rfl ?_
  refine v_aload_n C dX3_growOlder_0 rfl rfl ?_
  refine v_dup C dX3_growOlder_1 rfl ?_
  refine gf_X3_80 C hg dX3_growOlder_2 ?_
  refine v_iconst (v := 1) C dX3_growOlder_5 (by decide) ?_
  refine v_iadd C dX3_growOlder_6 ?_
  refine pf_X3_80 C hg dX3_growOlder_7 ?_
  refine v_aload_n C dX3_growOlder_10 rfl rfl ?_
  refine gf_X3_80 C hg dX3_growOlder_11 ?_
  refine v_aload_n C dX3_growOlder_14 rfl rfl ?_
  refine gf_X3_87 C hg hj1 dX3_growOlder_15 ?_
  refine gf_X3_183 C hg (Nat.lt_succ_of_lt hj1) dX3_growOlder_18 ?_
  refine v_icmp_ne (tgt := 31) C dX3_growOlder_21 (by decide) (fun h8 => ?_) (fun h8 => ?_)
  · replace hf := bs_neg h8 hf
    refine v_aload_n C dX3_growOlder_31 rfl rfl ?_
    refine gf_X3_80 C hg dX3_growOlder_32 ?_
    refine v_aload_n C dX3_growOlder_35 rfl rfl ?_
    refine gf_X3_87 C hg hj1 dX3_growOlder_36 ?_
    refine gf_X3_188 C hg (Nat.lt_succ_of_lt hj1) dX3_growOlder_39 ?_
    refine v_icmp_ne (tgt := 52) C dX3_growOlder_42 (by decide) (fun h5 => ?_) (fun h5 => ?_)
    · replace hf := bs_neg h5 hf
      refine v_aload_n C dX3_growOlder_52 rfl rfl ?_
      refine gf_X3_80 C hg dX3_growOlder_53 ?_
      refine v_aload_n C dX3_growOlder_56 rfl rfl ?_
      refine gf_X3_61 C hg dX3_growOlder_57 ?_
      refine v_icmp_ne (tgt := 85) C dX3_growOlder_60 (by decide) (fun h2 => ?_) (fun h2 => ?_)
      · replace hf := bs_neg h2 hf
        refine v_iconst (v := -1) C dX3_growOlder_85 (by decide) ?_
        exact v_iret C hf dX3_growOlder_86
      · replace hf := bs_pos h2 hf
        refine v_aload_n C dX3_growOlder_63 rfl rfl ?_
        refine gf_X3_109 C hg hj1 dX3_growOlder_64 ?_
        refine v_if_ne (tgt := 85) C dX3_growOlder_67 (by decide) (fun h1 => ?_) (fun h1 => ?_)
        · replace hf := bs_neg h1 hf
          refine v_iconst (v := -1) C dX3_growOlder_85 (by decide) ?_
          exact v_iret C hf dX3_growOlder_86
        · replace hf := bs_pos h1 hf
          refine v_aload_n C dX3_growOlder_70 rfl rfl ?_
          refine gf_X3_34 C hg dX3_growOlder_71 ?_
          refine v_dup C dX3_growOlder_74 rfl ?_
          refine gf_X3_194 C hg dX3_growOlder_75 ?_
          refine v_iconst (v := 1) C dX3_growOlder_78 (by decide) ?_
          refine v_iadd C dX3_growOlder_79 ?_
          refine pf_X3_194 C hg dX3_growOlder_80 ?_
          refine v_iconst (v := 3) C dX3_growOlder_83 (by decide) ?_
          exact v_iret C hf dX3_growOlder_84
    · replace hf := bs_pos h5 hf
      refine v_aload_n C dX3_growOlder_45 rfl rfl ?_
      refine v_aload_n C dX3_growOlder_46 rfl rfl ?_
      obtain ⟨r3, hc4, hf⟩ := bs_bind hf
      refine v_callVv (y := yX3_succeed) (As := [.ref (ρ g 5 j1)]) (rest := []) C (cX3_succeed_ok hg hj1 hc4) ml_X3_191 wyX3_succeed (bsm_X3 hg) (bsc_X3 hg) rfl dpX3_succeed ⟨Nat.le_of_ble_eq_true rfl, Nat.le_of_ble_eq_true rfl⟩ ⟨rfl, rfl⟩ ⟨Nat.le_of_ble_eq_true rfl, Nat.le_of_ble_eq_true rfl⟩ rfl (Nat.le_of_ble_eq_true rfl) dX3_growOlder_47 ?_
      refine v_iconst (v := -1) C dX3_growOlder_50 (by decide) ?_
      exact v_iret C hf dX3_growOlder_51
  · replace hf := bs_pos h8 hf
    refine v_aload_n C dX3_growOlder_24 rfl rfl ?_
    refine v_aload_n C dX3_growOlder_25 rfl rfl ?_
    obtain ⟨r6, hc7, hf⟩ := bs_bind hf
    refine v_callVv (y := yX3_crash) (As := [.ref (ρ g 5 j1)]) (rest := []) C (cX3_crash_ok hg hj1 hc7) ml_X3_186 wyX3_crash (bsm_X3 hg) (bsc_X3 hg) rfl dpX3_crash ⟨Nat.le_of_ble_eq_true rfl, Nat.le_of_ble_eq_true rfl⟩ ⟨rfl, rfl⟩ ⟨Nat.le_of_ble_eq_true rfl, Nat.le_of_ble_eq_true rfl⟩ rfl (Nat.le_of_ble_eq_true rfl) dX3_growOlder_26 ?_
    refine v_iconst (v := 2) C dX3_growOlder_29 (by decide) ?_
    exact v_iret C hf dX3_growOlder_30
/-! BootSlots$Machine.greatestPriorityBut(I)I -/
def fX3_greatestPriorityBut_29 (g : Nat) (k4 : Int32 → Int32 → Int32 → bsX → Option (Int32 × bsX)) (x1 : Int32) (x2 : Int32) (x3 : Int32) (X : bsX) : Option (Int32 × bsX) := k4 x1 x2 (x3 + (1 : Int32)) X
def fX3_greatestPriorityBut_4 (g : Nat) : Nat → Int32 → Int32 → Int32 → bsX → Option (Int32 × bsX)
  | 0, _, _, _, _ => none
  | n + 1, x1, x2, x3, X => if (6 : Int32) ≤ x3 then (some (x2, X)) else (if x3 = x1 then (fX3_greatestPriorityBut_29 g (fX3_greatestPriorityBut_4 g n) x1 x2 x3 X) else (if bsIn x3 6 then (fX3_greatestPriorityBut_29 g (fX3_greatestPriorityBut_4 g n) x1 (bsMax x2 (X g 5 (bsIx x3) 2)) x3 X) else none))
def fX3_greatestPriorityBut (g : Nat) (a1 : Int32) (X : bsX) : Option (Int32 × bsX) := fX3_greatestPriorityBut_4 g  bsF a1 (0 : Int32) (0 : Int32) X
abbrev rmX3_greatestPriorityBut : Room := { frames := 1, cells := 0, slots := 0, locals := 21 }
set_option maxHeartbeats 4000000 in
set_option maxRecDepth 100000 in
theorem wX3_greatestPriorityBut_29 {p : Program} {l : Launch} {e : Env} {s : State} {m : MethodId} {args : Array Value} {below : List Frame} {meth : Method} {c : Code} {ρ : bsR} {cA : Nat → ClassId} {dC : Nat → ClassId} {dI : Nat → Nat → Nat} {Rz : va_W} {Ts : List Cond} {g : Nat} (hg : g < 13) (k4 : Int32 → Int32 → Int32 → bsX → Option (Int32 × bsX))  {z : (Int32 × bsX)} (C : bsCx p m c cX3_greatestPriorityBut 4 s args Ts RX3 ρ cA dC dI Rz meth (some .int)) (hk4 : ∀ (x1 : Int32) (x2 : Int32) (x3 : Int32) (X : bsX), k4 x1 x2 x3 X = some z → bsV p l e rmX3_greatestPriorityBut s m args below meth c 0 0 (MQ below (bsQi ρ cA dC dI Rz z s.heap.size) args s 0 0 (bsA ρ cA Rz s.heap.size)) ρ cA dC dI Rz 4 4 [(0, .ref (ρ g 0 0)), (1, .int x1), (2, .int x2), (3, .int x3)] [] X)  (x1 : Int32) (x2 : Int32) (x3 : Int32) (X : bsX) (hf : fX3_greatestPriorityBut_29 g k4 x1 x2 x3 X = some z) : bsV p l e rmX3_greatestPriorityBut s m args below meth c 0 0 (MQ below (bsQi ρ cA dC dI Rz z s.heap.size) args s 0 0 (bsA ρ cA Rz s.heap.size)) ρ cA dC dI Rz 4 29 [(0, .ref (ρ g 0 0)), (1, .int x1), (2, .int x2), (3, .int x3)] [] X := by
  rw [fX3_greatestPriorityBut_29] at hf
  refine v_iinc (k0 := 3) (v := (x3 + (1 : Int32))) (lv' := [(3, .int (x3 + (1 : Int32))), (0, .ref (ρ g 0 0)), (1, .int x1), (2, .int x2)]) C dX3_greatestPriorityBut_29 rfl rfl (by decide) rfl ?_
  refine v_goto (tgt := 4) C dX3_greatestPriorityBut_32 (by decide) ?_
  refine v_sub [1, 2, 3, 0] rfl ?_
  exact hk4 _ _ _ _  hf
set_option maxHeartbeats 4000000 in
set_option maxRecDepth 100000 in
theorem wX3_greatestPriorityBut_4 {p : Program} {l : Launch} {e : Env} {s : State} {m : MethodId} {args : Array Value} {below : List Frame} {meth : Method} {c : Code} {ρ : bsR} {cA : Nat → ClassId} {dC : Nat → ClassId} {dI : Nat → Nat → Nat} {Rz : va_W} {Ts : List Cond} {g : Nat} (hg : g < 13)  {z : (Int32 × bsX)} (C : bsCx p m c cX3_greatestPriorityBut 4 s args Ts RX3 ρ cA dC dI Rz meth (some .int)) : ∀ (n : Nat) (x1 : Int32) (x2 : Int32) (x3 : Int32) (X : bsX), fX3_greatestPriorityBut_4 g n x1 x2 x3 X = some z → bsV p l e rmX3_greatestPriorityBut s m args below meth c 0 0 (MQ below (bsQi ρ cA dC dI Rz z s.heap.size) args s 0 0 (bsA ρ cA Rz s.heap.size)) ρ cA dC dI Rz 4 4 [(0, .ref (ρ g 0 0)), (1, .int x1), (2, .int x2), (3, .int x3)] [] X := by
  intro n
  induction n with
  | zero => intro x1 x2 x3 X hf; exact (nomatch hf)
  | succ n ih =>
    intro x1 x2 x3 X hf
    rw [fX3_greatestPriorityBut_4] at hf
    refine v_iload_n C dX3_greatestPriorityBut_4 rfl rfl ?_
    refine v_bipush (v := 6) C dX3_greatestPriorityBut_5 (by decide) ?_
    refine v_icmp_ge (tgt := 35) C dX3_greatestPriorityBut_7 (by decide) (fun h3 => ?_) (fun h3 => ?_)
    · replace hf := bs_pos h3 hf
      refine v_iload_n C dX3_greatestPriorityBut_35 rfl rfl ?_
      exact v_iret C hf dX3_greatestPriorityBut_36
    · replace hf := bs_neg h3 hf
      refine v_iload_n C dX3_greatestPriorityBut_10 rfl rfl ?_
      refine v_iload_n C dX3_greatestPriorityBut_11 rfl rfl ?_
      refine v_icmp_eq (tgt := 29) C dX3_greatestPriorityBut_12 (by decide) (fun h2 => ?_) (fun h2 => ?_)
      · replace hf := bs_pos h2 hf
        refine v_sub [0, 1, 2, 3] rfl ?_
        exact wX3_greatestPriorityBut_29 hg (fX3_greatestPriorityBut_4 g n) C (fun b0 b1 b2 X  h => ih b0 b1 b2 X  h) _ _ _ _  hf
      · replace hf := bs_neg h2 hf
        refine v_iload_n C dX3_greatestPriorityBut_15 rfl rfl ?_
        refine v_aload_n C dX3_greatestPriorityBut_16 rfl rfl ?_
        refine gf_X3_11 C hg dX3_greatestPriorityBut_17 ?_
        refine v_iload_n C dX3_greatestPriorityBut_20 rfl rfl ?_
        obtain ⟨hi1, hf⟩ := bs_if hf
        refine v_aald (t0 := 3) (n := 6) C (bsm_K1 hg) (bsc_K1 hg) rfl hi1 rfl dX3_greatestPriorityBut_21 ?_
        refine gf_X3_106 C hg (bsIx_lt hi1) dX3_greatestPriorityBut_22 ?_
        refine v_mmax C (Nat.le_of_ble_eq_true rfl) (Nat.le_of_ble_eq_true rfl) (Nat.le_of_ble_eq_true rfl) (Nat.le_of_ble_eq_true rfl) (mm_X3_128) dX3_greatestPriorityBut_25 ?_
        refine v_istore_n (lv' := [(2, .int (bsMax x2 (X g 5 (bsIx x3) 2))), (0, .ref (ρ g 0 0)), (1, .int x1), (3, .int x3)]) C dX3_greatestPriorityBut_28 rfl (by decide) rfl ?_
        refine v_sub [1, 2, 0, 3] rfl ?_
        exact wX3_greatestPriorityBut_29 hg (fX3_greatestPriorityBut_4 g n) C (fun b0 b1 b2 X  h => ih b0 b1 b2 X  h) _ _ _ _  hf
set_option maxHeartbeats 4000000 in
set_option maxRecDepth 100000 in
theorem cX3_greatestPriorityBut_ok {l : Launch} {ρ : bsR} {cA : Nat → ClassId} {dC : Nat → ClassId} {dI : Nat → Nat → Nat} {Rz : va_W} {g : Nat} (hg : g < 13) {a1 : Int32} {X : bsX} {z : (Int32 × bsX)} (hf : fX3_greatestPriorityBut g a1 X = some z) : bsMi l yX3_greatestPriorityBut cX3_greatestPriorityBut 4 (some .int) rmX3_greatestPriorityBut ρ cA dC dI Rz [.ref (ρ g 0 0), .int a1] X z := by
  refine bsMi_of (by decide) (Nat.le_of_ble_eq_true rfl) (fun p e s m args below meth c C => ?_)
  have C : bsCx p m c cX3_greatestPriorityBut 4 s args (Cond.code yX3_greatestPriorityBut cX3_greatestPriorityBut 4 (some .int) :: bsG) RX3 ρ cA dC dI Rz meth (some .int) := C
  rw [fX3_greatestPriorityBut] at hf
  refine v_sub [0, 1] rfl ?_
  refine v_iconst (v := 0) C dX3_greatestPriorityBut_0 (by decide) ?_
  refine v_istore_n (lv' := [(2, .int (0 : Int32)), (0, .ref (ρ g 0 0)), (1, .int a1)]) C dX3_greatestPriorityBut_1 rfl (by decide) rfl ?_
  refine v_iconst (v := 0) C dX3_greatestPriorityBut_2 (by decide) ?_
  refine v_istore_n (lv' := [(3, .int (0 : Int32)), (2, .int (0 : Int32)), (0, .ref (ρ g 0 0)), (1, .int a1)]) C dX3_greatestPriorityBut_3 rfl (by decide) rfl ?_
  refine v_sub [2, 3, 1, 0] rfl ?_
  exact wX3_greatestPriorityBut_4 hg  C  bsF _ _ _ _  hf
/-! BootSlots$Machine.makeRoomAbove(I)V -/
def fX3_makeRoomAbove_52 (g : Nat) (k13 : Int32 → Int32 → bsX → Option bsX) (x1 : Int32) (x2 : Int32) (X : bsX) : Option bsX := k13 x1 (x2 + (1 : Int32)) X
def fX3_makeRoomAbove_13 (g : Nat) : Nat → Int32 → Int32 → bsX → Option bsX
  | 0, _, _, _ => none
  | n + 1, x1, x2, X => if (6 : Int32) ≤ x2 then (some X) else (if x2 = x1 then (fX3_makeRoomAbove_52 g (fX3_makeRoomAbove_13 g n) x1 x2 X) else (if bsIn x2 6 then (if (X g 5 (bsIx x2) 2) ≤ (1 : Int32) then (fX3_makeRoomAbove_52 g (fX3_makeRoomAbove_13 g n) x1 x2 X) else (fX3_makeRoomAbove_52 g (fX3_makeRoomAbove_13 g n) x1 x2 (bsWr X g 5 (bsIx x2) 2 ((X g 5 (bsIx x2) 2) - (1 : Int32))))) else none))
def fX3_makeRoomAbove (g : Nat) (a1 : Int32) (X : bsX) : Option bsX := (fX3_greatestPriorityBut g a1 X).bind fun r6 => if (15 : Int32) ≤ r6.1 then (fX3_makeRoomAbove_13 g  bsF a1 (0 : Int32) r6.2) else (some r6.2)
abbrev rmX3_makeRoomAbove : Room := { frames := 2, cells := 0, slots := 0, locals := 44 }
set_option maxHeartbeats 4000000 in
set_option maxRecDepth 100000 in
theorem wX3_makeRoomAbove_52 {p : Program} {l : Launch} {e : Env} {s : State} {m : MethodId} {args : Array Value} {below : List Frame} {meth : Method} {c : Code} {ρ : bsR} {cA : Nat → ClassId} {dC : Nat → ClassId} {dI : Nat → Nat → Nat} {Rz : va_W} {Ts : List Cond} {g : Nat} (hg : g < 13) (k13 : Int32 → Int32 → bsX → Option bsX)  {z : bsX} (C : bsCx p m c cX3_makeRoomAbove 3 s args Ts RX3 ρ cA dC dI Rz meth none) (hk13 : ∀ (x1 : Int32) (x2 : Int32) (X : bsX), k13 x1 x2 X = some z → bsV p l e rmX3_makeRoomAbove s m args below meth c 0 0 (MQ below (bsQv ρ cA dC dI Rz z s.heap.size) args s 0 0 (bsA ρ cA Rz s.heap.size)) ρ cA dC dI Rz 3 13 [(0, .ref (ρ g 0 0)), (1, .int x1), (2, .int x2)] [] X)  (x1 : Int32) (x2 : Int32) (X : bsX) (hf : fX3_makeRoomAbove_52 g k13 x1 x2 X = some z) : bsV p l e rmX3_makeRoomAbove s m args below meth c 0 0 (MQ below (bsQv ρ cA dC dI Rz z s.heap.size) args s 0 0 (bsA ρ cA Rz s.heap.size)) ρ cA dC dI Rz 3 52 [(0, .ref (ρ g 0 0)), (1, .int x1), (2, .int x2)] [] X := by
  rw [fX3_makeRoomAbove_52] at hf
  refine v_iinc (k0 := 2) (v := (x2 + (1 : Int32))) (lv' := [(2, .int (x2 + (1 : Int32))), (0, .ref (ρ g 0 0)), (1, .int x1)]) C dX3_makeRoomAbove_52 rfl rfl (by decide) rfl ?_
  refine v_goto (tgt := 13) C dX3_makeRoomAbove_55 (by decide) ?_
  refine v_sub [1, 2, 0] rfl ?_
  exact hk13 _ _ _  hf
set_option maxHeartbeats 4000000 in
set_option maxRecDepth 100000 in
theorem wX3_makeRoomAbove_13 {p : Program} {l : Launch} {e : Env} {s : State} {m : MethodId} {args : Array Value} {below : List Frame} {meth : Method} {c : Code} {ρ : bsR} {cA : Nat → ClassId} {dC : Nat → ClassId} {dI : Nat → Nat → Nat} {Rz : va_W} {Ts : List Cond} {g : Nat} (hg : g < 13)  {z : bsX} (C : bsCx p m c cX3_makeRoomAbove 3 s args Ts RX3 ρ cA dC dI Rz meth none) : ∀ (n : Nat) (x1 : Int32) (x2 : Int32) (X : bsX), fX3_makeRoomAbove_13 g n x1 x2 X = some z → bsV p l e rmX3_makeRoomAbove s m args below meth c 0 0 (MQ below (bsQv ρ cA dC dI Rz z s.heap.size) args s 0 0 (bsA ρ cA Rz s.heap.size)) ρ cA dC dI Rz 3 13 [(0, .ref (ρ g 0 0)), (1, .int x1), (2, .int x2)] [] X := by
  intro n
  induction n with
  | zero => intro x1 x2 X hf; exact (nomatch hf)
  | succ n ih =>
    intro x1 x2 X hf
    rw [fX3_makeRoomAbove_13] at hf
    refine v_iload_n C dX3_makeRoomAbove_13 rfl rfl ?_
    refine v_bipush (v := 6) C dX3_makeRoomAbove_14 (by decide) ?_
    refine v_icmp_ge (tgt := 58) C dX3_makeRoomAbove_16 (by decide) (fun h5 => ?_) (fun h5 => ?_)
    · replace hf := bs_pos h5 hf
      exact v_vret C hf dX3_makeRoomAbove_58
    · replace hf := bs_neg h5 hf
      refine v_iload_n C dX3_makeRoomAbove_19 rfl rfl ?_
      refine v_iload_n C dX3_makeRoomAbove_20 rfl rfl ?_
      refine v_icmp_eq (tgt := 52) C dX3_makeRoomAbove_21 (by decide) (fun h4 => ?_) (fun h4 => ?_)
      · replace hf := bs_pos h4 hf
        refine v_sub [0, 1, 2] rfl ?_
        exact wX3_makeRoomAbove_52 hg (fX3_makeRoomAbove_13 g n) C (fun b0 b1 X  h => ih b0 b1 X  h) _ _ _  hf
      · replace hf := bs_neg h4 hf
        refine v_aload_n C dX3_makeRoomAbove_24 rfl rfl ?_
        refine gf_X3_11 C hg dX3_makeRoomAbove_25 ?_
        refine v_iload_n C dX3_makeRoomAbove_28 rfl rfl ?_
        obtain ⟨hi1, hf⟩ := bs_if hf
        refine v_aald (t0 := 3) (n := 6) C (bsm_K1 hg) (bsc_K1 hg) rfl hi1 rfl dX3_makeRoomAbove_29 ?_
        refine gf_X3_106 C hg (bsIx_lt hi1) dX3_makeRoomAbove_30 ?_
        refine v_iconst (v := 1) C dX3_makeRoomAbove_33 (by decide) ?_
        refine v_icmp_le (tgt := 52) C dX3_makeRoomAbove_34 (by decide) (fun h3 => ?_) (fun h3 => ?_)
        · replace hf := bs_pos h3 hf
          refine v_sub [0, 1, 2] rfl ?_
          exact wX3_makeRoomAbove_52 hg (fX3_makeRoomAbove_13 g n) C (fun b0 b1 X  h => ih b0 b1 X  h) _ _ _  hf
        · replace hf := bs_neg h3 hf
          refine v_aload_n C dX3_makeRoomAbove_37 rfl rfl ?_
          refine gf_X3_11 C hg dX3_makeRoomAbove_38 ?_
          refine v_iload_n C dX3_makeRoomAbove_41 rfl rfl ?_
          refine v_aald (t0 := 3) (n := 6) C (bsm_K1 hg) (bsc_K1 hg) rfl hi1 rfl dX3_makeRoomAbove_42 ?_
          refine v_dup C dX3_makeRoomAbove_43 rfl ?_
          refine gf_X3_106 C hg (bsIx_lt hi1) dX3_makeRoomAbove_44 ?_
          refine v_iconst (v := 1) C dX3_makeRoomAbove_47 (by decide) ?_
          refine v_isub C dX3_makeRoomAbove_48 ?_
          refine pf_X3_106 C hg (bsIx_lt hi1) dX3_makeRoomAbove_49 ?_
          refine v_sub [0, 1, 2] rfl ?_
          exact wX3_makeRoomAbove_52 hg (fX3_makeRoomAbove_13 g n) C (fun b0 b1 X  h => ih b0 b1 X  h) _ _ _  hf
set_option maxHeartbeats 4000000 in
set_option maxRecDepth 100000 in
theorem cX3_makeRoomAbove_ok {l : Launch} {ρ : bsR} {cA : Nat → ClassId} {dC : Nat → ClassId} {dI : Nat → Nat → Nat} {Rz : va_W} {g : Nat} (hg : g < 13) {a1 : Int32} {X : bsX} {z : bsX} (hf : fX3_makeRoomAbove g a1 X = some z) : bsMv l yX3_makeRoomAbove cX3_makeRoomAbove 3 none rmX3_makeRoomAbove ρ cA dC dI Rz [.ref (ρ g 0 0), .int a1] X z := by
  refine bsMv_of (by decide) (Nat.le_of_ble_eq_true rfl) (fun p e s m args below meth c C => ?_)
  have C : bsCx p m c cX3_makeRoomAbove 3 s args (Cond.code yX3_makeRoomAbove cX3_makeRoomAbove 3 none :: bsG) RX3 ρ cA dC dI Rz meth none := C
  rw [fX3_makeRoomAbove] at hf
  refine v_sub [0, 1] rfl ?_
  refine v_aload_n C dX3_makeRoomAbove_0 rfl rfl ?_
  refine v_iload_n C dX3_makeRoomAbove_1 rfl rfl ?_
  obtain ⟨r6, hc7, hf⟩ := bs_bind hf
  refine v_callVi (y := yX3_greatestPriorityBut) (As := [.int a1]) (rest := []) C (cX3_greatestPriorityBut_ok hg hc7) ml_X3_220 wyX3_greatestPriorityBut (bsm_X3 hg) (bsc_X3 hg) rfl dpX3_greatestPriorityBut ⟨Nat.le_of_ble_eq_true rfl, Nat.le_of_ble_eq_true rfl⟩ ⟨rfl, rfl⟩ ⟨Nat.le_of_ble_eq_true rfl, Nat.le_of_ble_eq_true rfl⟩ rfl (Nat.le_of_ble_eq_true rfl) dX3_makeRoomAbove_2 ?_
  refine v_bipush (v := 15) C dX3_makeRoomAbove_5 (by decide) ?_
  refine v_icmp_ge (tgt := 11) C dX3_makeRoomAbove_7 (by decide) (fun h8 => ?_) (fun h8 => ?_)
  · replace hf := bs_pos h8 hf
    refine v_iconst (v := 0) C dX3_makeRoomAbove_11 (by decide) ?_
    refine v_istore_n (lv' := [(2, .int (0 : Int32)), (0, .ref (ρ g 0 0)), (1, .int a1)]) C dX3_makeRoomAbove_12 rfl (by decide) rfl ?_
    refine v_sub [1, 2, 0] rfl ?_
    exact wX3_makeRoomAbove_13 hg  C  bsF _ _ _  hf
  · replace hf := bs_neg h8 hf
    exact v_vret C hf dX3_makeRoomAbove_10
/-! BootSlots$Machine.takeInstall()V -/
def fX3_takeInstall_76 (g : Nat) (X : bsX) : Option bsX := (fX2_stop g  X).bind fun r1 => some r1
def fX3_takeInstall (g : Nat) (X : bsX) : Option bsX := if (X g 2 0 1) < 0 then (fX3_takeInstall_76 g   X) else (if (6 : Int32) ≤ (X g 2 0 1) then (fX3_takeInstall_76 g   X) else ((fX3_makeRoomAbove g (X g 2 0 1) X).bind fun r3 => if bsIn (X g 2 0 1) 6 then ((fX1_copyFrom g (bsIx (X g 2 0 1)) g 6  r3).bind fun r6 => (fX3_greatestPriorityBut g (X g 2 0 1) r6).bind fun r9 => (fX5_setMark g (bsIx (X g 2 0 1)) (r9.1 + (1 : Int32)) (r9.2 g 2 0 3) (0 : Int32) r9.2).bind fun r11 => fX3_takeInstall_76 g   (bsWr r11 g 5 (bsIx (X g 2 0 1)) 5 (0 : Int32))) else none))
abbrev rmX3_takeInstall : Room := { frames := 3, cells := 0, slots := 0, locals := 66 }
set_option maxHeartbeats 4000000 in
set_option maxRecDepth 100000 in
theorem wX3_takeInstall_76 {p : Program} {l : Launch} {e : Env} {s : State} {m : MethodId} {args : Array Value} {below : List Frame} {meth : Method} {c : Code} {ρ : bsR} {cA : Nat → ClassId} {dC : Nat → ClassId} {dI : Nat → Nat → Nat} {Rz : va_W} {Ts : List Cond} {g : Nat} (hg : g < 13)  {z : bsX} (C : bsCx p m c cX3_takeInstall 2 s args Ts RX3 ρ cA dC dI Rz meth none) (X : bsX) (hf : fX3_takeInstall_76 g X = some z) : bsV p l e rmX3_takeInstall s m args below meth c 0 0 (MQ below (bsQv ρ cA dC dI Rz z s.heap.size) args s 0 0 (bsA ρ cA Rz s.heap.size)) ρ cA dC dI Rz 2 76 [(0, .ref (ρ g 0 0))] [] X := by
  rw [fX3_takeInstall_76] at hf
  refine v_aload_n C dX3_takeInstall_76 rfl rfl ?_
  refine gf_X3_20 C hg dX3_takeInstall_77 ?_
  obtain ⟨r1, hc2, hf⟩ := bs_bind hf
  refine v_callVv (y := yX2_stop) (As := []) (rest := []) C (cX2_stop_ok hg hc2) ml_X3_158 wyX2_stop (bsm_X2 hg) (bsc_X2 hg) rfl dpX2_stop ⟨Nat.le_of_ble_eq_true rfl, Nat.le_of_ble_eq_true rfl⟩ ⟨rfl, rfl⟩ ⟨Nat.le_of_ble_eq_true rfl, Nat.le_of_ble_eq_true rfl⟩ rfl (Nat.le_of_ble_eq_true rfl) dX3_takeInstall_80 ?_
  exact v_vret C hf dX3_takeInstall_83
set_option maxHeartbeats 4000000 in
set_option maxRecDepth 100000 in
theorem cX3_takeInstall_ok {l : Launch} {ρ : bsR} {cA : Nat → ClassId} {dC : Nat → ClassId} {dI : Nat → Nat → Nat} {Rz : va_W} {g : Nat} (hg : g < 13) {X : bsX} {z : bsX} (hf : fX3_takeInstall g X = some z) : bsMv l yX3_takeInstall cX3_takeInstall 2 none rmX3_takeInstall ρ cA dC dI Rz [.ref (ρ g 0 0)] X z := by
  refine bsMv_of (by decide) (Nat.le_of_ble_eq_true rfl) (fun p e s m args below meth c C => ?_)
  have C : bsCx p m c cX3_takeInstall 2 s args (Cond.code yX3_takeInstall cX3_takeInstall 2 none :: bsG) RX3 ρ cA dC dI Rz meth none := C
  rw [fX3_takeInstall] at hf
  refine v_sub [0] rfl ?_
  refine v_aload_n C dX3_takeInstall_0 rfl rfl ?_
  refine gf_X3_20 C hg dX3_takeInstall_1 ?_
  refine gf_X3_210 C hg dX3_takeInstall_4 ?_
  refine v_istore_n (lv' := [(1, .int (X g 2 0 1)), (0, .ref (ρ g 0 0))]) C dX3_takeInstall_7 rfl (by decide) rfl ?_
  refine v_iload_n C dX3_takeInstall_8 rfl rfl ?_
  refine v_if_lt (tgt := 76) C dX3_takeInstall_9 (by decide) (fun h15 => ?_) (fun h15 => ?_)
  · replace hf := bs_pos h15 hf
    refine v_sub [1] rfl ?_
    exact wX3_takeInstall_76 hg  C  _  hf
  · replace hf := bs_neg h15 hf
    refine v_iload_n C dX3_takeInstall_12 rfl rfl ?_
    refine v_bipush (v := 6) C dX3_takeInstall_13 (by decide) ?_
    refine v_icmp_ge (tgt := 76) C dX3_takeInstall_15 (by decide) (fun h14 => ?_) (fun h14 => ?_)
    · replace hf := bs_pos h14 hf
      refine v_sub [1] rfl ?_
      exact wX3_takeInstall_76 hg  C  _  hf
    · replace hf := bs_neg h14 hf
      refine v_aload_n C dX3_takeInstall_18 rfl rfl ?_
      refine v_iload_n C dX3_takeInstall_19 rfl rfl ?_
      obtain ⟨r3, hc4, hf⟩ := bs_bind hf
      refine v_callVv (y := yX3_makeRoomAbove) (As := [.int (X g 2 0 1)]) (rest := []) C (cX3_makeRoomAbove_ok hg hc4) ml_X3_213 wyX3_makeRoomAbove (bsm_X3 hg) (bsc_X3 hg) rfl dpX3_makeRoomAbove ⟨Nat.le_of_ble_eq_true rfl, Nat.le_of_ble_eq_true rfl⟩ ⟨rfl, rfl⟩ ⟨Nat.le_of_ble_eq_true rfl, Nat.le_of_ble_eq_true rfl⟩ rfl (Nat.le_of_ble_eq_true rfl) dX3_takeInstall_20 ?_
      refine v_aload_n C dX3_takeInstall_23 rfl rfl ?_
      refine gf_X3_11 C hg dX3_takeInstall_24 ?_
      refine v_iload_n C dX3_takeInstall_27 rfl rfl ?_
      obtain ⟨hi5, hf⟩ := bs_if hf
      refine v_aald (t0 := 3) (n := 6) C (bsm_K1 hg) (bsc_K1 hg) rfl hi5 rfl dX3_takeInstall_28 ?_
      refine gf_X3_87 C hg (bsIx_lt hi5) dX3_takeInstall_29 ?_
      refine v_aload_n C dX3_takeInstall_32 rfl rfl ?_
      refine gf_X3_20 C hg dX3_takeInstall_33 ?_
      refine gf_X3_216 C hg dX3_takeInstall_36 ?_
      obtain ⟨r6, hc7, hf⟩ := bs_bind hf
      refine v_callVv (y := yX1_copyFrom) (As := [.ref (ρ g 6 6)]) (rest := []) C (cX1_copyFrom_ok hg (Nat.lt_succ_of_lt (bsIx_lt hi5)) hg (by decide) hc7) ml_X3_217 wyX1_copyFrom (bsm_X1 hg (Nat.lt_succ_of_lt (bsIx_lt hi5))) (bsc_X1 hg) rfl dpX1_copyFrom ⟨Nat.le_of_ble_eq_true rfl, Nat.le_of_ble_eq_true rfl⟩ ⟨rfl, rfl⟩ ⟨Nat.le_of_ble_eq_true rfl, Nat.le_of_ble_eq_true rfl⟩ rfl (Nat.le_of_ble_eq_true rfl) dX3_takeInstall_39 ?_
      refine v_aload_n C dX3_takeInstall_42 rfl rfl ?_
      refine gf_X3_11 C hg dX3_takeInstall_43 ?_
      refine v_iload_n C dX3_takeInstall_46 rfl rfl ?_
      refine v_aald (t0 := 3) (n := 6) C (bsm_K1 hg) (bsc_K1 hg) rfl hi5 rfl dX3_takeInstall_47 ?_
      refine v_aload_n C dX3_takeInstall_48 rfl rfl ?_
      refine v_iload_n C dX3_takeInstall_49 rfl rfl ?_
      obtain ⟨r9, hc10, hf⟩ := bs_bind hf
      refine v_callVi (y := yX3_greatestPriorityBut) (As := [.int (X g 2 0 1)]) (rest := [.ref (ρ g 5 (bsIx (X g 2 0 1)))]) C (cX3_greatestPriorityBut_ok hg hc10) ml_X3_220 wyX3_greatestPriorityBut (bsm_X3 hg) (bsc_X3 hg) rfl dpX3_greatestPriorityBut ⟨Nat.le_of_ble_eq_true rfl, Nat.le_of_ble_eq_true rfl⟩ ⟨rfl, rfl⟩ ⟨Nat.le_of_ble_eq_true rfl, Nat.le_of_ble_eq_true rfl⟩ rfl (Nat.le_of_ble_eq_true rfl) dX3_takeInstall_50 ?_
      refine v_iconst (v := 1) C dX3_takeInstall_53 (by decide) ?_
      refine v_iadd C dX3_takeInstall_54 ?_
      refine v_aload_n C dX3_takeInstall_55 rfl rfl ?_
      refine gf_X3_20 C hg dX3_takeInstall_56 ?_
      refine gf_X3_223 C hg dX3_takeInstall_59 ?_
      refine v_iconst (v := 0) C dX3_takeInstall_62 (by decide) ?_
      obtain ⟨r11, hc12, hf⟩ := bs_bind hf
      refine v_callVv (y := yX5_setMark) (As := [.int (r9.1 + (1 : Int32)), .int (r9.2 g 2 0 3), .int (0 : Int32)]) (rest := []) C (cX5_setMark_ok hg (bsIx_lt hi5) hc12) ml_X3_224 wyX5_setMark (bsm_X5 hg (bsIx_lt hi5)) (bsc_X5 hg) rfl dpX5_setMark ⟨Nat.le_of_ble_eq_true rfl, Nat.le_of_ble_eq_true rfl⟩ ⟨rfl, rfl⟩ ⟨Nat.le_of_ble_eq_true rfl, Nat.le_of_ble_eq_true rfl⟩ rfl (Nat.le_of_ble_eq_true rfl) dX3_takeInstall_63 ?_
      refine v_aload_n C dX3_takeInstall_66 rfl rfl ?_
      refine gf_X3_11 C hg dX3_takeInstall_67 ?_
      refine v_iload_n C dX3_takeInstall_70 rfl rfl ?_
      refine v_aald (t0 := 3) (n := 6) C (bsm_K1 hg) (bsc_K1 hg) rfl hi5 rfl dX3_takeInstall_71 ?_
      refine v_iconst (v := 0) C dX3_takeInstall_72 (by decide) ?_
      refine pf_X3_200 C hg (bsIx_lt hi5) dX3_takeInstall_73 ?_
      refine v_sub [1] rfl ?_
      exact wX3_takeInstall_76 hg  C  _  hf
/-! BootSlots$Machine.passTick()V -/
def fX3_passTick_71 (g : Nat) (X : bsX) : Option bsX := if (X g 0 0 10) = 0 then (some X) else ((fX2_goOn g  X).bind fun r9 => if r9.1 = 0 then (some r9.2) else ((fX3_takeInstall g  r9.2).bind fun r11 => (fX3_isInRescue g  (bsWr r11 g 4 0 6 ((r11 g 4 0 6) + (1 : Int32)))).bind fun r13 => if r13.1 = 0 then (some r13.2) else ((fX3_bootBy g (4 : Int32) r13.2).bind fun r15 => some r15.2)))
def fX3_passTick_20 (g : Nat) (X : bsX) : Option bsX := if ((bsWr X g 0 0 9 ((X g 0 0 9) + (1 : Int32))) g 0 0 11) < 0 then (fX3_passTick_71 g   (bsWr X g 0 0 9 ((X g 0 0 9) + (1 : Int32)))) else (if (6 : Int32) ≤ ((bsWr X g 0 0 9 ((X g 0 0 9) + (1 : Int32))) g 0 0 11) then (fX3_passTick_71 g   (bsWr X g 0 0 9 ((X g 0 0 9) + (1 : Int32)))) else (if bsIn ((bsWr X g 0 0 9 ((X g 0 0 9) + (1 : Int32))) g 0 0 11) 6 then ((fX3_growOlder g (bsIx ((bsWr X g 0 0 9 ((X g 0 0 9) + (1 : Int32))) g 0 0 11))  (bsWr X g 0 0 9 ((X g 0 0 9) + (1 : Int32)))).bind fun r2 => if r2.1 = (-1 : Int32) then (fX3_passTick_71 g   r2.2) else ((fX3_bootBy g r2.1 r2.2).bind fun r4 => fX3_passTick_71 g   r4.2)) else none))
def fX3_passTick (g : Nat) (X : bsX) : Option bsX := (fX3_isInRescue g  X).bind fun r20 => if r20.1 = 0 then (fX3_passTick_20 g   r20.2) else (fX3_passTick_20 g   (bsWr r20.2 g 4 0 5 ((r20.2 g 4 0 5) + (1 : Int32))))
abbrev rmX3_passTick : Room := { frames := 4, cells := 0, slots := 0, locals := 87 }
set_option maxHeartbeats 4000000 in
set_option maxRecDepth 100000 in
theorem wX3_passTick_71 {p : Program} {l : Launch} {e : Env} {s : State} {m : MethodId} {args : Array Value} {below : List Frame} {meth : Method} {c : Code} {ρ : bsR} {cA : Nat → ClassId} {dC : Nat → ClassId} {dI : Nat → Nat → Nat} {Rz : va_W} {Ts : List Cond} {g : Nat} (hg : g < 13)  {z : bsX} (C : bsCx p m c cX3_passTick 2 s args Ts RX3 ρ cA dC dI Rz meth none) (X : bsX) (hf : fX3_passTick_71 g X = some z) : bsV p l e rmX3_passTick s m args below meth c 0 0 (MQ below (bsQv ρ cA dC dI Rz z s.heap.size) args s 0 0 (bsA ρ cA Rz s.heap.size)) ρ cA dC dI Rz 2 71 [(0, .ref (ρ g 0 0))] [] X := by
  rw [fX3_passTick_71] at hf
  refine v_aload_n C dX3_passTick_71 rfl rfl ?_
  refine gf_X3_76 C hg dX3_passTick_72 ?_
  refine v_if_eq (tgt := 118) C dX3_passTick_75 (by decide) (fun h19 => ?_) (fun h19 => ?_)
  · replace hf := bs_pos h19 hf
    exact v_vret C hf dX3_passTick_118
  · replace hf := bs_neg h19 hf
    refine v_aload_n C dX3_passTick_78 rfl rfl ?_
    refine gf_X3_20 C hg dX3_passTick_79 ?_
    obtain ⟨r9, hc10, hf⟩ := bs_bind hf
    refine v_callVi (y := yX2_goOn) (As := []) (rest := []) C (cX2_goOn_ok hg hc10) ml_X3_174 wyX2_goOn (bsm_X2 hg) (bsc_X2 hg) rfl dpX2_goOn ⟨Nat.le_of_ble_eq_true rfl, Nat.le_of_ble_eq_true rfl⟩ ⟨rfl, rfl⟩ ⟨Nat.le_of_ble_eq_true rfl, Nat.le_of_ble_eq_true rfl⟩ rfl (Nat.le_of_ble_eq_true rfl) dX3_passTick_82 ?_
    refine v_if_eq (tgt := 118) C dX3_passTick_85 (by decide) (fun h18 => ?_) (fun h18 => ?_)
    · replace hf := bs_pos h18 hf
      exact v_vret C hf dX3_passTick_118
    · replace hf := bs_neg h18 hf
      refine v_aload_n C dX3_passTick_88 rfl rfl ?_
      obtain ⟨r11, hc12, hf⟩ := bs_bind hf
      refine v_callVv (y := yX3_takeInstall) (As := []) (rest := []) C (cX3_takeInstall_ok hg hc12) ml_X3_177 wyX3_takeInstall (bsm_X3 hg) (bsc_X3 hg) rfl dpX3_takeInstall ⟨Nat.le_of_ble_eq_true rfl, Nat.le_of_ble_eq_true rfl⟩ ⟨rfl, rfl⟩ ⟨Nat.le_of_ble_eq_true rfl, Nat.le_of_ble_eq_true rfl⟩ rfl (Nat.le_of_ble_eq_true rfl) dX3_passTick_89 ?_
      refine v_aload_n C dX3_passTick_92 rfl rfl ?_
      refine gf_X3_34 C hg dX3_passTick_93 ?_
      refine v_dup C dX3_passTick_96 rfl ?_
      refine gf_X3_180 C hg dX3_passTick_97 ?_
      refine v_iconst (v := 1) C dX3_passTick_100 (by decide) ?_
      refine v_iadd C dX3_passTick_101 ?_
      refine pf_X3_180 C hg dX3_passTick_102 ?_
      refine v_aload_n C dX3_passTick_105 rfl rfl ?_
      obtain ⟨r13, hc14, hf⟩ := bs_bind hf
      refine v_callVi (y := yX3_isInRescue) (As := []) (rest := []) C (cX3_isInRescue_ok hg hc14) ml_X3_161 wyX3_isInRescue (bsm_X3 hg) (bsc_X3 hg) rfl dpX3_isInRescue ⟨Nat.le_of_ble_eq_true rfl, Nat.le_of_ble_eq_true rfl⟩ ⟨rfl, rfl⟩ ⟨Nat.le_of_ble_eq_true rfl, Nat.le_of_ble_eq_true rfl⟩ rfl (Nat.le_of_ble_eq_true rfl) dX3_passTick_106 ?_
      refine v_if_eq (tgt := 118) C dX3_passTick_109 (by decide) (fun h17 => ?_) (fun h17 => ?_)
      · replace hf := bs_pos h17 hf
        exact v_vret C hf dX3_passTick_118
      · replace hf := bs_neg h17 hf
        refine v_aload_n C dX3_passTick_112 rfl rfl ?_
        refine v_iconst (v := 4) C dX3_passTick_113 (by decide) ?_
        obtain ⟨r15, hc16, hf⟩ := bs_bind hf
        refine v_callVi (y := yX3_bootBy) (As := [.int (4 : Int32)]) (rest := []) C (cX3_bootBy_ok hg hc16) ml_X3_171 wyX3_bootBy (bsm_X3 hg) (bsc_X3 hg) rfl dpX3_bootBy ⟨Nat.le_of_ble_eq_true rfl, Nat.le_of_ble_eq_true rfl⟩ ⟨rfl, rfl⟩ ⟨Nat.le_of_ble_eq_true rfl, Nat.le_of_ble_eq_true rfl⟩ rfl (Nat.le_of_ble_eq_true rfl) dX3_passTick_114 ?_
        refine v_pop C dX3_passTick_117 rfl ?_
        exact v_vret C hf dX3_passTick_118
set_option maxHeartbeats 4000000 in
set_option maxRecDepth 100000 in
theorem wX3_passTick_20 {p : Program} {l : Launch} {e : Env} {s : State} {m : MethodId} {args : Array Value} {below : List Frame} {meth : Method} {c : Code} {ρ : bsR} {cA : Nat → ClassId} {dC : Nat → ClassId} {dI : Nat → Nat → Nat} {Rz : va_W} {Ts : List Cond} {g : Nat} (hg : g < 13)  {z : bsX} (C : bsCx p m c cX3_passTick 2 s args Ts RX3 ρ cA dC dI Rz meth none) (X : bsX) (hf : fX3_passTick_20 g X = some z) : bsV p l e rmX3_passTick s m args below meth c 0 0 (MQ below (bsQv ρ cA dC dI Rz z s.heap.size) args s 0 0 (bsA ρ cA Rz s.heap.size)) ρ cA dC dI Rz 2 20 [(0, .ref (ρ g 0 0))] [] X := by
  rw [fX3_passTick_20] at hf
  refine v_aload_n C dX3_passTick_20 rfl rfl ?_
  refine v_dup C dX3_passTick_21 rfl ?_
  refine gf_X3_73 C hg dX3_passTick_22 ?_
  refine v_iconst (v := 1) C dX3_passTick_25 (by decide) ?_
  refine v_iadd C dX3_passTick_26 ?_
  refine pf_X3_73 C hg dX3_passTick_27 ?_
  refine v_aload_n C dX3_passTick_30 rfl rfl ?_
  refine gf_X3_38 C hg dX3_passTick_31 ?_
  refine v_if_lt (tgt := 71) C dX3_passTick_34 (by decide) (fun h8 => ?_) (fun h8 => ?_)
  · replace hf := bs_pos h8 hf
    refine v_sub [0] rfl ?_
    exact wX3_passTick_71 hg  C  _  hf
  · replace hf := bs_neg h8 hf
    refine v_aload_n C dX3_passTick_37 rfl rfl ?_
    refine gf_X3_38 C hg dX3_passTick_38 ?_
    refine v_bipush (v := 6) C dX3_passTick_41 (by decide) ?_
    refine v_icmp_ge (tgt := 71) C dX3_passTick_43 (by decide) (fun h7 => ?_) (fun h7 => ?_)
    · replace hf := bs_pos h7 hf
      refine v_sub [0] rfl ?_
      exact wX3_passTick_71 hg  C  _  hf
    · replace hf := bs_neg h7 hf
      refine v_aload_n C dX3_passTick_46 rfl rfl ?_
      refine v_aload_n C dX3_passTick_47 rfl rfl ?_
      refine gf_X3_11 C hg dX3_passTick_48 ?_
      refine v_aload_n C dX3_passTick_51 rfl rfl ?_
      refine gf_X3_38 C hg dX3_passTick_52 ?_
      obtain ⟨hi1, hf⟩ := bs_if hf
      refine v_aald (t0 := 3) (n := 6) C (bsm_K1 hg) (bsc_K1 hg) rfl hi1 rfl dX3_passTick_55 ?_
      obtain ⟨r2, hc3, hf⟩ := bs_bind hf
      refine v_callVi (y := yX3_growOlder) (As := [.ref (ρ g 5 (bsIx ((bsWr X g 0 0 9 ((X g 0 0 9) + (1 : Int32))) g 0 0 11)))]) (rest := []) C (cX3_growOlder_ok hg (bsIx_lt hi1) hc3) ml_X3_167 wyX3_growOlder (bsm_X3 hg) (bsc_X3 hg) rfl dpX3_growOlder ⟨Nat.le_of_ble_eq_true rfl, Nat.le_of_ble_eq_true rfl⟩ ⟨rfl, rfl⟩ ⟨Nat.le_of_ble_eq_true rfl, Nat.le_of_ble_eq_true rfl⟩ rfl (Nat.le_of_ble_eq_true rfl) dX3_passTick_56 ?_
      refine v_istore_n (lv' := [(1, .int r2.1), (0, .ref (ρ g 0 0))]) C dX3_passTick_59 rfl (by decide) rfl ?_
      refine v_iload_n C dX3_passTick_60 rfl rfl ?_
      refine v_iconst (v := -1) C dX3_passTick_61 (by decide) ?_
      refine v_icmp_eq (tgt := 71) C dX3_passTick_62 (by decide) (fun h6 => ?_) (fun h6 => ?_)
      · replace hf := bs_pos h6 hf
        refine v_sub [1] rfl ?_
        exact wX3_passTick_71 hg  C  _  hf
      · replace hf := bs_neg h6 hf
        refine v_aload_n C dX3_passTick_65 rfl rfl ?_
        refine v_iload_n C dX3_passTick_66 rfl rfl ?_
        obtain ⟨r4, hc5, hf⟩ := bs_bind hf
        refine v_callVi (y := yX3_bootBy) (As := [.int r2.1]) (rest := []) C (cX3_bootBy_ok hg hc5) ml_X3_171 wyX3_bootBy (bsm_X3 hg) (bsc_X3 hg) rfl dpX3_bootBy ⟨Nat.le_of_ble_eq_true rfl, Nat.le_of_ble_eq_true rfl⟩ ⟨rfl, rfl⟩ ⟨Nat.le_of_ble_eq_true rfl, Nat.le_of_ble_eq_true rfl⟩ rfl (Nat.le_of_ble_eq_true rfl) dX3_passTick_67 ?_
        refine v_pop C dX3_passTick_70 rfl ?_
        refine v_sub [1] rfl ?_
        exact wX3_passTick_71 hg  C  _  hf
set_option maxHeartbeats 4000000 in
set_option maxRecDepth 100000 in
theorem cX3_passTick_ok {l : Launch} {ρ : bsR} {cA : Nat → ClassId} {dC : Nat → ClassId} {dI : Nat → Nat → Nat} {Rz : va_W} {g : Nat} (hg : g < 13) {X : bsX} {z : bsX} (hf : fX3_passTick g X = some z) : bsMv l yX3_passTick cX3_passTick 2 none rmX3_passTick ρ cA dC dI Rz [.ref (ρ g 0 0)] X z := by
  refine bsMv_of (by decide) (Nat.le_of_ble_eq_true rfl) (fun p e s m args below meth c C => ?_)
  have C : bsCx p m c cX3_passTick 2 s args (Cond.code yX3_passTick cX3_passTick 2 none :: bsG) RX3 ρ cA dC dI Rz meth none := C
  rw [fX3_passTick] at hf
  refine v_sub [0] rfl ?_
  refine v_aload_n C dX3_passTick_0 rfl rfl ?_
  obtain ⟨r20, hc21, hf⟩ := bs_bind hf
  refine v_callVi (y := yX3_isInRescue) (As := []) (rest := []) C (cX3_isInRescue_ok hg hc21) ml_X3_161 wyX3_isInRescue (bsm_X3 hg) (bsc_X3 hg) rfl dpX3_isInRescue ⟨Nat.le_of_ble_eq_true rfl, Nat.le_of_ble_eq_true rfl⟩ ⟨rfl, rfl⟩ ⟨Nat.le_of_ble_eq_true rfl, Nat.le_of_ble_eq_true rfl⟩ rfl (Nat.le_of_ble_eq_true rfl) dX3_passTick_1 ?_
  refine v_if_eq (tgt := 20) C dX3_passTick_4 (by decide) (fun h22 => ?_) (fun h22 => ?_)
  · replace hf := bs_pos h22 hf
    refine v_sub [0] rfl ?_
    exact wX3_passTick_20 hg  C  _  hf
  · replace hf := bs_neg h22 hf
    refine v_aload_n C dX3_passTick_7 rfl rfl ?_
    refine gf_X3_34 C hg dX3_passTick_8 ?_
    refine v_dup C dX3_passTick_11 rfl ?_
    refine gf_X3_164 C hg dX3_passTick_12 ?_
    refine v_iconst (v := 1) C dX3_passTick_15 (by decide) ?_
    refine v_iadd C dX3_passTick_16 ?_
    refine pf_X3_164 C hg dX3_passTick_17 ?_
    refine v_sub [0] rfl ?_
    exact wX3_passTick_20 hg  C  _  hf
/-! BootSlots$Machine.isSettled()Z -/
def fX3_isSettled (g : Nat) (X : bsX) : Option (Int32 × bsX) := (fX2_isOn g  X).bind fun r1 => if r1.1 = 0 then (if (r1.2 g 0 0 11) < 0 then (some ((1 : Int32), r1.2)) else (if (r1.2 g 0 0 11) < (6 : Int32) then (if bsIn (r1.2 g 0 0 11) 6 then (if (r1.2 g 0 0 12) < (r1.2 g 6 (bsIx (r1.2 g 0 0 11)) 3) then (some ((0 : Int32), r1.2)) else (if (r1.2 g 0 0 12) < (r1.2 g 6 (bsIx (r1.2 g 0 0 11)) 2) then (some ((0 : Int32), r1.2)) else (if (r1.2 g 0 0 12) < (r1.2 g 0 0 5) then (some ((0 : Int32), r1.2)) else (some ((1 : Int32), r1.2))))) else none) else (some ((1 : Int32), r1.2)))) else (some ((0 : Int32), r1.2))
abbrev rmX3_isSettled : Room := { frames := 1, cells := 0, slots := 0, locals := 20 }
set_option maxHeartbeats 4000000 in
set_option maxRecDepth 100000 in
theorem cX3_isSettled_ok {l : Launch} {ρ : bsR} {cA : Nat → ClassId} {dC : Nat → ClassId} {dI : Nat → Nat → Nat} {Rz : va_W} {g : Nat} (hg : g < 13) {X : bsX} {z : (Int32 × bsX)} (hf : fX3_isSettled g X = some z) : bsMi l yX3_isSettled cX3_isSettled 2 (some .boolean) rmX3_isSettled ρ cA dC dI Rz [.ref (ρ g 0 0)] X z := by
  refine bsMi_of (by decide) (Nat.le_of_ble_eq_true rfl) (fun p e s m args below meth c C => ?_)
  have C : bsCx p m c cX3_isSettled 2 s args (Cond.code yX3_isSettled cX3_isSettled 2 (some .boolean) :: bsG) RX3 ρ cA dC dI Rz meth (some .boolean) := C
  rw [fX3_isSettled] at hf
  refine v_sub [0] rfl ?_
  refine v_aload_n C dX3_isSettled_0 rfl rfl ?_
  refine gf_X3_20 C hg dX3_isSettled_1 ?_
  obtain ⟨r1, hc2, hf⟩ := bs_bind hf
  refine v_callVi (y := yX2_isOn) (As := []) (rest := []) C (cX2_isOn_ok hg hc2) ml_X3_228 wyX2_isOn (bsm_X2 hg) (bsc_X2 hg) rfl dpX2_isOn ⟨Nat.le_of_ble_eq_true rfl, Nat.le_of_ble_eq_true rfl⟩ ⟨rfl, rfl⟩ ⟨Nat.le_of_ble_eq_true rfl, Nat.le_of_ble_eq_true rfl⟩ rfl (Nat.le_of_ble_eq_true rfl) dX3_isSettled_4 ?_
  refine v_if_eq (tgt := 12) C dX3_isSettled_7 (by decide) (fun h9 => ?_) (fun h9 => ?_)
  · replace hf := bs_pos h9 hf
    refine v_aload_n C dX3_isSettled_12 rfl rfl ?_
    refine gf_X3_38 C hg dX3_isSettled_13 ?_
    refine v_if_lt (tgt := 28) C dX3_isSettled_16 (by decide) (fun h8 => ?_) (fun h8 => ?_)
    · replace hf := bs_pos h8 hf
      refine v_iconst (v := 1) C dX3_isSettled_28 (by decide) ?_
      exact v_zret C (bsZ01 (by decide)).1 hf dX3_isSettled_29
    · replace hf := bs_neg h8 hf
      refine v_aload_n C dX3_isSettled_19 rfl rfl ?_
      refine gf_X3_38 C hg dX3_isSettled_20 ?_
      refine v_bipush (v := 6) C dX3_isSettled_23 (by decide) ?_
      refine v_icmp_lt (tgt := 30) C dX3_isSettled_25 (by decide) (fun h7 => ?_) (fun h7 => ?_)
      · replace hf := bs_pos h7 hf
        refine v_aload_n C dX3_isSettled_30 rfl rfl ?_
        refine gf_X3_11 C hg dX3_isSettled_31 ?_
        refine v_aload_n C dX3_isSettled_34 rfl rfl ?_
        refine gf_X3_38 C hg dX3_isSettled_35 ?_
        obtain ⟨hi3, hf⟩ := bs_if hf
        refine v_aald (t0 := 3) (n := 6) C (bsm_K1 hg) (bsc_K1 hg) rfl hi3 rfl dX3_isSettled_38 ?_
        refine gf_X3_87 C hg (bsIx_lt hi3) dX3_isSettled_39 ?_
        refine v_astore_n (lv' := [(1, .ref (ρ g 6 (bsIx (r1.2 g 0 0 11)))), (0, .ref (ρ g 0 0))]) C dX3_isSettled_42 rfl (by decide) rfl ?_
        refine v_aload_n C dX3_isSettled_43 rfl rfl ?_
        refine gf_X3_80 C hg dX3_isSettled_44 ?_
        refine v_aload_n C dX3_isSettled_47 rfl rfl ?_
        refine gf_X3_183 C hg (Nat.lt_succ_of_lt (bsIx_lt hi3)) dX3_isSettled_48 ?_
        refine v_icmp_lt (tgt := 80) C dX3_isSettled_51 (by decide) (fun h6 => ?_) (fun h6 => ?_)
        · replace hf := bs_pos h6 hf
          refine v_iconst (v := 0) C dX3_isSettled_80 (by decide) ?_
          exact v_zret C (bsZ01 (by decide)).1 hf dX3_isSettled_81
        · replace hf := bs_neg h6 hf
          refine v_aload_n C dX3_isSettled_54 rfl rfl ?_
          refine gf_X3_80 C hg dX3_isSettled_55 ?_
          refine v_aload_n C dX3_isSettled_58 rfl rfl ?_
          refine gf_X3_188 C hg (Nat.lt_succ_of_lt (bsIx_lt hi3)) dX3_isSettled_59 ?_
          refine v_icmp_lt (tgt := 80) C dX3_isSettled_62 (by decide) (fun h5 => ?_) (fun h5 => ?_)
          · replace hf := bs_pos h5 hf
            refine v_iconst (v := 0) C dX3_isSettled_80 (by decide) ?_
            exact v_zret C (bsZ01 (by decide)).1 hf dX3_isSettled_81
          · replace hf := bs_neg h5 hf
            refine v_aload_n C dX3_isSettled_65 rfl rfl ?_
            refine gf_X3_80 C hg dX3_isSettled_66 ?_
            refine v_aload_n C dX3_isSettled_69 rfl rfl ?_
            refine gf_X3_61 C hg dX3_isSettled_70 ?_
            refine v_icmp_lt (tgt := 80) C dX3_isSettled_73 (by decide) (fun h4 => ?_) (fun h4 => ?_)
            · replace hf := bs_pos h4 hf
              refine v_iconst (v := 0) C dX3_isSettled_80 (by decide) ?_
              exact v_zret C (bsZ01 (by decide)).1 hf dX3_isSettled_81
            · replace hf := bs_neg h4 hf
              refine v_iconst (v := 1) C dX3_isSettled_76 (by decide) ?_
              refine v_goto (tgt := 81) C dX3_isSettled_77 (by decide) ?_
              exact v_zret C (bsZ01 (by decide)).1 hf dX3_isSettled_81
      · replace hf := bs_neg h7 hf
        refine v_iconst (v := 1) C dX3_isSettled_28 (by decide) ?_
        exact v_zret C (bsZ01 (by decide)).1 hf dX3_isSettled_29
  · replace hf := bs_neg h9 hf
    refine v_iconst (v := 0) C dX3_isSettled_10 (by decide) ?_
    exact v_zret C (bsZ01 (by decide)).1 hf dX3_isSettled_11
/-! BootSlots$Machine.settle(I)V -/
def fX3_settle_2 (g : Nat) : Nat → Int32 → Int32 → bsX → Option bsX
  | 0, _, _, _ => none
  | n + 1, x1, x2, X => if x1 ≤ x2 then (some X) else ((fX3_isSettled g  X).bind fun r1 => if r1.1 = 0 then ((fX3_passTick g  r1.2).bind fun r3 => fX3_settle_2 g n x1 (x2 + (1 : Int32)) r3) else (some r1.2))
def fX3_settle (g : Nat) (a1 : Int32) (X : bsX) : Option bsX := fX3_settle_2 g  bsF a1 (0 : Int32) X
abbrev rmX3_settle : Room := { frames := 5, cells := 0, slots := 0, locals := 108 }
set_option maxHeartbeats 4000000 in
set_option maxRecDepth 100000 in
theorem wX3_settle_2 {p : Program} {l : Launch} {e : Env} {s : State} {m : MethodId} {args : Array Value} {below : List Frame} {meth : Method} {c : Code} {ρ : bsR} {cA : Nat → ClassId} {dC : Nat → ClassId} {dI : Nat → Nat → Nat} {Rz : va_W} {Ts : List Cond} {g : Nat} (hg : g < 13)  {z : bsX} (C : bsCx p m c cX3_settle 3 s args Ts RX3 ρ cA dC dI Rz meth none) : ∀ (n : Nat) (x1 : Int32) (x2 : Int32) (X : bsX), fX3_settle_2 g n x1 x2 X = some z → bsV p l e rmX3_settle s m args below meth c 0 0 (MQ below (bsQv ρ cA dC dI Rz z s.heap.size) args s 0 0 (bsA ρ cA Rz s.heap.size)) ρ cA dC dI Rz 3 2 [(0, .ref (ρ g 0 0)), (1, .int x1), (2, .int x2)] [] X := by
  intro n
  induction n with
  | zero => intro x1 x2 X hf; exact (nomatch hf)
  | succ n ih =>
    intro x1 x2 X hf
    rw [fX3_settle_2] at hf
    refine v_iload_n C dX3_settle_2 rfl rfl ?_
    refine v_iload_n C dX3_settle_3 rfl rfl ?_
    refine v_icmp_ge (tgt := 24) C dX3_settle_4 (by decide) (fun h6 => ?_) (fun h6 => ?_)
    · replace hf := bs_pos h6 hf
      exact v_vret C hf dX3_settle_24
    · replace hf := bs_neg h6 hf
      refine v_aload_n C dX3_settle_7 rfl rfl ?_
      obtain ⟨r1, hc2, hf⟩ := bs_bind hf
      refine v_callVi (y := yX3_isSettled) (As := []) (rest := []) C (cX3_isSettled_ok hg hc2) ml_X3_231 wyX3_isSettled (bsm_X3 hg) (bsc_X3 hg) rfl dpX3_isSettled ⟨Nat.le_of_ble_eq_true rfl, Nat.le_of_ble_eq_true rfl⟩ ⟨rfl, rfl⟩ ⟨Nat.le_of_ble_eq_true rfl, Nat.le_of_ble_eq_true rfl⟩ rfl (Nat.le_of_ble_eq_true rfl) dX3_settle_8 ?_
      refine v_if_ne (tgt := 24) C dX3_settle_11 (by decide) (fun h5 => ?_) (fun h5 => ?_)
      · replace hf := bs_neg h5 hf
        exact v_vret C hf dX3_settle_24
      · replace hf := bs_pos h5 hf
        refine v_aload_n C dX3_settle_14 rfl rfl ?_
        obtain ⟨r3, hc4, hf⟩ := bs_bind hf
        refine v_callVv (y := yX3_passTick) (As := []) (rest := []) C (cX3_passTick_ok hg hc4) ml_X3_234 wyX3_passTick (bsm_X3 hg) (bsc_X3 hg) rfl dpX3_passTick ⟨Nat.le_of_ble_eq_true rfl, Nat.le_of_ble_eq_true rfl⟩ ⟨rfl, rfl⟩ ⟨Nat.le_of_ble_eq_true rfl, Nat.le_of_ble_eq_true rfl⟩ rfl (Nat.le_of_ble_eq_true rfl) dX3_settle_15 ?_
        refine v_iinc (k0 := 2) (v := (x2 + (1 : Int32))) (lv' := [(2, .int (x2 + (1 : Int32))), (0, .ref (ρ g 0 0)), (1, .int x1)]) C dX3_settle_18 rfl rfl (by decide) rfl ?_
        refine v_goto (tgt := 2) C dX3_settle_21 (by decide) ?_
        refine v_sub [1, 2, 0] rfl ?_
        exact ih _ _ _  hf
set_option maxHeartbeats 4000000 in
set_option maxRecDepth 100000 in
theorem cX3_settle_ok {l : Launch} {ρ : bsR} {cA : Nat → ClassId} {dC : Nat → ClassId} {dI : Nat → Nat → Nat} {Rz : va_W} {g : Nat} (hg : g < 13) {a1 : Int32} {X : bsX} {z : bsX} (hf : fX3_settle g a1 X = some z) : bsMv l yX3_settle cX3_settle 3 none rmX3_settle ρ cA dC dI Rz [.ref (ρ g 0 0), .int a1] X z := by
  refine bsMv_of (by decide) (Nat.le_of_ble_eq_true rfl) (fun p e s m args below meth c C => ?_)
  have C : bsCx p m c cX3_settle 3 s args (Cond.code yX3_settle cX3_settle 3 none :: bsG) RX3 ρ cA dC dI Rz meth none := C
  rw [fX3_settle] at hf
  refine v_sub [0, 1] rfl ?_
  refine v_iconst (v := 0) C dX3_settle_0 (by decide) ?_
  refine v_istore_n (lv' := [(2, .int (0 : Int32)), (0, .ref (ρ g 0 0)), (1, .int a1)]) C dX3_settle_1 rfl (by decide) rfl ?_
  refine v_sub [1, 2, 0] rfl ?_
  exact wX3_settle_2 hg  C  bsF _ _ _  hf
