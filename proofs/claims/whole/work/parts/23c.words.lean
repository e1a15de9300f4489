/-! PART 23c: the printed word lists of the three methods that reach Enum.ordinal, with the word that its class is initialized (the tables have none, and the call needs none: 23b) put aside for one that is there -/
def xsX6_faultOfCommand_r1 : List Cond := [Cond.fieldLink RX6 29 "WokenDrive" "text" "LWokenDrive$CommandText;", Cond.fieldLink RX6 232 "WokenDrive$CommandText" "word" "LWokenDrive$Word;", Cond.fieldLink RX6 239 "WokenDrive$1" "$SwitchMap$WokenDrive$Word" "[I", Cond.fieldLink RX6 10 "WokenDrive" "drive" "LWokenDrive$Drive;", Cond.fieldLink RX6 249 "WokenDrive$Word" "kind" "I", Cond.methodLink RX6 236 yX1_numberAt, Cond.instanceMethod yX1_numberAt, Cond.selects RX1 yX1_numberAt yX1_numberAt, Cond.initialized RX1, Cond.code yX1_numberAt cX1_numberAt 2 (some .int), Cond.fieldLink RX1 15 "WokenDrive$CommandText" "numbers" "[I", Cond.static yX6_at, Cond.initialized RX6, Cond.code yX6_at cX6_at 2 (some .int), Cond.methodLink RX6 244 ⟨"WokenDrive$Word", "ordinal", "()I"⟩, Cond.sameMethod "WokenDrive$Word" "java/lang/Enum" "ordinal" "()I", Cond.selects RX5 ⟨"WokenDrive$Word", "ordinal", "()I"⟩ yJx29ce0_ordinal_8abf5, Cond.instanceMethod yJx29ce0_ordinal_8abf5, Cond.initialized RX6, Cond.code yJx29ce0_ordinal_8abf5 cJx29ce0_ordinal_8abf5 1 (some .int), Cond.fieldLink RJx29ce0 7 "java/lang/Enum" "ordinal" "I", Cond.methodLink RX6 40 yX3_faultOfTelling, Cond.instanceMethod yX3_faultOfTelling, Cond.selects RX3 yX3_faultOfTelling yX3_faultOfTelling]
def xsX6_faultOfCommand : List Cond := .code yX6_faultOfCommand cX6_faultOfCommand 4 (some .int) :: ((xsX6_faultOfCommand_r1 ++ (wsX6_faultOfCommand_r2 ++ (wsX6_faultOfCommand_r3 ++ wsX6_faultOfCommand_r4))) ++ wsX60 ++ wsX10 ++ wsX30 ++ wsX20)
def xsX6_obeyCommand_r1 : List Cond := [Cond.fieldLink RX6 29 "WokenDrive" "text" "LWokenDrive$CommandText;", Cond.fieldLink RX6 232 "WokenDrive$CommandText" "word" "LWokenDrive$Word;", Cond.fieldLink RX6 239 "WokenDrive$1" "$SwitchMap$WokenDrive$Word" "[I", Cond.fieldLink RX6 10 "WokenDrive" "drive" "LWokenDrive$Drive;", Cond.fieldLink RX6 249 "WokenDrive$Word" "kind" "I", Cond.methodLink RX6 236 yX1_numberAt, Cond.instanceMethod yX1_numberAt, Cond.selects RX1 yX1_numberAt yX1_numberAt, Cond.initialized RX1, Cond.code yX1_numberAt cX1_numberAt 2 (some .int), Cond.fieldLink RX1 15 "WokenDrive$CommandText" "numbers" "[I", Cond.static yX6_at, Cond.initialized RX6, Cond.code yX6_at cX6_at 2 (some .int), Cond.methodLink RX6 244 ⟨"WokenDrive$Word", "ordinal", "()I"⟩, Cond.sameMethod "WokenDrive$Word" "java/lang/Enum" "ordinal" "()I", Cond.selects RX5 ⟨"WokenDrive$Word", "ordinal", "()I"⟩ yJx29ce0_ordinal_8abf5, Cond.instanceMethod yJx29ce0_ordinal_8abf5, Cond.initialized RX6, Cond.code yJx29ce0_ordinal_8abf5 cJx29ce0_ordinal_8abf5 1 (some .int), Cond.fieldLink RJx29ce0 7 "java/lang/Enum" "ordinal" "I", Cond.methodLink RX6 52 yX3_tell, Cond.instanceMethod yX3_tell, Cond.selects RX3 yX3_tell yX3_tell]
def xsX6_obeyCommand : List Cond := .code yX6_obeyCommand cX6_obeyCommand 4 none :: ((xsX6_obeyCommand_r1 ++ (wsX6_obeyCommand_r2 ++ (wsX6_obeyCommand_r3 ++ (wsX6_obeyCommand_r4 ++ (wsX6_obeyCommand_r5 ++ (wsX6_obeyCommand_r6 ++ wsX6_obeyCommand_r7)))))) ++ wsX60 ++ wsX10 ++ wsX30 ++ wsX20)
def xsX6_runCommands_r7 : List Cond := [Cond.fieldLink RX2 33 "WokenDrive$Controller" "fallenAsleep" "I", Cond.methodLink RX6 176 yX1_rewind, Cond.methodLink RX6 179 yX1_readNext, Cond.instanceMethod yX1_readNext, Cond.selects RX1 yX1_readNext yX1_readNext, Cond.code yX1_readNext cX1_readNext 1 (some .boolean), Cond.methodLink RX6 182 yX6_faultOfCommand, Cond.instanceMethod yX6_faultOfCommand, Cond.selects RX6 yX6_faultOfCommand yX6_faultOfCommand, Cond.code yX6_faultOfCommand cX6_faultOfCommand 4 (some .int), Cond.fieldLink RX6 232 "WokenDrive$CommandText" "word" "LWokenDrive$Word;", Cond.fieldLink RX6 239 "WokenDrive$1" "$SwitchMap$WokenDrive$Word" "[I", Cond.fieldLink RX6 249 "WokenDrive$Word" "kind" "I", Cond.methodLink RX6 236 yX1_numberAt, Cond.instanceMethod yX1_numberAt, Cond.selects RX1 yX1_numberAt yX1_numberAt, Cond.code yX1_numberAt cX1_numberAt 2 (some .int), Cond.methodLink RX6 244 ⟨"WokenDrive$Word", "ordinal", "()I"⟩, Cond.sameMethod "WokenDrive$Word" "java/lang/Enum" "ordinal" "()I", Cond.selects RX5 ⟨"WokenDrive$Word", "ordinal", "()I"⟩ yJx29ce0_ordinal_8abf5, Cond.instanceMethod yJx29ce0_ordinal_8abf5, Cond.initialized RX6, Cond.code yJx29ce0_ordinal_8abf5 cJx29ce0_ordinal_8abf5 1 (some .int), Cond.fieldLink RJx29ce0 7 "java/lang/Enum" "ordinal" "I"]
def xsX6_runCommands : List Cond := .code yX6_runCommands cX6_runCommands 3 (some .int) :: ((wsX6_runCommands_r1 ++ (wsX6_runCommands_r2 ++ (wsX6_runCommands_r3 ++ (wsX6_runCommands_r4 ++ (wsX6_runCommands_r5 ++ (wsX6_runCommands_r6 ++ (xsX6_runCommands_r7 ++ (wsX6_runCommands_r8 ++ (wsX6_runCommands_r9 ++ (wsX6_runCommands_r10 ++ (wsX6_runCommands_r11 ++ (wsX6_runCommands_r12 ++ (wsX6_runCommands_r13 ++ wsX6_runCommands_r14))))))))))))) ++ wsX60 ++ wsX10 ++ wsX40 ++ wsX30 ++ wsX20)
def xsORD : List Cond := ([Cond.methodLink RX6 244 ⟨"WokenDrive$Word", "ordinal", "()I"⟩, Cond.sameMethod "WokenDrive$Word" "java/lang/Enum" "ordinal" "()I", Cond.selects RX5 ⟨"WokenDrive$Word", "ordinal", "()I"⟩ yJx29ce0_ordinal_8abf5, Cond.instanceMethod yJx29ce0_ordinal_8abf5] : List Cond) ++ wsJx29ce0_ordinal_8abf5
set_option maxRecDepth 20000 in
theorem xggX6_runCommands_X1_findFault : GoodIn xsX6_runCommands wsX1_findFault := goodIn_r _ [8, 9, 10, 11, 12, 13, 7, 14, 15, 16, 17, 18, 19, 20, 21, 22, 23, 24, 25, 26, 27, 28, 29, 30, 31, 32, 33, 34, 35, 36, 37, 38, 39, 40, 41, 42, 43, 44, 45, 46, 47, 48, 49, 50, 51, 52, 53, 54, 55, 56, 57, 58, 59, 60, 61, 62, 63, 64, 65, 66, 67, 68, 69, 70, 71, 72, 73, 74, 75, 76, 77, 78, 79, 80, 81, 82, 83, 84, 85, 86, 87, 88, 89, 90, 91, 92, 93, 94, 95, 96, 97, 98, 99, 100, 101, 102, 103, 340, 341, 342, 343, 344] (by decide +kernel) (by decide +kernel)
set_option maxRecDepth 20000 in
theorem xgX6_runCommands_X1_findFault : GoodIn xsX6_runCommands (wsV RX6 173 RX1 yX1_findFault wsX1_findFault) := goodIn_app (goodIn_of _ (by decide +kernel)) xggX6_runCommands_X1_findFault
set_option maxRecDepth 20000 in
theorem xggX6_runCommands_X4_save : GoodIn xsX6_runCommands wsX4_save := goodIn_r _ [108, 109, 110, 111, 112, 113, 107, 114, 115, 116, 117, 118, 119, 120, 121, 122, 123, 124, 125, 126, 127, 128, 129, 130, 131, 132, 133, 134, 135, 136, 137, 138, 139, 140, 141, 142, 143, 144, 145, 345, 346, 347, 348, 349, 350, 351, 352, 353, 354, 355, 356, 357, 358, 359, 360, 361, 362, 363] (by decide +kernel) (by decide +kernel)
set_option maxRecDepth 20000 in
theorem xgX6_runCommands_X4_save : GoodIn xsX6_runCommands (wsV RX6 48 RX4 yX4_save wsX4_save) := goodIn_app (goodIn_of _ (by decide +kernel)) xggX6_runCommands_X4_save
set_option maxRecDepth 20000 in
theorem xggX6_runCommands_X1_rewind : GoodIn xsX6_runCommands wsX1_rewind := goodIn_r _ [14, 9, 340, 341, 342, 343, 344] (by decide +kernel) (by decide +kernel)
set_option maxRecDepth 20000 in
theorem xgX6_runCommands_X1_rewind : GoodIn xsX6_runCommands (wsV RX6 176 RX1 yX1_rewind wsX1_rewind) := goodIn_app (goodIn_of _ (by decide +kernel)) xggX6_runCommands_X1_rewind
set_option maxRecDepth 20000 in
theorem xggX6_runCommands_X1_readNext : GoodIn xsX6_runCommands wsX1_readNext := goodIn_r _ [150, 9, 10, 15, 16, 17, 7, 18, 19, 20, 21, 22, 23, 24, 25, 26, 27, 28, 29, 30, 31, 32, 33, 34, 35, 36, 37, 38, 39, 40, 41, 42, 43, 44, 45, 46, 47, 48, 49, 50, 51, 52, 53, 54, 55, 56, 57, 58, 59, 60, 61, 62, 63, 64, 65, 66, 67, 68, 69, 70, 71, 72, 73, 74, 75, 76, 77, 78, 79, 80, 81, 82, 83, 84, 85, 86, 87, 88, 89, 90, 91, 92, 93, 94, 95, 96, 97, 98, 99, 100, 101, 102, 103, 340, 341, 342, 343, 344] (by decide +kernel) (by decide +kernel)
set_option maxRecDepth 20000 in
theorem xgX6_runCommands_X1_readNext : GoodIn xsX6_runCommands (wsV RX6 179 RX1 yX1_readNext wsX1_readNext) := goodIn_app (goodIn_of _ (by decide +kernel)) xggX6_runCommands_X1_readNext
set_option maxRecDepth 20000 in
theorem xggX6_runCommands_X6_faultOfCommand : GoodIn xsX6_runCommands xsX6_faultOfCommand := goodIn_r _ [154, 1, 155, 156, 3, 157, 158, 159, 160, 7, 161, 98, 24, 25, 26, 162, 163, 164, 165, 166, 167, 168, 169, 170, 171, 119, 172, 129, 173, 174, 175, 176, 177, 178, 179, 180, 181, 182, 183, 184, 185, 186, 187, 188, 126, 189, 190, 191, 192, 193, 194, 195, 196, 197, 198, 199, 200, 201, 202, 203, 204, 205, 206, 207, 127, 128, 208, 209, 210, 211, 212, 213, 214, 215, 216, 217, 218, 219, 220, 221, 222, 223, 224, 225, 226, 130, 334, 335, 336, 337, 338, 339, 340, 341, 342, 343, 344, 348, 349, 350, 351, 352, 353, 354, 355, 356, 357, 358, 359, 360, 361, 362, 363] (by decide +kernel) (by decide +kernel)
set_option maxRecDepth 20000 in
theorem xgX6_runCommands_X6_faultOfCommand : GoodIn xsX6_runCommands (wsV RX6 182 RX6 yX6_faultOfCommand xsX6_faultOfCommand) := goodIn_app (goodIn_of _ (by decide +kernel)) xggX6_runCommands_X6_faultOfCommand
set_option maxRecDepth 20000 in
theorem xggX6_runCommands_X6_obeyCommand : GoodIn xsX6_runCommands xsX6_obeyCommand := goodIn_r _ [230, 1, 155, 156, 3, 157, 158, 159, 160, 7, 161, 98, 24, 25, 26, 162, 163, 164, 165, 166, 167, 168, 231, 232, 233, 119, 234, 129, 130, 235, 236, 237, 238, 239, 126, 204, 205, 206, 207, 127, 128, 240, 241, 242, 136, 243, 141, 244, 245, 246, 247, 181, 182, 183, 184, 185, 186, 187, 188, 248, 249, 250, 251, 201, 252, 253, 254, 255, 256, 257, 258, 259, 260, 261, 262, 263, 264, 265, 266, 267, 268, 269, 270, 271, 272, 273, 274, 275, 131, 276, 277, 278, 279, 121, 280, 281, 282, 283, 284, 132, 102, 103, 285, 286, 287, 288, 289, 290, 291, 292, 293, 189, 190, 191, 192, 294, 295, 296, 297, 298, 299, 300, 301, 302, 303, 304, 305, 306, 307, 308, 309, 310, 311, 312, 313, 314, 315, 316, 317, 318, 319, 320, 138, 145, 321, 322, 323, 324, 325, 326, 327, 328, 329, 330, 331, 332, 140, 333, 334, 335, 336, 337, 338, 339, 340, 341, 342, 343, 344, 348, 349, 350, 351, 352, 353, 354, 355, 356, 357, 358, 359, 360, 361, 362, 363] (by decide +kernel) (by decide +kernel)
set_option maxRecDepth 20000 in
theorem xgX6_runCommands_X6_obeyCommand : GoodIn xsX6_runCommands (wsV RX6 185 RX6 yX6_obeyCommand xsX6_obeyCommand) := goodIn_app (goodIn_of _ (by decide +kernel)) xggX6_runCommands_X6_obeyCommand
set_option maxRecDepth 20000 in
theorem xggX6_faultOfCommand_X1_numberAt : GoodIn xsX6_faultOfCommand wsX1_numberAt := goodIn_r _ [10, 11, 12, 13, 14, 92, 93, 94, 95, 96] (by decide +kernel) (by decide +kernel)
set_option maxRecDepth 20000 in
theorem xgX6_faultOfCommand_X1_numberAt : GoodIn xsX6_faultOfCommand (wsV RX6 236 RX1 yX1_numberAt wsX1_numberAt) := goodIn_app (goodIn_of _ (by decide +kernel)) xggX6_faultOfCommand_X1_numberAt
set_option maxRecDepth 20000 in
theorem xggX6_faultOfCommand_Jx29ce0_ordinal_8abf5 : GoodIn xsX6_faultOfCommand wsJx29ce0_ordinal_8abf5 := goodIn_r _ [20, 21] (by decide +kernel) (by decide +kernel)
set_option maxRecDepth 20000 in
theorem xgX6_faultOfCommand_Jx29ce0_ordinal_8abf5_u244X5 : GoodIn xsX6_faultOfCommand xsORD := goodIn_app (goodIn_of _ (by decide +kernel)) xggX6_faultOfCommand_Jx29ce0_ordinal_8abf5
set_option maxRecDepth 20000 in
theorem xggX6_faultOfCommand_X3_faultOfTelling : GoodIn xsX6_faultOfCommand wsX3_faultOfTelling := goodIn_r _ [26, 27, 28, 13, 29, 30, 31, 32, 33, 34, 25, 35, 36, 37, 38, 39, 40, 41, 42, 43, 44, 45, 46, 47, 48, 97, 98, 99, 100, 101, 102, 103, 104] (by decide +kernel) (by decide +kernel)
set_option maxRecDepth 20000 in
theorem xgX6_faultOfCommand_X3_faultOfTelling : GoodIn xsX6_faultOfCommand (wsV RX6 40 RX3 yX3_faultOfTelling wsX3_faultOfTelling) := goodIn_app (goodIn_of _ (by decide +kernel)) xggX6_faultOfCommand_X3_faultOfTelling
set_option maxRecDepth 20000 in
theorem xggX6_faultOfCommand_X3_faultOfCancelling : GoodIn xsX6_faultOfCommand wsX3_faultOfCancelling := goodIn_r _ [52, 28, 13, 29, 30, 31, 32, 36, 37, 38, 25, 39, 27, 40, 41, 42, 43, 44, 97, 98, 99, 100, 101, 102, 103, 104] (by decide +kernel) (by decide +kernel)
set_option maxRecDepth 20000 in
theorem xgX6_faultOfCommand_X3_faultOfCancelling : GoodIn xsX6_faultOfCommand (wsV RX6 55 RX3 yX3_faultOfCancelling wsX3_faultOfCancelling) := goodIn_app (goodIn_of _ (by decide +kernel)) xggX6_faultOfCommand_X3_faultOfCancelling
set_option maxRecDepth 20000 in
theorem xggX6_faultOfCommand_X3_faultOfWaking : GoodIn xsX6_faultOfCommand wsX3_faultOfWaking := goodIn_r _ [56, 57, 58, 13, 59, 30, 31, 32, 60, 61, 62, 25, 63, 64, 65, 105, 106, 107, 108, 109, 110, 111, 112, 97, 98, 99, 100, 101, 102, 103, 104] (by decide +kernel) (by decide +kernel)
set_option maxRecDepth 20000 in
theorem xgX6_faultOfCommand_X3_faultOfWaking : GoodIn xsX6_faultOfCommand (wsV RX6 62 RX3 yX3_faultOfWaking wsX3_faultOfWaking) := goodIn_app (goodIn_of _ (by decide +kernel)) xggX6_faultOfCommand_X3_faultOfWaking
set_option maxRecDepth 20000 in
theorem xggX6_faultOfCommand_X3_faultOfNeedingAwake : GoodIn xsX6_faultOfCommand wsX3_faultOfNeedingAwake := goodIn_r _ [69, 57, 58, 13, 59, 30, 31, 32, 60, 61, 62, 25, 63, 64, 65, 105, 106, 107, 108, 109, 110, 111, 112, 97, 98, 99, 100, 101, 102, 103, 104] (by decide +kernel) (by decide +kernel)
set_option maxRecDepth 20000 in
theorem xgX6_faultOfCommand_X3_faultOfNeedingAwake : GoodIn xsX6_faultOfCommand (wsV RX6 69 RX3 yX3_faultOfNeedingAwake wsX3_faultOfNeedingAwake) := goodIn_app (goodIn_of _ (by decide +kernel)) xggX6_faultOfCommand_X3_faultOfNeedingAwake
set_option maxRecDepth 20000 in
theorem xggX6_faultOfCommand_X3_faultOfWorking : GoodIn xsX6_faultOfCommand wsX3_faultOfWorking := goodIn_r _ [73, 58, 13, 59, 30, 31, 32, 74, 67, 68, 25, 69, 57, 60, 61, 62, 63, 64, 65, 105, 106, 107, 108, 109, 110, 111, 112, 97, 98, 99, 100, 101, 102, 103, 104] (by decide +kernel) (by decide +kernel)
set_option maxRecDepth 20000 in
theorem xgX6_faultOfCommand_X3_faultOfWorking : GoodIn xsX6_faultOfCommand (wsV RX6 87 RX3 yX3_faultOfWorking wsX3_faultOfWorking) := goodIn_app (goodIn_of _ (by decide +kernel)) xggX6_faultOfCommand_X3_faultOfWorking
set_option maxRecDepth 20000 in
theorem xggX6_faultOfCommand_X3_faultOfDelay : GoodIn xsX6_faultOfCommand wsX3_faultOfDelay := goodIn_r _ [78, 58, 13, 59, 30, 31, 32, 79, 80] (by decide +kernel) (by decide +kernel)
set_option maxRecDepth 20000 in
theorem xgX6_faultOfCommand_X3_faultOfDelay : GoodIn xsX6_faultOfCommand (wsV RX6 75 RX3 yX3_faultOfDelay wsX3_faultOfDelay) := goodIn_app (goodIn_of _ (by decide +kernel)) xggX6_faultOfCommand_X3_faultOfDelay
set_option maxRecDepth 20000 in
theorem xggX6_faultOfCommand_X3_faultOfPassing : GoodIn xsX6_faultOfCommand wsX3_faultOfPassing := goodIn_r _ [84, 85, 31, 13, 32, 97, 98, 99, 100, 101, 102, 103, 104] (by decide +kernel) (by decide +kernel)
set_option maxRecDepth 20000 in
theorem xgX6_faultOfCommand_X3_faultOfPassing : GoodIn xsX6_faultOfCommand (wsV RX6 93 RX3 yX3_faultOfPassing wsX3_faultOfPassing) := goodIn_app (goodIn_of _ (by decide +kernel)) xggX6_faultOfCommand_X3_faultOfPassing
set_option maxRecDepth 20000 in
theorem xggX6_obeyCommand_X1_numberAt : GoodIn xsX6_obeyCommand wsX1_numberAt := goodIn_r _ [10, 11, 12, 13, 14, 164, 165, 166, 167, 168] (by decide +kernel) (by decide +kernel)
set_option maxRecDepth 20000 in
theorem xgX6_obeyCommand_X1_numberAt : GoodIn xsX6_obeyCommand (wsV RX6 236 RX1 yX1_numberAt wsX1_numberAt) := goodIn_app (goodIn_of _ (by decide +kernel)) xggX6_obeyCommand_X1_numberAt
set_option maxRecDepth 20000 in
theorem xggX6_obeyCommand_Jx29ce0_ordinal_8abf5 : GoodIn xsX6_obeyCommand wsJx29ce0_ordinal_8abf5 := goodIn_r _ [20, 21] (by decide +kernel) (by decide +kernel)
set_option maxRecDepth 20000 in
theorem xgX6_obeyCommand_Jx29ce0_ordinal_8abf5_u244X5 : GoodIn xsX6_obeyCommand xsORD := goodIn_app (goodIn_of _ (by decide +kernel)) xggX6_obeyCommand_Jx29ce0_ordinal_8abf5
set_option maxRecDepth 20000 in
theorem xggX6_obeyCommand_X3_tell : GoodIn xsX6_obeyCommand wsX3_tell := goodIn_r _ [26, 27, 28, 29, 30, 31, 32, 25, 33, 34, 35, 36, 37, 38, 39, 40, 41, 42, 43, 44, 45, 46, 169, 170, 171, 172, 173, 174, 175, 176, 177, 178, 179, 180, 181, 182, 183, 184] (by decide +kernel) (by decide +kernel)
set_option maxRecDepth 20000 in
theorem xgX6_obeyCommand_X3_tell : GoodIn xsX6_obeyCommand (wsV RX6 52 RX3 yX3_tell wsX3_tell) := goodIn_app (goodIn_of _ (by decide +kernel)) xggX6_obeyCommand_X3_tell
set_option maxRecDepth 20000 in
theorem xggX6_obeyCommand_X3_callOff : GoodIn xsX6_obeyCommand wsX3_callOff := goodIn_r _ [50, 51, 52, 53, 25, 54, 27, 55, 56, 57, 58, 34, 30, 31, 32, 33, 169, 170, 171, 172, 173, 174, 175, 176] (by decide +kernel) (by decide +kernel)
set_option maxRecDepth 20000 in
theorem xgX6_obeyCommand_X3_callOff : GoodIn xsX6_obeyCommand (wsV RX6 59 RX3 yX3_callOff wsX3_callOff) := goodIn_app (goodIn_of _ (by decide +kernel)) xggX6_obeyCommand_X3_callOff
set_option maxRecDepth 20000 in
theorem xggX6_obeyCommand_X3_rouse : GoodIn xsX6_obeyCommand wsX3_rouse := goodIn_r _ [62, 63, 35, 36, 37, 25, 38, 39, 40, 64, 65, 66, 67, 27, 68, 69, 70, 71, 28, 72, 73, 74, 44, 75, 46, 55, 56, 57, 58, 34, 177, 178, 179, 180, 181, 182, 183, 184, 169, 170, 171, 172, 173, 174, 175, 176] (by decide +kernel) (by decide +kernel)
set_option maxRecDepth 20000 in
theorem xgX6_obeyCommand_X3_rouse : GoodIn xsX6_obeyCommand (wsV RX6 66 RX3 yX3_rouse wsX3_rouse) := goodIn_app (goodIn_of _ (by decide +kernel)) xggX6_obeyCommand_X3_rouse
set_option maxRecDepth 20000 in
theorem xggX6_obeyCommand_X3_putToSleep : GoodIn xsX6_obeyCommand wsX3_putToSleep := goodIn_r _ [79, 63, 35, 36, 37, 25, 38, 39, 40, 64, 65, 66, 67, 27, 68, 69, 70, 71, 28, 72, 73, 74, 44, 75, 46, 55, 56, 57, 58, 34, 177, 178, 179, 180, 181, 182, 183, 184, 169, 170, 171, 172, 173, 174, 175, 176] (by decide +kernel) (by decide +kernel)
set_option maxRecDepth 20000 in
theorem xgX6_obeyCommand_X3_putToSleep : GoodIn xsX6_obeyCommand (wsV RX6 72 RX3 yX3_putToSleep wsX3_putToSleep) := goodIn_app (goodIn_of _ (by decide +kernel)) xggX6_obeyCommand_X3_putToSleep
set_option maxRecDepth 20000 in
theorem xggX6_obeyCommand_X3_letWork : GoodIn xsX6_obeyCommand wsX3_letWork := goodIn_r _ [83, 27, 84, 85, 86, 25, 87, 88, 55, 56, 57, 58, 34, 89, 90, 91, 92, 93, 94, 95, 96, 97, 98, 99, 12, 13, 14, 100, 101, 102, 103, 104, 105, 28, 106, 30, 31, 32, 33, 35, 36, 37, 38, 39, 40, 107, 108, 109, 110, 111, 112, 113, 114, 115, 116, 117, 118, 119, 68, 69, 70, 71, 72, 73, 74, 44, 75, 46, 120, 121, 122, 123, 124, 125, 126, 127, 128, 129, 130, 131, 132, 133, 134, 135, 136, 137, 138, 139, 140, 141, 142, 143, 169, 170, 171, 172, 173, 174, 175, 176, 177, 178, 179, 180, 181, 182, 183, 184] (by decide +kernel) (by decide +kernel)
set_option maxRecDepth 20000 in
theorem xgX6_obeyCommand_X3_letWork : GoodIn xsX6_obeyCommand (wsV RX6 90 RX3 yX3_letWork wsX3_letWork) := goodIn_app (goodIn_of _ (by decide +kernel)) xggX6_obeyCommand_X3_letWork
set_option maxRecDepth 20000 in
theorem xggX6_obeyCommand_X3_changeDelay : GoodIn xsX6_obeyCommand wsX3_changeDelay := goodIn_r _ [147, 29, 35, 36, 37, 25, 38, 39, 40, 177, 178, 179, 180, 181, 182, 183, 184, 169, 170, 171, 172, 173, 174, 175, 176] (by decide +kernel) (by decide +kernel)
set_option maxRecDepth 20000 in
theorem xgX6_obeyCommand_X3_changeDelay : GoodIn xsX6_obeyCommand (wsV RX6 78 RX3 yX3_changeDelay wsX3_changeDelay) := goodIn_app (goodIn_of _ (by decide +kernel)) xggX6_obeyCommand_X3_changeDelay
set_option maxRecDepth 20000 in
theorem xggX6_obeyCommand_X3_letPass : GoodIn xsX6_obeyCommand wsX3_letPass := goodIn_r _ [151, 39, 28, 40, 63, 152, 153, 154, 44, 155, 156, 142, 35, 36, 37, 25, 38, 157, 81, 82, 83, 27, 84, 85, 86, 87, 88, 55, 56, 57, 58, 34, 89, 90, 91, 92, 93, 94, 95, 96, 97, 98, 99, 12, 13, 14, 100, 101, 102, 103, 104, 105, 106, 30, 31, 32, 33, 107, 108, 109, 110, 111, 112, 113, 114, 115, 116, 117, 118, 119, 68, 69, 70, 71, 72, 73, 74, 75, 46, 120, 121, 122, 123, 124, 125, 126, 127, 128, 129, 130, 131, 132, 133, 134, 135, 136, 137, 138, 139, 140, 141, 143, 169, 170, 171, 172, 173, 174, 175, 176, 177, 178, 179, 180, 181, 182, 183, 184] (by decide +kernel) (by decide +kernel)
set_option maxRecDepth 20000 in
theorem xgX6_obeyCommand_X3_letPass : GoodIn xsX6_obeyCommand (wsV RX6 96 RX3 yX3_letPass wsX3_letPass) := goodIn_app (goodIn_of _ (by decide +kernel)) xggX6_obeyCommand_X3_letPass
section ORDR
variable {p : Program} {l : Launch} {e : Env} {R : Room} {s : State} {m : MethodId} {args : Array Value} {below : List Frame} {meth : Method} {c : Code} {cc : ByteArray} {nL : Nat} {Ts : List Cond} {H : Heap} {locs : List Loc} {cells slots : Nat} {A : Nat → Prop} {k : wAd} {i : Nat} {rest : List Value} {g : JFrame}
/-- the call of a word's ordinal, from a method of the drive -/
theorem wk_ord (S : CallFix p m c cc nL s args Ts RX6) (hG : GoodIn Ts xsORD) (hi : i < 10) (hT : wkT k A s s.heap) (hS : va_S A s.heap H locs) (hR : 1 ≤ R.frames ∧ 20 ≤ R.locals)
    (hg : g.method = m) (hsize : g.locals.size = nL) (hstack : g.stack = .ref (k.1 i) :: rest) (hW : 2 * g.monitorRoom + (rest.map fun v => v.category).sum ≤ 8) (hdg : decode cc g.pc = .ok (.invokevirtual 244, 3)) (a : Array Value) :
    va_Run p l e R s m args below meth c H locs cells slots 0 0 g rest (wkQ (some (.int (nI i))) (fun t => t.heap = H) (fun _ => False) a) (fun _ => False) := by
  obtain ⟨hx, hb, hml, ho, hts⟩ := S
  have ok : ∀ w ∈ xsORD, w.before args s = true := fun w h => hts w (hG w h).1
  have hlink := ok (.methodLink RX6 244 ⟨"WokenDrive$Word", "ordinal", "()I"⟩) (List.mem_of_getElem? (i := 0) rfl)
  have hsame := ok (.sameMethod "WokenDrive$Word" "java/lang/Enum" "ordinal" "()I") (List.mem_of_getElem? (i := 1) rfl)
  have hsel := ok (.selects RX5 ⟨"WokenDrive$Word", "ordinal", "()I"⟩ yJx29ce0_ordinal_8abf5) (List.mem_of_getElem? (i := 2) rfl)
  have hinst := ok (.instanceMethod yJx29ce0_ordinal_8abf5) (List.mem_of_getElem? (i := 3) rfl)
  have hcode := ok (.code yJx29ce0_ordinal_8abf5 cJx29ce0_ordinal_8abf5 1 (some .int)) (List.mem_of_getElem? (i := 4) rfl)
  have hfl := ok (.fieldLink RJx29ce0 7 "java/lang/Enum" "ordinal" "I") (List.mem_of_getElem? (i := 5) rfl)
  have hTH := (hT.kept hS.2.1).2.1 i hi
  obtain ⟨cell, h1, h2, h3, -⟩ := hTH.1
  have hlen : ∀ sig, parseMethodDescriptor "()I" = some sig → ([] : List Value).length = sig.parameters.length := by
    intro sig h
    have h0 : (parseMethodDescriptor "()I").map (fun d => d.parameters.length) = some 0 := by decide +kernel
    rw [h] at h0
    exact (Option.some.inj h0).symm
  intro T hT2 X
  have hK := ord_back (p := p) (l := l) (e := e) (R := R) (s := s) (args := args) (below := below) (H := H) (locs := locs) (cells := cells) (slots := slots) (A := A) (t := k.1 i) (v := nI i) hx hinst hcode hfl hTH.2.2.2.2 hR.1 hR.2
  obtain ⟨v, vm₁, ⟨U', l2, c2, s2⟩, hW₁, X', hpost, st⟩ := va_callVU X hx (own := RX6) (C := RX5) (owner := "java/lang/Enum") (x := ⟨"WokenDrive$Word", "ordinal", "()I"⟩) (y := yJx29ce0_ordinal_8abf5) ho hlink hsame (va_Decl.of hinst hcode) ⟨by decide, by decide⟩ hsel hinst hcode hK (by rw [hT2]; exact h1) h2 h3 hg (hsize.trans hml.symm) (argsL := []) (rest := rest) hlen hstack hW (by rw [hb]; exact hdg) (fun vm₁ hW₁ => ⟨hT2, rfl, rfl, rfl, rfl⟩)
  obtain ⟨hv, e1, e2, e3, e4⟩ := hpost
  dsimp only [Free.Pt.U, Free.Pt.locs, Free.Pt.cells, Free.Pt.slots] at X' e1 e2 e3 e4 st
  subst hv
  subst e2; subst e3; subst e4
  refine ⟨some (.int (nI i)), T.setVm vm₁, U', U', [], hT2, ?_, fun q hq => absurd hq (by simp), rfl, rfl, ⟨⟨rfl, e1⟩, ?_⟩, st⟩
  · rw [List.append_nil]; exact X'
  · have h9 : (T.setVm vm₁).heap = U'.heap := hT2.trans e1.symm
    exact ⟨Nat.le_of_eq (congrArg Array.size h9), fun q hq _ => by rw [h9]⟩
end ORDR
