abbrev X_IOOBE : String := "java/lang/IndexOutOfBoundsException"
abbrev X_ISE : String := "java/lang/IllegalStateException"
abbrev X_IAE : String := "java/lang/IllegalArgumentException"
abbrev X_NSE : String := "java/util/NoSuchElementException"
theorem tw_Xx_74 : zTw R_Xx 56 74 60 X_ISE "the game is started already, or a side has no leader" ["java/lang/RuntimeException", "java/lang/Exception"] = true := by decide +kernel
theorem tw_Xx_84 : zTw R_Xx 56 84 60 X_ISE "the move is not possible" ["java/lang/RuntimeException", "java/lang/Exception"] = true := by decide +kernel
theorem tw_Xx_226 : zTw R_Xx 92 226 96 X_IAE "no such set of steps" ["java/lang/RuntimeException", "java/lang/Exception"] = true := by decide +kernel
theorem tw_Xx_232 : zTw R_Xx 56 232 60 X_ISE "no such piece can be put there now" ["java/lang/RuntimeException", "java/lang/Exception"] = true := by decide +kernel
theorem tw_Xx_268 : zTw R_Xx 266 268 270 X_IOOBE "no such side" ["java/lang/RuntimeException", "java/lang/Exception"] = true := by decide +kernel
theorem tw_Xx_271 : zTw R_Xx 266 271 270 X_IOOBE "no such square" ["java/lang/RuntimeException", "java/lang/Exception"] = true := by decide +kernel
theorem tw_Xx_273 : zTw R_Xx 266 273 270 X_IOOBE "no such kind of steps" ["java/lang/RuntimeException", "java/lang/Exception"] = true := by decide +kernel
