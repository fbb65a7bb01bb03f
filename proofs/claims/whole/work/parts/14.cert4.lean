theorem o_Translator_opening : ck_C 231 0 k_Translator_opening = true := by decide +kernel
theorem o_Translator_arrayStatement : ck_C 232 0 k_Translator_arrayStatement = true := by decide +kernel
theorem o_Translator_arrayByArray : ck_C 233 0 k_Translator_arrayByArray = true := by decide +kernel
theorem o_Translator_show : ck_C 234 0 k_Translator_show = true := by decide +kernel
theorem o_Translator_routine : ck_C 235 0 k_Translator_routine = true := by decide +kernel
theorem o_Translator_tell : ck_C 236 0 k_Translator_tell = true := by decide +kernel
theorem o_Translator_choice : ck_C 237 0 k_Translator_choice = true := by decide +kernel
theorem o_Translator_loop : ck_C 238 0 k_Translator_loop = true := by decide +kernel
theorem o_Translator_decider : ck_C 239 0 k_Translator_decider = true := by decide +kernel
theorem o_Translator_expression : ck_C 240 0 k_Translator_expression = true := by decide +kernel
theorem o_Translator_product : ck_C 241 0 k_Translator_product = true := by decide +kernel
theorem o_Translator_factor : ck_C 242 0 k_Translator_factor = true := by decide +kernel
theorem o_Translator_atom : ck_C 243 0 k_Translator_atom = true := by decide +kernel
theorem o_Translator_index : ck_C 244 0 k_Translator_index = true := by decide +kernel
theorem o_Translator_literal : ck_C 245 0 k_Translator_literal = true := by decide +kernel
theorem o_Translator_enter : ck_C 246 0 k_Translator_enter = true := by decide +kernel
theorem o_Translator_leave : ck_C 247 0 k_Translator_leave = true := by decide +kernel
theorem o_Translator_variable : ck_C 248 0 k_Translator_variable = true := by decide +kernel
theorem o_Translator_array : ck_C 249 0 k_Translator_array = true := by decide +kernel
theorem o_Translator_digit : ck_C 250 0 k_Translator_digit = true := by decide +kernel
theorem o_Translator_look : ck_C 251 0 k_Translator_look = true := by decide +kernel
theorem o_Translator_behindNext : ck_C 252 0 k_Translator_behindNext = true := by decide +kernel
theorem o_Translator_pass : ck_C 253 0 k_Translator_pass = true := by decide +kernel
theorem o_Translator_expect : ck_C 254 0 k_Translator_expect = true := by decide +kernel
theorem o_Translator_refuse : ck_C 255 0 k_Translator_refuse = true := by decide +kernel
theorem o_Translator_wantClear : ck_C 256 0 k_Translator_wantClear = true := by decide +kernel
theorem o_Translator_wantSecret : ck_C 257 0 k_Translator_wantSecret = true := by decide +kernel
theorem o_Translator_blame : ck_C 258 0 k_Translator_blame = true := by decide +kernel
theorem o_Translator_emit : ck_C 259 0 k_Translator_emit = true := by decide +kernel
theorem o_Translator_emitPlace : ck_C 260 0 k_Translator_emitPlace = true := by decide +kernel
theorem o_Translator_isVariable : ck_C 261 0 k_Translator_isVariable = true := by decide +kernel
theorem o_Translator_isArray : ck_C 262 0 k_Translator_isArray = true := by decide +kernel
theorem o_Translator_isDigit : ck_C 263 0 k_Translator_isDigit = true := by decide +kernel
theorem o_Verifier_init : ck_C 264 0 k_Verifier_init = true := by decide +kernel
theorem o_Verifier_lets : ck_C 265 0 k_Verifier_lets = true := by decide +kernel
theorem o_Verifier_refuse : ck_C 266 0 k_Verifier_refuse = true := by decide +kernel
theorem o_Verifier_findOperations : ck_C 267 0 k_Verifier_findOperations = true := by decide +kernel
theorem o_Verifier_namesWhatIs : ck_C 268 0 k_Verifier_namesWhatIs = true := by decide +kernel
theorem o_Verifier_findTargets : ck_C 269 0 k_Verifier_findTargets = true := by decide +kernel
theorem o_Verifier_followPile : ck_C 270 0 k_Verifier_followPile = true := by decide +kernel
theorem o_Verifier_fits : ck_C 271 0 k_Verifier_fits = true := by decide +kernel
theorem o_Verifier_keepsSecret : ck_C 272 0 k_Verifier_keepsSecret = true := by decide +kernel
theorem o_Verifier_isSecret : ck_C 273 0 k_Verifier_isSecret = true := by decide +kernel
theorem o_Verifier_pushes : ck_C 274 0 k_Verifier_pushes = true := by decide +kernel
theorem o_Verifier_drops : ck_C 275 0 k_Verifier_drops = true := by decide +kernel
theorem o_Verifier_joins : ck_C 276 0 k_Verifier_joins = true := by decide +kernel
theorem o_Verifier_mark : ck_C 277 0 k_Verifier_mark = true := by decide +kernel
theorem o_Verifier_isMarked : ck_C 278 0 k_Verifier_isMarked = true := by decide +kernel
theorem o_Law_compile : ck_C 279 0 k_Law_compile = true := by decide +kernel
theorem o_Law_load : ck_C 280 0 k_Law_load = true := by decide +kernel
theorem o_Law_deal : ck_C 281 0 k_Law_deal = true := by decide +kernel
theorem o_Law_step : ck_C 282 0 k_Law_step = true := by decide +kernel
theorem o_Law_run : ck_C 283 0 k_Law_run = true := by decide +kernel
theorem o_Law_output : ck_C 284 0 k_Law_output = true := by decide +kernel
theorem o_Law_clear : ck_C 285 0 k_Law_clear = true := by decide +kernel
theorem o_Law_bound : ck_C 286 0 k_Law_bound = true := by decide +kernel
theorem ol_0 : ck_L 287 (32 * 0) kl_0 = true := by decide +kernel
theorem ol_1 : ck_L 287 (32 * 1) kl_1 = true := by decide +kernel
theorem ol_2 : ck_L 287 (32 * 2) kl_2 = true := by decide +kernel
theorem ol_3 : ck_L 287 (32 * 3) kl_3 = true := by decide +kernel
theorem ol_4 : ck_L 287 (32 * 4) kl_4 = true := by decide +kernel
theorem ol_5 : ck_L 287 (32 * 5) kl_5 = true := by decide +kernel
theorem ol_6 : ck_L 287 (32 * 6) kl_6 = true := by decide +kernel
theorem ol_7 : ck_L 287 (32 * 7) kl_7 = true := by decide +kernel
theorem ol_8 : ck_L 287 (32 * 8) kl_8 = true := by decide +kernel
theorem ol_9 : ck_L 287 (32 * 9) kl_9 = true := by decide +kernel
theorem ol_10 : ck_L 287 (32 * 10) kl_10 = true := by decide +kernel
theorem ol_11 : ck_L 287 (32 * 11) kl_11 = true := by decide +kernel
theorem ol_12 : ck_L 287 (32 * 12) kl_12 = true := by decide +kernel
theorem ol_13 : ck_L 287 (32 * 13) kl_13 = true := by decide +kernel
theorem ol_14 : ck_L 287 (32 * 14) kl_14 = true := by decide +kernel
theorem ol_15 : ck_L 287 (32 * 15) kl_15 = true := by decide +kernel
theorem ol_16 : ck_L 287 (32 * 16) kl_16 = true := by decide +kernel
theorem ol_17 : ck_L 287 (32 * 17) kl_17 = true := by decide +kernel
theorem ol_18 : ck_L 287 (32 * 18) kl_18 = true := by decide +kernel
theorem ol_19 : ck_L 287 (32 * 19) kl_19 = true := by decide +kernel
theorem ol_20 : ck_L 287 (32 * 20) kl_20 = true := by decide +kernel
theorem ol_21 : ck_L 287 (32 * 21) kl_21 = true := by decide +kernel
theorem ol_22 : ck_L 287 (32 * 22) kl_22 = true := by decide +kernel
theorem ol_23 : ck_L 287 (32 * 23) kl_23 = true := by decide +kernel
theorem ol_24 : ck_L 287 (32 * 24) kl_24 = true := by decide +kernel
theorem ol_25 : ck_L 287 (32 * 25) kl_25 = true := by decide +kernel
theorem ol_26 : ck_L 287 (32 * 26) kl_26 = true := by decide +kernel
theorem ol_27 : ck_L 287 (32 * 27) kl_27 = true := by decide +kernel
theorem ol_28 : ck_L 287 (32 * 28) kl_28 = true := by decide +kernel
theorem ol_29 : ck_L 287 (32 * 29) kl_29 = true := by decide +kernel
theorem ol_30 : ck_L 287 (32 * 30) kl_30 = true := by decide +kernel
theorem ol_31 : ck_L 287 (32 * 31) kl_31 = true := by decide +kernel
theorem ol_32 : ck_L 287 (32 * 32) kl_32 = true := by decide +kernel
theorem ol_33 : ck_L 287 (32 * 33) kl_33 = true := by decide +kernel
theorem ol_34 : ck_L 287 (32 * 34) kl_34 = true := by decide +kernel
theorem ol_35 : ck_L 287 (32 * 35) kl_35 = true := by decide +kernel
theorem ol_36 : ck_L 287 (32 * 36) kl_36 = true := by decide +kernel
theorem o_Law_law : ck_C 287 0 k_Law_law = true := (ck_C_c (k := 0) ol_0 (ck_C_c (k := 1) ol_1 (ck_C_c (k := 2) ol_2 (ck_C_c (k := 3) ol_3 (ck_C_c (k := 4) ol_4 (ck_C_c (k := 5) ol_5 (ck_C_c (k := 6) ol_6 (ck_C_c (k := 7) ol_7 (ck_C_c (k := 8) ol_8 (ck_C_c (k := 9) ol_9 (ck_C_c (k := 10) ol_10 (ck_C_c (k := 11) ol_11 (ck_C_c (k := 12) ol_12 (ck_C_c (k := 13) ol_13 (ck_C_c (k := 14) ol_14 (ck_C_c (k := 15) ol_15 (ck_C_c (k := 16) ol_16 (ck_C_c (k := 17) ol_17 (ck_C_c (k := 18) ol_18 (ck_C_c (k := 19) ol_19 (ck_C_c (k := 20) ol_20 (ck_C_c (k := 21) ol_21 (ck_C_c (k := 22) ol_22 (ck_C_c (k := 23) ol_23 (ck_C_c (k := 24) ol_24 (ck_C_c (k := 25) ol_25 (ck_C_c (k := 26) ol_26 (ck_C_c (k := 27) ol_27 (ck_C_c (k := 28) ol_28 (ck_C_c (k := 29) ol_29 (ck_C_c (k := 30) ol_30 (ck_C_c (k := 31) ol_31 (ck_C_c (k := 32) ol_32 (ck_C_c (k := 33) ol_33 (ck_C_c (k := 34) ol_34 (ck_C_c (k := 35) ol_35 (ck_C_c (k := 36) ol_36 rfl)))))))))))))))))))))))))))))))))))))
theorem o_Math_floorMod : ck_C 288 0 k_Math_floorMod = true := by decide +kernel
