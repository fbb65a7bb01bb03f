/-! the code is that of the bytes -/
def ck_I (y pc : Nat) (q : am_I) : Bool := bif Nat.ble q.1 39 then am_ck y pc q else bif Nat.ble q.1 44 then ck_ret y pc q.1 else bif Nat.beq q.1 50 then ck_call y pc q.2.1 q.2.2.1 q.2.2.2.2 else true
def ck_L (y : Nat) : Nat → List am_I → Bool
  | _, [] => true
  | pc, q :: r => ck_I y pc q && ck_L y (pc + 1) r
/-- a chunk after the other, each of 32 but the last -/
def ck_C (y : Nat) : Nat → List (List am_I) → Bool
  | _, [] => true
  | k, q :: r => ck_L y (32 * k) q && ck_C y (k + 1) r
theorem ck_L_at {y : Nat} : ∀ {l : List am_I} {pc : Nat}, ck_L y pc l = true → ∀ i, ck_I y (pc + i) (g_get gz l i) = true := by
  intro l
  induction l with
  | nil => intro pc _ i; rfl
  | cons q r ih =>
    intro pc h i
    unfold ck_L at h
    rw [Bool.and_eq_true] at h
    cases i with
    | zero => exact h.1
    | succ i =>
      have := ih h.2 i
      rw [show pc + (i + 1) = pc + 1 + i by omega]
      exact this
theorem ck_C_at {y : Nat} : ∀ {l : List (List am_I)} {k : Nat}, ck_C y k l = true → ∀ i, ck_L y (32 * (k + i)) (g_get [] l i) = true := by
  intro l
  induction l with
  | nil => intro k _ i; rfl
  | cons q r ih =>
    intro k h i
    unfold ck_C at h
    rw [Bool.and_eq_true] at h
    cases i with
    | zero => exact h.1
    | succ i =>
      have := ih h.2 i
      rw [show k + (i + 1) = k + 1 + i by omega]
      exact this
theorem ck_at {y : Nat} {l : List (List am_I)} (h : ck_C y 0 l = true) (pc : Nat) : ck_I y pc (g_get gz (g_get [] l (pc / 32)) (pc % 32)) = true := by
  have h1 := ck_L_at (ck_C_at h (pc / 32)) (pc % 32)
  rw [show 32 * (0 + pc / 32) + pc % 32 = pc by omega] at h1
  exact h1
theorem o_Sh_init : ck_C 0 0 k_Sh_init = true := by decide +kernel
theorem o_Sh_type : ck_C 1 0 k_Sh_type = true := by decide +kernel
theorem o_Sh_put : ck_C 2 0 k_Sh_put = true := by decide +kernel
theorem o_Sh_hall : ck_C 3 0 k_Sh_hall = true := by decide +kernel
theorem o_Sh_compile : ck_C 4 0 k_Sh_compile = true := by decide +kernel
theorem o_Sh_load : ck_C 5 0 k_Sh_load = true := by decide +kernel
theorem o_Sh_fault : ck_C 6 0 k_Sh_fault = true := by decide +kernel
theorem o_Sh_code : ck_C 7 0 k_Sh_code = true := by decide +kernel
theorem o_Sh_deal : ck_C 8 0 k_Sh_deal = true := by decide +kernel
theorem o_Sh_give : ck_C 9 0 k_Sh_give = true := by decide +kernel
theorem o_Sh_begin : ck_C 10 0 k_Sh_begin = true := by decide +kernel
theorem o_Sh_tamper : ck_C 11 0 k_Sh_tamper = true := by decide +kernel
theorem o_Sh_step : ck_C 12 0 k_Sh_step = true := by decide +kernel
theorem o_Sh_deliver : ck_C 13 0 k_Sh_deliver = true := by decide +kernel
theorem o_Sh_run : ck_C 14 0 k_Sh_run = true := by decide +kernel
theorem o_Sh_party : ck_C 15 0 k_Sh_party = true := by decide +kernel
theorem o_Sh_output : ck_C 16 0 k_Sh_output = true := by decide +kernel
theorem o_Sh_clear : ck_C 17 0 k_Sh_clear = true := by decide +kernel
theorem o_Sh_bound : ck_C 18 0 k_Sh_bound = true := by decide +kernel
theorem o_Sh_total : ck_C 19 0 k_Sh_total = true := by decide +kernel
theorem o_Sh_countMails : ck_C 20 0 k_Sh_countMails = true := by decide +kernel
theorem o_Sh_number : ck_C 21 0 k_Sh_number = true := by decide +kernel
theorem o_Sh_plus : ck_C 22 0 k_Sh_plus = true := by decide +kernel
theorem o_Sh_minus : ck_C 23 0 k_Sh_minus = true := by decide +kernel
theorem o_Sh_times : ck_C 24 0 k_Sh_times = true := by decide +kernel
theorem o_Sh_read : ck_C 25 0 k_Sh_read = true := by decide +kernel
theorem o_Sh_write : ck_C 26 0 k_Sh_write = true := by decide +kernel
theorem o_Sh_zeroLongs : ck_C 27 0 k_Sh_zeroLongs = true := by decide +kernel
theorem o_Sh_zeroInts : ck_C 28 0 k_Sh_zeroInts = true := by decide +kernel
theorem o_Sh_lengthOf : ck_C 29 0 k_Sh_lengthOf = true := by decide +kernel
theorem o_Model_init : ck_C 30 0 k_Model_init = true := by decide +kernel
theorem o_Model_thrown : ck_C 31 0 k_Model_thrown = true := by decide +kernel
theorem o_Model_raise : ck_C 32 0 k_Model_raise = true := by decide +kernel
theorem o_Model_reduced : ck_C 33 0 k_Model_reduced = true := by decide +kernel
theorem o_Model_modulo : ck_C 34 0 k_Model_modulo = true := by decide +kernel
theorem o_Model_plus : ck_C 35 0 k_Model_plus = true := by decide +kernel
theorem o_Model_minus : ck_C 36 0 k_Model_minus = true := by decide +kernel
theorem o_Model_times : ck_C 37 0 k_Model_times = true := by decide +kernel
theorem o_Model_turned : ck_C 38 0 k_Model_turned = true := by decide +kernel
theorem o_Model_digestOf : ck_C 39 0 k_Model_digestOf = true := by decide +kernel
theorem o_Model_drawn : ck_C 40 0 k_Model_drawn = true := by decide +kernel
theorem o_Model_takeOwn : ck_C 41 0 k_Model_takeOwn = true := by decide +kernel
theorem o_Model_type : ck_C 42 0 k_Model_type = true := by decide +kernel
theorem o_Model_put : ck_C 43 0 k_Model_put = true := by decide +kernel
theorem o_Model_see : ck_C 44 0 k_Model_see = true := by decide +kernel
theorem o_Model_refuse : ck_C 45 0 k_Model_refuse = true := by decide +kernel
theorem o_Model_note : ck_C 46 0 k_Model_note = true := by decide +kernel
theorem o_Model_takes : ck_C 47 0 k_Model_takes = true := by decide +kernel
theorem o_Model_want : ck_C 48 0 k_Model_want = true := by decide +kernel
theorem o_Model_isClear : ck_C 49 0 k_Model_isClear = true := by decide +kernel
theorem o_Model_isSecret : ck_C 50 0 k_Model_isSecret = true := by decide +kernel
theorem o_Model_isVariable : ck_C 51 0 k_Model_isVariable = true := by decide +kernel
theorem o_Model_isRow : ck_C 52 0 k_Model_isRow = true := by decide +kernel
theorem o_Model_isSecretRow : ck_C 53 0 k_Model_isSecretRow = true := by decide +kernel
theorem o_Model_numberOf : ck_C 54 0 k_Model_numberOf = true := by decide +kernel
theorem o_Model_isDigit : ck_C 55 0 k_Model_isDigit = true := by decide +kernel
theorem o_Model_lay_IV : ck_C 56 0 k_Model_lay_IV = true := by decide +kernel
theorem o_Model_lay_IIV : ck_C 57 0 k_Model_lay_IIV = true := by decide +kernel
theorem o_Model_readX : ck_C 58 0 k_Model_readX = true := by decide +kernel
theorem o_Model_readProduct : ck_C 59 0 k_Model_readProduct = true := by decide +kernel
theorem o_Model_readFactor : ck_C 60 0 k_Model_readFactor = true := by decide +kernel
theorem o_Model_readPart : ck_C 61 0 k_Model_readPart = true := by decide +kernel
theorem o_Model_readPlace : ck_C 62 0 k_Model_readPlace = true := by decide +kernel
theorem o_Model_readNumber : ck_C 63 0 k_Model_readNumber = true := by decide +kernel
theorem o_Model_readStatements : ck_C 64 0 k_Model_readStatements = true := by decide +kernel
theorem o_Model_readStatement : ck_C 65 0 k_Model_readStatement = true := by decide +kernel
theorem o_Model_readBit : ck_C 66 0 k_Model_readBit = true := by decide +kernel
theorem o_Model_readRoutine : ck_C 67 0 k_Model_readRoutine = true := by decide +kernel
theorem o_Model_place : ck_C 68 0 k_Model_place = true := by decide +kernel
theorem o_Model_readInput : ck_C 69 0 k_Model_readInput = true := by decide +kernel
theorem o_Model_readValue : ck_C 70 0 k_Model_readValue = true := by decide +kernel
theorem o_Model_isSum : ck_C 71 0 k_Model_isSum = true := by decide +kernel
theorem o_Model_readRow : ck_C 72 0 k_Model_readRow = true := by decide +kernel
theorem o_Model_readRows : ck_C 73 0 k_Model_readRows = true := by decide +kernel
theorem o_Model_readOut : ck_C 74 0 k_Model_readOut = true := by decide +kernel
theorem o_Model_fill : ck_C 75 0 k_Model_fill = true := by decide +kernel
theorem o_Model_readTurn : ck_C 76 0 k_Model_readTurn = true := by decide +kernel
theorem o_Model_compile : ck_C 77 0 k_Model_compile = true := by decide +kernel
theorem o_Model_take : ck_C 78 0 k_Model_take = true := by decide +kernel
theorem o_Model_longOf : ck_C 79 0 k_Model_longOf = true := by decide +kernel
theorem o_Model_refused : ck_C 80 0 k_Model_refused = true := by decide +kernel
theorem o_Model_isGood : ck_C 81 0 k_Model_isGood = true := by decide +kernel
theorem o_Model_isVerified : ck_C 82 0 k_Model_isVerified = true := by decide +kernel
theorem o_Model_goalOf : ck_C 83 0 k_Model_goalOf = true := by decide +kernel
theorem o_Model_isFlowGood : ck_C 84 0 k_Model_isFlowGood = true := by decide +kernel
theorem o_Model_gives : ck_C 85 0 k_Model_gives = true := by decide +kernel
theorem o_Model_drops : ck_C 86 0 k_Model_drops = true := by decide +kernel
theorem o_Model_flows : ck_C 87 0 k_Model_flows = true := by decide +kernel
theorem o_Model_load : ck_C 88 0 k_Model_load = true := by decide +kernel
theorem o_Model_fault : ck_C 89 0 k_Model_fault = true := by decide +kernel
theorem o_Model_code : ck_C 90 0 k_Model_code = true := by decide +kernel
theorem o_Model_newHall : ck_C 91 0 k_Model_newHall = true := by decide +kernel
theorem o_Model_hall : ck_C 92 0 k_Model_hall = true := by decide +kernel
theorem o_Model_isParty : ck_C 93 0 k_Model_isParty = true := by decide +kernel
theorem o_Model_dealt : ck_C 94 0 k_Model_dealt = true := by decide +kernel
theorem o_Model_deal : ck_C 95 0 k_Model_deal = true := by decide +kernel
theorem o_Model_least : ck_C 96 0 k_Model_least = true := by decide +kernel
theorem o_Model_level : ck_C 97 0 k_Model_level = true := by decide +kernel
theorem o_Model_give : ck_C 98 0 k_Model_give = true := by decide +kernel
theorem o_Model_begin : ck_C 99 0 k_Model_begin = true := by decide +kernel
theorem o_Model_tamper : ck_C 100 0 k_Model_tamper = true := by decide +kernel
theorem o_Model_error : ck_C 101 0 k_Model_error = true := by decide +kernel
theorem o_Model_numbers : ck_C 102 0 k_Model_numbers = true := by decide +kernel
theorem o_Model_push : ck_C 103 0 k_Model_push = true := by decide +kernel
theorem o_Model_pop : ck_C 104 0 k_Model_pop = true := by decide +kernel
theorem o_Model_goOn : ck_C 105 0 k_Model_goOn = true := by decide +kernel
theorem o_Model_hasOpened : ck_C 106 0 k_Model_hasOpened = true := by decide +kernel
theorem o_Model_statusOf : ck_C 107 0 k_Model_statusOf = true := by decide +kernel
theorem o_Model_isSecretPart : ck_C 108 0 k_Model_isSecretPart = true := by decide +kernel
theorem o_Model_isJoint : ck_C 109 0 k_Model_isJoint = true := by decide +kernel
theorem o_Model_lacking : ck_C 110 0 k_Model_lacking = true := by decide +kernel
theorem o_Model_isFull : ck_C 111 0 k_Model_isFull = true := by decide +kernel
theorem o_Model_mails : ck_C 112 0 k_Model_mails = true := by decide +kernel
theorem o_Model_send : ck_C 113 0 k_Model_send = true := by decide +kernel
theorem o_Model_receive : ck_C 114 0 k_Model_receive = true := by decide +kernel
theorem o_Model_next : ck_C 115 0 k_Model_next = true := by decide +kernel
theorem o_Model_check : ck_C 116 0 k_Model_check = true := by decide +kernel
theorem o_Model_sum : ck_C 117 0 k_Model_sum = true := by decide +kernel
theorem o_Model_act : ck_C 118 0 k_Model_act = true := by decide +kernel
theorem o_Model_row : ck_C 119 0 k_Model_row = true := by decide +kernel
theorem o_Model_received : ck_C 120 0 k_Model_received = true := by decide +kernel
theorem o_Model_joint : ck_C 121 0 k_Model_joint = true := by decide +kernel
theorem o_Model_input : ck_C 122 0 k_Model_input = true := by decide +kernel
theorem o_Model_open : ck_C 123 0 k_Model_open = true := by decide +kernel
theorem o_Model_out : ck_C 124 0 k_Model_out = true := by decide +kernel
theorem o_Model_rows : ck_C 125 0 k_Model_rows = true := by decide +kernel
theorem o_Model_stepOf : ck_C 126 0 k_Model_stepOf = true := by decide +kernel
theorem o_Model_step : ck_C 127 0 k_Model_step = true := by decide +kernel
theorem o_Model_brings : ck_C 128 0 k_Model_brings = true := by decide +kernel
theorem o_Model_deliver : ck_C 129 0 k_Model_deliver = true := by decide +kernel
theorem o_Model_run : ck_C 130 0 k_Model_run = true := by decide +kernel
theorem o_Model_party : ck_C 131 0 k_Model_party = true := by decide +kernel
theorem o_Model_output : ck_C 132 0 k_Model_output = true := by decide +kernel
theorem o_Model_clear : ck_C 133 0 k_Model_clear = true := by decide +kernel
theorem o_Model_bound : ck_C 134 0 k_Model_bound = true := by decide +kernel
theorem o_Model_total : ck_C 135 0 k_Model_total = true := by decide +kernel
theorem o_Check_init : ck_C 136 0 k_Check_init = true := by decide +kernel
theorem o_Check_startAnew : ck_C 137 0 k_Check_startAnew = true := by decide +kernel
theorem o_Check_forget : ck_C 138 0 k_Check_forget = true := by decide +kernel
theorem o_Check_note : ck_C 139 0 k_Check_note = true := by decide +kernel
theorem o_Check_drawCoinAndNonce : ck_C 140 0 k_Check_drawCoinAndNonce = true := by decide +kernel
theorem o_Check_drawNonce : ck_C 141 0 k_Check_drawNonce = true := by decide +kernel
theorem o_Digest_init : ck_C 142 0 k_Digest_init = true := by decide +kernel
theorem o_Digest_next : ck_C 143 0 k_Digest_next = true := by decide +kernel
theorem o_Digest_byteOf : ck_C 144 0 k_Digest_byteOf = true := by decide +kernel
theorem o_Digest_spread : ck_C 145 0 k_Digest_spread = true := by decide +kernel
theorem o_Digest_stir : ck_C 146 0 k_Digest_stir = true := by decide +kernel
theorem o_Errors_init : ck_C 147 0 k_Errors_init = true := by decide +kernel
theorem o_Errors_wipe : ck_C 148 0 k_Errors_wipe = true := by decide +kernel
theorem o_Errors_add : ck_C 149 0 k_Errors_add = true := by decide +kernel
theorem o_Errors_sum : ck_C 150 0 k_Errors_sum = true := by decide +kernel
theorem o_Hall_init : ck_C 151 0 k_Hall_init = true := by decide +kernel
theorem o_Hall_renew : ck_C 152 0 k_Hall_renew = true := by decide +kernel
theorem o_Hall_take : ck_C 153 0 k_Hall_take = true := by decide +kernel
theorem o_Hall_has : ck_C 154 0 k_Hall_has = true := by decide +kernel
theorem o_Hall_mostLeft : ck_C 155 0 k_Hall_mostLeft = true := by decide +kernel
theorem o_Hall_left : ck_C 156 0 k_Hall_left = true := by decide +kernel
theorem o_Hall_startAnew : ck_C 157 0 k_Hall_startAnew = true := by decide +kernel
theorem o_Hall_evenOut : ck_C 158 0 k_Hall_evenOut = true := by decide +kernel
theorem o_Hall_settle : ck_C 159 0 k_Hall_settle = true := by decide +kernel
theorem o_Hall_firstPhase : ck_C 160 0 k_Hall_firstPhase = true := by decide +kernel
theorem o_Hall_stepOf : ck_C 161 0 k_Hall_stepOf = true := by decide +kernel
theorem o_Hall_act : ck_C 162 0 k_Hall_act = true := by decide +kernel
theorem o_Hall_lackFor : ck_C 163 0 k_Hall_lackFor = true := by decide +kernel
theorem o_Hall_isShared : ck_C 164 0 k_Hall_isShared = true := by decide +kernel
theorem o_Hall_firstArrayAt : ck_C 165 0 k_Hall_firstArrayAt = true := by decide +kernel
theorem o_Hall_exchange : ck_C 166 0 k_Hall_exchange = true := by decide +kernel
theorem o_Hall_numbersOf : ck_C 167 0 k_Hall_numbersOf = true := by decide +kernel
theorem o_Hall_use : ck_C 168 0 k_Hall_use = true := by decide +kernel
theorem o_Hall_sends : ck_C 169 0 k_Hall_sends = true := by decide +kernel
theorem o_Hall_receives : ck_C 170 0 k_Hall_receives = true := by decide +kernel
theorem o_Hall_gatherErrors : ck_C 171 0 k_Hall_gatherErrors = true := by decide +kernel
theorem o_Hall_conclude : ck_C 172 0 k_Hall_conclude = true := by decide +kernel
theorem o_Hall_nextInput : ck_C 173 0 k_Hall_nextInput = true := by decide +kernel
theorem o_Hall_joinArrays : ck_C 174 0 k_Hall_joinArrays = true := by decide +kernel
theorem o_Hall_joined : ck_C 175 0 k_Hall_joined = true := by decide +kernel
theorem o_Hall_work : ck_C 176 0 k_Hall_work = true := by decide +kernel
theorem o_Hall_visitPlace : ck_C 177 0 k_Hall_visitPlace = true := by decide +kernel
theorem o_Hall_nextBit : ck_C 178 0 k_Hall_nextBit = true := by decide +kernel
theorem o_Hall_jump : ck_C 179 0 k_Hall_jump = true := by decide +kernel
theorem o_Hall_isInCheck : ck_C 180 0 k_Hall_isInCheck = true := by decide +kernel
theorem o_Hall_show : ck_C 181 0 k_Hall_show = true := by decide +kernel
theorem o_Hall_sendShown : ck_C 182 0 k_Hall_sendShown = true := by decide +kernel
theorem o_Hall_receiveShown : ck_C 183 0 k_Hall_receiveShown = true := by decide +kernel
theorem o_Hall_checkStep : ck_C 184 0 k_Hall_checkStep = true := by decide +kernel
theorem o_Hall_noteBonds : ck_C 185 0 k_Hall_noteBonds = true := by decide +kernel
theorem o_Hall_judge : ck_C 186 0 k_Hall_judge = true := by decide +kernel
theorem o_Hall_weightedErrors : ck_C 187 0 k_Hall_weightedErrors = true := by decide +kernel
theorem o_Hall_ownSeed : ck_C 188 0 k_Hall_ownSeed = true := by decide +kernel
theorem o_Hall_bondByte : ck_C 189 0 k_Hall_bondByte = true := by decide +kernel
theorem o_Hall_bring : ck_C 190 0 k_Hall_bring = true := by decide +kernel
theorem o_Hall_bringAll : ck_C 191 0 k_Hall_bringAll = true := by decide +kernel
theorem o_Hall_onWire : ck_C 192 0 k_Hall_onWire = true := by decide +kernel
theorem o_Memory_init : ck_C 193 0 k_Memory_init = true := by decide +kernel
theorem o_Memory_wipe : ck_C 194 0 k_Memory_wipe = true := by decide +kernel
theorem o_Memory_push : ck_C 195 0 k_Memory_push = true := by decide +kernel
theorem o_Memory_pop : ck_C 196 0 k_Memory_pop = true := by decide +kernel
theorem o_Memory_fromTop : ck_C 197 0 k_Memory_fromTop = true := by decide +kernel
theorem o_Memory_cell : ck_C 198 0 k_Memory_cell = true := by decide +kernel
theorem o_Memory_setCell : ck_C 199 0 k_Memory_setCell = true := by decide +kernel
theorem o_Memory_keep : ck_C 200 0 k_Memory_keep = true := by decide +kernel
theorem o_Memory_lastKept : ck_C 201 0 k_Memory_lastKept = true := by decide +kernel
theorem o_Party_init : ck_C 202 0 k_Party_init = true := by decide +kernel
theorem o_Party_startAnew : ck_C 203 0 k_Party_startAnew = true := by decide +kernel
theorem o_Party_putOut : ck_C 204 0 k_Party_putOut = true := by decide +kernel
theorem o_Party_tell : ck_C 205 0 k_Party_tell = true := by decide +kernel
theorem o_Post_init : ck_C 206 0 k_Post_init = true := by decide +kernel
theorem o_Post_wipe : ck_C 207 0 k_Post_wipe = true := by decide +kernel
theorem o_Row_init : ck_C 208 0 k_Row_init = true := by decide +kernel
theorem o_Row_at : ck_C 209 0 k_Row_at = true := by decide +kernel
theorem o_Row_add : ck_C 210 0 k_Row_add = true := by decide +kernel
theorem o_Row_change : ck_C 211 0 k_Row_change = true := by decide +kernel
theorem o_Row_addWord : ck_C 212 0 k_Row_addWord = true := by decide +kernel
theorem o_Row_target : ck_C 213 0 k_Row_target = true := by decide +kernel
theorem o_Row_aim : ck_C 214 0 k_Row_aim = true := by decide +kernel
theorem o_Row_longAt : ck_C 215 0 k_Row_longAt = true := by decide +kernel
theorem o_Row_copy : ck_C 216 0 k_Row_copy = true := by decide +kernel
theorem o_Row_wipe : ck_C 217 0 k_Row_wipe = true := by decide +kernel
theorem o_Stock_init : ck_C 218 0 k_Stock_init = true := by decide +kernel
theorem o_Stock_wipe : ck_C 219 0 k_Stock_wipe = true := by decide +kernel
theorem o_Stock_addInput : ck_C 220 0 k_Stock_addInput = true := by decide +kernel
theorem o_Stock_inputsLeft : ck_C 221 0 k_Stock_inputsLeft = true := by decide +kernel
theorem o_Stock_masksLeft : ck_C 222 0 k_Stock_masksLeft = true := by decide +kernel
theorem o_Translator_init : ck_C 223 0 k_Translator_init = true := by decide +kernel
theorem o_Translator_startAnew : ck_C 224 0 k_Translator_startAnew = true := by decide +kernel
theorem o_Translator_finish : ck_C 225 0 k_Translator_finish = true := by decide +kernel
theorem o_Translator_statements : ck_C 226 0 k_Translator_statements = true := by decide +kernel
theorem o_Translator_statement : ck_C 227 0 k_Translator_statement = true := by decide +kernel
theorem o_Translator_variableStatement : ck_C 228 0 k_Translator_variableStatement = true := by decide +kernel
theorem o_Translator_assign : ck_C 229 0 k_Translator_assign = true := by decide +kernel
theorem o_Translator_input : ck_C 230 0 k_Translator_input = true := by decide +kernel
theorem o_Translator_opening : ck_C 231 0 k_Translator_opening = true := by decide +kernel
theorem o_Translator_arrayStatement : ck_C 232 0 k_Translator_arrayStatement = true := by decide +kernel
theorem o_Translator_arrayByArray : ck_C 233 0 k_Translator_arrayByArray = true := by decide +kernel
theorem o_Translator_show : ck_C 234 0 k_Translator_show = true := by decide +kernel
theorem o_Translator_routine : ck_C 235 0 k_Translator_routine = true := by decide +kernel
theorem o_Translator_tell : ck_C 236 0 k_Translator_tell = true := by decide +kernel
theorem o_Translator_choice : ck_C 237 0 k_Translator_choice = true := by decide +kernel
theorem o_Translator_loop : ck_C 238 0 k_Translator_loop = true := by decide +kernel
theorem o_Translator_decider : ck_C 239 0 k_Translator_decider = true := by decide +kernel
theorem o_Translator_expression : ck_C 240 0 k_Translator_expression = true := by decide +kernel
theorem o_Translator_product : ck_C 241 0 k_Translator_product = true := by decide +kernel
theorem o_Translator_factor : ck_C 242 0 k_Translator_factor = true := by decide +kernel
theorem o_Translator_atom : ck_C 243 0 k_Translator_atom = true := by decide +kernel
theorem o_Translator_index : ck_C 244 0 k_Translator_index = true := by decide +kernel
theorem o_Translator_literal : ck_C 245 0 k_Translator_literal = true := by decide +kernel
theorem o_Translator_enter : ck_C 246 0 k_Translator_enter = true := by decide +kernel
theorem o_Translator_leave : ck_C 247 0 k_Translator_leave = true := by decide +kernel
theorem o_Translator_variable : ck_C 248 0 k_Translator_variable = true := by decide +kernel
theorem o_Translator_array : ck_C 249 0 k_Translator_array = true := by decide +kernel
theorem o_Translator_digit : ck_C 250 0 k_Translator_digit = true := by decide +kernel
theorem o_Translator_look : ck_C 251 0 k_Translator_look = true := by decide +kernel
theorem o_Translator_behindNext : ck_C 252 0 k_Translator_behindNext = true := by decide +kernel
theorem o_Translator_pass : ck_C 253 0 k_Translator_pass = true := by decide +kernel
theorem o_Translator_expect : ck_C 254 0 k_Translator_expect = true := by decide +kernel
theorem o_Translator_refuse : ck_C 255 0 k_Translator_refuse = true := by decide +kernel
theorem o_Translator_wantClear : ck_C 256 0 k_Translator_wantClear = true := by decide +kernel
theorem o_Translator_wantSecret : ck_C 257 0 k_Translator_wantSecret = true := by decide +kernel
theorem o_Translator_blame : ck_C 258 0 k_Translator_blame = true := by decide +kernel
theorem o_Translator_emit : ck_C 259 0 k_Translator_emit = true := by decide +kernel
theorem o_Translator_emitPlace : ck_C 260 0 k_Translator_emitPlace = true := by decide +kernel
theorem o_Translator_isVariable : ck_C 261 0 k_Translator_isVariable = true := by decide +kernel
theorem o_Translator_isArray : ck_C 262 0 k_Translator_isArray = true := by decide +kernel
theorem o_Translator_isDigit : ck_C 263 0 k_Translator_isDigit = true := by decide +kernel
theorem o_Verifier_init : ck_C 264 0 k_Verifier_init = true := by decide +kernel
theorem o_Verifier_lets : ck_C 265 0 k_Verifier_lets = true := by decide +kernel
theorem o_Verifier_refuse : ck_C 266 0 k_Verifier_refuse = true := by decide +kernel
theorem o_Verifier_findOperations : ck_C 267 0 k_Verifier_findOperations = true := by decide +kernel
theorem o_Verifier_namesWhatIs : ck_C 268 0 k_Verifier_namesWhatIs = true := by decide +kernel
theorem o_Verifier_findTargets : ck_C 269 0 k_Verifier_findTargets = true := by decide +kernel
theorem o_Verifier_followPile : ck_C 270 0 k_Verifier_followPile = true := by decide +kernel
theorem o_Verifier_fits : ck_C 271 0 k_Verifier_fits = true := by decide +kernel
theorem o_Verifier_keepsSecret : ck_C 272 0 k_Verifier_keepsSecret = true := by decide +kernel
theorem o_Verifier_isSecret : ck_C 273 0 k_Verifier_isSecret = true := by decide +kernel
theorem o_Verifier_pushes : ck_C 274 0 k_Verifier_pushes = true := by decide +kernel
theorem o_Verifier_drops : ck_C 275 0 k_Verifier_drops = true := by decide +kernel
theorem o_Verifier_joins : ck_C 276 0 k_Verifier_joins = true := by decide +kernel
theorem o_Verifier_mark : ck_C 277 0 k_Verifier_mark = true := by decide +kernel
theorem o_Verifier_isMarked : ck_C 278 0 k_Verifier_isMarked = true := by decide +kernel
theorem o_Law_compile : ck_C 279 0 k_Law_compile = true := by decide +kernel
theorem o_Law_load : ck_C 280 0 k_Law_load = true := by decide +kernel
theorem o_Law_deal : ck_C 281 0 k_Law_deal = true := by decide +kernel
theorem o_Law_step : ck_C 282 0 k_Law_step = true := by decide +kernel
theorem o_Law_run : ck_C 283 0 k_Law_run = true := by decide +kernel
theorem o_Law_output : ck_C 284 0 k_Law_output = true := by decide +kernel
theorem o_Law_clear : ck_C 285 0 k_Law_clear = true := by decide +kernel
theorem o_Law_bound : ck_C 286 0 k_Law_bound = true := by decide +kernel
theorem o_Law_law : ck_C 287 0 k_Law_law = true := by decide +kernel
theorem o_Math_floorMod : ck_C 288 0 k_Math_floorMod = true := by decide +kernel
theorem o_g0 : ∀ j, j < 16 → ck_C (16 * 0 + j) 0 (g_get [] g_k0 j) = true := by
  intro j hj
  match j, hj with
  | 0, _ => exact o_Sh_init
  | 1, _ => exact o_Sh_type
  | 2, _ => exact o_Sh_put
  | 3, _ => exact o_Sh_hall
  | 4, _ => exact o_Sh_compile
  | 5, _ => exact o_Sh_load
  | 6, _ => exact o_Sh_fault
  | 7, _ => exact o_Sh_code
  | 8, _ => exact o_Sh_deal
  | 9, _ => exact o_Sh_give
  | 10, _ => exact o_Sh_begin
  | 11, _ => exact o_Sh_tamper
  | 12, _ => exact o_Sh_step
  | 13, _ => exact o_Sh_deliver
  | 14, _ => exact o_Sh_run
  | 15, _ => exact o_Sh_party
  | n + 16, hj => exact absurd hj (by omega)
theorem o_g1 : ∀ j, j < 16 → ck_C (16 * 1 + j) 0 (g_get [] g_k1 j) = true := by
  intro j hj
  match j, hj with
  | 0, _ => exact o_Sh_output
  | 1, _ => exact o_Sh_clear
  | 2, _ => exact o_Sh_bound
  | 3, _ => exact o_Sh_total
  | 4, _ => exact o_Sh_countMails
  | 5, _ => exact o_Sh_number
  | 6, _ => exact o_Sh_plus
  | 7, _ => exact o_Sh_minus
  | 8, _ => exact o_Sh_times
  | 9, _ => exact o_Sh_read
  | 10, _ => exact o_Sh_write
  | 11, _ => exact o_Sh_zeroLongs
  | 12, _ => exact o_Sh_zeroInts
  | 13, _ => exact o_Sh_lengthOf
  | 14, _ => exact o_Model_init
  | 15, _ => exact o_Model_thrown
  | n + 16, hj => exact absurd hj (by omega)
theorem o_g2 : ∀ j, j < 16 → ck_C (16 * 2 + j) 0 (g_get [] g_k2 j) = true := by
  intro j hj
  match j, hj with
  | 0, _ => exact o_Model_raise
  | 1, _ => exact o_Model_reduced
  | 2, _ => exact o_Model_modulo
  | 3, _ => exact o_Model_plus
  | 4, _ => exact o_Model_minus
  | 5, _ => exact o_Model_times
  | 6, _ => exact o_Model_turned
  | 7, _ => exact o_Model_digestOf
  | 8, _ => exact o_Model_drawn
  | 9, _ => exact o_Model_takeOwn
  | 10, _ => exact o_Model_type
  | 11, _ => exact o_Model_put
  | 12, _ => exact o_Model_see
  | 13, _ => exact o_Model_refuse
  | 14, _ => exact o_Model_note
  | 15, _ => exact o_Model_takes
  | n + 16, hj => exact absurd hj (by omega)
theorem o_g3 : ∀ j, j < 16 → ck_C (16 * 3 + j) 0 (g_get [] g_k3 j) = true := by
  intro j hj
  match j, hj with
  | 0, _ => exact o_Model_want
  | 1, _ => exact o_Model_isClear
  | 2, _ => exact o_Model_isSecret
  | 3, _ => exact o_Model_isVariable
  | 4, _ => exact o_Model_isRow
  | 5, _ => exact o_Model_isSecretRow
  | 6, _ => exact o_Model_numberOf
  | 7, _ => exact o_Model_isDigit
  | 8, _ => exact o_Model_lay_IV
  | 9, _ => exact o_Model_lay_IIV
  | 10, _ => exact o_Model_readX
  | 11, _ => exact o_Model_readProduct
  | 12, _ => exact o_Model_readFactor
  | 13, _ => exact o_Model_readPart
  | 14, _ => exact o_Model_readPlace
  | 15, _ => exact o_Model_readNumber
  | n + 16, hj => exact absurd hj (by omega)
theorem o_g4 : ∀ j, j < 16 → ck_C (16 * 4 + j) 0 (g_get [] g_k4 j) = true := by
  intro j hj
  match j, hj with
  | 0, _ => exact o_Model_readStatements
  | 1, _ => exact o_Model_readStatement
  | 2, _ => exact o_Model_readBit
  | 3, _ => exact o_Model_readRoutine
  | 4, _ => exact o_Model_place
  | 5, _ => exact o_Model_readInput
  | 6, _ => exact o_Model_readValue
  | 7, _ => exact o_Model_isSum
  | 8, _ => exact o_Model_readRow
  | 9, _ => exact o_Model_readRows
  | 10, _ => exact o_Model_readOut
  | 11, _ => exact o_Model_fill
  | 12, _ => exact o_Model_readTurn
  | 13, _ => exact o_Model_compile
  | 14, _ => exact o_Model_take
  | 15, _ => exact o_Model_longOf
  | n + 16, hj => exact absurd hj (by omega)
theorem o_g5 : ∀ j, j < 16 → ck_C (16 * 5 + j) 0 (g_get [] g_k5 j) = true := by
  intro j hj
  match j, hj with
  | 0, _ => exact o_Model_refused
  | 1, _ => exact o_Model_isGood
  | 2, _ => exact o_Model_isVerified
  | 3, _ => exact o_Model_goalOf
  | 4, _ => exact o_Model_isFlowGood
  | 5, _ => exact o_Model_gives
  | 6, _ => exact o_Model_drops
  | 7, _ => exact o_Model_flows
  | 8, _ => exact o_Model_load
  | 9, _ => exact o_Model_fault
  | 10, _ => exact o_Model_code
  | 11, _ => exact o_Model_newHall
  | 12, _ => exact o_Model_hall
  | 13, _ => exact o_Model_isParty
  | 14, _ => exact o_Model_dealt
  | 15, _ => exact o_Model_deal
  | n + 16, hj => exact absurd hj (by omega)
theorem o_g6 : ∀ j, j < 16 → ck_C (16 * 6 + j) 0 (g_get [] g_k6 j) = true := by
  intro j hj
  match j, hj with
  | 0, _ => exact o_Model_least
  | 1, _ => exact o_Model_level
  | 2, _ => exact o_Model_give
  | 3, _ => exact o_Model_begin
  | 4, _ => exact o_Model_tamper
  | 5, _ => exact o_Model_error
  | 6, _ => exact o_Model_numbers
  | 7, _ => exact o_Model_push
  | 8, _ => exact o_Model_pop
  | 9, _ => exact o_Model_goOn
  | 10, _ => exact o_Model_hasOpened
  | 11, _ => exact o_Model_statusOf
  | 12, _ => exact o_Model_isSecretPart
  | 13, _ => exact o_Model_isJoint
  | 14, _ => exact o_Model_lacking
  | 15, _ => exact o_Model_isFull
  | n + 16, hj => exact absurd hj (by omega)
theorem o_g7 : ∀ j, j < 16 → ck_C (16 * 7 + j) 0 (g_get [] g_k7 j) = true := by
  intro j hj
  match j, hj with
  | 0, _ => exact o_Model_mails
  | 1, _ => exact o_Model_send
  | 2, _ => exact o_Model_receive
  | 3, _ => exact o_Model_next
  | 4, _ => exact o_Model_check
  | 5, _ => exact o_Model_sum
  | 6, _ => exact o_Model_act
  | 7, _ => exact o_Model_row
  | 8, _ => exact o_Model_received
  | 9, _ => exact o_Model_joint
  | 10, _ => exact o_Model_input
  | 11, _ => exact o_Model_open
  | 12, _ => exact o_Model_out
  | 13, _ => exact o_Model_rows
  | 14, _ => exact o_Model_stepOf
  | 15, _ => exact o_Model_step
  | n + 16, hj => exact absurd hj (by omega)
theorem o_g8 : ∀ j, j < 16 → ck_C (16 * 8 + j) 0 (g_get [] g_k8 j) = true := by
  intro j hj
  match j, hj with
  | 0, _ => exact o_Model_brings
  | 1, _ => exact o_Model_deliver
  | 2, _ => exact o_Model_run
  | 3, _ => exact o_Model_party
  | 4, _ => exact o_Model_output
  | 5, _ => exact o_Model_clear
  | 6, _ => exact o_Model_bound
  | 7, _ => exact o_Model_total
  | 8, _ => exact o_Check_init
  | 9, _ => exact o_Check_startAnew
  | 10, _ => exact o_Check_forget
  | 11, _ => exact o_Check_note
  | 12, _ => exact o_Check_drawCoinAndNonce
  | 13, _ => exact o_Check_drawNonce
  | 14, _ => exact o_Digest_init
  | 15, _ => exact o_Digest_next
  | n + 16, hj => exact absurd hj (by omega)
theorem o_g9 : ∀ j, j < 16 → ck_C (16 * 9 + j) 0 (g_get [] g_k9 j) = true := by
  intro j hj
  match j, hj with
  | 0, _ => exact o_Digest_byteOf
  | 1, _ => exact o_Digest_spread
  | 2, _ => exact o_Digest_stir
  | 3, _ => exact o_Errors_init
  | 4, _ => exact o_Errors_wipe
  | 5, _ => exact o_Errors_add
  | 6, _ => exact o_Errors_sum
  | 7, _ => exact o_Hall_init
  | 8, _ => exact o_Hall_renew
  | 9, _ => exact o_Hall_take
  | 10, _ => exact o_Hall_has
  | 11, _ => exact o_Hall_mostLeft
  | 12, _ => exact o_Hall_left
  | 13, _ => exact o_Hall_startAnew
  | 14, _ => exact o_Hall_evenOut
  | 15, _ => exact o_Hall_settle
  | n + 16, hj => exact absurd hj (by omega)
theorem o_g10 : ∀ j, j < 16 → ck_C (16 * 10 + j) 0 (g_get [] g_k10 j) = true := by
  intro j hj
  match j, hj with
  | 0, _ => exact o_Hall_firstPhase
  | 1, _ => exact o_Hall_stepOf
  | 2, _ => exact o_Hall_act
  | 3, _ => exact o_Hall_lackFor
  | 4, _ => exact o_Hall_isShared
  | 5, _ => exact o_Hall_firstArrayAt
  | 6, _ => exact o_Hall_exchange
  | 7, _ => exact o_Hall_numbersOf
  | 8, _ => exact o_Hall_use
  | 9, _ => exact o_Hall_sends
  | 10, _ => exact o_Hall_receives
  | 11, _ => exact o_Hall_gatherErrors
  | 12, _ => exact o_Hall_conclude
  | 13, _ => exact o_Hall_nextInput
  | 14, _ => exact o_Hall_joinArrays
  | 15, _ => exact o_Hall_joined
  | n + 16, hj => exact absurd hj (by omega)
theorem o_g11 : ∀ j, j < 16 → ck_C (16 * 11 + j) 0 (g_get [] g_k11 j) = true := by
  intro j hj
  match j, hj with
  | 0, _ => exact o_Hall_work
  | 1, _ => exact o_Hall_visitPlace
  | 2, _ => exact o_Hall_nextBit
  | 3, _ => exact o_Hall_jump
  | 4, _ => exact o_Hall_isInCheck
  | 5, _ => exact o_Hall_show
  | 6, _ => exact o_Hall_sendShown
  | 7, _ => exact o_Hall_receiveShown
  | 8, _ => exact o_Hall_checkStep
  | 9, _ => exact o_Hall_noteBonds
  | 10, _ => exact o_Hall_judge
  | 11, _ => exact o_Hall_weightedErrors
  | 12, _ => exact o_Hall_ownSeed
  | 13, _ => exact o_Hall_bondByte
  | 14, _ => exact o_Hall_bring
  | 15, _ => exact o_Hall_bringAll
  | n + 16, hj => exact absurd hj (by omega)
theorem o_g12 : ∀ j, j < 16 → ck_C (16 * 12 + j) 0 (g_get [] g_k12 j) = true := by
  intro j hj
  match j, hj with
  | 0, _ => exact o_Hall_onWire
  | 1, _ => exact o_Memory_init
  | 2, _ => exact o_Memory_wipe
  | 3, _ => exact o_Memory_push
  | 4, _ => exact o_Memory_pop
  | 5, _ => exact o_Memory_fromTop
  | 6, _ => exact o_Memory_cell
  | 7, _ => exact o_Memory_setCell
  | 8, _ => exact o_Memory_keep
  | 9, _ => exact o_Memory_lastKept
  | 10, _ => exact o_Party_init
  | 11, _ => exact o_Party_startAnew
  | 12, _ => exact o_Party_putOut
  | 13, _ => exact o_Party_tell
  | 14, _ => exact o_Post_init
  | 15, _ => exact o_Post_wipe
  | n + 16, hj => exact absurd hj (by omega)
theorem o_g13 : ∀ j, j < 16 → ck_C (16 * 13 + j) 0 (g_get [] g_k13 j) = true := by
  intro j hj
  match j, hj with
  | 0, _ => exact o_Row_init
  | 1, _ => exact o_Row_at
  | 2, _ => exact o_Row_add
  | 3, _ => exact o_Row_change
  | 4, _ => exact o_Row_addWord
  | 5, _ => exact o_Row_target
  | 6, _ => exact o_Row_aim
  | 7, _ => exact o_Row_longAt
  | 8, _ => exact o_Row_copy
  | 9, _ => exact o_Row_wipe
  | 10, _ => exact o_Stock_init
  | 11, _ => exact o_Stock_wipe
  | 12, _ => exact o_Stock_addInput
  | 13, _ => exact o_Stock_inputsLeft
  | 14, _ => exact o_Stock_masksLeft
  | 15, _ => exact o_Translator_init
  | n + 16, hj => exact absurd hj (by omega)
theorem o_g14 : ∀ j, j < 16 → ck_C (16 * 14 + j) 0 (g_get [] g_k14 j) = true := by
  intro j hj
  match j, hj with
  | 0, _ => exact o_Translator_startAnew
  | 1, _ => exact o_Translator_finish
  | 2, _ => exact o_Translator_statements
  | 3, _ => exact o_Translator_statement
  | 4, _ => exact o_Translator_variableStatement
  | 5, _ => exact o_Translator_assign
  | 6, _ => exact o_Translator_input
  | 7, _ => exact o_Translator_opening
  | 8, _ => exact o_Translator_arrayStatement
  | 9, _ => exact o_Translator_arrayByArray
  | 10, _ => exact o_Translator_show
  | 11, _ => exact o_Translator_routine
  | 12, _ => exact o_Translator_tell
  | 13, _ => exact o_Translator_choice
  | 14, _ => exact o_Translator_loop
  | 15, _ => exact o_Translator_decider
  | n + 16, hj => exact absurd hj (by omega)
theorem o_g15 : ∀ j, j < 16 → ck_C (16 * 15 + j) 0 (g_get [] g_k15 j) = true := by
  intro j hj
  match j, hj with
  | 0, _ => exact o_Translator_expression
  | 1, _ => exact o_Translator_product
  | 2, _ => exact o_Translator_factor
  | 3, _ => exact o_Translator_atom
  | 4, _ => exact o_Translator_index
  | 5, _ => exact o_Translator_literal
  | 6, _ => exact o_Translator_enter
  | 7, _ => exact o_Translator_leave
  | 8, _ => exact o_Translator_variable
  | 9, _ => exact o_Translator_array
  | 10, _ => exact o_Translator_digit
  | 11, _ => exact o_Translator_look
  | 12, _ => exact o_Translator_behindNext
  | 13, _ => exact o_Translator_pass
  | 14, _ => exact o_Translator_expect
  | 15, _ => exact o_Translator_refuse
  | n + 16, hj => exact absurd hj (by omega)
theorem o_g16 : ∀ j, j < 16 → ck_C (16 * 16 + j) 0 (g_get [] g_k16 j) = true := by
  intro j hj
  match j, hj with
  | 0, _ => exact o_Translator_wantClear
  | 1, _ => exact o_Translator_wantSecret
  | 2, _ => exact o_Translator_blame
  | 3, _ => exact o_Translator_emit
  | 4, _ => exact o_Translator_emitPlace
  | 5, _ => exact o_Translator_isVariable
  | 6, _ => exact o_Translator_isArray
  | 7, _ => exact o_Translator_isDigit
  | 8, _ => exact o_Verifier_init
  | 9, _ => exact o_Verifier_lets
  | 10, _ => exact o_Verifier_refuse
  | 11, _ => exact o_Verifier_findOperations
  | 12, _ => exact o_Verifier_namesWhatIs
  | 13, _ => exact o_Verifier_findTargets
  | 14, _ => exact o_Verifier_followPile
  | 15, _ => exact o_Verifier_fits
  | n + 16, hj => exact absurd hj (by omega)
theorem o_g17 : ∀ j, j < 16 → ck_C (16 * 17 + j) 0 (g_get [] g_k17 j) = true := by
  intro j hj
  match j, hj with
  | 0, _ => exact o_Verifier_keepsSecret
  | 1, _ => exact o_Verifier_isSecret
  | 2, _ => exact o_Verifier_pushes
  | 3, _ => exact o_Verifier_drops
  | 4, _ => exact o_Verifier_joins
  | 5, _ => exact o_Verifier_mark
  | 6, _ => exact o_Verifier_isMarked
  | 7, _ => exact o_Law_compile
  | 8, _ => exact o_Law_load
  | 9, _ => exact o_Law_deal
  | 10, _ => exact o_Law_step
  | 11, _ => exact o_Law_run
  | 12, _ => exact o_Law_output
  | 13, _ => exact o_Law_clear
  | 14, _ => exact o_Law_bound
  | 15, _ => exact o_Law_law
  | n + 16, hj => exact absurd hj (by omega)
theorem o_g18 : ∀ j, j < 1 → ck_C (16 * 18 + j) 0 (g_get [] g_k18 j) = true := by
  intro j hj
  match j, hj with
  | 0, _ => exact o_Math_floorMod
  | n + 1, hj => exact absurd hj (by omega)
theorem o_all : ∀ y, y < 289 → ∀ pc, ck_I y pc (g_code y pc) = true := by
  intro y hy pc
  have key : ∀ (i : Nat) (l : List (List (List am_I))) (n : Nat), g_get [] g_ks i = l → (∀ j, j < n → ck_C (16 * i + j) 0 (g_get [] l j) = true) → y / 16 = i → y % 16 < n → ck_I y pc (g_code y pc) = true := by
    intro i l n e1 h e2 e3
    have h1 := ck_at (h (y % 16) e3) pc
    rw [show 16 * i + y % 16 = y by omega] at h1
    unfold g_code
    rw [e2, e1]
    exact h1
  match hi : y / 16 with
  | 0 => exact key 0 g_k0 16 rfl o_g0 hi (by omega)
  | 1 => exact key 1 g_k1 16 rfl o_g1 hi (by omega)
  | 2 => exact key 2 g_k2 16 rfl o_g2 hi (by omega)
  | 3 => exact key 3 g_k3 16 rfl o_g3 hi (by omega)
  | 4 => exact key 4 g_k4 16 rfl o_g4 hi (by omega)
  | 5 => exact key 5 g_k5 16 rfl o_g5 hi (by omega)
  | 6 => exact key 6 g_k6 16 rfl o_g6 hi (by omega)
  | 7 => exact key 7 g_k7 16 rfl o_g7 hi (by omega)
  | 8 => exact key 8 g_k8 16 rfl o_g8 hi (by omega)
  | 9 => exact key 9 g_k9 16 rfl o_g9 hi (by omega)
  | 10 => exact key 10 g_k10 16 rfl o_g10 hi (by omega)
  | 11 => exact key 11 g_k11 16 rfl o_g11 hi (by omega)
  | 12 => exact key 12 g_k12 16 rfl o_g12 hi (by omega)
  | 13 => exact key 13 g_k13 16 rfl o_g13 hi (by omega)
  | 14 => exact key 14 g_k14 16 rfl o_g14 hi (by omega)
  | 15 => exact key 15 g_k15 16 rfl o_g15 hi (by omega)
  | 16 => exact key 16 g_k16 16 rfl o_g16 hi (by omega)
  | 17 => exact key 17 g_k17 16 rfl o_g17 hi (by omega)
  | 18 => exact key 18 g_k18 1 rfl o_g18 hi (by omega)
  | n + 19 => exact absurd hi (by omega)
theorem g_cert (T : Nat → Nat × (Nat → Int32)) (N : Nat → List Value) : am_Cert (g_code, T, N, fun y => (gK y, gL y)) := by
  refine ⟨fun _ => rfl, fun y hy pc => ?_⟩
  have h := o_all y hy pc
  unfold ck_I at h
  refine ⟨fun h39 => ?_, fun n39 h44 => ?_, fun h50 => ?_⟩
  · have h39 : (g_code y pc).1 ≤ 39 := h39
    rw [Nat.ble_eq_true_of_le h39, cond_true] at h
    exact h
  · have n39 : ¬ (g_code y pc).1 ≤ 39 := n39
    have h44 : (g_code y pc).1 ≤ 44 := h44
    have e39 : Nat.ble (g_code y pc).1 39 = false := by
      cases q : Nat.ble (g_code y pc).1 39 with
      | false => rfl
      | true => exact absurd (Nat.le_of_ble_eq_true q) n39
    rw [e39, cond_false, Nat.ble_eq_true_of_le h44, cond_true] at h
    exact h
  · have h50 : (g_code y pc).1 = 50 := h50
    rw [h50] at h
    exact h
