theorem o_g0 : ∀ j, j < 16 → ck_C (16 * 0 + j) 0 (g_get [] g_k0 j) = true := by
  intro j hj
  match j, hj with
  | 0, _ => exact o_Sh_init
  | 1, _ => exact o_Sh_type
  | 2, _ => exact o_Sh_put
  | 3, _ => exact o_Sh_hall
  | 4, _ => exact o_Sh_compile
  | 5, _ => exact o_Sh_load
  | 6, _ => exact o_Sh_fault
  | 7, _ => exact o_Sh_code
  | 8, _ => exact o_Sh_deal
  | 9, _ => exact o_Sh_give
  | 10, _ => exact o_Sh_begin
  | 11, _ => exact o_Sh_tamper
  | 12, _ => exact o_Sh_step
  | 13, _ => exact o_Sh_deliver
  | 14, _ => exact o_Sh_run
  | 15, _ => exact o_Sh_party
  | n + 16, hj => exact absurd hj (by omega)
theorem o_g1 : ∀ j, j < 16 → ck_C (16 * 1 + j) 0 (g_get [] g_k1 j) = true := by
  intro j hj
  match j, hj with
  | 0, _ => exact o_Sh_output
  | 1, _ => exact o_Sh_clear
  | 2, _ => exact o_Sh_bound
  | 3, _ => exact o_Sh_total
  | 4, _ => exact o_Sh_countMails
  | 5, _ => exact o_Sh_number
  | 6, _ => exact o_Sh_plus
  | 7, _ => exact o_Sh_minus
  | 8, _ => exact o_Sh_times
  | 9, _ => exact o_Sh_read
  | 10, _ => exact o_Sh_write
  | 11, _ => exact o_Sh_zeroLongs
  | 12, _ => exact o_Sh_zeroInts
  | 13, _ => exact o_Sh_lengthOf
  | 14, _ => exact o_Model_init
  | 15, _ => exact o_Model_thrown
  | n + 16, hj => exact absurd hj (by omega)
theorem o_g2 : ∀ j, j < 16 → ck_C (16 * 2 + j) 0 (g_get [] g_k2 j) = true := by
  intro j hj
  match j, hj with
  | 0, _ => exact o_Model_raise
  | 1, _ => exact o_Model_reduced
  | 2, _ => exact o_Model_modulo
  | 3, _ => exact o_Model_plus
  | 4, _ => exact o_Model_minus
  | 5, _ => exact o_Model_times
  | 6, _ => exact o_Model_turned
  | 7, _ => exact o_Model_digestOf
  | 8, _ => exact o_Model_drawn
  | 9, _ => exact o_Model_takeOwn
  | 10, _ => exact o_Model_type
  | 11, _ => exact o_Model_put
  | 12, _ => exact o_Model_see
  | 13, _ => exact o_Model_refuse
  | 14, _ => exact o_Model_note
  | 15, _ => exact o_Model_takes
  | n + 16, hj => exact absurd hj (by omega)
theorem o_g3 : ∀ j, j < 16 → ck_C (16 * 3 + j) 0 (g_get [] g_k3 j) = true := by
  intro j hj
  match j, hj with
  | 0, _ => exact o_Model_want
  | 1, _ => exact o_Model_isClear
  | 2, _ => exact o_Model_isSecret
  | 3, _ => exact o_Model_isVariable
  | 4, _ => exact o_Model_isRow
  | 5, _ => exact o_Model_isSecretRow
  | 6, _ => exact o_Model_numberOf
  | 7, _ => exact o_Model_isDigit
  | 8, _ => exact o_Model_lay_IV
  | 9, _ => exact o_Model_lay_IIV
  | 10, _ => exact o_Model_readX
  | 11, _ => exact o_Model_readProduct
  | 12, _ => exact o_Model_readFactor
  | 13, _ => exact o_Model_readPart
  | 14, _ => exact o_Model_readPlace
  | 15, _ => exact o_Model_readNumber
  | n + 16, hj => exact absurd hj (by omega)
theorem o_g4 : ∀ j, j < 16 → ck_C (16 * 4 + j) 0 (g_get [] g_k4 j) = true := by
  intro j hj
  match j, hj with
  | 0, _ => exact o_Model_readStatements
  | 1, _ => exact o_Model_readStatement
  | 2, _ => exact o_Model_readBit
  | 3, _ => exact o_Model_readRoutine
  | 4, _ => exact o_Model_place
  | 5, _ => exact o_Model_readInput
  | 6, _ => exact o_Model_readValue
  | 7, _ => exact o_Model_isSum
  | 8, _ => exact o_Model_readRow
  | 9, _ => exact o_Model_readRows
  | 10, _ => exact o_Model_readOut
  | 11, _ => exact o_Model_fill
  | 12, _ => exact o_Model_readTurn
  | 13, _ => exact o_Model_compile
  | 14, _ => exact o_Model_take
  | 15, _ => exact o_Model_longOf
  | n + 16, hj => exact absurd hj (by omega)
theorem o_g5 : ∀ j, j < 16 → ck_C (16 * 5 + j) 0 (g_get [] g_k5 j) = true := by
  intro j hj
  match j, hj with
  | 0, _ => exact o_Model_refused
  | 1, _ => exact o_Model_isGood
  | 2, _ => exact o_Model_isVerified
  | 3, _ => exact o_Model_goalOf
  | 4, _ => exact o_Model_isFlowGood
  | 5, _ => exact o_Model_gives
  | 6, _ => exact o_Model_drops
  | 7, _ => exact o_Model_flows
  | 8, _ => exact o_Model_load
  | 9, _ => exact o_Model_fault
  | 10, _ => exact o_Model_code
  | 11, _ => exact o_Model_newHall
  | 12, _ => exact o_Model_hall
  | 13, _ => exact o_Model_isParty
  | 14, _ => exact o_Model_dealt
  | 15, _ => exact o_Model_deal
  | n + 16, hj => exact absurd hj (by omega)
theorem o_g6 : ∀ j, j < 16 → ck_C (16 * 6 + j) 0 (g_get [] g_k6 j) = true := by
  intro j hj
  match j, hj with
  | 0, _ => exact o_Model_least
  | 1, _ => exact o_Model_level
  | 2, _ => exact o_Model_give
  | 3, _ => exact o_Model_begin
  | 4, _ => exact o_Model_tamper
  | 5, _ => exact o_Model_error
  | 6, _ => exact o_Model_numbers
  | 7, _ => exact o_Model_push
  | 8, _ => exact o_Model_pop
  | 9, _ => exact o_Model_goOn
  | 10, _ => exact o_Model_hasOpened
  | 11, _ => exact o_Model_statusOf
  | 12, _ => exact o_Model_isSecretPart
  | 13, _ => exact o_Model_isJoint
  | 14, _ => exact o_Model_lacking
  | 15, _ => exact o_Model_isFull
  | n + 16, hj => exact absurd hj (by omega)
theorem o_g7 : ∀ j, j < 16 → ck_C (16 * 7 + j) 0 (g_get [] g_k7 j) = true := by
  intro j hj
  match j, hj with
  | 0, _ => exact o_Model_mails
  | 1, _ => exact o_Model_send
  | 2, _ => exact o_Model_receive
  | 3, _ => exact o_Model_next
  | 4, _ => exact o_Model_check
  | 5, _ => exact o_Model_sum
  | 6, _ => exact o_Model_act
  | 7, _ => exact o_Model_row
  | 8, _ => exact o_Model_received
  | 9, _ => exact o_Model_joint
  | 10, _ => exact o_Model_input
  | 11, _ => exact o_Model_open
  | 12, _ => exact o_Model_out
  | 13, _ => exact o_Model_rows
  | 14, _ => exact o_Model_stepOf
  | 15, _ => exact o_Model_step
  | n + 16, hj => exact absurd hj (by omega)
theorem o_g8 : ∀ j, j < 16 → ck_C (16 * 8 + j) 0 (g_get [] g_k8 j) = true := by
  intro j hj
  match j, hj with
  | 0, _ => exact o_Model_brings
  | 1, _ => exact o_Model_deliver
  | 2, _ => exact o_Model_run
  | 3, _ => exact o_Model_party
  | 4, _ => exact o_Model_output
  | 5, _ => exact o_Model_clear
  | 6, _ => exact o_Model_bound
  | 7, _ => exact o_Model_total
  | 8, _ => exact o_Check_init
  | 9, _ => exact o_Check_startAnew
  | 10, _ => exact o_Check_forget
  | 11, _ => exact o_Check_note
  | 12, _ => exact o_Check_drawCoinAndNonce
  | 13, _ => exact o_Check_drawNonce
  | 14, _ => exact o_Digest_init
  | 15, _ => exact o_Digest_next
  | n + 16, hj => exact absurd hj (by omega)
theorem o_g9 : ∀ j, j < 16 → ck_C (16 * 9 + j) 0 (g_get [] g_k9 j) = true := by
  intro j hj
  match j, hj with
  | 0, _ => exact o_Digest_byteOf
  | 1, _ => exact o_Digest_spread
  | 2, _ => exact o_Digest_stir
  | 3, _ => exact o_Errors_init
  | 4, _ => exact o_Errors_wipe
  | 5, _ => exact o_Errors_add
  | 6, _ => exact o_Errors_sum
  | 7, _ => exact o_Hall_init
  | 8, _ => exact o_Hall_renew
  | 9, _ => exact o_Hall_take
  | 10, _ => exact o_Hall_has
  | 11, _ => exact o_Hall_mostLeft
  | 12, _ => exact o_Hall_left
  | 13, _ => exact o_Hall_startAnew
  | 14, _ => exact o_Hall_evenOut
  | 15, _ => exact o_Hall_settle
  | n + 16, hj => exact absurd hj (by omega)
theorem o_g10 : ∀ j, j < 16 → ck_C (16 * 10 + j) 0 (g_get [] g_k10 j) = true := by
  intro j hj
  match j, hj with
  | 0, _ => exact o_Hall_firstPhase
  | 1, _ => exact o_Hall_stepOf
  | 2, _ => exact o_Hall_act
  | 3, _ => exact o_Hall_lackFor
  | 4, _ => exact o_Hall_isShared
  | 5, _ => exact o_Hall_firstArrayAt
  | 6, _ => exact o_Hall_exchange
  | 7, _ => exact o_Hall_numbersOf
  | 8, _ => exact o_Hall_use
  | 9, _ => exact o_Hall_sends
  | 10, _ => exact o_Hall_receives
  | 11, _ => exact o_Hall_gatherErrors
  | 12, _ => exact o_Hall_conclude
  | 13, _ => exact o_Hall_nextInput
  | 14, _ => exact o_Hall_joinArrays
  | 15, _ => exact o_Hall_joined
  | n + 16, hj => exact absurd hj (by omega)
theorem o_g11 : ∀ j, j < 16 → ck_C (16 * 11 + j) 0 (g_get [] g_k11 j) = true := by
  intro j hj
  match j, hj with
  | 0, _ => exact o_Hall_work
  | 1, _ => exact o_Hall_visitPlace
  | 2, _ => exact o_Hall_nextBit
  | 3, _ => exact o_Hall_jump
  | 4, _ => exact o_Hall_isInCheck
  | 5, _ => exact o_Hall_show
  | 6, _ => exact o_Hall_sendShown
  | 7, _ => exact o_Hall_receiveShown
  | 8, _ => exact o_Hall_checkStep
  | 9, _ => exact o_Hall_noteBonds
  | 10, _ => exact o_Hall_judge
  | 11, _ => exact o_Hall_weightedErrors
  | 12, _ => exact o_Hall_ownSeed
  | 13, _ => exact o_Hall_bondByte
  | 14, _ => exact o_Hall_bring
  | 15, _ => exact o_Hall_bringAll
  | n + 16, hj => exact absurd hj (by omega)
theorem o_g12 : ∀ j, j < 16 → ck_C (16 * 12 + j) 0 (g_get [] g_k12 j) = true := by
  intro j hj
  match j, hj with
  | 0, _ => exact o_Hall_onWire
  | 1, _ => exact o_Memory_init
  | 2, _ => exact o_Memory_wipe
  | 3, _ => exact o_Memory_push
  | 4, _ => exact o_Memory_pop
  | 5, _ => exact o_Memory_fromTop
  | 6, _ => exact o_Memory_cell
  | 7, _ => exact o_Memory_setCell
  | 8, _ => exact o_Memory_keep
  | 9, _ => exact o_Memory_lastKept
  | 10, _ => exact o_Party_init
  | 11, _ => exact o_Party_startAnew
  | 12, _ => exact o_Party_putOut
  | 13, _ => exact o_Party_tell
  | 14, _ => exact o_Post_init
  | 15, _ => exact o_Post_wipe
  | n + 16, hj => exact absurd hj (by omega)
theorem o_g13 : ∀ j, j < 16 → ck_C (16 * 13 + j) 0 (g_get [] g_k13 j) = true := by
  intro j hj
  match j, hj with
  | 0, _ => exact o_Row_init
  | 1, _ => exact o_Row_at
  | 2, _ => exact o_Row_add
  | 3, _ => exact o_Row_change
  | 4, _ => exact o_Row_addWord
  | 5, _ => exact o_Row_target
  | 6, _ => exact o_Row_aim
  | 7, _ => exact o_Row_longAt
  | 8, _ => exact o_Row_copy
  | 9, _ => exact o_Row_wipe
  | 10, _ => exact o_Stock_init
  | 11, _ => exact o_Stock_wipe
  | 12, _ => exact o_Stock_addInput
  | 13, _ => exact o_Stock_inputsLeft
  | 14, _ => exact o_Stock_masksLeft
  | 15, _ => exact o_Translator_init
  | n + 16, hj => exact absurd hj (by omega)
theorem o_g14 : ∀ j, j < 16 → ck_C (16 * 14 + j) 0 (g_get [] g_k14 j) = true := by
  intro j hj
  match j, hj with
  | 0, _ => exact o_Translator_startAnew
  | 1, _ => exact o_Translator_finish
  | 2, _ => exact o_Translator_statements
  | 3, _ => exact o_Translator_statement
  | 4, _ => exact o_Translator_variableStatement
  | 5, _ => exact o_Translator_assign
  | 6, _ => exact o_Translator_input
  | 7, _ => exact o_Translator_opening
  | 8, _ => exact o_Translator_arrayStatement
  | 9, _ => exact o_Translator_arrayByArray
  | 10, _ => exact o_Translator_show
  | 11, _ => exact o_Translator_routine
  | 12, _ => exact o_Translator_tell
  | 13, _ => exact o_Translator_choice
  | 14, _ => exact o_Translator_loop
  | 15, _ => exact o_Translator_decider
  | n + 16, hj => exact absurd hj (by omega)
theorem o_g15 : ∀ j, j < 16 → ck_C (16 * 15 + j) 0 (g_get [] g_k15 j) = true := by
  intro j hj
  match j, hj with
  | 0, _ => exact o_Translator_expression
  | 1, _ => exact o_Translator_product
  | 2, _ => exact o_Translator_factor
  | 3, _ => exact o_Translator_atom
  | 4, _ => exact o_Translator_index
  | 5, _ => exact o_Translator_literal
  | 6, _ => exact o_Translator_enter
  | 7, _ => exact o_Translator_leave
  | 8, _ => exact o_Translator_variable
  | 9, _ => exact o_Translator_array
  | 10, _ => exact o_Translator_digit
  | 11, _ => exact o_Translator_look
  | 12, _ => exact o_Translator_behindNext
  | 13, _ => exact o_Translator_pass
  | 14, _ => exact o_Translator_expect
  | 15, _ => exact o_Translator_refuse
  | n + 16, hj => exact absurd hj (by omega)
theorem o_g16 : ∀ j, j < 16 → ck_C (16 * 16 + j) 0 (g_get [] g_k16 j) = true := by
  intro j hj
  match j, hj with
  | 0, _ => exact o_Translator_wantClear
  | 1, _ => exact o_Translator_wantSecret
  | 2, _ => exact o_Translator_blame
  | 3, _ => exact o_Translator_emit
  | 4, _ => exact o_Translator_emitPlace
  | 5, _ => exact o_Translator_isVariable
  | 6, _ => exact o_Translator_isArray
  | 7, _ => exact o_Translator_isDigit
  | 8, _ => exact o_Verifier_init
  | 9, _ => exact o_Verifier_lets
  | 10, _ => exact o_Verifier_refuse
  | 11, _ => exact o_Verifier_findOperations
  | 12, _ => exact o_Verifier_namesWhatIs
  | 13, _ => exact o_Verifier_findTargets
  | 14, _ => exact o_Verifier_followPile
  | 15, _ => exact o_Verifier_fits
  | n + 16, hj => exact absurd hj (by omega)
theorem o_g17 : ∀ j, j < 16 → ck_C (16 * 17 + j) 0 (g_get [] g_k17 j) = true := by
  intro j hj
  match j, hj with
  | 0, _ => exact o_Verifier_keepsSecret
  | 1, _ => exact o_Verifier_isSecret
  | 2, _ => exact o_Verifier_pushes
  | 3, _ => exact o_Verifier_drops
  | 4, _ => exact o_Verifier_joins
  | 5, _ => exact o_Verifier_mark
  | 6, _ => exact o_Verifier_isMarked
  | 7, _ => exact o_Law_compile
  | 8, _ => exact o_Law_load
  | 9, _ => exact o_Law_deal
  | 10, _ => exact o_Law_step
  | 11, _ => exact o_Law_run
  | 12, _ => exact o_Law_output
  | 13, _ => exact o_Law_clear
  | 14, _ => exact o_Law_bound
  | 15, _ => exact o_Law_law
  | n + 16, hj => exact absurd hj (by omega)
theorem o_g18 : ∀ j, j < 1 → ck_C (16 * 18 + j) 0 (g_get [] g_k18 j) = true := by
  intro j hj
  match j, hj with
  | 0, _ => exact o_Math_floorMod
  | n + 1, hj => exact absurd hj (by omega)
theorem o_all : ∀ y, y < 289 → ∀ pc, ck_I y pc (g_code y pc) = true := by
  intro y hy pc
  have key : ∀ (i : Nat) (l : List (List (List am_I))) (n : Nat), g_get [] g_ks i = l → (∀ j, j < n → ck_C (16 * i + j) 0 (g_get [] l j) = true) → y / 16 = i → y % 16 < n → ck_I y pc (g_code y pc) = true := by
    intro i l n e1 h e2 e3
    have h1 := ck_at (h (y % 16) e3) pc
    rw [show 16 * i + y % 16 = y by omega] at h1
    unfold g_code
    rw [e2, e1]
    exact h1
  match hi : y / 16 with
  | 0 => exact key 0 g_k0 16 rfl o_g0 hi (by omega)
  | 1 => exact key 1 g_k1 16 rfl o_g1 hi (by omega)
  | 2 => exact key 2 g_k2 16 rfl o_g2 hi (by omega)
  | 3 => exact key 3 g_k3 16 rfl o_g3 hi (by omega)
  | 4 => exact key 4 g_k4 16 rfl o_g4 hi (by omega)
  | 5 => exact key 5 g_k5 16 rfl o_g5 hi (by omega)
  | 6 => exact key 6 g_k6 16 rfl o_g6 hi (by omega)
  | 7 => exact key 7 g_k7 16 rfl o_g7 hi (by omega)
  | 8 => exact key 8 g_k8 16 rfl o_g8 hi (by omega)
  | 9 => exact key 9 g_k9 16 rfl o_g9 hi (by omega)
  | 10 => exact key 10 g_k10 16 rfl o_g10 hi (by omega)
  | 11 => exact key 11 g_k11 16 rfl o_g11 hi (by omega)
  | 12 => exact key 12 g_k12 16 rfl o_g12 hi (by omega)
  | 13 => exact key 13 g_k13 16 rfl o_g13 hi (by omega)
  | 14 => exact key 14 g_k14 16 rfl o_g14 hi (by omega)
  | 15 => exact key 15 g_k15 16 rfl o_g15 hi (by omega)
  | 16 => exact key 16 g_k16 16 rfl o_g16 hi (by omega)
  | 17 => exact key 17 g_k17 16 rfl o_g17 hi (by omega)
  | 18 => exact key 18 g_k18 1 rfl o_g18 hi (by omega)
  | n + 19 => exact absurd hi (by omega)
theorem g_cert (T : Nat → Nat × (Nat → Int32)) (N : Nat → List Value) : am_Cert (g_code, T, N, fun y => (gK y, gL y)) := by
  refine ⟨fun _ => rfl, fun y hy pc => ?_⟩
  have h := o_all y hy pc
  unfold ck_I at h
  refine ⟨fun h39 => ?_, fun n39 h44 => ?_, fun h50 => ?_, fun h51 => ?_, fun h52 => ?_, fun h70 => ?_⟩
  · have h39 : (g_code y pc).1 ≤ 39 := h39
    rw [Nat.ble_eq_true_of_le h39, cond_true] at h
    exact h
  · have n39 : ¬ (g_code y pc).1 ≤ 39 := n39
    have h44 : (g_code y pc).1 ≤ 44 := h44
    have e39 : Nat.ble (g_code y pc).1 39 = false := by
      cases q : Nat.ble (g_code y pc).1 39 with
      | false => rfl
      | true => exact absurd (Nat.le_of_ble_eq_true q) n39
    rw [e39, cond_false, Nat.ble_eq_true_of_le h44, cond_true] at h
    exact h
  · rcases h50 with h50 | h50
    · have h50 : (g_code y pc).1 = 50 := h50
      rw [h50] at h
      exact h
    · have h50 : (g_code y pc).1 = 52 := h50
      rw [h50] at h
      have h : (ck_call y pc (g_code y pc).2.1 (g_code y pc).2.2.1 (g_code y pc).2.2.2.2 && decide (y ∈ g_hp) && Nat.ble 2 (gK (g_code y pc).2.1) && (g_hh y).all (fun z => Nat.ble z.1 pc && Nat.blt pc z.2.1)) = true := h
      rw [Bool.and_eq_true, Bool.and_eq_true, Bool.and_eq_true] at h
      exact h.1.1.1
  · have h51 : (g_code y pc).1 = 51 := h51
    rw [h51] at h
    exact h
  · have h52 : (g_code y pc).1 = 52 := h52
    rw [h52] at h
    have h : (ck_call y pc (g_code y pc).2.1 (g_code y pc).2.2.1 (g_code y pc).2.2.2.2 && decide (y ∈ g_hp) && Nat.ble 2 (gK (g_code y pc).2.1) && (g_hh y).all (fun z => Nat.ble z.1 pc && Nat.blt pc z.2.1)) = true := h
    rw [Bool.and_eq_true, Bool.and_eq_true, Bool.and_eq_true] at h
    exact ⟨of_decide_eq_true h.1.1.2, Nat.le_of_ble_eq_true h.1.2, h.2⟩
  · have h70 : (g_code y pc).1 = 70 := h70
    rw [h70] at h
    exact h
