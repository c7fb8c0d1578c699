theorem ofI_nat (c : Nat) : Int32.ofInt (c : Int) = nI c := by
  first | rfl | exact Int32.ofInt_natCast c | exact Int32.ofInt_eq_ofNat | (apply Int32.toBitVec_inj.mp; simp [nI, Int32.toBitVec_ofInt])
theorem nI_inc (k c : Nat) : nI k + Int32.ofInt (c : Int) = nI (k + c) := by
  have : Int32.ofInt (c : Int) = nI c := ofI_nat c
  rw [this, nI_add]
theorem nI_dec (k c : Nat) (h : c ≤ k) : nI k + Int32.ofInt (-(c : Int)) = nI (k - c) := by
  have e : Int32.ofInt (-(c : Int)) = - nI c := by rw [Int32.ofInt_neg, ofI_nat]
  rw [e, ← Int32.sub_eq_add_neg, pk_sub h]
/-- the ends of methods: an answer and the world behind it -/
def rI (r : Int32) (σ : ST) : Option Value → ST → Prop := fun v σ' => v = some (.int r) ∧ σ' = σ
def rL (r : Int64) (σ : ST) : Option Value → ST → Prop := fun v σ' => v = some (.long r) ∧ σ' = σ
def rV (σ : ST) : Option Value → ST → Prop := fun v σ' => v = none ∧ σ' = σ
def rA (a : Nat) (σ : ST) : Option Value → ST → Prop := fun v σ' => v = some (.ref a) ∧ σ' = σ
def bI (b : Bool) : Int32 := if b then 1 else 0
theorem bI_nar (b : Bool) : narrow .boolean (.int (bI b)) = .int (bI b) := by cases b <;> decide
theorem mv_X0_begin : MV yX0_begin RX0 cX0_begin 2 none 0 := ⟨im_X0_begin, se_X0_begin, ini_X0, co_X0_begin, by decide +kernel⟩
theorem mv_X0_becomes : MV yX0_becomes RX0 cX0_becomes 2 none 1 := ⟨im_X0_becomes, se_X0_becomes, ini_X0, co_X0_becomes, by decide +kernel⟩
theorem mv_X0_addLetter : MV yX0_addLetter RX0 cX0_addLetter 5 (some .int) 3 := ⟨im_X0_addLetter, se_X0_addLetter, ini_X0, co_X0_addLetter, by decide +kernel⟩
theorem mv_X0_letterAt : MV yX0_letterAt RX0 cX0_letterAt 3 (some .int) 1 := ⟨im_X0_letterAt, se_X0_letterAt, ini_X0, co_X0_letterAt, by decide +kernel⟩
theorem mv_X0_queuedLetter : MV yX0_queuedLetter RX0 cX0_queuedLetter 6 (some .int) 2 := ⟨im_X0_queuedLetter, se_X0_queuedLetter, ini_X0, co_X0_queuedLetter, by decide +kernel⟩
theorem mv_X0_countLive : MV yX0_countLive RX0 cX0_countLive 1 (some .int) 0 := ⟨im_X0_countLive, se_X0_countLive, ini_X0, co_X0_countLive, by decide +kernel⟩
theorem mv_X0_moveLetter : MV yX0_moveLetter RX0 cX0_moveLetter 3 none 2 := ⟨im_X0_moveLetter, se_X0_moveLetter, ini_X0, co_X0_moveLetter, by decide +kernel⟩
theorem mv_X0_goesBefore : MV yX0_goesBefore RX0 cX0_goesBefore 4 (some .boolean) 3 := ⟨im_X0_goesBefore, se_X0_goesBefore, ini_X0, co_X0_goesBefore, by decide +kernel⟩
theorem mv_X1_remember : MV yX1_remember RX1 cX1_remember 2 none 1 := ⟨im_X1_remember, se_X1_remember, ini_X1, co_X1_remember, by decide +kernel⟩
theorem mv_X1_giveBack : MV yX1_giveBack RX1 cX1_giveBack 2 none 1 := ⟨im_X1_giveBack, se_X1_giveBack, ini_X1, co_X1_giveBack, by decide +kernel⟩
theorem mv_X2_becomes : MV yX2_becomes RX2 cX2_becomes 2 none 1 := ⟨im_X2_becomes, se_X2_becomes, ini_X2, co_X2_becomes, by decide +kernel⟩
theorem mv_X2_at : MV yX2_at RX2 cX2_at 2 (some .int) 1 := ⟨im_X2_at, se_X2_at, ini_X2, co_X2_at, by decide +kernel⟩
theorem mv_X2_add : MV yX2_add RX2 cX2_add 2 none 1 := ⟨im_X2_add, se_X2_add, ini_X2, co_X2_add, by decide +kernel⟩
theorem mv_X2_addInOrder : MV yX2_addInOrder RX2 cX2_addInOrder 5 none 3 := ⟨im_X2_addInOrder, se_X2_addInOrder, ini_X2, co_X2_addInOrder, by decide +kernel⟩
theorem mv_X3_add : MV yX3_add RX3 cX3_add 3 none 2 := ⟨im_X3_add, se_X3_add, ini_X3, co_X3_add, by decide +kernel⟩
theorem mv_X3_longest : MV yX3_longest RX3 cX3_longest 3 (some .int) 0 := ⟨im_X3_longest, se_X3_longest, ini_X3, co_X3_longest, by decide +kernel⟩
theorem mv_X3_allows : MV yX3_allows RX3 cX3_allows 4 (some .boolean) 2 := ⟨im_X3_allows, se_X3_allows, ini_X3, co_X3_allows, by decide +kernel⟩
theorem mv_X4_sortWaiting : MV yX4_sortWaiting RX4 cX4_sortWaiting 3 (some (.object "LetterFabric$Row")) 1 := ⟨im_X4_sortWaiting, se_X4_sortWaiting, ini_X4, co_X4_sortWaiting, by decide +kernel⟩
theorem mv_X4_sortTurned : MV yX4_sortTurned RX4 cX4_sortTurned 3 (some (.object "LetterFabric$Row")) 1 := ⟨im_X4_sortTurned, se_X4_sortTurned, ini_X4, co_X4_sortTurned, by decide +kernel⟩
theorem mv_X4_passSlot : MV yX4_passSlot RX4 cX4_passSlot 2 none 1 := ⟨im_X4_passSlot, se_X4_passSlot, ini_X4, co_X4_passSlot, by decide +kernel⟩
theorem mv_X4_letWinnersIn : MV yX4_letWinnersIn RX4 cX4_letWinnersIn 6 none 1 := ⟨im_X4_letWinnersIn, se_X4_letWinnersIn, ini_X4, co_X4_letWinnersIn, by decide +kernel⟩
theorem mv_X4_turnBackBeaten : MV yX4_turnBackBeaten RX4 cX4_turnBackBeaten 4 none 1 := ⟨im_X4_turnBackBeaten, se_X4_turnBackBeaten, ini_X4, co_X4_turnBackBeaten, by decide +kernel⟩
theorem mv_X4_letFirstsOut : MV yX4_letFirstsOut RX4 cX4_letFirstsOut 8 none 1 := ⟨im_X4_letFirstsOut, se_X4_letFirstsOut, ini_X4, co_X4_letFirstsOut, by decide +kernel⟩
theorem mv_X4_endLetter : MV yX4_endLetter RX4 cX4_endLetter 4 none 3 := ⟨im_X4_endLetter, se_X4_endLetter, ini_X4, co_X4_endLetter, by decide +kernel⟩
theorem mv_X5_tells : MV yX5_tells RX5 cX5_tells 4 (some .int) 3 := ⟨im_X5_tells, se_X5_tells, ini_X5, co_X5_tells, by decide +kernel⟩
theorem mv_X5_puts : MV yX5_puts RX5 cX5_puts 4 (some .int) 3 := ⟨im_X5_puts, se_X5_puts, ini_X5, co_X5_puts, by decide +kernel⟩
theorem mv_X5_slot : MV yX5_slot RX5 cX5_slot 2 (some .int) 0 := ⟨im_X5_slot, se_X5_slot, ini_X5, co_X5_slot, by decide +kernel⟩
theorem mv_X5_undo : MV yX5_undo RX5 cX5_undo 1 (some .int) 0 := ⟨im_X5_undo, se_X5_undo, ini_X5, co_X5_undo, by decide +kernel⟩
theorem mv_X5_clear : MV yX5_clear RX5 cX5_clear 3 (some .int) 0 := ⟨im_X5_clear, se_X5_clear, ini_X5, co_X5_clear, by decide +kernel⟩
theorem mv_X5_letter : MV yX5_letter RX5 cX5_letter 3 (some .int) 2 := ⟨im_X5_letter, se_X5_letter, ini_X5, co_X5_letter, by decide +kernel⟩
theorem mv_X5_line : MV yX5_line RX5 cX5_line 2 (some .int) 1 := ⟨im_X5_line, se_X5_line, ini_X5, co_X5_line, by decide +kernel⟩
theorem mv_X5_queue : MV yX5_queue RX5 cX5_queue 3 (some .int) 2 := ⟨im_X5_queue, se_X5_queue, ini_X5, co_X5_queue, by decide +kernel⟩
theorem mv_X5_turned : MV yX5_turned RX5 cX5_turned 2 (some .int) 1 := ⟨im_X5_turned, se_X5_turned, ini_X5, co_X5_turned, by decide +kernel⟩
theorem mv_X5_sorted : MV yX5_sorted RX5 cX5_sorted 2 (some .int) 1 := ⟨im_X5_sorted, se_X5_sorted, ini_X5, co_X5_sorted, by decide +kernel⟩
theorem mv_X5_straight : MV yX5_straight RX5 cX5_straight 3 (some .int) 1 := ⟨im_X5_straight, se_X5_straight, ini_X5, co_X5_straight, by decide +kernel⟩
theorem mv_X5_drain : MV yX5_drain RX5 cX5_drain 2 (some .int) 0 := ⟨im_X5_drain, se_X5_drain, ini_X5, co_X5_drain, by decide +kernel⟩
theorem mv_X5_lost : MV yX5_lost RX5 cX5_lost 2 (some .int) 1 := ⟨im_X5_lost, se_X5_lost, ini_X5, co_X5_lost, by decide +kernel⟩
theorem mv_X5_fewest : MV yX5_fewest RX5 cX5_fewest 3 (some .int) 1 := ⟨im_X5_fewest, se_X5_fewest, ini_X5, co_X5_fewest, by decide +kernel⟩
theorem mv_X5_share : MV yX5_share RX5 cX5_share 10 (some .long) 3 := ⟨im_X5_share, se_X5_share, ini_X5, co_X5_share, by decide +kernel⟩
theorem mv_X5_sees : MV yX5_sees RX5 cX5_sees 3 (some .int) 2 := ⟨im_X5_sees, se_X5_sees, ini_X5, co_X5_sees, by decide +kernel⟩
theorem mv_X5_forget : MV yX5_forget RX5 cX5_forget 2 (some .int) 0 := ⟨im_X5_forget, se_X5_forget, ini_X5, co_X5_forget, by decide +kernel⟩
theorem mv_X5_unseen : MV yX5_unseen RX5 cX5_unseen 4 (some .int) 0 := ⟨im_X5_unseen, se_X5_unseen, ini_X5, co_X5_unseen, by decide +kernel⟩
theorem mv_X5_keep : MV yX5_keep RX5 cX5_keep 2 (some .int) 1 := ⟨im_X5_keep, se_X5_keep, ini_X5, co_X5_keep, by decide +kernel⟩
theorem mv_X5_back : MV yX5_back RX5 cX5_back 2 (some .int) 1 := ⟨im_X5_back, se_X5_back, ini_X5, co_X5_back, by decide +kernel⟩
theorem mv_X5_count : MV yX5_count RX5 cX5_count 2 (some .int) 1 := ⟨im_X5_count, se_X5_count, ini_X5, co_X5_count, by decide +kernel⟩
theorem ms_X5_isWithin : MS yX5_isWithin cX5_isWithin 3 (some .boolean) 3 := ⟨sm_X5_isWithin, ini_X5, co_X5_isWithin, by decide +kernel⟩
theorem ms_X5_isLine : MS yX5_isLine cX5_isLine 1 (some .boolean) 1 := ⟨sm_X5_isLine, ini_X5, co_X5_isLine, by decide +kernel⟩
theorem ms_X5_isAddress : MS yX5_isAddress cX5_isAddress 1 (some .boolean) 1 := ⟨sm_X5_isAddress, ini_X5, co_X5_isAddress, by decide +kernel⟩
theorem mv_X5_enterNet : MV yX5_enterNet RX5 cX5_enterNet 2 none 0 := ⟨im_X5_enterNet, se_X5_enterNet, ini_X5, co_X5_enterNet, by decide +kernel⟩
theorem mv_X5_passStage : MV yX5_passStage RX5 cX5_passStage 8 none 1 := ⟨im_X5_passStage, se_X5_passStage, ini_X5, co_X5_passStage, by decide +kernel⟩
theorem mv_X5_trySlot : MV yX5_trySlot RX5 cX5_trySlot 2 (some .boolean) 0 := ⟨im_X5_trySlot, se_X5_trySlot, ini_X5, co_X5_trySlot, by decide +kernel⟩
theorem mv_X5_dropsIn : MV yX5_dropsIn RX5 cX5_dropsIn 5 (some .int) 2 := ⟨im_X5_dropsIn, se_X5_dropsIn, ini_X5, co_X5_dropsIn, by decide +kernel⟩
theorem mv_X5_explainsAllSeen : MV yX5_explainsAllSeen RX5 cX5_explainsAllSeen 5 (some .boolean) 1 := ⟨im_X5_explainsAllSeen, se_X5_explainsAllSeen, ini_X5, co_X5_explainsAllSeen, by decide +kernel⟩
theorem ms_X5_waysNotTaken : MS yX5_waysNotTaken cX5_waysNotTaken 7 (some .long) 2 := ⟨sm_X5_waysNotTaken, ini_X5, co_X5_waysNotTaken, by decide +kernel⟩
theorem ms_X5_power : MS yX5_power cX5_power 6 (some .long) 2 := ⟨sm_X5_power, ini_X5, co_X5_power, by decide +kernel⟩
theorem ms_X5_commonDivisor : MS yX5_commonDivisor cX5_commonDivisor 11 (some .long) 2 := ⟨sm_X5_commonDivisor, ini_X5, co_X5_commonDivisor, by decide +kernel⟩
theorem ms_X6_in : MS yX6_in cX6_in 3 (some .boolean) 3 := ⟨sm_X6_in, ini_X6, co_X6_in, by decide +kernel⟩
theorem mv_X6_writes : MV yX6_writes RX6 cX6_writes 4 none 1 := ⟨im_X6_writes, se_X6_writes, ini_X6, co_X6_writes, by decide +kernel⟩
theorem mv_X6_comesBack : MV yX6_comesBack RX6 cX6_comesBack 4 none 1 := ⟨im_X6_comesBack, se_X6_comesBack, ini_X6, co_X6_comesBack, by decide +kernel⟩
theorem mv_X6_notes : MV yX6_notes RX6 cX6_notes 2 none 0 := ⟨im_X6_notes, se_X6_notes, ini_X6, co_X6_notes, by decide +kernel⟩
theorem mv_X6_of : MV yX6_of RX6 cX6_of 3 (some .int) 2 := ⟨im_X6_of, se_X6_of, ini_X6, co_X6_of, by decide +kernel⟩
theorem mv_X6_sets : MV yX6_sets RX6 cX6_sets 4 none 3 := ⟨im_X6_sets, se_X6_sets, ini_X6, co_X6_sets, by decide +kernel⟩
theorem mv_X6_tells : MV yX6_tells RX6 cX6_tells 4 (some .int) 3 := ⟨im_X6_tells, se_X6_tells, ini_X6, co_X6_tells, by decide +kernel⟩
theorem ms_X6_isLine : MS yX6_isLine cX6_isLine 1 (some .boolean) 1 := ⟨sm_X6_isLine, ini_X6, co_X6_isLine, by decide +kernel⟩
theorem mv_X6_atLine : MV yX6_atLine RX6 cX6_atLine 3 (some .int) 1 := ⟨im_X6_atLine, se_X6_atLine, ini_X6, co_X6_atLine, by decide +kernel⟩
theorem mv_X6_puts : MV yX6_puts RX6 cX6_puts 4 (some .int) 3 := ⟨im_X6_puts, se_X6_puts, ini_X6, co_X6_puts, by decide +kernel⟩
theorem mv_X6_isAhead : MV yX6_isAhead RX6 cX6_isAhead 3 (some .boolean) 2 := ⟨im_X6_isAhead, se_X6_isAhead, ini_X6, co_X6_isAhead, by decide +kernel⟩
theorem mv_X6_manyAt : MV yX6_manyAt RX6 cX6_manyAt 4 (some .int) 1 := ⟨im_X6_manyAt, se_X6_manyAt, ini_X6, co_X6_manyAt, by decide +kernel⟩
theorem mv_X6_isIn : MV yX6_isIn RX6 cX6_isIn 2 (some .boolean) 1 := ⟨im_X6_isIn, se_X6_isIn, ini_X6, co_X6_isIn, by decide +kernel⟩
theorem mv_X6_isSooner : MV yX6_isSooner RX6 cX6_isSooner 3 (some .boolean) 2 := ⟨im_X6_isSooner, se_X6_isSooner, ini_X6, co_X6_isSooner, by decide +kernel⟩
theorem mv_X6_sorts : MV yX6_sorts RX6 cX6_sorts 3 none 0 := ⟨im_X6_sorts, se_X6_sorts, ini_X6, co_X6_sorts, by decide +kernel⟩
theorem mv_X6_wins : MV yX6_wins RX6 cX6_wins 5 none 0 := ⟨im_X6_wins, se_X6_wins, ini_X6, co_X6_wins, by decide +kernel⟩
theorem mv_X6_turns : MV yX6_turns RX6 cX6_turns 7 none 0 := ⟨im_X6_turns, se_X6_turns, ini_X6, co_X6_turns, by decide +kernel⟩
theorem mv_X6_queued : MV yX6_queued RX6 cX6_queued 6 (some .int) 2 := ⟨im_X6_queued, se_X6_queued, ini_X6, co_X6_queued, by decide +kernel⟩
theorem mv_X6_goes : MV yX6_goes RX6 cX6_goes 4 (some .int) 0 := ⟨im_X6_goes, se_X6_goes, ini_X6, co_X6_goes, by decide +kernel⟩
theorem mv_X6_slot : MV yX6_slot RX6 cX6_slot 1 (some .int) 0 := ⟨im_X6_slot, se_X6_slot, ini_X6, co_X6_slot, by decide +kernel⟩
theorem mv_X6_undo : MV yX6_undo RX6 cX6_undo 1 (some .int) 0 := ⟨im_X6_undo, se_X6_undo, ini_X6, co_X6_undo, by decide +kernel⟩
theorem mv_X6_clear : MV yX6_clear RX6 cX6_clear 2 (some .int) 0 := ⟨im_X6_clear, se_X6_clear, ini_X6, co_X6_clear, by decide +kernel⟩
theorem mv_X6_letter : MV yX6_letter RX6 cX6_letter 3 (some .int) 2 := ⟨im_X6_letter, se_X6_letter, ini_X6, co_X6_letter, by decide +kernel⟩
theorem mv_X6_line : MV yX6_line RX6 cX6_line 2 (some .int) 1 := ⟨im_X6_line, se_X6_line, ini_X6, co_X6_line, by decide +kernel⟩
theorem mv_X6_queue : MV yX6_queue RX6 cX6_queue 3 (some .int) 2 := ⟨im_X6_queue, se_X6_queue, ini_X6, co_X6_queue, by decide +kernel⟩
theorem mv_X6_turned : MV yX6_turned RX6 cX6_turned 5 (some .int) 1 := ⟨im_X6_turned, se_X6_turned, ini_X6, co_X6_turned, by decide +kernel⟩
theorem mv_X6_sorted : MV yX6_sorted RX6 cX6_sorted 2 (some .int) 1 := ⟨im_X6_sorted, se_X6_sorted, ini_X6, co_X6_sorted, by decide +kernel⟩
theorem mv_X6_setStraight : MV yX6_setStraight RX6 cX6_setStraight 5 none 0 := ⟨im_X6_setStraight, se_X6_setStraight, ini_X6, co_X6_setStraight, by decide +kernel⟩
theorem mv_X6_straight : MV yX6_straight RX6 cX6_straight 2 (some .int) 1 := ⟨im_X6_straight, se_X6_straight, ini_X6, co_X6_straight, by decide +kernel⟩
theorem mv_X6_isOver : MV yX6_isOver RX6 cX6_isOver 1 (some .boolean) 0 := ⟨im_X6_isOver, se_X6_isOver, ini_X6, co_X6_isOver, by decide +kernel⟩
theorem mv_X6_drain : MV yX6_drain RX6 cX6_drain 3 (some .int) 0 := ⟨im_X6_drain, se_X6_drain, ini_X6, co_X6_drain, by decide +kernel⟩
theorem mv_X6_lostBy : MV yX6_lostBy RX6 cX6_lostBy 5 (some .int) 2 := ⟨im_X6_lostBy, se_X6_lostBy, ini_X6, co_X6_lostBy, by decide +kernel⟩
theorem mv_X6_lost : MV yX6_lost RX6 cX6_lost 2 (some .int) 1 := ⟨im_X6_lost, se_X6_lost, ini_X6, co_X6_lost, by decide +kernel⟩
theorem mv_X6_fewest : MV yX6_fewest RX6 cX6_fewest 3 (some .int) 1 := ⟨im_X6_fewest, se_X6_fewest, ini_X6, co_X6_fewest, by decide +kernel⟩
theorem ms_X6_power : MS yX6_power cX6_power 6 (some .long) 2 := ⟨sm_X6_power, ini_X6, co_X6_power, by decide +kernel⟩
theorem ms_X6_ways : MS yX6_ways cX6_ways 4 (some .long) 1 := ⟨sm_X6_ways, ini_X6, co_X6_ways, by decide +kernel⟩
theorem ms_X6_gcd : MS yX6_gcd cX6_gcd 10 (some .long) 2 := ⟨sm_X6_gcd, ini_X6, co_X6_gcd, by decide +kernel⟩
theorem mv_X6_share : MV yX6_share RX6 cX6_share 10 (some .long) 3 := ⟨im_X6_share, se_X6_share, ini_X6, co_X6_share, by decide +kernel⟩
theorem mv_X6_sees : MV yX6_sees RX6 cX6_sees 3 (some .int) 2 := ⟨im_X6_sees, se_X6_sees, ini_X6, co_X6_sees, by decide +kernel⟩
theorem mv_X6_forget : MV yX6_forget RX6 cX6_forget 2 (some .int) 0 := ⟨im_X6_forget, se_X6_forget, ini_X6, co_X6_forget, by decide +kernel⟩
theorem mv_X6_outWithout : MV yX6_outWithout RX6 cX6_outWithout 5 (some .int) 2 := ⟨im_X6_outWithout, se_X6_outWithout, ini_X6, co_X6_outWithout, by decide +kernel⟩
theorem mv_X6_unseen : MV yX6_unseen RX6 cX6_unseen 6 (some .int) 0 := ⟨im_X6_unseen, se_X6_unseen, ini_X6, co_X6_unseen, by decide +kernel⟩
theorem mv_X6_keep : MV yX6_keep RX6 cX6_keep 2 (some .int) 1 := ⟨im_X6_keep, se_X6_keep, ini_X6, co_X6_keep, by decide +kernel⟩
theorem mv_X6_back : MV yX6_back RX6 cX6_back 2 (some .int) 1 := ⟨im_X6_back, se_X6_back, ini_X6, co_X6_back, by decide +kernel⟩
theorem mv_X6_count : MV yX6_count RX6 cX6_count 2 (some .int) 1 := ⟨im_X6_count, se_X6_count, ini_X6, co_X6_count, by decide +kernel⟩
