/-! the whole program stands for the JVM's code -/
def q_AlM (p : Nat → List (Nat × q_O) → Prop) : Nat → List (List (Nat × q_O)) → Prop
  | _, [] => True
  | i, x :: r => p i x ∧ q_AlM p (i + 1) r
theorem q_AlM_get {p : Nat → List (Nat × q_O) → Prop} (h0 : ∀ i, p i []) : ∀ (L : List (List (Nat × q_O))) (i k : Nat), q_AlM p i L → p (i + k) (L.getD k [])
  | [], i, k, _ => h0 _
  | x :: r, i, 0, h => h.1
  | x :: r, i, k + 1, h => by
    have := q_AlM_get h0 r (i + 1) k h.2
    rw [show i + (k + 1) = i + 1 + k by omega]
    exact this
def q_zM (E : q_X) (l : Launch) (M : Nat) : List (Nat × q_O) → Prop := q_Al (q_z E l (q_I0 M).1.cls (q_I0 M).2.1 (q_I0 M).2.2.1 (q_I0 M).2.2.2.1 (q_I0 M).1.name (q_I0 M).2.2.2.2)
def q_cs_0 : List (List (Nat × q_O)) := [P_X0_init, P_X0_begin, P_X0_become, P_X0_waitAgain, P_X0_planOn, P_X0_end, P_X0_isOf, P_X0_weightWith, P_X1_init, P_X1_begin, P_X1_become, P_X1_held, P_X1_makeOne, P_X1_makeRoom, P_X1_longestSent, P_X1_takeOut, P_X1_sendSome, P_X1_have, P_X1_lostBy, P_X2_init, P_X2_begin, P_X2_become, P_X2_setUp, P_X2_isUp, P_X2_firstUp, P_X2_sinceRise, P_X3_init, P_X3_begin, P_X3_become, P_X4_init]
set_option maxRecDepth 100000 in
theorem z_all_0 (E : q_X) (l : Launch) : q_AlM (q_zM E l) 0 q_cs_0 := ⟨z_X0_init E l, ⟨z_X0_begin E l, ⟨z_X0_become E l, ⟨z_X0_waitAgain E l, ⟨z_X0_planOn E l, ⟨z_X0_end E l, ⟨z_X0_isOf E l, ⟨z_X0_weightWith E l, ⟨z_X1_init E l, ⟨z_X1_begin E l, ⟨z_X1_become E l, ⟨z_X1_held E l, ⟨z_X1_makeOne E l, ⟨z_X1_makeRoom E l, ⟨z_X1_longestSent E l, ⟨z_X1_takeOut E l, ⟨z_X1_sendSome E l, ⟨z_X1_have E l, ⟨z_X1_lostBy E l, ⟨z_X2_init E l, ⟨z_X2_begin E l, ⟨z_X2_become E l, ⟨z_X2_setUp E l, ⟨z_X2_isUp E l, ⟨z_X2_firstUp E l, ⟨z_X2_sinceRise E l, ⟨z_X3_init E l, ⟨z_X3_begin E l, ⟨z_X3_become E l, ⟨z_X4_init E l, trivial⟩⟩⟩⟩⟩⟩⟩⟩⟩⟩⟩⟩⟩⟩⟩⟩⟩⟩⟩⟩⟩⟩⟩⟩⟩⟩⟩⟩⟩⟩
def q_cs_1 : List (List (Nat × q_O)) := [P_X4_become, P_X4_add, P_X4_canGoAgain, P_X4_goOut, P_X4_settle, P_X5_init, P_X5_planWaiting, P_X5_planWithWorth, P_X5_planPair, P_X5_lookAtWaiting, P_X5_lookAt, P_X5_solve, P_X5_findRest, P_X5_canStand, P_X5_findEnds, [], P_X5_canBeBetter, P_X5_keepRow, P_X5_startOn, P_X5_weightOfRow, P_X5_dishOf, P_X5_startOf, P_X5_inPlan, P_X5_holdIn, P_X5_placeOf, P_X6_init, P_X6_become, P_X6_setOdds, P_X6_lookNext, P_X6_left]
set_option maxRecDepth 100000 in
theorem z_all_1 (E : q_X) (l : Launch) : q_AlM (q_zM E l) 30 q_cs_1 := ⟨z_X4_become E l, ⟨z_X4_add E l, ⟨z_X4_canGoAgain E l, ⟨z_X4_goOut E l, ⟨z_X4_settle E l, ⟨z_X5_init E l, ⟨z_X5_planWaiting E l, ⟨z_X5_planWithWorth E l, ⟨z_X5_planPair E l, ⟨z_X5_lookAtWaiting E l, ⟨z_X5_lookAt E l, ⟨z_X5_solve E l, ⟨z_X5_findRest E l, ⟨z_X5_canStand E l, ⟨z_X5_findEnds E l, ⟨trivial, ⟨z_X5_canBeBetter E l, ⟨z_X5_keepRow E l, ⟨z_X5_startOn E l, ⟨z_X5_weightOfRow E l, ⟨z_X5_dishOf E l, ⟨z_X5_startOf E l, ⟨z_X5_inPlan E l, ⟨z_X5_holdIn E l, ⟨z_X5_placeOf E l, ⟨z_X6_init E l, ⟨z_X6_become E l, ⟨z_X6_setOdds E l, ⟨z_X6_lookNext E l, ⟨z_X6_left E l, trivial⟩⟩⟩⟩⟩⟩⟩⟩⟩⟩⟩⟩⟩⟩⟩⟩⟩⟩⟩⟩⟩⟩⟩⟩⟩⟩⟩⟩⟩⟩
def q_cs_2 : List (List (Nat × q_O)) := [P_X6_looksFor, P_X6_oddsLeft, P_X6_bestBut, P_X6_isOpen, P_X7_init, P_X7_isMissing, P_X7_begin, P_X7_set, P_X7_hasRange, P_X8_init, P_X8_begin, P_X8_become, P_X8_setState, P_X8_daysFrom, P_X8_neverHeard, P_X9_init, P_X9_append, P_X9_clear, P_X9_readAll, P_X9_readOne, P_X9_readWorth, P_X9_readPair, P_X9_readNumber, P_X9_next, P_X9_nextWord, P_X9_nextNumber, P_X9_wordBetween, P_X9_isLetter, P_X9_isDigit, P_X10_init]
set_option maxRecDepth 100000 in
theorem z_all_2 (E : q_X) (l : Launch) : q_AlM (q_zM E l) 60 q_cs_2 := ⟨z_X6_looksFor E l, ⟨z_X6_oddsLeft E l, ⟨z_X6_bestBut E l, ⟨z_X6_isOpen E l, ⟨z_X7_init E l, ⟨z_X7_isMissing E l, ⟨z_X7_begin E l, ⟨z_X7_set E l, ⟨z_X7_hasRange E l, ⟨z_X8_init E l, ⟨z_X8_begin E l, ⟨z_X8_become E l, ⟨z_X8_setState E l, ⟨z_X8_daysFrom E l, ⟨z_X8_neverHeard E l, ⟨z_X9_init E l, ⟨z_X9_append E l, ⟨z_X9_clear E l, ⟨z_X9_readAll E l, ⟨z_X9_readOne E l, ⟨z_X9_readWorth E l, ⟨z_X9_readPair E l, ⟨z_X9_readNumber E l, ⟨z_X9_next E l, ⟨z_X9_nextWord E l, ⟨z_X9_nextNumber E l, ⟨z_X9_wordBetween E l, ⟨z_X9_isLetter E l, ⟨z_X9_isDigit E l, ⟨z_X10_init E l, trivial⟩⟩⟩⟩⟩⟩⟩⟩⟩⟩⟩⟩⟩⟩⟩⟩⟩⟩⟩⟩⟩⟩⟩⟩⟩⟩⟩⟩⟩⟩
def q_cs_3 : List (List (Nat × q_O)) := [P_X10_become, P_X10_setRain, P_X10_addDish, P_X10_addCraft, P_X10_addAsking, P_X10_linkAt, P_X10_weightOf, P_X10_runningOn, P_X10_goHour, P_X10_startAskings, P_X10_serve, P_X10_finishAskings, P_X10_makeBlocks, P_X10_brokenDishes, P_X10_askingsIn, P_X10_allBlocks, P_X11_init, P_X11_rain, P_X11_dish, P_X11_mend, P_X11_dishIs, P_X11_craft, P_X11_craftIs, P_X11_rises, P_X11_up, P_X11_rise, P_X11_link, P_X11_feed, P_X11_wipe, P_X11_asks]
set_option maxRecDepth 100000 in
theorem z_all_3 (E : q_X) (l : Launch) : q_AlM (q_zM E l) 90 q_cs_3 := ⟨z_X10_become E l, ⟨z_X10_setRain E l, ⟨z_X10_addDish E l, ⟨z_X10_addCraft E l, ⟨z_X10_addAsking E l, ⟨z_X10_linkAt E l, ⟨z_X10_weightOf E l, ⟨z_X10_runningOn E l, ⟨z_X10_goHour E l, ⟨z_X10_startAskings E l, ⟨z_X10_serve E l, ⟨z_X10_finishAskings E l, ⟨z_X10_makeBlocks E l, ⟨z_X10_brokenDishes E l, ⟨z_X10_askingsIn E l, ⟨z_X10_allBlocks E l, ⟨z_X11_init E l, ⟨z_X11_rain E l, ⟨z_X11_dish E l, ⟨z_X11_mend E l, ⟨z_X11_dishIs E l, ⟨z_X11_craft E l, ⟨z_X11_craftIs E l, ⟨z_X11_rises E l, ⟨z_X11_up E l, ⟨z_X11_rise E l, ⟨z_X11_link E l, ⟨z_X11_feed E l, ⟨z_X11_wipe E l, ⟨z_X11_asks E l, trivial⟩⟩⟩⟩⟩⟩⟩⟩⟩⟩⟩⟩⟩⟩⟩⟩⟩⟩⟩⟩⟩⟩⟩⟩⟩⟩⟩⟩⟩⟩
def q_cs_4 : List (List (Nat × q_O)) := [P_X11_asking, P_X11_as, P_X11_worth, P_X11_plan, P_X11_begins, P_X11_without, P_X11_takes, P_X11_bars, P_X11_judge, P_X11_hold, P_X11_drop, P_X11_run, P_X11_block, P_X11_name, P_X11_over, P_X11_order, P_X11_again, P_X11_orderIs, P_X11_table, P_X11_silence, P_X11_ever, P_X11_cell, P_X11_seek, P_X11_stop, P_X11_check, P_X11_sheet, P_X11_write, P_X11_copy, P_X11_image, P_X11_undo]
set_option maxRecDepth 100000 in
theorem z_all_4 (E : q_X) (l : Launch) : q_AlM (q_zM E l) 120 q_cs_4 := ⟨z_X11_asking E l, ⟨z_X11_as E l, ⟨z_X11_worth E l, ⟨z_X11_plan E l, ⟨z_X11_begins E l, ⟨z_X11_without E l, ⟨z_X11_takes E l, ⟨z_X11_bars E l, ⟨z_X11_judge E l, ⟨z_X11_hold E l, ⟨z_X11_drop E l, ⟨z_X11_run E l, ⟨z_X11_block E l, ⟨z_X11_name E l, ⟨z_X11_over E l, ⟨z_X11_order E l, ⟨z_X11_again E l, ⟨z_X11_orderIs E l, ⟨z_X11_table E l, ⟨z_X11_silence E l, ⟨z_X11_ever E l, ⟨z_X11_cell E l, ⟨z_X11_seek E l, ⟨z_X11_stop E l, ⟨z_X11_check E l, ⟨z_X11_sheet E l, ⟨z_X11_write E l, ⟨z_X11_copy E l, ⟨z_X11_image E l, ⟨z_X11_undo E l, trivial⟩⟩⟩⟩⟩⟩⟩⟩⟩⟩⟩⟩⟩⟩⟩⟩⟩⟩⟩⟩⟩⟩⟩⟩⟩⟩⟩⟩⟩⟩
def q_cs_5 : List (List (Nat × q_O)) := [P_X11_tear, P_X11_count, P_X11_status, P_X11_outside, P_X11_noDish, P_X11_noCraft, P_X11_noAsking, P_X11_noOrder, P_X11_noSheet, P_X11_finding, P_X12_init, P_X12_finds, P_X12_in, P_X12_isPlace, P_X12_isDish, P_X12_isCraft, P_X12_isAsking, P_X12_isHour, P_X12_becomes, P_X12_rain, P_X12_dish, P_X12_mend, P_X12_running, P_X12_dishIs, P_X12_craft, P_X12_craftIs, P_X12_rises, P_X12_since, P_X12_isUp, P_X12_up]
set_option maxRecDepth 100000 in
theorem z_all_5 (E : q_X) (l : Launch) : q_AlM (q_zM E l) 150 q_cs_5 := ⟨z_X11_tear E l, ⟨z_X11_count E l, ⟨z_X11_status E l, ⟨z_X11_outside E l, ⟨z_X11_noDish E l, ⟨z_X11_noCraft E l, ⟨z_X11_noAsking E l, ⟨z_X11_noOrder E l, ⟨z_X11_noSheet E l, ⟨z_X11_finding E l, ⟨z_X12_init E l, ⟨z_X12_finds E l, ⟨z_X12_in E l, ⟨z_X12_isPlace E l, ⟨z_X12_isDish E l, ⟨z_X12_isCraft E l, ⟨z_X12_isAsking E l, ⟨z_X12_isHour E l, ⟨z_X12_becomes E l, ⟨z_X12_rain E l, ⟨z_X12_dish E l, ⟨z_X12_mend E l, ⟨z_X12_running E l, ⟨z_X12_dishIs E l, ⟨z_X12_craft E l, ⟨z_X12_craftIs E l, ⟨z_X12_rises E l, ⟨z_X12_since E l, ⟨z_X12_isUp E l, ⟨z_X12_up E l, trivial⟩⟩⟩⟩⟩⟩⟩⟩⟩⟩⟩⟩⟩⟩⟩⟩⟩⟩⟩⟩⟩⟩⟩⟩⟩⟩⟩⟩⟩⟩
def q_cs_6 : List (List (Nat × q_O)) := [P_X12_risesAt, P_X12_rise, P_X12_linkOf, P_X12_link, P_X12_feed, P_X12_wipe, P_X12_byteAt, P_X12_isLetter, P_X12_isDigit, P_X12_wordOf, P_X12_next, P_X12_wrong, P_X12_after, P_X12_reads, P_X12_readAll, P_X12_asks, P_X12_isHear, P_X12_isBoth, P_X12_weightOf, P_X12_asking, P_X12_as, P_X12_waits, P_X12_worth, P_X12_looks, P_X12_findFree, P_X12_fits, [], P_X12_plans, P_X12_planNow, P_X12_placeOf]
set_option maxRecDepth 100000 in
theorem z_all_6 (E : q_X) (l : Launch) : q_AlM (q_zM E l) 180 q_cs_6 := ⟨z_X12_risesAt E l, ⟨z_X12_rise E l, ⟨z_X12_linkOf E l, ⟨z_X12_link E l, ⟨z_X12_feed E l, ⟨z_X12_wipe E l, ⟨z_X12_byteAt E l, ⟨z_X12_isLetter E l, ⟨z_X12_isDigit E l, ⟨z_X12_wordOf E l, ⟨z_X12_next E l, ⟨z_X12_wrong E l, ⟨z_X12_after E l, ⟨z_X12_reads E l, ⟨z_X12_readAll E l, ⟨z_X12_asks E l, ⟨z_X12_isHear E l, ⟨z_X12_isBoth E l, ⟨z_X12_weightOf E l, ⟨z_X12_asking E l, ⟨z_X12_as E l, ⟨z_X12_waits E l, ⟨z_X12_worth E l, ⟨z_X12_looks E l, ⟨z_X12_findFree E l, ⟨z_X12_fits E l, ⟨trivial, ⟨z_X12_plans E l, ⟨z_X12_planNow E l, ⟨z_X12_placeOf E l, trivial⟩⟩⟩⟩⟩⟩⟩⟩⟩⟩⟩⟩⟩⟩⟩⟩⟩⟩⟩⟩⟩⟩⟩⟩⟩⟩⟩⟩⟩⟩
def q_cs_7 : List (List (Nat × q_O)) := [P_X12_isIn, P_X12_plan, P_X12_begins, P_X12_without, P_X12_inPlan, P_X12_takes, P_X12_isAlone, P_X12_bars, P_X12_judge, P_X12_hold, P_X12_drop, P_X12_sends, P_X12_ordersGo, P_X12_ordersEnd, P_X12_takesOut, P_X12_makes, P_X12_goes, P_X12_run, P_X12_block, P_X12_name, P_X12_keeps, P_X12_over, P_X12_order, P_X12_isOrder, P_X12_again, P_X12_orderIs, P_X12_isTableState, P_X12_table, P_X12_daysOf, P_X12_silence]
set_option maxRecDepth 100000 in
theorem z_all_7 (E : q_X) (l : Launch) : q_AlM (q_zM E l) 210 q_cs_7 := ⟨z_X12_isIn E l, ⟨z_X12_plan E l, ⟨z_X12_begins E l, ⟨z_X12_without E l, ⟨z_X12_inPlan E l, ⟨z_X12_takes E l, ⟨z_X12_isAlone E l, ⟨z_X12_bars E l, ⟨z_X12_judge E l, ⟨z_X12_hold E l, ⟨z_X12_drop E l, ⟨z_X12_sends E l, ⟨z_X12_ordersGo E l, ⟨z_X12_ordersEnd E l, ⟨z_X12_takesOut E l, ⟨z_X12_makes E l, ⟨z_X12_goes E l, ⟨z_X12_run E l, ⟨z_X12_block E l, ⟨z_X12_name E l, ⟨z_X12_keeps E l, ⟨z_X12_over E l, ⟨z_X12_order E l, ⟨z_X12_isOrder E l, ⟨z_X12_again E l, ⟨z_X12_orderIs E l, ⟨z_X12_isTableState E l, ⟨z_X12_table E l, ⟨z_X12_daysOf E l, ⟨z_X12_silence E l, trivial⟩⟩⟩⟩⟩⟩⟩⟩⟩⟩⟩⟩⟩⟩⟩⟩⟩⟩⟩⟩⟩⟩⟩⟩⟩⟩⟩⟩⟩⟩
def q_cs_8 : List (List (Nat × q_O)) := [P_X12_ever, P_X12_cell, P_X12_nextCell, P_X12_seek, P_X12_stop, P_X12_check, P_X12_isSheet, P_X12_sheet, P_X12_write, P_X12_copy, P_X12_image, P_X12_undo, P_X12_tear, P_X12_manyIn, P_X12_count, P_X12_status, P_L_law]
set_option maxRecDepth 100000 in
theorem z_all_8 (E : q_X) (l : Launch) : q_AlM (q_zM E l) 240 q_cs_8 := ⟨z_X12_ever E l, ⟨z_X12_cell E l, ⟨z_X12_nextCell E l, ⟨z_X12_seek E l, ⟨z_X12_stop E l, ⟨z_X12_check E l, ⟨z_X12_isSheet E l, ⟨z_X12_sheet E l, ⟨z_X12_write E l, ⟨z_X12_copy E l, ⟨z_X12_image E l, ⟨z_X12_undo E l, ⟨z_X12_tear E l, ⟨z_X12_manyIn E l, ⟨z_X12_count E l, ⟨z_X12_status E l, ⟨z_L_law E l, trivial⟩⟩⟩⟩⟩⟩⟩⟩⟩⟩⟩⟩⟩⟩⟩⟩⟩
theorem q_AlM_app {p : Nat → List (Nat × q_O) → Prop} : ∀ (a b : List (List (Nat × q_O))) (i : Nat), q_AlM p i a → q_AlM p (i + a.length) b → q_AlM p i (a ++ b)
  | [], b, i, _, h => h
  | x :: a, b, i, ha, h => ⟨ha.1, q_AlM_app a b (i + 1) ha.2 (by rw [show i + 1 + a.length = i + (x :: a).length by simp; omega]; exact h)⟩
set_option maxRecDepth 100000 in
theorem z_all (E : q_X) (l : Launch) : q_AlM (q_zM E l) 0 q_codes := q_AlM_app q_cs_0 _ _ (z_all_0 E l) (q_AlM_app q_cs_1 _ _ (z_all_1 E l) (q_AlM_app q_cs_2 _ _ (z_all_2 E l) (q_AlM_app q_cs_3 _ _ (z_all_3 E l) (q_AlM_app q_cs_4 _ _ (z_all_4 E l) (q_AlM_app q_cs_5 _ _ (z_all_5 E l) (q_AlM_app q_cs_6 _ _ (z_all_6 E l) (q_AlM_app q_cs_7 _ _ (z_all_7 E l) (z_all_8 E l))))))))
theorem q_Is_ok : q_Is.all (fun x => plainName x.1.cls && (decide (x.2.2.2.1 = none) || decide (x.2.2.2.1 = some .int) || decide (x.2.2.2.1 = some .boolean))) = true := by decide +kernel
theorem q_I_ok (M : Nat) : plainName (q_I0 M).1.cls = true ∧ ((q_I0 M).2.2.2.1 = none ∨ (q_I0 M).2.2.2.1 = some .int ∨ (q_I0 M).2.2.2.1 = some .boolean) := by
  unfold q_I0
  split
  · rw [List.getD_eq_getElem?_getD]
    cases h : q_Is[M]? with
    | none => exact ⟨by decide +kernel, Or.inr (Or.inr rfl)⟩
    | some x =>
      have := List.all_eq_true.mp q_Is_ok x (List.mem_of_getElem? h)
      simp only [Bool.and_eq_true, Bool.or_eq_true, decide_eq_true_eq] at this
      refine ⟨this.1, ?_⟩
      rcases this.2 with (z | z) | z
      · exact Or.inl z
      · exact Or.inr (Or.inl z)
      · exact Or.inr (Or.inr z)
  · split
    · exact ⟨show plainName yX5_tryFrom.cls = true by decide +kernel, Or.inl rfl⟩
    · exact ⟨show plainName yX12_tries.cls = true by decide +kernel, Or.inl rfl⟩
theorem q_okP (E : q_X) (l : Launch) : q_ok E l q_I0 q_P q_mx := by
  refine ⟨fun M pc op h => ?_, fun M => rfl, fun M pc op _ => q_I_ok M⟩
  have key : q_zM E l M (q_code M) := by
    unfold q_code
    split
    · have := q_AlM_get (p := q_zM E l) (fun _ => trivial) q_codes 0 M (z_all E l)
      rw [Nat.zero_add] at this
      exact this
    · split
      · rename_i h1 h2
        unfold q_zM
        rw [q_I_tf M (by omega)]
        have := z_X5_tryFrom E l (M - 300) (by omega)
        rw [show M - 300 + 1 = M - 299 by omega] at this
        exact this
      · split
        · rename_i h1 h2 h3
          unfold q_zM
          rw [q_I_tr M (by omega)]
          have := z_X12_tries E l (M - 310) (by omega)
          rw [show M - 310 + 1 = M - 309 by omega] at this
          exact this
        · exact trivial
  exact q_Al_find key h
