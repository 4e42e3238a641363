/-! Words, one by one. -/
theorem wg_X0 : ∀ w ∈ u_ws RX0 TX0 7, w ∈ nm_good := by decide +kernel
theorem fz_X0 : ∀ b base : Nat, ∀ j, j < 7 → defaultValue (tyX0 j) = vp_V ([.null, .null, .null, .null, .int 0, .int 0, .int 0].map (nm_cv b base)) j := by
  intro b base
  show ∀ j, j < 7 → defaultValue (tyX0 j) = vp_V [.null, .null, .null, .null, .int 0, .int 0, .int 0] j
  decide +kernel
theorem wg_X1 : ∀ w ∈ u_ws RX1 TX1 3, w ∈ nm_good := by decide +kernel
theorem fz_X1 : ∀ b base : Nat, ∀ j, j < 3 → defaultValue (tyX1 j) = vp_V ([.null, .int 0, .int 0].map (nm_cv b base)) j := by
  intro b base
  show ∀ j, j < 3 → defaultValue (tyX1 j) = vp_V [.null, .int 0, .int 0] j
  decide +kernel
theorem wg_X2 : ∀ w ∈ u_ws RX2 TX2 5, w ∈ nm_good := by decide +kernel
theorem fz_X2 : ∀ b base : Nat, ∀ j, j < 5 → defaultValue (tyX2 j) = vp_V ([.null, .null, .null, .null, .int 0].map (nm_cv b base)) j := by
  intro b base
  show ∀ j, j < 5 → defaultValue (tyX2 j) = vp_V [.null, .null, .null, .null, .int 0] j
  decide +kernel
theorem wg_X3 : ∀ w ∈ u_ws RX3 TX3 12, w ∈ nm_good := by decide +kernel
theorem fz_X3 : ∀ b base : Nat, ∀ j, j < 12 → defaultValue (tyX3 j) = vp_V ([.int 0, .int 0, .int 0, .int 0, .null, .null, .int 0, .int 0, .int 0, .int 0, .int 0, .int 0].map (nm_cv b base)) j := by
  intro b base
  show ∀ j, j < 12 → defaultValue (tyX3 j) = vp_V [.int 0, .int 0, .int 0, .int 0, .null, .null, .int 0, .int 0, .int 0, .int 0, .int 0, .int 0] j
  decide +kernel
theorem wg_X4 : ∀ w ∈ u_ws RX4 TX4 6, w ∈ nm_good := by decide +kernel
theorem fz_X4 : ∀ b base : Nat, ∀ j, j < 6 → defaultValue (tyX4 j) = vp_V ([.null, .null, .null, .null, .long 0, .int 0].map (nm_cv b base)) j := by
  intro b base
  show ∀ j, j < 6 → defaultValue (tyX4 j) = vp_V [.null, .null, .null, .null, .long 0, .int 0] j
  decide +kernel
theorem wg_X5 : ∀ w ∈ u_ws RX5 TX5 11, w ∈ nm_good := by decide +kernel
theorem fz_X5 : ∀ b base : Nat, ∀ j, j < 11 → defaultValue (tyX5 j) = vp_V ([.null, .null, .null, .int 0, .int 0, .null, .null, .null, .null, .null, .null].map (nm_cv b base)) j := by
  intro b base
  show ∀ j, j < 11 → defaultValue (tyX5 j) = vp_V [.null, .null, .null, .int 0, .int 0, .null, .null, .null, .null, .null, .null] j
  decide +kernel
theorem wg_X6 : ∀ w ∈ u_ws RX6 TX6 2, w ∈ nm_good := by decide +kernel
theorem fz_X6 : ∀ b base : Nat, ∀ j, j < 2 → defaultValue (tyX6 j) = vp_V ([.null, .int 0].map (nm_cv b base)) j := by
  intro b base
  show ∀ j, j < 2 → defaultValue (tyX6 j) = vp_V [.null, .int 0] j
  decide +kernel
theorem wg_X7 : ∀ w ∈ u_ws RX7 TX7 8, w ∈ nm_good := by decide +kernel
theorem fz_X7 : ∀ b base : Nat, ∀ j, j < 8 → defaultValue (tyX7 j) = vp_V ([.null, .null, .null, .null, .null, .null, .null, .int 0].map (nm_cv b base)) j := by
  intro b base
  show ∀ j, j < 8 → defaultValue (tyX7 j) = vp_V [.null, .null, .null, .null, .null, .null, .null, .int 0] j
  decide +kernel
theorem wg_X8 : ∀ w ∈ u_ws RX8 TX8 12, w ∈ nm_good := by decide +kernel
theorem fz_X8 : ∀ b base : Nat, ∀ j, j < 12 → defaultValue (tyX8 j) = vp_V ([.null, .null, .null, .null, .null, .null, .null, .null, .null, .int 0, .int 0, .int 0].map (nm_cv b base)) j := by
  intro b base
  show ∀ j, j < 12 → defaultValue (tyX8 j) = vp_V [.null, .null, .null, .null, .null, .null, .null, .null, .null, .int 0, .int 0, .int 0] j
  decide +kernel
theorem wg_X9 : ∀ w ∈ u_ws RX9 TX9 48, w ∈ nm_good := by decide +kernel
theorem fz_X9 : ∀ b base : Nat, ∀ j, j < 48 → defaultValue (tyX9 j) = vp_V ([.int 0, .int 0, .int 0, .int 0, .int 0, .int 0, .int 0, .int 0, .int 0, .int 0, .int 0, .null, .null, .null, .null, .null, .null, .null, .null, .null, .null, .null, .int 0, .null, .null, .null, .null, .null, .null, .null, .null, .null, .null, .null, .int 0, .int 0, .null, .null, .null, .null, .null, .int 0, .int 0, .int 0, .int 0, .int 0, .int 0, .null].map (nm_cv b base)) j := by
  intro b base
  show ∀ j, j < 48 → defaultValue (tyX9 j) = vp_V [.int 0, .int 0, .int 0, .int 0, .int 0, .int 0, .int 0, .int 0, .int 0, .int 0, .int 0, .null, .null, .null, .null, .null, .null, .null, .null, .null, .null, .null, .int 0, .null, .null, .null, .null, .null, .null, .null, .null, .null, .null, .null, .int 0, .int 0, .null, .null, .null, .null, .null, .int 0, .int 0, .int 0, .int 0, .int 0, .int 0, .null] j
  decide +kernel
theorem ds_X0_init : nm_desc in_X0_init 0 := by
  unfold nm_desc
  decide +kernel
theorem ds_X0_isFull : nm_desc in_X0_isFull 0 := by
  unfold nm_desc
  decide +kernel
theorem ds_X0_add : nm_desc in_X0_add 3 := by
  unfold nm_desc
  decide +kernel
theorem ds_X0_putInOrder : nm_desc in_X0_putInOrder 1 := by
  unfold nm_desc
  decide +kernel
theorem ds_X1_init : nm_desc in_X1_init 0 := by
  unfold nm_desc
  decide +kernel
theorem ds_X1_add : nm_desc in_X1_add 0 := by
  unfold nm_desc
  decide +kernel
theorem ds_X1_mend : nm_desc in_X1_mend 1 := by
  unfold nm_desc
  decide +kernel
theorem ds_X2_init : nm_desc in_X2_init 0 := by
  unfold nm_desc
  decide +kernel
theorem ds_X2_isFull : nm_desc in_X2_isFull 0 := by
  unfold nm_desc
  decide +kernel
theorem ds_X2_add : nm_desc in_X2_add 4 := by
  unfold nm_desc
  decide +kernel
theorem ds_X2_all : nm_desc in_X2_all 0 := by
  unfold nm_desc
  decide +kernel
theorem ds_X2_thatCanGo : nm_desc in_X2_thatCanGo 2 := by
  unfold nm_desc
  decide +kernel
theorem ds_X3_init : nm_desc in_X3_init 0 := by
  unfold nm_desc
  decide +kernel
theorem ds_X3_faultIn : nm_desc in_X3_faultIn 1 := by
  unfold nm_desc
  decide +kernel
theorem ds_X3_holds : nm_desc in_X3_holds 1 := by
  unfold nm_desc
  decide +kernel
theorem ds_X3_takes : nm_desc in_X3_takes 1 := by
  unfold nm_desc
  decide +kernel
theorem ds_X3_takesUnit : nm_desc in_X3_takesUnit 1 := by
  unfold nm_desc
  decide +kernel
theorem ds_X3_takesSign : nm_desc in_X3_takesSign 1 := by
  unfold nm_desc
  decide +kernel
theorem ds_X3_takesDigit : nm_desc in_X3_takesDigit 1 := by
  unfold nm_desc
  decide +kernel
theorem ds_X3_takesAfterUnit : nm_desc in_X3_takesAfterUnit 1 := by
  unfold nm_desc
  decide +kernel
theorem ds_X3_openTests : nm_desc in_X3_openTests 0 := by
  unfold nm_desc
  decide +kernel
theorem ds_X3_testsHold : nm_desc in_X3_testsHold 0 := by
  unfold nm_desc
  decide +kernel
theorem ds_X3_endNumber : nm_desc in_X3_endNumber 0 := by
  unfold nm_desc
  decide +kernel
theorem ds_X3_endUnit : nm_desc in_X3_endUnit 1 := by
  unfold nm_desc
  decide +kernel
theorem ds_X3_valueOf : nm_desc in_X3_valueOf 1 := by
  unfold nm_desc
  decide +kernel
theorem ds_X3_comparisonHolds : nm_desc in_X3_comparisonHolds 1 := by
  unfold nm_desc
  decide +kernel
theorem ds_X3_isDigit : nm_desc in_X3_isDigit 1 := by
  unfold nm_desc
  decide +kernel
theorem ds_X4_init : nm_desc in_X4_init 2 := by
  unfold nm_desc
  decide +kernel
theorem ds_X4_forget : nm_desc in_X4_forget 0 := by
  unfold nm_desc
  decide +kernel
theorem ds_X4_doubledCost : nm_desc in_X4_doubledCost 0 := by
  unfold nm_desc
  decide +kernel
theorem ds_X4_convoyOf : nm_desc in_X4_convoyOf 1 := by
  unfold nm_desc
  decide +kernel
theorem ds_X4_goodsOf : nm_desc in_X4_goodsOf 1 := by
  unfold nm_desc
  decide +kernel
theorem ds_X4_digitPlace : nm_desc in_X4_digitPlace 1 := by
  unfold nm_desc
  decide +kernel
theorem ds_X4_workOut : nm_desc in_X4_workOut 0 := by
  unfold nm_desc
  decide +kernel
theorem ds_X4_loadConvoy : nm_desc in_X4_loadConvoy 2 := by
  unfold nm_desc
  decide +kernel
theorem ds_X4_tryLoads : nm_desc in_X4_tryLoads 3 := by
  unfold nm_desc
  decide +kernel
theorem ds_X4_tryLoad : nm_desc in_X4_tryLoad 5 := by
  unfold nm_desc
  decide +kernel
theorem ds_X4_fits : nm_desc in_X4_fits 2 := by
  unfold nm_desc
  decide +kernel
theorem ds_X4_fitsOneMore : nm_desc in_X4_fitsOneMore 3 := by
  unfold nm_desc
  decide +kernel
theorem ds_X4_leastPrice : nm_desc in_X4_leastPrice 1 := by
  unfold nm_desc
  decide +kernel
theorem ds_X5_init : nm_desc in_X5_init 0 := by
  unfold nm_desc
  decide +kernel
theorem ds_X5_add : nm_desc in_X5_add 4 := by
  unfold nm_desc
  decide +kernel
theorem ds_X5_someHasBegun : nm_desc in_X5_someHasBegun 0 := by
  unfold nm_desc
  decide +kernel
theorem ds_X5_clear : nm_desc in_X5_clear 1 := by
  unfold nm_desc
  decide +kernel
theorem ds_X5_allThat : nm_desc in_X5_allThat 1 := by
  unfold nm_desc
  decide +kernel
theorem ds_X5_safeOnes : nm_desc in_X5_safeOnes 0 := by
  unfold nm_desc
  decide +kernel
theorem ds_X5_start : nm_desc in_X5_start 2 := by
  unfold nm_desc
  decide +kernel
theorem ds_X5_doneMinute : nm_desc in_X5_doneMinute 1 := by
  unfold nm_desc
  decide +kernel
theorem ds_X5_moveTo : nm_desc in_X5_moveTo 1 := by
  unfold nm_desc
  decide +kernel
theorem ds_X5_finishRunning : nm_desc in_X5_finishRunning 1 := by
  unfold nm_desc
  decide +kernel
theorem ds_X5_makeSafe : nm_desc in_X5_makeSafe 1 := by
  unfold nm_desc
  decide +kernel
theorem ds_X5_clearTakenBack : nm_desc in_X5_clearTakenBack 1 := by
  unfold nm_desc
  decide +kernel
theorem ds_X5_takeBack : nm_desc in_X5_takeBack 2 := by
  unfold nm_desc
  decide +kernel
theorem ds_X5_allThatIsNotKept : nm_desc in_X5_allThatIsNotKept 0 := by
  unfold nm_desc
  decide +kernel
theorem ds_X5_lastBegun : nm_desc in_X5_lastBegun 1 := by
  unfold nm_desc
  decide +kernel
theorem ds_X5_backUntil : nm_desc in_X5_backUntil 1 := by
  unfold nm_desc
  decide +kernel
theorem ds_X5_allDoneBy : nm_desc in_X5_allDoneBy 1 := by
  unfold nm_desc
  decide +kernel
theorem ds_X5_afterNeeds : nm_desc in_X5_afterNeeds 2 := by
  unfold nm_desc
  decide +kernel
theorem ds_X6_init : nm_desc in_X6_init 0 := by
  unfold nm_desc
  decide +kernel
theorem ds_X6_add : nm_desc in_X6_add 1 := by
  unfold nm_desc
  decide +kernel
theorem ds_X6_bytesIn : nm_desc in_X6_bytesIn 1 := by
  unfold nm_desc
  decide +kernel
theorem ds_X6_cut : nm_desc in_X6_cut 1 := by
  unfold nm_desc
  decide +kernel
theorem ds_X6_copy : nm_desc in_X6_copy 1 := by
  unfold nm_desc
  decide +kernel
theorem ds_X7_init : nm_desc in_X7_init 1 := by
  unfold nm_desc
  decide +kernel
theorem ds_X7_delay : nm_desc in_X7_delay 3 := by
  unfold nm_desc
  decide +kernel
theorem ds_X7_foresee : nm_desc in_X7_foresee 1 := by
  unfold nm_desc
  decide +kernel
theorem ds_X7_crossBridge : nm_desc in_X7_crossBridge 0 := by
  unfold nm_desc
  decide +kernel
theorem ds_X7_placeOf : nm_desc in_X7_placeOf 2 := by
  unfold nm_desc
  decide +kernel
theorem ds_X8_init : nm_desc in_X8_init 0 := by
  unfold nm_desc
  decide +kernel
theorem ds_X8_thing : nm_desc in_X8_thing 4 := by
  unfold nm_desc
  decide +kernel
theorem ds_X8_convoy : nm_desc in_X8_convoy 3 := by
  unfold nm_desc
  decide +kernel
theorem ds_X8_set : nm_desc in_X8_set 3 := by
  unfold nm_desc
  decide +kernel
theorem ds_X8_least : nm_desc in_X8_least 0 := by
  unfold nm_desc
  decide +kernel
theorem ds_X8_share : nm_desc in_X8_share 1 := by
  unfold nm_desc
  decide +kernel
theorem ds_X8_settle : nm_desc in_X8_settle 0 := by
  unfold nm_desc
  decide +kernel
theorem ds_X8_late : nm_desc in_X8_late 2 := by
  unfold nm_desc
  decide +kernel
theorem ds_X8_road : nm_desc in_X8_road 3 := by
  unfold nm_desc
  decide +kernel
theorem ds_X8_place : nm_desc in_X8_place 3 := by
  unfold nm_desc
  decide +kernel
theorem ds_X8_lacks : nm_desc in_X8_lacks 2 := by
  unfold nm_desc
  decide +kernel
theorem ds_X8_many : nm_desc in_X8_many 3 := by
  unfold nm_desc
  decide +kernel
theorem ds_X8_stage : nm_desc in_X8_stage 4 := by
  unfold nm_desc
  decide +kernel
theorem ds_X8_begin : nm_desc in_X8_begin 1 := by
  unfold nm_desc
  decide +kernel
theorem ds_X8_fail : nm_desc in_X8_fail 1 := by
  unfold nm_desc
  decide +kernel
theorem ds_X8_tick : nm_desc in_X8_tick 1 := by
  unfold nm_desc
  decide +kernel
theorem ds_X8_told : nm_desc in_X8_told 2 := by
  unfold nm_desc
  decide +kernel
theorem ds_X8_back : nm_desc in_X8_back 0 := by
  unfold nm_desc
  decide +kernel
theorem ds_X8_whole : nm_desc in_X8_whole 0 := by
  unfold nm_desc
  decide +kernel
theorem ds_X8_ready : nm_desc in_X8_ready 0 := by
  unfold nm_desc
  decide +kernel
theorem ds_X8_find : nm_desc in_X8_find 0 := by
  unfold nm_desc
  decide +kernel
theorem ds_X8_close : nm_desc in_X8_close 1 := by
  unfold nm_desc
  decide +kernel
theorem ds_X8_feed : nm_desc in_X8_feed 1 := by
  unfold nm_desc
  decide +kernel
theorem ds_X8_end : nm_desc in_X8_end 1 := by
  unfold nm_desc
  decide +kernel
theorem ds_X8_fault : nm_desc in_X8_fault 0 := by
  unfold nm_desc
  decide +kernel
theorem ds_X8_rule : nm_desc in_X8_rule 0 := by
  unfold nm_desc
  decide +kernel
theorem ds_X8_go : nm_desc in_X8_go 0 := by
  unfold nm_desc
  decide +kernel
theorem ds_X8_count : nm_desc in_X8_count 1 := by
  unfold nm_desc
  decide +kernel
theorem ds_X8_isThing : nm_desc in_X8_isThing 1 := by
  unfold nm_desc
  decide +kernel
theorem ds_X8_isConvoy : nm_desc in_X8_isConvoy 1 := by
  unfold nm_desc
  decide +kernel
theorem ds_X8_isStage : nm_desc in_X8_isStage 1 := by
  unfold nm_desc
  decide +kernel
theorem ds_X8_isKnown : nm_desc in_X8_isKnown 1 := by
  unfold nm_desc
  decide +kernel
theorem ds_X8_within : nm_desc in_X8_within 3 := by
  unfold nm_desc
  decide +kernel
theorem ds_X9_in : nm_desc in_X9_in 3 := by
  unfold nm_desc
  decide +kernel
theorem ds_X9_init : nm_desc in_X9_init 0 := by
  unfold nm_desc
  decide +kernel
theorem ds_X9_thing : nm_desc in_X9_thing 4 := by
  unfold nm_desc
  decide +kernel
theorem ds_X9_convoy : nm_desc in_X9_convoy 3 := by
  unfold nm_desc
  decide +kernel
theorem ds_X9_set : nm_desc in_X9_set 3 := by
  unfold nm_desc
  decide +kernel
theorem ds_X9_shareOn : nm_desc in_X9_shareOn 2 := by
  unfold nm_desc
  decide +kernel
theorem ds_X9_findBest : nm_desc in_X9_findBest 0 := by
  unfold nm_desc
  decide +kernel
theorem ds_X9_least : nm_desc in_X9_least 0 := by
  unfold nm_desc
  decide +kernel
theorem ds_X9_share : nm_desc in_X9_share 1 := by
  unfold nm_desc
  decide +kernel
theorem ds_X9_settle : nm_desc in_X9_settle 0 := by
  unfold nm_desc
  decide +kernel
theorem ds_X9_leaves : nm_desc in_X9_leaves 2 := by
  unfold nm_desc
  decide +kernel
theorem ds_X9_isAhead : nm_desc in_X9_isAhead 4 := by
  unfold nm_desc
  decide +kernel
theorem ds_X9_bridge : nm_desc in_X9_bridge 2 := by
  unfold nm_desc
  decide +kernel
theorem ds_X9_there : nm_desc in_X9_there 2 := by
  unfold nm_desc
  decide +kernel
theorem ds_X9_late : nm_desc in_X9_late 2 := by
  unfold nm_desc
  decide +kernel
theorem ds_X9_road : nm_desc in_X9_road 3 := by
  unfold nm_desc
  decide +kernel
theorem ds_X9_placeOf : nm_desc in_X9_placeOf 3 := by
  unfold nm_desc
  decide +kernel
theorem ds_X9_isAsked : nm_desc in_X9_isAsked 2 := by
  unfold nm_desc
  decide +kernel
theorem ds_X9_place : nm_desc in_X9_place 3 := by
  unfold nm_desc
  decide +kernel
theorem ds_X9_lacks : nm_desc in_X9_lacks 2 := by
  unfold nm_desc
  decide +kernel
theorem ds_X9_many : nm_desc in_X9_many 3 := by
  unfold nm_desc
  decide +kernel
theorem ds_X9_stage : nm_desc in_X9_stage 4 := by
  unfold nm_desc
  decide +kernel
theorem ds_X9_isStage : nm_desc in_X9_isStage 1 := by
  unfold nm_desc
  decide +kernel
theorem ds_X9_begin : nm_desc in_X9_begin 1 := by
  unfold nm_desc
  decide +kernel
theorem ds_X9_settleBack : nm_desc in_X9_settleBack 0 := by
  unfold nm_desc
  decide +kernel
theorem ds_X9_fail : nm_desc in_X9_fail 1 := by
  unfold nm_desc
  decide +kernel
theorem ds_X9_minute : nm_desc in_X9_minute 0 := by
  unfold nm_desc
  decide +kernel
theorem ds_X9_tick : nm_desc in_X9_tick 1 := by
  unfold nm_desc
  decide +kernel
theorem ds_X9_told : nm_desc in_X9_told 2 := by
  unfold nm_desc
  decide +kernel
theorem ds_X9_back : nm_desc in_X9_back 0 := by
  unfold nm_desc
  decide +kernel
theorem ds_X9_whole : nm_desc in_X9_whole 0 := by
  unfold nm_desc
  decide +kernel
theorem ds_X9_ready : nm_desc in_X9_ready 0 := by
  unfold nm_desc
  decide +kernel
theorem ds_X9_find : nm_desc in_X9_find 0 := by
  unfold nm_desc
  decide +kernel
theorem ds_X9_close : nm_desc in_X9_close 1 := by
  unfold nm_desc
  decide +kernel
theorem ds_X9_openMany : nm_desc in_X9_openMany 0 := by
  unfold nm_desc
  decide +kernel
theorem ds_X9_doneMany : nm_desc in_X9_doneMany 0 := by
  unfold nm_desc
  decide +kernel
theorem ds_X9_feed : nm_desc in_X9_feed 1 := by
  unfold nm_desc
  decide +kernel
theorem ds_X9_end : nm_desc in_X9_end 1 := by
  unfold nm_desc
  decide +kernel
theorem ds_X9_look : nm_desc in_X9_look 0 := by
  unfold nm_desc
  decide +kernel
theorem ds_X9_bad : nm_desc in_X9_bad 0 := by
  unfold nm_desc
  decide +kernel
theorem ds_X9_say : nm_desc in_X9_say 1 := by
  unfold nm_desc
  decide +kernel
theorem ds_X9_unit : nm_desc in_X9_unit 0 := by
  unfold nm_desc
  decide +kernel
theorem ds_X9_part : nm_desc in_X9_part 0 := by
  unfold nm_desc
  decide +kernel
theorem ds_X9_tests : nm_desc in_X9_tests 0 := by
  unfold nm_desc
  decide +kernel
theorem ds_X9_fault : nm_desc in_X9_fault 0 := by
  unfold nm_desc
  decide +kernel
theorem ds_X9_rule : nm_desc in_X9_rule 0 := by
  unfold nm_desc
  decide +kernel
theorem ds_X9_go : nm_desc in_X9_go 0 := by
  unfold nm_desc
  decide +kernel
theorem ds_X9_count : nm_desc in_X9_count 1 := by
  unfold nm_desc
  decide +kernel
theorem ds_J6_bitCount_0f7a4 : nm_desc in_J6_bitCount_0f7a4 1 := by
  unfold nm_desc
  decide +kernel
theorem kw_0 : Cond.methodLink "NightMove$Convoys" 3 ⟨"java/lang/Object", "<init>", "()V"⟩ ∈ nm_good := nm_good_of (List.mem_append_right _ (List.mem_of_getElem? (i := 55) (by decide +kernel))) (by decide +kernel)
theorem kw_1 : Cond.instanceMethod ⟨"java/lang/Object", "<init>", "()V"⟩ ∈ nm_good := nm_good_of (List.mem_append_right _ (List.mem_of_getElem? (i := 19) (by decide +kernel))) (by decide +kernel)
theorem kw_2 : Cond.code Lib.objectInit ⟨#[0xb1]⟩ 1 none ∈ nm_good := nm_good_of (List.mem_append_right _ (List.mem_of_getElem? (i := 20) (by decide +kernel))) (by decide +kernel)
theorem kw_3 : Cond.arrayClass .int ∈ nm_good := nm_good_of (List.mem_append_right _ (List.mem_of_getElem? (i := 49) (by decide +kernel))) (by decide +kernel)
theorem kw_4 : Cond.fieldLink "NightMove$Convoys" 11 "NightMove$Convoys" "leaves" "[I" ∈ nm_good := nm_good_of (List.mem_append_right _ (List.mem_of_getElem? (i := 56) (by decide +kernel))) (by decide +kernel)
theorem kw_5 : Cond.fieldLink "NightMove$Convoys" 15 "NightMove$Convoys" "room" "[I" ∈ nm_good := nm_good_of (List.mem_append_right _ (List.mem_of_getElem? (i := 59) (by decide +kernel))) (by decide +kernel)
theorem kw_6 : Cond.fieldLink "NightMove$Convoys" 18 "NightMove$Convoys" "limit" "[I" ∈ nm_good := nm_good_of (List.mem_append_right _ (List.mem_of_getElem? (i := 61) (by decide +kernel))) (by decide +kernel)
theorem kw_7 : Cond.fieldLink "NightMove$Convoys" 21 "NightMove$Convoys" "order" "[I" ∈ nm_good := nm_good_of (List.mem_append_right _ (List.mem_of_getElem? (i := 63) (by decide +kernel))) (by decide +kernel)
theorem kw_8 : Cond.fieldLink "NightMove$Convoys" 24 "NightMove$Convoys" "told" "I" ∈ nm_good := nm_good_of (List.mem_append_right _ (List.mem_of_getElem? (i := 65) (by decide +kernel))) (by decide +kernel)
theorem kw_9 : Cond.fieldLink "NightMove$Convoys" 28 "NightMove$Convoys" "way" "I" ∈ nm_good := nm_good_of (List.mem_append_right _ (List.mem_of_getElem? (i := 69) (by decide +kernel))) (by decide +kernel)
theorem kw_10 : Cond.fieldLink "NightMove$Convoys" 31 "NightMove$Convoys" "headway" "I" ∈ nm_good := nm_good_of (List.mem_append_right _ (List.mem_of_getElem? (i := 73) (by decide +kernel))) (by decide +kernel)
theorem kw_11 : Cond.code ⟨"NightMove$Convoys", "isFull", "()Z"⟩ cX0_isFull 1 (some .boolean) ∈ nm_good := nm_good_of (List.mem_append_right _ (List.mem_of_getElem? (i := 345) (by decide +kernel))) (by decide +kernel)
theorem kw_12 : Cond.methodLink "NightMove$Convoys" 34 ⟨"NightMove$Convoys", "isFull", "()Z"⟩ ∈ nm_good := nm_good_of (List.mem_append_right _ (List.mem_of_getElem? (i := 350) (by decide +kernel))) (by decide +kernel)
theorem kw_13 : Cond.instanceMethod ⟨"NightMove$Convoys", "isFull", "()Z"⟩ ∈ nm_good := nm_good_of (List.mem_append_right _ (List.mem_of_getElem? (i := 343) (by decide +kernel))) (by decide +kernel)
theorem kw_14 : Cond.selects "NightMove$Convoys" ⟨"NightMove$Convoys", "isFull", "()Z"⟩ ⟨"NightMove$Convoys", "isFull", "()Z"⟩ ∈ nm_good := nm_good_of (List.mem_append_right _ (List.mem_of_getElem? (i := 344) (by decide +kernel))) (by decide +kernel)
theorem kw_15 : Cond.initialized "NightMove$Convoys" ∈ nm_good := nm_good_of (List.mem_append_right _ (List.mem_of_getElem? (i := 3) (by decide +kernel))) (by decide +kernel)
theorem kw_16 : Cond.code ⟨"NightMove$Convoys", "putInOrder", "(I)V"⟩ cX0_putInOrder 3 none ∈ nm_good := nm_good_of (List.mem_append_right _ (List.mem_of_getElem? (i := 354) (by decide +kernel))) (by decide +kernel)
theorem kw_17 : Cond.methodLink "NightMove$Convoys" 38 ⟨"NightMove$Convoys", "putInOrder", "(I)V"⟩ ∈ nm_good := nm_good_of (List.mem_append_right _ (List.mem_of_getElem? (i := 351) (by decide +kernel))) (by decide +kernel)
theorem kw_18 : Cond.instanceMethod ⟨"NightMove$Convoys", "putInOrder", "(I)V"⟩ ∈ nm_good := nm_good_of (List.mem_append_right _ (List.mem_of_getElem? (i := 353) (by decide +kernel))) (by decide +kernel)
theorem kw_19 : Cond.selects "NightMove$Convoys" ⟨"NightMove$Convoys", "putInOrder", "(I)V"⟩ ⟨"NightMove$Convoys", "putInOrder", "(I)V"⟩ ∈ nm_good := nm_good_of (List.mem_append_left _ (List.mem_of_getElem? (i := 0) (by decide +kernel))) (by decide +kernel)
theorem kw_20 : Cond.methodLink "NightMove$Faults" 3 ⟨"java/lang/Object", "<init>", "()V"⟩ ∈ nm_good := nm_good_of (List.mem_append_right _ (List.mem_of_getElem? (i := 205) (by decide +kernel))) (by decide +kernel)
theorem kw_21 : Cond.arrayClass .boolean ∈ nm_good := nm_good_of (List.mem_append_right _ (List.mem_of_getElem? (i := 199) (by decide +kernel))) (by decide +kernel)
theorem kw_22 : Cond.fieldLink "NightMove$Faults" 11 "NightMove$Faults" "closed" "[Z" ∈ nm_good := nm_good_of (List.mem_append_right _ (List.mem_of_getElem? (i := 206) (by decide +kernel))) (by decide +kernel)
theorem kw_23 : Cond.fieldLink "NightMove$Faults" 15 "NightMove$Faults" "found" "I" ∈ nm_good := nm_good_of (List.mem_append_right _ (List.mem_of_getElem? (i := 207) (by decide +kernel))) (by decide +kernel)
theorem kw_24 : Cond.fieldLink "NightMove$Faults" 19 "NightMove$Faults" "open" "I" ∈ nm_good := nm_good_of (List.mem_append_right _ (List.mem_of_getElem? (i := 208) (by decide +kernel))) (by decide +kernel)
theorem kw_25 : Cond.code ⟨"NightMove", "within", "(III)Z"⟩ cX8_within 3 (some .boolean) ∈ nm_good := nm_good_of (List.mem_append_right _ (List.mem_of_getElem? (i := 328) (by decide +kernel))) (by decide +kernel)
theorem kw_26 : Cond.static ⟨"NightMove", "within", "(III)Z"⟩ ∈ nm_good := nm_good_of (List.mem_append_right _ (List.mem_of_getElem? (i := 327) (by decide +kernel))) (by decide +kernel)
theorem kw_27 : Cond.initialized "NightMove" ∈ nm_good := nm_good_of (List.mem_append_right _ (List.mem_of_getElem? (i := 1) (by decide +kernel))) (by decide +kernel)
theorem kw_28 : Cond.methodLink "NightMove$Goods" 5 ⟨"java/lang/Object", "<init>", "()V"⟩ ∈ nm_good := nm_good_of (List.mem_append_right _ (List.mem_of_getElem? (i := 26) (by decide +kernel))) (by decide +kernel)
theorem kw_29 : Cond.fieldLink "NightMove$Goods" 11 "NightMove$Goods" "last" "[I" ∈ nm_good := nm_good_of (List.mem_append_right _ (List.mem_of_getElem? (i := 27) (by decide +kernel))) (by decide +kernel)
theorem kw_30 : Cond.fieldLink "NightMove$Goods" 15 "NightMove$Goods" "first" "[I" ∈ nm_good := nm_good_of (List.mem_append_right _ (List.mem_of_getElem? (i := 28) (by decide +kernel))) (by decide +kernel)
theorem kw_31 : Cond.fieldLink "NightMove$Goods" 18 "NightMove$Goods" "load" "[I" ∈ nm_good := nm_good_of (List.mem_append_right _ (List.mem_of_getElem? (i := 30) (by decide +kernel))) (by decide +kernel)
theorem kw_32 : Cond.fieldLink "NightMove$Goods" 21 "NightMove$Goods" "cost" "[I" ∈ nm_good := nm_good_of (List.mem_append_right _ (List.mem_of_getElem? (i := 33) (by decide +kernel))) (by decide +kernel)
theorem kw_33 : Cond.fieldLink "NightMove$Goods" 24 "NightMove$Goods" "told" "I" ∈ nm_good := nm_good_of (List.mem_append_right _ (List.mem_of_getElem? (i := 35) (by decide +kernel))) (by decide +kernel)
theorem kw_34 : Cond.code ⟨"NightMove$Goods", "isFull", "()Z"⟩ cX2_isFull 1 (some .boolean) ∈ nm_good := nm_good_of (List.mem_append_right _ (List.mem_of_getElem? (i := 325) (by decide +kernel))) (by decide +kernel)
theorem kw_35 : Cond.methodLink "NightMove$Goods" 28 ⟨"NightMove$Goods", "isFull", "()Z"⟩ ∈ nm_good := nm_good_of (List.mem_append_right _ (List.mem_of_getElem? (i := 337) (by decide +kernel))) (by decide +kernel)
theorem kw_36 : Cond.instanceMethod ⟨"NightMove$Goods", "isFull", "()Z"⟩ ∈ nm_good := nm_good_of (List.mem_append_right _ (List.mem_of_getElem? (i := 323) (by decide +kernel))) (by decide +kernel)
theorem kw_37 : Cond.selects "NightMove$Goods" ⟨"NightMove$Goods", "isFull", "()Z"⟩ ⟨"NightMove$Goods", "isFull", "()Z"⟩ ∈ nm_good := nm_good_of (List.mem_append_right _ (List.mem_of_getElem? (i := 324) (by decide +kernel))) (by decide +kernel)
theorem kw_38 : Cond.initialized "NightMove$Goods" ∈ nm_good := nm_good_of (List.mem_append_right _ (List.mem_of_getElem? (i := 2) (by decide +kernel))) (by decide +kernel)
theorem kw_39 : Cond.methodLink "NightMove$Reader" 3 ⟨"java/lang/Object", "<init>", "()V"⟩ ∈ nm_good := nm_good_of (List.mem_append_right _ (List.mem_of_getElem? (i := 239) (by decide +kernel))) (by decide +kernel)
theorem kw_40 : Cond.fieldLink "NightMove$Reader" 9 "NightMove$Reader" "minutesLeft" "I" ∈ nm_good := nm_good_of (List.mem_append_right _ (List.mem_of_getElem? (i := 240) (by decide +kernel))) (by decide +kernel)
theorem kw_41 : Cond.fieldLink "NightMove$Reader" 15 "NightMove$Reader" "minutesToReady" "I" ∈ nm_good := nm_good_of (List.mem_append_right _ (List.mem_of_getElem? (i := 242) (by decide +kernel))) (by decide +kernel)
theorem kw_42 : Cond.fieldLink "NightMove$Reader" 18 "NightMove$Reader" "openFaults" "I" ∈ nm_good := nm_good_of (List.mem_append_right _ (List.mem_of_getElem? (i := 244) (by decide +kernel))) (by decide +kernel)
theorem kw_43 : Cond.fieldLink "NightMove$Reader" 21 "NightMove$Reader" "doneStages" "I" ∈ nm_good := nm_good_of (List.mem_append_right _ (List.mem_of_getElem? (i := 246) (by decide +kernel))) (by decide +kernel)
theorem kw_44 : Cond.fieldLink "NightMove$Reader" 24 "NightMove$Reader" "partHolds" "[Z" ∈ nm_good := nm_good_of (List.mem_append_right _ (List.mem_of_getElem? (i := 248) (by decide +kernel))) (by decide +kernel)
theorem kw_45 : Cond.fieldLink "NightMove$Reader" 28 "NightMove$Reader" "unitsHold" "[Z" ∈ nm_good := nm_good_of (List.mem_append_right _ (List.mem_of_getElem? (i := 249) (by decide +kernel))) (by decide +kernel)
theorem kw_46 : Cond.fieldLink "NightMove$Reader" 31 "NightMove$Reader" "depth" "I" ∈ nm_good := nm_good_of (List.mem_append_right _ (List.mem_of_getElem? (i := 250) (by decide +kernel))) (by decide +kernel)
theorem kw_47 : Cond.fieldLink "NightMove$Reader" 34 "NightMove$Reader" "expects" "I" ∈ nm_good := nm_good_of (List.mem_append_right _ (List.mem_of_getElem? (i := 251) (by decide +kernel))) (by decide +kernel)
theorem kw_48 : Cond.fieldLink "NightMove$Reader" 37 "NightMove$Reader" "letter" "C" ∈ nm_good := nm_good_of (List.mem_append_right _ (List.mem_of_getElem? (i := 252) (by decide +kernel))) (by decide +kernel)
theorem kw_49 : Cond.fieldLink "NightMove$Reader" 41 "NightMove$Reader" "sign" "C" ∈ nm_good := nm_good_of (List.mem_append_right _ (List.mem_of_getElem? (i := 253) (by decide +kernel))) (by decide +kernel)
theorem kw_50 : Cond.fieldLink "NightMove$Reader" 44 "NightMove$Reader" "number" "I" ∈ nm_good := nm_good_of (List.mem_append_right _ (List.mem_of_getElem? (i := 254) (by decide +kernel))) (by decide +kernel)
theorem kw_51 : Cond.fieldLink "NightMove$Reader" 47 "NightMove$Reader" "digits" "I" ∈ nm_good := nm_good_of (List.mem_append_right _ (List.mem_of_getElem? (i := 255) (by decide +kernel))) (by decide +kernel)
theorem kw_52 : Cond.code ⟨"NightMove$Reader", "openTests", "()V"⟩ cX3_openTests 1 none ∈ nm_good := nm_good_of (List.mem_append_right _ (List.mem_of_getElem? (i := 639) (by decide +kernel))) (by decide +kernel)
theorem kw_53 : Cond.methodLink "NightMove$Reader" 50 ⟨"NightMove$Reader", "openTests", "()V"⟩ ∈ nm_good := nm_good_of (List.mem_append_right _ (List.mem_of_getElem? (i := 636) (by decide +kernel))) (by decide +kernel)
theorem kw_54 : Cond.instanceMethod ⟨"NightMove$Reader", "openTests", "()V"⟩ ∈ nm_good := nm_good_of (List.mem_append_right _ (List.mem_of_getElem? (i := 638) (by decide +kernel))) (by decide +kernel)
theorem kw_55 : Cond.selects "NightMove$Reader" ⟨"NightMove$Reader", "openTests", "()V"⟩ ⟨"NightMove$Reader", "openTests", "()V"⟩ ∈ nm_good := nm_good_of (List.mem_append_left _ (List.mem_of_getElem? (i := 19) (by decide +kernel))) (by decide +kernel)
theorem kw_56 : Cond.initialized "NightMove$Reader" ∈ nm_good := nm_good_of (List.mem_append_right _ (List.mem_of_getElem? (i := 9) (by decide +kernel))) (by decide +kernel)
theorem kw_57 : Cond.fieldLink "NightMove$Reader" 53 "NightMove$Tape" "length" "I" ∈ nm_good := nm_good_of (List.mem_append_right _ (List.mem_of_getElem? (i := 226) (by decide +kernel))) (by decide +kernel)
theorem kw_58 : Cond.fieldLink "NightMove$Reader" 58 "NightMove$Tape" "bytes" "[C" ∈ nm_good := nm_good_of (List.mem_append_right _ (List.mem_of_getElem? (i := 224) (by decide +kernel))) (by decide +kernel)
theorem kw_59 : Cond.code ⟨"NightMove$Reader", "takes", "(C)Z"⟩ cX3_takes 2 (some .boolean) ∈ nm_good := nm_good_of (List.mem_append_right _ (List.mem_of_getElem? (i := 643) (by decide +kernel))) (by decide +kernel)
theorem kw_60 : Cond.methodLink "NightMove$Reader" 62 ⟨"NightMove$Reader", "takes", "(C)Z"⟩ ∈ nm_good := nm_good_of (List.mem_append_right _ (List.mem_of_getElem? (i := 640) (by decide +kernel))) (by decide +kernel)
theorem kw_61 : Cond.instanceMethod ⟨"NightMove$Reader", "takes", "(C)Z"⟩ ∈ nm_good := nm_good_of (List.mem_append_right _ (List.mem_of_getElem? (i := 642) (by decide +kernel))) (by decide +kernel)
theorem kw_62 : Cond.selects "NightMove$Reader" ⟨"NightMove$Reader", "takes", "(C)Z"⟩ ⟨"NightMove$Reader", "takes", "(C)Z"⟩ ∈ nm_good := nm_good_of (List.mem_append_left _ (List.mem_of_getElem? (i := 20) (by decide +kernel))) (by decide +kernel)
theorem kw_63 : Cond.code ⟨"NightMove$Reader", "faultIn", "(LNightMove$Tape;)I"⟩ cX3_faultIn 3 (some .int) ∈ nm_good := nm_good_of (List.mem_append_right _ (List.mem_of_getElem? (i := 635) (by decide +kernel))) (by decide +kernel)
theorem kw_64 : Cond.methodLink "NightMove$Reader" 66 ⟨"NightMove$Reader", "faultIn", "(LNightMove$Tape;)I"⟩ ∈ nm_good := nm_good_of (List.mem_append_right _ (List.mem_of_getElem? (i := 699) (by decide +kernel))) (by decide +kernel)
theorem kw_65 : Cond.instanceMethod ⟨"NightMove$Reader", "faultIn", "(LNightMove$Tape;)I"⟩ ∈ nm_good := nm_good_of (List.mem_append_right _ (List.mem_of_getElem? (i := 633) (by decide +kernel))) (by decide +kernel)
theorem kw_66 : Cond.selects "NightMove$Reader" ⟨"NightMove$Reader", "faultIn", "(LNightMove$Tape;)I"⟩ ⟨"NightMove$Reader", "faultIn", "(LNightMove$Tape;)I"⟩ ∈ nm_good := nm_good_of (List.mem_append_right _ (List.mem_of_getElem? (i := 634) (by decide +kernel))) (by decide +kernel)
theorem kw_67 : Cond.code ⟨"NightMove$Reader", "endNumber", "()V"⟩ cX3_endNumber 1 none ∈ nm_good := nm_good_of (List.mem_append_right _ (List.mem_of_getElem? (i := 650) (by decide +kernel))) (by decide +kernel)
theorem kw_68 : Cond.methodLink "NightMove$Reader" 70 ⟨"NightMove$Reader", "endNumber", "()V"⟩ ∈ nm_good := nm_good_of (List.mem_append_right _ (List.mem_of_getElem? (i := 647) (by decide +kernel))) (by decide +kernel)
theorem kw_69 : Cond.instanceMethod ⟨"NightMove$Reader", "endNumber", "()V"⟩ ∈ nm_good := nm_good_of (List.mem_append_right _ (List.mem_of_getElem? (i := 649) (by decide +kernel))) (by decide +kernel)
theorem kw_70 : Cond.selects "NightMove$Reader" ⟨"NightMove$Reader", "endNumber", "()V"⟩ ⟨"NightMove$Reader", "endNumber", "()V"⟩ ∈ nm_good := nm_good_of (List.mem_append_left _ (List.mem_of_getElem? (i := 21) (by decide +kernel))) (by decide +kernel)
theorem kw_71 : Cond.code ⟨"NightMove$Reader", "testsHold", "()Z"⟩ cX3_testsHold 1 (some .boolean) ∈ nm_good := nm_good_of (List.mem_append_right _ (List.mem_of_getElem? (i := 678) (by decide +kernel))) (by decide +kernel)
theorem kw_72 : Cond.methodLink "NightMove$Reader" 73 ⟨"NightMove$Reader", "testsHold", "()Z"⟩ ∈ nm_good := nm_good_of (List.mem_append_right _ (List.mem_of_getElem? (i := 675) (by decide +kernel))) (by decide +kernel)
theorem kw_73 : Cond.instanceMethod ⟨"NightMove$Reader", "testsHold", "()Z"⟩ ∈ nm_good := nm_good_of (List.mem_append_right _ (List.mem_of_getElem? (i := 677) (by decide +kernel))) (by decide +kernel)
theorem kw_74 : Cond.selects "NightMove$Reader" ⟨"NightMove$Reader", "testsHold", "()Z"⟩ ⟨"NightMove$Reader", "testsHold", "()Z"⟩ ∈ nm_good := nm_good_of (List.mem_append_left _ (List.mem_of_getElem? (i := 28) (by decide +kernel))) (by decide +kernel)
theorem kw_75 : Cond.code ⟨"NightMove$Reader", "isDigit", "(C)Z"⟩ cX3_isDigit 1 (some .boolean) ∈ nm_good := nm_good_of (List.mem_append_right _ (List.mem_of_getElem? (i := 646) (by decide +kernel))) (by decide +kernel)
theorem kw_76 : Cond.methodLink "NightMove$Reader" 77 ⟨"NightMove$Reader", "isDigit", "(C)Z"⟩ ∈ nm_good := nm_good_of (List.mem_append_right _ (List.mem_of_getElem? (i := 644) (by decide +kernel))) (by decide +kernel)
theorem kw_77 : Cond.static ⟨"NightMove$Reader", "isDigit", "(C)Z"⟩ ∈ nm_good := nm_good_of (List.mem_append_right _ (List.mem_of_getElem? (i := 645) (by decide +kernel))) (by decide +kernel)
theorem kw_78 : Cond.code ⟨"NightMove$Reader", "takesUnit", "(C)Z"⟩ cX3_takesUnit 2 (some .boolean) ∈ nm_good := nm_good_of (List.mem_append_right _ (List.mem_of_getElem? (i := 666) (by decide +kernel))) (by decide +kernel)
theorem kw_79 : Cond.methodLink "NightMove$Reader" 80 ⟨"NightMove$Reader", "takesUnit", "(C)Z"⟩ ∈ nm_good := nm_good_of (List.mem_append_right _ (List.mem_of_getElem? (i := 663) (by decide +kernel))) (by decide +kernel)
theorem kw_80 : Cond.instanceMethod ⟨"NightMove$Reader", "takesUnit", "(C)Z"⟩ ∈ nm_good := nm_good_of (List.mem_append_right _ (List.mem_of_getElem? (i := 665) (by decide +kernel))) (by decide +kernel)
theorem kw_81 : Cond.selects "NightMove$Reader" ⟨"NightMove$Reader", "takesUnit", "(C)Z"⟩ ⟨"NightMove$Reader", "takesUnit", "(C)Z"⟩ ∈ nm_good := nm_good_of (List.mem_append_left _ (List.mem_of_getElem? (i := 25) (by decide +kernel))) (by decide +kernel)
theorem kw_82 : Cond.code ⟨"NightMove$Reader", "takesSign", "(C)Z"⟩ cX3_takesSign 2 (some .boolean) ∈ nm_good := nm_good_of (List.mem_append_right _ (List.mem_of_getElem? (i := 670) (by decide +kernel))) (by decide +kernel)
theorem kw_83 : Cond.methodLink "NightMove$Reader" 83 ⟨"NightMove$Reader", "takesSign", "(C)Z"⟩ ∈ nm_good := nm_good_of (List.mem_append_right _ (List.mem_of_getElem? (i := 667) (by decide +kernel))) (by decide +kernel)
theorem kw_84 : Cond.instanceMethod ⟨"NightMove$Reader", "takesSign", "(C)Z"⟩ ∈ nm_good := nm_good_of (List.mem_append_right _ (List.mem_of_getElem? (i := 669) (by decide +kernel))) (by decide +kernel)
theorem kw_85 : Cond.selects "NightMove$Reader" ⟨"NightMove$Reader", "takesSign", "(C)Z"⟩ ⟨"NightMove$Reader", "takesSign", "(C)Z"⟩ ∈ nm_good := nm_good_of (List.mem_append_left _ (List.mem_of_getElem? (i := 26) (by decide +kernel))) (by decide +kernel)
theorem kw_86 : Cond.code ⟨"NightMove$Reader", "takesAfterUnit", "(C)Z"⟩ cX3_takesAfterUnit 3 (some .boolean) ∈ nm_good := nm_good_of (List.mem_append_right _ (List.mem_of_getElem? (i := 674) (by decide +kernel))) (by decide +kernel)
theorem kw_87 : Cond.methodLink "NightMove$Reader" 86 ⟨"NightMove$Reader", "takesAfterUnit", "(C)Z"⟩ ∈ nm_good := nm_good_of (List.mem_append_right _ (List.mem_of_getElem? (i := 671) (by decide +kernel))) (by decide +kernel)
theorem kw_88 : Cond.instanceMethod ⟨"NightMove$Reader", "takesAfterUnit", "(C)Z"⟩ ∈ nm_good := nm_good_of (List.mem_append_right _ (List.mem_of_getElem? (i := 673) (by decide +kernel))) (by decide +kernel)
theorem kw_89 : Cond.selects "NightMove$Reader" ⟨"NightMove$Reader", "takesAfterUnit", "(C)Z"⟩ ⟨"NightMove$Reader", "takesAfterUnit", "(C)Z"⟩ ∈ nm_good := nm_good_of (List.mem_append_left _ (List.mem_of_getElem? (i := 27) (by decide +kernel))) (by decide +kernel)
theorem kw_90 : Cond.code ⟨"NightMove$Reader", "takesDigit", "(C)Z"⟩ cX3_takesDigit 2 (some .boolean) ∈ nm_good := nm_good_of (List.mem_append_right _ (List.mem_of_getElem? (i := 682) (by decide +kernel))) (by decide +kernel)
theorem kw_91 : Cond.methodLink "NightMove$Reader" 89 ⟨"NightMove$Reader", "takesDigit", "(C)Z"⟩ ∈ nm_good := nm_good_of (List.mem_append_right _ (List.mem_of_getElem? (i := 679) (by decide +kernel))) (by decide +kernel)
theorem kw_92 : Cond.instanceMethod ⟨"NightMove$Reader", "takesDigit", "(C)Z"⟩ ∈ nm_good := nm_good_of (List.mem_append_right _ (List.mem_of_getElem? (i := 681) (by decide +kernel))) (by decide +kernel)
theorem kw_93 : Cond.selects "NightMove$Reader" ⟨"NightMove$Reader", "takesDigit", "(C)Z"⟩ ⟨"NightMove$Reader", "takesDigit", "(C)Z"⟩ ∈ nm_good := nm_good_of (List.mem_append_left _ (List.mem_of_getElem? (i := 29) (by decide +kernel))) (by decide +kernel)
theorem kw_94 : Cond.code ⟨"NightMove$Reader", "endUnit", "(Z)V"⟩ cX3_endUnit 2 none ∈ nm_good := nm_good_of (List.mem_append_right _ (List.mem_of_getElem? (i := 662) (by decide +kernel))) (by decide +kernel)
theorem kw_95 : Cond.methodLink "NightMove$Reader" 92 ⟨"NightMove$Reader", "endUnit", "(Z)V"⟩ ∈ nm_good := nm_good_of (List.mem_append_right _ (List.mem_of_getElem? (i := 659) (by decide +kernel))) (by decide +kernel)
theorem kw_96 : Cond.instanceMethod ⟨"NightMove$Reader", "endUnit", "(Z)V"⟩ ∈ nm_good := nm_good_of (List.mem_append_right _ (List.mem_of_getElem? (i := 661) (by decide +kernel))) (by decide +kernel)
theorem kw_97 : Cond.selects "NightMove$Reader" ⟨"NightMove$Reader", "endUnit", "(Z)V"⟩ ⟨"NightMove$Reader", "endUnit", "(Z)V"⟩ ∈ nm_good := nm_good_of (List.mem_append_left _ (List.mem_of_getElem? (i := 24) (by decide +kernel))) (by decide +kernel)
theorem kw_98 : Cond.code ⟨"NightMove$Reader", "valueOf", "(C)I"⟩ cX3_valueOf 2 (some .int) ∈ nm_good := nm_good_of (List.mem_append_right _ (List.mem_of_getElem? (i := 654) (by decide +kernel))) (by decide +kernel)
theorem kw_99 : Cond.methodLink "NightMove$Reader" 96 ⟨"NightMove$Reader", "valueOf", "(C)I"⟩ ∈ nm_good := nm_good_of (List.mem_append_right _ (List.mem_of_getElem? (i := 651) (by decide +kernel))) (by decide +kernel)
theorem kw_100 : Cond.instanceMethod ⟨"NightMove$Reader", "valueOf", "(C)I"⟩ ∈ nm_good := nm_good_of (List.mem_append_right _ (List.mem_of_getElem? (i := 653) (by decide +kernel))) (by decide +kernel)
theorem kw_101 : Cond.selects "NightMove$Reader" ⟨"NightMove$Reader", "valueOf", "(C)I"⟩ ⟨"NightMove$Reader", "valueOf", "(C)I"⟩ ∈ nm_good := nm_good_of (List.mem_append_left _ (List.mem_of_getElem? (i := 22) (by decide +kernel))) (by decide +kernel)
theorem kw_102 : Cond.code ⟨"NightMove$Reader", "comparisonHolds", "(I)Z"⟩ cX3_comparisonHolds 2 (some .boolean) ∈ nm_good := nm_good_of (List.mem_append_right _ (List.mem_of_getElem? (i := 658) (by decide +kernel))) (by decide +kernel)
theorem kw_103 : Cond.methodLink "NightMove$Reader" 100 ⟨"NightMove$Reader", "comparisonHolds", "(I)Z"⟩ ∈ nm_good := nm_good_of (List.mem_append_right _ (List.mem_of_getElem? (i := 655) (by decide +kernel))) (by decide +kernel)
theorem kw_104 : Cond.instanceMethod ⟨"NightMove$Reader", "comparisonHolds", "(I)Z"⟩ ∈ nm_good := nm_good_of (List.mem_append_right _ (List.mem_of_getElem? (i := 657) (by decide +kernel))) (by decide +kernel)
theorem kw_105 : Cond.selects "NightMove$Reader" ⟨"NightMove$Reader", "comparisonHolds", "(I)Z"⟩ ⟨"NightMove$Reader", "comparisonHolds", "(I)Z"⟩ ∈ nm_good := nm_good_of (List.mem_append_left _ (List.mem_of_getElem? (i := 23) (by decide +kernel))) (by decide +kernel)
theorem kw_106 : Cond.methodLink "NightMove$Sharing" 7 ⟨"java/lang/Object", "<init>", "()V"⟩ ∈ nm_good := nm_good_of (List.mem_append_right _ (List.mem_of_getElem? (i := 96) (by decide +kernel))) (by decide +kernel)
theorem kw_107 : Cond.fieldLink "NightMove$Sharing" 13 "NightMove$Sharing" "code" "[I" ∈ nm_good := nm_good_of (List.mem_append_right _ (List.mem_of_getElem? (i := 102) (by decide +kernel))) (by decide +kernel)
theorem kw_108 : Cond.arrayClass .long ∈ nm_good := nm_good_of (List.mem_append_right _ (List.mem_of_getElem? (i := 119) (by decide +kernel))) (by decide +kernel)
theorem kw_109 : Cond.fieldLink "NightMove$Sharing" 17 "NightMove$Sharing" "price" "[J" ∈ nm_good := nm_good_of (List.mem_append_right _ (List.mem_of_getElem? (i := 103) (by decide +kernel))) (by decide +kernel)
theorem kw_110 : Cond.fieldLink "NightMove$Sharing" 21 "NightMove$Sharing" "best" "J" ∈ nm_good := nm_good_of (List.mem_append_right _ (List.mem_of_getElem? (i := 104) (by decide +kernel))) (by decide +kernel)
theorem kw_111 : Cond.fieldLink "NightMove$Sharing" 25 "NightMove$Sharing" "known" "Z" ∈ nm_good := nm_good_of (List.mem_append_right _ (List.mem_of_getElem? (i := 105) (by decide +kernel))) (by decide +kernel)
theorem kw_112 : Cond.fieldLink "NightMove$Sharing" 29 "NightMove$Sharing" "goods" "LNightMove$Goods;" ∈ nm_good := nm_good_of (List.mem_append_right _ (List.mem_of_getElem? (i := 100) (by decide +kernel))) (by decide +kernel)
theorem kw_113 : Cond.fieldLink "NightMove$Sharing" 33 "NightMove$Sharing" "convoys" "LNightMove$Convoys;" ∈ nm_good := nm_good_of (List.mem_append_right _ (List.mem_of_getElem? (i := 101) (by decide +kernel))) (by decide +kernel)
theorem kw_114 : Cond.code ⟨"NightMove$Sharing", "digitPlace", "(I)I"⟩ cX4_digitPlace 1 (some .int) ∈ nm_good := nm_good_of (List.mem_append_right _ (List.mem_of_getElem? (i := 99) (by decide +kernel))) (by decide +kernel)
theorem kw_115 : Cond.methodLink "NightMove$Sharing" 37 ⟨"NightMove$Sharing", "digitPlace", "(I)I"⟩ ∈ nm_good := nm_good_of (List.mem_append_right _ (List.mem_of_getElem? (i := 97) (by decide +kernel))) (by decide +kernel)
theorem kw_116 : Cond.static ⟨"NightMove$Sharing", "digitPlace", "(I)I"⟩ ∈ nm_good := nm_good_of (List.mem_append_right _ (List.mem_of_getElem? (i := 98) (by decide +kernel))) (by decide +kernel)
theorem kw_117 : Cond.initialized "NightMove$Sharing" ∈ nm_good := nm_good_of (List.mem_append_right _ (List.mem_of_getElem? (i := 4) (by decide +kernel))) (by decide +kernel)
theorem kw_118 : Cond.fieldLink "NightMove$Sharing" 41 "NightMove$Goods" "told" "I" ∈ nm_good := nm_good_of (List.mem_append_right _ (List.mem_of_getElem? (i := 36) (by decide +kernel))) (by decide +kernel)
theorem kw_119 : Cond.code ⟨"NightMove$Sharing", "convoyOf", "(I)I"⟩ cX4_convoyOf 3 (some .int) ∈ nm_good := nm_good_of (List.mem_append_right _ (List.mem_of_getElem? (i := 425) (by decide +kernel))) (by decide +kernel)
theorem kw_120 : Cond.methodLink "NightMove$Sharing" 45 ⟨"NightMove$Sharing", "convoyOf", "(I)I"⟩ ∈ nm_good := nm_good_of (List.mem_append_right _ (List.mem_of_getElem? (i := 466) (by decide +kernel))) (by decide +kernel)
theorem kw_121 : Cond.instanceMethod ⟨"NightMove$Sharing", "convoyOf", "(I)I"⟩ ∈ nm_good := nm_good_of (List.mem_append_right _ (List.mem_of_getElem? (i := 423) (by decide +kernel))) (by decide +kernel)
theorem kw_122 : Cond.selects "NightMove$Sharing" ⟨"NightMove$Sharing", "convoyOf", "(I)I"⟩ ⟨"NightMove$Sharing", "convoyOf", "(I)I"⟩ ∈ nm_good := nm_good_of (List.mem_append_right _ (List.mem_of_getElem? (i := 424) (by decide +kernel))) (by decide +kernel)
theorem kw_123 : Cond.code ⟨"NightMove$Goods", "all", "()I"⟩ cX2_all 1 (some .int) ∈ nm_good := nm_good_of (List.mem_append_right _ (List.mem_of_getElem? (i := 370) (by decide +kernel))) (by decide +kernel)
theorem kw_124 : Cond.methodLink "NightMove$Sharing" 48 ⟨"NightMove$Goods", "all", "()I"⟩ ∈ nm_good := nm_good_of (List.mem_append_right _ (List.mem_of_getElem? (i := 367) (by decide +kernel))) (by decide +kernel)
theorem kw_125 : Cond.instanceMethod ⟨"NightMove$Goods", "all", "()I"⟩ ∈ nm_good := nm_good_of (List.mem_append_right _ (List.mem_of_getElem? (i := 368) (by decide +kernel))) (by decide +kernel)
theorem kw_126 : Cond.selects "NightMove$Goods" ⟨"NightMove$Goods", "all", "()I"⟩ ⟨"NightMove$Goods", "all", "()I"⟩ ∈ nm_good := nm_good_of (List.mem_append_right _ (List.mem_of_getElem? (i := 369) (by decide +kernel))) (by decide +kernel)
theorem kw_127 : Cond.constantLong "NightMove$Sharing" 52 1152921504606846976 ∈ nm_good := nm_good_of (List.mem_append_right _ (List.mem_of_getElem? (i := 371) (by decide +kernel))) (by decide +kernel)
theorem kw_128 : Cond.fieldLink "NightMove$Sharing" 54 "NightMove$Convoys" "told" "I" ∈ nm_good := nm_good_of (List.mem_append_right _ (List.mem_of_getElem? (i := 67) (by decide +kernel))) (by decide +kernel)
theorem kw_129 : Cond.code ⟨"NightMove$Sharing", "loadConvoy", "(II)V"⟩ cX4_loadConvoy 6 none ∈ nm_good := nm_good_of (List.mem_append_right _ (List.mem_of_getElem? (i := 375) (by decide +kernel))) (by decide +kernel)
theorem kw_130 : Cond.methodLink "NightMove$Sharing" 57 ⟨"NightMove$Sharing", "loadConvoy", "(II)V"⟩ ∈ nm_good := nm_good_of (List.mem_append_right _ (List.mem_of_getElem? (i := 372) (by decide +kernel))) (by decide +kernel)
theorem kw_131 : Cond.instanceMethod ⟨"NightMove$Sharing", "loadConvoy", "(II)V"⟩ ∈ nm_good := nm_good_of (List.mem_append_right _ (List.mem_of_getElem? (i := 374) (by decide +kernel))) (by decide +kernel)
theorem kw_132 : Cond.selects "NightMove$Sharing" ⟨"NightMove$Sharing", "loadConvoy", "(II)V"⟩ ⟨"NightMove$Sharing", "loadConvoy", "(II)V"⟩ ∈ nm_good := nm_good_of (List.mem_append_left _ (List.mem_of_getElem? (i := 1) (by decide +kernel))) (by decide +kernel)
theorem kw_133 : Cond.code ⟨"NightMove$Sharing", "leastPrice", "(I)J"⟩ cX4_leastPrice 7 (some .long) ∈ nm_good := nm_good_of (List.mem_append_right _ (List.mem_of_getElem? (i := 408) (by decide +kernel))) (by decide +kernel)
theorem kw_134 : Cond.methodLink "NightMove$Sharing" 61 ⟨"NightMove$Sharing", "leastPrice", "(I)J"⟩ ∈ nm_good := nm_good_of (List.mem_append_right _ (List.mem_of_getElem? (i := 405) (by decide +kernel))) (by decide +kernel)
theorem kw_135 : Cond.instanceMethod ⟨"NightMove$Sharing", "leastPrice", "(I)J"⟩ ∈ nm_good := nm_good_of (List.mem_append_right _ (List.mem_of_getElem? (i := 407) (by decide +kernel))) (by decide +kernel)
theorem kw_136 : Cond.selects "NightMove$Sharing" ⟨"NightMove$Sharing", "leastPrice", "(I)J"⟩ ⟨"NightMove$Sharing", "leastPrice", "(I)J"⟩ ∈ nm_good := nm_good_of (List.mem_append_left _ (List.mem_of_getElem? (i := 6) (by decide +kernel))) (by decide +kernel)
theorem kw_137 : Cond.fieldLink "NightMove$Sharing" 65 "NightMove$Convoys" "leaves" "[I" ∈ nm_good := nm_good_of (List.mem_append_right _ (List.mem_of_getElem? (i := 58) (by decide +kernel))) (by decide +kernel)
theorem kw_138 : Cond.fieldLink "NightMove$Sharing" 68 "NightMove$Convoys" "way" "I" ∈ nm_good := nm_good_of (List.mem_append_right _ (List.mem_of_getElem? (i := 72) (by decide +kernel))) (by decide +kernel)
theorem kw_139 : Cond.code ⟨"NightMove$Goods", "thatCanGo", "(II)I"⟩ cX2_thatCanGo 5 (some .int) ∈ nm_good := nm_good_of (List.mem_append_right _ (List.mem_of_getElem? (i := 379) (by decide +kernel))) (by decide +kernel)
theorem kw_140 : Cond.methodLink "NightMove$Sharing" 71 ⟨"NightMove$Goods", "thatCanGo", "(II)I"⟩ ∈ nm_good := nm_good_of (List.mem_append_right _ (List.mem_of_getElem? (i := 376) (by decide +kernel))) (by decide +kernel)
theorem kw_141 : Cond.instanceMethod ⟨"NightMove$Goods", "thatCanGo", "(II)I"⟩ ∈ nm_good := nm_good_of (List.mem_append_right _ (List.mem_of_getElem? (i := 377) (by decide +kernel))) (by decide +kernel)
theorem kw_142 : Cond.selects "NightMove$Goods" ⟨"NightMove$Goods", "thatCanGo", "(II)I"⟩ ⟨"NightMove$Goods", "thatCanGo", "(II)I"⟩ ∈ nm_good := nm_good_of (List.mem_append_right _ (List.mem_of_getElem? (i := 378) (by decide +kernel))) (by decide +kernel)
theorem kw_143 : Cond.code ⟨"NightMove$Sharing", "tryLoads", "(III)V"⟩ cX4_tryLoads 7 none ∈ nm_good := nm_good_of (List.mem_append_right _ (List.mem_of_getElem? (i := 383) (by decide +kernel))) (by decide +kernel)
theorem kw_144 : Cond.methodLink "NightMove$Sharing" 75 ⟨"NightMove$Sharing", "tryLoads", "(III)V"⟩ ∈ nm_good := nm_good_of (List.mem_append_right _ (List.mem_of_getElem? (i := 380) (by decide +kernel))) (by decide +kernel)
theorem kw_145 : Cond.instanceMethod ⟨"NightMove$Sharing", "tryLoads", "(III)V"⟩ ∈ nm_good := nm_good_of (List.mem_append_right _ (List.mem_of_getElem? (i := 382) (by decide +kernel))) (by decide +kernel)
theorem kw_146 : Cond.selects "NightMove$Sharing" ⟨"NightMove$Sharing", "tryLoads", "(III)V"⟩ ⟨"NightMove$Sharing", "tryLoads", "(III)V"⟩ ∈ nm_good := nm_good_of (List.mem_append_left _ (List.mem_of_getElem? (i := 2) (by decide +kernel))) (by decide +kernel)
theorem kw_147 : Cond.code ⟨"NightMove$Sharing", "tryLoad", "(IIIIJ)V"⟩ cX4_tryLoad 8 none ∈ nm_good := nm_good_of (List.mem_append_right _ (List.mem_of_getElem? (i := 387) (by decide +kernel))) (by decide +kernel)
theorem kw_148 : Cond.methodLink "NightMove$Sharing" 79 ⟨"NightMove$Sharing", "tryLoad", "(IIIIJ)V"⟩ ∈ nm_good := nm_good_of (List.mem_append_right _ (List.mem_of_getElem? (i := 384) (by decide +kernel))) (by decide +kernel)
theorem kw_149 : Cond.instanceMethod ⟨"NightMove$Sharing", "tryLoad", "(IIIIJ)V"⟩ ∈ nm_good := nm_good_of (List.mem_append_right _ (List.mem_of_getElem? (i := 386) (by decide +kernel))) (by decide +kernel)
theorem kw_150 : Cond.selects "NightMove$Sharing" ⟨"NightMove$Sharing", "tryLoad", "(IIIIJ)V"⟩ ⟨"NightMove$Sharing", "tryLoad", "(IIIIJ)V"⟩ ∈ nm_good := nm_good_of (List.mem_append_left _ (List.mem_of_getElem? (i := 3) (by decide +kernel))) (by decide +kernel)
theorem kw_151 : Cond.code ⟨"NightMove$Sharing", "fits", "(II)Z"⟩ cX4_fits 3 (some .boolean) ∈ nm_good := nm_good_of (List.mem_append_right _ (List.mem_of_getElem? (i := 391) (by decide +kernel))) (by decide +kernel)
theorem kw_152 : Cond.methodLink "NightMove$Sharing" 83 ⟨"NightMove$Sharing", "fits", "(II)Z"⟩ ∈ nm_good := nm_good_of (List.mem_append_right _ (List.mem_of_getElem? (i := 388) (by decide +kernel))) (by decide +kernel)
theorem kw_153 : Cond.instanceMethod ⟨"NightMove$Sharing", "fits", "(II)Z"⟩ ∈ nm_good := nm_good_of (List.mem_append_right _ (List.mem_of_getElem? (i := 390) (by decide +kernel))) (by decide +kernel)
theorem kw_154 : Cond.selects "NightMove$Sharing" ⟨"NightMove$Sharing", "fits", "(II)Z"⟩ ⟨"NightMove$Sharing", "fits", "(II)Z"⟩ ∈ nm_good := nm_good_of (List.mem_append_left _ (List.mem_of_getElem? (i := 4) (by decide +kernel))) (by decide +kernel)
theorem kw_155 : Cond.code ⟨"NightMove$Sharing", "fitsOneMore", "(III)Z"⟩ cX4_fitsOneMore 6 (some .boolean) ∈ nm_good := nm_good_of (List.mem_append_right _ (List.mem_of_getElem? (i := 401) (by decide +kernel))) (by decide +kernel)
theorem kw_156 : Cond.methodLink "NightMove$Sharing" 87 ⟨"NightMove$Sharing", "fitsOneMore", "(III)Z"⟩ ∈ nm_good := nm_good_of (List.mem_append_right _ (List.mem_of_getElem? (i := 398) (by decide +kernel))) (by decide +kernel)
theorem kw_157 : Cond.instanceMethod ⟨"NightMove$Sharing", "fitsOneMore", "(III)Z"⟩ ∈ nm_good := nm_good_of (List.mem_append_right _ (List.mem_of_getElem? (i := 400) (by decide +kernel))) (by decide +kernel)
theorem kw_158 : Cond.selects "NightMove$Sharing" ⟨"NightMove$Sharing", "fitsOneMore", "(III)Z"⟩ ⟨"NightMove$Sharing", "fitsOneMore", "(III)Z"⟩ ∈ nm_good := nm_good_of (List.mem_append_left _ (List.mem_of_getElem? (i := 5) (by decide +kernel))) (by decide +kernel)
theorem kw_159 : Cond.methodLink "NightMove$Sharing" 91 ⟨"java/lang/Math", "min", "(JJ)J"⟩ ∈ nm_good := nm_good_of (List.mem_append_right _ (List.mem_of_getElem? (i := 402) (by decide +kernel))) (by decide +kernel)
theorem kw_160 : Cond.static ⟨"java/lang/Math", "min", "(JJ)J"⟩ ∈ nm_good := nm_good_of (List.mem_append_right _ (List.mem_of_getElem? (i := 403) (by decide +kernel))) (by decide +kernel)
theorem kw_161 : Cond.initialized "java/lang/Math" ∈ nm_good := nm_good_of (List.mem_append_right _ (List.mem_of_getElem? (i := 12) (by decide +kernel))) (by decide +kernel)
theorem kw_162 : Cond.code Lib.MathLoose.min_long.x Lib.MathLoose.min_long.code 4 (some .long) ∈ nm_good := nm_good_of (List.mem_append_right _ (List.mem_of_getElem? (i := 404) (by decide +kernel))) (by decide +kernel)
theorem kw_163 : Cond.code ⟨"java/lang/Integer", "bitCount", "(I)I"⟩ cJ6_bitCount_0f7a4 1 (some .int) ∈ nm_good := nm_good_of (List.mem_append_right _ (List.mem_of_getElem? (i := 394) (by decide +kernel))) (by decide +kernel)
theorem kw_164 : Cond.methodLink "NightMove$Sharing" 97 ⟨"java/lang/Integer", "bitCount", "(I)I"⟩ ∈ nm_good := nm_good_of (List.mem_append_right _ (List.mem_of_getElem? (i := 392) (by decide +kernel))) (by decide +kernel)
theorem kw_165 : Cond.static ⟨"java/lang/Integer", "bitCount", "(I)I"⟩ ∈ nm_good := nm_good_of (List.mem_append_right _ (List.mem_of_getElem? (i := 393) (by decide +kernel))) (by decide +kernel)
theorem kw_166 : Cond.initialized "java/lang/Integer" ∈ nm_good := nm_good_of (List.mem_append_right _ (List.mem_of_getElem? (i := 11) (by decide +kernel))) (by decide +kernel)
theorem kw_167 : Cond.fieldLink "NightMove$Sharing" 102 "NightMove$Convoys" "room" "[I" ∈ nm_good := nm_good_of (List.mem_append_right _ (List.mem_of_getElem? (i := 60) (by decide +kernel))) (by decide +kernel)
theorem kw_168 : Cond.fieldLink "NightMove$Sharing" 105 "NightMove$Goods" "load" "[I" ∈ nm_good := nm_good_of (List.mem_append_right _ (List.mem_of_getElem? (i := 32) (by decide +kernel))) (by decide +kernel)
theorem kw_169 : Cond.fieldLink "NightMove$Sharing" 108 "NightMove$Convoys" "limit" "[I" ∈ nm_good := nm_good_of (List.mem_append_right _ (List.mem_of_getElem? (i := 62) (by decide +kernel))) (by decide +kernel)
theorem kw_170 : Cond.fieldLink "NightMove$Sharing" 111 "NightMove$Goods" "cost" "[I" ∈ nm_good := nm_good_of (List.mem_append_right _ (List.mem_of_getElem? (i := 34) (by decide +kernel))) (by decide +kernel)
theorem kw_171 : Cond.constantLong "NightMove$Sharing" 114 4 ∈ nm_good := nm_good_of (List.mem_append_right _ (List.mem_of_getElem? (i := 409) (by decide +kernel))) (by decide +kernel)
theorem kw_172 : Cond.methodLink "NightMove$Stages" 3 ⟨"java/lang/Object", "<init>", "()V"⟩ ∈ nm_good := nm_good_of (List.mem_append_right _ (List.mem_of_getElem? (i := 159) (by decide +kernel))) (by decide +kernel)
theorem kw_173 : Cond.fieldLink "NightMove$Stages" 11 "NightMove$Stages" "state" "[I" ∈ nm_good := nm_good_of (List.mem_append_right _ (List.mem_of_getElem? (i := 160) (by decide +kernel))) (by decide +kernel)
theorem kw_174 : Cond.fieldLink "NightMove$Stages" 15 "NightMove$Stages" "began" "[I" ∈ nm_good := nm_good_of (List.mem_append_right _ (List.mem_of_getElem? (i := 162) (by decide +kernel))) (by decide +kernel)
theorem kw_175 : Cond.fieldLink "NightMove$Stages" 18 "NightMove$Stages" "safe" "[Z" ∈ nm_good := nm_good_of (List.mem_append_right _ (List.mem_of_getElem? (i := 164) (by decide +kernel))) (by decide +kernel)
theorem kw_176 : Cond.fieldLink "NightMove$Stages" 22 "NightMove$Stages" "told" "I" ∈ nm_good := nm_good_of (List.mem_append_right _ (List.mem_of_getElem? (i := 166) (by decide +kernel))) (by decide +kernel)
theorem kw_177 : Cond.fieldLink "NightMove$Stages" 26 "NightMove$Stages" "failures" "I" ∈ nm_good := nm_good_of (List.mem_append_right _ (List.mem_of_getElem? (i := 168) (by decide +kernel))) (by decide +kernel)
theorem kw_178 : Cond.fieldLink "NightMove$Stages" 29 "NightMove$Stages" "minutes" "[I" ∈ nm_good := nm_good_of (List.mem_append_right _ (List.mem_of_getElem? (i := 170) (by decide +kernel))) (by decide +kernel)
theorem kw_179 : Cond.fieldLink "NightMove$Stages" 32 "NightMove$Stages" "needs" "[I" ∈ nm_good := nm_good_of (List.mem_append_right _ (List.mem_of_getElem? (i := 171) (by decide +kernel))) (by decide +kernel)
theorem kw_180 : Cond.fieldLink "NightMove$Stages" 35 "NightMove$Stages" "backMinutes" "[I" ∈ nm_good := nm_good_of (List.mem_append_right _ (List.mem_of_getElem? (i := 172) (by decide +kernel))) (by decide +kernel)
theorem kw_181 : Cond.fieldLink "NightMove$Stages" 38 "NightMove$Stages" "point" "[Z" ∈ nm_good := nm_good_of (List.mem_append_right _ (List.mem_of_getElem? (i := 173) (by decide +kernel))) (by decide +kernel)
theorem kw_182 : Cond.fieldLink "NightMove$Stages" 41 "NightMove$Stages" "backEnd" "[I" ∈ nm_good := nm_good_of (List.mem_append_right _ (List.mem_of_getElem? (i := 174) (by decide +kernel))) (by decide +kernel)
theorem kw_183 : Cond.fieldLink "NightMove$Stages" 44 "NightMove$Stages" "couldBeDone" "[I" ∈ nm_good := nm_good_of (List.mem_append_right _ (List.mem_of_getElem? (i := 175) (by decide +kernel))) (by decide +kernel)
theorem kw_184 : Cond.code ⟨"NightMove$Stages", "someHasBegun", "()Z"⟩ cX5_someHasBegun 1 (some .boolean) ∈ nm_good := nm_good_of (List.mem_append_right _ (List.mem_of_getElem? (i := 497) (by decide +kernel))) (by decide +kernel)
theorem kw_185 : Cond.methodLink "NightMove$Stages" 47 ⟨"NightMove$Stages", "someHasBegun", "()Z"⟩ ∈ nm_good := nm_good_of (List.mem_append_right _ (List.mem_of_getElem? (i := 494) (by decide +kernel))) (by decide +kernel)
theorem kw_186 : Cond.instanceMethod ⟨"NightMove$Stages", "someHasBegun", "()Z"⟩ ∈ nm_good := nm_good_of (List.mem_append_right _ (List.mem_of_getElem? (i := 496) (by decide +kernel))) (by decide +kernel)
theorem kw_187 : Cond.selects "NightMove$Stages" ⟨"NightMove$Stages", "someHasBegun", "()Z"⟩ ⟨"NightMove$Stages", "someHasBegun", "()Z"⟩ ∈ nm_good := nm_good_of (List.mem_append_left _ (List.mem_of_getElem? (i := 11) (by decide +kernel))) (by decide +kernel)
theorem kw_188 : Cond.initialized "NightMove$Stages" ∈ nm_good := nm_good_of (List.mem_append_right _ (List.mem_of_getElem? (i := 6) (by decide +kernel))) (by decide +kernel)
theorem kw_189 : Cond.code ⟨"NightMove$Stages", "clear", "(I)V"⟩ cX5_clear 2 none ∈ nm_good := nm_good_of (List.mem_append_right _ (List.mem_of_getElem? (i := 505) (by decide +kernel))) (by decide +kernel)
theorem kw_190 : Cond.methodLink "NightMove$Stages" 51 ⟨"NightMove$Stages", "clear", "(I)V"⟩ ∈ nm_good := nm_good_of (List.mem_append_right _ (List.mem_of_getElem? (i := 502) (by decide +kernel))) (by decide +kernel)
theorem kw_191 : Cond.instanceMethod ⟨"NightMove$Stages", "clear", "(I)V"⟩ ∈ nm_good := nm_good_of (List.mem_append_right _ (List.mem_of_getElem? (i := 504) (by decide +kernel))) (by decide +kernel)
theorem kw_192 : Cond.selects "NightMove$Stages" ⟨"NightMove$Stages", "clear", "(I)V"⟩ ⟨"NightMove$Stages", "clear", "(I)V"⟩ ∈ nm_good := nm_good_of (List.mem_append_left _ (List.mem_of_getElem? (i := 12) (by decide +kernel))) (by decide +kernel)
theorem kw_193 : Cond.code ⟨"NightMove$Stages", "allThat", "(I)I"⟩ cX5_allThat 4 (some .int) ∈ nm_good := nm_good_of (List.mem_append_right _ (List.mem_of_getElem? (i := 501) (by decide +kernel))) (by decide +kernel)
theorem kw_194 : Cond.methodLink "NightMove$Stages" 55 ⟨"NightMove$Stages", "allThat", "(I)I"⟩ ∈ nm_good := nm_good_of (List.mem_append_right _ (List.mem_of_getElem? (i := 498) (by decide +kernel))) (by decide +kernel)
theorem kw_195 : Cond.instanceMethod ⟨"NightMove$Stages", "allThat", "(I)I"⟩ ∈ nm_good := nm_good_of (List.mem_append_right _ (List.mem_of_getElem? (i := 499) (by decide +kernel))) (by decide +kernel)
theorem kw_196 : Cond.selects "NightMove$Stages" ⟨"NightMove$Stages", "allThat", "(I)I"⟩ ⟨"NightMove$Stages", "allThat", "(I)I"⟩ ∈ nm_good := nm_good_of (List.mem_append_right _ (List.mem_of_getElem? (i := 500) (by decide +kernel))) (by decide +kernel)
theorem kw_197 : Cond.code ⟨"NightMove$Stages", "finishRunning", "(I)I"⟩ cX5_finishRunning 5 (some .int) ∈ nm_good := nm_good_of (List.mem_append_right _ (List.mem_of_getElem? (i := 549) (by decide +kernel))) (by decide +kernel)
theorem kw_198 : Cond.methodLink "NightMove$Stages" 59 ⟨"NightMove$Stages", "finishRunning", "(I)I"⟩ ∈ nm_good := nm_good_of (List.mem_append_right _ (List.mem_of_getElem? (i := 546) (by decide +kernel))) (by decide +kernel)
theorem kw_199 : Cond.instanceMethod ⟨"NightMove$Stages", "finishRunning", "(I)I"⟩ ∈ nm_good := nm_good_of (List.mem_append_right _ (List.mem_of_getElem? (i := 548) (by decide +kernel))) (by decide +kernel)
theorem kw_200 : Cond.selects "NightMove$Stages" ⟨"NightMove$Stages", "finishRunning", "(I)I"⟩ ⟨"NightMove$Stages", "finishRunning", "(I)I"⟩ ∈ nm_good := nm_good_of (List.mem_append_left _ (List.mem_of_getElem? (i := 16) (by decide +kernel))) (by decide +kernel)
theorem kw_201 : Cond.code ⟨"NightMove$Stages", "makeSafe", "(I)V"⟩ cX5_makeSafe 3 none ∈ nm_good := nm_good_of (List.mem_append_right _ (List.mem_of_getElem? (i := 558) (by decide +kernel))) (by decide +kernel)
theorem kw_202 : Cond.methodLink "NightMove$Stages" 62 ⟨"NightMove$Stages", "makeSafe", "(I)V"⟩ ∈ nm_good := nm_good_of (List.mem_append_right _ (List.mem_of_getElem? (i := 555) (by decide +kernel))) (by decide +kernel)
theorem kw_203 : Cond.instanceMethod ⟨"NightMove$Stages", "makeSafe", "(I)V"⟩ ∈ nm_good := nm_good_of (List.mem_append_right _ (List.mem_of_getElem? (i := 557) (by decide +kernel))) (by decide +kernel)
theorem kw_204 : Cond.selects "NightMove$Stages" ⟨"NightMove$Stages", "makeSafe", "(I)V"⟩ ⟨"NightMove$Stages", "makeSafe", "(I)V"⟩ ∈ nm_good := nm_good_of (List.mem_append_left _ (List.mem_of_getElem? (i := 17) (by decide +kernel))) (by decide +kernel)
theorem kw_205 : Cond.code ⟨"NightMove$Stages", "clearTakenBack", "(I)V"⟩ cX5_clearTakenBack 3 none ∈ nm_good := nm_good_of (List.mem_append_right _ (List.mem_of_getElem? (i := 537) (by decide +kernel))) (by decide +kernel)
theorem kw_206 : Cond.methodLink "NightMove$Stages" 65 ⟨"NightMove$Stages", "clearTakenBack", "(I)V"⟩ ∈ nm_good := nm_good_of (List.mem_append_right _ (List.mem_of_getElem? (i := 534) (by decide +kernel))) (by decide +kernel)
theorem kw_207 : Cond.instanceMethod ⟨"NightMove$Stages", "clearTakenBack", "(I)V"⟩ ∈ nm_good := nm_good_of (List.mem_append_right _ (List.mem_of_getElem? (i := 536) (by decide +kernel))) (by decide +kernel)
theorem kw_208 : Cond.selects "NightMove$Stages" ⟨"NightMove$Stages", "clearTakenBack", "(I)V"⟩ ⟨"NightMove$Stages", "clearTakenBack", "(I)V"⟩ ∈ nm_good := nm_good_of (List.mem_append_left _ (List.mem_of_getElem? (i := 15) (by decide +kernel))) (by decide +kernel)
theorem kw_209 : Cond.code ⟨"NightMove$Stages", "doneMinute", "(I)I"⟩ cX5_doneMinute 2 (some .int) ∈ nm_good := nm_good_of (List.mem_append_right _ (List.mem_of_getElem? (i := 553) (by decide +kernel))) (by decide +kernel)
theorem kw_210 : Cond.methodLink "NightMove$Stages" 68 ⟨"NightMove$Stages", "doneMinute", "(I)I"⟩ ∈ nm_good := nm_good_of (List.mem_append_right _ (List.mem_of_getElem? (i := 550) (by decide +kernel))) (by decide +kernel)
theorem kw_211 : Cond.instanceMethod ⟨"NightMove$Stages", "doneMinute", "(I)I"⟩ ∈ nm_good := nm_good_of (List.mem_append_right _ (List.mem_of_getElem? (i := 551) (by decide +kernel))) (by decide +kernel)
theorem kw_212 : Cond.selects "NightMove$Stages" ⟨"NightMove$Stages", "doneMinute", "(I)I"⟩ ⟨"NightMove$Stages", "doneMinute", "(I)I"⟩ ∈ nm_good := nm_good_of (List.mem_append_right _ (List.mem_of_getElem? (i := 552) (by decide +kernel))) (by decide +kernel)
theorem kw_213 : Cond.methodLink "NightMove$Stages" 71 ⟨"java/lang/Math", "max", "(II)I"⟩ ∈ nm_good := nm_good_of (List.mem_append_right _ (List.mem_of_getElem? (i := 554) (by decide +kernel))) (by decide +kernel)
theorem kw_214 : Cond.static ⟨"java/lang/Math", "max", "(II)I"⟩ ∈ nm_good := nm_good_of (List.mem_append_right _ (List.mem_of_getElem? (i := 451) (by decide +kernel))) (by decide +kernel)
theorem kw_215 : Cond.code Lib.Math.max.name Lib.Math.max.code 2 (some .int) ∈ nm_good := nm_good_of (List.mem_append_right _ (List.mem_of_getElem? (i := 452) (by decide +kernel))) (by decide +kernel)
theorem kw_216 : Cond.code ⟨"NightMove$Stages", "allThatIsNotKept", "()I"⟩ cX5_allThatIsNotKept 3 (some .int) ∈ nm_good := nm_good_of (List.mem_append_right _ (List.mem_of_getElem? (i := 529) (by decide +kernel))) (by decide +kernel)
theorem kw_217 : Cond.methodLink "NightMove$Stages" 77 ⟨"NightMove$Stages", "allThatIsNotKept", "()I"⟩ ∈ nm_good := nm_good_of (List.mem_append_right _ (List.mem_of_getElem? (i := 526) (by decide +kernel))) (by decide +kernel)
theorem kw_218 : Cond.instanceMethod ⟨"NightMove$Stages", "allThatIsNotKept", "()I"⟩ ∈ nm_good := nm_good_of (List.mem_append_right _ (List.mem_of_getElem? (i := 528) (by decide +kernel))) (by decide +kernel)
theorem kw_219 : Cond.selects "NightMove$Stages" ⟨"NightMove$Stages", "allThatIsNotKept", "()I"⟩ ⟨"NightMove$Stages", "allThatIsNotKept", "()I"⟩ ∈ nm_good := nm_good_of (List.mem_append_left _ (List.mem_of_getElem? (i := 14) (by decide +kernel))) (by decide +kernel)
theorem kw_220 : Cond.code ⟨"NightMove$Stages", "lastBegun", "(I)I"⟩ cX5_lastBegun 5 (some .int) ∈ nm_good := nm_good_of (List.mem_append_right _ (List.mem_of_getElem? (i := 533) (by decide +kernel))) (by decide +kernel)
theorem kw_221 : Cond.methodLink "NightMove$Stages" 81 ⟨"NightMove$Stages", "lastBegun", "(I)I"⟩ ∈ nm_good := nm_good_of (List.mem_append_right _ (List.mem_of_getElem? (i := 530) (by decide +kernel))) (by decide +kernel)
theorem kw_222 : Cond.instanceMethod ⟨"NightMove$Stages", "lastBegun", "(I)I"⟩ ∈ nm_good := nm_good_of (List.mem_append_right _ (List.mem_of_getElem? (i := 531) (by decide +kernel))) (by decide +kernel)
theorem kw_223 : Cond.selects "NightMove$Stages" ⟨"NightMove$Stages", "lastBegun", "(I)I"⟩ ⟨"NightMove$Stages", "lastBegun", "(I)I"⟩ ∈ nm_good := nm_good_of (List.mem_append_right _ (List.mem_of_getElem? (i := 532) (by decide +kernel))) (by decide +kernel)
theorem kw_224 : Cond.code ⟨"NightMove$Stages", "backUntil", "(I)I"⟩ cX5_backUntil 4 (some .int) ∈ nm_good := nm_good_of (List.mem_append_right _ (List.mem_of_getElem? (i := 577) (by decide +kernel))) (by decide +kernel)
theorem kw_225 : Cond.methodLink "NightMove$Stages" 84 ⟨"NightMove$Stages", "backUntil", "(I)I"⟩ ∈ nm_good := nm_good_of (List.mem_append_right _ (List.mem_of_getElem? (i := 586) (by decide +kernel))) (by decide +kernel)
theorem kw_226 : Cond.instanceMethod ⟨"NightMove$Stages", "backUntil", "(I)I"⟩ ∈ nm_good := nm_good_of (List.mem_append_right _ (List.mem_of_getElem? (i := 575) (by decide +kernel))) (by decide +kernel)
theorem kw_227 : Cond.selects "NightMove$Stages" ⟨"NightMove$Stages", "backUntil", "(I)I"⟩ ⟨"NightMove$Stages", "backUntil", "(I)I"⟩ ∈ nm_good := nm_good_of (List.mem_append_right _ (List.mem_of_getElem? (i := 576) (by decide +kernel))) (by decide +kernel)
theorem kw_228 : Cond.code ⟨"NightMove$Stages", "afterNeeds", "(II)I"⟩ cX5_afterNeeds 5 (some .int) ∈ nm_good := nm_good_of (List.mem_append_right _ (List.mem_of_getElem? (i := 590) (by decide +kernel))) (by decide +kernel)
theorem kw_229 : Cond.methodLink "NightMove$Stages" 87 ⟨"NightMove$Stages", "afterNeeds", "(II)I"⟩ ∈ nm_good := nm_good_of (List.mem_append_right _ (List.mem_of_getElem? (i := 587) (by decide +kernel))) (by decide +kernel)
theorem kw_230 : Cond.instanceMethod ⟨"NightMove$Stages", "afterNeeds", "(II)I"⟩ ∈ nm_good := nm_good_of (List.mem_append_right _ (List.mem_of_getElem? (i := 589) (by decide +kernel))) (by decide +kernel)
theorem kw_231 : Cond.selects "NightMove$Stages" ⟨"NightMove$Stages", "afterNeeds", "(II)I"⟩ ⟨"NightMove$Stages", "afterNeeds", "(II)I"⟩ ∈ nm_good := nm_good_of (List.mem_append_left _ (List.mem_of_getElem? (i := 18) (by decide +kernel))) (by decide +kernel)
theorem kw_232 : Cond.methodLink "NightMove$Tape" 3 ⟨"java/lang/Object", "<init>", "()V"⟩ ∈ nm_good := nm_good_of (List.mem_append_right _ (List.mem_of_getElem? (i := 222) (by decide +kernel))) (by decide +kernel)
theorem kw_233 : Cond.arrayClass .char ∈ nm_good := nm_good_of (List.mem_append_right _ (List.mem_of_getElem? (i := 233) (by decide +kernel))) (by decide +kernel)
theorem kw_234 : Cond.fieldLink "NightMove$Tape" 11 "NightMove$Tape" "bytes" "[C" ∈ nm_good := nm_good_of (List.mem_append_right _ (List.mem_of_getElem? (i := 223) (by decide +kernel))) (by decide +kernel)
theorem kw_235 : Cond.fieldLink "NightMove$Tape" 15 "NightMove$Tape" "length" "I" ∈ nm_good := nm_good_of (List.mem_append_right _ (List.mem_of_getElem? (i := 225) (by decide +kernel))) (by decide +kernel)
theorem kw_236 : Cond.code ⟨"NightMove$Tape", "bytesIn", "(I)I"⟩ cX6_bytesIn 3 (some .int) ∈ nm_good := nm_good_of (List.mem_append_right _ (List.mem_of_getElem? (i := 618) (by decide +kernel))) (by decide +kernel)
theorem kw_237 : Cond.methodLink "NightMove$Tape" 19 ⟨"NightMove$Tape", "bytesIn", "(I)I"⟩ ∈ nm_good := nm_good_of (List.mem_append_right _ (List.mem_of_getElem? (i := 616) (by decide +kernel))) (by decide +kernel)
theorem kw_238 : Cond.static ⟨"NightMove$Tape", "bytesIn", "(I)I"⟩ ∈ nm_good := nm_good_of (List.mem_append_right _ (List.mem_of_getElem? (i := 617) (by decide +kernel))) (by decide +kernel)
theorem kw_239 : Cond.initialized "NightMove$Tape" ∈ nm_good := nm_good_of (List.mem_append_right _ (List.mem_of_getElem? (i := 8) (by decide +kernel))) (by decide +kernel)
theorem kw_240 : Cond.methodLink "NightMove$Traffic" 1 ⟨"java/lang/Object", "<init>", "()V"⟩ ∈ nm_good := nm_good_of (List.mem_append_right _ (List.mem_of_getElem? (i := 125) (by decide +kernel))) (by decide +kernel)
theorem kw_241 : Cond.fieldLink "NightMove$Traffic" 9 "NightMove$Traffic" "leaves" "[I" ∈ nm_good := nm_good_of (List.mem_append_right _ (List.mem_of_getElem? (i := 126) (by decide +kernel))) (by decide +kernel)
theorem kw_242 : Cond.fieldLink "NightMove$Traffic" 15 "NightMove$Traffic" "bridge" "[I" ∈ nm_good := nm_good_of (List.mem_append_right _ (List.mem_of_getElem? (i := 128) (by decide +kernel))) (by decide +kernel)
theorem kw_243 : Cond.fieldLink "NightMove$Traffic" 18 "NightMove$Traffic" "there" "[I" ∈ nm_good := nm_good_of (List.mem_append_right _ (List.mem_of_getElem? (i := 130) (by decide +kernel))) (by decide +kernel)
theorem kw_244 : Cond.fieldLink "NightMove$Traffic" 21 "NightMove$Traffic" "lateConvoy" "[I" ∈ nm_good := nm_good_of (List.mem_append_right _ (List.mem_of_getElem? (i := 133) (by decide +kernel))) (by decide +kernel)
theorem kw_245 : Cond.fieldLink "NightMove$Traffic" 24 "NightMove$Traffic" "lateMinutes" "[I" ∈ nm_good := nm_good_of (List.mem_append_right _ (List.mem_of_getElem? (i := 134) (by decide +kernel))) (by decide +kernel)
theorem kw_246 : Cond.fieldLink "NightMove$Traffic" 27 "NightMove$Traffic" "lateTold" "[I" ∈ nm_good := nm_good_of (List.mem_append_right _ (List.mem_of_getElem? (i := 135) (by decide +kernel))) (by decide +kernel)
theorem kw_247 : Cond.fieldLink "NightMove$Traffic" 30 "NightMove$Traffic" "lates" "I" ∈ nm_good := nm_good_of (List.mem_append_right _ (List.mem_of_getElem? (i := 136) (by decide +kernel))) (by decide +kernel)
theorem kw_248 : Cond.fieldLink "NightMove$Traffic" 34 "NightMove$Traffic" "convoys" "LNightMove$Convoys;" ∈ nm_good := nm_good_of (List.mem_append_right _ (List.mem_of_getElem? (i := 132) (by decide +kernel))) (by decide +kernel)
theorem kw_249 : Cond.code ⟨"NightMove$Traffic", "foresee", "(I)V"⟩ cX7_foresee 3 none ∈ nm_good := nm_good_of (List.mem_append_right _ (List.mem_of_getElem? (i := 445) (by decide +kernel))) (by decide +kernel)
theorem kw_250 : Cond.methodLink "NightMove$Traffic" 38 ⟨"NightMove$Traffic", "foresee", "(I)V"⟩ ∈ nm_good := nm_good_of (List.mem_append_right _ (List.mem_of_getElem? (i := 442) (by decide +kernel))) (by decide +kernel)
theorem kw_251 : Cond.instanceMethod ⟨"NightMove$Traffic", "foresee", "(I)V"⟩ ∈ nm_good := nm_good_of (List.mem_append_right _ (List.mem_of_getElem? (i := 443) (by decide +kernel))) (by decide +kernel)
theorem kw_252 : Cond.selects "NightMove$Traffic" ⟨"NightMove$Traffic", "foresee", "(I)V"⟩ ⟨"NightMove$Traffic", "foresee", "(I)V"⟩ ∈ nm_good := nm_good_of (List.mem_append_right _ (List.mem_of_getElem? (i := 444) (by decide +kernel))) (by decide +kernel)
theorem kw_253 : Cond.initialized "NightMove$Traffic" ∈ nm_good := nm_good_of (List.mem_append_right _ (List.mem_of_getElem? (i := 5) (by decide +kernel))) (by decide +kernel)
theorem kw_254 : Cond.fieldLink "NightMove$Traffic" 42 "NightMove$Convoys" "told" "I" ∈ nm_good := nm_good_of (List.mem_append_right _ (List.mem_of_getElem? (i := 66) (by decide +kernel))) (by decide +kernel)
theorem kw_255 : Cond.fieldLink "NightMove$Traffic" 45 "NightMove$Convoys" "leaves" "[I" ∈ nm_good := nm_good_of (List.mem_append_right _ (List.mem_of_getElem? (i := 57) (by decide +kernel))) (by decide +kernel)
theorem kw_256 : Cond.code ⟨"NightMove$Traffic", "crossBridge", "()V"⟩ cX7_crossBridge 5 none ∈ nm_good := nm_good_of (List.mem_append_right _ (List.mem_of_getElem? (i := 449) (by decide +kernel))) (by decide +kernel)
theorem kw_257 : Cond.methodLink "NightMove$Traffic" 46 ⟨"NightMove$Traffic", "crossBridge", "()V"⟩ ∈ nm_good := nm_good_of (List.mem_append_right _ (List.mem_of_getElem? (i := 446) (by decide +kernel))) (by decide +kernel)
theorem kw_258 : Cond.instanceMethod ⟨"NightMove$Traffic", "crossBridge", "()V"⟩ ∈ nm_good := nm_good_of (List.mem_append_right _ (List.mem_of_getElem? (i := 448) (by decide +kernel))) (by decide +kernel)
theorem kw_259 : Cond.selects "NightMove$Traffic" ⟨"NightMove$Traffic", "crossBridge", "()V"⟩ ⟨"NightMove$Traffic", "crossBridge", "()V"⟩ ∈ nm_good := nm_good_of (List.mem_append_left _ (List.mem_of_getElem? (i := 9) (by decide +kernel))) (by decide +kernel)
theorem kw_260 : Cond.fieldLink "NightMove$Traffic" 49 "NightMove$Convoys" "way" "I" ∈ nm_good := nm_good_of (List.mem_append_right _ (List.mem_of_getElem? (i := 70) (by decide +kernel))) (by decide +kernel)
theorem kw_261 : Cond.fieldLink "NightMove$Traffic" 52 "NightMove$Convoys" "order" "[I" ∈ nm_good := nm_good_of (List.mem_append_right _ (List.mem_of_getElem? (i := 64) (by decide +kernel))) (by decide +kernel)
theorem kw_262 : Cond.methodLink "NightMove$Traffic" 55 ⟨"java/lang/Math", "max", "(II)I"⟩ ∈ nm_good := nm_good_of (List.mem_append_right _ (List.mem_of_getElem? (i := 450) (by decide +kernel))) (by decide +kernel)
theorem kw_263 : Cond.fieldLink "NightMove$Traffic" 61 "NightMove$Convoys" "headway" "I" ∈ nm_good := nm_good_of (List.mem_append_right _ (List.mem_of_getElem? (i := 75) (by decide +kernel))) (by decide +kernel)
theorem kw_264 : Cond.methodLink "NightMove" 1 ⟨"java/lang/Object", "<init>", "()V"⟩ ∈ nm_good := nm_good_of (List.mem_append_right _ (List.mem_of_getElem? (i := 18) (by decide +kernel))) (by decide +kernel)
theorem kw_265 : Cond.classLink "NightMove" 7 "NightMove$Goods" ∈ nm_good := nm_good_of (List.mem_append_right _ (List.mem_of_getElem? (i := 21) (by decide +kernel))) (by decide +kernel)
theorem kw_266 : Cond.instantiable "NightMove$Goods" 5 ∈ nm_good := nm_good_of (List.mem_append_right _ (List.mem_of_getElem? (i := 22) (by decide +kernel))) (by decide +kernel)
theorem kw_267 : Cond.code ⟨"NightMove$Goods", "<init>", "()V"⟩ cX2_init 1 none ∈ nm_good := nm_good_of (List.mem_append_right _ (List.mem_of_getElem? (i := 25) (by decide +kernel))) (by decide +kernel)
theorem kw_268 : Cond.instanceMethod ⟨"NightMove$Goods", "<init>", "()V"⟩ ∈ nm_good := nm_good_of (List.mem_append_right _ (List.mem_of_getElem? (i := 24) (by decide +kernel))) (by decide +kernel)
theorem kw_269 : Cond.classLink "NightMove" 10 "NightMove$Convoys" ∈ nm_good := nm_good_of (List.mem_append_right _ (List.mem_of_getElem? (i := 50) (by decide +kernel))) (by decide +kernel)
theorem kw_270 : Cond.instantiable "NightMove$Convoys" 7 ∈ nm_good := nm_good_of (List.mem_append_right _ (List.mem_of_getElem? (i := 51) (by decide +kernel))) (by decide +kernel)
theorem kw_271 : Cond.code ⟨"NightMove$Convoys", "<init>", "()V"⟩ cX0_init 1 none ∈ nm_good := nm_good_of (List.mem_append_right _ (List.mem_of_getElem? (i := 54) (by decide +kernel))) (by decide +kernel)
theorem kw_272 : Cond.instanceMethod ⟨"NightMove$Convoys", "<init>", "()V"⟩ ∈ nm_good := nm_good_of (List.mem_append_right _ (List.mem_of_getElem? (i := 53) (by decide +kernel))) (by decide +kernel)
theorem kw_273 : Cond.fieldLink "NightMove" 13 "NightMove" "goods" "LNightMove$Goods;" ∈ nm_good := nm_good_of (List.mem_append_right _ (List.mem_of_getElem? (i := 281) (by decide +kernel))) (by decide +kernel)
theorem kw_274 : Cond.fieldLink "NightMove" 19 "NightMove" "convoys" "LNightMove$Convoys;" ∈ nm_good := nm_good_of (List.mem_append_right _ (List.mem_of_getElem? (i := 282) (by decide +kernel))) (by decide +kernel)
theorem kw_275 : Cond.classLink "NightMove" 23 "NightMove$Sharing" ∈ nm_good := nm_good_of (List.mem_append_right _ (List.mem_of_getElem? (i := 91) (by decide +kernel))) (by decide +kernel)
theorem kw_276 : Cond.instantiable "NightMove$Sharing" 6 ∈ nm_good := nm_good_of (List.mem_append_right _ (List.mem_of_getElem? (i := 92) (by decide +kernel))) (by decide +kernel)
theorem kw_277 : Cond.code ⟨"NightMove$Sharing", "<init>", "(LNightMove$Goods;LNightMove$Convoys;)V"⟩ cX4_init 6 none ∈ nm_good := nm_good_of (List.mem_append_right _ (List.mem_of_getElem? (i := 95) (by decide +kernel))) (by decide +kernel)
theorem kw_278 : Cond.methodLink "NightMove" 25 ⟨"NightMove$Sharing", "<init>", "(LNightMove$Goods;LNightMove$Convoys;)V"⟩ ∈ nm_good := nm_good_of (List.mem_append_right _ (List.mem_of_getElem? (i := 93) (by decide +kernel))) (by decide +kernel)
theorem kw_279 : Cond.instanceMethod ⟨"NightMove$Sharing", "<init>", "(LNightMove$Goods;LNightMove$Convoys;)V"⟩ ∈ nm_good := nm_good_of (List.mem_append_right _ (List.mem_of_getElem? (i := 94) (by decide +kernel))) (by decide +kernel)
theorem kw_280 : Cond.fieldLink "NightMove" 28 "NightMove" "sharing" "LNightMove$Sharing;" ∈ nm_good := nm_good_of (List.mem_append_right _ (List.mem_of_getElem? (i := 283) (by decide +kernel))) (by decide +kernel)
theorem kw_281 : Cond.classLink "NightMove" 32 "NightMove$Traffic" ∈ nm_good := nm_good_of (List.mem_append_right _ (List.mem_of_getElem? (i := 120) (by decide +kernel))) (by decide +kernel)
theorem kw_282 : Cond.instantiable "NightMove$Traffic" 8 ∈ nm_good := nm_good_of (List.mem_append_right _ (List.mem_of_getElem? (i := 121) (by decide +kernel))) (by decide +kernel)
theorem kw_283 : Cond.code ⟨"NightMove$Traffic", "<init>", "(LNightMove$Convoys;)V"⟩ cX7_init 2 none ∈ nm_good := nm_good_of (List.mem_append_right _ (List.mem_of_getElem? (i := 124) (by decide +kernel))) (by decide +kernel)
theorem kw_284 : Cond.methodLink "NightMove" 34 ⟨"NightMove$Traffic", "<init>", "(LNightMove$Convoys;)V"⟩ ∈ nm_good := nm_good_of (List.mem_append_right _ (List.mem_of_getElem? (i := 122) (by decide +kernel))) (by decide +kernel)
theorem kw_285 : Cond.instanceMethod ⟨"NightMove$Traffic", "<init>", "(LNightMove$Convoys;)V"⟩ ∈ nm_good := nm_good_of (List.mem_append_right _ (List.mem_of_getElem? (i := 123) (by decide +kernel))) (by decide +kernel)
theorem kw_286 : Cond.fieldLink "NightMove" 37 "NightMove" "traffic" "LNightMove$Traffic;" ∈ nm_good := nm_good_of (List.mem_append_right _ (List.mem_of_getElem? (i := 284) (by decide +kernel))) (by decide +kernel)
theorem kw_287 : Cond.classLink "NightMove" 41 "NightMove$Stages" ∈ nm_good := nm_good_of (List.mem_append_right _ (List.mem_of_getElem? (i := 154) (by decide +kernel))) (by decide +kernel)
theorem kw_288 : Cond.instantiable "NightMove$Stages" 11 ∈ nm_good := nm_good_of (List.mem_append_right _ (List.mem_of_getElem? (i := 155) (by decide +kernel))) (by decide +kernel)
theorem kw_289 : Cond.code ⟨"NightMove$Stages", "<init>", "()V"⟩ cX5_init 1 none ∈ nm_good := nm_good_of (List.mem_append_right _ (List.mem_of_getElem? (i := 158) (by decide +kernel))) (by decide +kernel)
theorem kw_290 : Cond.instanceMethod ⟨"NightMove$Stages", "<init>", "()V"⟩ ∈ nm_good := nm_good_of (List.mem_append_right _ (List.mem_of_getElem? (i := 157) (by decide +kernel))) (by decide +kernel)
theorem kw_291 : Cond.fieldLink "NightMove" 44 "NightMove" "stages" "LNightMove$Stages;" ∈ nm_good := nm_good_of (List.mem_append_right _ (List.mem_of_getElem? (i := 285) (by decide +kernel))) (by decide +kernel)
theorem kw_292 : Cond.classLink "NightMove" 48 "NightMove$Faults" ∈ nm_good := nm_good_of (List.mem_append_right _ (List.mem_of_getElem? (i := 200) (by decide +kernel))) (by decide +kernel)
theorem kw_293 : Cond.instantiable "NightMove$Faults" 3 ∈ nm_good := nm_good_of (List.mem_append_right _ (List.mem_of_getElem? (i := 201) (by decide +kernel))) (by decide +kernel)
theorem kw_294 : Cond.initialized "NightMove$Faults" ∈ nm_good := nm_good_of (List.mem_append_right _ (List.mem_of_getElem? (i := 7) (by decide +kernel))) (by decide +kernel)
theorem kw_295 : Cond.code ⟨"NightMove$Faults", "<init>", "()V"⟩ cX1_init 1 none ∈ nm_good := nm_good_of (List.mem_append_right _ (List.mem_of_getElem? (i := 204) (by decide +kernel))) (by decide +kernel)
theorem kw_296 : Cond.instanceMethod ⟨"NightMove$Faults", "<init>", "()V"⟩ ∈ nm_good := nm_good_of (List.mem_append_right _ (List.mem_of_getElem? (i := 203) (by decide +kernel))) (by decide +kernel)
theorem kw_297 : Cond.fieldLink "NightMove" 51 "NightMove" "faults" "LNightMove$Faults;" ∈ nm_good := nm_good_of (List.mem_append_right _ (List.mem_of_getElem? (i := 286) (by decide +kernel))) (by decide +kernel)
theorem kw_298 : Cond.classLink "NightMove" 55 "NightMove$Tape" ∈ nm_good := nm_good_of (List.mem_append_right _ (List.mem_of_getElem? (i := 217) (by decide +kernel))) (by decide +kernel)
theorem kw_299 : Cond.instantiable "NightMove$Tape" 2 ∈ nm_good := nm_good_of (List.mem_append_right _ (List.mem_of_getElem? (i := 218) (by decide +kernel))) (by decide +kernel)
theorem kw_300 : Cond.code ⟨"NightMove$Tape", "<init>", "()V"⟩ cX6_init 1 none ∈ nm_good := nm_good_of (List.mem_append_right _ (List.mem_of_getElem? (i := 221) (by decide +kernel))) (by decide +kernel)
theorem kw_301 : Cond.instanceMethod ⟨"NightMove$Tape", "<init>", "()V"⟩ ∈ nm_good := nm_good_of (List.mem_append_right _ (List.mem_of_getElem? (i := 220) (by decide +kernel))) (by decide +kernel)
theorem kw_302 : Cond.fieldLink "NightMove" 58 "NightMove" "tape" "LNightMove$Tape;" ∈ nm_good := nm_good_of (List.mem_append_right _ (List.mem_of_getElem? (i := 287) (by decide +kernel))) (by decide +kernel)
theorem kw_303 : Cond.fieldLink "NightMove" 62 "NightMove" "ruleText" "LNightMove$Tape;" ∈ nm_good := nm_good_of (List.mem_append_right _ (List.mem_of_getElem? (i := 288) (by decide +kernel))) (by decide +kernel)
theorem kw_304 : Cond.classLink "NightMove" 65 "NightMove$Reader" ∈ nm_good := nm_good_of (List.mem_append_right _ (List.mem_of_getElem? (i := 234) (by decide +kernel))) (by decide +kernel)
theorem kw_305 : Cond.instantiable "NightMove$Reader" 12 ∈ nm_good := nm_good_of (List.mem_append_right _ (List.mem_of_getElem? (i := 235) (by decide +kernel))) (by decide +kernel)
theorem kw_306 : Cond.code ⟨"NightMove$Reader", "<init>", "()V"⟩ cX3_init 1 none ∈ nm_good := nm_good_of (List.mem_append_right _ (List.mem_of_getElem? (i := 238) (by decide +kernel))) (by decide +kernel)
theorem kw_307 : Cond.instanceMethod ⟨"NightMove$Reader", "<init>", "()V"⟩ ∈ nm_good := nm_good_of (List.mem_append_right _ (List.mem_of_getElem? (i := 237) (by decide +kernel))) (by decide +kernel)
theorem kw_308 : Cond.fieldLink "NightMove" 68 "NightMove" "reader" "LNightMove$Reader;" ∈ nm_good := nm_good_of (List.mem_append_right _ (List.mem_of_getElem? (i := 289) (by decide +kernel))) (by decide +kernel)
theorem kw_309 : Cond.fieldLink "NightMove" 72 "NightMove" "now" "I" ∈ nm_good := nm_good_of (List.mem_append_right _ (List.mem_of_getElem? (i := 290) (by decide +kernel))) (by decide +kernel)
theorem kw_310 : Cond.fieldLink "NightMove" 76 "NightMove" "moveEnd" "I" ∈ nm_good := nm_good_of (List.mem_append_right _ (List.mem_of_getElem? (i := 291) (by decide +kernel))) (by decide +kernel)
theorem kw_311 : Cond.fieldLink "NightMove" 79 "NightMove" "settled" "Z" ∈ nm_good := nm_good_of (List.mem_append_right _ (List.mem_of_getElem? (i := 292) (by decide +kernel))) (by decide +kernel)
theorem kw_312 : Cond.methodLink "NightMove" 83 ⟨"NightMove$Goods", "isFull", "()Z"⟩ ∈ nm_good := nm_good_of (List.mem_append_right _ (List.mem_of_getElem? (i := 322) (by decide +kernel))) (by decide +kernel)
theorem kw_313 : Cond.methodLink "NightMove" 87 ⟨"NightMove", "within", "(III)Z"⟩ ∈ nm_good := nm_good_of (List.mem_append_right _ (List.mem_of_getElem? (i := 326) (by decide +kernel))) (by decide +kernel)
theorem kw_314 : Cond.code ⟨"NightMove$Sharing", "forget", "()V"⟩ cX4_forget 1 none ∈ nm_good := nm_good_of (List.mem_append_right _ (List.mem_of_getElem? (i := 332) (by decide +kernel))) (by decide +kernel)
theorem kw_315 : Cond.methodLink "NightMove" 91 ⟨"NightMove$Sharing", "forget", "()V"⟩ ∈ nm_good := nm_good_of (List.mem_append_right _ (List.mem_of_getElem? (i := 329) (by decide +kernel))) (by decide +kernel)
theorem kw_316 : Cond.instanceMethod ⟨"NightMove$Sharing", "forget", "()V"⟩ ∈ nm_good := nm_good_of (List.mem_append_right _ (List.mem_of_getElem? (i := 330) (by decide +kernel))) (by decide +kernel)
theorem kw_317 : Cond.selects "NightMove$Sharing" ⟨"NightMove$Sharing", "forget", "()V"⟩ ⟨"NightMove$Sharing", "forget", "()V"⟩ ∈ nm_good := nm_good_of (List.mem_append_right _ (List.mem_of_getElem? (i := 331) (by decide +kernel))) (by decide +kernel)
theorem kw_318 : Cond.code ⟨"NightMove$Goods", "add", "(IIII)I"⟩ cX2_add 7 (some .int) ∈ nm_good := nm_good_of (List.mem_append_right _ (List.mem_of_getElem? (i := 336) (by decide +kernel))) (by decide +kernel)
theorem kw_319 : Cond.methodLink "NightMove" 94 ⟨"NightMove$Goods", "add", "(IIII)I"⟩ ∈ nm_good := nm_good_of (List.mem_append_right _ (List.mem_of_getElem? (i := 333) (by decide +kernel))) (by decide +kernel)
theorem kw_320 : Cond.instanceMethod ⟨"NightMove$Goods", "add", "(IIII)I"⟩ ∈ nm_good := nm_good_of (List.mem_append_right _ (List.mem_of_getElem? (i := 334) (by decide +kernel))) (by decide +kernel)
theorem kw_321 : Cond.selects "NightMove$Goods" ⟨"NightMove$Goods", "add", "(IIII)I"⟩ ⟨"NightMove$Goods", "add", "(IIII)I"⟩ ∈ nm_good := nm_good_of (List.mem_append_right _ (List.mem_of_getElem? (i := 335) (by decide +kernel))) (by decide +kernel)
theorem kw_322 : Cond.methodLink "NightMove" 98 ⟨"NightMove$Convoys", "isFull", "()Z"⟩ ∈ nm_good := nm_good_of (List.mem_append_right _ (List.mem_of_getElem? (i := 342) (by decide +kernel))) (by decide +kernel)
theorem kw_323 : Cond.code ⟨"NightMove$Convoys", "add", "(III)I"⟩ cX0_add 4 (some .int) ∈ nm_good := nm_good_of (List.mem_append_right _ (List.mem_of_getElem? (i := 349) (by decide +kernel))) (by decide +kernel)
theorem kw_324 : Cond.methodLink "NightMove" 99 ⟨"NightMove$Convoys", "add", "(III)I"⟩ ∈ nm_good := nm_good_of (List.mem_append_right _ (List.mem_of_getElem? (i := 346) (by decide +kernel))) (by decide +kernel)
theorem kw_325 : Cond.instanceMethod ⟨"NightMove$Convoys", "add", "(III)I"⟩ ∈ nm_good := nm_good_of (List.mem_append_right _ (List.mem_of_getElem? (i := 347) (by decide +kernel))) (by decide +kernel)
theorem kw_326 : Cond.selects "NightMove$Convoys" ⟨"NightMove$Convoys", "add", "(III)I"⟩ ⟨"NightMove$Convoys", "add", "(III)I"⟩ ∈ nm_good := nm_good_of (List.mem_append_right _ (List.mem_of_getElem? (i := 348) (by decide +kernel))) (by decide +kernel)
theorem kw_327 : Cond.fieldLink "NightMove" 102 "NightMove$Convoys" "way" "I" ∈ nm_good := nm_good_of (List.mem_append_right _ (List.mem_of_getElem? (i := 71) (by decide +kernel))) (by decide +kernel)
theorem kw_328 : Cond.fieldLink "NightMove" 105 "NightMove$Convoys" "headway" "I" ∈ nm_good := nm_good_of (List.mem_append_right _ (List.mem_of_getElem? (i := 74) (by decide +kernel))) (by decide +kernel)
theorem kw_329 : Cond.code ⟨"NightMove$Sharing", "workOut", "()V"⟩ cX4_workOut 3 none ∈ nm_good := nm_good_of (List.mem_append_right _ (List.mem_of_getElem? (i := 366) (by decide +kernel))) (by decide +kernel)
theorem kw_330 : Cond.methodLink "NightMove" 108 ⟨"NightMove$Sharing", "workOut", "()V"⟩ ∈ nm_good := nm_good_of (List.mem_append_right _ (List.mem_of_getElem? (i := 363) (by decide +kernel))) (by decide +kernel)
theorem kw_331 : Cond.instanceMethod ⟨"NightMove$Sharing", "workOut", "()V"⟩ ∈ nm_good := nm_good_of (List.mem_append_right _ (List.mem_of_getElem? (i := 364) (by decide +kernel))) (by decide +kernel)
theorem kw_332 : Cond.selects "NightMove$Sharing" ⟨"NightMove$Sharing", "workOut", "()V"⟩ ⟨"NightMove$Sharing", "workOut", "()V"⟩ ∈ nm_good := nm_good_of (List.mem_append_right _ (List.mem_of_getElem? (i := 365) (by decide +kernel))) (by decide +kernel)
theorem kw_333 : Cond.code ⟨"NightMove$Sharing", "doubledCost", "()I"⟩ cX4_doubledCost 1 (some .int) ∈ nm_good := nm_good_of (List.mem_append_right _ (List.mem_of_getElem? (i := 413) (by decide +kernel))) (by decide +kernel)
theorem kw_334 : Cond.methodLink "NightMove" 111 ⟨"NightMove$Sharing", "doubledCost", "()I"⟩ ∈ nm_good := nm_good_of (List.mem_append_right _ (List.mem_of_getElem? (i := 410) (by decide +kernel))) (by decide +kernel)
theorem kw_335 : Cond.instanceMethod ⟨"NightMove$Sharing", "doubledCost", "()I"⟩ ∈ nm_good := nm_good_of (List.mem_append_right _ (List.mem_of_getElem? (i := 411) (by decide +kernel))) (by decide +kernel)
theorem kw_336 : Cond.selects "NightMove$Sharing" ⟨"NightMove$Sharing", "doubledCost", "()I"⟩ ⟨"NightMove$Sharing", "doubledCost", "()I"⟩ ∈ nm_good := nm_good_of (List.mem_append_right _ (List.mem_of_getElem? (i := 412) (by decide +kernel))) (by decide +kernel)
theorem kw_337 : Cond.code ⟨"NightMove", "isThing", "(I)Z"⟩ cX8_isThing 2 (some .boolean) ∈ nm_good := nm_good_of (List.mem_append_right _ (List.mem_of_getElem? (i := 421) (by decide +kernel))) (by decide +kernel)
theorem kw_338 : Cond.methodLink "NightMove" 115 ⟨"NightMove", "isThing", "(I)Z"⟩ ∈ nm_good := nm_good_of (List.mem_append_right _ (List.mem_of_getElem? (i := 418) (by decide +kernel))) (by decide +kernel)
theorem kw_339 : Cond.instanceMethod ⟨"NightMove", "isThing", "(I)Z"⟩ ∈ nm_good := nm_good_of (List.mem_append_right _ (List.mem_of_getElem? (i := 420) (by decide +kernel))) (by decide +kernel)
theorem kw_340 : Cond.selects "NightMove" ⟨"NightMove", "isThing", "(I)Z"⟩ ⟨"NightMove", "isThing", "(I)Z"⟩ ∈ nm_good := nm_good_of (List.mem_append_left _ (List.mem_of_getElem? (i := 7) (by decide +kernel))) (by decide +kernel)
theorem kw_341 : Cond.methodLink "NightMove" 119 ⟨"NightMove$Sharing", "convoyOf", "(I)I"⟩ ∈ nm_good := nm_good_of (List.mem_append_right _ (List.mem_of_getElem? (i := 422) (by decide +kernel))) (by decide +kernel)
theorem kw_342 : Cond.code ⟨"NightMove", "isConvoy", "(I)Z"⟩ cX8_isConvoy 2 (some .boolean) ∈ nm_good := nm_good_of (List.mem_append_right _ (List.mem_of_getElem? (i := 437) (by decide +kernel))) (by decide +kernel)
theorem kw_343 : Cond.methodLink "NightMove" 123 ⟨"NightMove", "isConvoy", "(I)Z"⟩ ∈ nm_good := nm_good_of (List.mem_append_right _ (List.mem_of_getElem? (i := 434) (by decide +kernel))) (by decide +kernel)
theorem kw_344 : Cond.instanceMethod ⟨"NightMove", "isConvoy", "(I)Z"⟩ ∈ nm_good := nm_good_of (List.mem_append_right _ (List.mem_of_getElem? (i := 436) (by decide +kernel))) (by decide +kernel)
theorem kw_345 : Cond.selects "NightMove" ⟨"NightMove", "isConvoy", "(I)Z"⟩ ⟨"NightMove", "isConvoy", "(I)Z"⟩ ∈ nm_good := nm_good_of (List.mem_append_left _ (List.mem_of_getElem? (i := 8) (by decide +kernel))) (by decide +kernel)
theorem kw_346 : Cond.code ⟨"NightMove$Traffic", "delay", "(III)Z"⟩ cX7_delay 4 (some .boolean) ∈ nm_good := nm_good_of (List.mem_append_right _ (List.mem_of_getElem? (i := 441) (by decide +kernel))) (by decide +kernel)
theorem kw_347 : Cond.methodLink "NightMove" 126 ⟨"NightMove$Traffic", "delay", "(III)Z"⟩ ∈ nm_good := nm_good_of (List.mem_append_right _ (List.mem_of_getElem? (i := 438) (by decide +kernel))) (by decide +kernel)
theorem kw_348 : Cond.instanceMethod ⟨"NightMove$Traffic", "delay", "(III)Z"⟩ ∈ nm_good := nm_good_of (List.mem_append_right _ (List.mem_of_getElem? (i := 439) (by decide +kernel))) (by decide +kernel)
theorem kw_349 : Cond.selects "NightMove$Traffic" ⟨"NightMove$Traffic", "delay", "(III)Z"⟩ ⟨"NightMove$Traffic", "delay", "(III)Z"⟩ ∈ nm_good := nm_good_of (List.mem_append_right _ (List.mem_of_getElem? (i := 440) (by decide +kernel))) (by decide +kernel)
theorem kw_350 : Cond.code ⟨"NightMove", "isKnown", "(I)Z"⟩ cX8_isKnown 2 (some .boolean) ∈ nm_good := nm_good_of (List.mem_append_right _ (List.mem_of_getElem? (i := 460) (by decide +kernel))) (by decide +kernel)
theorem kw_351 : Cond.methodLink "NightMove" 129 ⟨"NightMove", "isKnown", "(I)Z"⟩ ∈ nm_good := nm_good_of (List.mem_append_right _ (List.mem_of_getElem? (i := 457) (by decide +kernel))) (by decide +kernel)
theorem kw_352 : Cond.instanceMethod ⟨"NightMove", "isKnown", "(I)Z"⟩ ∈ nm_good := nm_good_of (List.mem_append_right _ (List.mem_of_getElem? (i := 459) (by decide +kernel))) (by decide +kernel)
theorem kw_353 : Cond.selects "NightMove" ⟨"NightMove", "isKnown", "(I)Z"⟩ ⟨"NightMove", "isKnown", "(I)Z"⟩ ∈ nm_good := nm_good_of (List.mem_append_left _ (List.mem_of_getElem? (i := 10) (by decide +kernel))) (by decide +kernel)
theorem kw_354 : Cond.methodLink "NightMove" 132 ⟨"NightMove$Traffic", "foresee", "(I)V"⟩ ∈ nm_good := nm_good_of (List.mem_append_right _ (List.mem_of_getElem? (i := 461) (by decide +kernel))) (by decide +kernel)
theorem kw_355 : Cond.fieldLink "NightMove" 136 "NightMove$Traffic" "leaves" "[I" ∈ nm_good := nm_good_of (List.mem_append_right _ (List.mem_of_getElem? (i := 127) (by decide +kernel))) (by decide +kernel)
theorem kw_356 : Cond.fieldLink "NightMove" 140 "NightMove$Traffic" "bridge" "[I" ∈ nm_good := nm_good_of (List.mem_append_right _ (List.mem_of_getElem? (i := 129) (by decide +kernel))) (by decide +kernel)
theorem kw_357 : Cond.fieldLink "NightMove" 143 "NightMove$Traffic" "there" "[I" ∈ nm_good := nm_good_of (List.mem_append_right _ (List.mem_of_getElem? (i := 131) (by decide +kernel))) (by decide +kernel)
theorem kw_358 : Cond.code ⟨"NightMove$Sharing", "goodsOf", "(I)I"⟩ cX4_goodsOf 4 (some .int) ∈ nm_good := nm_good_of (List.mem_append_right _ (List.mem_of_getElem? (i := 465) (by decide +kernel))) (by decide +kernel)
theorem kw_359 : Cond.methodLink "NightMove" 146 ⟨"NightMove$Sharing", "goodsOf", "(I)I"⟩ ∈ nm_good := nm_good_of (List.mem_append_right _ (List.mem_of_getElem? (i := 462) (by decide +kernel))) (by decide +kernel)
theorem kw_360 : Cond.instanceMethod ⟨"NightMove$Sharing", "goodsOf", "(I)I"⟩ ∈ nm_good := nm_good_of (List.mem_append_right _ (List.mem_of_getElem? (i := 463) (by decide +kernel))) (by decide +kernel)
theorem kw_361 : Cond.selects "NightMove$Sharing" ⟨"NightMove$Sharing", "goodsOf", "(I)I"⟩ ⟨"NightMove$Sharing", "goodsOf", "(I)I"⟩ ∈ nm_good := nm_good_of (List.mem_append_right _ (List.mem_of_getElem? (i := 464) (by decide +kernel))) (by decide +kernel)
theorem kw_362 : Cond.methodLink "NightMove" 149 ⟨"java/lang/Integer", "bitCount", "(I)I"⟩ ∈ nm_good := nm_good_of (List.mem_append_right _ (List.mem_of_getElem? (i := 467) (by decide +kernel))) (by decide +kernel)
theorem kw_363 : Cond.fieldLink "NightMove" 154 "NightMove$Goods" "load" "[I" ∈ nm_good := nm_good_of (List.mem_append_right _ (List.mem_of_getElem? (i := 31) (by decide +kernel))) (by decide +kernel)
theorem kw_364 : Cond.code ⟨"NightMove$Traffic", "placeOf", "(II)I"⟩ cX7_placeOf 3 (some .int) ∈ nm_good := nm_good_of (List.mem_append_right _ (List.mem_of_getElem? (i := 475) (by decide +kernel))) (by decide +kernel)
theorem kw_365 : Cond.methodLink "NightMove" 157 ⟨"NightMove$Traffic", "placeOf", "(II)I"⟩ ∈ nm_good := nm_good_of (List.mem_append_right _ (List.mem_of_getElem? (i := 472) (by decide +kernel))) (by decide +kernel)
theorem kw_366 : Cond.instanceMethod ⟨"NightMove$Traffic", "placeOf", "(II)I"⟩ ∈ nm_good := nm_good_of (List.mem_append_right _ (List.mem_of_getElem? (i := 473) (by decide +kernel))) (by decide +kernel)
theorem kw_367 : Cond.selects "NightMove$Traffic" ⟨"NightMove$Traffic", "placeOf", "(II)I"⟩ ⟨"NightMove$Traffic", "placeOf", "(II)I"⟩ ∈ nm_good := nm_good_of (List.mem_append_right _ (List.mem_of_getElem? (i := 474) (by decide +kernel))) (by decide +kernel)
theorem kw_368 : Cond.fieldLink "NightMove" 161 "NightMove$Goods" "first" "[I" ∈ nm_good := nm_good_of (List.mem_append_right _ (List.mem_of_getElem? (i := 29) (by decide +kernel))) (by decide +kernel)
theorem kw_369 : Cond.methodLink "NightMove" 164 ⟨"java/lang/Math", "max", "(II)I"⟩ ∈ nm_good := nm_good_of (List.mem_append_right _ (List.mem_of_getElem? (i := 481) (by decide +kernel))) (by decide +kernel)
theorem kw_370 : Cond.fieldLink "NightMove" 169 "NightMove$Goods" "told" "I" ∈ nm_good := nm_good_of (List.mem_append_right _ (List.mem_of_getElem? (i := 37) (by decide +kernel))) (by decide +kernel)
theorem kw_371 : Cond.code ⟨"NightMove$Stages", "add", "(IIIZ)I"⟩ cX5_add 5 (some .int) ∈ nm_good := nm_good_of (List.mem_append_right _ (List.mem_of_getElem? (i := 493) (by decide +kernel))) (by decide +kernel)
theorem kw_372 : Cond.methodLink "NightMove" 172 ⟨"NightMove$Stages", "add", "(IIIZ)I"⟩ ∈ nm_good := nm_good_of (List.mem_append_right _ (List.mem_of_getElem? (i := 490) (by decide +kernel))) (by decide +kernel)
theorem kw_373 : Cond.instanceMethod ⟨"NightMove$Stages", "add", "(IIIZ)I"⟩ ∈ nm_good := nm_good_of (List.mem_append_right _ (List.mem_of_getElem? (i := 491) (by decide +kernel))) (by decide +kernel)
theorem kw_374 : Cond.selects "NightMove$Stages" ⟨"NightMove$Stages", "add", "(IIIZ)I"⟩ ⟨"NightMove$Stages", "add", "(IIIZ)I"⟩ ∈ nm_good := nm_good_of (List.mem_append_right _ (List.mem_of_getElem? (i := 492) (by decide +kernel))) (by decide +kernel)
theorem kw_375 : Cond.code ⟨"NightMove", "isStage", "(I)Z"⟩ cX8_isStage 2 (some .boolean) ∈ nm_good := nm_good_of (List.mem_append_right _ (List.mem_of_getElem? (i := 513) (by decide +kernel))) (by decide +kernel)
theorem kw_376 : Cond.methodLink "NightMove" 175 ⟨"NightMove", "isStage", "(I)Z"⟩ ∈ nm_good := nm_good_of (List.mem_append_right _ (List.mem_of_getElem? (i := 510) (by decide +kernel))) (by decide +kernel)
theorem kw_377 : Cond.instanceMethod ⟨"NightMove", "isStage", "(I)Z"⟩ ∈ nm_good := nm_good_of (List.mem_append_right _ (List.mem_of_getElem? (i := 512) (by decide +kernel))) (by decide +kernel)
theorem kw_378 : Cond.selects "NightMove" ⟨"NightMove", "isStage", "(I)Z"⟩ ⟨"NightMove", "isStage", "(I)Z"⟩ ∈ nm_good := nm_good_of (List.mem_append_left _ (List.mem_of_getElem? (i := 13) (by decide +kernel))) (by decide +kernel)
theorem kw_379 : Cond.code ⟨"NightMove$Stages", "start", "(II)Z"⟩ cX5_start 3 (some .boolean) ∈ nm_good := nm_good_of (List.mem_append_right _ (List.mem_of_getElem? (i := 517) (by decide +kernel))) (by decide +kernel)
theorem kw_380 : Cond.methodLink "NightMove" 178 ⟨"NightMove$Stages", "start", "(II)Z"⟩ ∈ nm_good := nm_good_of (List.mem_append_right _ (List.mem_of_getElem? (i := 514) (by decide +kernel))) (by decide +kernel)
theorem kw_381 : Cond.instanceMethod ⟨"NightMove$Stages", "start", "(II)Z"⟩ ∈ nm_good := nm_good_of (List.mem_append_right _ (List.mem_of_getElem? (i := 515) (by decide +kernel))) (by decide +kernel)
theorem kw_382 : Cond.selects "NightMove$Stages" ⟨"NightMove$Stages", "start", "(II)Z"⟩ ⟨"NightMove$Stages", "start", "(II)Z"⟩ ∈ nm_good := nm_good_of (List.mem_append_right _ (List.mem_of_getElem? (i := 516) (by decide +kernel))) (by decide +kernel)
theorem kw_383 : Cond.code ⟨"NightMove$Stages", "takeBack", "(II)Z"⟩ cX5_takeBack 7 (some .boolean) ∈ nm_good := nm_good_of (List.mem_append_right _ (List.mem_of_getElem? (i := 525) (by decide +kernel))) (by decide +kernel)
theorem kw_384 : Cond.methodLink "NightMove" 182 ⟨"NightMove$Stages", "takeBack", "(II)Z"⟩ ∈ nm_good := nm_good_of (List.mem_append_right _ (List.mem_of_getElem? (i := 522) (by decide +kernel))) (by decide +kernel)
theorem kw_385 : Cond.instanceMethod ⟨"NightMove$Stages", "takeBack", "(II)Z"⟩ ∈ nm_good := nm_good_of (List.mem_append_right _ (List.mem_of_getElem? (i := 523) (by decide +kernel))) (by decide +kernel)
theorem kw_386 : Cond.selects "NightMove$Stages" ⟨"NightMove$Stages", "takeBack", "(II)Z"⟩ ⟨"NightMove$Stages", "takeBack", "(II)Z"⟩ ∈ nm_good := nm_good_of (List.mem_append_right _ (List.mem_of_getElem? (i := 524) (by decide +kernel))) (by decide +kernel)
theorem kw_387 : Cond.code ⟨"NightMove$Stages", "moveTo", "(I)V"⟩ cX5_moveTo 2 none ∈ nm_good := nm_good_of (List.mem_append_right _ (List.mem_of_getElem? (i := 545) (by decide +kernel))) (by decide +kernel)
theorem kw_388 : Cond.methodLink "NightMove" 185 ⟨"NightMove$Stages", "moveTo", "(I)V"⟩ ∈ nm_good := nm_good_of (List.mem_append_right _ (List.mem_of_getElem? (i := 542) (by decide +kernel))) (by decide +kernel)
theorem kw_389 : Cond.instanceMethod ⟨"NightMove$Stages", "moveTo", "(I)V"⟩ ∈ nm_good := nm_good_of (List.mem_append_right _ (List.mem_of_getElem? (i := 543) (by decide +kernel))) (by decide +kernel)
theorem kw_390 : Cond.selects "NightMove$Stages" ⟨"NightMove$Stages", "moveTo", "(I)V"⟩ ⟨"NightMove$Stages", "moveTo", "(I)V"⟩ ∈ nm_good := nm_good_of (List.mem_append_right _ (List.mem_of_getElem? (i := 544) (by decide +kernel))) (by decide +kernel)
theorem kw_391 : Cond.fieldLink "NightMove" 188 "NightMove$Stages" "state" "[I" ∈ nm_good := nm_good_of (List.mem_append_right _ (List.mem_of_getElem? (i := 161) (by decide +kernel))) (by decide +kernel)
theorem kw_392 : Cond.fieldLink "NightMove" 191 "NightMove$Stages" "began" "[I" ∈ nm_good := nm_good_of (List.mem_append_right _ (List.mem_of_getElem? (i := 163) (by decide +kernel))) (by decide +kernel)
theorem kw_393 : Cond.methodLink "NightMove" 194 ⟨"NightMove$Stages", "doneMinute", "(I)I"⟩ ∈ nm_good := nm_good_of (List.mem_append_right _ (List.mem_of_getElem? (i := 563) (by decide +kernel))) (by decide +kernel)
theorem kw_394 : Cond.fieldLink "NightMove" 197 "NightMove$Stages" "safe" "[Z" ∈ nm_good := nm_good_of (List.mem_append_right _ (List.mem_of_getElem? (i := 165) (by decide +kernel))) (by decide +kernel)
theorem kw_395 : Cond.methodLink "NightMove" 201 ⟨"NightMove$Stages", "allThat", "(I)I"⟩ ∈ nm_good := nm_good_of (List.mem_append_right _ (List.mem_of_getElem? (i := 568) (by decide +kernel))) (by decide +kernel)
theorem kw_396 : Cond.methodLink "NightMove" 204 ⟨"NightMove$Stages", "lastBegun", "(I)I"⟩ ∈ nm_good := nm_good_of (List.mem_append_right _ (List.mem_of_getElem? (i := 569) (by decide +kernel))) (by decide +kernel)
theorem kw_397 : Cond.methodLink "NightMove" 207 ⟨"NightMove$Stages", "backUntil", "(I)I"⟩ ∈ nm_good := nm_good_of (List.mem_append_right _ (List.mem_of_getElem? (i := 574) (by decide +kernel))) (by decide +kernel)
theorem kw_398 : Cond.code ⟨"NightMove$Stages", "allDoneBy", "(I)I"⟩ cX5_allDoneBy 6 (some .int) ∈ nm_good := nm_good_of (List.mem_append_right _ (List.mem_of_getElem? (i := 585) (by decide +kernel))) (by decide +kernel)
theorem kw_399 : Cond.methodLink "NightMove" 210 ⟨"NightMove$Stages", "allDoneBy", "(I)I"⟩ ∈ nm_good := nm_good_of (List.mem_append_right _ (List.mem_of_getElem? (i := 582) (by decide +kernel))) (by decide +kernel)
theorem kw_400 : Cond.instanceMethod ⟨"NightMove$Stages", "allDoneBy", "(I)I"⟩ ∈ nm_good := nm_good_of (List.mem_append_right _ (List.mem_of_getElem? (i := 583) (by decide +kernel))) (by decide +kernel)
theorem kw_401 : Cond.selects "NightMove$Stages" ⟨"NightMove$Stages", "allDoneBy", "(I)I"⟩ ⟨"NightMove$Stages", "allDoneBy", "(I)I"⟩ ∈ nm_good := nm_good_of (List.mem_append_right _ (List.mem_of_getElem? (i := 584) (by decide +kernel))) (by decide +kernel)
theorem kw_402 : Cond.code ⟨"NightMove$Faults", "add", "()I"⟩ cX1_add 1 (some .int) ∈ nm_good := nm_good_of (List.mem_append_right _ (List.mem_of_getElem? (i := 598) (by decide +kernel))) (by decide +kernel)
theorem kw_403 : Cond.methodLink "NightMove" 213 ⟨"NightMove$Faults", "add", "()I"⟩ ∈ nm_good := nm_good_of (List.mem_append_right _ (List.mem_of_getElem? (i := 595) (by decide +kernel))) (by decide +kernel)
theorem kw_404 : Cond.instanceMethod ⟨"NightMove$Faults", "add", "()I"⟩ ∈ nm_good := nm_good_of (List.mem_append_right _ (List.mem_of_getElem? (i := 596) (by decide +kernel))) (by decide +kernel)
theorem kw_405 : Cond.selects "NightMove$Faults" ⟨"NightMove$Faults", "add", "()I"⟩ ⟨"NightMove$Faults", "add", "()I"⟩ ∈ nm_good := nm_good_of (List.mem_append_right _ (List.mem_of_getElem? (i := 597) (by decide +kernel))) (by decide +kernel)
theorem kw_406 : Cond.code ⟨"NightMove$Faults", "mend", "(I)Z"⟩ cX1_mend 2 (some .boolean) ∈ nm_good := nm_good_of (List.mem_append_right _ (List.mem_of_getElem? (i := 606) (by decide +kernel))) (by decide +kernel)
theorem kw_407 : Cond.methodLink "NightMove" 215 ⟨"NightMove$Faults", "mend", "(I)Z"⟩ ∈ nm_good := nm_good_of (List.mem_append_right _ (List.mem_of_getElem? (i := 603) (by decide +kernel))) (by decide +kernel)
theorem kw_408 : Cond.instanceMethod ⟨"NightMove$Faults", "mend", "(I)Z"⟩ ∈ nm_good := nm_good_of (List.mem_append_right _ (List.mem_of_getElem? (i := 604) (by decide +kernel))) (by decide +kernel)
theorem kw_409 : Cond.selects "NightMove$Faults" ⟨"NightMove$Faults", "mend", "(I)Z"⟩ ⟨"NightMove$Faults", "mend", "(I)Z"⟩ ∈ nm_good := nm_good_of (List.mem_append_right _ (List.mem_of_getElem? (i := 605) (by decide +kernel))) (by decide +kernel)
theorem kw_410 : Cond.code ⟨"NightMove$Tape", "add", "(I)I"⟩ cX6_add 4 (some .int) ∈ nm_good := nm_good_of (List.mem_append_right _ (List.mem_of_getElem? (i := 615) (by decide +kernel))) (by decide +kernel)
theorem kw_411 : Cond.methodLink "NightMove" 218 ⟨"NightMove$Tape", "add", "(I)I"⟩ ∈ nm_good := nm_good_of (List.mem_append_right _ (List.mem_of_getElem? (i := 612) (by decide +kernel))) (by decide +kernel)
theorem kw_412 : Cond.instanceMethod ⟨"NightMove$Tape", "add", "(I)I"⟩ ∈ nm_good := nm_good_of (List.mem_append_right _ (List.mem_of_getElem? (i := 613) (by decide +kernel))) (by decide +kernel)
theorem kw_413 : Cond.selects "NightMove$Tape" ⟨"NightMove$Tape", "add", "(I)I"⟩ ⟨"NightMove$Tape", "add", "(I)I"⟩ ∈ nm_good := nm_good_of (List.mem_append_right _ (List.mem_of_getElem? (i := 614) (by decide +kernel))) (by decide +kernel)
theorem kw_414 : Cond.code ⟨"NightMove$Tape", "cut", "(I)Z"⟩ cX6_cut 2 (some .boolean) ∈ nm_good := nm_good_of (List.mem_append_right _ (List.mem_of_getElem? (i := 626) (by decide +kernel))) (by decide +kernel)
theorem kw_415 : Cond.methodLink "NightMove" 220 ⟨"NightMove$Tape", "cut", "(I)Z"⟩ ∈ nm_good := nm_good_of (List.mem_append_right _ (List.mem_of_getElem? (i := 623) (by decide +kernel))) (by decide +kernel)
theorem kw_416 : Cond.instanceMethod ⟨"NightMove$Tape", "cut", "(I)Z"⟩ ∈ nm_good := nm_good_of (List.mem_append_right _ (List.mem_of_getElem? (i := 624) (by decide +kernel))) (by decide +kernel)
theorem kw_417 : Cond.selects "NightMove$Tape" ⟨"NightMove$Tape", "cut", "(I)Z"⟩ ⟨"NightMove$Tape", "cut", "(I)Z"⟩ ∈ nm_good := nm_good_of (List.mem_append_right _ (List.mem_of_getElem? (i := 625) (by decide +kernel))) (by decide +kernel)
theorem kw_418 : Cond.methodLink "NightMove" 223 ⟨"NightMove$Reader", "faultIn", "(LNightMove$Tape;)I"⟩ ∈ nm_good := nm_good_of (List.mem_append_right _ (List.mem_of_getElem? (i := 632) (by decide +kernel))) (by decide +kernel)
theorem kw_419 : Cond.code ⟨"NightMove$Tape", "copy", "(LNightMove$Tape;)V"⟩ cX6_copy 3 none ∈ nm_good := nm_good_of (List.mem_append_right _ (List.mem_of_getElem? (i := 690) (by decide +kernel))) (by decide +kernel)
theorem kw_420 : Cond.methodLink "NightMove" 227 ⟨"NightMove$Tape", "copy", "(LNightMove$Tape;)V"⟩ ∈ nm_good := nm_good_of (List.mem_append_right _ (List.mem_of_getElem? (i := 687) (by decide +kernel))) (by decide +kernel)
theorem kw_421 : Cond.instanceMethod ⟨"NightMove$Tape", "copy", "(LNightMove$Tape;)V"⟩ ∈ nm_good := nm_good_of (List.mem_append_right _ (List.mem_of_getElem? (i := 688) (by decide +kernel))) (by decide +kernel)
theorem kw_422 : Cond.selects "NightMove$Tape" ⟨"NightMove$Tape", "copy", "(LNightMove$Tape;)V"⟩ ⟨"NightMove$Tape", "copy", "(LNightMove$Tape;)V"⟩ ∈ nm_good := nm_good_of (List.mem_append_right _ (List.mem_of_getElem? (i := 689) (by decide +kernel))) (by decide +kernel)
theorem kw_423 : Cond.fieldLink "NightMove" 231 "NightMove$Tape" "length" "I" ∈ nm_good := nm_good_of (List.mem_append_right _ (List.mem_of_getElem? (i := 227) (by decide +kernel))) (by decide +kernel)
theorem kw_424 : Cond.fieldLink "NightMove" 234 "NightMove$Reader" "minutesLeft" "I" ∈ nm_good := nm_good_of (List.mem_append_right _ (List.mem_of_getElem? (i := 241) (by decide +kernel))) (by decide +kernel)
theorem kw_425 : Cond.fieldLink "NightMove" 237 "NightMove$Reader" "minutesToReady" "I" ∈ nm_good := nm_good_of (List.mem_append_right _ (List.mem_of_getElem? (i := 243) (by decide +kernel))) (by decide +kernel)
theorem kw_426 : Cond.fieldLink "NightMove" 240 "NightMove$Faults" "open" "I" ∈ nm_good := nm_good_of (List.mem_append_right _ (List.mem_of_getElem? (i := 209) (by decide +kernel))) (by decide +kernel)
theorem kw_427 : Cond.fieldLink "NightMove" 243 "NightMove$Reader" "openFaults" "I" ∈ nm_good := nm_good_of (List.mem_append_right _ (List.mem_of_getElem? (i := 245) (by decide +kernel))) (by decide +kernel)
theorem kw_428 : Cond.fieldLink "NightMove" 246 "NightMove$Reader" "doneStages" "I" ∈ nm_good := nm_good_of (List.mem_append_right _ (List.mem_of_getElem? (i := 247) (by decide +kernel))) (by decide +kernel)
theorem kw_429 : Cond.code ⟨"NightMove$Reader", "holds", "(LNightMove$Tape;)Z"⟩ cX3_holds 2 (some .boolean) ∈ nm_good := nm_good_of (List.mem_append_right _ (List.mem_of_getElem? (i := 698) (by decide +kernel))) (by decide +kernel)
theorem kw_430 : Cond.methodLink "NightMove" 249 ⟨"NightMove$Reader", "holds", "(LNightMove$Tape;)Z"⟩ ∈ nm_good := nm_good_of (List.mem_append_right _ (List.mem_of_getElem? (i := 695) (by decide +kernel))) (by decide +kernel)
theorem kw_431 : Cond.instanceMethod ⟨"NightMove$Reader", "holds", "(LNightMove$Tape;)Z"⟩ ∈ nm_good := nm_good_of (List.mem_append_right _ (List.mem_of_getElem? (i := 696) (by decide +kernel))) (by decide +kernel)
theorem kw_432 : Cond.selects "NightMove$Reader" ⟨"NightMove$Reader", "holds", "(LNightMove$Tape;)Z"⟩ ⟨"NightMove$Reader", "holds", "(LNightMove$Tape;)Z"⟩ ∈ nm_good := nm_good_of (List.mem_append_right _ (List.mem_of_getElem? (i := 697) (by decide +kernel))) (by decide +kernel)
theorem kw_433 : Cond.fieldLink "NightMove" 253 "NightMove$Convoys" "told" "I" ∈ nm_good := nm_good_of (List.mem_append_right _ (List.mem_of_getElem? (i := 68) (by decide +kernel))) (by decide +kernel)
theorem kw_434 : Cond.fieldLink "NightMove" 254 "NightMove$Stages" "told" "I" ∈ nm_good := nm_good_of (List.mem_append_right _ (List.mem_of_getElem? (i := 167) (by decide +kernel))) (by decide +kernel)
theorem kw_435 : Cond.code ⟨"NightMove$Stages", "safeOnes", "()I"⟩ cX5_safeOnes 3 (some .int) ∈ nm_good := nm_good_of (List.mem_append_right _ (List.mem_of_getElem? (i := 707) (by decide +kernel))) (by decide +kernel)
theorem kw_436 : Cond.methodLink "NightMove" 255 ⟨"NightMove$Stages", "safeOnes", "()I"⟩ ∈ nm_good := nm_good_of (List.mem_append_right _ (List.mem_of_getElem? (i := 704) (by decide +kernel))) (by decide +kernel)
theorem kw_437 : Cond.instanceMethod ⟨"NightMove$Stages", "safeOnes", "()I"⟩ ∈ nm_good := nm_good_of (List.mem_append_right _ (List.mem_of_getElem? (i := 705) (by decide +kernel))) (by decide +kernel)
theorem kw_438 : Cond.selects "NightMove$Stages" ⟨"NightMove$Stages", "safeOnes", "()I"⟩ ⟨"NightMove$Stages", "safeOnes", "()I"⟩ ∈ nm_good := nm_good_of (List.mem_append_right _ (List.mem_of_getElem? (i := 706) (by decide +kernel))) (by decide +kernel)
theorem kw_439 : Cond.fieldLink "NightMove" 258 "NightMove$Stages" "failures" "I" ∈ nm_good := nm_good_of (List.mem_append_right _ (List.mem_of_getElem? (i := 169) (by decide +kernel))) (by decide +kernel)
theorem kw_440 : Cond.methodLink "NightMoveModel" 1 ⟨"java/lang/Object", "<init>", "()V"⟩ ∈ nm_good := nm_good_of (List.mem_append_right _ (List.mem_of_getElem? (i := 713) (by decide +kernel))) (by decide +kernel)
theorem kw_441 : Cond.fieldLink "NightMoveModel" 7 "NightMoveModel" "way" "I" ∈ nm_good := nm_good_of (List.mem_append_right _ (List.mem_of_getElem? (i := 721) (by decide +kernel))) (by decide +kernel)
theorem kw_442 : Cond.fieldLink "NightMoveModel" 13 "NightMoveModel" "headway" "I" ∈ nm_good := nm_good_of (List.mem_append_right _ (List.mem_of_getElem? (i := 722) (by decide +kernel))) (by decide +kernel)
theorem kw_443 : Cond.fieldLink "NightMoveModel" 16 "NightMoveModel" "last" "I" ∈ nm_good := nm_good_of (List.mem_append_right _ (List.mem_of_getElem? (i := 723) (by decide +kernel))) (by decide +kernel)
theorem kw_444 : Cond.fieldLink "NightMoveModel" 19 "NightMoveModel" "until" "[I" ∈ nm_good := nm_good_of (List.mem_append_right _ (List.mem_of_getElem? (i := 725) (by decide +kernel))) (by decide +kernel)
theorem kw_445 : Cond.fieldLink "NightMoveModel" 23 "NightMoveModel" "since" "[I" ∈ nm_good := nm_good_of (List.mem_append_right _ (List.mem_of_getElem? (i := 726) (by decide +kernel))) (by decide +kernel)
theorem kw_446 : Cond.fieldLink "NightMoveModel" 26 "NightMoveModel" "load" "[I" ∈ nm_good := nm_good_of (List.mem_append_right _ (List.mem_of_getElem? (i := 727) (by decide +kernel))) (by decide +kernel)
theorem kw_447 : Cond.fieldLink "NightMoveModel" 29 "NightMoveModel" "cost" "[I" ∈ nm_good := nm_good_of (List.mem_append_right _ (List.mem_of_getElem? (i := 728) (by decide +kernel))) (by decide +kernel)
theorem kw_448 : Cond.fieldLink "NightMoveModel" 32 "NightMoveModel" "leave" "[I" ∈ nm_good := nm_good_of (List.mem_append_right _ (List.mem_of_getElem? (i := 729) (by decide +kernel))) (by decide +kernel)
theorem kw_449 : Cond.fieldLink "NightMoveModel" 35 "NightMoveModel" "room" "[I" ∈ nm_good := nm_good_of (List.mem_append_right _ (List.mem_of_getElem? (i := 730) (by decide +kernel))) (by decide +kernel)
theorem kw_450 : Cond.fieldLink "NightMoveModel" 38 "NightMoveModel" "limit" "[I" ∈ nm_good := nm_good_of (List.mem_append_right _ (List.mem_of_getElem? (i := 731) (by decide +kernel))) (by decide +kernel)
theorem kw_451 : Cond.fieldLink "NightMoveModel" 41 "NightMoveModel" "trying" "[I" ∈ nm_good := nm_good_of (List.mem_append_right _ (List.mem_of_getElem? (i := 732) (by decide +kernel))) (by decide +kernel)
theorem kw_452 : Cond.fieldLink "NightMoveModel" 44 "NightMoveModel" "best" "[I" ∈ nm_good := nm_good_of (List.mem_append_right _ (List.mem_of_getElem? (i := 733) (by decide +kernel))) (by decide +kernel)
theorem kw_453 : Cond.fieldLink "NightMoveModel" 47 "NightMoveModel" "taken" "[I" ∈ nm_good := nm_good_of (List.mem_append_right _ (List.mem_of_getElem? (i := 734) (by decide +kernel))) (by decide +kernel)
theorem kw_454 : Cond.fieldLink "NightMoveModel" 50 "NightMoveModel" "laden" "[I" ∈ nm_good := nm_good_of (List.mem_append_right _ (List.mem_of_getElem? (i := 735) (by decide +kernel))) (by decide +kernel)
theorem kw_455 : Cond.fieldLink "NightMoveModel" 53 "NightMoveModel" "lateOf" "[I" ∈ nm_good := nm_good_of (List.mem_append_right _ (List.mem_of_getElem? (i := 737) (by decide +kernel))) (by decide +kernel)
theorem kw_456 : Cond.fieldLink "NightMoveModel" 56 "NightMoveModel" "lateBy" "[I" ∈ nm_good := nm_good_of (List.mem_append_right _ (List.mem_of_getElem? (i := 738) (by decide +kernel))) (by decide +kernel)
theorem kw_457 : Cond.fieldLink "NightMoveModel" 59 "NightMoveModel" "lateTold" "[I" ∈ nm_good := nm_good_of (List.mem_append_right _ (List.mem_of_getElem? (i := 739) (by decide +kernel))) (by decide +kernel)
theorem kw_458 : Cond.fieldLink "NightMoveModel" 62 "NightMoveModel" "minutes" "[I" ∈ nm_good := nm_good_of (List.mem_append_right _ (List.mem_of_getElem? (i := 740) (by decide +kernel))) (by decide +kernel)
theorem kw_459 : Cond.fieldLink "NightMoveModel" 65 "NightMoveModel" "needs" "[I" ∈ nm_good := nm_good_of (List.mem_append_right _ (List.mem_of_getElem? (i := 741) (by decide +kernel))) (by decide +kernel)
theorem kw_460 : Cond.fieldLink "NightMoveModel" 68 "NightMoveModel" "backs" "[I" ∈ nm_good := nm_good_of (List.mem_append_right _ (List.mem_of_getElem? (i := 742) (by decide +kernel))) (by decide +kernel)
theorem kw_461 : Cond.fieldLink "NightMoveModel" 71 "NightMoveModel" "point" "[Z" ∈ nm_good := nm_good_of (List.mem_append_right _ (List.mem_of_getElem? (i := 743) (by decide +kernel))) (by decide +kernel)
theorem kw_462 : Cond.fieldLink "NightMoveModel" 75 "NightMoveModel" "state" "[I" ∈ nm_good := nm_good_of (List.mem_append_right _ (List.mem_of_getElem? (i := 744) (by decide +kernel))) (by decide +kernel)
theorem kw_463 : Cond.fieldLink "NightMoveModel" 78 "NightMoveModel" "began" "[I" ∈ nm_good := nm_good_of (List.mem_append_right _ (List.mem_of_getElem? (i := 745) (by decide +kernel))) (by decide +kernel)
theorem kw_464 : Cond.fieldLink "NightMoveModel" 81 "NightMoveModel" "safe" "[Z" ∈ nm_good := nm_good_of (List.mem_append_right _ (List.mem_of_getElem? (i := 746) (by decide +kernel))) (by decide +kernel)
theorem kw_465 : Cond.fieldLink "NightMoveModel" 84 "NightMoveModel" "row" "[I" ∈ nm_good := nm_good_of (List.mem_append_right _ (List.mem_of_getElem? (i := 747) (by decide +kernel))) (by decide +kernel)
theorem kw_466 : Cond.fieldLink "NightMoveModel" 87 "NightMoveModel" "doneAt" "[I" ∈ nm_good := nm_good_of (List.mem_append_right _ (List.mem_of_getElem? (i := 750) (by decide +kernel))) (by decide +kernel)
theorem kw_467 : Cond.fieldLink "NightMoveModel" 90 "NightMoveModel" "closed" "[Z" ∈ nm_good := nm_good_of (List.mem_append_right _ (List.mem_of_getElem? (i := 751) (by decide +kernel))) (by decide +kernel)
theorem kw_468 : Cond.fieldLink "NightMoveModel" 93 "NightMoveModel" "tape" "[I" ∈ nm_good := nm_good_of (List.mem_append_right _ (List.mem_of_getElem? (i := 752) (by decide +kernel))) (by decide +kernel)
theorem kw_469 : Cond.fieldLink "NightMoveModel" 96 "NightMoveModel" "codes" "[I" ∈ nm_good := nm_good_of (List.mem_append_right _ (List.mem_of_getElem? (i := 753) (by decide +kernel))) (by decide +kernel)
theorem kw_470 : Cond.fieldLink "NightMoveModel" 99 "NightMoveModel" "saying" "[I" ∈ nm_good := nm_good_of (List.mem_append_right _ (List.mem_of_getElem? (i := 754) (by decide +kernel))) (by decide +kernel)
theorem kw_471 : Cond.fieldLink "NightMoveModel" 102 "NightMoveModel" "pile" "[Z" ∈ nm_good := nm_good_of (List.mem_append_right _ (List.mem_of_getElem? (i := 761) (by decide +kernel))) (by decide +kernel)
theorem kw_472 : Cond.fieldLink "NightMoveModel" 105 "NightMoveModel" "settled" "Z" ∈ nm_good := nm_good_of (List.mem_append_right _ (List.mem_of_getElem? (i := 724) (by decide +kernel))) (by decide +kernel)
theorem kw_473 : Cond.fieldLink "NightMoveModel" 109 "NightMoveModel" "things" "I" ∈ nm_good := nm_good_of (List.mem_append_right _ (List.mem_of_getElem? (i := 715) (by decide +kernel))) (by decide +kernel)
theorem kw_474 : Cond.code ⟨"NightMoveModel", "in", "(III)Z"⟩ cX9_in 3 (some .boolean) ∈ nm_good := nm_good_of (List.mem_append_right _ (List.mem_of_getElem? (i := 865) (by decide +kernel))) (by decide +kernel)
theorem kw_475 : Cond.methodLink "NightMoveModel" 112 ⟨"NightMoveModel", "in", "(III)Z"⟩ ∈ nm_good := nm_good_of (List.mem_append_right _ (List.mem_of_getElem? (i := 863) (by decide +kernel))) (by decide +kernel)
theorem kw_476 : Cond.static ⟨"NightMoveModel", "in", "(III)Z"⟩ ∈ nm_good := nm_good_of (List.mem_append_right _ (List.mem_of_getElem? (i := 864) (by decide +kernel))) (by decide +kernel)
theorem kw_477 : Cond.initialized "NightMoveModel" ∈ nm_good := nm_good_of (List.mem_append_right _ (List.mem_of_getElem? (i := 10) (by decide +kernel))) (by decide +kernel)
theorem kw_478 : Cond.fieldLink "NightMoveModel" 116 "NightMoveModel" "convoys" "I" ∈ nm_good := nm_good_of (List.mem_append_right _ (List.mem_of_getElem? (i := 716) (by decide +kernel))) (by decide +kernel)
theorem kw_479 : Cond.fieldLink "NightMoveModel" 119 "NightMoveModel" "bestCost" "I" ∈ nm_good := nm_good_of (List.mem_append_right _ (List.mem_of_getElem? (i := 736) (by decide +kernel))) (by decide +kernel)
theorem kw_480 : Cond.code ⟨"NightMoveModel", "shareOn", "(II)V"⟩ cX9_shareOn 5 none ∈ nm_good := nm_good_of (List.mem_append_right _ (List.mem_of_getElem? (i := 886) (by decide +kernel))) (by decide +kernel)
theorem kw_481 : Cond.methodLink "NightMoveModel" 122 ⟨"NightMoveModel", "shareOn", "(II)V"⟩ ∈ nm_good := nm_good_of (List.mem_append_right _ (List.mem_of_getElem? (i := 883) (by decide +kernel))) (by decide +kernel)
theorem kw_482 : Cond.instanceMethod ⟨"NightMoveModel", "shareOn", "(II)V"⟩ ∈ nm_good := nm_good_of (List.mem_append_right _ (List.mem_of_getElem? (i := 885) (by decide +kernel))) (by decide +kernel)
theorem kw_483 : Cond.selects "NightMoveModel" ⟨"NightMoveModel", "shareOn", "(II)V"⟩ ⟨"NightMoveModel", "shareOn", "(II)V"⟩ ∈ nm_good := nm_good_of (List.mem_append_left _ (List.mem_of_getElem? (i := 31) (by decide +kernel))) (by decide +kernel)
theorem kw_484 : Cond.constant "NightMoveModel" 126 1000000 ∈ nm_good := nm_good_of (List.mem_append_right _ (List.mem_of_getElem? (i := 882) (by decide +kernel))) (by decide +kernel)
theorem kw_485 : Cond.code ⟨"NightMoveModel", "findBest", "()V"⟩ cX9_findBest 2 none ∈ nm_good := nm_good_of (List.mem_append_right _ (List.mem_of_getElem? (i := 881) (by decide +kernel))) (by decide +kernel)
theorem kw_486 : Cond.methodLink "NightMoveModel" 127 ⟨"NightMoveModel", "findBest", "()V"⟩ ∈ nm_good := nm_good_of (List.mem_append_right _ (List.mem_of_getElem? (i := 878) (by decide +kernel))) (by decide +kernel)
theorem kw_487 : Cond.instanceMethod ⟨"NightMoveModel", "findBest", "()V"⟩ ∈ nm_good := nm_good_of (List.mem_append_right _ (List.mem_of_getElem? (i := 880) (by decide +kernel))) (by decide +kernel)
theorem kw_488 : Cond.selects "NightMoveModel" ⟨"NightMoveModel", "findBest", "()V"⟩ ⟨"NightMoveModel", "findBest", "()V"⟩ ∈ nm_good := nm_good_of (List.mem_append_left _ (List.mem_of_getElem? (i := 30) (by decide +kernel))) (by decide +kernel)
theorem kw_489 : Cond.fieldLink "NightMoveModel" 130 "NightMoveModel" "lates" "I" ∈ nm_good := nm_good_of (List.mem_append_right _ (List.mem_of_getElem? (i := 717) (by decide +kernel))) (by decide +kernel)
theorem kw_490 : Cond.code ⟨"NightMoveModel", "isAhead", "(IIII)Z"⟩ cX9_isAhead 4 (some .boolean) ∈ nm_good := nm_good_of (List.mem_append_right _ (List.mem_of_getElem? (i := 913) (by decide +kernel))) (by decide +kernel)
theorem kw_491 : Cond.methodLink "NightMoveModel" 133 ⟨"NightMoveModel", "isAhead", "(IIII)Z"⟩ ∈ nm_good := nm_good_of (List.mem_append_right _ (List.mem_of_getElem? (i := 911) (by decide +kernel))) (by decide +kernel)
theorem kw_492 : Cond.static ⟨"NightMoveModel", "isAhead", "(IIII)Z"⟩ ∈ nm_good := nm_good_of (List.mem_append_right _ (List.mem_of_getElem? (i := 912) (by decide +kernel))) (by decide +kernel)
theorem kw_493 : Cond.code ⟨"NightMoveModel", "leaves", "(II)I"⟩ cX9_leaves 5 (some .int) ∈ nm_good := nm_good_of (List.mem_append_right _ (List.mem_of_getElem? (i := 902) (by decide +kernel))) (by decide +kernel)
theorem kw_494 : Cond.methodLink "NightMoveModel" 137 ⟨"NightMoveModel", "leaves", "(II)I"⟩ ∈ nm_good := nm_good_of (List.mem_append_right _ (List.mem_of_getElem? (i := 899) (by decide +kernel))) (by decide +kernel)
theorem kw_495 : Cond.instanceMethod ⟨"NightMoveModel", "leaves", "(II)I"⟩ ∈ nm_good := nm_good_of (List.mem_append_right _ (List.mem_of_getElem? (i := 901) (by decide +kernel))) (by decide +kernel)
theorem kw_496 : Cond.selects "NightMoveModel" ⟨"NightMoveModel", "leaves", "(II)I"⟩ ⟨"NightMoveModel", "leaves", "(II)I"⟩ ∈ nm_good := nm_good_of (List.mem_append_left _ (List.mem_of_getElem? (i := 32) (by decide +kernel))) (by decide +kernel)
theorem kw_497 : Cond.code ⟨"NightMoveModel", "bridge", "(II)I"⟩ cX9_bridge 5 (some .int) ∈ nm_good := nm_good_of (List.mem_append_right _ (List.mem_of_getElem? (i := 910) (by decide +kernel))) (by decide +kernel)
theorem kw_498 : Cond.methodLink "NightMoveModel" 141 ⟨"NightMoveModel", "bridge", "(II)I"⟩ ∈ nm_good := nm_good_of (List.mem_append_right _ (List.mem_of_getElem? (i := 907) (by decide +kernel))) (by decide +kernel)
theorem kw_499 : Cond.instanceMethod ⟨"NightMoveModel", "bridge", "(II)I"⟩ ∈ nm_good := nm_good_of (List.mem_append_right _ (List.mem_of_getElem? (i := 909) (by decide +kernel))) (by decide +kernel)
theorem kw_500 : Cond.selects "NightMoveModel" ⟨"NightMoveModel", "bridge", "(II)I"⟩ ⟨"NightMoveModel", "bridge", "(II)I"⟩ ∈ nm_good := nm_good_of (List.mem_append_left _ (List.mem_of_getElem? (i := 33) (by decide +kernel))) (by decide +kernel)
theorem kw_501 : Cond.methodLink "NightMoveModel" 144 ⟨"java/lang/Math", "max", "(II)I"⟩ ∈ nm_good := nm_good_of (List.mem_append_right _ (List.mem_of_getElem? (i := 914) (by decide +kernel))) (by decide +kernel)
theorem kw_502 : Cond.fieldLink "NightMoveModel" 149 "NightMoveModel" "now" "I" ∈ nm_good := nm_good_of (List.mem_append_right _ (List.mem_of_getElem? (i := 714) (by decide +kernel))) (by decide +kernel)
theorem kw_503 : Cond.code ⟨"NightMoveModel", "there", "(II)I"⟩ cX9_there 3 (some .int) ∈ nm_good := nm_good_of (List.mem_append_right _ (List.mem_of_getElem? (i := 918) (by decide +kernel))) (by decide +kernel)
theorem kw_504 : Cond.methodLink "NightMoveModel" 152 ⟨"NightMoveModel", "there", "(II)I"⟩ ∈ nm_good := nm_good_of (List.mem_append_right _ (List.mem_of_getElem? (i := 915) (by decide +kernel))) (by decide +kernel)
theorem kw_505 : Cond.instanceMethod ⟨"NightMoveModel", "there", "(II)I"⟩ ∈ nm_good := nm_good_of (List.mem_append_right _ (List.mem_of_getElem? (i := 917) (by decide +kernel))) (by decide +kernel)
theorem kw_506 : Cond.selects "NightMoveModel" ⟨"NightMoveModel", "there", "(II)I"⟩ ⟨"NightMoveModel", "there", "(II)I"⟩ ∈ nm_good := nm_good_of (List.mem_append_left _ (List.mem_of_getElem? (i := 34) (by decide +kernel))) (by decide +kernel)
theorem kw_507 : Cond.code ⟨"NightMoveModel", "isAsked", "(II)Z"⟩ cX9_isAsked 3 (some .boolean) ∈ nm_good := nm_good_of (List.mem_append_right _ (List.mem_of_getElem? (i := 926) (by decide +kernel))) (by decide +kernel)
theorem kw_508 : Cond.methodLink "NightMoveModel" 155 ⟨"NightMoveModel", "isAsked", "(II)Z"⟩ ∈ nm_good := nm_good_of (List.mem_append_right _ (List.mem_of_getElem? (i := 923) (by decide +kernel))) (by decide +kernel)
theorem kw_509 : Cond.instanceMethod ⟨"NightMoveModel", "isAsked", "(II)Z"⟩ ∈ nm_good := nm_good_of (List.mem_append_right _ (List.mem_of_getElem? (i := 925) (by decide +kernel))) (by decide +kernel)
theorem kw_510 : Cond.selects "NightMoveModel" ⟨"NightMoveModel", "isAsked", "(II)Z"⟩ ⟨"NightMoveModel", "isAsked", "(II)Z"⟩ ∈ nm_good := nm_good_of (List.mem_append_left _ (List.mem_of_getElem? (i := 35) (by decide +kernel))) (by decide +kernel)
theorem kw_511 : Cond.code ⟨"NightMoveModel", "placeOf", "(III)I"⟩ cX9_placeOf 5 (some .int) ∈ nm_good := nm_good_of (List.mem_append_right _ (List.mem_of_getElem? (i := 930) (by decide +kernel))) (by decide +kernel)
theorem kw_512 : Cond.methodLink "NightMoveModel" 159 ⟨"NightMoveModel", "placeOf", "(III)I"⟩ ∈ nm_good := nm_good_of (List.mem_append_right _ (List.mem_of_getElem? (i := 927) (by decide +kernel))) (by decide +kernel)
theorem kw_513 : Cond.instanceMethod ⟨"NightMoveModel", "placeOf", "(III)I"⟩ ∈ nm_good := nm_good_of (List.mem_append_right _ (List.mem_of_getElem? (i := 929) (by decide +kernel))) (by decide +kernel)
theorem kw_514 : Cond.selects "NightMoveModel" ⟨"NightMoveModel", "placeOf", "(III)I"⟩ ⟨"NightMoveModel", "placeOf", "(III)I"⟩ ∈ nm_good := nm_good_of (List.mem_append_left _ (List.mem_of_getElem? (i := 36) (by decide +kernel))) (by decide +kernel)
theorem kw_515 : Cond.fieldLink "NightMoveModel" 163 "NightMoveModel" "stages" "I" ∈ nm_good := nm_good_of (List.mem_append_right _ (List.mem_of_getElem? (i := 718) (by decide +kernel))) (by decide +kernel)
theorem kw_516 : Cond.code ⟨"NightMoveModel", "isStage", "(I)Z"⟩ cX9_isStage 2 (some .boolean) ∈ nm_good := nm_good_of (List.mem_append_right _ (List.mem_of_getElem? (i := 950) (by decide +kernel))) (by decide +kernel)
theorem kw_517 : Cond.methodLink "NightMoveModel" 166 ⟨"NightMoveModel", "isStage", "(I)Z"⟩ ∈ nm_good := nm_good_of (List.mem_append_right _ (List.mem_of_getElem? (i := 947) (by decide +kernel))) (by decide +kernel)
theorem kw_518 : Cond.instanceMethod ⟨"NightMoveModel", "isStage", "(I)Z"⟩ ∈ nm_good := nm_good_of (List.mem_append_right _ (List.mem_of_getElem? (i := 949) (by decide +kernel))) (by decide +kernel)
theorem kw_519 : Cond.selects "NightMoveModel" ⟨"NightMoveModel", "isStage", "(I)Z"⟩ ⟨"NightMoveModel", "isStage", "(I)Z"⟩ ∈ nm_good := nm_good_of (List.mem_append_left _ (List.mem_of_getElem? (i := 37) (by decide +kernel))) (by decide +kernel)
theorem kw_520 : Cond.fieldLink "NightMoveModel" 170 "NightMoveModel" "rows" "I" ∈ nm_good := nm_good_of (List.mem_append_right _ (List.mem_of_getElem? (i := 748) (by decide +kernel))) (by decide +kernel)
theorem kw_521 : Cond.fieldLink "NightMoveModel" 173 "NightMoveModel" "left" "I" ∈ nm_good := nm_good_of (List.mem_append_right _ (List.mem_of_getElem? (i := 749) (by decide +kernel))) (by decide +kernel)
theorem kw_522 : Cond.fieldLink "NightMoveModel" 176 "NightMoveModel" "fails" "I" ∈ nm_good := nm_good_of (List.mem_append_right _ (List.mem_of_getElem? (i := 720) (by decide +kernel))) (by decide +kernel)
theorem kw_523 : Cond.code ⟨"NightMoveModel", "settleBack", "()V"⟩ cX9_settleBack 2 none ∈ nm_good := nm_good_of (List.mem_append_right _ (List.mem_of_getElem? (i := 958) (by decide +kernel))) (by decide +kernel)
theorem kw_524 : Cond.methodLink "NightMoveModel" 179 ⟨"NightMoveModel", "settleBack", "()V"⟩ ∈ nm_good := nm_good_of (List.mem_append_right _ (List.mem_of_getElem? (i := 955) (by decide +kernel))) (by decide +kernel)
theorem kw_525 : Cond.instanceMethod ⟨"NightMoveModel", "settleBack", "()V"⟩ ∈ nm_good := nm_good_of (List.mem_append_right _ (List.mem_of_getElem? (i := 957) (by decide +kernel))) (by decide +kernel)
theorem kw_526 : Cond.selects "NightMoveModel" ⟨"NightMoveModel", "settleBack", "()V"⟩ ⟨"NightMoveModel", "settleBack", "()V"⟩ ∈ nm_good := nm_good_of (List.mem_append_left _ (List.mem_of_getElem? (i := 38) (by decide +kernel))) (by decide +kernel)
theorem kw_527 : Cond.code ⟨"NightMoveModel", "minute", "()V"⟩ cX9_minute 3 none ∈ nm_good := nm_good_of (List.mem_append_right _ (List.mem_of_getElem? (i := 966) (by decide +kernel))) (by decide +kernel)
theorem kw_528 : Cond.methodLink "NightMoveModel" 182 ⟨"NightMoveModel", "minute", "()V"⟩ ∈ nm_good := nm_good_of (List.mem_append_right _ (List.mem_of_getElem? (i := 963) (by decide +kernel))) (by decide +kernel)
theorem kw_529 : Cond.instanceMethod ⟨"NightMoveModel", "minute", "()V"⟩ ∈ nm_good := nm_good_of (List.mem_append_right _ (List.mem_of_getElem? (i := 965) (by decide +kernel))) (by decide +kernel)
theorem kw_530 : Cond.selects "NightMoveModel" ⟨"NightMoveModel", "minute", "()V"⟩ ⟨"NightMoveModel", "minute", "()V"⟩ ∈ nm_good := nm_good_of (List.mem_append_left _ (List.mem_of_getElem? (i := 39) (by decide +kernel))) (by decide +kernel)
theorem kw_531 : Cond.code ⟨"NightMoveModel", "whole", "()I"⟩ cX9_whole 3 (some .int) ∈ nm_good := nm_good_of (List.mem_append_right _ (List.mem_of_getElem? (i := 978) (by decide +kernel))) (by decide +kernel)
theorem kw_532 : Cond.methodLink "NightMoveModel" 185 ⟨"NightMoveModel", "whole", "()I"⟩ ∈ nm_good := nm_good_of (List.mem_append_right _ (List.mem_of_getElem? (i := 983) (by decide +kernel))) (by decide +kernel)
theorem kw_533 : Cond.instanceMethod ⟨"NightMoveModel", "whole", "()I"⟩ ∈ nm_good := nm_good_of (List.mem_append_right _ (List.mem_of_getElem? (i := 976) (by decide +kernel))) (by decide +kernel)
theorem kw_534 : Cond.selects "NightMoveModel" ⟨"NightMoveModel", "whole", "()I"⟩ ⟨"NightMoveModel", "whole", "()I"⟩ ∈ nm_good := nm_good_of (List.mem_append_right _ (List.mem_of_getElem? (i := 977) (by decide +kernel))) (by decide +kernel)
theorem kw_535 : Cond.fieldLink "NightMoveModel" 189 "NightMoveModel" "faults" "I" ∈ nm_good := nm_good_of (List.mem_append_right _ (List.mem_of_getElem? (i := 719) (by decide +kernel))) (by decide +kernel)
theorem kw_536 : Cond.fieldLink "NightMoveModel" 192 "NightMoveModel" "size" "I" ∈ nm_good := nm_good_of (List.mem_append_right _ (List.mem_of_getElem? (i := 755) (by decide +kernel))) (by decide +kernel)
theorem kw_537 : Cond.fieldLink "NightMoveModel" 195 "NightMoveModel" "at" "I" ∈ nm_good := nm_good_of (List.mem_append_right _ (List.mem_of_getElem? (i := 756) (by decide +kernel))) (by decide +kernel)
theorem kw_538 : Cond.fieldLink "NightMoveModel" 198 "NightMoveModel" "wrong" "I" ∈ nm_good := nm_good_of (List.mem_append_right _ (List.mem_of_getElem? (i := 757) (by decide +kernel))) (by decide +kernel)
theorem kw_539 : Cond.fieldLink "NightMoveModel" 201 "NightMoveModel" "said" "I" ∈ nm_good := nm_good_of (List.mem_append_right _ (List.mem_of_getElem? (i := 759) (by decide +kernel))) (by decide +kernel)
theorem kw_540 : Cond.code ⟨"NightMoveModel", "look", "()I"⟩ cX9_look 1 (some .int) ∈ nm_good := nm_good_of (List.mem_append_right _ (List.mem_of_getElem? (i := 1019) (by decide +kernel))) (by decide +kernel)
theorem kw_541 : Cond.methodLink "NightMoveModel" 204 ⟨"NightMoveModel", "look", "()I"⟩ ∈ nm_good := nm_good_of (List.mem_append_right _ (List.mem_of_getElem? (i := 1016) (by decide +kernel))) (by decide +kernel)
theorem kw_542 : Cond.instanceMethod ⟨"NightMoveModel", "look", "()I"⟩ ∈ nm_good := nm_good_of (List.mem_append_right _ (List.mem_of_getElem? (i := 1018) (by decide +kernel))) (by decide +kernel)
theorem kw_543 : Cond.selects "NightMoveModel" ⟨"NightMoveModel", "look", "()I"⟩ ⟨"NightMoveModel", "look", "()I"⟩ ∈ nm_good := nm_good_of (List.mem_append_left _ (List.mem_of_getElem? (i := 43) (by decide +kernel))) (by decide +kernel)
theorem kw_544 : Cond.fieldLink "NightMoveModel" 207 "NightMoveModel" "deep" "I" ∈ nm_good := nm_good_of (List.mem_append_right _ (List.mem_of_getElem? (i := 758) (by decide +kernel))) (by decide +kernel)
theorem kw_545 : Cond.code ⟨"NightMoveModel", "tests", "()V"⟩ cX9_tests 1 none ∈ nm_good := nm_good_of (List.mem_append_right _ (List.mem_of_getElem? (i := 1007) (by decide +kernel))) (by decide +kernel)
theorem kw_546 : Cond.methodLink "NightMoveModel" 210 ⟨"NightMoveModel", "tests", "()V"⟩ ∈ nm_good := nm_good_of (List.mem_append_right _ (List.mem_of_getElem? (i := 1004) (by decide +kernel))) (by decide +kernel)
theorem kw_547 : Cond.instanceMethod ⟨"NightMoveModel", "tests", "()V"⟩ ∈ nm_good := nm_good_of (List.mem_append_right _ (List.mem_of_getElem? (i := 1006) (by decide +kernel))) (by decide +kernel)
theorem kw_548 : Cond.selects "NightMoveModel" ⟨"NightMoveModel", "tests", "()V"⟩ ⟨"NightMoveModel", "tests", "()V"⟩ ∈ nm_good := nm_good_of (List.mem_append_left _ (List.mem_of_getElem? (i := 40) (by decide +kernel))) (by decide +kernel)
theorem kw_549 : Cond.code ⟨"NightMoveModel", "bad", "()V"⟩ cX9_bad 1 none ∈ nm_good := nm_good_of (List.mem_append_right _ (List.mem_of_getElem? (i := 1023) (by decide +kernel))) (by decide +kernel)
theorem kw_550 : Cond.methodLink "NightMoveModel" 213 ⟨"NightMoveModel", "bad", "()V"⟩ ∈ nm_good := nm_good_of (List.mem_append_right _ (List.mem_of_getElem? (i := 1020) (by decide +kernel))) (by decide +kernel)
theorem kw_551 : Cond.instanceMethod ⟨"NightMoveModel", "bad", "()V"⟩ ∈ nm_good := nm_good_of (List.mem_append_right _ (List.mem_of_getElem? (i := 1022) (by decide +kernel))) (by decide +kernel)
theorem kw_552 : Cond.selects "NightMoveModel" ⟨"NightMoveModel", "bad", "()V"⟩ ⟨"NightMoveModel", "bad", "()V"⟩ ∈ nm_good := nm_good_of (List.mem_append_left _ (List.mem_of_getElem? (i := 44) (by decide +kernel))) (by decide +kernel)
theorem kw_553 : Cond.code ⟨"NightMoveModel", "say", "(I)V"⟩ cX9_say 2 none ∈ nm_good := nm_good_of (List.mem_append_right _ (List.mem_of_getElem? (i := 1027) (by decide +kernel))) (by decide +kernel)
theorem kw_554 : Cond.methodLink "NightMoveModel" 216 ⟨"NightMoveModel", "say", "(I)V"⟩ ∈ nm_good := nm_good_of (List.mem_append_right _ (List.mem_of_getElem? (i := 1024) (by decide +kernel))) (by decide +kernel)
theorem kw_555 : Cond.instanceMethod ⟨"NightMoveModel", "say", "(I)V"⟩ ∈ nm_good := nm_good_of (List.mem_append_right _ (List.mem_of_getElem? (i := 1026) (by decide +kernel))) (by decide +kernel)
theorem kw_556 : Cond.selects "NightMoveModel" ⟨"NightMoveModel", "say", "(I)V"⟩ ⟨"NightMoveModel", "say", "(I)V"⟩ ∈ nm_good := nm_good_of (List.mem_append_left _ (List.mem_of_getElem? (i := 45) (by decide +kernel))) (by decide +kernel)
theorem kw_557 : Cond.code ⟨"NightMoveModel", "unit", "()V"⟩ cX9_unit 6 none ∈ nm_good := nm_good_of (List.mem_append_right _ (List.mem_of_getElem? (i := 1015) (by decide +kernel))) (by decide +kernel)
theorem kw_558 : Cond.methodLink "NightMoveModel" 220 ⟨"NightMoveModel", "unit", "()V"⟩ ∈ nm_good := nm_good_of (List.mem_append_right _ (List.mem_of_getElem? (i := 1012) (by decide +kernel))) (by decide +kernel)
theorem kw_559 : Cond.instanceMethod ⟨"NightMoveModel", "unit", "()V"⟩ ∈ nm_good := nm_good_of (List.mem_append_right _ (List.mem_of_getElem? (i := 1014) (by decide +kernel))) (by decide +kernel)
theorem kw_560 : Cond.selects "NightMoveModel" ⟨"NightMoveModel", "unit", "()V"⟩ ⟨"NightMoveModel", "unit", "()V"⟩ ∈ nm_good := nm_good_of (List.mem_append_left _ (List.mem_of_getElem? (i := 42) (by decide +kernel))) (by decide +kernel)
theorem kw_561 : Cond.code ⟨"NightMoveModel", "part", "()V"⟩ cX9_part 1 none ∈ nm_good := nm_good_of (List.mem_append_right _ (List.mem_of_getElem? (i := 1011) (by decide +kernel))) (by decide +kernel)
theorem kw_562 : Cond.methodLink "NightMoveModel" 223 ⟨"NightMoveModel", "part", "()V"⟩ ∈ nm_good := nm_good_of (List.mem_append_right _ (List.mem_of_getElem? (i := 1008) (by decide +kernel))) (by decide +kernel)
theorem kw_563 : Cond.instanceMethod ⟨"NightMoveModel", "part", "()V"⟩ ∈ nm_good := nm_good_of (List.mem_append_right _ (List.mem_of_getElem? (i := 1010) (by decide +kernel))) (by decide +kernel)
theorem kw_564 : Cond.selects "NightMoveModel" ⟨"NightMoveModel", "part", "()V"⟩ ⟨"NightMoveModel", "part", "()V"⟩ ∈ nm_good := nm_good_of (List.mem_append_left _ (List.mem_of_getElem? (i := 41) (by decide +kernel))) (by decide +kernel)
theorem kw_565 : Cond.code ⟨"NightMoveModel", "fault", "()I"⟩ cX9_fault 1 (some .int) ∈ nm_good := nm_good_of (List.mem_append_right _ (List.mem_of_getElem? (i := 1003) (by decide +kernel))) (by decide +kernel)
theorem kw_566 : Cond.methodLink "NightMoveModel" 226 ⟨"NightMoveModel", "fault", "()I"⟩ ∈ nm_good := nm_good_of (List.mem_append_right _ (List.mem_of_getElem? (i := 1032) (by decide +kernel))) (by decide +kernel)
theorem kw_567 : Cond.instanceMethod ⟨"NightMoveModel", "fault", "()I"⟩ ∈ nm_good := nm_good_of (List.mem_append_right _ (List.mem_of_getElem? (i := 1001) (by decide +kernel))) (by decide +kernel)
theorem kw_568 : Cond.selects "NightMoveModel" ⟨"NightMoveModel", "fault", "()I"⟩ ⟨"NightMoveModel", "fault", "()I"⟩ ∈ nm_good := nm_good_of (List.mem_append_right _ (List.mem_of_getElem? (i := 1002) (by decide +kernel))) (by decide +kernel)
theorem kw_569 : Cond.fieldLink "NightMoveModel" 229 "NightMoveModel" "ruled" "Z" ∈ nm_good := nm_good_of (List.mem_append_right _ (List.mem_of_getElem? (i := 760) (by decide +kernel))) (by decide +kernel)
theorem kw_570 : Cond.code ⟨"NightMoveModel", "ready", "()I"⟩ cX9_ready 6 (some .int) ∈ nm_good := nm_good_of (List.mem_append_right _ (List.mem_of_getElem? (i := 982) (by decide +kernel))) (by decide +kernel)
theorem kw_571 : Cond.methodLink "NightMoveModel" 232 ⟨"NightMoveModel", "ready", "()I"⟩ ∈ nm_good := nm_good_of (List.mem_append_right _ (List.mem_of_getElem? (i := 1037) (by decide +kernel))) (by decide +kernel)
theorem kw_572 : Cond.instanceMethod ⟨"NightMoveModel", "ready", "()I"⟩ ∈ nm_good := nm_good_of (List.mem_append_right _ (List.mem_of_getElem? (i := 980) (by decide +kernel))) (by decide +kernel)
theorem kw_573 : Cond.selects "NightMoveModel" ⟨"NightMoveModel", "ready", "()I"⟩ ⟨"NightMoveModel", "ready", "()I"⟩ ∈ nm_good := nm_good_of (List.mem_append_right _ (List.mem_of_getElem? (i := 981) (by decide +kernel))) (by decide +kernel)
theorem kw_574 : Cond.code ⟨"NightMoveModel", "openMany", "()I"⟩ cX9_openMany 3 (some .int) ∈ nm_good := nm_good_of (List.mem_append_right _ (List.mem_of_getElem? (i := 1041) (by decide +kernel))) (by decide +kernel)
theorem kw_575 : Cond.methodLink "NightMoveModel" 235 ⟨"NightMoveModel", "openMany", "()I"⟩ ∈ nm_good := nm_good_of (List.mem_append_right _ (List.mem_of_getElem? (i := 1038) (by decide +kernel))) (by decide +kernel)
theorem kw_576 : Cond.instanceMethod ⟨"NightMoveModel", "openMany", "()I"⟩ ∈ nm_good := nm_good_of (List.mem_append_right _ (List.mem_of_getElem? (i := 1040) (by decide +kernel))) (by decide +kernel)
theorem kw_577 : Cond.selects "NightMoveModel" ⟨"NightMoveModel", "openMany", "()I"⟩ ⟨"NightMoveModel", "openMany", "()I"⟩ ∈ nm_good := nm_good_of (List.mem_append_left _ (List.mem_of_getElem? (i := 46) (by decide +kernel))) (by decide +kernel)
theorem kw_578 : Cond.code ⟨"NightMoveModel", "doneMany", "()I"⟩ cX9_doneMany 3 (some .int) ∈ nm_good := nm_good_of (List.mem_append_right _ (List.mem_of_getElem? (i := 1045) (by decide +kernel))) (by decide +kernel)
theorem kw_579 : Cond.methodLink "NightMoveModel" 238 ⟨"NightMoveModel", "doneMany", "()I"⟩ ∈ nm_good := nm_good_of (List.mem_append_right _ (List.mem_of_getElem? (i := 1042) (by decide +kernel))) (by decide +kernel)
theorem kw_580 : Cond.instanceMethod ⟨"NightMoveModel", "doneMany", "()I"⟩ ∈ nm_good := nm_good_of (List.mem_append_right _ (List.mem_of_getElem? (i := 1044) (by decide +kernel))) (by decide +kernel)
theorem kw_581 : Cond.selects "NightMoveModel" ⟨"NightMoveModel", "doneMany", "()I"⟩ ⟨"NightMoveModel", "doneMany", "()I"⟩ ∈ nm_good := nm_good_of (List.mem_append_left _ (List.mem_of_getElem? (i := 47) (by decide +kernel))) (by decide +kernel)
theorem kw_582 : Cond.constant "java/lang/Integer" 265 1431655765 ∈ nm_good := nm_good_of (List.mem_append_right _ (List.mem_of_getElem? (i := 395) (by decide +kernel))) (by decide +kernel)
theorem kw_583 : Cond.constant "java/lang/Integer" 266 858993459 ∈ nm_good := nm_good_of (List.mem_append_right _ (List.mem_of_getElem? (i := 396) (by decide +kernel))) (by decide +kernel)
theorem kw_584 : Cond.constant "java/lang/Integer" 267 252645135 ∈ nm_good := nm_good_of (List.mem_append_right _ (List.mem_of_getElem? (i := 397) (by decide +kernel))) (by decide +kernel)
theorem kw_585 : Cond.classLink "NightMoveLaw" 7 "NightMove" ∈ nm_good := nm_good_of (List.mem_append_right _ (List.mem_of_getElem? (i := 13) (by decide +kernel))) (by decide +kernel)
theorem kw_586 : Cond.instantiable "NightMove" 12 ∈ nm_good := nm_good_of (List.mem_append_right _ (List.mem_of_getElem? (i := 14) (by decide +kernel))) (by decide +kernel)
theorem kw_587 : Cond.code ⟨"NightMove", "<init>", "()V"⟩ cX8_init 3 none ∈ nm_good := nm_good_of (List.mem_append_right _ (List.mem_of_getElem? (i := 17) (by decide +kernel))) (by decide +kernel)
theorem kw_588 : Cond.methodLink "NightMoveLaw" 9 ⟨"NightMove", "<init>", "()V"⟩ ∈ nm_good := nm_good_of (List.mem_append_right _ (List.mem_of_getElem? (i := 15) (by decide +kernel))) (by decide +kernel)
theorem kw_589 : Cond.instanceMethod ⟨"NightMove", "<init>", "()V"⟩ ∈ nm_good := nm_good_of (List.mem_append_right _ (List.mem_of_getElem? (i := 16) (by decide +kernel))) (by decide +kernel)
theorem kw_590 : Cond.classLink "NightMoveLaw" 10 "NightMoveModel" ∈ nm_good := nm_good_of (List.mem_append_right _ (List.mem_of_getElem? (i := 708) (by decide +kernel))) (by decide +kernel)
theorem kw_591 : Cond.instantiable "NightMoveModel" 48 ∈ nm_good := nm_good_of (List.mem_append_right _ (List.mem_of_getElem? (i := 709) (by decide +kernel))) (by decide +kernel)
theorem kw_592 : Cond.code ⟨"NightMoveModel", "<init>", "()V"⟩ cX9_init 1 none ∈ nm_good := nm_good_of (List.mem_append_right _ (List.mem_of_getElem? (i := 712) (by decide +kernel))) (by decide +kernel)
theorem kw_593 : Cond.methodLink "NightMoveLaw" 12 ⟨"NightMoveModel", "<init>", "()V"⟩ ∈ nm_good := nm_good_of (List.mem_append_right _ (List.mem_of_getElem? (i := 710) (by decide +kernel))) (by decide +kernel)
theorem kw_594 : Cond.instanceMethod ⟨"NightMoveModel", "<init>", "()V"⟩ ∈ nm_good := nm_good_of (List.mem_append_right _ (List.mem_of_getElem? (i := 711) (by decide +kernel))) (by decide +kernel)
theorem kw_595 : Cond.code ⟨"NightMove", "thing", "(IIII)I"⟩ cX8_thing 5 (some .int) ∈ nm_good := nm_good_of (List.mem_append_right _ (List.mem_of_getElem? (i := 321) (by decide +kernel))) (by decide +kernel)
theorem kw_596 : Cond.methodLink "NightMoveLaw" 13 ⟨"NightMove", "thing", "(IIII)I"⟩ ∈ nm_good := nm_good_of (List.mem_append_right _ (List.mem_of_getElem? (i := 318) (by decide +kernel))) (by decide +kernel)
theorem kw_597 : Cond.instanceMethod ⟨"NightMove", "thing", "(IIII)I"⟩ ∈ nm_good := nm_good_of (List.mem_append_right _ (List.mem_of_getElem? (i := 319) (by decide +kernel))) (by decide +kernel)
theorem kw_598 : Cond.selects "NightMove" ⟨"NightMove", "thing", "(IIII)I"⟩ ⟨"NightMove", "thing", "(IIII)I"⟩ ∈ nm_good := nm_good_of (List.mem_append_right _ (List.mem_of_getElem? (i := 320) (by decide +kernel))) (by decide +kernel)
theorem kw_599 : Cond.code ⟨"NightMoveModel", "thing", "(IIII)I"⟩ cX9_thing 5 (some .int) ∈ nm_good := nm_good_of (List.mem_append_right _ (List.mem_of_getElem? (i := 862) (by decide +kernel))) (by decide +kernel)
theorem kw_600 : Cond.methodLink "NightMoveLaw" 17 ⟨"NightMoveModel", "thing", "(IIII)I"⟩ ∈ nm_good := nm_good_of (List.mem_append_right _ (List.mem_of_getElem? (i := 859) (by decide +kernel))) (by decide +kernel)
theorem kw_601 : Cond.instanceMethod ⟨"NightMoveModel", "thing", "(IIII)I"⟩ ∈ nm_good := nm_good_of (List.mem_append_right _ (List.mem_of_getElem? (i := 860) (by decide +kernel))) (by decide +kernel)
theorem kw_602 : Cond.selects "NightMoveModel" ⟨"NightMoveModel", "thing", "(IIII)I"⟩ ⟨"NightMoveModel", "thing", "(IIII)I"⟩ ∈ nm_good := nm_good_of (List.mem_append_right _ (List.mem_of_getElem? (i := 861) (by decide +kernel))) (by decide +kernel)
theorem kw_603 : Cond.code ⟨"NightMove", "convoy", "(III)I"⟩ cX8_convoy 4 (some .int) ∈ nm_good := nm_good_of (List.mem_append_right _ (List.mem_of_getElem? (i := 341) (by decide +kernel))) (by decide +kernel)
theorem kw_604 : Cond.methodLink "NightMoveLaw" 18 ⟨"NightMove", "convoy", "(III)I"⟩ ∈ nm_good := nm_good_of (List.mem_append_right _ (List.mem_of_getElem? (i := 338) (by decide +kernel))) (by decide +kernel)
theorem kw_605 : Cond.instanceMethod ⟨"NightMove", "convoy", "(III)I"⟩ ∈ nm_good := nm_good_of (List.mem_append_right _ (List.mem_of_getElem? (i := 339) (by decide +kernel))) (by decide +kernel)
theorem kw_606 : Cond.selects "NightMove" ⟨"NightMove", "convoy", "(III)I"⟩ ⟨"NightMove", "convoy", "(III)I"⟩ ∈ nm_good := nm_good_of (List.mem_append_right _ (List.mem_of_getElem? (i := 340) (by decide +kernel))) (by decide +kernel)
theorem kw_607 : Cond.code ⟨"NightMoveModel", "convoy", "(III)I"⟩ cX9_convoy 4 (some .int) ∈ nm_good := nm_good_of (List.mem_append_right _ (List.mem_of_getElem? (i := 869) (by decide +kernel))) (by decide +kernel)
theorem kw_608 : Cond.methodLink "NightMoveLaw" 22 ⟨"NightMoveModel", "convoy", "(III)I"⟩ ∈ nm_good := nm_good_of (List.mem_append_right _ (List.mem_of_getElem? (i := 866) (by decide +kernel))) (by decide +kernel)
theorem kw_609 : Cond.instanceMethod ⟨"NightMoveModel", "convoy", "(III)I"⟩ ∈ nm_good := nm_good_of (List.mem_append_right _ (List.mem_of_getElem? (i := 867) (by decide +kernel))) (by decide +kernel)
theorem kw_610 : Cond.selects "NightMoveModel" ⟨"NightMoveModel", "convoy", "(III)I"⟩ ⟨"NightMoveModel", "convoy", "(III)I"⟩ ∈ nm_good := nm_good_of (List.mem_append_right _ (List.mem_of_getElem? (i := 868) (by decide +kernel))) (by decide +kernel)
theorem kw_611 : Cond.code ⟨"NightMove", "set", "(III)Z"⟩ cX8_set 4 (some .boolean) ∈ nm_good := nm_good_of (List.mem_append_right _ (List.mem_of_getElem? (i := 358) (by decide +kernel))) (by decide +kernel)
theorem kw_612 : Cond.methodLink "NightMoveLaw" 23 ⟨"NightMove", "set", "(III)Z"⟩ ∈ nm_good := nm_good_of (List.mem_append_right _ (List.mem_of_getElem? (i := 355) (by decide +kernel))) (by decide +kernel)
theorem kw_613 : Cond.instanceMethod ⟨"NightMove", "set", "(III)Z"⟩ ∈ nm_good := nm_good_of (List.mem_append_right _ (List.mem_of_getElem? (i := 356) (by decide +kernel))) (by decide +kernel)
theorem kw_614 : Cond.selects "NightMove" ⟨"NightMove", "set", "(III)Z"⟩ ⟨"NightMove", "set", "(III)Z"⟩ ∈ nm_good := nm_good_of (List.mem_append_right _ (List.mem_of_getElem? (i := 357) (by decide +kernel))) (by decide +kernel)
theorem kw_615 : Cond.code ⟨"NightMoveModel", "set", "(III)Z"⟩ cX9_set 4 (some .boolean) ∈ nm_good := nm_good_of (List.mem_append_right _ (List.mem_of_getElem? (i := 873) (by decide +kernel))) (by decide +kernel)
theorem kw_616 : Cond.methodLink "NightMoveLaw" 27 ⟨"NightMoveModel", "set", "(III)Z"⟩ ∈ nm_good := nm_good_of (List.mem_append_right _ (List.mem_of_getElem? (i := 870) (by decide +kernel))) (by decide +kernel)
theorem kw_617 : Cond.instanceMethod ⟨"NightMoveModel", "set", "(III)Z"⟩ ∈ nm_good := nm_good_of (List.mem_append_right _ (List.mem_of_getElem? (i := 871) (by decide +kernel))) (by decide +kernel)
theorem kw_618 : Cond.selects "NightMoveModel" ⟨"NightMoveModel", "set", "(III)Z"⟩ ⟨"NightMoveModel", "set", "(III)Z"⟩ ∈ nm_good := nm_good_of (List.mem_append_right _ (List.mem_of_getElem? (i := 872) (by decide +kernel))) (by decide +kernel)
theorem kw_619 : Cond.code ⟨"NightMove", "least", "()I"⟩ cX8_least 1 (some .int) ∈ nm_good := nm_good_of (List.mem_append_right _ (List.mem_of_getElem? (i := 362) (by decide +kernel))) (by decide +kernel)
theorem kw_620 : Cond.methodLink "NightMoveLaw" 28 ⟨"NightMove", "least", "()I"⟩ ∈ nm_good := nm_good_of (List.mem_append_right _ (List.mem_of_getElem? (i := 359) (by decide +kernel))) (by decide +kernel)
theorem kw_621 : Cond.instanceMethod ⟨"NightMove", "least", "()I"⟩ ∈ nm_good := nm_good_of (List.mem_append_right _ (List.mem_of_getElem? (i := 360) (by decide +kernel))) (by decide +kernel)
theorem kw_622 : Cond.selects "NightMove" ⟨"NightMove", "least", "()I"⟩ ⟨"NightMove", "least", "()I"⟩ ∈ nm_good := nm_good_of (List.mem_append_right _ (List.mem_of_getElem? (i := 361) (by decide +kernel))) (by decide +kernel)
theorem kw_623 : Cond.code ⟨"NightMoveModel", "least", "()I"⟩ cX9_least 1 (some .int) ∈ nm_good := nm_good_of (List.mem_append_right _ (List.mem_of_getElem? (i := 877) (by decide +kernel))) (by decide +kernel)
theorem kw_624 : Cond.methodLink "NightMoveLaw" 32 ⟨"NightMoveModel", "least", "()I"⟩ ∈ nm_good := nm_good_of (List.mem_append_right _ (List.mem_of_getElem? (i := 874) (by decide +kernel))) (by decide +kernel)
theorem kw_625 : Cond.instanceMethod ⟨"NightMoveModel", "least", "()I"⟩ ∈ nm_good := nm_good_of (List.mem_append_right _ (List.mem_of_getElem? (i := 875) (by decide +kernel))) (by decide +kernel)
theorem kw_626 : Cond.selects "NightMoveModel" ⟨"NightMoveModel", "least", "()I"⟩ ⟨"NightMoveModel", "least", "()I"⟩ ∈ nm_good := nm_good_of (List.mem_append_right _ (List.mem_of_getElem? (i := 876) (by decide +kernel))) (by decide +kernel)
theorem kw_627 : Cond.code ⟨"NightMove", "share", "(I)I"⟩ cX8_share 2 (some .int) ∈ nm_good := nm_good_of (List.mem_append_right _ (List.mem_of_getElem? (i := 417) (by decide +kernel))) (by decide +kernel)
theorem kw_628 : Cond.methodLink "NightMoveLaw" 33 ⟨"NightMove", "share", "(I)I"⟩ ∈ nm_good := nm_good_of (List.mem_append_right _ (List.mem_of_getElem? (i := 414) (by decide +kernel))) (by decide +kernel)
theorem kw_629 : Cond.instanceMethod ⟨"NightMove", "share", "(I)I"⟩ ∈ nm_good := nm_good_of (List.mem_append_right _ (List.mem_of_getElem? (i := 415) (by decide +kernel))) (by decide +kernel)
theorem kw_630 : Cond.selects "NightMove" ⟨"NightMove", "share", "(I)I"⟩ ⟨"NightMove", "share", "(I)I"⟩ ∈ nm_good := nm_good_of (List.mem_append_right _ (List.mem_of_getElem? (i := 416) (by decide +kernel))) (by decide +kernel)
theorem kw_631 : Cond.code ⟨"NightMoveModel", "share", "(I)I"⟩ cX9_share 2 (some .int) ∈ nm_good := nm_good_of (List.mem_append_right _ (List.mem_of_getElem? (i := 890) (by decide +kernel))) (by decide +kernel)
theorem kw_632 : Cond.methodLink "NightMoveLaw" 37 ⟨"NightMoveModel", "share", "(I)I"⟩ ∈ nm_good := nm_good_of (List.mem_append_right _ (List.mem_of_getElem? (i := 887) (by decide +kernel))) (by decide +kernel)
theorem kw_633 : Cond.instanceMethod ⟨"NightMoveModel", "share", "(I)I"⟩ ∈ nm_good := nm_good_of (List.mem_append_right _ (List.mem_of_getElem? (i := 888) (by decide +kernel))) (by decide +kernel)
theorem kw_634 : Cond.selects "NightMoveModel" ⟨"NightMoveModel", "share", "(I)I"⟩ ⟨"NightMoveModel", "share", "(I)I"⟩ ∈ nm_good := nm_good_of (List.mem_append_right _ (List.mem_of_getElem? (i := 889) (by decide +kernel))) (by decide +kernel)
theorem kw_635 : Cond.code ⟨"NightMove", "settle", "()I"⟩ cX8_settle 1 (some .int) ∈ nm_good := nm_good_of (List.mem_append_right _ (List.mem_of_getElem? (i := 429) (by decide +kernel))) (by decide +kernel)
theorem kw_636 : Cond.methodLink "NightMoveLaw" 38 ⟨"NightMove", "settle", "()I"⟩ ∈ nm_good := nm_good_of (List.mem_append_right _ (List.mem_of_getElem? (i := 426) (by decide +kernel))) (by decide +kernel)
theorem kw_637 : Cond.instanceMethod ⟨"NightMove", "settle", "()I"⟩ ∈ nm_good := nm_good_of (List.mem_append_right _ (List.mem_of_getElem? (i := 427) (by decide +kernel))) (by decide +kernel)
theorem kw_638 : Cond.selects "NightMove" ⟨"NightMove", "settle", "()I"⟩ ⟨"NightMove", "settle", "()I"⟩ ∈ nm_good := nm_good_of (List.mem_append_right _ (List.mem_of_getElem? (i := 428) (by decide +kernel))) (by decide +kernel)
theorem kw_639 : Cond.code ⟨"NightMoveModel", "settle", "()I"⟩ cX9_settle 1 (some .int) ∈ nm_good := nm_good_of (List.mem_append_right _ (List.mem_of_getElem? (i := 894) (by decide +kernel))) (by decide +kernel)
theorem kw_640 : Cond.methodLink "NightMoveLaw" 41 ⟨"NightMoveModel", "settle", "()I"⟩ ∈ nm_good := nm_good_of (List.mem_append_right _ (List.mem_of_getElem? (i := 891) (by decide +kernel))) (by decide +kernel)
theorem kw_641 : Cond.instanceMethod ⟨"NightMoveModel", "settle", "()I"⟩ ∈ nm_good := nm_good_of (List.mem_append_right _ (List.mem_of_getElem? (i := 892) (by decide +kernel))) (by decide +kernel)
theorem kw_642 : Cond.selects "NightMoveModel" ⟨"NightMoveModel", "settle", "()I"⟩ ⟨"NightMoveModel", "settle", "()I"⟩ ∈ nm_good := nm_good_of (List.mem_append_right _ (List.mem_of_getElem? (i := 893) (by decide +kernel))) (by decide +kernel)
theorem kw_643 : Cond.code ⟨"NightMove", "late", "(II)Z"⟩ cX8_late 3 (some .boolean) ∈ nm_good := nm_good_of (List.mem_append_right _ (List.mem_of_getElem? (i := 433) (by decide +kernel))) (by decide +kernel)
theorem kw_644 : Cond.methodLink "NightMoveLaw" 42 ⟨"NightMove", "late", "(II)Z"⟩ ∈ nm_good := nm_good_of (List.mem_append_right _ (List.mem_of_getElem? (i := 430) (by decide +kernel))) (by decide +kernel)
theorem kw_645 : Cond.instanceMethod ⟨"NightMove", "late", "(II)Z"⟩ ∈ nm_good := nm_good_of (List.mem_append_right _ (List.mem_of_getElem? (i := 431) (by decide +kernel))) (by decide +kernel)
theorem kw_646 : Cond.selects "NightMove" ⟨"NightMove", "late", "(II)Z"⟩ ⟨"NightMove", "late", "(II)Z"⟩ ∈ nm_good := nm_good_of (List.mem_append_right _ (List.mem_of_getElem? (i := 432) (by decide +kernel))) (by decide +kernel)
theorem kw_647 : Cond.code ⟨"NightMoveModel", "late", "(II)Z"⟩ cX9_late 3 (some .boolean) ∈ nm_good := nm_good_of (List.mem_append_right _ (List.mem_of_getElem? (i := 898) (by decide +kernel))) (by decide +kernel)
theorem kw_648 : Cond.methodLink "NightMoveLaw" 46 ⟨"NightMoveModel", "late", "(II)Z"⟩ ∈ nm_good := nm_good_of (List.mem_append_right _ (List.mem_of_getElem? (i := 895) (by decide +kernel))) (by decide +kernel)
theorem kw_649 : Cond.instanceMethod ⟨"NightMoveModel", "late", "(II)Z"⟩ ∈ nm_good := nm_good_of (List.mem_append_right _ (List.mem_of_getElem? (i := 896) (by decide +kernel))) (by decide +kernel)
theorem kw_650 : Cond.selects "NightMoveModel" ⟨"NightMoveModel", "late", "(II)Z"⟩ ⟨"NightMoveModel", "late", "(II)Z"⟩ ∈ nm_good := nm_good_of (List.mem_append_right _ (List.mem_of_getElem? (i := 897) (by decide +kernel))) (by decide +kernel)
theorem kw_651 : Cond.code ⟨"NightMove", "road", "(III)I"⟩ cX8_road 4 (some .int) ∈ nm_good := nm_good_of (List.mem_append_right _ (List.mem_of_getElem? (i := 456) (by decide +kernel))) (by decide +kernel)
theorem kw_652 : Cond.methodLink "NightMoveLaw" 47 ⟨"NightMove", "road", "(III)I"⟩ ∈ nm_good := nm_good_of (List.mem_append_right _ (List.mem_of_getElem? (i := 453) (by decide +kernel))) (by decide +kernel)
theorem kw_653 : Cond.instanceMethod ⟨"NightMove", "road", "(III)I"⟩ ∈ nm_good := nm_good_of (List.mem_append_right _ (List.mem_of_getElem? (i := 454) (by decide +kernel))) (by decide +kernel)
theorem kw_654 : Cond.selects "NightMove" ⟨"NightMove", "road", "(III)I"⟩ ⟨"NightMove", "road", "(III)I"⟩ ∈ nm_good := nm_good_of (List.mem_append_right _ (List.mem_of_getElem? (i := 455) (by decide +kernel))) (by decide +kernel)
theorem kw_655 : Cond.code ⟨"NightMoveModel", "road", "(III)I"⟩ cX9_road 7 (some .int) ∈ nm_good := nm_good_of (List.mem_append_right _ (List.mem_of_getElem? (i := 906) (by decide +kernel))) (by decide +kernel)
theorem kw_656 : Cond.methodLink "NightMoveLaw" 50 ⟨"NightMoveModel", "road", "(III)I"⟩ ∈ nm_good := nm_good_of (List.mem_append_right _ (List.mem_of_getElem? (i := 903) (by decide +kernel))) (by decide +kernel)
theorem kw_657 : Cond.instanceMethod ⟨"NightMoveModel", "road", "(III)I"⟩ ∈ nm_good := nm_good_of (List.mem_append_right _ (List.mem_of_getElem? (i := 904) (by decide +kernel))) (by decide +kernel)
theorem kw_658 : Cond.selects "NightMoveModel" ⟨"NightMoveModel", "road", "(III)I"⟩ ⟨"NightMoveModel", "road", "(III)I"⟩ ∈ nm_good := nm_good_of (List.mem_append_right _ (List.mem_of_getElem? (i := 905) (by decide +kernel))) (by decide +kernel)
theorem kw_659 : Cond.code ⟨"NightMove", "place", "(III)I"⟩ cX8_place 4 (some .int) ∈ nm_good := nm_good_of (List.mem_append_right _ (List.mem_of_getElem? (i := 471) (by decide +kernel))) (by decide +kernel)
theorem kw_660 : Cond.methodLink "NightMoveLaw" 51 ⟨"NightMove", "place", "(III)I"⟩ ∈ nm_good := nm_good_of (List.mem_append_right _ (List.mem_of_getElem? (i := 468) (by decide +kernel))) (by decide +kernel)
theorem kw_661 : Cond.instanceMethod ⟨"NightMove", "place", "(III)I"⟩ ∈ nm_good := nm_good_of (List.mem_append_right _ (List.mem_of_getElem? (i := 469) (by decide +kernel))) (by decide +kernel)
theorem kw_662 : Cond.selects "NightMove" ⟨"NightMove", "place", "(III)I"⟩ ⟨"NightMove", "place", "(III)I"⟩ ∈ nm_good := nm_good_of (List.mem_append_right _ (List.mem_of_getElem? (i := 470) (by decide +kernel))) (by decide +kernel)
theorem kw_663 : Cond.code ⟨"NightMoveModel", "place", "(III)I"⟩ cX9_place 4 (some .int) ∈ nm_good := nm_good_of (List.mem_append_right _ (List.mem_of_getElem? (i := 922) (by decide +kernel))) (by decide +kernel)
theorem kw_664 : Cond.methodLink "NightMoveLaw" 54 ⟨"NightMoveModel", "place", "(III)I"⟩ ∈ nm_good := nm_good_of (List.mem_append_right _ (List.mem_of_getElem? (i := 919) (by decide +kernel))) (by decide +kernel)
theorem kw_665 : Cond.instanceMethod ⟨"NightMoveModel", "place", "(III)I"⟩ ∈ nm_good := nm_good_of (List.mem_append_right _ (List.mem_of_getElem? (i := 920) (by decide +kernel))) (by decide +kernel)
theorem kw_666 : Cond.selects "NightMoveModel" ⟨"NightMoveModel", "place", "(III)I"⟩ ⟨"NightMoveModel", "place", "(III)I"⟩ ∈ nm_good := nm_good_of (List.mem_append_right _ (List.mem_of_getElem? (i := 921) (by decide +kernel))) (by decide +kernel)
theorem kw_667 : Cond.code ⟨"NightMove", "lacks", "(II)I"⟩ cX8_lacks 4 (some .int) ∈ nm_good := nm_good_of (List.mem_append_right _ (List.mem_of_getElem? (i := 480) (by decide +kernel))) (by decide +kernel)
theorem kw_668 : Cond.methodLink "NightMoveLaw" 55 ⟨"NightMove", "lacks", "(II)I"⟩ ∈ nm_good := nm_good_of (List.mem_append_right _ (List.mem_of_getElem? (i := 477) (by decide +kernel))) (by decide +kernel)
theorem kw_669 : Cond.instanceMethod ⟨"NightMove", "lacks", "(II)I"⟩ ∈ nm_good := nm_good_of (List.mem_append_right _ (List.mem_of_getElem? (i := 478) (by decide +kernel))) (by decide +kernel)
theorem kw_670 : Cond.selects "NightMove" ⟨"NightMove", "lacks", "(II)I"⟩ ⟨"NightMove", "lacks", "(II)I"⟩ ∈ nm_good := nm_good_of (List.mem_append_right _ (List.mem_of_getElem? (i := 479) (by decide +kernel))) (by decide +kernel)
theorem kw_671 : Cond.code ⟨"NightMoveModel", "lacks", "(II)I"⟩ cX9_lacks 3 (some .int) ∈ nm_good := nm_good_of (List.mem_append_right _ (List.mem_of_getElem? (i := 934) (by decide +kernel))) (by decide +kernel)
theorem kw_672 : Cond.methodLink "NightMoveLaw" 59 ⟨"NightMoveModel", "lacks", "(II)I"⟩ ∈ nm_good := nm_good_of (List.mem_append_right _ (List.mem_of_getElem? (i := 931) (by decide +kernel))) (by decide +kernel)
theorem kw_673 : Cond.instanceMethod ⟨"NightMoveModel", "lacks", "(II)I"⟩ ∈ nm_good := nm_good_of (List.mem_append_right _ (List.mem_of_getElem? (i := 932) (by decide +kernel))) (by decide +kernel)
theorem kw_674 : Cond.selects "NightMoveModel" ⟨"NightMoveModel", "lacks", "(II)I"⟩ ⟨"NightMoveModel", "lacks", "(II)I"⟩ ∈ nm_good := nm_good_of (List.mem_append_right _ (List.mem_of_getElem? (i := 933) (by decide +kernel))) (by decide +kernel)
theorem kw_675 : Cond.code ⟨"NightMove", "many", "(III)I"⟩ cX8_many 6 (some .int) ∈ nm_good := nm_good_of (List.mem_append_right _ (List.mem_of_getElem? (i := 485) (by decide +kernel))) (by decide +kernel)
theorem kw_676 : Cond.methodLink "NightMoveLaw" 60 ⟨"NightMove", "many", "(III)I"⟩ ∈ nm_good := nm_good_of (List.mem_append_right _ (List.mem_of_getElem? (i := 482) (by decide +kernel))) (by decide +kernel)
theorem kw_677 : Cond.instanceMethod ⟨"NightMove", "many", "(III)I"⟩ ∈ nm_good := nm_good_of (List.mem_append_right _ (List.mem_of_getElem? (i := 483) (by decide +kernel))) (by decide +kernel)
theorem kw_678 : Cond.selects "NightMove" ⟨"NightMove", "many", "(III)I"⟩ ⟨"NightMove", "many", "(III)I"⟩ ∈ nm_good := nm_good_of (List.mem_append_right _ (List.mem_of_getElem? (i := 484) (by decide +kernel))) (by decide +kernel)
theorem kw_679 : Cond.code ⟨"NightMoveModel", "many", "(III)I"⟩ cX9_many 6 (some .int) ∈ nm_good := nm_good_of (List.mem_append_right _ (List.mem_of_getElem? (i := 938) (by decide +kernel))) (by decide +kernel)
theorem kw_680 : Cond.methodLink "NightMoveLaw" 63 ⟨"NightMoveModel", "many", "(III)I"⟩ ∈ nm_good := nm_good_of (List.mem_append_right _ (List.mem_of_getElem? (i := 935) (by decide +kernel))) (by decide +kernel)
theorem kw_681 : Cond.instanceMethod ⟨"NightMoveModel", "many", "(III)I"⟩ ∈ nm_good := nm_good_of (List.mem_append_right _ (List.mem_of_getElem? (i := 936) (by decide +kernel))) (by decide +kernel)
theorem kw_682 : Cond.selects "NightMoveModel" ⟨"NightMoveModel", "many", "(III)I"⟩ ⟨"NightMoveModel", "many", "(III)I"⟩ ∈ nm_good := nm_good_of (List.mem_append_right _ (List.mem_of_getElem? (i := 937) (by decide +kernel))) (by decide +kernel)
theorem kw_683 : Cond.code ⟨"NightMove", "stage", "(IIIZ)I"⟩ cX8_stage 5 (some .int) ∈ nm_good := nm_good_of (List.mem_append_right _ (List.mem_of_getElem? (i := 489) (by decide +kernel))) (by decide +kernel)
theorem kw_684 : Cond.methodLink "NightMoveLaw" 64 ⟨"NightMove", "stage", "(IIIZ)I"⟩ ∈ nm_good := nm_good_of (List.mem_append_right _ (List.mem_of_getElem? (i := 486) (by decide +kernel))) (by decide +kernel)
theorem kw_685 : Cond.instanceMethod ⟨"NightMove", "stage", "(IIIZ)I"⟩ ∈ nm_good := nm_good_of (List.mem_append_right _ (List.mem_of_getElem? (i := 487) (by decide +kernel))) (by decide +kernel)
theorem kw_686 : Cond.selects "NightMove" ⟨"NightMove", "stage", "(IIIZ)I"⟩ ⟨"NightMove", "stage", "(IIIZ)I"⟩ ∈ nm_good := nm_good_of (List.mem_append_right _ (List.mem_of_getElem? (i := 488) (by decide +kernel))) (by decide +kernel)
theorem kw_687 : Cond.code ⟨"NightMoveModel", "stage", "(IIIZ)I"⟩ cX9_stage 7 (some .int) ∈ nm_good := nm_good_of (List.mem_append_right _ (List.mem_of_getElem? (i := 942) (by decide +kernel))) (by decide +kernel)
theorem kw_688 : Cond.methodLink "NightMoveLaw" 68 ⟨"NightMoveModel", "stage", "(IIIZ)I"⟩ ∈ nm_good := nm_good_of (List.mem_append_right _ (List.mem_of_getElem? (i := 939) (by decide +kernel))) (by decide +kernel)
theorem kw_689 : Cond.instanceMethod ⟨"NightMoveModel", "stage", "(IIIZ)I"⟩ ∈ nm_good := nm_good_of (List.mem_append_right _ (List.mem_of_getElem? (i := 940) (by decide +kernel))) (by decide +kernel)
theorem kw_690 : Cond.selects "NightMoveModel" ⟨"NightMoveModel", "stage", "(IIIZ)I"⟩ ⟨"NightMoveModel", "stage", "(IIIZ)I"⟩ ∈ nm_good := nm_good_of (List.mem_append_right _ (List.mem_of_getElem? (i := 941) (by decide +kernel))) (by decide +kernel)
theorem kw_691 : Cond.code ⟨"NightMove", "begin", "(I)Z"⟩ cX8_begin 2 (some .boolean) ∈ nm_good := nm_good_of (List.mem_append_right _ (List.mem_of_getElem? (i := 509) (by decide +kernel))) (by decide +kernel)
theorem kw_692 : Cond.methodLink "NightMoveLaw" 69 ⟨"NightMove", "begin", "(I)Z"⟩ ∈ nm_good := nm_good_of (List.mem_append_right _ (List.mem_of_getElem? (i := 506) (by decide +kernel))) (by decide +kernel)
theorem kw_693 : Cond.instanceMethod ⟨"NightMove", "begin", "(I)Z"⟩ ∈ nm_good := nm_good_of (List.mem_append_right _ (List.mem_of_getElem? (i := 507) (by decide +kernel))) (by decide +kernel)
theorem kw_694 : Cond.selects "NightMove" ⟨"NightMove", "begin", "(I)Z"⟩ ⟨"NightMove", "begin", "(I)Z"⟩ ∈ nm_good := nm_good_of (List.mem_append_right _ (List.mem_of_getElem? (i := 508) (by decide +kernel))) (by decide +kernel)
theorem kw_695 : Cond.code ⟨"NightMoveModel", "begin", "(I)Z"⟩ cX9_begin 3 (some .boolean) ∈ nm_good := nm_good_of (List.mem_append_right _ (List.mem_of_getElem? (i := 946) (by decide +kernel))) (by decide +kernel)
theorem kw_696 : Cond.methodLink "NightMoveLaw" 73 ⟨"NightMoveModel", "begin", "(I)Z"⟩ ∈ nm_good := nm_good_of (List.mem_append_right _ (List.mem_of_getElem? (i := 943) (by decide +kernel))) (by decide +kernel)
theorem kw_697 : Cond.instanceMethod ⟨"NightMoveModel", "begin", "(I)Z"⟩ ∈ nm_good := nm_good_of (List.mem_append_right _ (List.mem_of_getElem? (i := 944) (by decide +kernel))) (by decide +kernel)
theorem kw_698 : Cond.selects "NightMoveModel" ⟨"NightMoveModel", "begin", "(I)Z"⟩ ⟨"NightMoveModel", "begin", "(I)Z"⟩ ∈ nm_good := nm_good_of (List.mem_append_right _ (List.mem_of_getElem? (i := 945) (by decide +kernel))) (by decide +kernel)
theorem kw_699 : Cond.code ⟨"NightMove", "fail", "(I)Z"⟩ cX8_fail 2 (some .boolean) ∈ nm_good := nm_good_of (List.mem_append_right _ (List.mem_of_getElem? (i := 521) (by decide +kernel))) (by decide +kernel)
theorem kw_700 : Cond.methodLink "NightMoveLaw" 74 ⟨"NightMove", "fail", "(I)Z"⟩ ∈ nm_good := nm_good_of (List.mem_append_right _ (List.mem_of_getElem? (i := 518) (by decide +kernel))) (by decide +kernel)
theorem kw_701 : Cond.instanceMethod ⟨"NightMove", "fail", "(I)Z"⟩ ∈ nm_good := nm_good_of (List.mem_append_right _ (List.mem_of_getElem? (i := 519) (by decide +kernel))) (by decide +kernel)
theorem kw_702 : Cond.selects "NightMove" ⟨"NightMove", "fail", "(I)Z"⟩ ⟨"NightMove", "fail", "(I)Z"⟩ ∈ nm_good := nm_good_of (List.mem_append_right _ (List.mem_of_getElem? (i := 520) (by decide +kernel))) (by decide +kernel)
theorem kw_703 : Cond.code ⟨"NightMoveModel", "fail", "(I)Z"⟩ cX9_fail 5 (some .boolean) ∈ nm_good := nm_good_of (List.mem_append_right _ (List.mem_of_getElem? (i := 954) (by decide +kernel))) (by decide +kernel)
theorem kw_704 : Cond.methodLink "NightMoveLaw" 77 ⟨"NightMoveModel", "fail", "(I)Z"⟩ ∈ nm_good := nm_good_of (List.mem_append_right _ (List.mem_of_getElem? (i := 951) (by decide +kernel))) (by decide +kernel)
theorem kw_705 : Cond.instanceMethod ⟨"NightMoveModel", "fail", "(I)Z"⟩ ∈ nm_good := nm_good_of (List.mem_append_right _ (List.mem_of_getElem? (i := 952) (by decide +kernel))) (by decide +kernel)
theorem kw_706 : Cond.selects "NightMoveModel" ⟨"NightMoveModel", "fail", "(I)Z"⟩ ⟨"NightMoveModel", "fail", "(I)Z"⟩ ∈ nm_good := nm_good_of (List.mem_append_right _ (List.mem_of_getElem? (i := 953) (by decide +kernel))) (by decide +kernel)
theorem kw_707 : Cond.code ⟨"NightMove", "tick", "(I)I"⟩ cX8_tick 2 (some .int) ∈ nm_good := nm_good_of (List.mem_append_right _ (List.mem_of_getElem? (i := 541) (by decide +kernel))) (by decide +kernel)
theorem kw_708 : Cond.methodLink "NightMoveLaw" 78 ⟨"NightMove", "tick", "(I)I"⟩ ∈ nm_good := nm_good_of (List.mem_append_right _ (List.mem_of_getElem? (i := 538) (by decide +kernel))) (by decide +kernel)
theorem kw_709 : Cond.instanceMethod ⟨"NightMove", "tick", "(I)I"⟩ ∈ nm_good := nm_good_of (List.mem_append_right _ (List.mem_of_getElem? (i := 539) (by decide +kernel))) (by decide +kernel)
theorem kw_710 : Cond.selects "NightMove" ⟨"NightMove", "tick", "(I)I"⟩ ⟨"NightMove", "tick", "(I)I"⟩ ∈ nm_good := nm_good_of (List.mem_append_right _ (List.mem_of_getElem? (i := 540) (by decide +kernel))) (by decide +kernel)
theorem kw_711 : Cond.code ⟨"NightMoveModel", "tick", "(I)I"⟩ cX9_tick 3 (some .int) ∈ nm_good := nm_good_of (List.mem_append_right _ (List.mem_of_getElem? (i := 962) (by decide +kernel))) (by decide +kernel)
theorem kw_712 : Cond.methodLink "NightMoveLaw" 81 ⟨"NightMoveModel", "tick", "(I)I"⟩ ∈ nm_good := nm_good_of (List.mem_append_right _ (List.mem_of_getElem? (i := 959) (by decide +kernel))) (by decide +kernel)
theorem kw_713 : Cond.instanceMethod ⟨"NightMoveModel", "tick", "(I)I"⟩ ∈ nm_good := nm_good_of (List.mem_append_right _ (List.mem_of_getElem? (i := 960) (by decide +kernel))) (by decide +kernel)
theorem kw_714 : Cond.selects "NightMoveModel" ⟨"NightMoveModel", "tick", "(I)I"⟩ ⟨"NightMoveModel", "tick", "(I)I"⟩ ∈ nm_good := nm_good_of (List.mem_append_right _ (List.mem_of_getElem? (i := 961) (by decide +kernel))) (by decide +kernel)
theorem kw_715 : Cond.code ⟨"NightMove", "told", "(II)I"⟩ cX8_told 3 (some .int) ∈ nm_good := nm_good_of (List.mem_append_right _ (List.mem_of_getElem? (i := 562) (by decide +kernel))) (by decide +kernel)
theorem kw_716 : Cond.methodLink "NightMoveLaw" 82 ⟨"NightMove", "told", "(II)I"⟩ ∈ nm_good := nm_good_of (List.mem_append_right _ (List.mem_of_getElem? (i := 559) (by decide +kernel))) (by decide +kernel)
theorem kw_717 : Cond.instanceMethod ⟨"NightMove", "told", "(II)I"⟩ ∈ nm_good := nm_good_of (List.mem_append_right _ (List.mem_of_getElem? (i := 560) (by decide +kernel))) (by decide +kernel)
theorem kw_718 : Cond.selects "NightMove" ⟨"NightMove", "told", "(II)I"⟩ ⟨"NightMove", "told", "(II)I"⟩ ∈ nm_good := nm_good_of (List.mem_append_right _ (List.mem_of_getElem? (i := 561) (by decide +kernel))) (by decide +kernel)
theorem kw_719 : Cond.code ⟨"NightMoveModel", "told", "(II)I"⟩ cX9_told 3 (some .int) ∈ nm_good := nm_good_of (List.mem_append_right _ (List.mem_of_getElem? (i := 970) (by decide +kernel))) (by decide +kernel)
theorem kw_720 : Cond.methodLink "NightMoveLaw" 85 ⟨"NightMoveModel", "told", "(II)I"⟩ ∈ nm_good := nm_good_of (List.mem_append_right _ (List.mem_of_getElem? (i := 967) (by decide +kernel))) (by decide +kernel)
theorem kw_721 : Cond.instanceMethod ⟨"NightMoveModel", "told", "(II)I"⟩ ∈ nm_good := nm_good_of (List.mem_append_right _ (List.mem_of_getElem? (i := 968) (by decide +kernel))) (by decide +kernel)
theorem kw_722 : Cond.selects "NightMoveModel" ⟨"NightMoveModel", "told", "(II)I"⟩ ⟨"NightMoveModel", "told", "(II)I"⟩ ∈ nm_good := nm_good_of (List.mem_append_right _ (List.mem_of_getElem? (i := 969) (by decide +kernel))) (by decide +kernel)
theorem kw_723 : Cond.code ⟨"NightMove", "back", "()I"⟩ cX8_back 1 (some .int) ∈ nm_good := nm_good_of (List.mem_append_right _ (List.mem_of_getElem? (i := 567) (by decide +kernel))) (by decide +kernel)
theorem kw_724 : Cond.methodLink "NightMoveLaw" 86 ⟨"NightMove", "back", "()I"⟩ ∈ nm_good := nm_good_of (List.mem_append_right _ (List.mem_of_getElem? (i := 564) (by decide +kernel))) (by decide +kernel)
theorem kw_725 : Cond.instanceMethod ⟨"NightMove", "back", "()I"⟩ ∈ nm_good := nm_good_of (List.mem_append_right _ (List.mem_of_getElem? (i := 565) (by decide +kernel))) (by decide +kernel)
theorem kw_726 : Cond.selects "NightMove" ⟨"NightMove", "back", "()I"⟩ ⟨"NightMove", "back", "()I"⟩ ∈ nm_good := nm_good_of (List.mem_append_right _ (List.mem_of_getElem? (i := 566) (by decide +kernel))) (by decide +kernel)
theorem kw_727 : Cond.code ⟨"NightMoveModel", "back", "()I"⟩ cX9_back 1 (some .int) ∈ nm_good := nm_good_of (List.mem_append_right _ (List.mem_of_getElem? (i := 974) (by decide +kernel))) (by decide +kernel)
theorem kw_728 : Cond.methodLink "NightMoveLaw" 89 ⟨"NightMoveModel", "back", "()I"⟩ ∈ nm_good := nm_good_of (List.mem_append_right _ (List.mem_of_getElem? (i := 971) (by decide +kernel))) (by decide +kernel)
theorem kw_729 : Cond.instanceMethod ⟨"NightMoveModel", "back", "()I"⟩ ∈ nm_good := nm_good_of (List.mem_append_right _ (List.mem_of_getElem? (i := 972) (by decide +kernel))) (by decide +kernel)
theorem kw_730 : Cond.selects "NightMoveModel" ⟨"NightMoveModel", "back", "()I"⟩ ⟨"NightMoveModel", "back", "()I"⟩ ∈ nm_good := nm_good_of (List.mem_append_right _ (List.mem_of_getElem? (i := 973) (by decide +kernel))) (by decide +kernel)
theorem kw_731 : Cond.code ⟨"NightMove", "whole", "()I"⟩ cX8_whole 1 (some .int) ∈ nm_good := nm_good_of (List.mem_append_right _ (List.mem_of_getElem? (i := 573) (by decide +kernel))) (by decide +kernel)
theorem kw_732 : Cond.methodLink "NightMoveLaw" 90 ⟨"NightMove", "whole", "()I"⟩ ∈ nm_good := nm_good_of (List.mem_append_right _ (List.mem_of_getElem? (i := 570) (by decide +kernel))) (by decide +kernel)
theorem kw_733 : Cond.instanceMethod ⟨"NightMove", "whole", "()I"⟩ ∈ nm_good := nm_good_of (List.mem_append_right _ (List.mem_of_getElem? (i := 571) (by decide +kernel))) (by decide +kernel)
theorem kw_734 : Cond.selects "NightMove" ⟨"NightMove", "whole", "()I"⟩ ⟨"NightMove", "whole", "()I"⟩ ∈ nm_good := nm_good_of (List.mem_append_right _ (List.mem_of_getElem? (i := 572) (by decide +kernel))) (by decide +kernel)
theorem kw_735 : Cond.methodLink "NightMoveLaw" 93 ⟨"NightMoveModel", "whole", "()I"⟩ ∈ nm_good := nm_good_of (List.mem_append_right _ (List.mem_of_getElem? (i := 975) (by decide +kernel))) (by decide +kernel)
theorem kw_736 : Cond.code ⟨"NightMove", "ready", "()I"⟩ cX8_ready 1 (some .int) ∈ nm_good := nm_good_of (List.mem_append_right _ (List.mem_of_getElem? (i := 581) (by decide +kernel))) (by decide +kernel)
theorem kw_737 : Cond.methodLink "NightMoveLaw" 94 ⟨"NightMove", "ready", "()I"⟩ ∈ nm_good := nm_good_of (List.mem_append_right _ (List.mem_of_getElem? (i := 578) (by decide +kernel))) (by decide +kernel)
theorem kw_738 : Cond.instanceMethod ⟨"NightMove", "ready", "()I"⟩ ∈ nm_good := nm_good_of (List.mem_append_right _ (List.mem_of_getElem? (i := 579) (by decide +kernel))) (by decide +kernel)
theorem kw_739 : Cond.selects "NightMove" ⟨"NightMove", "ready", "()I"⟩ ⟨"NightMove", "ready", "()I"⟩ ∈ nm_good := nm_good_of (List.mem_append_right _ (List.mem_of_getElem? (i := 580) (by decide +kernel))) (by decide +kernel)
theorem kw_740 : Cond.methodLink "NightMoveLaw" 97 ⟨"NightMoveModel", "ready", "()I"⟩ ∈ nm_good := nm_good_of (List.mem_append_right _ (List.mem_of_getElem? (i := 979) (by decide +kernel))) (by decide +kernel)
theorem kw_741 : Cond.code ⟨"NightMove", "find", "()I"⟩ cX8_find 1 (some .int) ∈ nm_good := nm_good_of (List.mem_append_right _ (List.mem_of_getElem? (i := 594) (by decide +kernel))) (by decide +kernel)
theorem kw_742 : Cond.methodLink "NightMoveLaw" 98 ⟨"NightMove", "find", "()I"⟩ ∈ nm_good := nm_good_of (List.mem_append_right _ (List.mem_of_getElem? (i := 591) (by decide +kernel))) (by decide +kernel)
theorem kw_743 : Cond.instanceMethod ⟨"NightMove", "find", "()I"⟩ ∈ nm_good := nm_good_of (List.mem_append_right _ (List.mem_of_getElem? (i := 592) (by decide +kernel))) (by decide +kernel)
theorem kw_744 : Cond.selects "NightMove" ⟨"NightMove", "find", "()I"⟩ ⟨"NightMove", "find", "()I"⟩ ∈ nm_good := nm_good_of (List.mem_append_right _ (List.mem_of_getElem? (i := 593) (by decide +kernel))) (by decide +kernel)
theorem kw_745 : Cond.code ⟨"NightMoveModel", "find", "()I"⟩ cX9_find 1 (some .int) ∈ nm_good := nm_good_of (List.mem_append_right _ (List.mem_of_getElem? (i := 987) (by decide +kernel))) (by decide +kernel)
theorem kw_746 : Cond.methodLink "NightMoveLaw" 101 ⟨"NightMoveModel", "find", "()I"⟩ ∈ nm_good := nm_good_of (List.mem_append_right _ (List.mem_of_getElem? (i := 984) (by decide +kernel))) (by decide +kernel)
theorem kw_747 : Cond.instanceMethod ⟨"NightMoveModel", "find", "()I"⟩ ∈ nm_good := nm_good_of (List.mem_append_right _ (List.mem_of_getElem? (i := 985) (by decide +kernel))) (by decide +kernel)
theorem kw_748 : Cond.selects "NightMoveModel" ⟨"NightMoveModel", "find", "()I"⟩ ⟨"NightMoveModel", "find", "()I"⟩ ∈ nm_good := nm_good_of (List.mem_append_right _ (List.mem_of_getElem? (i := 986) (by decide +kernel))) (by decide +kernel)
theorem kw_749 : Cond.code ⟨"NightMove", "close", "(I)Z"⟩ cX8_close 2 (some .boolean) ∈ nm_good := nm_good_of (List.mem_append_right _ (List.mem_of_getElem? (i := 602) (by decide +kernel))) (by decide +kernel)
theorem kw_750 : Cond.methodLink "NightMoveLaw" 102 ⟨"NightMove", "close", "(I)Z"⟩ ∈ nm_good := nm_good_of (List.mem_append_right _ (List.mem_of_getElem? (i := 599) (by decide +kernel))) (by decide +kernel)
theorem kw_751 : Cond.instanceMethod ⟨"NightMove", "close", "(I)Z"⟩ ∈ nm_good := nm_good_of (List.mem_append_right _ (List.mem_of_getElem? (i := 600) (by decide +kernel))) (by decide +kernel)
theorem kw_752 : Cond.selects "NightMove" ⟨"NightMove", "close", "(I)Z"⟩ ⟨"NightMove", "close", "(I)Z"⟩ ∈ nm_good := nm_good_of (List.mem_append_right _ (List.mem_of_getElem? (i := 601) (by decide +kernel))) (by decide +kernel)
theorem kw_753 : Cond.code ⟨"NightMoveModel", "close", "(I)Z"⟩ cX9_close 2 (some .boolean) ∈ nm_good := nm_good_of (List.mem_append_right _ (List.mem_of_getElem? (i := 991) (by decide +kernel))) (by decide +kernel)
theorem kw_754 : Cond.methodLink "NightMoveLaw" 105 ⟨"NightMoveModel", "close", "(I)Z"⟩ ∈ nm_good := nm_good_of (List.mem_append_right _ (List.mem_of_getElem? (i := 988) (by decide +kernel))) (by decide +kernel)
theorem kw_755 : Cond.instanceMethod ⟨"NightMoveModel", "close", "(I)Z"⟩ ∈ nm_good := nm_good_of (List.mem_append_right _ (List.mem_of_getElem? (i := 989) (by decide +kernel))) (by decide +kernel)
theorem kw_756 : Cond.selects "NightMoveModel" ⟨"NightMoveModel", "close", "(I)Z"⟩ ⟨"NightMoveModel", "close", "(I)Z"⟩ ∈ nm_good := nm_good_of (List.mem_append_right _ (List.mem_of_getElem? (i := 990) (by decide +kernel))) (by decide +kernel)
theorem kw_757 : Cond.code ⟨"NightMove", "feed", "(I)I"⟩ cX8_feed 2 (some .int) ∈ nm_good := nm_good_of (List.mem_append_right _ (List.mem_of_getElem? (i := 611) (by decide +kernel))) (by decide +kernel)
theorem kw_758 : Cond.methodLink "NightMoveLaw" 106 ⟨"NightMove", "feed", "(I)I"⟩ ∈ nm_good := nm_good_of (List.mem_append_right _ (List.mem_of_getElem? (i := 608) (by decide +kernel))) (by decide +kernel)
theorem kw_759 : Cond.instanceMethod ⟨"NightMove", "feed", "(I)I"⟩ ∈ nm_good := nm_good_of (List.mem_append_right _ (List.mem_of_getElem? (i := 609) (by decide +kernel))) (by decide +kernel)
theorem kw_760 : Cond.selects "NightMove" ⟨"NightMove", "feed", "(I)I"⟩ ⟨"NightMove", "feed", "(I)I"⟩ ∈ nm_good := nm_good_of (List.mem_append_right _ (List.mem_of_getElem? (i := 610) (by decide +kernel))) (by decide +kernel)
theorem kw_761 : Cond.code ⟨"NightMoveModel", "feed", "(I)I"⟩ cX9_feed 5 (some .int) ∈ nm_good := nm_good_of (List.mem_append_right _ (List.mem_of_getElem? (i := 995) (by decide +kernel))) (by decide +kernel)
theorem kw_762 : Cond.methodLink "NightMoveLaw" 109 ⟨"NightMoveModel", "feed", "(I)I"⟩ ∈ nm_good := nm_good_of (List.mem_append_right _ (List.mem_of_getElem? (i := 992) (by decide +kernel))) (by decide +kernel)
theorem kw_763 : Cond.instanceMethod ⟨"NightMoveModel", "feed", "(I)I"⟩ ∈ nm_good := nm_good_of (List.mem_append_right _ (List.mem_of_getElem? (i := 993) (by decide +kernel))) (by decide +kernel)
theorem kw_764 : Cond.selects "NightMoveModel" ⟨"NightMoveModel", "feed", "(I)I"⟩ ⟨"NightMoveModel", "feed", "(I)I"⟩ ∈ nm_good := nm_good_of (List.mem_append_right _ (List.mem_of_getElem? (i := 994) (by decide +kernel))) (by decide +kernel)
theorem kw_765 : Cond.code ⟨"NightMove", "end", "(I)Z"⟩ cX8_end 2 (some .boolean) ∈ nm_good := nm_good_of (List.mem_append_right _ (List.mem_of_getElem? (i := 622) (by decide +kernel))) (by decide +kernel)
theorem kw_766 : Cond.methodLink "NightMoveLaw" 110 ⟨"NightMove", "end", "(I)Z"⟩ ∈ nm_good := nm_good_of (List.mem_append_right _ (List.mem_of_getElem? (i := 619) (by decide +kernel))) (by decide +kernel)
theorem kw_767 : Cond.instanceMethod ⟨"NightMove", "end", "(I)Z"⟩ ∈ nm_good := nm_good_of (List.mem_append_right _ (List.mem_of_getElem? (i := 620) (by decide +kernel))) (by decide +kernel)
theorem kw_768 : Cond.selects "NightMove" ⟨"NightMove", "end", "(I)Z"⟩ ⟨"NightMove", "end", "(I)Z"⟩ ∈ nm_good := nm_good_of (List.mem_append_right _ (List.mem_of_getElem? (i := 621) (by decide +kernel))) (by decide +kernel)
theorem kw_769 : Cond.code ⟨"NightMoveModel", "end", "(I)Z"⟩ cX9_end 2 (some .boolean) ∈ nm_good := nm_good_of (List.mem_append_right _ (List.mem_of_getElem? (i := 999) (by decide +kernel))) (by decide +kernel)
theorem kw_770 : Cond.methodLink "NightMoveLaw" 113 ⟨"NightMoveModel", "end", "(I)Z"⟩ ∈ nm_good := nm_good_of (List.mem_append_right _ (List.mem_of_getElem? (i := 996) (by decide +kernel))) (by decide +kernel)
theorem kw_771 : Cond.instanceMethod ⟨"NightMoveModel", "end", "(I)Z"⟩ ∈ nm_good := nm_good_of (List.mem_append_right _ (List.mem_of_getElem? (i := 997) (by decide +kernel))) (by decide +kernel)
theorem kw_772 : Cond.selects "NightMoveModel" ⟨"NightMoveModel", "end", "(I)Z"⟩ ⟨"NightMoveModel", "end", "(I)Z"⟩ ∈ nm_good := nm_good_of (List.mem_append_right _ (List.mem_of_getElem? (i := 998) (by decide +kernel))) (by decide +kernel)
theorem kw_773 : Cond.code ⟨"NightMove", "fault", "()I"⟩ cX8_fault 1 (some .int) ∈ nm_good := nm_good_of (List.mem_append_right _ (List.mem_of_getElem? (i := 631) (by decide +kernel))) (by decide +kernel)
theorem kw_774 : Cond.methodLink "NightMoveLaw" 114 ⟨"NightMove", "fault", "()I"⟩ ∈ nm_good := nm_good_of (List.mem_append_right _ (List.mem_of_getElem? (i := 628) (by decide +kernel))) (by decide +kernel)
theorem kw_775 : Cond.instanceMethod ⟨"NightMove", "fault", "()I"⟩ ∈ nm_good := nm_good_of (List.mem_append_right _ (List.mem_of_getElem? (i := 629) (by decide +kernel))) (by decide +kernel)
theorem kw_776 : Cond.selects "NightMove" ⟨"NightMove", "fault", "()I"⟩ ⟨"NightMove", "fault", "()I"⟩ ∈ nm_good := nm_good_of (List.mem_append_right _ (List.mem_of_getElem? (i := 630) (by decide +kernel))) (by decide +kernel)
theorem kw_777 : Cond.methodLink "NightMoveLaw" 117 ⟨"NightMoveModel", "fault", "()I"⟩ ∈ nm_good := nm_good_of (List.mem_append_right _ (List.mem_of_getElem? (i := 1000) (by decide +kernel))) (by decide +kernel)
theorem kw_778 : Cond.code ⟨"NightMove", "rule", "()Z"⟩ cX8_rule 1 (some .boolean) ∈ nm_good := nm_good_of (List.mem_append_right _ (List.mem_of_getElem? (i := 686) (by decide +kernel))) (by decide +kernel)
theorem kw_779 : Cond.methodLink "NightMoveLaw" 118 ⟨"NightMove", "rule", "()Z"⟩ ∈ nm_good := nm_good_of (List.mem_append_right _ (List.mem_of_getElem? (i := 683) (by decide +kernel))) (by decide +kernel)
theorem kw_780 : Cond.instanceMethod ⟨"NightMove", "rule", "()Z"⟩ ∈ nm_good := nm_good_of (List.mem_append_right _ (List.mem_of_getElem? (i := 684) (by decide +kernel))) (by decide +kernel)
theorem kw_781 : Cond.selects "NightMove" ⟨"NightMove", "rule", "()Z"⟩ ⟨"NightMove", "rule", "()Z"⟩ ∈ nm_good := nm_good_of (List.mem_append_right _ (List.mem_of_getElem? (i := 685) (by decide +kernel))) (by decide +kernel)
theorem kw_782 : Cond.code ⟨"NightMoveModel", "rule", "()Z"⟩ cX9_rule 2 (some .boolean) ∈ nm_good := nm_good_of (List.mem_append_right _ (List.mem_of_getElem? (i := 1031) (by decide +kernel))) (by decide +kernel)
theorem kw_783 : Cond.methodLink "NightMoveLaw" 122 ⟨"NightMoveModel", "rule", "()Z"⟩ ∈ nm_good := nm_good_of (List.mem_append_right _ (List.mem_of_getElem? (i := 1028) (by decide +kernel))) (by decide +kernel)
theorem kw_784 : Cond.instanceMethod ⟨"NightMoveModel", "rule", "()Z"⟩ ∈ nm_good := nm_good_of (List.mem_append_right _ (List.mem_of_getElem? (i := 1029) (by decide +kernel))) (by decide +kernel)
theorem kw_785 : Cond.selects "NightMoveModel" ⟨"NightMoveModel", "rule", "()Z"⟩ ⟨"NightMoveModel", "rule", "()Z"⟩ ∈ nm_good := nm_good_of (List.mem_append_right _ (List.mem_of_getElem? (i := 1030) (by decide +kernel))) (by decide +kernel)
theorem kw_786 : Cond.code ⟨"NightMove", "go", "()I"⟩ cX8_go 1 (some .int) ∈ nm_good := nm_good_of (List.mem_append_right _ (List.mem_of_getElem? (i := 694) (by decide +kernel))) (by decide +kernel)
theorem kw_787 : Cond.methodLink "NightMoveLaw" 123 ⟨"NightMove", "go", "()I"⟩ ∈ nm_good := nm_good_of (List.mem_append_right _ (List.mem_of_getElem? (i := 691) (by decide +kernel))) (by decide +kernel)
theorem kw_788 : Cond.instanceMethod ⟨"NightMove", "go", "()I"⟩ ∈ nm_good := nm_good_of (List.mem_append_right _ (List.mem_of_getElem? (i := 692) (by decide +kernel))) (by decide +kernel)
theorem kw_789 : Cond.selects "NightMove" ⟨"NightMove", "go", "()I"⟩ ⟨"NightMove", "go", "()I"⟩ ∈ nm_good := nm_good_of (List.mem_append_right _ (List.mem_of_getElem? (i := 693) (by decide +kernel))) (by decide +kernel)
theorem kw_790 : Cond.code ⟨"NightMoveModel", "go", "()I"⟩ cX9_go 10 (some .int) ∈ nm_good := nm_good_of (List.mem_append_right _ (List.mem_of_getElem? (i := 1036) (by decide +kernel))) (by decide +kernel)
theorem kw_791 : Cond.methodLink "NightMoveLaw" 126 ⟨"NightMoveModel", "go", "()I"⟩ ∈ nm_good := nm_good_of (List.mem_append_right _ (List.mem_of_getElem? (i := 1033) (by decide +kernel))) (by decide +kernel)
theorem kw_792 : Cond.instanceMethod ⟨"NightMoveModel", "go", "()I"⟩ ∈ nm_good := nm_good_of (List.mem_append_right _ (List.mem_of_getElem? (i := 1034) (by decide +kernel))) (by decide +kernel)
theorem kw_793 : Cond.selects "NightMoveModel" ⟨"NightMoveModel", "go", "()I"⟩ ⟨"NightMoveModel", "go", "()I"⟩ ∈ nm_good := nm_good_of (List.mem_append_right _ (List.mem_of_getElem? (i := 1035) (by decide +kernel))) (by decide +kernel)
theorem kw_794 : Cond.code ⟨"NightMove", "count", "(I)I"⟩ cX8_count 2 (some .int) ∈ nm_good := nm_good_of (List.mem_append_right _ (List.mem_of_getElem? (i := 703) (by decide +kernel))) (by decide +kernel)
theorem kw_795 : Cond.methodLink "NightMoveLaw" 127 ⟨"NightMove", "count", "(I)I"⟩ ∈ nm_good := nm_good_of (List.mem_append_right _ (List.mem_of_getElem? (i := 700) (by decide +kernel))) (by decide +kernel)
theorem kw_796 : Cond.instanceMethod ⟨"NightMove", "count", "(I)I"⟩ ∈ nm_good := nm_good_of (List.mem_append_right _ (List.mem_of_getElem? (i := 701) (by decide +kernel))) (by decide +kernel)
theorem kw_797 : Cond.selects "NightMove" ⟨"NightMove", "count", "(I)I"⟩ ⟨"NightMove", "count", "(I)I"⟩ ∈ nm_good := nm_good_of (List.mem_append_right _ (List.mem_of_getElem? (i := 702) (by decide +kernel))) (by decide +kernel)
theorem kw_798 : Cond.code ⟨"NightMoveModel", "count", "(I)I"⟩ cX9_count 4 (some .int) ∈ nm_good := nm_good_of (List.mem_append_right _ (List.mem_of_getElem? (i := 1049) (by decide +kernel))) (by decide +kernel)
theorem kw_799 : Cond.methodLink "NightMoveLaw" 130 ⟨"NightMoveModel", "count", "(I)I"⟩ ∈ nm_good := nm_good_of (List.mem_append_right _ (List.mem_of_getElem? (i := 1046) (by decide +kernel))) (by decide +kernel)
theorem kw_800 : Cond.instanceMethod ⟨"NightMoveModel", "count", "(I)I"⟩ ∈ nm_good := nm_good_of (List.mem_append_right _ (List.mem_of_getElem? (i := 1047) (by decide +kernel))) (by decide +kernel)
theorem kw_801 : Cond.selects "NightMoveModel" ⟨"NightMoveModel", "count", "(I)I"⟩ ⟨"NightMoveModel", "count", "(I)I"⟩ ∈ nm_good := nm_good_of (List.mem_append_right _ (List.mem_of_getElem? (i := 1048) (by decide +kernel))) (by decide +kernel)
theorem kn_0 : (("NightMove$Faults", 22, ⟨"NightMove", "within", "(III)Z"⟩, "NightMove") : nm_Q4) ∈ nm_nest := by decide +kernel
theorem kn_1 : (("NightMove$Tape", 23, ⟨"NightMove", "within", "(III)Z"⟩, "NightMove") : nm_Q4) ∈ nm_nest := by decide +kernel
theorem kn_2 : (("NightMove$Traffic", 64, ⟨"NightMove", "within", "(III)Z"⟩, "NightMove") : nm_Q4) ∈ nm_nest := by decide +kernel
theorem kn_3 : (("NightMove", 9, ⟨"NightMove$Goods", "<init>", "()V"⟩, "NightMove") : nm_Q4) ∈ nm_nest := by decide +kernel
theorem kn_4 : (("NightMove", 12, ⟨"NightMove$Convoys", "<init>", "()V"⟩, "NightMove") : nm_Q4) ∈ nm_nest := by decide +kernel
theorem kn_5 : (("NightMove", 43, ⟨"NightMove$Stages", "<init>", "()V"⟩, "NightMove") : nm_Q4) ∈ nm_nest := by decide +kernel
theorem kn_6 : (("NightMove", 50, ⟨"NightMove$Faults", "<init>", "()V"⟩, "NightMove") : nm_Q4) ∈ nm_nest := by decide +kernel
theorem kn_7 : (("NightMove", 57, ⟨"NightMove$Tape", "<init>", "()V"⟩, "NightMove") : nm_Q4) ∈ nm_nest := by decide +kernel
theorem kn_8 : (("NightMove", 67, ⟨"NightMove$Reader", "<init>", "()V"⟩, "NightMove") : nm_Q4) ∈ nm_nest := by decide +kernel
