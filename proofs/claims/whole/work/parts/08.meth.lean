theorem gt_1 {w : Cond} (i : Nat) (h0 : tables_1_1[i]? = some w) (hg : goodWord w = true) : w ∈ gtb := by
  have h := List.mem_of_getElem? h0
  refine List.mem_filter.mpr ⟨List.mem_append_right _ ?_, hg⟩
  exact List.mem_append_left _ (h)
theorem gt_2 {w : Cond} (i : Nat) (h0 : tables_1_2[i]? = some w) (hg : goodWord w = true) : w ∈ gtb := by
  have h := List.mem_of_getElem? h0
  refine List.mem_filter.mpr ⟨List.mem_append_right _ ?_, hg⟩
  exact List.mem_append_right _ (List.mem_append_left _ (h))
theorem gt_3 {w : Cond} (i : Nat) (h0 : tables_1_3[i]? = some w) (hg : goodWord w = true) : w ∈ gtb := by
  have h := List.mem_of_getElem? h0
  refine List.mem_filter.mpr ⟨List.mem_append_right _ ?_, hg⟩
  exact List.mem_append_right _ (List.mem_append_right _ (List.mem_append_left _ (h)))
theorem gt_4 {w : Cond} (i : Nat) (h0 : tables_1_4[i]? = some w) (hg : goodWord w = true) : w ∈ gtb := by
  have h := List.mem_of_getElem? h0
  refine List.mem_filter.mpr ⟨List.mem_append_right _ ?_, hg⟩
  exact List.mem_append_right _ (List.mem_append_right _ (List.mem_append_right _ (List.mem_append_left _ (h))))
theorem gt_5 {w : Cond} (i : Nat) (h0 : tables_1_5[i]? = some w) (hg : goodWord w = true) : w ∈ gtb := by
  have h := List.mem_of_getElem? h0
  refine List.mem_filter.mpr ⟨List.mem_append_right _ ?_, hg⟩
  exact List.mem_append_right _ (List.mem_append_right _ (List.mem_append_right _ (List.mem_append_right _ (List.mem_append_left _ (h)))))
theorem gt_6 {w : Cond} (i : Nat) (h0 : tables_1_6[i]? = some w) (hg : goodWord w = true) : w ∈ gtb := by
  have h := List.mem_of_getElem? h0
  refine List.mem_filter.mpr ⟨List.mem_append_right _ ?_, hg⟩
  exact List.mem_append_right _ (List.mem_append_right _ (List.mem_append_right _ (List.mem_append_right _ (List.mem_append_right _ (List.mem_append_left _ (h))))))
theorem gt_7 {w : Cond} (i : Nat) (h0 : tables_1_7[i]? = some w) (hg : goodWord w = true) : w ∈ gtb := by
  have h := List.mem_of_getElem? h0
  refine List.mem_filter.mpr ⟨List.mem_append_right _ ?_, hg⟩
  exact List.mem_append_right _ (List.mem_append_right _ (List.mem_append_right _ (List.mem_append_right _ (List.mem_append_right _ (List.mem_append_right _ (h))))))
def yX0_init : MethodName := ⟨RX0, "<init>", "(LLatePrices$News;LLatePrices$Ledger;)V"⟩
abbrev cX0_init : ByteArray := prog_2_method_1_code
def mX0_init : aM := (yX0_init, cX0_init, 3, none, 0, 2, { frames := 1, cells := 3, slots := 36, locals := 20 })
theorem ok_X0_init : okM mX0_init := ⟨by decide, gt_2 50 rfl rfl, gt_1 11 rfl rfl, by decide, by decide, by decide +kernel⟩
def yX0_watch : MethodName := ⟨RX0, "watch", "(IZ)V"⟩
abbrev cX0_watch : ByteArray := prog_2_method_2_code
def mX0_watch : aM := (yX0_watch, cX0_watch, 5, none, 0, 2, { frames := 5, cells := 0, slots := 0, locals := 123 })
theorem ok_X0_watch : okM mX0_watch := ⟨by decide, gt_4 80 rfl rfl, gt_1 11 rfl rfl, by decide, by decide, by decide +kernel⟩
def yX0_setStretch : MethodName := ⟨RX0, "setStretch", "(IIZ)V"⟩
abbrev cX0_setStretch : ByteArray := prog_2_method_3_code
def mX0_setStretch : aM := (yX0_setStretch, cX0_setStretch, 6, none, 0, 3, { frames := 4, cells := 0, slots := 0, locals := 98 })
theorem ok_X0_setStretch : okM mX0_setStretch := ⟨by decide, gt_4 85 rfl rfl, gt_1 11 rfl rfl, by decide, by decide, by decide +kernel⟩
def yX0_trade : MethodName := ⟨RX0, "trade", "(I)V"⟩
abbrev cX0_trade : ByteArray := prog_2_method_4_code
def mX0_trade : aM := (yX0_trade, cX0_trade, 6, none, 0, 1, { frames := 3, cells := 0, slots := 0, locals := 68 })
theorem ok_X0_trade : okM mX0_trade := ⟨by decide, gt_4 92 rfl rfl, gt_1 11 rfl rfl, by decide, by decide, by decide +kernel⟩
def yX0_margin : MethodName := ⟨RX0, "margin", "(II)I"⟩
abbrev cX0_margin : ByteArray := prog_2_method_5_code
def mX0_margin : aM := (yX0_margin, cX0_margin, 3, (some .int), 1, 2, { frames := 1, cells := 0, slots := 0, locals := 22 })
theorem ok_X0_margin : okM mX0_margin := ⟨by decide, gt_4 100 rfl rfl, gt_1 11 rfl rfl, by decide, by decide, by decide +kernel⟩
def yX0_best : MethodName := ⟨RX0, "best", "(I)I"⟩
abbrev cX0_best : ByteArray := prog_2_method_6_code
def mX0_best : aM := (yX0_best, cX0_best, 5, (some .int), 1, 1, { frames := 2, cells := 0, slots := 0, locals := 44 })
theorem ok_X0_best : okM mX0_best := ⟨by decide, gt_4 96 rfl rfl, gt_1 11 rfl rfl, by decide, by decide, by decide +kernel⟩
def yX0_firstFrom : MethodName := ⟨RX0, "firstFrom", "(I)I"⟩
abbrev cX0_firstFrom : ByteArray := prog_2_method_7_code
def mX0_firstFrom : aM := (yX0_firstFrom, cX0_firstFrom, 7, (some .int), 1, 1, { frames := 2, cells := 0, slots := 0, locals := 44 })
theorem ok_X0_firstFrom : okM mX0_firstFrom := ⟨by decide, gt_4 108 rfl rfl, gt_1 11 rfl rfl, by decide, by decide, by decide +kernel⟩
def yX1_init : MethodName := ⟨RX1, "<init>", "(LLatePrices$Plan;)V"⟩
abbrev cX1_init : ByteArray := prog_3_method_1_code
def mX1_init : aM := (yX1_init, cX1_init, 2, none, 0, 1, { frames := 2, cells := 6, slots := 372, locals := 43 })
theorem ok_X1_init : okM mX1_init := ⟨by decide, gt_1 189 rfl rfl, gt_1 7 rfl rfl, by decide, by decide, by decide +kernel⟩
def yX1_clear : MethodName := ⟨RX1, "clear", "()V"⟩
abbrev cX1_clear : ByteArray := prog_3_method_2_code
def mX1_clear : aM := (yX1_clear, cX1_clear, 1, none, 0, 0, { frames := 0, cells := 0, slots := 0, locals := 0 })
theorem ok_X1_clear : okM mX1_clear := ⟨by decide, gt_3 86 rfl rfl, gt_1 7 rfl rfl, by decide, by decide, by decide +kernel⟩
def yX1_become : MethodName := ⟨RX1, "become", "(LLatePrices$Ledger;)V"⟩
abbrev cX1_become : ByteArray := prog_3_method_3_code
def mX1_become : aM := (yX1_become, cX1_become, 2, none, 0, 1, { frames := 2, cells := 0, slots := 0, locals := 47 })
theorem ok_X1_become : okM mX1_become := ⟨by decide, gt_4 227 rfl rfl, gt_1 7 rfl rfl, by decide, by decide, by decide +kernel⟩
def yX1_priceAt : MethodName := ⟨RX1, "priceAt", "(II)I"⟩
abbrev cX1_priceAt : ByteArray := prog_3_method_4_code
def mX1_priceAt : aM := (yX1_priceAt, cX1_priceAt, 7, (some .int), 1, 2, { frames := 1, cells := 0, slots := 0, locals := 22 })
theorem ok_X1_priceAt : okM mX1_priceAt := ⟨by decide, gt_3 167 rfl rfl, gt_1 7 rfl rfl, by decide, by decide, by decide +kernel⟩
def yX1_lastMinute : MethodName := ⟨RX1, "lastMinute", "(I)I"⟩
abbrev cX1_lastMinute : ByteArray := prog_3_method_5_code
def mX1_lastMinute : aM := (yX1_lastMinute, cX1_lastMinute, 5, (some .int), 1, 1, { frames := 3, cells := 0, slots := 0, locals := 75 })
theorem ok_X1_lastMinute : okM mX1_lastMinute := ⟨by decide, gt_3 217 rfl rfl, gt_1 7 rfl rfl, by decide, by decide, by decide +kernel⟩
def yX1_lastUnmoved : MethodName := ⟨RX1, "lastUnmoved", "(I)I"⟩
abbrev cX1_lastUnmoved : ByteArray := prog_3_method_6_code
def mX1_lastUnmoved : aM := (yX1_lastUnmoved, cX1_lastUnmoved, 8, (some .int), 1, 1, { frames := 2, cells := 0, slots := 0, locals := 48 })
theorem ok_X1_lastUnmoved : okM mX1_lastUnmoved := ⟨by decide, gt_3 221 rfl rfl, gt_1 7 rfl rfl, by decide, by decide, by decide +kernel⟩
def yX1_isUp : MethodName := ⟨RX1, "isUp", "(II)Z"⟩
abbrev cX1_isUp : ByteArray := prog_3_method_7_code
def mX1_isUp : aM := (yX1_isUp, cX1_isUp, 3, (some .boolean), 1, 2, { frames := 4, cells := 0, slots := 0, locals := 99 })
theorem ok_X1_isUp : okM mX1_isUp := ⟨by decide, gt_4 17 rfl rfl, gt_1 7 rfl rfl, by decide, by decide, by decide +kernel⟩
def yX2_init : MethodName := ⟨RX2, "<init>", "(LLatePrices$Plan;)V"⟩
abbrev cX2_init : ByteArray := prog_4_method_1_code
def mX2_init : aM := (yX2_init, cX2_init, 2, none, 0, 1, { frames := 1, cells := 2, slots := 10, locals := 20 })
theorem ok_X2_init : okM mX2_init := ⟨by decide, gt_1 170 rfl rfl, gt_1 6 rfl rfl, by decide, by decide, by decide +kernel⟩
def yX2_spread : MethodName := ⟨RX2, "spread", "(II)V"⟩
abbrev cX2_spread : ByteArray := prog_4_method_2_code
def mX2_spread : aM := (yX2_spread, cX2_spread, 6, none, 0, 2, { frames := 2, cells := 0, slots := 0, locals := 50 })
theorem ok_X2_spread : okM mX2_spread := ⟨by decide, gt_3 118 rfl rfl, gt_1 6 rfl rfl, by decide, by decide, by decide +kernel⟩
def yX2_firstReached : MethodName := ⟨RX2, "firstReached", "(I)I"⟩
abbrev cX2_firstReached : ByteArray := prog_4_method_3_code
def mX2_firstReached : aM := (yX2_firstReached, cX2_firstReached, 4, (some .int), 1, 1, { frames := 0, cells := 0, slots := 0, locals := 0 })
theorem ok_X2_firstReached : okM mX2_firstReached := ⟨by decide, gt_3 123 rfl rfl, gt_1 6 rfl rfl, by decide, by decide, by decide +kernel⟩
def yX2_goOn : MethodName := ⟨RX2, "goOn", "(I)V"⟩
abbrev cX2_goOn : ByteArray := prog_4_method_4_code
def mX2_goOn : aM := (yX2_goOn, cX2_goOn, 5, none, 0, 1, { frames := 1, cells := 0, slots := 0, locals := 26 })
theorem ok_X2_goOn : okM mX2_goOn := ⟨by decide, gt_3 127 rfl rfl, gt_1 6 rfl rfl, by decide, by decide, by decide +kernel⟩
def yX2_gather : MethodName := ⟨RX2, "gather", "(II)V"⟩
abbrev cX2_gather : ByteArray := prog_4_method_5_code
def mX2_gather : aM := (yX2_gather, cX2_gather, 6, none, 0, 2, { frames := 2, cells := 0, slots := 0, locals := 50 })
theorem ok_X2_gather : okM mX2_gather := ⟨by decide, gt_3 150 rfl rfl, gt_1 6 rfl rfl, by decide, by decide, by decide +kernel⟩
def yX2_lastLeft : MethodName := ⟨RX2, "lastLeft", "(I)I"⟩
abbrev cX2_lastLeft : ByteArray := prog_4_method_6_code
def mX2_lastLeft : aM := (yX2_lastLeft, cX2_lastLeft, 4, (some .int), 1, 1, { frames := 0, cells := 0, slots := 0, locals := 0 })
theorem ok_X2_lastLeft : okM mX2_lastLeft := ⟨by decide, gt_3 154 rfl rfl, gt_1 6 rfl rfl, by decide, by decide, by decide +kernel⟩
def yX2_goBack : MethodName := ⟨RX2, "goBack", "(I)V"⟩
abbrev cX2_goBack : ByteArray := prog_4_method_7_code
def mX2_goBack : aM := (yX2_goBack, cX2_goBack, 5, none, 0, 1, { frames := 1, cells := 0, slots := 0, locals := 26 })
theorem ok_X2_goBack : okM mX2_goBack := ⟨by decide, gt_3 158 rfl rfl, gt_1 6 rfl rfl, by decide, by decide, by decide +kernel⟩
def yX2_gatherAtOnce : MethodName := ⟨RX2, "gatherAtOnce", "(I)V"⟩
abbrev cX2_gatherAtOnce : ByteArray := prog_4_method_8_code
def mX2_gatherAtOnce : aM := (yX2_gatherAtOnce, cX2_gatherAtOnce, 2, none, 0, 1, { frames := 1, cells := 0, slots := 0, locals := 23 })
theorem ok_X2_gatherAtOnce : okM mX2_gatherAtOnce := ⟨by decide, gt_3 196 rfl rfl, gt_1 6 rfl rfl, by decide, by decide, by decide +kernel⟩
def yX2_arrival : MethodName := ⟨RX2, "arrival", "(III)I"⟩
abbrev cX2_arrival : ByteArray := prog_4_method_9_code
def mX2_arrival : aM := (yX2_arrival, cX2_arrival, 4, (some .int), 1, 3, { frames := 3, cells := 0, slots := 0, locals := 75 })
theorem ok_X2_arrival : okM mX2_arrival := ⟨by decide, gt_3 114 rfl rfl, gt_1 6 rfl rfl, by decide, by decide, by decide +kernel⟩
def yX2_latest : MethodName := ⟨RX2, "latest", "(III)I"⟩
abbrev cX2_latest : ByteArray := prog_4_method_10_code
def mX2_latest : aM := (yX2_latest, cX2_latest, 4, (some .int), 1, 3, { frames := 3, cells := 0, slots := 0, locals := 75 })
theorem ok_X2_latest : okM mX2_latest := ⟨by decide, gt_3 146 rfl rfl, gt_1 6 rfl rfl, by decide, by decide, by decide +kernel⟩
def yX3_init : MethodName := ⟨RX3, "<init>", "()V"⟩
abbrev cX3_init : ByteArray := prog_5_method_1_code
def mX3_init : aM := (yX3_init, cX3_init, 1, none, 0, 0, { frames := 2, cells := 6, slots := 69, locals := 43 })
theorem ok_X3_init : okM mX3_init := ⟨by decide, gt_1 64 rfl rfl, gt_1 3 rfl rfl, by decide, by decide, by decide +kernel⟩
def yX3_clear : MethodName := ⟨RX3, "clear", "()V"⟩
abbrev cX3_clear : ByteArray := prog_5_method_2_code
def mX3_clear : aM := (yX3_clear, cX3_clear, 1, none, 0, 0, { frames := 1, cells := 0, slots := 0, locals := 23 })
theorem ok_X3_clear : okM mX3_clear := ⟨by decide, gt_1 69 rfl rfl, gt_1 3 rfl rfl, by decide, by decide, by decide +kernel⟩
def yX3_become : MethodName := ⟨RX3, "become", "(LLatePrices$Plan;)V"⟩
abbrev cX3_become : ByteArray := prog_5_method_3_code
def mX3_become : aM := (yX3_become, cX3_become, 2, none, 0, 1, { frames := 1, cells := 0, slots := 0, locals := 26 })
theorem ok_X3_become : okM mX3_become := ⟨by decide, gt_3 79 rfl rfl, gt_1 3 rfl rfl, by decide, by decide, by decide +kernel⟩
def yX3_pair : MethodName := ⟨RX3, "pair", "(II)I"⟩
abbrev cX3_pair : ByteArray := prog_5_method_4_code
def mX3_pair : aM := (yX3_pair, cX3_pair, 2, (some .int), 1, 2, { frames := 0, cells := 0, slots := 0, locals := 0 })
theorem ok_X3_pair : okM mX3_pair := ⟨by decide, gt_3 48 rfl rfl, gt_1 3 rfl rfl, by decide, by decide, by decide +kernel⟩
def yX3_allMoves : MethodName := ⟨RX3, "allMoves", "()I"⟩
abbrev cX3_allMoves : ByteArray := prog_5_method_5_code
def mX3_allMoves : aM := (yX3_allMoves, cX3_allMoves, 1, (some .int), 1, 0, { frames := 0, cells := 0, slots := 0, locals := 0 })
theorem ok_X3_allMoves : okM mX3_allMoves := ⟨by decide, gt_3 62 rfl rfl, gt_1 3 rfl rfl, by decide, by decide, by decide +kernel⟩
def yX3_openFrom : MethodName := ⟨RX3, "openFrom", "(II)I"⟩
abbrev cX3_openFrom : ByteArray := prog_5_method_6_code
def mX3_openFrom : aM := (yX3_openFrom, cX3_openFrom, 7, (some .int), 1, 2, { frames := 0, cells := 0, slots := 0, locals := 0 })
theorem ok_X3_openFrom : okM mX3_openFrom := ⟨by decide, gt_3 132 rfl rfl, gt_1 3 rfl rfl, by decide, by decide, by decide +kernel⟩
def yX3_openUpTo : MethodName := ⟨RX3, "openUpTo", "(II)I"⟩
abbrev cX3_openUpTo : ByteArray := prog_5_method_7_code
def mX3_openUpTo : aM := (yX3_openUpTo, cX3_openUpTo, 7, (some .int), 1, 2, { frames := 0, cells := 0, slots := 0, locals := 0 })
theorem ok_X3_openUpTo : okM mX3_openUpTo := ⟨by decide, gt_3 162 rfl rfl, gt_1 3 rfl rfl, by decide, by decide, by decide +kernel⟩
def yX4_init : MethodName := ⟨RX4, "<init>", "(LLatePrices$Tape;LLatePrices$Plan;)V"⟩
abbrev cX4_init : ByteArray := prog_6_method_1_code
def mX4_init : aM := (yX4_init, cX4_init, 3, none, 0, 2, { frames := 1, cells := 0, slots := 0, locals := 20 })
theorem ok_X4_init : okM mX4_init := ⟨by decide, gt_1 140 rfl rfl, gt_1 5 rfl rfl, by decide, by decide, by decide +kernel⟩
def yX4_parse : MethodName := ⟨RX4, "parse", "()I"⟩
abbrev cX4_parse : ByteArray := prog_6_method_2_code
def mX4_parse : aM := (yX4_parse, cX4_parse, 2, (some .int), 1, 0, { frames := 8, cells := 0, slots := 0, locals := 168 })
theorem ok_X4_parse : okM mX4_parse := ⟨by decide, gt_2 194 rfl rfl, gt_1 5 rfl rfl, by decide, by decide, by decide +kernel⟩
def yX4_fail : MethodName := ⟨RX4, "fail", "(I)Z"⟩
abbrev cX4_fail : ByteArray := prog_6_method_3_code
def mX4_fail : aM := (yX4_fail, cX4_fail, 2, (some .boolean), 1, 1, { frames := 0, cells := 0, slots := 0, locals := 0 })
theorem ok_X4_fail : okM mX4_fail := ⟨by decide, gt_2 215 rfl rfl, gt_1 5 rfl rfl, by decide, by decide, by decide +kernel⟩
def yX4_isOf : MethodName := ⟨RX4, "isOf", "(I)Z"⟩
abbrev cX4_isOf : ByteArray := prog_6_method_4_code
def mX4_isOf : aM := (yX4_isOf, cX4_isOf, 2, (some .boolean), 1, 1, { frames := 1, cells := 0, slots := 0, locals := 21 })
theorem ok_X4_isOf : okM mX4_isOf := ⟨by decide, gt_2 211 rfl rfl, gt_1 5 rfl rfl, by decide, by decide, by decide +kernel⟩
def yX4_takeNumber : MethodName := ⟨RX4, "takeNumber", "(II)Z"⟩
abbrev cX4_takeNumber : ByteArray := prog_6_method_5_code
def mX4_takeNumber : aM := (yX4_takeNumber, cX4_takeNumber, 3, (some .boolean), 1, 2, { frames := 2, cells := 0, slots := 0, locals := 46 })
theorem ok_X4_takeNumber : okM mX4_takeNumber := ⟨by decide, gt_3 40 rfl rfl, gt_1 5 rfl rfl, by decide, by decide, by decide +kernel⟩
def yX4_takeLine : MethodName := ⟨RX4, "takeLine", "()Z"⟩
abbrev cX4_takeLine : ByteArray := prog_6_method_6_code
def mX4_takeLine : aM := (yX4_takeLine, cX4_takeLine, 1, (some .boolean), 1, 0, { frames := 7, cells := 0, slots := 0, locals := 148 })
theorem ok_X4_takeLine : okM mX4_takeLine := ⟨by decide, gt_2 219 rfl rfl, gt_1 5 rfl rfl, by decide, by decide, by decide +kernel⟩
def yX4_takePlace : MethodName := ⟨RX4, "takePlace", "()Z"⟩
abbrev cX4_takePlace : ByteArray := prog_6_method_7_code
def mX4_takePlace : aM := (yX4_takePlace, cX4_takePlace, 1, (some .boolean), 1, 0, { frames := 3, cells := 0, slots := 0, locals := 68 })
theorem ok_X4_takePlace : okM mX4_takePlace := ⟨by decide, gt_3 36 rfl rfl, gt_1 5 rfl rfl, by decide, by decide, by decide +kernel⟩
def yX4_takeWay : MethodName := ⟨RX4, "takeWay", "()Z"⟩
abbrev cX4_takeWay : ByteArray := prog_6_method_8_code
def mX4_takeWay : aM := (yX4_takeWay, cX4_takeWay, 4, (some .boolean), 1, 0, { frames := 3, cells := 0, slots := 0, locals := 68 })
theorem ok_X4_takeWay : okM mX4_takeWay := ⟨by decide, gt_3 45 rfl rfl, gt_1 5 rfl rfl, by decide, by decide, by decide +kernel⟩
def yX4_takeShut : MethodName := ⟨RX4, "takeShut", "()Z"⟩
abbrev cX4_takeShut : ByteArray := prog_6_method_9_code
def mX4_takeShut : aM := (yX4_takeShut, cX4_takeShut, 4, (some .boolean), 1, 0, { frames := 3, cells := 0, slots := 0, locals := 68 })
theorem ok_X4_takeShut : okM mX4_takeShut := ⟨by decide, gt_3 53 rfl rfl, gt_1 5 rfl rfl, by decide, by decide, by decide +kernel⟩
def yX4_takeMoves : MethodName := ⟨RX4, "takeMoves", "()Z"⟩
abbrev cX4_takeMoves : ByteArray := prog_6_method_10_code
def mX4_takeMoves : aM := (yX4_takeMoves, cX4_takeMoves, 2, (some .boolean), 1, 0, { frames := 3, cells := 0, slots := 0, locals := 68 })
theorem ok_X4_takeMoves : okM mX4_takeMoves := ⟨by decide, gt_3 58 rfl rfl, gt_1 5 rfl rfl, by decide, by decide, by decide +kernel⟩
def yX4_takeFirst : MethodName := ⟨RX4, "takeFirst", "()Z"⟩
abbrev cX4_takeFirst : ByteArray := prog_6_method_11_code
def mX4_takeFirst : aM := (yX4_takeFirst, cX4_takeFirst, 1, (some .boolean), 1, 0, { frames := 6, cells := 0, slots := 0, locals := 128 })
theorem ok_X4_takeFirst : okM mX4_takeFirst := ⟨by decide, gt_3 67 rfl rfl, gt_1 5 rfl rfl, by decide, by decide, by decide +kernel⟩
def yX4_takeMost : MethodName := ⟨RX4, "takeMost", "()Z"⟩
abbrev cX4_takeMost : ByteArray := prog_6_method_12_code
def mX4_takeMost : aM := (yX4_takeMost, cX4_takeMost, 1, (some .boolean), 1, 0, { frames := 3, cells := 0, slots := 0, locals := 68 })
theorem ok_X4_takeMost : okM mX4_takeMost := ⟨by decide, gt_3 75 rfl rfl, gt_1 5 rfl rfl, by decide, by decide, by decide +kernel⟩
def yX5_init : MethodName := ⟨RX5, "<init>", "(II)V"⟩
abbrev cX5_init : ByteArray := prog_7_method_1_code
def mX5_init : aM := (yX5_init, cX5_init, 3, none, 0, 2, { frames := 1, cells := 1, slots := 120, locals := 21 })
theorem ok_X5_init : okM mX5_init := ⟨by decide, gt_1 195 rfl rfl, gt_1 8 rfl rfl, by decide, by decide, by decide +kernel⟩
def yX5_at : MethodName := ⟨RX5, "at", "(II)I"⟩
abbrev cX5_at : ByteArray := prog_7_method_2_code
def mX5_at : aM := (yX5_at, cX5_at, 3, (some .int), 1, 2, { frames := 0, cells := 0, slots := 0, locals := 0 })
theorem ok_X5_at : okM mX5_at := ⟨by decide, gt_3 171 rfl rfl, gt_1 8 rfl rfl, by decide, by decide, by decide +kernel⟩
def yX5_put : MethodName := ⟨RX5, "put", "(III)V"⟩
abbrev cX5_put : ByteArray := prog_7_method_3_code
def mX5_put : aM := (yX5_put, cX5_put, 4, none, 0, 3, { frames := 0, cells := 0, slots := 0, locals := 0 })
theorem ok_X5_put : okM mX5_put := ⟨by decide, gt_3 183 rfl rfl, gt_1 8 rfl rfl, by decide, by decide, by decide +kernel⟩
def yX5_grow : MethodName := ⟨RX5, "grow", "()I"⟩
abbrev cX5_grow : ByteArray := prog_7_method_4_code
def mX5_grow : aM := (yX5_grow, cX5_grow, 1, (some .int), 1, 0, { frames := 0, cells := 0, slots := 0, locals := 0 })
theorem ok_X5_grow : okM mX5_grow := ⟨by decide, gt_3 179 rfl rfl, gt_1 8 rfl rfl, by decide, by decide, by decide +kernel⟩
def yX5_become : MethodName := ⟨RX5, "become", "(LLatePrices$Rows;)V"⟩
abbrev cX5_become : ByteArray := prog_7_method_5_code
def mX5_become : aM := (yX5_become, cX5_become, 2, none, 0, 1, { frames := 1, cells := 0, slots := 0, locals := 26 })
theorem ok_X5_become : okM mX5_become := ⟨by decide, gt_4 231 rfl rfl, gt_1 8 rfl rfl, by decide, by decide, by decide +kernel⟩
def yX6_init : MethodName := ⟨RX6, "<init>", "()V"⟩
abbrev cX6_init : ByteArray := prog_8_method_1_code
def mX6_init : aM := (yX6_init, cX6_init, 1, none, 0, 0, { frames := 1, cells := 1, slots := 40, locals := 20 })
theorem ok_X6_init : okM mX6_init := ⟨by decide, gt_2 116 rfl rfl, gt_1 14 rfl rfl, by decide, by decide, by decide +kernel⟩
def yX6_isNothing : MethodName := ⟨RX6, "isNothing", "()Z"⟩
abbrev cX6_isNothing : ByteArray := prog_8_method_2_code
def mX6_isNothing : aM := (yX6_isNothing, cX6_isNothing, 1, (some .boolean), 1, 0, { frames := 0, cells := 0, slots := 0, locals := 0 })
theorem ok_X6_isNothing : okM mX6_isNothing := ⟨by decide, gt_5 22 rfl rfl, gt_1 14 rfl rfl, by decide, by decide, by decide +kernel⟩
def yX6_renew : MethodName := ⟨RX6, "renew", "(II)V"⟩
abbrev cX6_renew : ByteArray := prog_8_method_3_code
def mX6_renew : aM := (yX6_renew, cX6_renew, 3, none, 0, 2, { frames := 1, cells := 0, slots := 0, locals := 23 })
theorem ok_X6_renew : okM mX6_renew := ⟨by decide, gt_5 11 rfl rfl, gt_1 14 rfl rfl, by decide, by decide, by decide +kernel⟩
def yX6_put : MethodName := ⟨RX6, "put", "(II)Z"⟩
abbrev cX6_put : ByteArray := prog_8_method_4_code
def mX6_put : aM := (yX6_put, cX6_put, 3, (some .boolean), 1, 2, { frames := 0, cells := 0, slots := 0, locals := 0 })
theorem ok_X6_put : okM mX6_put := ⟨by decide, gt_5 26 rfl rfl, gt_1 14 rfl rfl, by decide, by decide, by decide +kernel⟩
def yX6_at : MethodName := ⟨RX6, "at", "(I)I"⟩
abbrev cX6_at : ByteArray := prog_8_method_5_code
def mX6_at : aM := (yX6_at, cX6_at, 2, (some .int), 1, 1, { frames := 0, cells := 0, slots := 0, locals := 0 })
theorem ok_X6_at : okM mX6_at := ⟨by decide, gt_5 43 rfl rfl, gt_1 14 rfl rfl, by decide, by decide, by decide +kernel⟩
def yX6_faultAs : MethodName := ⟨RX6, "faultAs", "(I)I"⟩
abbrev cX6_faultAs : ByteArray := prog_8_method_6_code
def mX6_faultAs : aM := (yX6_faultAs, cX6_faultAs, 2, (some .int), 1, 1, { frames := 1, cells := 0, slots := 0, locals := 20 })
theorem ok_X6_faultAs : okM mX6_faultAs := ⟨by decide, gt_5 34 rfl rfl, gt_1 14 rfl rfl, by decide, by decide, by decide +kernel⟩
def yX6_wholeSteps : MethodName := ⟨RX6, "wholeSteps", "(II)I"⟩
abbrev cX6_wholeSteps : ByteArray := prog_8_method_7_code
def mX6_wholeSteps : aM := (yX6_wholeSteps, cX6_wholeSteps, 3, (some .int), 1, 2, { frames := 1, cells := 0, slots := 0, locals := 21 })
theorem ok_X6_wholeSteps : okM mX6_wholeSteps := ⟨by decide, gt_5 39 rfl rfl, gt_1 14 rfl rfl, by decide, by decide, by decide +kernel⟩
def yX7_init : MethodName := ⟨RX7, "<init>", "(LLatePrices$Plan;LLatePrices$News;LLatePrices$Ledger;)V"⟩
abbrev cX7_init : ByteArray := prog_9_method_1_code
def mX7_init : aM := (yX7_init, cX7_init, 4, none, 0, 3, { frames := 1, cells := 6, slots := 108, locals := 20 })
theorem ok_X7_init : okM mX7_init := ⟨by decide, gt_2 4 rfl rfl, gt_1 10 rfl rfl, by decide, by decide, by decide +kernel⟩
def yX7_settle : MethodName := ⟨RX7, "settle", "()V"⟩
abbrev cX7_settle : ByteArray := prog_9_method_2_code
def mX7_settle : aM := (yX7_settle, cX7_settle, 2, none, 0, 0, { frames := 4, cells := 0, slots := 0, locals := 99 })
theorem ok_X7_settle : okM mX7_settle := ⟨by decide, gt_3 230 rfl rfl, gt_1 10 rfl rfl, by decide, by decide, by decide +kernel⟩
def yX7_putInOrder : MethodName := ⟨RX7, "putInOrder", "()V"⟩
abbrev cX7_putInOrder : ByteArray := prog_9_method_3_code
def mX7_putInOrder : aM := (yX7_putInOrder, cX7_putInOrder, 3, none, 0, 0, { frames := 2, cells := 0, slots := 0, locals := 48 })
theorem ok_X7_putInOrder : okM mX7_putInOrder := ⟨by decide, gt_3 236 rfl rfl, gt_1 10 rfl rfl, by decide, by decide, by decide +kernel⟩
def yX7_isAhead : MethodName := ⟨RX7, "isAhead", "(II)Z"⟩
abbrev cX7_isAhead : ByteArray := prog_9_method_4_code
def mX7_isAhead : aM := (yX7_isAhead, cX7_isAhead, 7, (some .boolean), 1, 2, { frames := 1, cells := 0, slots := 0, locals := 22 })
theorem ok_X7_isAhead : okM mX7_isAhead := ⟨by decide, gt_4 0 rfl rfl, gt_1 10 rfl rfl, by decide, by decide, by decide +kernel⟩
def yX7_strike : MethodName := ⟨RX7, "strike", "(I)V"⟩
abbrev cX7_strike : ByteArray := prog_9_method_5_code
def mX7_strike : aM := (yX7_strike, cX7_strike, 4, none, 0, 1, { frames := 2, cells := 0, slots := 0, locals := 44 })
theorem ok_X7_strike : okM mX7_strike := ⟨by decide, gt_4 4 rfl rfl, gt_1 10 rfl rfl, by decide, by decide, by decide +kernel⟩
def yX7_isStanding : MethodName := ⟨RX7, "isStanding", "(II)Z"⟩
abbrev cX7_isStanding : ByteArray := prog_9_method_6_code
def mX7_isStanding : aM := (yX7_isStanding, cX7_isStanding, 3, (some .boolean), 1, 2, { frames := 1, cells := 0, slots := 0, locals := 22 })
theorem ok_X7_isStanding : okM mX7_isStanding := ⟨by decide, gt_4 8 rfl rfl, gt_1 10 rfl rfl, by decide, by decide, by decide +kernel⟩
def yX7_newsOf : MethodName := ⟨RX7, "newsOf", "(II)I"⟩
abbrev cX7_newsOf : ByteArray := prog_9_method_7_code
def mX7_newsOf : aM := (yX7_newsOf, cX7_newsOf, 4, (some .int), 1, 2, { frames := 4, cells := 0, slots := 0, locals := 98 })
theorem ok_X7_newsOf : okM mX7_newsOf := ⟨by decide, gt_4 38 rfl rfl, gt_1 10 rfl rfl, by decide, by decide, by decide +kernel⟩
def yX7_payment : MethodName := ⟨RX7, "payment", "(II)I"⟩
abbrev cX7_payment : ByteArray := prog_9_method_8_code
def mX7_payment : aM := (yX7_payment, cX7_payment, 6, (some .int), 1, 2, { frames := 1, cells := 0, slots := 0, locals := 22 })
theorem ok_X7_payment : okM mX7_payment := ⟨by decide, gt_4 60 rfl rfl, gt_1 10 rfl rfl, by decide, by decide, by decide +kernel⟩
def yX7_debt : MethodName := ⟨RX7, "debt", "(II)I"⟩
abbrev cX7_debt : ByteArray := prog_9_method_9_code
def mX7_debt : aM := (yX7_debt, cX7_debt, 5, (some .int), 1, 2, { frames := 2, cells := 0, slots := 0, locals := 47 })
theorem ok_X7_debt : okM mX7_debt := ⟨by decide, gt_4 64 rfl rfl, gt_1 10 rfl rfl, by decide, by decide, by decide +kernel⟩
def yX7_debtKnown : MethodName := ⟨RX7, "debtKnown", "(III)I"⟩
abbrev cX7_debtKnown : ByteArray := prog_9_method_10_code
def mX7_debtKnown : aM := (yX7_debtKnown, cX7_debtKnown, 6, (some .int), 1, 3, { frames := 5, cells := 0, slots := 0, locals := 121 })
theorem ok_X7_debtKnown : okM mX7_debtKnown := ⟨by decide, gt_4 119 rfl rfl, gt_1 10 rfl rfl, by decide, by decide, by decide +kernel⟩
def yX7_debtAtMost : MethodName := ⟨RX7, "debtAtMost", "(II)I"⟩
abbrev cX7_debtAtMost : ByteArray := prog_9_method_11_code
def mX7_debtAtMost : aM := (yX7_debtAtMost, cX7_debtAtMost, 5, (some .int), 1, 2, { frames := 3, cells := 0, slots := 0, locals := 71 })
theorem ok_X7_debtAtMost : okM mX7_debtAtMost := ⟨by decide, gt_4 124 rfl rfl, gt_1 10 rfl rfl, by decide, by decide, by decide +kernel⟩
def yX7_unitsLeft : MethodName := ⟨RX7, "unitsLeft", "(II)I"⟩
abbrev cX7_unitsLeft : ByteArray := prog_9_method_12_code
def mX7_unitsLeft : aM := (yX7_unitsLeft, cX7_unitsLeft, 5, (some .int), 1, 2, { frames := 1, cells := 0, slots := 0, locals := 22 })
theorem ok_X7_unitsLeft : okM mX7_unitsLeft := ⟨by decide, gt_4 128 rfl rfl, gt_1 10 rfl rfl, by decide, by decide, by decide +kernel⟩
def yX7_peakMinute : MethodName := ⟨RX7, "peakMinute", "(I)I"⟩
abbrev cX7_peakMinute : ByteArray := prog_9_method_13_code
def mX7_peakMinute : aM := (yX7_peakMinute, cX7_peakMinute, 7, (some .int), 1, 1, { frames := 3, cells := 0, slots := 0, locals := 71 })
theorem ok_X7_peakMinute : okM mX7_peakMinute := ⟨by decide, gt_4 140 rfl rfl, gt_1 10 rfl rfl, by decide, by decide, by decide +kernel⟩
def yX7_fewestUndone : MethodName := ⟨RX7, "fewestUndone", "(I)I"⟩
abbrev cX7_fewestUndone : ByteArray := prog_9_method_14_code
def mX7_fewestUndone : aM := (yX7_fewestUndone, cX7_fewestUndone, 3, (some .int), 1, 1, { frames := 3, cells := 0, slots := 0, locals := 71 })
theorem ok_X7_fewestUndone : okM mX7_fewestUndone := ⟨by decide, gt_4 56 rfl rfl, gt_1 10 rfl rfl, by decide, by decide, by decide +kernel⟩
def yX7_leastUndone : MethodName := ⟨RX7, "leastUndone", "(I)I"⟩
abbrev cX7_leastUndone : ByteArray := prog_9_method_15_code
def mX7_leastUndone : aM := (yX7_leastUndone, cX7_leastUndone, 6, (some .int), 1, 1, { frames := 1, cells := 0, slots := 0, locals := 27 })
theorem ok_X7_leastUndone : okM mX7_leastUndone := ⟨by decide, gt_4 72 rfl rfl, gt_1 10 rfl rfl, by decide, by decide, by decide +kernel⟩
def yX7_sumOfDearest : MethodName := ⟨RX7, "sumOfDearest", "(II)I"⟩
abbrev cX7_sumOfDearest : ByteArray := prog_9_method_16_code
def mX7_sumOfDearest : aM := (yX7_sumOfDearest, cX7_sumOfDearest, 8, (some .int), 1, 2, { frames := 0, cells := 0, slots := 0, locals := 0 })
theorem ok_X7_sumOfDearest : okM mX7_sumOfDearest := ⟨by decide, gt_4 68 rfl rfl, gt_1 10 rfl rfl, by decide, by decide, by decide +kernel⟩
def yX8_init : MethodName := ⟨RX8, "<init>", "()V"⟩
abbrev cX8_init : ByteArray := prog_10_method_1_code
def mX8_init : aM := (yX8_init, cX8_init, 1, none, 0, 0, { frames := 1, cells := 1, slots := 320, locals := 20 })
theorem ok_X8_init : okM mX8_init := ⟨by decide, gt_1 33 rfl rfl, gt_1 2 rfl rfl, by decide, by decide, by decide +kernel⟩
def yX8_push : MethodName := ⟨RX8, "push", "(J)Z"⟩
abbrev cX8_push : ByteArray := prog_10_method_2_code
def mX8_push : aM := (yX8_push, cX8_push, 4, (some .boolean), 1, 1, { frames := 0, cells := 0, slots := 0, locals := 0 })
theorem ok_X8_push : okM mX8_push := ⟨by decide, gt_2 179 rfl rfl, gt_1 2 rfl rfl, by decide, by decide, by decide +kernel⟩
def yX8_byteAt : MethodName := ⟨RX8, "byteAt", "(I)I"⟩
abbrev cX8_byteAt : ByteArray := prog_10_method_3_code
def mX8_byteAt : aM := (yX8_byteAt, cX8_byteAt, 2, (some .int), 1, 1, { frames := 0, cells := 0, slots := 0, locals := 0 })
theorem ok_X8_byteAt : okM mX8_byteAt := ⟨by decide, gt_2 207 rfl rfl, gt_1 2 rfl rfl, by decide, by decide, by decide +kernel⟩
def yX8_endOfRun : MethodName := ⟨RX8, "endOfRun", "(III)I"⟩
abbrev cX8_endOfRun : ByteArray := prog_10_method_4_code
def mX8_endOfRun : aM := (yX8_endOfRun, cX8_endOfRun, 5, (some .int), 1, 3, { frames := 0, cells := 0, slots := 0, locals := 0 })
theorem ok_X8_endOfRun : okM mX8_endOfRun := ⟨by decide, gt_2 203 rfl rfl, gt_1 2 rfl rfl, by decide, by decide, by decide +kernel⟩
def yX8_advance : MethodName := ⟨RX8, "advance", "()V"⟩
abbrev cX8_advance : ByteArray := prog_10_method_5_code
def mX8_advance : aM := (yX8_advance, cX8_advance, 3, none, 0, 0, { frames := 1, cells := 0, slots := 0, locals := 24 })
theorem ok_X8_advance : okM mX8_advance := ⟨by decide, gt_2 199 rfl rfl, gt_1 2 rfl rfl, by decide, by decide, by decide +kernel⟩
def yX8_isName : MethodName := ⟨RX8, "isName", "(Ljava/lang/String;)Z"⟩
abbrev cX8_isName : ByteArray := prog_10_method_6_code
def mX8_isName : aM := (yX8_isName, cX8_isName, 3, (some .boolean), 1, 1, { frames := 5, cells := 0, slots := 0, locals := 106 })
theorem ok_X8_isName : okM mX8_isName := ⟨by decide, gt_2 224 rfl rfl, gt_1 2 rfl rfl, by decide, by decide, by decide +kernel⟩
def yX9_init : MethodName := ⟨RX9, "<init>", "(LLatePrices$Plan;LLatePrices$News;)V"⟩
abbrev cX9_init : ByteArray := prog_11_method_1_code
def mX9_init : aM := (yX9_init, cX9_init, 3, none, 0, 2, { frames := 1, cells := 1, slots := 5, locals := 20 })
theorem ok_X9_init : okM mX9_init := ⟨by decide, gt_2 80 rfl rfl, gt_1 12 rfl rfl, by decide, by decide, by decide +kernel⟩
def yX9_look : MethodName := ⟨RX9, "look", "(I)V"⟩
abbrev cX9_look : ByteArray := prog_11_method_2_code
def mX9_look : aM := (yX9_look, cX9_look, 5, none, 0, 1, { frames := 3, cells := 0, slots := 0, locals := 75 })
theorem ok_X9_look : okM mX9_look := ⟨by decide, gt_4 148 rfl rfl, gt_1 12 rfl rfl, by decide, by decide, by decide +kernel⟩
def yX9_longestIn : MethodName := ⟨RX9, "longestIn", "(III)I"⟩
abbrev cX9_longestIn : ByteArray := prog_11_method_3_code
def mX9_longestIn : aM := (yX9_longestIn, cX9_longestIn, 8, (some .int), 1, 3, { frames := 5, cells := 0, slots := 0, locals := 126 })
theorem ok_X9_longestIn : okM mX9_longestIn := ⟨by decide, gt_4 163 rfl rfl, gt_1 12 rfl rfl, by decide, by decide, by decide +kernel⟩
def yX9_longestBehind : MethodName := ⟨RX9, "longestBehind", "(IIIII)I"⟩
abbrev cX9_longestBehind : ByteArray := prog_11_method_4_code
def mX9_longestBehind : aM := (yX9_longestBehind, cX9_longestBehind, 9, (some .int), 1, 5, { frames := 4, cells := 0, slots := 0, locals := 98 })
theorem ok_X9_longestBehind : okM mX9_longestBehind := ⟨by decide, gt_4 168 rfl rfl, gt_1 12 rfl rfl, by decide, by decide, by decide +kernel⟩
def yX10_init : MethodName := ⟨RX10, "<init>", "(LLatePrices$Plan;)V"⟩
abbrev cX10_init : ByteArray := prog_12_method_1_code
def mX10_init : aM := (yX10_init, cX10_init, 2, none, 0, 1, { frames := 1, cells := 2, slots := 50, locals := 20 })
theorem ok_X10_init : okM mX10_init := ⟨by decide, gt_2 97 rfl rfl, gt_1 13 rfl rfl, by decide, by decide, by decide +kernel⟩
def yX10_walk : MethodName := ⟨RX10, "walk", "(I)V"⟩
abbrev cX10_walk : ByteArray := prog_12_method_2_code
def mX10_walk : aM := (yX10_walk, cX10_walk, 8, none, 0, 1, { frames := 1, cells := 0, slots := 0, locals := 26 })
theorem ok_X10_walk : okM mX10_walk := ⟨by decide, gt_4 182 rfl rfl, gt_1 13 rfl rfl, by decide, by decide, by decide +kernel⟩
def yX10_power : MethodName := ⟨RX10, "power", "(I)J"⟩
abbrev cX10_power : ByteArray := prog_12_method_3_code
def mX10_power : aM := (yX10_power, cX10_power, 5, (some .long), 2, 1, { frames := 1, cells := 0, slots := 0, locals := 20 })
theorem ok_X10_power : okM mX10_power := ⟨by decide, gt_4 190 rfl rfl, gt_1 13 rfl rfl, by decide, by decide, by decide +kernel⟩
def yX10_lossSum : MethodName := ⟨RX10, "lossSum", "(II)J"⟩
abbrev cX10_lossSum : ByteArray := prog_12_method_4_code
def mX10_lossSum : aM := (yX10_lossSum, cX10_lossSum, 6, (some .long), 2, 2, { frames := 2, cells := 0, slots := 0, locals := 53 })
theorem ok_X10_lossSum : okM mX10_lossSum := ⟨by decide, gt_4 208 rfl rfl, gt_1 13 rfl rfl, by decide, by decide, by decide +kernel⟩
def yX10_inLowestTerms : MethodName := ⟨RX10, "inLowestTerms", "(JJI)J"⟩
abbrev cX10_inLowestTerms : ByteArray := prog_12_method_5_code
def mX10_inLowestTerms : aM := (yX10_inLowestTerms, cX10_inLowestTerms, 12, (some .long), 2, 3, { frames := 1, cells := 0, slots := 0, locals := 23 })
theorem ok_X10_inLowestTerms : okM mX10_inLowestTerms := ⟨by decide, gt_4 194 rfl rfl, gt_1 13 rfl rfl, by decide, by decide, by decide +kernel⟩
def yX11_init : MethodName := ⟨RX11, "<init>", "()V"⟩
abbrev cX11_init : ByteArray := prog_1_method_1_code
def mX11_init : aM := (yX11_init, cX11_init, 2, none, 0, 0, { frames := 3, cells := 67, slots := 2039, locals := 64 })
theorem ok_X11_init : okM mX11_init := ⟨by decide, gt_1 25 rfl rfl, gt_1 1 rfl rfl, by decide, by decide, by decide +kernel⟩
def yX11_feed : MethodName := ⟨RX11, "feed", "(J)I"⟩
abbrev cX11_feed : ByteArray := prog_1_method_2_code
def mX11_feed : aM := (yX11_feed, cX11_feed, 3, (some .int), 1, 1, { frames := 1, cells := 0, slots := 0, locals := 23 })
theorem ok_X11_feed : okM mX11_feed := ⟨by decide, gt_2 175 rfl rfl, gt_1 1 rfl rfl, by decide, by decide, by decide +kernel⟩
def yX11_end : MethodName := ⟨RX11, "end", "(I)I"⟩
abbrev cX11_end : ByteArray := prog_1_method_3_code
def mX11_end : aM := (yX11_end, cX11_end, 3, (some .int), 1, 1, { frames := 1, cells := 0, slots := 0, locals := 22 })
theorem ok_X11_end : okM mX11_end := ⟨by decide, gt_2 183 rfl rfl, gt_1 1 rfl rfl, by decide, by decide, by decide +kernel⟩
def yX11_system : MethodName := ⟨RX11, "system", "()I"⟩
abbrev cX11_system : ByteArray := prog_1_method_4_code
def mX11_system : aM := (yX11_system, cX11_system, 3, (some .int), 1, 0, { frames := 9, cells := 0, slots := 0, locals := 189 })
theorem ok_X11_system : okM mX11_system := ⟨by decide, gt_2 190 rfl rfl, gt_1 1 rfl rfl, by decide, by decide, by decide +kernel⟩
def yX11_fault : MethodName := ⟨RX11, "fault", "()I"⟩
abbrev cX11_fault : ByteArray := prog_1_method_5_code
def mX11_fault : aM := (yX11_fault, cX11_fault, 1, (some .int), 1, 0, { frames := 0, cells := 0, slots := 0, locals := 0 })
theorem ok_X11_fault : okM mX11_fault := ⟨by decide, gt_3 90 rfl rfl, gt_1 1 rfl rfl, by decide, by decide, by decide +kernel⟩
def yX11_told : MethodName := ⟨RX11, "told", "(I)I"⟩
abbrev cX11_told : ByteArray := prog_1_method_6_code
def mX11_told : aM := (yX11_told, cX11_told, 2, (some .int), 1, 1, { frames := 0, cells := 0, slots := 0, locals := 0 })
theorem ok_X11_told : okM mX11_told := ⟨by decide, gt_3 94 rfl rfl, gt_1 1 rfl rfl, by decide, by decide, by decide +kernel⟩
def yX11_way : MethodName := ⟨RX11, "way", "(II)I"⟩
abbrev cX11_way : ByteArray := prog_1_method_7_code
def mX11_way : aM := (yX11_way, cX11_way, 4, (some .int), 1, 2, { frames := 2, cells := 0, slots := 0, locals := 43 })
theorem ok_X11_way : okM mX11_way := ⟨by decide, gt_3 98 rfl rfl, gt_1 1 rfl rfl, by decide, by decide, by decide +kernel⟩
def yX11_comes : MethodName := ⟨RX11, "comes", "(III)I"⟩
abbrev cX11_comes : ByteArray := prog_1_method_8_code
def mX11_comes : aM := (yX11_comes, cX11_comes, 4, (some .int), 1, 3, { frames := 4, cells := 0, slots := 0, locals := 98 })
theorem ok_X11_comes : okM mX11_comes := ⟨by decide, gt_3 107 rfl rfl, gt_1 1 rfl rfl, by decide, by decide, by decide +kernel⟩
def yX11_knows : MethodName := ⟨RX11, "knows", "(IIII)I"⟩
abbrev cX11_knows : ByteArray := prog_1_method_9_code
def mX11_knows : aM := (yX11_knows, cX11_knows, 6, (some .int), 1, 4, { frames := 4, cells := 0, slots := 0, locals := 98 })
theorem ok_X11_knows : okM mX11_knows := ⟨by decide, gt_3 142 rfl rfl, gt_1 1 rfl rfl, by decide, by decide, by decide +kernel⟩
def yX11_step : MethodName := ⟨RX11, "step", "(III)I"⟩
abbrev cX11_step : ByteArray := prog_1_method_10_code
def mX11_step : aM := (yX11_step, cX11_step, 5, (some .int), 1, 3, { frames := 2, cells := 0, slots := 0, locals := 43 })
theorem ok_X11_step : okM mX11_step := ⟨by decide, gt_3 175 rfl rfl, gt_1 1 rfl rfl, by decide, by decide, by decide +kernel⟩
def yX11_price : MethodName := ⟨RX11, "price", "(II)I"⟩
abbrev cX11_price : ByteArray := prog_1_method_11_code
def mX11_price : aM := (yX11_price, cX11_price, 3, (some .int), 1, 2, { frames := 2, cells := 0, slots := 0, locals := 48 })
theorem ok_X11_price : okM mX11_price := ⟨by decide, gt_3 187 rfl rfl, gt_1 1 rfl rfl, by decide, by decide, by decide +kernel⟩
def yX11_dearest : MethodName := ⟨RX11, "dearest", "(III)I"⟩
abbrev cX11_dearest : ByteArray := prog_1_method_12_code
def mX11_dearest : aM := (yX11_dearest, cX11_dearest, 9, (some .int), 1, 3, { frames := 3, cells := 0, slots := 0, locals := 75 })
theorem ok_X11_dearest : okM mX11_dearest := ⟨by decide, gt_3 191 rfl rfl, gt_1 1 rfl rfl, by decide, by decide, by decide +kernel⟩
def yX11_call : MethodName := ⟨RX11, "call", "(IIIIIII)I"⟩
abbrev cX11_call : ByteArray := prog_1_method_13_code
def mX11_call : aM := (yX11_call, cX11_call, 11, (some .int), 1, 7, { frames := 2, cells := 0, slots := 0, locals := 43 })
theorem ok_X11_call : okM mX11_call := ⟨by decide, gt_3 200 rfl rfl, gt_1 1 rfl rfl, by decide, by decide, by decide +kernel⟩
def yX11_takeBack : MethodName := ⟨RX11, "takeBack", "(II)I"⟩
abbrev cX11_takeBack : ByteArray := prog_1_method_14_code
def mX11_takeBack : aM := (yX11_takeBack, cX11_takeBack, 4, (some .int), 1, 2, { frames := 2, cells := 0, slots := 0, locals := 43 })
theorem ok_X11_takeBack : okM mX11_takeBack := ⟨by decide, gt_3 204 rfl rfl, gt_1 1 rfl rfl, by decide, by decide, by decide +kernel⟩
def yX11_of : MethodName := ⟨RX11, "of", "(II)I"⟩
abbrev cX11_of : ByteArray := prog_1_method_15_code
def mX11_of : aM := (yX11_of, cX11_of, 3, (some .int), 1, 2, { frames := 5, cells := 0, slots := 0, locals := 120 })
theorem ok_X11_of : okM mX11_of := ⟨by decide, gt_3 213 rfl rfl, gt_1 1 rfl rfl, by decide, by decide, by decide +kernel⟩
def yX11_stands : MethodName := ⟨RX11, "stands", "(II)I"⟩
abbrev cX11_stands : ByteArray := prog_1_method_16_code
def mX11_stands : aM := (yX11_stands, cX11_stands, 3, (some .int), 1, 2, { frames := 5, cells := 0, slots := 0, locals := 121 })
theorem ok_X11_stands : okM mX11_stands := ⟨by decide, gt_4 13 rfl rfl, gt_1 1 rfl rfl, by decide, by decide, by decide +kernel⟩
def yX11_seen : MethodName := ⟨RX11, "seen", "(III)I"⟩
abbrev cX11_seen : ByteArray := prog_1_method_17_code
def mX11_seen : aM := (yX11_seen, cX11_seen, 5, (some .int), 1, 3, { frames := 4, cells := 0, slots := 0, locals := 98 })
theorem ok_X11_seen : okM mX11_seen := ⟨by decide, gt_4 22 rfl rfl, gt_1 1 rfl rfl, by decide, by decide, by decide +kernel⟩
def yX11_deal : MethodName := ⟨RX11, "deal", "(IIII)I"⟩
abbrev cX11_deal : ByteArray := prog_1_method_18_code
def mX11_deal : aM := (yX11_deal, cX11_deal, 8, (some .int), 1, 4, { frames := 4, cells := 0, slots := 0, locals := 98 })
theorem ok_X11_deal : okM mX11_deal := ⟨by decide, gt_4 26 rfl rfl, gt_1 1 rfl rfl, by decide, by decide, by decide +kernel⟩
def yX11_sent : MethodName := ⟨RX11, "sent", "(II)I"⟩
abbrev cX11_sent : ByteArray := prog_1_method_19_code
def mX11_sent : aM := (yX11_sent, cX11_sent, 4, (some .int), 1, 2, { frames := 5, cells := 0, slots := 0, locals := 121 })
theorem ok_X11_sent : okM mX11_sent := ⟨by decide, gt_4 30 rfl rfl, gt_1 1 rfl rfl, by decide, by decide, by decide +kernel⟩
def yX11_empty : MethodName := ⟨RX11, "empty", "(I)I"⟩
abbrev cX11_empty : ByteArray := prog_1_method_20_code
def mX11_empty : aM := (yX11_empty, cX11_empty, 4, (some .int), 1, 1, { frames := 6, cells := 0, slots := 0, locals := 146 })
theorem ok_X11_empty : okM mX11_empty := ⟨by decide, gt_4 43 rfl rfl, gt_1 1 rfl rfl, by decide, by decide, by decide +kernel⟩
def yX11_undo : MethodName := ⟨RX11, "undo", "(II)I"⟩
abbrev cX11_undo : ByteArray := prog_1_method_21_code
def mX11_undo : aM := (yX11_undo, cX11_undo, 4, (some .int), 1, 2, { frames := 5, cells := 0, slots := 0, locals := 120 })
theorem ok_X11_undo : okM mX11_undo := ⟨by decide, gt_4 52 rfl rfl, gt_1 1 rfl rfl, by decide, by decide, by decide +kernel⟩
def yX11_gain : MethodName := ⟨RX11, "gain", "(IIZI)I"⟩
abbrev cX11_gain : ByteArray := prog_1_method_22_code
def mX11_gain : aM := (yX11_gain, cX11_gain, 5, (some .int), 1, 4, { frames := 6, cells := 0, slots := 0, locals := 147 })
theorem ok_X11_gain : okM mX11_gain := ⟨by decide, gt_4 76 rfl rfl, gt_1 1 rfl rfl, by decide, by decide, by decide +kernel⟩
def yX11_chance : MethodName := ⟨RX11, "chance", "(IIZ)I"⟩
abbrev cX11_chance : ByteArray := prog_1_method_23_code
def mX11_chance : aM := (yX11_chance, cX11_chance, 4, (some .int), 1, 3, { frames := 6, cells := 0, slots := 0, locals := 147 })
theorem ok_X11_chance : okM mX11_chance := ⟨by decide, gt_4 104 rfl rfl, gt_1 1 rfl rfl, by decide, by decide, by decide +kernel⟩
def yX11_owes : MethodName := ⟨RX11, "owes", "(IIII)I"⟩
abbrev cX11_owes : ByteArray := prog_1_method_24_code
def mX11_owes : aM := (yX11_owes, cX11_owes, 5, (some .int), 1, 4, { frames := 6, cells := 0, slots := 0, locals := 146 })
theorem ok_X11_owes : okM mX11_owes := ⟨by decide, gt_4 113 rfl rfl, gt_1 1 rfl rfl, by decide, by decide, by decide +kernel⟩
def yX11_over : MethodName := ⟨RX11, "over", "(I)I"⟩
abbrev cX11_over : ByteArray := prog_1_method_25_code
def mX11_over : aM := (yX11_over, cX11_over, 4, (some .int), 1, 1, { frames := 5, cells := 0, slots := 0, locals := 120 })
theorem ok_X11_over : okM mX11_over := ⟨by decide, gt_4 132 rfl rfl, gt_1 1 rfl rfl, by decide, by decide, by decide +kernel⟩
def yX11_peak : MethodName := ⟨RX11, "peak", "(II)I"⟩
abbrev cX11_peak : ByteArray := prog_1_method_26_code
def mX11_peak : aM := (yX11_peak, cX11_peak, 4, (some .int), 1, 2, { frames := 5, cells := 0, slots := 0, locals := 120 })
theorem ok_X11_peak : okM mX11_peak := ⟨by decide, gt_4 136 rfl rfl, gt_1 1 rfl rfl, by decide, by decide, by decide +kernel⟩
def yX11_waits : MethodName := ⟨RX11, "waits", "(II)I"⟩
abbrev cX11_waits : ByteArray := prog_1_method_27_code
def mX11_waits : aM := (yX11_waits, cX11_waits, 3, (some .int), 1, 2, { frames := 4, cells := 0, slots := 0, locals := 99 })
theorem ok_X11_waits : okM mX11_waits := ⟨by decide, gt_4 144 rfl rfl, gt_1 1 rfl rfl, by decide, by decide, by decide +kernel⟩
def yX11_book : MethodName := ⟨RX11, "book", "(II)I"⟩
abbrev cX11_book : ByteArray := prog_1_method_28_code
def mX11_book : aM := (yX11_book, cX11_book, 6, (some .int), 1, 2, { frames := 4, cells := 0, slots := 0, locals := 99 })
theorem ok_X11_book : okM mX11_book := ⟨by decide, gt_4 155 rfl rfl, gt_1 1 rfl rfl, by decide, by decide, by decide +kernel⟩
def yX11_enough : MethodName := ⟨RX11, "enough", "(III)I"⟩
abbrev cX11_enough : ByteArray := prog_1_method_29_code
def mX11_enough : aM := (yX11_enough, cX11_enough, 4, (some .int), 1, 3, { frames := 6, cells := 0, slots := 0, locals := 153 })
theorem ok_X11_enough : okM mX11_enough := ⟨by decide, gt_4 159 rfl rfl, gt_1 1 rfl rfl, by decide, by decide, by decide +kernel⟩
def yX11_odds : MethodName := ⟨RX11, "odds", "(III)J"⟩
abbrev cX11_odds : ByteArray := prog_1_method_30_code
def mX11_odds : aM := (yX11_odds, cX11_odds, 4, (some .long), 2, 3, { frames := 2, cells := 0, slots := 0, locals := 54 })
theorem ok_X11_odds : okM mX11_odds := ⟨by decide, gt_4 174 rfl rfl, gt_1 1 rfl rfl, by decide, by decide, by decide +kernel⟩
def yX11_loss : MethodName := ⟨RX11, "loss", "(III)J"⟩
abbrev cX11_loss : ByteArray := prog_1_method_31_code
def mX11_loss : aM := (yX11_loss, cX11_loss, 4, (some .long), 2, 3, { frames := 3, cells := 0, slots := 0, locals := 78 })
theorem ok_X11_loss : okM mX11_loss := ⟨by decide, gt_4 204 rfl rfl, gt_1 1 rfl rfl, by decide, by decide, by decide +kernel⟩
def yX11_wide : MethodName := ⟨RX11, "wide", "(III)I"⟩
abbrev cX11_wide : ByteArray := prog_1_method_32_code
def mX11_wide : aM := (yX11_wide, cX11_wide, 5, (some .int), 1, 3, { frames := 3, cells := 0, slots := 0, locals := 78 })
theorem ok_X11_wide : okM mX11_wide := ⟨by decide, gt_4 215 rfl rfl, gt_1 1 rfl rfl, by decide, by decide, by decide +kernel⟩
def yX11_near : MethodName := ⟨RX11, "near", "(IIII)J"⟩
abbrev cX11_near : ByteArray := prog_1_method_33_code
def mX11_near : aM := (yX11_near, cX11_near, 7, (some .long), 2, 4, { frames := 3, cells := 0, slots := 0, locals := 78 })
theorem ok_X11_near : okM mX11_near := ⟨by decide, gt_4 219 rfl rfl, gt_1 1 rfl rfl, by decide, by decide, by decide +kernel⟩
def yX11_keep : MethodName := ⟨RX11, "keep", "(I)I"⟩
abbrev cX11_keep : ByteArray := prog_1_method_34_code
def mX11_keep : aM := (yX11_keep, cX11_keep, 3, (some .int), 1, 1, { frames := 3, cells := 0, slots := 0, locals := 68 })
theorem ok_X11_keep : okM mX11_keep := ⟨by decide, gt_4 223 rfl rfl, gt_1 1 rfl rfl, by decide, by decide, by decide +kernel⟩
def yX11_back : MethodName := ⟨RX11, "back", "(I)I"⟩
abbrev cX11_back : ByteArray := prog_1_method_35_code
def mX11_back : aM := (yX11_back, cX11_back, 2, (some .int), 1, 1, { frames := 3, cells := 0, slots := 0, locals := 68 })
theorem ok_X11_back : okM mX11_back := ⟨by decide, gt_4 237 rfl rfl, gt_1 1 rfl rfl, by decide, by decide, by decide +kernel⟩
def yX11_sheet : MethodName := ⟨RX11, "sheet", "(III)I"⟩
abbrev cX11_sheet : ByteArray := prog_1_method_36_code
def mX11_sheet : aM := (yX11_sheet, cX11_sheet, 4, (some .int), 1, 3, { frames := 2, cells := 0, slots := 0, locals := 45 })
theorem ok_X11_sheet : okM mX11_sheet := ⟨by decide, gt_5 1 rfl rfl, gt_1 1 rfl rfl, by decide, by decide, by decide +kernel⟩
def yX11_lay : MethodName := ⟨RX11, "lay", "(III)I"⟩
abbrev cX11_lay : ByteArray := prog_1_method_37_code
def mX11_lay : aM := (yX11_lay, cX11_lay, 4, (some .int), 1, 3, { frames := 2, cells := 0, slots := 0, locals := 42 })
theorem ok_X11_lay : okM mX11_lay := ⟨by decide, gt_5 18 rfl rfl, gt_1 1 rfl rfl, by decide, by decide, by decide +kernel⟩
def yX11_read : MethodName := ⟨RX11, "read", "(IIII)I"⟩
abbrev cX11_read : ByteArray := prog_1_method_38_code
def mX11_read : aM := (yX11_read, cX11_read, 11, (some .int), 1, 4, { frames := 3, cells := 0, slots := 0, locals := 67 })
theorem ok_X11_read : okM mX11_read := ⟨by decide, gt_5 30 rfl rfl, gt_1 1 rfl rfl, by decide, by decide, by decide +kernel⟩
def yX11_torn : MethodName := ⟨RX11, "torn", "()I"⟩
abbrev cX11_torn : ByteArray := prog_1_method_39_code
def mX11_torn : aM := (yX11_torn, cX11_torn, 1, (some .int), 1, 0, { frames := 0, cells := 0, slots := 0, locals := 0 })
theorem ok_X11_torn : okM mX11_torn := ⟨by decide, gt_5 48 rfl rfl, gt_1 1 rfl rfl, by decide, by decide, by decide +kernel⟩
def yX11_count : MethodName := ⟨RX11, "count", "(I)I"⟩
abbrev cX11_count : ByteArray := prog_1_method_40_code
def mX11_count : aM := (yX11_count, cX11_count, 2, (some .int), 1, 1, { frames := 1, cells := 0, slots := 0, locals := 20 })
theorem ok_X11_count : okM mX11_count := ⟨by decide, gt_5 52 rfl rfl, gt_1 1 rfl rfl, by decide, by decide, by decide +kernel⟩
def yX11_within : MethodName := ⟨RX11, "within", "(III)Z"⟩
abbrev cX11_within : ByteArray := prog_1_method_41_code
def mX11_within : aM := (yX11_within, cX11_within, 3, (some .boolean), 1, 3, { frames := 0, cells := 0, slots := 0, locals := 0 })
theorem ok_X11_within : okM mX11_within := ⟨by decide, gt_2 186 rfl rfl, gt_1 1 rfl rfl, by decide, by decide, by decide +kernel⟩
def yX11_orNone : MethodName := ⟨RX11, "orNone", "(I)I"⟩
abbrev cX11_orNone : ByteArray := prog_1_method_42_code
def mX11_orNone : aM := (yX11_orNone, cX11_orNone, 1, (some .int), 1, 1, { frames := 0, cells := 0, slots := 0, locals := 0 })
theorem ok_X11_orNone : okM mX11_orNone := ⟨by decide, gt_3 138 rfl rfl, gt_1 1 rfl rfl, by decide, by decide, by decide +kernel⟩
def yX11_isMinute : MethodName := ⟨RX11, "isMinute", "(I)Z"⟩
abbrev cX11_isMinute : ByteArray := prog_1_method_43_code
def mX11_isMinute : aM := (yX11_isMinute, cX11_isMinute, 1, (some .boolean), 1, 1, { frames := 1, cells := 0, slots := 0, locals := 22 })
theorem ok_X11_isMinute : okM mX11_isMinute := ⟨by decide, gt_3 110 rfl rfl, gt_1 1 rfl rfl, by decide, by decide, by decide +kernel⟩
def yX11_isAge : MethodName := ⟨RX11, "isAge", "(I)Z"⟩
abbrev cX11_isAge : ByteArray := prog_1_method_44_code
def mX11_isAge : aM := (yX11_isAge, cX11_isAge, 1, (some .boolean), 1, 1, { frames := 1, cells := 0, slots := 0, locals := 22 })
theorem ok_X11_isAge : okM mX11_isAge := ⟨by decide, gt_4 177 rfl rfl, gt_1 1 rfl rfl, by decide, by decide, by decide +kernel⟩
def yX11_isSheet : MethodName := ⟨RX11, "isSheet", "(I)Z"⟩
abbrev cX11_isSheet : ByteArray := prog_1_method_45_code
def mX11_isSheet : aM := (yX11_isSheet, cX11_isSheet, 1, (some .boolean), 1, 1, { frames := 1, cells := 0, slots := 0, locals := 22 })
theorem ok_X11_isSheet : okM mX11_isSheet := ⟨by decide, gt_5 4 rfl rfl, gt_1 1 rfl rfl, by decide, by decide, by decide +kernel⟩
def yX11_isLane : MethodName := ⟨RX11, "isLane", "(I)Z"⟩
abbrev cX11_isLane : ByteArray := prog_1_method_46_code
def mX11_isLane : aM := (yX11_isLane, cX11_isLane, 1, (some .boolean), 1, 1, { frames := 1, cells := 0, slots := 0, locals := 22 })
theorem ok_X11_isLane : okM mX11_isLane := ⟨by decide, gt_5 7 rfl rfl, gt_1 1 rfl rfl, by decide, by decide, by decide +kernel⟩
def yX11_isPlace : MethodName := ⟨RX11, "isPlace", "(I)Z"⟩
abbrev cX11_isPlace : ByteArray := prog_1_method_47_code
def mX11_isPlace : aM := (yX11_isPlace, cX11_isPlace, 2, (some .boolean), 1, 1, { frames := 1, cells := 0, slots := 0, locals := 22 })
theorem ok_X11_isPlace : okM mX11_isPlace := ⟨by decide, gt_3 102 rfl rfl, gt_1 1 rfl rfl, by decide, by decide, by decide +kernel⟩
def yX11_isCall : MethodName := ⟨RX11, "isCall", "(I)Z"⟩
abbrev cX11_isCall : ByteArray := prog_1_method_48_code
def mX11_isCall : aM := (yX11_isCall, cX11_isCall, 2, (some .boolean), 1, 1, { frames := 1, cells := 0, slots := 0, locals := 22 })
theorem ok_X11_isCall : okM mX11_isCall := ⟨by decide, gt_3 208 rfl rfl, gt_1 1 rfl rfl, by decide, by decide, by decide +kernel⟩
def yX11_isDeal : MethodName := ⟨RX11, "isDeal", "(I)Z"⟩
abbrev cX11_isDeal : ByteArray := prog_1_method_49_code
def mX11_isDeal : aM := (yX11_isDeal, cX11_isDeal, 2, (some .boolean), 1, 1, { frames := 1, cells := 0, slots := 0, locals := 22 })
theorem ok_X11_isDeal : okM mX11_isDeal := ⟨by decide, gt_4 34 rfl rfl, gt_1 1 rfl rfl, by decide, by decide, by decide +kernel⟩
def yX11_isEmptyAs : MethodName := ⟨RX11, "isEmptyAs", "(II)Z"⟩
abbrev cX11_isEmptyAs : ByteArray := prog_1_method_50_code
def mX11_isEmptyAs : aM := (yX11_isEmptyAs, cX11_isEmptyAs, 5, (some .boolean), 1, 2, { frames := 5, cells := 0, slots := 0, locals := 122 })
theorem ok_X11_isEmptyAs : okM mX11_isEmptyAs := ⟨by decide, gt_4 47 rfl rfl, gt_1 1 rfl rfl, by decide, by decide, by decide +kernel⟩
def yX12_init : MethodName := ⟨RX12, "<init>", "()V"⟩
abbrev cX12_init : ByteArray := prog_14_method_1_code
def mX12_init : aM := (yX12_init, cX12_init, 1, none, 0, 0, { frames := 1, cells := 25, slots := 1783, locals := 20 })
theorem ok_X12_init : okM mX12_init := ⟨by decide, gt_5 57 rfl rfl, gt_1 15 rfl rfl, by decide, by decide, by decide +kernel⟩
def yX12_in : MethodName := ⟨RX12, "in", "(JJJ)Z"⟩
abbrev cX12_in : ByteArray := prog_14_method_3_code
def mX12_in : aM := (yX12_in, cX12_in, 6, (some .boolean), 1, 3, { frames := 0, cells := 0, slots := 0, locals := 0 })
theorem ok_X12_in : okM mX12_in := ⟨by decide, gt_5 185 rfl rfl, gt_1 15 rfl rfl, by decide, by decide, by decide +kernel⟩
def yX12_feed : MethodName := ⟨RX12, "feed", "(J)I"⟩
abbrev cX12_feed : ByteArray := prog_14_method_4_code
def mX12_feed : aM := (yX12_feed, cX12_feed, 4, (some .int), 1, 1, { frames := 0, cells := 0, slots := 0, locals := 0 })
theorem ok_X12_feed : okM mX12_feed := ⟨by decide, gt_5 178 rfl rfl, gt_1 15 rfl rfl, by decide, by decide, by decide +kernel⟩
def yX12_end : MethodName := ⟨RX12, "end", "(I)I"⟩
abbrev cX12_end : ByteArray := prog_14_method_5_code
def mX12_end : aM := (yX12_end, cX12_end, 3, (some .int), 1, 1, { frames := 1, cells := 0, slots := 0, locals := 25 })
theorem ok_X12_end : okM mX12_end := ⟨by decide, gt_5 182 rfl rfl, gt_1 15 rfl rfl, by decide, by decide, by decide +kernel⟩
def yX12_byteAt : MethodName := ⟨RX12, "byteAt", "(I)I"⟩
abbrev cX12_byteAt : ByteArray := prog_14_method_6_code
def mX12_byteAt : aM := (yX12_byteAt, cX12_byteAt, 2, (some .int), 1, 1, { frames := 0, cells := 0, slots := 0, locals := 0 })
theorem ok_X12_byteAt : okM mX12_byteAt := ⟨by decide, gt_5 197 rfl rfl, gt_1 15 rfl rfl, by decide, by decide, by decide +kernel⟩
def yX12_fails : MethodName := ⟨RX12, "fails", "(I)V"⟩
abbrev cX12_fails : ByteArray := prog_14_method_7_code
def mX12_fails : aM := (yX12_fails, cX12_fails, 2, none, 0, 1, { frames := 0, cells := 0, slots := 0, locals := 0 })
theorem ok_X12_fails : okM mX12_fails := ⟨by decide, gt_5 205 rfl rfl, gt_1 15 rfl rfl, by decide, by decide, by decide +kernel⟩
def yX12_nameHere : MethodName := ⟨RX12, "nameHere", "()I"⟩
abbrev cX12_nameHere : ByteArray := prog_14_method_8_code
def mX12_nameHere : aM := (yX12_nameHere, cX12_nameHere, 4, (some .int), 1, 0, { frames := 1, cells := 0, slots := 0, locals := 21 })
theorem ok_X12_nameHere : okM mX12_nameHere := ⟨by decide, gt_5 213 rfl rfl, gt_1 15 rfl rfl, by decide, by decide, by decide +kernel⟩
def yX12_next : MethodName := ⟨RX12, "next", "()V"⟩
abbrev cX12_next : ByteArray := prog_14_method_9_code
def mX12_next : aM := (yX12_next, cX12_next, 2, none, 0, 0, { frames := 1, cells := 0, slots := 0, locals := 25 })
theorem ok_X12_next : okM mX12_next := ⟨by decide, gt_5 193 rfl rfl, gt_1 15 rfl rfl, by decide, by decide, by decide +kernel⟩
def yX12_here : MethodName := ⟨RX12, "here", "(II)I"⟩
abbrev cX12_here : ByteArray := prog_14_method_10_code
def mX12_here : aM := (yX12_here, cX12_here, 3, (some .int), 1, 2, { frames := 1, cells := 0, slots := 0, locals := 25 })
theorem ok_X12_here : okM mX12_here := ⟨by decide, gt_5 222 rfl rfl, gt_1 15 rfl rfl, by decide, by decide, by decide +kernel⟩
def yX12_number : MethodName := ⟨RX12, "number", "(II)I"⟩
abbrev cX12_number : ByteArray := prog_14_method_11_code
def mX12_number : aM := (yX12_number, cX12_number, 4, (some .int), 1, 2, { frames := 2, cells := 0, slots := 0, locals := 47 })
theorem ok_X12_number : okM mX12_number := ⟨by decide, gt_5 218 rfl rfl, gt_1 15 rfl rfl, by decide, by decide, by decide +kernel⟩
def yX12_readWay : MethodName := ⟨RX12, "readWay", "()V"⟩
abbrev cX12_readWay : ByteArray := prog_14_method_12_code
def mX12_readWay : aM := (yX12_readWay, cX12_readWay, 4, none, 0, 0, { frames := 3, cells := 0, slots := 0, locals := 70 })
theorem ok_X12_readWay : okM mX12_readWay := ⟨by decide, gt_5 226 rfl rfl, gt_1 15 rfl rfl, by decide, by decide, by decide +kernel⟩
def yX12_readShut : MethodName := ⟨RX12, "readShut", "()V"⟩
abbrev cX12_readShut : ByteArray := prog_14_method_13_code
def mX12_readShut : aM := (yX12_readShut, cX12_readShut, 6, none, 0, 0, { frames := 3, cells := 0, slots := 0, locals := 70 })
theorem ok_X12_readShut : okM mX12_readShut := ⟨by decide, gt_5 230 rfl rfl, gt_1 15 rfl rfl, by decide, by decide, by decide +kernel⟩
def yX12_readRule : MethodName := ⟨RX12, "readRule", "(I)V"⟩
abbrev cX12_readRule : ByteArray := prog_14_method_14_code
def mX12_readRule : aM := (yX12_readRule, cX12_readRule, 5, none, 0, 1, { frames := 3, cells := 0, slots := 0, locals := 70 })
theorem ok_X12_readRule : okM mX12_readRule := ⟨by decide, gt_5 234 rfl rfl, gt_1 15 rfl rfl, by decide, by decide, by decide +kernel⟩
def yX12_readLine : MethodName := ⟨RX12, "readLine", "()V"⟩
abbrev cX12_readLine : ByteArray := prog_14_method_15_code
def mX12_readLine : aM := (yX12_readLine, cX12_readLine, 3, none, 0, 0, { frames := 4, cells := 0, slots := 0, locals := 95 })
theorem ok_X12_readLine : okM mX12_readLine := ⟨by decide, gt_5 209 rfl rfl, gt_1 15 rfl rfl, by decide, by decide, by decide +kernel⟩
def yX12_system : MethodName := ⟨RX12, "system", "()I"⟩
abbrev cX12_system : ByteArray := prog_14_method_16_code
def mX12_system : aM := (yX12_system, cX12_system, 3, (some .int), 1, 0, { frames := 5, cells := 0, slots := 0, locals := 117 })
theorem ok_X12_system : okM mX12_system := ⟨by decide, gt_5 189 rfl rfl, gt_1 15 rfl rfl, by decide, by decide, by decide +kernel⟩
def yX12_fault : MethodName := ⟨RX12, "fault", "()I"⟩
abbrev cX12_fault : ByteArray := prog_14_method_17_code
def mX12_fault : aM := (yX12_fault, cX12_fault, 1, (some .int), 1, 0, { frames := 0, cells := 0, slots := 0, locals := 0 })
theorem ok_X12_fault : okM mX12_fault := ⟨by decide, gt_5 238 rfl rfl, gt_1 15 rfl rfl, by decide, by decide, by decide +kernel⟩
def yX12_told : MethodName := ⟨RX12, "told", "(I)I"⟩
abbrev cX12_told : ByteArray := prog_14_method_18_code
def mX12_told : aM := (yX12_told, cX12_told, 2, (some .int), 1, 1, { frames := 1, cells := 0, slots := 0, locals := 25 })
theorem ok_X12_told : okM mX12_told := ⟨by decide, gt_6 2 rfl rfl, gt_1 15 rfl rfl, by decide, by decide, by decide +kernel⟩
def yX12_isPlace : MethodName := ⟨RX12, "isPlace", "(I)Z"⟩
abbrev cX12_isPlace : ByteArray := prog_14_method_19_code
def mX12_isPlace : aM := (yX12_isPlace, cX12_isPlace, 2, (some .boolean), 1, 1, { frames := 1, cells := 0, slots := 0, locals := 25 })
theorem ok_X12_isPlace : okM mX12_isPlace := ⟨by decide, gt_6 11 rfl rfl, gt_1 15 rfl rfl, by decide, by decide, by decide +kernel⟩
def yX12_isMinute : MethodName := ⟨RX12, "isMinute", "(I)Z"⟩
abbrev cX12_isMinute : ByteArray := prog_14_method_20_code
def mX12_isMinute : aM := (yX12_isMinute, cX12_isMinute, 1, (some .boolean), 1, 1, { frames := 1, cells := 0, slots := 0, locals := 25 })
theorem ok_X12_isMinute : okM mX12_isMinute := ⟨by decide, gt_6 18 rfl rfl, gt_1 15 rfl rfl, by decide, by decide, by decide +kernel⟩
def yX12_way : MethodName := ⟨RX12, "way", "(II)I"⟩
abbrev cX12_way : ByteArray := prog_14_method_21_code
def mX12_way : aM := (yX12_way, cX12_way, 3, (some .int), 1, 2, { frames := 2, cells := 0, slots := 0, locals := 46 })
theorem ok_X12_way : okM mX12_way := ⟨by decide, gt_6 7 rfl rfl, gt_1 15 rfl rfl, by decide, by decide, by decide +kernel⟩
def yX12_leaves : MethodName := ⟨RX12, "leaves", "(III)I"⟩
abbrev cX12_leaves : ByteArray := prog_14_method_22_code
def mX12_leaves : aM := (yX12_leaves, cX12_leaves, 8, (some .int), 1, 3, { frames := 1, cells := 0, slots := 0, locals := 25 })
theorem ok_X12_leaves : okM mX12_leaves := ⟨by decide, gt_6 31 rfl rfl, gt_1 15 rfl rfl, by decide, by decide, by decide +kernel⟩
def yX12_layNews : MethodName := ⟨RX12, "layNews", "(II)V"⟩
abbrev cX12_layNews : ByteArray := prog_14_method_23_code
def mX12_layNews : aM := (yX12_layNews, cX12_layNews, 8, none, 0, 2, { frames := 2, cells := 0, slots := 0, locals := 52 })
theorem ok_X12_layNews : okM mX12_layNews := ⟨by decide, gt_6 27 rfl rfl, gt_1 15 rfl rfl, by decide, by decide, by decide +kernel⟩
def yX12_news : MethodName := ⟨RX12, "news", "(III)I"⟩
abbrev cX12_news : ByteArray := prog_14_method_24_code
def mX12_news : aM := (yX12_news, cX12_news, 4, (some .int), 1, 3, { frames := 3, cells := 0, slots := 0, locals := 79 })
theorem ok_X12_news : okM mX12_news := ⟨by decide, gt_6 23 rfl rfl, gt_1 15 rfl rfl, by decide, by decide, by decide +kernel⟩
def yX12_orNone : MethodName := ⟨RX12, "orNone", "(I)I"⟩
abbrev cX12_orNone : ByteArray := prog_14_method_25_code
def mX12_orNone : aM := (yX12_orNone, cX12_orNone, 1, (some .int), 1, 1, { frames := 0, cells := 0, slots := 0, locals := 0 })
theorem ok_X12_orNone : okM mX12_orNone := ⟨by decide, gt_6 34 rfl rfl, gt_1 15 rfl rfl, by decide, by decide, by decide +kernel⟩
def yX12_comes : MethodName := ⟨RX12, "comes", "(III)I"⟩
abbrev cX12_comes : ByteArray := prog_14_method_26_code
def mX12_comes : aM := (yX12_comes, cX12_comes, 4, (some .int), 1, 3, { frames := 4, cells := 0, slots := 0, locals := 102 })
theorem ok_X12_comes : okM mX12_comes := ⟨by decide, gt_6 15 rfl rfl, gt_1 15 rfl rfl, by decide, by decide, by decide +kernel⟩
def yX12_latest : MethodName := ⟨RX12, "latest", "(III)I"⟩
abbrev cX12_latest : ByteArray := prog_14_method_27_code
def mX12_latest : aM := (yX12_latest, cX12_latest, 5, (some .int), 1, 3, { frames := 4, cells := 0, slots := 0, locals := 102 })
theorem ok_X12_latest : okM mX12_latest := ⟨by decide, gt_6 43 rfl rfl, gt_1 15 rfl rfl, by decide, by decide, by decide +kernel⟩
def yX12_knows : MethodName := ⟨RX12, "knows", "(IIII)I"⟩
abbrev cX12_knows : ByteArray := prog_14_method_28_code
def mX12_knows : aM := (yX12_knows, cX12_knows, 6, (some .int), 1, 4, { frames := 5, cells := 0, slots := 0, locals := 126 })
theorem ok_X12_knows : okM mX12_knows := ⟨by decide, gt_6 38 rfl rfl, gt_1 15 rfl rfl, by decide, by decide, by decide +kernel⟩
def yX12_step : MethodName := ⟨RX12, "step", "(III)I"⟩
abbrev cX12_step : ByteArray := prog_14_method_29_code
def mX12_step : aM := (yX12_step, cX12_step, 4, (some .int), 1, 3, { frames := 2, cells := 0, slots := 0, locals := 46 })
theorem ok_X12_step : okM mX12_step := ⟨by decide, gt_6 51 rfl rfl, gt_1 15 rfl rfl, by decide, by decide, by decide +kernel⟩
def yX12_addStep : MethodName := ⟨RX12, "addStep", "(III)V"⟩
abbrev cX12_addStep : ByteArray := prog_14_method_30_code
def mX12_addStep : aM := (yX12_addStep, cX12_addStep, 5, none, 0, 3, { frames := 0, cells := 0, slots := 0, locals := 0 })
theorem ok_X12_addStep : okM mX12_addStep := ⟨by decide, gt_6 55 rfl rfl, gt_1 15 rfl rfl, by decide, by decide, by decide +kernel⟩
def yX12_priceAt : MethodName := ⟨RX12, "priceAt", "(II)I"⟩
abbrev cX12_priceAt : ByteArray := prog_14_method_31_code
def mX12_priceAt : aM := (yX12_priceAt, cX12_priceAt, 6, (some .int), 1, 2, { frames := 1, cells := 0, slots := 0, locals := 25 })
theorem ok_X12_priceAt : okM mX12_priceAt := ⟨by decide, gt_6 47 rfl rfl, gt_1 15 rfl rfl, by decide, by decide, by decide +kernel⟩
def yX12_price : MethodName := ⟨RX12, "price", "(II)I"⟩
abbrev cX12_price : ByteArray := prog_14_method_32_code
def mX12_price : aM := (yX12_price, cX12_price, 3, (some .int), 1, 2, { frames := 2, cells := 0, slots := 0, locals := 50 })
theorem ok_X12_price : okM mX12_price := ⟨by decide, gt_6 59 rfl rfl, gt_1 15 rfl rfl, by decide, by decide, by decide +kernel⟩
def yX12_dearest : MethodName := ⟨RX12, "dearest", "(III)I"⟩
abbrev cX12_dearest : ByteArray := prog_14_method_33_code
def mX12_dearest : aM := (yX12_dearest, cX12_dearest, 10, (some .int), 1, 3, { frames := 5, cells := 0, slots := 0, locals := 126 })
theorem ok_X12_dearest : okM mX12_dearest := ⟨by decide, gt_6 63 rfl rfl, gt_1 15 rfl rfl, by decide, by decide, by decide +kernel⟩
def yX12_isCall : MethodName := ⟨RX12, "isCall", "(I)Z"⟩
abbrev cX12_isCall : ByteArray := prog_14_method_34_code
def mX12_isCall : aM := (yX12_isCall, cX12_isCall, 2, (some .boolean), 1, 1, { frames := 1, cells := 0, slots := 0, locals := 25 })
theorem ok_X12_isCall : okM mX12_isCall := ⟨by decide, gt_6 77 rfl rfl, gt_1 15 rfl rfl, by decide, by decide, by decide +kernel⟩
def yX12_its : MethodName := ⟨RX12, "its", "(II)I"⟩
abbrev cX12_its : ByteArray := prog_14_method_35_code
def mX12_its : aM := (yX12_its, cX12_its, 3, (some .int), 1, 2, { frames := 0, cells := 0, slots := 0, locals := 0 })
theorem ok_X12_its : okM mX12_its := ⟨by decide, gt_6 81 rfl rfl, gt_1 15 rfl rfl, by decide, by decide, by decide +kernel⟩
def yX12_takenBack : MethodName := ⟨RX12, "takenBack", "(I)I"⟩
abbrev cX12_takenBack : ByteArray := prog_14_method_36_code
def mX12_takenBack : aM := (yX12_takenBack, cX12_takenBack, 2, (some .int), 1, 1, { frames := 1, cells := 0, slots := 0, locals := 22 })
theorem ok_X12_takenBack : okM mX12_takenBack := ⟨by decide, gt_6 85 rfl rfl, gt_1 15 rfl rfl, by decide, by decide, by decide +kernel⟩
def yX12_call : MethodName := ⟨RX12, "call", "(IIIIIII)I"⟩
abbrev cX12_call : ByteArray := prog_14_method_37_code
def mX12_call : aM := (yX12_call, cX12_call, 11, (some .int), 1, 7, { frames := 2, cells := 0, slots := 0, locals := 46 })
theorem ok_X12_call : okM mX12_call := ⟨by decide, gt_6 68 rfl rfl, gt_1 15 rfl rfl, by decide, by decide, by decide +kernel⟩
def yX12_takeBack : MethodName := ⟨RX12, "takeBack", "(II)I"⟩
abbrev cX12_takeBack : ByteArray := prog_14_method_38_code
def mX12_takeBack : aM := (yX12_takeBack, cX12_takeBack, 4, (some .int), 1, 2, { frames := 2, cells := 0, slots := 0, locals := 46 })
theorem ok_X12_takeBack : okM mX12_takeBack := ⟨by decide, gt_6 73 rfl rfl, gt_1 15 rfl rfl, by decide, by decide, by decide +kernel⟩
def yX12_ends : MethodName := ⟨RX12, "ends", "(I)I"⟩
abbrev cX12_ends : ByteArray := prog_14_method_39_code
def mX12_ends : aM := (yX12_ends, cX12_ends, 6, (some .int), 1, 1, { frames := 2, cells := 0, slots := 0, locals := 50 })
theorem ok_X12_ends : okM mX12_ends := ⟨by decide, gt_6 94 rfl rfl, gt_1 15 rfl rfl, by decide, by decide, by decide +kernel⟩
def yX12_standsIn : MethodName := ⟨RX12, "standsIn", "(II)Z"⟩
abbrev cX12_standsIn : ByteArray := prog_14_method_40_code
def mX12_standsIn : aM := (yX12_standsIn, cX12_standsIn, 3, (some .boolean), 1, 2, { frames := 3, cells := 0, slots := 0, locals := 75 })
theorem ok_X12_standsIn : okM mX12_standsIn := ⟨by decide, gt_6 118 rfl rfl, gt_1 15 rfl rfl, by decide, by decide, by decide +kernel⟩
def yX12_of : MethodName := ⟨RX12, "of", "(II)I"⟩
abbrev cX12_of : ByteArray := prog_14_method_41_code
def mX12_of : aM := (yX12_of, cX12_of, 6, (some .int), 1, 2, { frames := 5, cells := 0, slots := 0, locals := 127 })
theorem ok_X12_of : okM mX12_of := ⟨by decide, gt_6 89 rfl rfl, gt_1 15 rfl rfl, by decide, by decide, by decide +kernel⟩
def yX12_stands : MethodName := ⟨RX12, "stands", "(II)I"⟩
abbrev cX12_stands : ByteArray := prog_14_method_42_code
def mX12_stands : aM := (yX12_stands, cX12_stands, 3, (some .int), 1, 2, { frames := 4, cells := 0, slots := 0, locals := 97 })
theorem ok_X12_stands : okM mX12_stands := ⟨by decide, gt_6 122 rfl rfl, gt_1 15 rfl rfl, by decide, by decide, by decide +kernel⟩
def yX12_seenBy : MethodName := ⟨RX12, "seenBy", "(III)I"⟩
abbrev cX12_seenBy : ByteArray := prog_14_method_43_code
def mX12_seenBy : aM := (yX12_seenBy, cX12_seenBy, 4, (some .int), 1, 3, { frames := 4, cells := 0, slots := 0, locals := 102 })
theorem ok_X12_seenBy : okM mX12_seenBy := ⟨by decide, gt_6 130 rfl rfl, gt_1 15 rfl rfl, by decide, by decide, by decide +kernel⟩
def yX12_seen : MethodName := ⟨RX12, "seen", "(III)I"⟩
abbrev cX12_seen : ByteArray := prog_14_method_44_code
def mX12_seen : aM := (yX12_seen, cX12_seen, 4, (some .int), 1, 3, { frames := 5, cells := 0, slots := 0, locals := 125 })
theorem ok_X12_seen : okM mX12_seen := ⟨by decide, gt_6 126 rfl rfl, gt_1 15 rfl rfl, by decide, by decide, by decide +kernel⟩
def yX12_deals : MethodName := ⟨RX12, "deals", "()I"⟩
abbrev cX12_deals : ByteArray := prog_14_method_45_code
def mX12_deals : aM := (yX12_deals, cX12_deals, 1, (some .int), 1, 0, { frames := 0, cells := 0, slots := 0, locals := 0 })
theorem ok_X12_deals : okM mX12_deals := ⟨by decide, gt_6 102 rfl rfl, gt_1 15 rfl rfl, by decide, by decide, by decide +kernel⟩
def yX12_sent4 : MethodName := ⟨RX12, "sent4", "(II)I"⟩
abbrev cX12_sent4 : ByteArray := prog_14_method_46_code
def mX12_sent4 : aM := (yX12_sent4, cX12_sent4, 3, (some .int), 1, 2, { frames := 0, cells := 0, slots := 0, locals := 0 })
theorem ok_X12_sent4 : okM mX12_sent4 := ⟨by decide, gt_6 106 rfl rfl, gt_1 15 rfl rfl, by decide, by decide, by decide +kernel⟩
def yX12_deal : MethodName := ⟨RX12, "deal", "(IIII)I"⟩
abbrev cX12_deal : ByteArray := prog_14_method_47_code
def mX12_deal : aM := (yX12_deal, cX12_deal, 6, (some .int), 1, 4, { frames := 5, cells := 0, slots := 0, locals := 125 })
theorem ok_X12_deal : okM mX12_deal := ⟨by decide, gt_6 134 rfl rfl, gt_1 15 rfl rfl, by decide, by decide, by decide +kernel⟩
def yX12_rank : MethodName := ⟨RX12, "rank", "(I)I"⟩
abbrev cX12_rank : ByteArray := prog_14_method_48_code
def mX12_rank : aM := (yX12_rank, cX12_rank, 2, (some .int), 1, 1, { frames := 1, cells := 0, slots := 0, locals := 22 })
theorem ok_X12_rank : okM mX12_rank := ⟨by decide, gt_6 114 rfl rfl, gt_1 15 rfl rfl, by decide, by decide, by decide +kernel⟩
def yX12_isAhead : MethodName := ⟨RX12, "isAhead", "(II)Z"⟩
abbrev cX12_isAhead : ByteArray := prog_14_method_49_code
def mX12_isAhead : aM := (yX12_isAhead, cX12_isAhead, 3, (some .boolean), 1, 2, { frames := 2, cells := 0, slots := 0, locals := 43 })
theorem ok_X12_isAhead : okM mX12_isAhead := ⟨by decide, gt_6 110 rfl rfl, gt_1 15 rfl rfl, by decide, by decide, by decide +kernel⟩
def yX12_layStruck : MethodName := ⟨RX12, "layStruck", "()V"⟩
abbrev cX12_layStruck : ByteArray := prog_14_method_50_code
def mX12_layStruck : aM := (yX12_layStruck, cX12_layStruck, 6, none, 0, 0, { frames := 4, cells := 0, slots := 0, locals := 102 })
theorem ok_X12_layStruck : okM mX12_layStruck := ⟨by decide, gt_6 98 rfl rfl, gt_1 15 rfl rfl, by decide, by decide, by decide +kernel⟩
def yX12_isDeal : MethodName := ⟨RX12, "isDeal", "(I)Z"⟩
abbrev cX12_isDeal : ByteArray := prog_14_method_51_code
def mX12_isDeal : aM := (yX12_isDeal, cX12_isDeal, 2, (some .boolean), 1, 1, { frames := 1, cells := 0, slots := 0, locals := 25 })
theorem ok_X12_isDeal : okM mX12_isDeal := ⟨by decide, gt_6 142 rfl rfl, gt_1 15 rfl rfl, by decide, by decide, by decide +kernel⟩
def yX12_sent : MethodName := ⟨RX12, "sent", "(II)I"⟩
abbrev cX12_sent : ByteArray := prog_14_method_52_code
def mX12_sent : aM := (yX12_sent, cX12_sent, 3, (some .int), 1, 2, { frames := 5, cells := 0, slots := 0, locals := 127 })
theorem ok_X12_sent : okM mX12_sent := ⟨by decide, gt_6 138 rfl rfl, gt_1 15 rfl rfl, by decide, by decide, by decide +kernel⟩
def yX12_empty : MethodName := ⟨RX12, "empty", "(I)I"⟩
abbrev cX12_empty : ByteArray := prog_14_method_53_code
def mX12_empty : aM := (yX12_empty, cX12_empty, 6, (some .int), 1, 1, { frames := 5, cells := 0, slots := 0, locals := 127 })
theorem ok_X12_empty : okM mX12_empty := ⟨by decide, gt_6 147 rfl rfl, gt_1 15 rfl rfl, by decide, by decide, by decide +kernel⟩
def yX12_pays : MethodName := ⟨RX12, "pays", "(II)I"⟩
abbrev cX12_pays : ByteArray := prog_14_method_54_code
def mX12_pays : aM := (yX12_pays, cX12_pays, 6, (some .int), 1, 2, { frames := 1, cells := 0, slots := 0, locals := 22 })
theorem ok_X12_pays : okM mX12_pays := ⟨by decide, gt_6 159 rfl rfl, gt_1 15 rfl rfl, by decide, by decide, by decide +kernel⟩
def yX12_owed : MethodName := ⟨RX12, "owed", "(II)I"⟩
abbrev cX12_owed : ByteArray := prog_14_method_55_code
def mX12_owed : aM := (yX12_owed, cX12_owed, 5, (some .int), 1, 2, { frames := 2, cells := 0, slots := 0, locals := 47 })
theorem ok_X12_owed : okM mX12_owed := ⟨by decide, gt_6 155 rfl rfl, gt_1 15 rfl rfl, by decide, by decide, by decide +kernel⟩
def yX12_greatest : MethodName := ⟨RX12, "greatest", "(III)I"⟩
abbrev cX12_greatest : ByteArray := prog_14_method_56_code
def mX12_greatest : aM := (yX12_greatest, cX12_greatest, 9, (some .int), 1, 3, { frames := 2, cells := 0, slots := 0, locals := 47 })
theorem ok_X12_greatest : okM mX12_greatest := ⟨by decide, gt_6 163 rfl rfl, gt_1 15 rfl rfl, by decide, by decide, by decide +kernel⟩
def yX12_undo : MethodName := ⟨RX12, "undo", "(II)I"⟩
abbrev cX12_undo : ByteArray := prog_14_method_57_code
def mX12_undo : aM := (yX12_undo, cX12_undo, 8, (some .int), 1, 2, { frames := 5, cells := 0, slots := 0, locals := 127 })
theorem ok_X12_undo : okM mX12_undo := ⟨by decide, gt_6 151 rfl rfl, gt_1 15 rfl rfl, by decide, by decide, by decide +kernel⟩
def yX12_isOffer : MethodName := ⟨RX12, "isOffer", "(IIIZ)Z"⟩
abbrev cX12_isOffer : ByteArray := prog_14_method_58_code
def mX12_isOffer : aM := (yX12_isOffer, cX12_isOffer, 8, (some .boolean), 1, 4, { frames := 5, cells := 0, slots := 0, locals := 125 })
theorem ok_X12_isOffer : okM mX12_isOffer := ⟨by decide, gt_6 175 rfl rfl, gt_1 15 rfl rfl, by decide, by decide, by decide +kernel⟩
def yX12_bestOf : MethodName := ⟨RX12, "bestOf", "(I)I"⟩
abbrev cX12_bestOf : ByteArray := prog_14_method_59_code
def mX12_bestOf : aM := (yX12_bestOf, cX12_bestOf, 6, (some .int), 1, 1, { frames := 1, cells := 0, slots := 0, locals := 22 })
theorem ok_X12_bestOf : okM mX12_bestOf := ⟨by decide, gt_6 179 rfl rfl, gt_1 15 rfl rfl, by decide, by decide, by decide +kernel⟩
def yX12_layGain : MethodName := ⟨RX12, "layGain", "(IIZ)V"⟩
abbrev cX12_layGain : ByteArray := prog_14_method_60_code
def mX12_layGain : aM := (yX12_layGain, cX12_layGain, 8, none, 0, 3, { frames := 6, cells := 0, slots := 0, locals := 152 })
theorem ok_X12_layGain : okM mX12_layGain := ⟨by decide, gt_6 171 rfl rfl, gt_1 15 rfl rfl, by decide, by decide, by decide +kernel⟩
def yX12_gain : MethodName := ⟨RX12, "gain", "(IIZI)I"⟩
abbrev cX12_gain : ByteArray := prog_14_method_61_code
def mX12_gain : aM := (yX12_gain, cX12_gain, 5, (some .int), 1, 4, { frames := 7, cells := 0, slots := 0, locals := 179 })
theorem ok_X12_gain : okM mX12_gain := ⟨by decide, gt_6 167 rfl rfl, gt_1 15 rfl rfl, by decide, by decide, by decide +kernel⟩
def yX12_chance : MethodName := ⟨RX12, "chance", "(IIZ)I"⟩
abbrev cX12_chance : ByteArray := prog_14_method_62_code
def mX12_chance : aM := (yX12_chance, cX12_chance, 5, (some .int), 1, 3, { frames := 7, cells := 0, slots := 0, locals := 179 })
theorem ok_X12_chance : okM mX12_chance := ⟨by decide, gt_6 183 rfl rfl, gt_1 15 rfl rfl, by decide, by decide, by decide +kernel⟩
def yX12_atMost : MethodName := ⟨RX12, "atMost", "(II)I"⟩
abbrev cX12_atMost : ByteArray := prog_14_method_63_code
def mX12_atMost : aM := (yX12_atMost, cX12_atMost, 7, (some .int), 1, 2, { frames := 4, cells := 0, slots := 0, locals := 97 })
theorem ok_X12_atMost : okM mX12_atMost := ⟨by decide, gt_6 192 rfl rfl, gt_1 15 rfl rfl, by decide, by decide, by decide +kernel⟩
def yX12_owes : MethodName := ⟨RX12, "owes", "(IIII)I"⟩
abbrev cX12_owes : ByteArray := prog_14_method_64_code
def mX12_owes : aM := (yX12_owes, cX12_owes, 7, (some .int), 1, 4, { frames := 5, cells := 0, slots := 0, locals := 127 })
theorem ok_X12_owes : okM mX12_owes := ⟨by decide, gt_6 187 rfl rfl, gt_1 15 rfl rfl, by decide, by decide, by decide +kernel⟩
def yX12_over : MethodName := ⟨RX12, "over", "(I)I"⟩
abbrev cX12_over : ByteArray := prog_14_method_65_code
def mX12_over : aM := (yX12_over, cX12_over, 4, (some .int), 1, 1, { frames := 5, cells := 0, slots := 0, locals := 127 })
theorem ok_X12_over : okM mX12_over := ⟨by decide, gt_6 196 rfl rfl, gt_1 15 rfl rfl, by decide, by decide, by decide +kernel⟩
def yX12_peak : MethodName := ⟨RX12, "peak", "(II)I"⟩
abbrev cX12_peak : ByteArray := prog_14_method_66_code
def mX12_peak : aM := (yX12_peak, cX12_peak, 7, (some .int), 1, 2, { frames := 5, cells := 0, slots := 0, locals := 127 })
theorem ok_X12_peak : okM mX12_peak := ⟨by decide, gt_6 200 rfl rfl, gt_1 15 rfl rfl, by decide, by decide, by decide +kernel⟩
def yX12_waitOf : MethodName := ⟨RX12, "waitOf", "(II)I"⟩
abbrev cX12_waitOf : ByteArray := prog_14_method_67_code
def mX12_waitOf : aM := (yX12_waitOf, cX12_waitOf, 6, (some .int), 1, 2, { frames := 4, cells := 0, slots := 0, locals := 102 })
theorem ok_X12_waitOf : okM mX12_waitOf := ⟨by decide, gt_6 208 rfl rfl, gt_1 15 rfl rfl, by decide, by decide, by decide +kernel⟩
def yX12_waits : MethodName := ⟨RX12, "waits", "(II)I"⟩
abbrev cX12_waits : ByteArray := prog_14_method_68_code
def mX12_waits : aM := (yX12_waits, cX12_waits, 3, (some .int), 1, 2, { frames := 5, cells := 0, slots := 0, locals := 127 })
theorem ok_X12_waits : okM mX12_waits := ⟨by decide, gt_6 204 rfl rfl, gt_1 15 rfl rfl, by decide, by decide, by decide +kernel⟩
def yX12_book : MethodName := ⟨RX12, "book", "(II)I"⟩
abbrev cX12_book : ByteArray := prog_14_method_69_code
def mX12_book : aM := (yX12_book, cX12_book, 7, (some .int), 1, 2, { frames := 5, cells := 0, slots := 0, locals := 127 })
theorem ok_X12_book : okM mX12_book := ⟨by decide, gt_6 212 rfl rfl, gt_1 15 rfl rfl, by decide, by decide, by decide +kernel⟩
def yX12_enough : MethodName := ⟨RX12, "enough", "(III)I"⟩
abbrev cX12_enough : ByteArray := prog_14_method_70_code
def mX12_enough : aM := (yX12_enough, cX12_enough, 7, (some .int), 1, 3, { frames := 5, cells := 0, slots := 0, locals := 127 })
theorem ok_X12_enough : okM mX12_enough := ⟨by decide, gt_6 216 rfl rfl, gt_1 15 rfl rfl, by decide, by decide, by decide +kernel⟩
def yX12_layWalks : MethodName := ⟨RX12, "layWalks", "(I)V"⟩
abbrev cX12_layWalks : ByteArray := prog_14_method_71_code
def mX12_layWalks : aM := (yX12_layWalks, cX12_layWalks, 8, none, 0, 1, { frames := 0, cells := 0, slots := 0, locals := 0 })
theorem ok_X12_layWalks : okM mX12_layWalks := ⟨by decide, gt_6 227 rfl rfl, gt_1 15 rfl rfl, by decide, by decide, by decide +kernel⟩
def yX12_lowest : MethodName := ⟨RX12, "lowest", "(JJI)J"⟩
abbrev cX12_lowest : ByteArray := prog_14_method_72_code
def mX12_lowest : aM := (yX12_lowest, cX12_lowest, 11, (some .long), 2, 3, { frames := 0, cells := 0, slots := 0, locals := 0 })
theorem ok_X12_lowest : okM mX12_lowest := ⟨by decide, gt_6 230 rfl rfl, gt_1 15 rfl rfl, by decide, by decide, by decide +kernel⟩
def yX12_odds : MethodName := ⟨RX12, "odds", "(III)J"⟩
abbrev cX12_odds : ByteArray := prog_14_method_73_code
def mX12_odds : aM := (yX12_odds, cX12_odds, 4, (some .long), 2, 3, { frames := 1, cells := 0, slots := 0, locals := 30 })
theorem ok_X12_odds : okM mX12_odds := ⟨by decide, gt_6 220 rfl rfl, gt_1 15 rfl rfl, by decide, by decide, by decide +kernel⟩
def yX12_lossOf : MethodName := ⟨RX12, "lossOf", "(II)J"⟩
abbrev cX12_lossOf : ByteArray := prog_14_method_74_code
def mX12_lossOf : aM := (yX12_lossOf, cX12_lossOf, 7, (some .long), 2, 2, { frames := 1, cells := 0, slots := 0, locals := 27 })
theorem ok_X12_lossOf : okM mX12_lossOf := ⟨by decide, gt_6 238 rfl rfl, gt_1 15 rfl rfl, by decide, by decide, by decide +kernel⟩
def yX12_loss : MethodName := ⟨RX12, "loss", "(III)J"⟩
abbrev cX12_loss : ByteArray := prog_14_method_75_code
def mX12_loss : aM := (yX12_loss, cX12_loss, 6, (some .long), 2, 3, { frames := 2, cells := 0, slots := 0, locals := 53 })
theorem ok_X12_loss : okM mX12_loss := ⟨by decide, gt_6 234 rfl rfl, gt_1 15 rfl rfl, by decide, by decide, by decide +kernel⟩
def yX12_isNoMore : MethodName := ⟨RX12, "isNoMore", "(JJJJ)Z"⟩
abbrev cX12_isNoMore : ByteArray := prog_14_method_76_code
def mX12_isNoMore : aM := (yX12_isNoMore, cX12_isNoMore, 20, (some .boolean), 1, 4, { frames := 0, cells := 0, slots := 0, locals := 0 })
theorem ok_X12_isNoMore : okM mX12_isNoMore := ⟨by decide, gt_7 5 rfl rfl, gt_1 15 rfl rfl, by decide, by decide, by decide +kernel⟩
def yX12_wide : MethodName := ⟨RX12, "wide", "(III)I"⟩
abbrev cX12_wide : ByteArray := prog_14_method_77_code
def mX12_wide : aM := (yX12_wide, cX12_wide, 7, (some .int), 1, 3, { frames := 2, cells := 0, slots := 0, locals := 53 })
theorem ok_X12_wide : okM mX12_wide := ⟨by decide, gt_7 2 rfl rfl, gt_1 15 rfl rfl, by decide, by decide, by decide +kernel⟩
def yX12_near : MethodName := ⟨RX12, "near", "(IIII)J"⟩
abbrev cX12_near : ByteArray := prog_14_method_78_code
def mX12_near : aM := (yX12_near, cX12_near, 9, (some .long), 2, 4, { frames := 2, cells := 0, slots := 0, locals := 53 })
theorem ok_X12_near : okM mX12_near := ⟨by decide, gt_7 9 rfl rfl, gt_1 15 rfl rfl, by decide, by decide, by decide +kernel⟩
def yX12_keep : MethodName := ⟨RX12, "keep", "(I)I"⟩
abbrev cX12_keep : ByteArray := prog_14_method_79_code
def mX12_keep : aM := (yX12_keep, cX12_keep, 3, (some .int), 1, 1, { frames := 1, cells := 0, slots := 0, locals := 25 })
theorem ok_X12_keep : okM mX12_keep := ⟨by decide, gt_7 13 rfl rfl, gt_1 15 rfl rfl, by decide, by decide, by decide +kernel⟩
def yX12_back : MethodName := ⟨RX12, "back", "(I)I"⟩
abbrev cX12_back : ByteArray := prog_14_method_80_code
def mX12_back : aM := (yX12_back, cX12_back, 3, (some .int), 1, 1, { frames := 1, cells := 0, slots := 0, locals := 25 })
theorem ok_X12_back : okM mX12_back := ⟨by decide, gt_7 17 rfl rfl, gt_1 15 rfl rfl, by decide, by decide, by decide +kernel⟩
def yX12_sheet : MethodName := ⟨RX12, "sheet", "(III)I"⟩
abbrev cX12_sheet : ByteArray := prog_14_method_81_code
def mX12_sheet : aM := (yX12_sheet, cX12_sheet, 5, (some .int), 1, 3, { frames := 1, cells := 0, slots := 0, locals := 25 })
theorem ok_X12_sheet : okM mX12_sheet := ⟨by decide, gt_7 21 rfl rfl, gt_1 15 rfl rfl, by decide, by decide, by decide +kernel⟩
def yX12_lay : MethodName := ⟨RX12, "lay", "(III)I"⟩
abbrev cX12_lay : ByteArray := prog_14_method_82_code
def mX12_lay : aM := (yX12_lay, cX12_lay, 4, (some .int), 1, 3, { frames := 1, cells := 0, slots := 0, locals := 25 })
theorem ok_X12_lay : okM mX12_lay := ⟨by decide, gt_7 25 rfl rfl, gt_1 15 rfl rfl, by decide, by decide, by decide +kernel⟩
def yX12_read : MethodName := ⟨RX12, "read", "(IIII)I"⟩
abbrev cX12_read : ByteArray := prog_14_method_83_code
def mX12_read : aM := (yX12_read, cX12_read, 9, (some .int), 1, 4, { frames := 2, cells := 0, slots := 0, locals := 46 })
theorem ok_X12_read : okM mX12_read := ⟨by decide, gt_7 29 rfl rfl, gt_1 15 rfl rfl, by decide, by decide, by decide +kernel⟩
def yX12_torn : MethodName := ⟨RX12, "torn", "()I"⟩
abbrev cX12_torn : ByteArray := prog_14_method_84_code
def mX12_torn : aM := (yX12_torn, cX12_torn, 1, (some .int), 1, 0, { frames := 0, cells := 0, slots := 0, locals := 0 })
theorem ok_X12_torn : okM mX12_torn := ⟨by decide, gt_7 34 rfl rfl, gt_1 15 rfl rfl, by decide, by decide, by decide +kernel⟩
def yX12_count : MethodName := ⟨RX12, "count", "(I)I"⟩
abbrev cX12_count : ByteArray := prog_14_method_85_code
def mX12_count : aM := (yX12_count, cX12_count, 2, (some .int), 1, 1, { frames := 0, cells := 0, slots := 0, locals := 0 })
theorem ok_X12_count : okM mX12_count := ⟨by decide, gt_7 38 rfl rfl, gt_1 15 rfl rfl, by decide, by decide, by decide +kernel⟩
def yJ0_length_8abf5 : MethodName := ⟨"java/lang/String", "length", "()I"⟩
abbrev cJ0_length_8abf5 : ByteArray := prog_16_method_54_code
def mJ0_length_8abf5 : aM := (yJ0_length_8abf5, cJ0_length_8abf5, 1, (some .int), 1, 0, { frames := 1, cells := 0, slots := 0, locals := 20 })
theorem ok_J0_length_8abf5 : okM mJ0_length_8abf5 := ⟨by decide, gt_2 228 rfl rfl, gt_1 16 rfl rfl, by decide, by decide, by decide +kernel⟩
def yJ0_charAt_5068e : MethodName := ⟨"java/lang/String", "charAt", "(I)C"⟩
abbrev cJ0_charAt_5068e : ByteArray := prog_16_method_56_code
def mJ0_charAt_5068e : aM := (yJ0_charAt_5068e, cJ0_charAt_5068e, 2, (some .char), 1, 1, { frames := 4, cells := 0, slots := 0, locals := 85 })
theorem ok_J0_charAt_5068e : okM mJ0_charAt_5068e := ⟨by decide, gt_2 238 rfl rfl, gt_1 16 rfl rfl, by decide, by decide, by decide +kernel⟩
def yJ0_coder_7d493 : MethodName := ⟨"java/lang/String", "coder", "()B"⟩
abbrev cJ0_coder_7d493 : ByteArray := prog_16_method_152_code
def mJ0_coder_7d493 : aM := (yJ0_coder_7d493, cJ0_coder_7d493, 1, (some .byte), 1, 0, { frames := 0, cells := 0, slots := 0, locals := 0 })
theorem ok_J0_coder_7d493 : okM mJ0_coder_7d493 := ⟨by decide, gt_2 232 rfl rfl, gt_1 16 rfl rfl, by decide, by decide, by decide +kernel⟩
def yJ0_isLatin1_aae02 : MethodName := ⟨"java/lang/String", "isLatin1", "()Z"⟩
abbrev cJ0_isLatin1_aae02 : ByteArray := prog_16_method_154_code
def mJ0_isLatin1_aae02 : aM := (yJ0_isLatin1_aae02, cJ0_isLatin1_aae02, 1, (some .boolean), 1, 0, { frames := 0, cells := 0, slots := 0, locals := 0 })
theorem ok_J0_isLatin1_aae02 : okM mJ0_isLatin1_aae02 := ⟨by decide, gt_3 2 rfl rfl, gt_1 16 rfl rfl, by decide, by decide, by decide +kernel⟩
def yJ0_checkIndex_df160 : MethodName := ⟨"java/lang/String", "checkIndex", "(II)V"⟩
abbrev cJ0_checkIndex_df160 : ByteArray := prog_16_method_155_code
def mJ0_checkIndex_df160 : aM := (yJ0_checkIndex_df160, cJ0_checkIndex_df160, 2, none, 0, 2, { frames := 1, cells := 0, slots := 0, locals := 22 })
theorem ok_J0_checkIndex_df160 : okM mJ0_checkIndex_df160 := ⟨by decide, gt_3 8 rfl rfl, gt_1 16 rfl rfl, by decide, by decide, by decide +kernel⟩
def yJ1_charAt_3b067 : MethodName := ⟨"java/lang/StringLatin1", "charAt", "([BI)C"⟩
abbrev cJ1_charAt_3b067 : ByteArray := prog_17_method_2_code
def mJ1_charAt_3b067 : aM := (yJ1_charAt_3b067, cJ1_charAt_3b067, 2, (some .char), 1, 2, { frames := 2, cells := 0, slots := 0, locals := 43 })
theorem ok_J1_charAt_3b067 : okM mJ1_charAt_3b067 := ⟨by decide, gt_3 5 rfl rfl, gt_1 17 rfl rfl, by decide, by decide, by decide +kernel⟩
def yJ7_fill_d0a16 : MethodName := ⟨"java/util/Arrays", "fill", "([JJ)V"⟩
abbrev cJ7_fill_d0a16 : ByteArray := prog_20_method_101_code
def mJ7_fill_d0a16 : aM := (yJ7_fill_d0a16, cJ7_fill_d0a16, 5, none, 0, 2, { frames := 0, cells := 0, slots := 0, locals := 0 })
theorem ok_J7_fill_d0a16 : okM mJ7_fill_d0a16 := ⟨by decide, gt_4 185 rfl rfl, gt_1 4 rfl rfl, by decide, by decide, by decide +kernel⟩
def yJ7_fill_53178 : MethodName := ⟨"java/util/Arrays", "fill", "([II)V"⟩
abbrev cJ7_fill_53178 : ByteArray := prog_20_method_103_code
def mJ7_fill_53178 : aM := (yJ7_fill_53178, cJ7_fill_53178, 4, none, 0, 2, { frames := 0, cells := 0, slots := 0, locals := 0 })
theorem ok_J7_fill_53178 : okM mJ7_fill_53178 := ⟨by decide, gt_1 72 rfl rfl, gt_1 4 rfl rfl, by decide, by decide, by decide +kernel⟩
def yJ3_checkIndex_8e157 : MethodName := ⟨"jdk/internal/util/Preconditions", "checkIndex", "(IILjava/util/function/BiFunction;)I"⟩
abbrev cJ3_checkIndex_8e157 : ByteArray := prog_21_method_11_code
def mJ3_checkIndex_8e157 : aM := (yJ3_checkIndex_8e157, cJ3_checkIndex_8e157, 3, (some .int), 1, 3, { frames := 0, cells := 0, slots := 0, locals := 0 })
theorem ok_J3_checkIndex_8e157 : okM mJ3_checkIndex_8e157 := ⟨by decide, gt_3 13 rfl rfl, gt_1 18 rfl rfl, by decide, by decide, by decide +kernel⟩
def yL_law : MethodName := x
abbrev cL_law : ByteArray := code
def mL_law : aM := (x, code, 4, ret, 1, 1, room_1)
theorem fl_X0_25 : FL RX0 25 1 2 := ⟨_, rfl, by decide, gt_1 221 rfl rfl⟩
theorem fl_X0_31 : FL RX0 31 0 1 := ⟨_, rfl, by decide, gt_2 53 rfl rfl⟩
theorem fl_X0_32 : FL RX0 32 5 3 := ⟨_, rfl, by decide, gt_1 206 rfl rfl⟩
theorem fl_X0_9 : FL RX0 9 0 2 := ⟨_, rfl, by decide, gt_2 54 rfl rfl⟩
theorem fl_X0_15 : FL RX0 15 0 3 := ⟨_, rfl, by decide, gt_2 55 rfl rfl⟩
theorem fl_X0_21 : FL RX0 21 0 0 := ⟨_, rfl, by decide, gt_2 52 rfl rfl⟩
theorem fl_X0_18 : FL RX0 18 0 4 := ⟨_, rfl, by decide, gt_2 56 rfl rfl⟩
theorem fl_X0_63 : FL RX0 63 0 6 := ⟨_, rfl, by decide, gt_2 59 rfl rfl⟩
theorem fl_X0_60 : FL RX0 60 0 5 := ⟨_, rfl, by decide, gt_2 57 rfl rfl⟩
theorem fl_X1_14 : FL RX1 14 1 1 := ⟨_, rfl, by decide, gt_1 218 rfl rfl⟩
theorem fl_X1_20 : FL RX1 20 1 2 := ⟨_, rfl, by decide, gt_1 220 rfl rfl⟩
theorem fl_X1_23 : FL RX1 23 1 3 := ⟨_, rfl, by decide, gt_1 224 rfl rfl⟩
theorem fl_X1_26 : FL RX1 26 1 0 := ⟨_, rfl, by decide, gt_1 217 rfl rfl⟩
theorem fl_X1_38 : FL RX1 38 3 0 := ⟨_, rfl, by decide, gt_1 74 rfl rfl⟩
theorem fl_X1_30 : FL RX1 30 5 3 := ⟨_, rfl, by decide, gt_1 203 rfl rfl⟩
theorem fl_X2_9 : FL RX2 9 2 1 := ⟨_, rfl, by decide, gt_1 173 rfl rfl⟩
theorem fl_X2_18 : FL RX2 18 2 0 := ⟨_, rfl, by decide, gt_1 172 rfl rfl⟩
theorem fl_X2_28 : FL RX2 28 3 6 := ⟨_, rfl, by decide, gt_1 94 rfl rfl⟩
theorem fl_X2_46 : FL RX2 46 3 1 := ⟨_, rfl, by decide, gt_1 77 rfl rfl⟩
theorem fl_X2_15 : FL RX2 15 2 2 := ⟨_, rfl, by decide, gt_1 175 rfl rfl⟩
theorem fl_X3_15 : FL RX3 15 3 1 := ⟨_, rfl, by decide, gt_1 76 rfl rfl⟩
theorem fl_X3_27 : FL RX3 27 3 5 := ⟨_, rfl, by decide, gt_1 88 rfl rfl⟩
theorem fl_X3_9 : FL RX3 9 3 0 := ⟨_, rfl, by decide, gt_1 73 rfl rfl⟩
theorem fl_X3_18 : FL RX3 18 3 2 := ⟨_, rfl, by decide, gt_1 80 rfl rfl⟩
theorem fl_X3_21 : FL RX3 21 3 3 := ⟨_, rfl, by decide, gt_1 83 rfl rfl⟩
theorem fl_X3_24 : FL RX3 24 3 4 := ⟨_, rfl, by decide, gt_1 86 rfl rfl⟩
theorem fl_X3_39 : FL RX3 39 3 6 := ⟨_, rfl, by decide, gt_1 93 rfl rfl⟩
theorem fl_X3_43 : FL RX3 43 3 7 := ⟨_, rfl, by decide, gt_1 97 rfl rfl⟩
theorem fl_X3_46 : FL RX3 46 3 8 := ⟨_, rfl, by decide, gt_1 100 rfl rfl⟩
theorem fl_X3_49 : FL RX3 49 3 9 := ⟨_, rfl, by decide, gt_1 104 rfl rfl⟩
theorem fl_X3_52 : FL RX3 52 3 10 := ⟨_, rfl, by decide, gt_1 108 rfl rfl⟩
theorem fl_X4_15 : FL RX4 15 4 1 := ⟨_, rfl, by decide, gt_1 143 rfl rfl⟩
theorem fl_X4_9 : FL RX4 9 4 0 := ⟨_, rfl, by decide, gt_1 142 rfl rfl⟩
theorem fl_X4_49 : FL RX4 49 8 3 := ⟨_, rfl, by decide, gt_1 40 rfl rfl⟩
theorem fl_X4_60 : FL RX4 60 8 4 := ⟨_, rfl, by decide, gt_1 42 rfl rfl⟩
theorem fl_X4_66 : FL RX4 66 8 5 := ⟨_, rfl, by decide, gt_1 44 rfl rfl⟩
theorem fl_X4_103 : FL RX4 103 3 6 := ⟨_, rfl, by decide, gt_1 96 rfl rfl⟩
theorem fl_X4_110 : FL RX4 110 3 0 := ⟨_, rfl, by decide, gt_1 75 rfl rfl⟩
theorem fl_X4_118 : FL RX4 118 3 1 := ⟨_, rfl, by decide, gt_1 79 rfl rfl⟩
theorem fl_X4_121 : FL RX4 121 3 7 := ⟨_, rfl, by decide, gt_1 99 rfl rfl⟩
theorem fl_X4_124 : FL RX4 124 3 8 := ⟨_, rfl, by decide, gt_1 103 rfl rfl⟩
theorem fl_X4_127 : FL RX4 127 3 2 := ⟨_, rfl, by decide, gt_1 82 rfl rfl⟩
theorem fl_X4_130 : FL RX4 130 3 3 := ⟨_, rfl, by decide, gt_1 85 rfl rfl⟩
theorem fl_X4_133 : FL RX4 133 3 4 := ⟨_, rfl, by decide, gt_1 87 rfl rfl⟩
theorem fl_X4_36 : FL RX4 36 4 4 := ⟨_, rfl, by decide, gt_1 148 rfl rfl⟩
theorem fl_X4_136 : FL RX4 136 3 5 := ⟨_, rfl, by decide, gt_1 91 rfl rfl⟩
theorem fl_X4_40 : FL RX4 40 4 5 := ⟨_, rfl, by decide, gt_1 149 rfl rfl⟩
theorem fl_X4_43 : FL RX4 43 4 6 := ⟨_, rfl, by decide, gt_1 150 rfl rfl⟩
theorem fl_X5_13 : FL RX5 13 5 0 := ⟨_, rfl, by decide, gt_1 200 rfl rfl⟩
theorem fl_X5_19 : FL RX5 19 5 1 := ⟨_, rfl, by decide, gt_1 201 rfl rfl⟩
theorem fl_X5_26 : FL RX5 26 5 3 := ⟨_, rfl, by decide, gt_1 204 rfl rfl⟩
theorem fl_X5_22 : FL RX5 22 5 2 := ⟨_, rfl, by decide, gt_1 202 rfl rfl⟩
theorem fl_X6_15 : FL RX6 15 6 1 := ⟨_, rfl, by decide, gt_2 119 rfl rfl⟩
theorem fl_X6_9 : FL RX6 9 6 0 := ⟨_, rfl, by decide, gt_2 118 rfl rfl⟩
theorem fl_X6_28 : FL RX6 28 6 2 := ⟨_, rfl, by decide, gt_2 120 rfl rfl⟩
theorem fl_X7_42 : FL RX7 42 1 2 := ⟨_, rfl, by decide, gt_1 222 rfl rfl⟩
theorem fl_X7_49 : FL RX7 49 1 3 := ⟨_, rfl, by decide, gt_1 225 rfl rfl⟩
theorem fl_X7_48 : FL RX7 48 7 2 := ⟨_, rfl, by decide, gt_2 8 rfl rfl⟩
theorem fl_X7_53 : FL RX7 53 5 3 := ⟨_, rfl, by decide, gt_1 205 rfl rfl⟩
theorem fl_X7_21 : FL RX7 21 7 8 := ⟨_, rfl, by decide, gt_2 15 rfl rfl⟩
theorem fl_X7_24 : FL RX7 24 7 9 := ⟨_, rfl, by decide, gt_2 17 rfl rfl⟩
theorem fl_X7_38 : FL RX7 38 7 4 := ⟨_, rfl, by decide, gt_2 10 rfl rfl⟩
theorem fl_X7_27 : FL RX7 27 7 10 := ⟨_, rfl, by decide, gt_2 18 rfl rfl⟩
theorem fl_X7_52 : FL RX7 52 7 3 := ⟨_, rfl, by decide, gt_2 9 rfl rfl⟩
theorem fl_X7_9 : FL RX7 9 7 5 := ⟨_, rfl, by decide, gt_2 11 rfl rfl⟩
theorem fl_X7_30 : FL RX7 30 7 0 := ⟨_, rfl, by decide, gt_2 6 rfl rfl⟩
theorem fl_X7_78 : FL RX7 78 3 9 := ⟨_, rfl, by decide, gt_1 105 rfl rfl⟩
theorem fl_X7_15 : FL RX7 15 7 6 := ⟨_, rfl, by decide, gt_2 12 rfl rfl⟩
theorem fl_X7_34 : FL RX7 34 7 1 := ⟨_, rfl, by decide, gt_2 7 rfl rfl⟩
theorem fl_X7_18 : FL RX7 18 7 7 := ⟨_, rfl, by decide, gt_2 14 rfl rfl⟩
theorem fl_X7_109 : FL RX7 109 3 10 := ⟨_, rfl, by decide, gt_1 111 rfl rfl⟩
theorem fl_X7_112 : FL RX7 112 7 11 := ⟨_, rfl, by decide, gt_2 20 rfl rfl⟩
theorem fl_X8_15 : FL RX8 15 8 1 := ⟨_, rfl, by decide, gt_1 36 rfl rfl⟩
theorem fl_X8_9 : FL RX8 9 8 0 := ⟨_, rfl, by decide, gt_1 35 rfl rfl⟩
theorem fl_X8_19 : FL RX8 19 8 2 := ⟨_, rfl, by decide, gt_1 39 rfl rfl⟩
theorem fl_X8_26 : FL RX8 26 8 4 := ⟨_, rfl, by decide, gt_1 43 rfl rfl⟩
theorem fl_X8_33 : FL RX8 33 8 3 := ⟨_, rfl, by decide, gt_1 41 rfl rfl⟩
theorem fl_X8_36 : FL RX8 36 8 5 := ⟨_, rfl, by decide, gt_1 45 rfl rfl⟩
theorem fl_X9_9 : FL RX9 9 9 2 := ⟨_, rfl, by decide, gt_2 84 rfl rfl⟩
theorem fl_X9_15 : FL RX9 15 9 0 := ⟨_, rfl, by decide, gt_2 82 rfl rfl⟩
theorem fl_X9_29 : FL RX9 29 3 6 := ⟨_, rfl, by decide, gt_1 92 rfl rfl⟩
theorem fl_X9_19 : FL RX9 19 9 1 := ⟨_, rfl, by decide, gt_2 83 rfl rfl⟩
theorem fl_X9_41 : FL RX9 41 2 1 := ⟨_, rfl, by decide, gt_1 174 rfl rfl⟩
theorem fl_X9_54 : FL RX9 54 3 8 := ⟨_, rfl, by decide, gt_1 101 rfl rfl⟩
theorem fl_X9_57 : FL RX9 57 3 2 := ⟨_, rfl, by decide, gt_1 81 rfl rfl⟩
theorem fl_X9_64 : FL RX9 64 3 3 := ⟨_, rfl, by decide, gt_1 84 rfl rfl⟩
theorem fl_X9_70 : FL RX9 70 2 2 := ⟨_, rfl, by decide, gt_1 176 rfl rfl⟩
theorem fl_X10_11 : FL RX10 11 10 1 := ⟨_, rfl, by decide, gt_2 100 rfl rfl⟩
theorem fl_X10_15 : FL RX10 15 10 2 := ⟨_, rfl, by decide, gt_2 102 rfl rfl⟩
theorem fl_X10_18 : FL RX10 18 10 0 := ⟨_, rfl, by decide, gt_2 99 rfl rfl⟩
theorem fl_X10_34 : FL RX10 34 3 5 := ⟨_, rfl, by decide, gt_1 89 rfl rfl⟩
theorem fl_X11_10 : FL RX11 10 11 0 := ⟨_, rfl, by decide, gt_2 129 rfl rfl⟩
theorem fl_X11_23 : FL RX11 23 11 2 := ⟨_, rfl, by decide, gt_2 131 rfl rfl⟩
theorem fl_X11_19 : FL RX11 19 11 1 := ⟨_, rfl, by decide, gt_2 130 rfl rfl⟩
theorem fl_X11_40 : FL RX11 40 11 4 := ⟨_, rfl, by decide, gt_2 133 rfl rfl⟩
theorem fl_X11_47 : FL RX11 47 11 5 := ⟨_, rfl, by decide, gt_2 134 rfl rfl⟩
theorem fl_X11_51 : FL RX11 51 11 6 := ⟨_, rfl, by decide, gt_2 135 rfl rfl⟩
theorem fl_X11_91 : FL RX11 91 11 11 := ⟨_, rfl, by decide, gt_2 140 rfl rfl⟩
theorem fl_X11_100 : FL RX11 100 8 1 := ⟨_, rfl, by decide, gt_1 37 rfl rfl⟩
theorem fl_X11_31 : FL RX11 31 11 3 := ⟨_, rfl, by decide, gt_2 132 rfl rfl⟩
theorem fl_X11_112 : FL RX11 112 4 2 := ⟨_, rfl, by decide, gt_1 145 rfl rfl⟩
theorem fl_X11_115 : FL RX11 115 11 12 := ⟨_, rfl, by decide, gt_2 141 rfl rfl⟩
theorem fl_X11_116 : FL RX11 116 4 3 := ⟨_, rfl, by decide, gt_1 147 rfl rfl⟩
theorem fl_X11_129 : FL RX11 129 3 6 := ⟨_, rfl, by decide, gt_1 95 rfl rfl⟩
theorem fl_X11_132 : FL RX11 132 3 7 := ⟨_, rfl, by decide, gt_1 98 rfl rfl⟩
theorem fl_X11_135 : FL RX11 135 3 8 := ⟨_, rfl, by decide, gt_1 102 rfl rfl⟩
theorem fl_X11_138 : FL RX11 138 3 5 := ⟨_, rfl, by decide, gt_1 90 rfl rfl⟩
theorem fl_X11_142 : FL RX11 142 3 9 := ⟨_, rfl, by decide, gt_1 106 rfl rfl⟩
theorem fl_X11_145 : FL RX11 145 3 10 := ⟨_, rfl, by decide, gt_1 109 rfl rfl⟩
theorem fl_X11_152 : FL RX11 152 3 1 := ⟨_, rfl, by decide, gt_1 78 rfl rfl⟩
theorem fl_X11_176 : FL RX11 176 1 1 := ⟨_, rfl, by decide, gt_1 219 rfl rfl⟩
theorem fl_X11_189 : FL RX11 189 5 3 := ⟨_, rfl, by decide, gt_1 207 rfl rfl⟩
theorem fl_X11_200 : FL RX11 200 2 2 := ⟨_, rfl, by decide, gt_1 177 rfl rfl⟩
theorem fl_X11_203 : FL RX11 203 1 2 := ⟨_, rfl, by decide, gt_1 223 rfl rfl⟩
theorem fl_X11_60 : FL RX11 60 11 7 := ⟨_, rfl, by decide, gt_2 136 rfl rfl⟩
theorem fl_X11_218 : FL RX11 218 7 8 := ⟨_, rfl, by decide, gt_2 16 rfl rfl⟩
theorem fl_X11_221 : FL RX11 221 7 10 := ⟨_, rfl, by decide, gt_2 19 rfl rfl⟩
theorem fl_X11_228 : FL RX11 228 1 3 := ⟨_, rfl, by decide, gt_1 226 rfl rfl⟩
theorem fl_X11_234 : FL RX11 234 7 6 := ⟨_, rfl, by decide, gt_2 13 rfl rfl⟩
theorem fl_X11_69 : FL RX11 69 11 8 := ⟨_, rfl, by decide, gt_2 137 rfl rfl⟩
theorem fl_X11_256 : FL RX11 256 0 5 := ⟨_, rfl, by decide, gt_2 58 rfl rfl⟩
theorem fl_X11_259 : FL RX11 259 0 6 := ⟨_, rfl, by decide, gt_2 60 rfl rfl⟩
theorem fl_X11_78 : FL RX11 78 11 9 := ⟨_, rfl, by decide, gt_2 138 rfl rfl⟩
theorem fl_X11_281 : FL RX11 281 9 2 := ⟨_, rfl, by decide, gt_2 85 rfl rfl⟩
theorem fl_X11_85 : FL RX11 85 11 10 := ⟨_, rfl, by decide, gt_2 139 rfl rfl⟩
theorem fl_X11_295 : FL RX11 295 10 1 := ⟨_, rfl, by decide, gt_2 101 rfl rfl⟩
theorem fl_X11_125 : FL RX11 125 1 4 := ⟨_, rfl, by decide, gt_1 227 rfl rfl⟩
theorem fl_X11_340 : FL RX11 340 11 13 := ⟨_, rfl, by decide, gt_2 142 rfl rfl⟩
theorem fl_X11_343 : FL RX11 343 6 2 := ⟨_, rfl, by decide, gt_2 121 rfl rfl⟩
theorem fl_X12_87 : FL RX12 87 12 1 := ⟨_, rfl, by decide, gt_5 60 rfl rfl⟩
theorem fl_X12_7 : FL RX12 7 12 0 := ⟨_, rfl, by decide, gt_5 59 rfl rfl⟩
theorem fl_X12_95 : FL RX12 95 12 3 := ⟨_, rfl, by decide, gt_5 62 rfl rfl⟩
theorem fl_X12_98 : FL RX12 98 12 6 := ⟨_, rfl, by decide, gt_5 65 rfl rfl⟩
theorem fl_X12_104 : FL RX12 104 12 7 := ⟨_, rfl, by decide, gt_5 66 rfl rfl⟩
theorem fl_X12_107 : FL RX12 107 12 5 := ⟨_, rfl, by decide, gt_5 64 rfl rfl⟩
theorem fl_X12_13 : FL RX12 13 12 9 := ⟨_, rfl, by decide, gt_5 68 rfl rfl⟩
theorem fl_X12_16 : FL RX12 16 12 10 := ⟨_, rfl, by decide, gt_5 69 rfl rfl⟩
theorem fl_X12_114 : FL RX12 114 12 8 := ⟨_, rfl, by decide, gt_5 67 rfl rfl⟩
theorem fl_X12_34 : FL RX12 34 12 16 := ⟨_, rfl, by decide, gt_5 75 rfl rfl⟩
theorem fl_X12_40 : FL RX12 40 12 18 := ⟨_, rfl, by decide, gt_5 77 rfl rfl⟩
theorem fl_X12_43 : FL RX12 43 12 19 := ⟨_, rfl, by decide, gt_5 78 rfl rfl⟩
theorem fl_X12_139 : FL RX12 139 12 20 := ⟨_, rfl, by decide, gt_5 79 rfl rfl⟩
theorem fl_X12_37 : FL RX12 37 12 17 := ⟨_, rfl, by decide, gt_5 76 rfl rfl⟩
theorem fl_X12_19 : FL RX12 19 12 11 := ⟨_, rfl, by decide, gt_5 70 rfl rfl⟩
theorem fl_X12_101 : FL RX12 101 12 4 := ⟨_, rfl, by decide, gt_5 63 rfl rfl⟩
theorem fl_X12_22 : FL RX12 22 12 12 := ⟨_, rfl, by decide, gt_5 71 rfl rfl⟩
theorem fl_X12_25 : FL RX12 25 12 13 := ⟨_, rfl, by decide, gt_5 72 rfl rfl⟩
theorem fl_X12_28 : FL RX12 28 12 14 := ⟨_, rfl, by decide, gt_5 73 rfl rfl⟩
theorem fl_X12_31 : FL RX12 31 12 15 := ⟨_, rfl, by decide, gt_5 74 rfl rfl⟩
theorem fl_X12_49 : FL RX12 49 12 22 := ⟨_, rfl, by decide, gt_5 81 rfl rfl⟩
theorem fl_X12_75 : FL RX12 75 12 33 := ⟨_, rfl, by decide, gt_5 92 rfl rfl⟩
theorem fl_X12_160 : FL RX12 160 12 2 := ⟨_, rfl, by decide, gt_5 61 rfl rfl⟩
theorem fl_X12_46 : FL RX12 46 12 21 := ⟨_, rfl, by decide, gt_5 80 rfl rfl⟩
theorem fl_X12_55 : FL RX12 55 12 24 := ⟨_, rfl, by decide, gt_5 83 rfl rfl⟩
theorem fl_X12_52 : FL RX12 52 12 23 := ⟨_, rfl, by decide, gt_5 82 rfl rfl⟩
theorem fl_X12_58 : FL RX12 58 12 25 := ⟨_, rfl, by decide, gt_5 84 rfl rfl⟩
theorem fl_X12_62 : FL RX12 62 12 26 := ⟨_, rfl, by decide, gt_5 85 rfl rfl⟩
theorem fl_X12_65 : FL RX12 65 12 27 := ⟨_, rfl, by decide, gt_5 86 rfl rfl⟩
theorem fl_X12_258 : FL RX12 258 12 28 := ⟨_, rfl, by decide, gt_5 87 rfl rfl⟩
theorem fl_X12_261 : FL RX12 261 12 29 := ⟨_, rfl, by decide, gt_5 88 rfl rfl⟩
theorem fl_X12_68 : FL RX12 68 12 30 := ⟨_, rfl, by decide, gt_5 89 rfl rfl⟩
theorem fl_X12_72 : FL RX12 72 12 31 := ⟨_, rfl, by decide, gt_5 90 rfl rfl⟩
theorem fl_X12_278 : FL RX12 278 12 32 := ⟨_, rfl, by decide, gt_5 91 rfl rfl⟩
theorem fl_X12_78 : FL RX12 78 12 34 := ⟨_, rfl, by decide, gt_5 93 rfl rfl⟩
theorem fl_X12_81 : FL RX12 81 12 35 := ⟨_, rfl, by decide, gt_5 94 rfl rfl⟩
theorem fl_X12_84 : FL RX12 84 12 36 := ⟨_, rfl, by decide, gt_5 95 rfl rfl⟩
theorem fl_X12_305 : FL RX12 305 12 37 := ⟨_, rfl, by decide, gt_5 96 rfl rfl⟩
theorem ff_X0_9 : FF RX0 9 0 2 (.array .int) := ⟨_, rfl, by decide, gt_2 54 rfl rfl, rfl, by decide +kernel, rfl⟩
theorem ff_X0_15 : FF RX0 15 0 3 (.array .int) := ⟨_, rfl, by decide, gt_2 55 rfl rfl, rfl, by decide +kernel, rfl⟩
theorem ff_X0_18 : FF RX0 18 0 4 (.array .int) := ⟨_, rfl, by decide, gt_2 56 rfl rfl, rfl, by decide +kernel, rfl⟩
theorem ff_X0_21 : FF RX0 21 0 0 (.object "LatePrices$News") := ⟨_, rfl, by decide, gt_2 52 rfl rfl, rfl, by decide +kernel, rfl⟩
theorem ff_X0_31 : FF RX0 31 0 1 (.object "LatePrices$Rows") := ⟨_, rfl, by decide, gt_2 53 rfl rfl, rfl, by decide +kernel, rfl⟩
theorem fp_X0_60 : FP RX0 60 0 5 .int := ⟨_, rfl, by decide, gt_2 57 rfl rfl, rfl, by decide +kernel, trivial⟩
theorem fp_X0_63 : FP RX0 63 0 6 .int := ⟨_, rfl, by decide, gt_2 59 rfl rfl, rfl, by decide +kernel, trivial⟩
theorem ff_X1_14 : FF RX1 14 1 1 (.object "LatePrices$Rows") := ⟨_, rfl, by decide, gt_1 218 rfl rfl, rfl, by decide +kernel, rfl⟩
theorem ff_X1_20 : FF RX1 20 1 2 (.object "LatePrices$Rows") := ⟨_, rfl, by decide, gt_1 220 rfl rfl, rfl, by decide +kernel, rfl⟩
theorem ff_X1_23 : FF RX1 23 1 3 (.object "LatePrices$Rows") := ⟨_, rfl, by decide, gt_1 224 rfl rfl, rfl, by decide +kernel, rfl⟩
theorem ff_X1_26 : FF RX1 26 1 0 (.object "LatePrices$Plan") := ⟨_, rfl, by decide, gt_1 217 rfl rfl, rfl, by decide +kernel, rfl⟩
theorem fp_X1_30 : FP RX1 30 5 3 .int := ⟨_, rfl, by decide, gt_1 203 rfl rfl, rfl, by decide +kernel, trivial⟩
theorem ff_X2_9 : FF RX2 9 2 1 (.array .int) := ⟨_, rfl, by decide, gt_1 173 rfl rfl, rfl, by decide +kernel, rfl⟩
theorem ff_X2_15 : FF RX2 15 2 2 (.array .int) := ⟨_, rfl, by decide, gt_1 175 rfl rfl, rfl, by decide +kernel, rfl⟩
theorem ff_X2_18 : FF RX2 18 2 0 (.object "LatePrices$Plan") := ⟨_, rfl, by decide, gt_1 172 rfl rfl, rfl, by decide +kernel, rfl⟩
theorem ff_X3_9 : FF RX3 9 3 0 (.array .int) := ⟨_, rfl, by decide, gt_1 73 rfl rfl, rfl, by decide +kernel, rfl⟩
theorem ff_X3_15 : FF RX3 15 3 1 (.array .int) := ⟨_, rfl, by decide, gt_1 76 rfl rfl, rfl, by decide +kernel, rfl⟩
theorem ff_X3_18 : FF RX3 18 3 2 (.array .int) := ⟨_, rfl, by decide, gt_1 80 rfl rfl, rfl, by decide +kernel, rfl⟩
theorem ff_X3_21 : FF RX3 21 3 3 (.array .int) := ⟨_, rfl, by decide, gt_1 83 rfl rfl, rfl, by decide +kernel, rfl⟩
theorem ff_X3_24 : FF RX3 24 3 4 (.array .int) := ⟨_, rfl, by decide, gt_1 86 rfl rfl, rfl, by decide +kernel, rfl⟩
theorem ff_X3_27 : FF RX3 27 3 5 (.array .int) := ⟨_, rfl, by decide, gt_1 88 rfl rfl, rfl, by decide +kernel, rfl⟩
theorem fp_X3_39 : FP RX3 39 3 6 .int := ⟨_, rfl, by decide, gt_1 93 rfl rfl, rfl, by decide +kernel, trivial⟩
theorem fp_X3_43 : FP RX3 43 3 7 .int := ⟨_, rfl, by decide, gt_1 97 rfl rfl, rfl, by decide +kernel, trivial⟩
theorem fp_X3_46 : FP RX3 46 3 8 .int := ⟨_, rfl, by decide, gt_1 100 rfl rfl, rfl, by decide +kernel, trivial⟩
theorem fp_X3_49 : FP RX3 49 3 9 .int := ⟨_, rfl, by decide, gt_1 104 rfl rfl, rfl, by decide +kernel, trivial⟩
theorem fp_X3_52 : FP RX3 52 3 10 .int := ⟨_, rfl, by decide, gt_1 108 rfl rfl, rfl, by decide +kernel, trivial⟩
theorem ff_X4_9 : FF RX4 9 4 0 (.object "LatePrices$Tape") := ⟨_, rfl, by decide, gt_1 142 rfl rfl, rfl, by decide +kernel, rfl⟩
theorem ff_X4_15 : FF RX4 15 4 1 (.object "LatePrices$Plan") := ⟨_, rfl, by decide, gt_1 143 rfl rfl, rfl, by decide +kernel, rfl⟩
theorem fp_X4_24 : FP RX4 24 8 2 .int := ⟨_, rfl, by decide, gt_1 38 rfl rfl, rfl, by decide +kernel, trivial⟩
theorem fp_X4_30 : FP RX4 30 4 2 .int := ⟨_, rfl, by decide, gt_1 144 rfl rfl, rfl, by decide +kernel, trivial⟩
theorem fp_X4_33 : FP RX4 33 4 3 .int := ⟨_, rfl, by decide, gt_1 146 rfl rfl, rfl, by decide +kernel, trivial⟩
theorem fp_X4_36 : FP RX4 36 4 4 .boolean := ⟨_, rfl, by decide, gt_1 148 rfl rfl, rfl, by decide +kernel, trivial⟩
theorem fp_X4_40 : FP RX4 40 4 5 .boolean := ⟨_, rfl, by decide, gt_1 149 rfl rfl, rfl, by decide +kernel, trivial⟩
theorem fp_X4_43 : FP RX4 43 4 6 .boolean := ⟨_, rfl, by decide, gt_1 150 rfl rfl, rfl, by decide +kernel, trivial⟩
theorem fp_X4_103 : FP RX4 103 3 6 .int := ⟨_, rfl, by decide, gt_1 96 rfl rfl, rfl, by decide +kernel, trivial⟩
theorem fp_X4_121 : FP RX4 121 3 7 .int := ⟨_, rfl, by decide, gt_1 99 rfl rfl, rfl, by decide +kernel, trivial⟩
theorem fp_X4_124 : FP RX4 124 3 8 .int := ⟨_, rfl, by decide, gt_1 103 rfl rfl, rfl, by decide +kernel, trivial⟩
theorem fp_X4_144 : FP RX4 144 3 9 .int := ⟨_, rfl, by decide, gt_1 107 rfl rfl, rfl, by decide +kernel, trivial⟩
theorem fp_X4_151 : FP RX4 151 3 10 .int := ⟨_, rfl, by decide, gt_1 110 rfl rfl, rfl, by decide +kernel, trivial⟩
theorem ff_X5_13 : FF RX5 13 5 0 .int := ⟨_, rfl, by decide, gt_1 200 rfl rfl, rfl, by decide +kernel, rfl⟩
theorem ff_X5_19 : FF RX5 19 5 1 .int := ⟨_, rfl, by decide, gt_1 201 rfl rfl, rfl, by decide +kernel, rfl⟩
theorem ff_X5_22 : FF RX5 22 5 2 (.array .int) := ⟨_, rfl, by decide, gt_1 202 rfl rfl, rfl, by decide +kernel, rfl⟩
theorem fp_X5_26 : FP RX5 26 5 3 .int := ⟨_, rfl, by decide, gt_1 204 rfl rfl, rfl, by decide +kernel, trivial⟩
theorem ff_X6_9 : FF RX6 9 6 0 (.array .int) := ⟨_, rfl, by decide, gt_2 118 rfl rfl, rfl, by decide +kernel, rfl⟩
theorem fp_X6_15 : FP RX6 15 6 1 .int := ⟨_, rfl, by decide, gt_2 119 rfl rfl, rfl, by decide +kernel, trivial⟩
theorem fp_X6_28 : FP RX6 28 6 2 .int := ⟨_, rfl, by decide, gt_2 120 rfl rfl, rfl, by decide +kernel, trivial⟩
theorem ff_X7_9 : FF RX7 9 7 5 (.array .int) := ⟨_, rfl, by decide, gt_2 11 rfl rfl, rfl, by decide +kernel, rfl⟩
theorem ff_X7_15 : FF RX7 15 7 6 (.array .int) := ⟨_, rfl, by decide, gt_2 12 rfl rfl, rfl, by decide +kernel, rfl⟩
theorem ff_X7_18 : FF RX7 18 7 7 (.array .int) := ⟨_, rfl, by decide, gt_2 14 rfl rfl, rfl, by decide +kernel, rfl⟩
theorem ff_X7_21 : FF RX7 21 7 8 (.array .int) := ⟨_, rfl, by decide, gt_2 15 rfl rfl, rfl, by decide +kernel, rfl⟩
theorem ff_X7_24 : FF RX7 24 7 9 (.array .int) := ⟨_, rfl, by decide, gt_2 17 rfl rfl, rfl, by decide +kernel, rfl⟩
theorem ff_X7_27 : FF RX7 27 7 10 (.array .int) := ⟨_, rfl, by decide, gt_2 18 rfl rfl, rfl, by decide +kernel, rfl⟩
theorem ff_X7_30 : FF RX7 30 7 0 (.object "LatePrices$Plan") := ⟨_, rfl, by decide, gt_2 6 rfl rfl, rfl, by decide +kernel, rfl⟩
theorem ff_X7_34 : FF RX7 34 7 1 (.object "LatePrices$News") := ⟨_, rfl, by decide, gt_2 7 rfl rfl, rfl, by decide +kernel, rfl⟩
theorem ff_X7_38 : FF RX7 38 7 4 (.object "LatePrices$Ledger") := ⟨_, rfl, by decide, gt_2 10 rfl rfl, rfl, by decide +kernel, rfl⟩
theorem ff_X7_48 : FF RX7 48 7 2 (.object "LatePrices$Rows") := ⟨_, rfl, by decide, gt_2 8 rfl rfl, rfl, by decide +kernel, rfl⟩
theorem ff_X7_52 : FF RX7 52 7 3 (.object "LatePrices$Rows") := ⟨_, rfl, by decide, gt_2 9 rfl rfl, rfl, by decide +kernel, rfl⟩
theorem fp_X7_112 : FP RX7 112 7 11 .int := ⟨_, rfl, by decide, gt_2 20 rfl rfl, rfl, by decide +kernel, trivial⟩
theorem ff_X8_9 : FF RX8 9 8 0 (.array .byte) := ⟨_, rfl, by decide, gt_1 35 rfl rfl, rfl, by decide +kernel, rfl⟩
theorem fp_X8_15 : FP RX8 15 8 1 .int := ⟨_, rfl, by decide, gt_1 36 rfl rfl, rfl, by decide +kernel, trivial⟩
theorem fp_X8_26 : FP RX8 26 8 4 .int := ⟨_, rfl, by decide, gt_1 43 rfl rfl, rfl, by decide +kernel, trivial⟩
theorem fp_X8_33 : FP RX8 33 8 3 .int := ⟨_, rfl, by decide, gt_1 41 rfl rfl, rfl, by decide +kernel, trivial⟩
theorem fp_X8_19 : FP RX8 19 8 2 .int := ⟨_, rfl, by decide, gt_1 39 rfl rfl, rfl, by decide +kernel, trivial⟩
theorem fp_X8_36 : FP RX8 36 8 5 .int := ⟨_, rfl, by decide, gt_1 45 rfl rfl, rfl, by decide +kernel, trivial⟩
theorem ff_X9_9 : FF RX9 9 9 2 (.array .int) := ⟨_, rfl, by decide, gt_2 84 rfl rfl, rfl, by decide +kernel, rfl⟩
theorem ff_X9_15 : FF RX9 15 9 0 (.object "LatePrices$Plan") := ⟨_, rfl, by decide, gt_2 82 rfl rfl, rfl, by decide +kernel, rfl⟩
theorem ff_X9_19 : FF RX9 19 9 1 (.object "LatePrices$News") := ⟨_, rfl, by decide, gt_2 83 rfl rfl, rfl, by decide +kernel, rfl⟩
theorem ff_X10_11 : FF RX10 11 10 1 (.array .long) := ⟨_, rfl, by decide, gt_2 100 rfl rfl, rfl, by decide +kernel, rfl⟩
theorem ff_X10_15 : FF RX10 15 10 2 (.array .long) := ⟨_, rfl, by decide, gt_2 102 rfl rfl, rfl, by decide +kernel, rfl⟩
theorem ff_X10_18 : FF RX10 18 10 0 (.object "LatePrices$Plan") := ⟨_, rfl, by decide, gt_2 99 rfl rfl, rfl, by decide +kernel, rfl⟩
theorem ff_X11_10 : FF RX11 10 11 0 (.object "LatePrices$Tape") := ⟨_, rfl, by decide, gt_2 129 rfl rfl, rfl, by decide +kernel, rfl⟩
theorem ff_X11_19 : FF RX11 19 11 1 (.object "LatePrices$Plan") := ⟨_, rfl, by decide, gt_2 130 rfl rfl, rfl, by decide +kernel, rfl⟩
theorem ff_X11_23 : FF RX11 23 11 2 (.object "LatePrices$Plan") := ⟨_, rfl, by decide, gt_2 131 rfl rfl, rfl, by decide +kernel, rfl⟩
theorem ff_X11_31 : FF RX11 31 11 3 (.object "LatePrices$Reader") := ⟨_, rfl, by decide, gt_2 132 rfl rfl, rfl, by decide +kernel, rfl⟩
theorem ff_X11_40 : FF RX11 40 11 4 (.object "LatePrices$News") := ⟨_, rfl, by decide, gt_2 133 rfl rfl, rfl, by decide +kernel, rfl⟩
theorem ff_X11_47 : FF RX11 47 11 5 (.object "LatePrices$Ledger") := ⟨_, rfl, by decide, gt_2 134 rfl rfl, rfl, by decide +kernel, rfl⟩
theorem ff_X11_51 : FF RX11 51 11 6 (.array (.object "LatePrices$Ledger")) := ⟨_, rfl, by decide, gt_2 135 rfl rfl, rfl, by decide +kernel, rfl⟩
theorem ff_X11_60 : FF RX11 60 11 7 (.object "LatePrices$Strikes") := ⟨_, rfl, by decide, gt_2 136 rfl rfl, rfl, by decide +kernel, rfl⟩
theorem ff_X11_69 : FF RX11 69 11 8 (.object "LatePrices$Gains") := ⟨_, rfl, by decide, gt_2 137 rfl rfl, rfl, by decide +kernel, rfl⟩
theorem ff_X11_78 : FF RX11 78 11 9 (.object "LatePrices$Waits") := ⟨_, rfl, by decide, gt_2 138 rfl rfl, rfl, by decide +kernel, rfl⟩
theorem ff_X11_85 : FF RX11 85 11 10 (.object "LatePrices$Worth") := ⟨_, rfl, by decide, gt_2 139 rfl rfl, rfl, by decide +kernel, rfl⟩
theorem ff_X11_91 : FF RX11 91 11 11 (.array (.object "LatePrices$Sheet")) := ⟨_, rfl, by decide, gt_2 140 rfl rfl, rfl, by decide +kernel, rfl⟩
theorem fp_X11_100 : FP RX11 100 8 1 .int := ⟨_, rfl, by decide, gt_1 37 rfl rfl, rfl, by decide +kernel, trivial⟩
theorem fp_X11_115 : FP RX11 115 11 12 .int := ⟨_, rfl, by decide, gt_2 141 rfl rfl, rfl, by decide +kernel, trivial⟩
theorem fp_X11_125 : FP RX11 125 1 4 .boolean := ⟨_, rfl, by decide, gt_1 227 rfl rfl, rfl, by decide +kernel, trivial⟩
theorem fp_X11_189 : FP RX11 189 5 3 .int := ⟨_, rfl, by decide, gt_1 207 rfl rfl, rfl, by decide +kernel, trivial⟩
theorem fp_X11_340 : FP RX11 340 11 13 .int := ⟨_, rfl, by decide, gt_2 142 rfl rfl, rfl, by decide +kernel, trivial⟩
theorem ff_X12_7 : FF RX12 7 12 0 (.array .int) := ⟨_, rfl, by decide, gt_5 59 rfl rfl, rfl, by decide +kernel, rfl⟩
theorem ff_X12_13 : FF RX12 13 12 9 (.array .int) := ⟨_, rfl, by decide, gt_5 68 rfl rfl, rfl, by decide +kernel, rfl⟩
theorem ff_X12_16 : FF RX12 16 12 10 (.array .int) := ⟨_, rfl, by decide, gt_5 69 rfl rfl, rfl, by decide +kernel, rfl⟩
theorem ff_X12_19 : FF RX12 19 12 11 (.array .int) := ⟨_, rfl, by decide, gt_5 70 rfl rfl, rfl, by decide +kernel, rfl⟩
theorem ff_X12_22 : FF RX12 22 12 12 (.array .int) := ⟨_, rfl, by decide, gt_5 71 rfl rfl, rfl, by decide +kernel, rfl⟩
theorem ff_X12_25 : FF RX12 25 12 13 (.array .int) := ⟨_, rfl, by decide, gt_5 72 rfl rfl, rfl, by decide +kernel, rfl⟩
theorem ff_X12_28 : FF RX12 28 12 14 (.array .int) := ⟨_, rfl, by decide, gt_5 73 rfl rfl, rfl, by decide +kernel, rfl⟩
theorem ff_X12_31 : FF RX12 31 12 15 (.array .int) := ⟨_, rfl, by decide, gt_5 74 rfl rfl, rfl, by decide +kernel, rfl⟩
theorem ff_X12_34 : FF RX12 34 12 16 (.array .int) := ⟨_, rfl, by decide, gt_5 75 rfl rfl, rfl, by decide +kernel, rfl⟩
theorem ff_X12_37 : FF RX12 37 12 17 (.array .int) := ⟨_, rfl, by decide, gt_5 76 rfl rfl, rfl, by decide +kernel, rfl⟩
theorem ff_X12_40 : FF RX12 40 12 18 (.array .int) := ⟨_, rfl, by decide, gt_5 77 rfl rfl, rfl, by decide +kernel, rfl⟩
theorem ff_X12_43 : FF RX12 43 12 19 (.array .int) := ⟨_, rfl, by decide, gt_5 78 rfl rfl, rfl, by decide +kernel, rfl⟩
theorem ff_X12_46 : FF RX12 46 12 21 (.array .int) := ⟨_, rfl, by decide, gt_5 80 rfl rfl, rfl, by decide +kernel, rfl⟩
theorem ff_X12_49 : FF RX12 49 12 22 (.array .int) := ⟨_, rfl, by decide, gt_5 81 rfl rfl, rfl, by decide +kernel, rfl⟩
theorem ff_X12_52 : FF RX12 52 12 23 (.array .int) := ⟨_, rfl, by decide, gt_5 82 rfl rfl, rfl, by decide +kernel, rfl⟩
theorem ff_X12_55 : FF RX12 55 12 24 (.array .int) := ⟨_, rfl, by decide, gt_5 83 rfl rfl, rfl, by decide +kernel, rfl⟩
theorem ff_X12_58 : FF RX12 58 12 25 (.array .boolean) := ⟨_, rfl, by decide, gt_5 84 rfl rfl, rfl, by decide +kernel, rfl⟩
theorem ff_X12_62 : FF RX12 62 12 26 (.array .boolean) := ⟨_, rfl, by decide, gt_5 85 rfl rfl, rfl, by decide +kernel, rfl⟩
theorem ff_X12_65 : FF RX12 65 12 27 (.array .int) := ⟨_, rfl, by decide, gt_5 86 rfl rfl, rfl, by decide +kernel, rfl⟩
theorem ff_X12_68 : FF RX12 68 12 30 (.array .long) := ⟨_, rfl, by decide, gt_5 89 rfl rfl, rfl, by decide +kernel, rfl⟩
theorem ff_X12_72 : FF RX12 72 12 31 (.array .long) := ⟨_, rfl, by decide, gt_5 90 rfl rfl, rfl, by decide +kernel, rfl⟩
theorem ff_X12_75 : FF RX12 75 12 33 (.array .boolean) := ⟨_, rfl, by decide, gt_5 92 rfl rfl, rfl, by decide +kernel, rfl⟩
theorem ff_X12_78 : FF RX12 78 12 34 (.array .int) := ⟨_, rfl, by decide, gt_5 93 rfl rfl, rfl, by decide +kernel, rfl⟩
theorem ff_X12_81 : FF RX12 81 12 35 (.array .int) := ⟨_, rfl, by decide, gt_5 94 rfl rfl, rfl, by decide +kernel, rfl⟩
theorem ff_X12_84 : FF RX12 84 12 36 (.array .int) := ⟨_, rfl, by decide, gt_5 95 rfl rfl, rfl, by decide +kernel, rfl⟩
theorem fp_X12_87 : FP RX12 87 12 1 .int := ⟨_, rfl, by decide, gt_5 60 rfl rfl, rfl, by decide +kernel, trivial⟩
theorem fp_X12_95 : FP RX12 95 12 3 .int := ⟨_, rfl, by decide, gt_5 62 rfl rfl, rfl, by decide +kernel, trivial⟩
theorem fp_X12_101 : FP RX12 101 12 4 .int := ⟨_, rfl, by decide, gt_5 63 rfl rfl, rfl, by decide +kernel, trivial⟩
theorem fp_X12_107 : FP RX12 107 12 5 .int := ⟨_, rfl, by decide, gt_5 64 rfl rfl, rfl, by decide +kernel, trivial⟩
theorem fp_X12_98 : FP RX12 98 12 6 .int := ⟨_, rfl, by decide, gt_5 65 rfl rfl, rfl, by decide +kernel, trivial⟩
theorem fp_X12_114 : FP RX12 114 12 8 .int := ⟨_, rfl, by decide, gt_5 67 rfl rfl, rfl, by decide +kernel, trivial⟩
theorem fp_X12_104 : FP RX12 104 12 7 .int := ⟨_, rfl, by decide, gt_5 66 rfl rfl, rfl, by decide +kernel, trivial⟩
theorem fp_X12_139 : FP RX12 139 12 20 .int := ⟨_, rfl, by decide, gt_5 79 rfl rfl, rfl, by decide +kernel, trivial⟩
theorem fp_X12_160 : FP RX12 160 12 2 .int := ⟨_, rfl, by decide, gt_5 61 rfl rfl, rfl, by decide +kernel, trivial⟩
theorem fp_X12_258 : FP RX12 258 12 28 .int := ⟨_, rfl, by decide, gt_5 87 rfl rfl, rfl, by decide +kernel, trivial⟩
theorem fp_X12_261 : FP RX12 261 12 29 .int := ⟨_, rfl, by decide, gt_5 88 rfl rfl, rfl, by decide +kernel, trivial⟩
theorem fp_X12_278 : FP RX12 278 12 32 .long := ⟨_, rfl, by decide, gt_5 91 rfl rfl, rfl, by decide +kernel, trivial⟩
theorem fp_X12_305 : FP RX12 305 12 37 .int := ⟨_, rfl, by decide, gt_5 96 rfl rfl, rfl, by decide +kernel, trivial⟩
theorem oo_X0_3 : Cond.methodLink RX0 3 Lib.objectInit ∈ gtb := gt_2 51 rfl rfl
theorem ov_X0_38 : okV RX0 38 mX5_at := ⟨ok_X5_at, gt_4 81 rfl rfl, gt_3 169 rfl rfl, gt_3 170 rfl rfl⟩
theorem ov_X0_42 : okV RX0 42 mX0_setStretch := ⟨ok_X0_setStretch, gt_4 82 rfl rfl, gt_4 84 rfl rfl, g_mem 27 rfl rfl⟩
theorem ov_X0_46 : okV RX0 46 mX2_arrival := ⟨ok_X2_arrival, gt_4 86 rfl rfl, gt_3 112 rfl rfl, gt_3 113 rfl rfl⟩
theorem om_X0_52 : Cond.methodLink RX0 52 ⟨"java/lang/Math", "min", "(II)I"⟩ ∈ gtb := gt_4 87 rfl rfl
theorem ov_X0_57 : okV RX0 57 mX2_latest := ⟨ok_X2_latest, gt_4 88 rfl rfl, gt_3 144 rfl rfl, gt_3 145 rfl rfl⟩
theorem ov_X0_66 : okV RX0 66 mX0_best := ⟨ok_X0_best, gt_4 93 rfl rfl, gt_4 95 rfl rfl, g_mem 28 rfl rfl⟩
theorem ov_X0_70 : okV RX0 70 mX0_margin := ⟨ok_X0_margin, gt_4 97 rfl rfl, gt_4 99 rfl rfl, g_mem 29 rfl rfl⟩
theorem om_X0_73 : Cond.methodLink RX0 73 ⟨"java/lang/Math", "max", "(II)I"⟩ ∈ gtb := gt_4 109 rfl rfl
theorem oo_X1_3 : Cond.methodLink RX1 3 Lib.objectInit ∈ gtb := gt_1 190 rfl rfl
theorem oi_X1_11 : okI RX1 11 mX5_init := ⟨ok_X5_init, gt_1 193 rfl rfl, gt_1 194 rfl rfl, rfl⟩
theorem ov_X1_34 : okV RX1 34 mX5_become := ⟨ok_X5_become, gt_4 228 rfl rfl, gt_4 229 rfl rfl, gt_4 230 rfl rfl⟩
theorem ov_X1_44 : okV RX1 44 mX5_at := ⟨ok_X5_at, gt_3 168 rfl rfl, gt_3 169 rfl rfl, gt_3 170 rfl rfl⟩
theorem ov_X1_48 : okV RX1 48 mX1_lastUnmoved := ⟨ok_X1_lastUnmoved, gt_3 218 rfl rfl, gt_3 220 rfl rfl, g_mem 18 rfl rfl⟩
theorem om_X1_52 : Cond.methodLink RX1 52 ⟨"java/lang/Math", "min", "(II)I"⟩ ∈ gtb := gt_3 226 rfl rfl
theorem ov_X1_57 : okV RX1 57 mX1_priceAt := ⟨ok_X1_priceAt, gt_3 222 rfl rfl, gt_3 165 rfl rfl, gt_3 166 rfl rfl⟩
theorem om_X1_60 : Cond.methodLink RX1 60 ⟨"java/lang/Math", "abs", "(I)I"⟩ ∈ gtb := gt_3 223 rfl rfl
theorem ov_X1_63 : okV RX1 63 mX1_lastMinute := ⟨ok_X1_lastMinute, gt_4 18 rfl rfl, gt_3 215 rfl rfl, gt_3 216 rfl rfl⟩
theorem oo_X2_3 : Cond.methodLink RX2 3 Lib.objectInit ∈ gtb := gt_1 171 rfl rfl
theorem os_X2_22 : okS RX2 22 mJ7_fill_53178 := ⟨ok_J7_fill_53178, gt_3 119 rfl rfl, gt_1 71 rfl rfl⟩
theorem ov_X2_34 : okV RX2 34 mX2_firstReached := ⟨ok_X2_firstReached, gt_3 120 rfl rfl, gt_3 122 rfl rfl, g_mem 13 rfl rfl⟩
theorem ov_X2_38 : okV RX2 38 mX2_goOn := ⟨ok_X2_goOn, gt_3 124 rfl rfl, gt_3 126 rfl rfl, g_mem 14 rfl rfl⟩
theorem os_X2_42 : okS RX2 42 mX3_pair := ⟨ok_X3_pair, gt_3 128 rfl rfl, gt_3 47 rfl rfl⟩
theorem ov_X2_49 : okV RX2 49 mX3_openFrom := ⟨ok_X3_openFrom, gt_3 129 rfl rfl, gt_3 130 rfl rfl, gt_3 131 rfl rfl⟩
theorem om_X2_52 : Cond.methodLink RX2 52 ⟨"java/lang/Math", "min", "(II)I"⟩ ∈ gtb := gt_3 133 rfl rfl
theorem ov_X2_57 : okV RX2 57 mX2_lastLeft := ⟨ok_X2_lastLeft, gt_3 151 rfl rfl, gt_3 153 rfl rfl, g_mem 15 rfl rfl⟩
theorem ov_X2_60 : okV RX2 60 mX2_goBack := ⟨ok_X2_goBack, gt_3 155 rfl rfl, gt_3 157 rfl rfl, g_mem 16 rfl rfl⟩
theorem ov_X2_63 : okV RX2 63 mX3_openUpTo := ⟨ok_X3_openUpTo, gt_3 159 rfl rfl, gt_3 160 rfl rfl, gt_3 161 rfl rfl⟩
theorem om_X2_66 : Cond.methodLink RX2 66 ⟨"java/lang/Math", "max", "(II)I"⟩ ∈ gtb := gt_3 163 rfl rfl
theorem ov_X2_69 : okV RX2 69 mX2_spread := ⟨ok_X2_spread, gt_3 115 rfl rfl, gt_3 116 rfl rfl, gt_3 117 rfl rfl⟩
theorem ov_X2_73 : okV RX2 73 mX2_gather := ⟨ok_X2_gather, gt_3 147 rfl rfl, gt_3 148 rfl rfl, gt_3 149 rfl rfl⟩
theorem oo_X3_3 : Cond.methodLink RX3 3 Lib.objectInit ∈ gtb := gt_1 65 rfl rfl
theorem ov_X3_30 : okV RX3 30 mX3_clear := ⟨ok_X3_clear, gt_1 66 rfl rfl, gt_1 67 rfl rfl, gt_1 68 rfl rfl⟩
theorem os_X3_33 : okS RX3 33 mJ7_fill_53178 := ⟨ok_J7_fill_53178, gt_1 70 rfl rfl, gt_1 71 rfl rfl⟩
theorem oa_X3_55 : Cond.methodLink RX3 55 arraycopyName ∈ gtb := gt_3 80 rfl rfl
theorem oo_X4_3 : Cond.methodLink RX4 3 Lib.objectInit ∈ gtb := gt_1 141 rfl rfl
theorem ov_X4_19 : okV RX4 19 mX3_clear := ⟨ok_X3_clear, gt_2 195 rfl rfl, gt_1 67 rfl rfl, gt_1 68 rfl rfl⟩
theorem ov_X4_46 : okV RX4 46 mX8_advance := ⟨ok_X8_advance, gt_2 196 rfl rfl, gt_2 197 rfl rfl, gt_2 198 rfl rfl⟩
theorem ov_X4_52 : okV RX4 52 mX4_isOf := ⟨ok_X4_isOf, gt_2 208 rfl rfl, gt_2 210 rfl rfl, g_mem 2 rfl rfl⟩
theorem ov_X4_56 : okV RX4 56 mX4_takeLine := ⟨ok_X4_takeLine, gt_2 216 rfl rfl, gt_2 218 rfl rfl, g_mem 4 rfl rfl⟩
theorem ov_X4_63 : okV RX4 63 mX4_fail := ⟨ok_X4_fail, gt_2 212 rfl rfl, gt_2 214 rfl rfl, g_mem 3 rfl rfl⟩
theorem ov_X4_71 : okV RX4 71 mX8_isName := ⟨ok_X8_isName, gt_2 221 rfl rfl, gt_2 222 rfl rfl, gt_2 223 rfl rfl⟩
theorem ov_X4_75 : okV RX4 75 mX4_takePlace := ⟨ok_X4_takePlace, gt_3 33 rfl rfl, gt_3 35 rfl rfl, g_mem 5 rfl rfl⟩
theorem ov_X4_80 : okV RX4 80 mX4_takeWay := ⟨ok_X4_takeWay, gt_3 42 rfl rfl, gt_3 44 rfl rfl, g_mem 7 rfl rfl⟩
theorem ov_X4_85 : okV RX4 85 mX4_takeShut := ⟨ok_X4_takeShut, gt_3 50 rfl rfl, gt_3 52 rfl rfl, g_mem 8 rfl rfl⟩
theorem ov_X4_90 : okV RX4 90 mX4_takeMoves := ⟨ok_X4_takeMoves, gt_3 55 rfl rfl, gt_3 57 rfl rfl, g_mem 9 rfl rfl⟩
theorem ov_X4_95 : okV RX4 95 mX4_takeFirst := ⟨ok_X4_takeFirst, gt_3 64 rfl rfl, gt_3 66 rfl rfl, g_mem 10 rfl rfl⟩
theorem ov_X4_100 : okV RX4 100 mX4_takeMost := ⟨ok_X4_takeMost, gt_3 72 rfl rfl, gt_3 74 rfl rfl, g_mem 11 rfl rfl⟩
theorem ov_X4_106 : okV RX4 106 mX4_takeNumber := ⟨ok_X4_takeNumber, gt_3 37 rfl rfl, gt_3 39 rfl rfl, g_mem 6 rfl rfl⟩
theorem os_X4_114 : okS RX4 114 mX3_pair := ⟨ok_X3_pair, gt_3 46 rfl rfl, gt_3 47 rfl rfl⟩
theorem ov_X4_138 : okV RX4 138 mX3_allMoves := ⟨ok_X3_allMoves, gt_3 59 rfl rfl, gt_3 60 rfl rfl, gt_3 61 rfl rfl⟩
theorem oo_X5_1 : Cond.methodLink RX5 1 Lib.objectInit ∈ gtb := gt_1 196 rfl rfl
theorem om_X5_7 : Cond.methodLink RX5 7 ⟨"java/lang/Math", "max", "(II)I"⟩ ∈ gtb := gt_1 197 rfl rfl
theorem om_X5_29 : Cond.methodLink RX5 29 ⟨"java/lang/Math", "min", "(II)I"⟩ ∈ gtb := gt_4 232 rfl rfl
theorem oa_X5_32 : Cond.methodLink RX5 32 arraycopyName ∈ gtb := gt_4 233 rfl rfl
theorem oo_X6_3 : Cond.methodLink RX6 3 Lib.objectInit ∈ gtb := gt_2 117 rfl rfl
theorem om_X6_19 : Cond.methodLink RX6 19 ⟨"java/lang/Math", "max", "(II)I"⟩ ∈ gtb := gt_5 12 rfl rfl
theorem om_X6_25 : Cond.methodLink RX6 25 ⟨"java/lang/Math", "min", "(II)I"⟩ ∈ gtb := gt_5 13 rfl rfl
theorem os_X6_31 : okS RX6 31 mJ7_fill_53178 := ⟨ok_J7_fill_53178, gt_5 14 rfl rfl, gt_1 71 rfl rfl⟩
theorem ov_X6_37 : okV RX6 37 mX6_isNothing := ⟨ok_X6_isNothing, gt_5 35 rfl rfl, gt_5 20 rfl rfl, gt_5 21 rfl rfl⟩
theorem oo_X7_3 : Cond.methodLink RX7 3 Lib.objectInit ∈ gtb := gt_2 5 rfl rfl
theorem ov_X7_59 : okV RX7 59 mX5_at := ⟨ok_X5_at, gt_3 231 rfl rfl, gt_3 169 rfl rfl, gt_3 170 rfl rfl⟩
theorem ov_X7_63 : okV RX7 63 mX1_lastMinute := ⟨ok_X1_lastMinute, gt_3 232 rfl rfl, gt_3 215 rfl rfl, gt_3 216 rfl rfl⟩
theorem ov_X7_67 : okV RX7 67 mX7_putInOrder := ⟨ok_X7_putInOrder, gt_3 233 rfl rfl, gt_3 235 rfl rfl, g_mem 19 rfl rfl⟩
theorem ov_X7_70 : okV RX7 70 mX7_strike := ⟨ok_X7_strike, gt_4 1 rfl rfl, gt_4 3 rfl rfl, g_mem 21 rfl rfl⟩
theorem ov_X7_74 : okV RX7 74 mX7_isAhead := ⟨ok_X7_isAhead, gt_3 237 rfl rfl, gt_3 239 rfl rfl, g_mem 20 rfl rfl⟩
theorem ov_X7_83 : okV RX7 83 mX7_isStanding := ⟨ok_X7_isStanding, gt_4 5 rfl rfl, gt_4 7 rfl rfl, g_mem 22 rfl rfl⟩
theorem om_X7_86 : Cond.methodLink RX7 86 ⟨"java/lang/Math", "min", "(II)I"⟩ ∈ gtb := gt_4 9 rfl rfl
theorem ov_X7_91 : okV RX7 91 mX2_arrival := ⟨ok_X2_arrival, gt_4 39 rfl rfl, gt_3 112 rfl rfl, gt_3 113 rfl rfl⟩
theorem ov_X7_97 : okV RX7 97 mX7_payment := ⟨ok_X7_payment, gt_4 57 rfl rfl, gt_4 59 rfl rfl, g_mem 25 rfl rfl⟩
theorem ov_X7_100 : okV RX7 100 mX7_newsOf := ⟨ok_X7_newsOf, gt_4 120 rfl rfl, gt_4 36 rfl rfl, gt_4 37 rfl rfl⟩
theorem ov_X7_103 : okV RX7 103 mX7_debt := ⟨ok_X7_debt, gt_4 61 rfl rfl, gt_4 62 rfl rfl, gt_4 63 rfl rfl⟩
theorem ov_X7_106 : okV RX7 106 mX7_unitsLeft := ⟨ok_X7_unitsLeft, gt_4 125 rfl rfl, gt_4 127 rfl rfl, g_mem 30 rfl rfl⟩
theorem ov_X7_115 : okV RX7 115 mX7_sumOfDearest := ⟨ok_X7_sumOfDearest, gt_4 65 rfl rfl, gt_4 67 rfl rfl, g_mem 26 rfl rfl⟩
theorem oo_X8_3 : Cond.methodLink RX8 3 Lib.objectInit ∈ gtb := gt_1 34 rfl rfl
theorem ov_X8_22 : okV RX8 22 mX8_endOfRun := ⟨ok_X8_endOfRun, gt_2 200 rfl rfl, gt_2 202 rfl rfl, g_mem 0 rfl rfl⟩
theorem ov_X8_29 : okV RX8 29 mX8_byteAt := ⟨ok_X8_byteAt, gt_2 204 rfl rfl, gt_2 206 rfl rfl, g_mem 1 rfl rfl⟩
theorem ov_X8_39 : okV RX8 39 mJ0_length_8abf5 := ⟨ok_J0_length_8abf5, gt_2 225 rfl rfl, gt_2 226 rfl rfl, gt_2 227 rfl rfl⟩
theorem ov_X8_44 : okV RX8 44 mJ0_charAt_5068e := ⟨ok_J0_charAt_5068e, gt_2 235 rfl rfl, gt_2 236 rfl rfl, gt_2 237 rfl rfl⟩
theorem oo_X9_3 : Cond.methodLink RX9 3 Lib.objectInit ∈ gtb := gt_2 81 rfl rfl
theorem os_X9_23 : okS RX9 23 mJ7_fill_53178 := ⟨ok_J7_fill_53178, gt_4 149 rfl rfl, gt_1 71 rfl rfl⟩
theorem ov_X9_35 : okV RX9 35 mX2_spread := ⟨ok_X2_spread, gt_4 150 rfl rfl, gt_3 116 rfl rfl, gt_3 117 rfl rfl⟩
theorem om_X9_44 : Cond.methodLink RX9 44 ⟨"java/lang/Math", "max", "(II)I"⟩ ∈ gtb := gt_4 151 rfl rfl
theorem ov_X9_50 : okV RX9 50 mX9_look := ⟨ok_X9_look, gt_4 164 rfl rfl, gt_4 146 rfl rfl, gt_4 147 rfl rfl⟩
theorem ov_X9_60 : okV RX9 60 mX9_longestBehind := ⟨ok_X9_longestBehind, gt_4 165 rfl rfl, gt_4 167 rfl rfl, g_mem 31 rfl rfl⟩
theorem ov_X9_67 : okV RX9 67 mX2_gather := ⟨ok_X2_gather, gt_4 169 rfl rfl, gt_3 148 rfl rfl, gt_3 149 rfl rfl⟩
theorem ov_X9_73 : okV RX9 73 mX2_arrival := ⟨ok_X2_arrival, gt_4 170 rfl rfl, gt_3 112 rfl rfl, gt_3 113 rfl rfl⟩
theorem oo_X10_3 : Cond.methodLink RX10 3 Lib.objectInit ∈ gtb := gt_2 98 rfl rfl
theorem os_X10_22 : okS RX10 22 mJ7_fill_d0a16 := ⟨ok_J7_fill_d0a16, gt_4 183 rfl rfl, gt_4 184 rfl rfl⟩
theorem oa_X10_28 : Cond.methodLink RX10 28 arraycopyName ∈ gtb := gt_4 186 rfl rfl
theorem ov_X10_40 : okV RX10 40 mX3_allMoves := ⟨ok_X3_allMoves, gt_4 191 rfl rfl, gt_3 60 rfl rfl, gt_3 61 rfl rfl⟩
theorem ov_X10_44 : okV RX10 44 mX10_walk := ⟨ok_X10_walk, gt_4 209 rfl rfl, gt_4 180 rfl rfl, gt_4 181 rfl rfl⟩
theorem om_X10_48 : Cond.methodLink RX10 48 ⟨"java/lang/Math", "abs", "(I)I"⟩ ∈ gtb := gt_4 210 rfl rfl
theorem om_X10_54 : Cond.methodLink RX10 54 ⟨"java/lang/Math", "max", "(II)I"⟩ ∈ gtb := gt_4 211 rfl rfl
theorem om_X10_58 : Cond.methodLink RX10 58 ⟨"java/lang/Math", "abs", "(J)J"⟩ ∈ gtb := gt_4 195 rfl rfl
theorem om_X10_61 : Cond.methodLink RX10 61 ⟨"java/lang/Math", "max", "(JJ)J"⟩ ∈ gtb := gt_4 198 rfl rfl
theorem oo_X11_1 : Cond.methodLink RX11 1 Lib.objectInit ∈ gtb := gt_1 26 rfl rfl
theorem oi_X11_18 : okI RX11 18 mX3_init := ⟨ok_X3_init, gt_1 62 rfl rfl, gt_1 63 rfl rfl, rfl⟩
theorem oi_X11_28 : okI RX11 28 mX4_init := ⟨ok_X4_init, gt_1 138 rfl rfl, gt_1 139 rfl rfl, rfl⟩
theorem oi_X11_37 : okI RX11 37 mX2_init := ⟨ok_X2_init, gt_1 168 rfl rfl, gt_1 169 rfl rfl, rfl⟩
theorem oi_X11_46 : okI RX11 46 mX1_init := ⟨ok_X1_init, gt_1 187 rfl rfl, gt_1 188 rfl rfl, rfl⟩
theorem oi_X11_57 : okI RX11 57 mX7_init := ⟨ok_X7_init, gt_2 2 rfl rfl, gt_2 3 rfl rfl, rfl⟩
theorem oi_X11_66 : okI RX11 66 mX0_init := ⟨ok_X0_init, gt_2 48 rfl rfl, gt_2 49 rfl rfl, rfl⟩
theorem oi_X11_75 : okI RX11 75 mX9_init := ⟨ok_X9_init, gt_2 78 rfl rfl, gt_2 79 rfl rfl, rfl⟩
theorem oi_X11_84 : okI RX11 84 mX10_init := ⟨ok_X10_init, gt_2 95 rfl rfl, gt_2 96 rfl rfl, rfl⟩
theorem ov_X11_96 : okV RX11 96 mX8_push := ⟨ok_X8_push, gt_2 176 rfl rfl, gt_2 177 rfl rfl, gt_2 178 rfl rfl⟩
theorem os_X11_104 : okS RX11 104 mX11_within := ⟨ok_X11_within, gt_2 184 rfl rfl, gt_2 185 rfl rfl⟩
theorem ov_X11_108 : okV RX11 108 mX4_parse := ⟨ok_X4_parse, gt_2 191 rfl rfl, gt_2 192 rfl rfl, gt_2 193 rfl rfl⟩
theorem ov_X11_119 : okV RX11 119 mX3_become := ⟨ok_X3_become, gt_3 76 rfl rfl, gt_3 77 rfl rfl, gt_3 78 rfl rfl⟩
theorem ov_X11_122 : okV RX11 122 mX1_clear := ⟨ok_X1_clear, gt_3 83 rfl rfl, gt_3 84 rfl rfl, gt_3 85 rfl rfl⟩
theorem ov_X11_148 : okV RX11 148 mX11_isPlace := ⟨ok_X11_isPlace, gt_3 99 rfl rfl, gt_3 101 rfl rfl, g_mem 12 rfl rfl⟩
theorem os_X11_155 : okS RX11 155 mX3_pair := ⟨ok_X3_pair, gt_3 103 rfl rfl, gt_3 47 rfl rfl⟩
theorem os_X11_159 : okS RX11 159 mX11_isMinute := ⟨ok_X11_isMinute, gt_3 108 rfl rfl, gt_3 109 rfl rfl⟩
theorem ov_X11_162 : okV RX11 162 mX2_arrival := ⟨ok_X2_arrival, gt_3 111 rfl rfl, gt_3 112 rfl rfl, gt_3 113 rfl rfl⟩
theorem os_X11_166 : okS RX11 166 mX11_orNone := ⟨ok_X11_orNone, gt_3 136 rfl rfl, gt_3 137 rfl rfl⟩
theorem ov_X11_170 : okV RX11 170 mX2_latest := ⟨ok_X2_latest, gt_3 143 rfl rfl, gt_3 144 rfl rfl, gt_3 145 rfl rfl⟩
theorem ov_X11_173 : okV RX11 173 mX1_priceAt := ⟨ok_X1_priceAt, gt_3 164 rfl rfl, gt_3 165 rfl rfl, gt_3 166 rfl rfl⟩
theorem ov_X11_180 : okV RX11 180 mX5_grow := ⟨ok_X5_grow, gt_3 176 rfl rfl, gt_3 177 rfl rfl, gt_3 178 rfl rfl⟩
theorem ov_X11_185 : okV RX11 185 mX5_put := ⟨ok_X5_put, gt_3 180 rfl rfl, gt_3 181 rfl rfl, gt_3 182 rfl rfl⟩
theorem ov_X11_192 : okV RX11 192 mX2_gather := ⟨ok_X2_gather, gt_3 192 rfl rfl, gt_3 148 rfl rfl, gt_3 149 rfl rfl⟩
theorem ov_X11_196 : okV RX11 196 mX2_gatherAtOnce := ⟨ok_X2_gatherAtOnce, gt_3 193 rfl rfl, gt_3 194 rfl rfl, gt_3 195 rfl rfl⟩
theorem ov_X11_206 : okV RX11 206 mX11_isCall := ⟨ok_X11_isCall, gt_3 205 rfl rfl, gt_3 207 rfl rfl, g_mem 17 rfl rfl⟩
theorem ov_X11_209 : okV RX11 209 mX5_at := ⟨ok_X5_at, gt_3 209 rfl rfl, gt_3 169 rfl rfl, gt_3 170 rfl rfl⟩
theorem ov_X11_212 : okV RX11 212 mX1_lastMinute := ⟨ok_X1_lastMinute, gt_3 214 rfl rfl, gt_3 215 rfl rfl, gt_3 216 rfl rfl⟩
theorem ov_X11_215 : okV RX11 215 mX7_settle := ⟨ok_X7_settle, gt_3 227 rfl rfl, gt_3 228 rfl rfl, gt_3 229 rfl rfl⟩
theorem ov_X11_224 : okV RX11 224 mX1_isUp := ⟨ok_X1_isUp, gt_4 14 rfl rfl, gt_4 15 rfl rfl, gt_4 16 rfl rfl⟩
theorem ov_X11_231 : okV RX11 231 mX11_isDeal := ⟨ok_X11_isDeal, gt_4 31 rfl rfl, gt_4 33 rfl rfl, g_mem 23 rfl rfl⟩
theorem ov_X11_237 : okV RX11 237 mX7_newsOf := ⟨ok_X7_newsOf, gt_4 35 rfl rfl, gt_4 36 rfl rfl, gt_4 37 rfl rfl⟩
theorem ov_X11_240 : okV RX11 240 mX11_isEmptyAs := ⟨ok_X11_isEmptyAs, gt_4 44 rfl rfl, gt_4 46 rfl rfl, g_mem 24 rfl rfl⟩
theorem ov_X11_243 : okV RX11 243 mX7_fewestUndone := ⟨ok_X7_fewestUndone, gt_4 53 rfl rfl, gt_4 54 rfl rfl, gt_4 55 rfl rfl⟩
theorem ov_X11_246 : okV RX11 246 mX7_leastUndone := ⟨ok_X7_leastUndone, gt_4 69 rfl rfl, gt_4 70 rfl rfl, gt_4 71 rfl rfl⟩
theorem ov_X11_249 : okV RX11 249 mX0_watch := ⟨ok_X0_watch, gt_4 77 rfl rfl, gt_4 78 rfl rfl, gt_4 79 rfl rfl⟩
theorem ov_X11_253 : okV RX11 253 mX0_trade := ⟨ok_X0_trade, gt_4 89 rfl rfl, gt_4 90 rfl rfl, gt_4 91 rfl rfl⟩
theorem ov_X11_262 : okV RX11 262 mX0_firstFrom := ⟨ok_X0_firstFrom, gt_4 105 rfl rfl, gt_4 106 rfl rfl, gt_4 107 rfl rfl⟩
theorem ov_X11_266 : okV RX11 266 mX7_debt := ⟨ok_X7_debt, gt_4 115 rfl rfl, gt_4 62 rfl rfl, gt_4 63 rfl rfl⟩
theorem ov_X11_269 : okV RX11 269 mX7_debtKnown := ⟨ok_X7_debtKnown, gt_4 116 rfl rfl, gt_4 117 rfl rfl, gt_4 118 rfl rfl⟩
theorem ov_X11_272 : okV RX11 272 mX7_debtAtMost := ⟨ok_X7_debtAtMost, gt_4 121 rfl rfl, gt_4 122 rfl rfl, gt_4 123 rfl rfl⟩
theorem ov_X11_275 : okV RX11 275 mX7_peakMinute := ⟨ok_X7_peakMinute, gt_4 137 rfl rfl, gt_4 138 rfl rfl, gt_4 139 rfl rfl⟩
theorem ov_X11_278 : okV RX11 278 mX9_look := ⟨ok_X9_look, gt_4 145 rfl rfl, gt_4 146 rfl rfl, gt_4 147 rfl rfl⟩
theorem ov_X11_284 : okV RX11 284 mX9_longestIn := ⟨ok_X9_longestIn, gt_4 160 rfl rfl, gt_4 161 rfl rfl, gt_4 162 rfl rfl⟩
theorem os_X11_287 : okS RX11 287 mX11_isAge := ⟨ok_X11_isAge, gt_4 175 rfl rfl, gt_4 176 rfl rfl⟩
theorem ov_X11_292 : okV RX11 292 mX10_walk := ⟨ok_X10_walk, gt_4 179 rfl rfl, gt_4 180 rfl rfl, gt_4 181 rfl rfl⟩
theorem ov_X11_299 : okV RX11 299 mX10_power := ⟨ok_X10_power, gt_4 187 rfl rfl, gt_4 188 rfl rfl, gt_4 189 rfl rfl⟩
theorem os_X11_303 : okS RX11 303 mX10_inLowestTerms := ⟨ok_X10_inLowestTerms, gt_4 192 rfl rfl, gt_4 193 rfl rfl⟩
theorem ov_X11_307 : okV RX11 307 mX10_lossSum := ⟨ok_X10_lossSum, gt_4 205 rfl rfl, gt_4 206 rfl rfl, gt_4 207 rfl rfl⟩
theorem ov_X11_311 : okV RX11 311 mX1_become := ⟨ok_X1_become, gt_4 224 rfl rfl, gt_4 225 rfl rfl, gt_4 226 rfl rfl⟩
theorem os_X11_314 : okS RX11 314 mX11_isSheet := ⟨ok_X11_isSheet, gt_5 2 rfl rfl, gt_5 3 rfl rfl⟩
theorem os_X11_317 : okS RX11 317 mX11_isLane := ⟨ok_X11_isLane, gt_5 5 rfl rfl, gt_5 6 rfl rfl⟩
theorem ov_X11_320 : okV RX11 320 mX6_renew := ⟨ok_X6_renew, gt_5 8 rfl rfl, gt_5 9 rfl rfl, gt_5 10 rfl rfl⟩
theorem ov_X11_323 : okV RX11 323 mX6_isNothing := ⟨ok_X6_isNothing, gt_5 19 rfl rfl, gt_5 20 rfl rfl, gt_5 21 rfl rfl⟩
theorem ov_X11_327 : okV RX11 327 mX6_put := ⟨ok_X6_put, gt_5 23 rfl rfl, gt_5 24 rfl rfl, gt_5 25 rfl rfl⟩
theorem ov_X11_329 : okV RX11 329 mX6_faultAs := ⟨ok_X6_faultAs, gt_5 31 rfl rfl, gt_5 32 rfl rfl, gt_5 33 rfl rfl⟩
theorem ov_X11_332 : okV RX11 332 mX6_wholeSteps := ⟨ok_X6_wholeSteps, gt_5 36 rfl rfl, gt_5 37 rfl rfl, gt_5 38 rfl rfl⟩
theorem ov_X11_335 : okV RX11 335 mX6_at := ⟨ok_X6_at, gt_5 40 rfl rfl, gt_5 41 rfl rfl, gt_5 42 rfl rfl⟩
theorem ov_X11_337 : okV RX11 337 mX11_step := ⟨ok_X11_step, gt_5 44 rfl rfl, gt_3 173 rfl rfl, gt_3 174 rfl rfl⟩
theorem ov_X11_344 : okV RX11 344 mX11_seen := ⟨ok_X11_seen, gt_4 48 rfl rfl, gt_4 20 rfl rfl, gt_4 21 rfl rfl⟩
theorem oo_X12_1 : Cond.methodLink RX12 1 Lib.objectInit ∈ gtb := gt_5 58 rfl rfl
theorem os_X12_91 : okS RX12 91 mX12_in := ⟨ok_X12_in, gt_5 183 rfl rfl, gt_5 184 rfl rfl⟩
theorem ov_X12_110 : okV RX12 110 mX12_byteAt := ⟨ok_X12_byteAt, gt_5 194 rfl rfl, gt_5 196 rfl rfl, g_mem 33 rfl rfl⟩
theorem ov_X12_125 : okV RX12 125 mX12_fails := ⟨ok_X12_fails, gt_5 202 rfl rfl, gt_5 204 rfl rfl, g_mem 34 rfl rfl⟩
theorem ov_X12_129 : okV RX12 129 mX12_here := ⟨ok_X12_here, gt_5 219 rfl rfl, gt_5 221 rfl rfl, g_mem 38 rfl rfl⟩
theorem ov_X12_133 : okV RX12 133 mX12_next := ⟨ok_X12_next, gt_5 190 rfl rfl, gt_5 192 rfl rfl, g_mem 32 rfl rfl⟩
theorem ov_X12_136 : okV RX12 136 mX12_number := ⟨ok_X12_number, gt_5 215 rfl rfl, gt_5 217 rfl rfl, g_mem 37 rfl rfl⟩
theorem ov_X12_142 : okV RX12 142 mX12_nameHere := ⟨ok_X12_nameHere, gt_5 210 rfl rfl, gt_5 212 rfl rfl, g_mem 36 rfl rfl⟩
theorem ov_X12_148 : okV RX12 148 mX12_readWay := ⟨ok_X12_readWay, gt_5 223 rfl rfl, gt_5 225 rfl rfl, g_mem 39 rfl rfl⟩
theorem ov_X12_151 : okV RX12 151 mX12_readShut := ⟨ok_X12_readShut, gt_5 227 rfl rfl, gt_5 229 rfl rfl, g_mem 40 rfl rfl⟩
theorem ov_X12_154 : okV RX12 154 mX12_readRule := ⟨ok_X12_readRule, gt_5 231 rfl rfl, gt_5 233 rfl rfl, g_mem 41 rfl rfl⟩
theorem ov_X12_157 : okV RX12 157 mX12_readLine := ⟨ok_X12_readLine, gt_5 206 rfl rfl, gt_5 208 rfl rfl, g_mem 35 rfl rfl⟩
theorem ov_X12_167 : okV RX12 167 mX12_isPlace := ⟨ok_X12_isPlace, gt_6 8 rfl rfl, gt_6 10 rfl rfl, g_mem 42 rfl rfl⟩
theorem ov_X12_171 : okV RX12 171 mX12_leaves := ⟨ok_X12_leaves, gt_6 28 rfl rfl, gt_6 30 rfl rfl, g_mem 45 rfl rfl⟩
theorem ov_X12_175 : okV RX12 175 mX12_layNews := ⟨ok_X12_layNews, gt_6 24 rfl rfl, gt_6 26 rfl rfl, g_mem 44 rfl rfl⟩
theorem os_X12_179 : okS RX12 179 mX12_isMinute := ⟨ok_X12_isMinute, gt_6 16 rfl rfl, gt_6 17 rfl rfl⟩
theorem ov_X12_182 : okV RX12 182 mX12_news := ⟨ok_X12_news, gt_6 20 rfl rfl, gt_6 22 rfl rfl, g_mem 43 rfl rfl⟩
theorem os_X12_185 : okS RX12 185 mX12_orNone := ⟨ok_X12_orNone, gt_6 32 rfl rfl, gt_6 33 rfl rfl⟩
theorem ov_X12_190 : okV RX12 190 mX12_latest := ⟨ok_X12_latest, gt_6 40 rfl rfl, gt_6 42 rfl rfl, g_mem 46 rfl rfl⟩
theorem ov_X12_193 : okV RX12 193 mX12_priceAt := ⟨ok_X12_priceAt, gt_6 44 rfl rfl, gt_6 46 rfl rfl, g_mem 47 rfl rfl⟩
theorem ov_X12_196 : okV RX12 196 mX12_addStep := ⟨ok_X12_addStep, gt_6 52 rfl rfl, gt_6 54 rfl rfl, g_mem 48 rfl rfl⟩
theorem ov_X12_202 : okV RX12 202 mX12_its := ⟨ok_X12_its, gt_6 78 rfl rfl, gt_6 80 rfl rfl, g_mem 50 rfl rfl⟩
theorem ov_X12_207 : okV RX12 207 mX12_isCall := ⟨ok_X12_isCall, gt_6 74 rfl rfl, gt_6 76 rfl rfl, g_mem 49 rfl rfl⟩
theorem ov_X12_210 : okV RX12 210 mX12_takenBack := ⟨ok_X12_takenBack, gt_6 82 rfl rfl, gt_6 84 rfl rfl, g_mem 51 rfl rfl⟩
theorem ov_X12_213 : okV RX12 213 mX12_ends := ⟨ok_X12_ends, gt_6 91 rfl rfl, gt_6 93 rfl rfl, g_mem 52 rfl rfl⟩
theorem ov_X12_218 : okV RX12 218 mX12_layStruck := ⟨ok_X12_layStruck, gt_6 95 rfl rfl, gt_6 97 rfl rfl, g_mem 53 rfl rfl⟩
theorem ov_X12_221 : okV RX12 221 mX12_deals := ⟨ok_X12_deals, gt_6 99 rfl rfl, gt_6 101 rfl rfl, g_mem 54 rfl rfl⟩
theorem ov_X12_224 : okV RX12 224 mX12_sent4 := ⟨ok_X12_sent4, gt_6 103 rfl rfl, gt_6 105 rfl rfl, g_mem 55 rfl rfl⟩
theorem ov_X12_227 : okV RX12 227 mX12_standsIn := ⟨ok_X12_standsIn, gt_6 115 rfl rfl, gt_6 117 rfl rfl, g_mem 58 rfl rfl⟩
theorem ov_X12_231 : okV RX12 231 mX12_seenBy := ⟨ok_X12_seenBy, gt_6 127 rfl rfl, gt_6 129 rfl rfl, g_mem 59 rfl rfl⟩
theorem ov_X12_234 : okV RX12 234 mX12_rank := ⟨ok_X12_rank, gt_6 111 rfl rfl, gt_6 113 rfl rfl, g_mem 57 rfl rfl⟩
theorem ov_X12_237 : okV RX12 237 mX12_isAhead := ⟨ok_X12_isAhead, gt_6 107 rfl rfl, gt_6 109 rfl rfl, g_mem 56 rfl rfl⟩
theorem ov_X12_240 : okV RX12 240 mX12_isDeal := ⟨ok_X12_isDeal, gt_6 139 rfl rfl, gt_6 141 rfl rfl, g_mem 60 rfl rfl⟩
theorem ov_X12_245 : okV RX12 245 mX12_pays := ⟨ok_X12_pays, gt_6 156 rfl rfl, gt_6 158 rfl rfl, g_mem 62 rfl rfl⟩
theorem ov_X12_248 : okV RX12 248 mX12_owed := ⟨ok_X12_owed, gt_6 152 rfl rfl, gt_6 154 rfl rfl, g_mem 61 rfl rfl⟩
theorem ov_X12_251 : okV RX12 251 mX12_greatest := ⟨ok_X12_greatest, gt_6 160 rfl rfl, gt_6 162 rfl rfl, g_mem 63 rfl rfl⟩
theorem ov_X12_254 : okV RX12 254 mX12_isOffer := ⟨ok_X12_isOffer, gt_6 172 rfl rfl, gt_6 174 rfl rfl, g_mem 65 rfl rfl⟩
theorem ov_X12_264 : okV RX12 264 mX12_bestOf := ⟨ok_X12_bestOf, gt_6 176 rfl rfl, gt_6 178 rfl rfl, g_mem 66 rfl rfl⟩
theorem ov_X12_267 : okV RX12 267 mX12_layGain := ⟨ok_X12_layGain, gt_6 168 rfl rfl, gt_6 170 rfl rfl, g_mem 64 rfl rfl⟩
theorem ov_X12_272 : okV RX12 272 mX12_atMost := ⟨ok_X12_atMost, gt_6 189 rfl rfl, gt_6 191 rfl rfl, g_mem 67 rfl rfl⟩
theorem ov_X12_275 : okV RX12 275 mX12_waitOf := ⟨ok_X12_waitOf, gt_6 205 rfl rfl, gt_6 207 rfl rfl, g_mem 68 rfl rfl⟩
theorem ov_X12_288 : okV RX12 288 mX12_layWalks := ⟨ok_X12_layWalks, gt_6 224 rfl rfl, gt_6 226 rfl rfl, g_mem 69 rfl rfl⟩
theorem os_X12_291 : okS RX12 291 mX12_lowest := ⟨ok_X12_lowest, gt_6 228 rfl rfl, gt_6 229 rfl rfl⟩
theorem ov_X12_295 : okV RX12 295 mX12_lossOf := ⟨ok_X12_lossOf, gt_6 235 rfl rfl, gt_6 237 rfl rfl, g_mem 70 rfl rfl⟩
theorem os_X12_299 : okS RX12 299 mX12_isNoMore := ⟨ok_X12_isNoMore, gt_7 3 rfl rfl, gt_7 4 rfl rfl⟩
theorem ov_J0_335 : okV "java/lang/String" 335 mJ0_coder_7d493 := ⟨ok_J0_coder_7d493, gt_2 229 rfl rfl, gt_2 230 rfl rfl, gt_2 231 rfl rfl⟩
theorem ov_J0_492 : okV "java/lang/String" 492 mJ0_isLatin1_aae02 := ⟨ok_J0_isLatin1_aae02, gt_2 239 rfl rfl, gt_3 0 rfl rfl, gt_3 1 rfl rfl⟩
theorem os_J0_495 : okS "java/lang/String" 495 mJ1_charAt_3b067 := ⟨ok_J1_charAt_3b067, gt_3 3 rfl rfl, gt_3 4 rfl rfl⟩
theorem os_J0_1059 : okS "java/lang/String" 1059 mJ3_checkIndex_8e157 := ⟨ok_J3_checkIndex_8e157, gt_3 11 rfl rfl, gt_3 12 rfl rfl⟩
theorem os_J1_9 : okS "java/lang/StringLatin1" 9 mJ0_checkIndex_df160 := ⟨ok_J0_checkIndex_df160, gt_3 6 rfl rfl, gt_3 7 rfl rfl⟩
theorem oi_L_9 : okI "LatePricesLaw" 9 mX11_init := ⟨ok_X11_init, gt_1 23 rfl rfl, gt_1 24 rfl rfl, rfl⟩
theorem oi_L_12 : okI "LatePricesLaw" 12 mX12_init := ⟨ok_X12_init, gt_5 55 rfl rfl, gt_5 56 rfl rfl, rfl⟩
theorem ov_L_15 : okV "LatePricesLaw" 15 mX11_feed := ⟨ok_X11_feed, gt_2 172 rfl rfl, gt_2 173 rfl rfl, gt_2 174 rfl rfl⟩
theorem ov_L_19 : okV "LatePricesLaw" 19 mX12_feed := ⟨ok_X12_feed, gt_5 175 rfl rfl, gt_5 176 rfl rfl, gt_5 177 rfl rfl⟩
theorem ov_L_20 : okV "LatePricesLaw" 20 mX11_end := ⟨ok_X11_end, gt_2 180 rfl rfl, gt_2 181 rfl rfl, gt_2 182 rfl rfl⟩
theorem ov_L_24 : okV "LatePricesLaw" 24 mX12_end := ⟨ok_X12_end, gt_5 179 rfl rfl, gt_5 180 rfl rfl, gt_5 181 rfl rfl⟩
theorem ov_L_25 : okV "LatePricesLaw" 25 mX11_system := ⟨ok_X11_system, gt_2 187 rfl rfl, gt_2 188 rfl rfl, gt_2 189 rfl rfl⟩
theorem ov_L_29 : okV "LatePricesLaw" 29 mX12_system := ⟨ok_X12_system, gt_5 186 rfl rfl, gt_5 187 rfl rfl, gt_5 188 rfl rfl⟩
theorem ov_L_30 : okV "LatePricesLaw" 30 mX11_fault := ⟨ok_X11_fault, gt_3 87 rfl rfl, gt_3 88 rfl rfl, gt_3 89 rfl rfl⟩
theorem ov_L_33 : okV "LatePricesLaw" 33 mX12_fault := ⟨ok_X12_fault, gt_5 235 rfl rfl, gt_5 236 rfl rfl, gt_5 237 rfl rfl⟩
theorem ov_L_34 : okV "LatePricesLaw" 34 mX11_told := ⟨ok_X11_told, gt_3 91 rfl rfl, gt_3 92 rfl rfl, gt_3 93 rfl rfl⟩
theorem ov_L_37 : okV "LatePricesLaw" 37 mX12_told := ⟨ok_X12_told, gt_5 239 rfl rfl, gt_6 0 rfl rfl, gt_6 1 rfl rfl⟩
theorem ov_L_38 : okV "LatePricesLaw" 38 mX11_way := ⟨ok_X11_way, gt_3 95 rfl rfl, gt_3 96 rfl rfl, gt_3 97 rfl rfl⟩
theorem ov_L_42 : okV "LatePricesLaw" 42 mX12_way := ⟨ok_X12_way, gt_6 4 rfl rfl, gt_6 5 rfl rfl, gt_6 6 rfl rfl⟩
theorem ov_L_43 : okV "LatePricesLaw" 43 mX11_comes := ⟨ok_X11_comes, gt_3 104 rfl rfl, gt_3 105 rfl rfl, gt_3 106 rfl rfl⟩
theorem ov_L_47 : okV "LatePricesLaw" 47 mX12_comes := ⟨ok_X12_comes, gt_6 12 rfl rfl, gt_6 13 rfl rfl, gt_6 14 rfl rfl⟩
theorem ov_L_48 : okV "LatePricesLaw" 48 mX11_knows := ⟨ok_X11_knows, gt_3 139 rfl rfl, gt_3 140 rfl rfl, gt_3 141 rfl rfl⟩
theorem ov_L_52 : okV "LatePricesLaw" 52 mX12_knows := ⟨ok_X12_knows, gt_6 35 rfl rfl, gt_6 36 rfl rfl, gt_6 37 rfl rfl⟩
theorem ov_L_53 : okV "LatePricesLaw" 53 mX11_step := ⟨ok_X11_step, gt_3 172 rfl rfl, gt_3 173 rfl rfl, gt_3 174 rfl rfl⟩
theorem ov_L_56 : okV "LatePricesLaw" 56 mX12_step := ⟨ok_X12_step, gt_6 48 rfl rfl, gt_6 49 rfl rfl, gt_6 50 rfl rfl⟩
theorem ov_L_57 : okV "LatePricesLaw" 57 mX11_price := ⟨ok_X11_price, gt_3 184 rfl rfl, gt_3 185 rfl rfl, gt_3 186 rfl rfl⟩
theorem ov_L_60 : okV "LatePricesLaw" 60 mX12_price := ⟨ok_X12_price, gt_6 56 rfl rfl, gt_6 57 rfl rfl, gt_6 58 rfl rfl⟩
theorem ov_L_61 : okV "LatePricesLaw" 61 mX11_dearest := ⟨ok_X11_dearest, gt_3 188 rfl rfl, gt_3 189 rfl rfl, gt_3 190 rfl rfl⟩
theorem ov_L_64 : okV "LatePricesLaw" 64 mX12_dearest := ⟨ok_X12_dearest, gt_6 60 rfl rfl, gt_6 61 rfl rfl, gt_6 62 rfl rfl⟩
theorem ov_L_65 : okV "LatePricesLaw" 65 mX11_call := ⟨ok_X11_call, gt_3 197 rfl rfl, gt_3 198 rfl rfl, gt_3 199 rfl rfl⟩
theorem ov_L_69 : okV "LatePricesLaw" 69 mX12_call := ⟨ok_X12_call, gt_6 65 rfl rfl, gt_6 66 rfl rfl, gt_6 67 rfl rfl⟩
theorem ov_L_70 : okV "LatePricesLaw" 70 mX11_takeBack := ⟨ok_X11_takeBack, gt_3 201 rfl rfl, gt_3 202 rfl rfl, gt_3 203 rfl rfl⟩
theorem ov_L_73 : okV "LatePricesLaw" 73 mX12_takeBack := ⟨ok_X12_takeBack, gt_6 70 rfl rfl, gt_6 71 rfl rfl, gt_6 72 rfl rfl⟩
theorem ov_L_74 : okV "LatePricesLaw" 74 mX11_of := ⟨ok_X11_of, gt_3 210 rfl rfl, gt_3 211 rfl rfl, gt_3 212 rfl rfl⟩
theorem ov_L_77 : okV "LatePricesLaw" 77 mX12_of := ⟨ok_X12_of, gt_6 86 rfl rfl, gt_6 87 rfl rfl, gt_6 88 rfl rfl⟩
theorem ov_L_78 : okV "LatePricesLaw" 78 mX11_stands := ⟨ok_X11_stands, gt_4 10 rfl rfl, gt_4 11 rfl rfl, gt_4 12 rfl rfl⟩
theorem ov_L_81 : okV "LatePricesLaw" 81 mX12_stands := ⟨ok_X12_stands, gt_6 119 rfl rfl, gt_6 120 rfl rfl, gt_6 121 rfl rfl⟩
theorem ov_L_82 : okV "LatePricesLaw" 82 mX11_seen := ⟨ok_X11_seen, gt_4 19 rfl rfl, gt_4 20 rfl rfl, gt_4 21 rfl rfl⟩
theorem ov_L_85 : okV "LatePricesLaw" 85 mX12_seen := ⟨ok_X12_seen, gt_6 123 rfl rfl, gt_6 124 rfl rfl, gt_6 125 rfl rfl⟩
theorem ov_L_86 : okV "LatePricesLaw" 86 mX11_deal := ⟨ok_X11_deal, gt_4 23 rfl rfl, gt_4 24 rfl rfl, gt_4 25 rfl rfl⟩
theorem ov_L_89 : okV "LatePricesLaw" 89 mX12_deal := ⟨ok_X12_deal, gt_6 131 rfl rfl, gt_6 132 rfl rfl, gt_6 133 rfl rfl⟩
theorem ov_L_90 : okV "LatePricesLaw" 90 mX11_sent := ⟨ok_X11_sent, gt_4 27 rfl rfl, gt_4 28 rfl rfl, gt_4 29 rfl rfl⟩
theorem ov_L_93 : okV "LatePricesLaw" 93 mX12_sent := ⟨ok_X12_sent, gt_6 135 rfl rfl, gt_6 136 rfl rfl, gt_6 137 rfl rfl⟩
theorem ov_L_94 : okV "LatePricesLaw" 94 mX11_empty := ⟨ok_X11_empty, gt_4 40 rfl rfl, gt_4 41 rfl rfl, gt_4 42 rfl rfl⟩
theorem ov_L_97 : okV "LatePricesLaw" 97 mX12_empty := ⟨ok_X12_empty, gt_6 144 rfl rfl, gt_6 145 rfl rfl, gt_6 146 rfl rfl⟩
theorem ov_L_98 : okV "LatePricesLaw" 98 mX11_undo := ⟨ok_X11_undo, gt_4 49 rfl rfl, gt_4 50 rfl rfl, gt_4 51 rfl rfl⟩
theorem ov_L_101 : okV "LatePricesLaw" 101 mX12_undo := ⟨ok_X12_undo, gt_6 148 rfl rfl, gt_6 149 rfl rfl, gt_6 150 rfl rfl⟩
theorem ov_L_102 : okV "LatePricesLaw" 102 mX11_gain := ⟨ok_X11_gain, gt_4 73 rfl rfl, gt_4 74 rfl rfl, gt_4 75 rfl rfl⟩
theorem ov_L_106 : okV "LatePricesLaw" 106 mX12_gain := ⟨ok_X12_gain, gt_6 164 rfl rfl, gt_6 165 rfl rfl, gt_6 166 rfl rfl⟩
theorem ov_L_107 : okV "LatePricesLaw" 107 mX11_chance := ⟨ok_X11_chance, gt_4 101 rfl rfl, gt_4 102 rfl rfl, gt_4 103 rfl rfl⟩
theorem ov_L_111 : okV "LatePricesLaw" 111 mX12_chance := ⟨ok_X12_chance, gt_6 180 rfl rfl, gt_6 181 rfl rfl, gt_6 182 rfl rfl⟩
theorem ov_L_112 : okV "LatePricesLaw" 112 mX11_owes := ⟨ok_X11_owes, gt_4 110 rfl rfl, gt_4 111 rfl rfl, gt_4 112 rfl rfl⟩
theorem ov_L_115 : okV "LatePricesLaw" 115 mX12_owes := ⟨ok_X12_owes, gt_6 184 rfl rfl, gt_6 185 rfl rfl, gt_6 186 rfl rfl⟩
theorem ov_L_116 : okV "LatePricesLaw" 116 mX11_over := ⟨ok_X11_over, gt_4 129 rfl rfl, gt_4 130 rfl rfl, gt_4 131 rfl rfl⟩
theorem ov_L_119 : okV "LatePricesLaw" 119 mX12_over := ⟨ok_X12_over, gt_6 193 rfl rfl, gt_6 194 rfl rfl, gt_6 195 rfl rfl⟩
theorem ov_L_120 : okV "LatePricesLaw" 120 mX11_peak := ⟨ok_X11_peak, gt_4 133 rfl rfl, gt_4 134 rfl rfl, gt_4 135 rfl rfl⟩
theorem ov_L_123 : okV "LatePricesLaw" 123 mX12_peak := ⟨ok_X12_peak, gt_6 197 rfl rfl, gt_6 198 rfl rfl, gt_6 199 rfl rfl⟩
theorem ov_L_124 : okV "LatePricesLaw" 124 mX11_waits := ⟨ok_X11_waits, gt_4 141 rfl rfl, gt_4 142 rfl rfl, gt_4 143 rfl rfl⟩
theorem ov_L_127 : okV "LatePricesLaw" 127 mX12_waits := ⟨ok_X12_waits, gt_6 201 rfl rfl, gt_6 202 rfl rfl, gt_6 203 rfl rfl⟩
theorem ov_L_128 : okV "LatePricesLaw" 128 mX11_book := ⟨ok_X11_book, gt_4 152 rfl rfl, gt_4 153 rfl rfl, gt_4 154 rfl rfl⟩
theorem ov_L_131 : okV "LatePricesLaw" 131 mX12_book := ⟨ok_X12_book, gt_6 209 rfl rfl, gt_6 210 rfl rfl, gt_6 211 rfl rfl⟩
theorem ov_L_132 : okV "LatePricesLaw" 132 mX11_enough := ⟨ok_X11_enough, gt_4 156 rfl rfl, gt_4 157 rfl rfl, gt_4 158 rfl rfl⟩
theorem ov_L_135 : okV "LatePricesLaw" 135 mX12_enough := ⟨ok_X12_enough, gt_6 213 rfl rfl, gt_6 214 rfl rfl, gt_6 215 rfl rfl⟩
theorem ov_L_136 : okV "LatePricesLaw" 136 mX11_odds := ⟨ok_X11_odds, gt_4 171 rfl rfl, gt_4 172 rfl rfl, gt_4 173 rfl rfl⟩
theorem ov_L_140 : okV "LatePricesLaw" 140 mX12_odds := ⟨ok_X12_odds, gt_6 217 rfl rfl, gt_6 218 rfl rfl, gt_6 219 rfl rfl⟩
theorem ov_L_141 : okV "LatePricesLaw" 141 mX11_loss := ⟨ok_X11_loss, gt_4 201 rfl rfl, gt_4 202 rfl rfl, gt_4 203 rfl rfl⟩
theorem ov_L_144 : okV "LatePricesLaw" 144 mX12_loss := ⟨ok_X12_loss, gt_6 231 rfl rfl, gt_6 232 rfl rfl, gt_6 233 rfl rfl⟩
theorem ov_L_145 : okV "LatePricesLaw" 145 mX11_wide := ⟨ok_X11_wide, gt_4 212 rfl rfl, gt_4 213 rfl rfl, gt_4 214 rfl rfl⟩
theorem ov_L_148 : okV "LatePricesLaw" 148 mX12_wide := ⟨ok_X12_wide, gt_6 239 rfl rfl, gt_7 0 rfl rfl, gt_7 1 rfl rfl⟩
theorem ov_L_149 : okV "LatePricesLaw" 149 mX11_near := ⟨ok_X11_near, gt_4 216 rfl rfl, gt_4 217 rfl rfl, gt_4 218 rfl rfl⟩
theorem ov_L_153 : okV "LatePricesLaw" 153 mX12_near := ⟨ok_X12_near, gt_7 6 rfl rfl, gt_7 7 rfl rfl, gt_7 8 rfl rfl⟩
theorem ov_L_154 : okV "LatePricesLaw" 154 mX11_keep := ⟨ok_X11_keep, gt_4 220 rfl rfl, gt_4 221 rfl rfl, gt_4 222 rfl rfl⟩
theorem ov_L_157 : okV "LatePricesLaw" 157 mX12_keep := ⟨ok_X12_keep, gt_7 10 rfl rfl, gt_7 11 rfl rfl, gt_7 12 rfl rfl⟩
theorem ov_L_158 : okV "LatePricesLaw" 158 mX11_back := ⟨ok_X11_back, gt_4 234 rfl rfl, gt_4 235 rfl rfl, gt_4 236 rfl rfl⟩
theorem ov_L_161 : okV "LatePricesLaw" 161 mX12_back := ⟨ok_X12_back, gt_7 14 rfl rfl, gt_7 15 rfl rfl, gt_7 16 rfl rfl⟩
theorem ov_L_162 : okV "LatePricesLaw" 162 mX11_sheet := ⟨ok_X11_sheet, gt_4 238 rfl rfl, gt_4 239 rfl rfl, gt_5 0 rfl rfl⟩
theorem ov_L_165 : okV "LatePricesLaw" 165 mX12_sheet := ⟨ok_X12_sheet, gt_7 18 rfl rfl, gt_7 19 rfl rfl, gt_7 20 rfl rfl⟩
theorem ov_L_166 : okV "LatePricesLaw" 166 mX11_lay := ⟨ok_X11_lay, gt_5 15 rfl rfl, gt_5 16 rfl rfl, gt_5 17 rfl rfl⟩
theorem ov_L_169 : okV "LatePricesLaw" 169 mX12_lay := ⟨ok_X12_lay, gt_7 22 rfl rfl, gt_7 23 rfl rfl, gt_7 24 rfl rfl⟩
theorem ov_L_170 : okV "LatePricesLaw" 170 mX11_read := ⟨ok_X11_read, gt_5 27 rfl rfl, gt_5 28 rfl rfl, gt_5 29 rfl rfl⟩
theorem ov_L_173 : okV "LatePricesLaw" 173 mX12_read := ⟨ok_X12_read, gt_7 26 rfl rfl, gt_7 27 rfl rfl, gt_7 28 rfl rfl⟩
theorem ov_L_174 : okV "LatePricesLaw" 174 mX11_torn := ⟨ok_X11_torn, gt_5 45 rfl rfl, gt_5 46 rfl rfl, gt_5 47 rfl rfl⟩
theorem ov_L_177 : okV "LatePricesLaw" 177 mX12_torn := ⟨ok_X12_torn, gt_7 31 rfl rfl, gt_7 32 rfl rfl, gt_7 33 rfl rfl⟩
theorem ov_L_178 : okV "LatePricesLaw" 178 mX11_count := ⟨ok_X11_count, gt_5 49 rfl rfl, gt_5 50 rfl rfl, gt_5 51 rfl rfl⟩
theorem ov_L_181 : okV "LatePricesLaw" 181 mX12_count := ⟨ok_X12_count, gt_7 35 rfl rfl, gt_7 36 rfl rfl, gt_7 37 rfl rfl⟩
