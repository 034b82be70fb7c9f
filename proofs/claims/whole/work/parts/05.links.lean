def mX0_init : Mi := (yX0_init, cX0_init, 1, none, { frames := 1, cells := 3, slots := 603, locals := 20 })
theorem okX0_init : Ok mX0_init 0 := ⟨e_memg 195 (by decide +kernel) rfl, by decide +kernel, by decide +kernel, by decide +kernel⟩
def mX0_runsDry : Mi := (yX0_runsDry, cX0_runsDry, 11, (some .double), { frames := 1, cells := 0, slots := 0, locals := 29 })
theorem okX0_runsDry : Ok mX0_runsDry 6 := ⟨e_memg 537 (by decide +kernel) rfl, by decide +kernel, by decide +kernel, by decide +kernel⟩
def mX0_oneGame : Mi := (yX0_oneGame, cX0_oneGame, 10, (some .double), { frames := 0, cells := 0, slots := 0, locals := 0 })
theorem okX0_oneGame : Ok mX0_oneGame 3 := ⟨e_memg 545 (by decide +kernel) rfl, by decide +kernel, by decide +kernel, by decide +kernel⟩
def mX0_asOften : Mi := (yX0_asOften, cX0_asOften, 11, (some .double), { frames := 1, cells := 0, slots := 0, locals := 24 })
theorem okX0_asOften : Ok mX0_asOften 3 := ⟨e_memg 573 (by decide +kernel) rfl, by decide +kernel, by decide +kernel, by decide +kernel⟩
def mX1_init : Mi := (yX1_init, cX1_init, 1, none, { frames := 1, cells := 2, slots := 910, locals := 20 })
theorem okX1_init : Ok mX1_init 0 := ⟨e_memg 127 (by decide +kernel) rfl, by decide +kernel, by decide +kernel, by decide +kernel⟩
def mX1_begin : Mi := (yX1_begin, cX1_begin, 1, none, { frames := 0, cells := 0, slots := 0, locals := 0 })
theorem okX1_begin : Ok mX1_begin 0 := ⟨e_memg 522 (by decide +kernel) rfl, by decide +kernel, by decide +kernel, by decide +kernel⟩
def mX1_add : Mi := (yX1_add, cX1_add, 3, none, { frames := 1, cells := 0, slots := 0, locals := 31 })
theorem okX1_add : Ok mX1_add 1 := ⟨e_memg 526 (by decide +kernel) rfl, by decide +kernel, by decide +kernel, by decide +kernel⟩
def mX1_placeOf : Mi := (yX1_placeOf, cX1_placeOf, 4, (some .int), { frames := 0, cells := 0, slots := 0, locals := 0 })
theorem okX1_placeOf : Ok mX1_placeOf 1 := ⟨e_memg 530 (by decide +kernel) rfl, by decide +kernel, by decide +kernel, by decide +kernel⟩
def mX2_init : Mi := (yX2_init, cX2_init, 1, none, { frames := 1, cells := 3, slots := 560, locals := 23 })
theorem okX2_init : Ok mX2_init 0 := ⟨e_memg 84 (by decide +kernel) rfl, by decide +kernel, by decide +kernel, by decide +kernel⟩
def mX2_add : Mi := (yX2_add, cX2_add, 8, (some .int), { frames := 2, cells := 0, slots := 0, locals := 45 })
theorem okX2_add : Ok mX2_add 4 := ⟨e_memg 321 (by decide +kernel) rfl, by decide +kernel, by decide +kernel, by decide +kernel⟩
def mX2_fitLast : Mi := (yX2_fitLast, cX2_fitLast, 5, none, { frames := 1, cells := 0, slots := 0, locals := 21 })
theorem okX2_fitLast : Ok mX2_fitLast 3 := ⟨e_memg 331 (by decide +kernel) rfl, by decide +kernel, by decide +kernel, by decide +kernel⟩
def mX2_fits : Mi := (yX2_fits, cX2_fits, 2, (some .boolean), { frames := 0, cells := 0, slots := 0, locals := 0 })
theorem okX2_fits : Ok mX2_fits 2 := ⟨e_memg 324 (by decide +kernel) rfl, by decide +kernel, by decide +kernel, by decide +kernel⟩
def mX2_empty : Mi := (yX2_empty, cX2_empty, 2, (some .int), { frames := 1, cells := 0, slots := 0, locals := 23 })
theorem okX2_empty : Ok mX2_empty 0 := ⟨e_memg 339 (by decide +kernel) rfl, by decide +kernel, by decide +kernel, by decide +kernel⟩
def mX2_firstRow : Mi := (yX2_firstRow, cX2_firstRow, 2, (some .int), { frames := 0, cells := 0, slots := 0, locals := 0 })
theorem okX2_firstRow : Ok mX2_firstRow 1 := ⟨e_memg 443 (by decide +kernel) rfl, by decide +kernel, by decide +kernel, by decide +kernel⟩
def mX2_amount : Mi := (yX2_amount, cX2_amount, 3, (some .int), { frames := 0, cells := 0, slots := 0, locals := 0 })
theorem okX2_amount : Ok mX2_amount 1 := ⟨e_memg 365 (by decide +kernel) rfl, by decide +kernel, by decide +kernel, by decide +kernel⟩
def mX2_mixedInto : Mi := (yX2_mixedInto, cX2_mixedInto, 7, (some .long), { frames := 0, cells := 0, slots := 0, locals := 0 })
theorem okX2_mixedInto : Ok mX2_mixedInto 1 := ⟨e_memg 588 (by decide +kernel) rfl, by decide +kernel, by decide +kernel, by decide +kernel⟩
def mX3_init : Mi := (yX3_init, cX3_init, 1, none, { frames := 1, cells := 1, slots := 60, locals := 20 })
theorem okX3_init : Ok mX3_init 0 := ⟨e_memg 181 (by decide +kernel) rfl, by decide +kernel, by decide +kernel, by decide +kernel⟩
def mX3_forget : Mi := (yX3_forget, cX3_forget, 1, none, { frames := 1, cells := 0, slots := 0, locals := 23 })
theorem okX3_forget : Ok mX3_forget 0 := ⟨e_memg 266 (by decide +kernel) rfl, by decide +kernel, by decide +kernel, by decide +kernel⟩
def mX3_add : Mi := (yX3_add, cX3_add, 4, none, { frames := 0, cells := 0, slots := 0, locals := 0 })
theorem okX3_add : Ok mX3_add 3 := ⟨e_memg 506 (by decide +kernel) rfl, by decide +kernel, by decide +kernel, by decide +kernel⟩
def mX3_times : Mi := (yX3_times, cX3_times, 3, (some .int), { frames := 0, cells := 0, slots := 0, locals := 0 })
theorem okX3_times : Ok mX3_times 2 := ⟨e_memg 563 (by decide +kernel) rfl, by decide +kernel, by decide +kernel, by decide +kernel⟩
def mX3_mostSeen : Mi := (yX3_mostSeen, cX3_mostSeen, 4, (some .int), { frames := 1, cells := 0, slots := 0, locals := 22 })
theorem okX3_mostSeen : Ok mX3_mostSeen 1 := ⟨e_memg 559 (by decide +kernel) rfl, by decide +kernel, by decide +kernel, by decide +kernel⟩
def mX4_init : Mi := (yX4_init, cX4_init, 1, none, { frames := 1, cells := 4, slots := 79, locals := 23 })
theorem okX4_init : Ok mX4_init 0 := ⟨e_memg 57 (by decide +kernel) rfl, by decide +kernel, by decide +kernel, by decide +kernel⟩
def mX4_multiply : Mi := (yX4_multiply, cX4_multiply, 4, none, { frames := 0, cells := 0, slots := 0, locals := 0 })
theorem okX4_multiply : Ok mX4_multiply 0 := ⟨e_memg 65 (by decide +kernel) rfl, by decide +kernel, by decide +kernel, by decide +kernel⟩
def mX4_hasStop : Mi := (yX4_hasStop, cX4_hasStop, 3, (some .boolean), { frames := 2, cells := 0, slots := 0, locals := 42 })
theorem okX4_hasStop : Ok mX4_hasStop 2 := ⟨e_memg 279 (by decide +kernel) rfl, by decide +kernel, by decide +kernel, by decide +kernel⟩
def mX4_hasEnding : Mi := (yX4_hasEnding, cX4_hasEnding, 4, (some .boolean), { frames := 3, cells := 0, slots := 0, locals := 64 })
theorem okX4_hasEnding : Ok mX4_hasEnding 3 := ⟨e_memg 351 (by decide +kernel) rfl, by decide +kernel, by decide +kernel, by decide +kernel⟩
def mX4_stopsOf : Mi := (yX4_stopsOf, cX4_stopsOf, 2, (some .int), { frames := 0, cells := 0, slots := 0, locals := 0 })
theorem okX4_stopsOf : Ok mX4_stopsOf 1 := ⟨e_memg 397 (by decide +kernel) rfl, by decide +kernel, by decide +kernel, by decide +kernel⟩
def mX4_endings : Mi := (yX4_endings, cX4_endings, 1, (some .int), { frames := 0, cells := 0, slots := 0, locals := 0 })
theorem okX4_endings : Ok mX4_endings 0 := ⟨e_memg 431 (by decide +kernel) rfl, by decide +kernel, by decide +kernel, by decide +kernel⟩
def mX4_stopsHeld : Mi := (yX4_stopsHeld, cX4_stopsHeld, 2, (some .int), { frames := 0, cells := 0, slots := 0, locals := 0 })
theorem okX4_stopsHeld : Ok mX4_stopsHeld 1 := ⟨e_memg 423 (by decide +kernel) rfl, by decide +kernel, by decide +kernel, by decide +kernel⟩
def mX4_shown : Mi := (yX4_shown, cX4_shown, 3, (some .int), { frames := 0, cells := 0, slots := 0, locals := 0 })
theorem okX4_shown : Ok mX4_shown 2 := ⟨e_memg 288 (by decide +kernel) rfl, by decide +kernel, by decide +kernel, by decide +kernel⟩
def mX4_put : Mi := (yX4_put, cX4_put, 4, none, { frames := 0, cells := 0, slots := 0, locals := 0 })
theorem okX4_put : Ok mX4_put 3 := ⟨e_memg 262 (by decide +kernel) rfl, by decide +kernel, by decide +kernel, by decide +kernel⟩
def mX4_above : Mi := (yX4_above, cX4_above, 3, (some .int), { frames := 0, cells := 0, slots := 0, locals := 0 })
theorem okX4_above : Ok mX4_above 2 := ⟨e_memg 369 (by decide +kernel) rfl, by decide +kernel, by decide +kernel, by decide +kernel⟩
def mX4_below : Mi := (yX4_below, cX4_below, 3, (some .int), { frames := 0, cells := 0, slots := 0, locals := 0 })
theorem okX4_below : Ok mX4_below 2 := ⟨e_memg 373 (by decide +kernel) rfl, by decide +kernel, by decide +kernel, by decide +kernel⟩
def mX4_blank : Mi := (yX4_blank, cX4_blank, 4, none, { frames := 1, cells := 0, slots := 0, locals := 23 })
theorem okX4_blank : Ok mX4_blank 2 := ⟨e_memg 258 (by decide +kernel) rfl, by decide +kernel, by decide +kernel, by decide +kernel⟩
def mX4_layEven : Mi := (yX4_layEven, cX4_layEven, 6, none, { frames := 2, cells := 0, slots := 0, locals := 46 })
theorem okX4_layEven : Ok mX4_layEven 3 := ⟨e_memg 305 (by decide +kernel) rfl, by decide +kernel, by decide +kernel, by decide +kernel⟩
def mX4_mostDue : Mi := (yX4_mostDue, cX4_mostDue, 9, (some .int), { frames := 0, cells := 0, slots := 0, locals := 0 })
theorem okX4_mostDue : Ok mX4_mostDue 3 := ⟨e_memg 310 (by decide +kernel) rfl, by decide +kernel, by decide +kernel, by decide +kernel⟩
def mX4_middles : Mi := (yX4_middles, cX4_middles, 5, (some .int), { frames := 1, cells := 0, slots := 0, locals := 22 })
theorem okX4_middles : Ok mX4_middles 2 := ⟨e_memg 451 (by decide +kernel) rfl, by decide +kernel, by decide +kernel, by decide +kernel⟩
def mX4_besides : Mi := (yX4_besides, cX4_besides, 6, (some .int), { frames := 1, cells := 0, slots := 0, locals := 22 })
theorem okX4_besides : Ok mX4_besides 2 := ⟨e_memg 456 (by decide +kernel) rfl, by decide +kernel, by decide +kernel, by decide +kernel⟩
def mX4_mixedInto : Mi := (yX4_mixedInto, cX4_mixedInto, 7, (some .long), { frames := 1, cells := 0, slots := 0, locals := 22 })
theorem okX4_mixedInto : Ok mX4_mixedInto 1 := ⟨e_memg 583 (by decide +kernel) rfl, by decide +kernel, by decide +kernel, by decide +kernel⟩
def mX5_init : Mi := (yX5_init, cX5_init, 1, none, { frames := 1, cells := 2, slots := 1260, locals := 20 })
theorem okX5_init : Ok mX5_init 0 := ⟨e_memg 105 (by decide +kernel) rfl, by decide +kernel, by decide +kernel, by decide +kernel⟩
def mX5_begin : Mi := (yX5_begin, cX5_begin, 1, none, { frames := 1, cells := 0, slots := 0, locals := 24 })
theorem okX5_begin : Ok mX5_begin 0 := ⟨e_memg 390 (by decide +kernel) rfl, by decide +kernel, by decide +kernel, by decide +kernel⟩
def mX5_add : Mi := (yX5_add, cX5_add, 5, none, { frames := 1, cells := 0, slots := 0, locals := 22 })
theorem okX5_add : Ok mX5_add 4 := ⟨e_memg 401 (by decide +kernel) rfl, by decide +kernel, by decide +kernel, by decide +kernel⟩
def mX5_heldPays : Mi := (yX5_heldPays, cX5_heldPays, 5, (some .long), { frames := 1, cells := 0, slots := 0, locals := 22 })
theorem okX5_heldPays : Ok mX5_heldPays 4 := ⟨e_memg 419 (by decide +kernel) rfl, by decide +kernel, by decide +kernel, by decide +kernel⟩
def mX5_oneAt : Mi := (yX5_oneAt, cX5_oneAt, 2, (some .int), { frames := 0, cells := 0, slots := 0, locals := 0 })
theorem okX5_oneAt : Ok mX5_oneAt 2 := ⟨e_memg 404 (by decide +kernel) rfl, by decide +kernel, by decide +kernel, by decide +kernel⟩
def mX5_twoAt : Mi := (yX5_twoAt, cX5_twoAt, 3, (some .int), { frames := 0, cells := 0, slots := 0, locals := 0 })
theorem okX5_twoAt : Ok mX5_twoAt 3 := ⟨e_memg 407 (by decide +kernel) rfl, by decide +kernel, by decide +kernel, by decide +kernel⟩
def mX6_init : Mi := (yX6_init, cX6_init, 1, none, { frames := 1, cells := 0, slots := 0, locals := 20 })
theorem okX6_init : Ok mX6_init 0 := ⟨e_memg 146 (by decide +kernel) rfl, by decide +kernel, by decide +kernel, by decide +kernel⟩
def mX6_take : Mi := (yX6_take, cX6_take, 3, none, { frames := 1, cells := 0, slots := 0, locals := 21 })
theorem okX6_take : Ok mX6_take 1 := ⟨e_memg 495 (by decide +kernel) rfl, by decide +kernel, by decide +kernel, by decide +kernel⟩
def mX6_payOut : Mi := (yX6_payOut, cX6_payOut, 3, none, { frames := 1, cells := 0, slots := 0, locals := 21 })
theorem okX6_payOut : Ok mX6_payOut 1 := ⟨e_memg 502 (by decide +kernel) rfl, by decide +kernel, by decide +kernel, by decide +kernel⟩
def mX7_init : Mi := (yX7_init, cX7_init, 1, none, { frames := 2, cells := 24, slots := 3515, locals := 43 })
theorem okX7_init : Ok mX7_init 0 := ⟨e_memg 49 (by decide +kernel) rfl, by decide +kernel, by decide +kernel, by decide +kernel⟩
def mX7_reel : Mi := (yX7_reel, cX7_reel, 3, (some .int), { frames := 2, cells := 0, slots := 0, locals := 46 })
theorem okX7_reel : Ok mX7_reel 2 := ⟨e_memg 248 (by decide +kernel) rfl, by decide +kernel, by decide +kernel, by decide +kernel⟩
def mX7_picture : Mi := (yX7_picture, cX7_picture, 5, (some .int), { frames := 3, cells := 0, slots := 0, locals := 64 })
theorem okX7_picture : Ok mX7_picture 3 := ⟨e_memg 275 (by decide +kernel) rfl, by decide +kernel, by decide +kernel, by decide +kernel⟩
def mX7_at : Mi := (yX7_at, cX7_at, 3, (some .int), { frames := 3, cells := 0, slots := 0, locals := 64 })
theorem okX7_at : Ok mX7_at 2 := ⟨e_memg 293 (by decide +kernel) rfl, by decide +kernel, by decide +kernel, by decide +kernel⟩
def mX7_count : Mi := (yX7_count, cX7_count, 4, (some .int), { frames := 2, cells := 0, slots := 0, locals := 42 })
theorem okX7_count : Ok mX7_count 2 := ⟨e_memg 297 (by decide +kernel) rfl, by decide +kernel, by decide +kernel, by decide +kernel⟩
def mX7_lay : Mi := (yX7_lay, cX7_lay, 4, (some .int), { frames := 3, cells := 0, slots := 0, locals := 71 })
theorem okX7_lay : Ok mX7_lay 1 := ⟨e_memg 301 (by decide +kernel) rfl, by decide +kernel, by decide +kernel, by decide +kernel⟩
def mX7_pay : Mi := (yX7_pay, cX7_pay, 5, (some .int), { frames := 3, cells := 0, slots := 0, locals := 72 })
theorem okX7_pay : Ok mX7_pay 4 := ⟨e_memg 314 (by decide +kernel) rfl, by decide +kernel, by decide +kernel, by decide +kernel⟩
def mX7_clear : Mi := (yX7_clear, cX7_clear, 1, (some .int), { frames := 2, cells := 0, slots := 0, locals := 44 })
theorem okX7_clear : Ok mX7_clear 0 := ⟨e_memg 335 (by decide +kernel) rfl, by decide +kernel, by decide +kernel, by decide +kernel⟩
def mX7_lines : Mi := (yX7_lines, cX7_lines, 3, (some .int), { frames := 1, cells := 0, slots := 0, locals := 22 })
theorem okX7_lines : Ok mX7_lines 1 := ⟨e_memg 343 (by decide +kernel) rfl, by decide +kernel, by decide +kernel, by decide +kernel⟩
def mX7_ending : Mi := (yX7_ending, cX7_ending, 4, (some .int), { frames := 4, cells := 0, slots := 0, locals := 87 })
theorem okX7_ending : Ok mX7_ending 3 := ⟨e_memg 347 (by decide +kernel) rfl, by decide +kernel, by decide +kernel, by decide +kernel⟩
def mX7_all : Mi := (yX7_all, cX7_all, 2, (some .long), { frames := 6, cells := 0, slots := 0, locals := 149 })
theorem okX7_all : Ok mX7_all 1 := ⟨e_memg 377 (by decide +kernel) rfl, by decide +kernel, by decide +kernel, by decide +kernel⟩
def mX7_rows : Mi := (yX7_rows, cX7_rows, 6, (some .int), { frames := 2, cells := 0, slots := 0, locals := 45 })
theorem okX7_rows : Ok mX7_rows 1 := ⟨e_memg 439 (by decide +kernel) rfl, by decide +kernel, by decide +kernel, by decide +kernel⟩
def mX7_misses : Mi := (yX7_misses, cX7_misses, 5, (some .int), { frames := 2, cells := 0, slots := 0, locals := 47 })
theorem okX7_misses : Ok mX7_misses 1 := ⟨e_memg 447 (by decide +kernel) rfl, by decide +kernel, by decide +kernel, by decide +kernel⟩
def mX7_worth : Mi := (yX7_worth, cX7_worth, 5, (some .long), { frames := 4, cells := 0, slots := 0, locals := 95 })
theorem okX7_worth : Ok mX7_worth 4 := ⟨e_memg 462 (by decide +kernel) rfl, by decide +kernel, by decide +kernel, by decide +kernel⟩
def mX7_hold : Mi := (yX7_hold, cX7_hold, 4, (some .int), { frames := 5, cells := 0, slots := 0, locals := 124 })
theorem okX7_hold : Ok mX7_hold 3 := ⟨e_memg 466 (by decide +kernel) rfl, by decide +kernel, by decide +kernel, by decide +kernel⟩
def mX7_nudge : Mi := (yX7_nudge, cX7_nudge, 17, (some .int), { frames := 4, cells := 0, slots := 0, locals := 87 })
theorem okX7_nudge : Ok mX7_nudge 5 := ⟨e_memg 470 (by decide +kernel) rfl, by decide +kernel, by decide +kernel, by decide +kernel⟩
def mX7_change : Mi := (yX7_change, cX7_change, 11, (some .int), { frames := 2, cells := 0, slots := 0, locals := 53 })
theorem okX7_change : Ok mX7_change 3 := ⟨e_memg 474 (by decide +kernel) rfl, by decide +kernel, by decide +kernel, by decide +kernel⟩
def mX7_room : Mi := (yX7_room, cX7_room, 3, (some .int), { frames := 1, cells := 0, slots := 0, locals := 22 })
theorem okX7_room : Ok mX7_room 1 := ⟨e_memg 483 (by decide +kernel) rfl, by decide +kernel, by decide +kernel, by decide +kernel⟩
def mX7_fill : Mi := (yX7_fill, cX7_fill, 2, (some .int), { frames := 1, cells := 0, slots := 0, locals := 22 })
theorem okX7_fill : Ok mX7_fill 1 := ⟨e_memg 487 (by decide +kernel) rfl, by decide +kernel, by decide +kernel, by decide +kernel⟩
def mX7_play : Mi := (yX7_play, cX7_play, 5, (some .int), { frames := 4, cells := 0, slots := 0, locals := 87 })
theorem okX7_play : Ok mX7_play 3 := ⟨e_memg 491 (by decide +kernel) rfl, by decide +kernel, by decide +kernel, by decide +kernel⟩
def mX7_coins : Mi := (yX7_coins, cX7_coins, 2, (some .int), { frames := 0, cells := 0, slots := 0, locals := 0 })
theorem okX7_coins : Ok mX7_coins 1 := ⟨e_memg 510 (by decide +kernel) rfl, by decide +kernel, by decide +kernel, by decide +kernel⟩
def mX7_dry : Mi := (yX7_dry, cX7_dry, 3, (some .long), { frames := 4, cells := 0, slots := 0, locals := 92 })
theorem okX7_dry : Ok mX7_dry 2 := ⟨e_memg 514 (by decide +kernel) rfl, by decide +kernel, by decide +kernel, by decide +kernel⟩
def mX7_favoured : Mi := (yX7_favoured, cX7_favoured, 2, (some .int), { frames := 2, cells := 0, slots := 0, locals := 45 })
theorem okX7_favoured : Ok mX7_favoured 1 := ⟨e_memg 555 (by decide +kernel) rfl, by decide +kernel, by decide +kernel, by decide +kernel⟩
def mX7_odd : Mi := (yX7_odd, cX7_odd, 3, (some .long), { frames := 2, cells := 0, slots := 0, locals := 54 })
theorem okX7_odd : Ok mX7_odd 1 := ⟨e_memg 567 (by decide +kernel) rfl, by decide +kernel, by decide +kernel, by decide +kernel⟩
def mX7_digest : Mi := (yX7_digest, cX7_digest, 4, (some .long), { frames := 5, cells := 0, slots := 0, locals := 113 })
theorem okX7_digest : Ok mX7_digest 0 := ⟨e_memg 577 (by decide +kernel) rfl, by decide +kernel, by decide +kernel, by decide +kernel⟩
def mX7_within : Mi := (yX7_within, cX7_within, 3, (some .boolean), { frames := 0, cells := 0, slots := 0, locals := 0 })
theorem okX7_within : Ok mX7_within 3 := ⟨e_memg 254 (by decide +kernel) rfl, by decide +kernel, by decide +kernel, by decide +kernel⟩
def mX7_isReel : Mi := (yX7_isReel, cX7_isReel, 1, (some .boolean), { frames := 1, cells := 0, slots := 0, locals := 22 })
theorem okX7_isReel : Ok mX7_isReel 1 := ⟨e_memg 251 (by decide +kernel) rfl, by decide +kernel, by decide +kernel, by decide +kernel⟩
def mX7_isPicture : Mi := (yX7_isPicture, cX7_isPicture, 1, (some .boolean), { frames := 1, cells := 0, slots := 0, locals := 22 })
theorem okX7_isPicture : Ok mX7_isPicture 1 := ⟨e_memg 284 (by decide +kernel) rfl, by decide +kernel, by decide +kernel, by decide +kernel⟩
def mX7_isWanted : Mi := (yX7_isWanted, cX7_isWanted, 1, (some .boolean), { frames := 2, cells := 0, slots := 0, locals := 42 })
theorem okX7_isWanted : Ok mX7_isWanted 1 := ⟨e_memg 317 (by decide +kernel) rfl, by decide +kernel, by decide +kernel, by decide +kernel⟩
def mX7_cut : Mi := (yX7_cut, cX7_cut, 4, (some .long), { frames := 0, cells := 0, slots := 0, locals := 0 })
theorem okX7_cut : Ok mX7_cut 2 := ⟨e_memg 435 (by decide +kernel) rfl, by decide +kernel, by decide +kernel, by decide +kernel⟩
def mX7_lineOf : Mi := (yX7_lineOf, cX7_lineOf, 3, (some .int), { frames := 0, cells := 0, slots := 0, locals := 0 })
theorem okX7_lineOf : Ok mX7_lineOf 3 := ⟨e_memg 327 (by decide +kernel) rfl, by decide +kernel, by decide +kernel, by decide +kernel⟩
def mX7_middleLine : Mi := (yX7_middleLine, cX7_middleLine, 4, (some .int), { frames := 1, cells := 0, slots := 0, locals := 22 })
theorem okX7_middleLine : Ok mX7_middleLine 3 := ⟨e_memg 360 (by decide +kernel) rfl, by decide +kernel, by decide +kernel, by decide +kernel⟩
def mX7_endingPays : Mi := (yX7_endingPays, cX7_endingPays, 5, (some .int), { frames := 2, cells := 0, slots := 0, locals := 45 })
theorem okX7_endingPays : Ok mX7_endingPays 3 := ⟨e_memg 356 (by decide +kernel) rfl, by decide +kernel, by decide +kernel, by decide +kernel⟩
def mX7_forgetFound : Mi := (yX7_forgetFound, cX7_forgetFound, 1, none, { frames := 0, cells := 0, slots := 0, locals := 0 })
theorem okX7_forgetFound : Ok mX7_forgetFound 0 := ⟨e_memg 271 (by decide +kernel) rfl, by decide +kernel, by decide +kernel, by decide +kernel⟩
def mX7_surveyEndings : Mi := (yX7_surveyEndings, cX7_surveyEndings, 4, none, { frames := 3, cells := 0, slots := 0, locals := 69 })
theorem okX7_surveyEndings : Ok mX7_surveyEndings 0 := ⟨e_memg 386 (by decide +kernel) rfl, by decide +kernel, by decide +kernel, by decide +kernel⟩
def mX7_countPays : Mi := (yX7_countPays, cX7_countPays, 4, none, { frames := 3, cells := 0, slots := 0, locals := 69 })
theorem okX7_countPays : Ok mX7_countPays 0 := ⟨e_memg 518 (by decide +kernel) rfl, by decide +kernel, by decide +kernel, by decide +kernel⟩
def mX7_total : Mi := (yX7_total, cX7_total, 2, (some .long), { frames := 4, cells := 0, slots := 0, locals := 92 })
theorem okX7_total : Ok mX7_total 1 := ⟨e_memg 427 (by decide +kernel) rfl, by decide +kernel, by decide +kernel, by decide +kernel⟩
def mX7_worthOf : Mi := (yX7_worthOf, cX7_worthOf, 7, (some .long), { frames := 3, cells := 0, slots := 0, locals := 69 })
theorem okX7_worthOf : Ok mX7_worthOf 4 := ⟨e_memg 415 (by decide +kernel) rfl, by decide +kernel, by decide +kernel, by decide +kernel⟩
def mX7_bestHold : Mi := (yX7_bestHold, cX7_bestHold, 10, (some .int), { frames := 4, cells := 0, slots := 0, locals := 95 })
theorem okX7_bestHold : Ok mX7_bestHold 3 := ⟨e_memg 411 (by decide +kernel) rfl, by decide +kernel, by decide +kernel, by decide +kernel⟩
def mX7_playedBest : Mi := (yX7_playedBest, cX7_playedBest, 6, (some .long), { frames := 5, cells := 0, slots := 0, locals := 124 })
theorem okX7_playedBest : Ok mX7_playedBest 0 := ⟨e_memg 382 (by decide +kernel) rfl, by decide +kernel, by decide +kernel, by decide +kernel⟩
def mX7_weighPictures : Mi := (yX7_weighPictures, cX7_weighPictures, 12, none, { frames := 1, cells := 0, slots := 0, locals := 22 })
theorem okX7_weighPictures : Ok mX7_weighPictures 1 := ⟨e_memg 479 (by decide +kernel) rfl, by decide +kernel, by decide +kernel, by decide +kernel⟩
def mX7_bitsOf : Mi := (yX7_bitsOf, cX7_bitsOf, 6, (some .long), { frames := 0, cells := 0, slots := 0, locals := 0 })
theorem okX7_bitsOf : Ok mX7_bitsOf 1 := ⟨e_memg 548 (by decide +kernel) rfl, by decide +kernel, by decide +kernel, by decide +kernel⟩
def mX8_init : Mi := (yX8_init, cX8_init, 2, none, { frames := 1, cells := 20, slots := 49639, locals := 20 })
theorem okX8_init : Ok mX8_init 0 := ⟨e_memg 595 (by decide +kernel) rfl, by decide +kernel, by decide +kernel, by decide +kernel⟩
def mX8_in : Mi := (yX8_in, cX8_in, 6, (some .boolean), { frames := 0, cells := 0, slots := 0, locals := 0 })
theorem okX8_in : Ok mX8_in 3 := ⟨e_memg 710 (by decide +kernel) rfl, by decide +kernel, by decide +kernel, by decide +kernel⟩
def mX8_isReel : Mi := (yX8_isReel, cX8_isReel, 1, (some .boolean), { frames := 1, cells := 0, slots := 0, locals := 25 })
theorem okX8_isReel : Ok mX8_isReel 1 := ⟨e_memg 706 (by decide +kernel) rfl, by decide +kernel, by decide +kernel, by decide +kernel⟩
def mX8_isStop : Mi := (yX8_isStop, cX8_isStop, 3, (some .boolean), { frames := 2, cells := 0, slots := 0, locals := 45 })
theorem okX8_isStop : Ok mX8_isStop 2 := ⟨e_memg 720 (by decide +kernel) rfl, by decide +kernel, by decide +kernel, by decide +kernel⟩
def mX8_reel : Mi := (yX8_reel, cX8_reel, 4, (some .int), { frames := 2, cells := 0, slots := 0, locals := 45 })
theorem okX8_reel : Ok mX8_reel 2 := ⟨e_memg 703 (by decide +kernel) rfl, by decide +kernel, by decide +kernel, by decide +kernel⟩
def mX8_picture : Mi := (yX8_picture, cX8_picture, 5, (some .int), { frames := 3, cells := 0, slots := 0, locals := 67 })
theorem okX8_picture : Ok mX8_picture 3 := ⟨e_memg 716 (by decide +kernel) rfl, by decide +kernel, by decide +kernel, by decide +kernel⟩
def mX8_at : Mi := (yX8_at, cX8_at, 3, (some .int), { frames := 3, cells := 0, slots := 0, locals := 67 })
theorem okX8_at : Ok mX8_at 2 := ⟨e_memg 725 (by decide +kernel) rfl, by decide +kernel, by decide +kernel, by decide +kernel⟩
def mX8_count : Mi := (yX8_count, cX8_count, 4, (some .int), { frames := 1, cells := 0, slots := 0, locals := 25 })
theorem okX8_count : Ok mX8_count 2 := ⟨e_memg 729 (by decide +kernel) rfl, by decide +kernel, by decide +kernel, by decide +kernel⟩
def mX8_lay : Mi := (yX8_lay, cX8_lay, 8, (some .int), { frames := 2, cells := 0, slots := 0, locals := 45 })
theorem okX8_lay : Ok mX8_lay 1 := ⟨e_memg 733 (by decide +kernel) rfl, by decide +kernel, by decide +kernel, by decide +kernel⟩
def mX8_pay : Mi := (yX8_pay, cX8_pay, 5, (some .int), { frames := 1, cells := 0, slots := 0, locals := 25 })
theorem okX8_pay : Ok mX8_pay 4 := ⟨e_memg 737 (by decide +kernel) rfl, by decide +kernel, by decide +kernel, by decide +kernel⟩
def mX8_clear : Mi := (yX8_clear, cX8_clear, 2, (some .int), { frames := 0, cells := 0, slots := 0, locals := 0 })
theorem okX8_clear : Ok mX8_clear 0 := ⟨e_memg 743 (by decide +kernel) rfl, by decide +kernel, by decide +kernel, by decide +kernel⟩
def mX8_lines : Mi := (yX8_lines, cX8_lines, 3, (some .int), { frames := 1, cells := 0, slots := 0, locals := 25 })
theorem okX8_lines : Ok mX8_lines 1 := ⟨e_memg 747 (by decide +kernel) rfl, by decide +kernel, by decide +kernel, by decide +kernel⟩
def mX8_rowOf : Mi := (yX8_rowOf, cX8_rowOf, 5, (some .int), { frames := 0, cells := 0, slots := 0, locals := 0 })
theorem okX8_rowOf : Ok mX8_rowOf 3 := ⟨e_memg 764 (by decide +kernel) rfl, by decide +kernel, by decide +kernel, by decide +kernel⟩
def mX8_allEndings : Mi := (yX8_allEndings, cX8_allEndings, 1, (some .int), { frames := 0, cells := 0, slots := 0, locals := 0 })
theorem okX8_allEndings : Ok mX8_allEndings 0 := ⟨e_memg 783 (by decide +kernel) rfl, by decide +kernel, by decide +kernel, by decide +kernel⟩
def mX8_shown : Mi := (yX8_shown, cX8_shown, 5, (some .int), { frames := 0, cells := 0, slots := 0, locals := 0 })
theorem okX8_shown : Ok mX8_shown 3 := ⟨e_memg 772 (by decide +kernel) rfl, by decide +kernel, by decide +kernel, by decide +kernel⟩
def mX8_payOf : Mi := (yX8_payOf, cX8_payOf, 7, (some .int), { frames := 1, cells := 0, slots := 0, locals := 24 })
theorem okX8_payOf : Ok mX8_payOf 3 := ⟨e_memg 768 (by decide +kernel) rfl, by decide +kernel, by decide +kernel, by decide +kernel⟩
def mX8_place : Mi := (yX8_place, cX8_place, 3, (some .int), { frames := 0, cells := 0, slots := 0, locals := 0 })
theorem okX8_place : Ok mX8_place 3 := ⟨e_memg 775 (by decide +kernel) rfl, by decide +kernel, by decide +kernel, by decide +kernel⟩
def mX8_layOut : Mi := (yX8_layOut, cX8_layOut, 5, none, { frames := 2, cells := 0, slots := 0, locals := 50 })
theorem okX8_layOut : Ok mX8_layOut 0 := ⟨e_memg 760 (by decide +kernel) rfl, by decide +kernel, by decide +kernel, by decide +kernel⟩
def mX8_isEnding : Mi := (yX8_isEnding, cX8_isEnding, 4, (some .boolean), { frames := 3, cells := 0, slots := 0, locals := 67 })
theorem okX8_isEnding : Ok mX8_isEnding 3 := ⟨e_memg 756 (by decide +kernel) rfl, by decide +kernel, by decide +kernel, by decide +kernel⟩
def mX8_ending : Mi := (yX8_ending, cX8_ending, 4, (some .int), { frames := 4, cells := 0, slots := 0, locals := 90 })
theorem okX8_ending : Ok mX8_ending 3 := ⟨e_memg 752 (by decide +kernel) rfl, by decide +kernel, by decide +kernel, by decide +kernel⟩
def mX8_playedBest : Mi := (yX8_playedBest, cX8_playedBest, 6, (some .long), { frames := 3, cells := 0, slots := 0, locals := 74 })
theorem okX8_playedBest : Ok mX8_playedBest 0 := ⟨e_memg 788 (by decide +kernel) rfl, by decide +kernel, by decide +kernel, by decide +kernel⟩
def mX8_all : Mi := (yX8_all, cX8_all, 2, (some .long), { frames := 4, cells := 0, slots := 0, locals := 99 })
theorem okX8_all : Ok mX8_all 1 := ⟨e_memg 779 (by decide +kernel) rfl, by decide +kernel, by decide +kernel, by decide +kernel⟩
def mX8_middles : Mi := (yX8_middles, cX8_middles, 5, (some .int), { frames := 0, cells := 0, slots := 0, locals := 0 })
theorem okX8_middles : Ok mX8_middles 2 := ⟨e_memg 805 (by decide +kernel) rfl, by decide +kernel, by decide +kernel, by decide +kernel⟩
def mX8_rows : Mi := (yX8_rows, cX8_rows, 4, (some .int), { frames := 3, cells := 0, slots := 0, locals := 74 })
theorem okX8_rows : Ok mX8_rows 1 := ⟨e_memg 801 (by decide +kernel) rfl, by decide +kernel, by decide +kernel, by decide +kernel⟩
def mX8_nears : Mi := (yX8_nears, cX8_nears, 5, (some .int), { frames := 1, cells := 0, slots := 0, locals := 24 })
theorem okX8_nears : Ok mX8_nears 2 := ⟨e_memg 813 (by decide +kernel) rfl, by decide +kernel, by decide +kernel, by decide +kernel⟩
def mX8_misses : Mi := (yX8_misses, cX8_misses, 2, (some .int), { frames := 2, cells := 0, slots := 0, locals := 48 })
theorem okX8_misses : Ok mX8_misses 1 := ⟨e_memg 809 (by decide +kernel) rfl, by decide +kernel, by decide +kernel, by decide +kernel⟩
def mX8_worthOf : Mi := (yX8_worthOf, cX8_worthOf, 8, (some .long), { frames := 1, cells := 0, slots := 0, locals := 22 })
theorem okX8_worthOf : Ok mX8_worthOf 4 := ⟨e_memg 796 (by decide +kernel) rfl, by decide +kernel, by decide +kernel, by decide +kernel⟩
def mX8_holdOf : Mi := (yX8_holdOf, cX8_holdOf, 6, (some .int), { frames := 2, cells := 0, slots := 0, locals := 49 })
theorem okX8_holdOf : Ok mX8_holdOf 3 := ⟨e_memg 792 (by decide +kernel) rfl, by decide +kernel, by decide +kernel, by decide +kernel⟩
def mX8_worth : Mi := (yX8_worth, cX8_worth, 5, (some .long), { frames := 4, cells := 0, slots := 0, locals := 90 })
theorem okX8_worth : Ok mX8_worth 4 := ⟨e_memg 817 (by decide +kernel) rfl, by decide +kernel, by decide +kernel, by decide +kernel⟩
def mX8_hold : Mi := (yX8_hold, cX8_hold, 4, (some .int), { frames := 4, cells := 0, slots := 0, locals := 90 })
theorem okX8_hold : Ok mX8_hold 3 := ⟨e_memg 821 (by decide +kernel) rfl, by decide +kernel, by decide +kernel, by decide +kernel⟩
def mX8_nudge : Mi := (yX8_nudge, cX8_nudge, 13, (some .int), { frames := 4, cells := 0, slots := 0, locals := 90 })
theorem okX8_nudge : Ok mX8_nudge 5 := ⟨e_memg 825 (by decide +kernel) rfl, by decide +kernel, by decide +kernel, by decide +kernel⟩
def mX8_sumByCounts : Mi := (yX8_sumByCounts, cX8_sumByCounts, 4, (some .long), { frames := 0, cells := 0, slots := 0, locals := 0 })
theorem okX8_sumByCounts : Ok mX8_sumByCounts 0 := ⟨e_memg 835 (by decide +kernel) rfl, by decide +kernel, by decide +kernel, by decide +kernel⟩
def mX8_change : Mi := (yX8_change, cX8_change, 9, (some .int), { frames := 3, cells := 0, slots := 0, locals := 74 })
theorem okX8_change : Ok mX8_change 3 := ⟨e_memg 830 (by decide +kernel) rfl, by decide +kernel, by decide +kernel, by decide +kernel⟩
def mX8_room : Mi := (yX8_room, cX8_room, 3, (some .int), { frames := 1, cells := 0, slots := 0, locals := 25 })
theorem okX8_room : Ok mX8_room 1 := ⟨e_memg 839 (by decide +kernel) rfl, by decide +kernel, by decide +kernel, by decide +kernel⟩
def mX8_fill : Mi := (yX8_fill, cX8_fill, 2, (some .int), { frames := 1, cells := 0, slots := 0, locals := 25 })
theorem okX8_fill : Ok mX8_fill 1 := ⟨e_memg 844 (by decide +kernel) rfl, by decide +kernel, by decide +kernel, by decide +kernel⟩
def mX8_play : Mi := (yX8_play, cX8_play, 6, (some .int), { frames := 4, cells := 0, slots := 0, locals := 90 })
theorem okX8_play : Ok mX8_play 3 := ⟨e_memg 848 (by decide +kernel) rfl, by decide +kernel, by decide +kernel, by decide +kernel⟩
def mX8_coins : Mi := (yX8_coins, cX8_coins, 2, (some .int), { frames := 0, cells := 0, slots := 0, locals := 0 })
theorem okX8_coins : Ok mX8_coins 1 := ⟨e_memg 852 (by decide +kernel) rfl, by decide +kernel, by decide +kernel, by decide +kernel⟩
def mX8_bitsOf : Mi := (yX8_bitsOf, cX8_bitsOf, 8, (some .long), { frames := 0, cells := 0, slots := 0, locals := 0 })
theorem okX8_bitsOf : Ok mX8_bitsOf 1 := ⟨e_memg 868 (by decide +kernel) rfl, by decide +kernel, by decide +kernel, by decide +kernel⟩
def mX8_findAmounts : Mi := (yX8_findAmounts, cX8_findAmounts, 4, none, { frames := 3, cells := 0, slots := 0, locals := 74 })
theorem okX8_findAmounts : Ok mX8_findAmounts 0 := ⟨e_memg 861 (by decide +kernel) rfl, by decide +kernel, by decide +kernel, by decide +kernel⟩
def mX8_dryOf : Mi := (yX8_dryOf, cX8_dryOf, 9, (some .double), { frames := 1, cells := 0, slots := 0, locals := 20 })
theorem okX8_dryOf : Ok mX8_dryOf 1 := ⟨e_memg 865 (by decide +kernel) rfl, by decide +kernel, by decide +kernel, by decide +kernel⟩
def mX8_dry : Mi := (yX8_dry, cX8_dry, 5, (some .long), { frames := 4, cells := 0, slots := 0, locals := 97 })
theorem okX8_dry : Ok mX8_dry 2 := ⟨e_memg 856 (by decide +kernel) rfl, by decide +kernel, by decide +kernel, by decide +kernel⟩
def mX8_timesSeen : Mi := (yX8_timesSeen, cX8_timesSeen, 5, (some .int), { frames := 0, cells := 0, slots := 0, locals := 0 })
theorem okX8_timesSeen : Ok mX8_timesSeen 2 := ⟨e_memg 885 (by decide +kernel) rfl, by decide +kernel, by decide +kernel, by decide +kernel⟩
def mX8_favouredOf : Mi := (yX8_favouredOf, cX8_favouredOf, 4, (some .int), { frames := 1, cells := 0, slots := 0, locals := 24 })
theorem okX8_favouredOf : Ok mX8_favouredOf 1 := ⟨e_memg 881 (by decide +kernel) rfl, by decide +kernel, by decide +kernel, by decide +kernel⟩
def mX8_favoured : Mi := (yX8_favoured, cX8_favoured, 2, (some .int), { frames := 2, cells := 0, slots := 0, locals := 47 })
theorem okX8_favoured : Ok mX8_favoured 1 := ⟨e_memg 877 (by decide +kernel) rfl, by decide +kernel, by decide +kernel, by decide +kernel⟩
def mX8_odd : Mi := (yX8_odd, cX8_odd, 9, (some .long), { frames := 2, cells := 0, slots := 0, locals := 47 })
theorem okX8_odd : Ok mX8_odd 1 := ⟨e_memg 889 (by decide +kernel) rfl, by decide +kernel, by decide +kernel, by decide +kernel⟩
def mX8_digest : Mi := (yX8_digest, cX8_digest, 5, (some .long), { frames := 5, cells := 0, slots := 0, locals := 120 })
theorem okX8_digest : Ok mX8_digest 0 := ⟨e_memg 893 (by decide +kernel) rfl, by decide +kernel, by decide +kernel, by decide +kernel⟩
def mJ7_fill_d0a16 : Mi := (yJ7_fill_d0a16, cJ7_fill_d0a16, 5, none, { frames := 0, cells := 0, slots := 0, locals := 0 })
theorem okJ7_fill_d0a16 : Ok mJ7_fill_d0a16 2 := ⟨e_memg 393 (by decide +kernel) rfl, by decide +kernel, by decide +kernel, by decide +kernel⟩
def mJ7_fill_53178 : Mi := (yJ7_fill_53178, cJ7_fill_53178, 4, none, { frames := 0, cells := 0, slots := 0, locals := 0 })
theorem okJ7_fill_53178 : Ok mJ7_fill_53178 2 := ⟨e_memg 61 (by decide +kernel) rfl, by decide +kernel, by decide +kernel, by decide +kernel⟩
def mJ7_fill_7f8df : Mi := (yJ7_fill_7f8df, cJ7_fill_7f8df, 5, none, { frames := 0, cells := 0, slots := 0, locals := 0 })
theorem okJ7_fill_7f8df : Ok mJ7_fill_7f8df 2 := ⟨e_memg 540 (by decide +kernel) rfl, by decide +kernel, by decide +kernel, by decide +kernel⟩
theorem igX0 : ∀ w ∈ wsX00, w ∈ lw_g := fun w h => List.mem_filter.mpr ⟨inX0 w h, by revert w; decide +kernel⟩
theorem igX1 : ∀ w ∈ wsX10, w ∈ lw_g := fun w h => List.mem_filter.mpr ⟨inX1 w h, by revert w; decide +kernel⟩
theorem igX2 : ∀ w ∈ wsX20, w ∈ lw_g := fun w h => List.mem_filter.mpr ⟨inX2 w h, by revert w; decide +kernel⟩
theorem igX3 : ∀ w ∈ wsX30, w ∈ lw_g := fun w h => List.mem_filter.mpr ⟨inX3 w h, by revert w; decide +kernel⟩
theorem igX4 : ∀ w ∈ wsX40, w ∈ lw_g := fun w h => List.mem_filter.mpr ⟨inX4 w h, by revert w; decide +kernel⟩
theorem igX5 : ∀ w ∈ wsX50, w ∈ lw_g := fun w h => List.mem_filter.mpr ⟨inX5 w h, by revert w; decide +kernel⟩
theorem igX6 : ∀ w ∈ wsX60, w ∈ lw_g := fun w h => List.mem_filter.mpr ⟨inX6 w h, by revert w; decide +kernel⟩
theorem igX7 : ∀ w ∈ wsX70, w ∈ lw_g := fun w h => List.mem_filter.mpr ⟨inX7 w h, by revert w; decide +kernel⟩
theorem igX8 : ∀ w ∈ wsX80, w ∈ lw_g := fun w h => List.mem_filter.mpr ⟨inX8 w h, by revert w; decide +kernel⟩
theorem fX0_9 : Fl RX0 9 0 0 := ⟨RX0, TX0, 3, rfl, by decide, igX0, Or.inl (e_memg 197 (by decide +kernel) rfl)⟩
theorem pX0_9 : Fp RX0 9 0 0 (.array .double) true := ⟨RX0, TX0, 3, tyX0, rfl, by decide, igX0, tyX0_ok, nmX0, Or.inl (e_memg 197 (by decide +kernel) rfl), rfl, by decide +kernel, fun _ => ⟨rfl, e_memg 197 (by decide +kernel) rfl⟩⟩
theorem fX0_15 : Fl RX0 15 0 1 := ⟨RX0, TX0, 3, rfl, by decide, igX0, Or.inl (e_memg 198 (by decide +kernel) rfl)⟩
theorem pX0_15 : Fp RX0 15 0 1 (.array .double) false := ⟨RX0, TX0, 3, tyX0, rfl, by decide, igX0, tyX0_ok, nmX0, Or.inl (e_memg 198 (by decide +kernel) rfl), rfl, by decide +kernel, fun h => by cases h⟩
theorem fX0_18 : Fl RX0 18 0 2 := ⟨RX0, TX0, 3, rfl, by decide, igX0, Or.inl (e_memg 199 (by decide +kernel) rfl)⟩
theorem pX0_18 : Fp RX0 18 0 2 (.array .double) false := ⟨RX0, TX0, 3, tyX0, rfl, by decide, igX0, tyX0_ok, nmX0, Or.inl (e_memg 199 (by decide +kernel) rfl), rfl, by decide +kernel, fun h => by cases h⟩
theorem fX0_37 : Fl RX0 37 1 2 := ⟨RX1, TX1, 3, rfl, by decide, igX1, Or.inr ⟨"ThreeReels", e_memn 134 (by decide +kernel) rfl⟩⟩
theorem fX0_43 : Fl RX0 43 1 0 := ⟨RX1, TX1, 3, rfl, by decide, igX1, Or.inr ⟨"ThreeReels", e_memn 130 (by decide +kernel) rfl⟩⟩
theorem fX0_47 : Fl RX0 47 1 1 := ⟨RX1, TX1, 3, rfl, by decide, igX1, Or.inr ⟨"ThreeReels", e_memn 132 (by decide +kernel) rfl⟩⟩
theorem fX1_9 : Fl RX1 9 1 0 := ⟨RX1, TX1, 3, rfl, by decide, igX1, Or.inl (e_memg 129 (by decide +kernel) rfl)⟩
theorem pX1_9 : Fp RX1 9 1 0 (.array .int) true := ⟨RX1, TX1, 3, tyX1, rfl, by decide, igX1, tyX1_ok, nmX1, Or.inl (e_memg 129 (by decide +kernel) rfl), rfl, by decide +kernel, fun _ => ⟨rfl, e_memg 129 (by decide +kernel) rfl⟩⟩
theorem fX1_13 : Fl RX1 13 1 1 := ⟨RX1, TX1, 3, rfl, by decide, igX1, Or.inl (e_memg 131 (by decide +kernel) rfl)⟩
theorem pX1_13 : Fp RX1 13 1 1 (.array .int) true := ⟨RX1, TX1, 3, tyX1, rfl, by decide, igX1, tyX1_ok, nmX1, Or.inl (e_memg 131 (by decide +kernel) rfl), rfl, by decide +kernel, fun _ => ⟨rfl, e_memg 131 (by decide +kernel) rfl⟩⟩
theorem fX1_16 : Fl RX1 16 1 2 := ⟨RX1, TX1, 3, rfl, by decide, igX1, Or.inl (e_memg 133 (by decide +kernel) rfl)⟩
theorem pX1_16 : Fp RX1 16 1 2 .int false := ⟨RX1, TX1, 3, tyX1, rfl, by decide, igX1, tyX1_ok, nmX1, Or.inl (e_memg 133 (by decide +kernel) rfl), rfl, by decide +kernel, fun h => by cases h⟩
theorem fX2_9 : Fl RX2 9 2 0 := ⟨RX2, TX2, 4, rfl, by decide, igX2, Or.inl (e_memg 87 (by decide +kernel) rfl)⟩
theorem pX2_9 : Fp RX2 9 2 0 (.array .int) true := ⟨RX2, TX2, 4, tyX2, rfl, by decide, igX2, tyX2_ok, nmX2, Or.inl (e_memg 87 (by decide +kernel) rfl), rfl, by decide +kernel, fun _ => ⟨rfl, e_memg 87 (by decide +kernel) rfl⟩⟩
theorem fX2_15 : Fl RX2 15 2 1 := ⟨RX2, TX2, 4, rfl, by decide, igX2, Or.inl (e_memg 88 (by decide +kernel) rfl)⟩
theorem pX2_15 : Fp RX2 15 2 1 (.array .int) true := ⟨RX2, TX2, 4, tyX2, rfl, by decide, igX2, tyX2_ok, nmX2, Or.inl (e_memg 88 (by decide +kernel) rfl), rfl, by decide +kernel, fun _ => ⟨rfl, e_memg 88 (by decide +kernel) rfl⟩⟩
theorem fX2_18 : Fl RX2 18 2 2 := ⟨RX2, TX2, 4, rfl, by decide, igX2, Or.inl (e_memg 89 (by decide +kernel) rfl)⟩
theorem pX2_18 : Fp RX2 18 2 2 (.array .int) true := ⟨RX2, TX2, 4, tyX2, rfl, by decide, igX2, tyX2_ok, nmX2, Or.inl (e_memg 89 (by decide +kernel) rfl), rfl, by decide +kernel, fun _ => ⟨rfl, e_memg 89 (by decide +kernel) rfl⟩⟩
theorem fX2_21 : Fl RX2 21 2 3 := ⟨RX2, TX2, 4, rfl, by decide, igX2, Or.inl (e_memg 90 (by decide +kernel) rfl)⟩
theorem pX2_21 : Fp RX2 21 2 3 .int false := ⟨RX2, TX2, 4, tyX2, rfl, by decide, igX2, tyX2_ok, nmX2, Or.inl (e_memg 90 (by decide +kernel) rfl), rfl, by decide +kernel, fun h => by cases h⟩
theorem fX3_9 : Fl RX3 9 3 0 := ⟨RX3, TX3, 2, rfl, by decide, igX3, Or.inl (e_memg 183 (by decide +kernel) rfl)⟩
theorem pX3_9 : Fp RX3 9 3 0 (.array .int) true := ⟨RX3, TX3, 2, tyX3, rfl, by decide, igX3, tyX3_ok, nmX3, Or.inl (e_memg 183 (by decide +kernel) rfl), rfl, by decide +kernel, fun _ => ⟨rfl, e_memg 183 (by decide +kernel) rfl⟩⟩
theorem fX3_15 : Fl RX3 15 3 1 := ⟨RX3, TX3, 2, rfl, by decide, igX3, Or.inl (e_memg 184 (by decide +kernel) rfl)⟩
theorem pX3_15 : Fp RX3 15 3 1 .int false := ⟨RX3, TX3, 2, tyX3, rfl, by decide, igX3, tyX3_ok, nmX3, Or.inl (e_memg 184 (by decide +kernel) rfl), rfl, by decide +kernel, fun h => by cases h⟩
theorem fX4_9 : Fl RX4 9 4 0 := ⟨RX4, TX4, 4, rfl, by decide, igX4, Or.inl (e_memg 66 (by decide +kernel) rfl)⟩
theorem pX4_9 : Fp RX4 9 4 0 (.array .int) true := ⟨RX4, TX4, 4, tyX4, rfl, by decide, igX4, tyX4_ok, nmX4, Or.inl (e_memg 66 (by decide +kernel) rfl), rfl, by decide +kernel, fun _ => ⟨rfl, e_memg 66 (by decide +kernel) rfl⟩⟩
theorem fX4_15 : Fl RX4 15 4 1 := ⟨RX4, TX4, 4, rfl, by decide, igX4, Or.inl (e_memg 67 (by decide +kernel) rfl)⟩
theorem pX4_15 : Fp RX4 15 4 1 (.array .int) true := ⟨RX4, TX4, 4, tyX4, rfl, by decide, igX4, tyX4_ok, nmX4, Or.inl (e_memg 67 (by decide +kernel) rfl), rfl, by decide +kernel, fun _ => ⟨rfl, e_memg 67 (by decide +kernel) rfl⟩⟩
theorem fX4_18 : Fl RX4 18 4 2 := ⟨RX4, TX4, 4, rfl, by decide, igX4, Or.inl (e_memg 68 (by decide +kernel) rfl)⟩
theorem pX4_18 : Fp RX4 18 4 2 (.array .int) true := ⟨RX4, TX4, 4, tyX4, rfl, by decide, igX4, tyX4_ok, nmX4, Or.inl (e_memg 68 (by decide +kernel) rfl), rfl, by decide +kernel, fun _ => ⟨rfl, e_memg 68 (by decide +kernel) rfl⟩⟩
theorem fX4_21 : Fl RX4 21 4 3 := ⟨RX4, TX4, 4, rfl, by decide, igX4, Or.inl (e_memg 69 (by decide +kernel) rfl)⟩
theorem pX4_21 : Fp RX4 21 4 3 (.array .int) true := ⟨RX4, TX4, 4, tyX4, rfl, by decide, igX4, tyX4_ok, nmX4, Or.inl (e_memg 69 (by decide +kernel) rfl), rfl, by decide +kernel, fun _ => ⟨rfl, e_memg 69 (by decide +kernel) rfl⟩⟩
theorem fX5_9 : Fl RX5 9 5 0 := ⟨RX5, TX5, 4, rfl, by decide, igX5, Or.inl (e_memg 107 (by decide +kernel) rfl)⟩
theorem pX5_9 : Fp RX5 9 5 0 (.array .long) true := ⟨RX5, TX5, 4, tyX5, rfl, by decide, igX5, tyX5_ok, nmX5, Or.inl (e_memg 107 (by decide +kernel) rfl), rfl, by decide +kernel, fun _ => ⟨rfl, e_memg 107 (by decide +kernel) rfl⟩⟩
theorem fX5_15 : Fl RX5 15 5 1 := ⟨RX5, TX5, 4, rfl, by decide, igX5, Or.inl (e_memg 108 (by decide +kernel) rfl)⟩
theorem pX5_15 : Fp RX5 15 5 1 (.array .long) true := ⟨RX5, TX5, 4, tyX5, rfl, by decide, igX5, tyX5_ok, nmX5, Or.inl (e_memg 108 (by decide +kernel) rfl), rfl, by decide +kernel, fun _ => ⟨rfl, e_memg 108 (by decide +kernel) rfl⟩⟩
theorem fX5_18 : Fl RX5 18 5 2 := ⟨RX5, TX5, 4, rfl, by decide, igX5, Or.inl (e_memg 109 (by decide +kernel) rfl)⟩
theorem pX5_18 : Fp RX5 18 5 2 .long false := ⟨RX5, TX5, 4, tyX5, rfl, by decide, igX5, tyX5_ok, nmX5, Or.inl (e_memg 109 (by decide +kernel) rfl), rfl, by decide +kernel, fun h => by cases h⟩
theorem fX5_22 : Fl RX5 22 5 3 := ⟨RX5, TX5, 4, rfl, by decide, igX5, Or.inl (e_memg 111 (by decide +kernel) rfl)⟩
theorem pX5_22 : Fp RX5 22 5 3 .int false := ⟨RX5, TX5, 4, tyX5, rfl, by decide, igX5, tyX5_ok, nmX5, Or.inl (e_memg 111 (by decide +kernel) rfl), rfl, by decide +kernel, fun h => by cases h⟩
theorem fX6_9 : Fl RX6 9 6 0 := ⟨RX6, TX6, 7, rfl, by decide, igX6, Or.inl (e_memg 148 (by decide +kernel) rfl)⟩
theorem pX6_9 : Fp RX6 9 6 0 .int false := ⟨RX6, TX6, 7, tyX6, rfl, by decide, igX6, tyX6_ok, nmX6, Or.inl (e_memg 148 (by decide +kernel) rfl), rfl, by decide +kernel, fun h => by cases h⟩
theorem fX6_15 : Fl RX6 15 6 1 := ⟨RX6, TX6, 7, rfl, by decide, igX6, Or.inl (e_memg 150 (by decide +kernel) rfl)⟩
theorem pX6_15 : Fp RX6 15 6 1 .int false := ⟨RX6, TX6, 7, tyX6, rfl, by decide, igX6, tyX6_ok, nmX6, Or.inl (e_memg 150 (by decide +kernel) rfl), rfl, by decide +kernel, fun h => by cases h⟩
theorem fX6_18 : Fl RX6 18 6 2 := ⟨RX6, TX6, 7, rfl, by decide, igX6, Or.inl (e_memg 152 (by decide +kernel) rfl)⟩
theorem pX6_18 : Fp RX6 18 6 2 .int false := ⟨RX6, TX6, 7, tyX6, rfl, by decide, igX6, tyX6_ok, nmX6, Or.inl (e_memg 152 (by decide +kernel) rfl), rfl, by decide +kernel, fun h => by cases h⟩
theorem fX6_21 : Fl RX6 21 6 3 := ⟨RX6, TX6, 7, rfl, by decide, igX6, Or.inl (e_memg 154 (by decide +kernel) rfl)⟩
theorem pX6_21 : Fp RX6 21 6 3 .int false := ⟨RX6, TX6, 7, tyX6, rfl, by decide, igX6, tyX6_ok, nmX6, Or.inl (e_memg 154 (by decide +kernel) rfl), rfl, by decide +kernel, fun h => by cases h⟩
theorem fX6_24 : Fl RX6 24 6 4 := ⟨RX6, TX6, 7, rfl, by decide, igX6, Or.inl (e_memg 156 (by decide +kernel) rfl)⟩
theorem pX6_24 : Fp RX6 24 6 4 .int false := ⟨RX6, TX6, 7, tyX6, rfl, by decide, igX6, tyX6_ok, nmX6, Or.inl (e_memg 156 (by decide +kernel) rfl), rfl, by decide +kernel, fun h => by cases h⟩
theorem fX6_27 : Fl RX6 27 6 5 := ⟨RX6, TX6, 7, rfl, by decide, igX6, Or.inl (e_memg 158 (by decide +kernel) rfl)⟩
theorem pX6_27 : Fp RX6 27 6 5 .int false := ⟨RX6, TX6, 7, tyX6, rfl, by decide, igX6, tyX6_ok, nmX6, Or.inl (e_memg 158 (by decide +kernel) rfl), rfl, by decide +kernel, fun h => by cases h⟩
theorem pX6_30 : Fp RX6 30 6 6 .int false := ⟨RX6, TX6, 7, tyX6, rfl, by decide, igX6, tyX6_ok, nmX6, Or.inl (e_memg 160 (by decide +kernel) rfl), rfl, by decide +kernel, fun h => by cases h⟩
theorem fX7_10 : Fl RX7 10 7 0 := ⟨RX7, TX7, 12, rfl, by decide, igX7, Or.inl (e_memg 208 (by decide +kernel) rfl)⟩
theorem pX7_10 : Fp RX7 10 7 0 (.object "ThreeReels$Strips") true := ⟨RX7, TX7, 12, tyX7, rfl, by decide, igX7, tyX7_ok, nmX7, Or.inl (e_memg 208 (by decide +kernel) rfl), rfl, by decide +kernel, fun _ => ⟨rfl, e_memg 208 (by decide +kernel) rfl⟩⟩
theorem fX7_16 : Fl RX7 16 7 1 := ⟨RX7, TX7, 12, rfl, by decide, igX7, Or.inl (e_memg 209 (by decide +kernel) rfl)⟩
theorem pX7_16 : Fp RX7 16 7 1 (.array .int) true := ⟨RX7, TX7, 12, tyX7, rfl, by decide, igX7, tyX7_ok, nmX7, Or.inl (e_memg 209 (by decide +kernel) rfl), rfl, by decide +kernel, fun _ => ⟨rfl, e_memg 209 (by decide +kernel) rfl⟩⟩
theorem fX7_23 : Fl RX7 23 7 2 := ⟨RX7, TX7, 12, rfl, by decide, igX7, Or.inl (e_memg 210 (by decide +kernel) rfl)⟩
theorem pX7_23 : Fp RX7 23 7 2 (.object "ThreeReels$PayTable") true := ⟨RX7, TX7, 12, tyX7, rfl, by decide, igX7, tyX7_ok, nmX7, Or.inl (e_memg 210 (by decide +kernel) rfl), rfl, by decide +kernel, fun _ => ⟨rfl, e_memg 210 (by decide +kernel) rfl⟩⟩
theorem fX7_30 : Fl RX7 30 7 3 := ⟨RX7, TX7, 12, rfl, by decide, igX7, Or.inl (e_memg 211 (by decide +kernel) rfl)⟩
theorem pX7_30 : Fp RX7 30 7 3 (.object "ThreeReels$Survey") true := ⟨RX7, TX7, 12, tyX7, rfl, by decide, igX7, tyX7_ok, nmX7, Or.inl (e_memg 211 (by decide +kernel) rfl), rfl, by decide +kernel, fun _ => ⟨rfl, e_memg 211 (by decide +kernel) rfl⟩⟩
theorem fX7_37 : Fl RX7 37 7 4 := ⟨RX7, TX7, 12, rfl, by decide, igX7, Or.inl (e_memg 212 (by decide +kernel) rfl)⟩
theorem pX7_37 : Fp RX7 37 7 4 (.object "ThreeReels$PayCounts") true := ⟨RX7, TX7, 12, tyX7, rfl, by decide, igX7, tyX7_ok, nmX7, Or.inl (e_memg 212 (by decide +kernel) rfl), rfl, by decide +kernel, fun _ => ⟨rfl, e_memg 212 (by decide +kernel) rfl⟩⟩
theorem fX7_44 : Fl RX7 44 7 5 := ⟨RX7, TX7, 12, rfl, by decide, igX7, Or.inl (e_memg 213 (by decide +kernel) rfl)⟩
theorem pX7_44 : Fp RX7 44 7 5 (.object "ThreeReels$Till") true := ⟨RX7, TX7, 12, tyX7, rfl, by decide, igX7, tyX7_ok, nmX7, Or.inl (e_memg 213 (by decide +kernel) rfl), rfl, by decide +kernel, fun _ => ⟨rfl, e_memg 213 (by decide +kernel) rfl⟩⟩
theorem fX7_51 : Fl RX7 51 7 6 := ⟨RX7, TX7, 12, rfl, by decide, igX7, Or.inl (e_memg 214 (by decide +kernel) rfl)⟩
theorem pX7_51 : Fp RX7 51 7 6 (.object "ThreeReels$Sightings") true := ⟨RX7, TX7, 12, tyX7, rfl, by decide, igX7, tyX7_ok, nmX7, Or.inl (e_memg 214 (by decide +kernel) rfl), rfl, by decide +kernel, fun _ => ⟨rfl, e_memg 214 (by decide +kernel) rfl⟩⟩
theorem fX7_58 : Fl RX7 58 7 7 := ⟨RX7, TX7, 12, rfl, by decide, igX7, Or.inl (e_memg 215 (by decide +kernel) rfl)⟩
theorem pX7_58 : Fp RX7 58 7 7 (.object "ThreeReels$Chances") true := ⟨RX7, TX7, 12, tyX7, rfl, by decide, igX7, tyX7_ok, nmX7, Or.inl (e_memg 215 (by decide +kernel) rfl), rfl, by decide +kernel, fun _ => ⟨rfl, e_memg 215 (by decide +kernel) rfl⟩⟩
theorem fX7_62 : Fl RX7 62 7 8 := ⟨RX7, TX7, 12, rfl, by decide, igX7, Or.inl (e_memg 216 (by decide +kernel) rfl)⟩
theorem pX7_62 : Fp RX7 62 7 8 (.array .long) true := ⟨RX7, TX7, 12, tyX7, rfl, by decide, igX7, tyX7_ok, nmX7, Or.inl (e_memg 216 (by decide +kernel) rfl), rfl, by decide +kernel, fun _ => ⟨rfl, e_memg 216 (by decide +kernel) rfl⟩⟩
theorem fX7_66 : Fl RX7 66 7 9 := ⟨RX7, TX7, 12, rfl, by decide, igX7, Or.inl (e_memg 217 (by decide +kernel) rfl)⟩
theorem pX7_66 : Fp RX7 66 7 9 .int false := ⟨RX7, TX7, 12, tyX7, rfl, by decide, igX7, tyX7_ok, nmX7, Or.inl (e_memg 217 (by decide +kernel) rfl), rfl, by decide +kernel, fun h => by cases h⟩
theorem fX7_70 : Fl RX7 70 7 10 := ⟨RX7, TX7, 12, rfl, by decide, igX7, Or.inl (e_memg 218 (by decide +kernel) rfl)⟩
theorem pX7_70 : Fp RX7 70 7 10 .boolean false := ⟨RX7, TX7, 12, tyX7, rfl, by decide, igX7, tyX7_ok, nmX7, Or.inl (e_memg 218 (by decide +kernel) rfl), rfl, by decide +kernel, fun h => by cases h⟩
theorem fX7_74 : Fl RX7 74 7 11 := ⟨RX7, TX7, 12, rfl, by decide, igX7, Or.inl (e_memg 219 (by decide +kernel) rfl)⟩
theorem pX7_74 : Fp RX7 74 7 11 .boolean false := ⟨RX7, TX7, 12, tyX7, rfl, by decide, igX7, tyX7_ok, nmX7, Or.inl (e_memg 219 (by decide +kernel) rfl), rfl, by decide +kernel, fun h => by cases h⟩
theorem fX7_117 : Fl RX7 117 2 3 := ⟨RX2, TX2, 4, rfl, by decide, igX2, Or.inr ⟨"ThreeReels", e_memn 91 (by decide +kernel) rfl⟩⟩
theorem fX7_188 : Fl RX7 188 6 1 := ⟨RX6, TX6, 7, rfl, by decide, igX6, Or.inr ⟨"ThreeReels", e_memn 151 (by decide +kernel) rfl⟩⟩
theorem pX7_188 : Fp RX7 188 6 1 .int false := ⟨RX6, TX6, 7, tyX6, rfl, by decide, igX6, tyX6_ok, nmX6, Or.inr ⟨"ThreeReels", e_memn 151 (by decide +kernel) rfl⟩, rfl, by decide +kernel, fun h => by cases h⟩
theorem fX7_191 : Fl RX7 191 6 0 := ⟨RX6, TX6, 7, rfl, by decide, igX6, Or.inr ⟨"ThreeReels", e_memn 149 (by decide +kernel) rfl⟩⟩
theorem pX7_191 : Fp RX7 191 6 0 .int false := ⟨RX6, TX6, 7, tyX6, rfl, by decide, igX6, tyX6_ok, nmX6, Or.inr ⟨"ThreeReels", e_memn 149 (by decide +kernel) rfl⟩, rfl, by decide +kernel, fun h => by cases h⟩
theorem fX7_194 : Fl RX7 194 6 6 := ⟨RX6, TX6, 7, rfl, by decide, igX6, Or.inr ⟨"ThreeReels", e_memn 161 (by decide +kernel) rfl⟩⟩
theorem pX7_194 : Fp RX7 194 6 6 .int false := ⟨RX6, TX6, 7, tyX6, rfl, by decide, igX6, tyX6_ok, nmX6, Or.inr ⟨"ThreeReels", e_memn 161 (by decide +kernel) rfl⟩, rfl, by decide +kernel, fun h => by cases h⟩
theorem fX7_205 : Fl RX7 205 6 2 := ⟨RX6, TX6, 7, rfl, by decide, igX6, Or.inr ⟨"ThreeReels", e_memn 153 (by decide +kernel) rfl⟩⟩
theorem fX7_208 : Fl RX7 208 6 3 := ⟨RX6, TX6, 7, rfl, by decide, igX6, Or.inr ⟨"ThreeReels", e_memn 155 (by decide +kernel) rfl⟩⟩
theorem fX7_211 : Fl RX7 211 6 4 := ⟨RX6, TX6, 7, rfl, by decide, igX6, Or.inr ⟨"ThreeReels", e_memn 157 (by decide +kernel) rfl⟩⟩
theorem fX7_214 : Fl RX7 214 6 5 := ⟨RX6, TX6, 7, rfl, by decide, igX6, Or.inr ⟨"ThreeReels", e_memn 159 (by decide +kernel) rfl⟩⟩
theorem fX7_217 : Fl RX7 217 3 1 := ⟨RX3, TX3, 2, rfl, by decide, igX3, Or.inr ⟨"ThreeReels", e_memn 185 (by decide +kernel) rfl⟩⟩
theorem fX7_273 : Fl RX7 273 5 2 := ⟨RX5, TX5, 4, rfl, by decide, igX5, Or.inr ⟨"ThreeReels", e_memn 110 (by decide +kernel) rfl⟩⟩
theorem fX7_277 : Fl RX7 277 5 3 := ⟨RX5, TX5, 4, rfl, by decide, igX5, Or.inr ⟨"ThreeReels", e_memn 112 (by decide +kernel) rfl⟩⟩
theorem fX8_7 : Fl RX8 7 8 0 := ⟨RX8, TX8, 34, rfl, by decide, igX8, Or.inl (e_memg 597 (by decide +kernel) rfl)⟩
theorem pX8_7 : Fp RX8 7 8 0 (.array .int) true := ⟨RX8, TX8, 34, tyX8, rfl, by decide, igX8, tyX8_ok, nmX8, Or.inl (e_memg 597 (by decide +kernel) rfl), rfl, by decide +kernel, fun _ => ⟨rfl, e_memg 597 (by decide +kernel) rfl⟩⟩
theorem fX8_13 : Fl RX8 13 8 1 := ⟨RX8, TX8, 34, rfl, by decide, igX8, Or.inl (e_memg 598 (by decide +kernel) rfl)⟩
theorem pX8_13 : Fp RX8 13 8 1 (.array .int) true := ⟨RX8, TX8, 34, tyX8, rfl, by decide, igX8, tyX8_ok, nmX8, Or.inl (e_memg 598 (by decide +kernel) rfl), rfl, by decide +kernel, fun _ => ⟨rfl, e_memg 598 (by decide +kernel) rfl⟩⟩
theorem fX8_16 : Fl RX8 16 8 2 := ⟨RX8, TX8, 34, rfl, by decide, igX8, Or.inl (e_memg 599 (by decide +kernel) rfl)⟩
theorem pX8_16 : Fp RX8 16 8 2 (.array .int) true := ⟨RX8, TX8, 34, tyX8, rfl, by decide, igX8, tyX8_ok, nmX8, Or.inl (e_memg 599 (by decide +kernel) rfl), rfl, by decide +kernel, fun _ => ⟨rfl, e_memg 599 (by decide +kernel) rfl⟩⟩
theorem fX8_19 : Fl RX8 19 8 4 := ⟨RX8, TX8, 34, rfl, by decide, igX8, Or.inl (e_memg 601 (by decide +kernel) rfl)⟩
theorem pX8_19 : Fp RX8 19 8 4 (.array .int) true := ⟨RX8, TX8, 34, tyX8, rfl, by decide, igX8, tyX8_ok, nmX8, Or.inl (e_memg 601 (by decide +kernel) rfl), rfl, by decide +kernel, fun _ => ⟨rfl, e_memg 601 (by decide +kernel) rfl⟩⟩
theorem fX8_22 : Fl RX8 22 8 5 := ⟨RX8, TX8, 34, rfl, by decide, igX8, Or.inl (e_memg 602 (by decide +kernel) rfl)⟩
theorem pX8_22 : Fp RX8 22 8 5 (.array .int) true := ⟨RX8, TX8, 34, tyX8, rfl, by decide, igX8, tyX8_ok, nmX8, Or.inl (e_memg 602 (by decide +kernel) rfl), rfl, by decide +kernel, fun _ => ⟨rfl, e_memg 602 (by decide +kernel) rfl⟩⟩
theorem fX8_25 : Fl RX8 25 8 6 := ⟨RX8, TX8, 34, rfl, by decide, igX8, Or.inl (e_memg 603 (by decide +kernel) rfl)⟩
theorem pX8_25 : Fp RX8 25 8 6 (.array .int) true := ⟨RX8, TX8, 34, tyX8, rfl, by decide, igX8, tyX8_ok, nmX8, Or.inl (e_memg 603 (by decide +kernel) rfl), rfl, by decide +kernel, fun _ => ⟨rfl, e_memg 603 (by decide +kernel) rfl⟩⟩
theorem fX8_28 : Fl RX8 28 8 7 := ⟨RX8, TX8, 34, rfl, by decide, igX8, Or.inl (e_memg 604 (by decide +kernel) rfl)⟩
theorem pX8_28 : Fp RX8 28 8 7 (.array .int) true := ⟨RX8, TX8, 34, tyX8, rfl, by decide, igX8, tyX8_ok, nmX8, Or.inl (e_memg 604 (by decide +kernel) rfl), rfl, by decide +kernel, fun _ => ⟨rfl, e_memg 604 (by decide +kernel) rfl⟩⟩
theorem fX8_31 : Fl RX8 31 8 8 := ⟨RX8, TX8, 34, rfl, by decide, igX8, Or.inl (e_memg 605 (by decide +kernel) rfl)⟩
theorem pX8_31 : Fp RX8 31 8 8 .int false := ⟨RX8, TX8, 34, tyX8, rfl, by decide, igX8, tyX8_ok, nmX8, Or.inl (e_memg 605 (by decide +kernel) rfl), rfl, by decide +kernel, fun h => by cases h⟩
theorem fX8_35 : Fl RX8 35 8 10 := ⟨RX8, TX8, 34, rfl, by decide, igX8, Or.inl (e_memg 607 (by decide +kernel) rfl)⟩
theorem pX8_35 : Fp RX8 35 8 10 (.array .int) true := ⟨RX8, TX8, 34, tyX8, rfl, by decide, igX8, tyX8_ok, nmX8, Or.inl (e_memg 607 (by decide +kernel) rfl), rfl, by decide +kernel, fun _ => ⟨rfl, e_memg 607 (by decide +kernel) rfl⟩⟩
theorem fX8_38 : Fl RX8 38 8 11 := ⟨RX8, TX8, 34, rfl, by decide, igX8, Or.inl (e_memg 608 (by decide +kernel) rfl)⟩
theorem pX8_38 : Fp RX8 38 8 11 (.array .int) true := ⟨RX8, TX8, 34, tyX8, rfl, by decide, igX8, tyX8_ok, nmX8, Or.inl (e_memg 608 (by decide +kernel) rfl), rfl, by decide +kernel, fun _ => ⟨rfl, e_memg 608 (by decide +kernel) rfl⟩⟩
theorem fX8_41 : Fl RX8 41 8 12 := ⟨RX8, TX8, 34, rfl, by decide, igX8, Or.inl (e_memg 609 (by decide +kernel) rfl)⟩
theorem pX8_41 : Fp RX8 41 8 12 (.array .int) true := ⟨RX8, TX8, 34, tyX8, rfl, by decide, igX8, tyX8_ok, nmX8, Or.inl (e_memg 609 (by decide +kernel) rfl), rfl, by decide +kernel, fun _ => ⟨rfl, e_memg 609 (by decide +kernel) rfl⟩⟩
theorem fX8_44 : Fl RX8 44 8 13 := ⟨RX8, TX8, 34, rfl, by decide, igX8, Or.inl (e_memg 610 (by decide +kernel) rfl)⟩
theorem pX8_44 : Fp RX8 44 8 13 (.array .int) true := ⟨RX8, TX8, 34, tyX8, rfl, by decide, igX8, tyX8_ok, nmX8, Or.inl (e_memg 610 (by decide +kernel) rfl), rfl, by decide +kernel, fun _ => ⟨rfl, e_memg 610 (by decide +kernel) rfl⟩⟩
theorem fX8_47 : Fl RX8 47 8 16 := ⟨RX8, TX8, 34, rfl, by decide, igX8, Or.inl (e_memg 613 (by decide +kernel) rfl)⟩
theorem pX8_47 : Fp RX8 47 8 16 (.array .long) true := ⟨RX8, TX8, 34, tyX8, rfl, by decide, igX8, tyX8_ok, nmX8, Or.inl (e_memg 613 (by decide +kernel) rfl), rfl, by decide +kernel, fun _ => ⟨rfl, e_memg 613 (by decide +kernel) rfl⟩⟩
theorem fX8_51 : Fl RX8 51 8 17 := ⟨RX8, TX8, 34, rfl, by decide, igX8, Or.inl (e_memg 614 (by decide +kernel) rfl)⟩
theorem pX8_51 : Fp RX8 51 8 17 (.array .long) true := ⟨RX8, TX8, 34, tyX8, rfl, by decide, igX8, tyX8_ok, nmX8, Or.inl (e_memg 614 (by decide +kernel) rfl), rfl, by decide +kernel, fun _ => ⟨rfl, e_memg 614 (by decide +kernel) rfl⟩⟩
theorem fX8_54 : Fl RX8 54 8 18 := ⟨RX8, TX8, 34, rfl, by decide, igX8, Or.inl (e_memg 615 (by decide +kernel) rfl)⟩
theorem pX8_54 : Fp RX8 54 8 18 (.array .int) true := ⟨RX8, TX8, 34, tyX8, rfl, by decide, igX8, tyX8_ok, nmX8, Or.inl (e_memg 615 (by decide +kernel) rfl), rfl, by decide +kernel, fun _ => ⟨rfl, e_memg 615 (by decide +kernel) rfl⟩⟩
theorem fX8_57 : Fl RX8 57 8 19 := ⟨RX8, TX8, 34, rfl, by decide, igX8, Or.inl (e_memg 616 (by decide +kernel) rfl)⟩
theorem pX8_57 : Fp RX8 57 8 19 .int false := ⟨RX8, TX8, 34, tyX8, rfl, by decide, igX8, tyX8_ok, nmX8, Or.inl (e_memg 616 (by decide +kernel) rfl), rfl, by decide +kernel, fun h => by cases h⟩
theorem fX8_60 : Fl RX8 60 8 27 := ⟨RX8, TX8, 34, rfl, by decide, igX8, Or.inl (e_memg 624 (by decide +kernel) rfl)⟩
theorem pX8_60 : Fp RX8 60 8 27 (.array .int) true := ⟨RX8, TX8, 34, tyX8, rfl, by decide, igX8, tyX8_ok, nmX8, Or.inl (e_memg 624 (by decide +kernel) rfl), rfl, by decide +kernel, fun _ => ⟨rfl, e_memg 624 (by decide +kernel) rfl⟩⟩
theorem fX8_63 : Fl RX8 63 8 28 := ⟨RX8, TX8, 34, rfl, by decide, igX8, Or.inl (e_memg 625 (by decide +kernel) rfl)⟩
theorem pX8_63 : Fp RX8 63 8 28 (.array .int) true := ⟨RX8, TX8, 34, tyX8, rfl, by decide, igX8, tyX8_ok, nmX8, Or.inl (e_memg 625 (by decide +kernel) rfl), rfl, by decide +kernel, fun _ => ⟨rfl, e_memg 625 (by decide +kernel) rfl⟩⟩
theorem fX8_66 : Fl RX8 66 8 29 := ⟨RX8, TX8, 34, rfl, by decide, igX8, Or.inl (e_memg 626 (by decide +kernel) rfl)⟩
theorem pX8_66 : Fp RX8 66 8 29 (.array .int) true := ⟨RX8, TX8, 34, tyX8, rfl, by decide, igX8, tyX8_ok, nmX8, Or.inl (e_memg 626 (by decide +kernel) rfl), rfl, by decide +kernel, fun _ => ⟨rfl, e_memg 626 (by decide +kernel) rfl⟩⟩
theorem fX8_69 : Fl RX8 69 8 31 := ⟨RX8, TX8, 34, rfl, by decide, igX8, Or.inl (e_memg 628 (by decide +kernel) rfl)⟩
theorem pX8_69 : Fp RX8 69 8 31 (.array .double) true := ⟨RX8, TX8, 34, tyX8, rfl, by decide, igX8, tyX8_ok, nmX8, Or.inl (e_memg 628 (by decide +kernel) rfl), rfl, by decide +kernel, fun _ => ⟨rfl, e_memg 628 (by decide +kernel) rfl⟩⟩
theorem fX8_73 : Fl RX8 73 8 32 := ⟨RX8, TX8, 34, rfl, by decide, igX8, Or.inl (e_memg 629 (by decide +kernel) rfl)⟩
theorem pX8_73 : Fp RX8 73 8 32 (.array .double) true := ⟨RX8, TX8, 34, tyX8, rfl, by decide, igX8, tyX8_ok, nmX8, Or.inl (e_memg 629 (by decide +kernel) rfl), rfl, by decide +kernel, fun _ => ⟨rfl, e_memg 629 (by decide +kernel) rfl⟩⟩
theorem fX8_76 : Fl RX8 76 8 33 := ⟨RX8, TX8, 34, rfl, by decide, igX8, Or.inl (e_memg 630 (by decide +kernel) rfl)⟩
theorem pX8_76 : Fp RX8 76 8 33 (.array .double) true := ⟨RX8, TX8, 34, tyX8, rfl, by decide, igX8, tyX8_ok, nmX8, Or.inl (e_memg 630 (by decide +kernel) rfl), rfl, by decide +kernel, fun _ => ⟨rfl, e_memg 630 (by decide +kernel) rfl⟩⟩
theorem fX8_93 : Fl RX8 93 8 26 := ⟨RX8, TX8, 34, rfl, by decide, igX8, Or.inl (e_memg 623 (by decide +kernel) rfl)⟩
theorem pX8_93 : Fp RX8 93 8 26 .int false := ⟨RX8, TX8, 34, tyX8, rfl, by decide, igX8, tyX8_ok, nmX8, Or.inl (e_memg 623 (by decide +kernel) rfl), rfl, by decide +kernel, fun h => by cases h⟩
theorem fX8_96 : Fl RX8 96 8 9 := ⟨RX8, TX8, 34, rfl, by decide, igX8, Or.inl (e_memg 606 (by decide +kernel) rfl)⟩
theorem pX8_96 : Fp RX8 96 8 9 .boolean false := ⟨RX8, TX8, 34, tyX8, rfl, by decide, igX8, tyX8_ok, nmX8, Or.inl (e_memg 606 (by decide +kernel) rfl), rfl, by decide +kernel, fun h => by cases h⟩
theorem fX8_110 : Fl RX8 110 8 3 := ⟨RX8, TX8, 34, rfl, by decide, igX8, Or.inl (e_memg 600 (by decide +kernel) rfl)⟩
theorem pX8_110 : Fp RX8 110 8 3 .int false := ⟨RX8, TX8, 34, tyX8, rfl, by decide, igX8, tyX8_ok, nmX8, Or.inl (e_memg 600 (by decide +kernel) rfl), rfl, by decide +kernel, fun h => by cases h⟩
theorem fX8_122 : Fl RX8 122 8 14 := ⟨RX8, TX8, 34, rfl, by decide, igX8, Or.inl (e_memg 611 (by decide +kernel) rfl)⟩
theorem pX8_122 : Fp RX8 122 8 14 .long false := ⟨RX8, TX8, 34, tyX8, rfl, by decide, igX8, tyX8_ok, nmX8, Or.inl (e_memg 611 (by decide +kernel) rfl), rfl, by decide +kernel, fun h => by cases h⟩
theorem fX8_126 : Fl RX8 126 8 15 := ⟨RX8, TX8, 34, rfl, by decide, igX8, Or.inl (e_memg 612 (by decide +kernel) rfl)⟩
theorem pX8_126 : Fp RX8 126 8 15 .int false := ⟨RX8, TX8, 34, tyX8, rfl, by decide, igX8, tyX8_ok, nmX8, Or.inl (e_memg 612 (by decide +kernel) rfl), rfl, by decide +kernel, fun h => by cases h⟩
theorem fX8_177 : Fl RX8 177 8 20 := ⟨RX8, TX8, 34, rfl, by decide, igX8, Or.inl (e_memg 617 (by decide +kernel) rfl)⟩
theorem pX8_177 : Fp RX8 177 8 20 .int false := ⟨RX8, TX8, 34, tyX8, rfl, by decide, igX8, tyX8_ok, nmX8, Or.inl (e_memg 617 (by decide +kernel) rfl), rfl, by decide +kernel, fun h => by cases h⟩
theorem fX8_180 : Fl RX8 180 8 25 := ⟨RX8, TX8, 34, rfl, by decide, igX8, Or.inl (e_memg 622 (by decide +kernel) rfl)⟩
theorem pX8_180 : Fp RX8 180 8 25 .int false := ⟨RX8, TX8, 34, tyX8, rfl, by decide, igX8, tyX8_ok, nmX8, Or.inl (e_memg 622 (by decide +kernel) rfl), rfl, by decide +kernel, fun h => by cases h⟩
theorem fX8_183 : Fl RX8 183 8 21 := ⟨RX8, TX8, 34, rfl, by decide, igX8, Or.inl (e_memg 618 (by decide +kernel) rfl)⟩
theorem pX8_183 : Fp RX8 183 8 21 .int false := ⟨RX8, TX8, 34, tyX8, rfl, by decide, igX8, tyX8_ok, nmX8, Or.inl (e_memg 618 (by decide +kernel) rfl), rfl, by decide +kernel, fun h => by cases h⟩
theorem fX8_186 : Fl RX8 186 8 22 := ⟨RX8, TX8, 34, rfl, by decide, igX8, Or.inl (e_memg 619 (by decide +kernel) rfl)⟩
theorem pX8_186 : Fp RX8 186 8 22 .int false := ⟨RX8, TX8, 34, tyX8, rfl, by decide, igX8, tyX8_ok, nmX8, Or.inl (e_memg 619 (by decide +kernel) rfl), rfl, by decide +kernel, fun h => by cases h⟩
theorem fX8_189 : Fl RX8 189 8 23 := ⟨RX8, TX8, 34, rfl, by decide, igX8, Or.inl (e_memg 620 (by decide +kernel) rfl)⟩
theorem pX8_189 : Fp RX8 189 8 23 .int false := ⟨RX8, TX8, 34, tyX8, rfl, by decide, igX8, tyX8_ok, nmX8, Or.inl (e_memg 620 (by decide +kernel) rfl), rfl, by decide +kernel, fun h => by cases h⟩
theorem fX8_192 : Fl RX8 192 8 24 := ⟨RX8, TX8, 34, rfl, by decide, igX8, Or.inl (e_memg 621 (by decide +kernel) rfl)⟩
theorem pX8_192 : Fp RX8 192 8 24 .int false := ⟨RX8, TX8, 34, tyX8, rfl, by decide, igX8, tyX8_ok, nmX8, Or.inl (e_memg 621 (by decide +kernel) rfl), rfl, by decide +kernel, fun h => by cases h⟩
theorem fX8_205 : Fl RX8 205 8 30 := ⟨RX8, TX8, 34, rfl, by decide, igX8, Or.inl (e_memg 627 (by decide +kernel) rfl)⟩
theorem pX8_205 : Fp RX8 205 8 30 .int false := ⟨RX8, TX8, 34, tyX8, rfl, by decide, igX8, tyX8_ok, nmX8, Or.inl (e_memg 627 (by decide +kernel) rfl), rfl, by decide +kernel, fun h => by cases h⟩
theorem lX0_21 : Ls RX0 21 mJ7_fill_7f8df.1 := ⟨Or.inl (e_memg 538 (by decide +kernel) rfl), e_memg 539 (by decide +kernel) rfl, e_memg 35 (by decide +kernel) rfl⟩
theorem lX0_33 : Lv RX0 RX0 33 mX0_oneGame.1 := ⟨Or.inl (e_memg 542 (by decide +kernel) rfl), e_memg 544 (by decide +kernel) rfl, e_memg 14 (by decide +kernel) rfl, e_memg 41 (by decide +kernel) rfl⟩
theorem lX1_20 : Lv RX1 RX1 20 mX1_placeOf.1 := ⟨Or.inl (e_memg 527 (by decide +kernel) rfl), e_memg 529 (by decide +kernel) rfl, e_memg 13 (by decide +kernel) rfl, e_memg 38 (by decide +kernel) rfl⟩
theorem lX2_25 : Ls RX2 25 mJ7_fill_53178.1 := ⟨Or.inl (e_memg 86 (by decide +kernel) rfl), e_memg 60 (by decide +kernel) rfl, e_memg 35 (by decide +kernel) rfl⟩
theorem lX2_31 : Ls RX2 31 mX2_fits.1 := ⟨Or.inl (e_memg 322 (by decide +kernel) rfl), e_memg 323 (by decide +kernel) rfl, e_memg 36 (by decide +kernel) rfl⟩
theorem lX2_35 : Ls RX2 35 mX7_lineOf.1 := ⟨Or.inr ⟨"ThreeReels", e_memn 325 (by decide +kernel) rfl⟩, e_memg 326 (by decide +kernel) rfl, e_memg 33 (by decide +kernel) rfl⟩
theorem lX2_39 : Lv RX2 RX2 39 mX2_fitLast.1 := ⟨Or.inl (e_memg 328 (by decide +kernel) rfl), e_memg 330 (by decide +kernel) rfl, e_memg 3 (by decide +kernel) rfl, e_memg 36 (by decide +kernel) rfl⟩
theorem lX3_19 : Ls RX3 19 mJ7_fill_53178.1 := ⟨Or.inl (e_memg 267 (by decide +kernel) rfl), e_memg 60 (by decide +kernel) rfl, e_memg 35 (by decide +kernel) rfl⟩
theorem lX3_25 : Lv RX3 RX3 25 mX3_times.1 := ⟨Or.inl (e_memg 560 (by decide +kernel) rfl), e_memg 561 (by decide +kernel) rfl, e_memg 562 (by decide +kernel) rfl, e_memg 40 (by decide +kernel) rfl⟩
theorem lX4_24 : Ls RX4 24 mJ7_fill_53178.1 := ⟨Or.inl (e_memg 59 (by decide +kernel) rfl), e_memg 60 (by decide +kernel) rfl, e_memg 35 (by decide +kernel) rfl⟩
theorem lX4_30 : Lv RX4 RX4 30 mX4_multiply.1 := ⟨Or.inl (e_memg 62 (by decide +kernel) rfl), e_memg 64 (by decide +kernel) rfl, e_memg 0 (by decide +kernel) rfl, e_memg 34 (by decide +kernel) rfl⟩
theorem lX4_33 : Ls RX4 33 mX7_isReel.1 := ⟨Or.inr ⟨"ThreeReels", e_memn 280 (by decide +kernel) rfl⟩, e_memg 250 (by decide +kernel) rfl, e_memg 33 (by decide +kernel) rfl⟩
theorem lX4_37 : Ls RX4 37 mX7_within.1 := ⟨Or.inr ⟨"ThreeReels", e_memn 281 (by decide +kernel) rfl⟩, e_memg 253 (by decide +kernel) rfl, e_memg 33 (by decide +kernel) rfl⟩
theorem lX4_41 : Lv RX4 RX4 41 mX4_hasStop.1 := ⟨Or.inl (e_memg 352 (by decide +kernel) rfl), e_memg 277 (by decide +kernel) rfl, e_memg 278 (by decide +kernel) rfl, e_memg 34 (by decide +kernel) rfl⟩
theorem lX4_45 : Lv RX4 RX4 45 mX4_put.1 := ⟨Or.inl (e_memg 259 (by decide +kernel) rfl), e_memg 260 (by decide +kernel) rfl, e_memg 261 (by decide +kernel) rfl, e_memg 34 (by decide +kernel) rfl⟩
theorem lX4_49 : Lv RX4 RX4 49 mX4_blank.1 := ⟨Or.inl (e_memg 306 (by decide +kernel) rfl), e_memg 256 (by decide +kernel) rfl, e_memg 257 (by decide +kernel) rfl, e_memg 34 (by decide +kernel) rfl⟩
theorem lX4_53 : Lv RX4 RX4 53 mX4_mostDue.1 := ⟨Or.inl (e_memg 307 (by decide +kernel) rfl), e_memg 309 (by decide +kernel) rfl, e_memg 2 (by decide +kernel) rfl, e_memg 34 (by decide +kernel) rfl⟩
theorem lX4_57 : Lv RX4 RX4 57 mX4_shown.1 := ⟨Or.inl (e_memg 452 (by decide +kernel) rfl), e_memg 286 (by decide +kernel) rfl, e_memg 287 (by decide +kernel) rfl, e_memg 34 (by decide +kernel) rfl⟩
theorem lX4_61 : Lv RX4 RX4 61 mX4_above.1 := ⟨Or.inl (e_memg 457 (by decide +kernel) rfl), e_memg 367 (by decide +kernel) rfl, e_memg 368 (by decide +kernel) rfl, e_memg 34 (by decide +kernel) rfl⟩
theorem lX4_64 : Lv RX4 RX4 64 mX4_below.1 := ⟨Or.inl (e_memg 458 (by decide +kernel) rfl), e_memg 371 (by decide +kernel) rfl, e_memg 372 (by decide +kernel) rfl, e_memg 34 (by decide +kernel) rfl⟩
theorem lX5_26 : Ls RX5 26 mJ7_fill_d0a16.1 := ⟨Or.inl (e_memg 391 (by decide +kernel) rfl), e_memg 392 (by decide +kernel) rfl, e_memg 35 (by decide +kernel) rfl⟩
theorem lX5_32 : Ls RX5 32 mX5_oneAt.1 := ⟨Or.inl (e_memg 402 (by decide +kernel) rfl), e_memg 403 (by decide +kernel) rfl, e_memg 37 (by decide +kernel) rfl⟩
theorem lX5_36 : Ls RX5 36 mX5_twoAt.1 := ⟨Or.inl (e_memg 405 (by decide +kernel) rfl), e_memg 406 (by decide +kernel) rfl, e_memg 37 (by decide +kernel) rfl⟩
theorem lX7_9 : Li RX7 9 mX4_init.1 := ⟨Or.inl (e_memg 55 (by decide +kernel) rfl), e_memg 56 (by decide +kernel) rfl, e_memg 34 (by decide +kernel) rfl⟩
theorem lX7_22 : Li RX7 22 mX2_init.1 := ⟨Or.inl (e_memg 82 (by decide +kernel) rfl), e_memg 83 (by decide +kernel) rfl, e_memg 36 (by decide +kernel) rfl⟩
theorem lX7_29 : Li RX7 29 mX5_init.1 := ⟨Or.inr ⟨"ThreeReels", e_memn 103 (by decide +kernel) rfl⟩, e_memg 104 (by decide +kernel) rfl, e_memg 37 (by decide +kernel) rfl⟩
theorem lX7_36 : Li RX7 36 mX1_init.1 := ⟨Or.inr ⟨"ThreeReels", e_memn 125 (by decide +kernel) rfl⟩, e_memg 126 (by decide +kernel) rfl, e_memg 38 (by decide +kernel) rfl⟩
theorem lX7_43 : Li RX7 43 mX6_init.1 := ⟨Or.inr ⟨"ThreeReels", e_memn 144 (by decide +kernel) rfl⟩, e_memg 145 (by decide +kernel) rfl, e_memg 39 (by decide +kernel) rfl⟩
theorem lX7_50 : Li RX7 50 mX3_init.1 := ⟨Or.inr ⟨"ThreeReels", e_memn 179 (by decide +kernel) rfl⟩, e_memg 180 (by decide +kernel) rfl, e_memg 40 (by decide +kernel) rfl⟩
theorem lX7_57 : Li RX7 57 mX0_init.1 := ⟨Or.inr ⟨"ThreeReels", e_memn 193 (by decide +kernel) rfl⟩, e_memg 194 (by decide +kernel) rfl, e_memg 41 (by decide +kernel) rfl⟩
theorem lX7_77 : Ls RX7 77 mX7_isReel.1 := ⟨Or.inl (e_memg 249 (by decide +kernel) rfl), e_memg 250 (by decide +kernel) rfl, e_memg 33 (by decide +kernel) rfl⟩
theorem lX7_81 : Ls RX7 81 mX7_within.1 := ⟨Or.inl (e_memg 252 (by decide +kernel) rfl), e_memg 253 (by decide +kernel) rfl, e_memg 33 (by decide +kernel) rfl⟩
theorem lX7_85 : Lv RX7 RX4 85 mX4_blank.1 := ⟨Or.inl (e_memg 255 (by decide +kernel) rfl), e_memg 256 (by decide +kernel) rfl, e_memg 257 (by decide +kernel) rfl, e_memg 34 (by decide +kernel) rfl⟩
theorem lX7_89 : Lv RX7 RX3 89 mX3_forget.1 := ⟨Or.inl (e_memg 263 (by decide +kernel) rfl), e_memg 264 (by decide +kernel) rfl, e_memg 265 (by decide +kernel) rfl, e_memg 40 (by decide +kernel) rfl⟩
theorem lX7_92 : Lv RX7 RX7 92 mX7_forgetFound.1 := ⟨Or.inl (e_memg 268 (by decide +kernel) rfl), e_memg 270 (by decide +kernel) rfl, e_memg 1 (by decide +kernel) rfl, e_memg 33 (by decide +kernel) rfl⟩
theorem lX7_95 : Lv RX7 RX4 95 mX4_hasStop.1 := ⟨Or.inl (e_memg 276 (by decide +kernel) rfl), e_memg 277 (by decide +kernel) rfl, e_memg 278 (by decide +kernel) rfl, e_memg 34 (by decide +kernel) rfl⟩
theorem lX7_99 : Ls RX7 99 mX7_isPicture.1 := ⟨Or.inl (e_memg 282 (by decide +kernel) rfl), e_memg 283 (by decide +kernel) rfl, e_memg 33 (by decide +kernel) rfl⟩
theorem lX7_102 : Lv RX7 RX4 102 mX4_shown.1 := ⟨Or.inl (e_memg 285 (by decide +kernel) rfl), e_memg 286 (by decide +kernel) rfl, e_memg 287 (by decide +kernel) rfl, e_memg 34 (by decide +kernel) rfl⟩
theorem lX7_106 : Lv RX7 RX4 106 mX4_put.1 := ⟨Or.inl (e_memg 289 (by decide +kernel) rfl), e_memg 260 (by decide +kernel) rfl, e_memg 261 (by decide +kernel) rfl, e_memg 34 (by decide +kernel) rfl⟩
theorem lX7_110 : Lv RX7 RX4 110 mX4_layEven.1 := ⟨Or.inl (e_memg 302 (by decide +kernel) rfl), e_memg 303 (by decide +kernel) rfl, e_memg 304 (by decide +kernel) rfl, e_memg 34 (by decide +kernel) rfl⟩
theorem lX7_114 : Ls RX7 114 mX7_isWanted.1 := ⟨Or.inl (e_memg 315 (by decide +kernel) rfl), e_memg 316 (by decide +kernel) rfl, e_memg 33 (by decide +kernel) rfl⟩
theorem lX7_120 : Lv RX7 RX2 120 mX2_add.1 := ⟨Or.inl (e_memg 318 (by decide +kernel) rfl), e_memg 319 (by decide +kernel) rfl, e_memg 320 (by decide +kernel) rfl, e_memg 36 (by decide +kernel) rfl⟩
theorem lX7_124 : Lv RX7 RX2 124 mX2_empty.1 := ⟨Or.inl (e_memg 336 (by decide +kernel) rfl), e_memg 337 (by decide +kernel) rfl, e_memg 338 (by decide +kernel) rfl, e_memg 36 (by decide +kernel) rfl⟩
theorem lX7_128 : Lv RX7 RX4 128 mX4_hasEnding.1 := ⟨Or.inl (e_memg 348 (by decide +kernel) rfl), e_memg 349 (by decide +kernel) rfl, e_memg 350 (by decide +kernel) rfl, e_memg 34 (by decide +kernel) rfl⟩
theorem lX7_131 : Lv RX7 RX7 131 mX7_endingPays.1 := ⟨Or.inl (e_memg 353 (by decide +kernel) rfl), e_memg 355 (by decide +kernel) rfl, e_memg 4 (by decide +kernel) rfl, e_memg 33 (by decide +kernel) rfl⟩
theorem lX7_137 : Lv RX7 RX7 137 mX7_playedBest.1 := ⟨Or.inl (e_memg 379 (by decide +kernel) rfl), e_memg 381 (by decide +kernel) rfl, e_memg 6 (by decide +kernel) rfl, e_memg 33 (by decide +kernel) rfl⟩
theorem lX7_141 : Lv RX7 RX7 141 mX7_total.1 := ⟨Or.inl (e_memg 424 (by decide +kernel) rfl), e_memg 426 (by decide +kernel) rfl, e_memg 10 (by decide +kernel) rfl, e_memg 33 (by decide +kernel) rfl⟩
theorem lX7_145 : Lv RX7 RX4 145 mX4_stopsOf.1 := ⟨Or.inl (e_memg 394 (by decide +kernel) rfl), e_memg 395 (by decide +kernel) rfl, e_memg 396 (by decide +kernel) rfl, e_memg 34 (by decide +kernel) rfl⟩
theorem lX7_149 : Lv RX7 RX7 149 mX7_middleLine.1 := ⟨Or.inl (e_memg 357 (by decide +kernel) rfl), e_memg 359 (by decide +kernel) rfl, e_memg 5 (by decide +kernel) rfl, e_memg 33 (by decide +kernel) rfl⟩
theorem lX7_152 : Lv RX7 RX2 152 mX2_firstRow.1 := ⟨Or.inl (e_memg 440 (by decide +kernel) rfl), e_memg 441 (by decide +kernel) rfl, e_memg 442 (by decide +kernel) rfl, e_memg 36 (by decide +kernel) rfl⟩
theorem lX7_155 : Lv RX7 RX4 155 mX4_middles.1 := ⟨Or.inl (e_memg 448 (by decide +kernel) rfl), e_memg 449 (by decide +kernel) rfl, e_memg 450 (by decide +kernel) rfl, e_memg 34 (by decide +kernel) rfl⟩
theorem lX7_158 : Lv RX7 RX4 158 mX4_besides.1 := ⟨Or.inl (e_memg 453 (by decide +kernel) rfl), e_memg 454 (by decide +kernel) rfl, e_memg 455 (by decide +kernel) rfl, e_memg 34 (by decide +kernel) rfl⟩
theorem lX7_161 : Lv RX7 RX7 161 mX7_surveyEndings.1 := ⟨Or.inl (e_memg 383 (by decide +kernel) rfl), e_memg 385 (by decide +kernel) rfl, e_memg 7 (by decide +kernel) rfl, e_memg 33 (by decide +kernel) rfl⟩
theorem lX7_164 : Lv RX7 RX7 164 mX7_worthOf.1 := ⟨Or.inl (e_memg 412 (by decide +kernel) rfl), e_memg 414 (by decide +kernel) rfl, e_memg 9 (by decide +kernel) rfl, e_memg 33 (by decide +kernel) rfl⟩
theorem lX7_168 : Lv RX7 RX7 168 mX7_bestHold.1 := ⟨Or.inl (e_memg 408 (by decide +kernel) rfl), e_memg 410 (by decide +kernel) rfl, e_memg 8 (by decide +kernel) rfl, e_memg 33 (by decide +kernel) rfl⟩
theorem lX7_171 : Lv RX7 RX4 171 mX4_below.1 := ⟨Or.inl (e_memg 370 (by decide +kernel) rfl), e_memg 371 (by decide +kernel) rfl, e_memg 372 (by decide +kernel) rfl, e_memg 34 (by decide +kernel) rfl⟩
theorem lX7_175 : Lv RX7 RX7 175 mX7_weighPictures.1 := ⟨Or.inl (e_memg 476 (by decide +kernel) rfl), e_memg 478 (by decide +kernel) rfl, e_memg 11 (by decide +kernel) rfl, e_memg 33 (by decide +kernel) rfl⟩
theorem lX7_181 : Lv RX7 RX4 181 mX4_endings.1 := ⟨Or.inl (e_memg 428 (by decide +kernel) rfl), e_memg 429 (by decide +kernel) rfl, e_memg 430 (by decide +kernel) rfl, e_memg 34 (by decide +kernel) rfl⟩
theorem lX7_184 : Ls RX7 184 mX7_cut.1 := ⟨Or.inl (e_memg 433 (by decide +kernel) rfl), e_memg 434 (by decide +kernel) rfl, e_memg 33 (by decide +kernel) rfl⟩
theorem lX7_197 : Lv RX7 RX6 197 mX6_take.1 := ⟨Or.inl (e_memg 492 (by decide +kernel) rfl), e_memg 493 (by decide +kernel) rfl, e_memg 494 (by decide +kernel) rfl, e_memg 39 (by decide +kernel) rfl⟩
theorem lX7_200 : Lv RX7 RX6 200 mX6_payOut.1 := ⟨Or.inl (e_memg 499 (by decide +kernel) rfl), e_memg 500 (by decide +kernel) rfl, e_memg 501 (by decide +kernel) rfl, e_memg 39 (by decide +kernel) rfl⟩
theorem lX7_203 : Lv RX7 RX3 203 mX3_add.1 := ⟨Or.inl (e_memg 503 (by decide +kernel) rfl), e_memg 504 (by decide +kernel) rfl, e_memg 505 (by decide +kernel) rfl, e_memg 40 (by decide +kernel) rfl⟩
theorem lX7_220 : Lv RX7 RX7 220 mX7_countPays.1 := ⟨Or.inl (e_memg 515 (by decide +kernel) rfl), e_memg 517 (by decide +kernel) rfl, e_memg 12 (by decide +kernel) rfl, e_memg 33 (by decide +kernel) rfl⟩
theorem lX7_223 : Lv RX7 RX0 223 mX0_runsDry.1 := ⟨Or.inl (e_memg 534 (by decide +kernel) rfl), e_memg 535 (by decide +kernel) rfl, e_memg 536 (by decide +kernel) rfl, e_memg 41 (by decide +kernel) rfl⟩
theorem lX7_227 : Ls RX7 227 mX7_bitsOf.1 := ⟨Or.inl (e_memg 546 (by decide +kernel) rfl), e_memg 547 (by decide +kernel) rfl, e_memg 33 (by decide +kernel) rfl⟩
theorem lX7_231 : Lv RX7 RX3 231 mX3_mostSeen.1 := ⟨Or.inl (e_memg 556 (by decide +kernel) rfl), e_memg 557 (by decide +kernel) rfl, e_memg 558 (by decide +kernel) rfl, e_memg 40 (by decide +kernel) rfl⟩
theorem lX7_236 : Lv RX7 RX3 236 mX3_times.1 := ⟨Or.inl (e_memg 569 (by decide +kernel) rfl), e_memg 561 (by decide +kernel) rfl, e_memg 562 (by decide +kernel) rfl, e_memg 40 (by decide +kernel) rfl⟩
theorem lX7_239 : Lv RX7 RX0 239 mX0_asOften.1 := ⟨Or.inl (e_memg 570 (by decide +kernel) rfl), e_memg 571 (by decide +kernel) rfl, e_memg 572 (by decide +kernel) rfl, e_memg 41 (by decide +kernel) rfl⟩
theorem lX7_247 : Lv RX7 RX4 247 mX4_mixedInto.1 := ⟨Or.inl (e_memg 580 (by decide +kernel) rfl), e_memg 581 (by decide +kernel) rfl, e_memg 582 (by decide +kernel) rfl, e_memg 34 (by decide +kernel) rfl⟩
theorem lX7_251 : Lv RX7 RX2 251 mX2_mixedInto.1 := ⟨Or.inl (e_memg 585 (by decide +kernel) rfl), e_memg 586 (by decide +kernel) rfl, e_memg 587 (by decide +kernel) rfl, e_memg 36 (by decide +kernel) rfl⟩
theorem lX7_252 : Lv RX7 RX7 252 mX7_coins.1 := ⟨Or.inl (e_memg 590 (by decide +kernel) rfl), e_memg 508 (by decide +kernel) rfl, e_memg 509 (by decide +kernel) rfl, e_memg 33 (by decide +kernel) rfl⟩
theorem lX7_255 : Ls RX7 255 mX7_lineOf.1 := ⟨Or.inl (e_memg 361 (by decide +kernel) rfl), e_memg 326 (by decide +kernel) rfl, e_memg 33 (by decide +kernel) rfl⟩
theorem lX7_258 : Lv RX7 RX2 258 mX2_amount.1 := ⟨Or.inl (e_memg 362 (by decide +kernel) rfl), e_memg 363 (by decide +kernel) rfl, e_memg 364 (by decide +kernel) rfl, e_memg 36 (by decide +kernel) rfl⟩
theorem lX7_261 : Lv RX7 RX4 261 mX4_above.1 := ⟨Or.inl (e_memg 366 (by decide +kernel) rfl), e_memg 367 (by decide +kernel) rfl, e_memg 368 (by decide +kernel) rfl, e_memg 34 (by decide +kernel) rfl⟩
theorem lX7_264 : Lv RX7 RX5 264 mX5_begin.1 := ⟨Or.inl (e_memg 387 (by decide +kernel) rfl), e_memg 388 (by decide +kernel) rfl, e_memg 389 (by decide +kernel) rfl, e_memg 37 (by decide +kernel) rfl⟩
theorem lX7_267 : Lv RX7 RX5 267 mX5_add.1 := ⟨Or.inl (e_memg 398 (by decide +kernel) rfl), e_memg 399 (by decide +kernel) rfl, e_memg 400 (by decide +kernel) rfl, e_memg 37 (by decide +kernel) rfl⟩
theorem lX7_270 : Lv RX7 RX1 270 mX1_begin.1 := ⟨Or.inl (e_memg 519 (by decide +kernel) rfl), e_memg 520 (by decide +kernel) rfl, e_memg 521 (by decide +kernel) rfl, e_memg 38 (by decide +kernel) rfl⟩
theorem lX7_271 : Lv RX7 RX1 271 mX1_add.1 := ⟨Or.inl (e_memg 523 (by decide +kernel) rfl), e_memg 524 (by decide +kernel) rfl, e_memg 525 (by decide +kernel) rfl, e_memg 38 (by decide +kernel) rfl⟩
theorem lX7_280 : Lv RX7 RX5 280 mX5_heldPays.1 := ⟨Or.inl (e_memg 416 (by decide +kernel) rfl), e_memg 417 (by decide +kernel) rfl, e_memg 418 (by decide +kernel) rfl, e_memg 37 (by decide +kernel) rfl⟩
theorem lX7_283 : Lv RX7 RX4 283 mX4_stopsHeld.1 := ⟨Or.inl (e_memg 420 (by decide +kernel) rfl), e_memg 421 (by decide +kernel) rfl, e_memg 422 (by decide +kernel) rfl, e_memg 34 (by decide +kernel) rfl⟩
theorem lX8_81 : Ls RX8 81 mX8_in.1 := ⟨Or.inl (e_memg 708 (by decide +kernel) rfl), e_memg 709 (by decide +kernel) rfl, e_memg 42 (by decide +kernel) rfl⟩
theorem lX8_85 : Ls RX8 85 mX8_isReel.1 := ⟨Or.inl (e_memg 704 (by decide +kernel) rfl), e_memg 705 (by decide +kernel) rfl, e_memg 42 (by decide +kernel) rfl⟩
theorem lX8_100 : Lv RX8 RX8 100 mX8_isStop.1 := ⟨Or.inl (e_memg 717 (by decide +kernel) rfl), e_memg 719 (by decide +kernel) rfl, e_memg 15 (by decide +kernel) rfl, e_memg 42 (by decide +kernel) rfl⟩
theorem lX8_115 : Lv RX8 RX8 115 mX8_shown.1 := ⟨Or.inl (e_memg 769 (by decide +kernel) rfl), e_memg 771 (by decide +kernel) rfl, e_memg 20 (by decide +kernel) rfl, e_memg 42 (by decide +kernel) rfl⟩
theorem lX8_119 : Lv RX8 RX8 119 mX8_rowOf.1 := ⟨Or.inl (e_memg 761 (by decide +kernel) rfl), e_memg 763 (by decide +kernel) rfl, e_memg 18 (by decide +kernel) rfl, e_memg 42 (by decide +kernel) rfl⟩
theorem lX8_129 : Lv RX8 RX8 129 mX8_payOf.1 := ⟨Or.inl (e_memg 765 (by decide +kernel) rfl), e_memg 767 (by decide +kernel) rfl, e_memg 19 (by decide +kernel) rfl, e_memg 42 (by decide +kernel) rfl⟩
theorem lX8_132 : Ls RX8 132 mX8_place.1 := ⟨Or.inl (e_memg 773 (by decide +kernel) rfl), e_memg 774 (by decide +kernel) rfl, e_memg 42 (by decide +kernel) rfl⟩
theorem lX8_135 : Lv RX8 RX8 135 mX8_isEnding.1 := ⟨Or.inl (e_memg 753 (by decide +kernel) rfl), e_memg 755 (by decide +kernel) rfl, e_memg 16 (by decide +kernel) rfl, e_memg 42 (by decide +kernel) rfl⟩
theorem lX8_139 : Lv RX8 RX8 139 mX8_layOut.1 := ⟨Or.inl (e_memg 757 (by decide +kernel) rfl), e_memg 759 (by decide +kernel) rfl, e_memg 17 (by decide +kernel) rfl, e_memg 42 (by decide +kernel) rfl⟩
theorem lX8_142 : Lv RX8 RX8 142 mX8_holdOf.1 := ⟨Or.inl (e_memg 789 (by decide +kernel) rfl), e_memg 791 (by decide +kernel) rfl, e_memg 23 (by decide +kernel) rfl, e_memg 42 (by decide +kernel) rfl⟩
theorem lX8_145 : Lv RX8 RX8 145 mX8_worthOf.1 := ⟨Or.inl (e_memg 793 (by decide +kernel) rfl), e_memg 795 (by decide +kernel) rfl, e_memg 24 (by decide +kernel) rfl, e_memg 42 (by decide +kernel) rfl⟩
theorem lX8_149 : Lv RX8 RX8 149 mX8_allEndings.1 := ⟨Or.inl (e_memg 780 (by decide +kernel) rfl), e_memg 782 (by decide +kernel) rfl, e_memg 21 (by decide +kernel) rfl, e_memg 42 (by decide +kernel) rfl⟩
theorem lX8_155 : Lv RX8 RX8 155 mX8_playedBest.1 := ⟨Or.inl (e_memg 785 (by decide +kernel) rfl), e_memg 787 (by decide +kernel) rfl, e_memg 22 (by decide +kernel) rfl, e_memg 42 (by decide +kernel) rfl⟩
theorem lX8_161 : Lv RX8 RX8 161 mX8_middles.1 := ⟨Or.inl (e_memg 802 (by decide +kernel) rfl), e_memg 804 (by decide +kernel) rfl, e_memg 25 (by decide +kernel) rfl, e_memg 42 (by decide +kernel) rfl⟩
theorem lX8_165 : Lv RX8 RX8 165 mX8_nears.1 := ⟨Or.inl (e_memg 810 (by decide +kernel) rfl), e_memg 812 (by decide +kernel) rfl, e_memg 26 (by decide +kernel) rfl, e_memg 42 (by decide +kernel) rfl⟩
theorem lX8_172 : Lv RX8 RX8 172 mX8_sumByCounts.1 := ⟨Or.inl (e_memg 832 (by decide +kernel) rfl), e_memg 834 (by decide +kernel) rfl, e_memg 27 (by decide +kernel) rfl, e_memg 42 (by decide +kernel) rfl⟩
theorem lX8_210 : Lv RX8 RX8 210 mX8_findAmounts.1 := ⟨Or.inl (e_memg 858 (by decide +kernel) rfl), e_memg 860 (by decide +kernel) rfl, e_memg 28 (by decide +kernel) rfl, e_memg 42 (by decide +kernel) rfl⟩
theorem lX8_213 : Lv RX8 RX8 213 mX8_dryOf.1 := ⟨Or.inl (e_memg 862 (by decide +kernel) rfl), e_memg 864 (by decide +kernel) rfl, e_memg 29 (by decide +kernel) rfl, e_memg 42 (by decide +kernel) rfl⟩
theorem lX8_217 : Ls RX8 217 mX8_bitsOf.1 := ⟨Or.inl (e_memg 866 (by decide +kernel) rfl), e_memg 867 (by decide +kernel) rfl, e_memg 42 (by decide +kernel) rfl⟩
theorem lX8_221 : Lv RX8 RX8 221 mX8_timesSeen.1 := ⟨Or.inl (e_memg 882 (by decide +kernel) rfl), e_memg 884 (by decide +kernel) rfl, e_memg 31 (by decide +kernel) rfl, e_memg 42 (by decide +kernel) rfl⟩
theorem lX8_224 : Lv RX8 RX8 224 mX8_favouredOf.1 := ⟨Or.inl (e_memg 878 (by decide +kernel) rfl), e_memg 880 (by decide +kernel) rfl, e_memg 30 (by decide +kernel) rfl, e_memg 42 (by decide +kernel) rfl⟩
theorem lX8_232 : Lv RX8 RX8 232 mX8_all.1 := ⟨Or.inl (e_memg 896 (by decide +kernel) rfl), e_memg 777 (by decide +kernel) rfl, e_memg 778 (by decide +kernel) rfl, e_memg 42 (by decide +kernel) rfl⟩
theorem lX8_236 : Lv RX8 RX8 236 mX8_coins.1 := ⟨Or.inl (e_memg 897 (by decide +kernel) rfl), e_memg 850 (by decide +kernel) rfl, e_memg 851 (by decide +kernel) rfl, e_memg 42 (by decide +kernel) rfl⟩
theorem lL_9 : Li RL 9 mX7_init.1 := ⟨Or.inl (e_memg 47 (by decide +kernel) rfl), e_memg 48 (by decide +kernel) rfl, e_memg 33 (by decide +kernel) rfl⟩
theorem lL_12 : Li RL 12 mX8_init.1 := ⟨Or.inl (e_memg 593 (by decide +kernel) rfl), e_memg 594 (by decide +kernel) rfl, e_memg 42 (by decide +kernel) rfl⟩
theorem lL_13 : Lv RL RX7 13 mX7_reel.1 := ⟨Or.inl (e_memg 245 (by decide +kernel) rfl), e_memg 246 (by decide +kernel) rfl, e_memg 247 (by decide +kernel) rfl, e_memg 33 (by decide +kernel) rfl⟩
theorem lL_17 : Lv RL RX8 17 mX8_reel.1 := ⟨Or.inl (e_memg 700 (by decide +kernel) rfl), e_memg 701 (by decide +kernel) rfl, e_memg 702 (by decide +kernel) rfl, e_memg 42 (by decide +kernel) rfl⟩
theorem lL_18 : Lv RL RX7 18 mX7_picture.1 := ⟨Or.inl (e_memg 272 (by decide +kernel) rfl), e_memg 273 (by decide +kernel) rfl, e_memg 274 (by decide +kernel) rfl, e_memg 33 (by decide +kernel) rfl⟩
theorem lL_22 : Lv RL RX8 22 mX8_picture.1 := ⟨Or.inl (e_memg 713 (by decide +kernel) rfl), e_memg 714 (by decide +kernel) rfl, e_memg 715 (by decide +kernel) rfl, e_memg 42 (by decide +kernel) rfl⟩
theorem lL_23 : Lv RL RX7 23 mX7_at.1 := ⟨Or.inl (e_memg 290 (by decide +kernel) rfl), e_memg 291 (by decide +kernel) rfl, e_memg 292 (by decide +kernel) rfl, e_memg 33 (by decide +kernel) rfl⟩
theorem lL_26 : Lv RL RX8 26 mX8_at.1 := ⟨Or.inl (e_memg 722 (by decide +kernel) rfl), e_memg 723 (by decide +kernel) rfl, e_memg 724 (by decide +kernel) rfl, e_memg 42 (by decide +kernel) rfl⟩
theorem lL_27 : Lv RL RX7 27 mX7_count.1 := ⟨Or.inl (e_memg 294 (by decide +kernel) rfl), e_memg 295 (by decide +kernel) rfl, e_memg 296 (by decide +kernel) rfl, e_memg 33 (by decide +kernel) rfl⟩
theorem lL_30 : Lv RL RX8 30 mX8_count.1 := ⟨Or.inl (e_memg 726 (by decide +kernel) rfl), e_memg 727 (by decide +kernel) rfl, e_memg 728 (by decide +kernel) rfl, e_memg 42 (by decide +kernel) rfl⟩
theorem lL_31 : Lv RL RX7 31 mX7_lay.1 := ⟨Or.inl (e_memg 298 (by decide +kernel) rfl), e_memg 299 (by decide +kernel) rfl, e_memg 300 (by decide +kernel) rfl, e_memg 33 (by decide +kernel) rfl⟩
theorem lL_35 : Lv RL RX8 35 mX8_lay.1 := ⟨Or.inl (e_memg 730 (by decide +kernel) rfl), e_memg 731 (by decide +kernel) rfl, e_memg 732 (by decide +kernel) rfl, e_memg 42 (by decide +kernel) rfl⟩
theorem lL_36 : Lv RL RX7 36 mX7_pay.1 := ⟨Or.inl (e_memg 311 (by decide +kernel) rfl), e_memg 312 (by decide +kernel) rfl, e_memg 313 (by decide +kernel) rfl, e_memg 33 (by decide +kernel) rfl⟩
theorem lL_40 : Lv RL RX8 40 mX8_pay.1 := ⟨Or.inl (e_memg 734 (by decide +kernel) rfl), e_memg 735 (by decide +kernel) rfl, e_memg 736 (by decide +kernel) rfl, e_memg 42 (by decide +kernel) rfl⟩
theorem lL_41 : Lv RL RX7 41 mX7_clear.1 := ⟨Or.inl (e_memg 332 (by decide +kernel) rfl), e_memg 333 (by decide +kernel) rfl, e_memg 334 (by decide +kernel) rfl, e_memg 33 (by decide +kernel) rfl⟩
theorem lL_45 : Lv RL RX8 45 mX8_clear.1 := ⟨Or.inl (e_memg 740 (by decide +kernel) rfl), e_memg 741 (by decide +kernel) rfl, e_memg 742 (by decide +kernel) rfl, e_memg 42 (by decide +kernel) rfl⟩
theorem lL_46 : Lv RL RX7 46 mX7_lines.1 := ⟨Or.inl (e_memg 340 (by decide +kernel) rfl), e_memg 341 (by decide +kernel) rfl, e_memg 342 (by decide +kernel) rfl, e_memg 33 (by decide +kernel) rfl⟩
theorem lL_49 : Lv RL RX8 49 mX8_lines.1 := ⟨Or.inl (e_memg 744 (by decide +kernel) rfl), e_memg 745 (by decide +kernel) rfl, e_memg 746 (by decide +kernel) rfl, e_memg 42 (by decide +kernel) rfl⟩
theorem lL_50 : Lv RL RX7 50 mX7_ending.1 := ⟨Or.inl (e_memg 344 (by decide +kernel) rfl), e_memg 345 (by decide +kernel) rfl, e_memg 346 (by decide +kernel) rfl, e_memg 33 (by decide +kernel) rfl⟩
theorem lL_53 : Lv RL RX8 53 mX8_ending.1 := ⟨Or.inl (e_memg 749 (by decide +kernel) rfl), e_memg 750 (by decide +kernel) rfl, e_memg 751 (by decide +kernel) rfl, e_memg 42 (by decide +kernel) rfl⟩
theorem lL_54 : Lv RL RX7 54 mX7_all.1 := ⟨Or.inl (e_memg 374 (by decide +kernel) rfl), e_memg 375 (by decide +kernel) rfl, e_memg 376 (by decide +kernel) rfl, e_memg 33 (by decide +kernel) rfl⟩
theorem lL_58 : Lv RL RX8 58 mX8_all.1 := ⟨Or.inl (e_memg 776 (by decide +kernel) rfl), e_memg 777 (by decide +kernel) rfl, e_memg 778 (by decide +kernel) rfl, e_memg 42 (by decide +kernel) rfl⟩
theorem lL_59 : Lv RL RX7 59 mX7_rows.1 := ⟨Or.inl (e_memg 436 (by decide +kernel) rfl), e_memg 437 (by decide +kernel) rfl, e_memg 438 (by decide +kernel) rfl, e_memg 33 (by decide +kernel) rfl⟩
theorem lL_62 : Lv RL RX8 62 mX8_rows.1 := ⟨Or.inl (e_memg 798 (by decide +kernel) rfl), e_memg 799 (by decide +kernel) rfl, e_memg 800 (by decide +kernel) rfl, e_memg 42 (by decide +kernel) rfl⟩
theorem lL_63 : Lv RL RX7 63 mX7_misses.1 := ⟨Or.inl (e_memg 444 (by decide +kernel) rfl), e_memg 445 (by decide +kernel) rfl, e_memg 446 (by decide +kernel) rfl, e_memg 33 (by decide +kernel) rfl⟩
theorem lL_66 : Lv RL RX8 66 mX8_misses.1 := ⟨Or.inl (e_memg 806 (by decide +kernel) rfl), e_memg 807 (by decide +kernel) rfl, e_memg 808 (by decide +kernel) rfl, e_memg 42 (by decide +kernel) rfl⟩
theorem lL_67 : Lv RL RX7 67 mX7_worth.1 := ⟨Or.inl (e_memg 459 (by decide +kernel) rfl), e_memg 460 (by decide +kernel) rfl, e_memg 461 (by decide +kernel) rfl, e_memg 33 (by decide +kernel) rfl⟩
theorem lL_71 : Lv RL RX8 71 mX8_worth.1 := ⟨Or.inl (e_memg 814 (by decide +kernel) rfl), e_memg 815 (by decide +kernel) rfl, e_memg 816 (by decide +kernel) rfl, e_memg 42 (by decide +kernel) rfl⟩
theorem lL_72 : Lv RL RX7 72 mX7_hold.1 := ⟨Or.inl (e_memg 463 (by decide +kernel) rfl), e_memg 464 (by decide +kernel) rfl, e_memg 465 (by decide +kernel) rfl, e_memg 33 (by decide +kernel) rfl⟩
theorem lL_75 : Lv RL RX8 75 mX8_hold.1 := ⟨Or.inl (e_memg 818 (by decide +kernel) rfl), e_memg 819 (by decide +kernel) rfl, e_memg 820 (by decide +kernel) rfl, e_memg 42 (by decide +kernel) rfl⟩
theorem lL_76 : Lv RL RX7 76 mX7_nudge.1 := ⟨Or.inl (e_memg 467 (by decide +kernel) rfl), e_memg 468 (by decide +kernel) rfl, e_memg 469 (by decide +kernel) rfl, e_memg 33 (by decide +kernel) rfl⟩
theorem lL_80 : Lv RL RX8 80 mX8_nudge.1 := ⟨Or.inl (e_memg 822 (by decide +kernel) rfl), e_memg 823 (by decide +kernel) rfl, e_memg 824 (by decide +kernel) rfl, e_memg 42 (by decide +kernel) rfl⟩
theorem lL_81 : Lv RL RX7 81 mX7_change.1 := ⟨Or.inl (e_memg 471 (by decide +kernel) rfl), e_memg 472 (by decide +kernel) rfl, e_memg 473 (by decide +kernel) rfl, e_memg 33 (by decide +kernel) rfl⟩
theorem lL_84 : Lv RL RX8 84 mX8_change.1 := ⟨Or.inl (e_memg 827 (by decide +kernel) rfl), e_memg 828 (by decide +kernel) rfl, e_memg 829 (by decide +kernel) rfl, e_memg 42 (by decide +kernel) rfl⟩
theorem lL_85 : Lv RL RX7 85 mX7_room.1 := ⟨Or.inl (e_memg 480 (by decide +kernel) rfl), e_memg 481 (by decide +kernel) rfl, e_memg 482 (by decide +kernel) rfl, e_memg 33 (by decide +kernel) rfl⟩
theorem lL_88 : Lv RL RX8 88 mX8_room.1 := ⟨Or.inl (e_memg 836 (by decide +kernel) rfl), e_memg 837 (by decide +kernel) rfl, e_memg 838 (by decide +kernel) rfl, e_memg 42 (by decide +kernel) rfl⟩
theorem lL_89 : Lv RL RX7 89 mX7_fill.1 := ⟨Or.inl (e_memg 484 (by decide +kernel) rfl), e_memg 485 (by decide +kernel) rfl, e_memg 486 (by decide +kernel) rfl, e_memg 33 (by decide +kernel) rfl⟩
theorem lL_92 : Lv RL RX8 92 mX8_fill.1 := ⟨Or.inl (e_memg 841 (by decide +kernel) rfl), e_memg 842 (by decide +kernel) rfl, e_memg 843 (by decide +kernel) rfl, e_memg 42 (by decide +kernel) rfl⟩
theorem lL_93 : Lv RL RX7 93 mX7_play.1 := ⟨Or.inl (e_memg 488 (by decide +kernel) rfl), e_memg 489 (by decide +kernel) rfl, e_memg 490 (by decide +kernel) rfl, e_memg 33 (by decide +kernel) rfl⟩
theorem lL_96 : Lv RL RX8 96 mX8_play.1 := ⟨Or.inl (e_memg 845 (by decide +kernel) rfl), e_memg 846 (by decide +kernel) rfl, e_memg 847 (by decide +kernel) rfl, e_memg 42 (by decide +kernel) rfl⟩
theorem lL_97 : Lv RL RX7 97 mX7_coins.1 := ⟨Or.inl (e_memg 507 (by decide +kernel) rfl), e_memg 508 (by decide +kernel) rfl, e_memg 509 (by decide +kernel) rfl, e_memg 33 (by decide +kernel) rfl⟩
theorem lL_100 : Lv RL RX8 100 mX8_coins.1 := ⟨Or.inl (e_memg 849 (by decide +kernel) rfl), e_memg 850 (by decide +kernel) rfl, e_memg 851 (by decide +kernel) rfl, e_memg 42 (by decide +kernel) rfl⟩
theorem lL_101 : Lv RL RX7 101 mX7_dry.1 := ⟨Or.inl (e_memg 511 (by decide +kernel) rfl), e_memg 512 (by decide +kernel) rfl, e_memg 513 (by decide +kernel) rfl, e_memg 33 (by decide +kernel) rfl⟩
theorem lL_105 : Lv RL RX8 105 mX8_dry.1 := ⟨Or.inl (e_memg 853 (by decide +kernel) rfl), e_memg 854 (by decide +kernel) rfl, e_memg 855 (by decide +kernel) rfl, e_memg 42 (by decide +kernel) rfl⟩
theorem lL_106 : Lv RL RX7 106 mX7_favoured.1 := ⟨Or.inl (e_memg 552 (by decide +kernel) rfl), e_memg 553 (by decide +kernel) rfl, e_memg 554 (by decide +kernel) rfl, e_memg 33 (by decide +kernel) rfl⟩
theorem lL_109 : Lv RL RX8 109 mX8_favoured.1 := ⟨Or.inl (e_memg 874 (by decide +kernel) rfl), e_memg 875 (by decide +kernel) rfl, e_memg 876 (by decide +kernel) rfl, e_memg 42 (by decide +kernel) rfl⟩
theorem lL_110 : Lv RL RX7 110 mX7_odd.1 := ⟨Or.inl (e_memg 564 (by decide +kernel) rfl), e_memg 565 (by decide +kernel) rfl, e_memg 566 (by decide +kernel) rfl, e_memg 33 (by decide +kernel) rfl⟩
theorem lL_113 : Lv RL RX8 113 mX8_odd.1 := ⟨Or.inl (e_memg 886 (by decide +kernel) rfl), e_memg 887 (by decide +kernel) rfl, e_memg 888 (by decide +kernel) rfl, e_memg 42 (by decide +kernel) rfl⟩
theorem lL_114 : Lv RL RX7 114 mX7_digest.1 := ⟨Or.inl (e_memg 574 (by decide +kernel) rfl), e_memg 575 (by decide +kernel) rfl, e_memg 576 (by decide +kernel) rfl, e_memg 33 (by decide +kernel) rfl⟩
theorem lL_118 : Lv RL RX8 118 mX8_digest.1 := ⟨Or.inl (e_memg 890 (by decide +kernel) rfl), e_memg 891 (by decide +kernel) rfl, e_memg 892 (by decide +kernel) rfl, e_memg 42 (by decide +kernel) rfl⟩
theorem kX7_135 : Cond.constantLong RX7 135 (-2) ∈ lw_g := e_memg 378 (by decide +kernel) rfl
theorem kX7_179 : Cond.constantLong RX7 179 1000 ∈ lw_g := e_memg 432 (by decide +kernel) rfl
theorem kX7_174 : Cond.constant RX7 174 10000000 ∈ lw_g := e_memg 475 (by decide +kernel) rfl
theorem kX7_286 : Cond.constantLong RX7 286 1023 ∈ lw_g := e_memg 549 (by decide +kernel) rfl
theorem kX7_288 : Cond.constantDouble RX7 288 4611686018427387904 ∈ lw_g := e_memg 550 (by decide +kernel) rfl
theorem kX7_290 : Cond.constantDouble RX7 290 4841369599423283200 ∈ lw_g := e_memg 551 (by decide +kernel) rfl
theorem kX7_234 : Cond.constantLong RX7 234 (-1) ∈ lw_g := e_memg 568 (by decide +kernel) rfl
theorem kX7_243 : Cond.constantLong RX7 243 251 ∈ lw_g := e_memg 578 (by decide +kernel) rfl
theorem kX7_245 : Cond.constantLong RX7 245 31 ∈ lw_g := e_memg 579 (by decide +kernel) rfl
theorem kX4_67 : Cond.constantLong RX4 67 31 ∈ lw_g := e_memg 584 (by decide +kernel) rfl
theorem kX2_43 : Cond.constantLong RX2 43 31 ∈ lw_g := e_memg 589 (by decide +kernel) rfl
theorem kX8_79 : Cond.constantLong RX8 79 2 ∈ lw_g := e_memg 707 (by decide +kernel) rfl
theorem kX8_89 : Cond.constantLong RX8 89 4 ∈ lw_g := e_memg 711 (by decide +kernel) rfl
theorem kX8_91 : Cond.constantLong RX8 91 20 ∈ lw_g := e_memg 712 (by decide +kernel) rfl
theorem kX8_104 : Cond.constantLong RX8 104 7 ∈ lw_g := e_memg 721 (by decide +kernel) rfl
theorem kX8_106 : Cond.constantLong RX8 106 (-1) ∈ lw_g := e_memg 738 (by decide +kernel) rfl
theorem kX8_108 : Cond.constantLong RX8 108 10000 ∈ lw_g := e_memg 739 (by decide +kernel) rfl
theorem kX8_113 : Cond.constantLong RX8 113 3 ∈ lw_g := e_memg 748 (by decide +kernel) rfl
theorem kX8_153 : Cond.constantLong RX8 153 1000 ∈ lw_g := e_memg 784 (by decide +kernel) rfl
theorem kX8_159 : Cond.constantLong RX8 159 (-2) ∈ lw_g := e_memg 797 (by decide +kernel) rfl
theorem kX8_168 : Cond.constantLong RX8 168 6 ∈ lw_g := e_memg 826 (by decide +kernel) rfl
theorem kX8_170 : Cond.constantLong RX8 170 10000000 ∈ lw_g := e_memg 831 (by decide +kernel) rfl
theorem kX8_175 : Cond.constantLong RX8 175 200 ∈ lw_g := e_memg 840 (by decide +kernel) rfl
theorem kX8_208 : Cond.constantLong RX8 208 50 ∈ lw_g := e_memg 857 (by decide +kernel) rfl
theorem kX8_195 : Cond.constantLong RX8 195 1023 ∈ lw_g := e_memg 869 (by decide +kernel) rfl
theorem kX8_197 : Cond.constantDouble RX8 197 4611686018427387904 ∈ lw_g := e_memg 870 (by decide +kernel) rfl
theorem kX8_199 : Cond.constantDouble RX8 199 4602678819172646912 ∈ lw_g := e_memg 871 (by decide +kernel) rfl
theorem kX8_201 : Cond.constantDouble RX8 201 4841369599423283200 ∈ lw_g := e_memg 872 (by decide +kernel) rfl
theorem kX8_203 : Cond.constantLong RX8 203 4503599627370495 ∈ lw_g := e_memg 873 (by decide +kernel) rfl
theorem kX8_228 : Cond.constantLong RX8 228 251 ∈ lw_g := e_memg 894 (by decide +kernel) rfl
theorem kX8_230 : Cond.constantLong RX8 230 31 ∈ lw_g := e_memg 895 (by decide +kernel) rfl
