theorem am_ux {w : Cond} (k : Nat) (h : lw_tbl[k]? = some w) (hg : goodWord w = true) : w ∈ am_uw := List.mem_filter.mpr ⟨List.mem_of_getElem? h, hg⟩
abbrev mX0_init : am_Y := (cX0_init, 1, RX0, (Option.none : Option FieldType), true, [])
abbrev wX0_init : Cond := .code yX0_init cX0_init 1 (Option.none : Option FieldType)
theorem vX0_init : wX0_init ∈ am_uw := (am_ux 255 (by decide +kernel) rfl)
theorem nX0_init : am_nar yX0_init 0 := ⟨⟨by decide +kernel, by decide +kernel⟩, by decide +kernel, (am_ux 46 (by decide +kernel) rfl)⟩
abbrev mX0_keepOne : am_Y := (cX0_keepOne, 2, RX0, (Option.some FieldType.boolean), false, [])
abbrev wX0_keepOne : Cond := .code yX0_keepOne cX0_keepOne 2 (Option.some FieldType.boolean)
theorem vX0_keepOne : wX0_keepOne ∈ am_uw := (am_ux 527 (by decide +kernel) rfl)
theorem nX0_keepOne : am_nar yX0_keepOne 1 := ⟨⟨by decide +kernel, by decide +kernel⟩, by decide +kernel, (am_ux 46 (by decide +kernel) rfl)⟩
abbrev mX0_keepAll : am_Y := (cX0_keepAll, 5, RX0, (Option.some FieldType.boolean), false, [])
abbrev wX0_keepAll : Cond := .code yX0_keepAll cX0_keepAll 5 (Option.some FieldType.boolean)
theorem vX0_keepAll : wX0_keepAll ∈ am_uw := (am_ux 423 (by decide +kernel) rfl)
theorem nX0_keepAll : am_nar yX0_keepAll 3 := ⟨⟨by decide +kernel, by decide +kernel⟩, by decide +kernel, (am_ux 46 (by decide +kernel) rfl)⟩
abbrev mX0_removeFirst : am_Y := (cX0_removeFirst, 2, RX0, (Option.some FieldType.int), false, [])
abbrev wX0_removeFirst : Cond := .code yX0_removeFirst cX0_removeFirst 2 (Option.some FieldType.int)
theorem vX0_removeFirst : wX0_removeFirst ∈ am_uw := (am_ux 535 (by decide +kernel) rfl)
theorem nX0_removeFirst : am_nar yX0_removeFirst 0 := ⟨⟨by decide +kernel, by decide +kernel⟩, by decide +kernel, (am_ux 46 (by decide +kernel) rfl)⟩
abbrev mX1_init : am_Y := (cX1_init, 1, RX1, (Option.none : Option FieldType), true, [])
abbrev wX1_init : Cond := .code yX1_init cX1_init 1 (Option.none : Option FieldType)
theorem vX1_init : wX1_init ∈ am_uw := (am_ux 70 (by decide +kernel) rfl)
theorem nX1_init : am_nar yX1_init 0 := ⟨⟨by decide +kernel, by decide +kernel⟩, by decide +kernel, (am_ux 38 (by decide +kernel) rfl)⟩
abbrev mX1_indexOf : am_Y := (cX1_indexOf, 3, RX1, (Option.some FieldType.int), false, [])
abbrev wX1_indexOf : Cond := .code yX1_indexOf cX1_indexOf 3 (Option.some FieldType.int)
theorem vX1_indexOf : wX1_indexOf ∈ am_uw := (am_ux 382 (by decide +kernel) rfl)
theorem nX1_indexOf : am_nar yX1_indexOf 1 := ⟨⟨by decide +kernel, by decide +kernel⟩, by decide +kernel, (am_ux 38 (by decide +kernel) rfl)⟩
abbrev mX1_phraseAt : am_Y := (cX1_phraseAt, 3, RX1, (Option.some FieldType.int), false, [])
abbrev wX1_phraseAt : Cond := .code yX1_phraseAt cX1_phraseAt 3 (Option.some FieldType.int)
theorem vX1_phraseAt : wX1_phraseAt ∈ am_uw := (am_ux 378 (by decide +kernel) rfl)
theorem nX1_phraseAt : am_nar yX1_phraseAt 1 := ⟨⟨by decide +kernel, by decide +kernel⟩, by decide +kernel, (am_ux 38 (by decide +kernel) rfl)⟩
abbrev mX1_lowestSpotOf : am_Y := (cX1_lowestSpotOf, 4, RX1, (Option.some FieldType.int), false, [])
abbrev wX1_lowestSpotOf : Cond := .code yX1_lowestSpotOf cX1_lowestSpotOf 4 (Option.some FieldType.int)
theorem vX1_lowestSpotOf : wX1_lowestSpotOf ∈ am_uw := (am_ux 418 (by decide +kernel) rfl)
theorem nX1_lowestSpotOf : am_nar yX1_lowestSpotOf 1 := ⟨⟨by decide +kernel, by decide +kernel⟩, by decide +kernel, (am_ux 38 (by decide +kernel) rfl)⟩
abbrev mX1_put : am_Y := (cX1_put, 4, RX1, (Option.some FieldType.boolean), false, [])
abbrev wX1_put : Cond := .code yX1_put cX1_put 4 (Option.some FieldType.boolean)
theorem vX1_put : wX1_put ∈ am_uw := (am_ux 386 (by decide +kernel) rfl)
theorem nX1_put : am_nar yX1_put 2 := ⟨⟨by decide +kernel, by decide +kernel⟩, by decide +kernel, (am_ux 38 (by decide +kernel) rfl)⟩
abbrev mX1_add : am_Y := (cX1_add, 3, RX1, (Option.some FieldType.boolean), false, [])
abbrev wX1_add : Cond := .code yX1_add cX1_add 3 (Option.some FieldType.boolean)
theorem vX1_add : wX1_add ∈ am_uw := (am_ux 394 (by decide +kernel) rfl)
theorem nX1_add : am_nar yX1_add 2 := ⟨⟨by decide +kernel, by decide +kernel⟩, by decide +kernel, (am_ux 38 (by decide +kernel) rfl)⟩
abbrev mX1_remove : am_Y := (cX1_remove, 2, RX1, (Option.none : Option FieldType), false, [])
abbrev wX1_remove : Cond := .code yX1_remove cX1_remove 2 (Option.none : Option FieldType)
theorem vX1_remove : wX1_remove ∈ am_uw := (am_ux 390 (by decide +kernel) rfl)
theorem nX1_remove : am_nar yX1_remove 1 := ⟨⟨by decide +kernel, by decide +kernel⟩, by decide +kernel, (am_ux 38 (by decide +kernel) rfl)⟩
abbrev mX2_init : am_Y := (cX2_init, 4, RX2, (Option.none : Option FieldType), true, [])
abbrev wX2_init : Cond := .code yX2_init cX2_init 4 (Option.none : Option FieldType)
theorem vX2_init : wX2_init ∈ am_uw := (am_ux 491 (by decide +kernel) rfl)
theorem nX2_init : am_nar yX2_init 3 := ⟨⟨by decide +kernel, by decide +kernel⟩, by decide +kernel, (am_ux 52 (by decide +kernel) rfl)⟩
abbrev mX2_add : am_Y := (cX2_add, 2, RX2, (Option.none : Option FieldType), false, [])
abbrev wX2_add : Cond := .code yX2_add cX2_add 2 (Option.none : Option FieldType)
theorem vX2_add : wX2_add ∈ am_uw := (am_ux 523 (by decide +kernel) rfl)
theorem nX2_add : am_nar yX2_add 1 := ⟨⟨by decide +kernel, by decide +kernel⟩, by decide +kernel, (am_ux 52 (by decide +kernel) rfl)⟩
abbrev mX2_spots : am_Y := (cX2_spots, 1, RX2, (Option.some FieldType.int), false, [])
abbrev wX2_spots : Cond := .code yX2_spots cX2_spots 1 (Option.some FieldType.int)
theorem vX2_spots : wX2_spots ∈ am_uw := (am_ux 591 (by decide +kernel) rfl)
theorem nX2_spots : am_nar yX2_spots 0 := ⟨⟨by decide +kernel, by decide +kernel⟩, by decide +kernel, (am_ux 52 (by decide +kernel) rfl)⟩
abbrev mX2_tell : am_Y := (cX2_tell, 2, RX2, (Option.some FieldType.int), false, [])
abbrev wX2_tell : Cond := .code yX2_tell cX2_tell 2 (Option.some FieldType.int)
theorem vX2_tell : wX2_tell ∈ am_uw := (am_ux 587 (by decide +kernel) rfl)
theorem nX2_tell : am_nar yX2_tell 1 := ⟨⟨by decide +kernel, by decide +kernel⟩, by decide +kernel, (am_ux 52 (by decide +kernel) rfl)⟩
abbrev mX3_init : am_Y := (cX3_init, 1, RX3, (Option.none : Option FieldType), true, [])
abbrev wX3_init : Cond := .code yX3_init cX3_init 1 (Option.none : Option FieldType)
theorem vX3_init : wX3_init ∈ am_uw := (am_ux 261 (by decide +kernel) rfl)
theorem nX3_init : am_nar yX3_init 0 := ⟨⟨by decide +kernel, by decide +kernel⟩, by decide +kernel, (am_ux 47 (by decide +kernel) rfl)⟩
abbrev mX3_enter : am_Y := (cX3_enter, 4, RX3, (Option.none : Option FieldType), false, [])
abbrev wX3_enter : Cond := .code yX3_enter cX3_enter 4 (Option.none : Option FieldType)
theorem vX3_enter : wX3_enter ∈ am_uw := (am_ux 471 (by decide +kernel) rfl)
theorem nX3_enter : am_nar yX3_enter 3 := ⟨⟨by decide +kernel, by decide +kernel⟩, by decide +kernel, (am_ux 47 (by decide +kernel) rfl)⟩
abbrev mX3_nextTaken : am_Y := (cX3_nextTaken, 3, RX3, (Option.some FieldType.int), false, [])
abbrev wX3_nextTaken : Cond := .code yX3_nextTaken cX3_nextTaken 3 (Option.some FieldType.int)
theorem vX3_nextTaken : wX3_nextTaken ∈ am_uw := (am_ux 569 (by decide +kernel) rfl)
theorem nX3_nextTaken : am_nar yX3_nextTaken 1 := ⟨⟨by decide +kernel, by decide +kernel⟩, by decide +kernel, (am_ux 47 (by decide +kernel) rfl)⟩
abbrev mX4_note : am_Y := (cX4_note, 2, RX4, (Option.none : Option FieldType), false, [])
abbrev wX4_note : Cond := .code yX4_note cX4_note 2 (Option.none : Option FieldType)
theorem vX4_note : wX4_note ∈ am_uw := (am_ux 544 (by decide +kernel) rfl)
abbrev mX5_init : am_Y := (cX5_init, 2, RX5, (Option.none : Option FieldType), true, [])
abbrev wX5_init : Cond := .code yX5_init cX5_init 2 (Option.none : Option FieldType)
theorem vX5_init : wX5_init ∈ am_uw := (am_ux 318 (by decide +kernel) rfl)
theorem nX5_init : am_nar yX5_init 1 := ⟨⟨by decide +kernel, by decide +kernel⟩, by decide +kernel, (am_ux 48 (by decide +kernel) rfl)⟩
abbrev mX5_isClear : am_Y := (cX5_isClear, 4, RX5, (Option.some FieldType.boolean), false, [])
abbrev wX5_isClear : Cond := .code yX5_isClear cX5_isClear 4 (Option.some FieldType.boolean)
theorem vX5_isClear : wX5_isClear ∈ am_uw := (am_ux 463 (by decide +kernel) rfl)
theorem nX5_isClear : am_nar yX5_isClear 2 := ⟨⟨by decide +kernel, by decide +kernel⟩, by decide +kernel, (am_ux 48 (by decide +kernel) rfl)⟩
abbrev mX6_init : am_Y := (cX6_init, 1, RX6, (Option.none : Option FieldType), true, [])
abbrev wX6_init : Cond := .code yX6_init cX6_init 1 (Option.none : Option FieldType)
theorem vX6_init : wX6_init ∈ am_uw := (am_ux 87 (by decide +kernel) rfl)
theorem nX6_init : am_nar yX6_init 0 := ⟨⟨by decide +kernel, by decide +kernel⟩, by decide +kernel, (am_ux 39 (by decide +kernel) rfl)⟩
abbrev mX6_putOn : am_Y := (cX6_putOn, 4, RX6, (Option.none : Option FieldType), false, [])
abbrev wX6_putOn : Cond := .code yX6_putOn cX6_putOn 4 (Option.none : Option FieldType)
theorem vX6_putOn : wX6_putOn ∈ am_uw := (am_ux 479 (by decide +kernel) rfl)
theorem nX6_putOn : am_nar yX6_putOn 2 := ⟨⟨by decide +kernel, by decide +kernel⟩, by decide +kernel, (am_ux 39 (by decide +kernel) rfl)⟩
abbrev mX6_begin : am_Y := (cX6_begin, 3, RX6, (Option.none : Option FieldType), false, [])
abbrev wX6_begin : Cond := .code yX6_begin cX6_begin 3 (Option.none : Option FieldType)
theorem vX6_begin : wX6_begin ∈ am_uw := (am_ux 483 (by decide +kernel) rfl)
theorem nX6_begin : am_nar yX6_begin 2 := ⟨⟨by decide +kernel, by decide +kernel⟩, by decide +kernel, (am_ux 39 (by decide +kernel) rfl)⟩
abbrev mX6_end : am_Y := (cX6_end, 3, RX6, (Option.none : Option FieldType), false, [])
abbrev wX6_end : Cond := .code yX6_end cX6_end 3 (Option.none : Option FieldType)
theorem vX6_end : wX6_end ∈ am_uw := (am_ux 519 (by decide +kernel) rfl)
theorem nX6_end : am_nar yX6_end 1 := ⟨⟨by decide +kernel, by decide +kernel⟩, by decide +kernel, (am_ux 39 (by decide +kernel) rfl)⟩
abbrev mX6_dropAll : am_Y := (cX6_dropAll, 1, RX6, (Option.none : Option FieldType), false, [])
abbrev wX6_dropAll : Cond := .code yX6_dropAll cX6_dropAll 1 (Option.none : Option FieldType)
theorem vX6_dropAll : wX6_dropAll ∈ am_uw := (am_ux 487 (by decide +kernel) rfl)
theorem nX6_dropAll : am_nar yX6_dropAll 0 := ⟨⟨by decide +kernel, by decide +kernel⟩, by decide +kernel, (am_ux 39 (by decide +kernel) rfl)⟩
abbrev mX7_init : am_Y := (cX7_init, 2, RX7, (Option.none : Option FieldType), true, [])
abbrev wX7_init : Cond := .code yX7_init cX7_init 2 (Option.none : Option FieldType)
theorem vX7_init : wX7_init ∈ am_uw := (am_ux 249 (by decide +kernel) rfl)
theorem nX7_init : am_nar yX7_init 1 := ⟨⟨by decide +kernel, by decide +kernel⟩, by decide +kernel, (am_ux 45 (by decide +kernel) rfl)⟩
abbrev mX7_armFor : am_Y := (cX7_armFor, 2, RX7, (Option.some (FieldType.object "ArmtowerLine$Arm")), false, [])
abbrev wX7_armFor : Cond := .code yX7_armFor cX7_armFor 2 (Option.some (FieldType.object "ArmtowerLine$Arm"))
theorem vX7_armFor : wX7_armFor ∈ am_uw := (am_ux 444 (by decide +kernel) rfl)
theorem nX7_armFor : am_nar yX7_armFor 1 := ⟨⟨by decide +kernel, by decide +kernel⟩, by decide +kernel, (am_ux 45 (by decide +kernel) rfl)⟩
abbrev mX8_init : am_Y := (cX8_init, 2, RX8, (Option.none : Option FieldType), true, [])
abbrev wX8_init : Cond := .code yX8_init cX8_init 2 (Option.none : Option FieldType)
theorem vX8_init : wX8_init ∈ am_uw := (am_ux 57 (by decide +kernel) rfl)
theorem nX8_init : am_nar yX8_init 0 := ⟨⟨by decide +kernel, by decide +kernel⟩, by decide +kernel, (am_ux 37 (by decide +kernel) rfl)⟩
abbrev mX8_tower : am_Y := (cX8_tower, 3, RX8, (Option.some FieldType.int), false, [])
abbrev wX8_tower : Cond := .code yX8_tower cX8_tower 3 (Option.some FieldType.int)
theorem vX8_tower : wX8_tower ∈ am_uw := (am_ux 158 (by decide +kernel) rfl)
theorem nX8_tower : am_nar yX8_tower 2 := ⟨⟨by decide +kernel, by decide +kernel⟩, by decide +kernel, (am_ux 37 (by decide +kernel) rfl)⟩
abbrev mX8_air : am_Y := (cX8_air, 5, RX8, (Option.some FieldType.int), false, [])
abbrev wX8_air : Cond := .code yX8_air cX8_air 5 (Option.some FieldType.int)
theorem vX8_air : wX8_air ∈ am_uw := (am_ux 340 (by decide +kernel) rfl)
theorem nX8_air : am_nar yX8_air 2 := ⟨⟨by decide +kernel, by decide +kernel⟩, by decide +kernel, (am_ux 37 (by decide +kernel) rfl)⟩
abbrev mX8_write : am_Y := (cX8_write, 8, RX8, (Option.some FieldType.int), false, [])
abbrev wX8_write : Cond := .code yX8_write cX8_write 8 (Option.some FieldType.int)
theorem vX8_write : wX8_write ∈ am_uw := (am_ux 365 (by decide +kernel) rfl)
theorem nX8_write : am_nar yX8_write 4 := ⟨⟨by decide +kernel, by decide +kernel⟩, by decide +kernel, (am_ux 37 (by decide +kernel) rfl)⟩
abbrev mX8_type : am_Y := (cX8_type, 2, RX8, (Option.some FieldType.int), false, [])
abbrev wX8_type : Cond := .code yX8_type cX8_type 2 (Option.some FieldType.int)
theorem vX8_type : wX8_type ∈ am_uw := (am_ux 399 (by decide +kernel) rfl)
theorem nX8_type : am_nar yX8_type 1 := ⟨⟨by decide +kernel, by decide +kernel⟩, by decide +kernel, (am_ux 37 (by decide +kernel) rfl)⟩
abbrev mX8_clear : am_Y := (cX8_clear, 2, RX8, (Option.some FieldType.int), false, [])
abbrev wX8_clear : Cond := .code yX8_clear cX8_clear 2 (Option.some FieldType.int)
theorem vX8_clear : wX8_clear ∈ am_uw := (am_ux 405 (by decide +kernel) rfl)
theorem nX8_clear : am_nar yX8_clear 0 := ⟨⟨by decide +kernel, by decide +kernel⟩, by decide +kernel, (am_ux 37 (by decide +kernel) rfl)⟩
abbrev mX8_send : am_Y := (cX8_send, 7, RX8, (Option.some FieldType.int), false, [])
abbrev wX8_send : Cond := .code yX8_send cX8_send 7 (Option.some FieldType.int)
theorem vX8_send : wX8_send ∈ am_uw := (am_ux 409 (by decide +kernel) rfl)
theorem nX8_send : am_nar yX8_send 3 := ⟨⟨by decide +kernel, by decide +kernel⟩, by decide +kernel, (am_ux 37 (by decide +kernel) rfl)⟩
abbrev mX8_pass : am_Y := (cX8_pass, 3, RX8, (Option.some FieldType.int), false, [])
abbrev wX8_pass : Cond := .code yX8_pass cX8_pass 3 (Option.some FieldType.int)
theorem vX8_pass : wX8_pass ∈ am_uw := (am_ux 431 (by decide +kernel) rfl)
theorem nX8_pass : am_nar yX8_pass 1 := ⟨⟨by decide +kernel, by decide +kernel⟩, by decide +kernel, (am_ux 37 (by decide +kernel) rfl)⟩
abbrev mX8_keeps : am_Y := (cX8_keeps, 5, RX8, (Option.some FieldType.int), false, [])
abbrev wX8_keeps : Cond := .code yX8_keeps cX8_keeps 5 (Option.some FieldType.int)
theorem vX8_keeps : wX8_keeps ∈ am_uw := (am_ux 548 (by decide +kernel) rfl)
theorem nX8_keeps : am_nar yX8_keeps 3 := ⟨⟨by decide +kernel, by decide +kernel⟩, by decide +kernel, (am_ux 37 (by decide +kernel) rfl)⟩
abbrev mX8_logs : am_Y := (cX8_logs, 3, RX8, (Option.some FieldType.int), false, [])
abbrev wX8_logs : Cond := .code yX8_logs cX8_logs 3 (Option.some FieldType.int)
theorem vX8_logs : wX8_logs ∈ am_uw := (am_ux 558 (by decide +kernel) rfl)
theorem nX8_logs : am_nar yX8_logs 2 := ⟨⟨by decide +kernel, by decide +kernel⟩, by decide +kernel, (am_ux 37 (by decide +kernel) rfl)⟩
abbrev mX8_differs : am_Y := (cX8_differs, 6, RX8, (Option.some FieldType.int), false, [])
abbrev wX8_differs : Cond := .code yX8_differs cX8_differs 6 (Option.some FieldType.int)
theorem vX8_differs : wX8_differs ∈ am_uw := (am_ux 562 (by decide +kernel) rfl)
theorem nX8_differs : am_nar yX8_differs 3 := ⟨⟨by decide +kernel, by decide +kernel⟩, by decide +kernel, (am_ux 37 (by decide +kernel) rfl)⟩
abbrev mX8_came : am_Y := (cX8_came, 2, RX8, (Option.some FieldType.int), false, [])
abbrev wX8_came : Cond := .code yX8_came cX8_came 2 (Option.some FieldType.int)
theorem vX8_came : wX8_came ∈ am_uw := (am_ux 573 (by decide +kernel) rfl)
theorem nX8_came : am_nar yX8_came 1 := ⟨⟨by decide +kernel, by decide +kernel⟩, by decide +kernel, (am_ux 37 (by decide +kernel) rfl)⟩
abbrev mX8_told : am_Y := (cX8_told, 5, RX8, (Option.some FieldType.int), false, [])
abbrev wX8_told : Cond := .code yX8_told cX8_told 5 (Option.some FieldType.int)
theorem vX8_told : wX8_told ∈ am_uw := (am_ux 577 (by decide +kernel) rfl)
theorem nX8_told : am_nar yX8_told 3 := ⟨⟨by decide +kernel, by decide +kernel⟩, by decide +kernel, (am_ux 37 (by decide +kernel) rfl)⟩
abbrev mX8_phrase : am_Y := (cX8_phrase, 7, RX8, (Option.some FieldType.int), false, [])
abbrev wX8_phrase : Cond := .code yX8_phrase cX8_phrase 7 (Option.some FieldType.int)
theorem vX8_phrase : wX8_phrase ∈ am_uw := (am_ux 595 (by decide +kernel) rfl)
theorem nX8_phrase : am_nar yX8_phrase 4 := ⟨⟨by decide +kernel, by decide +kernel⟩, by decide +kernel, (am_ux 37 (by decide +kernel) rfl)⟩
abbrev mX8_open : am_Y := (cX8_open, 2, RX8, (Option.some FieldType.int), false, [])
abbrev wX8_open : Cond := .code yX8_open cX8_open 2 (Option.some FieldType.int)
theorem vX8_open : wX8_open ∈ am_uw := (am_ux 601 (by decide +kernel) rfl)
theorem nX8_open : am_nar yX8_open 1 := ⟨⟨by decide +kernel, by decide +kernel⟩, by decide +kernel, (am_ux 37 (by decide +kernel) rfl)⟩
abbrev mX8_isOutside : am_Y := (cX8_isOutside, 3, RX8, (Option.some FieldType.boolean), false, [])
abbrev wX8_isOutside : Cond := .code yX8_isOutside cX8_isOutside 3 (Option.some FieldType.boolean)
theorem vX8_isOutside : wX8_isOutside ∈ am_uw := (am_ux 161 (by decide +kernel) rfl)
theorem nX8_isOutside : am_nar yX8_isOutside 3 := ⟨⟨by decide +kernel, by decide +kernel⟩, by decide +kernel, (am_ux 37 (by decide +kernel) rfl)⟩
abbrev mX8_spotOf : am_Y := (cX8_spotOf, 2, RX8, (Option.some FieldType.int), false, [])
abbrev wX8_spotOf : Cond := .code yX8_spotOf cX8_spotOf 2 (Option.some FieldType.int)
theorem vX8_spotOf : wX8_spotOf ∈ am_uw := (am_ux 374 (by decide +kernel) rfl)
theorem nX8_spotOf : am_nar yX8_spotOf 2 := ⟨⟨by decide +kernel, by decide +kernel⟩, by decide +kernel, (am_ux 37 (by decide +kernel) rfl)⟩
abbrev mX8_towerAt : am_Y := (cX8_towerAt, 2, RX8, (Option.some (FieldType.object "ArmtowerLine$Tower")), false, [])
abbrev wX8_towerAt : Cond := .code yX8_towerAt cX8_towerAt 2 (Option.some (FieldType.object "ArmtowerLine$Tower"))
theorem vX8_towerAt : wX8_towerAt ∈ am_uw := (am_ux 552 (by decide +kernel) rfl)
theorem nX8_towerAt : am_nar yX8_towerAt 1 := ⟨⟨by decide +kernel, by decide +kernel⟩, by decide +kernel, (am_ux 37 (by decide +kernel) rfl)⟩
abbrev mX8_stretchAt : am_Y := (cX8_stretchAt, 2, RX8, (Option.some (FieldType.object "ArmtowerLine$Stretch")), false, [])
abbrev wX8_stretchAt : Cond := .code yX8_stretchAt cX8_stretchAt 2 (Option.some (FieldType.object "ArmtowerLine$Stretch"))
theorem vX8_stretchAt : wX8_stretchAt ∈ am_uw := (am_ux 344 (by decide +kernel) rfl)
theorem nX8_stretchAt : am_nar yX8_stretchAt 1 := ⟨⟨by decide +kernel, by decide +kernel⟩, by decide +kernel, (am_ux 37 (by decide +kernel) rfl)⟩
abbrev mX8_bookAt : am_Y := (cX8_bookAt, 2, RX8, (Option.some (FieldType.object "ArmtowerLine$Book")), false, [])
abbrev wX8_bookAt : Cond := .code yX8_bookAt cX8_bookAt 2 (Option.some (FieldType.object "ArmtowerLine$Book"))
theorem vX8_bookAt : wX8_bookAt ∈ am_uw := (am_ux 369 (by decide +kernel) rfl)
theorem nX8_bookAt : am_nar yX8_bookAt 1 := ⟨⟨by decide +kernel, by decide +kernel⟩, by decide +kernel, (am_ux 37 (by decide +kernel) rfl)⟩
abbrev mX8_dispatchAt : am_Y := (cX8_dispatchAt, 4, RX8, (Option.some (FieldType.object "ArmtowerLine$Dispatch")), false, [])
abbrev wX8_dispatchAt : Cond := .code yX8_dispatchAt cX8_dispatchAt 4 (Option.some (FieldType.object "ArmtowerLine$Dispatch"))
theorem vX8_dispatchAt : wX8_dispatchAt ∈ am_uw := (am_ux 581 (by decide +kernel) rfl)
theorem nX8_dispatchAt : am_nar yX8_dispatchAt 2 := ⟨⟨by decide +kernel, by decide +kernel⟩, by decide +kernel, (am_ux 37 (by decide +kernel) rfl)⟩
abbrev mX8_tapeOf : am_Y := (cX8_tapeOf, 2, RX8, (Option.some (FieldType.object "ArmtowerLine$Tape")), false, [])
abbrev wX8_tapeOf : Cond := .code yX8_tapeOf cX8_tapeOf 2 (Option.some (FieldType.object "ArmtowerLine$Tape"))
theorem vX8_tapeOf : wX8_tapeOf ∈ am_uw := (am_ux 475 (by decide +kernel) rfl)
theorem nX8_tapeOf : am_nar yX8_tapeOf 1 := ⟨⟨by decide +kernel, by decide +kernel⟩, by decide +kernel, (am_ux 37 (by decide +kernel) rfl)⟩
abbrev mX8_isEnd : am_Y := (cX8_isEnd, 3, RX8, (Option.some FieldType.boolean), false, [])
abbrev wX8_isEnd : Cond := .code yX8_isEnd cX8_isEnd 3 (Option.some FieldType.boolean)
theorem vX8_isEnd : wX8_isEnd ∈ am_uw := (am_ux 448 (by decide +kernel) rfl)
theorem nX8_isEnd : am_nar yX8_isEnd 2 := ⟨⟨by decide +kernel, by decide +kernel⟩, by decide +kernel, (am_ux 37 (by decide +kernel) rfl)⟩
abbrev mX8_isDay : am_Y := (cX8_isDay, 2, RX8, (Option.some FieldType.boolean), false, [])
abbrev wX8_isDay : Cond := .code yX8_isDay cX8_isDay 2 (Option.some FieldType.boolean)
theorem vX8_isDay : wX8_isDay ∈ am_uw := (am_ux 459 (by decide +kernel) rfl)
theorem nX8_isDay : am_nar yX8_isDay 0 := ⟨⟨by decide +kernel, by decide +kernel⟩, by decide +kernel, (am_ux 37 (by decide +kernel) rfl)⟩
abbrev mX8_isSeenAlong : am_Y := (cX8_isSeenAlong, 2, RX8, (Option.some FieldType.boolean), false, [])
abbrev wX8_isSeenAlong : Cond := .code yX8_isSeenAlong cX8_isSeenAlong 2 (Option.some FieldType.boolean)
theorem vX8_isSeenAlong : wX8_isSeenAlong ∈ am_uw := (am_ux 455 (by decide +kernel) rfl)
theorem nX8_isSeenAlong : am_nar yX8_isSeenAlong 1 := ⟨⟨by decide +kernel, by decide +kernel⟩, by decide +kernel, (am_ux 37 (by decide +kernel) rfl)⟩
abbrev mX8_layOut : am_Y := (cX8_layOut, 6, RX8, (Option.some FieldType.int), false, [])
abbrev wX8_layOut : Cond := .code yX8_layOut cX8_layOut 6 (Option.some FieldType.int)
theorem vX8_layOut : wX8_layOut ∈ am_uw := (am_ux 414 (by decide +kernel) rfl)
theorem nX8_layOut : am_nar yX8_layOut 2 := ⟨⟨by decide +kernel, by decide +kernel⟩, by decide +kernel, (am_ux 37 (by decide +kernel) rfl)⟩
abbrev mX8_passOne : am_Y := (cX8_passOne, 2, RX8, (Option.none : Option FieldType), false, [])
abbrev wX8_passOne : Cond := .code yX8_passOne cX8_passOne 2 (Option.none : Option FieldType)
theorem vX8_passOne : wX8_passOne ∈ am_uw := (am_ux 436 (by decide +kernel) rfl)
theorem nX8_passOne : am_nar yX8_passOne 0 := ⟨⟨by decide +kernel, by decide +kernel⟩, by decide +kernel, (am_ux 37 (by decide +kernel) rfl)⟩
abbrev mX8_look : am_Y := (cX8_look, 8, RX8, (Option.none : Option FieldType), false, [])
abbrev wX8_look : Cond := .code yX8_look cX8_look 8 (Option.none : Option FieldType)
theorem vX8_look : wX8_look ∈ am_uw := (am_ux 440 (by decide +kernel) rfl)
theorem nX8_look : am_nar yX8_look 2 := ⟨⟨by decide +kernel, by decide +kernel⟩, by decide +kernel, (am_ux 37 (by decide +kernel) rfl)⟩
abbrev mX8_signAsRead : am_Y := (cX8_signAsRead, 4, RX8, (Option.some FieldType.int), false, [])
abbrev wX8_signAsRead : Cond := .code yX8_signAsRead cX8_signAsRead 4 (Option.some FieldType.int)
theorem vX8_signAsRead : wX8_signAsRead ∈ am_uw := (am_ux 467 (by decide +kernel) rfl)
theorem nX8_signAsRead : am_nar yX8_signAsRead 2 := ⟨⟨by decide +kernel, by decide +kernel⟩, by decide +kernel, (am_ux 37 (by decide +kernel) rfl)⟩
abbrev mX8_showNext : am_Y := (cX8_showNext, 4, RX8, (Option.none : Option FieldType), false, [])
abbrev wX8_showNext : Cond := .code yX8_showNext cX8_showNext 4 (Option.none : Option FieldType)
theorem vX8_showNext : wX8_showNext ∈ am_uw := (am_ux 531 (by decide +kernel) rfl)
theorem nX8_showNext : am_nar yX8_showNext 2 := ⟨⟨by decide +kernel, by decide +kernel⟩, by decide +kernel, (am_ux 37 (by decide +kernel) rfl)⟩
abbrev mX8_tellSpies : am_Y := (cX8_tellSpies, 4, RX8, (Option.none : Option FieldType), false, [])
abbrev wX8_tellSpies : Cond := .code yX8_tellSpies cX8_tellSpies 4 (Option.none : Option FieldType)
theorem vX8_tellSpies : wX8_tellSpies ∈ am_uw := (am_ux 539 (by decide +kernel) rfl)
theorem nX8_tellSpies : am_nar yX8_tellSpies 2 := ⟨⟨by decide +kernel, by decide +kernel⟩, by decide +kernel, (am_ux 37 (by decide +kernel) rfl)⟩
abbrev mX8_firstUnlike : am_Y := (cX8_firstUnlike, 5, RX8, (Option.some FieldType.int), false, [])
abbrev wX8_firstUnlike : Cond := .code yX8_firstUnlike cX8_firstUnlike 5 (Option.some FieldType.int)
theorem vX8_firstUnlike : wX8_firstUnlike ∈ am_uw := (am_ux 565 (by decide +kernel) rfl)
theorem nX8_firstUnlike : am_nar yX8_firstUnlike 2 := ⟨⟨by decide +kernel, by decide +kernel⟩, by decide +kernel, (am_ux 37 (by decide +kernel) rfl)⟩
abbrev mJ9_min_7cf53 : am_Y := (cJ9_min_7cf53, 2, RJ9, (Option.some FieldType.int), false, [])
abbrev wJ9_min_7cf53 : Cond := .code yJ9_min_7cf53 cJ9_min_7cf53 2 (Option.some FieldType.int)
theorem vJ9_min_7cf53 : wJ9_min_7cf53 ∈ am_uw := (am_ux 451 (by decide +kernel) rfl)
theorem nJ9_min_7cf53 : am_nar yJ9_min_7cf53 2 := ⟨⟨by decide +kernel, by decide +kernel⟩, by decide +kernel, (am_ux 51 (by decide +kernel) rfl)⟩
abbrev mL_cell : am_Y := (cL_cell, 2, RL, (Option.some FieldType.int), false, [])
abbrev wL_cell : Cond := .code yL_cell cL_cell 2 (Option.some FieldType.int)
theorem vL_cell : wL_cell ∈ am_uw := (am_ux 604 (by decide +kernel) rfl)
theorem nL_cell : am_nar yL_cell 2 := ⟨⟨by decide +kernel, by decide +kernel⟩, by decide +kernel, (am_ux 36 (by decide +kernel) rfl)⟩
abbrev mL_low : am_Y := (cL_low, 2, RL, (Option.some FieldType.int), false, [])
abbrev wL_low : Cond := .code yL_low cL_low 2 (Option.some FieldType.int)
theorem vL_low : wL_low ∈ am_uw := (am_ux 607 (by decide +kernel) rfl)
theorem nL_low : am_nar yL_low 2 := ⟨⟨by decide +kernel, by decide +kernel⟩, by decide +kernel, (am_ux 36 (by decide +kernel) rfl)⟩
abbrev mL_law : am_Y := (cL_law, 22, RL, some .boolean, false, [])
theorem fX0_9 : am_fl RX0 9 0 0 := ⟨_, rfl, by decide, Or.inl (am_ux 279 (by decide +kernel) rfl)⟩
theorem fX0_15 : am_fl RX0 15 0 3 := ⟨_, rfl, by decide, Or.inl (am_ux 284 (by decide +kernel) rfl)⟩
theorem fX0_22 : am_fl RX0 22 0 4 := ⟨_, rfl, by decide, Or.inl (am_ux 286 (by decide +kernel) rfl)⟩
theorem fX0_26 : am_fl RX0 26 0 1 := ⟨_, rfl, by decide, Or.inl (am_ux 281 (by decide +kernel) rfl)⟩
theorem fX0_29 : am_fl RX0 29 0 2 := ⟨_, rfl, by decide, Or.inl (am_ux 283 (by decide +kernel) rfl)⟩
theorem fX1_9 : am_fl RX1 9 1 0 := ⟨_, rfl, by decide, Or.inl (am_ux 72 (by decide +kernel) rfl)⟩
theorem fX1_15 : am_fl RX1 15 1 1 := ⟨_, rfl, by decide, Or.inl (am_ux 73 (by decide +kernel) rfl)⟩
theorem fX1_18 : am_fl RX1 18 1 2 := ⟨_, rfl, by decide, Or.inl (am_ux 74 (by decide +kernel) rfl)⟩
theorem fX2_9 : am_fl RX2 9 2 0 := ⟨_, rfl, by decide, Or.inl (am_ux 493 (by decide +kernel) rfl)⟩
theorem fX2_15 : am_fl RX2 15 2 2 := ⟨_, rfl, by decide, Or.inl (am_ux 496 (by decide +kernel) rfl)⟩
theorem fX2_19 : am_fl RX2 19 2 5 := ⟨_, rfl, by decide, Or.inl (am_ux 501 (by decide +kernel) rfl)⟩
theorem fX2_23 : am_fl RX2 23 2 3 := ⟨_, rfl, by decide, Or.inl (am_ux 498 (by decide +kernel) rfl)⟩
theorem fX2_27 : am_fl RX2 27 2 4 := ⟨_, rfl, by decide, Or.inl (am_ux 500 (by decide +kernel) rfl)⟩
theorem fX2_30 : am_fl RX2 30 2 1 := ⟨_, rfl, by decide, Or.inl (am_ux 494 (by decide +kernel) rfl)⟩
theorem fX3_9 : am_fl RX3 9 3 0 := ⟨_, rfl, by decide, Or.inl (am_ux 263 (by decide +kernel) rfl)⟩
theorem fX3_15 : am_fl RX3 15 3 1 := ⟨_, rfl, by decide, Or.inl (am_ux 264 (by decide +kernel) rfl)⟩
theorem fX3_18 : am_fl RX3 18 3 2 := ⟨_, rfl, by decide, Or.inl (am_ux 266 (by decide +kernel) rfl)⟩
theorem fX3_22 : am_fl RX3 22 3 3 := ⟨_, rfl, by decide, Or.inl (am_ux 267 (by decide +kernel) rfl)⟩
theorem fX5_9 : am_fl RX5 9 5 0 := ⟨_, rfl, by decide, Or.inl (am_ux 320 (by decide +kernel) rfl)⟩
theorem fX5_15 : am_fl RX5 15 5 1 := ⟨_, rfl, by decide, Or.inl (am_ux 321 (by decide +kernel) rfl)⟩
theorem fX5_19 : am_fl RX5 19 5 2 := ⟨_, rfl, by decide, Or.inl (am_ux 322 (by decide +kernel) rfl)⟩
theorem fX5_22 : am_fl RX5 22 5 3 := ⟨_, rfl, by decide, Or.inl (am_ux 323 (by decide +kernel) rfl)⟩
theorem fX5_25 : am_fl RX5 25 5 4 := ⟨_, rfl, by decide, Or.inl (am_ux 324 (by decide +kernel) rfl)⟩
theorem fX6_11 : am_fl RX6 11 6 0 := ⟨_, rfl, by decide, Or.inl (am_ux 91 (by decide +kernel) rfl)⟩
theorem fX6_17 : am_fl RX6 17 6 4 := ⟨_, rfl, by decide, Or.inl (am_ux 98 (by decide +kernel) rfl)⟩
theorem fX6_32 : am_fl RX6 32 6 2 := ⟨_, rfl, by decide, Or.inl (am_ux 95 (by decide +kernel) rfl)⟩
theorem fX6_39 : am_fl RX6 39 2 2 := ⟨_, rfl, by decide, Or.inr ⟨"ArmtowerLine", List.mem_of_getElem? (i := 497) (by decide +kernel)⟩⟩
theorem fX6_45 : am_fl RX6 45 6 3 := ⟨_, rfl, by decide, Or.inl (am_ux 96 (by decide +kernel) rfl)⟩
theorem fX6_49 : am_fl RX6 49 2 5 := ⟨_, rfl, by decide, Or.inr ⟨"ArmtowerLine", List.mem_of_getElem? (i := 502) (by decide +kernel)⟩⟩
theorem fX6_52 : am_fl RX6 52 2 1 := ⟨_, rfl, by decide, Or.inr ⟨"ArmtowerLine", List.mem_of_getElem? (i := 495) (by decide +kernel)⟩⟩
theorem fX6_55 : am_fl RX6 55 6 1 := ⟨_, rfl, by decide, Or.inl (am_ux 93 (by decide +kernel) rfl)⟩
theorem fX7_7 : am_fl RX7 7 7 0 := ⟨_, rfl, by decide, Or.inl (am_ux 299 (by decide +kernel) rfl)⟩
theorem fX7_16 : am_fl RX7 16 7 2 := ⟨_, rfl, by decide, Or.inl (am_ux 302 (by decide +kernel) rfl)⟩
theorem fX7_20 : am_fl RX7 20 7 3 := ⟨_, rfl, by decide, Or.inl (am_ux 304 (by decide +kernel) rfl)⟩
theorem fX8_11 : am_fl RX8 11 8 0 := ⟨_, rfl, by decide, Or.inl (am_ux 112 (by decide +kernel) rfl)⟩
theorem fX8_17 : am_fl RX8 17 8 1 := ⟨_, rfl, by decide, Or.inl (am_ux 113 (by decide +kernel) rfl)⟩
theorem fX8_21 : am_fl RX8 21 8 4 := ⟨_, rfl, by decide, Or.inl (am_ux 116 (by decide +kernel) rfl)⟩
theorem fX8_27 : am_fl RX8 27 8 6 := ⟨_, rfl, by decide, Or.inl (am_ux 118 (by decide +kernel) rfl)⟩
theorem fX8_32 : am_fl RX8 32 8 7 := ⟨_, rfl, by decide, Or.inl (am_ux 119 (by decide +kernel) rfl)⟩
theorem fX8_36 : am_fl RX8 36 8 9 := ⟨_, rfl, by decide, Or.inl (am_ux 121 (by decide +kernel) rfl)⟩
theorem fX8_42 : am_fl RX8 42 8 10 := ⟨_, rfl, by decide, Or.inl (am_ux 122 (by decide +kernel) rfl)⟩
theorem fX8_46 : am_fl RX8 46 8 11 := ⟨_, rfl, by decide, Or.inl (am_ux 123 (by decide +kernel) rfl)⟩
theorem fX8_51 : am_fl RX8 51 8 12 := ⟨_, rfl, by decide, Or.inl (am_ux 124 (by decide +kernel) rfl)⟩
theorem fX8_66 : am_fl RX8 66 8 2 := ⟨_, rfl, by decide, Or.inl (am_ux 114 (by decide +kernel) rfl)⟩
theorem fX8_69 : am_fl RX8 69 8 3 := ⟨_, rfl, by decide, Or.inl (am_ux 115 (by decide +kernel) rfl)⟩
theorem fX8_102 : am_fl RX8 102 5 4 := ⟨_, rfl, by decide, Or.inr ⟨"ArmtowerLine", List.mem_of_getElem? (i := 325) (by decide +kernel)⟩⟩
theorem fX8_111 : am_fl RX8 111 7 1 := ⟨_, rfl, by decide, Or.inr ⟨"ArmtowerLine", List.mem_of_getElem? (i := 301) (by decide +kernel)⟩⟩
theorem fX8_116 : am_fl RX8 116 8 5 := ⟨_, rfl, by decide, Or.inl (am_ux 117 (by decide +kernel) rfl)⟩
theorem fX8_140 : am_fl RX8 140 8 8 := ⟨_, rfl, by decide, Or.inl (am_ux 120 (by decide +kernel) rfl)⟩
theorem fX8_153 : am_fl RX8 153 7 3 := ⟨_, rfl, by decide, Or.inr ⟨"ArmtowerLine", List.mem_of_getElem? (i := 305) (by decide +kernel)⟩⟩
theorem fX8_157 : am_fl RX8 157 7 2 := ⟨_, rfl, by decide, Or.inr ⟨"ArmtowerLine", List.mem_of_getElem? (i := 303) (by decide +kernel)⟩⟩
theorem fX8_168 : am_fl RX8 168 0 1 := ⟨_, rfl, by decide, Or.inr ⟨"ArmtowerLine", List.mem_of_getElem? (i := 282) (by decide +kernel)⟩⟩
theorem fX8_185 : am_fl RX8 185 0 4 := ⟨_, rfl, by decide, Or.inr ⟨"ArmtowerLine", List.mem_of_getElem? (i := 287) (by decide +kernel)⟩⟩
theorem fX8_195 : am_fl RX8 195 8 13 := ⟨_, rfl, by decide, Or.inl (am_ux 125 (by decide +kernel) rfl)⟩
theorem fX8_209 : am_fl RX8 209 0 3 := ⟨_, rfl, by decide, Or.inr ⟨"ArmtowerLine", List.mem_of_getElem? (i := 285) (by decide +kernel)⟩⟩
theorem fX8_217 : am_fl RX8 217 0 0 := ⟨_, rfl, by decide, Or.inr ⟨"ArmtowerLine", List.mem_of_getElem? (i := 280) (by decide +kernel)⟩⟩
theorem fX8_220 : am_fl RX8 220 3 3 := ⟨_, rfl, by decide, Or.inr ⟨"ArmtowerLine", List.mem_of_getElem? (i := 268) (by decide +kernel)⟩⟩
theorem fX8_236 : am_fl RX8 236 6 1 := ⟨_, rfl, by decide, Or.inr ⟨"ArmtowerLine", List.mem_of_getElem? (i := 94) (by decide +kernel)⟩⟩
theorem fX8_253 : am_fl RX8 253 2 3 := ⟨_, rfl, by decide, Or.inr ⟨"ArmtowerLine", List.mem_of_getElem? (i := 499) (by decide +kernel)⟩⟩
theorem fX8_256 : am_fl RX8 256 6 3 := ⟨_, rfl, by decide, Or.inr ⟨"ArmtowerLine", List.mem_of_getElem? (i := 97) (by decide +kernel)⟩⟩
theorem fX8_280 : am_fl RX8 280 6 0 := ⟨_, rfl, by decide, Or.inr ⟨"ArmtowerLine", List.mem_of_getElem? (i := 92) (by decide +kernel)⟩⟩
theorem fX8_288 : am_fl RX8 288 7 0 := ⟨_, rfl, by decide, Or.inr ⟨"ArmtowerLine", List.mem_of_getElem? (i := 300) (by decide +kernel)⟩⟩
theorem fX8_331 : am_fl RX8 331 3 1 := ⟨_, rfl, by decide, Or.inr ⟨"ArmtowerLine", List.mem_of_getElem? (i := 265) (by decide +kernel)⟩⟩
theorem kL_10 : am_mi_ RL 10 yX8_init 0 wX8_init := ⟨vX8_init, nX8_init, (am_ux 56 (by decide +kernel) rfl), rfl, Or.inl (am_ux 55 (by decide +kernel) rfl)⟩
theorem kL_11 : am_ms_ RL 11 yL_cell 2 wL_cell := ⟨vL_cell, nL_cell, (am_ux 603 (by decide +kernel) rfl), (am_ux 602 (by decide +kernel) rfl)⟩
theorem kL_17 : am_ms_ RL 17 yL_low 2 wL_low := ⟨vL_low, nL_low, (am_ux 606 (by decide +kernel) rfl), (am_ux 605 (by decide +kernel) rfl)⟩
theorem kL_21 : am_mv_ RL 21 8 yX8_tower 2 wX8_tower := ⟨vX8_tower, nX8_tower, (am_ux 156 (by decide +kernel) rfl), ⟨_, rfl, (am_ux 157 (by decide +kernel) rfl)⟩, Or.inl (am_ux 155 (by decide +kernel) rfl)⟩
theorem kL_24 : am_mv_ RL 24 8 yX8_write 4 wX8_write := ⟨vX8_write, nX8_write, (am_ux 363 (by decide +kernel) rfl), ⟨_, rfl, (am_ux 364 (by decide +kernel) rfl)⟩, Or.inl (am_ux 362 (by decide +kernel) rfl)⟩
theorem kL_28 : am_mv_ RL 28 8 yX8_clear 0 wX8_clear := ⟨vX8_clear, nX8_clear, (am_ux 403 (by decide +kernel) rfl), ⟨_, rfl, (am_ux 404 (by decide +kernel) rfl)⟩, Or.inl (am_ux 402 (by decide +kernel) rfl)⟩
theorem kL_32 : am_mv_ RL 32 8 yX8_type 1 wX8_type := ⟨vX8_type, nX8_type, (am_ux 397 (by decide +kernel) rfl), ⟨_, rfl, (am_ux 398 (by decide +kernel) rfl)⟩, Or.inl (am_ux 396 (by decide +kernel) rfl)⟩
theorem kL_36 : am_mv_ RL 36 8 yX8_keeps 3 wX8_keeps := ⟨vX8_keeps, nX8_keeps, (am_ux 546 (by decide +kernel) rfl), ⟨_, rfl, (am_ux 547 (by decide +kernel) rfl)⟩, Or.inl (am_ux 545 (by decide +kernel) rfl)⟩
theorem kL_40 : am_mv_ RL 40 8 yX8_send 3 wX8_send := ⟨vX8_send, nX8_send, (am_ux 407 (by decide +kernel) rfl), ⟨_, rfl, (am_ux 408 (by decide +kernel) rfl)⟩, Or.inl (am_ux 406 (by decide +kernel) rfl)⟩
theorem kL_44 : am_mv_ RL 44 8 yX8_air 2 wX8_air := ⟨vX8_air, nX8_air, (am_ux 338 (by decide +kernel) rfl), ⟨_, rfl, (am_ux 339 (by decide +kernel) rfl)⟩, Or.inl (am_ux 337 (by decide +kernel) rfl)⟩
theorem kL_47 : am_mv_ RL 47 8 yX8_pass 1 wX8_pass := ⟨vX8_pass, nX8_pass, (am_ux 429 (by decide +kernel) rfl), ⟨_, rfl, (am_ux 430 (by decide +kernel) rfl)⟩, Or.inl (am_ux 428 (by decide +kernel) rfl)⟩
theorem kL_50 : am_mv_ RL 50 8 yX8_came 1 wX8_came := ⟨vX8_came, nX8_came, (am_ux 571 (by decide +kernel) rfl), ⟨_, rfl, (am_ux 572 (by decide +kernel) rfl)⟩, Or.inl (am_ux 570 (by decide +kernel) rfl)⟩
theorem kL_54 : am_mv_ RL 54 8 yX8_open 1 wX8_open := ⟨vX8_open, nX8_open, (am_ux 599 (by decide +kernel) rfl), ⟨_, rfl, (am_ux 600 (by decide +kernel) rfl)⟩, Or.inl (am_ux 598 (by decide +kernel) rfl)⟩
theorem kL_57 : am_mv_ RL 57 8 yX8_told 3 wX8_told := ⟨vX8_told, nX8_told, (am_ux 575 (by decide +kernel) rfl), ⟨_, rfl, (am_ux 576 (by decide +kernel) rfl)⟩, Or.inl (am_ux 574 (by decide +kernel) rfl)⟩
theorem kL_61 : am_mv_ RL 61 8 yX8_phrase 4 wX8_phrase := ⟨vX8_phrase, nX8_phrase, (am_ux 593 (by decide +kernel) rfl), ⟨_, rfl, (am_ux 594 (by decide +kernel) rfl)⟩, Or.inl (am_ux 592 (by decide +kernel) rfl)⟩
theorem kL_65 : am_mv_ RL 65 8 yX8_differs 3 wX8_differs := ⟨vX8_differs, nX8_differs, (am_ux 560 (by decide +kernel) rfl), ⟨_, rfl, (am_ux 561 (by decide +kernel) rfl)⟩, Or.inl (am_ux 559 (by decide +kernel) rfl)⟩
theorem kL_69 : am_mv_ RL 69 8 yX8_logs 2 wX8_logs := ⟨vX8_logs, nX8_logs, (am_ux 556 (by decide +kernel) rfl), ⟨_, rfl, (am_ux 557 (by decide +kernel) rfl)⟩, Or.inl (am_ux 555 (by decide +kernel) rfl)⟩
theorem kX0_21 : am_mi_ RX0 21 yX3_init 0 wX3_init := ⟨vX3_init, nX3_init, (am_ux 260 (by decide +kernel) rfl), rfl, Or.inr ⟨"ArmtowerLine", List.mem_of_getElem? (i := 259) (by decide +kernel)⟩⟩
theorem kX1_22 : am_mv_ RX1 22 1 yX1_indexOf 1 wX1_indexOf := ⟨vX1_indexOf, nX1_indexOf, (am_ux 381 (by decide +kernel) rfl), ⟨_, rfl, (am_ux 4 (by decide +kernel) rfl)⟩, Or.inl (am_ux 379 (by decide +kernel) rfl)⟩
theorem kX1_26 : am_mv_ RX1 26 1 yX1_remove 1 wX1_remove := ⟨vX1_remove, nX1_remove, (am_ux 389 (by decide +kernel) rfl), ⟨_, rfl, (am_ux 6 (by decide +kernel) rfl)⟩, Or.inl (am_ux 387 (by decide +kernel) rfl)⟩
theorem kX1_30 : am_mv_ RX1 30 1 yX1_add 2 wX1_add := ⟨vX1_add, nX1_add, (am_ux 393 (by decide +kernel) rfl), ⟨_, rfl, (am_ux 7 (by decide +kernel) rfl)⟩, Or.inl (am_ux 391 (by decide +kernel) rfl)⟩
theorem kX2_33 : am_mv_ RX2 33 2 yX2_spots 0 wX2_spots := ⟨vX2_spots, nX2_spots, (am_ux 590 (by decide +kernel) rfl), ⟨_, rfl, (am_ux 35 (by decide +kernel) rfl)⟩, Or.inl (am_ux 588 (by decide +kernel) rfl)⟩
theorem kX6_21 : am_mv_ RX6 21 6 yX6_begin 2 wX6_begin := ⟨vX6_begin, nX6_begin, (am_ux 482 (by decide +kernel) rfl), ⟨_, rfl, (am_ux 22 (by decide +kernel) rfl)⟩, Or.inl (am_ux 480 (by decide +kernel) rfl)⟩
theorem kX6_25 : am_mv_ RX6 25 6 yX6_end 1 wX6_end := ⟨vX6_end, nX6_end, (am_ux 518 (by decide +kernel) rfl), ⟨_, rfl, (am_ux 24 (by decide +kernel) rfl)⟩, Or.inl (am_ux 516 (by decide +kernel) rfl)⟩
theorem kX6_29 : am_mv_ RX6 29 6 yX6_dropAll 0 wX6_dropAll := ⟨vX6_dropAll, nX6_dropAll, (am_ux 486 (by decide +kernel) rfl), ⟨_, rfl, (am_ux 23 (by decide +kernel) rfl)⟩, Or.inl (am_ux 484 (by decide +kernel) rfl)⟩
theorem kX6_36 : am_mv_ RX6 36 2 yX2_add 1 wX2_add := ⟨vX2_add, nX2_add, (am_ux 522 (by decide +kernel) rfl), ⟨_, rfl, (am_ux 25 (by decide +kernel) rfl)⟩, Or.inr ⟨"ArmtowerLine", List.mem_of_getElem? (i := 520) (by decide +kernel)⟩⟩
theorem kX6_42 : am_mi_ RX6 42 yX2_init 3 wX2_init := ⟨vX2_init, nX2_init, (am_ux 490 (by decide +kernel) rfl), rfl, Or.inr ⟨"ArmtowerLine", List.mem_of_getElem? (i := 489) (by decide +kernel)⟩⟩
theorem kX7_15 : am_mi_ RX7 15 yX0_init 0 wX0_init := ⟨vX0_init, nX0_init, (am_ux 254 (by decide +kernel) rfl), rfl, Or.inr ⟨"ArmtowerLine", List.mem_of_getElem? (i := 253) (by decide +kernel)⟩⟩
theorem kX8_31 : am_mi_ RX8 31 yX1_init 0 wX1_init := ⟨vX1_init, nX1_init, (am_ux 69 (by decide +kernel) rfl), rfl, Or.inr ⟨"ArmtowerLine", List.mem_of_getElem? (i := 68) (by decide +kernel)⟩⟩
theorem kX8_41 : am_mi_ RX8 41 yX6_init 0 wX6_init := ⟨vX6_init, nX6_init, (am_ux 86 (by decide +kernel) rfl), rfl, Or.inr ⟨"ArmtowerLine", List.mem_of_getElem? (i := 85) (by decide +kernel)⟩⟩
theorem kX8_55 : am_ms_ RX8 55 yX8_isOutside 3 wX8_isOutside := ⟨vX8_isOutside, nX8_isOutside, (am_ux 160 (by decide +kernel) rfl), (am_ux 159 (by decide +kernel) rfl)⟩
theorem kX8_78 : am_mi_ RX8 78 yX7_init 1 wX7_init := ⟨vX7_init, nX7_init, (am_ux 248 (by decide +kernel) rfl), rfl, Or.inr ⟨"ArmtowerLine", List.mem_of_getElem? (i := 247) (by decide +kernel)⟩⟩
theorem kX8_81 : am_mi_ RX8 81 yX5_init 1 wX5_init := ⟨vX5_init, nX5_init, (am_ux 317 (by decide +kernel) rfl), rfl, Or.inr ⟨"ArmtowerLine", List.mem_of_getElem? (i := 316) (by decide +kernel)⟩⟩
theorem kX8_82 : am_mv_ RX8 82 8 yX8_stretchAt 1 wX8_stretchAt := ⟨vX8_stretchAt, nX8_stretchAt, (am_ux 343 (by decide +kernel) rfl), ⟨_, rfl, (am_ux 1 (by decide +kernel) rfl)⟩, Or.inl (am_ux 341 (by decide +kernel) rfl)⟩
theorem kX8_105 : am_mv_ RX8 105 8 yX8_towerAt 1 wX8_towerAt := ⟨vX8_towerAt, nX8_towerAt, (am_ux 551 (by decide +kernel) rfl), ⟨_, rfl, (am_ux 31 (by decide +kernel) rfl)⟩, Or.inl (am_ux 549 (by decide +kernel) rfl)⟩
theorem kX8_119 : am_mv_ RX8 119 8 yX8_bookAt 1 wX8_bookAt := ⟨vX8_bookAt, nX8_bookAt, (am_ux 368 (by decide +kernel) rfl), ⟨_, rfl, (am_ux 2 (by decide +kernel) rfl)⟩, Or.inl (am_ux 366 (by decide +kernel) rfl)⟩
theorem kX8_125 : am_ms_ RX8 125 yX8_spotOf 2 wX8_spotOf := ⟨vX8_spotOf, nX8_spotOf, (am_ux 373 (by decide +kernel) rfl), (am_ux 372 (by decide +kernel) rfl)⟩
theorem kX8_129 : am_mv_ RX8 129 1 yX1_phraseAt 1 wX1_phraseAt := ⟨vX1_phraseAt, nX1_phraseAt, (am_ux 377 (by decide +kernel) rfl), ⟨_, rfl, (am_ux 3 (by decide +kernel) rfl)⟩, Or.inr ⟨"ArmtowerLine", List.mem_of_getElem? (i := 375) (by decide +kernel)⟩⟩
theorem kX8_133 : am_mv_ RX8 133 1 yX1_put 2 wX1_put := ⟨vX1_put, nX1_put, (am_ux 385 (by decide +kernel) rfl), ⟨_, rfl, (am_ux 5 (by decide +kernel) rfl)⟩, Or.inr ⟨"ArmtowerLine", List.mem_of_getElem? (i := 383) (by decide +kernel)⟩⟩
theorem kX8_147 : am_mv_ RX8 147 8 yX8_layOut 2 wX8_layOut := ⟨vX8_layOut, nX8_layOut, (am_ux 413 (by decide +kernel) rfl), ⟨_, rfl, (am_ux 8 (by decide +kernel) rfl)⟩, Or.inl (am_ux 411 (by decide +kernel) rfl)⟩
theorem kX8_160 : am_mv_ RX8 160 0 yX0_keepAll 3 wX0_keepAll := ⟨vX0_keepAll, nX0_keepAll, (am_ux 422 (by decide +kernel) rfl), ⟨_, rfl, (am_ux 10 (by decide +kernel) rfl)⟩, Or.inr ⟨"ArmtowerLine", List.mem_of_getElem? (i := 420) (by decide +kernel)⟩⟩
theorem kX8_171 : am_mv_ RX8 171 7 yX7_armFor 1 wX7_armFor := ⟨vX7_armFor, nX7_armFor, (am_ux 443 (by decide +kernel) rfl), ⟨_, rfl, (am_ux 13 (by decide +kernel) rfl)⟩, Or.inr ⟨"ArmtowerLine", List.mem_of_getElem? (i := 441) (by decide +kernel)⟩⟩
theorem kX8_175 : am_mv_ RX8 175 8 yX8_isEnd 2 wX8_isEnd := ⟨vX8_isEnd, nX8_isEnd, (am_ux 447 (by decide +kernel) rfl), ⟨_, rfl, (am_ux 14 (by decide +kernel) rfl)⟩, Or.inl (am_ux 445 (by decide +kernel) rfl)⟩
theorem kX8_179 : am_mv_ RX8 179 0 yX0_keepOne 1 wX0_keepOne := ⟨vX0_keepOne, nX0_keepOne, (am_ux 526 (by decide +kernel) rfl), ⟨_, rfl, (am_ux 26 (by decide +kernel) rfl)⟩, Or.inr ⟨"ArmtowerLine", List.mem_of_getElem? (i := 524) (by decide +kernel)⟩⟩
theorem kX8_189 : am_mv_ RX8 189 3 yX3_enter 3 wX3_enter := ⟨vX3_enter, nX3_enter, (am_ux 470 (by decide +kernel) rfl), ⟨_, rfl, (am_ux 19 (by decide +kernel) rfl)⟩, Or.inr ⟨"ArmtowerLine", List.mem_of_getElem? (i := 468) (by decide +kernel)⟩⟩
theorem kX8_203 : am_mv_ RX8 203 8 yX8_passOne 0 wX8_passOne := ⟨vX8_passOne, nX8_passOne, (am_ux 435 (by decide +kernel) rfl), ⟨_, rfl, (am_ux 11 (by decide +kernel) rfl)⟩, Or.inl (am_ux 433 (by decide +kernel) rfl)⟩
theorem kX8_206 : am_mv_ RX8 206 8 yX8_isSeenAlong 1 wX8_isSeenAlong := ⟨vX8_isSeenAlong, nX8_isSeenAlong, (am_ux 454 (by decide +kernel) rfl), ⟨_, rfl, (am_ux 15 (by decide +kernel) rfl)⟩, Or.inl (am_ux 452 (by decide +kernel) rfl)⟩
theorem kX8_228 : am_ms_ RX8 228 yX8_firstUnlike 2 wX8_firstUnlike := ⟨vX8_firstUnlike, nX8_firstUnlike, (am_ux 564 (by decide +kernel) rfl), (am_ux 563 (by decide +kernel) rfl)⟩
theorem kX8_232 : am_mv_ RX8 232 8 yX8_tapeOf 1 wX8_tapeOf := ⟨vX8_tapeOf, nX8_tapeOf, (am_ux 474 (by decide +kernel) rfl), ⟨_, rfl, (am_ux 20 (by decide +kernel) rfl)⟩, Or.inl (am_ux 472 (by decide +kernel) rfl)⟩
theorem kX8_239 : am_mv_ RX8 239 8 yX8_dispatchAt 2 wX8_dispatchAt := ⟨vX8_dispatchAt, nX8_dispatchAt, (am_ux 580 (by decide +kernel) rfl), ⟨_, rfl, (am_ux 33 (by decide +kernel) rfl)⟩, Or.inl (am_ux 578 (by decide +kernel) rfl)⟩
theorem kX8_243 : am_mv_ RX8 243 2 yX2_tell 1 wX2_tell := ⟨vX2_tell, nX2_tell, (am_ux 586 (by decide +kernel) rfl), ⟨_, rfl, (am_ux 34 (by decide +kernel) rfl)⟩, Or.inr ⟨"ArmtowerLine", List.mem_of_getElem? (i := 584) (by decide +kernel)⟩⟩
theorem kX8_247 : am_mv_ RX8 247 2 yX2_spots 0 wX2_spots := ⟨vX2_spots, nX2_spots, (am_ux 590 (by decide +kernel) rfl), ⟨_, rfl, (am_ux 35 (by decide +kernel) rfl)⟩, Or.inr ⟨"ArmtowerLine", List.mem_of_getElem? (i := 596) (by decide +kernel)⟩⟩
theorem kX8_284 : am_mv_ RX8 284 8 yX8_isDay 0 wX8_isDay := ⟨vX8_isDay, nX8_isDay, (am_ux 458 (by decide +kernel) rfl), ⟨_, rfl, (am_ux 16 (by decide +kernel) rfl)⟩, Or.inl (am_ux 456 (by decide +kernel) rfl)⟩
theorem kX8_291 : am_mv_ RX8 291 5 yX5_isClear 2 wX5_isClear := ⟨vX5_isClear, nX5_isClear, (am_ux 462 (by decide +kernel) rfl), ⟨_, rfl, (am_ux 17 (by decide +kernel) rfl)⟩, Or.inr ⟨"ArmtowerLine", List.mem_of_getElem? (i := 460) (by decide +kernel)⟩⟩
theorem kX8_294 : am_mv_ RX8 294 1 yX1_lowestSpotOf 1 wX1_lowestSpotOf := ⟨vX1_lowestSpotOf, nX1_lowestSpotOf, (am_ux 417 (by decide +kernel) rfl), ⟨_, rfl, (am_ux 9 (by decide +kernel) rfl)⟩, Or.inr ⟨"ArmtowerLine", List.mem_of_getElem? (i := 415) (by decide +kernel)⟩⟩
theorem kX8_297 : am_mv_ RX8 297 8 yX8_look 2 wX8_look := ⟨vX8_look, nX8_look, (am_ux 439 (by decide +kernel) rfl), ⟨_, rfl, (am_ux 12 (by decide +kernel) rfl)⟩, Or.inl (am_ux 437 (by decide +kernel) rfl)⟩
theorem kX8_301 : am_mv_ RX8 301 8 yX8_showNext 2 wX8_showNext := ⟨vX8_showNext, nX8_showNext, (am_ux 530 (by decide +kernel) rfl), ⟨_, rfl, (am_ux 27 (by decide +kernel) rfl)⟩, Or.inl (am_ux 528 (by decide +kernel) rfl)⟩
theorem kX8_304 : am_ms_ RX8 304 yJ9_min_7cf53 2 wJ9_min_7cf53 := ⟨vJ9_min_7cf53, nJ9_min_7cf53, (am_ux 450 (by decide +kernel) rfl), (am_ux 449 (by decide +kernel) rfl)⟩
theorem kX8_309 : am_mv_ RX8 309 8 yX8_signAsRead 2 wX8_signAsRead := ⟨vX8_signAsRead, nX8_signAsRead, (am_ux 466 (by decide +kernel) rfl), ⟨_, rfl, (am_ux 18 (by decide +kernel) rfl)⟩, Or.inl (am_ux 464 (by decide +kernel) rfl)⟩
theorem kX8_312 : am_mv_ RX8 312 6 yX6_putOn 2 wX6_putOn := ⟨vX6_putOn, nX6_putOn, (am_ux 478 (by decide +kernel) rfl), ⟨_, rfl, (am_ux 21 (by decide +kernel) rfl)⟩, Or.inr ⟨"ArmtowerLine", List.mem_of_getElem? (i := 476) (by decide +kernel)⟩⟩
theorem kX8_316 : am_mv_ RX8 316 0 yX0_removeFirst 0 wX0_removeFirst := ⟨vX0_removeFirst, nX0_removeFirst, (am_ux 534 (by decide +kernel) rfl), ⟨_, rfl, (am_ux 28 (by decide +kernel) rfl)⟩, Or.inr ⟨"ArmtowerLine", List.mem_of_getElem? (i := 532) (by decide +kernel)⟩⟩
theorem kX8_319 : am_mv_ RX8 319 8 yX8_tellSpies 2 wX8_tellSpies := ⟨vX8_tellSpies, nX8_tellSpies, (am_ux 538 (by decide +kernel) rfl), ⟨_, rfl, (am_ux 29 (by decide +kernel) rfl)⟩, Or.inl (am_ux 536 (by decide +kernel) rfl)⟩
theorem kX8_328 : am_mv_ RX8 328 3 yX3_nextTaken 1 wX3_nextTaken := ⟨vX3_nextTaken, nX3_nextTaken, (am_ux 568 (by decide +kernel) rfl), ⟨_, rfl, (am_ux 32 (by decide +kernel) rfl)⟩, Or.inr ⟨"ArmtowerLine", List.mem_of_getElem? (i := 566) (by decide +kernel)⟩⟩
theorem lL_8 : am_cl RL 8 8 14 := ⟨_, rfl, rfl, (am_ux 53 (by decide +kernel) rfl), (am_ux 54 (by decide +kernel) rfl), (am_ux 37 (by decide +kernel) rfl)⟩
theorem lX0_19 : am_cl RX0 19 3 4 := ⟨_, rfl, rfl, (am_ux 257 (by decide +kernel) rfl), (am_ux 258 (by decide +kernel) rfl), (am_ux 47 (by decide +kernel) rfl)⟩
theorem aX6_9 : Cond.classLink RX6 9 RX2 ∈ am_uw ∧ Cond.arrayOver (.object RX2) ∈ lw_tbl := ⟨(am_ux 89 (by decide +kernel) rfl), List.mem_of_getElem? (i := 90) (by decide +kernel)⟩
theorem lX6_9 : am_cl RX6 9 2 6 := ⟨_, rfl, rfl, (am_ux 89 (by decide +kernel) rfl), (am_ux 488 (by decide +kernel) rfl), (am_ux 52 (by decide +kernel) rfl)⟩
theorem lX7_13 : am_cl RX7 13 0 5 := ⟨_, rfl, rfl, (am_ux 251 (by decide +kernel) rfl), (am_ux 252 (by decide +kernel) rfl), (am_ux 46 (by decide +kernel) rfl)⟩
theorem aX8_9 : Cond.classLink RX8 9 RX7 ∈ am_uw ∧ Cond.arrayOver (.object RX7) ∈ lw_tbl := ⟨(am_ux 61 (by decide +kernel) rfl), List.mem_of_getElem? (i := 62) (by decide +kernel)⟩
theorem lX8_9 : am_cl RX8 9 7 4 := ⟨_, rfl, rfl, (am_ux 61 (by decide +kernel) rfl), (am_ux 246 (by decide +kernel) rfl), (am_ux 45 (by decide +kernel) rfl)⟩
theorem aX8_15 : Cond.classLink RX8 15 RX5 ∈ am_uw ∧ Cond.arrayOver (.object RX5) ∈ lw_tbl := ⟨(am_ux 63 (by decide +kernel) rfl), List.mem_of_getElem? (i := 64) (by decide +kernel)⟩
theorem lX8_15 : am_cl RX8 15 5 5 := ⟨_, rfl, rfl, (am_ux 63 (by decide +kernel) rfl), (am_ux 315 (by decide +kernel) rfl), (am_ux 48 (by decide +kernel) rfl)⟩
theorem aX8_25 : Cond.classLink RX8 25 RX1 ∈ am_uw ∧ Cond.arrayOver (.object RX1) ∈ lw_tbl := ⟨(am_ux 65 (by decide +kernel) rfl), List.mem_of_getElem? (i := 66) (by decide +kernel)⟩
theorem lX8_25 : am_cl RX8 25 1 3 := ⟨_, rfl, rfl, (am_ux 65 (by decide +kernel) rfl), (am_ux 67 (by decide +kernel) rfl), (am_ux 38 (by decide +kernel) rfl)⟩
theorem lX8_39 : am_cl RX8 39 6 5 := ⟨_, rfl, rfl, (am_ux 83 (by decide +kernel) rfl), (am_ux 84 (by decide +kernel) rfl), (am_ux 39 (by decide +kernel) rfl)⟩
theorem aX8_49 : Cond.classLink RX8 49 RX4 ∈ am_uw ∧ Cond.arrayOver (.object RX4) ∈ lw_tbl := ⟨(am_ux 110 (by decide +kernel) rfl), List.mem_of_getElem? (i := 111) (by decide +kernel)⟩
theorem x_thr0 : am_thr RX8 212 216 0 := ⟨(am_ux 345 (by decide +kernel) rfl), (am_ux 49 (by decide +kernel) rfl), by decide +kernel, by decide +kernel, by decide +kernel⟩
theorem x_thr1 : am_thr RX8 59 63 1 := ⟨(am_ux 162 (by decide +kernel) rfl), (am_ux 43 (by decide +kernel) rfl), by decide +kernel, by decide +kernel, by decide +kernel⟩
theorem x_thr2 : am_thr RX8 73 77 2 := ⟨(am_ux 230 (by decide +kernel) rfl), (am_ux 44 (by decide +kernel) rfl), by decide +kernel, by decide +kernel, by decide +kernel⟩
theorem x_tx61 : Cond.stringRef RX8 61 "height or far is out of range" ∈ lw_tbl := List.mem_of_getElem? (i := 203) (by decide +kernel)
theorem x_tx75 : Cond.stringRef RX8 75 "there are 12 towers, or the line is in use" ∈ lw_tbl := List.mem_of_getElem? (i := 239) (by decide +kernel)
theorem x_tx272 : Cond.stringRef RX8 272 "no such stretch" ∈ lw_tbl := List.mem_of_getElem? (i := 354) (by decide +kernel)
theorem x_tx100 : Cond.stringRef RX8 100 "air is out of range" ∈ lw_tbl := List.mem_of_getElem? (i := 361) (by decide +kernel)
theorem x_tx274 : Cond.stringRef RX8 274 "no such book" ∈ lw_tbl := List.mem_of_getElem? (i := 370) (by decide +kernel)
theorem x_tx123 : Cond.stringRef RX8 123 "page, line or phrase is out of range" ∈ lw_tbl := List.mem_of_getElem? (i := 371) (by decide +kernel)
theorem x_tx136 : Cond.stringRef RX8 136 "the book has 200 spots" ∈ lw_tbl := List.mem_of_getElem? (i := 395) (by decide +kernel)
theorem x_tx138 : Cond.stringRef RX8 138 "phrase is out of range" ∈ lw_tbl := List.mem_of_getElem? (i := 400) (by decide +kernel)
theorem x_tx143 : Cond.stringRef RX8 143 "the text has 12 phrases" ∈ lw_tbl := List.mem_of_getElem? (i := 401) (by decide +kernel)
theorem x_tx145 : Cond.stringRef RX8 145 "there are fewer than 2 towers, or no text" ∈ lw_tbl := List.mem_of_getElem? (i := 410) (by decide +kernel)
theorem x_tx151 : Cond.stringRef RX8 151 "a phrase is not in the book" ∈ lw_tbl := List.mem_of_getElem? (i := 419) (by decide +kernel)
theorem x_tx166 : Cond.stringRef RX8 166 "the tower would keep more than 200 signs" ∈ lw_tbl := List.mem_of_getElem? (i := 427) (by decide +kernel)
theorem x_tx201 : Cond.stringRef RX8 201 "minutes is out of range" ∈ lw_tbl := List.mem_of_getElem? (i := 432) (by decide +kernel)
theorem x_tx270 : Cond.stringRef RX8 270 "no such tower" ∈ lw_tbl := List.mem_of_getElem? (i := 553) (by decide +kernel)
theorem x_tx214 : Cond.stringRef RX8 214 "place is below 0" ∈ lw_tbl := List.mem_of_getElem? (i := 554) (by decide +kernel)
theorem x_tx278 : Cond.stringRef RX8 278 "no such dispatch" ∈ lw_tbl := List.mem_of_getElem? (i := 582) (by decide +kernel)
theorem x_tx223 : Cond.stringRef RX8 223 "what is out of range" ∈ lw_tbl := List.mem_of_getElem? (i := 583) (by decide +kernel)
theorem x_tx251 : Cond.stringRef RX8 251 "no such place" ∈ lw_tbl := List.mem_of_getElem? (i := 597) (by decide +kernel)
theorem oX0 : Cond.methodLink RX0 3 Lib.objectInit ∈ am_uw := (am_ux 256 (by decide +kernel) rfl)
theorem gX0_32 : Cond.methodLink RX0 32 arraycopyName ∈ am_uw := (am_ux 424 (by decide +kernel) rfl)
theorem oX1 : Cond.methodLink RX1 3 Lib.objectInit ∈ am_uw := (am_ux 71 (by decide +kernel) rfl)
theorem oX2 : Cond.methodLink RX2 3 Lib.objectInit ∈ am_uw := (am_ux 492 (by decide +kernel) rfl)
theorem oX3 : Cond.methodLink RX3 3 Lib.objectInit ∈ am_uw := (am_ux 262 (by decide +kernel) rfl)
theorem oX5 : Cond.methodLink RX5 3 Lib.objectInit ∈ am_uw := (am_ux 319 (by decide +kernel) rfl)
theorem oX6 : Cond.methodLink RX6 3 Lib.objectInit ∈ am_uw := (am_ux 88 (by decide +kernel) rfl)
theorem oX7 : Cond.methodLink RX7 1 Lib.objectInit ∈ am_uw := (am_ux 250 (by decide +kernel) rfl)
theorem oX8 : Cond.methodLink RX8 3 Lib.objectInit ∈ am_uw := (am_ux 58 (by decide +kernel) rfl)
theorem x_oi1 : Cond.instanceMethod Lib.objectInit ∈ am_uw := (am_ux 59 (by decide +kernel) rfl)
theorem x_oi2 : Cond.code Lib.objectInit ⟨#[0xb1]⟩ 1 none ∈ am_uw := by decide +kernel
theorem x_ac1 : Cond.native arraycopyName ∈ am_uw := (am_ux 426 (by decide +kernel) rfl)
theorem x_ac2 : Cond.static arraycopyName ∈ am_uw := (am_ux 425 (by decide +kernel) rfl)
theorem x_ac3 : Cond.initialized "java/lang/System" ∈ am_uw := (am_ux 50 (by decide +kernel) rfl)
theorem x_arr0 : Cond.arrayClass (am_ty 0) ∈ am_uw := (am_ux 82 (by decide +kernel) rfl)
theorem x_arr1 : Cond.arrayClass (am_ty 1) ∈ am_uw := (am_ux 278 (by decide +kernel) rfl)
