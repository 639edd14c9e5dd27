theorem gi (i : Nat) (w : Cond) (h : lw_tbl[i]? = some w) (g : goodWord w = true) : w ∈ gw := gw_of (List.mem_of_getElem? h) g
theorem clk0 : CLK 0 := ⟨(RX0, TX0, 2), tyX0, rfl, fun w hw => gw_of ((by decide +kernel : ∀ w ∈ u_ws RX0 TX0 2, w ∈ lw_tbl) w hw) ((by decide +kernel : ∀ w ∈ u_ws RX0 TX0 2, goodWord w = true) w hw), tyX0_ok, nmX0⟩
theorem clk1 : CLK 1 := ⟨(RX1, TX1, 4), tyX1, rfl, fun w hw => gw_of ((by decide +kernel : ∀ w ∈ u_ws RX1 TX1 4, w ∈ lw_tbl) w hw) ((by decide +kernel : ∀ w ∈ u_ws RX1 TX1 4, goodWord w = true) w hw), tyX1_ok, nmX1⟩
theorem clk2 : CLK 2 := ⟨(RX2, TX2, 9), tyX2, rfl, fun w hw => gw_of ((by decide +kernel : ∀ w ∈ u_ws RX2 TX2 9, w ∈ lw_tbl) w hw) ((by decide +kernel : ∀ w ∈ u_ws RX2 TX2 9, goodWord w = true) w hw), tyX2_ok, nmX2⟩
theorem clk3 : CLK 3 := ⟨(RX3, TX3, 6), tyX3, rfl, fun w hw => gw_of ((by decide +kernel : ∀ w ∈ u_ws RX3 TX3 6, w ∈ lw_tbl) w hw) ((by decide +kernel : ∀ w ∈ u_ws RX3 TX3 6, goodWord w = true) w hw), tyX3_ok, nmX3⟩
theorem clk4 : CLK 4 := ⟨(RX4, TX4, 8), tyX4, rfl, fun w hw => gw_of ((by decide +kernel : ∀ w ∈ u_ws RX4 TX4 8, w ∈ lw_tbl) w hw) ((by decide +kernel : ∀ w ∈ u_ws RX4 TX4 8, goodWord w = true) w hw), tyX4_ok, nmX4⟩
theorem clk5 : CLK 5 := ⟨(RX5, TX5, 14), tyX5, rfl, fun w hw => gw_of ((by decide +kernel : ∀ w ∈ u_ws RX5 TX5 14, w ∈ lw_tbl) w hw) ((by decide +kernel : ∀ w ∈ u_ws RX5 TX5 14, goodWord w = true) w hw), tyX5_ok, nmX5⟩
theorem clk6 : CLK 6 := ⟨(RX6, TX6, 40), tyX6, rfl, fun w hw => gw_of ((by decide +kernel : ∀ w ∈ u_ws RX6 TX6 40, w ∈ lw_tbl) w hw) ((by decide +kernel : ∀ w ∈ u_ws RX6 TX6 40, goodWord w = true) w hw), tyX6_ok, nmX6⟩
abbrev mX5_init : MD := (yX5_init, cX5_init, 1, none)
theorem okX5_init : OKM mX5_init 0 := ⟨by decide +kernel, gi 77 _ (by decide +kernel) rfl, ⟨by decide +kernel, by decide +kernel⟩, by decide +kernel, gi 65 _ (by decide +kernel) rfl, by decide⟩
abbrev mX0_init : MD := (yX0_init, cX0_init, 1, none)
theorem okX0_init : OKM mX0_init 0 := ⟨by decide +kernel, gi 85 _ (by decide +kernel) rfl, ⟨by decide +kernel, by decide +kernel⟩, by decide +kernel, gi 66 _ (by decide +kernel) rfl, by decide⟩
abbrev mX4_init : MD := (yX4_init, cX4_init, 1, none)
theorem okX4_init : OKM mX4_init 0 := ⟨by decide +kernel, gi 99 _ (by decide +kernel) rfl, ⟨by decide +kernel, by decide +kernel⟩, by decide +kernel, gi 67 _ (by decide +kernel) rfl, by decide⟩
abbrev mX2_init : MD := (yX2_init, cX2_init, 1, none)
theorem okX2_init : OKM mX2_init 0 := ⟨by decide +kernel, gi 133 _ (by decide +kernel) rfl, ⟨by decide +kernel, by decide +kernel⟩, by decide +kernel, gi 68 _ (by decide +kernel) rfl, by decide⟩
abbrev mX1_init : MD := (yX1_init, cX1_init, 1, none)
theorem okX1_init : OKM mX1_init 0 := ⟨by decide +kernel, gi 173 _ (by decide +kernel) rfl, ⟨by decide +kernel, by decide +kernel⟩, by decide +kernel, gi 69 _ (by decide +kernel) rfl, by decide⟩
abbrev mX3_init : MD := (yX3_init, cX3_init, 3, none)
theorem okX3_init : OKM mX3_init 2 := ⟨by decide +kernel, gi 192 _ (by decide +kernel) rfl, ⟨by decide +kernel, by decide +kernel⟩, by decide +kernel, gi 70 _ (by decide +kernel) rfl, by decide⟩
abbrev mX5_type : MD := (yX5_type, cX5_type, 2, (some .int))
theorem okX5_type : OKM mX5_type 1 := ⟨by decide +kernel, gi 260 _ (by decide +kernel) rfl, ⟨by decide +kernel, by decide +kernel⟩, by decide +kernel, gi 65 _ (by decide +kernel) rfl, by decide⟩
abbrev mX2_add : MD := (yX2_add, cX2_add, 2, (some .boolean))
theorem okX2_add : OKM mX2_add 1 := ⟨by decide +kernel, gi 264 _ (by decide +kernel) rfl, ⟨by decide +kernel, by decide +kernel⟩, by decide +kernel, gi 68 _ (by decide +kernel) rfl, by decide⟩
abbrev mX2_letters : MD := (yX2_letters, cX2_letters, 1, (some .int))
theorem okX2_letters : OKM mX2_letters 0 := ⟨by decide +kernel, gi 268 _ (by decide +kernel) rfl, ⟨by decide +kernel, by decide +kernel⟩, by decide +kernel, gi 68 _ (by decide +kernel) rfl, by decide⟩
abbrev mX5_clear : MD := (yX5_clear, cX5_clear, 2, (some .int))
theorem okX5_clear : OKM mX5_clear 0 := ⟨by decide +kernel, gi 272 _ (by decide +kernel) rfl, ⟨by decide +kernel, by decide +kernel⟩, by decide +kernel, gi 65 _ (by decide +kernel) rfl, by decide⟩
abbrev mX2_drop : MD := (yX2_drop, cX2_drop, 1, none)
theorem okX2_drop : OKM mX2_drop 0 := ⟨by decide +kernel, gi 276 _ (by decide +kernel) rfl, ⟨by decide +kernel, by decide +kernel⟩, by decide +kernel, gi 68 _ (by decide +kernel) rfl, by decide⟩
abbrev mX5_desk : MD := (yX5_desk, cX5_desk, 2, (some .int))
theorem okX5_desk : OKM mX5_desk 0 := ⟨by decide +kernel, gi 280 _ (by decide +kernel) rfl, ⟨by decide +kernel, by decide +kernel⟩, by decide +kernel, gi 65 _ (by decide +kernel) rfl, by decide⟩
abbrev mX2_read : MD := (yX2_read, cX2_read, 2, (some .int))
theorem okX2_read : OKM mX2_read 0 := ⟨by decide +kernel, gi 284 _ (by decide +kernel) rfl, ⟨by decide +kernel, by decide +kernel⟩, by decide +kernel, gi 68 _ (by decide +kernel) rfl, by decide⟩
abbrev mX0_reset : MD := (yX0_reset, cX0_reset, 2, none)
theorem okX0_reset : OKM mX0_reset 0 := ⟨by decide +kernel, gi 288 _ (by decide +kernel) rfl, ⟨by decide +kernel, by decide +kernel⟩, by decide +kernel, gi 66 _ (by decide +kernel) rfl, by decide⟩
abbrev mX4_reset : MD := (yX4_reset, cX4_reset, 1, none)
theorem okX4_reset : OKM mX4_reset 0 := ⟨by decide +kernel, gi 292 _ (by decide +kernel) rfl, ⟨by decide +kernel, by decide +kernel⟩, by decide +kernel, gi 67 _ (by decide +kernel) rfl, by decide⟩
abbrev mX2_pass : MD := (yX2_pass, cX2_pass, 2, none)
theorem okX2_pass : OKM mX2_pass 0 := ⟨by decide +kernel, gi 296 _ (by decide +kernel) rfl, ⟨by decide +kernel, by decide +kernel⟩, by decide +kernel, gi 68 _ (by decide +kernel) rfl, by decide⟩
abbrev mX2_isDigit : MD := (yX2_isDigit, cX2_isDigit, 1, (some .boolean))
theorem okX2_isDigit : OKM mX2_isDigit 1 := ⟨by decide +kernel, gi 299 _ (by decide +kernel) rfl, ⟨by decide +kernel, by decide +kernel⟩, by decide +kernel, gi 68 _ (by decide +kernel) rfl, by decide⟩
abbrev mX2_passDigits : MD := (yX2_passDigits, cX2_passDigits, 3, none)
theorem okX2_passDigits : OKM mX2_passDigits 1 := ⟨by decide +kernel, gi 303 _ (by decide +kernel) rfl, ⟨by decide +kernel, by decide +kernel⟩, by decide +kernel, gi 68 _ (by decide +kernel) rfl, by decide⟩
abbrev mX2_readItem : MD := (yX2_readItem, cX2_readItem, 2, (some .boolean))
theorem okX2_readItem : OKM mX2_readItem 0 := ⟨by decide +kernel, gi 307 _ (by decide +kernel) rfl, ⟨by decide +kernel, by decide +kernel⟩, by decide +kernel, gi 68 _ (by decide +kernel) rfl, by decide⟩
abbrev mX2_readSource : MD := (yX2_readSource, cX2_readSource, 3, (some .boolean))
theorem okX2_readSource : OKM mX2_readSource 0 := ⟨by decide +kernel, gi 311 _ (by decide +kernel) rfl, ⟨by decide +kernel, by decide +kernel⟩, by decide +kernel, gi 68 _ (by decide +kernel) rfl, by decide⟩
abbrev mX2_sourceAtHand : MD := (yX2_sourceAtHand, cX2_sourceAtHand, 1, (some .int))
theorem okX2_sourceAtHand : OKM mX2_sourceAtHand 0 := ⟨by decide +kernel, gi 315 _ (by decide +kernel) rfl, ⟨by decide +kernel, by decide +kernel⟩, by decide +kernel, gi 68 _ (by decide +kernel) rfl, by decide⟩
abbrev mX5_isSource : MD := (yX5_isSource, cX5_isSource, 1, (some .boolean))
theorem okX5_isSource : OKM mX5_isSource 1 := ⟨by decide +kernel, gi 318 _ (by decide +kernel) rfl, ⟨by decide +kernel, by decide +kernel⟩, by decide +kernel, gi 65 _ (by decide +kernel) rfl, by decide⟩
abbrev mX2_passSign : MD := (yX2_passSign, cX2_passSign, 1, (some .int))
theorem okX2_passSign : OKM mX2_passSign 0 := ⟨by decide +kernel, gi 322 _ (by decide +kernel) rfl, ⟨by decide +kernel, by decide +kernel⟩, by decide +kernel, gi 68 _ (by decide +kernel) rfl, by decide⟩
abbrev mX0_setWorth : MD := (yX0_setWorth, cX0_setWorth, 3, none)
theorem okX0_setWorth : OKM mX0_setWorth 2 := ⟨by decide +kernel, gi 326 _ (by decide +kernel) rfl, ⟨by decide +kernel, by decide +kernel⟩, by decide +kernel, gi 66 _ (by decide +kernel) rfl, by decide⟩
abbrev mX0_setSpread : MD := (yX0_setSpread, cX0_setSpread, 4, none)
theorem okX0_setSpread : OKM mX0_setSpread 3 := ⟨by decide +kernel, gi 331 _ (by decide +kernel) rfl, ⟨by decide +kernel, by decide +kernel⟩, by decide +kernel, gi 66 _ (by decide +kernel) rfl, by decide⟩
abbrev mX2_readJoint : MD := (yX2_readJoint, cX2_readJoint, 4, (some .boolean))
theorem okX2_readJoint : OKM mX2_readJoint 0 := ⟨by decide +kernel, gi 335 _ (by decide +kernel) rfl, ⟨by decide +kernel, by decide +kernel⟩, by decide +kernel, gi 68 _ (by decide +kernel) rfl, by decide⟩
abbrev mX2_readFormula : MD := (yX2_readFormula, cX2_readFormula, 1, (some .boolean))
theorem okX2_readFormula : OKM mX2_readFormula 0 := ⟨by decide +kernel, gi 339 _ (by decide +kernel) rfl, ⟨by decide +kernel, by decide +kernel⟩, by decide +kernel, gi 68 _ (by decide +kernel) rfl, by decide⟩
abbrev mX4_formulas : MD := (yX4_formulas, cX4_formulas, 1, (some .int))
theorem okX4_formulas : OKM mX4_formulas 0 := ⟨by decide +kernel, gi 343 _ (by decide +kernel) rfl, ⟨by decide +kernel, by decide +kernel⟩, by decide +kernel, gi 67 _ (by decide +kernel) rfl, by decide⟩
abbrev mX2_readSum : MD := (yX2_readSum, cX2_readSum, 6, (some .int))
theorem okX2_readSum : OKM mX2_readSum 1 := ⟨by decide +kernel, gi 347 _ (by decide +kernel) rfl, ⟨by decide +kernel, by decide +kernel⟩, by decide +kernel, gi 68 _ (by decide +kernel) rfl, by decide⟩
abbrev mX2_readProduct : MD := (yX2_readProduct, cX2_readProduct, 5, (some .int))
theorem okX2_readProduct : OKM mX2_readProduct 1 := ⟨by decide +kernel, gi 351 _ (by decide +kernel) rfl, ⟨by decide +kernel, by decide +kernel⟩, by decide +kernel, gi 68 _ (by decide +kernel) rfl, by decide⟩
abbrev mX2_readPower : MD := (yX2_readPower, cX2_readPower, 3, (some .int))
theorem okX2_readPower : OKM mX2_readPower 1 := ⟨by decide +kernel, gi 355 _ (by decide +kernel) rfl, ⟨by decide +kernel, by decide +kernel⟩, by decide +kernel, gi 68 _ (by decide +kernel) rfl, by decide⟩
abbrev mX2_readPart : MD := (yX2_readPart, cX2_readPart, 5, (some .int))
theorem okX2_readPart : OKM mX2_readPart 1 := ⟨by decide +kernel, gi 359 _ (by decide +kernel) rfl, ⟨by decide +kernel, by decide +kernel⟩, by decide +kernel, gi 68 _ (by decide +kernel) rfl, by decide⟩
abbrev mX2_countNode : MD := (yX2_countNode, cX2_countNode, 1, (some .boolean))
theorem okX2_countNode : OKM mX2_countNode 0 := ⟨by decide +kernel, gi 363 _ (by decide +kernel) rfl, ⟨by decide +kernel, by decide +kernel⟩, by decide +kernel, gi 68 _ (by decide +kernel) rfl, by decide⟩
abbrev mX2_readBarePart : MD := (yX2_readBarePart, cX2_readBarePart, 4, (some .int))
theorem okX2_readBarePart : OKM mX2_readBarePart 1 := ⟨by decide +kernel, gi 367 _ (by decide +kernel) rfl, ⟨by decide +kernel, by decide +kernel⟩, by decide +kernel, gi 68 _ (by decide +kernel) rfl, by decide⟩
abbrev mX2_readInner : MD := (yX2_readInner, cX2_readInner, 3, (some .int))
theorem okX2_readInner : OKM mX2_readInner 1 := ⟨by decide +kernel, gi 371 _ (by decide +kernel) rfl, ⟨by decide +kernel, by decide +kernel⟩, by decide +kernel, gi 68 _ (by decide +kernel) rfl, by decide⟩
abbrev mX2_readEarlier : MD := (yX2_readEarlier, cX2_readEarlier, 2, (some .int))
theorem okX2_readEarlier : OKM mX2_readEarlier 0 := ⟨by decide +kernel, gi 375 _ (by decide +kernel) rfl, ⟨by decide +kernel, by decide +kernel⟩, by decide +kernel, gi 68 _ (by decide +kernel) rfl, by decide⟩
abbrev mX4_root : MD := (yX4_root, cX4_root, 2, (some .int))
theorem okX4_root : OKM mX4_root 1 := ⟨by decide +kernel, gi 379 _ (by decide +kernel) rfl, ⟨by decide +kernel, by decide +kernel⟩, by decide +kernel, gi 67 _ (by decide +kernel) rfl, by decide⟩
abbrev mX4_stop : MD := (yX4_stop, cX4_stop, 2, (some .int))
theorem okX4_stop : OKM mX4_stop 1 := ⟨by decide +kernel, gi 383 _ (by decide +kernel) rfl, ⟨by decide +kernel, by decide +kernel⟩, by decide +kernel, gi 67 _ (by decide +kernel) rfl, by decide⟩
abbrev mX4_addOver : MD := (yX4_addOver, cX4_addOver, 4, (some .int))
theorem okX4_addOver : OKM mX4_addOver 3 := ⟨by decide +kernel, gi 387 _ (by decide +kernel) rfl, ⟨by decide +kernel, by decide +kernel⟩, by decide +kernel, gi 67 _ (by decide +kernel) rfl, by decide⟩
abbrev mX4_steps : MD := (yX4_steps, cX4_steps, 2, (some .int))
theorem okX4_steps : OKM mX4_steps 1 := ⟨by decide +kernel, gi 391 _ (by decide +kernel) rfl, ⟨by decide +kernel, by decide +kernel⟩, by decide +kernel, gi 67 _ (by decide +kernel) rfl, by decide⟩
abbrev mX4_names : MD := (yX4_names, cX4_names, 2, (some .int))
theorem okX4_names : OKM mX4_names 1 := ⟨by decide +kernel, gi 395 _ (by decide +kernel) rfl, ⟨by decide +kernel, by decide +kernel⟩, by decide +kernel, gi 67 _ (by decide +kernel) rfl, by decide⟩
abbrev mX4_add : MD := (yX4_add, cX4_add, 7, (some .int))
theorem okX4_add : OKM mX4_add 5 := ⟨by decide +kernel, gi 399 _ (by decide +kernel) rfl, ⟨by decide +kernel, by decide +kernel⟩, by decide +kernel, gi 67 _ (by decide +kernel) rfl, by decide⟩
abbrev mX4_addNumber : MD := (yX4_addNumber, cX4_addNumber, 2, (some .int))
theorem okX4_addNumber : OKM mX4_addNumber 1 := ⟨by decide +kernel, gi 403 _ (by decide +kernel) rfl, ⟨by decide +kernel, by decide +kernel⟩, by decide +kernel, gi 67 _ (by decide +kernel) rfl, by decide⟩
abbrev mX4_addSource : MD := (yX4_addSource, cX4_addSource, 2, (some .int))
theorem okX4_addSource : OKM mX4_addSource 1 := ⟨by decide +kernel, gi 407 _ (by decide +kernel) rfl, ⟨by decide +kernel, by decide +kernel⟩, by decide +kernel, gi 67 _ (by decide +kernel) rfl, by decide⟩
abbrev mX4_addBoth : MD := (yX4_addBoth, cX4_addBoth, 4, (some .int))
theorem okX4_addBoth : OKM mX4_addBoth 3 := ⟨by decide +kernel, gi 411 _ (by decide +kernel) rfl, ⟨by decide +kernel, by decide +kernel⟩, by decide +kernel, gi 67 _ (by decide +kernel) rfl, by decide⟩
abbrev mX4_endFormula : MD := (yX4_endFormula, cX4_endFormula, 1, none)
theorem okX4_endFormula : OKM mX4_endFormula 0 := ⟨by decide +kernel, gi 415 _ (by decide +kernel) rfl, ⟨by decide +kernel, by decide +kernel⟩, by decide +kernel, gi 67 _ (by decide +kernel) rfl, by decide⟩
abbrev mX0_take : MD := (yX0_take, cX0_take, 3, none)
theorem okX0_take : OKM mX0_take 1 := ⟨by decide +kernel, gi 419 _ (by decide +kernel) rfl, ⟨by decide +kernel, by decide +kernel⟩, by decide +kernel, gi 66 _ (by decide +kernel) rfl, by decide⟩
abbrev mX4_take : MD := (yX4_take, cX4_take, 3, none)
theorem okX4_take : OKM mX4_take 1 := ⟨by decide +kernel, gi 423 _ (by decide +kernel) rfl, ⟨by decide +kernel, by decide +kernel⟩, by decide +kernel, gi 67 _ (by decide +kernel) rfl, by decide⟩
abbrev mX1_lose : MD := (yX1_lose, cX1_lose, 1, none)
theorem okX1_lose : OKM mX1_lose 0 := ⟨by decide +kernel, gi 427 _ (by decide +kernel) rfl, ⟨by decide +kernel, by decide +kernel⟩, by decide +kernel, gi 69 _ (by decide +kernel) rfl, by decide⟩
abbrev mX5_source : MD := (yX5_source, cX5_source, 3, (some .long))
theorem okX5_source : OKM mX5_source 2 := ⟨by decide +kernel, gi 431 _ (by decide +kernel) rfl, ⟨by decide +kernel, by decide +kernel⟩, by decide +kernel, gi 65 _ (by decide +kernel) rfl, by decide⟩
abbrev mX0_worth : MD := (yX0_worth, cX0_worth, 2, (some .int))
theorem okX0_worth : OKM mX0_worth 1 := ⟨by decide +kernel, gi 437 _ (by decide +kernel) rfl, ⟨by decide +kernel, by decide +kernel⟩, by decide +kernel, gi 66 _ (by decide +kernel) rfl, by decide⟩
abbrev mX0_spread : MD := (yX0_spread, cX0_spread, 3, (some .int))
theorem okX0_spread : OKM mX0_spread 2 := ⟨by decide +kernel, gi 441 _ (by decide +kernel) rfl, ⟨by decide +kernel, by decide +kernel⟩, by decide +kernel, gi 66 _ (by decide +kernel) rfl, by decide⟩
abbrev mX5_joint : MD := (yX5_joint, cX5_joint, 3, (some .long))
theorem okX5_joint : OKM mX5_joint 2 := ⟨by decide +kernel, gi 445 _ (by decide +kernel) rfl, ⟨by decide +kernel, by decide +kernel⟩, by decide +kernel, gi 65 _ (by decide +kernel) rfl, by decide⟩
abbrev mX5_values : MD := (yX5_values, cX5_values, 4, (some .int))
theorem okX5_values : OKM mX5_values 2 := ⟨by decide +kernel, gi 449 _ (by decide +kernel) rfl, ⟨by decide +kernel, by decide +kernel⟩, by decide +kernel, gi 65 _ (by decide +kernel) rfl, by decide⟩
abbrev mX1_add : MD := (yX1_add, cX1_add, 4, none)
theorem okX1_add : OKM mX1_add 3 := ⟨by decide +kernel, gi 453 _ (by decide +kernel) rfl, ⟨by decide +kernel, by decide +kernel⟩, by decide +kernel, gi 69 _ (by decide +kernel) rfl, by decide⟩
abbrev mX1_loseOldest : MD := (yX1_loseOldest, cX1_loseOldest, 2, none)
theorem okX1_loseOldest : OKM mX1_loseOldest 0 := ⟨by decide +kernel, gi 457 _ (by decide +kernel) rfl, ⟨by decide +kernel, by decide +kernel⟩, by decide +kernel, gi 69 _ (by decide +kernel) rfl, by decide⟩
abbrev mX5_spreads : MD := (yX5_spreads, cX5_spreads, 4, (some .int))
theorem okX5_spreads : OKM mX5_spreads 2 := ⟨by decide +kernel, gi 462 _ (by decide +kernel) rfl, ⟨by decide +kernel, by decide +kernel⟩, by decide +kernel, gi 65 _ (by decide +kernel) rfl, by decide⟩
abbrev mX5_joints : MD := (yX5_joints, cX5_joints, 5, (some .int))
theorem okX5_joints : OKM mX5_joints 3 := ⟨by decide +kernel, gi 467 _ (by decide +kernel) rfl, ⟨by decide +kernel, by decide +kernel⟩, by decide +kernel, gi 65 _ (by decide +kernel) rfl, by decide⟩
abbrev mX5_undo : MD := (yX5_undo, cX5_undo, 1, (some .int))
theorem okX5_undo : OKM mX5_undo 0 := ⟨by decide +kernel, gi 471 _ (by decide +kernel) rfl, ⟨by decide +kernel, by decide +kernel⟩, by decide +kernel, gi 65 _ (by decide +kernel) rfl, by decide⟩
abbrev mX1_takeBack : MD := (yX1_takeBack, cX1_takeBack, 3, (some .boolean))
theorem okX1_takeBack : OKM mX1_takeBack 1 := ⟨by decide +kernel, gi 475 _ (by decide +kernel) rfl, ⟨by decide +kernel, by decide +kernel⟩, by decide +kernel, gi 69 _ (by decide +kernel) rfl, by decide⟩
abbrev mX1_known : MD := (yX1_known, cX1_known, 1, (some .int))
theorem okX1_known : OKM mX1_known 0 := ⟨by decide +kernel, gi 481 _ (by decide +kernel) rfl, ⟨by decide +kernel, by decide +kernel⟩, by decide +kernel, gi 69 _ (by decide +kernel) rfl, by decide⟩
abbrev mX5_value : MD := (yX5_value, cX5_value, 2, (some .long))
theorem okX5_value : OKM mX5_value 1 := ⟨by decide +kernel, gi 485 _ (by decide +kernel) rfl, ⟨by decide +kernel, by decide +kernel⟩, by decide +kernel, gi 65 _ (by decide +kernel) rfl, by decide⟩
abbrev mX5_isTold : MD := (yX5_isTold, cX5_isTold, 2, (some .boolean))
theorem okX5_isTold : OKM mX5_isTold 1 := ⟨by decide +kernel, gi 489 _ (by decide +kernel) rfl, ⟨by decide +kernel, by decide +kernel⟩, by decide +kernel, gi 65 _ (by decide +kernel) rfl, by decide⟩
abbrev mX3_worth : MD := (yX3_worth, cX3_worth, 4, (some .long))
theorem okX3_worth : OKM mX3_worth 3 := ⟨by decide +kernel, gi 494 _ (by decide +kernel) rfl, ⟨by decide +kernel, by decide +kernel⟩, by decide +kernel, gi 70 _ (by decide +kernel) rfl, by decide⟩
abbrev mX3_walkWorth : MD := (yX3_walkWorth, cX3_walkWorth, 5, none)
theorem okX3_walkWorth : OKM mX3_walkWorth 3 := ⟨by decide +kernel, gi 499 _ (by decide +kernel) rfl, ⟨by decide +kernel, by decide +kernel⟩, by decide +kernel, gi 70 _ (by decide +kernel) rfl, by decide⟩
abbrev mX3_worthOf : MD := (yX3_worthOf, cX3_worthOf, 6, (some .long))
theorem okX3_worthOf : OKM mX3_worthOf 3 := ⟨by decide +kernel, gi 503 _ (by decide +kernel) rfl, ⟨by decide +kernel, by decide +kernel⟩, by decide +kernel, gi 70 _ (by decide +kernel) rfl, by decide⟩
abbrev mX3_at : MD := (yX3_at, cX3_at, 2, (some .long))
theorem okX3_at : OKM mX3_at 2 := ⟨by decide +kernel, gi 507 _ (by decide +kernel) rfl, ⟨by decide +kernel, by decide +kernel⟩, by decide +kernel, gi 70 _ (by decide +kernel) rfl, by decide⟩
abbrev mX3_power : MD := (yX3_power, cX3_power, 6, (some .long))
theorem okX3_power : OKM mX3_power 2 := ⟨by decide +kernel, gi 510 _ (by decide +kernel) rfl, ⟨by decide +kernel, by decide +kernel⟩, by decide +kernel, gi 70 _ (by decide +kernel) rfl, by decide⟩
abbrev mX5_slope : MD := (yX5_slope, cX5_slope, 3, (some .long))
theorem okX5_slope : OKM mX5_slope 2 := ⟨by decide +kernel, gi 515 _ (by decide +kernel) rfl, ⟨by decide +kernel, by decide +kernel⟩, by decide +kernel, gi 65 _ (by decide +kernel) rfl, by decide⟩
abbrev mX3_slopeBy : MD := (yX3_slopeBy, cX3_slopeBy, 3, (some .long))
theorem okX3_slopeBy : OKM mX3_slopeBy 2 := ⟨by decide +kernel, gi 519 _ (by decide +kernel) rfl, ⟨by decide +kernel, by decide +kernel⟩, by decide +kernel, gi 70 _ (by decide +kernel) rfl, by decide⟩
abbrev mX3_walkSlope : MD := (yX3_walkSlope, cX3_walkSlope, 5, none)
theorem okX3_walkSlope : OKM mX3_walkSlope 3 := ⟨by decide +kernel, gi 523 _ (by decide +kernel) rfl, ⟨by decide +kernel, by decide +kernel⟩, by decide +kernel, gi 70 _ (by decide +kernel) rfl, by decide⟩
abbrev mX3_slopeOf : MD := (yX3_slopeOf, cX3_slopeOf, 6, (some .long))
theorem okX3_slopeOf : OKM mX3_slopeOf 3 := ⟨by decide +kernel, gi 527 _ (by decide +kernel) rfl, ⟨by decide +kernel, by decide +kernel⟩, by decide +kernel, gi 70 _ (by decide +kernel) rfl, by decide⟩
abbrev mX5_bend : MD := (yX5_bend, cX5_bend, 4, (some .long))
theorem okX5_bend : OKM mX5_bend 3 := ⟨by decide +kernel, gi 531 _ (by decide +kernel) rfl, ⟨by decide +kernel, by decide +kernel⟩, by decide +kernel, gi 65 _ (by decide +kernel) rfl, by decide⟩
abbrev mX3_bendBy : MD := (yX3_bendBy, cX3_bendBy, 5, (some .long))
theorem okX3_bendBy : OKM mX3_bendBy 3 := ⟨by decide +kernel, gi 535 _ (by decide +kernel) rfl, ⟨by decide +kernel, by decide +kernel⟩, by decide +kernel, gi 70 _ (by decide +kernel) rfl, by decide⟩
abbrev mX3_walkBend : MD := (yX3_walkBend, cX3_walkBend, 3, none)
theorem okX3_walkBend : OKM mX3_walkBend 1 := ⟨by decide +kernel, gi 539 _ (by decide +kernel) rfl, ⟨by decide +kernel, by decide +kernel⟩, by decide +kernel, gi 70 _ (by decide +kernel) rfl, by decide⟩
abbrev mX3_bendOf : MD := (yX3_bendOf, cX3_bendOf, 4, (some .long))
theorem okX3_bendOf : OKM mX3_bendOf 1 := ⟨by decide +kernel, gi 543 _ (by decide +kernel) rfl, ⟨by decide +kernel, by decide +kernel⟩, by decide +kernel, gi 70 _ (by decide +kernel) rfl, by decide⟩
abbrev mX5_whole : MD := (yX5_whole, cX5_whole, 2, (some .long))
theorem okX5_whole : OKM mX5_whole 1 := ⟨by decide +kernel, gi 547 _ (by decide +kernel) rfl, ⟨by decide +kernel, by decide +kernel⟩, by decide +kernel, gi 65 _ (by decide +kernel) rfl, by decide⟩
abbrev mX5_remains : MD := (yX5_remains, cX5_remains, 3, (some .long))
theorem okX5_remains : OKM mX5_remains 2 := ⟨by decide +kernel, gi 551 _ (by decide +kernel) rfl, ⟨by decide +kernel, by decide +kernel⟩, by decide +kernel, gi 65 _ (by decide +kernel) rfl, by decide⟩
abbrev mX3_slopesInto : MD := (yX3_slopesInto, cX3_slopesInto, 5, none)
theorem okX3_slopesInto : OKM mX3_slopesInto 2 := ⟨by decide +kernel, gi 555 _ (by decide +kernel) rfl, ⟨by decide +kernel, by decide +kernel⟩, by decide +kernel, gi 70 _ (by decide +kernel) rfl, by decide⟩
abbrev mX5_product : MD := (yX5_product, cX5_product, 7, (some .long))
theorem okX5_product : OKM mX5_product 3 := ⟨by decide +kernel, gi 559 _ (by decide +kernel) rfl, ⟨by decide +kernel, by decide +kernel⟩, by decide +kernel, gi 65 _ (by decide +kernel) rfl, by decide⟩
abbrev mX5_part : MD := (yX5_part, cX5_part, 8, (some .long))
theorem okX5_part : OKM mX5_part 4 := ⟨by decide +kernel, gi 563 _ (by decide +kernel) rfl, ⟨by decide +kernel, by decide +kernel⟩, by decide +kernel, gi 65 _ (by decide +kernel) rfl, by decide⟩
abbrev mX5_together : MD := (yX5_together, cX5_together, 3, (some .long))
theorem okX5_together : OKM mX5_together 2 := ⟨by decide +kernel, gi 567 _ (by decide +kernel) rfl, ⟨by decide +kernel, by decide +kernel⟩, by decide +kernel, gi 65 _ (by decide +kernel) rfl, by decide⟩
abbrev mX5_share : MD := (yX5_share, cX5_share, 3, (some .long))
theorem okX5_share : OKM mX5_share 2 := ⟨by decide +kernel, gi 571 _ (by decide +kernel) rfl, ⟨by decide +kernel, by decide +kernel⟩, by decide +kernel, gi 65 _ (by decide +kernel) rfl, by decide⟩
abbrev mX5_left : MD := (yX5_left, cX5_left, 3, (some .long))
theorem okX5_left : OKM mX5_left 2 := ⟨by decide +kernel, gi 575 _ (by decide +kernel) rfl, ⟨by decide +kernel, by decide +kernel⟩, by decide +kernel, gi 65 _ (by decide +kernel) rfl, by decide⟩
abbrev mX5_fewest : MD := (yX5_fewest, cX5_fewest, 7, (some .int))
theorem okX5_fewest : OKM mX5_fewest 2 := ⟨by decide +kernel, gi 579 _ (by decide +kernel) rfl, ⟨by decide +kernel, by decide +kernel⟩, by decide +kernel, gi 65 _ (by decide +kernel) rfl, by decide⟩
abbrev mJ6_bitCount_0f7a4 : MD := (yJ6_bitCount_0f7a4, cJ6_bitCount_0f7a4, 1, (some .int))
theorem okJ6_bitCount_0f7a4 : OKM mJ6_bitCount_0f7a4 1 := ⟨by decide +kernel, gi 582 _ (by decide +kernel) rfl, ⟨by decide +kernel, by decide +kernel⟩, by decide +kernel, gi 72 _ (by decide +kernel) rfl, by decide⟩
abbrev mX5_takes : MD := (yX5_takes, cX5_takes, 3, (some .long))
theorem okX5_takes : OKM mX5_takes 2 := ⟨by decide +kernel, gi 589 _ (by decide +kernel) rfl, ⟨by decide +kernel, by decide +kernel⟩, by decide +kernel, gi 65 _ (by decide +kernel) rfl, by decide⟩
abbrev mX5_taken : MD := (yX5_taken, cX5_taken, 2, (some .long))
theorem okX5_taken : OKM mX5_taken 1 := ⟨by decide +kernel, gi 593 _ (by decide +kernel) rfl, ⟨by decide +kernel, by decide +kernel⟩, by decide +kernel, gi 65 _ (by decide +kernel) rfl, by decide⟩
abbrev mX5_first : MD := (yX5_first, cX5_first, 9, (some .int))
theorem okX5_first : OKM mX5_first 2 := ⟨by decide +kernel, gi 597 _ (by decide +kernel) rfl, ⟨by decide +kernel, by decide +kernel⟩, by decide +kernel, gi 65 _ (by decide +kernel) rfl, by decide⟩
abbrev mX5_off : MD := (yX5_off, cX5_off, 8, (some .long))
theorem okX5_off : OKM mX5_off 3 := ⟨by decide +kernel, gi 601 _ (by decide +kernel) rfl, ⟨by decide +kernel, by decide +kernel⟩, by decide +kernel, gi 65 _ (by decide +kernel) rfl, by decide⟩
abbrev mX5_isMove : MD := (yX5_isMove, cX5_isMove, 1, (some .boolean))
theorem okX5_isMove : OKM mX5_isMove 1 := ⟨by decide +kernel, gi 604 _ (by decide +kernel) rfl, ⟨by decide +kernel, by decide +kernel⟩, by decide +kernel, gi 65 _ (by decide +kernel) rfl, by decide⟩
abbrev mX5_sees : MD := (yX5_sees, cX5_sees, 4, (some .int))
theorem okX5_sees : OKM mX5_sees 2 := ⟨by decide +kernel, gi 608 _ (by decide +kernel) rfl, ⟨by decide +kernel, by decide +kernel⟩, by decide +kernel, gi 65 _ (by decide +kernel) rfl, by decide⟩
abbrev mX5_forget : MD := (yX5_forget, cX5_forget, 2, (some .int))
theorem okX5_forget : OKM mX5_forget 0 := ⟨by decide +kernel, gi 612 _ (by decide +kernel) rfl, ⟨by decide +kernel, by decide +kernel⟩, by decide +kernel, gi 65 _ (by decide +kernel) rfl, by decide⟩
abbrev mX5_unseen : MD := (yX5_unseen, cX5_unseen, 4, (some .int))
theorem okX5_unseen : OKM mX5_unseen 1 := ⟨by decide +kernel, gi 616 _ (by decide +kernel) rfl, ⟨by decide +kernel, by decide +kernel⟩, by decide +kernel, gi 65 _ (by decide +kernel) rfl, by decide⟩
abbrev mX5_explains : MD := (yX5_explains, cX5_explains, 4, (some .boolean))
theorem okX5_explains : OKM mX5_explains 2 := ⟨by decide +kernel, gi 620 _ (by decide +kernel) rfl, ⟨by decide +kernel, by decide +kernel⟩, by decide +kernel, gi 65 _ (by decide +kernel) rfl, by decide⟩
abbrev mX5_keep : MD := (yX5_keep, cX5_keep, 2, (some .int))
theorem okX5_keep : OKM mX5_keep 1 := ⟨by decide +kernel, gi 624 _ (by decide +kernel) rfl, ⟨by decide +kernel, by decide +kernel⟩, by decide +kernel, gi 65 _ (by decide +kernel) rfl, by decide⟩
abbrev mX5_back : MD := (yX5_back, cX5_back, 2, (some .int))
theorem okX5_back : OKM mX5_back 1 := ⟨by decide +kernel, gi 628 _ (by decide +kernel) rfl, ⟨by decide +kernel, by decide +kernel⟩, by decide +kernel, gi 65 _ (by decide +kernel) rfl, by decide⟩
abbrev mX5_formula : MD := (yX5_formula, cX5_formula, 3, (some .int))
theorem okX5_formula : OKM mX5_formula 2 := ⟨by decide +kernel, gi 632 _ (by decide +kernel) rfl, ⟨by decide +kernel, by decide +kernel⟩, by decide +kernel, gi 65 _ (by decide +kernel) rfl, by decide⟩
abbrev mX4_start : MD := (yX4_start, cX4_start, 2, (some .int))
theorem okX4_start : OKM mX4_start 1 := ⟨by decide +kernel, gi 637 _ (by decide +kernel) rfl, ⟨by decide +kernel, by decide +kernel⟩, by decide +kernel, gi 67 _ (by decide +kernel) rfl, by decide⟩
abbrev mX5_count : MD := (yX5_count, cX5_count, 2, (some .int))
theorem okX5_count : OKM mX5_count 1 := ⟨by decide +kernel, gi 644 _ (by decide +kernel) rfl, ⟨by decide +kernel, by decide +kernel⟩, by decide +kernel, gi 65 _ (by decide +kernel) rfl, by decide⟩
abbrev mX6_init : MD := (yX6_init, cX6_init, 1, none)
theorem okX6_init : OKM mX6_init 0 := ⟨by decide +kernel, gi 649 _ (by decide +kernel) rfl, ⟨by decide +kernel, by decide +kernel⟩, by decide +kernel, gi 71 _ (by decide +kernel) rfl, by decide⟩
abbrev mX6_begins : MD := (yX6_begins, cX6_begins, 2, none)
theorem okX6_begins : OKM mX6_begins 0 := ⟨by decide +kernel, gi 654 _ (by decide +kernel) rfl, ⟨by decide +kernel, by decide +kernel⟩, by decide +kernel, gi 71 _ (by decide +kernel) rfl, by decide⟩
abbrev mX6_settles : MD := (yX6_settles, cX6_settles, 2, none)
theorem okX6_settles : OKM mX6_settles 0 := ⟨by decide +kernel, gi 658 _ (by decide +kernel) rfl, ⟨by decide +kernel, by decide +kernel⟩, by decide +kernel, gi 71 _ (by decide +kernel) rfl, by decide⟩
abbrev mX6_type : MD := (yX6_type, cX6_type, 2, (some .int))
theorem okX6_type : OKM mX6_type 1 := ⟨by decide +kernel, gi 784 _ (by decide +kernel) rfl, ⟨by decide +kernel, by decide +kernel⟩, by decide +kernel, gi 71 _ (by decide +kernel) rfl, by decide⟩
abbrev mX6_in : MD := (yX6_in, cX6_in, 3, (some .boolean))
theorem okX6_in : OKM mX6_in 3 := ⟨by decide +kernel, gi 787 _ (by decide +kernel) rfl, ⟨by decide +kernel, by decide +kernel⟩, by decide +kernel, gi 71 _ (by decide +kernel) rfl, by decide⟩
abbrev mX6_clear : MD := (yX6_clear, cX6_clear, 2, (some .int))
theorem okX6_clear : OKM mX6_clear 0 := ⟨by decide +kernel, gi 791 _ (by decide +kernel) rfl, ⟨by decide +kernel, by decide +kernel⟩, by decide +kernel, gi 71 _ (by decide +kernel) rfl, by decide⟩
abbrev mX6_desk : MD := (yX6_desk, cX6_desk, 3, (some .int))
theorem okX6_desk : OKM mX6_desk 0 := ⟨by decide +kernel, gi 795 _ (by decide +kernel) rfl, ⟨by decide +kernel, by decide +kernel⟩, by decide +kernel, gi 71 _ (by decide +kernel) rfl, by decide⟩
abbrev mX6_advances : MD := (yX6_advances, cX6_advances, 2, none)
theorem okX6_advances : OKM mX6_advances 0 := ⟨by decide +kernel, gi 799 _ (by decide +kernel) rfl, ⟨by decide +kernel, by decide +kernel⟩, by decide +kernel, gi 71 _ (by decide +kernel) rfl, by decide⟩
abbrev mX6_letterAt : MD := (yX6_letterAt, cX6_letterAt, 2, (some .int))
theorem okX6_letterAt : OKM mX6_letterAt 1 := ⟨by decide +kernel, gi 803 _ (by decide +kernel) rfl, ⟨by decide +kernel, by decide +kernel⟩, by decide +kernel, gi 71 _ (by decide +kernel) rfl, by decide⟩
abbrev mX6_isSign : MD := (yX6_isSign, cX6_isSign, 1, (some .boolean))
theorem okX6_isSign : OKM mX6_isSign 1 := ⟨by decide +kernel, gi 806 _ (by decide +kernel) rfl, ⟨by decide +kernel, by decide +kernel⟩, by decide +kernel, gi 71 _ (by decide +kernel) rfl, by decide⟩
abbrev mX6_isWell : MD := (yX6_isWell, cX6_isWell, 1, (some .boolean))
theorem okX6_isWell : OKM mX6_isWell 0 := ⟨by decide +kernel, gi 810 _ (by decide +kernel) rfl, ⟨by decide +kernel, by decide +kernel⟩, by decide +kernel, gi 71 _ (by decide +kernel) rfl, by decide⟩
abbrev mX6_isThis : MD := (yX6_isThis, cX6_isThis, 2, (some .boolean))
theorem okX6_isThis : OKM mX6_isThis 1 := ⟨by decide +kernel, gi 814 _ (by decide +kernel) rfl, ⟨by decide +kernel, by decide +kernel⟩, by decide +kernel, gi 71 _ (by decide +kernel) rfl, by decide⟩
abbrev mX6_takes : MD := (yX6_takes, cX6_takes, 3, (some .int))
theorem okX6_takes : OKM mX6_takes 1 := ⟨by decide +kernel, gi 818 _ (by decide +kernel) rfl, ⟨by decide +kernel, by decide +kernel⟩, by decide +kernel, gi 71 _ (by decide +kernel) rfl, by decide⟩
abbrev mX6_readsItem : MD := (yX6_readsItem, cX6_readsItem, 5, none)
theorem okX6_readsItem : OKM mX6_readsItem 1 := ⟨by decide +kernel, gi 822 _ (by decide +kernel) rfl, ⟨by decide +kernel, by decide +kernel⟩, by decide +kernel, gi 71 _ (by decide +kernel) rfl, by decide⟩
abbrev mX6_readsSum : MD := (yX6_readsSum, cX6_readsSum, 4, none)
theorem okX6_readsSum : OKM mX6_readsSum 0 := ⟨by decide +kernel, gi 826 _ (by decide +kernel) rfl, ⟨by decide +kernel, by decide +kernel⟩, by decide +kernel, gi 71 _ (by decide +kernel) rfl, by decide⟩
abbrev mX6_readsPart : MD := (yX6_readsPart, cX6_readsPart, 2, (some .boolean))
theorem okX6_readsPart : OKM mX6_readsPart 0 := ⟨by decide +kernel, gi 830 _ (by decide +kernel) rfl, ⟨by decide +kernel, by decide +kernel⟩, by decide +kernel, gi 71 _ (by decide +kernel) rfl, by decide⟩
abbrev mX6_waits : MD := (yX6_waits, cX6_waits, 2, none)
theorem okX6_waits : OKM mX6_waits 1 := ⟨by decide +kernel, gi 834 _ (by decide +kernel) rfl, ⟨by decide +kernel, by decide +kernel⟩, by decide +kernel, gi 71 _ (by decide +kernel) rfl, by decide⟩
abbrev mX6_counts : MD := (yX6_counts, cX6_counts, 1, (some .boolean))
theorem okX6_counts : OKM mX6_counts 0 := ⟨by decide +kernel, gi 838 _ (by decide +kernel) rfl, ⟨by decide +kernel, by decide +kernel⟩, by decide +kernel, gi 71 _ (by decide +kernel) rfl, by decide⟩
abbrev mX6_isNumber : MD := (yX6_isNumber, cX6_isNumber, 3, (some .boolean))
theorem okX6_isNumber : OKM mX6_isNumber 2 := ⟨by decide +kernel, gi 842 _ (by decide +kernel) rfl, ⟨by decide +kernel, by decide +kernel⟩, by decide +kernel, gi 71 _ (by decide +kernel) rfl, by decide⟩
abbrev mX6_makes : MD := (yX6_makes, cX6_makes, 7, none)
theorem okX6_makes : OKM mX6_makes 4 := ⟨by decide +kernel, gi 846 _ (by decide +kernel) rfl, ⟨by decide +kernel, by decide +kernel⟩, by decide +kernel, gi 71 _ (by decide +kernel) rfl, by decide⟩
abbrev mX6_isSourceSign : MD := (yX6_isSourceSign, cX6_isSourceSign, 1, (some .boolean))
theorem okX6_isSourceSign : OKM mX6_isSourceSign 0 := ⟨by decide +kernel, gi 850 _ (by decide +kernel) rfl, ⟨by decide +kernel, by decide +kernel⟩, by decide +kernel, gi 71 _ (by decide +kernel) rfl, by decide⟩
abbrev mX6_partDone : MD := (yX6_partDone, cX6_partDone, 2, none)
theorem okX6_partDone : OKM mX6_partDone 0 := ⟨by decide +kernel, gi 854 _ (by decide +kernel) rfl, ⟨by decide +kernel, by decide +kernel⟩, by decide +kernel, gi 71 _ (by decide +kernel) rfl, by decide⟩
abbrev mX6_lastWaiting : MD := (yX6_lastWaiting, cX6_lastWaiting, 1, (some .int))
theorem okX6_lastWaiting : OKM mX6_lastWaiting 0 := ⟨by decide +kernel, gi 858 _ (by decide +kernel) rfl, ⟨by decide +kernel, by decide +kernel⟩, by decide +kernel, gi 71 _ (by decide +kernel) rfl, by decide⟩
abbrev mX6_doesLast : MD := (yX6_doesLast, cX6_doesLast, 2, none)
theorem okX6_doesLast : OKM mX6_doesLast 0 := ⟨by decide +kernel, gi 862 _ (by decide +kernel) rfl, ⟨by decide +kernel, by decide +kernel⟩, by decide +kernel, gi 71 _ (by decide +kernel) rfl, by decide⟩
abbrev mX6_readsBehind : MD := (yX6_readsBehind, cX6_readsBehind, 1, (some .boolean))
theorem okX6_readsBehind : OKM mX6_readsBehind 0 := ⟨by decide +kernel, gi 866 _ (by decide +kernel) rfl, ⟨by decide +kernel, by decide +kernel⟩, by decide +kernel, gi 71 _ (by decide +kernel) rfl, by decide⟩
abbrev mX6_signed : MD := (yX6_signed, cX6_signed, 3, (some .int))
theorem okX6_signed : OKM mX6_signed 0 := ⟨by decide +kernel, gi 870 _ (by decide +kernel) rfl, ⟨by decide +kernel, by decide +kernel⟩, by decide +kernel, gi 71 _ (by decide +kernel) rfl, by decide⟩
abbrev mX6_source : MD := (yX6_source, cX6_source, 3, (some .long))
theorem okX6_source : OKM mX6_source 2 := ⟨by decide +kernel, gi 874 _ (by decide +kernel) rfl, ⟨by decide +kernel, by decide +kernel⟩, by decide +kernel, gi 71 _ (by decide +kernel) rfl, by decide⟩
abbrev mX6_isSource : MD := (yX6_isSource, cX6_isSource, 1, (some .boolean))
theorem okX6_isSource : OKM mX6_isSource 1 := ⟨by decide +kernel, gi 877 _ (by decide +kernel) rfl, ⟨by decide +kernel, by decide +kernel⟩, by decide +kernel, gi 71 _ (by decide +kernel) rfl, by decide⟩
abbrev mX6_joint : MD := (yX6_joint, cX6_joint, 3, (some .long))
theorem okX6_joint : OKM mX6_joint 2 := ⟨by decide +kernel, gi 882 _ (by decide +kernel) rfl, ⟨by decide +kernel, by decide +kernel⟩, by decide +kernel, gi 71 _ (by decide +kernel) rfl, by decide⟩
abbrev mX6_jointOf : MD := (yX6_jointOf, cX6_jointOf, 3, (some .int))
theorem okX6_jointOf : OKM mX6_jointOf 2 := ⟨by decide +kernel, gi 886 _ (by decide +kernel) rfl, ⟨by decide +kernel, by decide +kernel⟩, by decide +kernel, gi 71 _ (by decide +kernel) rfl, by decide⟩
abbrev mX6_values : MD := (yX6_values, cX6_values, 3, (some .int))
theorem okX6_values : OKM mX6_values 2 := ⟨by decide +kernel, gi 890 _ (by decide +kernel) rfl, ⟨by decide +kernel, by decide +kernel⟩, by decide +kernel, gi 71 _ (by decide +kernel) rfl, by decide⟩
abbrev mX6_notes : MD := (yX6_notes, cX6_notes, 2, none)
theorem okX6_notes : OKM mX6_notes 0 := ⟨by decide +kernel, gi 894 _ (by decide +kernel) rfl, ⟨by decide +kernel, by decide +kernel⟩, by decide +kernel, gi 71 _ (by decide +kernel) rfl, by decide⟩
abbrev mX6_spreads : MD := (yX6_spreads, cX6_spreads, 4, (some .int))
theorem okX6_spreads : OKM mX6_spreads 2 := ⟨by decide +kernel, gi 898 _ (by decide +kernel) rfl, ⟨by decide +kernel, by decide +kernel⟩, by decide +kernel, gi 71 _ (by decide +kernel) rfl, by decide⟩
abbrev mX6_joints : MD := (yX6_joints, cX6_joints, 4, (some .int))
theorem okX6_joints : OKM mX6_joints 3 := ⟨by decide +kernel, gi 902 _ (by decide +kernel) rfl, ⟨by decide +kernel, by decide +kernel⟩, by decide +kernel, gi 71 _ (by decide +kernel) rfl, by decide⟩
abbrev mX6_undo : MD := (yX6_undo, cX6_undo, 2, (some .int))
theorem okX6_undo : OKM mX6_undo 0 := ⟨by decide +kernel, gi 906 _ (by decide +kernel) rfl, ⟨by decide +kernel, by decide +kernel⟩, by decide +kernel, gi 71 _ (by decide +kernel) rfl, by decide⟩
abbrev mX6_value : MD := (yX6_value, cX6_value, 2, (some .long))
theorem okX6_value : OKM mX6_value 1 := ⟨by decide +kernel, gi 910 _ (by decide +kernel) rfl, ⟨by decide +kernel, by decide +kernel⟩, by decide +kernel, gi 71 _ (by decide +kernel) rfl, by decide⟩
abbrev mX6_isFormula : MD := (yX6_isFormula, cX6_isFormula, 2, (some .boolean))
theorem okX6_isFormula : OKM mX6_isFormula 1 := ⟨by decide +kernel, gi 914 _ (by decide +kernel) rfl, ⟨by decide +kernel, by decide +kernel⟩, by decide +kernel, gi 71 _ (by decide +kernel) rfl, by decide⟩
abbrev mX6_goes : MD := (yX6_goes, cX6_goes, 4, none)
theorem okX6_goes : OKM mX6_goes 0 := ⟨by decide +kernel, gi 918 _ (by decide +kernel) rfl, ⟨by decide +kernel, by decide +kernel⟩, by decide +kernel, gi 71 _ (by decide +kernel) rfl, by decide⟩
abbrev mX6_goesLeaf : MD := (yX6_goesLeaf, cX6_goesLeaf, 3, none)
theorem okX6_goesLeaf : OKM mX6_goesLeaf 1 := ⟨by decide +kernel, gi 922 _ (by decide +kernel) rfl, ⟨by decide +kernel, by decide +kernel⟩, by decide +kernel, gi 71 _ (by decide +kernel) rfl, by decide⟩
abbrev mX6_rootOf : MD := (yX6_rootOf, cX6_rootOf, 2, (some .int))
theorem okX6_rootOf : OKM mX6_rootOf 1 := ⟨by decide +kernel, gi 926 _ (by decide +kernel) rfl, ⟨by decide +kernel, by decide +kernel⟩, by decide +kernel, gi 71 _ (by decide +kernel) rfl, by decide⟩
abbrev mX6_copiesNode : MD := (yX6_copiesNode, cX6_copiesNode, 4, none)
theorem okX6_copiesNode : OKM mX6_copiesNode 2 := ⟨by decide +kernel, gi 930 _ (by decide +kernel) rfl, ⟨by decide +kernel, by decide +kernel⟩, by decide +kernel, gi 71 _ (by decide +kernel) rfl, by decide⟩
abbrev mX6_goesOne : MD := (yX6_goesOne, cX6_goesOne, 12, none)
theorem okX6_goesOne : OKM mX6_goesOne 2 := ⟨by decide +kernel, gi 934 _ (by decide +kernel) rfl, ⟨by decide +kernel, by decide +kernel⟩, by decide +kernel, gi 71 _ (by decide +kernel) rfl, by decide⟩
abbrev mX6_power : MD := (yX6_power, cX6_power, 6, (some .long))
theorem okX6_power : OKM mX6_power 2 := ⟨by decide +kernel, gi 938 _ (by decide +kernel) rfl, ⟨by decide +kernel, by decide +kernel⟩, by decide +kernel, gi 71 _ (by decide +kernel) rfl, by decide⟩
abbrev mX6_goesTwo : MD := (yX6_goesTwo, cX6_goesTwo, 12, none)
theorem okX6_goesTwo : OKM mX6_goesTwo 3 := ⟨by decide +kernel, gi 942 _ (by decide +kernel) rfl, ⟨by decide +kernel, by decide +kernel⟩, by decide +kernel, gi 71 _ (by decide +kernel) rfl, by decide⟩
abbrev mX6_slope : MD := (yX6_slope, cX6_slope, 3, (some .long))
theorem okX6_slope : OKM mX6_slope 2 := ⟨by decide +kernel, gi 946 _ (by decide +kernel) rfl, ⟨by decide +kernel, by decide +kernel⟩, by decide +kernel, gi 71 _ (by decide +kernel) rfl, by decide⟩
abbrev mX6_slopeOf : MD := (yX6_slopeOf, cX6_slopeOf, 3, (some .long))
theorem okX6_slopeOf : OKM mX6_slopeOf 2 := ⟨by decide +kernel, gi 950 _ (by decide +kernel) rfl, ⟨by decide +kernel, by decide +kernel⟩, by decide +kernel, gi 71 _ (by decide +kernel) rfl, by decide⟩
abbrev mX6_bend : MD := (yX6_bend, cX6_bend, 4, (some .long))
theorem okX6_bend : OKM mX6_bend 3 := ⟨by decide +kernel, gi 954 _ (by decide +kernel) rfl, ⟨by decide +kernel, by decide +kernel⟩, by decide +kernel, gi 71 _ (by decide +kernel) rfl, by decide⟩
abbrev mX6_whole : MD := (yX6_whole, cX6_whole, 2, (some .long))
theorem okX6_whole : OKM mX6_whole 1 := ⟨by decide +kernel, gi 958 _ (by decide +kernel) rfl, ⟨by decide +kernel, by decide +kernel⟩, by decide +kernel, gi 71 _ (by decide +kernel) rfl, by decide⟩
abbrev mX6_togetherOf : MD := (yX6_togetherOf, cX6_togetherOf, 8, (some .long))
theorem okX6_togetherOf : OKM mX6_togetherOf 3 := ⟨by decide +kernel, gi 962 _ (by decide +kernel) rfl, ⟨by decide +kernel, by decide +kernel⟩, by decide +kernel, gi 71 _ (by decide +kernel) rfl, by decide⟩
abbrev mX6_has : MD := (yX6_has, cX6_has, 2, (some .boolean))
theorem okX6_has : OKM mX6_has 2 := ⟨by decide +kernel, gi 965 _ (by decide +kernel) rfl, ⟨by decide +kernel, by decide +kernel⟩, by decide +kernel, gi 71 _ (by decide +kernel) rfl, by decide⟩
abbrev mX6_together : MD := (yX6_together, cX6_together, 3, (some .long))
theorem okX6_together : OKM mX6_together 2 := ⟨by decide +kernel, gi 969 _ (by decide +kernel) rfl, ⟨by decide +kernel, by decide +kernel⟩, by decide +kernel, gi 71 _ (by decide +kernel) rfl, by decide⟩
abbrev mX6_share : MD := (yX6_share, cX6_share, 3, (some .long))
theorem okX6_share : OKM mX6_share 2 := ⟨by decide +kernel, gi 973 _ (by decide +kernel) rfl, ⟨by decide +kernel, by decide +kernel⟩, by decide +kernel, gi 71 _ (by decide +kernel) rfl, by decide⟩
abbrev mX6_shareOf : MD := (yX6_shareOf, cX6_shareOf, 6, (some .long))
theorem okX6_shareOf : OKM mX6_shareOf 2 := ⟨by decide +kernel, gi 977 _ (by decide +kernel) rfl, ⟨by decide +kernel, by decide +kernel⟩, by decide +kernel, gi 71 _ (by decide +kernel) rfl, by decide⟩
abbrev mX6_left : MD := (yX6_left, cX6_left, 3, (some .long))
theorem okX6_left : OKM mX6_left 2 := ⟨by decide +kernel, gi 981 _ (by decide +kernel) rfl, ⟨by decide +kernel, by decide +kernel⟩, by decide +kernel, gi 71 _ (by decide +kernel) rfl, by decide⟩
abbrev mX6_fewest : MD := (yX6_fewest, cX6_fewest, 7, (some .int))
theorem okX6_fewest : OKM mX6_fewest 2 := ⟨by decide +kernel, gi 985 _ (by decide +kernel) rfl, ⟨by decide +kernel, by decide +kernel⟩, by decide +kernel, gi 71 _ (by decide +kernel) rfl, by decide⟩
abbrev mX6_ones : MD := (yX6_ones, cX6_ones, 3, (some .int))
theorem okX6_ones : OKM mX6_ones 1 := ⟨by decide +kernel, gi 988 _ (by decide +kernel) rfl, ⟨by decide +kernel, by decide +kernel⟩, by decide +kernel, gi 71 _ (by decide +kernel) rfl, by decide⟩
abbrev mX6_takes_ : MD := (yX6_takes_, cX6_takes_, 3, (some .long))
theorem okX6_takes_ : OKM mX6_takes_ 2 := ⟨by decide +kernel, gi 992 _ (by decide +kernel) rfl, ⟨by decide +kernel, by decide +kernel⟩, by decide +kernel, gi 71 _ (by decide +kernel) rfl, by decide⟩
abbrev mX6_takesOf : MD := (yX6_takesOf, cX6_takesOf, 3, (some .long))
theorem okX6_takesOf : OKM mX6_takesOf 2 := ⟨by decide +kernel, gi 996 _ (by decide +kernel) rfl, ⟨by decide +kernel, by decide +kernel⟩, by decide +kernel, gi 71 _ (by decide +kernel) rfl, by decide⟩
abbrev mX6_first : MD := (yX6_first, cX6_first, 9, (some .int))
theorem okX6_first : OKM mX6_first 2 := ⟨by decide +kernel, gi 1000 _ (by decide +kernel) rfl, ⟨by decide +kernel, by decide +kernel⟩, by decide +kernel, gi 71 _ (by decide +kernel) rfl, by decide⟩
abbrev mX6_off : MD := (yX6_off, cX6_off, 6, (some .long))
theorem okX6_off : OKM mX6_off 3 := ⟨by decide +kernel, gi 1004 _ (by decide +kernel) rfl, ⟨by decide +kernel, by decide +kernel⟩, by decide +kernel, gi 71 _ (by decide +kernel) rfl, by decide⟩
abbrev mX6_valueIf : MD := (yX6_valueIf, cX6_valueIf, 4, (some .long))
theorem okX6_valueIf : OKM mX6_valueIf 3 := ⟨by decide +kernel, gi 1008 _ (by decide +kernel) rfl, ⟨by decide +kernel, by decide +kernel⟩, by decide +kernel, gi 71 _ (by decide +kernel) rfl, by decide⟩
abbrev mX6_sees : MD := (yX6_sees, cX6_sees, 4, (some .int))
theorem okX6_sees : OKM mX6_sees 2 := ⟨by decide +kernel, gi 1012 _ (by decide +kernel) rfl, ⟨by decide +kernel, by decide +kernel⟩, by decide +kernel, gi 71 _ (by decide +kernel) rfl, by decide⟩
abbrev mX6_forget : MD := (yX6_forget, cX6_forget, 2, (some .int))
theorem okX6_forget : OKM mX6_forget 0 := ⟨by decide +kernel, gi 1016 _ (by decide +kernel) rfl, ⟨by decide +kernel, by decide +kernel⟩, by decide +kernel, gi 71 _ (by decide +kernel) rfl, by decide⟩
abbrev mX6_unseen : MD := (yX6_unseen, cX6_unseen, 6, (some .int))
theorem okX6_unseen : OKM mX6_unseen 1 := ⟨by decide +kernel, gi 1020 _ (by decide +kernel) rfl, ⟨by decide +kernel, by decide +kernel⟩, by decide +kernel, gi 71 _ (by decide +kernel) rfl, by decide⟩
abbrev mX6_keep : MD := (yX6_keep, cX6_keep, 3, (some .int))
theorem okX6_keep : OKM mX6_keep 1 := ⟨by decide +kernel, gi 1024 _ (by decide +kernel) rfl, ⟨by decide +kernel, by decide +kernel⟩, by decide +kernel, gi 71 _ (by decide +kernel) rfl, by decide⟩
abbrev mX6_back : MD := (yX6_back, cX6_back, 3, (some .int))
theorem okX6_back : OKM mX6_back 1 := ⟨by decide +kernel, gi 1028 _ (by decide +kernel) rfl, ⟨by decide +kernel, by decide +kernel⟩, by decide +kernel, gi 71 _ (by decide +kernel) rfl, by decide⟩
abbrev mX6_formula : MD := (yX6_formula, cX6_formula, 5, (some .int))
theorem okX6_formula : OKM mX6_formula 2 := ⟨by decide +kernel, gi 1032 _ (by decide +kernel) rfl, ⟨by decide +kernel, by decide +kernel⟩, by decide +kernel, gi 71 _ (by decide +kernel) rfl, by decide⟩
abbrev mX6_count : MD := (yX6_count, cX6_count, 2, (some .int))
theorem okX6_count : OKM mX6_count 1 := ⟨by decide +kernel, gi 1036 _ (by decide +kernel) rfl, ⟨by decide +kernel, by decide +kernel⟩, by decide +kernel, gi 71 _ (by decide +kernel) rfl, by decide⟩
theorem fX0_9 : FLK RX0 9 0 0 := ⟨clk0, by decide, fun q hq => by obtain rfl : q = (RX0, TX0, 2) := (Option.some.inj hq).symm; exact ⟨by decide, Or.inl (gi 87 _ (by decide +kernel) rfl)⟩⟩
theorem gX0_9 : ∀ q : vw_C, cls8[0]? = some q → Cond.fieldLink RX0 9 (q.2.1 0).1 (q.2.1 0).2.1 (q.2.1 0).2.2.1 ∈ gw := fun q hq => by obtain rfl : q = (RX0, TX0, 2) := (Option.some.inj hq).symm; exact gi 87 _ (by decide +kernel) rfl
theorem fX0_15 : FLK RX0 15 0 1 := ⟨clk0, by decide, fun q hq => by obtain rfl : q = (RX0, TX0, 2) := (Option.some.inj hq).symm; exact ⟨by decide, Or.inl (gi 88 _ (by decide +kernel) rfl)⟩⟩
theorem gX0_15 : ∀ q : vw_C, cls8[0]? = some q → Cond.fieldLink RX0 15 (q.2.1 1).1 (q.2.1 1).2.1 (q.2.1 1).2.2.1 ∈ gw := fun q hq => by obtain rfl : q = (RX0, TX0, 2) := (Option.some.inj hq).symm; exact gi 88 _ (by decide +kernel) rfl
theorem fX4_9 : FLK RX4 9 4 0 := ⟨clk4, by decide, fun q hq => by obtain rfl : q = (RX4, TX4, 8) := (Option.some.inj hq).symm; exact ⟨by decide, Or.inl (gi 101 _ (by decide +kernel) rfl)⟩⟩
theorem gX4_9 : ∀ q : vw_C, cls8[4]? = some q → Cond.fieldLink RX4 9 (q.2.1 0).1 (q.2.1 0).2.1 (q.2.1 0).2.2.1 ∈ gw := fun q hq => by obtain rfl : q = (RX4, TX4, 8) := (Option.some.inj hq).symm; exact gi 101 _ (by decide +kernel) rfl
theorem fX3_68 : FLK RX3 68 4 0 := ⟨clk4, by decide, fun q hq => by obtain rfl : q = (RX4, TX4, 8) := (Option.some.inj hq).symm; exact ⟨by decide, Or.inr ⟨"SpreadDesk", by decide +kernel⟩⟩⟩
theorem fX4_15 : FLK RX4 15 4 1 := ⟨clk4, by decide, fun q hq => by obtain rfl : q = (RX4, TX4, 8) := (Option.some.inj hq).symm; exact ⟨by decide, Or.inl (gi 103 _ (by decide +kernel) rfl)⟩⟩
theorem gX4_15 : ∀ q : vw_C, cls8[4]? = some q → Cond.fieldLink RX4 15 (q.2.1 1).1 (q.2.1 1).2.1 (q.2.1 1).2.2.1 ∈ gw := fun q hq => by obtain rfl : q = (RX4, TX4, 8) := (Option.some.inj hq).symm; exact gi 103 _ (by decide +kernel) rfl
theorem fX3_61 : FLK RX3 61 4 1 := ⟨clk4, by decide, fun q hq => by obtain rfl : q = (RX4, TX4, 8) := (Option.some.inj hq).symm; exact ⟨by decide, Or.inr ⟨"SpreadDesk", by decide +kernel⟩⟩⟩
theorem fX4_18 : FLK RX4 18 4 2 := ⟨clk4, by decide, fun q hq => by obtain rfl : q = (RX4, TX4, 8) := (Option.some.inj hq).symm; exact ⟨by decide, Or.inl (gi 105 _ (by decide +kernel) rfl)⟩⟩
theorem gX4_18 : ∀ q : vw_C, cls8[4]? = some q → Cond.fieldLink RX4 18 (q.2.1 2).1 (q.2.1 2).2.1 (q.2.1 2).2.2.1 ∈ gw := fun q hq => by obtain rfl : q = (RX4, TX4, 8) := (Option.some.inj hq).symm; exact gi 105 _ (by decide +kernel) rfl
theorem fX3_65 : FLK RX3 65 4 2 := ⟨clk4, by decide, fun q hq => by obtain rfl : q = (RX4, TX4, 8) := (Option.some.inj hq).symm; exact ⟨by decide, Or.inr ⟨"SpreadDesk", by decide +kernel⟩⟩⟩
theorem fX4_21 : FLK RX4 21 4 3 := ⟨clk4, by decide, fun q hq => by obtain rfl : q = (RX4, TX4, 8) := (Option.some.inj hq).symm; exact ⟨by decide, Or.inl (gi 107 _ (by decide +kernel) rfl)⟩⟩
theorem gX4_21 : ∀ q : vw_C, cls8[4]? = some q → Cond.fieldLink RX4 21 (q.2.1 3).1 (q.2.1 3).2.1 (q.2.1 3).2.2.1 ∈ gw := fun q hq => by obtain rfl : q = (RX4, TX4, 8) := (Option.some.inj hq).symm; exact gi 107 _ (by decide +kernel) rfl
theorem fX4_24 : FLK RX4 24 4 4 := ⟨clk4, by decide, fun q hq => by obtain rfl : q = (RX4, TX4, 8) := (Option.some.inj hq).symm; exact ⟨by decide, Or.inl (gi 108 _ (by decide +kernel) rfl)⟩⟩
theorem gX4_24 : ∀ q : vw_C, cls8[4]? = some q → Cond.fieldLink RX4 24 (q.2.1 4).1 (q.2.1 4).2.1 (q.2.1 4).2.2.1 ∈ gw := fun q hq => by obtain rfl : q = (RX4, TX4, 8) := (Option.some.inj hq).symm; exact gi 108 _ (by decide +kernel) rfl
theorem fX4_27 : FLK RX4 27 4 5 := ⟨clk4, by decide, fun q hq => by obtain rfl : q = (RX4, TX4, 8) := (Option.some.inj hq).symm; exact ⟨by decide, Or.inl (gi 109 _ (by decide +kernel) rfl)⟩⟩
theorem gX4_27 : ∀ q : vw_C, cls8[4]? = some q → Cond.fieldLink RX4 27 (q.2.1 5).1 (q.2.1 5).2.1 (q.2.1 5).2.2.1 ∈ gw := fun q hq => by obtain rfl : q = (RX4, TX4, 8) := (Option.some.inj hq).symm; exact gi 109 _ (by decide +kernel) rfl
theorem fX4_30 : FLK RX4 30 4 6 := ⟨clk4, by decide, fun q hq => by obtain rfl : q = (RX4, TX4, 8) := (Option.some.inj hq).symm; exact ⟨by decide, Or.inl (gi 110 _ (by decide +kernel) rfl)⟩⟩
theorem fX4_37 : FLK RX4 37 4 7 := ⟨clk4, by decide, fun q hq => by obtain rfl : q = (RX4, TX4, 8) := (Option.some.inj hq).symm; exact ⟨by decide, Or.inl (gi 111 _ (by decide +kernel) rfl)⟩⟩
theorem fX2_12 : FLK RX2 12 2 0 := ⟨clk2, by decide, fun q hq => by obtain rfl : q = (RX2, TX2, 9) := (Option.some.inj hq).symm; exact ⟨by decide, Or.inl (gi 139 _ (by decide +kernel) rfl)⟩⟩
theorem gX2_12 : ∀ q : vw_C, cls8[2]? = some q → Cond.fieldLink RX2 12 (q.2.1 0).1 (q.2.1 0).2.1 (q.2.1 0).2.2.1 ∈ gw := fun q hq => by obtain rfl : q = (RX2, TX2, 9) := (Option.some.inj hq).symm; exact gi 139 _ (by decide +kernel) rfl
theorem fX5_80 : FLK RX5 80 2 0 := ⟨clk2, by decide, fun q hq => by obtain rfl : q = (RX2, TX2, 9) := (Option.some.inj hq).symm; exact ⟨by decide, Or.inr ⟨"SpreadDesk", by decide +kernel⟩⟩⟩
theorem fX2_21 : FLK RX2 21 2 1 := ⟨clk2, by decide, fun q hq => by obtain rfl : q = (RX2, TX2, 9) := (Option.some.inj hq).symm; exact ⟨by decide, Or.inl (gi 141 _ (by decide +kernel) rfl)⟩⟩
theorem gX2_21 : ∀ q : vw_C, cls8[2]? = some q → Cond.fieldLink RX2 21 (q.2.1 1).1 (q.2.1 1).2.1 (q.2.1 1).2.2.1 ∈ gw := fun q hq => by obtain rfl : q = (RX2, TX2, 9) := (Option.some.inj hq).symm; exact gi 141 _ (by decide +kernel) rfl
theorem fX5_85 : FLK RX5 85 2 1 := ⟨clk2, by decide, fun q hq => by obtain rfl : q = (RX2, TX2, 9) := (Option.some.inj hq).symm; exact ⟨by decide, Or.inr ⟨"SpreadDesk", by decide +kernel⟩⟩⟩
theorem fX2_25 : FLK RX2 25 2 2 := ⟨clk2, by decide, fun q hq => by obtain rfl : q = (RX2, TX2, 9) := (Option.some.inj hq).symm; exact ⟨by decide, Or.inl (gi 143 _ (by decide +kernel) rfl)⟩⟩
theorem gX2_25 : ∀ q : vw_C, cls8[2]? = some q → Cond.fieldLink RX2 25 (q.2.1 2).1 (q.2.1 2).2.1 (q.2.1 2).2.2.1 ∈ gw := fun q hq => by obtain rfl : q = (RX2, TX2, 9) := (Option.some.inj hq).symm; exact gi 143 _ (by decide +kernel) rfl
theorem fX2_29 : FLK RX2 29 2 3 := ⟨clk2, by decide, fun q hq => by obtain rfl : q = (RX2, TX2, 9) := (Option.some.inj hq).symm; exact ⟨by decide, Or.inl (gi 144 _ (by decide +kernel) rfl)⟩⟩
theorem fX2_43 : FLK RX2 43 2 4 := ⟨clk2, by decide, fun q hq => by obtain rfl : q = (RX2, TX2, 9) := (Option.some.inj hq).symm; exact ⟨by decide, Or.inl (gi 145 _ (by decide +kernel) rfl)⟩⟩
theorem fX2_50 : FLK RX2 50 2 5 := ⟨clk2, by decide, fun q hq => by obtain rfl : q = (RX2, TX2, 9) := (Option.some.inj hq).symm; exact ⟨by decide, Or.inl (gi 146 _ (by decide +kernel) rfl)⟩⟩
theorem fX2_37 : FLK RX2 37 2 6 := ⟨clk2, by decide, fun q hq => by obtain rfl : q = (RX2, TX2, 9) := (Option.some.inj hq).symm; exact ⟨by decide, Or.inl (gi 147 _ (by decide +kernel) rfl)⟩⟩
theorem fX2_73 : FLK RX2 73 2 7 := ⟨clk2, by decide, fun q hq => by obtain rfl : q = (RX2, TX2, 9) := (Option.some.inj hq).symm; exact ⟨by decide, Or.inl (gi 148 _ (by decide +kernel) rfl)⟩⟩
theorem fX2_87 : FLK RX2 87 2 8 := ⟨clk2, by decide, fun q hq => by obtain rfl : q = (RX2, TX2, 9) := (Option.some.inj hq).symm; exact ⟨by decide, Or.inl (gi 149 _ (by decide +kernel) rfl)⟩⟩
theorem fX1_9 : FLK RX1 9 1 0 := ⟨clk1, by decide, fun q hq => by obtain rfl : q = (RX1, TX1, 4) := (Option.some.inj hq).symm; exact ⟨by decide, Or.inl (gi 175 _ (by decide +kernel) rfl)⟩⟩
theorem gX1_9 : ∀ q : vw_C, cls8[1]? = some q → Cond.fieldLink RX1 9 (q.2.1 0).1 (q.2.1 0).2.1 (q.2.1 0).2.2.1 ∈ gw := fun q hq => by obtain rfl : q = (RX1, TX1, 4) := (Option.some.inj hq).symm; exact gi 175 _ (by decide +kernel) rfl
theorem fX1_15 : FLK RX1 15 1 1 := ⟨clk1, by decide, fun q hq => by obtain rfl : q = (RX1, TX1, 4) := (Option.some.inj hq).symm; exact ⟨by decide, Or.inl (gi 176 _ (by decide +kernel) rfl)⟩⟩
theorem gX1_15 : ∀ q : vw_C, cls8[1]? = some q → Cond.fieldLink RX1 15 (q.2.1 1).1 (q.2.1 1).2.1 (q.2.1 1).2.2.1 ∈ gw := fun q hq => by obtain rfl : q = (RX1, TX1, 4) := (Option.some.inj hq).symm; exact gi 176 _ (by decide +kernel) rfl
theorem fX1_18 : FLK RX1 18 1 2 := ⟨clk1, by decide, fun q hq => by obtain rfl : q = (RX1, TX1, 4) := (Option.some.inj hq).symm; exact ⟨by decide, Or.inl (gi 177 _ (by decide +kernel) rfl)⟩⟩
theorem gX1_18 : ∀ q : vw_C, cls8[1]? = some q → Cond.fieldLink RX1 18 (q.2.1 2).1 (q.2.1 2).2.1 (q.2.1 2).2.2.1 ∈ gw := fun q hq => by obtain rfl : q = (RX1, TX1, 4) := (Option.some.inj hq).symm; exact gi 177 _ (by decide +kernel) rfl
theorem fX1_21 : FLK RX1 21 1 3 := ⟨clk1, by decide, fun q hq => by obtain rfl : q = (RX1, TX1, 4) := (Option.some.inj hq).symm; exact ⟨by decide, Or.inl (gi 178 _ (by decide +kernel) rfl)⟩⟩
theorem fX3_9 : FLK RX3 9 3 0 := ⟨clk3, by decide, fun q hq => by obtain rfl : q = (RX3, TX3, 6) := (Option.some.inj hq).symm; exact ⟨by decide, Or.inl (gi 194 _ (by decide +kernel) rfl)⟩⟩
theorem gX3_9 : ∀ q : vw_C, cls8[3]? = some q → Cond.fieldLink RX3 9 (q.2.1 0).1 (q.2.1 0).2.1 (q.2.1 0).2.2.1 ∈ gw := fun q hq => by obtain rfl : q = (RX3, TX3, 6) := (Option.some.inj hq).symm; exact gi 194 _ (by decide +kernel) rfl
theorem fX3_15 : FLK RX3 15 3 1 := ⟨clk3, by decide, fun q hq => by obtain rfl : q = (RX3, TX3, 6) := (Option.some.inj hq).symm; exact ⟨by decide, Or.inl (gi 195 _ (by decide +kernel) rfl)⟩⟩
theorem gX3_15 : ∀ q : vw_C, cls8[3]? = some q → Cond.fieldLink RX3 15 (q.2.1 1).1 (q.2.1 1).2.1 (q.2.1 1).2.2.1 ∈ gw := fun q hq => by obtain rfl : q = (RX3, TX3, 6) := (Option.some.inj hq).symm; exact gi 195 _ (by decide +kernel) rfl
theorem fX3_19 : FLK RX3 19 3 2 := ⟨clk3, by decide, fun q hq => by obtain rfl : q = (RX3, TX3, 6) := (Option.some.inj hq).symm; exact ⟨by decide, Or.inl (gi 196 _ (by decide +kernel) rfl)⟩⟩
theorem gX3_19 : ∀ q : vw_C, cls8[3]? = some q → Cond.fieldLink RX3 19 (q.2.1 2).1 (q.2.1 2).2.1 (q.2.1 2).2.2.1 ∈ gw := fun q hq => by obtain rfl : q = (RX3, TX3, 6) := (Option.some.inj hq).symm; exact gi 196 _ (by decide +kernel) rfl
theorem fX3_23 : FLK RX3 23 3 3 := ⟨clk3, by decide, fun q hq => by obtain rfl : q = (RX3, TX3, 6) := (Option.some.inj hq).symm; exact ⟨by decide, Or.inl (gi 197 _ (by decide +kernel) rfl)⟩⟩
theorem gX3_23 : ∀ q : vw_C, cls8[3]? = some q → Cond.fieldLink RX3 23 (q.2.1 3).1 (q.2.1 3).2.1 (q.2.1 3).2.2.1 ∈ gw := fun q hq => by obtain rfl : q = (RX3, TX3, 6) := (Option.some.inj hq).symm; exact gi 197 _ (by decide +kernel) rfl
theorem fX3_26 : FLK RX3 26 3 4 := ⟨clk3, by decide, fun q hq => by obtain rfl : q = (RX3, TX3, 6) := (Option.some.inj hq).symm; exact ⟨by decide, Or.inl (gi 198 _ (by decide +kernel) rfl)⟩⟩
theorem gX3_26 : ∀ q : vw_C, cls8[3]? = some q → Cond.fieldLink RX3 26 (q.2.1 4).1 (q.2.1 4).2.1 (q.2.1 4).2.2.1 ∈ gw := fun q hq => by obtain rfl : q = (RX3, TX3, 6) := (Option.some.inj hq).symm; exact gi 198 _ (by decide +kernel) rfl
theorem fX3_29 : FLK RX3 29 3 5 := ⟨clk3, by decide, fun q hq => by obtain rfl : q = (RX3, TX3, 6) := (Option.some.inj hq).symm; exact ⟨by decide, Or.inl (gi 199 _ (by decide +kernel) rfl)⟩⟩
theorem gX3_29 : ∀ q : vw_C, cls8[3]? = some q → Cond.fieldLink RX3 29 (q.2.1 5).1 (q.2.1 5).2.1 (q.2.1 5).2.2.1 ∈ gw := fun q hq => by obtain rfl : q = (RX3, TX3, 6) := (Option.some.inj hq).symm; exact gi 199 _ (by decide +kernel) rfl
theorem fX5_12 : FLK RX5 12 5 0 := ⟨clk5, by decide, fun q hq => by obtain rfl : q = (RX5, TX5, 14) := (Option.some.inj hq).symm; exact ⟨by decide, Or.inl (gi 214 _ (by decide +kernel) rfl)⟩⟩
theorem gX5_12 : ∀ q : vw_C, cls8[5]? = some q → Cond.fieldLink RX5 12 (q.2.1 0).1 (q.2.1 0).2.1 (q.2.1 0).2.2.1 ∈ gw := fun q hq => by obtain rfl : q = (RX5, TX5, 14) := (Option.some.inj hq).symm; exact gi 214 _ (by decide +kernel) rfl
theorem fX5_19 : FLK RX5 19 5 1 := ⟨clk5, by decide, fun q hq => by obtain rfl : q = (RX5, TX5, 14) := (Option.some.inj hq).symm; exact ⟨by decide, Or.inl (gi 215 _ (by decide +kernel) rfl)⟩⟩
theorem gX5_19 : ∀ q : vw_C, cls8[5]? = some q → Cond.fieldLink RX5 19 (q.2.1 1).1 (q.2.1 1).2.1 (q.2.1 1).2.2.1 ∈ gw := fun q hq => by obtain rfl : q = (RX5, TX5, 14) := (Option.some.inj hq).symm; exact gi 215 _ (by decide +kernel) rfl
theorem fX5_26 : FLK RX5 26 5 2 := ⟨clk5, by decide, fun q hq => by obtain rfl : q = (RX5, TX5, 14) := (Option.some.inj hq).symm; exact ⟨by decide, Or.inl (gi 216 _ (by decide +kernel) rfl)⟩⟩
theorem gX5_26 : ∀ q : vw_C, cls8[5]? = some q → Cond.fieldLink RX5 26 (q.2.1 2).1 (q.2.1 2).2.1 (q.2.1 2).2.2.1 ∈ gw := fun q hq => by obtain rfl : q = (RX5, TX5, 14) := (Option.some.inj hq).symm; exact gi 216 _ (by decide +kernel) rfl
theorem fX5_33 : FLK RX5 33 5 3 := ⟨clk5, by decide, fun q hq => by obtain rfl : q = (RX5, TX5, 14) := (Option.some.inj hq).symm; exact ⟨by decide, Or.inl (gi 217 _ (by decide +kernel) rfl)⟩⟩
theorem gX5_33 : ∀ q : vw_C, cls8[5]? = some q → Cond.fieldLink RX5 33 (q.2.1 3).1 (q.2.1 3).2.1 (q.2.1 3).2.2.1 ∈ gw := fun q hq => by obtain rfl : q = (RX5, TX5, 14) := (Option.some.inj hq).symm; exact gi 217 _ (by decide +kernel) rfl
theorem fX5_42 : FLK RX5 42 5 4 := ⟨clk5, by decide, fun q hq => by obtain rfl : q = (RX5, TX5, 14) := (Option.some.inj hq).symm; exact ⟨by decide, Or.inl (gi 218 _ (by decide +kernel) rfl)⟩⟩
theorem gX5_42 : ∀ q : vw_C, cls8[5]? = some q → Cond.fieldLink RX5 42 (q.2.1 4).1 (q.2.1 4).2.1 (q.2.1 4).2.2.1 ∈ gw := fun q hq => by obtain rfl : q = (RX5, TX5, 14) := (Option.some.inj hq).symm; exact gi 218 _ (by decide +kernel) rfl
theorem fX5_46 : FLK RX5 46 5 5 := ⟨clk5, by decide, fun q hq => by obtain rfl : q = (RX5, TX5, 14) := (Option.some.inj hq).symm; exact ⟨by decide, Or.inl (gi 219 _ (by decide +kernel) rfl)⟩⟩
theorem gX5_46 : ∀ q : vw_C, cls8[5]? = some q → Cond.fieldLink RX5 46 (q.2.1 5).1 (q.2.1 5).2.1 (q.2.1 5).2.2.1 ∈ gw := fun q hq => by obtain rfl : q = (RX5, TX5, 14) := (Option.some.inj hq).symm; exact gi 219 _ (by decide +kernel) rfl
theorem fX5_49 : FLK RX5 49 5 6 := ⟨clk5, by decide, fun q hq => by obtain rfl : q = (RX5, TX5, 14) := (Option.some.inj hq).symm; exact ⟨by decide, Or.inl (gi 220 _ (by decide +kernel) rfl)⟩⟩
theorem gX5_49 : ∀ q : vw_C, cls8[5]? = some q → Cond.fieldLink RX5 49 (q.2.1 6).1 (q.2.1 6).2.1 (q.2.1 6).2.2.1 ∈ gw := fun q hq => by obtain rfl : q = (RX5, TX5, 14) := (Option.some.inj hq).symm; exact gi 220 _ (by decide +kernel) rfl
theorem fX5_96 : FLK RX5 96 5 7 := ⟨clk5, by decide, fun q hq => by obtain rfl : q = (RX5, TX5, 14) := (Option.some.inj hq).symm; exact ⟨by decide, Or.inl (gi 221 _ (by decide +kernel) rfl)⟩⟩
theorem fX5_100 : FLK RX5 100 5 8 := ⟨clk5, by decide, fun q hq => by obtain rfl : q = (RX5, TX5, 14) := (Option.some.inj hq).symm; exact ⟨by decide, Or.inl (gi 222 _ (by decide +kernel) rfl)⟩⟩
theorem fX5_52 : FLK RX5 52 5 9 := ⟨clk5, by decide, fun q hq => by obtain rfl : q = (RX5, TX5, 14) := (Option.some.inj hq).symm; exact ⟨by decide, Or.inl (gi 223 _ (by decide +kernel) rfl)⟩⟩
theorem gX5_52 : ∀ q : vw_C, cls8[5]? = some q → Cond.fieldLink RX5 52 (q.2.1 9).1 (q.2.1 9).2.1 (q.2.1 9).2.2.1 ∈ gw := fun q hq => by obtain rfl : q = (RX5, TX5, 14) := (Option.some.inj hq).symm; exact gi 223 _ (by decide +kernel) rfl
theorem fX5_56 : FLK RX5 56 5 10 := ⟨clk5, by decide, fun q hq => by obtain rfl : q = (RX5, TX5, 14) := (Option.some.inj hq).symm; exact ⟨by decide, Or.inl (gi 224 _ (by decide +kernel) rfl)⟩⟩
theorem gX5_56 : ∀ q : vw_C, cls8[5]? = some q → Cond.fieldLink RX5 56 (q.2.1 10).1 (q.2.1 10).2.1 (q.2.1 10).2.2.1 ∈ gw := fun q hq => by obtain rfl : q = (RX5, TX5, 14) := (Option.some.inj hq).symm; exact gi 224 _ (by decide +kernel) rfl
theorem fX5_92 : FLK RX5 92 5 11 := ⟨clk5, by decide, fun q hq => by obtain rfl : q = (RX5, TX5, 14) := (Option.some.inj hq).symm; exact ⟨by decide, Or.inl (gi 225 _ (by decide +kernel) rfl)⟩⟩
theorem fX5_60 : FLK RX5 60 5 12 := ⟨clk5, by decide, fun q hq => by obtain rfl : q = (RX5, TX5, 14) := (Option.some.inj hq).symm; exact ⟨by decide, Or.inl (gi 226 _ (by decide +kernel) rfl)⟩⟩
theorem gX5_60 : ∀ q : vw_C, cls8[5]? = some q → Cond.fieldLink RX5 60 (q.2.1 12).1 (q.2.1 12).2.1 (q.2.1 12).2.2.1 ∈ gw := fun q hq => by obtain rfl : q = (RX5, TX5, 14) := (Option.some.inj hq).symm; exact gi 226 _ (by decide +kernel) rfl
theorem fX5_63 : FLK RX5 63 5 13 := ⟨clk5, by decide, fun q hq => by obtain rfl : q = (RX5, TX5, 14) := (Option.some.inj hq).symm; exact ⟨by decide, Or.inl (gi 227 _ (by decide +kernel) rfl)⟩⟩
theorem gX5_63 : ∀ q : vw_C, cls8[5]? = some q → Cond.fieldLink RX5 63 (q.2.1 13).1 (q.2.1 13).2.1 (q.2.1 13).2.2.1 ∈ gw := fun q hq => by obtain rfl : q = (RX5, TX5, 14) := (Option.some.inj hq).symm; exact gi 227 _ (by decide +kernel) rfl
theorem fX6_93 : FLK RX6 93 6 0 := ⟨clk6, by decide, fun q hq => by obtain rfl : q = (RX6, TX6, 40) := (Option.some.inj hq).symm; exact ⟨by decide, Or.inl (gi 659 _ (by decide +kernel) rfl)⟩⟩
theorem fX6_7 : FLK RX6 7 6 1 := ⟨clk6, by decide, fun q hq => by obtain rfl : q = (RX6, TX6, 40) := (Option.some.inj hq).symm; exact ⟨by decide, Or.inl (gi 660 _ (by decide +kernel) rfl)⟩⟩
theorem gX6_7 : ∀ q : vw_C, cls8[6]? = some q → Cond.fieldLink RX6 7 (q.2.1 1).1 (q.2.1 1).2.1 (q.2.1 1).2.2.1 ∈ gw := fun q hq => by obtain rfl : q = (RX6, TX6, 40) := (Option.some.inj hq).symm; exact gi 660 _ (by decide +kernel) rfl
theorem fX6_101 : FLK RX6 101 6 2 := ⟨clk6, by decide, fun q hq => by obtain rfl : q = (RX6, TX6, 40) := (Option.some.inj hq).symm; exact ⟨by decide, Or.inl (gi 661 _ (by decide +kernel) rfl)⟩⟩
theorem fX6_104 : FLK RX6 104 6 3 := ⟨clk6, by decide, fun q hq => by obtain rfl : q = (RX6, TX6, 40) := (Option.some.inj hq).symm; exact ⟨by decide, Or.inl (gi 662 _ (by decide +kernel) rfl)⟩⟩
theorem fX6_114 : FLK RX6 114 6 4 := ⟨clk6, by decide, fun q hq => by obtain rfl : q = (RX6, TX6, 40) := (Option.some.inj hq).symm; exact ⟨by decide, Or.inl (gi 663 _ (by decide +kernel) rfl)⟩⟩
theorem fX6_111 : FLK RX6 111 6 5 := ⟨clk6, by decide, fun q hq => by obtain rfl : q = (RX6, TX6, 40) := (Option.some.inj hq).symm; exact ⟨by decide, Or.inl (gi 664 _ (by decide +kernel) rfl)⟩⟩
theorem fX6_117 : FLK RX6 117 6 6 := ⟨clk6, by decide, fun q hq => by obtain rfl : q = (RX6, TX6, 40) := (Option.some.inj hq).symm; exact ⟨by decide, Or.inl (gi 665 _ (by decide +kernel) rfl)⟩⟩
theorem fX6_124 : FLK RX6 124 6 7 := ⟨clk6, by decide, fun q hq => by obtain rfl : q = (RX6, TX6, 40) := (Option.some.inj hq).symm; exact ⟨by decide, Or.inl (gi 666 _ (by decide +kernel) rfl)⟩⟩
theorem fX6_199 : FLK RX6 199 6 8 := ⟨clk6, by decide, fun q hq => by obtain rfl : q = (RX6, TX6, 40) := (Option.some.inj hq).symm; exact ⟨by decide, Or.inl (gi 667 _ (by decide +kernel) rfl)⟩⟩
theorem fX6_13 : FLK RX6 13 6 9 := ⟨clk6, by decide, fun q hq => by obtain rfl : q = (RX6, TX6, 40) := (Option.some.inj hq).symm; exact ⟨by decide, Or.inl (gi 668 _ (by decide +kernel) rfl)⟩⟩
theorem gX6_13 : ∀ q : vw_C, cls8[6]? = some q → Cond.fieldLink RX6 13 (q.2.1 9).1 (q.2.1 9).2.1 (q.2.1 9).2.2.1 ∈ gw := fun q hq => by obtain rfl : q = (RX6, TX6, 40) := (Option.some.inj hq).symm; exact gi 668 _ (by decide +kernel) rfl
theorem fX6_16 : FLK RX6 16 6 10 := ⟨clk6, by decide, fun q hq => by obtain rfl : q = (RX6, TX6, 40) := (Option.some.inj hq).symm; exact ⟨by decide, Or.inl (gi 669 _ (by decide +kernel) rfl)⟩⟩
theorem gX6_16 : ∀ q : vw_C, cls8[6]? = some q → Cond.fieldLink RX6 16 (q.2.1 10).1 (q.2.1 10).2.1 (q.2.1 10).2.2.1 ∈ gw := fun q hq => by obtain rfl : q = (RX6, TX6, 40) := (Option.some.inj hq).symm; exact gi 669 _ (by decide +kernel) rfl
theorem fX6_19 : FLK RX6 19 6 11 := ⟨clk6, by decide, fun q hq => by obtain rfl : q = (RX6, TX6, 40) := (Option.some.inj hq).symm; exact ⟨by decide, Or.inl (gi 670 _ (by decide +kernel) rfl)⟩⟩
theorem gX6_19 : ∀ q : vw_C, cls8[6]? = some q → Cond.fieldLink RX6 19 (q.2.1 11).1 (q.2.1 11).2.1 (q.2.1 11).2.2.1 ∈ gw := fun q hq => by obtain rfl : q = (RX6, TX6, 40) := (Option.some.inj hq).symm; exact gi 670 _ (by decide +kernel) rfl
theorem fX6_22 : FLK RX6 22 6 12 := ⟨clk6, by decide, fun q hq => by obtain rfl : q = (RX6, TX6, 40) := (Option.some.inj hq).symm; exact ⟨by decide, Or.inl (gi 671 _ (by decide +kernel) rfl)⟩⟩
theorem gX6_22 : ∀ q : vw_C, cls8[6]? = some q → Cond.fieldLink RX6 22 (q.2.1 12).1 (q.2.1 12).2.1 (q.2.1 12).2.2.1 ∈ gw := fun q hq => by obtain rfl : q = (RX6, TX6, 40) := (Option.some.inj hq).symm; exact gi 671 _ (by decide +kernel) rfl
theorem fX6_25 : FLK RX6 25 6 13 := ⟨clk6, by decide, fun q hq => by obtain rfl : q = (RX6, TX6, 40) := (Option.some.inj hq).symm; exact ⟨by decide, Or.inl (gi 672 _ (by decide +kernel) rfl)⟩⟩
theorem gX6_25 : ∀ q : vw_C, cls8[6]? = some q → Cond.fieldLink RX6 25 (q.2.1 13).1 (q.2.1 13).2.1 (q.2.1 13).2.2.1 ∈ gw := fun q hq => by obtain rfl : q = (RX6, TX6, 40) := (Option.some.inj hq).symm; exact gi 672 _ (by decide +kernel) rfl
theorem fX6_145 : FLK RX6 145 6 14 := ⟨clk6, by decide, fun q hq => by obtain rfl : q = (RX6, TX6, 40) := (Option.some.inj hq).symm; exact ⟨by decide, Or.inl (gi 673 _ (by decide +kernel) rfl)⟩⟩
theorem fX6_28 : FLK RX6 28 6 15 := ⟨clk6, by decide, fun q hq => by obtain rfl : q = (RX6, TX6, 40) := (Option.some.inj hq).symm; exact ⟨by decide, Or.inl (gi 674 _ (by decide +kernel) rfl)⟩⟩
theorem gX6_28 : ∀ q : vw_C, cls8[6]? = some q → Cond.fieldLink RX6 28 (q.2.1 15).1 (q.2.1 15).2.1 (q.2.1 15).2.2.1 ∈ gw := fun q hq => by obtain rfl : q = (RX6, TX6, 40) := (Option.some.inj hq).symm; exact gi 674 _ (by decide +kernel) rfl
theorem fX6_31 : FLK RX6 31 6 16 := ⟨clk6, by decide, fun q hq => by obtain rfl : q = (RX6, TX6, 40) := (Option.some.inj hq).symm; exact ⟨by decide, Or.inl (gi 675 _ (by decide +kernel) rfl)⟩⟩
theorem gX6_31 : ∀ q : vw_C, cls8[6]? = some q → Cond.fieldLink RX6 31 (q.2.1 16).1 (q.2.1 16).2.1 (q.2.1 16).2.2.1 ∈ gw := fun q hq => by obtain rfl : q = (RX6, TX6, 40) := (Option.some.inj hq).symm; exact gi 675 _ (by decide +kernel) rfl
theorem fX6_34 : FLK RX6 34 6 17 := ⟨clk6, by decide, fun q hq => by obtain rfl : q = (RX6, TX6, 40) := (Option.some.inj hq).symm; exact ⟨by decide, Or.inl (gi 676 _ (by decide +kernel) rfl)⟩⟩
theorem gX6_34 : ∀ q : vw_C, cls8[6]? = some q → Cond.fieldLink RX6 34 (q.2.1 17).1 (q.2.1 17).2.1 (q.2.1 17).2.2.1 ∈ gw := fun q hq => by obtain rfl : q = (RX6, TX6, 40) := (Option.some.inj hq).symm; exact gi 676 _ (by decide +kernel) rfl
theorem fX6_37 : FLK RX6 37 6 18 := ⟨clk6, by decide, fun q hq => by obtain rfl : q = (RX6, TX6, 40) := (Option.some.inj hq).symm; exact ⟨by decide, Or.inl (gi 677 _ (by decide +kernel) rfl)⟩⟩
theorem gX6_37 : ∀ q : vw_C, cls8[6]? = some q → Cond.fieldLink RX6 37 (q.2.1 18).1 (q.2.1 18).2.1 (q.2.1 18).2.2.1 ∈ gw := fun q hq => by obtain rfl : q = (RX6, TX6, 40) := (Option.some.inj hq).symm; exact gi 677 _ (by decide +kernel) rfl
theorem fX6_40 : FLK RX6 40 6 19 := ⟨clk6, by decide, fun q hq => by obtain rfl : q = (RX6, TX6, 40) := (Option.some.inj hq).symm; exact ⟨by decide, Or.inl (gi 678 _ (by decide +kernel) rfl)⟩⟩
theorem gX6_40 : ∀ q : vw_C, cls8[6]? = some q → Cond.fieldLink RX6 40 (q.2.1 19).1 (q.2.1 19).2.1 (q.2.1 19).2.2.1 ∈ gw := fun q hq => by obtain rfl : q = (RX6, TX6, 40) := (Option.some.inj hq).symm; exact gi 678 _ (by decide +kernel) rfl
theorem fX6_43 : FLK RX6 43 6 20 := ⟨clk6, by decide, fun q hq => by obtain rfl : q = (RX6, TX6, 40) := (Option.some.inj hq).symm; exact ⟨by decide, Or.inl (gi 679 _ (by decide +kernel) rfl)⟩⟩
theorem gX6_43 : ∀ q : vw_C, cls8[6]? = some q → Cond.fieldLink RX6 43 (q.2.1 20).1 (q.2.1 20).2.1 (q.2.1 20).2.2.1 ∈ gw := fun q hq => by obtain rfl : q = (RX6, TX6, 40) := (Option.some.inj hq).symm; exact gi 679 _ (by decide +kernel) rfl
theorem fX6_46 : FLK RX6 46 6 21 := ⟨clk6, by decide, fun q hq => by obtain rfl : q = (RX6, TX6, 40) := (Option.some.inj hq).symm; exact ⟨by decide, Or.inl (gi 680 _ (by decide +kernel) rfl)⟩⟩
theorem gX6_46 : ∀ q : vw_C, cls8[6]? = some q → Cond.fieldLink RX6 46 (q.2.1 21).1 (q.2.1 21).2.1 (q.2.1 21).2.2.1 ∈ gw := fun q hq => by obtain rfl : q = (RX6, TX6, 40) := (Option.some.inj hq).symm; exact gi 680 _ (by decide +kernel) rfl
theorem fX6_49 : FLK RX6 49 6 22 := ⟨clk6, by decide, fun q hq => by obtain rfl : q = (RX6, TX6, 40) := (Option.some.inj hq).symm; exact ⟨by decide, Or.inl (gi 681 _ (by decide +kernel) rfl)⟩⟩
theorem gX6_49 : ∀ q : vw_C, cls8[6]? = some q → Cond.fieldLink RX6 49 (q.2.1 22).1 (q.2.1 22).2.1 (q.2.1 22).2.2.1 ∈ gw := fun q hq => by obtain rfl : q = (RX6, TX6, 40) := (Option.some.inj hq).symm; exact gi 681 _ (by decide +kernel) rfl
theorem fX6_205 : FLK RX6 205 6 23 := ⟨clk6, by decide, fun q hq => by obtain rfl : q = (RX6, TX6, 40) := (Option.some.inj hq).symm; exact ⟨by decide, Or.inl (gi 682 _ (by decide +kernel) rfl)⟩⟩
theorem fX6_52 : FLK RX6 52 6 24 := ⟨clk6, by decide, fun q hq => by obtain rfl : q = (RX6, TX6, 40) := (Option.some.inj hq).symm; exact ⟨by decide, Or.inl (gi 683 _ (by decide +kernel) rfl)⟩⟩
theorem gX6_52 : ∀ q : vw_C, cls8[6]? = some q → Cond.fieldLink RX6 52 (q.2.1 24).1 (q.2.1 24).2.1 (q.2.1 24).2.2.1 ∈ gw := fun q hq => by obtain rfl : q = (RX6, TX6, 40) := (Option.some.inj hq).symm; exact gi 683 _ (by decide +kernel) rfl
theorem fX6_55 : FLK RX6 55 6 25 := ⟨clk6, by decide, fun q hq => by obtain rfl : q = (RX6, TX6, 40) := (Option.some.inj hq).symm; exact ⟨by decide, Or.inl (gi 684 _ (by decide +kernel) rfl)⟩⟩
theorem gX6_55 : ∀ q : vw_C, cls8[6]? = some q → Cond.fieldLink RX6 55 (q.2.1 25).1 (q.2.1 25).2.1 (q.2.1 25).2.2.1 ∈ gw := fun q hq => by obtain rfl : q = (RX6, TX6, 40) := (Option.some.inj hq).symm; exact gi 684 _ (by decide +kernel) rfl
theorem fX6_59 : FLK RX6 59 6 26 := ⟨clk6, by decide, fun q hq => by obtain rfl : q = (RX6, TX6, 40) := (Option.some.inj hq).symm; exact ⟨by decide, Or.inl (gi 685 _ (by decide +kernel) rfl)⟩⟩
theorem gX6_59 : ∀ q : vw_C, cls8[6]? = some q → Cond.fieldLink RX6 59 (q.2.1 26).1 (q.2.1 26).2.1 (q.2.1 26).2.2.1 ∈ gw := fun q hq => by obtain rfl : q = (RX6, TX6, 40) := (Option.some.inj hq).symm; exact gi 685 _ (by decide +kernel) rfl
theorem fX6_62 : FLK RX6 62 6 27 := ⟨clk6, by decide, fun q hq => by obtain rfl : q = (RX6, TX6, 40) := (Option.some.inj hq).symm; exact ⟨by decide, Or.inl (gi 686 _ (by decide +kernel) rfl)⟩⟩
theorem gX6_62 : ∀ q : vw_C, cls8[6]? = some q → Cond.fieldLink RX6 62 (q.2.1 27).1 (q.2.1 27).2.1 (q.2.1 27).2.2.1 ∈ gw := fun q hq => by obtain rfl : q = (RX6, TX6, 40) := (Option.some.inj hq).symm; exact gi 686 _ (by decide +kernel) rfl
theorem fX6_202 : FLK RX6 202 6 28 := ⟨clk6, by decide, fun q hq => by obtain rfl : q = (RX6, TX6, 40) := (Option.some.inj hq).symm; exact ⟨by decide, Or.inl (gi 687 _ (by decide +kernel) rfl)⟩⟩
theorem fX6_66 : FLK RX6 66 6 29 := ⟨clk6, by decide, fun q hq => by obtain rfl : q = (RX6, TX6, 40) := (Option.some.inj hq).symm; exact ⟨by decide, Or.inl (gi 688 _ (by decide +kernel) rfl)⟩⟩
theorem gX6_66 : ∀ q : vw_C, cls8[6]? = some q → Cond.fieldLink RX6 66 (q.2.1 29).1 (q.2.1 29).2.1 (q.2.1 29).2.2.1 ∈ gw := fun q hq => by obtain rfl : q = (RX6, TX6, 40) := (Option.some.inj hq).symm; exact gi 688 _ (by decide +kernel) rfl
theorem fX6_151 : FLK RX6 151 6 30 := ⟨clk6, by decide, fun q hq => by obtain rfl : q = (RX6, TX6, 40) := (Option.some.inj hq).symm; exact ⟨by decide, Or.inl (gi 689 _ (by decide +kernel) rfl)⟩⟩
theorem fX6_69 : FLK RX6 69 6 31 := ⟨clk6, by decide, fun q hq => by obtain rfl : q = (RX6, TX6, 40) := (Option.some.inj hq).symm; exact ⟨by decide, Or.inl (gi 690 _ (by decide +kernel) rfl)⟩⟩
theorem gX6_69 : ∀ q : vw_C, cls8[6]? = some q → Cond.fieldLink RX6 69 (q.2.1 31).1 (q.2.1 31).2.1 (q.2.1 31).2.2.1 ∈ gw := fun q hq => by obtain rfl : q = (RX6, TX6, 40) := (Option.some.inj hq).symm; exact gi 690 _ (by decide +kernel) rfl
theorem fX6_154 : FLK RX6 154 6 32 := ⟨clk6, by decide, fun q hq => by obtain rfl : q = (RX6, TX6, 40) := (Option.some.inj hq).symm; exact ⟨by decide, Or.inl (gi 691 _ (by decide +kernel) rfl)⟩⟩
theorem fX6_171 : FLK RX6 171 6 33 := ⟨clk6, by decide, fun q hq => by obtain rfl : q = (RX6, TX6, 40) := (Option.some.inj hq).symm; exact ⟨by decide, Or.inl (gi 692 _ (by decide +kernel) rfl)⟩⟩
theorem fX6_148 : FLK RX6 148 6 34 := ⟨clk6, by decide, fun q hq => by obtain rfl : q = (RX6, TX6, 40) := (Option.some.inj hq).symm; exact ⟨by decide, Or.inl (gi 693 _ (by decide +kernel) rfl)⟩⟩
theorem fX6_72 : FLK RX6 72 6 35 := ⟨clk6, by decide, fun q hq => by obtain rfl : q = (RX6, TX6, 40) := (Option.some.inj hq).symm; exact ⟨by decide, Or.inl (gi 694 _ (by decide +kernel) rfl)⟩⟩
theorem gX6_72 : ∀ q : vw_C, cls8[6]? = some q → Cond.fieldLink RX6 72 (q.2.1 35).1 (q.2.1 35).2.1 (q.2.1 35).2.2.1 ∈ gw := fun q hq => by obtain rfl : q = (RX6, TX6, 40) := (Option.some.inj hq).symm; exact gi 694 _ (by decide +kernel) rfl
theorem fX6_75 : FLK RX6 75 6 36 := ⟨clk6, by decide, fun q hq => by obtain rfl : q = (RX6, TX6, 40) := (Option.some.inj hq).symm; exact ⟨by decide, Or.inl (gi 695 _ (by decide +kernel) rfl)⟩⟩
theorem gX6_75 : ∀ q : vw_C, cls8[6]? = some q → Cond.fieldLink RX6 75 (q.2.1 36).1 (q.2.1 36).2.1 (q.2.1 36).2.2.1 ∈ gw := fun q hq => by obtain rfl : q = (RX6, TX6, 40) := (Option.some.inj hq).symm; exact gi 695 _ (by decide +kernel) rfl
theorem fX6_78 : FLK RX6 78 6 37 := ⟨clk6, by decide, fun q hq => by obtain rfl : q = (RX6, TX6, 40) := (Option.some.inj hq).symm; exact ⟨by decide, Or.inl (gi 696 _ (by decide +kernel) rfl)⟩⟩
theorem gX6_78 : ∀ q : vw_C, cls8[6]? = some q → Cond.fieldLink RX6 78 (q.2.1 37).1 (q.2.1 37).2.1 (q.2.1 37).2.2.1 ∈ gw := fun q hq => by obtain rfl : q = (RX6, TX6, 40) := (Option.some.inj hq).symm; exact gi 696 _ (by decide +kernel) rfl
theorem fX6_81 : FLK RX6 81 6 38 := ⟨clk6, by decide, fun q hq => by obtain rfl : q = (RX6, TX6, 40) := (Option.some.inj hq).symm; exact ⟨by decide, Or.inl (gi 697 _ (by decide +kernel) rfl)⟩⟩
theorem gX6_81 : ∀ q : vw_C, cls8[6]? = some q → Cond.fieldLink RX6 81 (q.2.1 38).1 (q.2.1 38).2.1 (q.2.1 38).2.2.1 ∈ gw := fun q hq => by obtain rfl : q = (RX6, TX6, 40) := (Option.some.inj hq).symm; exact gi 697 _ (by decide +kernel) rfl
theorem fX6_84 : FLK RX6 84 6 39 := ⟨clk6, by decide, fun q hq => by obtain rfl : q = (RX6, TX6, 40) := (Option.some.inj hq).symm; exact ⟨by decide, Or.inl (gi 698 _ (by decide +kernel) rfl)⟩⟩
theorem gX6_84 : ∀ q : vw_C, cls8[6]? = some q → Cond.fieldLink RX6 84 (q.2.1 39).1 (q.2.1 39).2.1 (q.2.1 39).2.2.1 ∈ gw := fun q hq => by obtain rfl : q = (RX6, TX6, 40) := (Option.some.inj hq).symm; exact gi 698 _ (by decide +kernel) rfl
theorem ff0_0 : ∀ q : vw_C, cls8[0]? = some q → (q.2.1 0).2.2.2 = true ∧ (q.2.1 0).1 = RX0 ∧ parseFieldDescriptor (q.2.1 0).2.2.1 = some (.array .int) := fun q hq => by obtain rfl : q = (RX0, TX0, 2) := (Option.some.inj hq).symm; exact ⟨rfl, rfl, by decide +kernel⟩
theorem ff0_1 : ∀ q : vw_C, cls8[0]? = some q → (q.2.1 1).2.2.2 = true ∧ (q.2.1 1).1 = RX0 ∧ parseFieldDescriptor (q.2.1 1).2.2.1 = some (.array .int) := fun q hq => by obtain rfl : q = (RX0, TX0, 2) := (Option.some.inj hq).symm; exact ⟨rfl, rfl, by decide +kernel⟩
theorem ff1_0 : ∀ q : vw_C, cls8[1]? = some q → (q.2.1 0).2.2.2 = true ∧ (q.2.1 0).1 = RX1 ∧ parseFieldDescriptor (q.2.1 0).2.2.1 = some (.array .int) := fun q hq => by obtain rfl : q = (RX1, TX1, 4) := (Option.some.inj hq).symm; exact ⟨rfl, rfl, by decide +kernel⟩
theorem ff1_1 : ∀ q : vw_C, cls8[1]? = some q → (q.2.1 1).2.2.2 = true ∧ (q.2.1 1).1 = RX1 ∧ parseFieldDescriptor (q.2.1 1).2.2.1 = some (.array .int) := fun q hq => by obtain rfl : q = (RX1, TX1, 4) := (Option.some.inj hq).symm; exact ⟨rfl, rfl, by decide +kernel⟩
theorem ff1_2 : ∀ q : vw_C, cls8[1]? = some q → (q.2.1 2).2.2.2 = true ∧ (q.2.1 2).1 = RX1 ∧ parseFieldDescriptor (q.2.1 2).2.2.1 = some (.array .int) := fun q hq => by obtain rfl : q = (RX1, TX1, 4) := (Option.some.inj hq).symm; exact ⟨rfl, rfl, by decide +kernel⟩
theorem nf1_3 : ∀ q : vw_C, cls8[1]? = some q → (q.2.1 3).2.2.2 = false ∧ parseFieldDescriptor (q.2.1 3).2.2.1 = some .int := fun q hq => by obtain rfl : q = (RX1, TX1, 4) := (Option.some.inj hq).symm; exact ⟨rfl, by decide +kernel⟩
theorem ff2_0 : ∀ q : vw_C, cls8[2]? = some q → (q.2.1 0).2.2.2 = true ∧ (q.2.1 0).1 = RX2 ∧ parseFieldDescriptor (q.2.1 0).2.2.1 = some (.object "SpreadDesk$Figures") := fun q hq => by obtain rfl : q = (RX2, TX2, 9) := (Option.some.inj hq).symm; exact ⟨rfl, rfl, by decide +kernel⟩
theorem ff2_1 : ∀ q : vw_C, cls8[2]? = some q → (q.2.1 1).2.2.2 = true ∧ (q.2.1 1).1 = RX2 ∧ parseFieldDescriptor (q.2.1 1).2.2.1 = some (.object "SpreadDesk$Tape") := fun q hq => by obtain rfl : q = (RX2, TX2, 9) := (Option.some.inj hq).symm; exact ⟨rfl, rfl, by decide +kernel⟩
theorem ff2_2 : ∀ q : vw_C, cls8[2]? = some q → (q.2.1 2).2.2.2 = true ∧ (q.2.1 2).1 = RX2 ∧ parseFieldDescriptor (q.2.1 2).2.2.1 = some (.array .int) := fun q hq => by obtain rfl : q = (RX2, TX2, 9) := (Option.some.inj hq).symm; exact ⟨rfl, rfl, by decide +kernel⟩
theorem nf2_3 : ∀ q : vw_C, cls8[2]? = some q → (q.2.1 3).2.2.2 = false ∧ parseFieldDescriptor (q.2.1 3).2.2.1 = some .int := fun q hq => by obtain rfl : q = (RX2, TX2, 9) := (Option.some.inj hq).symm; exact ⟨rfl, by decide +kernel⟩
theorem nf2_4 : ∀ q : vw_C, cls8[2]? = some q → (q.2.1 4).2.2.2 = false ∧ parseFieldDescriptor (q.2.1 4).2.2.1 = some .int := fun q hq => by obtain rfl : q = (RX2, TX2, 9) := (Option.some.inj hq).symm; exact ⟨rfl, by decide +kernel⟩
theorem nf2_5 : ∀ q : vw_C, cls8[2]? = some q → (q.2.1 5).2.2.2 = false ∧ parseFieldDescriptor (q.2.1 5).2.2.1 = some .int := fun q hq => by obtain rfl : q = (RX2, TX2, 9) := (Option.some.inj hq).symm; exact ⟨rfl, by decide +kernel⟩
theorem nf2_6 : ∀ q : vw_C, cls8[2]? = some q → (q.2.1 6).2.2.2 = false ∧ parseFieldDescriptor (q.2.1 6).2.2.1 = some .int := fun q hq => by obtain rfl : q = (RX2, TX2, 9) := (Option.some.inj hq).symm; exact ⟨rfl, by decide +kernel⟩
theorem nf2_7 : ∀ q : vw_C, cls8[2]? = some q → (q.2.1 7).2.2.2 = false ∧ parseFieldDescriptor (q.2.1 7).2.2.1 = some .int := fun q hq => by obtain rfl : q = (RX2, TX2, 9) := (Option.some.inj hq).symm; exact ⟨rfl, by decide +kernel⟩
theorem nf2_8 : ∀ q : vw_C, cls8[2]? = some q → (q.2.1 8).2.2.2 = false ∧ parseFieldDescriptor (q.2.1 8).2.2.1 = some .int := fun q hq => by obtain rfl : q = (RX2, TX2, 9) := (Option.some.inj hq).symm; exact ⟨rfl, by decide +kernel⟩
theorem ff3_0 : ∀ q : vw_C, cls8[3]? = some q → (q.2.1 0).2.2.2 = true ∧ (q.2.1 0).1 = RX3 ∧ parseFieldDescriptor (q.2.1 0).2.2.1 = some (.object "SpreadDesk$Tape") := fun q hq => by obtain rfl : q = (RX3, TX3, 6) := (Option.some.inj hq).symm; exact ⟨rfl, rfl, by decide +kernel⟩
theorem ff3_1 : ∀ q : vw_C, cls8[3]? = some q → (q.2.1 1).2.2.2 = true ∧ (q.2.1 1).1 = RX3 ∧ parseFieldDescriptor (q.2.1 1).2.2.1 = some (.object "SpreadDesk$Figures") := fun q hq => by obtain rfl : q = (RX3, TX3, 6) := (Option.some.inj hq).symm; exact ⟨rfl, rfl, by decide +kernel⟩
theorem ff3_2 : ∀ q : vw_C, cls8[3]? = some q → (q.2.1 2).2.2.2 = true ∧ (q.2.1 2).1 = RX3 ∧ parseFieldDescriptor (q.2.1 2).2.2.1 = some (.array .long) := fun q hq => by obtain rfl : q = (RX3, TX3, 6) := (Option.some.inj hq).symm; exact ⟨rfl, rfl, by decide +kernel⟩
theorem ff3_3 : ∀ q : vw_C, cls8[3]? = some q → (q.2.1 3).2.2.2 = true ∧ (q.2.1 3).1 = RX3 ∧ parseFieldDescriptor (q.2.1 3).2.2.1 = some (.array .long) := fun q hq => by obtain rfl : q = (RX3, TX3, 6) := (Option.some.inj hq).symm; exact ⟨rfl, rfl, by decide +kernel⟩
theorem ff3_4 : ∀ q : vw_C, cls8[3]? = some q → (q.2.1 4).2.2.2 = true ∧ (q.2.1 4).1 = RX3 ∧ parseFieldDescriptor (q.2.1 4).2.2.1 = some (.array .long) := fun q hq => by obtain rfl : q = (RX3, TX3, 6) := (Option.some.inj hq).symm; exact ⟨rfl, rfl, by decide +kernel⟩
theorem ff3_5 : ∀ q : vw_C, cls8[3]? = some q → (q.2.1 5).2.2.2 = true ∧ (q.2.1 5).1 = RX3 ∧ parseFieldDescriptor (q.2.1 5).2.2.1 = some (.array .long) := fun q hq => by obtain rfl : q = (RX3, TX3, 6) := (Option.some.inj hq).symm; exact ⟨rfl, rfl, by decide +kernel⟩
theorem ff4_0 : ∀ q : vw_C, cls8[4]? = some q → (q.2.1 0).2.2.2 = true ∧ (q.2.1 0).1 = RX4 ∧ parseFieldDescriptor (q.2.1 0).2.2.1 = some (.array .int) := fun q hq => by obtain rfl : q = (RX4, TX4, 8) := (Option.some.inj hq).symm; exact ⟨rfl, rfl, by decide +kernel⟩
theorem ff4_1 : ∀ q : vw_C, cls8[4]? = some q → (q.2.1 1).2.2.2 = true ∧ (q.2.1 1).1 = RX4 ∧ parseFieldDescriptor (q.2.1 1).2.2.1 = some (.array .int) := fun q hq => by obtain rfl : q = (RX4, TX4, 8) := (Option.some.inj hq).symm; exact ⟨rfl, rfl, by decide +kernel⟩
theorem ff4_2 : ∀ q : vw_C, cls8[4]? = some q → (q.2.1 2).2.2.2 = true ∧ (q.2.1 2).1 = RX4 ∧ parseFieldDescriptor (q.2.1 2).2.2.1 = some (.array .int) := fun q hq => by obtain rfl : q = (RX4, TX4, 8) := (Option.some.inj hq).symm; exact ⟨rfl, rfl, by decide +kernel⟩
theorem ff4_3 : ∀ q : vw_C, cls8[4]? = some q → (q.2.1 3).2.2.2 = true ∧ (q.2.1 3).1 = RX4 ∧ parseFieldDescriptor (q.2.1 3).2.2.1 = some (.array .int) := fun q hq => by obtain rfl : q = (RX4, TX4, 8) := (Option.some.inj hq).symm; exact ⟨rfl, rfl, by decide +kernel⟩
theorem ff4_4 : ∀ q : vw_C, cls8[4]? = some q → (q.2.1 4).2.2.2 = true ∧ (q.2.1 4).1 = RX4 ∧ parseFieldDescriptor (q.2.1 4).2.2.1 = some (.array .int) := fun q hq => by obtain rfl : q = (RX4, TX4, 8) := (Option.some.inj hq).symm; exact ⟨rfl, rfl, by decide +kernel⟩
theorem ff4_5 : ∀ q : vw_C, cls8[4]? = some q → (q.2.1 5).2.2.2 = true ∧ (q.2.1 5).1 = RX4 ∧ parseFieldDescriptor (q.2.1 5).2.2.1 = some (.array .int) := fun q hq => by obtain rfl : q = (RX4, TX4, 8) := (Option.some.inj hq).symm; exact ⟨rfl, rfl, by decide +kernel⟩
theorem nf4_6 : ∀ q : vw_C, cls8[4]? = some q → (q.2.1 6).2.2.2 = false ∧ parseFieldDescriptor (q.2.1 6).2.2.1 = some .int := fun q hq => by obtain rfl : q = (RX4, TX4, 8) := (Option.some.inj hq).symm; exact ⟨rfl, by decide +kernel⟩
theorem nf4_7 : ∀ q : vw_C, cls8[4]? = some q → (q.2.1 7).2.2.2 = false ∧ parseFieldDescriptor (q.2.1 7).2.2.1 = some .int := fun q hq => by obtain rfl : q = (RX4, TX4, 8) := (Option.some.inj hq).symm; exact ⟨rfl, by decide +kernel⟩
theorem ff5_0 : ∀ q : vw_C, cls8[5]? = some q → (q.2.1 0).2.2.2 = true ∧ (q.2.1 0).1 = RX5 ∧ parseFieldDescriptor (q.2.1 0).2.2.1 = some (.object "SpreadDesk$Figures") := fun q hq => by obtain rfl : q = (RX5, TX5, 14) := (Option.some.inj hq).symm; exact ⟨rfl, rfl, by decide +kernel⟩
theorem ff5_1 : ∀ q : vw_C, cls8[5]? = some q → (q.2.1 1).2.2.2 = true ∧ (q.2.1 1).1 = RX5 ∧ parseFieldDescriptor (q.2.1 1).2.2.1 = some (.object "SpreadDesk$Tape") := fun q hq => by obtain rfl : q = (RX5, TX5, 14) := (Option.some.inj hq).symm; exact ⟨rfl, rfl, by decide +kernel⟩
theorem ff5_2 : ∀ q : vw_C, cls8[5]? = some q → (q.2.1 2).2.2.2 = true ∧ (q.2.1 2).1 = RX5 ∧ parseFieldDescriptor (q.2.1 2).2.2.1 = some (.object "SpreadDesk$Reader") := fun q hq => by obtain rfl : q = (RX5, TX5, 14) := (Option.some.inj hq).symm; exact ⟨rfl, rfl, by decide +kernel⟩
theorem ff5_3 : ∀ q : vw_C, cls8[5]? = some q → (q.2.1 3).2.2.2 = true ∧ (q.2.1 3).1 = RX5 ∧ parseFieldDescriptor (q.2.1 3).2.2.1 = some (.object "SpreadDesk$Past") := fun q hq => by obtain rfl : q = (RX5, TX5, 14) := (Option.some.inj hq).symm; exact ⟨rfl, rfl, by decide +kernel⟩
theorem ff5_4 : ∀ q : vw_C, cls8[5]? = some q → (q.2.1 4).2.2.2 = true ∧ (q.2.1 4).1 = RX5 ∧ parseFieldDescriptor (q.2.1 4).2.2.1 = some (.object "SpreadDesk$Sweep") := fun q hq => by obtain rfl : q = (RX5, TX5, 14) := (Option.some.inj hq).symm; exact ⟨rfl, rfl, by decide +kernel⟩
theorem ff5_5 : ∀ q : vw_C, cls8[5]? = some q → (q.2.1 5).2.2.2 = true ∧ (q.2.1 5).1 = RX5 ∧ parseFieldDescriptor (q.2.1 5).2.2.1 = some (.object "SpreadDesk$Figures") := fun q hq => by obtain rfl : q = (RX5, TX5, 14) := (Option.some.inj hq).symm; exact ⟨rfl, rfl, by decide +kernel⟩
theorem ff5_6 : ∀ q : vw_C, cls8[5]? = some q → (q.2.1 6).2.2.2 = true ∧ (q.2.1 6).1 = RX5 ∧ parseFieldDescriptor (q.2.1 6).2.2.1 = some (.object "SpreadDesk$Figures") := fun q hq => by obtain rfl : q = (RX5, TX5, 14) := (Option.some.inj hq).symm; exact ⟨rfl, rfl, by decide +kernel⟩
theorem nf5_7 : ∀ q : vw_C, cls8[5]? = some q → (q.2.1 7).2.2.2 = false ∧ parseFieldDescriptor (q.2.1 7).2.2.1 = some .boolean := fun q hq => by obtain rfl : q = (RX5, TX5, 14) := (Option.some.inj hq).symm; exact ⟨rfl, by decide +kernel⟩
theorem nf5_8 : ∀ q : vw_C, cls8[5]? = some q → (q.2.1 8).2.2.2 = false ∧ parseFieldDescriptor (q.2.1 8).2.2.1 = some .boolean := fun q hq => by obtain rfl : q = (RX5, TX5, 14) := (Option.some.inj hq).symm; exact ⟨rfl, by decide +kernel⟩
theorem ff5_9 : ∀ q : vw_C, cls8[5]? = some q → (q.2.1 9).2.2.2 = true ∧ (q.2.1 9).1 = RX5 ∧ parseFieldDescriptor (q.2.1 9).2.2.1 = some (.array .int) := fun q hq => by obtain rfl : q = (RX5, TX5, 14) := (Option.some.inj hq).symm; exact ⟨rfl, rfl, by decide +kernel⟩
theorem ff5_10 : ∀ q : vw_C, cls8[5]? = some q → (q.2.1 10).2.2.2 = true ∧ (q.2.1 10).1 = RX5 ∧ parseFieldDescriptor (q.2.1 10).2.2.1 = some (.array .long) := fun q hq => by obtain rfl : q = (RX5, TX5, 14) := (Option.some.inj hq).symm; exact ⟨rfl, rfl, by decide +kernel⟩
theorem nf5_11 : ∀ q : vw_C, cls8[5]? = some q → (q.2.1 11).2.2.2 = false ∧ parseFieldDescriptor (q.2.1 11).2.2.1 = some .int := fun q hq => by obtain rfl : q = (RX5, TX5, 14) := (Option.some.inj hq).symm; exact ⟨rfl, by decide +kernel⟩
theorem ff5_12 : ∀ q : vw_C, cls8[5]? = some q → (q.2.1 12).2.2.2 = true ∧ (q.2.1 12).1 = RX5 ∧ parseFieldDescriptor (q.2.1 12).2.2.1 = some (.array .long) := fun q hq => by obtain rfl : q = (RX5, TX5, 14) := (Option.some.inj hq).symm; exact ⟨rfl, rfl, by decide +kernel⟩
theorem ff5_13 : ∀ q : vw_C, cls8[5]? = some q → (q.2.1 13).2.2.2 = true ∧ (q.2.1 13).1 = RX5 ∧ parseFieldDescriptor (q.2.1 13).2.2.1 = some (.array .long) := fun q hq => by obtain rfl : q = (RX5, TX5, 14) := (Option.some.inj hq).symm; exact ⟨rfl, rfl, by decide +kernel⟩
theorem nf6_0 : ∀ q : vw_C, cls8[6]? = some q → (q.2.1 0).2.2.2 = false ∧ parseFieldDescriptor (q.2.1 0).2.2.1 = some .int := fun q hq => by obtain rfl : q = (RX6, TX6, 40) := (Option.some.inj hq).symm; exact ⟨rfl, by decide +kernel⟩
theorem ff6_1 : ∀ q : vw_C, cls8[6]? = some q → (q.2.1 1).2.2.2 = true ∧ (q.2.1 1).1 = RX6 ∧ parseFieldDescriptor (q.2.1 1).2.2.1 = some (.array .int) := fun q hq => by obtain rfl : q = (RX6, TX6, 40) := (Option.some.inj hq).symm; exact ⟨rfl, rfl, by decide +kernel⟩
theorem nf6_2 : ∀ q : vw_C, cls8[6]? = some q → (q.2.1 2).2.2.2 = false ∧ parseFieldDescriptor (q.2.1 2).2.2.1 = some .int := fun q hq => by obtain rfl : q = (RX6, TX6, 40) := (Option.some.inj hq).symm; exact ⟨rfl, by decide +kernel⟩
theorem nf6_3 : ∀ q : vw_C, cls8[6]? = some q → (q.2.1 3).2.2.2 = false ∧ parseFieldDescriptor (q.2.1 3).2.2.1 = some .int := fun q hq => by obtain rfl : q = (RX6, TX6, 40) := (Option.some.inj hq).symm; exact ⟨rfl, by decide +kernel⟩
theorem nf6_4 : ∀ q : vw_C, cls8[6]? = some q → (q.2.1 4).2.2.2 = false ∧ parseFieldDescriptor (q.2.1 4).2.2.1 = some .int := fun q hq => by obtain rfl : q = (RX6, TX6, 40) := (Option.some.inj hq).symm; exact ⟨rfl, by decide +kernel⟩
theorem nf6_5 : ∀ q : vw_C, cls8[6]? = some q → (q.2.1 5).2.2.2 = false ∧ parseFieldDescriptor (q.2.1 5).2.2.1 = some .int := fun q hq => by obtain rfl : q = (RX6, TX6, 40) := (Option.some.inj hq).symm; exact ⟨rfl, by decide +kernel⟩
theorem nf6_6 : ∀ q : vw_C, cls8[6]? = some q → (q.2.1 6).2.2.2 = false ∧ parseFieldDescriptor (q.2.1 6).2.2.1 = some .int := fun q hq => by obtain rfl : q = (RX6, TX6, 40) := (Option.some.inj hq).symm; exact ⟨rfl, by decide +kernel⟩
theorem nf6_7 : ∀ q : vw_C, cls8[6]? = some q → (q.2.1 7).2.2.2 = false ∧ parseFieldDescriptor (q.2.1 7).2.2.1 = some .int := fun q hq => by obtain rfl : q = (RX6, TX6, 40) := (Option.some.inj hq).symm; exact ⟨rfl, by decide +kernel⟩
theorem nf6_8 : ∀ q : vw_C, cls8[6]? = some q → (q.2.1 8).2.2.2 = false ∧ parseFieldDescriptor (q.2.1 8).2.2.1 = some .int := fun q hq => by obtain rfl : q = (RX6, TX6, 40) := (Option.some.inj hq).symm; exact ⟨rfl, by decide +kernel⟩
theorem ff6_9 : ∀ q : vw_C, cls8[6]? = some q → (q.2.1 9).2.2.2 = true ∧ (q.2.1 9).1 = RX6 ∧ parseFieldDescriptor (q.2.1 9).2.2.1 = some (.array .int) := fun q hq => by obtain rfl : q = (RX6, TX6, 40) := (Option.some.inj hq).symm; exact ⟨rfl, rfl, by decide +kernel⟩
theorem ff6_10 : ∀ q : vw_C, cls8[6]? = some q → (q.2.1 10).2.2.2 = true ∧ (q.2.1 10).1 = RX6 ∧ parseFieldDescriptor (q.2.1 10).2.2.1 = some (.array .int) := fun q hq => by obtain rfl : q = (RX6, TX6, 40) := (Option.some.inj hq).symm; exact ⟨rfl, rfl, by decide +kernel⟩
theorem ff6_11 : ∀ q : vw_C, cls8[6]? = some q → (q.2.1 11).2.2.2 = true ∧ (q.2.1 11).1 = RX6 ∧ parseFieldDescriptor (q.2.1 11).2.2.1 = some (.array .int) := fun q hq => by obtain rfl : q = (RX6, TX6, 40) := (Option.some.inj hq).symm; exact ⟨rfl, rfl, by decide +kernel⟩
theorem ff6_12 : ∀ q : vw_C, cls8[6]? = some q → (q.2.1 12).2.2.2 = true ∧ (q.2.1 12).1 = RX6 ∧ parseFieldDescriptor (q.2.1 12).2.2.1 = some (.array .int) := fun q hq => by obtain rfl : q = (RX6, TX6, 40) := (Option.some.inj hq).symm; exact ⟨rfl, rfl, by decide +kernel⟩
theorem ff6_13 : ∀ q : vw_C, cls8[6]? = some q → (q.2.1 13).2.2.2 = true ∧ (q.2.1 13).1 = RX6 ∧ parseFieldDescriptor (q.2.1 13).2.2.1 = some (.array .int) := fun q hq => by obtain rfl : q = (RX6, TX6, 40) := (Option.some.inj hq).symm; exact ⟨rfl, rfl, by decide +kernel⟩
theorem nf6_14 : ∀ q : vw_C, cls8[6]? = some q → (q.2.1 14).2.2.2 = false ∧ parseFieldDescriptor (q.2.1 14).2.2.1 = some .int := fun q hq => by obtain rfl : q = (RX6, TX6, 40) := (Option.some.inj hq).symm; exact ⟨rfl, by decide +kernel⟩
theorem ff6_15 : ∀ q : vw_C, cls8[6]? = some q → (q.2.1 15).2.2.2 = true ∧ (q.2.1 15).1 = RX6 ∧ parseFieldDescriptor (q.2.1 15).2.2.1 = some (.array .int) := fun q hq => by obtain rfl : q = (RX6, TX6, 40) := (Option.some.inj hq).symm; exact ⟨rfl, rfl, by decide +kernel⟩
theorem ff6_16 : ∀ q : vw_C, cls8[6]? = some q → (q.2.1 16).2.2.2 = true ∧ (q.2.1 16).1 = RX6 ∧ parseFieldDescriptor (q.2.1 16).2.2.1 = some (.array .int) := fun q hq => by obtain rfl : q = (RX6, TX6, 40) := (Option.some.inj hq).symm; exact ⟨rfl, rfl, by decide +kernel⟩
theorem ff6_17 : ∀ q : vw_C, cls8[6]? = some q → (q.2.1 17).2.2.2 = true ∧ (q.2.1 17).1 = RX6 ∧ parseFieldDescriptor (q.2.1 17).2.2.1 = some (.array .int) := fun q hq => by obtain rfl : q = (RX6, TX6, 40) := (Option.some.inj hq).symm; exact ⟨rfl, rfl, by decide +kernel⟩
theorem ff6_18 : ∀ q : vw_C, cls8[6]? = some q → (q.2.1 18).2.2.2 = true ∧ (q.2.1 18).1 = RX6 ∧ parseFieldDescriptor (q.2.1 18).2.2.1 = some (.array .int) := fun q hq => by obtain rfl : q = (RX6, TX6, 40) := (Option.some.inj hq).symm; exact ⟨rfl, rfl, by decide +kernel⟩
theorem ff6_19 : ∀ q : vw_C, cls8[6]? = some q → (q.2.1 19).2.2.2 = true ∧ (q.2.1 19).1 = RX6 ∧ parseFieldDescriptor (q.2.1 19).2.2.1 = some (.array .int) := fun q hq => by obtain rfl : q = (RX6, TX6, 40) := (Option.some.inj hq).symm; exact ⟨rfl, rfl, by decide +kernel⟩
theorem ff6_20 : ∀ q : vw_C, cls8[6]? = some q → (q.2.1 20).2.2.2 = true ∧ (q.2.1 20).1 = RX6 ∧ parseFieldDescriptor (q.2.1 20).2.2.1 = some (.array .int) := fun q hq => by obtain rfl : q = (RX6, TX6, 40) := (Option.some.inj hq).symm; exact ⟨rfl, rfl, by decide +kernel⟩
theorem ff6_21 : ∀ q : vw_C, cls8[6]? = some q → (q.2.1 21).2.2.2 = true ∧ (q.2.1 21).1 = RX6 ∧ parseFieldDescriptor (q.2.1 21).2.2.1 = some (.array .int) := fun q hq => by obtain rfl : q = (RX6, TX6, 40) := (Option.some.inj hq).symm; exact ⟨rfl, rfl, by decide +kernel⟩
theorem ff6_22 : ∀ q : vw_C, cls8[6]? = some q → (q.2.1 22).2.2.2 = true ∧ (q.2.1 22).1 = RX6 ∧ parseFieldDescriptor (q.2.1 22).2.2.1 = some (.array .int) := fun q hq => by obtain rfl : q = (RX6, TX6, 40) := (Option.some.inj hq).symm; exact ⟨rfl, rfl, by decide +kernel⟩
theorem nf6_23 : ∀ q : vw_C, cls8[6]? = some q → (q.2.1 23).2.2.2 = false ∧ parseFieldDescriptor (q.2.1 23).2.2.1 = some .int := fun q hq => by obtain rfl : q = (RX6, TX6, 40) := (Option.some.inj hq).symm; exact ⟨rfl, by decide +kernel⟩
theorem ff6_24 : ∀ q : vw_C, cls8[6]? = some q → (q.2.1 24).2.2.2 = true ∧ (q.2.1 24).1 = RX6 ∧ parseFieldDescriptor (q.2.1 24).2.2.1 = some (.array .int) := fun q hq => by obtain rfl : q = (RX6, TX6, 40) := (Option.some.inj hq).symm; exact ⟨rfl, rfl, by decide +kernel⟩
theorem ff6_25 : ∀ q : vw_C, cls8[6]? = some q → (q.2.1 25).2.2.2 = true ∧ (q.2.1 25).1 = RX6 ∧ parseFieldDescriptor (q.2.1 25).2.2.1 = some (.array .boolean) := fun q hq => by obtain rfl : q = (RX6, TX6, 40) := (Option.some.inj hq).symm; exact ⟨rfl, rfl, by decide +kernel⟩
theorem ff6_26 : ∀ q : vw_C, cls8[6]? = some q → (q.2.1 26).2.2.2 = true ∧ (q.2.1 26).1 = RX6 ∧ parseFieldDescriptor (q.2.1 26).2.2.1 = some (.array .int) := fun q hq => by obtain rfl : q = (RX6, TX6, 40) := (Option.some.inj hq).symm; exact ⟨rfl, rfl, by decide +kernel⟩
theorem ff6_27 : ∀ q : vw_C, cls8[6]? = some q → (q.2.1 27).2.2.2 = true ∧ (q.2.1 27).1 = RX6 ∧ parseFieldDescriptor (q.2.1 27).2.2.1 = some (.array .long) := fun q hq => by obtain rfl : q = (RX6, TX6, 40) := (Option.some.inj hq).symm; exact ⟨rfl, rfl, by decide +kernel⟩
theorem nf6_28 : ∀ q : vw_C, cls8[6]? = some q → (q.2.1 28).2.2.2 = false ∧ parseFieldDescriptor (q.2.1 28).2.2.1 = some .int := fun q hq => by obtain rfl : q = (RX6, TX6, 40) := (Option.some.inj hq).symm; exact ⟨rfl, by decide +kernel⟩
theorem ff6_29 : ∀ q : vw_C, cls8[6]? = some q → (q.2.1 29).2.2.2 = true ∧ (q.2.1 29).1 = RX6 ∧ parseFieldDescriptor (q.2.1 29).2.2.1 = some (.array .int) := fun q hq => by obtain rfl : q = (RX6, TX6, 40) := (Option.some.inj hq).symm; exact ⟨rfl, rfl, by decide +kernel⟩
theorem nf6_30 : ∀ q : vw_C, cls8[6]? = some q → (q.2.1 30).2.2.2 = false ∧ parseFieldDescriptor (q.2.1 30).2.2.1 = some .int := fun q hq => by obtain rfl : q = (RX6, TX6, 40) := (Option.some.inj hq).symm; exact ⟨rfl, by decide +kernel⟩
theorem ff6_31 : ∀ q : vw_C, cls8[6]? = some q → (q.2.1 31).2.2.2 = true ∧ (q.2.1 31).1 = RX6 ∧ parseFieldDescriptor (q.2.1 31).2.2.1 = some (.array .int) := fun q hq => by obtain rfl : q = (RX6, TX6, 40) := (Option.some.inj hq).symm; exact ⟨rfl, rfl, by decide +kernel⟩
theorem nf6_32 : ∀ q : vw_C, cls8[6]? = some q → (q.2.1 32).2.2.2 = false ∧ parseFieldDescriptor (q.2.1 32).2.2.1 = some .int := fun q hq => by obtain rfl : q = (RX6, TX6, 40) := (Option.some.inj hq).symm; exact ⟨rfl, by decide +kernel⟩
theorem nf6_33 : ∀ q : vw_C, cls8[6]? = some q → (q.2.1 33).2.2.2 = false ∧ parseFieldDescriptor (q.2.1 33).2.2.1 = some .int := fun q hq => by obtain rfl : q = (RX6, TX6, 40) := (Option.some.inj hq).symm; exact ⟨rfl, by decide +kernel⟩
theorem nf6_34 : ∀ q : vw_C, cls8[6]? = some q → (q.2.1 34).2.2.2 = false ∧ parseFieldDescriptor (q.2.1 34).2.2.1 = some .int := fun q hq => by obtain rfl : q = (RX6, TX6, 40) := (Option.some.inj hq).symm; exact ⟨rfl, by decide +kernel⟩
theorem ff6_35 : ∀ q : vw_C, cls8[6]? = some q → (q.2.1 35).2.2.2 = true ∧ (q.2.1 35).1 = RX6 ∧ parseFieldDescriptor (q.2.1 35).2.2.1 = some (.array .long) := fun q hq => by obtain rfl : q = (RX6, TX6, 40) := (Option.some.inj hq).symm; exact ⟨rfl, rfl, by decide +kernel⟩
theorem ff6_36 : ∀ q : vw_C, cls8[6]? = some q → (q.2.1 36).2.2.2 = true ∧ (q.2.1 36).1 = RX6 ∧ parseFieldDescriptor (q.2.1 36).2.2.1 = some (.array .long) := fun q hq => by obtain rfl : q = (RX6, TX6, 40) := (Option.some.inj hq).symm; exact ⟨rfl, rfl, by decide +kernel⟩
theorem ff6_37 : ∀ q : vw_C, cls8[6]? = some q → (q.2.1 37).2.2.2 = true ∧ (q.2.1 37).1 = RX6 ∧ parseFieldDescriptor (q.2.1 37).2.2.1 = some (.array .long) := fun q hq => by obtain rfl : q = (RX6, TX6, 40) := (Option.some.inj hq).symm; exact ⟨rfl, rfl, by decide +kernel⟩
theorem ff6_38 : ∀ q : vw_C, cls8[6]? = some q → (q.2.1 38).2.2.2 = true ∧ (q.2.1 38).1 = RX6 ∧ parseFieldDescriptor (q.2.1 38).2.2.1 = some (.array .int) := fun q hq => by obtain rfl : q = (RX6, TX6, 40) := (Option.some.inj hq).symm; exact ⟨rfl, rfl, by decide +kernel⟩
theorem ff6_39 : ∀ q : vw_C, cls8[6]? = some q → (q.2.1 39).2.2.2 = true ∧ (q.2.1 39).1 = RX6 ∧ parseFieldDescriptor (q.2.1 39).2.2.1 = some (.array .int) := fun q hq => by obtain rfl : q = (RX6, TX6, 40) := (Option.some.inj hq).symm; exact ⟨rfl, rfl, by decide +kernel⟩
theorem clL_7 : Cond.classLink RL 7 RX5 ∈ gw := gi 73 _ (by decide +kernel) rfl
theorem lkL_9 : ILK RL 9 yX5_init := ⟨gi 75 _ (by decide +kernel) rfl, gi 76 _ (by decide +kernel) rfl, rfl⟩
theorem lkX5_3 : Cond.methodLink RX5 3 objectInit ∈ gw := gi 78 _ (by decide +kernel) rfl
theorem clX5_9 : Cond.classLink RX5 9 RX0 ∈ gw := gi 81 _ (by decide +kernel) rfl
theorem lkX5_11 : ILK RX5 11 yX0_init := ⟨gi 83 _ (by decide +kernel) rfl, gi 84 _ (by decide +kernel) rfl, rfl⟩
theorem lkX0_3 : Cond.methodLink RX0 3 objectInit ∈ gw := gi 86 _ (by decide +kernel) rfl
theorem clX5_16 : Cond.classLink RX5 16 RX4 ∈ gw := gi 95 _ (by decide +kernel) rfl
theorem lkX5_18 : ILK RX5 18 yX4_init := ⟨gi 97 _ (by decide +kernel) rfl, gi 98 _ (by decide +kernel) rfl, rfl⟩
theorem lkX4_3 : Cond.methodLink RX4 3 objectInit ∈ gw := gi 100 _ (by decide +kernel) rfl
theorem clX5_23 : Cond.classLink RX5 23 RX2 ∈ gw := gi 129 _ (by decide +kernel) rfl
theorem lkX5_25 : ILK RX5 25 yX2_init := ⟨gi 131 _ (by decide +kernel) rfl, gi 132 _ (by decide +kernel) rfl, rfl⟩
theorem lkX2_3 : Cond.methodLink RX2 3 objectInit ∈ gw := gi 134 _ (by decide +kernel) rfl
theorem clX2_9 : Cond.classLink RX2 9 RX0 ∈ gw := gi 135 _ (by decide +kernel) rfl
theorem lkX2_11 : ILK RX2 11 yX0_init := ⟨gi 136 _ (by decide +kernel) rfl, gi 84 _ (by decide +kernel) rfl, rfl⟩
theorem clX2_18 : Cond.classLink RX2 18 RX4 ∈ gw := gi 137 _ (by decide +kernel) rfl
theorem lkX2_20 : ILK RX2 20 yX4_init := ⟨gi 138 _ (by decide +kernel) rfl, gi 98 _ (by decide +kernel) rfl, rfl⟩
theorem clX5_30 : Cond.classLink RX5 30 RX1 ∈ gw := gi 169 _ (by decide +kernel) rfl
theorem lkX5_32 : ILK RX5 32 yX1_init := ⟨gi 171 _ (by decide +kernel) rfl, gi 172 _ (by decide +kernel) rfl, rfl⟩
theorem lkX1_3 : Cond.methodLink RX1 3 objectInit ∈ gw := gi 174 _ (by decide +kernel) rfl
theorem clX5_37 : Cond.classLink RX5 37 RX3 ∈ gw := gi 188 _ (by decide +kernel) rfl
theorem lkX5_39 : ILK RX5 39 yX3_init := ⟨gi 190 _ (by decide +kernel) rfl, gi 191 _ (by decide +kernel) rfl, rfl⟩
theorem lkX3_3 : Cond.methodLink RX3 3 objectInit ∈ gw := gi 193 _ (by decide +kernel) rfl
theorem lkL_13 : VLK RL 13 yX5_type := ⟨gi 257 _ (by decide +kernel) rfl, gi 258 _ (by decide +kernel) rfl, gi 259 _ (by decide +kernel) rfl⟩
theorem lkX5_66 : VLK RX5 66 yX2_add := ⟨gi 261 _ (by decide +kernel) rfl, gi 262 _ (by decide +kernel) rfl, gi 263 _ (by decide +kernel) rfl⟩
theorem lkX5_70 : VLK RX5 70 yX2_letters := ⟨gi 265 _ (by decide +kernel) rfl, gi 266 _ (by decide +kernel) rfl, gi 267 _ (by decide +kernel) rfl⟩
theorem lkL_18 : VLK RL 18 yX5_clear := ⟨gi 269 _ (by decide +kernel) rfl, gi 270 _ (by decide +kernel) rfl, gi 271 _ (by decide +kernel) rfl⟩
theorem lkX5_74 : VLK RX5 74 yX2_drop := ⟨gi 273 _ (by decide +kernel) rfl, gi 274 _ (by decide +kernel) rfl, gi 275 _ (by decide +kernel) rfl⟩
theorem lkL_23 : VLK RL 23 yX5_desk := ⟨gi 277 _ (by decide +kernel) rfl, gi 278 _ (by decide +kernel) rfl, gi 279 _ (by decide +kernel) rfl⟩
theorem lkX5_77 : VLK RX5 77 yX2_read := ⟨gi 281 _ (by decide +kernel) rfl, gi 282 _ (by decide +kernel) rfl, gi 283 _ (by decide +kernel) rfl⟩
theorem lkX2_33 : VLK RX2 33 yX0_reset := ⟨gi 285 _ (by decide +kernel) rfl, gi 286 _ (by decide +kernel) rfl, gi 287 _ (by decide +kernel) rfl⟩
theorem lkX2_36 : VLK RX2 36 yX4_reset := ⟨gi 289 _ (by decide +kernel) rfl, gi 290 _ (by decide +kernel) rfl, gi 291 _ (by decide +kernel) rfl⟩
theorem lkX2_40 : VLK RX2 40 yX2_pass := ⟨gi 293 _ (by decide +kernel) rfl, gi 295 _ (by decide +kernel) rfl, gi 0 _ (by decide +kernel) rfl⟩
theorem lkX2_134 : SLK RX2 134 yX2_isDigit := ⟨gi 297 _ (by decide +kernel) rfl, gi 298 _ (by decide +kernel) rfl⟩
theorem lkX2_137 : VLK RX2 137 yX2_passDigits := ⟨gi 300 _ (by decide +kernel) rfl, gi 302 _ (by decide +kernel) rfl, gi 1 _ (by decide +kernel) rfl⟩
theorem lkX2_46 : VLK RX2 46 yX2_readItem := ⟨gi 304 _ (by decide +kernel) rfl, gi 306 _ (by decide +kernel) rfl, gi 2 _ (by decide +kernel) rfl⟩
theorem lkX2_53 : VLK RX2 53 yX2_readSource := ⟨gi 308 _ (by decide +kernel) rfl, gi 310 _ (by decide +kernel) rfl, gi 3 _ (by decide +kernel) rfl⟩
theorem lkX2_62 : VLK RX2 62 yX2_sourceAtHand := ⟨gi 312 _ (by decide +kernel) rfl, gi 314 _ (by decide +kernel) rfl, gi 4 _ (by decide +kernel) rfl⟩
theorem lkX2_66 : SNK RX2 66 yX5_isSource := ⟨⟨"SpreadDesk", by decide +kernel⟩, gi 317 _ (by decide +kernel) rfl⟩
theorem lkX2_70 : VLK RX2 70 yX2_passSign := ⟨gi 319 _ (by decide +kernel) rfl, gi 321 _ (by decide +kernel) rfl, gi 5 _ (by decide +kernel) rfl⟩
theorem lkX2_76 : VLK RX2 76 yX0_setWorth := ⟨gi 323 _ (by decide +kernel) rfl, gi 324 _ (by decide +kernel) rfl, gi 325 _ (by decide +kernel) rfl⟩
theorem lkX0_18 : SNK RX0 18 yX5_isSource := ⟨⟨"SpreadDesk", by decide +kernel⟩, gi 317 _ (by decide +kernel) rfl⟩
theorem lkX2_80 : VLK RX2 80 yX0_setSpread := ⟨gi 328 _ (by decide +kernel) rfl, gi 329 _ (by decide +kernel) rfl, gi 330 _ (by decide +kernel) rfl⟩
theorem lkX2_56 : VLK RX2 56 yX2_readJoint := ⟨gi 332 _ (by decide +kernel) rfl, gi 334 _ (by decide +kernel) rfl, gi 6 _ (by decide +kernel) rfl⟩
theorem lkX2_59 : VLK RX2 59 yX2_readFormula := ⟨gi 336 _ (by decide +kernel) rfl, gi 338 _ (by decide +kernel) rfl, gi 7 _ (by decide +kernel) rfl⟩
theorem lkX2_84 : VLK RX2 84 yX4_formulas := ⟨gi 340 _ (by decide +kernel) rfl, gi 341 _ (by decide +kernel) rfl, gi 342 _ (by decide +kernel) rfl⟩
theorem lkX2_90 : VLK RX2 90 yX2_readSum := ⟨gi 344 _ (by decide +kernel) rfl, gi 346 _ (by decide +kernel) rfl, gi 8 _ (by decide +kernel) rfl⟩
theorem lkX2_97 : VLK RX2 97 yX2_readProduct := ⟨gi 348 _ (by decide +kernel) rfl, gi 350 _ (by decide +kernel) rfl, gi 9 _ (by decide +kernel) rfl⟩
theorem lkX2_107 : VLK RX2 107 yX2_readPower := ⟨gi 352 _ (by decide +kernel) rfl, gi 354 _ (by decide +kernel) rfl, gi 10 _ (by decide +kernel) rfl⟩
theorem lkX2_110 : VLK RX2 110 yX2_readPart := ⟨gi 356 _ (by decide +kernel) rfl, gi 358 _ (by decide +kernel) rfl, gi 11 _ (by decide +kernel) rfl⟩
theorem lkX2_100 : VLK RX2 100 yX2_countNode := ⟨gi 360 _ (by decide +kernel) rfl, gi 362 _ (by decide +kernel) rfl, gi 12 _ (by decide +kernel) rfl⟩
theorem lkX2_116 : VLK RX2 116 yX2_readBarePart := ⟨gi 364 _ (by decide +kernel) rfl, gi 366 _ (by decide +kernel) rfl, gi 13 _ (by decide +kernel) rfl⟩
theorem lkX2_119 : VLK RX2 119 yX2_readInner := ⟨gi 368 _ (by decide +kernel) rfl, gi 370 _ (by decide +kernel) rfl, gi 14 _ (by decide +kernel) rfl⟩
theorem lkX2_122 : VLK RX2 122 yX2_readEarlier := ⟨gi 372 _ (by decide +kernel) rfl, gi 374 _ (by decide +kernel) rfl, gi 15 _ (by decide +kernel) rfl⟩
theorem lkX2_131 : VLK RX2 131 yX4_root := ⟨gi 376 _ (by decide +kernel) rfl, gi 377 _ (by decide +kernel) rfl, gi 378 _ (by decide +kernel) rfl⟩
theorem lkX4_34 : VLK RX4 34 yX4_stop := ⟨gi 380 _ (by decide +kernel) rfl, gi 381 _ (by decide +kernel) rfl, gi 382 _ (by decide +kernel) rfl⟩
theorem lkX2_113 : VLK RX2 113 yX4_addOver := ⟨gi 384 _ (by decide +kernel) rfl, gi 385 _ (by decide +kernel) rfl, gi 386 _ (by decide +kernel) rfl⟩
theorem lkX4_44 : VLK RX4 44 yX4_steps := ⟨gi 388 _ (by decide +kernel) rfl, gi 389 _ (by decide +kernel) rfl, gi 390 _ (by decide +kernel) rfl⟩
theorem lkX4_46 : VLK RX4 46 yX4_names := ⟨gi 392 _ (by decide +kernel) rfl, gi 393 _ (by decide +kernel) rfl, gi 394 _ (by decide +kernel) rfl⟩
theorem lkX4_40 : VLK RX4 40 yX4_add := ⟨gi 396 _ (by decide +kernel) rfl, gi 398 _ (by decide +kernel) rfl, gi 16 _ (by decide +kernel) rfl⟩
theorem lkX2_125 : VLK RX2 125 yX4_addNumber := ⟨gi 400 _ (by decide +kernel) rfl, gi 401 _ (by decide +kernel) rfl, gi 402 _ (by decide +kernel) rfl⟩
theorem lkX2_128 : VLK RX2 128 yX4_addSource := ⟨gi 404 _ (by decide +kernel) rfl, gi 405 _ (by decide +kernel) rfl, gi 406 _ (by decide +kernel) rfl⟩
theorem lkX2_103 : VLK RX2 103 yX4_addBoth := ⟨gi 408 _ (by decide +kernel) rfl, gi 409 _ (by decide +kernel) rfl, gi 410 _ (by decide +kernel) rfl⟩
theorem lkX2_94 : VLK RX2 94 yX4_endFormula := ⟨gi 412 _ (by decide +kernel) rfl, gi 413 _ (by decide +kernel) rfl, gi 414 _ (by decide +kernel) rfl⟩
theorem lkX5_81 : VLK RX5 81 yX0_take := ⟨gi 416 _ (by decide +kernel) rfl, gi 417 _ (by decide +kernel) rfl, gi 418 _ (by decide +kernel) rfl⟩
theorem lkX5_86 : VLK RX5 86 yX4_take := ⟨gi 420 _ (by decide +kernel) rfl, gi 421 _ (by decide +kernel) rfl, gi 422 _ (by decide +kernel) rfl⟩
theorem lkX5_89 : VLK RX5 89 yX1_lose := ⟨gi 424 _ (by decide +kernel) rfl, gi 425 _ (by decide +kernel) rfl, gi 426 _ (by decide +kernel) rfl⟩
theorem lkL_27 : VLK RL 27 yX5_source := ⟨gi 428 _ (by decide +kernel) rfl, gi 429 _ (by decide +kernel) rfl, gi 430 _ (by decide +kernel) rfl⟩
theorem lkX5_103 : SLK RX5 103 yX5_isSource := ⟨gi 432 _ (by decide +kernel) rfl, gi 317 _ (by decide +kernel) rfl⟩
theorem kX5_106 : Cond.constantLong RX5 106 (-9000000000000000000 : Int64) ∈ gw := gi 433 _ (by decide +kernel) rfl
theorem lkX5_108 : VLK RX5 108 yX0_worth := ⟨gi 434 _ (by decide +kernel) rfl, gi 435 _ (by decide +kernel) rfl, gi 436 _ (by decide +kernel) rfl⟩
theorem lkX5_112 : VLK RX5 112 yX0_spread := ⟨gi 438 _ (by decide +kernel) rfl, gi 439 _ (by decide +kernel) rfl, gi 440 _ (by decide +kernel) rfl⟩
theorem lkL_32 : VLK RL 32 yX5_joint := ⟨gi 442 _ (by decide +kernel) rfl, gi 443 _ (by decide +kernel) rfl, gi 444 _ (by decide +kernel) rfl⟩
theorem lkL_36 : VLK RL 36 yX5_values := ⟨gi 446 _ (by decide +kernel) rfl, gi 447 _ (by decide +kernel) rfl, gi 448 _ (by decide +kernel) rfl⟩
theorem lkX5_116 : VLK RX5 116 yX1_add := ⟨gi 450 _ (by decide +kernel) rfl, gi 451 _ (by decide +kernel) rfl, gi 452 _ (by decide +kernel) rfl⟩
theorem lkX1_25 : VLK RX1 25 yX1_loseOldest := ⟨gi 454 _ (by decide +kernel) rfl, gi 456 _ (by decide +kernel) rfl, gi 17 _ (by decide +kernel) rfl⟩
theorem lkX5_119 : VLK RX5 119 yX0_setWorth := ⟨gi 458 _ (by decide +kernel) rfl, gi 324 _ (by decide +kernel) rfl, gi 325 _ (by decide +kernel) rfl⟩
theorem lkL_41 : VLK RL 41 yX5_spreads := ⟨gi 459 _ (by decide +kernel) rfl, gi 460 _ (by decide +kernel) rfl, gi 461 _ (by decide +kernel) rfl⟩
theorem lkX5_123 : VLK RX5 123 yX0_setSpread := ⟨gi 463 _ (by decide +kernel) rfl, gi 329 _ (by decide +kernel) rfl, gi 330 _ (by decide +kernel) rfl⟩
theorem lkL_45 : VLK RL 45 yX5_joints := ⟨gi 464 _ (by decide +kernel) rfl, gi 465 _ (by decide +kernel) rfl, gi 466 _ (by decide +kernel) rfl⟩
theorem lkL_50 : VLK RL 50 yX5_undo := ⟨gi 468 _ (by decide +kernel) rfl, gi 469 _ (by decide +kernel) rfl, gi 470 _ (by decide +kernel) rfl⟩
theorem lkX5_126 : VLK RX5 126 yX1_takeBack := ⟨gi 472 _ (by decide +kernel) rfl, gi 473 _ (by decide +kernel) rfl, gi 474 _ (by decide +kernel) rfl⟩
theorem lkX1_28 : VLK RX1 28 yX0_setWorth := ⟨gi 476 _ (by decide +kernel) rfl, gi 324 _ (by decide +kernel) rfl, gi 325 _ (by decide +kernel) rfl⟩
theorem lkX1_34 : VLK RX1 34 yX0_setSpread := ⟨gi 477 _ (by decide +kernel) rfl, gi 329 _ (by decide +kernel) rfl, gi 330 _ (by decide +kernel) rfl⟩
theorem lkX5_130 : VLK RX5 130 yX1_known := ⟨gi 478 _ (by decide +kernel) rfl, gi 479 _ (by decide +kernel) rfl, gi 480 _ (by decide +kernel) rfl⟩
theorem lkL_54 : VLK RL 54 yX5_value := ⟨gi 482 _ (by decide +kernel) rfl, gi 483 _ (by decide +kernel) rfl, gi 484 _ (by decide +kernel) rfl⟩
theorem lkX5_133 : VLK RX5 133 yX5_isTold := ⟨gi 486 _ (by decide +kernel) rfl, gi 488 _ (by decide +kernel) rfl, gi 18 _ (by decide +kernel) rfl⟩
theorem lkX5_177 : VLK RX5 177 yX4_formulas := ⟨gi 490 _ (by decide +kernel) rfl, gi 341 _ (by decide +kernel) rfl, gi 342 _ (by decide +kernel) rfl⟩
theorem lkX5_136 : VLK RX5 136 yX3_worth := ⟨gi 491 _ (by decide +kernel) rfl, gi 492 _ (by decide +kernel) rfl, gi 493 _ (by decide +kernel) rfl⟩
theorem lkX3_32 : VLK RX3 32 yX4_stop := ⟨gi 495 _ (by decide +kernel) rfl, gi 381 _ (by decide +kernel) rfl, gi 382 _ (by decide +kernel) rfl⟩
theorem lkX3_38 : VLK RX3 38 yX3_walkWorth := ⟨gi 496 _ (by decide +kernel) rfl, gi 498 _ (by decide +kernel) rfl, gi 19 _ (by decide +kernel) rfl⟩
theorem lkX3_57 : VLK RX3 57 yX3_worthOf := ⟨gi 500 _ (by decide +kernel) rfl, gi 502 _ (by decide +kernel) rfl, gi 20 _ (by decide +kernel) rfl⟩
theorem lkX3_71 : VLK RX3 71 yX0_worth := ⟨gi 504 _ (by decide +kernel) rfl, gi 435 _ (by decide +kernel) rfl, gi 436 _ (by decide +kernel) rfl⟩
theorem lkX3_45 : SLK RX3 45 yX3_at := ⟨gi 505 _ (by decide +kernel) rfl, gi 506 _ (by decide +kernel) rfl⟩
theorem lkX3_75 : SLK RX3 75 yX3_power := ⟨gi 508 _ (by decide +kernel) rfl, gi 509 _ (by decide +kernel) rfl⟩
theorem lkX3_42 : VLK RX3 42 yX4_root := ⟨gi 511 _ (by decide +kernel) rfl, gi 377 _ (by decide +kernel) rfl, gi 378 _ (by decide +kernel) rfl⟩
theorem lkL_59 : VLK RL 59 yX5_slope := ⟨gi 512 _ (by decide +kernel) rfl, gi 513 _ (by decide +kernel) rfl, gi 514 _ (by decide +kernel) rfl⟩
theorem lkX5_139 : VLK RX5 139 yX3_slopeBy := ⟨gi 516 _ (by decide +kernel) rfl, gi 517 _ (by decide +kernel) rfl, gi 518 _ (by decide +kernel) rfl⟩
theorem lkX3_49 : VLK RX3 49 yX3_walkSlope := ⟨gi 520 _ (by decide +kernel) rfl, gi 522 _ (by decide +kernel) rfl, gi 21 _ (by decide +kernel) rfl⟩
theorem lkX3_79 : VLK RX3 79 yX3_slopeOf := ⟨gi 524 _ (by decide +kernel) rfl, gi 526 _ (by decide +kernel) rfl, gi 22 _ (by decide +kernel) rfl⟩
theorem lkL_63 : VLK RL 63 yX5_bend := ⟨gi 528 _ (by decide +kernel) rfl, gi 529 _ (by decide +kernel) rfl, gi 530 _ (by decide +kernel) rfl⟩
theorem lkX5_143 : VLK RX5 143 yX3_bendBy := ⟨gi 532 _ (by decide +kernel) rfl, gi 533 _ (by decide +kernel) rfl, gi 534 _ (by decide +kernel) rfl⟩
theorem lkX3_53 : VLK RX3 53 yX3_walkBend := ⟨gi 536 _ (by decide +kernel) rfl, gi 538 _ (by decide +kernel) rfl, gi 23 _ (by decide +kernel) rfl⟩
theorem lkX3_83 : VLK RX3 83 yX3_bendOf := ⟨gi 540 _ (by decide +kernel) rfl, gi 542 _ (by decide +kernel) rfl, gi 24 _ (by decide +kernel) rfl⟩
theorem lkL_68 : VLK RL 68 yX5_whole := ⟨gi 544 _ (by decide +kernel) rfl, gi 545 _ (by decide +kernel) rfl, gi 546 _ (by decide +kernel) rfl⟩
theorem lkX5_146 : VLK RX5 146 yX5_remains := ⟨gi 548 _ (by decide +kernel) rfl, gi 550 _ (by decide +kernel) rfl, gi 25 _ (by decide +kernel) rfl⟩
theorem lkX5_149 : VLK RX5 149 yX3_slopesInto := ⟨gi 552 _ (by decide +kernel) rfl, gi 553 _ (by decide +kernel) rfl, gi 554 _ (by decide +kernel) rfl⟩
theorem lkX5_153 : VLK RX5 153 yX5_product := ⟨gi 556 _ (by decide +kernel) rfl, gi 558 _ (by decide +kernel) rfl, gi 26 _ (by decide +kernel) rfl⟩
theorem lkX5_157 : VLK RX5 157 yX5_part := ⟨gi 560 _ (by decide +kernel) rfl, gi 562 _ (by decide +kernel) rfl, gi 27 _ (by decide +kernel) rfl⟩
theorem lkL_72 : VLK RL 72 yX5_together := ⟨gi 564 _ (by decide +kernel) rfl, gi 565 _ (by decide +kernel) rfl, gi 566 _ (by decide +kernel) rfl⟩
theorem lkL_76 : VLK RL 76 yX5_share := ⟨gi 568 _ (by decide +kernel) rfl, gi 569 _ (by decide +kernel) rfl, gi 570 _ (by decide +kernel) rfl⟩
theorem lkL_80 : VLK RL 80 yX5_left := ⟨gi 572 _ (by decide +kernel) rfl, gi 573 _ (by decide +kernel) rfl, gi 574 _ (by decide +kernel) rfl⟩
theorem lkL_86 : VLK RL 86 yX5_fewest := ⟨gi 576 _ (by decide +kernel) rfl, gi 577 _ (by decide +kernel) rfl, gi 578 _ (by decide +kernel) rfl⟩
theorem lkX5_161 : SLK RX5 161 yJ6_bitCount_0f7a4 := ⟨gi 580 _ (by decide +kernel) rfl, gi 581 _ (by decide +kernel) rfl⟩
theorem kJ6_265 : Cond.constant RJ6 265 (1431655765 : Int32) ∈ gw := gi 583 _ (by decide +kernel) rfl
theorem kJ6_266 : Cond.constant RJ6 266 (858993459 : Int32) ∈ gw := gi 584 _ (by decide +kernel) rfl
theorem kJ6_267 : Cond.constant RJ6 267 (252645135 : Int32) ∈ gw := gi 585 _ (by decide +kernel) rfl
theorem lkL_91 : VLK RL 91 yX5_takes := ⟨gi 586 _ (by decide +kernel) rfl, gi 587 _ (by decide +kernel) rfl, gi 588 _ (by decide +kernel) rfl⟩
theorem lkX5_166 : VLK RX5 166 yX5_taken := ⟨gi 590 _ (by decide +kernel) rfl, gi 592 _ (by decide +kernel) rfl, gi 28 _ (by decide +kernel) rfl⟩
theorem lkL_95 : VLK RL 95 yX5_first := ⟨gi 594 _ (by decide +kernel) rfl, gi 595 _ (by decide +kernel) rfl, gi 596 _ (by decide +kernel) rfl⟩
theorem lkL_99 : VLK RL 99 yX5_off := ⟨gi 598 _ (by decide +kernel) rfl, gi 599 _ (by decide +kernel) rfl, gi 600 _ (by decide +kernel) rfl⟩
theorem lkX5_170 : SLK RX5 170 yX5_isMove := ⟨gi 602 _ (by decide +kernel) rfl, gi 603 _ (by decide +kernel) rfl⟩
theorem lkL_103 : VLK RL 103 yX5_sees := ⟨gi 605 _ (by decide +kernel) rfl, gi 606 _ (by decide +kernel) rfl, gi 607 _ (by decide +kernel) rfl⟩
theorem lkL_107 : VLK RL 107 yX5_forget := ⟨gi 609 _ (by decide +kernel) rfl, gi 610 _ (by decide +kernel) rfl, gi 611 _ (by decide +kernel) rfl⟩
theorem lkL_111 : VLK RL 111 yX5_unseen := ⟨gi 613 _ (by decide +kernel) rfl, gi 614 _ (by decide +kernel) rfl, gi 615 _ (by decide +kernel) rfl⟩
theorem lkX5_173 : VLK RX5 173 yX5_explains := ⟨gi 617 _ (by decide +kernel) rfl, gi 619 _ (by decide +kernel) rfl, gi 29 _ (by decide +kernel) rfl⟩
theorem lkL_115 : VLK RL 115 yX5_keep := ⟨gi 621 _ (by decide +kernel) rfl, gi 622 _ (by decide +kernel) rfl, gi 623 _ (by decide +kernel) rfl⟩
theorem lkL_119 : VLK RL 119 yX5_back := ⟨gi 625 _ (by decide +kernel) rfl, gi 626 _ (by decide +kernel) rfl, gi 627 _ (by decide +kernel) rfl⟩
theorem lkL_123 : VLK RL 123 yX5_formula := ⟨gi 629 _ (by decide +kernel) rfl, gi 630 _ (by decide +kernel) rfl, gi 631 _ (by decide +kernel) rfl⟩
theorem lkX5_180 : VLK RX5 180 yX4_stop := ⟨gi 633 _ (by decide +kernel) rfl, gi 381 _ (by decide +kernel) rfl, gi 382 _ (by decide +kernel) rfl⟩
theorem lkX5_183 : VLK RX5 183 yX4_start := ⟨gi 634 _ (by decide +kernel) rfl, gi 635 _ (by decide +kernel) rfl, gi 636 _ (by decide +kernel) rfl⟩
theorem lkX5_186 : VLK RX5 186 yX4_root := ⟨gi 638 _ (by decide +kernel) rfl, gi 377 _ (by decide +kernel) rfl, gi 378 _ (by decide +kernel) rfl⟩
theorem lkX5_189 : VLK RX5 189 yX4_steps := ⟨gi 639 _ (by decide +kernel) rfl, gi 389 _ (by decide +kernel) rfl, gi 390 _ (by decide +kernel) rfl⟩
theorem lkX5_192 : VLK RX5 192 yX4_names := ⟨gi 640 _ (by decide +kernel) rfl, gi 393 _ (by decide +kernel) rfl, gi 394 _ (by decide +kernel) rfl⟩
theorem lkL_127 : VLK RL 127 yX5_count := ⟨gi 641 _ (by decide +kernel) rfl, gi 642 _ (by decide +kernel) rfl, gi 643 _ (by decide +kernel) rfl⟩
theorem clL_10 : Cond.classLink RL 10 RX6 ∈ gw := gi 645 _ (by decide +kernel) rfl
theorem lkL_12 : ILK RL 12 yX6_init := ⟨gi 647 _ (by decide +kernel) rfl, gi 648 _ (by decide +kernel) rfl, rfl⟩
theorem lkX6_1 : Cond.methodLink RX6 1 objectInit ∈ gw := gi 650 _ (by decide +kernel) rfl
theorem lkX6_87 : VLK RX6 87 yX6_begins := ⟨gi 651 _ (by decide +kernel) rfl, gi 653 _ (by decide +kernel) rfl, gi 30 _ (by decide +kernel) rfl⟩
theorem lkX6_90 : VLK RX6 90 yX6_settles := ⟨gi 655 _ (by decide +kernel) rfl, gi 657 _ (by decide +kernel) rfl, gi 31 _ (by decide +kernel) rfl⟩
theorem lkL_17 : VLK RL 17 yX6_type := ⟨gi 781 _ (by decide +kernel) rfl, gi 782 _ (by decide +kernel) rfl, gi 783 _ (by decide +kernel) rfl⟩
theorem lkX6_97 : SLK RX6 97 yX6_in := ⟨gi 785 _ (by decide +kernel) rfl, gi 786 _ (by decide +kernel) rfl⟩
theorem lkL_22 : VLK RL 22 yX6_clear := ⟨gi 788 _ (by decide +kernel) rfl, gi 789 _ (by decide +kernel) rfl, gi 790 _ (by decide +kernel) rfl⟩
theorem lkL_26 : VLK RL 26 yX6_desk := ⟨gi 792 _ (by decide +kernel) rfl, gi 793 _ (by decide +kernel) rfl, gi 794 _ (by decide +kernel) rfl⟩
theorem lkX6_131 : VLK RX6 131 yX6_advances := ⟨gi 796 _ (by decide +kernel) rfl, gi 798 _ (by decide +kernel) rfl, gi 32 _ (by decide +kernel) rfl⟩
theorem lkX6_107 : VLK RX6 107 yX6_letterAt := ⟨gi 800 _ (by decide +kernel) rfl, gi 802 _ (by decide +kernel) rfl, gi 33 _ (by decide +kernel) rfl⟩
theorem lkX6_120 : SLK RX6 120 yX6_isSign := ⟨gi 804 _ (by decide +kernel) rfl, gi 805 _ (by decide +kernel) rfl⟩
theorem lkX6_127 : VLK RX6 127 yX6_isWell := ⟨gi 807 _ (by decide +kernel) rfl, gi 809 _ (by decide +kernel) rfl, gi 34 _ (by decide +kernel) rfl⟩
theorem lkX6_134 : VLK RX6 134 yX6_isThis := ⟨gi 811 _ (by decide +kernel) rfl, gi 813 _ (by decide +kernel) rfl, gi 35 _ (by decide +kernel) rfl⟩
theorem lkX6_137 : VLK RX6 137 yX6_takes := ⟨gi 815 _ (by decide +kernel) rfl, gi 817 _ (by decide +kernel) rfl, gi 36 _ (by decide +kernel) rfl⟩
theorem lkX6_196 : VLK RX6 196 yX6_readsItem := ⟨gi 819 _ (by decide +kernel) rfl, gi 821 _ (by decide +kernel) rfl, gi 37 _ (by decide +kernel) rfl⟩
theorem lkX6_190 : VLK RX6 190 yX6_readsSum := ⟨gi 823 _ (by decide +kernel) rfl, gi 825 _ (by decide +kernel) rfl, gi 38 _ (by decide +kernel) rfl⟩
theorem lkX6_184 : VLK RX6 184 yX6_readsPart := ⟨gi 827 _ (by decide +kernel) rfl, gi 829 _ (by decide +kernel) rfl, gi 39 _ (by decide +kernel) rfl⟩
theorem lkX6_174 : VLK RX6 174 yX6_waits := ⟨gi 831 _ (by decide +kernel) rfl, gi 833 _ (by decide +kernel) rfl, gi 40 _ (by decide +kernel) rfl⟩
theorem lkX6_168 : VLK RX6 168 yX6_counts := ⟨gi 835 _ (by decide +kernel) rfl, gi 837 _ (by decide +kernel) rfl, gi 41 _ (by decide +kernel) rfl⟩
theorem lkX6_141 : VLK RX6 141 yX6_isNumber := ⟨gi 839 _ (by decide +kernel) rfl, gi 841 _ (by decide +kernel) rfl, gi 42 _ (by decide +kernel) rfl⟩
theorem lkX6_157 : VLK RX6 157 yX6_makes := ⟨gi 843 _ (by decide +kernel) rfl, gi 845 _ (by decide +kernel) rfl, gi 43 _ (by decide +kernel) rfl⟩
theorem lkX6_178 : VLK RX6 178 yX6_isSourceSign := ⟨gi 847 _ (by decide +kernel) rfl, gi 849 _ (by decide +kernel) rfl, gi 44 _ (by decide +kernel) rfl⟩
theorem lkX6_181 : VLK RX6 181 yX6_partDone := ⟨gi 851 _ (by decide +kernel) rfl, gi 853 _ (by decide +kernel) rfl, gi 45 _ (by decide +kernel) rfl⟩
theorem lkX6_161 : VLK RX6 161 yX6_lastWaiting := ⟨gi 855 _ (by decide +kernel) rfl, gi 857 _ (by decide +kernel) rfl, gi 46 _ (by decide +kernel) rfl⟩
theorem lkX6_165 : VLK RX6 165 yX6_doesLast := ⟨gi 859 _ (by decide +kernel) rfl, gi 861 _ (by decide +kernel) rfl, gi 47 _ (by decide +kernel) rfl⟩
theorem lkX6_187 : VLK RX6 187 yX6_readsBehind := ⟨gi 863 _ (by decide +kernel) rfl, gi 865 _ (by decide +kernel) rfl, gi 48 _ (by decide +kernel) rfl⟩
theorem lkX6_193 : VLK RX6 193 yX6_signed := ⟨gi 867 _ (by decide +kernel) rfl, gi 869 _ (by decide +kernel) rfl, gi 49 _ (by decide +kernel) rfl⟩
theorem lkL_31 : VLK RL 31 yX6_source := ⟨gi 871 _ (by decide +kernel) rfl, gi 872 _ (by decide +kernel) rfl, gi 873 _ (by decide +kernel) rfl⟩
theorem lkX6_208 : SLK RX6 208 yX6_isSource := ⟨gi 875 _ (by decide +kernel) rfl, gi 876 _ (by decide +kernel) rfl⟩
theorem kX6_211 : Cond.constantLong RX6 211 (-9000000000000000000 : Int64) ∈ gw := gi 878 _ (by decide +kernel) rfl
theorem lkL_35 : VLK RL 35 yX6_joint := ⟨gi 879 _ (by decide +kernel) rfl, gi 880 _ (by decide +kernel) rfl, gi 881 _ (by decide +kernel) rfl⟩
theorem lkX6_213 : VLK RX6 213 yX6_jointOf := ⟨gi 883 _ (by decide +kernel) rfl, gi 885 _ (by decide +kernel) rfl, gi 50 _ (by decide +kernel) rfl⟩
theorem lkL_40 : VLK RL 40 yX6_values := ⟨gi 887 _ (by decide +kernel) rfl, gi 888 _ (by decide +kernel) rfl, gi 889 _ (by decide +kernel) rfl⟩
theorem lkX6_217 : VLK RX6 217 yX6_notes := ⟨gi 891 _ (by decide +kernel) rfl, gi 893 _ (by decide +kernel) rfl, gi 51 _ (by decide +kernel) rfl⟩
theorem lkL_44 : VLK RL 44 yX6_spreads := ⟨gi 895 _ (by decide +kernel) rfl, gi 896 _ (by decide +kernel) rfl, gi 897 _ (by decide +kernel) rfl⟩
theorem lkL_49 : VLK RL 49 yX6_joints := ⟨gi 899 _ (by decide +kernel) rfl, gi 900 _ (by decide +kernel) rfl, gi 901 _ (by decide +kernel) rfl⟩
theorem lkL_53 : VLK RL 53 yX6_undo := ⟨gi 903 _ (by decide +kernel) rfl, gi 904 _ (by decide +kernel) rfl, gi 905 _ (by decide +kernel) rfl⟩
theorem lkL_58 : VLK RL 58 yX6_value := ⟨gi 907 _ (by decide +kernel) rfl, gi 908 _ (by decide +kernel) rfl, gi 909 _ (by decide +kernel) rfl⟩
theorem lkX6_243 : VLK RX6 243 yX6_isFormula := ⟨gi 911 _ (by decide +kernel) rfl, gi 913 _ (by decide +kernel) rfl, gi 52 _ (by decide +kernel) rfl⟩
theorem lkX6_246 : VLK RX6 246 yX6_goes := ⟨gi 915 _ (by decide +kernel) rfl, gi 917 _ (by decide +kernel) rfl, gi 53 _ (by decide +kernel) rfl⟩
theorem lkX6_226 : VLK RX6 226 yX6_goesLeaf := ⟨gi 919 _ (by decide +kernel) rfl, gi 921 _ (by decide +kernel) rfl, gi 54 _ (by decide +kernel) rfl⟩
theorem lkX6_229 : VLK RX6 229 yX6_rootOf := ⟨gi 923 _ (by decide +kernel) rfl, gi 925 _ (by decide +kernel) rfl, gi 55 _ (by decide +kernel) rfl⟩
theorem lkX6_232 : VLK RX6 232 yX6_copiesNode := ⟨gi 927 _ (by decide +kernel) rfl, gi 929 _ (by decide +kernel) rfl, gi 56 _ (by decide +kernel) rfl⟩
theorem lkX6_236 : VLK RX6 236 yX6_goesOne := ⟨gi 931 _ (by decide +kernel) rfl, gi 933 _ (by decide +kernel) rfl, gi 57 _ (by decide +kernel) rfl⟩
theorem kX6_220 : Cond.constantLong RX6 220 (-1 : Int64) ∈ gw := gi 935 _ (by decide +kernel) rfl
theorem lkX6_222 : SLK RX6 222 yX6_power := ⟨gi 936 _ (by decide +kernel) rfl, gi 937 _ (by decide +kernel) rfl⟩
theorem lkX6_239 : VLK RX6 239 yX6_goesTwo := ⟨gi 939 _ (by decide +kernel) rfl, gi 941 _ (by decide +kernel) rfl, gi 58 _ (by decide +kernel) rfl⟩
theorem lkL_62 : VLK RL 62 yX6_slope := ⟨gi 943 _ (by decide +kernel) rfl, gi 944 _ (by decide +kernel) rfl, gi 945 _ (by decide +kernel) rfl⟩
theorem lkX6_249 : VLK RX6 249 yX6_slopeOf := ⟨gi 947 _ (by decide +kernel) rfl, gi 949 _ (by decide +kernel) rfl, gi 59 _ (by decide +kernel) rfl⟩
theorem lkL_67 : VLK RL 67 yX6_bend := ⟨gi 951 _ (by decide +kernel) rfl, gi 952 _ (by decide +kernel) rfl, gi 953 _ (by decide +kernel) rfl⟩
theorem lkL_71 : VLK RL 71 yX6_whole := ⟨gi 955 _ (by decide +kernel) rfl, gi 956 _ (by decide +kernel) rfl, gi 957 _ (by decide +kernel) rfl⟩
theorem lkX6_256 : VLK RX6 256 yX6_togetherOf := ⟨gi 959 _ (by decide +kernel) rfl, gi 961 _ (by decide +kernel) rfl, gi 60 _ (by decide +kernel) rfl⟩
theorem lkX6_253 : SLK RX6 253 yX6_has := ⟨gi 963 _ (by decide +kernel) rfl, gi 964 _ (by decide +kernel) rfl⟩
theorem lkL_75 : VLK RL 75 yX6_together := ⟨gi 966 _ (by decide +kernel) rfl, gi 967 _ (by decide +kernel) rfl, gi 968 _ (by decide +kernel) rfl⟩
theorem lkL_79 : VLK RL 79 yX6_share := ⟨gi 970 _ (by decide +kernel) rfl, gi 971 _ (by decide +kernel) rfl, gi 972 _ (by decide +kernel) rfl⟩
theorem lkX6_260 : VLK RX6 260 yX6_shareOf := ⟨gi 974 _ (by decide +kernel) rfl, gi 976 _ (by decide +kernel) rfl, gi 61 _ (by decide +kernel) rfl⟩
theorem lkL_83 : VLK RL 83 yX6_left := ⟨gi 978 _ (by decide +kernel) rfl, gi 979 _ (by decide +kernel) rfl, gi 980 _ (by decide +kernel) rfl⟩
theorem lkL_90 : VLK RL 90 yX6_fewest := ⟨gi 982 _ (by decide +kernel) rfl, gi 983 _ (by decide +kernel) rfl, gi 984 _ (by decide +kernel) rfl⟩
theorem lkX6_263 : SLK RX6 263 yX6_ones := ⟨gi 986 _ (by decide +kernel) rfl, gi 987 _ (by decide +kernel) rfl⟩
theorem lkL_94 : VLK RL 94 yX6_takes_ := ⟨gi 989 _ (by decide +kernel) rfl, gi 990 _ (by decide +kernel) rfl, gi 991 _ (by decide +kernel) rfl⟩
theorem lkX6_266 : VLK RX6 266 yX6_takesOf := ⟨gi 993 _ (by decide +kernel) rfl, gi 995 _ (by decide +kernel) rfl, gi 62 _ (by decide +kernel) rfl⟩
theorem lkL_98 : VLK RL 98 yX6_first := ⟨gi 997 _ (by decide +kernel) rfl, gi 998 _ (by decide +kernel) rfl, gi 999 _ (by decide +kernel) rfl⟩
theorem lkL_102 : VLK RL 102 yX6_off := ⟨gi 1001 _ (by decide +kernel) rfl, gi 1002 _ (by decide +kernel) rfl, gi 1003 _ (by decide +kernel) rfl⟩
theorem lkX6_269 : VLK RX6 269 yX6_valueIf := ⟨gi 1005 _ (by decide +kernel) rfl, gi 1007 _ (by decide +kernel) rfl, gi 63 _ (by decide +kernel) rfl⟩
theorem lkL_106 : VLK RL 106 yX6_sees := ⟨gi 1009 _ (by decide +kernel) rfl, gi 1010 _ (by decide +kernel) rfl, gi 1011 _ (by decide +kernel) rfl⟩
theorem lkL_110 : VLK RL 110 yX6_forget := ⟨gi 1013 _ (by decide +kernel) rfl, gi 1014 _ (by decide +kernel) rfl, gi 1015 _ (by decide +kernel) rfl⟩
theorem lkL_114 : VLK RL 114 yX6_unseen := ⟨gi 1017 _ (by decide +kernel) rfl, gi 1018 _ (by decide +kernel) rfl, gi 1019 _ (by decide +kernel) rfl⟩
theorem lkL_118 : VLK RL 118 yX6_keep := ⟨gi 1021 _ (by decide +kernel) rfl, gi 1022 _ (by decide +kernel) rfl, gi 1023 _ (by decide +kernel) rfl⟩
theorem lkL_122 : VLK RL 122 yX6_back := ⟨gi 1025 _ (by decide +kernel) rfl, gi 1026 _ (by decide +kernel) rfl, gi 1027 _ (by decide +kernel) rfl⟩
theorem lkL_126 : VLK RL 126 yX6_formula := ⟨gi 1029 _ (by decide +kernel) rfl, gi 1030 _ (by decide +kernel) rfl, gi 1031 _ (by decide +kernel) rfl⟩
theorem lkL_130 : VLK RL 130 yX6_count := ⟨gi 1033 _ (by decide +kernel) rfl, gi 1034 _ (by decide +kernel) rfl, gi 1035 _ (by decide +kernel) rfl⟩
theorem kL_84 : Cond.constantLong RL 84 (4294967295 : Int64) ∈ gw := gi 1037 _ (by decide +kernel) rfl
theorem inst0 : Cond.instantiable RX0 2 ∈ gw := gi 82 _ (by decide +kernel) rfl
theorem init0 : Cond.initialized RX0 ∈ gw := gi 66 _ (by decide +kernel) rfl
def tm0 : List Nat := [1, 1]
theorem inst1 : Cond.instantiable RX1 4 ∈ gw := gi 170 _ (by decide +kernel) rfl
theorem init1 : Cond.initialized RX1 ∈ gw := gi 69 _ (by decide +kernel) rfl
def tm1 : List Nat := [1, 1, 1, 0]
theorem inst2 : Cond.instantiable RX2 9 ∈ gw := gi 130 _ (by decide +kernel) rfl
theorem init2 : Cond.initialized RX2 ∈ gw := gi 68 _ (by decide +kernel) rfl
def tm2 : List Nat := [1, 1, 1, 0, 0, 0, 0, 0, 0]
theorem inst3 : Cond.instantiable RX3 6 ∈ gw := gi 189 _ (by decide +kernel) rfl
theorem init3 : Cond.initialized RX3 ∈ gw := gi 70 _ (by decide +kernel) rfl
def tm3 : List Nat := [1, 1, 1, 1, 1, 1]
theorem inst4 : Cond.instantiable RX4 8 ∈ gw := gi 96 _ (by decide +kernel) rfl
theorem init4 : Cond.initialized RX4 ∈ gw := gi 67 _ (by decide +kernel) rfl
def tm4 : List Nat := [1, 1, 1, 1, 1, 1, 0, 0]
theorem inst5 : Cond.instantiable RX5 14 ∈ gw := gi 74 _ (by decide +kernel) rfl
theorem init5 : Cond.initialized RX5 ∈ gw := gi 65 _ (by decide +kernel) rfl
def tm5 : List Nat := [1, 1, 1, 1, 1, 1, 1, 0, 0, 1, 1, 0, 1, 1]
theorem inst6 : Cond.instantiable RX6 40 ∈ gw := gi 646 _ (by decide +kernel) rfl
theorem init6 : Cond.initialized RX6 ∈ gw := gi 71 _ (by decide +kernel) rfl
def tm6 : List Nat := [0, 1, 0, 0, 0, 0, 0, 0, 0, 1, 1, 1, 1, 1, 0, 1, 1, 1, 1, 1, 1, 1, 1, 0, 1, 1, 1, 1, 0, 1, 0, 1, 0, 0, 0, 1, 1, 1, 1, 1]
theorem arrc_int : Cond.arrayClass .int ∈ gw := gi 94 _ (by decide +kernel) rfl
theorem arrc_long : Cond.arrayClass .long ∈ gw := gi 213 _ (by decide +kernel) rfl
theorem arrc_boolean : Cond.arrayClass .boolean ∈ gw := gi 780 _ (by decide +kernel) rfl
theorem obj_im : Cond.instanceMethod objectInit ∈ gw := gi 79 _ (by decide +kernel) rfl
theorem obj_code : Cond.code objectInit ⟨#[0xb1]⟩ 1 none ∈ gw := gi 80 _ (by decide +kernel) rfl
