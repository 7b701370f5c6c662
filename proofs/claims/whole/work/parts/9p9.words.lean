/-! ===== the law, call by call ===== -/
abbrev lL (b : Nat) (aX aM : Nat → Nat) (o i : Nat) : List (Nat × Value) := [(0, .ref b), (1, .ref (aX 0)), (2, .ref (aM 0)), (3, .ref o), (4, .int (Int32.ofInt (i : Nat)))]
theorem l_int (x : Int32) : ∃ z : Int, x = Int32.ofInt z ∧ bI z := ⟨x.toInt, (Int32.ofInt_toInt x).symm, Int32.le_toInt x, Int32.toInt_lt x⟩
theorem xy_X10_feed : xY yX10_feed cX10_feed 6 (some .int) 5 := ⟨(xin_9 _ (List.mem_of_getElem? (i := 22) rfl)), (xin_1 _ (List.mem_of_getElem? (i := 2) rfl)), by decide +kernel, by decide +kernel, by decide +kernel⟩
theorem xi_X10_feed : Cond.instanceMethod yX10_feed ∈ wsL_law := (xin_9 _ (List.mem_of_getElem? (i := 20) rfl))
theorem xs_X10_feed : Cond.selects yX10_feed.cls yX10_feed yX10_feed ∈ wsL_law := (xin_9 _ (List.mem_of_getElem? (i := 21) rfl))
theorem xy_X11_feed : xY yX11_feed cX11_feed 8 (some .int) 5 := ⟨(xin_10 _ (List.mem_of_getElem? (i := 7) rfl)), (xin_1 _ (List.mem_of_getElem? (i := 5) rfl)), by decide +kernel, by decide +kernel, by decide +kernel⟩
theorem xi_X11_feed : Cond.instanceMethod yX11_feed ∈ wsL_law := (xin_10 _ (List.mem_of_getElem? (i := 5) rfl))
theorem xs_X11_feed : Cond.selects yX11_feed.cls yX11_feed yX11_feed ∈ wsL_law := (xin_10 _ (List.mem_of_getElem? (i := 6) rfl))
theorem xy_X11_load : xY yX11_load cX11_load 2 (some .int) 1 := ⟨(xin_18 _ (List.mem_of_getElem? (i := 15) rfl)), (xin_1 _ (List.mem_of_getElem? (i := 5) rfl)), by decide +kernel, by decide +kernel, by decide +kernel⟩
theorem xi_X11_load : Cond.instanceMethod yX11_load ∈ wsL_law := (xin_18 _ (List.mem_of_getElem? (i := 13) rfl))
theorem xs_X11_load : Cond.selects yX11_load.cls yX11_load yX11_load ∈ wsL_law := (xin_18 _ (List.mem_of_getElem? (i := 14) rfl))
theorem xy_X11_thrown : xY yX11_thrown cX11_thrown 1 (some .int) 0 := ⟨(xin_23 _ (List.mem_of_getElem? (i := 22) rfl)), (xin_1 _ (List.mem_of_getElem? (i := 5) rfl)), by decide +kernel, by decide +kernel, by decide +kernel⟩
theorem xi_X11_thrown : Cond.instanceMethod yX11_thrown ∈ wsL_law := (xin_23 _ (List.mem_of_getElem? (i := 20) rfl))
theorem xs_X11_thrown : Cond.selects yX11_thrown.cls yX11_thrown yX11_thrown ∈ wsL_law := (xin_23 _ (List.mem_of_getElem? (i := 21) rfl))
theorem xy_X10_errorPosition : xY yX10_errorPosition cX10_errorPosition 1 (some .int) 0 := ⟨(xin_24 _ (List.mem_of_getElem? (i := 2) rfl)), (xin_1 _ (List.mem_of_getElem? (i := 2) rfl)), by decide +kernel, by decide +kernel, by decide +kernel⟩
theorem xi_X10_errorPosition : Cond.instanceMethod yX10_errorPosition ∈ wsL_law := (xin_24 _ (List.mem_of_getElem? (i := 0) rfl))
theorem xs_X10_errorPosition : Cond.selects yX10_errorPosition.cls yX10_errorPosition yX10_errorPosition ∈ wsL_law := (xin_24 _ (List.mem_of_getElem? (i := 1) rfl))
theorem xy_X11_errorPosition : xY yX11_errorPosition cX11_errorPosition 1 (some .int) 0 := ⟨(xin_24 _ (List.mem_of_getElem? (i := 6) rfl)), (xin_1 _ (List.mem_of_getElem? (i := 5) rfl)), by decide +kernel, by decide +kernel, by decide +kernel⟩
theorem xi_X11_errorPosition : Cond.instanceMethod yX11_errorPosition ∈ wsL_law := (xin_24 _ (List.mem_of_getElem? (i := 4) rfl))
theorem xs_X11_errorPosition : Cond.selects yX11_errorPosition.cls yX11_errorPosition yX11_errorPosition ∈ wsL_law := (xin_24 _ (List.mem_of_getElem? (i := 5) rfl))
theorem xy_X11_size : xY yX11_size cX11_size 2 (some .int) 1 := ⟨(xin_25 _ (List.mem_of_getElem? (i := 7) rfl)), (xin_1 _ (List.mem_of_getElem? (i := 5) rfl)), by decide +kernel, by decide +kernel, by decide +kernel⟩
theorem xi_X11_size : Cond.instanceMethod yX11_size ∈ wsL_law := (xin_25 _ (List.mem_of_getElem? (i := 5) rfl))
theorem xs_X11_size : Cond.selects yX11_size.cls yX11_size yX11_size ∈ wsL_law := (xin_25 _ (List.mem_of_getElem? (i := 6) rfl))
theorem xy_X11_total : xY yX11_total cX11_total 2 (some .int) 1 := ⟨(xin_26 _ (List.mem_of_getElem? (i := 3) rfl)), (xin_1 _ (List.mem_of_getElem? (i := 5) rfl)), by decide +kernel, by decide +kernel, by decide +kernel⟩
theorem xi_X11_total : Cond.instanceMethod yX11_total ∈ wsL_law := (xin_26 _ (List.mem_of_getElem? (i := 1) rfl))
theorem xs_X11_total : Cond.selects yX11_total.cls yX11_total yX11_total ∈ wsL_law := (xin_26 _ (List.mem_of_getElem? (i := 2) rfl))
theorem xy_X11_end : xY yX11_end cX11_end 3 (some .int) 2 := ⟨(xin_27 _ (List.mem_of_getElem? (i := 10) rfl)), (xin_1 _ (List.mem_of_getElem? (i := 5) rfl)), by decide +kernel, by decide +kernel, by decide +kernel⟩
theorem xi_X11_end : Cond.instanceMethod yX11_end ∈ wsL_law := (xin_27 _ (List.mem_of_getElem? (i := 8) rfl))
theorem xs_X11_end : Cond.selects yX11_end.cls yX11_end yX11_end ∈ wsL_law := (xin_27 _ (List.mem_of_getElem? (i := 9) rfl))
theorem xy_X11_rate : xY yX11_rate cX11_rate 3 (some .int) 2 := ⟨(xin_28 _ (List.mem_of_getElem? (i := 20) rfl)), (xin_1 _ (List.mem_of_getElem? (i := 5) rfl)), by decide +kernel, by decide +kernel, by decide +kernel⟩
theorem xi_X11_rate : Cond.instanceMethod yX11_rate ∈ wsL_law := (xin_28 _ (List.mem_of_getElem? (i := 18) rfl))
theorem xs_X11_rate : Cond.selects yX11_rate.cls yX11_rate yX11_rate ∈ wsL_law := (xin_28 _ (List.mem_of_getElem? (i := 19) rfl))
theorem xy_X11_frame : xY yX11_frame cX11_frame 5 (some .int) 3 := ⟨(xin_29 _ (List.mem_of_getElem? (i := 21) rfl)), (xin_1 _ (List.mem_of_getElem? (i := 5) rfl)), by decide +kernel, by decide +kernel, by decide +kernel⟩
theorem xi_X11_frame : Cond.instanceMethod yX11_frame ∈ wsL_law := (xin_29 _ (List.mem_of_getElem? (i := 19) rfl))
theorem xs_X11_frame : Cond.selects yX11_frame.cls yX11_frame yX11_frame ∈ wsL_law := (xin_29 _ (List.mem_of_getElem? (i := 20) rfl))
theorem xy_X11_received : xY yX11_received cX11_received 3 (some .int) 2 := ⟨(xin_30 _ (List.mem_of_getElem? (i := 14) rfl)), (xin_1 _ (List.mem_of_getElem? (i := 5) rfl)), by decide +kernel, by decide +kernel, by decide +kernel⟩
theorem xi_X11_received : Cond.instanceMethod yX11_received ∈ wsL_law := (xin_30 _ (List.mem_of_getElem? (i := 12) rfl))
theorem xs_X11_received : Cond.selects yX11_received.cls yX11_received yX11_received ∈ wsL_law := (xin_30 _ (List.mem_of_getElem? (i := 13) rfl))
theorem xy_X11_word : xY yX11_word cX11_word 4 (some .int) 3 := ⟨(xin_31 _ (List.mem_of_getElem? (i := 3) rfl)), (xin_1 _ (List.mem_of_getElem? (i := 5) rfl)), by decide +kernel, by decide +kernel, by decide +kernel⟩
theorem xi_X11_word : Cond.instanceMethod yX11_word ∈ wsL_law := (xin_31 _ (List.mem_of_getElem? (i := 1) rfl))
theorem xs_X11_word : Cond.selects yX11_word.cls yX11_word yX11_word ∈ wsL_law := (xin_31 _ (List.mem_of_getElem? (i := 2) rfl))
theorem xy_X11_event : xY yX11_event cX11_event 4 (some .int) 2 := ⟨(xin_32 _ (List.mem_of_getElem? (i := 2) rfl)), (xin_1 _ (List.mem_of_getElem? (i := 5) rfl)), by decide +kernel, by decide +kernel, by decide +kernel⟩
theorem xi_X11_event : Cond.instanceMethod yX11_event ∈ wsL_law := (xin_32 _ (List.mem_of_getElem? (i := 0) rfl))
theorem xs_X11_event : Cond.selects yX11_event.cls yX11_event yX11_event ∈ wsL_law := (xin_32 _ (List.mem_of_getElem? (i := 1) rfl))
theorem xy_X11_rateFor : xY yX11_rateFor cX11_rateFor 2 (some .int) 1 := ⟨(xin_32 _ (List.mem_of_getElem? (i := 21) rfl)), (xin_1 _ (List.mem_of_getElem? (i := 5) rfl)), by decide +kernel, by decide +kernel, by decide +kernel⟩
theorem xi_X11_rateFor : Cond.instanceMethod yX11_rateFor ∈ wsL_law := (xin_32 _ (List.mem_of_getElem? (i := 19) rfl))
theorem xs_X11_rateFor : Cond.selects yX11_rateFor.cls yX11_rateFor yX11_rateFor ∈ wsL_law := (xin_32 _ (List.mem_of_getElem? (i := 20) rfl))
theorem xy_X11_nextCost : xY yX11_nextCost cX11_nextCost 3 (some .int) 1 := ⟨(xin_34 _ (List.mem_of_getElem? (i := 11) rfl)), (xin_1 _ (List.mem_of_getElem? (i := 5) rfl)), by decide +kernel, by decide +kernel, by decide +kernel⟩
theorem xi_X11_nextCost : Cond.instanceMethod yX11_nextCost ∈ wsL_law := (xin_34 _ (List.mem_of_getElem? (i := 9) rfl))
theorem xs_X11_nextCost : Cond.selects yX11_nextCost.cls yX11_nextCost yX11_nextCost ∈ wsL_law := (xin_34 _ (List.mem_of_getElem? (i := 10) rfl))
theorem xy_X10_ticksToFinish : xY yX10_ticksToFinish cX10_ticksToFinish 1 (some .int) 0 := ⟨(xin_35 _ (List.mem_of_getElem? (i := 8) rfl)), (xin_1 _ (List.mem_of_getElem? (i := 2) rfl)), by decide +kernel, by decide +kernel, by decide +kernel⟩
theorem xi_X10_ticksToFinish : Cond.instanceMethod yX10_ticksToFinish ∈ wsL_law := (xin_35 _ (List.mem_of_getElem? (i := 6) rfl))
theorem xs_X10_ticksToFinish : Cond.selects yX10_ticksToFinish.cls yX10_ticksToFinish yX10_ticksToFinish ∈ wsL_law := (xin_35 _ (List.mem_of_getElem? (i := 7) rfl))
theorem xy_X11_ticksToFinish : xY yX11_ticksToFinish cX11_ticksToFinish 2 (some .int) 0 := ⟨(xin_44 _ (List.mem_of_getElem? (i := 11) rfl)), (xin_1 _ (List.mem_of_getElem? (i := 5) rfl)), by decide +kernel, by decide +kernel, by decide +kernel⟩
theorem xi_X11_ticksToFinish : Cond.instanceMethod yX11_ticksToFinish ∈ wsL_law := (xin_44 _ (List.mem_of_getElem? (i := 9) rfl))
theorem xs_X11_ticksToFinish : Cond.selects yX11_ticksToFinish.cls yX11_ticksToFinish yX11_ticksToFinish ∈ wsL_law := (xin_44 _ (List.mem_of_getElem? (i := 10) rfl))
theorem xy_X11_receivedBehind : xY yX11_receivedBehind cX11_receivedBehind 4 (some .int) 2 := ⟨(xin_49 _ (List.mem_of_getElem? (i := 17) rfl)), (xin_1 _ (List.mem_of_getElem? (i := 5) rfl)), by decide +kernel, by decide +kernel, by decide +kernel⟩
theorem xi_X11_receivedBehind : Cond.instanceMethod yX11_receivedBehind ∈ wsL_law := (xin_49 _ (List.mem_of_getElem? (i := 15) rfl))
theorem xs_X11_receivedBehind : Cond.selects yX11_receivedBehind.cls yX11_receivedBehind yX11_receivedBehind ∈ wsL_law := (xin_49 _ (List.mem_of_getElem? (i := 16) rfl))
theorem xy_X10_leastQuality : xY yX10_leastQuality cX10_leastQuality 2 (some .int) 0 := ⟨(xin_49 _ (List.mem_of_getElem? (i := 21) rfl)), (xin_1 _ (List.mem_of_getElem? (i := 2) rfl)), by decide +kernel, by decide +kernel, by decide +kernel⟩
theorem xi_X10_leastQuality : Cond.instanceMethod yX10_leastQuality ∈ wsL_law := (xin_49 _ (List.mem_of_getElem? (i := 19) rfl))
theorem xs_X10_leastQuality : Cond.selects yX10_leastQuality.cls yX10_leastQuality yX10_leastQuality ∈ wsL_law := (xin_49 _ (List.mem_of_getElem? (i := 20) rfl))
theorem xy_X11_leastQuality : xY yX11_leastQuality cX11_leastQuality 3 (some .int) 0 := ⟨(xin_50 _ (List.mem_of_getElem? (i := 1) rfl)), (xin_1 _ (List.mem_of_getElem? (i := 5) rfl)), by decide +kernel, by decide +kernel, by decide +kernel⟩
theorem xi_X11_leastQuality : Cond.instanceMethod yX11_leastQuality ∈ wsL_law := (xin_49 _ (List.mem_of_getElem? (i := 23) rfl))
theorem xs_X11_leastQuality : Cond.selects yX11_leastQuality.cls yX11_leastQuality yX11_leastQuality ∈ wsL_law := (xin_50 _ (List.mem_of_getElem? (i := 0) rfl))
theorem xy_X11_pass : xY yX11_pass cX11_pass 4 (some .int) 1 := ⟨(xin_51 _ (List.mem_of_getElem? (i := 11) rfl)), (xin_1 _ (List.mem_of_getElem? (i := 5) rfl)), by decide +kernel, by decide +kernel, by decide +kernel⟩
theorem xi_X11_pass : Cond.instanceMethod yX11_pass ∈ wsL_law := (xin_51 _ (List.mem_of_getElem? (i := 9) rfl))
theorem xs_X11_pass : Cond.selects yX11_pass.cls yX11_pass yX11_pass ∈ wsL_law := (xin_51 _ (List.mem_of_getElem? (i := 10) rfl))
theorem xy_X10_dial : xY yX10_dial cX10_dial 1 (some .int) 0 := ⟨(xin_51 _ (List.mem_of_getElem? (i := 20) rfl)), (xin_1 _ (List.mem_of_getElem? (i := 2) rfl)), by decide +kernel, by decide +kernel, by decide +kernel⟩
theorem xi_X10_dial : Cond.instanceMethod yX10_dial ∈ wsL_law := (xin_51 _ (List.mem_of_getElem? (i := 18) rfl))
theorem xs_X10_dial : Cond.selects yX10_dial.cls yX10_dial yX10_dial ∈ wsL_law := (xin_51 _ (List.mem_of_getElem? (i := 19) rfl))
theorem xy_X11_dial : xY yX11_dial cX11_dial 3 (some .int) 0 := ⟨(xin_52 _ (List.mem_of_getElem? (i := 9) rfl)), (xin_1 _ (List.mem_of_getElem? (i := 5) rfl)), by decide +kernel, by decide +kernel, by decide +kernel⟩
theorem xi_X11_dial : Cond.instanceMethod yX11_dial ∈ wsL_law := (xin_52 _ (List.mem_of_getElem? (i := 7) rfl))
theorem xs_X11_dial : Cond.selects yX11_dial.cls yX11_dial yX11_dial ∈ wsL_law := (xin_52 _ (List.mem_of_getElem? (i := 8) rfl))
theorem xy_X10_hangUp : xY yX10_hangUp cX10_hangUp 2 (some .int) 0 := ⟨(xin_52 _ (List.mem_of_getElem? (i := 13) rfl)), (xin_1 _ (List.mem_of_getElem? (i := 2) rfl)), by decide +kernel, by decide +kernel, by decide +kernel⟩
theorem xi_X10_hangUp : Cond.instanceMethod yX10_hangUp ∈ wsL_law := (xin_52 _ (List.mem_of_getElem? (i := 11) rfl))
theorem xs_X10_hangUp : Cond.selects yX10_hangUp.cls yX10_hangUp yX10_hangUp ∈ wsL_law := (xin_52 _ (List.mem_of_getElem? (i := 12) rfl))
theorem xy_X11_hangUp : xY yX11_hangUp cX11_hangUp 2 (some .int) 0 := ⟨(xin_53 _ (List.mem_of_getElem? (i := 3) rfl)), (xin_1 _ (List.mem_of_getElem? (i := 5) rfl)), by decide +kernel, by decide +kernel, by decide +kernel⟩
theorem xi_X11_hangUp : Cond.instanceMethod yX11_hangUp ∈ wsL_law := (xin_53 _ (List.mem_of_getElem? (i := 1) rfl))
theorem xs_X11_hangUp : Cond.selects yX11_hangUp.cls yX11_hangUp yX11_hangUp ∈ wsL_law := (xin_53 _ (List.mem_of_getElem? (i := 2) rfl))
theorem xy_X11_escape : xY yX11_escape cX11_escape 2 (some .int) 1 := ⟨(xin_53 _ (List.mem_of_getElem? (i := 22) rfl)), (xin_1 _ (List.mem_of_getElem? (i := 5) rfl)), by decide +kernel, by decide +kernel, by decide +kernel⟩
theorem xi_X11_escape : Cond.instanceMethod yX11_escape ∈ wsL_law := (xin_53 _ (List.mem_of_getElem? (i := 20) rfl))
theorem xs_X11_escape : Cond.selects yX11_escape.cls yX11_escape yX11_escape ∈ wsL_law := (xin_53 _ (List.mem_of_getElem? (i := 21) rfl))
theorem xy_X11_resume : xY yX11_resume cX11_resume 2 (some .int) 1 := ⟨(xin_54 _ (List.mem_of_getElem? (i := 13) rfl)), (xin_1 _ (List.mem_of_getElem? (i := 5) rfl)), by decide +kernel, by decide +kernel, by decide +kernel⟩
theorem xi_X11_resume : Cond.instanceMethod yX11_resume ∈ wsL_law := (xin_54 _ (List.mem_of_getElem? (i := 11) rfl))
theorem xs_X11_resume : Cond.selects yX11_resume.cls yX11_resume yX11_resume ∈ wsL_law := (xin_54 _ (List.mem_of_getElem? (i := 12) rfl))
theorem xy_X11_send : xY yX11_send cX11_send 4 (some .int) 2 := ⟨(xin_55 _ (List.mem_of_getElem? (i := 4) rfl)), (xin_1 _ (List.mem_of_getElem? (i := 5) rfl)), by decide +kernel, by decide +kernel, by decide +kernel⟩
theorem xi_X11_send : Cond.instanceMethod yX11_send ∈ wsL_law := (xin_55 _ (List.mem_of_getElem? (i := 2) rfl))
theorem xs_X11_send : Cond.selects yX11_send.cls yX11_send yX11_send ∈ wsL_law := (xin_55 _ (List.mem_of_getElem? (i := 3) rfl))
theorem xy_X11_setQuality : xY yX11_setQuality cX11_setQuality 3 (some .int) 1 := ⟨(xin_55 _ (List.mem_of_getElem? (i := 15) rfl)), (xin_1 _ (List.mem_of_getElem? (i := 5) rfl)), by decide +kernel, by decide +kernel, by decide +kernel⟩
theorem xi_X11_setQuality : Cond.instanceMethod yX11_setQuality ∈ wsL_law := (xin_55 _ (List.mem_of_getElem? (i := 13) rfl))
theorem xs_X11_setQuality : Cond.selects yX11_setQuality.cls yX11_setQuality yX11_setQuality ∈ wsL_law := (xin_55 _ (List.mem_of_getElem? (i := 14) rfl))
theorem xy_X10_undoCount : xY yX10_undoCount cX10_undoCount 1 (some .int) 0 := ⟨(xin_65 _ (List.mem_of_getElem? (i := 0) rfl)), (xin_1 _ (List.mem_of_getElem? (i := 2) rfl)), by decide +kernel, by decide +kernel, by decide +kernel⟩
theorem xi_X10_undoCount : Cond.instanceMethod yX10_undoCount ∈ wsL_law := (xin_64 _ (List.mem_of_getElem? (i := 22) rfl))
theorem xs_X10_undoCount : Cond.selects yX10_undoCount.cls yX10_undoCount yX10_undoCount ∈ wsL_law := (xin_64 _ (List.mem_of_getElem? (i := 23) rfl))
theorem xy_X11_undoCount : xY yX11_undoCount cX11_undoCount 1 (some .int) 0 := ⟨(xin_65 _ (List.mem_of_getElem? (i := 4) rfl)), (xin_1 _ (List.mem_of_getElem? (i := 5) rfl)), by decide +kernel, by decide +kernel, by decide +kernel⟩
theorem xi_X11_undoCount : Cond.instanceMethod yX11_undoCount ∈ wsL_law := (xin_65 _ (List.mem_of_getElem? (i := 2) rfl))
theorem xs_X11_undoCount : Cond.selects yX11_undoCount.cls yX11_undoCount yX11_undoCount ∈ wsL_law := (xin_65 _ (List.mem_of_getElem? (i := 3) rfl))
theorem xy_X10_undo : xY yX10_undo cX10_undo 1 (some .int) 0 := ⟨(xin_65 _ (List.mem_of_getElem? (i := 8) rfl)), (xin_1 _ (List.mem_of_getElem? (i := 2) rfl)), by decide +kernel, by decide +kernel, by decide +kernel⟩
theorem xi_X10_undo : Cond.instanceMethod yX10_undo ∈ wsL_law := (xin_65 _ (List.mem_of_getElem? (i := 6) rfl))
theorem xs_X10_undo : Cond.selects yX10_undo.cls yX10_undo yX10_undo ∈ wsL_law := (xin_65 _ (List.mem_of_getElem? (i := 7) rfl))
theorem xy_X11_undo : xY yX11_undo cX11_undo 1 (some .int) 0 := ⟨(xin_65 _ (List.mem_of_getElem? (i := 12) rfl)), (xin_1 _ (List.mem_of_getElem? (i := 5) rfl)), by decide +kernel, by decide +kernel, by decide +kernel⟩
theorem xi_X11_undo : Cond.instanceMethod yX11_undo ∈ wsL_law := (xin_65 _ (List.mem_of_getElem? (i := 10) rfl))
theorem xs_X11_undo : Cond.selects yX11_undo.cls yX11_undo yX11_undo ∈ wsL_law := (xin_65 _ (List.mem_of_getElem? (i := 11) rfl))
theorem xy_X10_saveSnapshot : xY yX10_saveSnapshot cX10_saveSnapshot 1 none 0 := ⟨(xin_65 _ (List.mem_of_getElem? (i := 16) rfl)), (xin_1 _ (List.mem_of_getElem? (i := 2) rfl)), by decide +kernel, by decide +kernel, by decide +kernel⟩
theorem xi_X10_saveSnapshot : Cond.instanceMethod yX10_saveSnapshot ∈ wsL_law := (xin_65 _ (List.mem_of_getElem? (i := 14) rfl))
theorem xs_X10_saveSnapshot : Cond.selects yX10_saveSnapshot.cls yX10_saveSnapshot yX10_saveSnapshot ∈ wsL_law := (xin_65 _ (List.mem_of_getElem? (i := 15) rfl))
theorem xy_X11_saveSnapshot : xY yX11_saveSnapshot cX11_saveSnapshot 1 none 0 := ⟨(xin_65 _ (List.mem_of_getElem? (i := 20) rfl)), (xin_1 _ (List.mem_of_getElem? (i := 5) rfl)), by decide +kernel, by decide +kernel, by decide +kernel⟩
theorem xi_X11_saveSnapshot : Cond.instanceMethod yX11_saveSnapshot ∈ wsL_law := (xin_65 _ (List.mem_of_getElem? (i := 18) rfl))
theorem xs_X11_saveSnapshot : Cond.selects yX11_saveSnapshot.cls yX11_saveSnapshot yX11_saveSnapshot ∈ wsL_law := (xin_65 _ (List.mem_of_getElem? (i := 19) rfl))
theorem xy_X10_restoreSnapshot : xY yX10_restoreSnapshot cX10_restoreSnapshot 1 (some .boolean) 0 := ⟨(xin_66 _ (List.mem_of_getElem? (i := 0) rfl)), (xin_1 _ (List.mem_of_getElem? (i := 2) rfl)), by decide +kernel, by decide +kernel, by decide +kernel⟩
theorem xi_X10_restoreSnapshot : Cond.instanceMethod yX10_restoreSnapshot ∈ wsL_law := (xin_65 _ (List.mem_of_getElem? (i := 22) rfl))
theorem xs_X10_restoreSnapshot : Cond.selects yX10_restoreSnapshot.cls yX10_restoreSnapshot yX10_restoreSnapshot ∈ wsL_law := (xin_65 _ (List.mem_of_getElem? (i := 23) rfl))
theorem xy_X11_restoreSnapshot : xY yX11_restoreSnapshot cX11_restoreSnapshot 1 (some .boolean) 0 := ⟨(xin_66 _ (List.mem_of_getElem? (i := 4) rfl)), (xin_1 _ (List.mem_of_getElem? (i := 5) rfl)), by decide +kernel, by decide +kernel, by decide +kernel⟩
theorem xi_X11_restoreSnapshot : Cond.instanceMethod yX11_restoreSnapshot ∈ wsL_law := (xin_66 _ (List.mem_of_getElem? (i := 2) rfl))
theorem xs_X11_restoreSnapshot : Cond.selects yX11_restoreSnapshot.cls yX11_restoreSnapshot yX11_restoreSnapshot ∈ wsL_law := (xin_66 _ (List.mem_of_getElem? (i := 3) rfl))
