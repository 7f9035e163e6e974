/-! LEVEL 2: all calls -/
theorem xl2_all : xL2 Rel := ⟨l2_init, l2_feed, l2_text, l2_fault, l2_named, l2_walker, l2_bench, l2_restOf, l2_piano, l2_law, l2_sit, l2_rise, l2_push, l2_go, l2_ahead, l2_meet, l2_pass, l2_out, l2_best, l2_cover, l2_carry, l2_rests, l2_rest, l2_quiet, l2_see, l2_strike, l2_known, l2_paces, l2_chance, l2_tried, l2_undo, l2_keep, l2_back, l2_count⟩
