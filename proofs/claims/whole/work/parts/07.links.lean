/-! THE LINKS: methods, fields, calls, by their places in the tables -/
abbrev mi_X0_init : Mi := (yX0_init, cX0_init, 1, none, 2)
theorem ok_X0_init : okM mi_X0_init 0 := ⟨wG_of 67 (by decide +kernel) (by decide +kernel), wG_of 102 (by decide +kernel) (by decide +kernel), (by decide +kernel), (by decide +kernel)⟩
theorem pl_X0_init : plainName mi_X0_init.1.cls = true := by decide +kernel
abbrev mi_X0_mix : Mi := (yX0_mix, cX0_mix, 3, (some .int), 1)
theorem ok_X0_mix : okM mi_X0_mix 2 := ⟨wG_of 67 (by decide +kernel) (by decide +kernel), wG_of 486 (by decide +kernel) (by decide +kernel), (by decide +kernel), (by decide +kernel)⟩
theorem pl_X0_mix : plainName mi_X0_mix.1.cls = true := by decide +kernel
abbrev mi_X0_power : Mi := (yX0_power, cX0_power, 6, (some .int), 1)
theorem ok_X0_power : okM mi_X0_power 2 := ⟨wG_of 67 (by decide +kernel) (by decide +kernel), wG_of 461 (by decide +kernel) (by decide +kernel), (by decide +kernel), (by decide +kernel)⟩
theorem pl_X0_power : plainName mi_X0_power.1.cls = true := by decide +kernel
abbrev mi_X0_publicOf : Mi := (yX0_publicOf, cX0_publicOf, 2, (some .int), 2)
theorem ok_X0_publicOf : okM mi_X0_publicOf 1 := ⟨wG_of 67 (by decide +kernel) (by decide +kernel), wG_of 457 (by decide +kernel) (by decide +kernel), (by decide +kernel), (by decide +kernel)⟩
theorem pl_X0_publicOf : plainName mi_X0_publicOf.1.cls = true := by decide +kernel
abbrev mi_X1_init : Mi := (yX1_init, cX1_init, 2, none, 2)
theorem ok_X1_init : okM mi_X1_init 1 := ⟨wG_of 74 (by decide +kernel) (by decide +kernel), wG_of 257 (by decide +kernel) (by decide +kernel), (by decide +kernel), (by decide +kernel)⟩
theorem pl_X1_init : plainName mi_X1_init.1.cls = true := by decide +kernel
abbrev mi_X1_nextSecret : Mi := (yX1_nextSecret, cX1_nextSecret, 3, (some (.object "RatchetPost$Thing")), 1)
theorem ok_X1_nextSecret : okM mi_X1_nextSecret 0 := ⟨wG_of 74 (by decide +kernel) (by decide +kernel), wG_of 449 (by decide +kernel) (by decide +kernel), (by decide +kernel), (by decide +kernel)⟩
theorem pl_X1_nextSecret : plainName mi_X1_nextSecret.1.cls = true := by decide +kernel
abbrev mi_X1_leave : Mi := (yX1_leave, cX1_leave, 1, none, 1)
theorem ok_X1_leave : okM mi_X1_leave 0 := ⟨wG_of 74 (by decide +kernel) (by decide +kernel), wG_of 647 (by decide +kernel) (by decide +kernel), (by decide +kernel), (by decide +kernel)⟩
theorem pl_X1_leave : plainName mi_X1_leave.1.cls = true := by decide +kernel
abbrev mi_X1_hasLeft : Mi := (yX1_hasLeft, cX1_hasLeft, 3, (some .boolean), 1)
theorem ok_X1_hasLeft : okM mi_X1_hasLeft 1 := ⟨wG_of 74 (by decide +kernel) (by decide +kernel), wG_of 629 (by decide +kernel) (by decide +kernel), (by decide +kernel), (by decide +kernel)⟩
theorem pl_X1_hasLeft : plainName mi_X1_hasLeft.1.cls = true := by decide +kernel
abbrev mi_X1_keep : Mi := (yX1_keep, cX1_keep, 2, none, 2)
theorem ok_X1_keep : okM mi_X1_keep 1 := ⟨wG_of 74 (by decide +kernel) (by decide +kernel), wG_of 617 (by decide +kernel) (by decide +kernel), (by decide +kernel), (by decide +kernel)⟩
theorem pl_X1_keep : plainName mi_X1_keep.1.cls = true := by decide +kernel
abbrev mi_X1_drop : Mi := (yX1_drop, cX1_drop, 3, none, 1)
theorem ok_X1_drop : okM mi_X1_drop 1 := ⟨wG_of 74 (by decide +kernel) (by decide +kernel), wG_of 249 (by decide +kernel) (by decide +kernel), (by decide +kernel), (by decide +kernel)⟩
theorem pl_X1_drop : plainName mi_X1_drop.1.cls = true := by decide +kernel
abbrev mi_X1_keptFor : Mi := (yX1_keptFor, cX1_keptFor, 3, (some .int), 2)
theorem ok_X1_keptFor : okM mi_X1_keptFor 1 := ⟨wG_of 74 (by decide +kernel) (by decide +kernel), wG_of 548 (by decide +kernel) (by decide +kernel), (by decide +kernel), (by decide +kernel)⟩
theorem pl_X1_keptFor : plainName mi_X1_keptFor.1.cls = true := by decide +kernel
abbrev mi_X1_endOld : Mi := (yX1_endOld, cX1_endOld, 4, none, 2)
theorem ok_X1_endOld : okM mi_X1_endOld 2 := ⟨wG_of 74 (by decide +kernel) (by decide +kernel), wG_of 245 (by decide +kernel) (by decide +kernel), (by decide +kernel), (by decide +kernel)⟩
theorem pl_X1_endOld : plainName mi_X1_endOld.1.cls = true := by decide +kernel
abbrev mi_X2_init : Mi := (yX2_init, cX2_init, 3, none, 2)
theorem ok_X2_init : okM mi_X2_init 2 := ⟨wG_of 80 (by decide +kernel) (by decide +kernel), wG_of 503 (by decide +kernel) (by decide +kernel), (by decide +kernel), (by decide +kernel)⟩
theorem pl_X2_init : plainName mi_X2_init.1.cls = true := by decide +kernel
abbrev mi_X2_from : Mi := (yX2_from, cX2_from, 1, (some .int), 1)
theorem ok_X2_from : okM mi_X2_from 0 := ⟨wG_of 80 (by decide +kernel) (by decide +kernel), wG_of 552 (by decide +kernel) (by decide +kernel), (by decide +kernel), (by decide +kernel)⟩
theorem pl_X2_from : plainName mi_X2_from.1.cls = true := by decide +kernel
abbrev mi_X2_before : Mi := (yX2_before, cX2_before, 1, (some .int), 1)
theorem ok_X2_before : okM mi_X2_before 0 := ⟨wG_of 80 (by decide +kernel) (by decide +kernel), wG_of 633 (by decide +kernel) (by decide +kernel), (by decide +kernel), (by decide +kernel)⟩
theorem pl_X2_before : plainName mi_X2_before.1.cls = true := by decide +kernel
abbrev mi_X2_place : Mi := (yX2_place, cX2_place, 1, (some .int), 1)
theorem ok_X2_place : okM mi_X2_place 0 := ⟨wG_of 80 (by decide +kernel) (by decide +kernel), wG_of 556 (by decide +kernel) (by decide +kernel), (by decide +kernel), (by decide +kernel)⟩
theorem pl_X2_place : plainName mi_X2_place.1.cls = true := by decide +kernel
abbrev mi_X3_init : Mi := (yX3_init, cX3_init, 5, none, 3)
theorem ok_X3_init : okM mi_X3_init 4 := ⟨wG_of 81 (by decide +kernel) (by decide +kernel), wG_of 584 (by decide +kernel) (by decide +kernel), (by decide +kernel), (by decide +kernel)⟩
theorem pl_X3_init : plainName mi_X3_init.1.cls = true := by decide +kernel
abbrev mi_X4_init : Mi := (yX4_init, cX4_init, 5, none, 2)
theorem ok_X4_init : okM mi_X4_init 4 := ⟨wG_of 75 (by decide +kernel) (by decide +kernel), wG_of 338 (by decide +kernel) (by decide +kernel), (by decide +kernel), (by decide +kernel)⟩
theorem pl_X4_init : plainName mi_X4_init.1.cls = true := by decide +kernel
abbrev mi_X4_stepsNow : Mi := (yX4_stepsNow, cX4_stepsNow, 3, (some .int), 2)
theorem ok_X4_stepsNow : okM mi_X4_stepsNow 0 := ⟨wG_of 75 (by decide +kernel) (by decide +kernel), wG_of 472 (by decide +kernel) (by decide +kernel), (by decide +kernel), (by decide +kernel)⟩
theorem pl_X4_stepsNow : plainName mi_X4_stepsNow.1.cls = true := by decide +kernel
abbrev mi_X5_init : Mi := (yX5_init, cX5_init, 1, none, 5)
theorem ok_X5_init : okM mi_X5_init 0 := ⟨wG_of 66 (by decide +kernel) (by decide +kernel), wG_of 96 (by decide +kernel) (by decide +kernel), (by decide +kernel), (by decide +kernel)⟩
theorem pl_X5_init : plainName mi_X5_init.1.cls = true := by decide +kernel
abbrev mi_X5_newSecret : Mi := (yX5_newSecret, cX5_newSecret, 3, (some (.object "RatchetPost$Thing")), 8)
theorem ok_X5_newSecret : okM mi_X5_newSecret 1 := ⟨wG_of 66 (by decide +kernel) (by decide +kernel), wG_of 333 (by decide +kernel) (by decide +kernel), (by decide +kernel), (by decide +kernel)⟩
theorem pl_X5_newSecret : plainName mi_X5_newSecret.1.cls = true := by decide +kernel
abbrev mi_X5_meetingOf : Mi := (yX5_meetingOf, cX5_meetingOf, 4, (some (.object "RatchetPost$Thing")), 9)
theorem ok_X5_meetingOf : okM mi_X5_meetingOf 2 := ⟨wG_of 66 (by decide +kernel) (by decide +kernel), wG_of 453 (by decide +kernel) (by decide +kernel), (by decide +kernel), (by decide +kernel)⟩
theorem pl_X5_meetingOf : plainName mi_X5_meetingOf.1.cls = true := by decide +kernel
abbrev mi_X5_firstRootOf : Mi := (yX5_firstRootOf, cX5_firstRootOf, 2, (some (.object "RatchetPost$Thing")), 9)
theorem ok_X5_firstRootOf : okM mi_X5_firstRootOf 1 := ⟨wG_of 66 (by decide +kernel) (by decide +kernel), wG_of 478 (by decide +kernel) (by decide +kernel), (by decide +kernel), (by decide +kernel)⟩
theorem pl_X5_firstRootOf : plainName mi_X5_firstRootOf.1.cls = true := by decide +kernel
abbrev mi_X5_rootOf : Mi := (yX5_rootOf, cX5_rootOf, 3, (some (.object "RatchetPost$Thing")), 9)
theorem ok_X5_rootOf : okM mi_X5_rootOf 2 := ⟨wG_of 66 (by decide +kernel) (by decide +kernel), wG_of 482 (by decide +kernel) (by decide +kernel), (by decide +kernel), (by decide +kernel)⟩
theorem pl_X5_rootOf : plainName mi_X5_rootOf.1.cls = true := by decide +kernel
abbrev mi_X5_chainOf : Mi := (yX5_chainOf, cX5_chainOf, 2, (some (.object "RatchetPost$Thing")), 9)
theorem ok_X5_chainOf : okM mi_X5_chainOf 1 := ⟨wG_of 66 (by decide +kernel) (by decide +kernel), wG_of 490 (by decide +kernel) (by decide +kernel), (by decide +kernel), (by decide +kernel)⟩
theorem pl_X5_chainOf : plainName mi_X5_chainOf.1.cls = true := by decide +kernel
abbrev mi_X5_nextOf : Mi := (yX5_nextOf, cX5_nextOf, 2, (some (.object "RatchetPost$Thing")), 9)
theorem ok_X5_nextOf : okM mi_X5_nextOf 1 := ⟨wG_of 66 (by decide +kernel) (by decide +kernel), wG_of 532 (by decide +kernel) (by decide +kernel), (by decide +kernel), (by decide +kernel)⟩
theorem pl_X5_nextOf : plainName mi_X5_nextOf.1.cls = true := by decide +kernel
abbrev mi_X5_keyOf : Mi := (yX5_keyOf, cX5_keyOf, 2, (some (.object "RatchetPost$Thing")), 9)
theorem ok_X5_keyOf : okM mi_X5_keyOf 1 := ⟨wG_of 66 (by decide +kernel) (by decide +kernel), wG_of 499 (by decide +kernel) (by decide +kernel), (by decide +kernel), (by decide +kernel)⟩
theorem pl_X5_keyOf : plainName mi_X5_keyOf.1.cls = true := by decide +kernel
abbrev mi_X5_comeOf : Mi := (yX5_comeOf, cX5_comeOf, 6, (some (.object "RatchetPost$Thing")), 8)
theorem ok_X5_comeOf : okM mi_X5_comeOf 4 := ⟨wG_of 66 (by decide +kernel) (by decide +kernel), wG_of 466 (by decide +kernel) (by decide +kernel), (by decide +kernel), (by decide +kernel)⟩
theorem pl_X5_comeOf : plainName mi_X5_comeOf.1.cls = true := by decide +kernel
abbrev mi_X5_show : Mi := (yX5_show, cX5_show, 2, (some .int), 1)
theorem ok_X5_show : okM mi_X5_show 1 := ⟨wG_of 66 (by decide +kernel) (by decide +kernel), wG_of 655 (by decide +kernel) (by decide +kernel), (by decide +kernel), (by decide +kernel)⟩
theorem pl_X5_show : plainName mi_X5_show.1.cls = true := by decide +kernel
abbrev mi_X5_settle : Mi := (yX5_settle, cX5_settle, 3, none, 5)
theorem ok_X5_settle : okM mi_X5_settle 0 := ⟨wG_of 66 (by decide +kernel) (by decide +kernel), wG_of 659 (by decide +kernel) (by decide +kernel), (by decide +kernel), (by decide +kernel)⟩
theorem pl_X5_settle : plainName mi_X5_settle.1.cls = true := by decide +kernel
abbrev mi_X6_init : Mi := (yX6_init, cX6_init, 1, none, 2)
theorem ok_X6_init : okM mi_X6_init 0 := ⟨wG_of 72 (by decide +kernel) (by decide +kernel), wG_of 176 (by decide +kernel) (by decide +kernel), (by decide +kernel), (by decide +kernel)⟩
theorem pl_X6_init : plainName mi_X6_init.1.cls = true := by decide +kernel
abbrev mi_X6_note : Mi := (yX6_note, cX6_note, 2, none, 1)
theorem ok_X6_note : okM mi_X6_note 1 := ⟨wG_of 72 (by decide +kernel) (by decide +kernel), wG_of 754 (by decide +kernel) (by decide +kernel), (by decide +kernel), (by decide +kernel)⟩
theorem pl_X6_note : plainName mi_X6_note.1.cls = true := by decide +kernel
abbrev mi_X7_init : Mi := (yX7_init, cX7_init, 1, none, 2)
theorem ok_X7_init : okM mi_X7_init 0 := ⟨wG_of 71 (by decide +kernel) (by decide +kernel), wG_of 161 (by decide +kernel) (by decide +kernel), (by decide +kernel), (by decide +kernel)⟩
theorem pl_X7_init : plainName mi_X7_init.1.cls = true := by decide +kernel
abbrev mi_X7_put : Mi := (yX7_put, cX7_put, 3, none, 1)
theorem ok_X7_put : okM mi_X7_put 2 := ⟨wG_of 71 (by decide +kernel) (by decide +kernel), wG_of 725 (by decide +kernel) (by decide +kernel), (by decide +kernel), (by decide +kernel)⟩
theorem pl_X7_put : plainName mi_X7_put.1.cls = true := by decide +kernel
abbrev mi_X8_init : Mi := (yX8_init, cX8_init, 2, none, 6)
theorem ok_X8_init : okM mi_X8_init 0 := ⟨wG_of 65 (by decide +kernel) (by decide +kernel), wG_of 88 (by decide +kernel) (by decide +kernel), (by decide +kernel), (by decide +kernel)⟩
theorem pl_X8_init : plainName mi_X8_init.1.cls = true := by decide +kernel
abbrev mi_X8_prime : Mi := (yX8_prime, cX8_prime, 3, (some .int), 2)
theorem ok_X8_prime : okM mi_X8_prime 2 := ⟨wG_of 65 (by decide +kernel) (by decide +kernel), wG_of 225 (by decide +kernel) (by decide +kernel), (by decide +kernel), (by decide +kernel)⟩
theorem pl_X8_prime : plainName mi_X8_prime.1.cls = true := by decide +kernel
abbrev mi_X8_limits : Mi := (yX8_limits, cX8_limits, 3, (some .int), 4)
theorem ok_X8_limits : okM mi_X8_limits 2 := ⟨wG_of 65 (by decide +kernel) (by decide +kernel), wG_of 237 (by decide +kernel) (by decide +kernel), (by decide +kernel), (by decide +kernel)⟩
theorem pl_X8_limits : plainName mi_X8_limits.1.cls = true := by decide +kernel
abbrev mi_X8_pair : Mi := (yX8_pair, cX8_pair, 1, (some .int), 3)
theorem ok_X8_pair : okM mi_X8_pair 0 := ⟨wG_of 65 (by decide +kernel) (by decide +kernel), wG_of 253 (by decide +kernel) (by decide +kernel), (by decide +kernel), (by decide +kernel)⟩
theorem pl_X8_pair : plainName mi_X8_pair.1.cls = true := by decide +kernel
abbrev mi_X8_secret : Mi := (yX8_secret, cX8_secret, 4, (some .int), 9)
theorem ok_X8_secret : okM mi_X8_secret 2 := ⟨wG_of 65 (by decide +kernel) (by decide +kernel), wG_of 325 (by decide +kernel) (by decide +kernel), (by decide +kernel), (by decide +kernel)⟩
theorem pl_X8_secret : plainName mi_X8_secret.1.cls = true := by decide +kernel
abbrev mi_X8_start : Mi := (yX8_start, cX8_start, 7, (some .int), 10)
theorem ok_X8_start : okM mi_X8_start 1 := ⟨wG_of 65 (by decide +kernel) (by decide +kernel), wG_of 437 (by decide +kernel) (by decide +kernel), (by decide +kernel), (by decide +kernel)⟩
theorem pl_X8_start : plainName mi_X8_start.1.cls = true := by decide +kernel
abbrev mi_X8_send : Mi := (yX8_send, cX8_send, 6, (some .int), 10)
theorem ok_X8_send : okM mi_X8_send 2 := ⟨wG_of 65 (by decide +kernel) (by decide +kernel), wG_of 495 (by decide +kernel) (by decide +kernel), (by decide +kernel), (by decide +kernel)⟩
theorem pl_X8_send : plainName mi_X8_send.1.cls = true := by decide +kernel
abbrev mi_X8_alter : Mi := (yX8_alter, cX8_alter, 4, (some .int), 2)
theorem ok_X8_alter : okM mi_X8_alter 2 := ⟨wG_of 65 (by decide +kernel) (by decide +kernel), wG_of 536 (by decide +kernel) (by decide +kernel), (by decide +kernel), (by decide +kernel)⟩
theorem pl_X8_alter : plainName mi_X8_alter.1.cls = true := by decide +kernel
abbrev mi_X8_take : Mi := (yX8_take, cX8_take, 6, (some .int), 13)
theorem ok_X8_take : okM mi_X8_take 2 := ⟨wG_of 65 (by decide +kernel) (by decide +kernel), wG_of 544 (by decide +kernel) (by decide +kernel), (by decide +kernel), (by decide +kernel)⟩
theorem pl_X8_take : plainName mi_X8_take.1.cls = true := by decide +kernel
abbrev mi_X8_see : Mi := (yX8_see, cX8_see, 5, (some .int), 6)
theorem ok_X8_see : okM mi_X8_see 1 := ⟨wG_of 65 (by decide +kernel) (by decide +kernel), wG_of 651 (by decide +kernel) (by decide +kernel), (by decide +kernel), (by decide +kernel)⟩
theorem pl_X8_see : plainName mi_X8_see.1.cls = true := by decide +kernel
abbrev mi_X8_known : Mi := (yX8_known, cX8_known, 3, (some .int), 2)
theorem ok_X8_known : okM mi_X8_known 1 := ⟨wG_of 65 (by decide +kernel) (by decide +kernel), wG_of 681 (by decide +kernel) (by decide +kernel), (by decide +kernel), (by decide +kernel)⟩
theorem pl_X8_known : plainName mi_X8_known.1.cls = true := by decide +kernel
abbrev mi_X8_steps : Mi := (yX8_steps, cX8_steps, 3, (some .int), 2)
theorem ok_X8_steps : okM mi_X8_steps 1 := ⟨wG_of 65 (by decide +kernel) (by decide +kernel), wG_of 685 (by decide +kernel) (by decide +kernel), (by decide +kernel), (by decide +kernel)⟩
theorem pl_X8_steps : plainName mi_X8_steps.1.cls = true := by decide +kernel
abbrev mi_X8_heals : Mi := (yX8_heals, cX8_heals, 4, (some .int), 3)
theorem ok_X8_heals : okM mi_X8_heals 1 := ⟨wG_of 65 (by decide +kernel) (by decide +kernel), wG_of 689 (by decide +kernel) (by decide +kernel), (by decide +kernel), (by decide +kernel)⟩
theorem pl_X8_heals : plainName mi_X8_heals.1.cls = true := by decide +kernel
abbrev mi_X8_same : Mi := (yX8_same, cX8_same, 4, (some .int), 3)
theorem ok_X8_same : okM mi_X8_same 1 := ⟨wG_of 65 (by decide +kernel) (by decide +kernel), wG_of 693 (by decide +kernel) (by decide +kernel), (by decide +kernel), (by decide +kernel)⟩
theorem pl_X8_same : plainName mi_X8_same.1.cls = true := by decide +kernel
abbrev mi_X8_told : Mi := (yX8_told, cX8_told, 4, (some .int), 3)
theorem ok_X8_told : okM mi_X8_told 2 := ⟨wG_of 65 (by decide +kernel) (by decide +kernel), wG_of 697 (by decide +kernel) (by decide +kernel), (by decide +kernel), (by decide +kernel)⟩
theorem pl_X8_told : plainName mi_X8_told.1.cls = true := by decide +kernel
abbrev mi_X8_skipped : Mi := (yX8_skipped, cX8_skipped, 6, (some .int), 2)
theorem ok_X8_skipped : okM mi_X8_skipped 3 := ⟨wG_of 65 (by decide +kernel) (by decide +kernel), wG_of 704 (by decide +kernel) (by decide +kernel), (by decide +kernel), (by decide +kernel)⟩
theorem pl_X8_skipped : plainName mi_X8_skipped.1.cls = true := by decide +kernel
abbrev mi_X8_letter : Mi := (yX8_letter, cX8_letter, 4, (some .int), 2)
theorem ok_X8_letter : okM mi_X8_letter 2 := ⟨wG_of 65 (by decide +kernel) (by decide +kernel), wG_of 708 (by decide +kernel) (by decide +kernel), (by decide +kernel), (by decide +kernel)⟩
theorem pl_X8_letter : plainName mi_X8_letter.1.cls = true := by decide +kernel
abbrev mi_X8_count : Mi := (yX8_count, cX8_count, 2, (some .int), 2)
theorem ok_X8_count : okM mi_X8_count 1 := ⟨wG_of 65 (by decide +kernel) (by decide +kernel), wG_of 712 (by decide +kernel) (by decide +kernel), (by decide +kernel), (by decide +kernel)⟩
theorem pl_X8_count : plainName mi_X8_count.1.cls = true := by decide +kernel
abbrev mi_X8_hold : Mi := (yX8_hold, cX8_hold, 5, (some .int), 3)
theorem ok_X8_hold : okM mi_X8_hold 3 := ⟨wG_of 65 (by decide +kernel) (by decide +kernel), wG_of 717 (by decide +kernel) (by decide +kernel), (by decide +kernel), (by decide +kernel)⟩
theorem pl_X8_hold : plainName mi_X8_hold.1.cls = true := by decide +kernel
abbrev mi_X8_tray : Mi := (yX8_tray, cX8_tray, 3, (some .int), 2)
theorem ok_X8_tray : okM mi_X8_tray 1 := ⟨wG_of 65 (by decide +kernel) (by decide +kernel), wG_of 737 (by decide +kernel) (by decide +kernel), (by decide +kernel), (by decide +kernel)⟩
theorem pl_X8_tray : plainName mi_X8_tray.1.cls = true := by decide +kernel
abbrev mi_X8_act : Mi := (yX8_act, cX8_act, 5, (some .int), 21)
theorem ok_X8_act : okM mi_X8_act 3 := ⟨wG_of 65 (by decide +kernel) (by decide +kernel), wG_of 741 (by decide +kernel) (by decide +kernel), (by decide +kernel), (by decide +kernel)⟩
theorem pl_X8_act : plainName mi_X8_act.1.cls = true := by decide +kernel
abbrev mi_X8_trace : Mi := (yX8_trace, cX8_trace, 2, (some .int), 1)
theorem ok_X8_trace : okM mi_X8_trace 1 := ⟨wG_of 65 (by decide +kernel) (by decide +kernel), wG_of 761 (by decide +kernel) (by decide +kernel), (by decide +kernel), (by decide +kernel)⟩
theorem pl_X8_trace : plainName mi_X8_trace.1.cls = true := by decide +kernel
abbrev mi_X8_forge : Mi := (yX8_forge, cX8_forge, 5, (some .int), 4)
theorem ok_X8_forge : okM mi_X8_forge 3 := ⟨wG_of 65 (by decide +kernel) (by decide +kernel), wG_of 765 (by decide +kernel) (by decide +kernel), (by decide +kernel), (by decide +kernel)⟩
theorem pl_X8_forge : plainName mi_X8_forge.1.cls = true := by decide +kernel
abbrev mi_X8_status : Mi := (yX8_status, cX8_status, 1, (some .int), 1)
theorem ok_X8_status : okM mi_X8_status 0 := ⟨wG_of 65 (by decide +kernel) (by decide +kernel), wG_of 791 (by decide +kernel) (by decide +kernel), (by decide +kernel), (by decide +kernel)⟩
theorem pl_X8_status : plainName mi_X8_status.1.cls = true := by decide +kernel
abbrev mi_X8_refuse : Mi := (yX8_refuse, cX8_refuse, 2, (some .int), 1)
theorem ok_X8_refuse : okM mi_X8_refuse 1 := ⟨wG_of 65 (by decide +kernel) (by decide +kernel), wG_of 229 (by decide +kernel) (by decide +kernel), (by decide +kernel), (by decide +kernel)⟩
theorem pl_X8_refuse : plainName mi_X8_refuse.1.cls = true := by decide +kernel
abbrev mi_X8_done : Mi := (yX8_done, cX8_done, 2, (some .int), 1)
theorem ok_X8_done : okM mi_X8_done 1 := ⟨wG_of 65 (by decide +kernel) (by decide +kernel), wG_of 233 (by decide +kernel) (by decide +kernel), (by decide +kernel), (by decide +kernel)⟩
theorem pl_X8_done : plainName mi_X8_done.1.cls = true := by decide +kernel
abbrev mi_X8_endAt : Mi := (yX8_endAt, cX8_endAt, 2, (some (.object "RatchetPost$End")), 1)
theorem ok_X8_endAt : okM mi_X8_endAt 1 := ⟨wG_of 65 (by decide +kernel) (by decide +kernel), wG_of 329 (by decide +kernel) (by decide +kernel), (by decide +kernel), (by decide +kernel)⟩
theorem pl_X8_endAt : plainName mi_X8_endAt.1.cls = true := by decide +kernel
abbrev mi_X8_lowerOf : Mi := (yX8_lowerOf, cX8_lowerOf, 2, (some (.object "RatchetPost$End")), 2)
theorem ok_X8_lowerOf : okM mi_X8_lowerOf 1 := ⟨wG_of 65 (by decide +kernel) (by decide +kernel), wG_of 441 (by decide +kernel) (by decide +kernel), (by decide +kernel), (by decide +kernel)⟩
theorem pl_X8_lowerOf : plainName mi_X8_lowerOf.1.cls = true := by decide +kernel
abbrev mi_X8_otherOf : Mi := (yX8_otherOf, cX8_otherOf, 2, (some (.object "RatchetPost$End")), 2)
theorem ok_X8_otherOf : okM mi_X8_otherOf 1 := ⟨wG_of 65 (by decide +kernel) (by decide +kernel), wG_of 445 (by decide +kernel) (by decide +kernel), (by decide +kernel), (by decide +kernel)⟩
theorem pl_X8_otherOf : plainName mi_X8_otherOf.1.cls = true := by decide +kernel
abbrev mi_X8_letterAt : Mi := (yX8_letterAt, cX8_letterAt, 2, (some (.object "RatchetPost$Letter")), 1)
theorem ok_X8_letterAt : okM mi_X8_letterAt 1 := ⟨wG_of 65 (by decide +kernel) (by decide +kernel), wG_of 540 (by decide +kernel) (by decide +kernel), (by decide +kernel), (by decide +kernel)⟩
theorem pl_X8_letterAt : plainName mi_X8_letterAt.1.cls = true := by decide +kernel
abbrev mi_X8_trayAt : Mi := (yX8_trayAt, cX8_trayAt, 2, (some (.object "RatchetPost$Tray")), 1)
theorem ok_X8_trayAt : okM mi_X8_trayAt 1 := ⟨wG_of 65 (by decide +kernel) (by decide +kernel), wG_of 721 (by decide +kernel) (by decide +kernel), (by decide +kernel), (by decide +kernel)⟩
theorem pl_X8_trayAt : plainName mi_X8_trayAt.1.cls = true := by decide +kernel
abbrev mi_X8_valueOf : Mi := (yX8_valueOf, cX8_valueOf, 1, (some .int), 1)
theorem ok_X8_valueOf : okM mi_X8_valueOf 1 := ⟨wG_of 65 (by decide +kernel) (by decide +kernel), wG_of 700 (by decide +kernel) (by decide +kernel), (by decide +kernel), (by decide +kernel)⟩
theorem pl_X8_valueOf : plainName mi_X8_valueOf.1.cls = true := by decide +kernel
abbrev mi_X8_takeByKept : Mi := (yX8_takeByKept, cX8_takeByKept, 5, (some .int), 3)
theorem ok_X8_takeByKept : okM mi_X8_takeByKept 3 := ⟨wG_of 65 (by decide +kernel) (by decide +kernel), wG_of 560 (by decide +kernel) (by decide +kernel), (by decide +kernel), (by decide +kernel)⟩
theorem pl_X8_takeByKept : plainName mi_X8_takeByKept.1.cls = true := by decide +kernel
abbrev mi_X8_takeByChain : Mi := (yX8_takeByChain, cX8_takeByChain, 5, (some .int), 11)
theorem ok_X8_takeByChain : okM mi_X8_takeByChain 2 := ⟨wG_of 65 (by decide +kernel) (by decide +kernel), wG_of 570 (by decide +kernel) (by decide +kernel), (by decide +kernel), (by decide +kernel)⟩
theorem pl_X8_takeByChain : plainName mi_X8_takeByChain.1.cls = true := by decide +kernel
abbrev mi_X8_takeNewPublic : Mi := (yX8_takeNewPublic, cX8_takeNewPublic, 7, (some .int), 12)
theorem ok_X8_takeNewPublic : okM mi_X8_takeNewPublic 2 := ⟨wG_of 65 (by decide +kernel) (by decide +kernel), wG_of 625 (by decide +kernel) (by decide +kernel), (by decide +kernel), (by decide +kernel)⟩
theorem pl_X8_takeNewPublic : plainName mi_X8_takeNewPublic.1.cls = true := by decide +kernel
abbrev mi_X8_turn : Mi := (yX8_turn, cX8_turn, 4, none, 11)
theorem ok_X8_turn : okM mi_X8_turn 2 := ⟨wG_of 65 (by decide +kernel) (by decide +kernel), wG_of 639 (by decide +kernel) (by decide +kernel), (by decide +kernel), (by decide +kernel)⟩
theorem pl_X8_turn : plainName mi_X8_turn.1.cls = true := by decide +kernel
abbrev mi_X8_meetingAt : Mi := (yX8_meetingAt, cX8_meetingAt, 3, (some (.object "RatchetPost$Thing")), 10)
theorem ok_X8_meetingAt : okM mi_X8_meetingAt 2 := ⟨wG_of 65 (by decide +kernel) (by decide +kernel), wG_of 643 (by decide +kernel) (by decide +kernel), (by decide +kernel), (by decide +kernel)⟩
theorem pl_X8_meetingAt : plainName mi_X8_meetingAt.1.cls = true := by decide +kernel
abbrev mi_X8_skipTo : Mi := (yX8_skipTo, cX8_skipTo, 4, none, 10)
theorem ok_X8_skipTo : okM mi_X8_skipTo 2 := ⟨wG_of 65 (by decide +kernel) (by decide +kernel), wG_of 579 (by decide +kernel) (by decide +kernel), (by decide +kernel), (by decide +kernel)⟩
theorem pl_X8_skipTo : plainName mi_X8_skipTo.1.cls = true := by decide +kernel
abbrev mi_X8_passOne : Mi := (yX8_passOne, cX8_passOne, 2, none, 10)
theorem ok_X8_passOne : okM mi_X8_passOne 1 := ⟨wG_of 65 (by decide +kernel) (by decide +kernel), wG_of 621 (by decide +kernel) (by decide +kernel), (by decide +kernel), (by decide +kernel)⟩
theorem pl_X8_passOne : plainName mi_X8_passOne.1.cls = true := by decide +kernel
abbrev mi_X8_keyAhead : Mi := (yX8_keyAhead, cX8_keyAhead, 5, (some .int), 2)
theorem ok_X8_keyAhead : okM mi_X8_keyAhead 2 := ⟨wG_of 65 (by decide +kernel) (by decide +kernel), wG_of 575 (by decide +kernel) (by decide +kernel), (by decide +kernel), (by decide +kernel)⟩
theorem pl_X8_keyAhead : plainName mi_X8_keyAhead.1.cls = true := by decide +kernel
abbrev mi_X8_opened : Mi := (yX8_opened, cX8_opened, 4, (some .int), 2)
theorem ok_X8_opened : okM mi_X8_opened 2 := ⟨wG_of 65 (by decide +kernel) (by decide +kernel), wG_of 564 (by decide +kernel) (by decide +kernel), (by decide +kernel), (by decide +kernel)⟩
theorem pl_X8_opened : plainName mi_X8_opened.1.cls = true := by decide +kernel
abbrev mi_X8_endOldSkipped : Mi := (yX8_endOldSkipped, cX8_endOldSkipped, 2, none, 3)
theorem ok_X8_endOldSkipped : okM mi_X8_endOldSkipped 0 := ⟨wG_of 65 (by decide +kernel) (by decide +kernel), wG_of 241 (by decide +kernel) (by decide +kernel), (by decide +kernel), (by decide +kernel)⟩
theorem pl_X8_endOldSkipped : plainName mi_X8_endOldSkipped.1.cls = true := by decide +kernel
abbrev mi_X8_holdOfLetter : Mi := (yX8_holdOfLetter, cX8_holdOfLetter, 4, (some .int), 2)
theorem ok_X8_holdOfLetter : okM mi_X8_holdOfLetter 3 := ⟨wG_of 65 (by decide +kernel) (by decide +kernel), wG_of 729 (by decide +kernel) (by decide +kernel), (by decide +kernel), (by decide +kernel)⟩
theorem pl_X8_holdOfLetter : plainName mi_X8_holdOfLetter.1.cls = true := by decide +kernel
abbrev mi_X8_holdOfEnd : Mi := (yX8_holdOfEnd, cX8_holdOfEnd, 4, (some .int), 2)
theorem ok_X8_holdOfEnd : okM mi_X8_holdOfEnd 3 := ⟨wG_of 65 (by decide +kernel) (by decide +kernel), wG_of 733 (by decide +kernel) (by decide +kernel), (by decide +kernel), (by decide +kernel)⟩
theorem pl_X8_holdOfEnd : plainName mi_X8_holdOfEnd.1.cls = true := by decide +kernel
abbrev mi_X8_forgeKind : Mi := (yX8_forgeKind, cX8_forgeKind, 3, (some .int), 3)
theorem ok_X8_forgeKind : okM mi_X8_forgeKind 2 := ⟨wG_of 65 (by decide +kernel) (by decide +kernel), wG_of 772 (by decide +kernel) (by decide +kernel), (by decide +kernel), (by decide +kernel)⟩
theorem pl_X8_forgeKind : plainName mi_X8_forgeKind.1.cls = true := by decide +kernel
abbrev mi_X8_forgeHeader : Mi := (yX8_forgeHeader, cX8_forgeHeader, 4, (some .int), 2)
theorem ok_X8_forgeHeader : okM mi_X8_forgeHeader 2 := ⟨wG_of 65 (by decide +kernel) (by decide +kernel), wG_of 779 (by decide +kernel) (by decide +kernel), (by decide +kernel), (by decide +kernel)⟩
theorem pl_X8_forgeHeader : plainName mi_X8_forgeHeader.1.cls = true := by decide +kernel
abbrev mi_X8_forgeCopy : Mi := (yX8_forgeCopy, cX8_forgeCopy, 6, (some .int), 2)
theorem ok_X8_forgeCopy : okM mi_X8_forgeCopy 2 := ⟨wG_of 65 (by decide +kernel) (by decide +kernel), wG_of 783 (by decide +kernel) (by decide +kernel), (by decide +kernel), (by decide +kernel)⟩
theorem pl_X8_forgeCopy : plainName mi_X8_forgeCopy.1.cls = true := by decide +kernel
abbrev mi_X8_forgeRow : Mi := (yX8_forgeRow, cX8_forgeRow, 2, (some .int), 3)
theorem ok_X8_forgeRow : okM mi_X8_forgeRow 1 := ⟨wG_of 65 (by decide +kernel) (by decide +kernel), wG_of 787 (by decide +kernel) (by decide +kernel), (by decide +kernel), (by decide +kernel)⟩
theorem pl_X8_forgeRow : plainName mi_X8_forgeRow.1.cls = true := by decide +kernel
abbrev mi_X8_above : Mi := (yX8_above, cX8_above, 1, (some .int), 1)
theorem ok_X8_above : okM mi_X8_above 1 := ⟨wG_of 65 (by decide +kernel) (by decide +kernel), wG_of 750 (by decide +kernel) (by decide +kernel), (by decide +kernel), (by decide +kernel)⟩
theorem pl_X8_above : plainName mi_X8_above.1.cls = true := by decide +kernel
abbrev mi_X8_isUnder : Mi := (yX8_isUnder, cX8_isUnder, 4, (some .boolean), 2)
theorem ok_X8_isUnder : okM mi_X8_isUnder 2 := ⟨wG_of 65 (by decide +kernel) (by decide +kernel), wG_of 775 (by decide +kernel) (by decide +kernel), (by decide +kernel), (by decide +kernel)⟩
theorem pl_X8_isUnder : plainName mi_X8_isUnder.1.cls = true := by decide +kernel
abbrev mi_X8_ownBody : Mi := (yX8_ownBody, cX8_ownBody, 2, (some .int), 1)
theorem ok_X8_ownBody : okM mi_X8_ownBody 2 := ⟨wG_of 65 (by decide +kernel) (by decide +kernel), wG_of 747 (by decide +kernel) (by decide +kernel), (by decide +kernel), (by decide +kernel)⟩
theorem pl_X8_ownBody : plainName mi_X8_ownBody.1.cls = true := by decide +kernel
abbrev mi_X8_run (D : Nat) : Mi := (yX8_run, cX8_run, 10, (some .int), D)
theorem ok_X8_run : okM (mi_X8_run 0) 6 := ⟨wG_of 65 (by decide +kernel) (by decide +kernel), wG_of 744 (by decide +kernel) (by decide +kernel), (by decide +kernel), (by decide +kernel)⟩
theorem pl_X8_run : plainName (mi_X8_run 0).1.cls = true := by decide +kernel
theorem okD_X8_run (D : Nat) : okM (mi_X8_run D) 6 := ok_X8_run
theorem plD_X8_run (D : Nat) : plainName (mi_X8_run D).1.cls = true := pl_X8_run
abbrev mi_X8_tickOf : Mi := (yX8_tickOf, cX8_tickOf, 2, (some .int), 1)
theorem ok_X8_tickOf : okM mi_X8_tickOf 1 := ⟨wG_of 65 (by decide +kernel) (by decide +kernel), wG_of 757 (by decide +kernel) (by decide +kernel), (by decide +kernel), (by decide +kernel)⟩
theorem pl_X8_tickOf : plainName mi_X8_tickOf.1.cls = true := by decide +kernel
abbrev mi_X9_init : Mi := (yX9_init, cX9_init, 1, none, 2)
theorem ok_X9_init : okM mi_X9_init 0 := ⟨wG_of 73 (by decide +kernel) (by decide +kernel), wG_of 796 (by decide +kernel) (by decide +kernel), (by decide +kernel), (by decide +kernel)⟩
theorem pl_X9_init : plainName mi_X9_init.1.cls = true := by decide +kernel
abbrev mi_X9_in : Mi := (yX9_in, cX9_in, 3, (some .boolean), 1)
theorem ok_X9_in : okM mi_X9_in 3 := ⟨wG_of 73 (by decide +kernel) (by decide +kernel), wG_of 944 (by decide +kernel) (by decide +kernel), (by decide +kernel), (by decide +kernel)⟩
theorem pl_X9_in : plainName mi_X9_in.1.cls = true := by decide +kernel
abbrev mi_X9_refused : Mi := (yX9_refused, cX9_refused, 2, (some .int), 1)
theorem ok_X9_refused : okM mi_X9_refused 1 := ⟨wG_of 73 (by decide +kernel) (by decide +kernel), wG_of 948 (by decide +kernel) (by decide +kernel), (by decide +kernel), (by decide +kernel)⟩
theorem pl_X9_refused : plainName mi_X9_refused.1.cls = true := by decide +kernel
abbrev mi_X9_done : Mi := (yX9_done, cX9_done, 2, (some .int), 1)
theorem ok_X9_done : okM mi_X9_done 1 := ⟨wG_of 73 (by decide +kernel) (by decide +kernel), wG_of 952 (by decide +kernel) (by decide +kernel), (by decide +kernel), (by decide +kernel)⟩
theorem pl_X9_done : plainName mi_X9_done.1.cls = true := by decide +kernel
abbrev mi_X9_isEnd : Mi := (yX9_isEnd, cX9_isEnd, 2, (some .boolean), 2)
theorem ok_X9_isEnd : okM mi_X9_isEnd 1 := ⟨wG_of 73 (by decide +kernel) (by decide +kernel), wG_of 976 (by decide +kernel) (by decide +kernel), (by decide +kernel), (by decide +kernel)⟩
theorem pl_X9_isEnd : plainName mi_X9_isEnd.1.cls = true := by decide +kernel
abbrev mi_X9_isLetter : Mi := (yX9_isLetter, cX9_isLetter, 2, (some .boolean), 2)
theorem ok_X9_isLetter : okM mi_X9_isLetter 1 := ⟨wG_of 73 (by decide +kernel) (by decide +kernel), wG_of 1028 (by decide +kernel) (by decide +kernel), (by decide +kernel), (by decide +kernel)⟩
theorem pl_X9_isLetter : plainName mi_X9_isLetter.1.cls = true := by decide +kernel
abbrev mi_X9_mix : Mi := (yX9_mix, cX9_mix, 3, (some .int), 1)
theorem ok_X9_mix : okM mi_X9_mix 2 := ⟨wG_of 73 (by decide +kernel) (by decide +kernel), wG_of 1008 (by decide +kernel) (by decide +kernel), (by decide +kernel), (by decide +kernel)⟩
theorem pl_X9_mix : plainName mi_X9_mix.1.cls = true := by decide +kernel
abbrev mi_X9_power : Mi := (yX9_power, cX9_power, 5, (some .int), 1)
theorem ok_X9_power : okM mi_X9_power 2 := ⟨wG_of 73 (by decide +kernel) (by decide +kernel), wG_of 1000 (by decide +kernel) (by decide +kernel), (by decide +kernel), (by decide +kernel)⟩
theorem pl_X9_power : plainName mi_X9_power.1.cls = true := by decide +kernel
abbrev mi_X9_publicOf : Mi := (yX9_publicOf, cX9_publicOf, 2, (some .int), 2)
theorem ok_X9_publicOf : okM mi_X9_publicOf 1 := ⟨wG_of 73 (by decide +kernel) (by decide +kernel), wG_of 996 (by decide +kernel) (by decide +kernel), (by decide +kernel), (by decide +kernel)⟩
theorem pl_X9_publicOf : plainName mi_X9_publicOf.1.cls = true := by decide +kernel
abbrev mi_X9_thing : Mi := (yX9_thing, cX9_thing, 6, (some .int), 1)
theorem ok_X9_thing : okM mi_X9_thing 4 := ⟨wG_of 73 (by decide +kernel) (by decide +kernel), wG_of 980 (by decide +kernel) (by decide +kernel), (by decide +kernel), (by decide +kernel)⟩
theorem pl_X9_thing : plainName mi_X9_thing.1.cls = true := by decide +kernel
abbrev mi_X9_meeting : Mi := (yX9_meeting, cX9_meeting, 5, (some .int), 3)
theorem ok_X9_meeting : okM mi_X9_meeting 2 := ⟨wG_of 73 (by decide +kernel) (by decide +kernel), wG_of 992 (by decide +kernel) (by decide +kernel), (by decide +kernel), (by decide +kernel)⟩
theorem pl_X9_meeting : plainName mi_X9_meeting.1.cls = true := by decide +kernel
abbrev mi_X9_rootOf : Mi := (yX9_rootOf, cX9_rootOf, 3, (some .int), 2)
theorem ok_X9_rootOf : okM mi_X9_rootOf 2 := ⟨wG_of 73 (by decide +kernel) (by decide +kernel), wG_of 1004 (by decide +kernel) (by decide +kernel), (by decide +kernel), (by decide +kernel)⟩
theorem pl_X9_rootOf : plainName mi_X9_rootOf.1.cls = true := by decide +kernel
abbrev mi_X9_chainOf : Mi := (yX9_chainOf, cX9_chainOf, 2, (some .int), 2)
theorem ok_X9_chainOf : okM mi_X9_chainOf 1 := ⟨wG_of 73 (by decide +kernel) (by decide +kernel), wG_of 1012 (by decide +kernel) (by decide +kernel), (by decide +kernel), (by decide +kernel)⟩
theorem pl_X9_chainOf : plainName mi_X9_chainOf.1.cls = true := by decide +kernel
abbrev mi_X9_keyOf : Mi := (yX9_keyOf, cX9_keyOf, 2, (some .int), 2)
theorem ok_X9_keyOf : okM mi_X9_keyOf 1 := ⟨wG_of 73 (by decide +kernel) (by decide +kernel), wG_of 1020 (by decide +kernel) (by decide +kernel), (by decide +kernel), (by decide +kernel)⟩
theorem pl_X9_keyOf : plainName mi_X9_keyOf.1.cls = true := by decide +kernel
abbrev mi_X9_prime : Mi := (yX9_prime, cX9_prime, 3, (some .int), 2)
theorem ok_X9_prime : okM mi_X9_prime 2 := ⟨wG_of 73 (by decide +kernel) (by decide +kernel), wG_of 941 (by decide +kernel) (by decide +kernel), (by decide +kernel), (by decide +kernel)⟩
theorem pl_X9_prime : plainName mi_X9_prime.1.cls = true := by decide +kernel
abbrev mi_X9_limits : Mi := (yX9_limits, cX9_limits, 3, (some .int), 3)
theorem ok_X9_limits : okM mi_X9_limits 2 := ⟨wG_of 73 (by decide +kernel) (by decide +kernel), wG_of 956 (by decide +kernel) (by decide +kernel), (by decide +kernel), (by decide +kernel)⟩
theorem pl_X9_limits : plainName mi_X9_limits.1.cls = true := by decide +kernel
abbrev mi_X9_pair : Mi := (yX9_pair, cX9_pair, 1, (some .int), 2)
theorem ok_X9_pair : okM mi_X9_pair 0 := ⟨wG_of 73 (by decide +kernel) (by decide +kernel), wG_of 968 (by decide +kernel) (by decide +kernel), (by decide +kernel), (by decide +kernel)⟩
theorem pl_X9_pair : plainName mi_X9_pair.1.cls = true := by decide +kernel
abbrev mi_X9_secret : Mi := (yX9_secret, cX9_secret, 3, (some .int), 3)
theorem ok_X9_secret : okM mi_X9_secret 2 := ⟨wG_of 73 (by decide +kernel) (by decide +kernel), wG_of 972 (by decide +kernel) (by decide +kernel), (by decide +kernel), (by decide +kernel)⟩
theorem pl_X9_secret : plainName mi_X9_secret.1.cls = true := by decide +kernel
abbrev mi_X9_next : Mi := (yX9_next, cX9_next, 4, (some .int), 1)
theorem ok_X9_next : okM mi_X9_next 1 := ⟨wG_of 73 (by decide +kernel) (by decide +kernel), wG_of 988 (by decide +kernel) (by decide +kernel), (by decide +kernel), (by decide +kernel)⟩
theorem pl_X9_next : plainName mi_X9_next.1.cls = true := by decide +kernel
abbrev mi_X9_start : Mi := (yX9_start, cX9_start, 7, (some .int), 4)
theorem ok_X9_start : okM mi_X9_start 1 := ⟨wG_of 73 (by decide +kernel) (by decide +kernel), wG_of 984 (by decide +kernel) (by decide +kernel), (by decide +kernel), (by decide +kernel)⟩
theorem pl_X9_start : plainName mi_X9_start.1.cls = true := by decide +kernel
abbrev mi_X9_send : Mi := (yX9_send, cX9_send, 5, (some .int), 3)
theorem ok_X9_send : okM mi_X9_send 2 := ⟨wG_of 73 (by decide +kernel) (by decide +kernel), wG_of 1016 (by decide +kernel) (by decide +kernel), (by decide +kernel), (by decide +kernel)⟩
theorem pl_X9_send : plainName mi_X9_send.1.cls = true := by decide +kernel
abbrev mi_X9_alter : Mi := (yX9_alter, cX9_alter, 3, (some .int), 3)
theorem ok_X9_alter : okM mi_X9_alter 2 := ⟨wG_of 73 (by decide +kernel) (by decide +kernel), wG_of 1024 (by decide +kernel) (by decide +kernel), (by decide +kernel), (by decide +kernel)⟩
theorem pl_X9_alter : plainName mi_X9_alter.1.cls = true := by decide +kernel
abbrev mi_X9_drops : Mi := (yX9_drops, cX9_drops, 4, none, 1)
theorem ok_X9_drops : okM mi_X9_drops 2 := ⟨wG_of 73 (by decide +kernel) (by decide +kernel), wG_of 964 (by decide +kernel) (by decide +kernel), (by decide +kernel), (by decide +kernel)⟩
theorem pl_X9_drops : plainName mi_X9_drops.1.cls = true := by decide +kernel
abbrev mi_X9_expire : Mi := (yX9_expire, cX9_expire, 3, none, 2)
theorem ok_X9_expire : okM mi_X9_expire 0 := ⟨wG_of 73 (by decide +kernel) (by decide +kernel), wG_of 960 (by decide +kernel) (by decide +kernel), (by decide +kernel), (by decide +kernel)⟩
theorem pl_X9_expire : plainName mi_X9_expire.1.cls = true := by decide +kernel
abbrev mi_X9_keep : Mi := (yX9_keep, cX9_keep, 5, none, 2)
theorem ok_X9_keep : okM mi_X9_keep 3 := ⟨wG_of 73 (by decide +kernel) (by decide +kernel), wG_of 1060 (by decide +kernel) (by decide +kernel), (by decide +kernel), (by decide +kernel)⟩
theorem pl_X9_keep : plainName mi_X9_keep.1.cls = true := by decide +kernel
abbrev mi_X9_keptOf : Mi := (yX9_keptOf, cX9_keptOf, 4, (some .int), 1)
theorem ok_X9_keptOf : okM mi_X9_keptOf 2 := ⟨wG_of 73 (by decide +kernel) (by decide +kernel), wG_of 1036 (by decide +kernel) (by decide +kernel), (by decide +kernel), (by decide +kernel)⟩
theorem pl_X9_keptOf : plainName mi_X9_keptOf.1.cls = true := by decide +kernel
abbrev mi_X9_skip : Mi := (yX9_skip, cX9_skip, 3, none, 3)
theorem ok_X9_skip : okM mi_X9_skip 2 := ⟨wG_of 73 (by decide +kernel) (by decide +kernel), wG_of 1056 (by decide +kernel) (by decide +kernel), (by decide +kernel), (by decide +kernel)⟩
theorem pl_X9_skip : plainName mi_X9_skip.1.cls = true := by decide +kernel
abbrev mi_X9_byteOf : Mi := (yX9_byteOf, cX9_byteOf, 3, (some .int), 1)
theorem ok_X9_byteOf : okM mi_X9_byteOf 2 := ⟨wG_of 73 (by decide +kernel) (by decide +kernel), wG_of 1044 (by decide +kernel) (by decide +kernel), (by decide +kernel), (by decide +kernel)⟩
theorem pl_X9_byteOf : plainName mi_X9_byteOf.1.cls = true := by decide +kernel
abbrev mi_X9_isGood : Mi := (yX9_isGood, cX9_isGood, 3, (some .boolean), 2)
theorem ok_X9_isGood : okM mi_X9_isGood 2 := ⟨wG_of 73 (by decide +kernel) (by decide +kernel), wG_of 1040 (by decide +kernel) (by decide +kernel), (by decide +kernel), (by decide +kernel)⟩
theorem pl_X9_isGood : plainName mi_X9_isGood.1.cls = true := by decide +kernel
abbrev mi_X9_keyBehind : Mi := (yX9_keyBehind, cX9_keyBehind, 5, (some .int), 2)
theorem ok_X9_keyBehind : okM mi_X9_keyBehind 2 := ⟨wG_of 73 (by decide +kernel) (by decide +kernel), wG_of 1052 (by decide +kernel) (by decide +kernel), (by decide +kernel), (by decide +kernel)⟩
theorem pl_X9_keyBehind : plainName mi_X9_keyBehind.1.cls = true := by decide +kernel
abbrev mi_X9_hasLeft : Mi := (yX9_hasLeft, cX9_hasLeft, 5, (some .boolean), 1)
theorem ok_X9_hasLeft : okM mi_X9_hasLeft 2 := ⟨wG_of 73 (by decide +kernel) (by decide +kernel), wG_of 1072 (by decide +kernel) (by decide +kernel), (by decide +kernel), (by decide +kernel)⟩
theorem pl_X9_hasLeft : plainName mi_X9_hasLeft.1.cls = true := by decide +kernel
abbrev mi_X9_take : Mi := (yX9_take, cX9_take, 5, (some .int), 5)
theorem ok_X9_take : okM mi_X9_take 2 := ⟨wG_of 73 (by decide +kernel) (by decide +kernel), wG_of 1032 (by decide +kernel) (by decide +kernel), (by decide +kernel), (by decide +kernel)⟩
theorem pl_X9_take : plainName mi_X9_take.1.cls = true := by decide +kernel
abbrev mi_X9_further : Mi := (yX9_further, cX9_further, 5, (some .int), 4)
theorem ok_X9_further : okM mi_X9_further 2 := ⟨wG_of 73 (by decide +kernel) (by decide +kernel), wG_of 1048 (by decide +kernel) (by decide +kernel), (by decide +kernel), (by decide +kernel)⟩
theorem pl_X9_further : plainName mi_X9_further.1.cls = true := by decide +kernel
abbrev mi_X9_opened : Mi := (yX9_opened, cX9_opened, 2, none, 3)
theorem ok_X9_opened : okM mi_X9_opened 1 := ⟨wG_of 73 (by decide +kernel) (by decide +kernel), wG_of 1064 (by decide +kernel) (by decide +kernel), (by decide +kernel), (by decide +kernel)⟩
theorem pl_X9_opened : plainName mi_X9_opened.1.cls = true := by decide +kernel
abbrev mi_X9_anew : Mi := (yX9_anew, cX9_anew, 8, (some .int), 4)
theorem ok_X9_anew : okM mi_X9_anew 3 := ⟨wG_of 73 (by decide +kernel) (by decide +kernel), wG_of 1068 (by decide +kernel) (by decide +kernel), (by decide +kernel), (by decide +kernel)⟩
theorem pl_X9_anew : plainName mi_X9_anew.1.cls = true := by decide +kernel
abbrev mi_X9_shows : Mi := (yX9_shows, cX9_shows, 2, none, 1)
theorem ok_X9_shows : okM mi_X9_shows 1 := ⟨wG_of 73 (by decide +kernel) (by decide +kernel), wG_of 1080 (by decide +kernel) (by decide +kernel), (by decide +kernel), (by decide +kernel)⟩
theorem pl_X9_shows : plainName mi_X9_shows.1.cls = true := by decide +kernel
abbrev mi_X9_see : Mi := (yX9_see, cX9_see, 3, (some .int), 3)
theorem ok_X9_see : okM mi_X9_see 1 := ⟨wG_of 73 (by decide +kernel) (by decide +kernel), wG_of 1076 (by decide +kernel) (by decide +kernel), (by decide +kernel), (by decide +kernel)⟩
theorem pl_X9_see : plainName mi_X9_see.1.cls = true := by decide +kernel
abbrev mi_X9_know : Mi := (yX9_know, cX9_know, 5, none, 1)
theorem ok_X9_know : okM mi_X9_know 0 := ⟨wG_of 73 (by decide +kernel) (by decide +kernel), wG_of 1088 (by decide +kernel) (by decide +kernel), (by decide +kernel), (by decide +kernel)⟩
theorem pl_X9_know : plainName mi_X9_know.1.cls = true := by decide +kernel
abbrev mi_X9_known : Mi := (yX9_known, cX9_known, 2, (some .int), 3)
theorem ok_X9_known : okM mi_X9_known 1 := ⟨wG_of 73 (by decide +kernel) (by decide +kernel), wG_of 1084 (by decide +kernel) (by decide +kernel), (by decide +kernel), (by decide +kernel)⟩
theorem pl_X9_known : plainName mi_X9_known.1.cls = true := by decide +kernel
abbrev mi_X9_steps : Mi := (yX9_steps, cX9_steps, 2, (some .int), 3)
theorem ok_X9_steps : okM mi_X9_steps 1 := ⟨wG_of 73 (by decide +kernel) (by decide +kernel), wG_of 1092 (by decide +kernel) (by decide +kernel), (by decide +kernel), (by decide +kernel)⟩
theorem pl_X9_steps : plainName mi_X9_steps.1.cls = true := by decide +kernel
abbrev mi_X9_heals : Mi := (yX9_heals, cX9_heals, 4, (some .int), 2)
theorem ok_X9_heals : okM mi_X9_heals 1 := ⟨wG_of 73 (by decide +kernel) (by decide +kernel), wG_of 1096 (by decide +kernel) (by decide +kernel), (by decide +kernel), (by decide +kernel)⟩
theorem pl_X9_heals : plainName mi_X9_heals.1.cls = true := by decide +kernel
abbrev mi_X9_same : Mi := (yX9_same, cX9_same, 4, (some .int), 2)
theorem ok_X9_same : okM mi_X9_same 1 := ⟨wG_of 73 (by decide +kernel) (by decide +kernel), wG_of 1100 (by decide +kernel) (by decide +kernel), (by decide +kernel), (by decide +kernel)⟩
theorem pl_X9_same : plainName mi_X9_same.1.cls = true := by decide +kernel
abbrev mi_X9_worthOf : Mi := (yX9_worthOf, cX9_worthOf, 2, (some .int), 1)
theorem ok_X9_worthOf : okM mi_X9_worthOf 1 := ⟨wG_of 73 (by decide +kernel) (by decide +kernel), wG_of 1108 (by decide +kernel) (by decide +kernel), (by decide +kernel), (by decide +kernel)⟩
theorem pl_X9_worthOf : plainName mi_X9_worthOf.1.cls = true := by decide +kernel
abbrev mi_X9_told : Mi := (yX9_told, cX9_told, 3, (some .int), 3)
theorem ok_X9_told : okM mi_X9_told 2 := ⟨wG_of 73 (by decide +kernel) (by decide +kernel), wG_of 1104 (by decide +kernel) (by decide +kernel), (by decide +kernel), (by decide +kernel)⟩
theorem pl_X9_told : plainName mi_X9_told.1.cls = true := by decide +kernel
abbrev mi_X9_skipped : Mi := (yX9_skipped, cX9_skipped, 5, (some .int), 3)
theorem ok_X9_skipped : okM mi_X9_skipped 3 := ⟨wG_of 73 (by decide +kernel) (by decide +kernel), wG_of 1112 (by decide +kernel) (by decide +kernel), (by decide +kernel), (by decide +kernel)⟩
theorem pl_X9_skipped : plainName mi_X9_skipped.1.cls = true := by decide +kernel
abbrev mi_X9_letter : Mi := (yX9_letter, cX9_letter, 3, (some .int), 3)
theorem ok_X9_letter : okM mi_X9_letter 2 := ⟨wG_of 73 (by decide +kernel) (by decide +kernel), wG_of 1116 (by decide +kernel) (by decide +kernel), (by decide +kernel), (by decide +kernel)⟩
theorem pl_X9_letter : plainName mi_X9_letter.1.cls = true := by decide +kernel
abbrev mi_X9_knownThings : Mi := (yX9_knownThings, cX9_knownThings, 3, (some .int), 2)
theorem ok_X9_knownThings : okM mi_X9_knownThings 0 := ⟨wG_of 73 (by decide +kernel) (by decide +kernel), wG_of 1124 (by decide +kernel) (by decide +kernel), (by decide +kernel), (by decide +kernel)⟩
theorem pl_X9_knownThings : plainName mi_X9_knownThings.1.cls = true := by decide +kernel
abbrev mi_X9_count : Mi := (yX9_count, cX9_count, 2, (some .int), 3)
theorem ok_X9_count : okM mi_X9_count 1 := ⟨wG_of 73 (by decide +kernel) (by decide +kernel), wG_of 1120 (by decide +kernel) (by decide +kernel), (by decide +kernel), (by decide +kernel)⟩
theorem pl_X9_count : plainName mi_X9_count.1.cls = true := by decide +kernel
abbrev mi_X9_puts : Mi := (yX9_puts, cX9_puts, 4, (some .int), 2)
theorem ok_X9_puts : okM mi_X9_puts 3 := ⟨wG_of 73 (by decide +kernel) (by decide +kernel), wG_of 1132 (by decide +kernel) (by decide +kernel), (by decide +kernel), (by decide +kernel)⟩
theorem pl_X9_puts : plainName mi_X9_puts.1.cls = true := by decide +kernel
abbrev mi_X9_hold : Mi := (yX9_hold, cX9_hold, 5, (some .int), 3)
theorem ok_X9_hold : okM mi_X9_hold 3 := ⟨wG_of 73 (by decide +kernel) (by decide +kernel), wG_of 1128 (by decide +kernel) (by decide +kernel), (by decide +kernel), (by decide +kernel)⟩
theorem pl_X9_hold : plainName mi_X9_hold.1.cls = true := by decide +kernel
abbrev mi_X9_tray : Mi := (yX9_tray, cX9_tray, 2, (some .int), 2)
theorem ok_X9_tray : okM mi_X9_tray 1 := ⟨wG_of 73 (by decide +kernel) (by decide +kernel), wG_of 1136 (by decide +kernel) (by decide +kernel), (by decide +kernel), (by decide +kernel)⟩
theorem pl_X9_tray : plainName mi_X9_tray.1.cls = true := by decide +kernel
abbrev mi_X9_ran : Mi := (yX9_ran, cX9_ran, 2, none, 1)
theorem ok_X9_ran : okM mi_X9_ran 1 := ⟨wG_of 73 (by decide +kernel) (by decide +kernel), wG_of 1151 (by decide +kernel) (by decide +kernel), (by decide +kernel), (by decide +kernel)⟩
theorem pl_X9_ran : plainName mi_X9_ran.1.cls = true := by decide +kernel
abbrev mi_X9_isChain : Mi := (yX9_isChain, cX9_isChain, 1, (some .boolean), 1)
theorem ok_X9_isChain : okM mi_X9_isChain 1 := ⟨wG_of 73 (by decide +kernel) (by decide +kernel), wG_of 1147 (by decide +kernel) (by decide +kernel), (by decide +kernel), (by decide +kernel)⟩
theorem pl_X9_isChain : plainName mi_X9_isChain.1.cls = true := by decide +kernel
abbrev mi_X9_move : Mi := (yX9_move, cX9_move, 4, (some .int), 2)
theorem ok_X9_move : okM mi_X9_move 3 := ⟨wG_of 73 (by decide +kernel) (by decide +kernel), wG_of 1144 (by decide +kernel) (by decide +kernel), (by decide +kernel), (by decide +kernel)⟩
theorem pl_X9_move : plainName mi_X9_move.1.cls = true := by decide +kernel
abbrev mi_X9_mixed : Mi := (yX9_mixed, cX9_mixed, 5, (some .int), 3)
theorem ok_X9_mixed : okM mi_X9_mixed 3 := ⟨wG_of 73 (by decide +kernel) (by decide +kernel), wG_of 1155 (by decide +kernel) (by decide +kernel), (by decide +kernel), (by decide +kernel)⟩
theorem pl_X9_mixed : plainName mi_X9_mixed.1.cls = true := by decide +kernel
abbrev mi_X9_tell : Mi := (yX9_tell, cX9_tell, 4, (some .int), 2)
theorem ok_X9_tell : okM mi_X9_tell 3 := ⟨wG_of 73 (by decide +kernel) (by decide +kernel), wG_of 1167 (by decide +kernel) (by decide +kernel), (by decide +kernel), (by decide +kernel)⟩
theorem pl_X9_tell : plainName mi_X9_tell.1.cls = true := by decide +kernel
abbrev mi_X9_keyEnd : Mi := (yX9_keyEnd, cX9_keyEnd, 5, (some .int), 4)
theorem ok_X9_keyEnd : okM mi_X9_keyEnd 3 := ⟨wG_of 73 (by decide +kernel) (by decide +kernel), wG_of 1163 (by decide +kernel) (by decide +kernel), (by decide +kernel), (by decide +kernel)⟩
theorem pl_X9_keyEnd : plainName mi_X9_keyEnd.1.cls = true := by decide +kernel
abbrev mi_X9_ended : Mi := (yX9_ended, cX9_ended, 5, (some .int), 5)
theorem ok_X9_ended : okM mi_X9_ended 4 := ⟨wG_of 73 (by decide +kernel) (by decide +kernel), wG_of 1159 (by decide +kernel) (by decide +kernel), (by decide +kernel), (by decide +kernel)⟩
theorem pl_X9_ended : plainName mi_X9_ended.1.cls = true := by decide +kernel
abbrev mi_X9_act : Mi := (yX9_act, cX9_act, 6, (some .int), 6)
theorem ok_X9_act : okM mi_X9_act 3 := ⟨wG_of 73 (by decide +kernel) (by decide +kernel), wG_of 1140 (by decide +kernel) (by decide +kernel), (by decide +kernel), (by decide +kernel)⟩
theorem pl_X9_act : plainName mi_X9_act.1.cls = true := by decide +kernel
abbrev mi_X9_trace : Mi := (yX9_trace, cX9_trace, 2, (some .int), 2)
theorem ok_X9_trace : okM mi_X9_trace 1 := ⟨wG_of 73 (by decide +kernel) (by decide +kernel), wG_of 1171 (by decide +kernel) (by decide +kernel), (by decide +kernel), (by decide +kernel)⟩
theorem pl_X9_trace : plainName mi_X9_trace.1.cls = true := by decide +kernel
abbrev mi_X9_isOf : Mi := (yX9_isOf, cX9_isOf, 2, (some .boolean), 1)
theorem ok_X9_isOf : okM mi_X9_isOf 2 := ⟨wG_of 73 (by decide +kernel) (by decide +kernel), wG_of 1178 (by decide +kernel) (by decide +kernel), (by decide +kernel), (by decide +kernel)⟩
theorem pl_X9_isOf : plainName mi_X9_isOf.1.cls = true := by decide +kernel
abbrev mi_X9_header : Mi := (yX9_header, cX9_header, 3, (some .int), 1)
theorem ok_X9_header : okM mi_X9_header 2 := ⟨wG_of 73 (by decide +kernel) (by decide +kernel), wG_of 1182 (by decide +kernel) (by decide +kernel), (by decide +kernel), (by decide +kernel)⟩
theorem pl_X9_header : plainName mi_X9_header.1.cls = true := by decide +kernel
abbrev mi_X9_forge : Mi := (yX9_forge, cX9_forge, 7, (some .int), 2)
theorem ok_X9_forge : okM mi_X9_forge 3 := ⟨wG_of 73 (by decide +kernel) (by decide +kernel), wG_of 1175 (by decide +kernel) (by decide +kernel), (by decide +kernel), (by decide +kernel)⟩
theorem pl_X9_forge : plainName mi_X9_forge.1.cls = true := by decide +kernel
abbrev mi_X9_status : Mi := (yX9_status, cX9_status, 1, (some .int), 1)
theorem ok_X9_status : okM mi_X9_status 0 := ⟨wG_of 73 (by decide +kernel) (by decide +kernel), wG_of 1186 (by decide +kernel) (by decide +kernel), (by decide +kernel), (by decide +kernel)⟩
theorem pl_X9_status : plainName mi_X9_status.1.cls = true := by decide +kernel
abbrev mi_J9_floorMod_7cf53 : Mi := (yJ9_floorMod_7cf53, cJ9_floorMod_7cf53, 3, (some .int), 1)
theorem ok_J9_floorMod_7cf53 : okM mi_J9_floorMod_7cf53 2 := ⟨wG_of 77 (by decide +kernel) (by decide +kernel), wG_of 768 (by decide +kernel) (by decide +kernel), (by decide +kernel), (by decide +kernel)⟩
abbrev mi_J9_max_7cf53 : Mi := (yJ9_max_7cf53, cJ9_max_7cf53, 2, (some .int), 1)
theorem ok_J9_max_7cf53 : okM mi_J9_max_7cf53 2 := ⟨wG_of 77 (by decide +kernel) (by decide +kernel), wG_of 397 (by decide +kernel) (by decide +kernel), (by decide +kernel), (by decide +kernel)⟩
abbrev mi_J9_min_7cf53 : Mi := (yJ9_min_7cf53, cJ9_min_7cf53, 2, (some .int), 1)
theorem ok_J9_min_7cf53 : okM mi_J9_min_7cf53 2 := ⟨wG_of 77 (by decide +kernel) (by decide +kernel), wG_of 428 (by decide +kernel) (by decide +kernel), (by decide +kernel), (by decide +kernel)⟩
abbrev mi_Jxa1e45_init_da8c8 : Mi := (yJxa1e45_init_da8c8, cJxa1e45_init_da8c8, 1, none, 2)
theorem ok_Jxa1e45_init_da8c8 : okM mi_Jxa1e45_init_da8c8 0 := ⟨wG_of 68 (by decide +kernel) (by decide +kernel), wG_of 123 (by decide +kernel) (by decide +kernel), (by decide +kernel), (by decide +kernel)⟩
theorem pl_Jxa1e45_init_da8c8 : plainName mi_Jxa1e45_init_da8c8.1.cls = true := by decide +kernel
abbrev mi_Jxc12de_init_da8c8 : Mi := (yJxc12de_init_da8c8, cJxc12de_init_da8c8, 1, none, 3)
theorem ok_Jxc12de_init_da8c8 : okM mi_Jxc12de_init_da8c8 0 := ⟨wG_of 69 (by decide +kernel) (by decide +kernel), wG_of 120 (by decide +kernel) (by decide +kernel), (by decide +kernel), (by decide +kernel)⟩
theorem pl_Jxc12de_init_da8c8 : plainName mi_Jxc12de_init_da8c8.1.cls = true := by decide +kernel
abbrev mi_Jx4a65c_init_da8c8 : Mi := (yJx4a65c_init_da8c8, cJx4a65c_init_da8c8, 1, none, 4)
theorem ok_Jx4a65c_init_da8c8 : okM mi_Jx4a65c_init_da8c8 0 := ⟨wG_of 70 (by decide +kernel) (by decide +kernel), wG_of 117 (by decide +kernel) (by decide +kernel), (by decide +kernel), (by decide +kernel)⟩
theorem pl_Jx4a65c_init_da8c8 : plainName mi_Jx4a65c_init_da8c8.1.cls = true := by decide +kernel
abbrev mi_Jx4a65c_grow_92f84 : Mi := (yJx4a65c_grow_92f84, cJx4a65c_grow_92f84, 4, (some (.array (.object "java/lang/Object"))), 4)
theorem ok_Jx4a65c_grow_92f84 : okM mi_Jx4a65c_grow_92f84 1 := ⟨wG_of 70 (by decide +kernel) (by decide +kernel), wG_of 391 (by decide +kernel) (by decide +kernel), (by decide +kernel), (by decide +kernel)⟩
theorem pl_Jx4a65c_grow_92f84 : plainName mi_Jx4a65c_grow_92f84.1.cls = true := by decide +kernel
abbrev mi_Jx4a65c_grow_d5877 : Mi := (yJx4a65c_grow_d5877, cJx4a65c_grow_d5877, 1, (some (.array (.object "java/lang/Object"))), 5)
theorem ok_Jx4a65c_grow_d5877 : okM mi_Jx4a65c_grow_d5877 0 := ⟨wG_of 70 (by decide +kernel) (by decide +kernel), wG_of 387 (by decide +kernel) (by decide +kernel), (by decide +kernel), (by decide +kernel)⟩
theorem pl_Jx4a65c_grow_d5877 : plainName mi_Jx4a65c_grow_d5877.1.cls = true := by decide +kernel
abbrev mi_Jx4a65c_size_8abf5 : Mi := (yJx4a65c_size_8abf5, cJx4a65c_size_8abf5, 1, (some .int), 1)
theorem ok_Jx4a65c_size_8abf5 : okM mi_Jx4a65c_size_8abf5 0 := ⟨wG_of 70 (by decide +kernel) (by decide +kernel), wG_of 663 (by decide +kernel) (by decide +kernel), (by decide +kernel), (by decide +kernel)⟩
theorem pl_Jx4a65c_size_8abf5 : plainName mi_Jx4a65c_size_8abf5.1.cls = true := by decide +kernel
abbrev mi_Jx4a65c_elementData_915e3 : Mi := (yJx4a65c_elementData_915e3, cJx4a65c_elementData_915e3, 2, (some (.object "java/lang/Object")), 1)
theorem ok_Jx4a65c_elementData_915e3 : okM mi_Jx4a65c_elementData_915e3 1 := ⟨wG_of 70 (by decide +kernel) (by decide +kernel), wG_of 677 (by decide +kernel) (by decide +kernel), (by decide +kernel), (by decide +kernel)⟩
theorem pl_Jx4a65c_elementData_915e3 : plainName mi_Jx4a65c_elementData_915e3.1.cls = true := by decide +kernel
abbrev mi_Jx4a65c_get_915e3 : Mi := (yJx4a65c_get_915e3, cJx4a65c_get_915e3, 2, (some (.object "java/lang/Object")), 4)
theorem ok_Jx4a65c_get_915e3 : okM mi_Jx4a65c_get_915e3 1 := ⟨wG_of 70 (by decide +kernel) (by decide +kernel), wG_of 667 (by decide +kernel) (by decide +kernel), (by decide +kernel), (by decide +kernel)⟩
theorem pl_Jx4a65c_get_915e3 : plainName mi_Jx4a65c_get_915e3.1.cls = true := by decide +kernel
abbrev mi_Jx4a65c_add_72be8 : Mi := (yJx4a65c_add_72be8, cJx4a65c_add_72be8, 4, none, 6)
theorem ok_Jx4a65c_add_72be8 : okM mi_Jx4a65c_add_72be8 3 := ⟨wG_of 70 (by decide +kernel) (by decide +kernel), wG_of 383 (by decide +kernel) (by decide +kernel), (by decide +kernel), (by decide +kernel)⟩
theorem pl_Jx4a65c_add_72be8 : plainName mi_Jx4a65c_add_72be8.1.cls = true := by decide +kernel
abbrev mi_Jx4a65c_add_9ea2d : Mi := (yJx4a65c_add_9ea2d, cJx4a65c_add_9ea2d, 2, (some .boolean), 7)
theorem ok_Jx4a65c_add_9ea2d : okM mi_Jx4a65c_add_9ea2d 1 := ⟨wG_of 70 (by decide +kernel) (by decide +kernel), wG_of 379 (by decide +kernel) (by decide +kernel), (by decide +kernel), (by decide +kernel)⟩
theorem pl_Jx4a65c_add_9ea2d : plainName mi_Jx4a65c_add_9ea2d.1.cls = true := by decide +kernel
abbrev mi_J7_copyOf_1904c : Mi := (yJ7_copyOf_1904c, cJ7_copyOf_1904c, 2, (some (.array (.object "java/lang/Object"))), 3)
theorem ok_J7_copyOf_1904c : okM mi_J7_copyOf_1904c 2 := ⟨wG_of 78 (by decide +kernel) (by decide +kernel), wG_of 404 (by decide +kernel) (by decide +kernel), (by decide +kernel), (by decide +kernel)⟩
theorem pl_J7_copyOf_1904c : plainName mi_J7_copyOf_1904c.1.cls = true := by decide +kernel
abbrev mi_J7_copyOf_6403c : Mi := (yJ7_copyOf_6403c, cJ7_copyOf_6403c, 4, (some (.array (.object "java/lang/Object"))), 2)
theorem ok_J7_copyOf_6403c : okM mi_J7_copyOf_6403c 3 := ⟨wG_of 78 (by decide +kernel) (by decide +kernel), wG_of 422 (by decide +kernel) (by decide +kernel), (by decide +kernel), (by decide +kernel)⟩
theorem pl_J7_copyOf_6403c : plainName mi_J7_copyOf_6403c.1.cls = true := by decide +kernel
abbrev mi_J15_checkIndex_7cf53 : Mi := (yJ15_checkIndex_7cf53, cJ15_checkIndex_7cf53, 2, (some .int), 3)
theorem ok_J15_checkIndex_7cf53 : okM mi_J15_checkIndex_7cf53 2 := ⟨wG_of 82 (by decide +kernel) (by decide +kernel), wG_of 670 (by decide +kernel) (by decide +kernel), (by decide +kernel), (by decide +kernel)⟩
theorem pl_J15_checkIndex_7cf53 : plainName mi_J15_checkIndex_7cf53.1.cls = true := by decide +kernel
abbrev mi_J8_newLength_cabcc : Mi := (yJ8_newLength_cabcc, cJ8_newLength_cabcc, 4, (some .int), 3)
theorem ok_J8_newLength_cabcc : okM mi_J8_newLength_cabcc 3 := ⟨wG_of 76 (by decide +kernel) (by decide +kernel), wG_of 394 (by decide +kernel) (by decide +kernel), (by decide +kernel), (by decide +kernel)⟩
theorem pl_J8_newLength_cabcc : plainName mi_J8_newLength_cabcc.1.cls = true := by decide +kernel
abbrev mi_J8_hugeLength_7cf53 : Mi := (yJ8_hugeLength_7cf53, cJ8_hugeLength_7cf53, 3, (some .int), 2)
theorem ok_J8_hugeLength_7cf53 : okM mi_J8_hugeLength_7cf53 2 := ⟨wG_of 76 (by decide +kernel) (by decide +kernel), wG_of 401 (by decide +kernel) (by decide +kernel), (by decide +kernel), (by decide +kernel)⟩
theorem pl_J8_hugeLength_7cf53 : plainName mi_J8_hugeLength_7cf53.1.cls = true := by decide +kernel
abbrev mi_J3_checkIndex_8e157 : Mi := (yJ3_checkIndex_8e157, cJ3_checkIndex_8e157, 3, (some .int), 2)
theorem ok_J3_checkIndex_8e157 : okM mi_J3_checkIndex_8e157 3 := ⟨wG_of 83 (by decide +kernel) (by decide +kernel), wG_of 673 (by decide +kernel) (by decide +kernel), (by decide +kernel), (by decide +kernel)⟩
theorem pl_J3_checkIndex_8e157 : plainName mi_J3_checkIndex_8e157.1.cls = true := by decide +kernel
abbrev mi_L_law : Mi := (yL_law, code, maxLocals, ret, 22)
theorem pl_L_law : plainName mi_L_law.1.cls = true := by decide +kernel
theorem ml_J15_105 : Cond.methodLink RJ15 105 yJ3_checkIndex_8e157 ∈ wG ∧ Cond.static yJ3_checkIndex_8e157 ∈ wG := ⟨wG_of 671 (by decide +kernel) (by decide +kernel), wG_of 672 (by decide +kernel) (by decide +kernel)⟩
theorem cl_J7_2 : Cond.classLink RJ7 2 "java/lang/Object" ∈ wG := wG_of 425 (by decide +kernel) (by decide +kernel)
theorem ml_J7_86 : Cond.methodLink RJ7 86 nmG ∈ wG ∧ Cond.selects nmO nmG nmG ∈ wG ∧ Cond.instanceMethod nmG ∈ wG ∧ Cond.native nmG ∈ wG := ⟨wG_of 405 (by decide +kernel) (by decide +kernel), wG_of 1200 (by decide +kernel) (by decide +kernel), wG_of 406 (by decide +kernel) (by decide +kernel), wG_of 419 (by decide +kernel) (by decide +kernel)⟩
theorem cl_J7_110 : Cond.classLink RJ7 110 "[Ljava/lang/Object;" ∈ wG := wG_of 423 (by decide +kernel) (by decide +kernel)
theorem ml_J7_150 : Cond.methodLink RJ7 150 arraycopyName ∈ wG ∧ Cond.native arraycopyName ∈ wG ∧ Cond.static arraycopyName ∈ wG ∧ Cond.initialized "java/lang/System" ∈ wG := ⟨wG_of 429 (by decide +kernel) (by decide +kernel), wG_of 431 (by decide +kernel) (by decide +kernel), wG_of 430 (by decide +kernel) (by decide +kernel), wG_of 79 (by decide +kernel) (by decide +kernel)⟩
theorem ml_J7_300 : Cond.methodLink RJ7 300 yJ7_copyOf_6403c ∈ wG ∧ Cond.static yJ7_copyOf_6403c ∈ wG := ⟨wG_of 420 (by decide +kernel) (by decide +kernel), wG_of 421 (by decide +kernel) (by decide +kernel)⟩
theorem mm_J7_304 : Cond.methodLink RJ7 304 Lib.Math.min.name ∈ wG ∧ Cond.static Lib.Math.min.name ∈ wG ∧ Cond.initialized "java/lang/Math" ∈ wG ∧ Cond.code Lib.Math.min.name Lib.Math.min.code 2 (some .int) ∈ wG := ⟨wG_of 426 (by decide +kernel) (by decide +kernel), wG_of 427 (by decide +kernel) (by decide +kernel), wG_of 77 (by decide +kernel) (by decide +kernel), wG_of 428 (by decide +kernel) (by decide +kernel)⟩
theorem mm_J8_194 : Cond.methodLink RJ8 194 Lib.Math.max.name ∈ wG ∧ Cond.static Lib.Math.max.name ∈ wG ∧ Cond.initialized "java/lang/Math" ∈ wG ∧ Cond.code Lib.Math.max.name Lib.Math.max.code 2 (some .int) ∈ wG := ⟨wG_of 395 (by decide +kernel) (by decide +kernel), wG_of 396 (by decide +kernel) (by decide +kernel), wG_of 77 (by decide +kernel) (by decide +kernel), wG_of 397 (by decide +kernel) (by decide +kernel)⟩
theorem ml_J8_201 : Cond.methodLink RJ8 201 yJ8_hugeLength_7cf53 ∈ wG ∧ Cond.static yJ8_hugeLength_7cf53 ∈ wG := ⟨wG_of 399 (by decide +kernel) (by decide +kernel), wG_of 400 (by decide +kernel) (by decide +kernel)⟩
theorem ml_Jx4a65c_1 : Cond.methodLink RJx4a65c 1 yJxc12de_init_da8c8 ∈ wG ∧ Cond.instanceMethod yJxc12de_init_da8c8 ∈ wG := ⟨wG_of 118 (by decide +kernel) (by decide +kernel), wG_of 119 (by decide +kernel) (by decide +kernel)⟩
theorem cl_Jx4a65c_7 : Cond.classLink RJx4a65c 7 "java/lang/Object" ∈ wG := wG_of 433 (by decide +kernel) (by decide +kernel)
theorem fl_Jx4a65c_9 : Fl RJx4a65c 9 0 1 := ⟨by decide, by decide, "java/util/ArrayList", wG_of 127 (by decide +kernel) (by decide +kernel), Or.inl (by decide +kernel)⟩
theorem gs_Jx4a65c_39 : Cond.fieldLink RJx4a65c 39 RJx4a65c nmZ nmO ∈ wG := wG_of 125 (by decide +kernel) (by decide +kernel)
theorem fl_Jx4a65c_48 : Fl RJx4a65c 48 0 2 := ⟨by decide, by decide, "java/util/ArrayList", wG_of 128 (by decide +kernel) (by decide +kernel), Or.inl (by decide +kernel)⟩
theorem fl_Jx4a65c_63 : Fl RJx4a65c 63 0 0 := ⟨by decide, by decide, "java/util/ArrayList", wG_of 130 (by decide +kernel) (by decide +kernel), Or.inr (wG_of 131 (by decide +kernel) (by decide +kernel))⟩
theorem ml_Jx4a65c_66 : Cond.methodLink RJx4a65c 66 yJ7_copyOf_1904c ∈ wG ∧ Cond.static yJ7_copyOf_1904c ∈ wG := ⟨wG_of 402 (by decide +kernel) (by decide +kernel), wG_of 403 (by decide +kernel) (by decide +kernel)⟩
theorem ml_Jx4a65c_69 : Cond.methodLink RJx4a65c 69 yJx4a65c_grow_92f84 ∈ wG ∧ Cond.instanceMethod yJx4a65c_grow_92f84 ∈ wG ∧ Cond.selects yJx4a65c_grow_92f84.cls yJx4a65c_grow_92f84 yJx4a65c_grow_92f84 ∈ wG := ⟨wG_of 388 (by decide +kernel) (by decide +kernel), wG_of 390 (by decide +kernel) (by decide +kernel), wG_of 6 (by decide +kernel) (by decide +kernel)⟩
theorem ml_Jx4a65c_73 : Cond.methodLink RJx4a65c 73 yJ8_newLength_cabcc ∈ wG ∧ Cond.static yJ8_newLength_cabcc ∈ wG := ⟨wG_of 392 (by decide +kernel) (by decide +kernel), wG_of 393 (by decide +kernel) (by decide +kernel)⟩
theorem mm_Jx4a65c_79 : Cond.methodLink RJx4a65c 79 Lib.Math.max.name ∈ wG ∧ Cond.static Lib.Math.max.name ∈ wG ∧ Cond.initialized "java/lang/Math" ∈ wG ∧ Cond.code Lib.Math.max.name Lib.Math.max.code 2 (some .int) ∈ wG := ⟨wG_of 432 (by decide +kernel) (by decide +kernel), wG_of 396 (by decide +kernel) (by decide +kernel), wG_of 77 (by decide +kernel) (by decide +kernel), wG_of 397 (by decide +kernel) (by decide +kernel)⟩
theorem ml_Jx4a65c_118 : Cond.methodLink RJx4a65c 118 yJ15_checkIndex_7cf53 ∈ wG ∧ Cond.static yJ15_checkIndex_7cf53 ∈ wG := ⟨wG_of 668 (by decide +kernel) (by decide +kernel), wG_of 669 (by decide +kernel) (by decide +kernel)⟩
theorem ml_Jx4a65c_123 : Cond.methodLink RJx4a65c 123 yJx4a65c_elementData_915e3 ∈ wG ∧ Cond.instanceMethod yJx4a65c_elementData_915e3 ∈ wG ∧ Cond.selects yJx4a65c_elementData_915e3.cls yJx4a65c_elementData_915e3 yJx4a65c_elementData_915e3 ∈ wG := ⟨wG_of 674 (by decide +kernel) (by decide +kernel), wG_of 675 (by decide +kernel) (by decide +kernel), wG_of 676 (by decide +kernel) (by decide +kernel)⟩
theorem ml_Jx4a65c_129 : Cond.methodLink RJx4a65c 129 yJx4a65c_grow_d5877 ∈ wG ∧ Cond.instanceMethod yJx4a65c_grow_d5877 ∈ wG ∧ Cond.selects yJx4a65c_grow_d5877.cls yJx4a65c_grow_d5877 yJx4a65c_grow_d5877 ∈ wG := ⟨wG_of 384 (by decide +kernel) (by decide +kernel), wG_of 386 (by decide +kernel) (by decide +kernel), wG_of 5 (by decide +kernel) (by decide +kernel)⟩
theorem ml_Jx4a65c_131 : Cond.methodLink RJx4a65c 131 yJx4a65c_add_72be8 ∈ wG ∧ Cond.instanceMethod yJx4a65c_add_72be8 ∈ wG ∧ Cond.selects yJx4a65c_add_72be8.cls yJx4a65c_add_72be8 yJx4a65c_add_72be8 ∈ wG := ⟨wG_of 380 (by decide +kernel) (by decide +kernel), wG_of 382 (by decide +kernel) (by decide +kernel), wG_of 4 (by decide +kernel) (by decide +kernel)⟩
theorem oi_Jxa1e45_1 : Cond.methodLink RJxa1e45 1 objectInit ∈ wG ∧ Cond.instanceMethod objectInit ∈ wG ∧ Cond.code objectInit ⟨#[0xb1]⟩ 1 none ∈ wG := ⟨wG_of 124 (by decide +kernel) (by decide +kernel), wG_of 90 (by decide +kernel) (by decide +kernel), wG_of 91 (by decide +kernel) (by decide +kernel)⟩
theorem ml_Jxc12de_1 : Cond.methodLink RJxc12de 1 yJxa1e45_init_da8c8 ∈ wG ∧ Cond.instanceMethod yJxa1e45_init_da8c8 ∈ wG := ⟨wG_of 121 (by decide +kernel) (by decide +kernel), wG_of 122 (by decide +kernel) (by decide +kernel)⟩
theorem fl_Jxc12de_7 : Fl RJxc12de 7 0 0 := ⟨by decide, by decide, "java/util/AbstractList", wG_of 129 (by decide +kernel) (by decide +kernel), Or.inl (by decide +kernel)⟩
theorem nl_L_7 : Nl RL 7 9 := ⟨by decide, wG_of 84 (by decide +kernel) (by decide +kernel), wG_of 85 (by decide +kernel) (by decide +kernel), wG_of 65 (by decide +kernel) (by decide +kernel)⟩
theorem ml_L_9 : Cond.methodLink RL 9 yX8_init ∈ wG ∧ Cond.instanceMethod yX8_init ∈ wG := ⟨wG_of 86 (by decide +kernel) (by decide +kernel), wG_of 87 (by decide +kernel) (by decide +kernel)⟩
theorem nl_L_10 : Nl RL 10 10 := ⟨by decide, wG_of 792 (by decide +kernel) (by decide +kernel), wG_of 793 (by decide +kernel) (by decide +kernel), wG_of 73 (by decide +kernel) (by decide +kernel)⟩
theorem ml_L_12 : Cond.methodLink RL 12 yX9_init ∈ wG ∧ Cond.instanceMethod yX9_init ∈ wG := ⟨wG_of 794 (by decide +kernel) (by decide +kernel), wG_of 795 (by decide +kernel) (by decide +kernel)⟩
theorem ml_L_13 : Cond.methodLink RL 13 yX8_prime ∈ wG ∧ Cond.instanceMethod yX8_prime ∈ wG ∧ Cond.selects yX8_prime.cls yX8_prime yX8_prime ∈ wG := ⟨wG_of 222 (by decide +kernel) (by decide +kernel), wG_of 223 (by decide +kernel) (by decide +kernel), wG_of 224 (by decide +kernel) (by decide +kernel)⟩
theorem ml_L_17 : Cond.methodLink RL 17 yX9_prime ∈ wG ∧ Cond.instanceMethod yX9_prime ∈ wG ∧ Cond.selects yX9_prime.cls yX9_prime yX9_prime ∈ wG := ⟨wG_of 938 (by decide +kernel) (by decide +kernel), wG_of 939 (by decide +kernel) (by decide +kernel), wG_of 940 (by decide +kernel) (by decide +kernel)⟩
theorem ml_L_18 : Cond.methodLink RL 18 yX8_limits ∈ wG ∧ Cond.instanceMethod yX8_limits ∈ wG ∧ Cond.selects yX8_limits.cls yX8_limits yX8_limits ∈ wG := ⟨wG_of 234 (by decide +kernel) (by decide +kernel), wG_of 235 (by decide +kernel) (by decide +kernel), wG_of 236 (by decide +kernel) (by decide +kernel)⟩
theorem ml_L_21 : Cond.methodLink RL 21 yX9_limits ∈ wG ∧ Cond.instanceMethod yX9_limits ∈ wG ∧ Cond.selects yX9_limits.cls yX9_limits yX9_limits ∈ wG := ⟨wG_of 953 (by decide +kernel) (by decide +kernel), wG_of 954 (by decide +kernel) (by decide +kernel), wG_of 955 (by decide +kernel) (by decide +kernel)⟩
theorem ml_L_22 : Cond.methodLink RL 22 yX8_pair ∈ wG ∧ Cond.instanceMethod yX8_pair ∈ wG ∧ Cond.selects yX8_pair.cls yX8_pair yX8_pair ∈ wG := ⟨wG_of 250 (by decide +kernel) (by decide +kernel), wG_of 251 (by decide +kernel) (by decide +kernel), wG_of 252 (by decide +kernel) (by decide +kernel)⟩
theorem ml_L_26 : Cond.methodLink RL 26 yX9_pair ∈ wG ∧ Cond.instanceMethod yX9_pair ∈ wG ∧ Cond.selects yX9_pair.cls yX9_pair yX9_pair ∈ wG := ⟨wG_of 965 (by decide +kernel) (by decide +kernel), wG_of 966 (by decide +kernel) (by decide +kernel), wG_of 967 (by decide +kernel) (by decide +kernel)⟩
theorem ml_L_27 : Cond.methodLink RL 27 yX8_secret ∈ wG ∧ Cond.instanceMethod yX8_secret ∈ wG ∧ Cond.selects yX8_secret.cls yX8_secret yX8_secret ∈ wG := ⟨wG_of 322 (by decide +kernel) (by decide +kernel), wG_of 323 (by decide +kernel) (by decide +kernel), wG_of 324 (by decide +kernel) (by decide +kernel)⟩
theorem ml_L_30 : Cond.methodLink RL 30 yX9_secret ∈ wG ∧ Cond.instanceMethod yX9_secret ∈ wG ∧ Cond.selects yX9_secret.cls yX9_secret yX9_secret ∈ wG := ⟨wG_of 969 (by decide +kernel) (by decide +kernel), wG_of 970 (by decide +kernel) (by decide +kernel), wG_of 971 (by decide +kernel) (by decide +kernel)⟩
theorem ml_L_31 : Cond.methodLink RL 31 yX8_start ∈ wG ∧ Cond.instanceMethod yX8_start ∈ wG ∧ Cond.selects yX8_start.cls yX8_start yX8_start ∈ wG := ⟨wG_of 434 (by decide +kernel) (by decide +kernel), wG_of 435 (by decide +kernel) (by decide +kernel), wG_of 436 (by decide +kernel) (by decide +kernel)⟩
theorem ml_L_35 : Cond.methodLink RL 35 yX9_start ∈ wG ∧ Cond.instanceMethod yX9_start ∈ wG ∧ Cond.selects yX9_start.cls yX9_start yX9_start ∈ wG := ⟨wG_of 981 (by decide +kernel) (by decide +kernel), wG_of 982 (by decide +kernel) (by decide +kernel), wG_of 983 (by decide +kernel) (by decide +kernel)⟩
theorem ml_L_36 : Cond.methodLink RL 36 yX8_send ∈ wG ∧ Cond.instanceMethod yX8_send ∈ wG ∧ Cond.selects yX8_send.cls yX8_send yX8_send ∈ wG := ⟨wG_of 492 (by decide +kernel) (by decide +kernel), wG_of 493 (by decide +kernel) (by decide +kernel), wG_of 494 (by decide +kernel) (by decide +kernel)⟩
theorem ml_L_39 : Cond.methodLink RL 39 yX9_send ∈ wG ∧ Cond.instanceMethod yX9_send ∈ wG ∧ Cond.selects yX9_send.cls yX9_send yX9_send ∈ wG := ⟨wG_of 1013 (by decide +kernel) (by decide +kernel), wG_of 1014 (by decide +kernel) (by decide +kernel), wG_of 1015 (by decide +kernel) (by decide +kernel)⟩
theorem ml_L_40 : Cond.methodLink RL 40 yX8_alter ∈ wG ∧ Cond.instanceMethod yX8_alter ∈ wG ∧ Cond.selects yX8_alter.cls yX8_alter yX8_alter ∈ wG := ⟨wG_of 533 (by decide +kernel) (by decide +kernel), wG_of 534 (by decide +kernel) (by decide +kernel), wG_of 535 (by decide +kernel) (by decide +kernel)⟩
theorem ml_L_43 : Cond.methodLink RL 43 yX9_alter ∈ wG ∧ Cond.instanceMethod yX9_alter ∈ wG ∧ Cond.selects yX9_alter.cls yX9_alter yX9_alter ∈ wG := ⟨wG_of 1021 (by decide +kernel) (by decide +kernel), wG_of 1022 (by decide +kernel) (by decide +kernel), wG_of 1023 (by decide +kernel) (by decide +kernel)⟩
theorem ml_L_44 : Cond.methodLink RL 44 yX8_take ∈ wG ∧ Cond.instanceMethod yX8_take ∈ wG ∧ Cond.selects yX8_take.cls yX8_take yX8_take ∈ wG := ⟨wG_of 541 (by decide +kernel) (by decide +kernel), wG_of 542 (by decide +kernel) (by decide +kernel), wG_of 543 (by decide +kernel) (by decide +kernel)⟩
theorem ml_L_47 : Cond.methodLink RL 47 yX9_take ∈ wG ∧ Cond.instanceMethod yX9_take ∈ wG ∧ Cond.selects yX9_take.cls yX9_take yX9_take ∈ wG := ⟨wG_of 1029 (by decide +kernel) (by decide +kernel), wG_of 1030 (by decide +kernel) (by decide +kernel), wG_of 1031 (by decide +kernel) (by decide +kernel)⟩
theorem ml_L_48 : Cond.methodLink RL 48 yX8_see ∈ wG ∧ Cond.instanceMethod yX8_see ∈ wG ∧ Cond.selects yX8_see.cls yX8_see yX8_see ∈ wG := ⟨wG_of 648 (by decide +kernel) (by decide +kernel), wG_of 649 (by decide +kernel) (by decide +kernel), wG_of 650 (by decide +kernel) (by decide +kernel)⟩
theorem ml_L_51 : Cond.methodLink RL 51 yX9_see ∈ wG ∧ Cond.instanceMethod yX9_see ∈ wG ∧ Cond.selects yX9_see.cls yX9_see yX9_see ∈ wG := ⟨wG_of 1073 (by decide +kernel) (by decide +kernel), wG_of 1074 (by decide +kernel) (by decide +kernel), wG_of 1075 (by decide +kernel) (by decide +kernel)⟩
theorem ml_L_52 : Cond.methodLink RL 52 yX8_known ∈ wG ∧ Cond.instanceMethod yX8_known ∈ wG ∧ Cond.selects yX8_known.cls yX8_known yX8_known ∈ wG := ⟨wG_of 678 (by decide +kernel) (by decide +kernel), wG_of 679 (by decide +kernel) (by decide +kernel), wG_of 680 (by decide +kernel) (by decide +kernel)⟩
theorem ml_L_55 : Cond.methodLink RL 55 yX9_known ∈ wG ∧ Cond.instanceMethod yX9_known ∈ wG ∧ Cond.selects yX9_known.cls yX9_known yX9_known ∈ wG := ⟨wG_of 1081 (by decide +kernel) (by decide +kernel), wG_of 1082 (by decide +kernel) (by decide +kernel), wG_of 1083 (by decide +kernel) (by decide +kernel)⟩
theorem ml_L_56 : Cond.methodLink RL 56 yX8_steps ∈ wG ∧ Cond.instanceMethod yX8_steps ∈ wG ∧ Cond.selects yX8_steps.cls yX8_steps yX8_steps ∈ wG := ⟨wG_of 682 (by decide +kernel) (by decide +kernel), wG_of 683 (by decide +kernel) (by decide +kernel), wG_of 684 (by decide +kernel) (by decide +kernel)⟩
theorem ml_L_59 : Cond.methodLink RL 59 yX9_steps ∈ wG ∧ Cond.instanceMethod yX9_steps ∈ wG ∧ Cond.selects yX9_steps.cls yX9_steps yX9_steps ∈ wG := ⟨wG_of 1089 (by decide +kernel) (by decide +kernel), wG_of 1090 (by decide +kernel) (by decide +kernel), wG_of 1091 (by decide +kernel) (by decide +kernel)⟩
theorem ml_L_60 : Cond.methodLink RL 60 yX8_heals ∈ wG ∧ Cond.instanceMethod yX8_heals ∈ wG ∧ Cond.selects yX8_heals.cls yX8_heals yX8_heals ∈ wG := ⟨wG_of 686 (by decide +kernel) (by decide +kernel), wG_of 687 (by decide +kernel) (by decide +kernel), wG_of 688 (by decide +kernel) (by decide +kernel)⟩
theorem ml_L_63 : Cond.methodLink RL 63 yX9_heals ∈ wG ∧ Cond.instanceMethod yX9_heals ∈ wG ∧ Cond.selects yX9_heals.cls yX9_heals yX9_heals ∈ wG := ⟨wG_of 1093 (by decide +kernel) (by decide +kernel), wG_of 1094 (by decide +kernel) (by decide +kernel), wG_of 1095 (by decide +kernel) (by decide +kernel)⟩
theorem ml_L_64 : Cond.methodLink RL 64 yX8_same ∈ wG ∧ Cond.instanceMethod yX8_same ∈ wG ∧ Cond.selects yX8_same.cls yX8_same yX8_same ∈ wG := ⟨wG_of 690 (by decide +kernel) (by decide +kernel), wG_of 691 (by decide +kernel) (by decide +kernel), wG_of 692 (by decide +kernel) (by decide +kernel)⟩
theorem ml_L_67 : Cond.methodLink RL 67 yX9_same ∈ wG ∧ Cond.instanceMethod yX9_same ∈ wG ∧ Cond.selects yX9_same.cls yX9_same yX9_same ∈ wG := ⟨wG_of 1097 (by decide +kernel) (by decide +kernel), wG_of 1098 (by decide +kernel) (by decide +kernel), wG_of 1099 (by decide +kernel) (by decide +kernel)⟩
theorem ml_L_68 : Cond.methodLink RL 68 yX8_told ∈ wG ∧ Cond.instanceMethod yX8_told ∈ wG ∧ Cond.selects yX8_told.cls yX8_told yX8_told ∈ wG := ⟨wG_of 694 (by decide +kernel) (by decide +kernel), wG_of 695 (by decide +kernel) (by decide +kernel), wG_of 696 (by decide +kernel) (by decide +kernel)⟩
theorem ml_L_71 : Cond.methodLink RL 71 yX9_told ∈ wG ∧ Cond.instanceMethod yX9_told ∈ wG ∧ Cond.selects yX9_told.cls yX9_told yX9_told ∈ wG := ⟨wG_of 1101 (by decide +kernel) (by decide +kernel), wG_of 1102 (by decide +kernel) (by decide +kernel), wG_of 1103 (by decide +kernel) (by decide +kernel)⟩
theorem ml_L_72 : Cond.methodLink RL 72 yX8_skipped ∈ wG ∧ Cond.instanceMethod yX8_skipped ∈ wG ∧ Cond.selects yX8_skipped.cls yX8_skipped yX8_skipped ∈ wG := ⟨wG_of 701 (by decide +kernel) (by decide +kernel), wG_of 702 (by decide +kernel) (by decide +kernel), wG_of 703 (by decide +kernel) (by decide +kernel)⟩
theorem ml_L_76 : Cond.methodLink RL 76 yX9_skipped ∈ wG ∧ Cond.instanceMethod yX9_skipped ∈ wG ∧ Cond.selects yX9_skipped.cls yX9_skipped yX9_skipped ∈ wG := ⟨wG_of 1109 (by decide +kernel) (by decide +kernel), wG_of 1110 (by decide +kernel) (by decide +kernel), wG_of 1111 (by decide +kernel) (by decide +kernel)⟩
theorem ml_L_77 : Cond.methodLink RL 77 yX8_letter ∈ wG ∧ Cond.instanceMethod yX8_letter ∈ wG ∧ Cond.selects yX8_letter.cls yX8_letter yX8_letter ∈ wG := ⟨wG_of 705 (by decide +kernel) (by decide +kernel), wG_of 706 (by decide +kernel) (by decide +kernel), wG_of 707 (by decide +kernel) (by decide +kernel)⟩
theorem ml_L_80 : Cond.methodLink RL 80 yX9_letter ∈ wG ∧ Cond.instanceMethod yX9_letter ∈ wG ∧ Cond.selects yX9_letter.cls yX9_letter yX9_letter ∈ wG := ⟨wG_of 1113 (by decide +kernel) (by decide +kernel), wG_of 1114 (by decide +kernel) (by decide +kernel), wG_of 1115 (by decide +kernel) (by decide +kernel)⟩
theorem ml_L_81 : Cond.methodLink RL 81 yX8_count ∈ wG ∧ Cond.instanceMethod yX8_count ∈ wG ∧ Cond.selects yX8_count.cls yX8_count yX8_count ∈ wG := ⟨wG_of 709 (by decide +kernel) (by decide +kernel), wG_of 710 (by decide +kernel) (by decide +kernel), wG_of 711 (by decide +kernel) (by decide +kernel)⟩
theorem ml_L_84 : Cond.methodLink RL 84 yX9_count ∈ wG ∧ Cond.instanceMethod yX9_count ∈ wG ∧ Cond.selects yX9_count.cls yX9_count yX9_count ∈ wG := ⟨wG_of 1117 (by decide +kernel) (by decide +kernel), wG_of 1118 (by decide +kernel) (by decide +kernel), wG_of 1119 (by decide +kernel) (by decide +kernel)⟩
theorem ml_L_85 : Cond.methodLink RL 85 yX8_hold ∈ wG ∧ Cond.instanceMethod yX8_hold ∈ wG ∧ Cond.selects yX8_hold.cls yX8_hold yX8_hold ∈ wG := ⟨wG_of 714 (by decide +kernel) (by decide +kernel), wG_of 715 (by decide +kernel) (by decide +kernel), wG_of 716 (by decide +kernel) (by decide +kernel)⟩
theorem ml_L_88 : Cond.methodLink RL 88 yX9_hold ∈ wG ∧ Cond.instanceMethod yX9_hold ∈ wG ∧ Cond.selects yX9_hold.cls yX9_hold yX9_hold ∈ wG := ⟨wG_of 1125 (by decide +kernel) (by decide +kernel), wG_of 1126 (by decide +kernel) (by decide +kernel), wG_of 1127 (by decide +kernel) (by decide +kernel)⟩
theorem ml_L_89 : Cond.methodLink RL 89 yX8_tray ∈ wG ∧ Cond.instanceMethod yX8_tray ∈ wG ∧ Cond.selects yX8_tray.cls yX8_tray yX8_tray ∈ wG := ⟨wG_of 734 (by decide +kernel) (by decide +kernel), wG_of 735 (by decide +kernel) (by decide +kernel), wG_of 736 (by decide +kernel) (by decide +kernel)⟩
theorem ml_L_92 : Cond.methodLink RL 92 yX9_tray ∈ wG ∧ Cond.instanceMethod yX9_tray ∈ wG ∧ Cond.selects yX9_tray.cls yX9_tray yX9_tray ∈ wG := ⟨wG_of 1133 (by decide +kernel) (by decide +kernel), wG_of 1134 (by decide +kernel) (by decide +kernel), wG_of 1135 (by decide +kernel) (by decide +kernel)⟩
theorem ml_L_93 : Cond.methodLink RL 93 yX8_act ∈ wG ∧ Cond.instanceMethod yX8_act ∈ wG ∧ Cond.selects yX8_act.cls yX8_act yX8_act ∈ wG := ⟨wG_of 738 (by decide +kernel) (by decide +kernel), wG_of 739 (by decide +kernel) (by decide +kernel), wG_of 740 (by decide +kernel) (by decide +kernel)⟩
theorem ml_L_96 : Cond.methodLink RL 96 yX9_act ∈ wG ∧ Cond.instanceMethod yX9_act ∈ wG ∧ Cond.selects yX9_act.cls yX9_act yX9_act ∈ wG := ⟨wG_of 1137 (by decide +kernel) (by decide +kernel), wG_of 1138 (by decide +kernel) (by decide +kernel), wG_of 1139 (by decide +kernel) (by decide +kernel)⟩
theorem ml_L_97 : Cond.methodLink RL 97 yX8_trace ∈ wG ∧ Cond.instanceMethod yX8_trace ∈ wG ∧ Cond.selects yX8_trace.cls yX8_trace yX8_trace ∈ wG := ⟨wG_of 758 (by decide +kernel) (by decide +kernel), wG_of 759 (by decide +kernel) (by decide +kernel), wG_of 760 (by decide +kernel) (by decide +kernel)⟩
theorem ml_L_100 : Cond.methodLink RL 100 yX9_trace ∈ wG ∧ Cond.instanceMethod yX9_trace ∈ wG ∧ Cond.selects yX9_trace.cls yX9_trace yX9_trace ∈ wG := ⟨wG_of 1168 (by decide +kernel) (by decide +kernel), wG_of 1169 (by decide +kernel) (by decide +kernel), wG_of 1170 (by decide +kernel) (by decide +kernel)⟩
theorem ml_L_101 : Cond.methodLink RL 101 yX8_forge ∈ wG ∧ Cond.instanceMethod yX8_forge ∈ wG ∧ Cond.selects yX8_forge.cls yX8_forge yX8_forge ∈ wG := ⟨wG_of 762 (by decide +kernel) (by decide +kernel), wG_of 763 (by decide +kernel) (by decide +kernel), wG_of 764 (by decide +kernel) (by decide +kernel)⟩
theorem ml_L_104 : Cond.methodLink RL 104 yX9_forge ∈ wG ∧ Cond.instanceMethod yX9_forge ∈ wG ∧ Cond.selects yX9_forge.cls yX9_forge yX9_forge ∈ wG := ⟨wG_of 1172 (by decide +kernel) (by decide +kernel), wG_of 1173 (by decide +kernel) (by decide +kernel), wG_of 1174 (by decide +kernel) (by decide +kernel)⟩
theorem ml_L_105 : Cond.methodLink RL 105 yX8_status ∈ wG ∧ Cond.instanceMethod yX8_status ∈ wG ∧ Cond.selects yX8_status.cls yX8_status yX8_status ∈ wG := ⟨wG_of 788 (by decide +kernel) (by decide +kernel), wG_of 789 (by decide +kernel) (by decide +kernel), wG_of 790 (by decide +kernel) (by decide +kernel)⟩
theorem ml_L_108 : Cond.methodLink RL 108 yX9_status ∈ wG ∧ Cond.instanceMethod yX9_status ∈ wG ∧ Cond.selects yX9_status.cls yX9_status yX9_status ∈ wG := ⟨wG_of 1183 (by decide +kernel) (by decide +kernel), wG_of 1184 (by decide +kernel) (by decide +kernel), wG_of 1185 (by decide +kernel) (by decide +kernel)⟩
theorem oi_X0_1 : Cond.methodLink RX0 1 objectInit ∈ wG ∧ Cond.instanceMethod objectInit ∈ wG ∧ Cond.code objectInit ⟨#[0xb1]⟩ 1 none ∈ wG := ⟨wG_of 103 (by decide +kernel) (by decide +kernel), wG_of 90 (by decide +kernel) (by decide +kernel), wG_of 91 (by decide +kernel) (by decide +kernel)⟩
theorem fl_X0_7 : Fl RX0 7 1 0 := ⟨by decide, by decide, "RatchetPost$Arithmetic", wG_of 104 (by decide +kernel) (by decide +kernel), Or.inl (by decide +kernel)⟩
theorem fl_X0_13 : Fl RX0 13 1 1 := ⟨by decide, by decide, "RatchetPost$Arithmetic", wG_of 106 (by decide +kernel) (by decide +kernel), Or.inl (by decide +kernel)⟩
theorem ml_X0_16 : Cond.methodLink RX0 16 yX0_power ∈ wG ∧ Cond.instanceMethod yX0_power ∈ wG ∧ Cond.selects yX0_power.cls yX0_power yX0_power ∈ wG := ⟨wG_of 458 (by decide +kernel) (by decide +kernel), wG_of 459 (by decide +kernel) (by decide +kernel), wG_of 460 (by decide +kernel) (by decide +kernel)⟩
theorem oi_X1_3 : Cond.methodLink RX1 3 objectInit ∈ wG ∧ Cond.instanceMethod objectInit ∈ wG ∧ Cond.code objectInit ⟨#[0xb1]⟩ 1 none ∈ wG := ⟨wG_of 258 (by decide +kernel) (by decide +kernel), wG_of 90 (by decide +kernel) (by decide +kernel), wG_of 91 (by decide +kernel) (by decide +kernel)⟩
theorem cl_X1_9 : Cond.classLink RX1 9 "RatchetPost$Thing" ∈ wG := wG_of 259 (by decide +kernel) (by decide +kernel)
theorem fl_X1_11 : Fl RX1 11 2 1 := ⟨by decide, by decide, "RatchetPost$End", wG_of 266 (by decide +kernel) (by decide +kernel), Or.inl (by decide +kernel)⟩
theorem fl_X1_17 : Fl RX1 17 2 8 := ⟨by decide, by decide, "RatchetPost$End", wG_of 276 (by decide +kernel) (by decide +kernel), Or.inl (by decide +kernel)⟩
theorem cl_X1_21 : Cond.classLink RX1 21 "RatchetPost$Skipped" ∈ wG := wG_of 261 (by decide +kernel) (by decide +kernel)
theorem fl_X1_23 : Fl RX1 23 2 12 := ⟨by decide, by decide, "RatchetPost$End", wG_of 283 (by decide +kernel) (by decide +kernel), Or.inl (by decide +kernel)⟩
theorem fl_X1_27 : Fl RX1 27 2 14 := ⟨by decide, by decide, "RatchetPost$End", wG_of 287 (by decide +kernel) (by decide +kernel), Or.inl (by decide +kernel)⟩
theorem fl_X1_31 : Fl RX1 31 2 0 := ⟨by decide, by decide, "RatchetPost$End", wG_of 264 (by decide +kernel) (by decide +kernel), Or.inl (by decide +kernel)⟩
theorem fl_X1_34 : Fl RX1 34 2 2 := ⟨by decide, by decide, "RatchetPost$End", wG_of 268 (by decide +kernel) (by decide +kernel), Or.inl (by decide +kernel)⟩
theorem fl_X1_37 : Fl RX1 37 2 15 := ⟨by decide, by decide, "RatchetPost$End", wG_of 288 (by decide +kernel) (by decide +kernel), Or.inl (by decide +kernel)⟩
theorem fl_X1_40 : Fl RX1 40 2 13 := ⟨by decide, by decide, "RatchetPost$End", wG_of 285 (by decide +kernel) (by decide +kernel), Or.inl (by decide +kernel)⟩
theorem ml_X1_43 : Cond.methodLink RX1 43 yX1_drop ∈ wG ∧ Cond.instanceMethod yX1_drop ∈ wG ∧ Cond.selects yX1_drop.cls yX1_drop yX1_drop ∈ wG := ⟨wG_of 246 (by decide +kernel) (by decide +kernel), wG_of 247 (by decide +kernel) (by decide +kernel), wG_of 248 (by decide +kernel) (by decide +kernel)⟩
theorem fl_X1_47 : Fl RX1 47 4 9 := ⟨by decide, by decide, "RatchetPost$Skipped", wG_of 589 (by decide +kernel) (by decide +kernel), Or.inl (by decide +kernel)⟩
theorem ml_X1_48 : Cond.methodLink RX1 48 yX2_from ∈ wG ∧ Cond.instanceMethod yX2_from ∈ wG ∧ Cond.selects yX2_from.cls yX2_from yX2_from ∈ wG := ⟨wG_of 549 (by decide +kernel) (by decide +kernel), wG_of 550 (by decide +kernel) (by decide +kernel), wG_of 551 (by decide +kernel) (by decide +kernel)⟩
theorem fl_X1_53 : Fl RX1 53 4 10 := ⟨by decide, by decide, "RatchetPost$Skipped", wG_of 592 (by decide +kernel) (by decide +kernel), Or.inl (by decide +kernel)⟩
theorem ml_X1_56 : Cond.methodLink RX1 56 yX2_place ∈ wG ∧ Cond.instanceMethod yX2_place ∈ wG ∧ Cond.selects yX2_place.cls yX2_place yX2_place ∈ wG := ⟨wG_of 553 (by decide +kernel) (by decide +kernel), wG_of 554 (by decide +kernel) (by decide +kernel), wG_of 555 (by decide +kernel) (by decide +kernel)⟩
theorem fl_X1_58 : Fl RX1 58 4 11 := ⟨by decide, by decide, "RatchetPost$Skipped", wG_of 595 (by decide +kernel) (by decide +kernel), Or.inl (by decide +kernel)⟩
theorem oi_X2_1 : Cond.methodLink RX2 1 objectInit ∈ wG ∧ Cond.instanceMethod objectInit ∈ wG ∧ Cond.code objectInit ⟨#[0xb1]⟩ 1 none ∈ wG := ⟨wG_of 504 (by decide +kernel) (by decide +kernel), wG_of 90 (by decide +kernel) (by decide +kernel), wG_of 91 (by decide +kernel) (by decide +kernel)⟩
theorem fl_X2_7 : Fl RX2 7 3 3 := ⟨by decide, by decide, "RatchetPost$Letter", wG_of 511 (by decide +kernel) (by decide +kernel), Or.inl (by decide +kernel)⟩
theorem fl_X2_13 : Fl RX2 13 2 0 := ⟨by decide, by decide, "RatchetPost$End", wG_of 263 (by decide +kernel) (by decide +kernel), Or.inl (by decide +kernel)⟩
theorem fl_X2_19 : Fl RX2 19 3 0 := ⟨by decide, by decide, "RatchetPost$Letter", wG_of 505 (by decide +kernel) (by decide +kernel), Or.inl (by decide +kernel)⟩
theorem fl_X2_22 : Fl RX2 22 2 4 := ⟨by decide, by decide, "RatchetPost$End", wG_of 271 (by decide +kernel) (by decide +kernel), Or.inl (by decide +kernel)⟩
theorem fl_X2_26 : Fl RX2 26 3 1 := ⟨by decide, by decide, "RatchetPost$Letter", wG_of 507 (by decide +kernel) (by decide +kernel), Or.inl (by decide +kernel)⟩
theorem fl_X2_29 : Fl RX2 29 3 2 := ⟨by decide, by decide, "RatchetPost$Letter", wG_of 509 (by decide +kernel) (by decide +kernel), Or.inl (by decide +kernel)⟩
theorem fl_X2_32 : Fl RX2 32 2 10 := ⟨by decide, by decide, "RatchetPost$End", wG_of 280 (by decide +kernel) (by decide +kernel), Or.inl (by decide +kernel)⟩
theorem fl_X2_35 : Fl RX2 35 2 9 := ⟨by decide, by decide, "RatchetPost$End", wG_of 278 (by decide +kernel) (by decide +kernel), Or.inl (by decide +kernel)⟩
theorem fl_X3_3 : Fl RX3 3 5 1 := ⟨by decide, by decide, "RatchetPost$Thing", wG_of 343 (by decide +kernel) (by decide +kernel), Or.inl (by decide +kernel)⟩
theorem fl_X3_3_s : Fl RX3 3 4 1 := ⟨by decide, by decide, "RatchetPost$Thing", wG_of 343 (by decide +kernel) (by decide +kernel), Or.inl (by decide +kernel)⟩
theorem ml_X3_9 : Cond.methodLink RX3 9 yX4_init ∈ wG ∧ Cond.instanceMethod yX4_init ∈ wG := ⟨wG_of 585 (by decide +kernel) (by decide +kernel), wG_of 337 (by decide +kernel) (by decide +kernel)⟩
theorem fl_X3_13 : Fl RX3 13 4 8 := ⟨by decide, by decide, "RatchetPost$Skipped", wG_of 586 (by decide +kernel) (by decide +kernel), Or.inl (by decide +kernel)⟩
theorem fl_X3_19 : Fl RX3 19 4 9 := ⟨by decide, by decide, "RatchetPost$Skipped", wG_of 588 (by decide +kernel) (by decide +kernel), Or.inl (by decide +kernel)⟩
theorem fl_X3_22 : Fl RX3 22 4 10 := ⟨by decide, by decide, "RatchetPost$Skipped", wG_of 591 (by decide +kernel) (by decide +kernel), Or.inl (by decide +kernel)⟩
theorem fl_X3_25 : Fl RX3 25 4 11 := ⟨by decide, by decide, "RatchetPost$Skipped", wG_of 594 (by decide +kernel) (by decide +kernel), Or.inl (by decide +kernel)⟩
theorem oi_X4_3 : Cond.methodLink RX4 3 objectInit ∈ wG ∧ Cond.instanceMethod objectInit ∈ wG ∧ Cond.code objectInit ⟨#[0xb1]⟩ 1 none ∈ wG := ⟨wG_of 339 (by decide +kernel) (by decide +kernel), wG_of 90 (by decide +kernel) (by decide +kernel), wG_of 91 (by decide +kernel) (by decide +kernel)⟩
theorem fl_X4_9 : Fl RX4 9 5 7 := ⟨by decide, by decide, "RatchetPost$Thing", wG_of 356 (by decide +kernel) (by decide +kernel), Or.inl (by decide +kernel)⟩
theorem fl_X4_9_s : Fl RX4 9 4 7 := ⟨by decide, by decide, "RatchetPost$Thing", wG_of 356 (by decide +kernel) (by decide +kernel), Or.inl (by decide +kernel)⟩
theorem fl_X4_15 : Fl RX4 15 5 0 := ⟨by decide, by decide, "RatchetPost$Thing", wG_of 340 (by decide +kernel) (by decide +kernel), Or.inl (by decide +kernel)⟩
theorem fl_X4_15_s : Fl RX4 15 4 0 := ⟨by decide, by decide, "RatchetPost$Thing", wG_of 340 (by decide +kernel) (by decide +kernel), Or.inl (by decide +kernel)⟩
theorem fl_X4_18 : Fl RX4 18 5 1 := ⟨by decide, by decide, "RatchetPost$Thing", wG_of 344 (by decide +kernel) (by decide +kernel), Or.inl (by decide +kernel)⟩
theorem fl_X4_18_s : Fl RX4 18 4 1 := ⟨by decide, by decide, "RatchetPost$Thing", wG_of 344 (by decide +kernel) (by decide +kernel), Or.inl (by decide +kernel)⟩
theorem fl_X4_21 : Fl RX4 21 5 2 := ⟨by decide, by decide, "RatchetPost$Thing", wG_of 349 (by decide +kernel) (by decide +kernel), Or.inl (by decide +kernel)⟩
theorem fl_X4_21_s : Fl RX4 21 4 2 := ⟨by decide, by decide, "RatchetPost$Thing", wG_of 349 (by decide +kernel) (by decide +kernel), Or.inl (by decide +kernel)⟩
theorem fl_X4_25 : Fl RX4 25 5 3 := ⟨by decide, by decide, "RatchetPost$Thing", wG_of 350 (by decide +kernel) (by decide +kernel), Or.inl (by decide +kernel)⟩
theorem fl_X4_25_s : Fl RX4 25 4 3 := ⟨by decide, by decide, "RatchetPost$Thing", wG_of 350 (by decide +kernel) (by decide +kernel), Or.inl (by decide +kernel)⟩
theorem fl_X4_28 : Fl RX4 28 5 6 := ⟨by decide, by decide, "RatchetPost$Thing", wG_of 354 (by decide +kernel) (by decide +kernel), Or.inl (by decide +kernel)⟩
theorem fl_X4_28_s : Fl RX4 28 4 6 := ⟨by decide, by decide, "RatchetPost$Thing", wG_of 354 (by decide +kernel) (by decide +kernel), Or.inl (by decide +kernel)⟩
theorem mm_X4_32 : Cond.methodLink RX4 32 Lib.Math.min.name ∈ wG ∧ Cond.static Lib.Math.min.name ∈ wG ∧ Cond.initialized "java/lang/Math" ∈ wG ∧ Cond.code Lib.Math.min.name Lib.Math.min.code 2 (some .int) ∈ wG := ⟨wG_of 473 (by decide +kernel) (by decide +kernel), wG_of 427 (by decide +kernel) (by decide +kernel), wG_of 77 (by decide +kernel) (by decide +kernel), wG_of 428 (by decide +kernel) (by decide +kernel)⟩
theorem mm_X4_38 : Cond.methodLink RX4 38 Lib.Math.max.name ∈ wG ∧ Cond.static Lib.Math.max.name ∈ wG ∧ Cond.initialized "java/lang/Math" ∈ wG ∧ Cond.code Lib.Math.max.name Lib.Math.max.code 2 (some .int) ∈ wG := ⟨wG_of 474 (by decide +kernel) (by decide +kernel), wG_of 396 (by decide +kernel) (by decide +kernel), wG_of 77 (by decide +kernel) (by decide +kernel), wG_of 397 (by decide +kernel) (by decide +kernel)⟩
theorem oi_X5_3 : Cond.methodLink RX5 3 objectInit ∈ wG ∧ Cond.instanceMethod objectInit ∈ wG ∧ Cond.code objectInit ⟨#[0xb1]⟩ 1 none ∈ wG := ⟨wG_of 97 (by decide +kernel) (by decide +kernel), wG_of 90 (by decide +kernel) (by decide +kernel), wG_of 91 (by decide +kernel) (by decide +kernel)⟩
theorem nl_X5_9 : Nl RX5 9 1 := ⟨by decide, wG_of 98 (by decide +kernel) (by decide +kernel), wG_of 99 (by decide +kernel) (by decide +kernel), wG_of 67 (by decide +kernel) (by decide +kernel)⟩
theorem ml_X5_11 : Cond.methodLinkNest RX5 11 yX0_init RX8 ∈ wNst ∧ Cond.instanceMethod yX0_init ∈ wG := ⟨by decide +kernel, wG_of 101 (by decide +kernel) (by decide +kernel)⟩
theorem fl_X5_12 : Fl RX5 12 6 0 := ⟨by decide, by decide, "RatchetPost$Things", wG_of 139 (by decide +kernel) (by decide +kernel), Or.inl (by decide +kernel)⟩
theorem nl_X5_18 : Nl RX5 18 0 := ⟨by decide, wG_of 113 (by decide +kernel) (by decide +kernel), wG_of 114 (by decide +kernel) (by decide +kernel), wG_of 70 (by decide +kernel) (by decide +kernel)⟩
theorem ml_X5_20 : Cond.methodLink RX5 20 yJx4a65c_init_da8c8 ∈ wG ∧ Cond.instanceMethod yJx4a65c_init_da8c8 ∈ wG := ⟨wG_of 115 (by decide +kernel) (by decide +kernel), wG_of 116 (by decide +kernel) (by decide +kernel)⟩
theorem fl_X5_21 : Fl RX5 21 6 1 := ⟨by decide, by decide, "RatchetPost$Things", wG_of 141 (by decide +kernel) (by decide +kernel), Or.inl (by decide +kernel)⟩
theorem nl_X5_25 : Nl RX5 25 5 := ⟨by decide, wG_of 334 (by decide +kernel) (by decide +kernel), wG_of 335 (by decide +kernel) (by decide +kernel), wG_of 75 (by decide +kernel) (by decide +kernel)⟩
theorem cl_X5_25 : Cond.classLink RX5 25 "RatchetPost$Thing" ∈ wG := wG_of 334 (by decide +kernel) (by decide +kernel)
theorem ml_X5_27 : Cond.methodLink RX5 27 yX4_init ∈ wG ∧ Cond.instanceMethod yX4_init ∈ wG := ⟨wG_of 336 (by decide +kernel) (by decide +kernel), wG_of 337 (by decide +kernel) (by decide +kernel)⟩
theorem ml_X5_30 : Cond.methodLink RX5 30 yJx4a65c_add_9ea2d ∈ wG ∧ Cond.instanceMethod yJx4a65c_add_9ea2d ∈ wG ∧ Cond.selects yJx4a65c_add_9ea2d.cls yJx4a65c_add_9ea2d yJx4a65c_add_9ea2d ∈ wG := ⟨wG_of 376 (by decide +kernel) (by decide +kernel), wG_of 377 (by decide +kernel) (by decide +kernel), wG_of 378 (by decide +kernel) (by decide +kernel)⟩
theorem fl_X5_34 : Fl RX5 34 5 1 := ⟨by decide, by decide, "RatchetPost$Thing", wG_of 345 (by decide +kernel) (by decide +kernel), Or.inl (by decide +kernel)⟩
theorem fl_X5_34_s : Fl RX5 34 4 1 := ⟨by decide, by decide, "RatchetPost$Thing", wG_of 345 (by decide +kernel) (by decide +kernel), Or.inl (by decide +kernel)⟩
theorem ml_X5_38 : Cond.methodLink RX5 38 yX0_publicOf ∈ wG ∧ Cond.instanceMethod yX0_publicOf ∈ wG ∧ Cond.selects yX0_publicOf.cls yX0_publicOf yX0_publicOf ∈ wG := ⟨wG_of 454 (by decide +kernel) (by decide +kernel), wG_of 455 (by decide +kernel) (by decide +kernel), wG_of 456 (by decide +kernel) (by decide +kernel)⟩
theorem ml_X5_42 : Cond.methodLink RX5 42 yX0_power ∈ wG ∧ Cond.instanceMethod yX0_power ∈ wG ∧ Cond.selects yX0_power.cls yX0_power yX0_power ∈ wG := ⟨wG_of 462 (by decide +kernel) (by decide +kernel), wG_of 459 (by decide +kernel) (by decide +kernel), wG_of 460 (by decide +kernel) (by decide +kernel)⟩
theorem ml_X5_46 : Cond.methodLink RX5 46 yX5_comeOf ∈ wG ∧ Cond.instanceMethod yX5_comeOf ∈ wG ∧ Cond.selects yX5_comeOf.cls yX5_comeOf yX5_comeOf ∈ wG := ⟨wG_of 463 (by decide +kernel) (by decide +kernel), wG_of 465 (by decide +kernel) (by decide +kernel), wG_of 9 (by decide +kernel) (by decide +kernel)⟩
theorem ml_X5_50 : Cond.methodLink RX5 50 yX0_mix ∈ wG ∧ Cond.instanceMethod yX0_mix ∈ wG ∧ Cond.selects yX0_mix.cls yX0_mix yX0_mix ∈ wG := ⟨wG_of 483 (by decide +kernel) (by decide +kernel), wG_of 484 (by decide +kernel) (by decide +kernel), wG_of 485 (by decide +kernel) (by decide +kernel)⟩
theorem fl_X5_53 : Fl RX5 53 5 4 := ⟨by decide, by decide, "RatchetPost$Thing", wG_of 352 (by decide +kernel) (by decide +kernel), Or.inl (by decide +kernel)⟩
theorem fl_X5_53_s : Fl RX5 53 4 4 := ⟨by decide, by decide, "RatchetPost$Thing", wG_of 352 (by decide +kernel) (by decide +kernel), Or.inl (by decide +kernel)⟩
theorem fl_X5_57 : Fl RX5 57 5 0 := ⟨by decide, by decide, "RatchetPost$Thing", wG_of 341 (by decide +kernel) (by decide +kernel), Or.inl (by decide +kernel)⟩
theorem fl_X5_57_s : Fl RX5 57 4 0 := ⟨by decide, by decide, "RatchetPost$Thing", wG_of 341 (by decide +kernel) (by decide +kernel), Or.inl (by decide +kernel)⟩
theorem fl_X5_60 : Fl RX5 60 5 3 := ⟨by decide, by decide, "RatchetPost$Thing", wG_of 351 (by decide +kernel) (by decide +kernel), Or.inl (by decide +kernel)⟩
theorem fl_X5_60_s : Fl RX5 60 4 3 := ⟨by decide, by decide, "RatchetPost$Thing", wG_of 351 (by decide +kernel) (by decide +kernel), Or.inl (by decide +kernel)⟩
theorem fl_X5_63 : Fl RX5 63 5 5 := ⟨by decide, by decide, "RatchetPost$Thing", wG_of 353 (by decide +kernel) (by decide +kernel), Or.inl (by decide +kernel)⟩
theorem fl_X5_63_s : Fl RX5 63 4 5 := ⟨by decide, by decide, "RatchetPost$Thing", wG_of 353 (by decide +kernel) (by decide +kernel), Or.inl (by decide +kernel)⟩
theorem ml_X5_66 : Cond.methodLink RX5 66 yX4_stepsNow ∈ wG ∧ Cond.instanceMethod yX4_stepsNow ∈ wG ∧ Cond.selects yX4_stepsNow.cls yX4_stepsNow yX4_stepsNow ∈ wG := ⟨wG_of 467 (by decide +kernel) (by decide +kernel), wG_of 468 (by decide +kernel) (by decide +kernel), wG_of 469 (by decide +kernel) (by decide +kernel)⟩
theorem fl_X5_70 : Fl RX5 70 5 7 := ⟨by decide, by decide, "RatchetPost$Thing", wG_of 357 (by decide +kernel) (by decide +kernel), Or.inl (by decide +kernel)⟩
theorem fl_X5_70_s : Fl RX5 70 4 7 := ⟨by decide, by decide, "RatchetPost$Thing", wG_of 357 (by decide +kernel) (by decide +kernel), Or.inl (by decide +kernel)⟩
theorem fl_X5_73 : Fl RX5 73 6 2 := ⟨by decide, by decide, "RatchetPost$Things", wG_of 143 (by decide +kernel) (by decide +kernel), Or.inl (by decide +kernel)⟩
theorem fl_X5_76 : Fl RX5 76 5 6 := ⟨by decide, by decide, "RatchetPost$Thing", wG_of 355 (by decide +kernel) (by decide +kernel), Or.inl (by decide +kernel)⟩
theorem fl_X5_76_s : Fl RX5 76 4 6 := ⟨by decide, by decide, "RatchetPost$Thing", wG_of 355 (by decide +kernel) (by decide +kernel), Or.inl (by decide +kernel)⟩
theorem ml_X5_80 : Cond.methodLink RX5 80 yJx4a65c_size_8abf5 ∈ wG ∧ Cond.instanceMethod yJx4a65c_size_8abf5 ∈ wG ∧ Cond.selects yJx4a65c_size_8abf5.cls yJx4a65c_size_8abf5 yJx4a65c_size_8abf5 ∈ wG := ⟨wG_of 660 (by decide +kernel) (by decide +kernel), wG_of 661 (by decide +kernel) (by decide +kernel), wG_of 662 (by decide +kernel) (by decide +kernel)⟩
theorem ml_X5_83 : Cond.methodLink RX5 83 yJx4a65c_get_915e3 ∈ wG ∧ Cond.instanceMethod yJx4a65c_get_915e3 ∈ wG ∧ Cond.selects yJx4a65c_get_915e3.cls yJx4a65c_get_915e3 yJx4a65c_get_915e3 ∈ wG := ⟨wG_of 664 (by decide +kernel) (by decide +kernel), wG_of 665 (by decide +kernel) (by decide +kernel), wG_of 666 (by decide +kernel) (by decide +kernel)⟩
theorem oi_X6_3 : Cond.methodLink RX6 3 objectInit ∈ wG ∧ Cond.instanceMethod objectInit ∈ wG ∧ Cond.code objectInit ⟨#[0xb1]⟩ 1 none ∈ wG := ⟨wG_of 177 (by decide +kernel) (by decide +kernel), wG_of 90 (by decide +kernel) (by decide +kernel), wG_of 91 (by decide +kernel) (by decide +kernel)⟩
theorem fl_X6_9 : Fl RX6 9 7 0 := ⟨by decide, by decide, "RatchetPost$Trace", wG_of 178 (by decide +kernel) (by decide +kernel), Or.inl (by decide +kernel)⟩
theorem fl_X6_15 : Fl RX6 15 7 1 := ⟨by decide, by decide, "RatchetPost$Trace", wG_of 180 (by decide +kernel) (by decide +kernel), Or.inl (by decide +kernel)⟩
theorem oi_X7_1 : Cond.methodLink RX7 1 objectInit ∈ wG ∧ Cond.instanceMethod objectInit ∈ wG ∧ Cond.code objectInit ⟨#[0xb1]⟩ 1 none ∈ wG := ⟨wG_of 162 (by decide +kernel) (by decide +kernel), wG_of 90 (by decide +kernel) (by decide +kernel), wG_of 91 (by decide +kernel) (by decide +kernel)⟩
theorem fl_X7_7 : Fl RX7 7 8 0 := ⟨by decide, by decide, "RatchetPost$Tray", wG_of 163 (by decide +kernel) (by decide +kernel), Or.inl (by decide +kernel)⟩
theorem fl_X7_13 : Fl RX7 13 8 1 := ⟨by decide, by decide, "RatchetPost$Tray", wG_of 165 (by decide +kernel) (by decide +kernel), Or.inl (by decide +kernel)⟩
theorem oi_X8_1 : Cond.methodLink RX8 1 objectInit ∈ wG ∧ Cond.instanceMethod objectInit ∈ wG ∧ Cond.code objectInit ⟨#[0xb1]⟩ 1 none ∈ wG := ⟨wG_of 89 (by decide +kernel) (by decide +kernel), wG_of 90 (by decide +kernel) (by decide +kernel), wG_of 91 (by decide +kernel) (by decide +kernel)⟩
theorem nl_X8_7 : Nl RX8 7 6 := ⟨by decide, wG_of 92 (by decide +kernel) (by decide +kernel), wG_of 93 (by decide +kernel) (by decide +kernel), wG_of 66 (by decide +kernel) (by decide +kernel)⟩
theorem ml_X8_9 : Cond.methodLinkNest RX8 9 yX5_init RX8 ∈ wNst ∧ Cond.instanceMethod yX5_init ∈ wG := ⟨by decide +kernel, wG_of 95 (by decide +kernel) (by decide +kernel)⟩
theorem fl_X8_10 : Fl RX8 10 9 1 := ⟨by decide, by decide, "RatchetPost", wG_of 189 (by decide +kernel) (by decide +kernel), Or.inl (by decide +kernel)⟩
theorem fl_X8_16 : Fl RX8 16 6 0 := ⟨by decide, by decide, "RatchetPost$Things", wG_of 140 (by decide +kernel) (by decide +kernel), Or.inl (by decide +kernel)⟩
theorem fl_X8_20 : Fl RX8 20 9 0 := ⟨by decide, by decide, "RatchetPost", wG_of 188 (by decide +kernel) (by decide +kernel), Or.inl (by decide +kernel)⟩
theorem nl_X8_21 : Nl RX8 21 2 := ⟨by decide, wG_of 152 (by decide +kernel) (by decide +kernel), wG_of 254 (by decide +kernel) (by decide +kernel), wG_of 74 (by decide +kernel) (by decide +kernel)⟩
theorem cl_X8_21 : Cond.classLink RX8 21 "RatchetPost$End" ∈ wG := wG_of 152 (by decide +kernel) (by decide +kernel)
theorem fl_X8_23 : Fl RX8 23 9 2 := ⟨by decide, by decide, "RatchetPost", wG_of 190 (by decide +kernel) (by decide +kernel), Or.inl (by decide +kernel)⟩
theorem nl_X8_27 : Nl RX8 27 3 := ⟨by decide, wG_of 154 (by decide +kernel) (by decide +kernel), wG_of 500 (by decide +kernel) (by decide +kernel), wG_of 80 (by decide +kernel) (by decide +kernel)⟩
theorem cl_X8_27 : Cond.classLink RX8 27 "RatchetPost$Letter" ∈ wG := wG_of 154 (by decide +kernel) (by decide +kernel)
theorem fl_X8_29 : Fl RX8 29 9 3 := ⟨by decide, by decide, "RatchetPost", wG_of 191 (by decide +kernel) (by decide +kernel), Or.inl (by decide +kernel)⟩
theorem nl_X8_33 : Nl RX8 33 8 := ⟨by decide, wG_of 156 (by decide +kernel) (by decide +kernel), wG_of 158 (by decide +kernel) (by decide +kernel), wG_of 71 (by decide +kernel) (by decide +kernel)⟩
theorem cl_X8_33 : Cond.classLink RX8 33 "RatchetPost$Tray" ∈ wG := wG_of 156 (by decide +kernel) (by decide +kernel)
theorem fl_X8_35 : Fl RX8 35 9 4 := ⟨by decide, by decide, "RatchetPost", wG_of 192 (by decide +kernel) (by decide +kernel), Or.inl (by decide +kernel)⟩
theorem ml_X8_39 : Cond.methodLinkNest RX8 39 yX7_init RX8 ∈ wNst ∧ Cond.instanceMethod yX7_init ∈ wG := ⟨by decide +kernel, wG_of 160 (by decide +kernel) (by decide +kernel)⟩
theorem nl_X8_40 : Nl RX8 40 7 := ⟨by decide, wG_of 172 (by decide +kernel) (by decide +kernel), wG_of 173 (by decide +kernel) (by decide +kernel), wG_of 72 (by decide +kernel) (by decide +kernel)⟩
theorem ml_X8_42 : Cond.methodLinkNest RX8 42 yX6_init RX8 ∈ wNst ∧ Cond.instanceMethod yX6_init ∈ wG := ⟨by decide +kernel, wG_of 175 (by decide +kernel) (by decide +kernel)⟩
theorem fl_X8_43 : Fl RX8 43 9 5 := ⟨by decide, by decide, "RatchetPost", wG_of 193 (by decide +kernel) (by decide +kernel), Or.inl (by decide +kernel)⟩
theorem fl_X8_47 : Fl RX8 47 9 8 := ⟨by decide, by decide, "RatchetPost", wG_of 196 (by decide +kernel) (by decide +kernel), Or.inl (by decide +kernel)⟩
theorem fl_X8_51 : Fl RX8 51 9 9 := ⟨by decide, by decide, "RatchetPost", wG_of 197 (by decide +kernel) (by decide +kernel), Or.inl (by decide +kernel)⟩
theorem ml_X8_54 : Cond.methodLink RX8 54 yX8_refuse ∈ wG ∧ Cond.instanceMethod yX8_refuse ∈ wG ∧ Cond.selects yX8_refuse.cls yX8_refuse yX8_refuse ∈ wG := ⟨wG_of 226 (by decide +kernel) (by decide +kernel), wG_of 228 (by decide +kernel) (by decide +kernel), wG_of 0 (by decide +kernel) (by decide +kernel)⟩
theorem fl_X8_58 : Fl RX8 58 9 6 := ⟨by decide, by decide, "RatchetPost", wG_of 194 (by decide +kernel) (by decide +kernel), Or.inl (by decide +kernel)⟩
theorem fl_X8_61 : Fl RX8 61 1 0 := ⟨by decide, by decide, "RatchetPost$Arithmetic", wG_of 105 (by decide +kernel) (by decide +kernel), Or.inl (by decide +kernel)⟩
theorem fl_X8_66 : Fl RX8 66 1 1 := ⟨by decide, by decide, "RatchetPost$Arithmetic", wG_of 107 (by decide +kernel) (by decide +kernel), Or.inl (by decide +kernel)⟩
theorem ml_X8_69 : Cond.methodLink RX8 69 yX8_done ∈ wG ∧ Cond.instanceMethod yX8_done ∈ wG ∧ Cond.selects yX8_done.cls yX8_done yX8_done ∈ wG := ⟨wG_of 230 (by decide +kernel) (by decide +kernel), wG_of 232 (by decide +kernel) (by decide +kernel), wG_of 1 (by decide +kernel) (by decide +kernel)⟩
theorem ml_X8_72 : Cond.methodLink RX8 72 yX8_endOldSkipped ∈ wG ∧ Cond.instanceMethod yX8_endOldSkipped ∈ wG ∧ Cond.selects yX8_endOldSkipped.cls yX8_endOldSkipped yX8_endOldSkipped ∈ wG := ⟨wG_of 238 (by decide +kernel) (by decide +kernel), wG_of 240 (by decide +kernel) (by decide +kernel), wG_of 2 (by decide +kernel) (by decide +kernel)⟩
theorem ml_X8_75 : Cond.methodLink RX8 75 yX1_init ∈ wG ∧ Cond.instanceMethod yX1_init ∈ wG := ⟨wG_of 255 (by decide +kernel) (by decide +kernel), wG_of 256 (by decide +kernel) (by decide +kernel)⟩
theorem ml_X8_78 : Cond.methodLink RX8 78 yX8_endAt ∈ wG ∧ Cond.instanceMethod yX8_endAt ∈ wG ∧ Cond.selects yX8_endAt.cls yX8_endAt yX8_endAt ∈ wG := ⟨wG_of 326 (by decide +kernel) (by decide +kernel), wG_of 328 (by decide +kernel) (by decide +kernel), wG_of 3 (by decide +kernel) (by decide +kernel)⟩
theorem fl_X8_82 : Fl RX8 82 2 2 := ⟨by decide, by decide, "RatchetPost$End", wG_of 269 (by decide +kernel) (by decide +kernel), Or.inl (by decide +kernel)⟩
theorem fl_X8_85 : Fl RX8 85 2 1 := ⟨by decide, by decide, "RatchetPost$End", wG_of 267 (by decide +kernel) (by decide +kernel), Or.inl (by decide +kernel)⟩
theorem ml_X8_89 : Cond.methodLink RX8 89 yX5_newSecret ∈ wG ∧ Cond.instanceMethod yX5_newSecret ∈ wG ∧ Cond.selects yX5_newSecret.cls yX5_newSecret yX5_newSecret ∈ wG := ⟨wG_of 330 (by decide +kernel) (by decide +kernel), wG_of 331 (by decide +kernel) (by decide +kernel), wG_of 332 (by decide +kernel) (by decide +kernel)⟩
theorem ml_X8_93 : Cond.methodLink RX8 93 yX8_lowerOf ∈ wG ∧ Cond.instanceMethod yX8_lowerOf ∈ wG ∧ Cond.selects yX8_lowerOf.cls yX8_lowerOf yX8_lowerOf ∈ wG := ⟨wG_of 438 (by decide +kernel) (by decide +kernel), wG_of 440 (by decide +kernel) (by decide +kernel), wG_of 7 (by decide +kernel) (by decide +kernel)⟩
theorem ml_X8_96 : Cond.methodLink RX8 96 yX8_otherOf ∈ wG ∧ Cond.instanceMethod yX8_otherOf ∈ wG ∧ Cond.selects yX8_otherOf.cls yX8_otherOf yX8_otherOf ∈ wG := ⟨wG_of 442 (by decide +kernel) (by decide +kernel), wG_of 444 (by decide +kernel) (by decide +kernel), wG_of 8 (by decide +kernel) (by decide +kernel)⟩
theorem fl_X8_99 : Fl RX8 99 2 3 := ⟨by decide, by decide, "RatchetPost$End", wG_of 270 (by decide +kernel) (by decide +kernel), Or.inl (by decide +kernel)⟩
theorem ml_X8_103 : Cond.methodLink RX8 103 yX1_nextSecret ∈ wG ∧ Cond.instanceMethod yX1_nextSecret ∈ wG ∧ Cond.selects yX1_nextSecret.cls yX1_nextSecret yX1_nextSecret ∈ wG := ⟨wG_of 446 (by decide +kernel) (by decide +kernel), wG_of 447 (by decide +kernel) (by decide +kernel), wG_of 448 (by decide +kernel) (by decide +kernel)⟩
theorem ml_X8_107 : Cond.methodLink RX8 107 yX5_meetingOf ∈ wG ∧ Cond.instanceMethod yX5_meetingOf ∈ wG ∧ Cond.selects yX5_meetingOf.cls yX5_meetingOf yX5_meetingOf ∈ wG := ⟨wG_of 450 (by decide +kernel) (by decide +kernel), wG_of 451 (by decide +kernel) (by decide +kernel), wG_of 452 (by decide +kernel) (by decide +kernel)⟩
theorem ml_X8_111 : Cond.methodLink RX8 111 yX5_firstRootOf ∈ wG ∧ Cond.instanceMethod yX5_firstRootOf ∈ wG ∧ Cond.selects yX5_firstRootOf.cls yX5_firstRootOf yX5_firstRootOf ∈ wG := ⟨wG_of 475 (by decide +kernel) (by decide +kernel), wG_of 476 (by decide +kernel) (by decide +kernel), wG_of 477 (by decide +kernel) (by decide +kernel)⟩
theorem fl_X8_115 : Fl RX8 115 2 4 := ⟨by decide, by decide, "RatchetPost$End", wG_of 272 (by decide +kernel) (by decide +kernel), Or.inl (by decide +kernel)⟩
theorem fl_X8_119 : Fl RX8 119 2 5 := ⟨by decide, by decide, "RatchetPost$End", wG_of 273 (by decide +kernel) (by decide +kernel), Or.inl (by decide +kernel)⟩
theorem ml_X8_122 : Cond.methodLink RX8 122 yX5_rootOf ∈ wG ∧ Cond.instanceMethod yX5_rootOf ∈ wG ∧ Cond.selects yX5_rootOf.cls yX5_rootOf yX5_rootOf ∈ wG := ⟨wG_of 479 (by decide +kernel) (by decide +kernel), wG_of 480 (by decide +kernel) (by decide +kernel), wG_of 481 (by decide +kernel) (by decide +kernel)⟩
theorem ml_X8_125 : Cond.methodLink RX8 125 yX5_chainOf ∈ wG ∧ Cond.instanceMethod yX5_chainOf ∈ wG ∧ Cond.selects yX5_chainOf.cls yX5_chainOf yX5_chainOf ∈ wG := ⟨wG_of 487 (by decide +kernel) (by decide +kernel), wG_of 488 (by decide +kernel) (by decide +kernel), wG_of 489 (by decide +kernel) (by decide +kernel)⟩
theorem fl_X8_128 : Fl RX8 128 2 6 := ⟨by decide, by decide, "RatchetPost$End", wG_of 274 (by decide +kernel) (by decide +kernel), Or.inl (by decide +kernel)⟩
theorem fl_X8_131 : Fl RX8 131 5 1 := ⟨by decide, by decide, "RatchetPost$Thing", wG_of 346 (by decide +kernel) (by decide +kernel), Or.inl (by decide +kernel)⟩
theorem fl_X8_131_s : Fl RX8 131 4 1 := ⟨by decide, by decide, "RatchetPost$Thing", wG_of 346 (by decide +kernel) (by decide +kernel), Or.inl (by decide +kernel)⟩
theorem ml_X8_136 : Cond.methodLink RX8 136 yX0_publicOf ∈ wG ∧ Cond.instanceMethod yX0_publicOf ∈ wG ∧ Cond.selects yX0_publicOf.cls yX0_publicOf yX0_publicOf ∈ wG := ⟨wG_of 491 (by decide +kernel) (by decide +kernel), wG_of 455 (by decide +kernel) (by decide +kernel), wG_of 456 (by decide +kernel) (by decide +kernel)⟩
theorem fl_X8_139 : Fl RX8 139 2 8 := ⟨by decide, by decide, "RatchetPost$End", wG_of 277 (by decide +kernel) (by decide +kernel), Or.inl (by decide +kernel)⟩
theorem fl_X8_142 : Fl RX8 142 9 7 := ⟨by decide, by decide, "RatchetPost", wG_of 195 (by decide +kernel) (by decide +kernel), Or.inl (by decide +kernel)⟩
theorem ml_X8_145 : Cond.methodLink RX8 145 yX5_keyOf ∈ wG ∧ Cond.instanceMethod yX5_keyOf ∈ wG ∧ Cond.selects yX5_keyOf.cls yX5_keyOf yX5_keyOf ∈ wG := ⟨wG_of 496 (by decide +kernel) (by decide +kernel), wG_of 497 (by decide +kernel) (by decide +kernel), wG_of 498 (by decide +kernel) (by decide +kernel)⟩
theorem ml_X8_148 : Cond.methodLink RX8 148 yX2_init ∈ wG ∧ Cond.instanceMethod yX2_init ∈ wG := ⟨wG_of 501 (by decide +kernel) (by decide +kernel), wG_of 502 (by decide +kernel) (by decide +kernel)⟩
theorem fl_X8_151 : Fl RX8 151 3 3 := ⟨by decide, by decide, "RatchetPost$Letter", wG_of 512 (by decide +kernel) (by decide +kernel), Or.inl (by decide +kernel)⟩
theorem fl_X8_155 : Fl RX8 155 3 4 := ⟨by decide, by decide, "RatchetPost$Letter", wG_of 513 (by decide +kernel) (by decide +kernel), Or.inl (by decide +kernel)⟩
theorem ml_X8_158 : Cond.methodLink RX8 158 yX0_mix ∈ wG ∧ Cond.instanceMethod yX0_mix ∈ wG ∧ Cond.selects yX0_mix.cls yX0_mix yX0_mix ∈ wG := ⟨wG_of 528 (by decide +kernel) (by decide +kernel), wG_of 484 (by decide +kernel) (by decide +kernel), wG_of 485 (by decide +kernel) (by decide +kernel)⟩
theorem fl_X8_162 : Fl RX8 162 3 5 := ⟨by decide, by decide, "RatchetPost$Letter", wG_of 514 (by decide +kernel) (by decide +kernel), Or.inl (by decide +kernel)⟩
theorem ml_X8_165 : Cond.methodLink RX8 165 yX5_nextOf ∈ wG ∧ Cond.instanceMethod yX5_nextOf ∈ wG ∧ Cond.selects yX5_nextOf.cls yX5_nextOf yX5_nextOf ∈ wG := ⟨wG_of 529 (by decide +kernel) (by decide +kernel), wG_of 530 (by decide +kernel) (by decide +kernel), wG_of 531 (by decide +kernel) (by decide +kernel)⟩
theorem fl_X8_168 : Fl RX8 168 2 9 := ⟨by decide, by decide, "RatchetPost$End", wG_of 279 (by decide +kernel) (by decide +kernel), Or.inl (by decide +kernel)⟩
theorem ml_X8_171 : Cond.methodLink RX8 171 yX8_letterAt ∈ wG ∧ Cond.instanceMethod yX8_letterAt ∈ wG ∧ Cond.selects yX8_letterAt.cls yX8_letterAt yX8_letterAt ∈ wG := ⟨wG_of 537 (by decide +kernel) (by decide +kernel), wG_of 539 (by decide +kernel) (by decide +kernel), wG_of 10 (by decide +kernel) (by decide +kernel)⟩
theorem fl_X8_175 : Fl RX8 175 3 0 := ⟨by decide, by decide, "RatchetPost$Letter", wG_of 506 (by decide +kernel) (by decide +kernel), Or.inl (by decide +kernel)⟩
theorem fl_X8_178 : Fl RX8 178 2 0 := ⟨by decide, by decide, "RatchetPost$End", wG_of 265 (by decide +kernel) (by decide +kernel), Or.inl (by decide +kernel)⟩
theorem ml_X8_181 : Cond.methodLink RX8 181 yX1_keptFor ∈ wG ∧ Cond.instanceMethod yX1_keptFor ∈ wG ∧ Cond.selects yX1_keptFor.cls yX1_keptFor yX1_keptFor ∈ wG := ⟨wG_of 545 (by decide +kernel) (by decide +kernel), wG_of 546 (by decide +kernel) (by decide +kernel), wG_of 547 (by decide +kernel) (by decide +kernel)⟩
theorem ml_X8_185 : Cond.methodLink RX8 185 yX8_takeByKept ∈ wG ∧ Cond.instanceMethod yX8_takeByKept ∈ wG ∧ Cond.selects yX8_takeByKept.cls yX8_takeByKept yX8_takeByKept ∈ wG := ⟨wG_of 557 (by decide +kernel) (by decide +kernel), wG_of 559 (by decide +kernel) (by decide +kernel), wG_of 11 (by decide +kernel) (by decide +kernel)⟩
theorem ml_X8_189 : Cond.methodLink RX8 189 yX2_from ∈ wG ∧ Cond.instanceMethod yX2_from ∈ wG ∧ Cond.selects yX2_from.cls yX2_from yX2_from ∈ wG := ⟨wG_of 566 (by decide +kernel) (by decide +kernel), wG_of 550 (by decide +kernel) (by decide +kernel), wG_of 551 (by decide +kernel) (by decide +kernel)⟩
theorem fl_X8_192 : Fl RX8 192 2 7 := ⟨by decide, by decide, "RatchetPost$End", wG_of 275 (by decide +kernel) (by decide +kernel), Or.inl (by decide +kernel)⟩
theorem ml_X8_195 : Cond.methodLink RX8 195 yX8_takeByChain ∈ wG ∧ Cond.instanceMethod yX8_takeByChain ∈ wG ∧ Cond.selects yX8_takeByChain.cls yX8_takeByChain yX8_takeByChain ∈ wG := ⟨wG_of 567 (by decide +kernel) (by decide +kernel), wG_of 569 (by decide +kernel) (by decide +kernel), wG_of 13 (by decide +kernel) (by decide +kernel)⟩
theorem ml_X8_199 : Cond.methodLink RX8 199 yX8_takeNewPublic ∈ wG ∧ Cond.instanceMethod yX8_takeNewPublic ∈ wG ∧ Cond.selects yX8_takeNewPublic.cls yX8_takeNewPublic yX8_takeNewPublic ∈ wG := ⟨wG_of 622 (by decide +kernel) (by decide +kernel), wG_of 624 (by decide +kernel) (by decide +kernel), wG_of 17 (by decide +kernel) (by decide +kernel)⟩
theorem ml_X8_202 : Cond.methodLink RX8 202 yX5_show ∈ wG ∧ Cond.instanceMethod yX5_show ∈ wG ∧ Cond.selects yX5_show.cls yX5_show yX5_show ∈ wG := ⟨wG_of 652 (by decide +kernel) (by decide +kernel), wG_of 653 (by decide +kernel) (by decide +kernel), wG_of 654 (by decide +kernel) (by decide +kernel)⟩
theorem fl_X8_206 : Fl RX8 206 2 13 := ⟨by decide, by decide, "RatchetPost$End", wG_of 286 (by decide +kernel) (by decide +kernel), Or.inl (by decide +kernel)⟩
theorem fl_X8_209 : Fl RX8 209 2 12 := ⟨by decide, by decide, "RatchetPost$End", wG_of 284 (by decide +kernel) (by decide +kernel), Or.inl (by decide +kernel)⟩
theorem fl_X8_213 : Fl RX8 213 4 8 := ⟨by decide, by decide, "RatchetPost$Skipped", wG_of 587 (by decide +kernel) (by decide +kernel), Or.inl (by decide +kernel)⟩
theorem nl_X8_214 : Nl RX8 214 4 := ⟨by decide, wG_of 580 (by decide +kernel) (by decide +kernel), wG_of 581 (by decide +kernel) (by decide +kernel), wG_of 81 (by decide +kernel) (by decide +kernel)⟩
theorem cl_X8_214 : Cond.classLink RX8 214 "RatchetPost$Skipped" ∈ wG := wG_of 580 (by decide +kernel) (by decide +kernel)
theorem ml_X8_218 : Cond.methodLink RX8 218 yX5_settle ∈ wG ∧ Cond.instanceMethod yX5_settle ∈ wG ∧ Cond.selects yX5_settle.cls yX5_settle yX5_settle ∈ wG := ⟨wG_of 656 (by decide +kernel) (by decide +kernel), wG_of 657 (by decide +kernel) (by decide +kernel), wG_of 658 (by decide +kernel) (by decide +kernel)⟩
theorem fl_X8_221 : Fl RX8 221 3 2 := ⟨by decide, by decide, "RatchetPost$Letter", wG_of 510 (by decide +kernel) (by decide +kernel), Or.inl (by decide +kernel)⟩
theorem fl_X8_222 : Fl RX8 222 5 7 := ⟨by decide, by decide, "RatchetPost$Thing", wG_of 358 (by decide +kernel) (by decide +kernel), Or.inl (by decide +kernel)⟩
theorem fl_X8_222_s : Fl RX8 222 4 7 := ⟨by decide, by decide, "RatchetPost$Thing", wG_of 358 (by decide +kernel) (by decide +kernel), Or.inl (by decide +kernel)⟩
theorem ml_X8_225 : Cond.methodLink RX8 225 yX8_valueOf ∈ wG ∧ Cond.static yX8_valueOf ∈ wG := ⟨wG_of 698 (by decide +kernel) (by decide +kernel), wG_of 699 (by decide +kernel) (by decide +kernel)⟩
theorem fl_X8_228 : Fl RX8 228 2 10 := ⟨by decide, by decide, "RatchetPost$End", wG_of 281 (by decide +kernel) (by decide +kernel), Or.inl (by decide +kernel)⟩
theorem fl_X8_231 : Fl RX8 231 2 11 := ⟨by decide, by decide, "RatchetPost$End", wG_of 282 (by decide +kernel) (by decide +kernel), Or.inl (by decide +kernel)⟩
theorem fl_X8_234 : Fl RX8 234 4 9 := ⟨by decide, by decide, "RatchetPost$Skipped", wG_of 590 (by decide +kernel) (by decide +kernel), Or.inl (by decide +kernel)⟩
theorem fl_X8_235 : Fl RX8 235 4 10 := ⟨by decide, by decide, "RatchetPost$Skipped", wG_of 593 (by decide +kernel) (by decide +kernel), Or.inl (by decide +kernel)⟩
theorem fl_X8_238 : Fl RX8 238 4 1 := ⟨by decide, by decide, "RatchetPost$Skipped", wG_of 347 (by decide +kernel) (by decide +kernel), Or.inr (wG_of 348 (by decide +kernel) (by decide +kernel))⟩
theorem fl_X8_239 : Fl RX8 239 4 11 := ⟨by decide, by decide, "RatchetPost$Skipped", wG_of 596 (by decide +kernel) (by decide +kernel), Or.inl (by decide +kernel)⟩
theorem ml_X8_240 : Cond.methodLink RX8 240 yX2_before ∈ wG ∧ Cond.instanceMethod yX2_before ∈ wG ∧ Cond.selects yX2_before.cls yX2_before yX2_before ∈ wG := ⟨wG_of 630 (by decide +kernel) (by decide +kernel), wG_of 631 (by decide +kernel) (by decide +kernel), wG_of 632 (by decide +kernel) (by decide +kernel)⟩
theorem ml_X8_242 : Cond.methodLink RX8 242 yX2_place ∈ wG ∧ Cond.instanceMethod yX2_place ∈ wG ∧ Cond.selects yX2_place.cls yX2_place yX2_place ∈ wG := ⟨wG_of 571 (by decide +kernel) (by decide +kernel), wG_of 554 (by decide +kernel) (by decide +kernel), wG_of 555 (by decide +kernel) (by decide +kernel)⟩
theorem fl_X8_244 : Fl RX8 244 6 1 := ⟨by decide, by decide, "RatchetPost$Things", wG_of 142 (by decide +kernel) (by decide +kernel), Or.inl (by decide +kernel)⟩
theorem ml_X8_248 : Cond.methodLink RX8 248 yJx4a65c_size_8abf5 ∈ wG ∧ Cond.instanceMethod yJx4a65c_size_8abf5 ∈ wG ∧ Cond.selects yJx4a65c_size_8abf5.cls yJx4a65c_size_8abf5 yJx4a65c_size_8abf5 ∈ wG := ⟨wG_of 713 (by decide +kernel) (by decide +kernel), wG_of 661 (by decide +kernel) (by decide +kernel), wG_of 662 (by decide +kernel) (by decide +kernel)⟩
theorem fl_X8_253 : Fl RX8 253 6 2 := ⟨by decide, by decide, "RatchetPost$Things", wG_of 144 (by decide +kernel) (by decide +kernel), Or.inl (by decide +kernel)⟩
theorem fl_X8_256 : Fl RX8 256 7 1 := ⟨by decide, by decide, "RatchetPost$Trace", wG_of 181 (by decide +kernel) (by decide +kernel), Or.inl (by decide +kernel)⟩
theorem ml_X8_258 : Cond.methodLink RX8 258 yX8_trayAt ∈ wG ∧ Cond.instanceMethod yX8_trayAt ∈ wG ∧ Cond.selects yX8_trayAt.cls yX8_trayAt yX8_trayAt ∈ wG := ⟨wG_of 718 (by decide +kernel) (by decide +kernel), wG_of 720 (by decide +kernel) (by decide +kernel), wG_of 20 (by decide +kernel) (by decide +kernel)⟩
theorem ml_X8_262 : Cond.methodLink RX8 262 yX7_put ∈ wG ∧ Cond.instanceMethod yX7_put ∈ wG ∧ Cond.selects yX7_put.cls yX7_put yX7_put ∈ wG := ⟨wG_of 722 (by decide +kernel) (by decide +kernel), wG_of 723 (by decide +kernel) (by decide +kernel), wG_of 724 (by decide +kernel) (by decide +kernel)⟩
theorem ml_X8_266 : Cond.methodLink RX8 266 yX8_holdOfLetter ∈ wG ∧ Cond.instanceMethod yX8_holdOfLetter ∈ wG ∧ Cond.selects yX8_holdOfLetter.cls yX8_holdOfLetter yX8_holdOfLetter ∈ wG := ⟨wG_of 726 (by decide +kernel) (by decide +kernel), wG_of 728 (by decide +kernel) (by decide +kernel), wG_of 21 (by decide +kernel) (by decide +kernel)⟩
theorem ml_X8_270 : Cond.methodLink RX8 270 yX8_holdOfEnd ∈ wG ∧ Cond.instanceMethod yX8_holdOfEnd ∈ wG ∧ Cond.selects yX8_holdOfEnd.cls yX8_holdOfEnd yX8_holdOfEnd ∈ wG := ⟨wG_of 730 (by decide +kernel) (by decide +kernel), wG_of 732 (by decide +kernel) (by decide +kernel), wG_of 22 (by decide +kernel) (by decide +kernel)⟩
theorem fl_X8_274 : Fl RX8 274 8 1 := ⟨by decide, by decide, "RatchetPost$Tray", wG_of 166 (by decide +kernel) (by decide +kernel), Or.inl (by decide +kernel)⟩
theorem fl_X8_278 : Fl RX8 278 8 0 := ⟨by decide, by decide, "RatchetPost$Tray", wG_of 164 (by decide +kernel) (by decide +kernel), Or.inl (by decide +kernel)⟩
theorem fl_X8_281 : Fl RX8 281 5 0 := ⟨by decide, by decide, "RatchetPost$Thing", wG_of 342 (by decide +kernel) (by decide +kernel), Or.inl (by decide +kernel)⟩
theorem fl_X8_281_s : Fl RX8 281 4 0 := ⟨by decide, by decide, "RatchetPost$Thing", wG_of 342 (by decide +kernel) (by decide +kernel), Or.inl (by decide +kernel)⟩
theorem ml_X8_284 : Cond.methodLink RX8 284 yX8_run ∈ wG ∧ Cond.static yX8_run ∈ wG := ⟨wG_of 742 (by decide +kernel) (by decide +kernel), wG_of 743 (by decide +kernel) (by decide +kernel)⟩
theorem fl_X8_288 : Fl RX8 288 7 0 := ⟨by decide, by decide, "RatchetPost$Trace", wG_of 179 (by decide +kernel) (by decide +kernel), Or.inl (by decide +kernel)⟩
theorem ml_X8_291 : Cond.methodLink RX8 291 yJ9_floorMod_7cf53 ∈ wG ∧ Cond.static yJ9_floorMod_7cf53 ∈ wG := ⟨wG_of 766 (by decide +kernel) (by decide +kernel), wG_of 767 (by decide +kernel) (by decide +kernel)⟩
theorem ml_X8_296 : Cond.methodLink RX8 296 yX8_forgeKind ∈ wG ∧ Cond.instanceMethod yX8_forgeKind ∈ wG ∧ Cond.selects yX8_forgeKind.cls yX8_forgeKind yX8_forgeKind ∈ wG := ⟨wG_of 769 (by decide +kernel) (by decide +kernel), wG_of 771 (by decide +kernel) (by decide +kernel), wG_of 23 (by decide +kernel) (by decide +kernel)⟩
theorem ml_X8_300 : Cond.methodLink RX8 300 yX8_forgeHeader ∈ wG ∧ Cond.instanceMethod yX8_forgeHeader ∈ wG ∧ Cond.selects yX8_forgeHeader.cls yX8_forgeHeader yX8_forgeHeader ∈ wG := ⟨wG_of 776 (by decide +kernel) (by decide +kernel), wG_of 778 (by decide +kernel) (by decide +kernel), wG_of 24 (by decide +kernel) (by decide +kernel)⟩
theorem ml_X8_303 : Cond.methodLink RX8 303 yX8_forgeCopy ∈ wG ∧ Cond.instanceMethod yX8_forgeCopy ∈ wG ∧ Cond.selects yX8_forgeCopy.cls yX8_forgeCopy yX8_forgeCopy ∈ wG := ⟨wG_of 780 (by decide +kernel) (by decide +kernel), wG_of 782 (by decide +kernel) (by decide +kernel), wG_of 25 (by decide +kernel) (by decide +kernel)⟩
theorem ml_X8_306 : Cond.methodLink RX8 306 yX8_forgeRow ∈ wG ∧ Cond.instanceMethod yX8_forgeRow ∈ wG ∧ Cond.selects yX8_forgeRow.cls yX8_forgeRow yX8_forgeRow ∈ wG := ⟨wG_of 784 (by decide +kernel) (by decide +kernel), wG_of 786 (by decide +kernel) (by decide +kernel), wG_of 26 (by decide +kernel) (by decide +kernel)⟩
theorem fl_X8_310 : Fl RX8 310 9 10 := ⟨by decide, by decide, "RatchetPost", wG_of 198 (by decide +kernel) (by decide +kernel), Or.inl (by decide +kernel)⟩
theorem ml_X8_313 : Cond.methodLink RX8 313 yX8_opened ∈ wG ∧ Cond.instanceMethod yX8_opened ∈ wG ∧ Cond.selects yX8_opened.cls yX8_opened yX8_opened ∈ wG := ⟨wG_of 561 (by decide +kernel) (by decide +kernel), wG_of 563 (by decide +kernel) (by decide +kernel), wG_of 12 (by decide +kernel) (by decide +kernel)⟩
theorem ml_X8_317 : Cond.methodLink RX8 317 yX1_drop ∈ wG ∧ Cond.instanceMethod yX1_drop ∈ wG ∧ Cond.selects yX1_drop.cls yX1_drop yX1_drop ∈ wG := ⟨wG_of 565 (by decide +kernel) (by decide +kernel), wG_of 247 (by decide +kernel) (by decide +kernel), wG_of 248 (by decide +kernel) (by decide +kernel)⟩
theorem ml_X8_320 : Cond.methodLink RX8 320 yX8_keyAhead ∈ wG ∧ Cond.instanceMethod yX8_keyAhead ∈ wG ∧ Cond.selects yX8_keyAhead.cls yX8_keyAhead yX8_keyAhead ∈ wG := ⟨wG_of 572 (by decide +kernel) (by decide +kernel), wG_of 574 (by decide +kernel) (by decide +kernel), wG_of 14 (by decide +kernel) (by decide +kernel)⟩
theorem ml_X8_323 : Cond.methodLink RX8 323 yX8_skipTo ∈ wG ∧ Cond.instanceMethod yX8_skipTo ∈ wG ∧ Cond.selects yX8_skipTo.cls yX8_skipTo yX8_skipTo ∈ wG := ⟨wG_of 576 (by decide +kernel) (by decide +kernel), wG_of 578 (by decide +kernel) (by decide +kernel), wG_of 15 (by decide +kernel) (by decide +kernel)⟩
theorem ml_X8_327 : Cond.methodLink RX8 327 yX8_passOne ∈ wG ∧ Cond.instanceMethod yX8_passOne ∈ wG ∧ Cond.selects yX8_passOne.cls yX8_passOne yX8_passOne ∈ wG := ⟨wG_of 618 (by decide +kernel) (by decide +kernel), wG_of 620 (by decide +kernel) (by decide +kernel), wG_of 16 (by decide +kernel) (by decide +kernel)⟩
theorem ml_X8_331 : Cond.methodLink RX8 331 yX1_hasLeft ∈ wG ∧ Cond.instanceMethod yX1_hasLeft ∈ wG ∧ Cond.selects yX1_hasLeft.cls yX1_hasLeft yX1_hasLeft ∈ wG := ⟨wG_of 626 (by decide +kernel) (by decide +kernel), wG_of 627 (by decide +kernel) (by decide +kernel), wG_of 628 (by decide +kernel) (by decide +kernel)⟩
theorem mm_X8_335 : Cond.methodLink RX8 335 Lib.Math.max.name ∈ wG ∧ Cond.static Lib.Math.max.name ∈ wG ∧ Cond.initialized "java/lang/Math" ∈ wG ∧ Cond.code Lib.Math.max.name Lib.Math.max.code 2 (some .int) ∈ wG := ⟨wG_of 634 (by decide +kernel) (by decide +kernel), wG_of 396 (by decide +kernel) (by decide +kernel), wG_of 77 (by decide +kernel) (by decide +kernel), wG_of 397 (by decide +kernel) (by decide +kernel)⟩
theorem ml_X8_338 : Cond.methodLink RX8 338 yX0_power ∈ wG ∧ Cond.instanceMethod yX0_power ∈ wG ∧ Cond.selects yX0_power.cls yX0_power yX0_power ∈ wG := ⟨wG_of 635 (by decide +kernel) (by decide +kernel), wG_of 459 (by decide +kernel) (by decide +kernel), wG_of 460 (by decide +kernel) (by decide +kernel)⟩
theorem ml_X8_341 : Cond.methodLink RX8 341 yX8_turn ∈ wG ∧ Cond.instanceMethod yX8_turn ∈ wG ∧ Cond.selects yX8_turn.cls yX8_turn yX8_turn ∈ wG := ⟨wG_of 636 (by decide +kernel) (by decide +kernel), wG_of 638 (by decide +kernel) (by decide +kernel), wG_of 18 (by decide +kernel) (by decide +kernel)⟩
theorem fl_X8_345 : Fl RX8 345 3 1 := ⟨by decide, by decide, "RatchetPost$Letter", wG_of 508 (by decide +kernel) (by decide +kernel), Or.inl (by decide +kernel)⟩
theorem ml_X8_348 : Cond.methodLink RX8 348 yX8_meetingAt ∈ wG ∧ Cond.instanceMethod yX8_meetingAt ∈ wG ∧ Cond.selects yX8_meetingAt.cls yX8_meetingAt yX8_meetingAt ∈ wG := ⟨wG_of 640 (by decide +kernel) (by decide +kernel), wG_of 642 (by decide +kernel) (by decide +kernel), wG_of 19 (by decide +kernel) (by decide +kernel)⟩
theorem ml_X8_352 : Cond.methodLink RX8 352 yX1_leave ∈ wG ∧ Cond.instanceMethod yX1_leave ∈ wG ∧ Cond.selects yX1_leave.cls yX1_leave yX1_leave ∈ wG := ⟨wG_of 644 (by decide +kernel) (by decide +kernel), wG_of 645 (by decide +kernel) (by decide +kernel), wG_of 646 (by decide +kernel) (by decide +kernel)⟩
theorem ml_X8_355 : Cond.methodLink RX8 355 yX3_init ∈ wG ∧ Cond.instanceMethod yX3_init ∈ wG := ⟨wG_of 582 (by decide +kernel) (by decide +kernel), wG_of 583 (by decide +kernel) (by decide +kernel)⟩
theorem ml_X8_358 : Cond.methodLink RX8 358 yX1_keep ∈ wG ∧ Cond.instanceMethod yX1_keep ∈ wG ∧ Cond.selects yX1_keep.cls yX1_keep yX1_keep ∈ wG := ⟨wG_of 614 (by decide +kernel) (by decide +kernel), wG_of 615 (by decide +kernel) (by decide +kernel), wG_of 616 (by decide +kernel) (by decide +kernel)⟩
theorem ml_X8_362 : Cond.methodLink RX8 362 yX1_endOld ∈ wG ∧ Cond.instanceMethod yX1_endOld ∈ wG ∧ Cond.selects yX1_endOld.cls yX1_endOld yX1_endOld ∈ wG := ⟨wG_of 242 (by decide +kernel) (by decide +kernel), wG_of 243 (by decide +kernel) (by decide +kernel), wG_of 244 (by decide +kernel) (by decide +kernel)⟩
theorem ml_X8_366 : Cond.methodLink RX8 366 yX8_isUnder ∈ wG ∧ Cond.static yX8_isUnder ∈ wG := ⟨wG_of 773 (by decide +kernel) (by decide +kernel), wG_of 774 (by decide +kernel) (by decide +kernel)⟩
theorem ml_X8_370 : Cond.methodLink RX8 370 yX8_above ∈ wG ∧ Cond.static yX8_above ∈ wG := ⟨wG_of 748 (by decide +kernel) (by decide +kernel), wG_of 749 (by decide +kernel) (by decide +kernel)⟩
theorem ml_X8_373 : Cond.methodLink RX8 373 yX8_ownBody ∈ wG ∧ Cond.static yX8_ownBody ∈ wG := ⟨wG_of 745 (by decide +kernel) (by decide +kernel), wG_of 746 (by decide +kernel) (by decide +kernel)⟩
theorem ml_X8_376 : Cond.methodLink RX8 376 yX6_note ∈ wG ∧ Cond.instanceMethod yX6_note ∈ wG ∧ Cond.selects yX6_note.cls yX6_note yX6_note ∈ wG := ⟨wG_of 751 (by decide +kernel) (by decide +kernel), wG_of 752 (by decide +kernel) (by decide +kernel), wG_of 753 (by decide +kernel) (by decide +kernel)⟩
theorem ml_X8_379 : Cond.methodLink RX8 379 yX8_tickOf ∈ wG ∧ Cond.static yX8_tickOf ∈ wG := ⟨wG_of 755 (by decide +kernel) (by decide +kernel), wG_of 756 (by decide +kernel) (by decide +kernel)⟩
theorem oi_X9_1 : Cond.methodLink RX9 1 objectInit ∈ wG ∧ Cond.instanceMethod objectInit ∈ wG ∧ Cond.code objectInit ⟨#[0xb1]⟩ 1 none ∈ wG := ⟨wG_of 797 (by decide +kernel) (by decide +kernel), wG_of 90 (by decide +kernel) (by decide +kernel), wG_of 91 (by decide +kernel) (by decide +kernel)⟩
theorem fl_X9_7 : Fl RX9 7 10 0 := ⟨by decide, by decide, "RatchetPostModel", wG_of 798 (by decide +kernel) (by decide +kernel), Or.inl (by decide +kernel)⟩
theorem fl_X9_13 : Fl RX9 13 10 1 := ⟨by decide, by decide, "RatchetPostModel", wG_of 799 (by decide +kernel) (by decide +kernel), Or.inl (by decide +kernel)⟩
theorem fl_X9_16 : Fl RX9 16 10 2 := ⟨by decide, by decide, "RatchetPostModel", wG_of 800 (by decide +kernel) (by decide +kernel), Or.inl (by decide +kernel)⟩
theorem fl_X9_19 : Fl RX9 19 10 3 := ⟨by decide, by decide, "RatchetPostModel", wG_of 801 (by decide +kernel) (by decide +kernel), Or.inl (by decide +kernel)⟩
theorem fl_X9_22 : Fl RX9 22 10 6 := ⟨by decide, by decide, "RatchetPostModel", wG_of 804 (by decide +kernel) (by decide +kernel), Or.inl (by decide +kernel)⟩
theorem fl_X9_26 : Fl RX9 26 10 7 := ⟨by decide, by decide, "RatchetPostModel", wG_of 805 (by decide +kernel) (by decide +kernel), Or.inl (by decide +kernel)⟩
theorem fl_X9_29 : Fl RX9 29 10 8 := ⟨by decide, by decide, "RatchetPostModel", wG_of 806 (by decide +kernel) (by decide +kernel), Or.inl (by decide +kernel)⟩
theorem fl_X9_32 : Fl RX9 32 10 9 := ⟨by decide, by decide, "RatchetPostModel", wG_of 807 (by decide +kernel) (by decide +kernel), Or.inl (by decide +kernel)⟩
theorem fl_X9_35 : Fl RX9 35 10 10 := ⟨by decide, by decide, "RatchetPostModel", wG_of 808 (by decide +kernel) (by decide +kernel), Or.inl (by decide +kernel)⟩
theorem fl_X9_39 : Fl RX9 39 10 11 := ⟨by decide, by decide, "RatchetPostModel", wG_of 809 (by decide +kernel) (by decide +kernel), Or.inl (by decide +kernel)⟩
theorem fl_X9_42 : Fl RX9 42 10 12 := ⟨by decide, by decide, "RatchetPostModel", wG_of 810 (by decide +kernel) (by decide +kernel), Or.inl (by decide +kernel)⟩
theorem fl_X9_45 : Fl RX9 45 10 13 := ⟨by decide, by decide, "RatchetPostModel", wG_of 811 (by decide +kernel) (by decide +kernel), Or.inl (by decide +kernel)⟩
theorem fl_X9_48 : Fl RX9 48 10 14 := ⟨by decide, by decide, "RatchetPostModel", wG_of 812 (by decide +kernel) (by decide +kernel), Or.inl (by decide +kernel)⟩
theorem fl_X9_51 : Fl RX9 51 10 15 := ⟨by decide, by decide, "RatchetPostModel", wG_of 813 (by decide +kernel) (by decide +kernel), Or.inl (by decide +kernel)⟩
theorem fl_X9_54 : Fl RX9 54 10 16 := ⟨by decide, by decide, "RatchetPostModel", wG_of 814 (by decide +kernel) (by decide +kernel), Or.inl (by decide +kernel)⟩
theorem fl_X9_57 : Fl RX9 57 10 17 := ⟨by decide, by decide, "RatchetPostModel", wG_of 815 (by decide +kernel) (by decide +kernel), Or.inl (by decide +kernel)⟩
theorem fl_X9_60 : Fl RX9 60 10 18 := ⟨by decide, by decide, "RatchetPostModel", wG_of 816 (by decide +kernel) (by decide +kernel), Or.inl (by decide +kernel)⟩
theorem fl_X9_63 : Fl RX9 63 10 19 := ⟨by decide, by decide, "RatchetPostModel", wG_of 817 (by decide +kernel) (by decide +kernel), Or.inl (by decide +kernel)⟩
theorem fl_X9_66 : Fl RX9 66 10 20 := ⟨by decide, by decide, "RatchetPostModel", wG_of 818 (by decide +kernel) (by decide +kernel), Or.inl (by decide +kernel)⟩
theorem fl_X9_69 : Fl RX9 69 10 21 := ⟨by decide, by decide, "RatchetPostModel", wG_of 819 (by decide +kernel) (by decide +kernel), Or.inl (by decide +kernel)⟩
theorem fl_X9_72 : Fl RX9 72 10 22 := ⟨by decide, by decide, "RatchetPostModel", wG_of 820 (by decide +kernel) (by decide +kernel), Or.inl (by decide +kernel)⟩
theorem fl_X9_75 : Fl RX9 75 10 23 := ⟨by decide, by decide, "RatchetPostModel", wG_of 821 (by decide +kernel) (by decide +kernel), Or.inl (by decide +kernel)⟩
theorem fl_X9_78 : Fl RX9 78 10 24 := ⟨by decide, by decide, "RatchetPostModel", wG_of 822 (by decide +kernel) (by decide +kernel), Or.inl (by decide +kernel)⟩
theorem fl_X9_81 : Fl RX9 81 10 25 := ⟨by decide, by decide, "RatchetPostModel", wG_of 823 (by decide +kernel) (by decide +kernel), Or.inl (by decide +kernel)⟩
theorem fl_X9_84 : Fl RX9 84 10 26 := ⟨by decide, by decide, "RatchetPostModel", wG_of 824 (by decide +kernel) (by decide +kernel), Or.inl (by decide +kernel)⟩
theorem fl_X9_87 : Fl RX9 87 10 27 := ⟨by decide, by decide, "RatchetPostModel", wG_of 825 (by decide +kernel) (by decide +kernel), Or.inl (by decide +kernel)⟩
theorem fl_X9_90 : Fl RX9 90 10 28 := ⟨by decide, by decide, "RatchetPostModel", wG_of 826 (by decide +kernel) (by decide +kernel), Or.inl (by decide +kernel)⟩
theorem fl_X9_93 : Fl RX9 93 10 29 := ⟨by decide, by decide, "RatchetPostModel", wG_of 827 (by decide +kernel) (by decide +kernel), Or.inl (by decide +kernel)⟩
theorem fl_X9_96 : Fl RX9 96 10 31 := ⟨by decide, by decide, "RatchetPostModel", wG_of 829 (by decide +kernel) (by decide +kernel), Or.inl (by decide +kernel)⟩
theorem fl_X9_99 : Fl RX9 99 10 32 := ⟨by decide, by decide, "RatchetPostModel", wG_of 830 (by decide +kernel) (by decide +kernel), Or.inl (by decide +kernel)⟩
theorem fl_X9_102 : Fl RX9 102 10 33 := ⟨by decide, by decide, "RatchetPostModel", wG_of 831 (by decide +kernel) (by decide +kernel), Or.inl (by decide +kernel)⟩
theorem fl_X9_105 : Fl RX9 105 10 34 := ⟨by decide, by decide, "RatchetPostModel", wG_of 832 (by decide +kernel) (by decide +kernel), Or.inl (by decide +kernel)⟩
theorem fl_X9_108 : Fl RX9 108 10 35 := ⟨by decide, by decide, "RatchetPostModel", wG_of 833 (by decide +kernel) (by decide +kernel), Or.inl (by decide +kernel)⟩
theorem fl_X9_111 : Fl RX9 111 10 36 := ⟨by decide, by decide, "RatchetPostModel", wG_of 834 (by decide +kernel) (by decide +kernel), Or.inl (by decide +kernel)⟩
theorem fl_X9_114 : Fl RX9 114 10 37 := ⟨by decide, by decide, "RatchetPostModel", wG_of 835 (by decide +kernel) (by decide +kernel), Or.inl (by decide +kernel)⟩
theorem fl_X9_117 : Fl RX9 117 10 38 := ⟨by decide, by decide, "RatchetPostModel", wG_of 836 (by decide +kernel) (by decide +kernel), Or.inl (by decide +kernel)⟩
theorem fl_X9_120 : Fl RX9 120 10 39 := ⟨by decide, by decide, "RatchetPostModel", wG_of 837 (by decide +kernel) (by decide +kernel), Or.inl (by decide +kernel)⟩
theorem fl_X9_123 : Fl RX9 123 10 40 := ⟨by decide, by decide, "RatchetPostModel", wG_of 838 (by decide +kernel) (by decide +kernel), Or.inl (by decide +kernel)⟩
theorem fl_X9_126 : Fl RX9 126 10 41 := ⟨by decide, by decide, "RatchetPostModel", wG_of 839 (by decide +kernel) (by decide +kernel), Or.inl (by decide +kernel)⟩
theorem fl_X9_129 : Fl RX9 129 10 43 := ⟨by decide, by decide, "RatchetPostModel", wG_of 841 (by decide +kernel) (by decide +kernel), Or.inl (by decide +kernel)⟩
theorem fl_X9_132 : Fl RX9 132 10 42 := ⟨by decide, by decide, "RatchetPostModel", wG_of 840 (by decide +kernel) (by decide +kernel), Or.inl (by decide +kernel)⟩
theorem fl_X9_135 : Fl RX9 135 10 4 := ⟨by decide, by decide, "RatchetPostModel", wG_of 802 (by decide +kernel) (by decide +kernel), Or.inl (by decide +kernel)⟩
theorem ml_X9_138 : Cond.methodLink RX9 138 yX9_in ∈ wG ∧ Cond.static yX9_in ∈ wG := ⟨wG_of 942 (by decide +kernel) (by decide +kernel), wG_of 943 (by decide +kernel) (by decide +kernel)⟩
theorem fl_X9_142 : Fl RX9 142 10 30 := ⟨by decide, by decide, "RatchetPostModel", wG_of 828 (by decide +kernel) (by decide +kernel), Or.inl (by decide +kernel)⟩
theorem ml_X9_145 : Cond.methodLink RX9 145 yX9_power ∈ wG ∧ Cond.instanceMethod yX9_power ∈ wG ∧ Cond.selects yX9_power.cls yX9_power yX9_power ∈ wG := ⟨wG_of 997 (by decide +kernel) (by decide +kernel), wG_of 999 (by decide +kernel) (by decide +kernel), wG_of 36 (by decide +kernel) (by decide +kernel)⟩
theorem fl_X9_149 : Fl RX9 149 10 5 := ⟨by decide, by decide, "RatchetPostModel", wG_of 803 (by decide +kernel) (by decide +kernel), Or.inl (by decide +kernel)⟩
theorem ml_X9_152 : Cond.methodLink RX9 152 yX9_publicOf ∈ wG ∧ Cond.instanceMethod yX9_publicOf ∈ wG ∧ Cond.selects yX9_publicOf.cls yX9_publicOf yX9_publicOf ∈ wG := ⟨wG_of 993 (by decide +kernel) (by decide +kernel), wG_of 995 (by decide +kernel) (by decide +kernel), wG_of 35 (by decide +kernel) (by decide +kernel)⟩
theorem ml_X9_156 : Cond.methodLink RX9 156 yX9_thing ∈ wG ∧ Cond.instanceMethod yX9_thing ∈ wG ∧ Cond.selects yX9_thing.cls yX9_thing yX9_thing ∈ wG := ⟨wG_of 977 (by decide +kernel) (by decide +kernel), wG_of 979 (by decide +kernel) (by decide +kernel), wG_of 32 (by decide +kernel) (by decide +kernel)⟩
theorem ml_X9_160 : Cond.methodLink RX9 160 yX9_mix ∈ wG ∧ Cond.instanceMethod yX9_mix ∈ wG ∧ Cond.selects yX9_mix.cls yX9_mix yX9_mix ∈ wG := ⟨wG_of 1005 (by decide +kernel) (by decide +kernel), wG_of 1007 (by decide +kernel) (by decide +kernel), wG_of 38 (by decide +kernel) (by decide +kernel)⟩
theorem ml_X9_163 : Cond.methodLink RX9 163 yX9_refused ∈ wG ∧ Cond.instanceMethod yX9_refused ∈ wG ∧ Cond.selects yX9_refused.cls yX9_refused yX9_refused ∈ wG := ⟨wG_of 945 (by decide +kernel) (by decide +kernel), wG_of 947 (by decide +kernel) (by decide +kernel), wG_of 27 (by decide +kernel) (by decide +kernel)⟩
theorem ml_X9_166 : Cond.methodLink RX9 166 yX9_done ∈ wG ∧ Cond.instanceMethod yX9_done ∈ wG ∧ Cond.selects yX9_done.cls yX9_done yX9_done ∈ wG := ⟨wG_of 949 (by decide +kernel) (by decide +kernel), wG_of 951 (by decide +kernel) (by decide +kernel), wG_of 28 (by decide +kernel) (by decide +kernel)⟩
theorem ml_X9_169 : Cond.methodLink RX9 169 yX9_expire ∈ wG ∧ Cond.instanceMethod yX9_expire ∈ wG ∧ Cond.selects yX9_expire.cls yX9_expire yX9_expire ∈ wG := ⟨wG_of 957 (by decide +kernel) (by decide +kernel), wG_of 959 (by decide +kernel) (by decide +kernel), wG_of 29 (by decide +kernel) (by decide +kernel)⟩
theorem ml_X9_172 : Cond.methodLink RX9 172 yX9_isEnd ∈ wG ∧ Cond.instanceMethod yX9_isEnd ∈ wG ∧ Cond.selects yX9_isEnd.cls yX9_isEnd yX9_isEnd ∈ wG := ⟨wG_of 973 (by decide +kernel) (by decide +kernel), wG_of 975 (by decide +kernel) (by decide +kernel), wG_of 31 (by decide +kernel) (by decide +kernel)⟩
theorem ml_X9_176 : Cond.methodLink RX9 176 yX9_next ∈ wG ∧ Cond.instanceMethod yX9_next ∈ wG ∧ Cond.selects yX9_next.cls yX9_next yX9_next ∈ wG := ⟨wG_of 985 (by decide +kernel) (by decide +kernel), wG_of 987 (by decide +kernel) (by decide +kernel), wG_of 33 (by decide +kernel) (by decide +kernel)⟩
theorem ml_X9_179 : Cond.methodLink RX9 179 yX9_meeting ∈ wG ∧ Cond.instanceMethod yX9_meeting ∈ wG ∧ Cond.selects yX9_meeting.cls yX9_meeting yX9_meeting ∈ wG := ⟨wG_of 989 (by decide +kernel) (by decide +kernel), wG_of 991 (by decide +kernel) (by decide +kernel), wG_of 34 (by decide +kernel) (by decide +kernel)⟩
theorem ml_X9_182 : Cond.methodLink RX9 182 yX9_rootOf ∈ wG ∧ Cond.instanceMethod yX9_rootOf ∈ wG ∧ Cond.selects yX9_rootOf.cls yX9_rootOf yX9_rootOf ∈ wG := ⟨wG_of 1001 (by decide +kernel) (by decide +kernel), wG_of 1003 (by decide +kernel) (by decide +kernel), wG_of 37 (by decide +kernel) (by decide +kernel)⟩
theorem ml_X9_185 : Cond.methodLink RX9 185 yX9_chainOf ∈ wG ∧ Cond.instanceMethod yX9_chainOf ∈ wG ∧ Cond.selects yX9_chainOf.cls yX9_chainOf yX9_chainOf ∈ wG := ⟨wG_of 1009 (by decide +kernel) (by decide +kernel), wG_of 1011 (by decide +kernel) (by decide +kernel), wG_of 39 (by decide +kernel) (by decide +kernel)⟩
theorem ml_X9_188 : Cond.methodLink RX9 188 yX9_keyOf ∈ wG ∧ Cond.instanceMethod yX9_keyOf ∈ wG ∧ Cond.selects yX9_keyOf.cls yX9_keyOf yX9_keyOf ∈ wG := ⟨wG_of 1017 (by decide +kernel) (by decide +kernel), wG_of 1019 (by decide +kernel) (by decide +kernel), wG_of 40 (by decide +kernel) (by decide +kernel)⟩
theorem ml_X9_191 : Cond.methodLink RX9 191 yX9_isLetter ∈ wG ∧ Cond.instanceMethod yX9_isLetter ∈ wG ∧ Cond.selects yX9_isLetter.cls yX9_isLetter yX9_isLetter ∈ wG := ⟨wG_of 1025 (by decide +kernel) (by decide +kernel), wG_of 1027 (by decide +kernel) (by decide +kernel), wG_of 41 (by decide +kernel) (by decide +kernel)⟩
theorem ml_X9_194 : Cond.methodLink RX9 194 yX9_drops ∈ wG ∧ Cond.instanceMethod yX9_drops ∈ wG ∧ Cond.selects yX9_drops.cls yX9_drops yX9_drops ∈ wG := ⟨wG_of 961 (by decide +kernel) (by decide +kernel), wG_of 963 (by decide +kernel) (by decide +kernel), wG_of 30 (by decide +kernel) (by decide +kernel)⟩
theorem ml_X9_198 : Cond.methodLink RX9 198 yX9_keep ∈ wG ∧ Cond.instanceMethod yX9_keep ∈ wG ∧ Cond.selects yX9_keep.cls yX9_keep yX9_keep ∈ wG := ⟨wG_of 1057 (by decide +kernel) (by decide +kernel), wG_of 1059 (by decide +kernel) (by decide +kernel), wG_of 48 (by decide +kernel) (by decide +kernel)⟩
theorem ml_X9_202 : Cond.methodLink RX9 202 yX9_byteOf ∈ wG ∧ Cond.instanceMethod yX9_byteOf ∈ wG ∧ Cond.selects yX9_byteOf.cls yX9_byteOf yX9_byteOf ∈ wG := ⟨wG_of 1041 (by decide +kernel) (by decide +kernel), wG_of 1043 (by decide +kernel) (by decide +kernel), wG_of 44 (by decide +kernel) (by decide +kernel)⟩
theorem ml_X9_205 : Cond.methodLink RX9 205 yX9_keptOf ∈ wG ∧ Cond.instanceMethod yX9_keptOf ∈ wG ∧ Cond.selects yX9_keptOf.cls yX9_keptOf yX9_keptOf ∈ wG := ⟨wG_of 1033 (by decide +kernel) (by decide +kernel), wG_of 1035 (by decide +kernel) (by decide +kernel), wG_of 42 (by decide +kernel) (by decide +kernel)⟩
theorem ml_X9_208 : Cond.methodLink RX9 208 yX9_isGood ∈ wG ∧ Cond.instanceMethod yX9_isGood ∈ wG ∧ Cond.selects yX9_isGood.cls yX9_isGood yX9_isGood ∈ wG := ⟨wG_of 1037 (by decide +kernel) (by decide +kernel), wG_of 1039 (by decide +kernel) (by decide +kernel), wG_of 43 (by decide +kernel) (by decide +kernel)⟩
theorem ml_X9_212 : Cond.methodLink RX9 212 yX9_further ∈ wG ∧ Cond.instanceMethod yX9_further ∈ wG ∧ Cond.selects yX9_further.cls yX9_further yX9_further ∈ wG := ⟨wG_of 1045 (by decide +kernel) (by decide +kernel), wG_of 1047 (by decide +kernel) (by decide +kernel), wG_of 45 (by decide +kernel) (by decide +kernel)⟩
theorem ml_X9_215 : Cond.methodLink RX9 215 yX9_anew ∈ wG ∧ Cond.instanceMethod yX9_anew ∈ wG ∧ Cond.selects yX9_anew.cls yX9_anew yX9_anew ∈ wG := ⟨wG_of 1065 (by decide +kernel) (by decide +kernel), wG_of 1067 (by decide +kernel) (by decide +kernel), wG_of 50 (by decide +kernel) (by decide +kernel)⟩
theorem ml_X9_219 : Cond.methodLink RX9 219 yX9_keyBehind ∈ wG ∧ Cond.instanceMethod yX9_keyBehind ∈ wG ∧ Cond.selects yX9_keyBehind.cls yX9_keyBehind yX9_keyBehind ∈ wG := ⟨wG_of 1049 (by decide +kernel) (by decide +kernel), wG_of 1051 (by decide +kernel) (by decide +kernel), wG_of 46 (by decide +kernel) (by decide +kernel)⟩
theorem ml_X9_222 : Cond.methodLink RX9 222 yX9_skip ∈ wG ∧ Cond.instanceMethod yX9_skip ∈ wG ∧ Cond.selects yX9_skip.cls yX9_skip yX9_skip ∈ wG := ⟨wG_of 1053 (by decide +kernel) (by decide +kernel), wG_of 1055 (by decide +kernel) (by decide +kernel), wG_of 47 (by decide +kernel) (by decide +kernel)⟩
theorem ml_X9_225 : Cond.methodLink RX9 225 yX9_opened ∈ wG ∧ Cond.instanceMethod yX9_opened ∈ wG ∧ Cond.selects yX9_opened.cls yX9_opened yX9_opened ∈ wG := ⟨wG_of 1061 (by decide +kernel) (by decide +kernel), wG_of 1063 (by decide +kernel) (by decide +kernel), wG_of 49 (by decide +kernel) (by decide +kernel)⟩
theorem ml_X9_229 : Cond.methodLink RX9 229 yX9_hasLeft ∈ wG ∧ Cond.instanceMethod yX9_hasLeft ∈ wG ∧ Cond.selects yX9_hasLeft.cls yX9_hasLeft yX9_hasLeft ∈ wG := ⟨wG_of 1069 (by decide +kernel) (by decide +kernel), wG_of 1071 (by decide +kernel) (by decide +kernel), wG_of 51 (by decide +kernel) (by decide +kernel)⟩
theorem fl_X9_232 : Fl RX9 232 10 45 := ⟨by decide, by decide, "RatchetPostModel", wG_of 843 (by decide +kernel) (by decide +kernel), Or.inl (by decide +kernel)⟩
theorem ml_X9_235 : Cond.methodLink RX9 235 yX9_shows ∈ wG ∧ Cond.instanceMethod yX9_shows ∈ wG ∧ Cond.selects yX9_shows.cls yX9_shows yX9_shows ∈ wG := ⟨wG_of 1077 (by decide +kernel) (by decide +kernel), wG_of 1079 (by decide +kernel) (by decide +kernel), wG_of 52 (by decide +kernel) (by decide +kernel)⟩
theorem ml_X9_238 : Cond.methodLink RX9 238 yX9_know ∈ wG ∧ Cond.instanceMethod yX9_know ∈ wG ∧ Cond.selects yX9_know.cls yX9_know yX9_know ∈ wG := ⟨wG_of 1085 (by decide +kernel) (by decide +kernel), wG_of 1087 (by decide +kernel) (by decide +kernel), wG_of 53 (by decide +kernel) (by decide +kernel)⟩
theorem ml_X9_241 : Cond.methodLink RX9 241 yX9_worthOf ∈ wG ∧ Cond.instanceMethod yX9_worthOf ∈ wG ∧ Cond.selects yX9_worthOf.cls yX9_worthOf yX9_worthOf ∈ wG := ⟨wG_of 1105 (by decide +kernel) (by decide +kernel), wG_of 1107 (by decide +kernel) (by decide +kernel), wG_of 54 (by decide +kernel) (by decide +kernel)⟩
theorem ml_X9_244 : Cond.methodLink RX9 244 yX9_knownThings ∈ wG ∧ Cond.instanceMethod yX9_knownThings ∈ wG ∧ Cond.selects yX9_knownThings.cls yX9_knownThings yX9_knownThings ∈ wG := ⟨wG_of 1121 (by decide +kernel) (by decide +kernel), wG_of 1123 (by decide +kernel) (by decide +kernel), wG_of 55 (by decide +kernel) (by decide +kernel)⟩
theorem fl_X9_248 : Fl RX9 248 10 44 := ⟨by decide, by decide, "RatchetPostModel", wG_of 842 (by decide +kernel) (by decide +kernel), Or.inl (by decide +kernel)⟩
theorem ml_X9_251 : Cond.methodLink RX9 251 yX9_puts ∈ wG ∧ Cond.instanceMethod yX9_puts ∈ wG ∧ Cond.selects yX9_puts.cls yX9_puts yX9_puts ∈ wG := ⟨wG_of 1129 (by decide +kernel) (by decide +kernel), wG_of 1131 (by decide +kernel) (by decide +kernel), wG_of 56 (by decide +kernel) (by decide +kernel)⟩
theorem ml_X9_255 : Cond.methodLink RX9 255 yX9_isChain ∈ wG ∧ Cond.static yX9_isChain ∈ wG := ⟨wG_of 1145 (by decide +kernel) (by decide +kernel), wG_of 1146 (by decide +kernel) (by decide +kernel)⟩
theorem ml_X9_258 : Cond.methodLink RX9 258 yX9_ran ∈ wG ∧ Cond.instanceMethod yX9_ran ∈ wG ∧ Cond.selects yX9_ran.cls yX9_ran yX9_ran ∈ wG := ⟨wG_of 1148 (by decide +kernel) (by decide +kernel), wG_of 1150 (by decide +kernel) (by decide +kernel), wG_of 58 (by decide +kernel) (by decide +kernel)⟩
theorem ml_X9_261 : Cond.methodLink RX9 261 yX9_move ∈ wG ∧ Cond.instanceMethod yX9_move ∈ wG ∧ Cond.selects yX9_move.cls yX9_move yX9_move ∈ wG := ⟨wG_of 1141 (by decide +kernel) (by decide +kernel), wG_of 1143 (by decide +kernel) (by decide +kernel), wG_of 57 (by decide +kernel) (by decide +kernel)⟩
theorem ml_X9_264 : Cond.methodLink RX9 264 yX9_mixed ∈ wG ∧ Cond.instanceMethod yX9_mixed ∈ wG ∧ Cond.selects yX9_mixed.cls yX9_mixed yX9_mixed ∈ wG := ⟨wG_of 1152 (by decide +kernel) (by decide +kernel), wG_of 1154 (by decide +kernel) (by decide +kernel), wG_of 59 (by decide +kernel) (by decide +kernel)⟩
theorem ml_X9_267 : Cond.methodLink RX9 267 yX9_tell ∈ wG ∧ Cond.instanceMethod yX9_tell ∈ wG ∧ Cond.selects yX9_tell.cls yX9_tell yX9_tell ∈ wG := ⟨wG_of 1164 (by decide +kernel) (by decide +kernel), wG_of 1166 (by decide +kernel) (by decide +kernel), wG_of 62 (by decide +kernel) (by decide +kernel)⟩
theorem ml_X9_270 : Cond.methodLink RX9 270 yX9_keyEnd ∈ wG ∧ Cond.instanceMethod yX9_keyEnd ∈ wG ∧ Cond.selects yX9_keyEnd.cls yX9_keyEnd yX9_keyEnd ∈ wG := ⟨wG_of 1160 (by decide +kernel) (by decide +kernel), wG_of 1162 (by decide +kernel) (by decide +kernel), wG_of 61 (by decide +kernel) (by decide +kernel)⟩
theorem ml_X9_273 : Cond.methodLink RX9 273 yX9_ended ∈ wG ∧ Cond.instanceMethod yX9_ended ∈ wG ∧ Cond.selects yX9_ended.cls yX9_ended yX9_ended ∈ wG := ⟨wG_of 1156 (by decide +kernel) (by decide +kernel), wG_of 1158 (by decide +kernel) (by decide +kernel), wG_of 60 (by decide +kernel) (by decide +kernel)⟩
theorem ml_X9_276 : Cond.methodLink RX9 276 yX9_isOf ∈ wG ∧ Cond.static yX9_isOf ∈ wG := ⟨wG_of 1176 (by decide +kernel) (by decide +kernel), wG_of 1177 (by decide +kernel) (by decide +kernel)⟩
theorem ml_X9_279 : Cond.methodLink RX9 279 yX9_header ∈ wG ∧ Cond.instanceMethod yX9_header ∈ wG ∧ Cond.selects yX9_header.cls yX9_header yX9_header ∈ wG := ⟨wG_of 1179 (by decide +kernel) (by decide +kernel), wG_of 1181 (by decide +kernel) (by decide +kernel), wG_of 63 (by decide +kernel) (by decide +kernel)⟩
theorem ac_I : Cond.arrayClass .int ∈ wG := wG_of 187 (by decide +kernel) (by decide +kernel)
theorem ac_Z : Cond.arrayClass .boolean ∈ wG := wG_of 937 (by decide +kernel) (by decide +kernel)
