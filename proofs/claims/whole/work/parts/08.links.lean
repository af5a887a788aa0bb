theorem mf_K_becomeNumber : MFv y_K_becomeNumber b_K_becomeNumber 2 none 1 := ⟨tbT 141 (by decide +kernel) rfl, tbT 2 (by decide +kernel) rfl, tbT 140 (by decide +kernel) rfl, tbS (q := (y_K_becomeNumber, 6)) 9 (by decide +kernel), by decide, by decide, by decide +kernel⟩
theorem mf_K_becomeGranted : MFv y_K_becomeGranted b_K_becomeGranted 5 none 4 := ⟨tbT 71 (by decide +kernel) rfl, tbT 2 (by decide +kernel) rfl, tbT 70 (by decide +kernel) rfl, tbS (q := (y_K_becomeGranted, 6)) 0 (by decide +kernel), by decide, by decide, by decide +kernel⟩
theorem mf_K_become : MFv y_K_become b_K_become 2 none 1 := ⟨tbT 137 (by decide +kernel) rfl, tbT 2 (by decide +kernel) rfl, tbT 136 (by decide +kernel) rfl, tbS (q := (y_K_become, 6)) 8 (by decide +kernel), by decide, by decide, by decide +kernel⟩
theorem mf_K_becomeUnpacked : MFv y_K_becomeUnpacked b_K_becomeUnpacked 4 none 3 := ⟨tbT 173 (by decide +kernel) rfl, tbT 2 (by decide +kernel) rfl, tbT 172 (by decide +kernel) rfl, tbS (q := (y_K_becomeUnpacked, 6)) 15 (by decide +kernel), by decide, by decide, by decide +kernel⟩
theorem mf_K_packed : MFv y_K_packed b_K_packed 1 (some .int) 0 := ⟨tbT 185 (by decide +kernel) rfl, tbT 2 (by decide +kernel) rfl, tbT 184 (by decide +kernel) rfl, tbS (q := (y_K_packed, 6)) 18 (by decide +kernel), by decide, by decide, by decide +kernel⟩
theorem mf_K_moveTo : MFv y_K_moveTo b_K_moveTo 3 none 1 := ⟨tbT 128 (by decide +kernel) rfl, tbT 2 (by decide +kernel) rfl, tbT 127 (by decide +kernel) rfl, tbS (q := (y_K_moveTo, 6)) 6 (by decide +kernel), by decide, by decide, by decide +kernel⟩
theorem mf_K_part : MFv y_K_part b_K_part 2 (some .int) 1 := ⟨tbT 190 (by decide +kernel) rfl, tbT 2 (by decide +kernel) rfl, tbT 189 (by decide +kernel) rfl, tbS (q := (y_K_part, 6)) 19 (by decide +kernel), by decide, by decide, by decide +kernel⟩
theorem mf_K_permits : MFv y_K_permits b_K_permits 2 (some .boolean) 1 := ⟨tbT 115 (by decide +kernel) rfl, tbT 2 (by decide +kernel) rfl, tbT 114 (by decide +kernel) rfl, tbS (q := (y_K_permits, 6)) 3 (by decide +kernel), by decide, by decide, by decide +kernel⟩
theorem mf_K_hasAddressInBounds : MFv y_K_hasAddressInBounds b_K_hasAddressInBounds 1 (some .boolean) 0 := ⟨tbT 221 (by decide +kernel) rfl, tbT 2 (by decide +kernel) rfl, tbT 220 (by decide +kernel) rfl, tbS (q := (y_K_hasAddressInBounds, 6)) 20 (by decide +kernel), by decide, by decide, by decide +kernel⟩
theorem mf_K_isWithin : MFv y_K_isWithin b_K_isWithin 2 (some .boolean) 1 := ⟨tbT 234 (by decide +kernel) rfl, tbT 2 (by decide +kernel) rfl, tbT 233 (by decide +kernel) rfl, tbS (q := (y_K_isWithin, 6)) 21 (by decide +kernel), by decide, by decide, by decide +kernel⟩
theorem mf_K_refusal : MFv y_K_refusal b_K_refusal 5 (some .int) 3 := ⟨tbT 111 (by decide +kernel) rfl, tbT 2 (by decide +kernel) rfl, tbT 110 (by decide +kernel) rfl, tbS (q := (y_K_refusal, 6)) 2 (by decide +kernel), by decide, by decide, by decide +kernel⟩
theorem mf_E_byteAt : MFv y_E_byteAt b_E_byteAt 2 (some .int) 1 := ⟨tbT 120 (by decide +kernel) rfl, tbT 3 (by decide +kernel) rfl, tbT 119 (by decide +kernel) rfl, tbS (q := (y_E_byteAt, 2)) 4 (by decide +kernel), by decide, by decide, by decide +kernel⟩
theorem mf_E_wordAt : MFv y_E_wordAt b_E_wordAt 2 (some .int) 1 := ⟨tbT 163 (by decide +kernel) rfl, tbT 3 (by decide +kernel) rfl, tbT 162 (by decide +kernel) rfl, tbS (q := (y_E_wordAt, 2)) 13 (by decide +kernel), by decide, by decide, by decide +kernel⟩
theorem mf_E_loadCapability : MFv y_E_loadCapability b_E_loadCapability 3 none 2 := ⟨tbT 168 (by decide +kernel) rfl, tbT 3 (by decide +kernel) rfl, tbT 167 (by decide +kernel) rfl, tbS (q := (y_E_loadCapability, 2)) 14 (by decide +kernel), by decide, by decide, by decide +kernel⟩
theorem mf_E_storeCapability : MFv y_E_storeCapability b_E_storeCapability 3 none 2 := ⟨tbT 177 (by decide +kernel) rfl, tbT 3 (by decide +kernel) rfl, tbT 176 (by decide +kernel) rfl, tbS (q := (y_E_storeCapability, 2)) 16 (by decide +kernel), by decide, by decide, by decide +kernel⟩
theorem mf_M_state : MFv y_M_state b_M_state 1 (some .int) 0 := ⟨tbT 246 (by decide +kernel) rfl, tbT 1 (by decide +kernel) rfl, tbT 244 (by decide +kernel) rfl, tbT 245 (by decide +kernel) rfl, by decide, by decide, by decide +kernel⟩
theorem mf_M_cause : MFv y_M_cause b_M_cause 1 (some .int) 0 := ⟨tbT 250 (by decide +kernel) rfl, tbT 1 (by decide +kernel) rfl, tbT 248 (by decide +kernel) rfl, tbT 249 (by decide +kernel) rfl, by decide, by decide, by decide +kernel⟩
theorem mf_M_number : MFs y_M_number b_M_number 2 (some .int) 2 := ⟨tbT 193 (by decide +kernel) rfl, tbT 1 (by decide +kernel) rfl, tbT 192 (by decide +kernel) rfl, by decide, by decide, by decide +kernel⟩
theorem mf_M_copy : MFs y_M_copy b_M_copy 2 (some .int) 2 := ⟨tbT 196 (by decide +kernel) rfl, tbT 1 (by decide +kernel) rfl, tbT 195 (by decide +kernel) rfl, by decide, by decide, by decide +kernel⟩
theorem mf_M_withoutTag : MFs y_M_withoutTag b_M_withoutTag 2 (some .int) 2 := ⟨tbT 230 (by decide +kernel) rfl, tbT 1 (by decide +kernel) rfl, tbT 229 (by decide +kernel) rfl, by decide, by decide, by decide +kernel⟩
theorem mf_M_withAddress : MFs y_M_withAddress b_M_withAddress 3 (some .int) 3 := ⟨tbT 199 (by decide +kernel) rfl, tbT 1 (by decide +kernel) rfl, tbT 198 (by decide +kernel) rfl, by decide, by decide, by decide +kernel⟩
theorem mf_M_withPermissions : MFs y_M_withPermissions b_M_withPermissions 3 (some .int) 3 := ⟨tbT 214 (by decide +kernel) rfl, tbT 1 (by decide +kernel) rfl, tbT 213 (by decide +kernel) rfl, by decide, by decide, by decide +kernel⟩
theorem mf_M_multipleNotAbove : MFs y_M_multipleNotAbove b_M_multipleNotAbove 1 (some .int) 1 := ⟨tbT 208 (by decide +kernel) rfl, tbT 1 (by decide +kernel) rfl, tbT 207 (by decide +kernel) rfl, by decide, by decide, by decide +kernel⟩
theorem mf_M_multipleNotBelow : MFs y_M_multipleNotBelow b_M_multipleNotBelow 1 (some .int) 1 := ⟨tbT 211 (by decide +kernel) rfl, tbT 1 (by decide +kernel) rfl, tbT 210 (by decide +kernel) rfl, by decide, by decide, by decide +kernel⟩
theorem mf_M_areExact : MFs y_M_areExact b_M_areExact 3 (some .boolean) 2 := ⟨tbT 205 (by decide +kernel) rfl, tbT 1 (by decide +kernel) rfl, tbT 204 (by decide +kernel) rfl, by decide, by decide, by decide +kernel⟩
theorem mf_M_withBounds : MFs y_M_withBounds b_M_withBounds 9 (some .int) 4 := ⟨tbT 202 (by decide +kernel) rfl, tbT 1 (by decide +kernel) rfl, tbT 201 (by decide +kernel) rfl, by decide, by decide, by decide +kernel⟩
theorem mf_M_seal : MFs y_M_seal b_M_seal 4 (some .int) 3 := ⟨tbT 217 (by decide +kernel) rfl, tbT 1 (by decide +kernel) rfl, tbT 216 (by decide +kernel) rfl, by decide, by decide, by decide +kernel⟩
theorem mf_M_unseal : MFs y_M_unseal b_M_unseal 3 (some .int) 3 := ⟨tbT 224 (by decide +kernel) rfl, tbT 1 (by decide +kernel) rfl, tbT 223 (by decide +kernel) rfl, by decide, by decide, by decide +kernel⟩
theorem mf_M_makeEntry : MFs y_M_makeEntry b_M_makeEntry 2 (some .int) 2 := ⟨tbT 227 (by decide +kernel) rfl, tbT 1 (by decide +kernel) rfl, tbT 226 (by decide +kernel) rfl, by decide, by decide, by decide +kernel⟩
theorem mf_M_setHandler : MFv y_M_setHandler b_M_setHandler 2 (some .int) 1 := ⟨tbT 238 (by decide +kernel) rfl, tbT 1 (by decide +kernel) rfl, tbT 237 (by decide +kernel) rfl, tbS (q := (y_M_setHandler, 8)) 22 (by decide +kernel), by decide, by decide, by decide +kernel⟩
theorem mf_M_permissionsFor : MFs y_M_permissionsFor b_M_permissionsFor 2 (some .int) 2 := ⟨tbT 156 (by decide +kernel) rfl, tbT 1 (by decide +kernel) rfl, tbT 155 (by decide +kernel) rfl, by decide, by decide, by decide +kernel⟩
theorem mf_M_bytesOf : MFs y_M_bytesOf b_M_bytesOf 1 (some .int) 1 := ⟨tbT 159 (by decide +kernel) rfl, tbT 1 (by decide +kernel) rfl, tbT 158 (by decide +kernel) rfl, by decide, by decide, by decide +kernel⟩
theorem mf_M_access : MFv y_M_access b_M_access 8 (some .int) 4 := ⟨tbT 153 (by decide +kernel) rfl, tbT 1 (by decide +kernel) rfl, tbT 152 (by decide +kernel) rfl, tbS (q := (y_M_access, 8)) 12 (by decide +kernel), by decide, by decide, by decide +kernel⟩
theorem mf_M_compute : MFv y_M_compute b_M_compute 6 (some .int) 5 := ⟨tbT 149 (by decide +kernel) rfl, tbT 1 (by decide +kernel) rfl, tbT 148 (by decide +kernel) rfl, tbS (q := (y_M_compute, 8)) 11 (by decide +kernel), by decide, by decide, by decide +kernel⟩
theorem mf_M_jump : MFv y_M_jump b_M_jump 3 (some .int) 2 := ⟨tbT 132 (by decide +kernel) rfl, tbT 1 (by decide +kernel) rfl, tbT 131 (by decide +kernel) rfl, tbS (q := (y_M_jump, 8)) 7 (by decide +kernel), by decide, by decide, by decide +kernel⟩
theorem mf_M_branch : MFv y_M_branch b_M_branch 4 (some .int) 2 := ⟨tbT 124 (by decide +kernel) rfl, tbT 1 (by decide +kernel) rfl, tbT 123 (by decide +kernel) rfl, tbS (q := (y_M_branch, 8)) 5 (by decide +kernel), by decide, by decide, by decide +kernel⟩
theorem mf_M_advance : MFv y_M_advance b_M_advance 2 (some .int) 1 := ⟨tbT 145 (by decide +kernel) rfl, tbT 1 (by decide +kernel) rfl, tbT 144 (by decide +kernel) rfl, tbS (q := (y_M_advance, 8)) 10 (by decide +kernel), by decide, by decide, by decide +kernel⟩
theorem mf_M_takeException : MFv y_M_takeException b_M_takeException 2 none 1 := ⟨tbT 242 (by decide +kernel) rfl, tbT 1 (by decide +kernel) rfl, tbT 241 (by decide +kernel) rfl, tbS (q := (y_M_takeException, 8)) 23 (by decide +kernel), by decide, by decide, by decide +kernel⟩
theorem mf_M_tagged : MFv y_M_tagged b_M_tagged 2 (some .boolean) 1 := ⟨tbT 254 (by decide +kernel) rfl, tbT 1 (by decide +kernel) rfl, tbT 252 (by decide +kernel) rfl, tbT 253 (by decide +kernel) rfl, by decide, by decide, by decide +kernel⟩
theorem mf_M_step : MFv y_M_step b_M_step 8 (some .int) 0 := ⟨tbT 107 (by decide +kernel) rfl, tbT 1 (by decide +kernel) rfl, tbT 106 (by decide +kernel) rfl, tbS (q := (y_M_step, 8)) 1 (by decide +kernel), by decide, by decide, by decide +kernel⟩
theorem mf_R_thrown : MFv y_R_thrown b_R_thrown 1 (some .int) 0 := ⟨tbT 414 (by decide +kernel) rfl, tbT 4 (by decide +kernel) rfl, tbT 412 (by decide +kernel) rfl, tbT 413 (by decide +kernel) rfl, by decide, by decide, by decide +kernel⟩
theorem mf_R_refuse : MFv y_R_refuse b_R_refuse 2 (some .int) 1 := ⟨tbT 571 (by decide +kernel) rfl, tbT 4 (by decide +kernel) rfl, tbT 570 (by decide +kernel) rfl, tbS (q := (y_R_refuse, 18)) 57 (by decide +kernel), by decide, by decide, by decide +kernel⟩
theorem mf_R_outside : MFs y_R_outside b_R_outside 3 (some .boolean) 3 := ⟨tbT 421 (by decide +kernel) rfl, tbT 4 (by decide +kernel) rfl, tbT 420 (by decide +kernel) rfl, by decide, by decide, by decide +kernel⟩
theorem mf_R_set : MFv y_R_set b_R_set 6 none 5 := ⟨tbT 354 (by decide +kernel) rfl, tbT 4 (by decide +kernel) rfl, tbT 353 (by decide +kernel) rfl, tbS (q := (y_R_set, 18)) 25 (by decide +kernel), by decide, by decide, by decide +kernel⟩
theorem mf_R_number : MFv y_R_number b_R_number 3 none 2 := ⟨tbT 534 (by decide +kernel) rfl, tbT 4 (by decide +kernel) rfl, tbT 533 (by decide +kernel) rfl, tbS (q := (y_R_number, 18)) 51 (by decide +kernel), by decide, by decide, by decide +kernel⟩
theorem mf_R_copy : MFv y_R_copy b_R_copy 3 none 2 := ⟨tbT 506 (by decide +kernel) rfl, tbT 4 (by decide +kernel) rfl, tbT 505 (by decide +kernel) rfl, tbS (q := (y_R_copy, 18)) 44 (by decide +kernel), by decide, by decide, by decide +kernel⟩
theorem mf_R_move : MFv y_R_move b_R_move 3 none 2 := ⟨tbT 514 (by decide +kernel) rfl, tbT 4 (by decide +kernel) rfl, tbT 513 (by decide +kernel) rfl, tbS (q := (y_R_move, 18)) 46 (by decide +kernel), by decide, by decide, by decide +kernel⟩
theorem mf_R_may : MFv y_R_may b_R_may 3 (some .boolean) 2 := ⟨tbT 449 (by decide +kernel) rfl, tbT 4 (by decide +kernel) rfl, tbT 448 (by decide +kernel) rfl, tbS (q := (y_R_may, 18)) 30 (by decide +kernel), by decide, by decide, by decide +kernel⟩
theorem mf_R_usable : MFv y_R_usable b_R_usable 2 (some .int) 1 := ⟨tbT 445 (by decide +kernel) rfl, tbT 4 (by decide +kernel) rfl, tbT 444 (by decide +kernel) rfl, tbS (q := (y_R_usable, 18)) 29 (by decide +kernel), by decide, by decide, by decide +kernel⟩
theorem mf_R_loose : MFv y_R_loose b_R_loose 2 (some .int) 1 := ⟨tbT 462 (by decide +kernel) rfl, tbT 4 (by decide +kernel) rfl, tbT 461 (by decide +kernel) rfl, tbS (q := (y_R_loose, 18)) 33 (by decide +kernel), by decide, by decide, by decide +kernel⟩
theorem mf_R_allow : MFv y_R_allow b_R_allow 9 (some .int) 4 := ⟨tbT 441 (by decide +kernel) rfl, tbT 4 (by decide +kernel) rfl, tbT 440 (by decide +kernel) rfl, tbS (q := (y_R_allow, 18)) 28 (by decide +kernel), by decide, by decide, by decide +kernel⟩
theorem mf_R_exact : MFv y_R_exact b_R_exact 3 (some .boolean) 2 := ⟨tbT 470 (by decide +kernel) rfl, tbT 4 (by decide +kernel) rfl, tbT 469 (by decide +kernel) rfl, tbS (q := (y_R_exact, 18)) 35 (by decide +kernel), by decide, by decide, by decide +kernel⟩
theorem mf_R_down : MFv y_R_down b_R_down 2 (some .int) 1 := ⟨tbT 474 (by decide +kernel) rfl, tbT 4 (by decide +kernel) rfl, tbT 473 (by decide +kernel) rfl, tbS (q := (y_R_down, 18)) 36 (by decide +kernel), by decide, by decide, by decide +kernel⟩
theorem mf_R_up : MFv y_R_up b_R_up 2 (some .int) 1 := ⟨tbT 478 (by decide +kernel) rfl, tbT 4 (by decide +kernel) rfl, tbT 477 (by decide +kernel) rfl, tbS (q := (y_R_up, 18)) 37 (by decide +kernel), by decide, by decide, by decide +kernel⟩
theorem mf_R_forBounds : MFv y_R_forBounds b_R_forBounds 4 (some .int) 0 := ⟨tbT 466 (by decide +kernel) rfl, tbT 4 (by decide +kernel) rfl, tbT 465 (by decide +kernel) rfl, tbS (q := (y_R_forBounds, 18)) 34 (by decide +kernel), by decide, by decide, by decide +kernel⟩
theorem mf_R_points : MFv y_R_points b_R_points 2 (some .boolean) 1 := ⟨tbT 486 (by decide +kernel) rfl, tbT 4 (by decide +kernel) rfl, tbT 485 (by decide +kernel) rfl, tbS (q := (y_R_points, 18)) 39 (by decide +kernel), by decide, by decide, by decide +kernel⟩
theorem mf_R_forSeal : MFv y_R_forSeal b_R_forSeal 1 (some .int) 0 := ⟨tbT 482 (by decide +kernel) rfl, tbT 4 (by decide +kernel) rfl, tbT 481 (by decide +kernel) rfl, tbS (q := (y_R_forSeal, 18)) 38 (by decide +kernel), by decide, by decide, by decide +kernel⟩
theorem mf_R_forUnseal : MFv y_R_forUnseal b_R_forUnseal 1 (some .int) 0 := ⟨tbT 490 (by decide +kernel) rfl, tbT 4 (by decide +kernel) rfl, tbT 489 (by decide +kernel) rfl, tbS (q := (y_R_forUnseal, 18)) 40 (by decide +kernel), by decide, by decide, by decide +kernel⟩
theorem mf_R_size : MFv y_R_size b_R_size 1 (some .int) 0 := ⟨tbT 502 (by decide +kernel) rfl, tbT 4 (by decide +kernel) rfl, tbT 501 (by decide +kernel) rfl, tbS (q := (y_R_size, 18)) 43 (by decide +kernel), by decide, by decide, by decide +kernel⟩
theorem mf_R_forAccess : MFv y_R_forAccess b_R_forAccess 2 (some .int) 0 := ⟨tbT 498 (by decide +kernel) rfl, tbT 4 (by decide +kernel) rfl, tbT 497 (by decide +kernel) rfl, tbS (q := (y_R_forAccess, 18)) 42 (by decide +kernel), by decide, by decide, by decide +kernel⟩
theorem mf_R_forJump : MFv y_R_forJump b_R_forJump 1 (some .int) 0 := ⟨tbT 494 (by decide +kernel) rfl, tbT 4 (by decide +kernel) rfl, tbT 493 (by decide +kernel) rfl, tbS (q := (y_R_forJump, 18)) 41 (by decide +kernel), by decide, by decide, by decide +kernel⟩
theorem mf_R_exception : MFv y_R_exception b_R_exception 1 (some .int) 0 := ⟨tbT 458 (by decide +kernel) rfl, tbT 4 (by decide +kernel) rfl, tbT 457 (by decide +kernel) rfl, tbS (q := (y_R_exception, 18)) 32 (by decide +kernel), by decide, by decide, by decide +kernel⟩
theorem mf_R_word : MFv y_R_word b_R_word 2 (some .int) 1 := ⟨tbT 542 (by decide +kernel) rfl, tbT 4 (by decide +kernel) rfl, tbT 541 (by decide +kernel) rfl, tbS (q := (y_R_word, 18)) 53 (by decide +kernel), by decide, by decide, by decide +kernel⟩
theorem mf_R_load : MFv y_R_load b_R_load 4 none 1 := ⟨tbT 546 (by decide +kernel) rfl, tbT 4 (by decide +kernel) rfl, tbT 545 (by decide +kernel) rfl, tbS (q := (y_R_load, 18)) 54 (by decide +kernel), by decide, by decide, by decide +kernel⟩
theorem mf_R_access : MFv y_R_access b_R_access 2 none 0 := ⟨tbT 538 (by decide +kernel) rfl, tbT 4 (by decide +kernel) rfl, tbT 537 (by decide +kernel) rfl, tbS (q := (y_R_access, 18)) 52 (by decide +kernel), by decide, by decide, by decide +kernel⟩
theorem mf_R_within : MFv y_R_within b_R_within 1 (some .boolean) 0 := ⟨tbT 530 (by decide +kernel) rfl, tbT 4 (by decide +kernel) rfl, tbT 529 (by decide +kernel) rfl, tbS (q := (y_R_within, 18)) 50 (by decide +kernel), by decide, by decide, by decide +kernel⟩
theorem mf_R_reckon : MFv y_R_reckon b_R_reckon 1 (some .int) 0 := ⟨tbT 526 (by decide +kernel) rfl, tbT 4 (by decide +kernel) rfl, tbT 525 (by decide +kernel) rfl, tbS (q := (y_R_reckon, 18)) 49 (by decide +kernel), by decide, by decide, by decide +kernel⟩
theorem mf_R_bound : MFv y_R_bound b_R_bound 4 none 0 := ⟨tbT 555 (by decide +kernel) rfl, tbT 4 (by decide +kernel) rfl, tbT 554 (by decide +kernel) rfl, tbS (q := (y_R_bound, 18)) 56 (by decide +kernel), by decide, by decide, by decide +kernel⟩
theorem mf_R_derive : MFv y_R_derive b_R_derive 1 none 0 := ⟨tbT 551 (by decide +kernel) rfl, tbT 4 (by decide +kernel) rfl, tbT 550 (by decide +kernel) rfl, tbS (q := (y_R_derive, 18)) 55 (by decide +kernel), by decide, by decide, by decide +kernel⟩
theorem mf_R_jump : MFv y_R_jump b_R_jump 1 none 0 := ⟨tbT 510 (by decide +kernel) rfl, tbT 4 (by decide +kernel) rfl, tbT 509 (by decide +kernel) rfl, tbS (q := (y_R_jump, 18)) 45 (by decide +kernel), by decide, by decide, by decide +kernel⟩
theorem mf_R_goes : MFv y_R_goes b_R_goes 1 (some .boolean) 0 := ⟨tbT 522 (by decide +kernel) rfl, tbT 4 (by decide +kernel) rfl, tbT 521 (by decide +kernel) rfl, tbS (q := (y_R_goes, 18)) 48 (by decide +kernel), by decide, by decide, by decide +kernel⟩
theorem mf_R_doIt : MFv y_R_doIt b_R_doIt 4 none 0 := ⟨tbT 518 (by decide +kernel) rfl, tbT 4 (by decide +kernel) rfl, tbT 517 (by decide +kernel) rfl, tbS (q := (y_R_doIt, 18)) 47 (by decide +kernel), by decide, by decide, by decide +kernel⟩
theorem mf_R_fetch : MFv y_R_fetch b_R_fetch 2 none 1 := ⟨tbT 454 (by decide +kernel) rfl, tbT 4 (by decide +kernel) rfl, tbT 453 (by decide +kernel) rfl, tbS (q := (y_R_fetch, 18)) 31 (by decide +kernel), by decide, by decide, by decide +kernel⟩
theorem mf_R_step : MFv y_R_step b_R_step 2 none 0 := ⟨tbT 437 (by decide +kernel) rfl, tbT 4 (by decide +kernel) rfl, tbT 436 (by decide +kernel) rfl, tbS (q := (y_R_step, 18)) 27 (by decide +kernel), by decide, by decide, by decide +kernel⟩
theorem mf_R_grant : MFv y_R_grant b_R_grant 6 none 5 := ⟨tbT 418 (by decide +kernel) rfl, tbT 4 (by decide +kernel) rfl, tbT 416 (by decide +kernel) rfl, tbT 417 (by decide +kernel) rfl, by decide, by decide, by decide +kernel⟩
theorem mf_R_poke : MFv y_R_poke b_R_poke 4 none 3 := ⟨tbT 425 (by decide +kernel) rfl, tbT 4 (by decide +kernel) rfl, tbT 423 (by decide +kernel) rfl, tbT 424 (by decide +kernel) rfl, by decide, by decide, by decide +kernel⟩
theorem mf_R_state : MFv y_R_state b_R_state 1 (some .int) 0 := ⟨tbT 559 (by decide +kernel) rfl, tbT 4 (by decide +kernel) rfl, tbT 557 (by decide +kernel) rfl, tbT 558 (by decide +kernel) rfl, by decide, by decide, by decide +kernel⟩
theorem mf_R_cause : MFv y_R_cause b_R_cause 1 (some .int) 0 := ⟨tbT 563 (by decide +kernel) rfl, tbT 4 (by decide +kernel) rfl, tbT 561 (by decide +kernel) rfl, tbT 562 (by decide +kernel) rfl, by decide, by decide, by decide +kernel⟩
theorem mf_R_look : MFv y_R_look b_R_look 5 (some .int) 2 := ⟨tbT 567 (by decide +kernel) rfl, tbT 4 (by decide +kernel) rfl, tbT 565 (by decide +kernel) rfl, tbT 566 (by decide +kernel) rfl, by decide, by decide, by decide +kernel⟩
theorem mf_R_peek : MFv y_R_peek b_R_peek 2 (some .int) 1 := ⟨tbT 575 (by decide +kernel) rfl, tbT 4 (by decide +kernel) rfl, tbT 573 (by decide +kernel) rfl, tbT 574 (by decide +kernel) rfl, by decide, by decide, by decide +kernel⟩
theorem mf_R_tagged : MFv y_R_tagged b_R_tagged 2 (some .boolean) 1 := ⟨tbT 579 (by decide +kernel) rfl, tbT 4 (by decide +kernel) rfl, tbT 577 (by decide +kernel) rfl, tbT 578 (by decide +kernel) rfl, by decide, by decide, by decide +kernel⟩
theorem mf_E_store : MFv y_E_store b_E_store 5 none 3 := ⟨tbT 181 (by decide +kernel) rfl, tbT 3 (by decide +kernel) rfl, tbT 180 (by decide +kernel) rfl, tbS (q := (y_E_store, 2)) 17 (by decide +kernel), by decide, by decide, by decide +kernel⟩
theorem mf_R_store : MFv y_R_store b_R_store 5 none 3 := ⟨tbT 429 (by decide +kernel) rfl, tbT 4 (by decide +kernel) rfl, tbT 428 (by decide +kernel) rfl, tbS (q := (y_R_store, 18)) 26 (by decide +kernel), by decide, by decide, by decide +kernel⟩
theorem fl_K_9 : Cond.fieldLink "CapMachine$Capability" 9 "CapMachine$Capability" "valid" "Z" ∈ TB := tbT 25 (by decide +kernel) rfl
theorem fl_K_15 : Cond.fieldLink "CapMachine$Capability" 15 "CapMachine$Capability" "base" "I" ∈ TB := tbT 28 (by decide +kernel) rfl
theorem fl_K_19 : Cond.fieldLink "CapMachine$Capability" 19 "CapMachine$Capability" "top" "I" ∈ TB := tbT 30 (by decide +kernel) rfl
theorem fl_K_22 : Cond.fieldLink "CapMachine$Capability" 22 "CapMachine$Capability" "permissions" "I" ∈ TB := tbT 32 (by decide +kernel) rfl
theorem fl_K_25 : Cond.fieldLink "CapMachine$Capability" 25 "CapMachine$Capability" "type" "I" ∈ TB := tbT 34 (by decide +kernel) rfl
theorem fl_K_28 : Cond.fieldLink "CapMachine$Capability" 28 "CapMachine$Capability" "address" "I" ∈ TB := tbT 36 (by decide +kernel) rfl
theorem ml_K_31 : Cond.methodLink "CapMachine$Capability" 31 y_K_permits ∈ TB := tbT 112 (by decide +kernel) rfl
theorem kl_K_35 : Cond.constantLong "CapMachine$Capability" 35 (512 : Int64) ∈ TB := tbT 116 (by decide +kernel) rfl
theorem fl_E_9 : Cond.fieldLink "CapMachine$Memory" 9 "CapMachine$Memory" "bytes" "[B" ∈ TB := tbT 58 (by decide +kernel) rfl
theorem ml_E_19 : Cond.methodLink "CapMachine$Memory" 19 y_E_byteAt ∈ TB := tbT 164 (by decide +kernel) rfl
theorem fl_E_15 : Cond.fieldLink "CapMachine$Memory" 15 "CapMachine$Memory" "tags" "[Z" ∈ TB := tbT 59 (by decide +kernel) rfl
theorem ml_E_23 : Cond.methodLink "CapMachine$Memory" 23 y_E_wordAt ∈ TB := tbT 169 (by decide +kernel) rfl
theorem mn_E_26 : Cond.methodLinkNest "CapMachine$Memory" 26 y_K_becomeUnpacked "CapMachine" ∈ NW := nwT 170 (by decide +kernel) rfl
theorem fn_E_32 : Cond.fieldLinkNest "CapMachine$Memory" 32 "CapMachine$Capability" "address" "I" "CapMachine" ∈ NW := nwT 37 (by decide +kernel) rfl
theorem ml_E_36 : Cond.methodLink "CapMachine$Memory" 36 y_E_store ∈ TB := tbT 178 (by decide +kernel) rfl
theorem mn_E_40 : Cond.methodLinkNest "CapMachine$Memory" 40 y_K_packed "CapMachine" ∈ NW := nwT 182 (by decide +kernel) rfl
theorem fn_E_44 : Cond.fieldLinkNest "CapMachine$Memory" 44 "CapMachine$Capability" "valid" "Z" "CapMachine" ∈ NW := nwT 26 (by decide +kernel) rfl
theorem fl_M_40 : Cond.fieldLink "CapMachine" 40 "CapMachine" "state" "I" ∈ TB := tbT 78 (by decide +kernel) rfl
theorem fl_M_44 : Cond.fieldLink "CapMachine" 44 "CapMachine" "cause" "I" ∈ TB := tbT 79 (by decide +kernel) rfl
theorem mn_M_102 : Cond.methodLinkNest "CapMachine" 102 y_K_becomeNumber "CapMachine" ∈ NW := nwT 138 (by decide +kernel) rfl
theorem mn_M_79 : Cond.methodLinkNest "CapMachine" 79 y_K_become "CapMachine" ∈ NW := nwT 134 (by decide +kernel) rfl
theorem fn_M_83 : Cond.fieldLinkNest "CapMachine" 83 "CapMachine$Capability" "valid" "Z" "CapMachine" ∈ NW := nwT 27 (by decide +kernel) rfl
theorem mn_M_112 : Cond.methodLinkNest "CapMachine" 112 y_K_moveTo "CapMachine" ∈ NW := nwT 125 (by decide +kernel) rfl
theorem fn_M_115 : Cond.fieldLinkNest "CapMachine" 115 "CapMachine$Capability" "type" "I" "CapMachine" ∈ NW := nwT 35 (by decide +kernel) rfl
theorem fn_M_165 : Cond.fieldLinkNest "CapMachine" 165 "CapMachine$Capability" "permissions" "I" "CapMachine" ∈ NW := nwT 33 (by decide +kernel) rfl
theorem ml_M_178 : Cond.methodLink "CapMachine" 178 y_M_multipleNotAbove ∈ TB := tbT 206 (by decide +kernel) rfl
theorem fn_M_87 : Cond.fieldLinkNest "CapMachine" 87 "CapMachine$Capability" "address" "I" "CapMachine" ∈ NW := nwT 38 (by decide +kernel) rfl
theorem fn_M_168 : Cond.fieldLinkNest "CapMachine" 168 "CapMachine$Capability" "base" "I" "CapMachine" ∈ NW := nwT 29 (by decide +kernel) rfl
theorem fn_M_171 : Cond.fieldLinkNest "CapMachine" 171 "CapMachine$Capability" "top" "I" "CapMachine" ∈ NW := nwT 31 (by decide +kernel) rfl
theorem ml_M_174 : Cond.methodLink "CapMachine" 174 y_M_areExact ∈ TB := tbT 203 (by decide +kernel) rfl
theorem ml_M_181 : Cond.methodLink "CapMachine" 181 y_M_multipleNotBelow ∈ TB := tbT 209 (by decide +kernel) rfl
theorem mn_M_118 : Cond.methodLinkNest "CapMachine" 118 y_K_permits "CapMachine" ∈ NW := nwT 133 (by decide +kernel) rfl
theorem mn_M_184 : Cond.methodLinkNest "CapMachine" 184 y_K_hasAddressInBounds "CapMachine" ∈ NW := nwT 218 (by decide +kernel) rfl
theorem fl_M_20 : Cond.fieldLink "CapMachine" 20 "CapMachine" "handler" "LCapMachine$Capability;" ∈ TB := tbT 74 (by decide +kernel) rfl
theorem ml_M_188 : Cond.methodLink "CapMachine" 188 y_M_permissionsFor ∈ TB := tbT 154 (by decide +kernel) rfl
theorem ml_M_192 : Cond.methodLink "CapMachine" 192 y_M_bytesOf ∈ TB := tbT 157 (by decide +kernel) rfl
theorem mn_M_90 : Cond.methodLinkNest "CapMachine" 90 y_K_refusal "CapMachine" ∈ NW := nwT 108 (by decide +kernel) rfl
theorem fl_M_32 : Cond.fieldLink "CapMachine" 32 "CapMachine" "memory" "LCapMachine$Memory;" ∈ TB := tbT 77 (by decide +kernel) rfl
theorem mn_M_72 : Cond.methodLinkNest "CapMachine" 72 y_E_byteAt "CapMachine" ∈ NW := nwT 117 (by decide +kernel) rfl
theorem mn_M_195 : Cond.methodLinkNest "CapMachine" 195 y_E_wordAt "CapMachine" ∈ NW := nwT 160 (by decide +kernel) rfl
theorem mn_M_198 : Cond.methodLinkNest "CapMachine" 198 y_E_loadCapability "CapMachine" ∈ NW := nwT 165 (by decide +kernel) rfl
theorem mn_M_202 : Cond.methodLinkNest "CapMachine" 202 y_E_storeCapability "CapMachine" ∈ NW := nwT 174 (by decide +kernel) rfl
theorem mn_M_50 : Cond.methodLinkNest "CapMachine" 50 y_E_store "CapMachine" ∈ NW := nwT 186 (by decide +kernel) rfl
theorem ml_M_126 : Cond.methodLink "CapMachine" 126 y_M_number ∈ TB := tbT 191 (by decide +kernel) rfl
theorem ml_M_130 : Cond.methodLink "CapMachine" 130 y_M_copy ∈ TB := tbT 194 (by decide +kernel) rfl
theorem ml_M_133 : Cond.methodLink "CapMachine" 133 y_M_withAddress ∈ TB := tbT 197 (by decide +kernel) rfl
theorem ml_M_137 : Cond.methodLink "CapMachine" 137 y_M_withBounds ∈ TB := tbT 200 (by decide +kernel) rfl
theorem ml_M_141 : Cond.methodLink "CapMachine" 141 y_M_withPermissions ∈ TB := tbT 212 (by decide +kernel) rfl
theorem ml_M_144 : Cond.methodLink "CapMachine" 144 y_M_seal ∈ TB := tbT 215 (by decide +kernel) rfl
theorem ml_M_148 : Cond.methodLink "CapMachine" 148 y_M_unseal ∈ TB := tbT 222 (by decide +kernel) rfl
theorem ml_M_151 : Cond.methodLink "CapMachine" 151 y_M_makeEntry ∈ TB := tbT 225 (by decide +kernel) rfl
theorem ml_M_154 : Cond.methodLink "CapMachine" 154 y_M_withoutTag ∈ TB := tbT 228 (by decide +kernel) rfl
theorem mn_M_157 : Cond.methodLinkNest "CapMachine" 157 y_K_isWithin "CapMachine" ∈ NW := nwT 231 (by decide +kernel) rfl
theorem fl_M_16 : Cond.fieldLink "CapMachine" 16 "CapMachine" "pc" "LCapMachine$Capability;" ∈ TB := tbT 73 (by decide +kernel) rfl
theorem ml_M_161 : Cond.methodLink "CapMachine" 161 y_M_setHandler ∈ TB := tbT 235 (by decide +kernel) rfl
theorem mn_M_68 : Cond.methodLinkNest "CapMachine" 68 y_K_part "CapMachine" ∈ NW := nwT 187 (by decide +kernel) rfl
theorem ml_M_122 : Cond.methodLink "CapMachine" 122 y_M_access ∈ TB := tbT 150 (by decide +kernel) rfl
theorem fl_M_26 : Cond.fieldLink "CapMachine" 26 "CapMachine" "link" "LCapMachine$Capability;" ∈ TB := tbT 76 (by decide +kernel) rfl
theorem fl_M_23 : Cond.fieldLink "CapMachine" 23 "CapMachine" "fault" "LCapMachine$Capability;" ∈ TB := tbT 75 (by decide +kernel) rfl
theorem fn_M_75 : Cond.fieldLinkNest "CapMachine" 75 "CapMachine$Memory" "tags" "[Z" "CapMachine" ∈ NW := nwT 60 (by decide +kernel) rfl
theorem fl_M_11 : Cond.fieldLink "CapMachine" 11 "CapMachine" "slots" "[LCapMachine$Capability;" ∈ TB := tbT 72 (by decide +kernel) rfl
theorem ml_M_105 : Cond.methodLink "CapMachine" 105 y_M_advance ∈ TB := tbT 142 (by decide +kernel) rfl
theorem ml_M_94 : Cond.methodLink "CapMachine" 94 y_M_branch ∈ TB := tbT 121 (by decide +kernel) rfl
theorem ml_M_98 : Cond.methodLink "CapMachine" 98 y_M_jump ∈ TB := tbT 129 (by decide +kernel) rfl
theorem ml_M_108 : Cond.methodLink "CapMachine" 108 y_M_compute ∈ TB := tbT 146 (by decide +kernel) rfl
theorem fl_R_39 : Cond.fieldLink "CapMachineModel" 39 "CapMachineModel" "thrown" "I" ∈ TB := tbT 355 (by decide +kernel) rfl
theorem fl_R_17 : Cond.fieldLink "CapMachineModel" 17 "CapMachineModel" "valid" "[Z" ∈ TB := tbT 358 (by decide +kernel) rfl
theorem fl_R_20 : Cond.fieldLink "CapMachineModel" 20 "CapMachineModel" "base" "[I" ∈ TB := tbT 359 (by decide +kernel) rfl
theorem fl_R_23 : Cond.fieldLink "CapMachineModel" 23 "CapMachineModel" "top" "[I" ∈ TB := tbT 360 (by decide +kernel) rfl
theorem fl_R_26 : Cond.fieldLink "CapMachineModel" 26 "CapMachineModel" "address" "[I" ∈ TB := tbT 361 (by decide +kernel) rfl
theorem fl_R_29 : Cond.fieldLink "CapMachineModel" 29 "CapMachineModel" "permissions" "[I" ∈ TB := tbT 362 (by decide +kernel) rfl
theorem fl_R_32 : Cond.fieldLink "CapMachineModel" 32 "CapMachineModel" "type" "[I" ∈ TB := tbT 363 (by decide +kernel) rfl
theorem ml_R_35 : Cond.methodLink "CapMachineModel" 35 y_R_set ∈ TB := tbT 351 (by decide +kernel) rfl
theorem ml_R_43 : Cond.methodLink "CapMachineModel" 43 y_R_outside ∈ TB := tbT 419 (by decide +kernel) rfl
theorem ml_R_47 : Cond.methodLink "CapMachineModel" 47 y_R_usable ∈ TB := tbT 442 (by decide +kernel) rfl
theorem ml_R_51 : Cond.methodLink "CapMachineModel" 51 y_R_may ∈ TB := tbT 446 (by decide +kernel) rfl
theorem kl_R_55 : Cond.constantLong "CapMachineModel" 55 (512 : Int64) ∈ TB := tbT 450 (by decide +kernel) rfl
theorem fl_R_57 : Cond.fieldLink "CapMachineModel" 57 "CapMachineModel" "b" "I" ∈ TB := tbT 368 (by decide +kernel) rfl
theorem fl_R_60 : Cond.fieldLink "CapMachineModel" 60 "CapMachineModel" "c" "I" ∈ TB := tbT 369 (by decide +kernel) rfl
theorem ml_R_63 : Cond.methodLink "CapMachineModel" 63 y_R_exact ∈ TB := tbT 467 (by decide +kernel) rfl
theorem ml_R_66 : Cond.methodLink "CapMachineModel" 66 y_R_down ∈ TB := tbT 471 (by decide +kernel) rfl
theorem ml_R_69 : Cond.methodLink "CapMachineModel" 69 y_R_up ∈ TB := tbT 475 (by decide +kernel) rfl
theorem fl_R_72 : Cond.fieldLink "CapMachineModel" 72 "CapMachineModel" "code" "I" ∈ TB := tbT 366 (by decide +kernel) rfl
theorem ml_R_75 : Cond.methodLink "CapMachineModel" 75 y_R_points ∈ TB := tbT 483 (by decide +kernel) rfl
theorem fl_R_79 : Cond.fieldLink "CapMachineModel" 79 "CapMachineModel" "a" "I" ∈ TB := tbT 367 (by decide +kernel) rfl
theorem fl_R_82 : Cond.fieldLink "CapMachineModel" 82 "CapMachineModel" "imm" "I" ∈ TB := tbT 370 (by decide +kernel) rfl
theorem ml_R_85 : Cond.methodLink "CapMachineModel" 85 y_R_size ∈ TB := tbT 499 (by decide +kernel) rfl
theorem ml_R_89 : Cond.methodLink "CapMachineModel" 89 y_R_allow ∈ TB := tbT 438 (by decide +kernel) rfl
theorem ml_R_93 : Cond.methodLink "CapMachineModel" 93 y_R_loose ∈ TB := tbT 459 (by decide +kernel) rfl
theorem ml_R_96 : Cond.methodLink "CapMachineModel" 96 y_R_forBounds ∈ TB := tbT 463 (by decide +kernel) rfl
theorem ml_R_108 : Cond.methodLink "CapMachineModel" 108 y_R_forAccess ∈ TB := tbT 495 (by decide +kernel) rfl
theorem ml_R_105 : Cond.methodLink "CapMachineModel" 105 y_R_forJump ∈ TB := tbT 491 (by decide +kernel) rfl
theorem ml_R_102 : Cond.methodLink "CapMachineModel" 102 y_R_forUnseal ∈ TB := tbT 487 (by decide +kernel) rfl
theorem ml_R_99 : Cond.methodLink "CapMachineModel" 99 y_R_forSeal ∈ TB := tbT 479 (by decide +kernel) rfl
theorem fl_R_7 : Cond.fieldLink "CapMachineModel" 7 "CapMachineModel" "memory" "[I" ∈ TB := tbT 356 (by decide +kernel) rfl
theorem ml_R_111 : Cond.methodLink "CapMachineModel" 111 y_R_word ∈ TB := tbT 539 (by decide +kernel) rfl
theorem fl_R_13 : Cond.fieldLink "CapMachineModel" 13 "CapMachineModel" "tags" "[Z" ∈ TB := tbT 357 (by decide +kernel) rfl
theorem ml_R_114 : Cond.methodLink "CapMachineModel" 114 y_R_number ∈ TB := tbT 531 (by decide +kernel) rfl
theorem ml_R_118 : Cond.methodLink "CapMachineModel" 118 y_R_load ∈ TB := tbT 543 (by decide +kernel) rfl
theorem ml_R_122 : Cond.methodLink "CapMachineModel" 122 y_R_store ∈ TB := tbT 426 (by decide +kernel) rfl
theorem ki_R_126 : Cond.constant "CapMachineModel" 126 (1048576 : Int32) ∈ TB := tbT 547 (by decide +kernel) rfl
theorem fl_R_127 : Cond.fieldLink "CapMachineModel" 127 "CapMachineModel" "half" "I" ∈ TB := tbT 371 (by decide +kernel) rfl
theorem ml_R_130 : Cond.methodLink "CapMachineModel" 130 y_R_within ∈ TB := tbT 527 (by decide +kernel) rfl
theorem ml_R_134 : Cond.methodLink "CapMachineModel" 134 y_R_copy ∈ TB := tbT 503 (by decide +kernel) rfl
theorem ml_R_137 : Cond.methodLink "CapMachineModel" 137 y_R_move ∈ TB := tbT 511 (by decide +kernel) rfl
theorem ml_R_140 : Cond.methodLink "CapMachineModel" 140 y_R_bound ∈ TB := tbT 552 (by decide +kernel) rfl
theorem ml_R_143 : Cond.methodLink "CapMachineModel" 143 y_R_goes ∈ TB := tbT 519 (by decide +kernel) rfl
theorem ml_R_152 : Cond.methodLink "CapMachineModel" 152 y_R_derive ∈ TB := tbT 548 (by decide +kernel) rfl
theorem ml_R_149 : Cond.methodLink "CapMachineModel" 149 y_R_access ∈ TB := tbT 535 (by decide +kernel) rfl
theorem ml_R_146 : Cond.methodLink "CapMachineModel" 146 y_R_reckon ∈ TB := tbT 523 (by decide +kernel) rfl
theorem ml_R_155 : Cond.methodLink "CapMachineModel" 155 y_R_fetch ∈ TB := tbT 451 (by decide +kernel) rfl
theorem ml_R_158 : Cond.methodLink "CapMachineModel" 158 y_R_exception ∈ TB := tbT 455 (by decide +kernel) rfl
theorem fl_R_161 : Cond.fieldLink "CapMachineModel" 161 "CapMachineModel" "raised" "Z" ∈ TB := tbT 372 (by decide +kernel) rfl
theorem fl_R_165 : Cond.fieldLink "CapMachineModel" 165 "CapMachineModel" "cause" "I" ∈ TB := tbT 364 (by decide +kernel) rfl
theorem fl_R_168 : Cond.fieldLink "CapMachineModel" 168 "CapMachineModel" "state" "I" ∈ TB := tbT 365 (by decide +kernel) rfl
theorem ml_R_174 : Cond.methodLink "CapMachineModel" 174 y_R_doIt ∈ TB := tbT 515 (by decide +kernel) rfl
theorem ml_R_171 : Cond.methodLink "CapMachineModel" 171 y_R_jump ∈ TB := tbT 507 (by decide +kernel) rfl
theorem ml_R_180 : Cond.methodLink "CapMachineModel" 180 y_R_refuse ∈ TB := tbT 568 (by decide +kernel) rfl
