set_option maxRecDepth 100000 in
theorem fFL_0_0 : flok (0, 9, 0, 0) := ⟨(RX0, TX0, 6), rfl, by decide, by decide, gm 345 (by decide +kernel)⟩
set_option maxRecDepth 100000 in
theorem fFL_0_1 : flok (0, 15, 0, 1) := ⟨(RX0, TX0, 6), rfl, by decide, by decide, gm 347 (by decide +kernel)⟩
set_option maxRecDepth 100000 in
theorem fFL_0_2 : flok (0, 19, 0, 2) := ⟨(RX0, TX0, 6), rfl, by decide, by decide, gm 348 (by decide +kernel)⟩
set_option maxRecDepth 100000 in
theorem fFL_0_3 : flok (0, 22, 0, 3) := ⟨(RX0, TX0, 6), rfl, by decide, by decide, gm 349 (by decide +kernel)⟩
set_option maxRecDepth 100000 in
theorem fFL_0_4 : flok (0, 25, 0, 4) := ⟨(RX0, TX0, 6), rfl, by decide, by decide, gm 350 (by decide +kernel)⟩
set_option maxRecDepth 100000 in
theorem fFL_0_5 : flok (0, 28, 0, 5) := ⟨(RX0, TX0, 6), rfl, by decide, by decide, gm 351 (by decide +kernel)⟩
set_option maxRecDepth 100000 in
theorem fFL_0_6 : flok (1, 9, 1, 0) := ⟨(RX1, TX1, 7), rfl, by decide, by decide, gm 526 (by decide +kernel)⟩
set_option maxRecDepth 100000 in
theorem fFL_0_7 : flok (1, 15, 1, 1) := ⟨(RX1, TX1, 7), rfl, by decide, by decide, gm 527 (by decide +kernel)⟩
set_option maxRecDepth 100000 in
theorem fFL_0_8 : flok (1, 19, 1, 2) := ⟨(RX1, TX1, 7), rfl, by decide, by decide, gm 528 (by decide +kernel)⟩
set_option maxRecDepth 100000 in
theorem fFL_0_9 : flok (1, 23, 1, 3) := ⟨(RX1, TX1, 7), rfl, by decide, by decide, gm 529 (by decide +kernel)⟩
set_option maxRecDepth 100000 in
theorem fFL_0_10 : flok (1, 26, 1, 4) := ⟨(RX1, TX1, 7), rfl, by decide, by decide, gm 530 (by decide +kernel)⟩
set_option maxRecDepth 100000 in
theorem fFL_0_11 : flok (1, 29, 1, 5) := ⟨(RX1, TX1, 7), rfl, by decide, by decide, gm 531 (by decide +kernel)⟩
set_option maxRecDepth 100000 in
theorem fFL_0_12 : flok (1, 32, 1, 6) := ⟨(RX1, TX1, 7), rfl, by decide, by decide, gm 532 (by decide +kernel)⟩
set_option maxRecDepth 100000 in
theorem fFL_0_13 : flok (1, 45, 3, 0) := ⟨(RX3, TX3, 3), rfl, by decide, by decide, gm 325 (by decide +kernel)⟩
set_option maxRecDepth 100000 in
theorem fFL_0_14 : flok (1, 50, 3, 1) := ⟨(RX3, TX3, 3), rfl, by decide, by decide, gm 329 (by decide +kernel)⟩
set_option maxRecDepth 100000 in
theorem fFL_0_15 : flok (2, 9, 2, 0) := ⟨(RX2, TX2, 13), rfl, by decide, by decide, gm 583 (by decide +kernel)⟩
set_option maxRecDepth 100000 in
theorem fFL_0_16 : flok (2, 15, 2, 1) := ⟨(RX2, TX2, 13), rfl, by decide, by decide, gm 585 (by decide +kernel)⟩
set_option maxRecDepth 100000 in
theorem fFL_0_17 : flok (2, 19, 2, 2) := ⟨(RX2, TX2, 13), rfl, by decide, by decide, gm 587 (by decide +kernel)⟩
set_option maxRecDepth 100000 in
theorem fFL_0_18 : flok (2, 22, 2, 3) := ⟨(RX2, TX2, 13), rfl, by decide, by decide, gm 589 (by decide +kernel)⟩
set_option maxRecDepth 100000 in
theorem fFL_0_19 : flok (2, 25, 2, 4) := ⟨(RX2, TX2, 13), rfl, by decide, by decide, gm 591 (by decide +kernel)⟩
set_option maxRecDepth 100000 in
theorem fFL_0_20 : flok (2, 28, 2, 5) := ⟨(RX2, TX2, 13), rfl, by decide, by decide, gm 592 (by decide +kernel)⟩
set_option maxRecDepth 100000 in
theorem fFL_0_21 : flok (2, 31, 2, 6) := ⟨(RX2, TX2, 13), rfl, by decide, by decide, gm 593 (by decide +kernel)⟩
set_option maxRecDepth 100000 in
theorem fFL_0_22 : flok (2, 35, 2, 7) := ⟨(RX2, TX2, 13), rfl, by decide, by decide, gm 594 (by decide +kernel)⟩
set_option maxRecDepth 100000 in
theorem fFL_0_23 : flok (2, 39, 2, 8) := ⟨(RX2, TX2, 13), rfl, by decide, by decide, gm 595 (by decide +kernel)⟩
set_option maxRecDepth 100000 in
theorem fFL_0_24 : flok (2, 42, 2, 9) := ⟨(RX2, TX2, 13), rfl, by decide, by decide, gm 596 (by decide +kernel)⟩
set_option maxRecDepth 100000 in
theorem fFL_0_25 : flok (2, 45, 2, 10) := ⟨(RX2, TX2, 13), rfl, by decide, by decide, gm 597 (by decide +kernel)⟩
set_option maxRecDepth 100000 in
theorem fFL_0_26 : flok (2, 48, 2, 11) := ⟨(RX2, TX2, 13), rfl, by decide, by decide, gm 598 (by decide +kernel)⟩
set_option maxRecDepth 100000 in
theorem fFL_0_27 : flok (2, 51, 2, 12) := ⟨(RX2, TX2, 13), rfl, by decide, by decide, gm 599 (by decide +kernel)⟩
set_option maxRecDepth 100000 in
theorem fFL_0_28 : flok (2, 68, 9, 8) := ⟨(RX9, TX9, 16), rfl, by decide, by decide, gm 395 (by decide +kernel)⟩
set_option maxRecDepth 100000 in
theorem fFL_0_29 : flok (2, 79, 6, 0) := ⟨(RX6, TX6, 9), rfl, by decide, by decide, gm 462 (by decide +kernel)⟩
set_option maxRecDepth 100000 in
theorem fFL_0_30 : flok (2, 96, 9, 3) := ⟨(RX9, TX9, 16), rfl, by decide, by decide, gm 375 (by decide +kernel)⟩
set_option maxRecDepth 100000 in
theorem fFL_0_31 : flok (2, 100, 7, 0) := ⟨(RX7, TX7, 5), rfl, by decide, by decide, gm 300 (by decide +kernel)⟩
set_option maxRecDepth 100000 in
theorem fFL_0_32 : flok (2, 103, 6, 1) := ⟨(RX6, TX6, 9), rfl, by decide, by decide, gm 465 (by decide +kernel)⟩
set_option maxRecDepth 100000 in
theorem fFL_0_33 : flok (2, 109, 9, 7) := ⟨(RX9, TX9, 16), rfl, by decide, by decide, gm 390 (by decide +kernel)⟩
set_option maxRecDepth 100000 in
theorem fFL_0_34 : flok (2, 141, 9, 9) := ⟨(RX9, TX9, 16), rfl, by decide, by decide, gm 400 (by decide +kernel)⟩
set_option maxRecDepth 100000 in
theorem fFL_0_35 : flok (3, 9, 3, 0) := ⟨(RX3, TX3, 3), rfl, by decide, by decide, gm 323 (by decide +kernel)⟩
set_option maxRecDepth 100000 in
theorem fFL_0_36 : flok (3, 15, 3, 1) := ⟨(RX3, TX3, 3), rfl, by decide, by decide, gm 327 (by decide +kernel)⟩
set_option maxRecDepth 100000 in
theorem fFL_0_37 : flok (3, 19, 3, 2) := ⟨(RX3, TX3, 3), rfl, by decide, by decide, gm 330 (by decide +kernel)⟩
set_option maxRecDepth 100000 in
theorem fFL_0_38 : flok (4, 9, 4, 0) := ⟨(RX4, TX4, 9), rfl, by decide, by decide, gm 232 (by decide +kernel)⟩
set_option maxRecDepth 100000 in
theorem fFL_0_39 : flok (4, 15, 4, 1) := ⟨(RX4, TX4, 9), rfl, by decide, by decide, gm 233 (by decide +kernel)⟩
set_option maxRecDepth 100000 in
theorem fFL_c0 : ∀ t ∈ ([(0, 9, 0, 0), (0, 15, 0, 1), (0, 19, 0, 2), (0, 22, 0, 3), (0, 25, 0, 4), (0, 28, 0, 5), (1, 9, 1, 0), (1, 15, 1, 1), (1, 19, 1, 2), (1, 23, 1, 3), (1, 26, 1, 4), (1, 29, 1, 5), (1, 32, 1, 6), (1, 45, 3, 0), (1, 50, 3, 1), (2, 9, 2, 0), (2, 15, 2, 1), (2, 19, 2, 2), (2, 22, 2, 3), (2, 25, 2, 4), (2, 28, 2, 5), (2, 31, 2, 6), (2, 35, 2, 7), (2, 39, 2, 8), (2, 42, 2, 9), (2, 45, 2, 10), (2, 48, 2, 11), (2, 51, 2, 12), (2, 68, 9, 8), (2, 79, 6, 0), (2, 96, 9, 3), (2, 100, 7, 0), (2, 103, 6, 1), (2, 109, 9, 7), (2, 141, 9, 9), (3, 9, 3, 0), (3, 15, 3, 1), (3, 19, 3, 2), (4, 9, 4, 0), (4, 15, 4, 1)] : List (Nat × Nat × Nat × Nat)), flok t := List.forall_mem_cons.mpr ⟨fFL_0_0, List.forall_mem_cons.mpr ⟨fFL_0_1, List.forall_mem_cons.mpr ⟨fFL_0_2, List.forall_mem_cons.mpr ⟨fFL_0_3, List.forall_mem_cons.mpr ⟨fFL_0_4, List.forall_mem_cons.mpr ⟨fFL_0_5, List.forall_mem_cons.mpr ⟨fFL_0_6, List.forall_mem_cons.mpr ⟨fFL_0_7, List.forall_mem_cons.mpr ⟨fFL_0_8, List.forall_mem_cons.mpr ⟨fFL_0_9, List.forall_mem_cons.mpr ⟨fFL_0_10, List.forall_mem_cons.mpr ⟨fFL_0_11, List.forall_mem_cons.mpr ⟨fFL_0_12, List.forall_mem_cons.mpr ⟨fFL_0_13, List.forall_mem_cons.mpr ⟨fFL_0_14, List.forall_mem_cons.mpr ⟨fFL_0_15, List.forall_mem_cons.mpr ⟨fFL_0_16, List.forall_mem_cons.mpr ⟨fFL_0_17, List.forall_mem_cons.mpr ⟨fFL_0_18, List.forall_mem_cons.mpr ⟨fFL_0_19, List.forall_mem_cons.mpr ⟨fFL_0_20, List.forall_mem_cons.mpr ⟨fFL_0_21, List.forall_mem_cons.mpr ⟨fFL_0_22, List.forall_mem_cons.mpr ⟨fFL_0_23, List.forall_mem_cons.mpr ⟨fFL_0_24, List.forall_mem_cons.mpr ⟨fFL_0_25, List.forall_mem_cons.mpr ⟨fFL_0_26, List.forall_mem_cons.mpr ⟨fFL_0_27, List.forall_mem_cons.mpr ⟨fFL_0_28, List.forall_mem_cons.mpr ⟨fFL_0_29, List.forall_mem_cons.mpr ⟨fFL_0_30, List.forall_mem_cons.mpr ⟨fFL_0_31, List.forall_mem_cons.mpr ⟨fFL_0_32, List.forall_mem_cons.mpr ⟨fFL_0_33, List.forall_mem_cons.mpr ⟨fFL_0_34, List.forall_mem_cons.mpr ⟨fFL_0_35, List.forall_mem_cons.mpr ⟨fFL_0_36, List.forall_mem_cons.mpr ⟨fFL_0_37, List.forall_mem_cons.mpr ⟨fFL_0_38, List.forall_mem_cons.mpr ⟨fFL_0_39, (fun _ h => by cases h)⟩⟩⟩⟩⟩⟩⟩⟩⟩⟩⟩⟩⟩⟩⟩⟩⟩⟩⟩⟩⟩⟩⟩⟩⟩⟩⟩⟩⟩⟩⟩⟩⟩⟩⟩⟩⟩⟩⟩⟩
set_option maxRecDepth 100000 in
theorem fFL_1_0 : flok (4, 19, 4, 2) := ⟨(RX4, TX4, 9), rfl, by decide, by decide, gm 234 (by decide +kernel)⟩
set_option maxRecDepth 100000 in
theorem fFL_1_1 : flok (4, 22, 4, 3) := ⟨(RX4, TX4, 9), rfl, by decide, by decide, gm 235 (by decide +kernel)⟩
set_option maxRecDepth 100000 in
theorem fFL_1_2 : flok (4, 26, 4, 4) := ⟨(RX4, TX4, 9), rfl, by decide, by decide, gm 236 (by decide +kernel)⟩
set_option maxRecDepth 100000 in
theorem fFL_1_3 : flok (4, 29, 4, 5) := ⟨(RX4, TX4, 9), rfl, by decide, by decide, gm 237 (by decide +kernel)⟩
set_option maxRecDepth 100000 in
theorem fFL_1_4 : flok (4, 32, 4, 6) := ⟨(RX4, TX4, 9), rfl, by decide, by decide, gm 239 (by decide +kernel)⟩
set_option maxRecDepth 100000 in
theorem fFL_1_5 : flok (4, 35, 4, 7) := ⟨(RX4, TX4, 9), rfl, by decide, by decide, gm 240 (by decide +kernel)⟩
set_option maxRecDepth 100000 in
theorem fFL_1_6 : flok (4, 38, 4, 8) := ⟨(RX4, TX4, 9), rfl, by decide, by decide, gm 241 (by decide +kernel)⟩
set_option maxRecDepth 100000 in
theorem fFL_1_7 : flok (5, 9, 5, 0) := ⟨(RX5, TX5, 7), rfl, by decide, by decide, gm 554 (by decide +kernel)⟩
set_option maxRecDepth 100000 in
theorem fFL_1_8 : flok (5, 15, 5, 1) := ⟨(RX5, TX5, 7), rfl, by decide, by decide, gm 556 (by decide +kernel)⟩
set_option maxRecDepth 100000 in
theorem fFL_1_9 : flok (5, 19, 5, 2) := ⟨(RX5, TX5, 7), rfl, by decide, by decide, gm 557 (by decide +kernel)⟩
set_option maxRecDepth 100000 in
theorem fFL_1_10 : flok (5, 22, 5, 3) := ⟨(RX5, TX5, 7), rfl, by decide, by decide, gm 558 (by decide +kernel)⟩
set_option maxRecDepth 100000 in
theorem fFL_1_11 : flok (5, 26, 5, 4) := ⟨(RX5, TX5, 7), rfl, by decide, by decide, gm 559 (by decide +kernel)⟩
set_option maxRecDepth 100000 in
theorem fFL_1_12 : flok (5, 30, 5, 5) := ⟨(RX5, TX5, 7), rfl, by decide, by decide, gm 560 (by decide +kernel)⟩
set_option maxRecDepth 100000 in
theorem fFL_1_13 : flok (5, 33, 5, 6) := ⟨(RX5, TX5, 7), rfl, by decide, by decide, gm 561 (by decide +kernel)⟩
set_option maxRecDepth 100000 in
theorem fFL_1_14 : flok (5, 36, 9, 3) := ⟨(RX9, TX9, 16), rfl, by decide, by decide, gm 374 (by decide +kernel)⟩
set_option maxRecDepth 100000 in
theorem fFL_1_15 : flok (5, 41, 7, 0) := ⟨(RX7, TX7, 5), rfl, by decide, by decide, gm 298 (by decide +kernel)⟩
set_option maxRecDepth 100000 in
theorem fFL_1_16 : flok (5, 44, 9, 8) := ⟨(RX9, TX9, 16), rfl, by decide, by decide, gm 394 (by decide +kernel)⟩
set_option maxRecDepth 100000 in
theorem fFL_1_17 : flok (5, 61, 9, 7) := ⟨(RX9, TX9, 16), rfl, by decide, by decide, gm 389 (by decide +kernel)⟩
set_option maxRecDepth 100000 in
theorem fFL_1_18 : flok (5, 68, 9, 9) := ⟨(RX9, TX9, 16), rfl, by decide, by decide, gm 399 (by decide +kernel)⟩
set_option maxRecDepth 100000 in
theorem fFL_1_19 : flok (5, 69, 9, 10) := ⟨(RX9, TX9, 16), rfl, by decide, by decide, gm 404 (by decide +kernel)⟩
set_option maxRecDepth 100000 in
theorem fFL_1_20 : flok (6, 9, 6, 0) := ⟨(RX6, TX6, 9), rfl, by decide, by decide, gm 461 (by decide +kernel)⟩
set_option maxRecDepth 100000 in
theorem fFL_1_21 : flok (6, 15, 6, 1) := ⟨(RX6, TX6, 9), rfl, by decide, by decide, gm 464 (by decide +kernel)⟩
set_option maxRecDepth 100000 in
theorem fFL_1_22 : flok (6, 19, 6, 2) := ⟨(RX6, TX6, 9), rfl, by decide, by decide, gm 467 (by decide +kernel)⟩
set_option maxRecDepth 100000 in
theorem fFL_1_23 : flok (6, 23, 6, 3) := ⟨(RX6, TX6, 9), rfl, by decide, by decide, gm 469 (by decide +kernel)⟩
set_option maxRecDepth 100000 in
theorem fFL_1_24 : flok (6, 26, 6, 4) := ⟨(RX6, TX6, 9), rfl, by decide, by decide, gm 471 (by decide +kernel)⟩
set_option maxRecDepth 100000 in
theorem fFL_1_25 : flok (6, 29, 6, 5) := ⟨(RX6, TX6, 9), rfl, by decide, by decide, gm 473 (by decide +kernel)⟩
set_option maxRecDepth 100000 in
theorem fFL_1_26 : flok (6, 32, 6, 6) := ⟨(RX6, TX6, 9), rfl, by decide, by decide, gm 475 (by decide +kernel)⟩
set_option maxRecDepth 100000 in
theorem fFL_1_27 : flok (6, 35, 6, 7) := ⟨(RX6, TX6, 9), rfl, by decide, by decide, gm 477 (by decide +kernel)⟩
set_option maxRecDepth 100000 in
theorem fFL_1_28 : flok (6, 38, 6, 8) := ⟨(RX6, TX6, 9), rfl, by decide, by decide, gm 479 (by decide +kernel)⟩
set_option maxRecDepth 100000 in
theorem fFL_1_29 : flok (6, 41, 9, 3) := ⟨(RX9, TX9, 16), rfl, by decide, by decide, gm 373 (by decide +kernel)⟩
set_option maxRecDepth 100000 in
theorem fFL_1_30 : flok (6, 47, 7, 0) := ⟨(RX7, TX7, 5), rfl, by decide, by decide, gm 297 (by decide +kernel)⟩
set_option maxRecDepth 100000 in
theorem fFL_1_31 : flok (6, 56, 9, 6) := ⟨(RX9, TX9, 16), rfl, by decide, by decide, gm 386 (by decide +kernel)⟩
set_option maxRecDepth 100000 in
theorem fFL_1_32 : flok (6, 79, 9, 15) := ⟨(RX9, TX9, 16), rfl, by decide, by decide, gm 421 (by decide +kernel)⟩
set_option maxRecDepth 100000 in
theorem fFL_1_33 : flok (6, 86, 9, 5) := ⟨(RX9, TX9, 16), rfl, by decide, by decide, gm 382 (by decide +kernel)⟩
set_option maxRecDepth 100000 in
theorem fFL_1_34 : flok (7, 9, 7, 0) := ⟨(RX7, TX7, 5), rfl, by decide, by decide, gm 296 (by decide +kernel)⟩
set_option maxRecDepth 100000 in
theorem fFL_1_35 : flok (7, 15, 7, 1) := ⟨(RX7, TX7, 5), rfl, by decide, by decide, gm 302 (by decide +kernel)⟩
set_option maxRecDepth 100000 in
theorem fFL_1_36 : flok (7, 19, 7, 2) := ⟨(RX7, TX7, 5), rfl, by decide, by decide, gm 303 (by decide +kernel)⟩
set_option maxRecDepth 100000 in
theorem fFL_1_37 : flok (7, 22, 7, 3) := ⟨(RX7, TX7, 5), rfl, by decide, by decide, gm 304 (by decide +kernel)⟩
set_option maxRecDepth 100000 in
theorem fFL_1_38 : flok (7, 25, 7, 4) := ⟨(RX7, TX7, 5), rfl, by decide, by decide, gm 305 (by decide +kernel)⟩
set_option maxRecDepth 100000 in
theorem fFL_1_39 : flok (8, 9, 8, 0) := ⟨(RX8, TX8, 4), rfl, by decide, by decide, gm 270 (by decide +kernel)⟩
set_option maxRecDepth 100000 in
theorem fFL_c1 : ∀ t ∈ ([(4, 19, 4, 2), (4, 22, 4, 3), (4, 26, 4, 4), (4, 29, 4, 5), (4, 32, 4, 6), (4, 35, 4, 7), (4, 38, 4, 8), (5, 9, 5, 0), (5, 15, 5, 1), (5, 19, 5, 2), (5, 22, 5, 3), (5, 26, 5, 4), (5, 30, 5, 5), (5, 33, 5, 6), (5, 36, 9, 3), (5, 41, 7, 0), (5, 44, 9, 8), (5, 61, 9, 7), (5, 68, 9, 9), (5, 69, 9, 10), (6, 9, 6, 0), (6, 15, 6, 1), (6, 19, 6, 2), (6, 23, 6, 3), (6, 26, 6, 4), (6, 29, 6, 5), (6, 32, 6, 6), (6, 35, 6, 7), (6, 38, 6, 8), (6, 41, 9, 3), (6, 47, 7, 0), (6, 56, 9, 6), (6, 79, 9, 15), (6, 86, 9, 5), (7, 9, 7, 0), (7, 15, 7, 1), (7, 19, 7, 2), (7, 22, 7, 3), (7, 25, 7, 4), (8, 9, 8, 0)] : List (Nat × Nat × Nat × Nat)), flok t := List.forall_mem_cons.mpr ⟨fFL_1_0, List.forall_mem_cons.mpr ⟨fFL_1_1, List.forall_mem_cons.mpr ⟨fFL_1_2, List.forall_mem_cons.mpr ⟨fFL_1_3, List.forall_mem_cons.mpr ⟨fFL_1_4, List.forall_mem_cons.mpr ⟨fFL_1_5, List.forall_mem_cons.mpr ⟨fFL_1_6, List.forall_mem_cons.mpr ⟨fFL_1_7, List.forall_mem_cons.mpr ⟨fFL_1_8, List.forall_mem_cons.mpr ⟨fFL_1_9, List.forall_mem_cons.mpr ⟨fFL_1_10, List.forall_mem_cons.mpr ⟨fFL_1_11, List.forall_mem_cons.mpr ⟨fFL_1_12, List.forall_mem_cons.mpr ⟨fFL_1_13, List.forall_mem_cons.mpr ⟨fFL_1_14, List.forall_mem_cons.mpr ⟨fFL_1_15, List.forall_mem_cons.mpr ⟨fFL_1_16, List.forall_mem_cons.mpr ⟨fFL_1_17, List.forall_mem_cons.mpr ⟨fFL_1_18, List.forall_mem_cons.mpr ⟨fFL_1_19, List.forall_mem_cons.mpr ⟨fFL_1_20, List.forall_mem_cons.mpr ⟨fFL_1_21, List.forall_mem_cons.mpr ⟨fFL_1_22, List.forall_mem_cons.mpr ⟨fFL_1_23, List.forall_mem_cons.mpr ⟨fFL_1_24, List.forall_mem_cons.mpr ⟨fFL_1_25, List.forall_mem_cons.mpr ⟨fFL_1_26, List.forall_mem_cons.mpr ⟨fFL_1_27, List.forall_mem_cons.mpr ⟨fFL_1_28, List.forall_mem_cons.mpr ⟨fFL_1_29, List.forall_mem_cons.mpr ⟨fFL_1_30, List.forall_mem_cons.mpr ⟨fFL_1_31, List.forall_mem_cons.mpr ⟨fFL_1_32, List.forall_mem_cons.mpr ⟨fFL_1_33, List.forall_mem_cons.mpr ⟨fFL_1_34, List.forall_mem_cons.mpr ⟨fFL_1_35, List.forall_mem_cons.mpr ⟨fFL_1_36, List.forall_mem_cons.mpr ⟨fFL_1_37, List.forall_mem_cons.mpr ⟨fFL_1_38, List.forall_mem_cons.mpr ⟨fFL_1_39, (fun _ h => by cases h)⟩⟩⟩⟩⟩⟩⟩⟩⟩⟩⟩⟩⟩⟩⟩⟩⟩⟩⟩⟩⟩⟩⟩⟩⟩⟩⟩⟩⟩⟩⟩⟩⟩⟩⟩⟩⟩⟩⟩⟩
set_option maxRecDepth 100000 in
theorem fFL_2_0 : flok (8, 15, 8, 1) := ⟨(RX8, TX8, 4), rfl, by decide, by decide, gm 271 (by decide +kernel)⟩
set_option maxRecDepth 100000 in
theorem fFL_2_1 : flok (8, 18, 8, 3) := ⟨(RX8, TX8, 4), rfl, by decide, by decide, gm 274 (by decide +kernel)⟩
set_option maxRecDepth 100000 in
theorem fFL_2_2 : flok (8, 21, 8, 2) := ⟨(RX8, TX8, 4), rfl, by decide, by decide, gm 273 (by decide +kernel)⟩
set_option maxRecDepth 100000 in
theorem fFL_2_3 : flok (8, 81, 9, 15) := ⟨(RX9, TX9, 16), rfl, by decide, by decide, gm 420 (by decide +kernel)⟩
set_option maxRecDepth 100000 in
theorem fFL_2_4 : flok (8, 99, 9, 0) := ⟨(RX9, TX9, 16), rfl, by decide, by decide, gm 366 (by decide +kernel)⟩
set_option maxRecDepth 100000 in
theorem fFL_2_5 : flok (8, 102, 9, 1) := ⟨(RX9, TX9, 16), rfl, by decide, by decide, gm 369 (by decide +kernel)⟩
set_option maxRecDepth 100000 in
theorem fFL_2_6 : flok (8, 106, 9, 2) := ⟨(RX9, TX9, 16), rfl, by decide, by decide, gm 371 (by decide +kernel)⟩
set_option maxRecDepth 100000 in
theorem fFL_2_7 : flok (8, 120, 9, 3) := ⟨(RX9, TX9, 16), rfl, by decide, by decide, gm 376 (by decide +kernel)⟩
set_option maxRecDepth 100000 in
theorem fFL_2_8 : flok (8, 133, 9, 4) := ⟨(RX9, TX9, 16), rfl, by decide, by decide, gm 379 (by decide +kernel)⟩
set_option maxRecDepth 100000 in
theorem fFL_2_9 : flok (8, 146, 9, 5) := ⟨(RX9, TX9, 16), rfl, by decide, by decide, gm 383 (by decide +kernel)⟩
set_option maxRecDepth 100000 in
theorem fFL_2_10 : flok (8, 149, 9, 6) := ⟨(RX9, TX9, 16), rfl, by decide, by decide, gm 387 (by decide +kernel)⟩
set_option maxRecDepth 100000 in
theorem fFL_2_11 : flok (8, 152, 9, 7) := ⟨(RX9, TX9, 16), rfl, by decide, by decide, gm 391 (by decide +kernel)⟩
set_option maxRecDepth 100000 in
theorem fFL_2_12 : flok (8, 155, 9, 8) := ⟨(RX9, TX9, 16), rfl, by decide, by decide, gm 396 (by decide +kernel)⟩
set_option maxRecDepth 100000 in
theorem fFL_2_13 : flok (8, 158, 9, 9) := ⟨(RX9, TX9, 16), rfl, by decide, by decide, gm 401 (by decide +kernel)⟩
set_option maxRecDepth 100000 in
theorem fFL_2_14 : flok (8, 161, 9, 10) := ⟨(RX9, TX9, 16), rfl, by decide, by decide, gm 405 (by decide +kernel)⟩
set_option maxRecDepth 100000 in
theorem fFL_2_15 : flok (8, 164, 9, 11) := ⟨(RX9, TX9, 16), rfl, by decide, by decide, gm 408 (by decide +kernel)⟩
set_option maxRecDepth 100000 in
theorem fFL_2_16 : flok (8, 167, 9, 12) := ⟨(RX9, TX9, 16), rfl, by decide, by decide, gm 411 (by decide +kernel)⟩
set_option maxRecDepth 100000 in
theorem fFL_2_17 : flok (8, 173, 9, 13) := ⟨(RX9, TX9, 16), rfl, by decide, by decide, gm 414 (by decide +kernel)⟩
set_option maxRecDepth 100000 in
theorem fFL_2_18 : flok (8, 179, 9, 14) := ⟨(RX9, TX9, 16), rfl, by decide, by decide, gm 417 (by decide +kernel)⟩
set_option maxRecDepth 100000 in
theorem fFL_2_19 : flok (9, 9, 9, 0) := ⟨(RX9, TX9, 16), rfl, by decide, by decide, gm 365 (by decide +kernel)⟩
set_option maxRecDepth 100000 in
theorem fFL_2_20 : flok (9, 15, 9, 1) := ⟨(RX9, TX9, 16), rfl, by decide, by decide, gm 368 (by decide +kernel)⟩
set_option maxRecDepth 100000 in
theorem fFL_2_21 : flok (9, 19, 9, 2) := ⟨(RX9, TX9, 16), rfl, by decide, by decide, gm 370 (by decide +kernel)⟩
set_option maxRecDepth 100000 in
theorem fFL_2_22 : flok (9, 26, 9, 3) := ⟨(RX9, TX9, 16), rfl, by decide, by decide, gm 372 (by decide +kernel)⟩
set_option maxRecDepth 100000 in
theorem fFL_2_23 : flok (9, 33, 9, 4) := ⟨(RX9, TX9, 16), rfl, by decide, by decide, gm 378 (by decide +kernel)⟩
set_option maxRecDepth 100000 in
theorem fFL_2_24 : flok (9, 37, 9, 5) := ⟨(RX9, TX9, 16), rfl, by decide, by decide, gm 381 (by decide +kernel)⟩
set_option maxRecDepth 100000 in
theorem fFL_2_25 : flok (9, 40, 9, 6) := ⟨(RX9, TX9, 16), rfl, by decide, by decide, gm 385 (by decide +kernel)⟩
set_option maxRecDepth 100000 in
theorem fFL_2_26 : flok (9, 43, 9, 7) := ⟨(RX9, TX9, 16), rfl, by decide, by decide, gm 388 (by decide +kernel)⟩
set_option maxRecDepth 100000 in
theorem fFL_2_27 : flok (9, 46, 9, 8) := ⟨(RX9, TX9, 16), rfl, by decide, by decide, gm 393 (by decide +kernel)⟩
set_option maxRecDepth 100000 in
theorem fFL_2_28 : flok (9, 49, 9, 9) := ⟨(RX9, TX9, 16), rfl, by decide, by decide, gm 398 (by decide +kernel)⟩
set_option maxRecDepth 100000 in
theorem fFL_2_29 : flok (9, 52, 9, 10) := ⟨(RX9, TX9, 16), rfl, by decide, by decide, gm 403 (by decide +kernel)⟩
set_option maxRecDepth 100000 in
theorem fFL_2_30 : flok (9, 55, 9, 11) := ⟨(RX9, TX9, 16), rfl, by decide, by decide, gm 407 (by decide +kernel)⟩
set_option maxRecDepth 100000 in
theorem fFL_2_31 : flok (9, 58, 9, 12) := ⟨(RX9, TX9, 16), rfl, by decide, by decide, gm 410 (by decide +kernel)⟩
set_option maxRecDepth 100000 in
theorem fFL_2_32 : flok (9, 61, 9, 13) := ⟨(RX9, TX9, 16), rfl, by decide, by decide, gm 413 (by decide +kernel)⟩
set_option maxRecDepth 100000 in
theorem fFL_2_33 : flok (9, 67, 9, 14) := ⟨(RX9, TX9, 16), rfl, by decide, by decide, gm 416 (by decide +kernel)⟩
set_option maxRecDepth 100000 in
theorem fFL_2_34 : flok (9, 71, 9, 15) := ⟨(RX9, TX9, 16), rfl, by decide, by decide, gm 419 (by decide +kernel)⟩
set_option maxRecDepth 100000 in
theorem fFL_2_35 : flok (9, 74, 7, 0) := ⟨(RX7, TX7, 5), rfl, by decide, by decide, gm 299 (by decide +kernel)⟩
set_option maxRecDepth 100000 in
theorem fFL_2_36 : flok (10, 9, 10, 0) := ⟨(RX10, TX10, 3), rfl, by decide, by decide, gm 507 (by decide +kernel)⟩
set_option maxRecDepth 100000 in
theorem fFL_2_37 : flok (10, 15, 10, 1) := ⟨(RX10, TX10, 3), rfl, by decide, by decide, gm 509 (by decide +kernel)⟩
set_option maxRecDepth 100000 in
theorem fFL_2_38 : flok (10, 19, 10, 2) := ⟨(RX10, TX10, 3), rfl, by decide, by decide, gm 511 (by decide +kernel)⟩
set_option maxRecDepth 100000 in
theorem fFL_2_39 : flok (10, 26, 3, 0) := ⟨(RX3, TX3, 3), rfl, by decide, by decide, gm 324 (by decide +kernel)⟩
set_option maxRecDepth 100000 in
theorem fFL_c2 : ∀ t ∈ ([(8, 15, 8, 1), (8, 18, 8, 3), (8, 21, 8, 2), (8, 81, 9, 15), (8, 99, 9, 0), (8, 102, 9, 1), (8, 106, 9, 2), (8, 120, 9, 3), (8, 133, 9, 4), (8, 146, 9, 5), (8, 149, 9, 6), (8, 152, 9, 7), (8, 155, 9, 8), (8, 158, 9, 9), (8, 161, 9, 10), (8, 164, 9, 11), (8, 167, 9, 12), (8, 173, 9, 13), (8, 179, 9, 14), (9, 9, 9, 0), (9, 15, 9, 1), (9, 19, 9, 2), (9, 26, 9, 3), (9, 33, 9, 4), (9, 37, 9, 5), (9, 40, 9, 6), (9, 43, 9, 7), (9, 46, 9, 8), (9, 49, 9, 9), (9, 52, 9, 10), (9, 55, 9, 11), (9, 58, 9, 12), (9, 61, 9, 13), (9, 67, 9, 14), (9, 71, 9, 15), (9, 74, 7, 0), (10, 9, 10, 0), (10, 15, 10, 1), (10, 19, 10, 2), (10, 26, 3, 0)] : List (Nat × Nat × Nat × Nat)), flok t := List.forall_mem_cons.mpr ⟨fFL_2_0, List.forall_mem_cons.mpr ⟨fFL_2_1, List.forall_mem_cons.mpr ⟨fFL_2_2, List.forall_mem_cons.mpr ⟨fFL_2_3, List.forall_mem_cons.mpr ⟨fFL_2_4, List.forall_mem_cons.mpr ⟨fFL_2_5, List.forall_mem_cons.mpr ⟨fFL_2_6, List.forall_mem_cons.mpr ⟨fFL_2_7, List.forall_mem_cons.mpr ⟨fFL_2_8, List.forall_mem_cons.mpr ⟨fFL_2_9, List.forall_mem_cons.mpr ⟨fFL_2_10, List.forall_mem_cons.mpr ⟨fFL_2_11, List.forall_mem_cons.mpr ⟨fFL_2_12, List.forall_mem_cons.mpr ⟨fFL_2_13, List.forall_mem_cons.mpr ⟨fFL_2_14, List.forall_mem_cons.mpr ⟨fFL_2_15, List.forall_mem_cons.mpr ⟨fFL_2_16, List.forall_mem_cons.mpr ⟨fFL_2_17, List.forall_mem_cons.mpr ⟨fFL_2_18, List.forall_mem_cons.mpr ⟨fFL_2_19, List.forall_mem_cons.mpr ⟨fFL_2_20, List.forall_mem_cons.mpr ⟨fFL_2_21, List.forall_mem_cons.mpr ⟨fFL_2_22, List.forall_mem_cons.mpr ⟨fFL_2_23, List.forall_mem_cons.mpr ⟨fFL_2_24, List.forall_mem_cons.mpr ⟨fFL_2_25, List.forall_mem_cons.mpr ⟨fFL_2_26, List.forall_mem_cons.mpr ⟨fFL_2_27, List.forall_mem_cons.mpr ⟨fFL_2_28, List.forall_mem_cons.mpr ⟨fFL_2_29, List.forall_mem_cons.mpr ⟨fFL_2_30, List.forall_mem_cons.mpr ⟨fFL_2_31, List.forall_mem_cons.mpr ⟨fFL_2_32, List.forall_mem_cons.mpr ⟨fFL_2_33, List.forall_mem_cons.mpr ⟨fFL_2_34, List.forall_mem_cons.mpr ⟨fFL_2_35, List.forall_mem_cons.mpr ⟨fFL_2_36, List.forall_mem_cons.mpr ⟨fFL_2_37, List.forall_mem_cons.mpr ⟨fFL_2_38, List.forall_mem_cons.mpr ⟨fFL_2_39, (fun _ h => by cases h)⟩⟩⟩⟩⟩⟩⟩⟩⟩⟩⟩⟩⟩⟩⟩⟩⟩⟩⟩⟩⟩⟩⟩⟩⟩⟩⟩⟩⟩⟩⟩⟩⟩⟩⟩⟩⟩⟩⟩⟩
set_option maxRecDepth 100000 in
theorem fFL_3_0 : flok (10, 30, 3, 1) := ⟨(RX3, TX3, 3), rfl, by decide, by decide, gm 328 (by decide +kernel)⟩
set_option maxRecDepth 100000 in
theorem fFL_3_1 : flok (11, 9, 11, 0) := ⟨(RX11, TX11, 20), rfl, by decide, by decide, gm 640 (by decide +kernel)⟩
set_option maxRecDepth 100000 in
theorem fFL_3_2 : flok (11, 13, 11, 1) := ⟨(RX11, TX11, 20), rfl, by decide, by decide, gm 641 (by decide +kernel)⟩
set_option maxRecDepth 100000 in
theorem fFL_3_3 : flok (11, 17, 11, 2) := ⟨(RX11, TX11, 20), rfl, by decide, by decide, gm 642 (by decide +kernel)⟩
set_option maxRecDepth 100000 in
theorem fFL_3_4 : flok (11, 23, 11, 3) := ⟨(RX11, TX11, 20), rfl, by decide, by decide, gm 643 (by decide +kernel)⟩
set_option maxRecDepth 100000 in
theorem fFL_3_5 : flok (11, 32, 11, 4) := ⟨(RX11, TX11, 20), rfl, by decide, by decide, gm 644 (by decide +kernel)⟩
set_option maxRecDepth 100000 in
theorem fFL_3_6 : flok (11, 39, 11, 5) := ⟨(RX11, TX11, 20), rfl, by decide, by decide, gm 645 (by decide +kernel)⟩
set_option maxRecDepth 100000 in
theorem fFL_3_7 : flok (11, 43, 11, 6) := ⟨(RX11, TX11, 20), rfl, by decide, by decide, gm 646 (by decide +kernel)⟩
set_option maxRecDepth 100000 in
theorem fFL_3_8 : flok (11, 49, 11, 7) := ⟨(RX11, TX11, 20), rfl, by decide, by decide, gm 647 (by decide +kernel)⟩
set_option maxRecDepth 100000 in
theorem fFL_3_9 : flok (11, 53, 11, 8) := ⟨(RX11, TX11, 20), rfl, by decide, by decide, gm 648 (by decide +kernel)⟩
set_option maxRecDepth 100000 in
theorem fFL_3_10 : flok (11, 56, 11, 9) := ⟨(RX11, TX11, 20), rfl, by decide, by decide, gm 649 (by decide +kernel)⟩
set_option maxRecDepth 100000 in
theorem fFL_3_11 : flok (11, 60, 11, 10) := ⟨(RX11, TX11, 20), rfl, by decide, by decide, gm 650 (by decide +kernel)⟩
set_option maxRecDepth 100000 in
theorem fFL_3_12 : flok (11, 63, 11, 11) := ⟨(RX11, TX11, 20), rfl, by decide, by decide, gm 651 (by decide +kernel)⟩
set_option maxRecDepth 100000 in
theorem fFL_3_13 : flok (11, 66, 11, 12) := ⟨(RX11, TX11, 20), rfl, by decide, by decide, gm 652 (by decide +kernel)⟩
set_option maxRecDepth 100000 in
theorem fFL_3_14 : flok (11, 69, 11, 13) := ⟨(RX11, TX11, 20), rfl, by decide, by decide, gm 653 (by decide +kernel)⟩
set_option maxRecDepth 100000 in
theorem fFL_3_15 : flok (11, 75, 11, 14) := ⟨(RX11, TX11, 20), rfl, by decide, by decide, gm 654 (by decide +kernel)⟩
set_option maxRecDepth 100000 in
theorem fFL_3_16 : flok (11, 82, 11, 15) := ⟨(RX11, TX11, 20), rfl, by decide, by decide, gm 655 (by decide +kernel)⟩
set_option maxRecDepth 100000 in
theorem fFL_3_17 : flok (11, 89, 11, 16) := ⟨(RX11, TX11, 20), rfl, by decide, by decide, gm 656 (by decide +kernel)⟩
set_option maxRecDepth 100000 in
theorem fFL_3_18 : flok (11, 96, 11, 17) := ⟨(RX11, TX11, 20), rfl, by decide, by decide, gm 657 (by decide +kernel)⟩
set_option maxRecDepth 100000 in
theorem fFL_3_19 : flok (11, 100, 11, 18) := ⟨(RX11, TX11, 20), rfl, by decide, by decide, gm 658 (by decide +kernel)⟩
set_option maxRecDepth 100000 in
theorem fFL_3_20 : flok (11, 104, 11, 19) := ⟨(RX11, TX11, 20), rfl, by decide, by decide, gm 659 (by decide +kernel)⟩
set_option maxRecDepth 100000 in
theorem fFL_3_21 : flok (11, 131, 4, 5) := ⟨(RX4, TX4, 9), rfl, by decide, by decide, gm 238 (by decide +kernel)⟩
set_option maxRecDepth 100000 in
theorem fFL_3_22 : flok (11, 136, 8, 1) := ⟨(RX8, TX8, 4), rfl, by decide, by decide, gm 272 (by decide +kernel)⟩
set_option maxRecDepth 100000 in
theorem fFL_3_23 : flok (11, 149, 5, 0) := ⟨(RX5, TX5, 7), rfl, by decide, by decide, gm 555 (by decide +kernel)⟩
set_option maxRecDepth 100000 in
theorem fFL_3_24 : flok (11, 153, 2, 0) := ⟨(RX2, TX2, 13), rfl, by decide, by decide, gm 584 (by decide +kernel)⟩
set_option maxRecDepth 100000 in
theorem fFL_3_25 : flok (11, 154, 9, 5) := ⟨(RX9, TX9, 16), rfl, by decide, by decide, gm 384 (by decide +kernel)⟩
set_option maxRecDepth 100000 in
theorem fFL_3_26 : flok (11, 157, 9, 3) := ⟨(RX9, TX9, 16), rfl, by decide, by decide, gm 377 (by decide +kernel)⟩
set_option maxRecDepth 100000 in
theorem fFL_3_27 : flok (11, 161, 7, 0) := ⟨(RX7, TX7, 5), rfl, by decide, by decide, gm 301 (by decide +kernel)⟩
set_option maxRecDepth 100000 in
theorem fFL_3_28 : flok (11, 166, 9, 7) := ⟨(RX9, TX9, 16), rfl, by decide, by decide, gm 392 (by decide +kernel)⟩
set_option maxRecDepth 100000 in
theorem fFL_3_29 : flok (11, 173, 6, 1) := ⟨(RX6, TX6, 9), rfl, by decide, by decide, gm 466 (by decide +kernel)⟩
set_option maxRecDepth 100000 in
theorem fFL_3_30 : flok (11, 191, 6, 2) := ⟨(RX6, TX6, 9), rfl, by decide, by decide, gm 468 (by decide +kernel)⟩
set_option maxRecDepth 100000 in
theorem fFL_3_31 : flok (11, 201, 6, 0) := ⟨(RX6, TX6, 9), rfl, by decide, by decide, gm 463 (by decide +kernel)⟩
set_option maxRecDepth 100000 in
theorem fFL_3_32 : flok (11, 210, 9, 4) := ⟨(RX9, TX9, 16), rfl, by decide, by decide, gm 380 (by decide +kernel)⟩
set_option maxRecDepth 100000 in
theorem fFL_3_33 : flok (11, 218, 10, 0) := ⟨(RX10, TX10, 3), rfl, by decide, by decide, gm 508 (by decide +kernel)⟩
set_option maxRecDepth 100000 in
theorem fFL_3_34 : flok (11, 219, 10, 1) := ⟨(RX10, TX10, 3), rfl, by decide, by decide, gm 510 (by decide +kernel)⟩
set_option maxRecDepth 100000 in
theorem fFL_3_35 : flok (11, 232, 6, 3) := ⟨(RX6, TX6, 9), rfl, by decide, by decide, gm 470 (by decide +kernel)⟩
set_option maxRecDepth 100000 in
theorem fFL_3_36 : flok (11, 235, 9, 14) := ⟨(RX9, TX9, 16), rfl, by decide, by decide, gm 418 (by decide +kernel)⟩
set_option maxRecDepth 100000 in
theorem fFL_3_37 : flok (11, 239, 0, 0) := ⟨(RX0, TX0, 6), rfl, by decide, by decide, gm 346 (by decide +kernel)⟩
set_option maxRecDepth 100000 in
theorem fFL_3_38 : flok (11, 257, 6, 6) := ⟨(RX6, TX6, 9), rfl, by decide, by decide, gm 476 (by decide +kernel)⟩
set_option maxRecDepth 100000 in
theorem fFL_3_39 : flok (11, 271, 6, 5) := ⟨(RX6, TX6, 9), rfl, by decide, by decide, gm 474 (by decide +kernel)⟩
set_option maxRecDepth 100000 in
theorem fFL_c3 : ∀ t ∈ ([(10, 30, 3, 1), (11, 9, 11, 0), (11, 13, 11, 1), (11, 17, 11, 2), (11, 23, 11, 3), (11, 32, 11, 4), (11, 39, 11, 5), (11, 43, 11, 6), (11, 49, 11, 7), (11, 53, 11, 8), (11, 56, 11, 9), (11, 60, 11, 10), (11, 63, 11, 11), (11, 66, 11, 12), (11, 69, 11, 13), (11, 75, 11, 14), (11, 82, 11, 15), (11, 89, 11, 16), (11, 96, 11, 17), (11, 100, 11, 18), (11, 104, 11, 19), (11, 131, 4, 5), (11, 136, 8, 1), (11, 149, 5, 0), (11, 153, 2, 0), (11, 154, 9, 5), (11, 157, 9, 3), (11, 161, 7, 0), (11, 166, 9, 7), (11, 173, 6, 1), (11, 191, 6, 2), (11, 201, 6, 0), (11, 210, 9, 4), (11, 218, 10, 0), (11, 219, 10, 1), (11, 232, 6, 3), (11, 235, 9, 14), (11, 239, 0, 0), (11, 257, 6, 6), (11, 271, 6, 5)] : List (Nat × Nat × Nat × Nat)), flok t := List.forall_mem_cons.mpr ⟨fFL_3_0, List.forall_mem_cons.mpr ⟨fFL_3_1, List.forall_mem_cons.mpr ⟨fFL_3_2, List.forall_mem_cons.mpr ⟨fFL_3_3, List.forall_mem_cons.mpr ⟨fFL_3_4, List.forall_mem_cons.mpr ⟨fFL_3_5, List.forall_mem_cons.mpr ⟨fFL_3_6, List.forall_mem_cons.mpr ⟨fFL_3_7, List.forall_mem_cons.mpr ⟨fFL_3_8, List.forall_mem_cons.mpr ⟨fFL_3_9, List.forall_mem_cons.mpr ⟨fFL_3_10, List.forall_mem_cons.mpr ⟨fFL_3_11, List.forall_mem_cons.mpr ⟨fFL_3_12, List.forall_mem_cons.mpr ⟨fFL_3_13, List.forall_mem_cons.mpr ⟨fFL_3_14, List.forall_mem_cons.mpr ⟨fFL_3_15, List.forall_mem_cons.mpr ⟨fFL_3_16, List.forall_mem_cons.mpr ⟨fFL_3_17, List.forall_mem_cons.mpr ⟨fFL_3_18, List.forall_mem_cons.mpr ⟨fFL_3_19, List.forall_mem_cons.mpr ⟨fFL_3_20, List.forall_mem_cons.mpr ⟨fFL_3_21, List.forall_mem_cons.mpr ⟨fFL_3_22, List.forall_mem_cons.mpr ⟨fFL_3_23, List.forall_mem_cons.mpr ⟨fFL_3_24, List.forall_mem_cons.mpr ⟨fFL_3_25, List.forall_mem_cons.mpr ⟨fFL_3_26, List.forall_mem_cons.mpr ⟨fFL_3_27, List.forall_mem_cons.mpr ⟨fFL_3_28, List.forall_mem_cons.mpr ⟨fFL_3_29, List.forall_mem_cons.mpr ⟨fFL_3_30, List.forall_mem_cons.mpr ⟨fFL_3_31, List.forall_mem_cons.mpr ⟨fFL_3_32, List.forall_mem_cons.mpr ⟨fFL_3_33, List.forall_mem_cons.mpr ⟨fFL_3_34, List.forall_mem_cons.mpr ⟨fFL_3_35, List.forall_mem_cons.mpr ⟨fFL_3_36, List.forall_mem_cons.mpr ⟨fFL_3_37, List.forall_mem_cons.mpr ⟨fFL_3_38, List.forall_mem_cons.mpr ⟨fFL_3_39, (fun _ h => by cases h)⟩⟩⟩⟩⟩⟩⟩⟩⟩⟩⟩⟩⟩⟩⟩⟩⟩⟩⟩⟩⟩⟩⟩⟩⟩⟩⟩⟩⟩⟩⟩⟩⟩⟩⟩⟩⟩⟩⟩⟩
set_option maxRecDepth 100000 in
theorem fFL_4_0 : flok (11, 277, 6, 4) := ⟨(RX6, TX6, 9), rfl, by decide, by decide, gm 472 (by decide +kernel)⟩
set_option maxRecDepth 100000 in
theorem fFL_4_1 : flok (11, 280, 3, 2) := ⟨(RX3, TX3, 3), rfl, by decide, by decide, gm 331 (by decide +kernel)⟩
set_option maxRecDepth 100000 in
theorem fFL_4_2 : flok (11, 285, 9, 11) := ⟨(RX9, TX9, 16), rfl, by decide, by decide, gm 409 (by decide +kernel)⟩
set_option maxRecDepth 100000 in
theorem fFL_4_3 : flok (11, 288, 6, 8) := ⟨(RX6, TX6, 9), rfl, by decide, by decide, gm 480 (by decide +kernel)⟩
set_option maxRecDepth 100000 in
theorem fFL_4_4 : flok (11, 294, 9, 13) := ⟨(RX9, TX9, 16), rfl, by decide, by decide, gm 415 (by decide +kernel)⟩
set_option maxRecDepth 100000 in
theorem fFL_4_5 : flok (11, 297, 9, 12) := ⟨(RX9, TX9, 16), rfl, by decide, by decide, gm 412 (by decide +kernel)⟩
set_option maxRecDepth 100000 in
theorem fFL_4_6 : flok (11, 307, 6, 7) := ⟨(RX6, TX6, 9), rfl, by decide, by decide, gm 478 (by decide +kernel)⟩
set_option maxRecDepth 100000 in
theorem fFL_4_7 : flok (11, 318, 10, 2) := ⟨(RX10, TX10, 3), rfl, by decide, by decide, gm 512 (by decide +kernel)⟩
set_option maxRecDepth 100000 in
theorem fFL_4_8 : flok (11, 324, 3, 0) := ⟨(RX3, TX3, 3), rfl, by decide, by decide, gm 326 (by decide +kernel)⟩
set_option maxRecDepth 100000 in
theorem fFL_4_9 : flok (11, 341, 9, 10) := ⟨(RX9, TX9, 16), rfl, by decide, by decide, gm 406 (by decide +kernel)⟩
set_option maxRecDepth 100000 in
theorem fFL_4_10 : flok (11, 344, 9, 8) := ⟨(RX9, TX9, 16), rfl, by decide, by decide, gm 397 (by decide +kernel)⟩
set_option maxRecDepth 100000 in
theorem fFL_4_11 : flok (11, 347, 9, 9) := ⟨(RX9, TX9, 16), rfl, by decide, by decide, gm 402 (by decide +kernel)⟩
set_option maxRecDepth 100000 in
theorem fFL_4_12 : flok (11, 357, 2, 1) := ⟨(RX2, TX2, 13), rfl, by decide, by decide, gm 586 (by decide +kernel)⟩
set_option maxRecDepth 100000 in
theorem fFL_4_13 : flok (11, 360, 2, 2) := ⟨(RX2, TX2, 13), rfl, by decide, by decide, gm 588 (by decide +kernel)⟩
set_option maxRecDepth 100000 in
theorem fFL_4_14 : flok (11, 367, 2, 3) := ⟨(RX2, TX2, 13), rfl, by decide, by decide, gm 590 (by decide +kernel)⟩
set_option maxRecDepth 100000 in
theorem fFL_4_15 : flok (11, 418, 9, 0) := ⟨(RX9, TX9, 16), rfl, by decide, by decide, gm 367 (by decide +kernel)⟩
set_option maxRecDepth 100000 in
theorem fFL_4_16 : flok (12, 13, 12, 1) := ⟨(RX12, TX12, 85), rfl, by decide, by decide, gm 1522 (by decide +kernel)⟩
set_option maxRecDepth 100000 in
theorem fFL_4_17 : flok (12, 17, 12, 3) := ⟨(RX12, TX12, 85), rfl, by decide, by decide, gm 1524 (by decide +kernel)⟩
set_option maxRecDepth 100000 in
theorem fFL_4_18 : flok (12, 20, 12, 5) := ⟨(RX12, TX12, 85), rfl, by decide, by decide, gm 1526 (by decide +kernel)⟩
set_option maxRecDepth 100000 in
theorem fFL_4_19 : flok (12, 24, 12, 6) := ⟨(RX12, TX12, 85), rfl, by decide, by decide, gm 1527 (by decide +kernel)⟩
set_option maxRecDepth 100000 in
theorem fFL_4_20 : flok (12, 27, 12, 7) := ⟨(RX12, TX12, 85), rfl, by decide, by decide, gm 1528 (by decide +kernel)⟩
set_option maxRecDepth 100000 in
theorem fFL_4_21 : flok (12, 30, 12, 8) := ⟨(RX12, TX12, 85), rfl, by decide, by decide, gm 1529 (by decide +kernel)⟩
set_option maxRecDepth 100000 in
theorem fFL_4_22 : flok (12, 34, 12, 9) := ⟨(RX12, TX12, 85), rfl, by decide, by decide, gm 1530 (by decide +kernel)⟩
set_option maxRecDepth 100000 in
theorem fFL_4_23 : flok (12, 37, 12, 17) := ⟨(RX12, TX12, 85), rfl, by decide, by decide, gm 1538 (by decide +kernel)⟩
set_option maxRecDepth 100000 in
theorem fFL_4_24 : flok (12, 40, 12, 20) := ⟨(RX12, TX12, 85), rfl, by decide, by decide, gm 1541 (by decide +kernel)⟩
set_option maxRecDepth 100000 in
theorem fFL_4_25 : flok (12, 43, 12, 21) := ⟨(RX12, TX12, 85), rfl, by decide, by decide, gm 1542 (by decide +kernel)⟩
set_option maxRecDepth 100000 in
theorem fFL_4_26 : flok (12, 46, 12, 22) := ⟨(RX12, TX12, 85), rfl, by decide, by decide, gm 1543 (by decide +kernel)⟩
set_option maxRecDepth 100000 in
theorem fFL_4_27 : flok (12, 49, 12, 23) := ⟨(RX12, TX12, 85), rfl, by decide, by decide, gm 1544 (by decide +kernel)⟩
set_option maxRecDepth 100000 in
theorem fFL_4_28 : flok (12, 52, 12, 24) := ⟨(RX12, TX12, 85), rfl, by decide, by decide, gm 1545 (by decide +kernel)⟩
set_option maxRecDepth 100000 in
theorem fFL_4_29 : flok (12, 55, 12, 25) := ⟨(RX12, TX12, 85), rfl, by decide, by decide, gm 1546 (by decide +kernel)⟩
set_option maxRecDepth 100000 in
theorem fFL_4_30 : flok (12, 58, 12, 26) := ⟨(RX12, TX12, 85), rfl, by decide, by decide, gm 1547 (by decide +kernel)⟩
set_option maxRecDepth 100000 in
theorem fFL_4_31 : flok (12, 61, 12, 27) := ⟨(RX12, TX12, 85), rfl, by decide, by decide, gm 1548 (by decide +kernel)⟩
set_option maxRecDepth 100000 in
theorem fFL_4_32 : flok (12, 64, 12, 28) := ⟨(RX12, TX12, 85), rfl, by decide, by decide, gm 1549 (by decide +kernel)⟩
set_option maxRecDepth 100000 in
theorem fFL_4_33 : flok (12, 67, 12, 29) := ⟨(RX12, TX12, 85), rfl, by decide, by decide, gm 1550 (by decide +kernel)⟩
set_option maxRecDepth 100000 in
theorem fFL_4_34 : flok (12, 70, 12, 30) := ⟨(RX12, TX12, 85), rfl, by decide, by decide, gm 1551 (by decide +kernel)⟩
set_option maxRecDepth 100000 in
theorem fFL_4_35 : flok (12, 73, 12, 31) := ⟨(RX12, TX12, 85), rfl, by decide, by decide, gm 1552 (by decide +kernel)⟩
set_option maxRecDepth 100000 in
theorem fFL_4_36 : flok (12, 76, 12, 32) := ⟨(RX12, TX12, 85), rfl, by decide, by decide, gm 1553 (by decide +kernel)⟩
set_option maxRecDepth 100000 in
theorem fFL_4_37 : flok (12, 79, 12, 33) := ⟨(RX12, TX12, 85), rfl, by decide, by decide, gm 1554 (by decide +kernel)⟩
set_option maxRecDepth 100000 in
theorem fFL_4_38 : flok (12, 82, 12, 34) := ⟨(RX12, TX12, 85), rfl, by decide, by decide, gm 1555 (by decide +kernel)⟩
set_option maxRecDepth 100000 in
theorem fFL_4_39 : flok (12, 85, 12, 35) := ⟨(RX12, TX12, 85), rfl, by decide, by decide, gm 1556 (by decide +kernel)⟩
set_option maxRecDepth 100000 in
theorem fFL_c4 : ∀ t ∈ ([(11, 277, 6, 4), (11, 280, 3, 2), (11, 285, 9, 11), (11, 288, 6, 8), (11, 294, 9, 13), (11, 297, 9, 12), (11, 307, 6, 7), (11, 318, 10, 2), (11, 324, 3, 0), (11, 341, 9, 10), (11, 344, 9, 8), (11, 347, 9, 9), (11, 357, 2, 1), (11, 360, 2, 2), (11, 367, 2, 3), (11, 418, 9, 0), (12, 13, 12, 1), (12, 17, 12, 3), (12, 20, 12, 5), (12, 24, 12, 6), (12, 27, 12, 7), (12, 30, 12, 8), (12, 34, 12, 9), (12, 37, 12, 17), (12, 40, 12, 20), (12, 43, 12, 21), (12, 46, 12, 22), (12, 49, 12, 23), (12, 52, 12, 24), (12, 55, 12, 25), (12, 58, 12, 26), (12, 61, 12, 27), (12, 64, 12, 28), (12, 67, 12, 29), (12, 70, 12, 30), (12, 73, 12, 31), (12, 76, 12, 32), (12, 79, 12, 33), (12, 82, 12, 34), (12, 85, 12, 35)] : List (Nat × Nat × Nat × Nat)), flok t := List.forall_mem_cons.mpr ⟨fFL_4_0, List.forall_mem_cons.mpr ⟨fFL_4_1, List.forall_mem_cons.mpr ⟨fFL_4_2, List.forall_mem_cons.mpr ⟨fFL_4_3, List.forall_mem_cons.mpr ⟨fFL_4_4, List.forall_mem_cons.mpr ⟨fFL_4_5, List.forall_mem_cons.mpr ⟨fFL_4_6, List.forall_mem_cons.mpr ⟨fFL_4_7, List.forall_mem_cons.mpr ⟨fFL_4_8, List.forall_mem_cons.mpr ⟨fFL_4_9, List.forall_mem_cons.mpr ⟨fFL_4_10, List.forall_mem_cons.mpr ⟨fFL_4_11, List.forall_mem_cons.mpr ⟨fFL_4_12, List.forall_mem_cons.mpr ⟨fFL_4_13, List.forall_mem_cons.mpr ⟨fFL_4_14, List.forall_mem_cons.mpr ⟨fFL_4_15, List.forall_mem_cons.mpr ⟨fFL_4_16, List.forall_mem_cons.mpr ⟨fFL_4_17, List.forall_mem_cons.mpr ⟨fFL_4_18, List.forall_mem_cons.mpr ⟨fFL_4_19, List.forall_mem_cons.mpr ⟨fFL_4_20, List.forall_mem_cons.mpr ⟨fFL_4_21, List.forall_mem_cons.mpr ⟨fFL_4_22, List.forall_mem_cons.mpr ⟨fFL_4_23, List.forall_mem_cons.mpr ⟨fFL_4_24, List.forall_mem_cons.mpr ⟨fFL_4_25, List.forall_mem_cons.mpr ⟨fFL_4_26, List.forall_mem_cons.mpr ⟨fFL_4_27, List.forall_mem_cons.mpr ⟨fFL_4_28, List.forall_mem_cons.mpr ⟨fFL_4_29, List.forall_mem_cons.mpr ⟨fFL_4_30, List.forall_mem_cons.mpr ⟨fFL_4_31, List.forall_mem_cons.mpr ⟨fFL_4_32, List.forall_mem_cons.mpr ⟨fFL_4_33, List.forall_mem_cons.mpr ⟨fFL_4_34, List.forall_mem_cons.mpr ⟨fFL_4_35, List.forall_mem_cons.mpr ⟨fFL_4_36, List.forall_mem_cons.mpr ⟨fFL_4_37, List.forall_mem_cons.mpr ⟨fFL_4_38, List.forall_mem_cons.mpr ⟨fFL_4_39, (fun _ h => by cases h)⟩⟩⟩⟩⟩⟩⟩⟩⟩⟩⟩⟩⟩⟩⟩⟩⟩⟩⟩⟩⟩⟩⟩⟩⟩⟩⟩⟩⟩⟩⟩⟩⟩⟩⟩⟩⟩⟩⟩⟩
set_option maxRecDepth 100000 in
theorem fFL_5_0 : flok (12, 88, 12, 36) := ⟨(RX12, TX12, 85), rfl, by decide, by decide, gm 1557 (by decide +kernel)⟩
set_option maxRecDepth 100000 in
theorem fFL_5_1 : flok (12, 91, 12, 37) := ⟨(RX12, TX12, 85), rfl, by decide, by decide, gm 1558 (by decide +kernel)⟩
set_option maxRecDepth 100000 in
theorem fFL_5_2 : flok (12, 94, 12, 38) := ⟨(RX12, TX12, 85), rfl, by decide, by decide, gm 1559 (by decide +kernel)⟩
set_option maxRecDepth 100000 in
theorem fFL_5_3 : flok (12, 97, 12, 39) := ⟨(RX12, TX12, 85), rfl, by decide, by decide, gm 1560 (by decide +kernel)⟩
set_option maxRecDepth 100000 in
theorem fFL_5_4 : flok (12, 100, 12, 40) := ⟨(RX12, TX12, 85), rfl, by decide, by decide, gm 1561 (by decide +kernel)⟩
set_option maxRecDepth 100000 in
theorem fFL_5_5 : flok (12, 103, 12, 41) := ⟨(RX12, TX12, 85), rfl, by decide, by decide, gm 1562 (by decide +kernel)⟩
set_option maxRecDepth 100000 in
theorem fFL_5_6 : flok (12, 106, 12, 42) := ⟨(RX12, TX12, 85), rfl, by decide, by decide, gm 1563 (by decide +kernel)⟩
set_option maxRecDepth 100000 in
theorem fFL_5_7 : flok (12, 109, 12, 43) := ⟨(RX12, TX12, 85), rfl, by decide, by decide, gm 1564 (by decide +kernel)⟩
set_option maxRecDepth 100000 in
theorem fFL_5_8 : flok (12, 112, 12, 44) := ⟨(RX12, TX12, 85), rfl, by decide, by decide, gm 1565 (by decide +kernel)⟩
set_option maxRecDepth 100000 in
theorem fFL_5_9 : flok (12, 115, 12, 45) := ⟨(RX12, TX12, 85), rfl, by decide, by decide, gm 1566 (by decide +kernel)⟩
set_option maxRecDepth 100000 in
theorem fFL_5_10 : flok (12, 118, 12, 46) := ⟨(RX12, TX12, 85), rfl, by decide, by decide, gm 1567 (by decide +kernel)⟩
set_option maxRecDepth 100000 in
theorem fFL_5_11 : flok (12, 121, 12, 48) := ⟨(RX12, TX12, 85), rfl, by decide, by decide, gm 1569 (by decide +kernel)⟩
set_option maxRecDepth 100000 in
theorem fFL_5_12 : flok (12, 125, 12, 49) := ⟨(RX12, TX12, 85), rfl, by decide, by decide, gm 1570 (by decide +kernel)⟩
set_option maxRecDepth 100000 in
theorem fFL_5_13 : flok (12, 128, 12, 50) := ⟨(RX12, TX12, 85), rfl, by decide, by decide, gm 1571 (by decide +kernel)⟩
set_option maxRecDepth 100000 in
theorem fFL_5_14 : flok (12, 131, 12, 51) := ⟨(RX12, TX12, 85), rfl, by decide, by decide, gm 1572 (by decide +kernel)⟩
set_option maxRecDepth 100000 in
theorem fFL_5_15 : flok (12, 134, 12, 52) := ⟨(RX12, TX12, 85), rfl, by decide, by decide, gm 1573 (by decide +kernel)⟩
set_option maxRecDepth 100000 in
theorem fFL_5_16 : flok (12, 137, 12, 54) := ⟨(RX12, TX12, 85), rfl, by decide, by decide, gm 1575 (by decide +kernel)⟩
set_option maxRecDepth 100000 in
theorem fFL_5_17 : flok (12, 140, 12, 55) := ⟨(RX12, TX12, 85), rfl, by decide, by decide, gm 1576 (by decide +kernel)⟩
set_option maxRecDepth 100000 in
theorem fFL_5_18 : flok (12, 143, 12, 58) := ⟨(RX12, TX12, 85), rfl, by decide, by decide, gm 1579 (by decide +kernel)⟩
set_option maxRecDepth 100000 in
theorem fFL_5_19 : flok (12, 146, 12, 60) := ⟨(RX12, TX12, 85), rfl, by decide, by decide, gm 1581 (by decide +kernel)⟩
set_option maxRecDepth 100000 in
theorem fFL_5_20 : flok (12, 149, 12, 61) := ⟨(RX12, TX12, 85), rfl, by decide, by decide, gm 1582 (by decide +kernel)⟩
set_option maxRecDepth 100000 in
theorem fFL_5_21 : flok (12, 152, 12, 63) := ⟨(RX12, TX12, 85), rfl, by decide, by decide, gm 1584 (by decide +kernel)⟩
set_option maxRecDepth 100000 in
theorem fFL_5_22 : flok (12, 155, 12, 64) := ⟨(RX12, TX12, 85), rfl, by decide, by decide, gm 1585 (by decide +kernel)⟩
set_option maxRecDepth 100000 in
theorem fFL_5_23 : flok (12, 158, 12, 65) := ⟨(RX12, TX12, 85), rfl, by decide, by decide, gm 1586 (by decide +kernel)⟩
set_option maxRecDepth 100000 in
theorem fFL_5_24 : flok (12, 161, 12, 71) := ⟨(RX12, TX12, 85), rfl, by decide, by decide, gm 1592 (by decide +kernel)⟩
set_option maxRecDepth 100000 in
theorem fFL_5_25 : flok (12, 164, 12, 72) := ⟨(RX12, TX12, 85), rfl, by decide, by decide, gm 1593 (by decide +kernel)⟩
set_option maxRecDepth 100000 in
theorem fFL_5_26 : flok (12, 167, 12, 73) := ⟨(RX12, TX12, 85), rfl, by decide, by decide, gm 1594 (by decide +kernel)⟩
set_option maxRecDepth 100000 in
theorem fFL_5_27 : flok (12, 170, 12, 75) := ⟨(RX12, TX12, 85), rfl, by decide, by decide, gm 1596 (by decide +kernel)⟩
set_option maxRecDepth 100000 in
theorem fFL_5_28 : flok (12, 173, 12, 76) := ⟨(RX12, TX12, 85), rfl, by decide, by decide, gm 1597 (by decide +kernel)⟩
set_option maxRecDepth 100000 in
theorem fFL_5_29 : flok (12, 176, 12, 78) := ⟨(RX12, TX12, 85), rfl, by decide, by decide, gm 1599 (by decide +kernel)⟩
set_option maxRecDepth 100000 in
theorem fFL_5_30 : flok (12, 179, 12, 80) := ⟨(RX12, TX12, 85), rfl, by decide, by decide, gm 1601 (by decide +kernel)⟩
set_option maxRecDepth 100000 in
theorem fFL_5_31 : flok (12, 182, 12, 81) := ⟨(RX12, TX12, 85), rfl, by decide, by decide, gm 1602 (by decide +kernel)⟩
set_option maxRecDepth 100000 in
theorem fFL_5_32 : flok (12, 185, 12, 82) := ⟨(RX12, TX12, 85), rfl, by decide, by decide, gm 1603 (by decide +kernel)⟩
set_option maxRecDepth 100000 in
theorem fFL_5_33 : flok (12, 188, 12, 83) := ⟨(RX12, TX12, 85), rfl, by decide, by decide, gm 1604 (by decide +kernel)⟩
set_option maxRecDepth 100000 in
theorem fFL_5_34 : flok (12, 191, 12, 84) := ⟨(RX12, TX12, 85), rfl, by decide, by decide, gm 1605 (by decide +kernel)⟩
set_option maxRecDepth 100000 in
theorem fFL_5_35 : flok (12, 204, 12, 2) := ⟨(RX12, TX12, 85), rfl, by decide, by decide, gm 1523 (by decide +kernel)⟩
set_option maxRecDepth 100000 in
theorem fFL_5_36 : flok (12, 211, 12, 4) := ⟨(RX12, TX12, 85), rfl, by decide, by decide, gm 1525 (by decide +kernel)⟩
set_option maxRecDepth 100000 in
theorem fFL_5_37 : flok (12, 220, 12, 10) := ⟨(RX12, TX12, 85), rfl, by decide, by decide, gm 1531 (by decide +kernel)⟩
set_option maxRecDepth 100000 in
theorem fFL_5_38 : flok (12, 242, 12, 13) := ⟨(RX12, TX12, 85), rfl, by decide, by decide, gm 1534 (by decide +kernel)⟩
set_option maxRecDepth 100000 in
theorem fFL_5_39 : flok (12, 245, 12, 11) := ⟨(RX12, TX12, 85), rfl, by decide, by decide, gm 1532 (by decide +kernel)⟩
set_option maxRecDepth 100000 in
theorem fFL_c5 : ∀ t ∈ ([(12, 88, 12, 36), (12, 91, 12, 37), (12, 94, 12, 38), (12, 97, 12, 39), (12, 100, 12, 40), (12, 103, 12, 41), (12, 106, 12, 42), (12, 109, 12, 43), (12, 112, 12, 44), (12, 115, 12, 45), (12, 118, 12, 46), (12, 121, 12, 48), (12, 125, 12, 49), (12, 128, 12, 50), (12, 131, 12, 51), (12, 134, 12, 52), (12, 137, 12, 54), (12, 140, 12, 55), (12, 143, 12, 58), (12, 146, 12, 60), (12, 149, 12, 61), (12, 152, 12, 63), (12, 155, 12, 64), (12, 158, 12, 65), (12, 161, 12, 71), (12, 164, 12, 72), (12, 167, 12, 73), (12, 170, 12, 75), (12, 173, 12, 76), (12, 176, 12, 78), (12, 179, 12, 80), (12, 182, 12, 81), (12, 185, 12, 82), (12, 188, 12, 83), (12, 191, 12, 84), (12, 204, 12, 2), (12, 211, 12, 4), (12, 220, 12, 10), (12, 242, 12, 13), (12, 245, 12, 11)] : List (Nat × Nat × Nat × Nat)), flok t := List.forall_mem_cons.mpr ⟨fFL_5_0, List.forall_mem_cons.mpr ⟨fFL_5_1, List.forall_mem_cons.mpr ⟨fFL_5_2, List.forall_mem_cons.mpr ⟨fFL_5_3, List.forall_mem_cons.mpr ⟨fFL_5_4, List.forall_mem_cons.mpr ⟨fFL_5_5, List.forall_mem_cons.mpr ⟨fFL_5_6, List.forall_mem_cons.mpr ⟨fFL_5_7, List.forall_mem_cons.mpr ⟨fFL_5_8, List.forall_mem_cons.mpr ⟨fFL_5_9, List.forall_mem_cons.mpr ⟨fFL_5_10, List.forall_mem_cons.mpr ⟨fFL_5_11, List.forall_mem_cons.mpr ⟨fFL_5_12, List.forall_mem_cons.mpr ⟨fFL_5_13, List.forall_mem_cons.mpr ⟨fFL_5_14, List.forall_mem_cons.mpr ⟨fFL_5_15, List.forall_mem_cons.mpr ⟨fFL_5_16, List.forall_mem_cons.mpr ⟨fFL_5_17, List.forall_mem_cons.mpr ⟨fFL_5_18, List.forall_mem_cons.mpr ⟨fFL_5_19, List.forall_mem_cons.mpr ⟨fFL_5_20, List.forall_mem_cons.mpr ⟨fFL_5_21, List.forall_mem_cons.mpr ⟨fFL_5_22, List.forall_mem_cons.mpr ⟨fFL_5_23, List.forall_mem_cons.mpr ⟨fFL_5_24, List.forall_mem_cons.mpr ⟨fFL_5_25, List.forall_mem_cons.mpr ⟨fFL_5_26, List.forall_mem_cons.mpr ⟨fFL_5_27, List.forall_mem_cons.mpr ⟨fFL_5_28, List.forall_mem_cons.mpr ⟨fFL_5_29, List.forall_mem_cons.mpr ⟨fFL_5_30, List.forall_mem_cons.mpr ⟨fFL_5_31, List.forall_mem_cons.mpr ⟨fFL_5_32, List.forall_mem_cons.mpr ⟨fFL_5_33, List.forall_mem_cons.mpr ⟨fFL_5_34, List.forall_mem_cons.mpr ⟨fFL_5_35, List.forall_mem_cons.mpr ⟨fFL_5_36, List.forall_mem_cons.mpr ⟨fFL_5_37, List.forall_mem_cons.mpr ⟨fFL_5_38, List.forall_mem_cons.mpr ⟨fFL_5_39, (fun _ h => by cases h)⟩⟩⟩⟩⟩⟩⟩⟩⟩⟩⟩⟩⟩⟩⟩⟩⟩⟩⟩⟩⟩⟩⟩⟩⟩⟩⟩⟩⟩⟩⟩⟩⟩⟩⟩⟩⟩⟩⟩⟩
set_option maxRecDepth 100000 in
theorem fFL_6_0 : flok (12, 248, 12, 14) := ⟨(RX12, TX12, 85), rfl, by decide, by decide, gm 1535 (by decide +kernel)⟩
set_option maxRecDepth 100000 in
theorem fFL_6_1 : flok (12, 251, 12, 15) := ⟨(RX12, TX12, 85), rfl, by decide, by decide, gm 1536 (by decide +kernel)⟩
set_option maxRecDepth 100000 in
theorem fFL_6_2 : flok (12, 254, 12, 16) := ⟨(RX12, TX12, 85), rfl, by decide, by decide, gm 1537 (by decide +kernel)⟩
set_option maxRecDepth 100000 in
theorem fFL_6_3 : flok (12, 269, 12, 12) := ⟨(RX12, TX12, 85), rfl, by decide, by decide, gm 1533 (by decide +kernel)⟩
set_option maxRecDepth 100000 in
theorem fFL_6_4 : flok (12, 272, 12, 18) := ⟨(RX12, TX12, 85), rfl, by decide, by decide, gm 1539 (by decide +kernel)⟩
set_option maxRecDepth 100000 in
theorem fFL_6_5 : flok (12, 275, 12, 19) := ⟨(RX12, TX12, 85), rfl, by decide, by decide, gm 1540 (by decide +kernel)⟩
set_option maxRecDepth 100000 in
theorem fFL_6_6 : flok (12, 278, 12, 47) := ⟨(RX12, TX12, 85), rfl, by decide, by decide, gm 1568 (by decide +kernel)⟩
set_option maxRecDepth 100000 in
theorem fFL_6_7 : flok (12, 281, 12, 53) := ⟨(RX12, TX12, 85), rfl, by decide, by decide, gm 1574 (by decide +kernel)⟩
set_option maxRecDepth 100000 in
theorem fFL_6_8 : flok (12, 287, 12, 70) := ⟨(RX12, TX12, 85), rfl, by decide, by decide, gm 1591 (by decide +kernel)⟩
set_option maxRecDepth 100000 in
theorem fFL_6_9 : flok (12, 331, 12, 57) := ⟨(RX12, TX12, 85), rfl, by decide, by decide, gm 1578 (by decide +kernel)⟩
set_option maxRecDepth 100000 in
theorem fFL_6_10 : flok (12, 334, 12, 56) := ⟨(RX12, TX12, 85), rfl, by decide, by decide, gm 1577 (by decide +kernel)⟩
set_option maxRecDepth 100000 in
theorem fFL_6_11 : flok (12, 354, 12, 59) := ⟨(RX12, TX12, 85), rfl, by decide, by decide, gm 1580 (by decide +kernel)⟩
set_option maxRecDepth 100000 in
theorem fFL_6_12 : flok (12, 367, 12, 62) := ⟨(RX12, TX12, 85), rfl, by decide, by decide, gm 1583 (by decide +kernel)⟩
set_option maxRecDepth 100000 in
theorem fFL_6_13 : flok (12, 412, 12, 66) := ⟨(RX12, TX12, 85), rfl, by decide, by decide, gm 1587 (by decide +kernel)⟩
set_option maxRecDepth 100000 in
theorem fFL_6_14 : flok (12, 415, 12, 67) := ⟨(RX12, TX12, 85), rfl, by decide, by decide, gm 1588 (by decide +kernel)⟩
set_option maxRecDepth 100000 in
theorem fFL_6_15 : flok (12, 418, 12, 68) := ⟨(RX12, TX12, 85), rfl, by decide, by decide, gm 1589 (by decide +kernel)⟩
set_option maxRecDepth 100000 in
theorem fFL_6_16 : flok (12, 421, 12, 69) := ⟨(RX12, TX12, 85), rfl, by decide, by decide, gm 1590 (by decide +kernel)⟩
set_option maxRecDepth 100000 in
theorem fFL_6_17 : flok (12, 505, 12, 74) := ⟨(RX12, TX12, 85), rfl, by decide, by decide, gm 1595 (by decide +kernel)⟩
set_option maxRecDepth 100000 in
theorem fFL_6_18 : flok (12, 511, 12, 77) := ⟨(RX12, TX12, 85), rfl, by decide, by decide, gm 1598 (by decide +kernel)⟩
set_option maxRecDepth 100000 in
theorem fFL_6_19 : flok (12, 514, 12, 79) := ⟨(RX12, TX12, 85), rfl, by decide, by decide, gm 1600 (by decide +kernel)⟩
set_option maxRecDepth 100000 in
theorem fFL_c6 : ∀ t ∈ ([(12, 248, 12, 14), (12, 251, 12, 15), (12, 254, 12, 16), (12, 269, 12, 12), (12, 272, 12, 18), (12, 275, 12, 19), (12, 278, 12, 47), (12, 281, 12, 53), (12, 287, 12, 70), (12, 331, 12, 57), (12, 334, 12, 56), (12, 354, 12, 59), (12, 367, 12, 62), (12, 412, 12, 66), (12, 415, 12, 67), (12, 418, 12, 68), (12, 421, 12, 69), (12, 505, 12, 74), (12, 511, 12, 77), (12, 514, 12, 79)] : List (Nat × Nat × Nat × Nat)), flok t := List.forall_mem_cons.mpr ⟨fFL_6_0, List.forall_mem_cons.mpr ⟨fFL_6_1, List.forall_mem_cons.mpr ⟨fFL_6_2, List.forall_mem_cons.mpr ⟨fFL_6_3, List.forall_mem_cons.mpr ⟨fFL_6_4, List.forall_mem_cons.mpr ⟨fFL_6_5, List.forall_mem_cons.mpr ⟨fFL_6_6, List.forall_mem_cons.mpr ⟨fFL_6_7, List.forall_mem_cons.mpr ⟨fFL_6_8, List.forall_mem_cons.mpr ⟨fFL_6_9, List.forall_mem_cons.mpr ⟨fFL_6_10, List.forall_mem_cons.mpr ⟨fFL_6_11, List.forall_mem_cons.mpr ⟨fFL_6_12, List.forall_mem_cons.mpr ⟨fFL_6_13, List.forall_mem_cons.mpr ⟨fFL_6_14, List.forall_mem_cons.mpr ⟨fFL_6_15, List.forall_mem_cons.mpr ⟨fFL_6_16, List.forall_mem_cons.mpr ⟨fFL_6_17, List.forall_mem_cons.mpr ⟨fFL_6_18, List.forall_mem_cons.mpr ⟨fFL_6_19, (fun _ h => by cases h)⟩⟩⟩⟩⟩⟩⟩⟩⟩⟩⟩⟩⟩⟩⟩⟩⟩⟩⟩⟩
set_option maxRecDepth 100000 in
theorem fFL_all : ∀ t ∈ tFL, flok t := List.forall_mem_append.mpr ⟨fFL_c0, List.forall_mem_append.mpr ⟨fFL_c1, List.forall_mem_append.mpr ⟨fFL_c2, List.forall_mem_append.mpr ⟨fFL_c3, List.forall_mem_append.mpr ⟨fFL_c4, List.forall_mem_append.mpr ⟨fFL_c5, fFL_c6⟩⟩⟩⟩⟩⟩
set_option maxRecDepth 100000 in
theorem fML_0_0 : mlok gP (0, 32, 4) := ⟨mm_4, rfl, Or.inl (gm 1144 (by decide +kernel))⟩
set_option maxRecDepth 100000 in
theorem fML_0_1 : mlok gP (0, 36, 6) := ⟨mm_6, rfl, Or.inl (gm 1148 (by decide +kernel))⟩
set_option maxRecDepth 100000 in
theorem fML_0_2 : mlok gP (0, 39, 7) := ⟨mm_7, rfl, Or.inl (gm 1152 (by decide +kernel))⟩
set_option maxRecDepth 100000 in
theorem fML_0_3 : mlok gP (0, 43, 5) := ⟨mm_5, rfl, Or.inl (gm 1169 (by decide +kernel))⟩
set_option maxRecDepth 100000 in
theorem fML_0_4 : mlok gP (0, 46, 8) := ⟨mm_8, rfl, Or.inl (gm 1156 (by decide +kernel))⟩
set_option maxRecDepth 100000 in
theorem fML_0_5 : mlok gP (0, 49, 10) := ⟨mm_10, rfl, Or.inl (gm 1160 (by decide +kernel))⟩
set_option maxRecDepth 100000 in
theorem fML_0_6 : mlok gP (0, 52, 9) := ⟨mm_9, rfl, Or.inl (gm 1165 (by decide +kernel))⟩
set_option maxRecDepth 100000 in
theorem fML_0_7 : mlok gP (0, 56, 59) := ⟨mm_59, rfl, Or.inl (gm 1164 (by decide +kernel))⟩
set_option maxRecDepth 100000 in
theorem fML_0_8 : mlok gP (1, 35, 14) := ⟨mm_14, rfl, Or.inl (gm 1231 (by decide +kernel))⟩
set_option maxRecDepth 100000 in
theorem fML_0_9 : mlok gP (1, 39, 317) := ⟨mm_317, rfl, Or.inl (gm 1235 (by decide +kernel))⟩
set_option maxRecDepth 100000 in
theorem fML_0_10 : mlok gP (1, 53, 121) := ⟨mm_121, rfl, Or.inr ⟨"WordMill", List.mem_filter.mpr ⟨List.mem_of_getElem? (i := 1092) (by decide +kernel), rfl⟩⟩⟩
set_option maxRecDepth 100000 in
theorem fML_0_11 : mlok gP (1, 57, 15) := ⟨mm_15, rfl, Or.inl (gm 1239 (by decide +kernel))⟩
set_option maxRecDepth 100000 in
theorem fML_0_12 : mlok gP (1, 61, 16) := ⟨mm_16, rfl, Or.inl (gm 1242 (by decide +kernel))⟩
set_option maxRecDepth 100000 in
theorem fML_0_13 : mlok gP (1, 65, 17) := ⟨mm_17, rfl, Or.inl (gm 1246 (by decide +kernel))⟩
set_option maxRecDepth 100000 in
theorem fML_0_14 : mlok gP (1, 69, 18) := ⟨mm_18, rfl, Or.inl (gm 1250 (by decide +kernel))⟩
set_option maxRecDepth 100000 in
theorem fML_0_15 : mlok gP (2, 54, 126) := ⟨mm_126, rfl, Or.inr ⟨"WordMill", List.mem_filter.mpr ⟨List.mem_of_getElem? (i := 1219) (by decide +kernel), rfl⟩⟩⟩
set_option maxRecDepth 100000 in
theorem fML_0_16 : mlok gP (2, 58, 318) := ⟨mm_318, rfl, Or.inl (gm 1305 (by decide +kernel))⟩
set_option maxRecDepth 100000 in
theorem fML_0_17 : mlok gP (2, 64, 22) := ⟨mm_22, rfl, Or.inl (gm 1306 (by decide +kernel))⟩
set_option maxRecDepth 100000 in
theorem fML_0_18 : mlok gP (2, 84, 28) := ⟨mm_28, rfl, Or.inl (gm 1311 (by decide +kernel))⟩
set_option maxRecDepth 100000 in
theorem fML_0_19 : mlok gP (2, 88, 25) := ⟨mm_25, rfl, Or.inl (gm 1316 (by decide +kernel))⟩
set_option maxRecDepth 100000 in
theorem fML_0_20 : mlok gP (2, 92, 23) := ⟨mm_23, rfl, Or.inl (gm 1348 (by decide +kernel))⟩
set_option maxRecDepth 100000 in
theorem fML_0_21 : mlok gP (2, 106, 24) := ⟨mm_24, rfl, Or.inl (gm 1352 (by decide +kernel))⟩
set_option maxRecDepth 100000 in
theorem fML_0_22 : mlok gP (2, 112, 86) := ⟨mm_86, rfl, Or.inl (gm 1356 (by decide +kernel))⟩
set_option maxRecDepth 100000 in
theorem fML_0_23 : mlok gP (2, 116, 316) := ⟨mm_316, rfl, Or.inl (gm 1357 (by decide +kernel))⟩
set_option maxRecDepth 100000 in
theorem fML_0_24 : mlok gP (2, 121, 26) := ⟨mm_26, rfl, Or.inl (gm 1320 (by decide +kernel))⟩
set_option maxRecDepth 100000 in
theorem fML_0_25 : mlok gP (2, 131, 27) := ⟨mm_27, rfl, Or.inl (gm 1324 (by decide +kernel))⟩
set_option maxRecDepth 100000 in
theorem fML_0_26 : mlok gP (2, 134, 319) := ⟨mm_319, rfl, Or.inl (gm 1328 (by decide +kernel))⟩
set_option maxRecDepth 100000 in
theorem fML_0_27 : mlok gP (2, 138, 320) := ⟨mm_320, rfl, Or.inl (gm 1340 (by decide +kernel))⟩
set_option maxRecDepth 100000 in
theorem fML_0_28 : mlok gP (3, 22, 30) := ⟨mm_30, rfl, Or.inl (gm 959 (by decide +kernel))⟩
set_option maxRecDepth 100000 in
theorem fML_0_29 : mlok gP (3, 26, 33) := ⟨mm_33, rfl, Or.inl (gm 980 (by decide +kernel))⟩
set_option maxRecDepth 100000 in
theorem fML_0_30 : mlok gP (3, 30, 318) := ⟨mm_318, rfl, Or.inl (gm 877 (by decide +kernel))⟩
set_option maxRecDepth 100000 in
theorem fML_0_31 : mlok gP (4, 53, 42) := ⟨mm_42, rfl, Or.inl (gm 721 (by decide +kernel))⟩
set_option maxRecDepth 100000 in
theorem fML_0_32 : mlok gP (4, 57, 43) := ⟨mm_43, rfl, Or.inl (gm 724 (by decide +kernel))⟩
set_option maxRecDepth 100000 in
theorem fML_0_33 : mlok gP (4, 60, 41) := ⟨mm_41, rfl, Or.inl (gm 739 (by decide +kernel))⟩
set_option maxRecDepth 100000 in
theorem fML_0_34 : mlok gP (4, 64, 44) := ⟨mm_44, rfl, Or.inl (gm 728 (by decide +kernel))⟩
set_option maxRecDepth 100000 in
theorem fML_0_35 : mlok gP (4, 68, 46) := ⟨mm_46, rfl, Or.inl (gm 731 (by decide +kernel))⟩
set_option maxRecDepth 100000 in
theorem fML_0_36 : mlok gP (4, 71, 45) := ⟨mm_45, rfl, Or.inl (gm 743 (by decide +kernel))⟩
set_option maxRecDepth 100000 in
theorem fML_0_37 : mlok gP (4, 74, 48) := ⟨mm_48, rfl, Or.inl (gm 746 (by decide +kernel))⟩
set_option maxRecDepth 100000 in
theorem fML_0_38 : mlok gP (4, 83, 47) := ⟨mm_47, rfl, Or.inl (gm 735 (by decide +kernel))⟩
set_option maxRecDepth 100000 in
theorem fML_0_39 : mlok gP (4, 87, 318) := ⟨mm_318, rfl, Or.inl (gm 814 (by decide +kernel))⟩
set_option maxRecDepth 100000 in
theorem fML_c0 : ∀ t ∈ ([(0, 32, 4), (0, 36, 6), (0, 39, 7), (0, 43, 5), (0, 46, 8), (0, 49, 10), (0, 52, 9), (0, 56, 59), (1, 35, 14), (1, 39, 317), (1, 53, 121), (1, 57, 15), (1, 61, 16), (1, 65, 17), (1, 69, 18), (2, 54, 126), (2, 58, 318), (2, 64, 22), (2, 84, 28), (2, 88, 25), (2, 92, 23), (2, 106, 24), (2, 112, 86), (2, 116, 316), (2, 121, 26), (2, 131, 27), (2, 134, 319), (2, 138, 320), (3, 22, 30), (3, 26, 33), (3, 30, 318), (4, 53, 42), (4, 57, 43), (4, 60, 41), (4, 64, 44), (4, 68, 46), (4, 71, 45), (4, 74, 48), (4, 83, 47), (4, 87, 318)] : List (Nat × Nat × Nat)), mlok gP t := List.forall_mem_cons.mpr ⟨fML_0_0, List.forall_mem_cons.mpr ⟨fML_0_1, List.forall_mem_cons.mpr ⟨fML_0_2, List.forall_mem_cons.mpr ⟨fML_0_3, List.forall_mem_cons.mpr ⟨fML_0_4, List.forall_mem_cons.mpr ⟨fML_0_5, List.forall_mem_cons.mpr ⟨fML_0_6, List.forall_mem_cons.mpr ⟨fML_0_7, List.forall_mem_cons.mpr ⟨fML_0_8, List.forall_mem_cons.mpr ⟨fML_0_9, List.forall_mem_cons.mpr ⟨fML_0_10, List.forall_mem_cons.mpr ⟨fML_0_11, List.forall_mem_cons.mpr ⟨fML_0_12, List.forall_mem_cons.mpr ⟨fML_0_13, List.forall_mem_cons.mpr ⟨fML_0_14, List.forall_mem_cons.mpr ⟨fML_0_15, List.forall_mem_cons.mpr ⟨fML_0_16, List.forall_mem_cons.mpr ⟨fML_0_17, List.forall_mem_cons.mpr ⟨fML_0_18, List.forall_mem_cons.mpr ⟨fML_0_19, List.forall_mem_cons.mpr ⟨fML_0_20, List.forall_mem_cons.mpr ⟨fML_0_21, List.forall_mem_cons.mpr ⟨fML_0_22, List.forall_mem_cons.mpr ⟨fML_0_23, List.forall_mem_cons.mpr ⟨fML_0_24, List.forall_mem_cons.mpr ⟨fML_0_25, List.forall_mem_cons.mpr ⟨fML_0_26, List.forall_mem_cons.mpr ⟨fML_0_27, List.forall_mem_cons.mpr ⟨fML_0_28, List.forall_mem_cons.mpr ⟨fML_0_29, List.forall_mem_cons.mpr ⟨fML_0_30, List.forall_mem_cons.mpr ⟨fML_0_31, List.forall_mem_cons.mpr ⟨fML_0_32, List.forall_mem_cons.mpr ⟨fML_0_33, List.forall_mem_cons.mpr ⟨fML_0_34, List.forall_mem_cons.mpr ⟨fML_0_35, List.forall_mem_cons.mpr ⟨fML_0_36, List.forall_mem_cons.mpr ⟨fML_0_37, List.forall_mem_cons.mpr ⟨fML_0_38, List.forall_mem_cons.mpr ⟨fML_0_39, (fun _ h => by cases h)⟩⟩⟩⟩⟩⟩⟩⟩⟩⟩⟩⟩⟩⟩⟩⟩⟩⟩⟩⟩⟩⟩⟩⟩⟩⟩⟩⟩⟩⟩⟩⟩⟩⟩⟩⟩⟩⟩⟩⟩
set_option maxRecDepth 100000 in
theorem fML_1_0 : mlok gP (4, 93, 37) := ⟨mm_37, rfl, Or.inl (gm 815 (by decide +kernel))⟩
set_option maxRecDepth 100000 in
theorem fML_1_1 : mlok gP (4, 96, 53) := ⟨mm_53, rfl, Or.inl (gm 819 (by decide +kernel))⟩
set_option maxRecDepth 100000 in
theorem fML_1_2 : mlok gP (4, 100, 39) := ⟨mm_39, rfl, Or.inl (gm 831 (by decide +kernel))⟩
set_option maxRecDepth 100000 in
theorem fML_1_3 : mlok gP (4, 103, 50) := ⟨mm_50, rfl, Or.inl (gm 827 (by decide +kernel))⟩
set_option maxRecDepth 100000 in
theorem fML_1_4 : mlok gP (4, 107, 51) := ⟨mm_51, rfl, Or.inl (gm 835 (by decide +kernel))⟩
set_option maxRecDepth 100000 in
theorem fML_1_5 : mlok gP (4, 110, 52) := ⟨mm_52, rfl, Or.inl (gm 823 (by decide +kernel))⟩
set_option maxRecDepth 100000 in
theorem fML_1_6 : mlok gP (4, 114, 54) := ⟨mm_54, rfl, Or.inl (gm 839 (by decide +kernel))⟩
set_option maxRecDepth 100000 in
theorem fML_1_7 : mlok gP (4, 117, 30) := ⟨mm_30, rfl, Or.inl (gm 847 (by decide +kernel))⟩
set_option maxRecDepth 100000 in
theorem fML_1_8 : mlok gP (4, 122, 56) := ⟨mm_56, rfl, Or.inl (gm 850 (by decide +kernel))⟩
set_option maxRecDepth 100000 in
theorem fML_1_9 : mlok gP (4, 125, 57) := ⟨mm_57, rfl, Or.inl (gm 854 (by decide +kernel))⟩
set_option maxRecDepth 100000 in
theorem fML_1_10 : mlok gP (4, 128, 55) := ⟨mm_55, rfl, Or.inl (gm 843 (by decide +kernel))⟩
set_option maxRecDepth 100000 in
theorem fML_1_11 : mlok gP (4, 131, 58) := ⟨mm_58, rfl, Or.inl (gm 858 (by decide +kernel))⟩
set_option maxRecDepth 100000 in
theorem fML_1_12 : mlok gP (4, 134, 59) := ⟨mm_59, rfl, Or.inl (gm 862 (by decide +kernel))⟩
set_option maxRecDepth 100000 in
theorem fML_1_13 : mlok gP (5, 53, 62) := ⟨mm_62, rfl, Or.inl (gm 1383 (by decide +kernel))⟩
set_option maxRecDepth 100000 in
theorem fML_1_14 : mlok gP (5, 57, 63) := ⟨mm_63, rfl, Or.inl (gm 1388 (by decide +kernel))⟩
set_option maxRecDepth 100000 in
theorem fML_1_15 : mlok gP (5, 64, 86) := ⟨mm_86, rfl, Or.inl (gm 1387 (by decide +kernel))⟩
set_option maxRecDepth 100000 in
theorem fML_1_16 : mlok gP (5, 72, 126) := ⟨mm_126, rfl, Or.inr ⟨"WordMill", List.mem_filter.mpr ⟨List.mem_of_getElem? (i := 1254) (by decide +kernel), rfl⟩⟩⟩
set_option maxRecDepth 100000 in
theorem fML_1_17 : mlok gP (5, 76, 64) := ⟨mm_64, rfl, Or.inl (gm 1401 (by decide +kernel))⟩
set_option maxRecDepth 100000 in
theorem fML_1_18 : mlok gP (5, 80, 65) := ⟨mm_65, rfl, Or.inl (gm 1396 (by decide +kernel))⟩
set_option maxRecDepth 100000 in
theorem fML_1_19 : mlok gP (5, 84, 316) := ⟨mm_316, rfl, Or.inl (gm 1421 (by decide +kernel))⟩
set_option maxRecDepth 100000 in
theorem fML_1_20 : mlok gP (5, 89, 121) := ⟨mm_121, rfl, Or.inr ⟨"WordMill", List.mem_filter.mpr ⟨List.mem_of_getElem? (i := 1276) (by decide +kernel), rfl⟩⟩⟩
set_option maxRecDepth 100000 in
theorem fML_1_21 : mlok gP (5, 93, 68) := ⟨mm_68, rfl, Or.inl (gm 1417 (by decide +kernel))⟩
set_option maxRecDepth 100000 in
theorem fML_1_22 : mlok gP (6, 52, 126) := ⟨mm_126, rfl, Or.inr ⟨"WordMill", List.mem_filter.mpr ⟨List.mem_of_getElem? (i := 485) (by decide +kernel), rfl⟩⟩⟩
set_option maxRecDepth 100000 in
theorem fML_1_23 : mlok gP (6, 65, 318) := ⟨mm_318, rfl, Or.inl (gm 637 (by decide +kernel))⟩
set_option maxRecDepth 100000 in
theorem fML_1_24 : mlok gP (6, 71, 125) := ⟨mm_125, rfl, Or.inr ⟨"WordMill", List.mem_filter.mpr ⟨List.mem_of_getElem? (i := 876) (by decide +kernel), rfl⟩⟩⟩
set_option maxRecDepth 100000 in
theorem fML_1_25 : mlok gP (6, 75, 80) := ⟨mm_80, rfl, Or.inl (gm 1195 (by decide +kernel))⟩
set_option maxRecDepth 100000 in
theorem fML_1_26 : mlok gP (6, 82, 82) := ⟨mm_82, rfl, Or.inl (gm 1199 (by decide +kernel))⟩
set_option maxRecDepth 100000 in
theorem fML_1_27 : mlok gP (6, 88, 86) := ⟨mm_86, rfl, Or.inl (gm 1206 (by decide +kernel))⟩
set_option maxRecDepth 100000 in
theorem fML_1_28 : mlok gP (6, 92, 81) := ⟨mm_81, rfl, Or.inl (gm 1207 (by decide +kernel))⟩
set_option maxRecDepth 100000 in
theorem fML_1_29 : mlok gP (6, 96, 83) := ⟨mm_83, rfl, Or.inl (gm 1202 (by decide +kernel))⟩
set_option maxRecDepth 100000 in
theorem fML_1_30 : mlok gP (7, 28, 87) := ⟨mm_87, rfl, Or.inl (gm 1047 (by decide +kernel))⟩
set_option maxRecDepth 100000 in
theorem fML_1_31 : mlok gP (7, 32, 122) := ⟨mm_122, rfl, Or.inr ⟨"WordMill", List.mem_filter.mpr ⟨List.mem_of_getElem? (i := 907) (by decide +kernel), rfl⟩⟩⟩
set_option maxRecDepth 100000 in
theorem fML_1_32 : mlok gP (8, 25, 109) := ⟨mm_109, rfl, Or.inl (gm 869 (by decide +kernel))⟩
set_option maxRecDepth 100000 in
theorem fML_1_33 : mlok gP (8, 30, 90) := ⟨mm_90, rfl, Or.inl (gm 883 (by decide +kernel))⟩
set_option maxRecDepth 100000 in
theorem fML_1_34 : mlok gP (8, 34, 96) := ⟨mm_96, rfl, Or.inl (gm 888 (by decide +kernel))⟩
set_option maxRecDepth 100000 in
theorem fML_1_35 : mlok gP (8, 38, 37) := ⟨mm_37, rfl, Or.inl (gm 887 (by decide +kernel))⟩
set_option maxRecDepth 100000 in
theorem fML_1_36 : mlok gP (8, 44, 39) := ⟨mm_39, rfl, Or.inl (gm 911 (by decide +kernel))⟩
set_option maxRecDepth 100000 in
theorem fML_1_37 : mlok gP (8, 47, 38) := ⟨mm_38, rfl, Or.inl (gm 900 (by decide +kernel))⟩
set_option maxRecDepth 100000 in
theorem fML_1_38 : mlok gP (8, 51, 92) := ⟨mm_92, rfl, Or.inl (gm 907 (by decide +kernel))⟩
set_option maxRecDepth 100000 in
theorem fML_1_39 : mlok gP (8, 55, 97) := ⟨mm_97, rfl, Or.inl (gm 892 (by decide +kernel))⟩
set_option maxRecDepth 100000 in
theorem fML_c1 : ∀ t ∈ ([(4, 93, 37), (4, 96, 53), (4, 100, 39), (4, 103, 50), (4, 107, 51), (4, 110, 52), (4, 114, 54), (4, 117, 30), (4, 122, 56), (4, 125, 57), (4, 128, 55), (4, 131, 58), (4, 134, 59), (5, 53, 62), (5, 57, 63), (5, 64, 86), (5, 72, 126), (5, 76, 64), (5, 80, 65), (5, 84, 316), (5, 89, 121), (5, 93, 68), (6, 52, 126), (6, 65, 318), (6, 71, 125), (6, 75, 80), (6, 82, 82), (6, 88, 86), (6, 92, 81), (6, 96, 83), (7, 28, 87), (7, 32, 122), (8, 25, 109), (8, 30, 90), (8, 34, 96), (8, 38, 37), (8, 44, 39), (8, 47, 38), (8, 51, 92), (8, 55, 97)] : List (Nat × Nat × Nat)), mlok gP t := List.forall_mem_cons.mpr ⟨fML_1_0, List.forall_mem_cons.mpr ⟨fML_1_1, List.forall_mem_cons.mpr ⟨fML_1_2, List.forall_mem_cons.mpr ⟨fML_1_3, List.forall_mem_cons.mpr ⟨fML_1_4, List.forall_mem_cons.mpr ⟨fML_1_5, List.forall_mem_cons.mpr ⟨fML_1_6, List.forall_mem_cons.mpr ⟨fML_1_7, List.forall_mem_cons.mpr ⟨fML_1_8, List.forall_mem_cons.mpr ⟨fML_1_9, List.forall_mem_cons.mpr ⟨fML_1_10, List.forall_mem_cons.mpr ⟨fML_1_11, List.forall_mem_cons.mpr ⟨fML_1_12, List.forall_mem_cons.mpr ⟨fML_1_13, List.forall_mem_cons.mpr ⟨fML_1_14, List.forall_mem_cons.mpr ⟨fML_1_15, List.forall_mem_cons.mpr ⟨fML_1_16, List.forall_mem_cons.mpr ⟨fML_1_17, List.forall_mem_cons.mpr ⟨fML_1_18, List.forall_mem_cons.mpr ⟨fML_1_19, List.forall_mem_cons.mpr ⟨fML_1_20, List.forall_mem_cons.mpr ⟨fML_1_21, List.forall_mem_cons.mpr ⟨fML_1_22, List.forall_mem_cons.mpr ⟨fML_1_23, List.forall_mem_cons.mpr ⟨fML_1_24, List.forall_mem_cons.mpr ⟨fML_1_25, List.forall_mem_cons.mpr ⟨fML_1_26, List.forall_mem_cons.mpr ⟨fML_1_27, List.forall_mem_cons.mpr ⟨fML_1_28, List.forall_mem_cons.mpr ⟨fML_1_29, List.forall_mem_cons.mpr ⟨fML_1_30, List.forall_mem_cons.mpr ⟨fML_1_31, List.forall_mem_cons.mpr ⟨fML_1_32, List.forall_mem_cons.mpr ⟨fML_1_33, List.forall_mem_cons.mpr ⟨fML_1_34, List.forall_mem_cons.mpr ⟨fML_1_35, List.forall_mem_cons.mpr ⟨fML_1_36, List.forall_mem_cons.mpr ⟨fML_1_37, List.forall_mem_cons.mpr ⟨fML_1_38, List.forall_mem_cons.mpr ⟨fML_1_39, (fun _ h => by cases h)⟩⟩⟩⟩⟩⟩⟩⟩⟩⟩⟩⟩⟩⟩⟩⟩⟩⟩⟩⟩⟩⟩⟩⟩⟩⟩⟩⟩⟩⟩⟩⟩⟩⟩⟩⟩⟩⟩⟩⟩
set_option maxRecDepth 100000 in
theorem fML_2_0 : mlok gP (8, 58, 99) := ⟨mm_99, rfl, Or.inl (gm 919 (by decide +kernel))⟩
set_option maxRecDepth 100000 in
theorem fML_2_1 : mlok gP (8, 61, 102) := ⟨mm_102, rfl, Or.inl (gm 943 (by decide +kernel))⟩
set_option maxRecDepth 100000 in
theorem fML_2_2 : mlok gP (8, 65, 103) := ⟨mm_103, rfl, Or.inl (gm 960 (by decide +kernel))⟩
set_option maxRecDepth 100000 in
theorem fML_2_3 : mlok gP (8, 68, 104) := ⟨mm_104, rfl, Or.inl (gm 964 (by decide +kernel))⟩
set_option maxRecDepth 100000 in
theorem fML_2_4 : mlok gP (8, 71, 105) := ⟨mm_105, rfl, Or.inl (gm 968 (by decide +kernel))⟩
set_option maxRecDepth 100000 in
theorem fML_2_5 : mlok gP (8, 74, 107) := ⟨mm_107, rfl, Or.inl (gm 981 (by decide +kernel))⟩
set_option maxRecDepth 100000 in
theorem fML_2_6 : mlok gP (8, 77, 95) := ⟨mm_95, rfl, Or.inl (gm 951 (by decide +kernel))⟩
set_option maxRecDepth 100000 in
theorem fML_2_7 : mlok gP (8, 84, 94) := ⟨mm_94, rfl, Or.inl (gm 896 (by decide +kernel))⟩
set_option maxRecDepth 100000 in
theorem fML_2_8 : mlok gP (8, 88, 121) := ⟨mm_121, rfl, Or.inr ⟨"WordMill", List.mem_filter.mpr ⟨List.mem_of_getElem? (i := 758) (by decide +kernel), rfl⟩⟩⟩
set_option maxRecDepth 100000 in
theorem fML_2_9 : mlok gP (8, 92, 110) := ⟨mm_110, rfl, Or.inl (gm 912 (by decide +kernel))⟩
set_option maxRecDepth 100000 in
theorem fML_2_10 : mlok gP (8, 95, 122) := ⟨mm_122, rfl, Or.inr ⟨"WordMill", List.mem_filter.mpr ⟨List.mem_of_getElem? (i := 770) (by decide +kernel), rfl⟩⟩⟩
set_option maxRecDepth 100000 in
theorem fML_2_11 : mlok gP (8, 110, 98) := ⟨mm_98, rfl, Or.inl (gm 923 (by decide +kernel))⟩
set_option maxRecDepth 100000 in
theorem fML_2_12 : mlok gP (8, 113, 100) := ⟨mm_100, rfl, Or.inl (gm 927 (by decide +kernel))⟩
set_option maxRecDepth 100000 in
theorem fML_2_13 : mlok gP (8, 116, 101) := ⟨mm_101, rfl, Or.inl (gm 935 (by decide +kernel))⟩
set_option maxRecDepth 100000 in
theorem fML_2_14 : mlok gP (8, 124, 85) := ⟨mm_85, rfl, Or.inl (gm 939 (by decide +kernel))⟩
set_option maxRecDepth 100000 in
theorem fML_2_15 : mlok gP (8, 130, 91) := ⟨mm_91, rfl, Or.inl (gm 931 (by decide +kernel))⟩
set_option maxRecDepth 100000 in
theorem fML_2_16 : mlok gP (8, 137, 33) := ⟨mm_33, rfl, Or.inl (gm 947 (by decide +kernel))⟩
set_option maxRecDepth 100000 in
theorem fML_2_17 : mlok gP (8, 143, 32) := ⟨mm_32, rfl, Or.inl (gm 955 (by decide +kernel))⟩
set_option maxRecDepth 100000 in
theorem fML_2_18 : mlok gP (8, 170, 106) := ⟨mm_106, rfl, Or.inl (gm 972 (by decide +kernel))⟩
set_option maxRecDepth 100000 in
theorem fML_2_19 : mlok gP (8, 176, 34) := ⟨mm_34, rfl, Or.inl (gm 976 (by decide +kernel))⟩
set_option maxRecDepth 100000 in
theorem fML_2_20 : mlok gP (8, 183, 1) := ⟨mm_1, rfl, Or.inl (gm 985 (by decide +kernel))⟩
set_option maxRecDepth 100000 in
theorem fML_2_21 : mlok gP (8, 186, 2) := ⟨mm_2, rfl, Or.inl (gm 986 (by decide +kernel))⟩
set_option maxRecDepth 100000 in
theorem fML_2_22 : mlok gP (9, 25, 84) := ⟨mm_84, rfl, Or.inr ⟨"WordMill", List.mem_filter.mpr ⟨List.mem_of_getElem? (i := 146) (by decide +kernel), rfl⟩⟩⟩
set_option maxRecDepth 100000 in
theorem fML_2_23 : mlok gP (9, 32, 29) := ⟨mm_29, rfl, Or.inr ⟨"WordMill", List.mem_filter.mpr ⟨List.mem_of_getElem? (i := 173) (by decide +kernel), rfl⟩⟩⟩
set_option maxRecDepth 100000 in
theorem fML_2_24 : mlok gP (9, 66, 0) := ⟨mm_0, rfl, Or.inr ⟨"WordMill", List.mem_filter.mpr ⟨List.mem_of_getElem? (i := 195) (by decide +kernel), rfl⟩⟩⟩
set_option maxRecDepth 100000 in
theorem fML_2_25 : mlok gP (9, 77, 35) := ⟨mm_35, rfl, Or.inl (gm 873 (by decide +kernel))⟩
set_option maxRecDepth 100000 in
theorem fML_2_26 : mlok gP (9, 80, 318) := ⟨mm_318, rfl, Or.inl (gm 878 (by decide +kernel))⟩
set_option maxRecDepth 100000 in
theorem fML_2_27 : mlok gP (9, 86, 1) := ⟨mm_1, rfl, Or.inl (gm 879 (by decide +kernel))⟩
set_option maxRecDepth 100000 in
theorem fML_2_28 : mlok gP (10, 22, 115) := ⟨mm_115, rfl, Or.inl (gm 1077 (by decide +kernel))⟩
set_option maxRecDepth 100000 in
theorem fML_2_29 : mlok gP (10, 34, 123) := ⟨mm_123, rfl, Or.inr ⟨"WordMill", List.mem_filter.mpr ⟨List.mem_of_getElem? (i := 935) (by decide +kernel), rfl⟩⟩⟩
set_option maxRecDepth 100000 in
theorem fML_2_30 : mlok gP (10, 38, 124) := ⟨mm_124, rfl, Or.inr ⟨"WordMill", List.mem_filter.mpr ⟨List.mem_of_getElem? (i := 938) (by decide +kernel), rfl⟩⟩⟩
set_option maxRecDepth 100000 in
theorem fML_2_31 : mlok gP (10, 42, 116) := ⟨mm_116, rfl, Or.inl (gm 1087 (by decide +kernel))⟩
set_option maxRecDepth 100000 in
theorem fML_2_32 : mlok gP (10, 45, 117) := ⟨mm_117, rfl, Or.inl (gm 1091 (by decide +kernel))⟩
set_option maxRecDepth 100000 in
theorem fML_2_33 : mlok gP (10, 49, 33) := ⟨mm_33, rfl, Or.inl (gm 1095 (by decide +kernel))⟩
set_option maxRecDepth 100000 in
theorem fML_2_34 : mlok gP (10, 53, 119) := ⟨mm_119, rfl, Or.inl (gm 1267 (by decide +kernel))⟩
set_option maxRecDepth 100000 in
theorem fML_2_35 : mlok gP (11, 22, 36) := ⟨mm_36, rfl, Or.inl (gm 179 (by decide +kernel))⟩
set_option maxRecDepth 100000 in
theorem fML_2_36 : mlok gP (11, 29, 88) := ⟨mm_88, rfl, Or.inl (gm 266 (by decide +kernel))⟩
set_option maxRecDepth 100000 in
theorem fML_2_37 : mlok gP (11, 38, 108) := ⟨mm_108, rfl, Or.inr ⟨"WordMill", List.mem_filter.mpr ⟨List.mem_of_getElem? (i := 140) (by decide +kernel), rfl⟩⟩⟩
set_option maxRecDepth 100000 in
theorem fML_2_38 : mlok gP (11, 48, 72) := ⟨mm_72, rfl, Or.inr ⟨"WordMill", List.mem_filter.mpr ⟨List.mem_of_getElem? (i := 311) (by decide +kernel), rfl⟩⟩⟩
set_option maxRecDepth 100000 in
theorem fML_2_39 : mlok gP (11, 74, 113) := ⟨mm_113, rfl, Or.inr ⟨"WordMill", List.mem_filter.mpr ⟨List.mem_of_getElem? (i := 357) (by decide +kernel), rfl⟩⟩⟩
set_option maxRecDepth 100000 in
theorem fML_c2 : ∀ t ∈ ([(8, 58, 99), (8, 61, 102), (8, 65, 103), (8, 68, 104), (8, 71, 105), (8, 74, 107), (8, 77, 95), (8, 84, 94), (8, 88, 121), (8, 92, 110), (8, 95, 122), (8, 110, 98), (8, 113, 100), (8, 116, 101), (8, 124, 85), (8, 130, 91), (8, 137, 33), (8, 143, 32), (8, 170, 106), (8, 176, 34), (8, 183, 1), (8, 186, 2), (9, 25, 84), (9, 32, 29), (9, 66, 0), (9, 77, 35), (9, 80, 318), (9, 86, 1), (10, 22, 115), (10, 34, 123), (10, 38, 124), (10, 42, 116), (10, 45, 117), (10, 49, 33), (10, 53, 119), (11, 22, 36), (11, 29, 88), (11, 38, 108), (11, 48, 72), (11, 74, 113)] : List (Nat × Nat × Nat)), mlok gP t := List.forall_mem_cons.mpr ⟨fML_2_0, List.forall_mem_cons.mpr ⟨fML_2_1, List.forall_mem_cons.mpr ⟨fML_2_2, List.forall_mem_cons.mpr ⟨fML_2_3, List.forall_mem_cons.mpr ⟨fML_2_4, List.forall_mem_cons.mpr ⟨fML_2_5, List.forall_mem_cons.mpr ⟨fML_2_6, List.forall_mem_cons.mpr ⟨fML_2_7, List.forall_mem_cons.mpr ⟨fML_2_8, List.forall_mem_cons.mpr ⟨fML_2_9, List.forall_mem_cons.mpr ⟨fML_2_10, List.forall_mem_cons.mpr ⟨fML_2_11, List.forall_mem_cons.mpr ⟨fML_2_12, List.forall_mem_cons.mpr ⟨fML_2_13, List.forall_mem_cons.mpr ⟨fML_2_14, List.forall_mem_cons.mpr ⟨fML_2_15, List.forall_mem_cons.mpr ⟨fML_2_16, List.forall_mem_cons.mpr ⟨fML_2_17, List.forall_mem_cons.mpr ⟨fML_2_18, List.forall_mem_cons.mpr ⟨fML_2_19, List.forall_mem_cons.mpr ⟨fML_2_20, List.forall_mem_cons.mpr ⟨fML_2_21, List.forall_mem_cons.mpr ⟨fML_2_22, List.forall_mem_cons.mpr ⟨fML_2_23, List.forall_mem_cons.mpr ⟨fML_2_24, List.forall_mem_cons.mpr ⟨fML_2_25, List.forall_mem_cons.mpr ⟨fML_2_26, List.forall_mem_cons.mpr ⟨fML_2_27, List.forall_mem_cons.mpr ⟨fML_2_28, List.forall_mem_cons.mpr ⟨fML_2_29, List.forall_mem_cons.mpr ⟨fML_2_30, List.forall_mem_cons.mpr ⟨fML_2_31, List.forall_mem_cons.mpr ⟨fML_2_32, List.forall_mem_cons.mpr ⟨fML_2_33, List.forall_mem_cons.mpr ⟨fML_2_34, List.forall_mem_cons.mpr ⟨fML_2_35, List.forall_mem_cons.mpr ⟨fML_2_36, List.forall_mem_cons.mpr ⟨fML_2_37, List.forall_mem_cons.mpr ⟨fML_2_38, List.forall_mem_cons.mpr ⟨fML_2_39, (fun _ h => by cases h)⟩⟩⟩⟩⟩⟩⟩⟩⟩⟩⟩⟩⟩⟩⟩⟩⟩⟩⟩⟩⟩⟩⟩⟩⟩⟩⟩⟩⟩⟩⟩⟩⟩⟩⟩⟩⟩⟩⟩⟩
set_option maxRecDepth 100000 in
theorem fML_3_0 : mlok gP (11, 81, 11) := ⟨mm_11, rfl, Or.inr ⟨"WordMill", List.mem_filter.mpr ⟨List.mem_of_getElem? (i := 376) (by decide +kernel), rfl⟩⟩⟩
set_option maxRecDepth 100000 in
theorem fML_3_1 : mlok gP (11, 88, 60) := ⟨mm_60, rfl, Or.inr ⟨"WordMill", List.mem_filter.mpr ⟨List.mem_of_getElem? (i := 404) (by decide +kernel), rfl⟩⟩⟩
set_option maxRecDepth 100000 in
theorem fML_3_2 : mlok gP (11, 95, 19) := ⟨mm_19, rfl, Or.inr ⟨"WordMill", List.mem_filter.mpr ⟨List.mem_of_getElem? (i := 433) (by decide +kernel), rfl⟩⟩⟩
set_option maxRecDepth 100000 in
theorem fML_3_3 : mlok gP (11, 107, 73) := ⟨mm_73, rfl, Or.inl (gm 627 (by decide +kernel))⟩
set_option maxRecDepth 100000 in
theorem fML_3_4 : mlok gP (11, 111, 121) := ⟨mm_121, rfl, Or.inl (gm 1025 (by decide +kernel))⟩
set_option maxRecDepth 100000 in
theorem fML_3_5 : mlok gP (11, 115, 122) := ⟨mm_122, rfl, Or.inl (gm 1026 (by decide +kernel))⟩
set_option maxRecDepth 100000 in
theorem fML_3_6 : mlok gP (11, 119, 128) := ⟨mm_128, rfl, Or.inl (gm 705 (by decide +kernel))⟩
set_option maxRecDepth 100000 in
theorem fML_3_7 : mlok gP (11, 123, 40) := ⟨mm_40, rfl, Or.inl (gm 717 (by decide +kernel))⟩
set_option maxRecDepth 100000 in
theorem fML_3_8 : mlok gP (11, 127, 49) := ⟨mm_49, rfl, Or.inl (gm 810 (by decide +kernel))⟩
set_option maxRecDepth 100000 in
theorem fML_3_9 : mlok gP (11, 132, 89) := ⟨mm_89, rfl, Or.inl (gm 865 (by decide +kernel))⟩
set_option maxRecDepth 100000 in
theorem fML_3_10 : mlok gP (11, 137, 131) := ⟨mm_131, rfl, Or.inl (gm 990 (by decide +kernel))⟩
set_option maxRecDepth 100000 in
theorem fML_3_11 : mlok gP (11, 140, 132) := ⟨mm_132, rfl, Or.inl (gm 994 (by decide +kernel))⟩
set_option maxRecDepth 100000 in
theorem fML_3_12 : mlok gP (11, 143, 12) := ⟨mm_12, rfl, Or.inl (gm 998 (by decide +kernel))⟩
set_option maxRecDepth 100000 in
theorem fML_3_13 : mlok gP (11, 146, 133) := ⟨mm_133, rfl, Or.inl (gm 1002 (by decide +kernel))⟩
set_option maxRecDepth 100000 in
theorem fML_3_14 : mlok gP (11, 169, 139) := ⟨mm_139, rfl, Or.inl (gm 1035 (by decide +kernel))⟩
set_option maxRecDepth 100000 in
theorem fML_3_15 : mlok gP (11, 176, 75) := ⟨mm_75, rfl, Or.inl (gm 1039 (by decide +kernel))⟩
set_option maxRecDepth 100000 in
theorem fML_3_16 : mlok gP (11, 180, 86) := ⟨mm_86, rfl, Or.inl (gm 1043 (by decide +kernel))⟩
set_option maxRecDepth 100000 in
theorem fML_3_17 : mlok gP (11, 184, 135) := ⟨mm_135, rfl, Or.inl (gm 1014 (by decide +kernel))⟩
set_option maxRecDepth 100000 in
theorem fML_3_18 : mlok gP (11, 187, 76) := ⟨mm_76, rfl, Or.inl (gm 1018 (by decide +kernel))⟩
set_option maxRecDepth 100000 in
theorem fML_3_19 : mlok gP (11, 194, 138) := ⟨mm_138, rfl, Or.inl (gm 1031 (by decide +kernel))⟩
set_option maxRecDepth 100000 in
theorem fML_3_20 : mlok gP (11, 198, 125) := ⟨mm_125, rfl, Or.inl (gm 1054 (by decide +kernel))⟩
set_option maxRecDepth 100000 in
theorem fML_3_21 : mlok gP (11, 204, 316) := ⟨mm_316, rfl, Or.inl (gm 1059 (by decide +kernel))⟩
set_option maxRecDepth 100000 in
theorem fML_3_22 : mlok gP (11, 214, 114) := ⟨mm_114, rfl, Or.inl (gm 1073 (by decide +kernel))⟩
set_option maxRecDepth 100000 in
theorem fML_3_23 : mlok gP (11, 222, 136) := ⟨mm_136, rfl, Or.inl (gm 1100 (by decide +kernel))⟩
set_option maxRecDepth 100000 in
theorem fML_3_24 : mlok gP (11, 225, 74) := ⟨mm_74, rfl, Or.inl (gm 1116 (by decide +kernel))⟩
set_option maxRecDepth 100000 in
theorem fML_3_25 : mlok gP (11, 229, 147) := ⟨mm_147, rfl, Or.inl (gm 1112 (by decide +kernel))⟩
set_option maxRecDepth 100000 in
theorem fML_3_26 : mlok gP (11, 244, 318) := ⟨mm_318, rfl, Or.inl (gm 1128 (by decide +kernel))⟩
set_option maxRecDepth 100000 in
theorem fML_3_27 : mlok gP (11, 250, 77) := ⟨mm_77, rfl, Or.inl (gm 1129 (by decide +kernel))⟩
set_option maxRecDepth 100000 in
theorem fML_3_28 : mlok gP (11, 253, 151) := ⟨mm_151, rfl, Or.inl (gm 1133 (by decide +kernel))⟩
set_option maxRecDepth 100000 in
theorem fML_3_29 : mlok gP (11, 260, 3) := ⟨mm_3, rfl, Or.inl (gm 1140 (by decide +kernel))⟩
set_option maxRecDepth 100000 in
theorem fML_3_30 : mlok gP (11, 274, 119) := ⟨mm_119, rfl, Or.inl (gm 1137 (by decide +kernel))⟩
set_option maxRecDepth 100000 in
theorem fML_3_31 : mlok gP (11, 291, 153) := ⟨mm_153, rfl, Or.inl (gm 1179 (by decide +kernel))⟩
set_option maxRecDepth 100000 in
theorem fML_3_32 : mlok gP (11, 300, 111) := ⟨mm_111, rfl, Or.inl (gm 1183 (by decide +kernel))⟩
set_option maxRecDepth 100000 in
theorem fML_3_33 : mlok gP (11, 303, 79) := ⟨mm_79, rfl, Or.inl (gm 1191 (by decide +kernel))⟩
set_option maxRecDepth 100000 in
theorem fML_3_34 : mlok gP (11, 310, 31) := ⟨mm_31, rfl, Or.inl (gm 1219 (by decide +kernel))⟩
set_option maxRecDepth 100000 in
theorem fML_3_35 : mlok gP (11, 314, 13) := ⟨mm_13, rfl, Or.inl (gm 1227 (by decide +kernel))⟩
set_option maxRecDepth 100000 in
theorem fML_3_36 : mlok gP (11, 321, 118) := ⟨mm_118, rfl, Or.inl (gm 1263 (by decide +kernel))⟩
set_option maxRecDepth 100000 in
theorem fML_3_37 : mlok gP (11, 326, 158) := ⟨mm_158, rfl, Or.inl (gm 1259 (by decide +kernel))⟩
set_option maxRecDepth 100000 in
theorem fML_3_38 : mlok gP (11, 329, 126) := ⟨mm_126, rfl, Or.inl (gm 1272 (by decide +kernel))⟩
set_option maxRecDepth 100000 in
theorem fML_3_39 : mlok gP (11, 332, 112) := ⟨mm_112, rfl, Or.inl (gm 1277 (by decide +kernel))⟩
set_option maxRecDepth 100000 in
theorem fML_c3 : ∀ t ∈ ([(11, 81, 11), (11, 88, 60), (11, 95, 19), (11, 107, 73), (11, 111, 121), (11, 115, 122), (11, 119, 128), (11, 123, 40), (11, 127, 49), (11, 132, 89), (11, 137, 131), (11, 140, 132), (11, 143, 12), (11, 146, 133), (11, 169, 139), (11, 176, 75), (11, 180, 86), (11, 184, 135), (11, 187, 76), (11, 194, 138), (11, 198, 125), (11, 204, 316), (11, 214, 114), (11, 222, 136), (11, 225, 74), (11, 229, 147), (11, 244, 318), (11, 250, 77), (11, 253, 151), (11, 260, 3), (11, 274, 119), (11, 291, 153), (11, 300, 111), (11, 303, 79), (11, 310, 31), (11, 314, 13), (11, 321, 118), (11, 326, 158), (11, 329, 126), (11, 332, 112)] : List (Nat × Nat × Nat)), mlok gP t := List.forall_mem_cons.mpr ⟨fML_3_0, List.forall_mem_cons.mpr ⟨fML_3_1, List.forall_mem_cons.mpr ⟨fML_3_2, List.forall_mem_cons.mpr ⟨fML_3_3, List.forall_mem_cons.mpr ⟨fML_3_4, List.forall_mem_cons.mpr ⟨fML_3_5, List.forall_mem_cons.mpr ⟨fML_3_6, List.forall_mem_cons.mpr ⟨fML_3_7, List.forall_mem_cons.mpr ⟨fML_3_8, List.forall_mem_cons.mpr ⟨fML_3_9, List.forall_mem_cons.mpr ⟨fML_3_10, List.forall_mem_cons.mpr ⟨fML_3_11, List.forall_mem_cons.mpr ⟨fML_3_12, List.forall_mem_cons.mpr ⟨fML_3_13, List.forall_mem_cons.mpr ⟨fML_3_14, List.forall_mem_cons.mpr ⟨fML_3_15, List.forall_mem_cons.mpr ⟨fML_3_16, List.forall_mem_cons.mpr ⟨fML_3_17, List.forall_mem_cons.mpr ⟨fML_3_18, List.forall_mem_cons.mpr ⟨fML_3_19, List.forall_mem_cons.mpr ⟨fML_3_20, List.forall_mem_cons.mpr ⟨fML_3_21, List.forall_mem_cons.mpr ⟨fML_3_22, List.forall_mem_cons.mpr ⟨fML_3_23, List.forall_mem_cons.mpr ⟨fML_3_24, List.forall_mem_cons.mpr ⟨fML_3_25, List.forall_mem_cons.mpr ⟨fML_3_26, List.forall_mem_cons.mpr ⟨fML_3_27, List.forall_mem_cons.mpr ⟨fML_3_28, List.forall_mem_cons.mpr ⟨fML_3_29, List.forall_mem_cons.mpr ⟨fML_3_30, List.forall_mem_cons.mpr ⟨fML_3_31, List.forall_mem_cons.mpr ⟨fML_3_32, List.forall_mem_cons.mpr ⟨fML_3_33, List.forall_mem_cons.mpr ⟨fML_3_34, List.forall_mem_cons.mpr ⟨fML_3_35, List.forall_mem_cons.mpr ⟨fML_3_36, List.forall_mem_cons.mpr ⟨fML_3_37, List.forall_mem_cons.mpr ⟨fML_3_38, List.forall_mem_cons.mpr ⟨fML_3_39, (fun _ h => by cases h)⟩⟩⟩⟩⟩⟩⟩⟩⟩⟩⟩⟩⟩⟩⟩⟩⟩⟩⟩⟩⟩⟩⟩⟩⟩⟩⟩⟩⟩⟩⟩⟩⟩⟩⟩⟩⟩⟩⟩⟩
set_option maxRecDepth 100000 in
theorem fML_4_0 : mlok gP (11, 335, 61) := ⟨mm_61, rfl, Or.inl (gm 1378 (by decide +kernel))⟩
set_option maxRecDepth 100000 in
theorem fML_4_1 : mlok gP (11, 338, 21) := ⟨mm_21, rfl, Or.inl (gm 1301 (by decide +kernel))⟩
set_option maxRecDepth 100000 in
theorem fML_4_2 : mlok gP (11, 350, 137) := ⟨mm_137, rfl, Or.inl (gm 1293 (by decide +kernel))⟩
set_option maxRecDepth 100000 in
theorem fML_4_3 : mlok gP (11, 353, 164) := ⟨mm_164, rfl, Or.inl (gm 1297 (by decide +kernel))⟩
set_option maxRecDepth 100000 in
theorem fML_4_4 : mlok gP (11, 363, 20) := ⟨mm_20, rfl, Or.inl (gm 1362 (by decide +kernel))⟩
set_option maxRecDepth 100000 in
theorem fML_4_5 : mlok gP (11, 370, 163) := ⟨mm_163, rfl, Or.inl (gm 1374 (by decide +kernel))⟩
set_option maxRecDepth 100000 in
theorem fML_4_6 : mlok gP (11, 374, 66) := ⟨mm_66, rfl, Or.inl (gm 1392 (by decide +kernel))⟩
set_option maxRecDepth 100000 in
theorem fML_4_7 : mlok gP (11, 378, 67) := ⟨mm_67, rfl, Or.inl (gm 1405 (by decide +kernel))⟩
set_option maxRecDepth 100000 in
theorem fML_4_8 : mlok gP (11, 381, 69) := ⟨mm_69, rfl, Or.inl (gm 1413 (by decide +kernel))⟩
set_option maxRecDepth 100000 in
theorem fML_4_9 : mlok gP (11, 384, 68) := ⟨mm_68, rfl, Or.inl (gm 1423 (by decide +kernel))⟩
set_option maxRecDepth 100000 in
theorem fML_4_10 : mlok gP (11, 388, 64) := ⟨mm_64, rfl, Or.inl (gm 1424 (by decide +kernel))⟩
set_option maxRecDepth 100000 in
theorem fML_4_11 : mlok gP (11, 391, 70) := ⟨mm_70, rfl, Or.inl (gm 1429 (by decide +kernel))⟩
set_option maxRecDepth 100000 in
theorem fML_4_12 : mlok gP (11, 394, 71) := ⟨mm_71, rfl, Or.inl (gm 1437 (by decide +kernel))⟩
set_option maxRecDepth 100000 in
theorem fML_4_13 : mlok gP (11, 398, 175) := ⟨mm_175, rfl, Or.inl (gm 1450 (by decide +kernel))⟩
set_option maxRecDepth 100000 in
theorem fML_4_14 : mlok gP (11, 402, 178) := ⟨mm_178, rfl, Or.inl (gm 1465 (by decide +kernel))⟩
set_option maxRecDepth 100000 in
theorem fML_4_15 : mlok gP (11, 405, 179) := ⟨mm_179, rfl, Or.inl (gm 1468 (by decide +kernel))⟩
set_option maxRecDepth 100000 in
theorem fML_4_16 : mlok gP (11, 409, 80) := ⟨mm_80, rfl, Or.inl (gm 1476 (by decide +kernel))⟩
set_option maxRecDepth 100000 in
theorem fML_4_17 : mlok gP (11, 412, 78) := ⟨mm_78, rfl, Or.inl (gm 1481 (by decide +kernel))⟩
set_option maxRecDepth 100000 in
theorem fML_4_18 : mlok gP (11, 415, 186) := ⟨mm_186, rfl, Or.inl (gm 1497 (by decide +kernel))⟩
set_option maxRecDepth 100000 in
theorem fML_4_19 : mlok gP (12, 194, 195) := ⟨mm_195, rfl, Or.inl (gm 1507 (by decide +kernel))⟩
set_option maxRecDepth 100000 in
theorem fML_4_20 : mlok gP (12, 198, 227) := ⟨mm_227, rfl, Or.inl (gm 1514 (by decide +kernel))⟩
set_option maxRecDepth 100000 in
theorem fML_4_21 : mlok gP (12, 201, 228) := ⟨mm_228, rfl, Or.inl (gm 1518 (by decide +kernel))⟩
set_option maxRecDepth 100000 in
theorem fML_4_22 : mlok gP (12, 207, 189) := ⟨mm_189, rfl, Or.inl (gm 1782 (by decide +kernel))⟩
set_option maxRecDepth 100000 in
theorem fML_4_23 : mlok gP (12, 216, 194) := ⟨mm_194, rfl, Or.inl (gm 1510 (by decide +kernel))⟩
set_option maxRecDepth 100000 in
theorem fML_4_24 : mlok gP (12, 223, 191) := ⟨mm_191, rfl, Or.inl (gm 1798 (by decide +kernel))⟩
set_option maxRecDepth 100000 in
theorem fML_4_25 : mlok gP (12, 227, 196) := ⟨mm_196, rfl, Or.inl (gm 1802 (by decide +kernel))⟩
set_option maxRecDepth 100000 in
theorem fML_4_26 : mlok gP (12, 231, 193) := ⟨mm_193, rfl, Or.inl (gm 1806 (by decide +kernel))⟩
set_option maxRecDepth 100000 in
theorem fML_4_27 : mlok gP (12, 235, 192) := ⟨mm_192, rfl, Or.inl (gm 1809 (by decide +kernel))⟩
set_option maxRecDepth 100000 in
theorem fML_4_28 : mlok gP (12, 238, 198) := ⟨mm_198, rfl, Or.inl (gm 1812 (by decide +kernel))⟩
set_option maxRecDepth 100000 in
theorem fML_4_29 : mlok gP (12, 257, 200) := ⟨mm_200, rfl, Or.inl (gm 1828 (by decide +kernel))⟩
set_option maxRecDepth 100000 in
theorem fML_4_30 : mlok gP (12, 260, 199) := ⟨mm_199, rfl, Or.inl (gm 1816 (by decide +kernel))⟩
set_option maxRecDepth 100000 in
theorem fML_4_31 : mlok gP (12, 263, 202) := ⟨mm_202, rfl, Or.inl (gm 1832 (by decide +kernel))⟩
set_option maxRecDepth 100000 in
theorem fML_4_32 : mlok gP (12, 266, 197) := ⟨mm_197, rfl, Or.inl (gm 1794 (by decide +kernel))⟩
set_option maxRecDepth 100000 in
theorem fML_4_33 : mlok gP (12, 284, 208) := ⟨mm_208, rfl, Or.inl (gm 1820 (by decide +kernel))⟩
set_option maxRecDepth 100000 in
theorem fML_4_34 : mlok gP (12, 290, 206) := ⟨mm_206, rfl, Or.inl (gm 1824 (by decide +kernel))⟩
set_option maxRecDepth 100000 in
theorem fML_4_35 : mlok gP (12, 294, 210) := ⟨mm_210, rfl, Or.inl (gm 1836 (by decide +kernel))⟩
set_option maxRecDepth 100000 in
theorem fML_4_36 : mlok gP (12, 297, 214) := ⟨mm_214, rfl, Or.inl (gm 1852 (by decide +kernel))⟩
set_option maxRecDepth 100000 in
theorem fML_4_37 : mlok gP (12, 300, 203) := ⟨mm_203, rfl, Or.inl (gm 1840 (by decide +kernel))⟩
set_option maxRecDepth 100000 in
theorem fML_4_38 : mlok gP (12, 303, 217) := ⟨mm_217, rfl, Or.inl (gm 1865 (by decide +kernel))⟩
set_option maxRecDepth 100000 in
theorem fML_4_39 : mlok gP (12, 306, 218) := ⟨mm_218, rfl, Or.inl (gm 1869 (by decide +kernel))⟩
set_option maxRecDepth 100000 in
theorem fML_c4 : ∀ t ∈ ([(11, 335, 61), (11, 338, 21), (11, 350, 137), (11, 353, 164), (11, 363, 20), (11, 370, 163), (11, 374, 66), (11, 378, 67), (11, 381, 69), (11, 384, 68), (11, 388, 64), (11, 391, 70), (11, 394, 71), (11, 398, 175), (11, 402, 178), (11, 405, 179), (11, 409, 80), (11, 412, 78), (11, 415, 186), (12, 194, 195), (12, 198, 227), (12, 201, 228), (12, 207, 189), (12, 216, 194), (12, 223, 191), (12, 227, 196), (12, 231, 193), (12, 235, 192), (12, 238, 198), (12, 257, 200), (12, 260, 199), (12, 263, 202), (12, 266, 197), (12, 284, 208), (12, 290, 206), (12, 294, 210), (12, 297, 214), (12, 300, 203), (12, 303, 217), (12, 306, 218)] : List (Nat × Nat × Nat)), mlok gP t := List.forall_mem_cons.mpr ⟨fML_4_0, List.forall_mem_cons.mpr ⟨fML_4_1, List.forall_mem_cons.mpr ⟨fML_4_2, List.forall_mem_cons.mpr ⟨fML_4_3, List.forall_mem_cons.mpr ⟨fML_4_4, List.forall_mem_cons.mpr ⟨fML_4_5, List.forall_mem_cons.mpr ⟨fML_4_6, List.forall_mem_cons.mpr ⟨fML_4_7, List.forall_mem_cons.mpr ⟨fML_4_8, List.forall_mem_cons.mpr ⟨fML_4_9, List.forall_mem_cons.mpr ⟨fML_4_10, List.forall_mem_cons.mpr ⟨fML_4_11, List.forall_mem_cons.mpr ⟨fML_4_12, List.forall_mem_cons.mpr ⟨fML_4_13, List.forall_mem_cons.mpr ⟨fML_4_14, List.forall_mem_cons.mpr ⟨fML_4_15, List.forall_mem_cons.mpr ⟨fML_4_16, List.forall_mem_cons.mpr ⟨fML_4_17, List.forall_mem_cons.mpr ⟨fML_4_18, List.forall_mem_cons.mpr ⟨fML_4_19, List.forall_mem_cons.mpr ⟨fML_4_20, List.forall_mem_cons.mpr ⟨fML_4_21, List.forall_mem_cons.mpr ⟨fML_4_22, List.forall_mem_cons.mpr ⟨fML_4_23, List.forall_mem_cons.mpr ⟨fML_4_24, List.forall_mem_cons.mpr ⟨fML_4_25, List.forall_mem_cons.mpr ⟨fML_4_26, List.forall_mem_cons.mpr ⟨fML_4_27, List.forall_mem_cons.mpr ⟨fML_4_28, List.forall_mem_cons.mpr ⟨fML_4_29, List.forall_mem_cons.mpr ⟨fML_4_30, List.forall_mem_cons.mpr ⟨fML_4_31, List.forall_mem_cons.mpr ⟨fML_4_32, List.forall_mem_cons.mpr ⟨fML_4_33, List.forall_mem_cons.mpr ⟨fML_4_34, List.forall_mem_cons.mpr ⟨fML_4_35, List.forall_mem_cons.mpr ⟨fML_4_36, List.forall_mem_cons.mpr ⟨fML_4_37, List.forall_mem_cons.mpr ⟨fML_4_38, List.forall_mem_cons.mpr ⟨fML_4_39, (fun _ h => by cases h)⟩⟩⟩⟩⟩⟩⟩⟩⟩⟩⟩⟩⟩⟩⟩⟩⟩⟩⟩⟩⟩⟩⟩⟩⟩⟩⟩⟩⟩⟩⟩⟩⟩⟩⟩⟩⟩⟩⟩⟩
set_option maxRecDepth 100000 in
theorem fML_5_0 : mlok gP (12, 309, 219) := ⟨mm_219, rfl, Or.inl (gm 1881 (by decide +kernel))⟩
set_option maxRecDepth 100000 in
theorem fML_5_1 : mlok gP (12, 312, 209) := ⟨mm_209, rfl, Or.inl (gm 1873 (by decide +kernel))⟩
set_option maxRecDepth 100000 in
theorem fML_5_2 : mlok gP (12, 316, 207) := ⟨mm_207, rfl, Or.inl (gm 1905 (by decide +kernel))⟩
set_option maxRecDepth 100000 in
theorem fML_5_3 : mlok gP (12, 319, 216) := ⟨mm_216, rfl, Or.inl (gm 1908 (by decide +kernel))⟩
set_option maxRecDepth 100000 in
theorem fML_5_4 : mlok gP (12, 322, 201) := ⟨mm_201, rfl, Or.inl (gm 1848 (by decide +kernel))⟩
set_option maxRecDepth 100000 in
theorem fML_5_5 : mlok gP (12, 325, 211) := ⟨mm_211, rfl, Or.inl (gm 1844 (by decide +kernel))⟩
set_option maxRecDepth 100000 in
theorem fML_5_6 : mlok gP (12, 337, 212) := ⟨mm_212, rfl, Or.inl (gm 1856 (by decide +kernel))⟩
set_option maxRecDepth 100000 in
theorem fML_5_7 : mlok gP (12, 341, 213) := ⟨mm_213, rfl, Or.inl (gm 1861 (by decide +kernel))⟩
set_option maxRecDepth 100000 in
theorem fML_5_8 : mlok gP (12, 344, 215) := ⟨mm_215, rfl, Or.inl (gm 1877 (by decide +kernel))⟩
set_option maxRecDepth 100000 in
theorem fML_5_9 : mlok gP (12, 348, 223) := ⟨mm_223, rfl, Or.inl (gm 1885 (by decide +kernel))⟩
set_option maxRecDepth 100000 in
theorem fML_5_10 : mlok gP (12, 351, 220) := ⟨mm_220, rfl, Or.inl (gm 1901 (by decide +kernel))⟩
set_option maxRecDepth 100000 in
theorem fML_5_11 : mlok gP (12, 357, 221) := ⟨mm_221, rfl, Or.inl (gm 1893 (by decide +kernel))⟩
set_option maxRecDepth 100000 in
theorem fML_5_12 : mlok gP (12, 360, 224) := ⟨mm_224, rfl, Or.inl (gm 1889 (by decide +kernel))⟩
set_option maxRecDepth 100000 in
theorem fML_5_13 : mlok gP (12, 363, 222) := ⟨mm_222, rfl, Or.inl (gm 1897 (by decide +kernel))⟩
set_option maxRecDepth 100000 in
theorem fML_5_14 : mlok gP (12, 371, 226) := ⟨mm_226, rfl, Or.inl (gm 1924 (by decide +kernel))⟩
set_option maxRecDepth 100000 in
theorem fML_5_15 : mlok gP (12, 375, 233) := ⟨mm_233, rfl, Or.inl (gm 2034 (by decide +kernel))⟩
set_option maxRecDepth 100000 in
theorem fML_5_16 : mlok gP (12, 378, 236) := ⟨mm_236, rfl, Or.inl (gm 1930 (by decide +kernel))⟩
set_option maxRecDepth 100000 in
theorem fML_5_17 : mlok gP (12, 381, 238) := ⟨mm_238, rfl, Or.inl (gm 1956 (by decide +kernel))⟩
set_option maxRecDepth 100000 in
theorem fML_5_18 : mlok gP (12, 384, 239) := ⟨mm_239, rfl, Or.inl (gm 1952 (by decide +kernel))⟩
set_option maxRecDepth 100000 in
theorem fML_5_19 : mlok gP (12, 388, 240) := ⟨mm_240, rfl, Or.inl (gm 1948 (by decide +kernel))⟩
set_option maxRecDepth 100000 in
theorem fML_5_20 : mlok gP (12, 392, 237) := ⟨mm_237, rfl, Or.inl (gm 1933 (by decide +kernel))⟩
set_option maxRecDepth 100000 in
theorem fML_5_21 : mlok gP (12, 396, 230) := ⟨mm_230, rfl, Or.inl (gm 1920 (by decide +kernel))⟩
set_option maxRecDepth 100000 in
theorem fML_5_22 : mlok gP (12, 399, 242) := ⟨mm_242, rfl, Or.inl (gm 1927 (by decide +kernel))⟩
set_option maxRecDepth 100000 in
theorem fML_5_23 : mlok gP (12, 402, 229) := ⟨mm_229, rfl, Or.inl (gm 1940 (by decide +kernel))⟩
set_option maxRecDepth 100000 in
theorem fML_5_24 : mlok gP (12, 405, 241) := ⟨mm_241, rfl, Or.inl (gm 1944 (by decide +kernel))⟩
set_option maxRecDepth 100000 in
theorem fML_5_25 : mlok gP (12, 409, 235) := ⟨mm_235, rfl, Or.inl (gm 1964 (by decide +kernel))⟩
set_option maxRecDepth 100000 in
theorem fML_5_26 : mlok gP (12, 424, 247) := ⟨mm_247, rfl, Or.inl (gm 1991 (by decide +kernel))⟩
set_option maxRecDepth 100000 in
theorem fML_5_27 : mlok gP (12, 428, 251) := ⟨mm_251, rfl, Or.inl (gm 1999 (by decide +kernel))⟩
set_option maxRecDepth 100000 in
theorem fML_5_28 : mlok gP (12, 432, 250) := ⟨mm_250, rfl, Or.inl (gm 1987 (by decide +kernel))⟩
set_option maxRecDepth 100000 in
theorem fML_5_29 : mlok gP (12, 435, 252) := ⟨mm_252, rfl, Or.inl (gm 1995 (by decide +kernel))⟩
set_option maxRecDepth 100000 in
theorem fML_5_30 : mlok gP (12, 439, 248) := ⟨mm_248, rfl, Or.inl (gm 1975 (by decide +kernel))⟩
set_option maxRecDepth 100000 in
theorem fML_5_31 : mlok gP (12, 442, 249) := ⟨mm_249, rfl, Or.inl (gm 1979 (by decide +kernel))⟩
set_option maxRecDepth 100000 in
theorem fML_5_32 : mlok gP (12, 446, 254) := ⟨mm_254, rfl, Or.inl (gm 1983 (by decide +kernel))⟩
set_option maxRecDepth 100000 in
theorem fML_5_33 : mlok gP (12, 450, 253) := ⟨mm_253, rfl, Or.inl (gm 2002 (by decide +kernel))⟩
set_option maxRecDepth 100000 in
theorem fML_5_34 : mlok gP (12, 453, 231) := ⟨mm_231, rfl, Or.inl (gm 2010 (by decide +kernel))⟩
set_option maxRecDepth 100000 in
theorem fML_5_35 : mlok gP (12, 456, 258) := ⟨mm_258, rfl, Or.inl (gm 2022 (by decide +kernel))⟩
set_option maxRecDepth 100000 in
theorem fML_5_36 : mlok gP (12, 459, 225) := ⟨mm_225, rfl, Or.inl (gm 2054 (by decide +kernel))⟩
set_option maxRecDepth 100000 in
theorem fML_5_37 : mlok gP (12, 462, 263) := ⟨mm_263, rfl, Or.inl (gm 2038 (by decide +kernel))⟩
set_option maxRecDepth 100000 in
theorem fML_5_38 : mlok gP (12, 465, 262) := ⟨mm_262, rfl, Or.inl (gm 2042 (by decide +kernel))⟩
set_option maxRecDepth 100000 in
theorem fML_5_39 : mlok gP (12, 468, 234) := ⟨mm_234, rfl, Or.inl (gm 2046 (by decide +kernel))⟩
set_option maxRecDepth 100000 in
theorem fML_c5 : ∀ t ∈ ([(12, 309, 219), (12, 312, 209), (12, 316, 207), (12, 319, 216), (12, 322, 201), (12, 325, 211), (12, 337, 212), (12, 341, 213), (12, 344, 215), (12, 348, 223), (12, 351, 220), (12, 357, 221), (12, 360, 224), (12, 363, 222), (12, 371, 226), (12, 375, 233), (12, 378, 236), (12, 381, 238), (12, 384, 239), (12, 388, 240), (12, 392, 237), (12, 396, 230), (12, 399, 242), (12, 402, 229), (12, 405, 241), (12, 409, 235), (12, 424, 247), (12, 428, 251), (12, 432, 250), (12, 435, 252), (12, 439, 248), (12, 442, 249), (12, 446, 254), (12, 450, 253), (12, 453, 231), (12, 456, 258), (12, 459, 225), (12, 462, 263), (12, 465, 262), (12, 468, 234)] : List (Nat × Nat × Nat)), mlok gP t := List.forall_mem_cons.mpr ⟨fML_5_0, List.forall_mem_cons.mpr ⟨fML_5_1, List.forall_mem_cons.mpr ⟨fML_5_2, List.forall_mem_cons.mpr ⟨fML_5_3, List.forall_mem_cons.mpr ⟨fML_5_4, List.forall_mem_cons.mpr ⟨fML_5_5, List.forall_mem_cons.mpr ⟨fML_5_6, List.forall_mem_cons.mpr ⟨fML_5_7, List.forall_mem_cons.mpr ⟨fML_5_8, List.forall_mem_cons.mpr ⟨fML_5_9, List.forall_mem_cons.mpr ⟨fML_5_10, List.forall_mem_cons.mpr ⟨fML_5_11, List.forall_mem_cons.mpr ⟨fML_5_12, List.forall_mem_cons.mpr ⟨fML_5_13, List.forall_mem_cons.mpr ⟨fML_5_14, List.forall_mem_cons.mpr ⟨fML_5_15, List.forall_mem_cons.mpr ⟨fML_5_16, List.forall_mem_cons.mpr ⟨fML_5_17, List.forall_mem_cons.mpr ⟨fML_5_18, List.forall_mem_cons.mpr ⟨fML_5_19, List.forall_mem_cons.mpr ⟨fML_5_20, List.forall_mem_cons.mpr ⟨fML_5_21, List.forall_mem_cons.mpr ⟨fML_5_22, List.forall_mem_cons.mpr ⟨fML_5_23, List.forall_mem_cons.mpr ⟨fML_5_24, List.forall_mem_cons.mpr ⟨fML_5_25, List.forall_mem_cons.mpr ⟨fML_5_26, List.forall_mem_cons.mpr ⟨fML_5_27, List.forall_mem_cons.mpr ⟨fML_5_28, List.forall_mem_cons.mpr ⟨fML_5_29, List.forall_mem_cons.mpr ⟨fML_5_30, List.forall_mem_cons.mpr ⟨fML_5_31, List.forall_mem_cons.mpr ⟨fML_5_32, List.forall_mem_cons.mpr ⟨fML_5_33, List.forall_mem_cons.mpr ⟨fML_5_34, List.forall_mem_cons.mpr ⟨fML_5_35, List.forall_mem_cons.mpr ⟨fML_5_36, List.forall_mem_cons.mpr ⟨fML_5_37, List.forall_mem_cons.mpr ⟨fML_5_38, List.forall_mem_cons.mpr ⟨fML_5_39, (fun _ h => by cases h)⟩⟩⟩⟩⟩⟩⟩⟩⟩⟩⟩⟩⟩⟩⟩⟩⟩⟩⟩⟩⟩⟩⟩⟩⟩⟩⟩⟩⟩⟩⟩⟩⟩⟩⟩⟩⟩⟩⟩⟩
set_option maxRecDepth 100000 in
theorem fML_6_0 : mlok gP (12, 471, 261) := ⟨mm_261, rfl, Or.inl (gm 2050 (by decide +kernel))⟩
set_option maxRecDepth 100000 in
theorem fML_6_1 : mlok gP (12, 474, 265) := ⟨mm_265, rfl, Or.inl (gm 2070 (by decide +kernel))⟩
set_option maxRecDepth 100000 in
theorem fML_6_2 : mlok gP (12, 477, 266) := ⟨mm_266, rfl, Or.inl (gm 2066 (by decide +kernel))⟩
set_option maxRecDepth 100000 in
theorem fML_6_3 : mlok gP (12, 480, 267) := ⟨mm_267, rfl, Or.inl (gm 2062 (by decide +kernel))⟩
set_option maxRecDepth 100000 in
theorem fML_6_4 : mlok gP (12, 484, 270) := ⟨mm_270, rfl, Or.inl (gm 2085 (by decide +kernel))⟩
set_option maxRecDepth 100000 in
theorem fML_6_5 : mlok gP (12, 487, 271) := ⟨mm_271, rfl, Or.inl (gm 2082 (by decide +kernel))⟩
set_option maxRecDepth 100000 in
theorem fML_6_6 : mlok gP (12, 490, 272) := ⟨mm_272, rfl, Or.inl (gm 2089 (by decide +kernel))⟩
set_option maxRecDepth 100000 in
theorem fML_6_7 : mlok gP (12, 495, 273) := ⟨mm_273, rfl, Or.inl (gm 2078 (by decide +kernel))⟩
set_option maxRecDepth 100000 in
theorem fML_6_8 : mlok gP (12, 498, 232) := ⟨mm_232, rfl, Or.inl (gm 2102 (by decide +kernel))⟩
set_option maxRecDepth 100000 in
theorem fML_6_9 : mlok gP (12, 502, 278) := ⟨mm_278, rfl, Or.inl (gm 2114 (by decide +kernel))⟩
set_option maxRecDepth 100000 in
theorem fML_6_10 : mlok gP (12, 508, 282) := ⟨mm_282, rfl, Or.inl (gm 2130 (by decide +kernel))⟩
set_option maxRecDepth 100000 in
theorem fML_6_11 : mlok gP (12, 517, 284) := ⟨mm_284, rfl, Or.inl (gm 2134 (by decide +kernel))⟩
set_option maxRecDepth 100000 in
theorem fML_6_12 : mlok gP (12, 520, 283) := ⟨mm_283, rfl, Or.inl (gm 2138 (by decide +kernel))⟩
set_option maxRecDepth 100000 in
theorem fML_6_13 : mlok gP (12, 523, 280) := ⟨mm_280, rfl, Or.inl (gm 2122 (by decide +kernel))⟩
set_option maxRecDepth 100000 in
theorem fML_6_14 : mlok gP (12, 526, 285) := ⟨mm_285, rfl, Or.inl (gm 2126 (by decide +kernel))⟩
set_option maxRecDepth 100000 in
theorem fML_6_15 : mlok gP (12, 529, 279) := ⟨mm_279, rfl, Or.inl (gm 2154 (by decide +kernel))⟩
set_option maxRecDepth 100000 in
theorem fML_6_16 : mlok gP (12, 532, 290) := ⟨mm_290, rfl, Or.inl (gm 2166 (by decide +kernel))⟩
set_option maxRecDepth 100000 in
theorem fML_6_17 : mlok gP (12, 535, 291) := ⟨mm_291, rfl, Or.inl (gm 2162 (by decide +kernel))⟩
set_option maxRecDepth 100000 in
theorem fML_6_18 : mlok gP (12, 538, 293) := ⟨mm_293, rfl, Or.inl (gm 2174 (by decide +kernel))⟩
set_option maxRecDepth 100000 in
theorem fML_6_19 : mlok gP (12, 541, 295) := ⟨mm_295, rfl, Or.inl (gm 2182 (by decide +kernel))⟩
set_option maxRecDepth 100000 in
theorem fML_6_20 : mlok gP (12, 544, 297) := ⟨mm_297, rfl, Or.inl (gm 2190 (by decide +kernel))⟩
set_option maxRecDepth 100000 in
theorem fML_6_21 : mlok gP (12, 547, 301) := ⟨mm_301, rfl, Or.inl (gm 2206 (by decide +kernel))⟩
set_option maxRecDepth 100000 in
theorem fML_6_22 : mlok gP (12, 550, 303) := ⟨mm_303, rfl, Or.inl (gm 2214 (by decide +kernel))⟩
set_option maxRecDepth 100000 in
theorem fML_6_23 : mlok gP (12, 553, 268) := ⟨mm_268, rfl, Or.inl (gm 2226 (by decide +kernel))⟩
set_option maxRecDepth 100000 in
theorem fML_6_24 : mlok gP (12, 556, 307) := ⟨mm_307, rfl, Or.inl (gm 2234 (by decide +kernel))⟩
set_option maxRecDepth 100000 in
theorem fML_6_25 : mlok gP (12, 559, 309) := ⟨mm_309, rfl, Or.inl (gm 2242 (by decide +kernel))⟩
set_option maxRecDepth 100000 in
theorem fML_6_26 : mlok gP (13, 9, 120) := ⟨mm_120, rfl, Or.inl (gm 171 (by decide +kernel))⟩
set_option maxRecDepth 100000 in
theorem fML_6_27 : mlok gP (13, 12, 187) := ⟨mm_187, rfl, Or.inl (gm 1503 (by decide +kernel))⟩
set_option maxRecDepth 100000 in
theorem fML_6_28 : mlok gP (13, 13, 127) := ⟨mm_127, rfl, Or.inl (gm 701 (by decide +kernel))⟩
set_option maxRecDepth 100000 in
theorem fML_6_29 : mlok gP (13, 17, 188) := ⟨mm_188, rfl, Or.inl (gm 1778 (by decide +kernel))⟩
set_option maxRecDepth 100000 in
theorem fML_6_30 : mlok gP (13, 18, 129) := ⟨mm_129, rfl, Or.inl (gm 709 (by decide +kernel))⟩
set_option maxRecDepth 100000 in
theorem fML_6_31 : mlok gP (13, 22, 190) := ⟨mm_190, rfl, Or.inl (gm 1786 (by decide +kernel))⟩
set_option maxRecDepth 100000 in
theorem fML_6_32 : mlok gP (13, 23, 130) := ⟨mm_130, rfl, Or.inl (gm 713 (by decide +kernel))⟩
set_option maxRecDepth 100000 in
theorem fML_6_33 : mlok gP (13, 27, 204) := ⟨mm_204, rfl, Or.inl (gm 1790 (by decide +kernel))⟩
set_option maxRecDepth 100000 in
theorem fML_6_34 : mlok gP (13, 28, 134) := ⟨mm_134, rfl, Or.inl (gm 1006 (by decide +kernel))⟩
set_option maxRecDepth 100000 in
theorem fML_6_35 : mlok gP (13, 31, 205) := ⟨mm_205, rfl, Or.inl (gm 1912 (by decide +kernel))⟩
set_option maxRecDepth 100000 in
theorem fML_6_36 : mlok gP (13, 32, 140) := ⟨mm_140, rfl, Or.inl (gm 1010 (by decide +kernel))⟩
set_option maxRecDepth 100000 in
theorem fML_6_37 : mlok gP (13, 36, 243) := ⟨mm_243, rfl, Or.inl (gm 1916 (by decide +kernel))⟩
set_option maxRecDepth 100000 in
theorem fML_6_38 : mlok gP (13, 37, 141) := ⟨mm_141, rfl, Or.inl (gm 1027 (by decide +kernel))⟩
set_option maxRecDepth 100000 in
theorem fML_6_39 : mlok gP (13, 40, 244) := ⟨mm_244, rfl, Or.inl (gm 1936 (by decide +kernel))⟩
set_option maxRecDepth 100000 in
theorem fML_c6 : ∀ t ∈ ([(12, 471, 261), (12, 474, 265), (12, 477, 266), (12, 480, 267), (12, 484, 270), (12, 487, 271), (12, 490, 272), (12, 495, 273), (12, 498, 232), (12, 502, 278), (12, 508, 282), (12, 517, 284), (12, 520, 283), (12, 523, 280), (12, 526, 285), (12, 529, 279), (12, 532, 290), (12, 535, 291), (12, 538, 293), (12, 541, 295), (12, 544, 297), (12, 547, 301), (12, 550, 303), (12, 553, 268), (12, 556, 307), (12, 559, 309), (13, 9, 120), (13, 12, 187), (13, 13, 127), (13, 17, 188), (13, 18, 129), (13, 22, 190), (13, 23, 130), (13, 27, 204), (13, 28, 134), (13, 31, 205), (13, 32, 140), (13, 36, 243), (13, 37, 141), (13, 40, 244)] : List (Nat × Nat × Nat)), mlok gP t := List.forall_mem_cons.mpr ⟨fML_6_0, List.forall_mem_cons.mpr ⟨fML_6_1, List.forall_mem_cons.mpr ⟨fML_6_2, List.forall_mem_cons.mpr ⟨fML_6_3, List.forall_mem_cons.mpr ⟨fML_6_4, List.forall_mem_cons.mpr ⟨fML_6_5, List.forall_mem_cons.mpr ⟨fML_6_6, List.forall_mem_cons.mpr ⟨fML_6_7, List.forall_mem_cons.mpr ⟨fML_6_8, List.forall_mem_cons.mpr ⟨fML_6_9, List.forall_mem_cons.mpr ⟨fML_6_10, List.forall_mem_cons.mpr ⟨fML_6_11, List.forall_mem_cons.mpr ⟨fML_6_12, List.forall_mem_cons.mpr ⟨fML_6_13, List.forall_mem_cons.mpr ⟨fML_6_14, List.forall_mem_cons.mpr ⟨fML_6_15, List.forall_mem_cons.mpr ⟨fML_6_16, List.forall_mem_cons.mpr ⟨fML_6_17, List.forall_mem_cons.mpr ⟨fML_6_18, List.forall_mem_cons.mpr ⟨fML_6_19, List.forall_mem_cons.mpr ⟨fML_6_20, List.forall_mem_cons.mpr ⟨fML_6_21, List.forall_mem_cons.mpr ⟨fML_6_22, List.forall_mem_cons.mpr ⟨fML_6_23, List.forall_mem_cons.mpr ⟨fML_6_24, List.forall_mem_cons.mpr ⟨fML_6_25, List.forall_mem_cons.mpr ⟨fML_6_26, List.forall_mem_cons.mpr ⟨fML_6_27, List.forall_mem_cons.mpr ⟨fML_6_28, List.forall_mem_cons.mpr ⟨fML_6_29, List.forall_mem_cons.mpr ⟨fML_6_30, List.forall_mem_cons.mpr ⟨fML_6_31, List.forall_mem_cons.mpr ⟨fML_6_32, List.forall_mem_cons.mpr ⟨fML_6_33, List.forall_mem_cons.mpr ⟨fML_6_34, List.forall_mem_cons.mpr ⟨fML_6_35, List.forall_mem_cons.mpr ⟨fML_6_36, List.forall_mem_cons.mpr ⟨fML_6_37, List.forall_mem_cons.mpr ⟨fML_6_38, List.forall_mem_cons.mpr ⟨fML_6_39, (fun _ h => by cases h)⟩⟩⟩⟩⟩⟩⟩⟩⟩⟩⟩⟩⟩⟩⟩⟩⟩⟩⟩⟩⟩⟩⟩⟩⟩⟩⟩⟩⟩⟩⟩⟩⟩⟩⟩⟩⟩⟩⟩⟩
set_option maxRecDepth 100000 in
theorem fML_7_0 : mlok gP (13, 41, 142) := ⟨mm_142, rfl, Or.inl (gm 1055 (by decide +kernel))⟩
set_option maxRecDepth 100000 in
theorem fML_7_1 : mlok gP (13, 45, 245) := ⟨mm_245, rfl, Or.inl (gm 1960 (by decide +kernel))⟩
set_option maxRecDepth 100000 in
theorem fML_7_2 : mlok gP (13, 46, 143) := ⟨mm_143, rfl, Or.inl (gm 1065 (by decide +kernel))⟩
set_option maxRecDepth 100000 in
theorem fML_7_3 : mlok gP (13, 49, 246) := ⟨mm_246, rfl, Or.inl (gm 1967 (by decide +kernel))⟩
set_option maxRecDepth 100000 in
theorem fML_7_4 : mlok gP (13, 50, 144) := ⟨mm_144, rfl, Or.inl (gm 1069 (by decide +kernel))⟩
set_option maxRecDepth 100000 in
theorem fML_7_5 : mlok gP (13, 53, 255) := ⟨mm_255, rfl, Or.inl (gm 1971 (by decide +kernel))⟩
set_option maxRecDepth 100000 in
theorem fML_7_6 : mlok gP (13, 54, 145) := ⟨mm_145, rfl, Or.inl (gm 1096 (by decide +kernel))⟩
set_option maxRecDepth 100000 in
theorem fML_7_7 : mlok gP (13, 57, 256) := ⟨mm_256, rfl, Or.inl (gm 2006 (by decide +kernel))⟩
set_option maxRecDepth 100000 in
theorem fML_7_8 : mlok gP (13, 58, 146) := ⟨mm_146, rfl, Or.inl (gm 1104 (by decide +kernel))⟩
set_option maxRecDepth 100000 in
theorem fML_7_9 : mlok gP (13, 61, 257) := ⟨mm_257, rfl, Or.inl (gm 2014 (by decide +kernel))⟩
set_option maxRecDepth 100000 in
theorem fML_7_10 : mlok gP (13, 62, 148) := ⟨mm_148, rfl, Or.inl (gm 1108 (by decide +kernel))⟩
set_option maxRecDepth 100000 in
theorem fML_7_11 : mlok gP (13, 66, 259) := ⟨mm_259, rfl, Or.inl (gm 2018 (by decide +kernel))⟩
set_option maxRecDepth 100000 in
theorem fML_7_12 : mlok gP (13, 67, 149) := ⟨mm_149, rfl, Or.inl (gm 1120 (by decide +kernel))⟩
set_option maxRecDepth 100000 in
theorem fML_7_13 : mlok gP (13, 71, 260) := ⟨mm_260, rfl, Or.inl (gm 2026 (by decide +kernel))⟩
set_option maxRecDepth 100000 in
theorem fML_7_14 : mlok gP (13, 72, 150) := ⟨mm_150, rfl, Or.inl (gm 1124 (by decide +kernel))⟩
set_option maxRecDepth 100000 in
theorem fML_7_15 : mlok gP (13, 75, 264) := ⟨mm_264, rfl, Or.inl (gm 2030 (by decide +kernel))⟩
set_option maxRecDepth 100000 in
theorem fML_7_16 : mlok gP (13, 76, 152) := ⟨mm_152, rfl, Or.inl (gm 1175 (by decide +kernel))⟩
set_option maxRecDepth 100000 in
theorem fML_7_17 : mlok gP (13, 79, 269) := ⟨mm_269, rfl, Or.inl (gm 2058 (by decide +kernel))⟩
set_option maxRecDepth 100000 in
theorem fML_7_18 : mlok gP (13, 80, 154) := ⟨mm_154, rfl, Or.inl (gm 1187 (by decide +kernel))⟩
set_option maxRecDepth 100000 in
theorem fML_7_19 : mlok gP (13, 83, 274) := ⟨mm_274, rfl, Or.inl (gm 2074 (by decide +kernel))⟩
set_option maxRecDepth 100000 in
theorem fML_7_20 : mlok gP (13, 84, 155) := ⟨mm_155, rfl, Or.inl (gm 1211 (by decide +kernel))⟩
set_option maxRecDepth 100000 in
theorem fML_7_21 : mlok gP (13, 88, 275) := ⟨mm_275, rfl, Or.inl (gm 2094 (by decide +kernel))⟩
set_option maxRecDepth 100000 in
theorem fML_7_22 : mlok gP (13, 89, 156) := ⟨mm_156, rfl, Or.inl (gm 1215 (by decide +kernel))⟩
set_option maxRecDepth 100000 in
theorem fML_7_23 : mlok gP (13, 92, 276) := ⟨mm_276, rfl, Or.inl (gm 2098 (by decide +kernel))⟩
set_option maxRecDepth 100000 in
theorem fML_7_24 : mlok gP (13, 93, 157) := ⟨mm_157, rfl, Or.inl (gm 1223 (by decide +kernel))⟩
set_option maxRecDepth 100000 in
theorem fML_7_25 : mlok gP (13, 96, 277) := ⟨mm_277, rfl, Or.inl (gm 2106 (by decide +kernel))⟩
set_option maxRecDepth 100000 in
theorem fML_7_26 : mlok gP (13, 97, 165) := ⟨mm_165, rfl, Or.inl (gm 1285 (by decide +kernel))⟩
set_option maxRecDepth 100000 in
theorem fML_7_27 : mlok gP (13, 101, 281) := ⟨mm_281, rfl, Or.inl (gm 2110 (by decide +kernel))⟩
set_option maxRecDepth 100000 in
theorem fML_7_28 : mlok gP (13, 102, 166) := ⟨mm_166, rfl, Or.inl (gm 1289 (by decide +kernel))⟩
set_option maxRecDepth 100000 in
theorem fML_7_29 : mlok gP (13, 105, 286) := ⟨mm_286, rfl, Or.inl (gm 2118 (by decide +kernel))⟩
set_option maxRecDepth 100000 in
theorem fML_7_30 : mlok gP (13, 106, 167) := ⟨mm_167, rfl, Or.inl (gm 1358 (by decide +kernel))⟩
set_option maxRecDepth 100000 in
theorem fML_7_31 : mlok gP (13, 109, 287) := ⟨mm_287, rfl, Or.inl (gm 2142 (by decide +kernel))⟩
set_option maxRecDepth 100000 in
theorem fML_7_32 : mlok gP (13, 110, 168) := ⟨mm_168, rfl, Or.inl (gm 1366 (by decide +kernel))⟩
set_option maxRecDepth 100000 in
theorem fML_7_33 : mlok gP (13, 113, 288) := ⟨mm_288, rfl, Or.inl (gm 2146 (by decide +kernel))⟩
set_option maxRecDepth 100000 in
theorem fML_7_34 : mlok gP (13, 114, 169) := ⟨mm_169, rfl, Or.inl (gm 1370 (by decide +kernel))⟩
set_option maxRecDepth 100000 in
theorem fML_7_35 : mlok gP (13, 118, 289) := ⟨mm_289, rfl, Or.inl (gm 2150 (by decide +kernel))⟩
set_option maxRecDepth 100000 in
theorem fML_7_36 : mlok gP (13, 119, 170) := ⟨mm_170, rfl, Or.inl (gm 1409 (by decide +kernel))⟩
set_option maxRecDepth 100000 in
theorem fML_7_37 : mlok gP (13, 122, 292) := ⟨mm_292, rfl, Or.inl (gm 2158 (by decide +kernel))⟩
set_option maxRecDepth 100000 in
theorem fML_7_38 : mlok gP (13, 123, 171) := ⟨mm_171, rfl, Or.inl (gm 1425 (by decide +kernel))⟩
set_option maxRecDepth 100000 in
theorem fML_7_39 : mlok gP (13, 126, 294) := ⟨mm_294, rfl, Or.inl (gm 2170 (by decide +kernel))⟩
set_option maxRecDepth 100000 in
theorem fML_c7 : ∀ t ∈ ([(13, 41, 142), (13, 45, 245), (13, 46, 143), (13, 49, 246), (13, 50, 144), (13, 53, 255), (13, 54, 145), (13, 57, 256), (13, 58, 146), (13, 61, 257), (13, 62, 148), (13, 66, 259), (13, 67, 149), (13, 71, 260), (13, 72, 150), (13, 75, 264), (13, 76, 152), (13, 79, 269), (13, 80, 154), (13, 83, 274), (13, 84, 155), (13, 88, 275), (13, 89, 156), (13, 92, 276), (13, 93, 157), (13, 96, 277), (13, 97, 165), (13, 101, 281), (13, 102, 166), (13, 105, 286), (13, 106, 167), (13, 109, 287), (13, 110, 168), (13, 113, 288), (13, 114, 169), (13, 118, 289), (13, 119, 170), (13, 122, 292), (13, 123, 171), (13, 126, 294)] : List (Nat × Nat × Nat)), mlok gP t := List.forall_mem_cons.mpr ⟨fML_7_0, List.forall_mem_cons.mpr ⟨fML_7_1, List.forall_mem_cons.mpr ⟨fML_7_2, List.forall_mem_cons.mpr ⟨fML_7_3, List.forall_mem_cons.mpr ⟨fML_7_4, List.forall_mem_cons.mpr ⟨fML_7_5, List.forall_mem_cons.mpr ⟨fML_7_6, List.forall_mem_cons.mpr ⟨fML_7_7, List.forall_mem_cons.mpr ⟨fML_7_8, List.forall_mem_cons.mpr ⟨fML_7_9, List.forall_mem_cons.mpr ⟨fML_7_10, List.forall_mem_cons.mpr ⟨fML_7_11, List.forall_mem_cons.mpr ⟨fML_7_12, List.forall_mem_cons.mpr ⟨fML_7_13, List.forall_mem_cons.mpr ⟨fML_7_14, List.forall_mem_cons.mpr ⟨fML_7_15, List.forall_mem_cons.mpr ⟨fML_7_16, List.forall_mem_cons.mpr ⟨fML_7_17, List.forall_mem_cons.mpr ⟨fML_7_18, List.forall_mem_cons.mpr ⟨fML_7_19, List.forall_mem_cons.mpr ⟨fML_7_20, List.forall_mem_cons.mpr ⟨fML_7_21, List.forall_mem_cons.mpr ⟨fML_7_22, List.forall_mem_cons.mpr ⟨fML_7_23, List.forall_mem_cons.mpr ⟨fML_7_24, List.forall_mem_cons.mpr ⟨fML_7_25, List.forall_mem_cons.mpr ⟨fML_7_26, List.forall_mem_cons.mpr ⟨fML_7_27, List.forall_mem_cons.mpr ⟨fML_7_28, List.forall_mem_cons.mpr ⟨fML_7_29, List.forall_mem_cons.mpr ⟨fML_7_30, List.forall_mem_cons.mpr ⟨fML_7_31, List.forall_mem_cons.mpr ⟨fML_7_32, List.forall_mem_cons.mpr ⟨fML_7_33, List.forall_mem_cons.mpr ⟨fML_7_34, List.forall_mem_cons.mpr ⟨fML_7_35, List.forall_mem_cons.mpr ⟨fML_7_36, List.forall_mem_cons.mpr ⟨fML_7_37, List.forall_mem_cons.mpr ⟨fML_7_38, List.forall_mem_cons.mpr ⟨fML_7_39, (fun _ h => by cases h)⟩⟩⟩⟩⟩⟩⟩⟩⟩⟩⟩⟩⟩⟩⟩⟩⟩⟩⟩⟩⟩⟩⟩⟩⟩⟩⟩⟩⟩⟩⟩⟩⟩⟩⟩⟩⟩⟩⟩⟩
set_option maxRecDepth 100000 in
theorem fML_8_0 : mlok gP (13, 127, 172) := ⟨mm_172, rfl, Or.inl (gm 1433 (by decide +kernel))⟩
set_option maxRecDepth 100000 in
theorem fML_8_1 : mlok gP (13, 130, 296) := ⟨mm_296, rfl, Or.inl (gm 2178 (by decide +kernel))⟩
set_option maxRecDepth 100000 in
theorem fML_8_2 : mlok gP (13, 131, 174) := ⟨mm_174, rfl, Or.inl (gm 1446 (by decide +kernel))⟩
set_option maxRecDepth 100000 in
theorem fML_8_3 : mlok gP (13, 134, 298) := ⟨mm_298, rfl, Or.inl (gm 2186 (by decide +kernel))⟩
set_option maxRecDepth 100000 in
theorem fML_8_4 : mlok gP (13, 135, 176) := ⟨mm_176, rfl, Or.inl (gm 1453 (by decide +kernel))⟩
set_option maxRecDepth 100000 in
theorem fML_8_5 : mlok gP (13, 138, 299) := ⟨mm_299, rfl, Or.inl (gm 2194 (by decide +kernel))⟩
set_option maxRecDepth 100000 in
theorem fML_8_6 : mlok gP (13, 139, 177) := ⟨mm_177, rfl, Or.inl (gm 1457 (by decide +kernel))⟩
set_option maxRecDepth 100000 in
theorem fML_8_7 : mlok gP (13, 142, 300) := ⟨mm_300, rfl, Or.inl (gm 2198 (by decide +kernel))⟩
set_option maxRecDepth 100000 in
theorem fML_8_8 : mlok gP (13, 143, 173) := ⟨mm_173, rfl, Or.inl (gm 1442 (by decide +kernel))⟩
set_option maxRecDepth 100000 in
theorem fML_8_9 : mlok gP (13, 146, 302) := ⟨mm_302, rfl, Or.inl (gm 2202 (by decide +kernel))⟩
set_option maxRecDepth 100000 in
theorem fML_8_10 : mlok gP (13, 147, 159) := ⟨mm_159, rfl, Or.inl (gm 1255 (by decide +kernel))⟩
set_option maxRecDepth 100000 in
theorem fML_8_11 : mlok gP (13, 150, 304) := ⟨mm_304, rfl, Or.inl (gm 2210 (by decide +kernel))⟩
set_option maxRecDepth 100000 in
theorem fML_8_12 : mlok gP (13, 151, 160) := ⟨mm_160, rfl, Or.inl (gm 1268 (by decide +kernel))⟩
set_option maxRecDepth 100000 in
theorem fML_8_13 : mlok gP (13, 154, 306) := ⟨mm_306, rfl, Or.inl (gm 2222 (by decide +kernel))⟩
set_option maxRecDepth 100000 in
theorem fML_8_14 : mlok gP (13, 155, 180) := ⟨mm_180, rfl, Or.inl (gm 1461 (by decide +kernel))⟩
set_option maxRecDepth 100000 in
theorem fML_8_15 : mlok gP (13, 158, 310) := ⟨mm_310, rfl, Or.inl (gm 2238 (by decide +kernel))⟩
set_option maxRecDepth 100000 in
theorem fML_8_16 : mlok gP (13, 159, 161) := ⟨mm_161, rfl, Or.inl (gm 1273 (by decide +kernel))⟩
set_option maxRecDepth 100000 in
theorem fML_8_17 : mlok gP (13, 162, 308) := ⟨mm_308, rfl, Or.inl (gm 2230 (by decide +kernel))⟩
set_option maxRecDepth 100000 in
theorem fML_8_18 : mlok gP (13, 163, 162) := ⟨mm_162, rfl, Or.inl (gm 1281 (by decide +kernel))⟩
set_option maxRecDepth 100000 in
theorem fML_8_19 : mlok gP (13, 166, 305) := ⟨mm_305, rfl, Or.inl (gm 2218 (by decide +kernel))⟩
set_option maxRecDepth 100000 in
theorem fML_8_20 : mlok gP (13, 167, 181) := ⟨mm_181, rfl, Or.inl (gm 1472 (by decide +kernel))⟩
set_option maxRecDepth 100000 in
theorem fML_8_21 : mlok gP (13, 170, 312) := ⟨mm_312, rfl, Or.inl (gm 2250 (by decide +kernel))⟩
set_option maxRecDepth 100000 in
theorem fML_8_22 : mlok gP (13, 171, 182) := ⟨mm_182, rfl, Or.inl (gm 1477 (by decide +kernel))⟩
set_option maxRecDepth 100000 in
theorem fML_8_23 : mlok gP (13, 174, 311) := ⟨mm_311, rfl, Or.inl (gm 2246 (by decide +kernel))⟩
set_option maxRecDepth 100000 in
theorem fML_8_24 : mlok gP (13, 175, 183) := ⟨mm_183, rfl, Or.inl (gm 1485 (by decide +kernel))⟩
set_option maxRecDepth 100000 in
theorem fML_8_25 : mlok gP (13, 178, 313) := ⟨mm_313, rfl, Or.inl (gm 2254 (by decide +kernel))⟩
set_option maxRecDepth 100000 in
theorem fML_8_26 : mlok gP (13, 179, 184) := ⟨mm_184, rfl, Or.inl (gm 1489 (by decide +kernel))⟩
set_option maxRecDepth 100000 in
theorem fML_8_27 : mlok gP (13, 182, 314) := ⟨mm_314, rfl, Or.inl (gm 2258 (by decide +kernel))⟩
set_option maxRecDepth 100000 in
theorem fML_8_28 : mlok gP (13, 183, 185) := ⟨mm_185, rfl, Or.inl (gm 1493 (by decide +kernel))⟩
set_option maxRecDepth 100000 in
theorem fML_8_29 : mlok gP (13, 186, 315) := ⟨mm_315, rfl, Or.inl (gm 2262 (by decide +kernel))⟩
set_option maxRecDepth 100000 in
theorem fML_c8 : ∀ t ∈ ([(13, 127, 172), (13, 130, 296), (13, 131, 174), (13, 134, 298), (13, 135, 176), (13, 138, 299), (13, 139, 177), (13, 142, 300), (13, 143, 173), (13, 146, 302), (13, 147, 159), (13, 150, 304), (13, 151, 160), (13, 154, 306), (13, 155, 180), (13, 158, 310), (13, 159, 161), (13, 162, 308), (13, 163, 162), (13, 166, 305), (13, 167, 181), (13, 170, 312), (13, 171, 182), (13, 174, 311), (13, 175, 183), (13, 178, 313), (13, 179, 184), (13, 182, 314), (13, 183, 185), (13, 186, 315)] : List (Nat × Nat × Nat)), mlok gP t := List.forall_mem_cons.mpr ⟨fML_8_0, List.forall_mem_cons.mpr ⟨fML_8_1, List.forall_mem_cons.mpr ⟨fML_8_2, List.forall_mem_cons.mpr ⟨fML_8_3, List.forall_mem_cons.mpr ⟨fML_8_4, List.forall_mem_cons.mpr ⟨fML_8_5, List.forall_mem_cons.mpr ⟨fML_8_6, List.forall_mem_cons.mpr ⟨fML_8_7, List.forall_mem_cons.mpr ⟨fML_8_8, List.forall_mem_cons.mpr ⟨fML_8_9, List.forall_mem_cons.mpr ⟨fML_8_10, List.forall_mem_cons.mpr ⟨fML_8_11, List.forall_mem_cons.mpr ⟨fML_8_12, List.forall_mem_cons.mpr ⟨fML_8_13, List.forall_mem_cons.mpr ⟨fML_8_14, List.forall_mem_cons.mpr ⟨fML_8_15, List.forall_mem_cons.mpr ⟨fML_8_16, List.forall_mem_cons.mpr ⟨fML_8_17, List.forall_mem_cons.mpr ⟨fML_8_18, List.forall_mem_cons.mpr ⟨fML_8_19, List.forall_mem_cons.mpr ⟨fML_8_20, List.forall_mem_cons.mpr ⟨fML_8_21, List.forall_mem_cons.mpr ⟨fML_8_22, List.forall_mem_cons.mpr ⟨fML_8_23, List.forall_mem_cons.mpr ⟨fML_8_24, List.forall_mem_cons.mpr ⟨fML_8_25, List.forall_mem_cons.mpr ⟨fML_8_26, List.forall_mem_cons.mpr ⟨fML_8_27, List.forall_mem_cons.mpr ⟨fML_8_28, List.forall_mem_cons.mpr ⟨fML_8_29, (fun _ h => by cases h)⟩⟩⟩⟩⟩⟩⟩⟩⟩⟩⟩⟩⟩⟩⟩⟩⟩⟩⟩⟩⟩⟩⟩⟩⟩⟩⟩⟩⟩⟩
set_option maxRecDepth 100000 in
theorem fML_all : ∀ t ∈ tML, mlok gP t := List.forall_mem_append.mpr ⟨fML_c0, List.forall_mem_append.mpr ⟨fML_c1, List.forall_mem_append.mpr ⟨fML_c2, List.forall_mem_append.mpr ⟨fML_c3, List.forall_mem_append.mpr ⟨fML_c4, List.forall_mem_append.mpr ⟨fML_c5, List.forall_mem_append.mpr ⟨fML_c6, List.forall_mem_append.mpr ⟨fML_c7, fML_c8⟩⟩⟩⟩⟩⟩⟩⟩
set_option maxRecDepth 100000 in
theorem fKC_0_0 : kcok (6, 100, 1103515245) := ⟨gm 1205 (by decide +kernel), by decide, by decide⟩
set_option maxRecDepth 100000 in
theorem fKC_0_1 : kcok (12, 483, 1103515245) := ⟨gm 2088 (by decide +kernel), by decide, by decide⟩
set_option maxRecDepth 100000 in
theorem fKC_0_2 : kcok (14, 265, 1431655765) := ⟨gm 1062 (by decide +kernel), by decide, by decide⟩
set_option maxRecDepth 100000 in
theorem fKC_0_3 : kcok (14, 266, 858993459) := ⟨gm 1063 (by decide +kernel), by decide, by decide⟩
set_option maxRecDepth 100000 in
theorem fKC_0_4 : kcok (14, 267, 252645135) := ⟨gm 1064 (by decide +kernel), by decide, by decide⟩
set_option maxRecDepth 100000 in
theorem fKC_c0 : ∀ t ∈ ([(6, 100, 1103515245), (12, 483, 1103515245), (14, 265, 1431655765), (14, 266, 858993459), (14, 267, 252645135)] : List (Nat × Nat × Int)), kcok t := List.forall_mem_cons.mpr ⟨fKC_0_0, List.forall_mem_cons.mpr ⟨fKC_0_1, List.forall_mem_cons.mpr ⟨fKC_0_2, List.forall_mem_cons.mpr ⟨fKC_0_3, List.forall_mem_cons.mpr ⟨fKC_0_4, (fun _ h => by cases h)⟩⟩⟩⟩⟩
set_option maxRecDepth 100000 in
theorem fKC_all : ∀ t ∈ tKC, kcok t := fKC_c0
set_option maxRecDepth 100000 in
theorem fKL_0_0 : klok (1, 72, (-7046029254386353131)) := ⟨gm 1254 (by decide +kernel), by decide, by decide⟩
set_option maxRecDepth 100000 in
theorem fKL_0_1 : klok (7, 36, 35468117025) := ⟨gm 1050 (by decide +kernel), by decide, by decide⟩
set_option maxRecDepth 100000 in
theorem fKL_0_2 : klok (7, 38, (-1)) := ⟨gm 1051 (by decide +kernel), by decide, by decide⟩
set_option maxRecDepth 100000 in
theorem fKL_0_3 : klok (7, 40, 567489872400) := ⟨gm 1052 (by decide +kernel), by decide, by decide⟩
set_option maxRecDepth 100000 in
theorem fKL_0_4 : klok (12, 214, 27) := ⟨gm 1513 (by decide +kernel), by decide, by decide⟩
set_option maxRecDepth 100000 in
theorem fKL_0_5 : klok (12, 329, 26) := ⟨gm 1860 (by decide +kernel), by decide, by decide⟩
set_option maxRecDepth 100000 in
theorem fKL_0_6 : klok (12, 493, 2) := ⟨gm 2093 (by decide +kernel), by decide, by decide⟩
set_option maxRecDepth 100000 in
theorem fKL_c0 : ∀ t ∈ ([(1, 72, (-7046029254386353131)), (7, 36, 35468117025), (7, 38, (-1)), (7, 40, 567489872400), (12, 214, 27), (12, 329, 26), (12, 493, 2)] : List (Nat × Nat × Int)), klok t := List.forall_mem_cons.mpr ⟨fKL_0_0, List.forall_mem_cons.mpr ⟨fKL_0_1, List.forall_mem_cons.mpr ⟨fKL_0_2, List.forall_mem_cons.mpr ⟨fKL_0_3, List.forall_mem_cons.mpr ⟨fKL_0_4, List.forall_mem_cons.mpr ⟨fKL_0_5, List.forall_mem_cons.mpr ⟨fKL_0_6, (fun _ h => by cases h)⟩⟩⟩⟩⟩⟩⟩
set_option maxRecDepth 100000 in
theorem fKL_all : ∀ t ∈ tKL, klok t := fKL_c0
set_option maxRecDepth 100000 in
theorem fCL_0_0 : clok (9, 23, 7) := ⟨(RX7, TX7, 5), rfl, by decide, gm 290 (by decide +kernel), gm 291 (by decide +kernel), gm 155 (by decide +kernel)⟩
set_option maxRecDepth 100000 in
theorem fCL_0_1 : clok (9, 30, 3) := ⟨(RX3, TX3, 3), rfl, by decide, gm 317 (by decide +kernel), gm 318 (by decide +kernel), gm 156 (by decide +kernel)⟩
set_option maxRecDepth 100000 in
theorem fCL_0_2 : clok (9, 64, 0) := ⟨(RX0, TX0, 6), rfl, by decide, gm 339 (by decide +kernel), gm 340 (by decide +kernel), gm 157 (by decide +kernel)⟩
set_option maxRecDepth 100000 in
theorem fCL_0_3 : clok (11, 20, 4) := ⟨(RX4, TX4, 9), rfl, by decide, gm 177 (by decide +kernel), gm 178 (by decide +kernel), gm 148 (by decide +kernel)⟩
set_option maxRecDepth 100000 in
theorem fCL_0_4 : clok (11, 27, 8) := ⟨(RX8, TX8, 4), rfl, by decide, gm 264 (by decide +kernel), gm 265 (by decide +kernel), gm 153 (by decide +kernel)⟩
set_option maxRecDepth 100000 in
theorem fCL_0_5 : clok (11, 36, 9) := ⟨(RX9, TX9, 16), rfl, by decide, gm 284 (by decide +kernel), gm 285 (by decide +kernel), gm 154 (by decide +kernel)⟩
set_option maxRecDepth 100000 in
theorem fCL_0_6 : clok (11, 46, 6) := ⟨(RX6, TX6, 9), rfl, by decide, gm 455 (by decide +kernel), gm 456 (by decide +kernel), gm 158 (by decide +kernel)⟩
set_option maxRecDepth 100000 in
theorem fCL_0_7 : clok (11, 72, 10) := ⟨(RX10, TX10, 3), rfl, by decide, gm 501 (by decide +kernel), gm 502 (by decide +kernel), gm 159 (by decide +kernel)⟩
set_option maxRecDepth 100000 in
theorem fCL_0_8 : clok (11, 79, 1) := ⟨(RX1, TX1, 7), rfl, by decide, gm 520 (by decide +kernel), gm 521 (by decide +kernel), gm 160 (by decide +kernel)⟩
set_option maxRecDepth 100000 in
theorem fCL_0_9 : clok (11, 86, 5) := ⟨(RX5, TX5, 7), rfl, by decide, gm 548 (by decide +kernel), gm 549 (by decide +kernel), gm 161 (by decide +kernel)⟩
set_option maxRecDepth 100000 in
theorem fCL_0_10 : clok (11, 93, 2) := ⟨(RX2, TX2, 13), rfl, by decide, gm 577 (by decide +kernel), gm 578 (by decide +kernel), gm 162 (by decide +kernel)⟩
set_option maxRecDepth 100000 in
theorem fCL_0_11 : clok (13, 7, 11) := ⟨(RX11, TX11, 20), rfl, by decide, gm 169 (by decide +kernel), gm 170 (by decide +kernel), gm 147 (by decide +kernel)⟩
set_option maxRecDepth 100000 in
theorem fCL_0_12 : clok (13, 10, 12) := ⟨(RX12, TX12, 85), rfl, by decide, gm 1501 (by decide +kernel), gm 1502 (by decide +kernel), gm 165 (by decide +kernel)⟩
set_option maxRecDepth 100000 in
theorem fCL_c0 : ∀ t ∈ ([(9, 23, 7), (9, 30, 3), (9, 64, 0), (11, 20, 4), (11, 27, 8), (11, 36, 9), (11, 46, 6), (11, 72, 10), (11, 79, 1), (11, 86, 5), (11, 93, 2), (13, 7, 11), (13, 10, 12)] : List (Nat × Nat × Nat)), clok t := List.forall_mem_cons.mpr ⟨fCL_0_0, List.forall_mem_cons.mpr ⟨fCL_0_1, List.forall_mem_cons.mpr ⟨fCL_0_2, List.forall_mem_cons.mpr ⟨fCL_0_3, List.forall_mem_cons.mpr ⟨fCL_0_4, List.forall_mem_cons.mpr ⟨fCL_0_5, List.forall_mem_cons.mpr ⟨fCL_0_6, List.forall_mem_cons.mpr ⟨fCL_0_7, List.forall_mem_cons.mpr ⟨fCL_0_8, List.forall_mem_cons.mpr ⟨fCL_0_9, List.forall_mem_cons.mpr ⟨fCL_0_10, List.forall_mem_cons.mpr ⟨fCL_0_11, List.forall_mem_cons.mpr ⟨fCL_0_12, (fun _ h => by cases h)⟩⟩⟩⟩⟩⟩⟩⟩⟩⟩⟩⟩⟩
set_option maxRecDepth 100000 in
theorem fCL_all : ∀ t ∈ tCL, clok t := fCL_c0
