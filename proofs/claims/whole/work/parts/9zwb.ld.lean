def kL_law_r4 : List (Nat × Instr × Nat) := [(350, .aload_n 0, 1), (351, .iload 4, 2), (353, .iconst 2, 1), (354, .iadd, 1), (355, .iaload, 1), (356, .invokevirtual 129, 3), (359, .istore 6, 2), (361, .aload_n 2, 1), (362, .invokevirtual 122, 3), (365, .iload 5, 2), (367, .if_icmp .eq 5, 3), (370, .iconst 0, 1), (371, .ireturn, 1), (372, .iload 5, 2), (374, .ifCond .ne 15, 3), (377, .aload_n 3, 1), (378, .iconst 0, 1), (379, .laload, 1), (380, .iload 6, 2), (382, .i2l, 1), (383, .lcmp, 1), (384, .ifCond .eq 5, 3), (387, .iconst 0, 1), (388, .ireturn, 1), (389, .goto 2095, 3), (392, .aload_n 1, 1), (393, .aload_n 0, 1), (394, .iload 4, 2), (396, .iconst 1, 1), (397, .iadd, 1)]
set_option maxRecDepth 100000 in
theorem kL_law_r4_ok : kL_law_r4.all (fun q => decide (decode cL_law_ q.1 = .ok q.2)) = true := by decide +kernel
theorem dL_law__350 : decode cL_law_ 350 = .ok (.aload_n 0, 1) := dk_get kL_law_r4_ok 0 rfl
theorem dL_law__351 : decode cL_law_ 351 = .ok (.iload 4, 2) := dk_get kL_law_r4_ok 1 rfl
theorem dL_law__353 : decode cL_law_ 353 = .ok (.iconst 2, 1) := dk_get kL_law_r4_ok 2 rfl
theorem dL_law__354 : decode cL_law_ 354 = .ok (.iadd, 1) := dk_get kL_law_r4_ok 3 rfl
theorem dL_law__355 : decode cL_law_ 355 = .ok (.iaload, 1) := dk_get kL_law_r4_ok 4 rfl
theorem dL_law__356 : decode cL_law_ 356 = .ok (.invokevirtual 129, 3) := dk_get kL_law_r4_ok 5 rfl
theorem dL_law__359 : decode cL_law_ 359 = .ok (.istore 6, 2) := dk_get kL_law_r4_ok 6 rfl
theorem dL_law__361 : decode cL_law_ 361 = .ok (.aload_n 2, 1) := dk_get kL_law_r4_ok 7 rfl
theorem dL_law__362 : decode cL_law_ 362 = .ok (.invokevirtual 122, 3) := dk_get kL_law_r4_ok 8 rfl
theorem dL_law__365 : decode cL_law_ 365 = .ok (.iload 5, 2) := dk_get kL_law_r4_ok 9 rfl
theorem dL_law__367 : decode cL_law_ 367 = .ok (.if_icmp .eq 5, 3) := dk_get kL_law_r4_ok 10 rfl
theorem dL_law__370 : decode cL_law_ 370 = .ok (.iconst 0, 1) := dk_get kL_law_r4_ok 11 rfl
theorem dL_law__371 : decode cL_law_ 371 = .ok (.ireturn, 1) := dk_get kL_law_r4_ok 12 rfl
theorem dL_law__372 : decode cL_law_ 372 = .ok (.iload 5, 2) := dk_get kL_law_r4_ok 13 rfl
theorem dL_law__374 : decode cL_law_ 374 = .ok (.ifCond .ne 15, 3) := dk_get kL_law_r4_ok 14 rfl
theorem dL_law__377 : decode cL_law_ 377 = .ok (.aload_n 3, 1) := dk_get kL_law_r4_ok 15 rfl
theorem dL_law__378 : decode cL_law_ 378 = .ok (.iconst 0, 1) := dk_get kL_law_r4_ok 16 rfl
theorem dL_law__379 : decode cL_law_ 379 = .ok (.laload, 1) := dk_get kL_law_r4_ok 17 rfl
theorem dL_law__380 : decode cL_law_ 380 = .ok (.iload 6, 2) := dk_get kL_law_r4_ok 18 rfl
theorem dL_law__382 : decode cL_law_ 382 = .ok (.i2l, 1) := dk_get kL_law_r4_ok 19 rfl
theorem dL_law__383 : decode cL_law_ 383 = .ok (.lcmp, 1) := dk_get kL_law_r4_ok 20 rfl
theorem dL_law__384 : decode cL_law_ 384 = .ok (.ifCond .eq 5, 3) := dk_get kL_law_r4_ok 21 rfl
theorem dL_law__387 : decode cL_law_ 387 = .ok (.iconst 0, 1) := dk_get kL_law_r4_ok 22 rfl
theorem dL_law__388 : decode cL_law_ 388 = .ok (.ireturn, 1) := dk_get kL_law_r4_ok 23 rfl
theorem dL_law__389 : decode cL_law_ 389 = .ok (.goto 2095, 3) := dk_get kL_law_r4_ok 24 rfl
theorem dL_law__392 : decode cL_law_ 392 = .ok (.aload_n 1, 1) := dk_get kL_law_r4_ok 25 rfl
theorem dL_law__393 : decode cL_law_ 393 = .ok (.aload_n 0, 1) := dk_get kL_law_r4_ok 26 rfl
theorem dL_law__394 : decode cL_law_ 394 = .ok (.iload 4, 2) := dk_get kL_law_r4_ok 27 rfl
theorem dL_law__396 : decode cL_law_ 396 = .ok (.iconst 1, 1) := dk_get kL_law_r4_ok 28 rfl
theorem dL_law__397 : decode cL_law_ 397 = .ok (.iadd, 1) := dk_get kL_law_r4_ok 29 rfl
def kL_law_r5 : List (Nat × Instr × Nat) := [(398, .iaload, 1), (399, .aload_n 0, 1), (400, .iload 4, 2), (402, .iconst 2, 1), (403, .iadd, 1), (404, .iaload, 1), (405, .aload_n 0, 1), (406, .iload 4, 2), (408, .iconst 3, 1), (409, .iadd, 1), (410, .iaload, 1), (411, .aload_n 3, 1), (412, .invokestatic 130, 3), (415, .istore 5, 2), (417, .aload_n 2, 1), (418, .aload_n 0, 1), (419, .iload 4, 2), (421, .iconst 1, 1), (422, .iadd, 1), (423, .iaload, 1), (424, .aload_n 0, 1), (425, .iload 4, 2), (427, .iconst 2, 1), (428, .iadd, 1), (429, .iaload, 1), (430, .aload_n 0, 1), (431, .iload 4, 2), (433, .iconst 3, 1), (434, .iadd, 1), (435, .iaload, 1)]
set_option maxRecDepth 100000 in
theorem kL_law_r5_ok : kL_law_r5.all (fun q => decide (decode cL_law_ q.1 = .ok q.2)) = true := by decide +kernel
theorem dL_law__398 : decode cL_law_ 398 = .ok (.iaload, 1) := dk_get kL_law_r5_ok 0 rfl
theorem dL_law__399 : decode cL_law_ 399 = .ok (.aload_n 0, 1) := dk_get kL_law_r5_ok 1 rfl
theorem dL_law__400 : decode cL_law_ 400 = .ok (.iload 4, 2) := dk_get kL_law_r5_ok 2 rfl
theorem dL_law__402 : decode cL_law_ 402 = .ok (.iconst 2, 1) := dk_get kL_law_r5_ok 3 rfl
theorem dL_law__403 : decode cL_law_ 403 = .ok (.iadd, 1) := dk_get kL_law_r5_ok 4 rfl
theorem dL_law__404 : decode cL_law_ 404 = .ok (.iaload, 1) := dk_get kL_law_r5_ok 5 rfl
theorem dL_law__405 : decode cL_law_ 405 = .ok (.aload_n 0, 1) := dk_get kL_law_r5_ok 6 rfl
theorem dL_law__406 : decode cL_law_ 406 = .ok (.iload 4, 2) := dk_get kL_law_r5_ok 7 rfl
theorem dL_law__408 : decode cL_law_ 408 = .ok (.iconst 3, 1) := dk_get kL_law_r5_ok 8 rfl
theorem dL_law__409 : decode cL_law_ 409 = .ok (.iadd, 1) := dk_get kL_law_r5_ok 9 rfl
theorem dL_law__410 : decode cL_law_ 410 = .ok (.iaload, 1) := dk_get kL_law_r5_ok 10 rfl
theorem dL_law__411 : decode cL_law_ 411 = .ok (.aload_n 3, 1) := dk_get kL_law_r5_ok 11 rfl
theorem dL_law__412 : decode cL_law_ 412 = .ok (.invokestatic 130, 3) := dk_get kL_law_r5_ok 12 rfl
theorem dL_law__415 : decode cL_law_ 415 = .ok (.istore 5, 2) := dk_get kL_law_r5_ok 13 rfl
theorem dL_law__417 : decode cL_law_ 417 = .ok (.aload_n 2, 1) := dk_get kL_law_r5_ok 14 rfl
theorem dL_law__418 : decode cL_law_ 418 = .ok (.aload_n 0, 1) := dk_get kL_law_r5_ok 15 rfl
theorem dL_law__419 : decode cL_law_ 419 = .ok (.iload 4, 2) := dk_get kL_law_r5_ok 16 rfl
theorem dL_law__421 : decode cL_law_ 421 = .ok (.iconst 1, 1) := dk_get kL_law_r5_ok 17 rfl
theorem dL_law__422 : decode cL_law_ 422 = .ok (.iadd, 1) := dk_get kL_law_r5_ok 18 rfl
theorem dL_law__423 : decode cL_law_ 423 = .ok (.iaload, 1) := dk_get kL_law_r5_ok 19 rfl
theorem dL_law__424 : decode cL_law_ 424 = .ok (.aload_n 0, 1) := dk_get kL_law_r5_ok 20 rfl
theorem dL_law__425 : decode cL_law_ 425 = .ok (.iload 4, 2) := dk_get kL_law_r5_ok 21 rfl
theorem dL_law__427 : decode cL_law_ 427 = .ok (.iconst 2, 1) := dk_get kL_law_r5_ok 22 rfl
theorem dL_law__428 : decode cL_law_ 428 = .ok (.iadd, 1) := dk_get kL_law_r5_ok 23 rfl
theorem dL_law__429 : decode cL_law_ 429 = .ok (.iaload, 1) := dk_get kL_law_r5_ok 24 rfl
theorem dL_law__430 : decode cL_law_ 430 = .ok (.aload_n 0, 1) := dk_get kL_law_r5_ok 25 rfl
theorem dL_law__431 : decode cL_law_ 431 = .ok (.iload 4, 2) := dk_get kL_law_r5_ok 26 rfl
theorem dL_law__433 : decode cL_law_ 433 = .ok (.iconst 3, 1) := dk_get kL_law_r5_ok 27 rfl
theorem dL_law__434 : decode cL_law_ 434 = .ok (.iadd, 1) := dk_get kL_law_r5_ok 28 rfl
theorem dL_law__435 : decode cL_law_ 435 = .ok (.iaload, 1) := dk_get kL_law_r5_ok 29 rfl
def kL_law_r6 : List (Nat × Instr × Nat) := [(436, .invokevirtual 133, 3), (439, .istore 6, 2), (441, .aload_n 2, 1), (442, .invokevirtual 122, 3), (445, .iload 5, 2), (447, .if_icmp .eq 5, 3), (450, .iconst 0, 1), (451, .ireturn, 1), (452, .iload 5, 2), (454, .ifCond .ne 15, 3), (457, .aload_n 3, 1), (458, .iconst 0, 1), (459, .laload, 1), (460, .iload 6, 2), (462, .i2l, 1), (463, .lcmp, 1), (464, .ifCond .eq 5, 3), (467, .iconst 0, 1), (468, .ireturn, 1), (469, .goto 2015, 3), (472, .aload_n 1, 1), (473, .aload_n 0, 1), (474, .iload 4, 2), (476, .iconst 1, 1), (477, .iadd, 1), (478, .iaload, 1), (479, .aload_n 0, 1), (480, .iload 4, 2), (482, .iconst 2, 1), (483, .iadd, 1)]
set_option maxRecDepth 100000 in
theorem kL_law_r6_ok : kL_law_r6.all (fun q => decide (decode cL_law_ q.1 = .ok q.2)) = true := by decide +kernel
theorem dL_law__436 : decode cL_law_ 436 = .ok (.invokevirtual 133, 3) := dk_get kL_law_r6_ok 0 rfl
theorem dL_law__439 : decode cL_law_ 439 = .ok (.istore 6, 2) := dk_get kL_law_r6_ok 1 rfl
theorem dL_law__441 : decode cL_law_ 441 = .ok (.aload_n 2, 1) := dk_get kL_law_r6_ok 2 rfl
theorem dL_law__442 : decode cL_law_ 442 = .ok (.invokevirtual 122, 3) := dk_get kL_law_r6_ok 3 rfl
theorem dL_law__445 : decode cL_law_ 445 = .ok (.iload 5, 2) := dk_get kL_law_r6_ok 4 rfl
theorem dL_law__447 : decode cL_law_ 447 = .ok (.if_icmp .eq 5, 3) := dk_get kL_law_r6_ok 5 rfl
theorem dL_law__450 : decode cL_law_ 450 = .ok (.iconst 0, 1) := dk_get kL_law_r6_ok 6 rfl
theorem dL_law__451 : decode cL_law_ 451 = .ok (.ireturn, 1) := dk_get kL_law_r6_ok 7 rfl
theorem dL_law__452 : decode cL_law_ 452 = .ok (.iload 5, 2) := dk_get kL_law_r6_ok 8 rfl
theorem dL_law__454 : decode cL_law_ 454 = .ok (.ifCond .ne 15, 3) := dk_get kL_law_r6_ok 9 rfl
theorem dL_law__457 : decode cL_law_ 457 = .ok (.aload_n 3, 1) := dk_get kL_law_r6_ok 10 rfl
theorem dL_law__458 : decode cL_law_ 458 = .ok (.iconst 0, 1) := dk_get kL_law_r6_ok 11 rfl
theorem dL_law__459 : decode cL_law_ 459 = .ok (.laload, 1) := dk_get kL_law_r6_ok 12 rfl
theorem dL_law__460 : decode cL_law_ 460 = .ok (.iload 6, 2) := dk_get kL_law_r6_ok 13 rfl
theorem dL_law__462 : decode cL_law_ 462 = .ok (.i2l, 1) := dk_get kL_law_r6_ok 14 rfl
theorem dL_law__463 : decode cL_law_ 463 = .ok (.lcmp, 1) := dk_get kL_law_r6_ok 15 rfl
theorem dL_law__464 : decode cL_law_ 464 = .ok (.ifCond .eq 5, 3) := dk_get kL_law_r6_ok 16 rfl
theorem dL_law__467 : decode cL_law_ 467 = .ok (.iconst 0, 1) := dk_get kL_law_r6_ok 17 rfl
theorem dL_law__468 : decode cL_law_ 468 = .ok (.ireturn, 1) := dk_get kL_law_r6_ok 18 rfl
theorem dL_law__469 : decode cL_law_ 469 = .ok (.goto 2015, 3) := dk_get kL_law_r6_ok 19 rfl
theorem dL_law__472 : decode cL_law_ 472 = .ok (.aload_n 1, 1) := dk_get kL_law_r6_ok 20 rfl
theorem dL_law__473 : decode cL_law_ 473 = .ok (.aload_n 0, 1) := dk_get kL_law_r6_ok 21 rfl
theorem dL_law__474 : decode cL_law_ 474 = .ok (.iload 4, 2) := dk_get kL_law_r6_ok 22 rfl
theorem dL_law__476 : decode cL_law_ 476 = .ok (.iconst 1, 1) := dk_get kL_law_r6_ok 23 rfl
theorem dL_law__477 : decode cL_law_ 477 = .ok (.iadd, 1) := dk_get kL_law_r6_ok 24 rfl
theorem dL_law__478 : decode cL_law_ 478 = .ok (.iaload, 1) := dk_get kL_law_r6_ok 25 rfl
theorem dL_law__479 : decode cL_law_ 479 = .ok (.aload_n 0, 1) := dk_get kL_law_r6_ok 26 rfl
theorem dL_law__480 : decode cL_law_ 480 = .ok (.iload 4, 2) := dk_get kL_law_r6_ok 27 rfl
theorem dL_law__482 : decode cL_law_ 482 = .ok (.iconst 2, 1) := dk_get kL_law_r6_ok 28 rfl
theorem dL_law__483 : decode cL_law_ 483 = .ok (.iadd, 1) := dk_get kL_law_r6_ok 29 rfl
def kL_law_r7 : List (Nat × Instr × Nat) := [(484, .iaload, 1), (485, .aload_n 0, 1), (486, .iload 4, 2), (488, .iconst 3, 1), (489, .iadd, 1), (490, .iaload, 1), (491, .aload_n 0, 1), (492, .iload 4, 2), (494, .iconst 4, 1), (495, .iadd, 1), (496, .iaload, 1), (497, .aload_n 0, 1), (498, .iload 4, 2), (500, .iconst 5, 1), (501, .iadd, 1), (502, .iaload, 1), (503, .invokevirtual 134, 3), (506, .aload_n 2, 1), (507, .aload_n 0, 1), (508, .iload 4, 2), (510, .iconst 1, 1), (511, .iadd, 1), (512, .iaload, 1), (513, .aload_n 0, 1), (514, .iload 4, 2), (516, .iconst 2, 1), (517, .iadd, 1), (518, .iaload, 1), (519, .aload_n 0, 1), (520, .iload 4, 2)]
set_option maxRecDepth 100000 in
theorem kL_law_r7_ok : kL_law_r7.all (fun q => decide (decode cL_law_ q.1 = .ok q.2)) = true := by decide +kernel
theorem dL_law__484 : decode cL_law_ 484 = .ok (.iaload, 1) := dk_get kL_law_r7_ok 0 rfl
theorem dL_law__485 : decode cL_law_ 485 = .ok (.aload_n 0, 1) := dk_get kL_law_r7_ok 1 rfl
theorem dL_law__486 : decode cL_law_ 486 = .ok (.iload 4, 2) := dk_get kL_law_r7_ok 2 rfl
theorem dL_law__488 : decode cL_law_ 488 = .ok (.iconst 3, 1) := dk_get kL_law_r7_ok 3 rfl
theorem dL_law__489 : decode cL_law_ 489 = .ok (.iadd, 1) := dk_get kL_law_r7_ok 4 rfl
theorem dL_law__490 : decode cL_law_ 490 = .ok (.iaload, 1) := dk_get kL_law_r7_ok 5 rfl
theorem dL_law__491 : decode cL_law_ 491 = .ok (.aload_n 0, 1) := dk_get kL_law_r7_ok 6 rfl
theorem dL_law__492 : decode cL_law_ 492 = .ok (.iload 4, 2) := dk_get kL_law_r7_ok 7 rfl
theorem dL_law__494 : decode cL_law_ 494 = .ok (.iconst 4, 1) := dk_get kL_law_r7_ok 8 rfl
theorem dL_law__495 : decode cL_law_ 495 = .ok (.iadd, 1) := dk_get kL_law_r7_ok 9 rfl
theorem dL_law__496 : decode cL_law_ 496 = .ok (.iaload, 1) := dk_get kL_law_r7_ok 10 rfl
theorem dL_law__497 : decode cL_law_ 497 = .ok (.aload_n 0, 1) := dk_get kL_law_r7_ok 11 rfl
theorem dL_law__498 : decode cL_law_ 498 = .ok (.iload 4, 2) := dk_get kL_law_r7_ok 12 rfl
theorem dL_law__500 : decode cL_law_ 500 = .ok (.iconst 5, 1) := dk_get kL_law_r7_ok 13 rfl
theorem dL_law__501 : decode cL_law_ 501 = .ok (.iadd, 1) := dk_get kL_law_r7_ok 14 rfl
theorem dL_law__502 : decode cL_law_ 502 = .ok (.iaload, 1) := dk_get kL_law_r7_ok 15 rfl
theorem dL_law__503 : decode cL_law_ 503 = .ok (.invokevirtual 134, 3) := dk_get kL_law_r7_ok 16 rfl
theorem dL_law__506 : decode cL_law_ 506 = .ok (.aload_n 2, 1) := dk_get kL_law_r7_ok 17 rfl
theorem dL_law__507 : decode cL_law_ 507 = .ok (.aload_n 0, 1) := dk_get kL_law_r7_ok 18 rfl
theorem dL_law__508 : decode cL_law_ 508 = .ok (.iload 4, 2) := dk_get kL_law_r7_ok 19 rfl
theorem dL_law__510 : decode cL_law_ 510 = .ok (.iconst 1, 1) := dk_get kL_law_r7_ok 20 rfl
theorem dL_law__511 : decode cL_law_ 511 = .ok (.iadd, 1) := dk_get kL_law_r7_ok 21 rfl
theorem dL_law__512 : decode cL_law_ 512 = .ok (.iaload, 1) := dk_get kL_law_r7_ok 22 rfl
theorem dL_law__513 : decode cL_law_ 513 = .ok (.aload_n 0, 1) := dk_get kL_law_r7_ok 23 rfl
theorem dL_law__514 : decode cL_law_ 514 = .ok (.iload 4, 2) := dk_get kL_law_r7_ok 24 rfl
theorem dL_law__516 : decode cL_law_ 516 = .ok (.iconst 2, 1) := dk_get kL_law_r7_ok 25 rfl
theorem dL_law__517 : decode cL_law_ 517 = .ok (.iadd, 1) := dk_get kL_law_r7_ok 26 rfl
theorem dL_law__518 : decode cL_law_ 518 = .ok (.iaload, 1) := dk_get kL_law_r7_ok 27 rfl
theorem dL_law__519 : decode cL_law_ 519 = .ok (.aload_n 0, 1) := dk_get kL_law_r7_ok 28 rfl
theorem dL_law__520 : decode cL_law_ 520 = .ok (.iload 4, 2) := dk_get kL_law_r7_ok 29 rfl
