def kL_law_r8 : List (Nat × Instr × Nat) := [(522, .iconst 3, 1), (523, .iadd, 1), (524, .iaload, 1), (525, .aload_n 0, 1), (526, .iload 4, 2), (528, .iconst 4, 1), (529, .iadd, 1), (530, .iaload, 1), (531, .aload_n 0, 1), (532, .iload 4, 2), (534, .iconst 5, 1), (535, .iadd, 1), (536, .iaload, 1), (537, .invokevirtual 137, 3), (540, .if_icmp .eq 1944, 3), (543, .iconst 0, 1), (544, .ireturn, 1), (545, .aload_n 1, 1), (546, .aload_n 0, 1), (547, .iload 4, 2), (549, .iconst 1, 1), (550, .iadd, 1), (551, .iaload, 1), (552, .aload_n 3, 1), (553, .invokestatic 138, 3), (556, .istore 5, 2), (558, .aload_n 2, 1), (559, .aload_n 0, 1), (560, .iload 4, 2), (562, .iconst 1, 1)]
set_option maxRecDepth 100000 in
theorem kL_law_r8_ok : kL_law_r8.all (fun q => decide (decode cL_law_ q.1 = .ok q.2)) = true := by decide +kernel
theorem dL_law__522 : decode cL_law_ 522 = .ok (.iconst 3, 1) := dk_get kL_law_r8_ok 0 rfl
theorem dL_law__523 : decode cL_law_ 523 = .ok (.iadd, 1) := dk_get kL_law_r8_ok 1 rfl
theorem dL_law__524 : decode cL_law_ 524 = .ok (.iaload, 1) := dk_get kL_law_r8_ok 2 rfl
theorem dL_law__525 : decode cL_law_ 525 = .ok (.aload_n 0, 1) := dk_get kL_law_r8_ok 3 rfl
theorem dL_law__526 : decode cL_law_ 526 = .ok (.iload 4, 2) := dk_get kL_law_r8_ok 4 rfl
theorem dL_law__528 : decode cL_law_ 528 = .ok (.iconst 4, 1) := dk_get kL_law_r8_ok 5 rfl
theorem dL_law__529 : decode cL_law_ 529 = .ok (.iadd, 1) := dk_get kL_law_r8_ok 6 rfl
theorem dL_law__530 : decode cL_law_ 530 = .ok (.iaload, 1) := dk_get kL_law_r8_ok 7 rfl
theorem dL_law__531 : decode cL_law_ 531 = .ok (.aload_n 0, 1) := dk_get kL_law_r8_ok 8 rfl
theorem dL_law__532 : decode cL_law_ 532 = .ok (.iload 4, 2) := dk_get kL_law_r8_ok 9 rfl
theorem dL_law__534 : decode cL_law_ 534 = .ok (.iconst 5, 1) := dk_get kL_law_r8_ok 10 rfl
theorem dL_law__535 : decode cL_law_ 535 = .ok (.iadd, 1) := dk_get kL_law_r8_ok 11 rfl
theorem dL_law__536 : decode cL_law_ 536 = .ok (.iaload, 1) := dk_get kL_law_r8_ok 12 rfl
theorem dL_law__537 : decode cL_law_ 537 = .ok (.invokevirtual 137, 3) := dk_get kL_law_r8_ok 13 rfl
theorem dL_law__540 : decode cL_law_ 540 = .ok (.if_icmp .eq 1944, 3) := dk_get kL_law_r8_ok 14 rfl
theorem dL_law__543 : decode cL_law_ 543 = .ok (.iconst 0, 1) := dk_get kL_law_r8_ok 15 rfl
theorem dL_law__544 : decode cL_law_ 544 = .ok (.ireturn, 1) := dk_get kL_law_r8_ok 16 rfl
theorem dL_law__545 : decode cL_law_ 545 = .ok (.aload_n 1, 1) := dk_get kL_law_r8_ok 17 rfl
theorem dL_law__546 : decode cL_law_ 546 = .ok (.aload_n 0, 1) := dk_get kL_law_r8_ok 18 rfl
theorem dL_law__547 : decode cL_law_ 547 = .ok (.iload 4, 2) := dk_get kL_law_r8_ok 19 rfl
theorem dL_law__549 : decode cL_law_ 549 = .ok (.iconst 1, 1) := dk_get kL_law_r8_ok 20 rfl
theorem dL_law__550 : decode cL_law_ 550 = .ok (.iadd, 1) := dk_get kL_law_r8_ok 21 rfl
theorem dL_law__551 : decode cL_law_ 551 = .ok (.iaload, 1) := dk_get kL_law_r8_ok 22 rfl
theorem dL_law__552 : decode cL_law_ 552 = .ok (.aload_n 3, 1) := dk_get kL_law_r8_ok 23 rfl
theorem dL_law__553 : decode cL_law_ 553 = .ok (.invokestatic 138, 3) := dk_get kL_law_r8_ok 24 rfl
theorem dL_law__556 : decode cL_law_ 556 = .ok (.istore 5, 2) := dk_get kL_law_r8_ok 25 rfl
theorem dL_law__558 : decode cL_law_ 558 = .ok (.aload_n 2, 1) := dk_get kL_law_r8_ok 26 rfl
theorem dL_law__559 : decode cL_law_ 559 = .ok (.aload_n 0, 1) := dk_get kL_law_r8_ok 27 rfl
theorem dL_law__560 : decode cL_law_ 560 = .ok (.iload 4, 2) := dk_get kL_law_r8_ok 28 rfl
theorem dL_law__562 : decode cL_law_ 562 = .ok (.iconst 1, 1) := dk_get kL_law_r8_ok 29 rfl
def kL_law_r9 : List (Nat × Instr × Nat) := [(563, .iadd, 1), (564, .iaload, 1), (565, .invokevirtual 141, 3), (568, .istore 6, 2), (570, .aload_n 2, 1), (571, .invokevirtual 122, 3), (574, .iload 5, 2), (576, .if_icmp .eq 5, 3), (579, .iconst 0, 1), (580, .ireturn, 1), (581, .iload 5, 2), (583, .ifCond .ne 15, 3), (586, .aload_n 3, 1), (587, .iconst 0, 1), (588, .laload, 1), (589, .iload 6, 2), (591, .i2l, 1), (592, .lcmp, 1), (593, .ifCond .eq 5, 3), (596, .iconst 0, 1), (597, .ireturn, 1), (598, .goto 1886, 3), (601, .aload_n 1, 1), (602, .invokevirtual 142, 3), (605, .aload_n 2, 1), (606, .invokevirtual 145, 3), (609, .if_icmp .eq 1875, 3), (612, .iconst 0, 1), (613, .ireturn, 1), (614, .aload_n 1, 1)]
set_option maxRecDepth 100000 in
theorem kL_law_r9_ok : kL_law_r9.all (fun q => decide (decode cL_law_ q.1 = .ok q.2)) = true := by decide +kernel
theorem dL_law__563 : decode cL_law_ 563 = .ok (.iadd, 1) := dk_get kL_law_r9_ok 0 rfl
theorem dL_law__564 : decode cL_law_ 564 = .ok (.iaload, 1) := dk_get kL_law_r9_ok 1 rfl
theorem dL_law__565 : decode cL_law_ 565 = .ok (.invokevirtual 141, 3) := dk_get kL_law_r9_ok 2 rfl
theorem dL_law__568 : decode cL_law_ 568 = .ok (.istore 6, 2) := dk_get kL_law_r9_ok 3 rfl
theorem dL_law__570 : decode cL_law_ 570 = .ok (.aload_n 2, 1) := dk_get kL_law_r9_ok 4 rfl
theorem dL_law__571 : decode cL_law_ 571 = .ok (.invokevirtual 122, 3) := dk_get kL_law_r9_ok 5 rfl
theorem dL_law__574 : decode cL_law_ 574 = .ok (.iload 5, 2) := dk_get kL_law_r9_ok 6 rfl
theorem dL_law__576 : decode cL_law_ 576 = .ok (.if_icmp .eq 5, 3) := dk_get kL_law_r9_ok 7 rfl
theorem dL_law__579 : decode cL_law_ 579 = .ok (.iconst 0, 1) := dk_get kL_law_r9_ok 8 rfl
theorem dL_law__580 : decode cL_law_ 580 = .ok (.ireturn, 1) := dk_get kL_law_r9_ok 9 rfl
theorem dL_law__581 : decode cL_law_ 581 = .ok (.iload 5, 2) := dk_get kL_law_r9_ok 10 rfl
theorem dL_law__583 : decode cL_law_ 583 = .ok (.ifCond .ne 15, 3) := dk_get kL_law_r9_ok 11 rfl
theorem dL_law__586 : decode cL_law_ 586 = .ok (.aload_n 3, 1) := dk_get kL_law_r9_ok 12 rfl
theorem dL_law__587 : decode cL_law_ 587 = .ok (.iconst 0, 1) := dk_get kL_law_r9_ok 13 rfl
theorem dL_law__588 : decode cL_law_ 588 = .ok (.laload, 1) := dk_get kL_law_r9_ok 14 rfl
theorem dL_law__589 : decode cL_law_ 589 = .ok (.iload 6, 2) := dk_get kL_law_r9_ok 15 rfl
theorem dL_law__591 : decode cL_law_ 591 = .ok (.i2l, 1) := dk_get kL_law_r9_ok 16 rfl
theorem dL_law__592 : decode cL_law_ 592 = .ok (.lcmp, 1) := dk_get kL_law_r9_ok 17 rfl
theorem dL_law__593 : decode cL_law_ 593 = .ok (.ifCond .eq 5, 3) := dk_get kL_law_r9_ok 18 rfl
theorem dL_law__596 : decode cL_law_ 596 = .ok (.iconst 0, 1) := dk_get kL_law_r9_ok 19 rfl
theorem dL_law__597 : decode cL_law_ 597 = .ok (.ireturn, 1) := dk_get kL_law_r9_ok 20 rfl
theorem dL_law__598 : decode cL_law_ 598 = .ok (.goto 1886, 3) := dk_get kL_law_r9_ok 21 rfl
theorem dL_law__601 : decode cL_law_ 601 = .ok (.aload_n 1, 1) := dk_get kL_law_r9_ok 22 rfl
theorem dL_law__602 : decode cL_law_ 602 = .ok (.invokevirtual 142, 3) := dk_get kL_law_r9_ok 23 rfl
theorem dL_law__605 : decode cL_law_ 605 = .ok (.aload_n 2, 1) := dk_get kL_law_r9_ok 24 rfl
theorem dL_law__606 : decode cL_law_ 606 = .ok (.invokevirtual 145, 3) := dk_get kL_law_r9_ok 25 rfl
theorem dL_law__609 : decode cL_law_ 609 = .ok (.if_icmp .eq 1875, 3) := dk_get kL_law_r9_ok 26 rfl
theorem dL_law__612 : decode cL_law_ 612 = .ok (.iconst 0, 1) := dk_get kL_law_r9_ok 27 rfl
theorem dL_law__613 : decode cL_law_ 613 = .ok (.ireturn, 1) := dk_get kL_law_r9_ok 28 rfl
theorem dL_law__614 : decode cL_law_ 614 = .ok (.aload_n 1, 1) := dk_get kL_law_r9_ok 29 rfl
def kL_law_r10 : List (Nat × Instr × Nat) := [(615, .aload_n 0, 1), (616, .iload 4, 2), (618, .iconst 1, 1), (619, .iadd, 1), (620, .iaload, 1), (621, .aload_n 0, 1), (622, .iload 4, 2), (624, .iconst 2, 1), (625, .iadd, 1), (626, .iaload, 1), (627, .aload_n 3, 1), (628, .invokestatic 146, 3), (631, .istore 5, 2), (633, .aload_n 2, 1), (634, .aload_n 0, 1), (635, .iload 4, 2), (637, .iconst 1, 1), (638, .iadd, 1), (639, .iaload, 1), (640, .aload_n 0, 1), (641, .iload 4, 2), (643, .iconst 2, 1), (644, .iadd, 1), (645, .iaload, 1), (646, .invokevirtual 148, 3), (649, .istore 6, 2), (651, .aload_n 2, 1), (652, .invokevirtual 122, 3), (655, .iload 5, 2), (657, .if_icmp .eq 5, 3)]
set_option maxRecDepth 100000 in
theorem kL_law_r10_ok : kL_law_r10.all (fun q => decide (decode cL_law_ q.1 = .ok q.2)) = true := by decide +kernel
theorem dL_law__615 : decode cL_law_ 615 = .ok (.aload_n 0, 1) := dk_get kL_law_r10_ok 0 rfl
theorem dL_law__616 : decode cL_law_ 616 = .ok (.iload 4, 2) := dk_get kL_law_r10_ok 1 rfl
theorem dL_law__618 : decode cL_law_ 618 = .ok (.iconst 1, 1) := dk_get kL_law_r10_ok 2 rfl
theorem dL_law__619 : decode cL_law_ 619 = .ok (.iadd, 1) := dk_get kL_law_r10_ok 3 rfl
theorem dL_law__620 : decode cL_law_ 620 = .ok (.iaload, 1) := dk_get kL_law_r10_ok 4 rfl
theorem dL_law__621 : decode cL_law_ 621 = .ok (.aload_n 0, 1) := dk_get kL_law_r10_ok 5 rfl
theorem dL_law__622 : decode cL_law_ 622 = .ok (.iload 4, 2) := dk_get kL_law_r10_ok 6 rfl
theorem dL_law__624 : decode cL_law_ 624 = .ok (.iconst 2, 1) := dk_get kL_law_r10_ok 7 rfl
theorem dL_law__625 : decode cL_law_ 625 = .ok (.iadd, 1) := dk_get kL_law_r10_ok 8 rfl
theorem dL_law__626 : decode cL_law_ 626 = .ok (.iaload, 1) := dk_get kL_law_r10_ok 9 rfl
theorem dL_law__627 : decode cL_law_ 627 = .ok (.aload_n 3, 1) := dk_get kL_law_r10_ok 10 rfl
theorem dL_law__628 : decode cL_law_ 628 = .ok (.invokestatic 146, 3) := dk_get kL_law_r10_ok 11 rfl
theorem dL_law__631 : decode cL_law_ 631 = .ok (.istore 5, 2) := dk_get kL_law_r10_ok 12 rfl
theorem dL_law__633 : decode cL_law_ 633 = .ok (.aload_n 2, 1) := dk_get kL_law_r10_ok 13 rfl
theorem dL_law__634 : decode cL_law_ 634 = .ok (.aload_n 0, 1) := dk_get kL_law_r10_ok 14 rfl
theorem dL_law__635 : decode cL_law_ 635 = .ok (.iload 4, 2) := dk_get kL_law_r10_ok 15 rfl
theorem dL_law__637 : decode cL_law_ 637 = .ok (.iconst 1, 1) := dk_get kL_law_r10_ok 16 rfl
theorem dL_law__638 : decode cL_law_ 638 = .ok (.iadd, 1) := dk_get kL_law_r10_ok 17 rfl
theorem dL_law__639 : decode cL_law_ 639 = .ok (.iaload, 1) := dk_get kL_law_r10_ok 18 rfl
theorem dL_law__640 : decode cL_law_ 640 = .ok (.aload_n 0, 1) := dk_get kL_law_r10_ok 19 rfl
theorem dL_law__641 : decode cL_law_ 641 = .ok (.iload 4, 2) := dk_get kL_law_r10_ok 20 rfl
theorem dL_law__643 : decode cL_law_ 643 = .ok (.iconst 2, 1) := dk_get kL_law_r10_ok 21 rfl
theorem dL_law__644 : decode cL_law_ 644 = .ok (.iadd, 1) := dk_get kL_law_r10_ok 22 rfl
theorem dL_law__645 : decode cL_law_ 645 = .ok (.iaload, 1) := dk_get kL_law_r10_ok 23 rfl
theorem dL_law__646 : decode cL_law_ 646 = .ok (.invokevirtual 148, 3) := dk_get kL_law_r10_ok 24 rfl
theorem dL_law__649 : decode cL_law_ 649 = .ok (.istore 6, 2) := dk_get kL_law_r10_ok 25 rfl
theorem dL_law__651 : decode cL_law_ 651 = .ok (.aload_n 2, 1) := dk_get kL_law_r10_ok 26 rfl
theorem dL_law__652 : decode cL_law_ 652 = .ok (.invokevirtual 122, 3) := dk_get kL_law_r10_ok 27 rfl
theorem dL_law__655 : decode cL_law_ 655 = .ok (.iload 5, 2) := dk_get kL_law_r10_ok 28 rfl
theorem dL_law__657 : decode cL_law_ 657 = .ok (.if_icmp .eq 5, 3) := dk_get kL_law_r10_ok 29 rfl
def kL_law_r11 : List (Nat × Instr × Nat) := [(660, .iconst 0, 1), (661, .ireturn, 1), (662, .iload 5, 2), (664, .ifCond .ne 15, 3), (667, .aload_n 3, 1), (668, .iconst 0, 1), (669, .laload, 1), (670, .iload 6, 2), (672, .i2l, 1), (673, .lcmp, 1), (674, .ifCond .eq 5, 3), (677, .iconst 0, 1), (678, .ireturn, 1), (679, .goto 1805, 3), (682, .aload_n 1, 1), (683, .aload_n 0, 1), (684, .iload 4, 2), (686, .iconst 1, 1), (687, .iadd, 1), (688, .iaload, 1), (689, .aload_n 0, 1), (690, .iload 4, 2), (692, .iconst 2, 1), (693, .iadd, 1), (694, .iaload, 1), (695, .aload_n 3, 1), (696, .invokestatic 149, 3), (699, .istore 5, 2), (701, .aload_n 2, 1), (702, .aload_n 0, 1)]
set_option maxRecDepth 100000 in
theorem kL_law_r11_ok : kL_law_r11.all (fun q => decide (decode cL_law_ q.1 = .ok q.2)) = true := by decide +kernel
theorem dL_law__660 : decode cL_law_ 660 = .ok (.iconst 0, 1) := dk_get kL_law_r11_ok 0 rfl
theorem dL_law__661 : decode cL_law_ 661 = .ok (.ireturn, 1) := dk_get kL_law_r11_ok 1 rfl
theorem dL_law__662 : decode cL_law_ 662 = .ok (.iload 5, 2) := dk_get kL_law_r11_ok 2 rfl
theorem dL_law__664 : decode cL_law_ 664 = .ok (.ifCond .ne 15, 3) := dk_get kL_law_r11_ok 3 rfl
theorem dL_law__667 : decode cL_law_ 667 = .ok (.aload_n 3, 1) := dk_get kL_law_r11_ok 4 rfl
theorem dL_law__668 : decode cL_law_ 668 = .ok (.iconst 0, 1) := dk_get kL_law_r11_ok 5 rfl
theorem dL_law__669 : decode cL_law_ 669 = .ok (.laload, 1) := dk_get kL_law_r11_ok 6 rfl
theorem dL_law__670 : decode cL_law_ 670 = .ok (.iload 6, 2) := dk_get kL_law_r11_ok 7 rfl
theorem dL_law__672 : decode cL_law_ 672 = .ok (.i2l, 1) := dk_get kL_law_r11_ok 8 rfl
theorem dL_law__673 : decode cL_law_ 673 = .ok (.lcmp, 1) := dk_get kL_law_r11_ok 9 rfl
theorem dL_law__674 : decode cL_law_ 674 = .ok (.ifCond .eq 5, 3) := dk_get kL_law_r11_ok 10 rfl
theorem dL_law__677 : decode cL_law_ 677 = .ok (.iconst 0, 1) := dk_get kL_law_r11_ok 11 rfl
theorem dL_law__678 : decode cL_law_ 678 = .ok (.ireturn, 1) := dk_get kL_law_r11_ok 12 rfl
theorem dL_law__679 : decode cL_law_ 679 = .ok (.goto 1805, 3) := dk_get kL_law_r11_ok 13 rfl
theorem dL_law__682 : decode cL_law_ 682 = .ok (.aload_n 1, 1) := dk_get kL_law_r11_ok 14 rfl
theorem dL_law__683 : decode cL_law_ 683 = .ok (.aload_n 0, 1) := dk_get kL_law_r11_ok 15 rfl
theorem dL_law__684 : decode cL_law_ 684 = .ok (.iload 4, 2) := dk_get kL_law_r11_ok 16 rfl
theorem dL_law__686 : decode cL_law_ 686 = .ok (.iconst 1, 1) := dk_get kL_law_r11_ok 17 rfl
theorem dL_law__687 : decode cL_law_ 687 = .ok (.iadd, 1) := dk_get kL_law_r11_ok 18 rfl
theorem dL_law__688 : decode cL_law_ 688 = .ok (.iaload, 1) := dk_get kL_law_r11_ok 19 rfl
theorem dL_law__689 : decode cL_law_ 689 = .ok (.aload_n 0, 1) := dk_get kL_law_r11_ok 20 rfl
theorem dL_law__690 : decode cL_law_ 690 = .ok (.iload 4, 2) := dk_get kL_law_r11_ok 21 rfl
theorem dL_law__692 : decode cL_law_ 692 = .ok (.iconst 2, 1) := dk_get kL_law_r11_ok 22 rfl
theorem dL_law__693 : decode cL_law_ 693 = .ok (.iadd, 1) := dk_get kL_law_r11_ok 23 rfl
theorem dL_law__694 : decode cL_law_ 694 = .ok (.iaload, 1) := dk_get kL_law_r11_ok 24 rfl
theorem dL_law__695 : decode cL_law_ 695 = .ok (.aload_n 3, 1) := dk_get kL_law_r11_ok 25 rfl
theorem dL_law__696 : decode cL_law_ 696 = .ok (.invokestatic 149, 3) := dk_get kL_law_r11_ok 26 rfl
theorem dL_law__699 : decode cL_law_ 699 = .ok (.istore 5, 2) := dk_get kL_law_r11_ok 27 rfl
theorem dL_law__701 : decode cL_law_ 701 = .ok (.aload_n 2, 1) := dk_get kL_law_r11_ok 28 rfl
theorem dL_law__702 : decode cL_law_ 702 = .ok (.aload_n 0, 1) := dk_get kL_law_r11_ok 29 rfl
