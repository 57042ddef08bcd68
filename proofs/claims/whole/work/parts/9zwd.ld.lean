def kL_law_r12 : List (Nat × Instr × Nat) := [(703, .iload 4, 2), (705, .iconst 1, 1), (706, .iadd, 1), (707, .iaload, 1), (708, .aload_n 0, 1), (709, .iload 4, 2), (711, .iconst 2, 1), (712, .iadd, 1), (713, .iaload, 1), (714, .invokevirtual 151, 3), (717, .istore 6, 2), (719, .aload_n 2, 1), (720, .invokevirtual 122, 3), (723, .iload 5, 2), (725, .if_icmp .eq 5, 3), (728, .iconst 0, 1), (729, .ireturn, 1), (730, .iload 5, 2), (732, .ifCond .ne 15, 3), (735, .aload_n 3, 1), (736, .iconst 0, 1), (737, .laload, 1), (738, .iload 6, 2), (740, .i2l, 1), (741, .lcmp, 1), (742, .ifCond .eq 5, 3), (745, .iconst 0, 1), (746, .ireturn, 1), (747, .goto 1737, 3), (750, .aload_n 1, 1)]
set_option maxRecDepth 100000 in
theorem kL_law_r12_ok : kL_law_r12.all (fun q => decide (decode cL_law_ q.1 = .ok q.2)) = true := by decide +kernel
theorem dL_law__703 : decode cL_law_ 703 = .ok (.iload 4, 2) := dk_get kL_law_r12_ok 0 rfl
theorem dL_law__705 : decode cL_law_ 705 = .ok (.iconst 1, 1) := dk_get kL_law_r12_ok 1 rfl
theorem dL_law__706 : decode cL_law_ 706 = .ok (.iadd, 1) := dk_get kL_law_r12_ok 2 rfl
theorem dL_law__707 : decode cL_law_ 707 = .ok (.iaload, 1) := dk_get kL_law_r12_ok 3 rfl
theorem dL_law__708 : decode cL_law_ 708 = .ok (.aload_n 0, 1) := dk_get kL_law_r12_ok 4 rfl
theorem dL_law__709 : decode cL_law_ 709 = .ok (.iload 4, 2) := dk_get kL_law_r12_ok 5 rfl
theorem dL_law__711 : decode cL_law_ 711 = .ok (.iconst 2, 1) := dk_get kL_law_r12_ok 6 rfl
theorem dL_law__712 : decode cL_law_ 712 = .ok (.iadd, 1) := dk_get kL_law_r12_ok 7 rfl
theorem dL_law__713 : decode cL_law_ 713 = .ok (.iaload, 1) := dk_get kL_law_r12_ok 8 rfl
theorem dL_law__714 : decode cL_law_ 714 = .ok (.invokevirtual 151, 3) := dk_get kL_law_r12_ok 9 rfl
theorem dL_law__717 : decode cL_law_ 717 = .ok (.istore 6, 2) := dk_get kL_law_r12_ok 10 rfl
theorem dL_law__719 : decode cL_law_ 719 = .ok (.aload_n 2, 1) := dk_get kL_law_r12_ok 11 rfl
theorem dL_law__720 : decode cL_law_ 720 = .ok (.invokevirtual 122, 3) := dk_get kL_law_r12_ok 12 rfl
theorem dL_law__723 : decode cL_law_ 723 = .ok (.iload 5, 2) := dk_get kL_law_r12_ok 13 rfl
theorem dL_law__725 : decode cL_law_ 725 = .ok (.if_icmp .eq 5, 3) := dk_get kL_law_r12_ok 14 rfl
theorem dL_law__728 : decode cL_law_ 728 = .ok (.iconst 0, 1) := dk_get kL_law_r12_ok 15 rfl
theorem dL_law__729 : decode cL_law_ 729 = .ok (.ireturn, 1) := dk_get kL_law_r12_ok 16 rfl
theorem dL_law__730 : decode cL_law_ 730 = .ok (.iload 5, 2) := dk_get kL_law_r12_ok 17 rfl
theorem dL_law__732 : decode cL_law_ 732 = .ok (.ifCond .ne 15, 3) := dk_get kL_law_r12_ok 18 rfl
theorem dL_law__735 : decode cL_law_ 735 = .ok (.aload_n 3, 1) := dk_get kL_law_r12_ok 19 rfl
theorem dL_law__736 : decode cL_law_ 736 = .ok (.iconst 0, 1) := dk_get kL_law_r12_ok 20 rfl
theorem dL_law__737 : decode cL_law_ 737 = .ok (.laload, 1) := dk_get kL_law_r12_ok 21 rfl
theorem dL_law__738 : decode cL_law_ 738 = .ok (.iload 6, 2) := dk_get kL_law_r12_ok 22 rfl
theorem dL_law__740 : decode cL_law_ 740 = .ok (.i2l, 1) := dk_get kL_law_r12_ok 23 rfl
theorem dL_law__741 : decode cL_law_ 741 = .ok (.lcmp, 1) := dk_get kL_law_r12_ok 24 rfl
theorem dL_law__742 : decode cL_law_ 742 = .ok (.ifCond .eq 5, 3) := dk_get kL_law_r12_ok 25 rfl
theorem dL_law__745 : decode cL_law_ 745 = .ok (.iconst 0, 1) := dk_get kL_law_r12_ok 26 rfl
theorem dL_law__746 : decode cL_law_ 746 = .ok (.ireturn, 1) := dk_get kL_law_r12_ok 27 rfl
theorem dL_law__747 : decode cL_law_ 747 = .ok (.goto 1737, 3) := dk_get kL_law_r12_ok 28 rfl
theorem dL_law__750 : decode cL_law_ 750 = .ok (.aload_n 1, 1) := dk_get kL_law_r12_ok 29 rfl
def kL_law_r13 : List (Nat × Instr × Nat) := [(751, .aload_n 0, 1), (752, .iload 4, 2), (754, .iconst 1, 1), (755, .iadd, 1), (756, .iaload, 1), (757, .aload_n 0, 1), (758, .iload 4, 2), (760, .iconst 2, 1), (761, .iadd, 1), (762, .iaload, 1), (763, .aload_n 0, 1), (764, .iload 4, 2), (766, .iconst 3, 1), (767, .iadd, 1), (768, .iaload, 1), (769, .aload_n 3, 1), (770, .invokestatic 152, 3), (773, .istore 5, 2), (775, .aload_n 2, 1), (776, .aload_n 0, 1), (777, .iload 4, 2), (779, .iconst 1, 1), (780, .iadd, 1), (781, .iaload, 1), (782, .aload_n 0, 1), (783, .iload 4, 2), (785, .iconst 2, 1), (786, .iadd, 1), (787, .iaload, 1), (788, .aload_n 0, 1)]
set_option maxRecDepth 100000 in
theorem kL_law_r13_ok : kL_law_r13.all (fun q => decide (decode cL_law_ q.1 = .ok q.2)) = true := by decide +kernel
theorem dL_law__751 : decode cL_law_ 751 = .ok (.aload_n 0, 1) := dk_get kL_law_r13_ok 0 rfl
theorem dL_law__752 : decode cL_law_ 752 = .ok (.iload 4, 2) := dk_get kL_law_r13_ok 1 rfl
theorem dL_law__754 : decode cL_law_ 754 = .ok (.iconst 1, 1) := dk_get kL_law_r13_ok 2 rfl
theorem dL_law__755 : decode cL_law_ 755 = .ok (.iadd, 1) := dk_get kL_law_r13_ok 3 rfl
theorem dL_law__756 : decode cL_law_ 756 = .ok (.iaload, 1) := dk_get kL_law_r13_ok 4 rfl
theorem dL_law__757 : decode cL_law_ 757 = .ok (.aload_n 0, 1) := dk_get kL_law_r13_ok 5 rfl
theorem dL_law__758 : decode cL_law_ 758 = .ok (.iload 4, 2) := dk_get kL_law_r13_ok 6 rfl
theorem dL_law__760 : decode cL_law_ 760 = .ok (.iconst 2, 1) := dk_get kL_law_r13_ok 7 rfl
theorem dL_law__761 : decode cL_law_ 761 = .ok (.iadd, 1) := dk_get kL_law_r13_ok 8 rfl
theorem dL_law__762 : decode cL_law_ 762 = .ok (.iaload, 1) := dk_get kL_law_r13_ok 9 rfl
theorem dL_law__763 : decode cL_law_ 763 = .ok (.aload_n 0, 1) := dk_get kL_law_r13_ok 10 rfl
theorem dL_law__764 : decode cL_law_ 764 = .ok (.iload 4, 2) := dk_get kL_law_r13_ok 11 rfl
theorem dL_law__766 : decode cL_law_ 766 = .ok (.iconst 3, 1) := dk_get kL_law_r13_ok 12 rfl
theorem dL_law__767 : decode cL_law_ 767 = .ok (.iadd, 1) := dk_get kL_law_r13_ok 13 rfl
theorem dL_law__768 : decode cL_law_ 768 = .ok (.iaload, 1) := dk_get kL_law_r13_ok 14 rfl
theorem dL_law__769 : decode cL_law_ 769 = .ok (.aload_n 3, 1) := dk_get kL_law_r13_ok 15 rfl
theorem dL_law__770 : decode cL_law_ 770 = .ok (.invokestatic 152, 3) := dk_get kL_law_r13_ok 16 rfl
theorem dL_law__773 : decode cL_law_ 773 = .ok (.istore 5, 2) := dk_get kL_law_r13_ok 17 rfl
theorem dL_law__775 : decode cL_law_ 775 = .ok (.aload_n 2, 1) := dk_get kL_law_r13_ok 18 rfl
theorem dL_law__776 : decode cL_law_ 776 = .ok (.aload_n 0, 1) := dk_get kL_law_r13_ok 19 rfl
theorem dL_law__777 : decode cL_law_ 777 = .ok (.iload 4, 2) := dk_get kL_law_r13_ok 20 rfl
theorem dL_law__779 : decode cL_law_ 779 = .ok (.iconst 1, 1) := dk_get kL_law_r13_ok 21 rfl
theorem dL_law__780 : decode cL_law_ 780 = .ok (.iadd, 1) := dk_get kL_law_r13_ok 22 rfl
theorem dL_law__781 : decode cL_law_ 781 = .ok (.iaload, 1) := dk_get kL_law_r13_ok 23 rfl
theorem dL_law__782 : decode cL_law_ 782 = .ok (.aload_n 0, 1) := dk_get kL_law_r13_ok 24 rfl
theorem dL_law__783 : decode cL_law_ 783 = .ok (.iload 4, 2) := dk_get kL_law_r13_ok 25 rfl
theorem dL_law__785 : decode cL_law_ 785 = .ok (.iconst 2, 1) := dk_get kL_law_r13_ok 26 rfl
theorem dL_law__786 : decode cL_law_ 786 = .ok (.iadd, 1) := dk_get kL_law_r13_ok 27 rfl
theorem dL_law__787 : decode cL_law_ 787 = .ok (.iaload, 1) := dk_get kL_law_r13_ok 28 rfl
theorem dL_law__788 : decode cL_law_ 788 = .ok (.aload_n 0, 1) := dk_get kL_law_r13_ok 29 rfl
def kL_law_r14 : List (Nat × Instr × Nat) := [(789, .iload 4, 2), (791, .iconst 3, 1), (792, .iadd, 1), (793, .iaload, 1), (794, .invokevirtual 154, 3), (797, .istore 6, 2), (799, .aload_n 2, 1), (800, .invokevirtual 122, 3), (803, .iload 5, 2), (805, .if_icmp .eq 5, 3), (808, .iconst 0, 1), (809, .ireturn, 1), (810, .iload 5, 2), (812, .ifCond .ne 15, 3), (815, .aload_n 3, 1), (816, .iconst 0, 1), (817, .laload, 1), (818, .iload 6, 2), (820, .i2l, 1), (821, .lcmp, 1), (822, .ifCond .eq 5, 3), (825, .iconst 0, 1), (826, .ireturn, 1), (827, .goto 1657, 3), (830, .aload_n 1, 1), (831, .aload_n 0, 1), (832, .iload 4, 2), (834, .iconst 1, 1), (835, .iadd, 1), (836, .iaload, 1)]
set_option maxRecDepth 100000 in
theorem kL_law_r14_ok : kL_law_r14.all (fun q => decide (decode cL_law_ q.1 = .ok q.2)) = true := by decide +kernel
theorem dL_law__789 : decode cL_law_ 789 = .ok (.iload 4, 2) := dk_get kL_law_r14_ok 0 rfl
theorem dL_law__791 : decode cL_law_ 791 = .ok (.iconst 3, 1) := dk_get kL_law_r14_ok 1 rfl
theorem dL_law__792 : decode cL_law_ 792 = .ok (.iadd, 1) := dk_get kL_law_r14_ok 2 rfl
theorem dL_law__793 : decode cL_law_ 793 = .ok (.iaload, 1) := dk_get kL_law_r14_ok 3 rfl
theorem dL_law__794 : decode cL_law_ 794 = .ok (.invokevirtual 154, 3) := dk_get kL_law_r14_ok 4 rfl
theorem dL_law__797 : decode cL_law_ 797 = .ok (.istore 6, 2) := dk_get kL_law_r14_ok 5 rfl
theorem dL_law__799 : decode cL_law_ 799 = .ok (.aload_n 2, 1) := dk_get kL_law_r14_ok 6 rfl
theorem dL_law__800 : decode cL_law_ 800 = .ok (.invokevirtual 122, 3) := dk_get kL_law_r14_ok 7 rfl
theorem dL_law__803 : decode cL_law_ 803 = .ok (.iload 5, 2) := dk_get kL_law_r14_ok 8 rfl
theorem dL_law__805 : decode cL_law_ 805 = .ok (.if_icmp .eq 5, 3) := dk_get kL_law_r14_ok 9 rfl
theorem dL_law__808 : decode cL_law_ 808 = .ok (.iconst 0, 1) := dk_get kL_law_r14_ok 10 rfl
theorem dL_law__809 : decode cL_law_ 809 = .ok (.ireturn, 1) := dk_get kL_law_r14_ok 11 rfl
theorem dL_law__810 : decode cL_law_ 810 = .ok (.iload 5, 2) := dk_get kL_law_r14_ok 12 rfl
theorem dL_law__812 : decode cL_law_ 812 = .ok (.ifCond .ne 15, 3) := dk_get kL_law_r14_ok 13 rfl
theorem dL_law__815 : decode cL_law_ 815 = .ok (.aload_n 3, 1) := dk_get kL_law_r14_ok 14 rfl
theorem dL_law__816 : decode cL_law_ 816 = .ok (.iconst 0, 1) := dk_get kL_law_r14_ok 15 rfl
theorem dL_law__817 : decode cL_law_ 817 = .ok (.laload, 1) := dk_get kL_law_r14_ok 16 rfl
theorem dL_law__818 : decode cL_law_ 818 = .ok (.iload 6, 2) := dk_get kL_law_r14_ok 17 rfl
theorem dL_law__820 : decode cL_law_ 820 = .ok (.i2l, 1) := dk_get kL_law_r14_ok 18 rfl
theorem dL_law__821 : decode cL_law_ 821 = .ok (.lcmp, 1) := dk_get kL_law_r14_ok 19 rfl
theorem dL_law__822 : decode cL_law_ 822 = .ok (.ifCond .eq 5, 3) := dk_get kL_law_r14_ok 20 rfl
theorem dL_law__825 : decode cL_law_ 825 = .ok (.iconst 0, 1) := dk_get kL_law_r14_ok 21 rfl
theorem dL_law__826 : decode cL_law_ 826 = .ok (.ireturn, 1) := dk_get kL_law_r14_ok 22 rfl
theorem dL_law__827 : decode cL_law_ 827 = .ok (.goto 1657, 3) := dk_get kL_law_r14_ok 23 rfl
theorem dL_law__830 : decode cL_law_ 830 = .ok (.aload_n 1, 1) := dk_get kL_law_r14_ok 24 rfl
theorem dL_law__831 : decode cL_law_ 831 = .ok (.aload_n 0, 1) := dk_get kL_law_r14_ok 25 rfl
theorem dL_law__832 : decode cL_law_ 832 = .ok (.iload 4, 2) := dk_get kL_law_r14_ok 26 rfl
theorem dL_law__834 : decode cL_law_ 834 = .ok (.iconst 1, 1) := dk_get kL_law_r14_ok 27 rfl
theorem dL_law__835 : decode cL_law_ 835 = .ok (.iadd, 1) := dk_get kL_law_r14_ok 28 rfl
theorem dL_law__836 : decode cL_law_ 836 = .ok (.iaload, 1) := dk_get kL_law_r14_ok 29 rfl
def kL_law_r15 : List (Nat × Instr × Nat) := [(837, .aload_n 0, 1), (838, .iload 4, 2), (840, .iconst 2, 1), (841, .iadd, 1), (842, .iaload, 1), (843, .aload_n 3, 1), (844, .invokestatic 155, 3), (847, .istore 5, 2), (849, .aload_n 2, 1), (850, .aload_n 0, 1), (851, .iload 4, 2), (853, .iconst 1, 1), (854, .iadd, 1), (855, .iaload, 1), (856, .aload_n 0, 1), (857, .iload 4, 2), (859, .iconst 2, 1), (860, .iadd, 1), (861, .iaload, 1), (862, .invokevirtual 157, 3), (865, .istore 6, 2), (867, .aload_n 2, 1), (868, .invokevirtual 122, 3), (871, .iload 5, 2), (873, .if_icmp .eq 5, 3), (876, .iconst 0, 1), (877, .ireturn, 1), (878, .iload 5, 2), (880, .ifCond .ne 15, 3), (883, .aload_n 3, 1)]
set_option maxRecDepth 100000 in
theorem kL_law_r15_ok : kL_law_r15.all (fun q => decide (decode cL_law_ q.1 = .ok q.2)) = true := by decide +kernel
theorem dL_law__837 : decode cL_law_ 837 = .ok (.aload_n 0, 1) := dk_get kL_law_r15_ok 0 rfl
theorem dL_law__838 : decode cL_law_ 838 = .ok (.iload 4, 2) := dk_get kL_law_r15_ok 1 rfl
theorem dL_law__840 : decode cL_law_ 840 = .ok (.iconst 2, 1) := dk_get kL_law_r15_ok 2 rfl
theorem dL_law__841 : decode cL_law_ 841 = .ok (.iadd, 1) := dk_get kL_law_r15_ok 3 rfl
theorem dL_law__842 : decode cL_law_ 842 = .ok (.iaload, 1) := dk_get kL_law_r15_ok 4 rfl
theorem dL_law__843 : decode cL_law_ 843 = .ok (.aload_n 3, 1) := dk_get kL_law_r15_ok 5 rfl
theorem dL_law__844 : decode cL_law_ 844 = .ok (.invokestatic 155, 3) := dk_get kL_law_r15_ok 6 rfl
theorem dL_law__847 : decode cL_law_ 847 = .ok (.istore 5, 2) := dk_get kL_law_r15_ok 7 rfl
theorem dL_law__849 : decode cL_law_ 849 = .ok (.aload_n 2, 1) := dk_get kL_law_r15_ok 8 rfl
theorem dL_law__850 : decode cL_law_ 850 = .ok (.aload_n 0, 1) := dk_get kL_law_r15_ok 9 rfl
theorem dL_law__851 : decode cL_law_ 851 = .ok (.iload 4, 2) := dk_get kL_law_r15_ok 10 rfl
theorem dL_law__853 : decode cL_law_ 853 = .ok (.iconst 1, 1) := dk_get kL_law_r15_ok 11 rfl
theorem dL_law__854 : decode cL_law_ 854 = .ok (.iadd, 1) := dk_get kL_law_r15_ok 12 rfl
theorem dL_law__855 : decode cL_law_ 855 = .ok (.iaload, 1) := dk_get kL_law_r15_ok 13 rfl
theorem dL_law__856 : decode cL_law_ 856 = .ok (.aload_n 0, 1) := dk_get kL_law_r15_ok 14 rfl
theorem dL_law__857 : decode cL_law_ 857 = .ok (.iload 4, 2) := dk_get kL_law_r15_ok 15 rfl
theorem dL_law__859 : decode cL_law_ 859 = .ok (.iconst 2, 1) := dk_get kL_law_r15_ok 16 rfl
theorem dL_law__860 : decode cL_law_ 860 = .ok (.iadd, 1) := dk_get kL_law_r15_ok 17 rfl
theorem dL_law__861 : decode cL_law_ 861 = .ok (.iaload, 1) := dk_get kL_law_r15_ok 18 rfl
theorem dL_law__862 : decode cL_law_ 862 = .ok (.invokevirtual 157, 3) := dk_get kL_law_r15_ok 19 rfl
theorem dL_law__865 : decode cL_law_ 865 = .ok (.istore 6, 2) := dk_get kL_law_r15_ok 20 rfl
theorem dL_law__867 : decode cL_law_ 867 = .ok (.aload_n 2, 1) := dk_get kL_law_r15_ok 21 rfl
theorem dL_law__868 : decode cL_law_ 868 = .ok (.invokevirtual 122, 3) := dk_get kL_law_r15_ok 22 rfl
theorem dL_law__871 : decode cL_law_ 871 = .ok (.iload 5, 2) := dk_get kL_law_r15_ok 23 rfl
theorem dL_law__873 : decode cL_law_ 873 = .ok (.if_icmp .eq 5, 3) := dk_get kL_law_r15_ok 24 rfl
theorem dL_law__876 : decode cL_law_ 876 = .ok (.iconst 0, 1) := dk_get kL_law_r15_ok 25 rfl
theorem dL_law__877 : decode cL_law_ 877 = .ok (.ireturn, 1) := dk_get kL_law_r15_ok 26 rfl
theorem dL_law__878 : decode cL_law_ 878 = .ok (.iload 5, 2) := dk_get kL_law_r15_ok 27 rfl
theorem dL_law__880 : decode cL_law_ 880 = .ok (.ifCond .ne 15, 3) := dk_get kL_law_r15_ok 28 rfl
theorem dL_law__883 : decode cL_law_ 883 = .ok (.aload_n 3, 1) := dk_get kL_law_r15_ok 29 rfl
