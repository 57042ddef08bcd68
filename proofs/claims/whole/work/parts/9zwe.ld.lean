def kL_law_r16 : List (Nat × Instr × Nat) := [(884, .iconst 0, 1), (885, .laload, 1), (886, .iload 6, 2), (888, .i2l, 1), (889, .lcmp, 1), (890, .ifCond .eq 5, 3), (893, .iconst 0, 1), (894, .ireturn, 1), (895, .goto 1589, 3), (898, .aload_n 1, 1), (899, .aload_n 0, 1), (900, .iload 4, 2), (902, .iconst 1, 1), (903, .iadd, 1), (904, .iaload, 1), (905, .aload_n 0, 1), (906, .iload 4, 2), (908, .iconst 2, 1), (909, .iadd, 1), (910, .iaload, 1), (911, .aload_n 3, 1), (912, .invokestatic 158, 3), (915, .istore 5, 2), (917, .aload_n 2, 1), (918, .aload_n 0, 1), (919, .iload 4, 2), (921, .iconst 1, 1), (922, .iadd, 1), (923, .iaload, 1), (924, .aload_n 0, 1)]
set_option maxRecDepth 100000 in
theorem kL_law_r16_ok : kL_law_r16.all (fun q => decide (decode cL_law_ q.1 = .ok q.2)) = true := by decide +kernel
theorem dL_law__884 : decode cL_law_ 884 = .ok (.iconst 0, 1) := dk_get kL_law_r16_ok 0 rfl
theorem dL_law__885 : decode cL_law_ 885 = .ok (.laload, 1) := dk_get kL_law_r16_ok 1 rfl
theorem dL_law__886 : decode cL_law_ 886 = .ok (.iload 6, 2) := dk_get kL_law_r16_ok 2 rfl
theorem dL_law__888 : decode cL_law_ 888 = .ok (.i2l, 1) := dk_get kL_law_r16_ok 3 rfl
theorem dL_law__889 : decode cL_law_ 889 = .ok (.lcmp, 1) := dk_get kL_law_r16_ok 4 rfl
theorem dL_law__890 : decode cL_law_ 890 = .ok (.ifCond .eq 5, 3) := dk_get kL_law_r16_ok 5 rfl
theorem dL_law__893 : decode cL_law_ 893 = .ok (.iconst 0, 1) := dk_get kL_law_r16_ok 6 rfl
theorem dL_law__894 : decode cL_law_ 894 = .ok (.ireturn, 1) := dk_get kL_law_r16_ok 7 rfl
theorem dL_law__895 : decode cL_law_ 895 = .ok (.goto 1589, 3) := dk_get kL_law_r16_ok 8 rfl
theorem dL_law__898 : decode cL_law_ 898 = .ok (.aload_n 1, 1) := dk_get kL_law_r16_ok 9 rfl
theorem dL_law__899 : decode cL_law_ 899 = .ok (.aload_n 0, 1) := dk_get kL_law_r16_ok 10 rfl
theorem dL_law__900 : decode cL_law_ 900 = .ok (.iload 4, 2) := dk_get kL_law_r16_ok 11 rfl
theorem dL_law__902 : decode cL_law_ 902 = .ok (.iconst 1, 1) := dk_get kL_law_r16_ok 12 rfl
theorem dL_law__903 : decode cL_law_ 903 = .ok (.iadd, 1) := dk_get kL_law_r16_ok 13 rfl
theorem dL_law__904 : decode cL_law_ 904 = .ok (.iaload, 1) := dk_get kL_law_r16_ok 14 rfl
theorem dL_law__905 : decode cL_law_ 905 = .ok (.aload_n 0, 1) := dk_get kL_law_r16_ok 15 rfl
theorem dL_law__906 : decode cL_law_ 906 = .ok (.iload 4, 2) := dk_get kL_law_r16_ok 16 rfl
theorem dL_law__908 : decode cL_law_ 908 = .ok (.iconst 2, 1) := dk_get kL_law_r16_ok 17 rfl
theorem dL_law__909 : decode cL_law_ 909 = .ok (.iadd, 1) := dk_get kL_law_r16_ok 18 rfl
theorem dL_law__910 : decode cL_law_ 910 = .ok (.iaload, 1) := dk_get kL_law_r16_ok 19 rfl
theorem dL_law__911 : decode cL_law_ 911 = .ok (.aload_n 3, 1) := dk_get kL_law_r16_ok 20 rfl
theorem dL_law__912 : decode cL_law_ 912 = .ok (.invokestatic 158, 3) := dk_get kL_law_r16_ok 21 rfl
theorem dL_law__915 : decode cL_law_ 915 = .ok (.istore 5, 2) := dk_get kL_law_r16_ok 22 rfl
theorem dL_law__917 : decode cL_law_ 917 = .ok (.aload_n 2, 1) := dk_get kL_law_r16_ok 23 rfl
theorem dL_law__918 : decode cL_law_ 918 = .ok (.aload_n 0, 1) := dk_get kL_law_r16_ok 24 rfl
theorem dL_law__919 : decode cL_law_ 919 = .ok (.iload 4, 2) := dk_get kL_law_r16_ok 25 rfl
theorem dL_law__921 : decode cL_law_ 921 = .ok (.iconst 1, 1) := dk_get kL_law_r16_ok 26 rfl
theorem dL_law__922 : decode cL_law_ 922 = .ok (.iadd, 1) := dk_get kL_law_r16_ok 27 rfl
theorem dL_law__923 : decode cL_law_ 923 = .ok (.iaload, 1) := dk_get kL_law_r16_ok 28 rfl
theorem dL_law__924 : decode cL_law_ 924 = .ok (.aload_n 0, 1) := dk_get kL_law_r16_ok 29 rfl
def kL_law_r17 : List (Nat × Instr × Nat) := [(925, .iload 4, 2), (927, .iconst 2, 1), (928, .iadd, 1), (929, .iaload, 1), (930, .invokevirtual 160, 3), (933, .istore 6, 2), (935, .aload_n 2, 1), (936, .invokevirtual 122, 3), (939, .iload 5, 2), (941, .if_icmp .eq 5, 3), (944, .iconst 0, 1), (945, .ireturn, 1), (946, .iload 5, 2), (948, .ifCond .ne 15, 3), (951, .aload_n 3, 1), (952, .iconst 0, 1), (953, .laload, 1), (954, .iload 6, 2), (956, .i2l, 1), (957, .lcmp, 1), (958, .ifCond .eq 5, 3), (961, .iconst 0, 1), (962, .ireturn, 1), (963, .goto 1521, 3), (966, .aload_n 1, 1), (967, .aload_n 0, 1), (968, .iload 4, 2), (970, .iconst 1, 1), (971, .iadd, 1), (972, .iaload, 1)]
set_option maxRecDepth 100000 in
theorem kL_law_r17_ok : kL_law_r17.all (fun q => decide (decode cL_law_ q.1 = .ok q.2)) = true := by decide +kernel
theorem dL_law__925 : decode cL_law_ 925 = .ok (.iload 4, 2) := dk_get kL_law_r17_ok 0 rfl
theorem dL_law__927 : decode cL_law_ 927 = .ok (.iconst 2, 1) := dk_get kL_law_r17_ok 1 rfl
theorem dL_law__928 : decode cL_law_ 928 = .ok (.iadd, 1) := dk_get kL_law_r17_ok 2 rfl
theorem dL_law__929 : decode cL_law_ 929 = .ok (.iaload, 1) := dk_get kL_law_r17_ok 3 rfl
theorem dL_law__930 : decode cL_law_ 930 = .ok (.invokevirtual 160, 3) := dk_get kL_law_r17_ok 4 rfl
theorem dL_law__933 : decode cL_law_ 933 = .ok (.istore 6, 2) := dk_get kL_law_r17_ok 5 rfl
theorem dL_law__935 : decode cL_law_ 935 = .ok (.aload_n 2, 1) := dk_get kL_law_r17_ok 6 rfl
theorem dL_law__936 : decode cL_law_ 936 = .ok (.invokevirtual 122, 3) := dk_get kL_law_r17_ok 7 rfl
theorem dL_law__939 : decode cL_law_ 939 = .ok (.iload 5, 2) := dk_get kL_law_r17_ok 8 rfl
theorem dL_law__941 : decode cL_law_ 941 = .ok (.if_icmp .eq 5, 3) := dk_get kL_law_r17_ok 9 rfl
theorem dL_law__944 : decode cL_law_ 944 = .ok (.iconst 0, 1) := dk_get kL_law_r17_ok 10 rfl
theorem dL_law__945 : decode cL_law_ 945 = .ok (.ireturn, 1) := dk_get kL_law_r17_ok 11 rfl
theorem dL_law__946 : decode cL_law_ 946 = .ok (.iload 5, 2) := dk_get kL_law_r17_ok 12 rfl
theorem dL_law__948 : decode cL_law_ 948 = .ok (.ifCond .ne 15, 3) := dk_get kL_law_r17_ok 13 rfl
theorem dL_law__951 : decode cL_law_ 951 = .ok (.aload_n 3, 1) := dk_get kL_law_r17_ok 14 rfl
theorem dL_law__952 : decode cL_law_ 952 = .ok (.iconst 0, 1) := dk_get kL_law_r17_ok 15 rfl
theorem dL_law__953 : decode cL_law_ 953 = .ok (.laload, 1) := dk_get kL_law_r17_ok 16 rfl
theorem dL_law__954 : decode cL_law_ 954 = .ok (.iload 6, 2) := dk_get kL_law_r17_ok 17 rfl
theorem dL_law__956 : decode cL_law_ 956 = .ok (.i2l, 1) := dk_get kL_law_r17_ok 18 rfl
theorem dL_law__957 : decode cL_law_ 957 = .ok (.lcmp, 1) := dk_get kL_law_r17_ok 19 rfl
theorem dL_law__958 : decode cL_law_ 958 = .ok (.ifCond .eq 5, 3) := dk_get kL_law_r17_ok 20 rfl
theorem dL_law__961 : decode cL_law_ 961 = .ok (.iconst 0, 1) := dk_get kL_law_r17_ok 21 rfl
theorem dL_law__962 : decode cL_law_ 962 = .ok (.ireturn, 1) := dk_get kL_law_r17_ok 22 rfl
theorem dL_law__963 : decode cL_law_ 963 = .ok (.goto 1521, 3) := dk_get kL_law_r17_ok 23 rfl
theorem dL_law__966 : decode cL_law_ 966 = .ok (.aload_n 1, 1) := dk_get kL_law_r17_ok 24 rfl
theorem dL_law__967 : decode cL_law_ 967 = .ok (.aload_n 0, 1) := dk_get kL_law_r17_ok 25 rfl
theorem dL_law__968 : decode cL_law_ 968 = .ok (.iload 4, 2) := dk_get kL_law_r17_ok 26 rfl
theorem dL_law__970 : decode cL_law_ 970 = .ok (.iconst 1, 1) := dk_get kL_law_r17_ok 27 rfl
theorem dL_law__971 : decode cL_law_ 971 = .ok (.iadd, 1) := dk_get kL_law_r17_ok 28 rfl
theorem dL_law__972 : decode cL_law_ 972 = .ok (.iaload, 1) := dk_get kL_law_r17_ok 29 rfl
def kL_law_r18 : List (Nat × Instr × Nat) := [(973, .aload_n 0, 1), (974, .iload 4, 2), (976, .iconst 2, 1), (977, .iadd, 1), (978, .iaload, 1), (979, .aload_n 0, 1), (980, .iload 4, 2), (982, .iconst 3, 1), (983, .iadd, 1), (984, .iaload, 1), (985, .ifCond .eq 7, 3), (988, .iconst 1, 1), (989, .goto 4, 3), (992, .iconst 0, 1), (993, .aload_n 3, 1), (994, .invokestatic 161, 3), (997, .istore 5, 2), (999, .aload_n 2, 1), (1000, .aload_n 0, 1), (1001, .iload 4, 2), (1003, .iconst 1, 1), (1004, .iadd, 1), (1005, .iaload, 1), (1006, .aload_n 0, 1), (1007, .iload 4, 2), (1009, .iconst 2, 1), (1010, .iadd, 1), (1011, .iaload, 1), (1012, .aload_n 0, 1), (1013, .iload 4, 2)]
set_option maxRecDepth 100000 in
theorem kL_law_r18_ok : kL_law_r18.all (fun q => decide (decode cL_law_ q.1 = .ok q.2)) = true := by decide +kernel
theorem dL_law__973 : decode cL_law_ 973 = .ok (.aload_n 0, 1) := dk_get kL_law_r18_ok 0 rfl
theorem dL_law__974 : decode cL_law_ 974 = .ok (.iload 4, 2) := dk_get kL_law_r18_ok 1 rfl
theorem dL_law__976 : decode cL_law_ 976 = .ok (.iconst 2, 1) := dk_get kL_law_r18_ok 2 rfl
theorem dL_law__977 : decode cL_law_ 977 = .ok (.iadd, 1) := dk_get kL_law_r18_ok 3 rfl
theorem dL_law__978 : decode cL_law_ 978 = .ok (.iaload, 1) := dk_get kL_law_r18_ok 4 rfl
theorem dL_law__979 : decode cL_law_ 979 = .ok (.aload_n 0, 1) := dk_get kL_law_r18_ok 5 rfl
theorem dL_law__980 : decode cL_law_ 980 = .ok (.iload 4, 2) := dk_get kL_law_r18_ok 6 rfl
theorem dL_law__982 : decode cL_law_ 982 = .ok (.iconst 3, 1) := dk_get kL_law_r18_ok 7 rfl
theorem dL_law__983 : decode cL_law_ 983 = .ok (.iadd, 1) := dk_get kL_law_r18_ok 8 rfl
theorem dL_law__984 : decode cL_law_ 984 = .ok (.iaload, 1) := dk_get kL_law_r18_ok 9 rfl
theorem dL_law__985 : decode cL_law_ 985 = .ok (.ifCond .eq 7, 3) := dk_get kL_law_r18_ok 10 rfl
theorem dL_law__988 : decode cL_law_ 988 = .ok (.iconst 1, 1) := dk_get kL_law_r18_ok 11 rfl
theorem dL_law__989 : decode cL_law_ 989 = .ok (.goto 4, 3) := dk_get kL_law_r18_ok 12 rfl
theorem dL_law__992 : decode cL_law_ 992 = .ok (.iconst 0, 1) := dk_get kL_law_r18_ok 13 rfl
theorem dL_law__993 : decode cL_law_ 993 = .ok (.aload_n 3, 1) := dk_get kL_law_r18_ok 14 rfl
theorem dL_law__994 : decode cL_law_ 994 = .ok (.invokestatic 161, 3) := dk_get kL_law_r18_ok 15 rfl
theorem dL_law__997 : decode cL_law_ 997 = .ok (.istore 5, 2) := dk_get kL_law_r18_ok 16 rfl
theorem dL_law__999 : decode cL_law_ 999 = .ok (.aload_n 2, 1) := dk_get kL_law_r18_ok 17 rfl
theorem dL_law__1000 : decode cL_law_ 1000 = .ok (.aload_n 0, 1) := dk_get kL_law_r18_ok 18 rfl
theorem dL_law__1001 : decode cL_law_ 1001 = .ok (.iload 4, 2) := dk_get kL_law_r18_ok 19 rfl
theorem dL_law__1003 : decode cL_law_ 1003 = .ok (.iconst 1, 1) := dk_get kL_law_r18_ok 20 rfl
theorem dL_law__1004 : decode cL_law_ 1004 = .ok (.iadd, 1) := dk_get kL_law_r18_ok 21 rfl
theorem dL_law__1005 : decode cL_law_ 1005 = .ok (.iaload, 1) := dk_get kL_law_r18_ok 22 rfl
theorem dL_law__1006 : decode cL_law_ 1006 = .ok (.aload_n 0, 1) := dk_get kL_law_r18_ok 23 rfl
theorem dL_law__1007 : decode cL_law_ 1007 = .ok (.iload 4, 2) := dk_get kL_law_r18_ok 24 rfl
theorem dL_law__1009 : decode cL_law_ 1009 = .ok (.iconst 2, 1) := dk_get kL_law_r18_ok 25 rfl
theorem dL_law__1010 : decode cL_law_ 1010 = .ok (.iadd, 1) := dk_get kL_law_r18_ok 26 rfl
theorem dL_law__1011 : decode cL_law_ 1011 = .ok (.iaload, 1) := dk_get kL_law_r18_ok 27 rfl
theorem dL_law__1012 : decode cL_law_ 1012 = .ok (.aload_n 0, 1) := dk_get kL_law_r18_ok 28 rfl
theorem dL_law__1013 : decode cL_law_ 1013 = .ok (.iload 4, 2) := dk_get kL_law_r18_ok 29 rfl
def kL_law_r19 : List (Nat × Instr × Nat) := [(1015, .iconst 3, 1), (1016, .iadd, 1), (1017, .iaload, 1), (1018, .ifCond .eq 7, 3), (1021, .iconst 1, 1), (1022, .goto 4, 3), (1025, .iconst 0, 1), (1026, .invokevirtual 164, 3), (1029, .istore 6, 2), (1031, .aload_n 2, 1), (1032, .invokevirtual 122, 3), (1035, .iload 5, 2), (1037, .if_icmp .eq 5, 3), (1040, .iconst 0, 1), (1041, .ireturn, 1), (1042, .iload 5, 2), (1044, .ifCond .ne 15, 3), (1047, .aload_n 3, 1), (1048, .iconst 0, 1), (1049, .laload, 1), (1050, .iload 6, 2), (1052, .i2l, 1), (1053, .lcmp, 1), (1054, .ifCond .eq 5, 3), (1057, .iconst 0, 1), (1058, .ireturn, 1), (1059, .goto 1425, 3), (1062, .aload_n 1, 1), (1063, .aload_n 0, 1), (1064, .iload 4, 2)]
set_option maxRecDepth 100000 in
theorem kL_law_r19_ok : kL_law_r19.all (fun q => decide (decode cL_law_ q.1 = .ok q.2)) = true := by decide +kernel
theorem dL_law__1015 : decode cL_law_ 1015 = .ok (.iconst 3, 1) := dk_get kL_law_r19_ok 0 rfl
theorem dL_law__1016 : decode cL_law_ 1016 = .ok (.iadd, 1) := dk_get kL_law_r19_ok 1 rfl
theorem dL_law__1017 : decode cL_law_ 1017 = .ok (.iaload, 1) := dk_get kL_law_r19_ok 2 rfl
theorem dL_law__1018 : decode cL_law_ 1018 = .ok (.ifCond .eq 7, 3) := dk_get kL_law_r19_ok 3 rfl
theorem dL_law__1021 : decode cL_law_ 1021 = .ok (.iconst 1, 1) := dk_get kL_law_r19_ok 4 rfl
theorem dL_law__1022 : decode cL_law_ 1022 = .ok (.goto 4, 3) := dk_get kL_law_r19_ok 5 rfl
theorem dL_law__1025 : decode cL_law_ 1025 = .ok (.iconst 0, 1) := dk_get kL_law_r19_ok 6 rfl
theorem dL_law__1026 : decode cL_law_ 1026 = .ok (.invokevirtual 164, 3) := dk_get kL_law_r19_ok 7 rfl
theorem dL_law__1029 : decode cL_law_ 1029 = .ok (.istore 6, 2) := dk_get kL_law_r19_ok 8 rfl
theorem dL_law__1031 : decode cL_law_ 1031 = .ok (.aload_n 2, 1) := dk_get kL_law_r19_ok 9 rfl
theorem dL_law__1032 : decode cL_law_ 1032 = .ok (.invokevirtual 122, 3) := dk_get kL_law_r19_ok 10 rfl
theorem dL_law__1035 : decode cL_law_ 1035 = .ok (.iload 5, 2) := dk_get kL_law_r19_ok 11 rfl
theorem dL_law__1037 : decode cL_law_ 1037 = .ok (.if_icmp .eq 5, 3) := dk_get kL_law_r19_ok 12 rfl
theorem dL_law__1040 : decode cL_law_ 1040 = .ok (.iconst 0, 1) := dk_get kL_law_r19_ok 13 rfl
theorem dL_law__1041 : decode cL_law_ 1041 = .ok (.ireturn, 1) := dk_get kL_law_r19_ok 14 rfl
theorem dL_law__1042 : decode cL_law_ 1042 = .ok (.iload 5, 2) := dk_get kL_law_r19_ok 15 rfl
theorem dL_law__1044 : decode cL_law_ 1044 = .ok (.ifCond .ne 15, 3) := dk_get kL_law_r19_ok 16 rfl
theorem dL_law__1047 : decode cL_law_ 1047 = .ok (.aload_n 3, 1) := dk_get kL_law_r19_ok 17 rfl
theorem dL_law__1048 : decode cL_law_ 1048 = .ok (.iconst 0, 1) := dk_get kL_law_r19_ok 18 rfl
theorem dL_law__1049 : decode cL_law_ 1049 = .ok (.laload, 1) := dk_get kL_law_r19_ok 19 rfl
theorem dL_law__1050 : decode cL_law_ 1050 = .ok (.iload 6, 2) := dk_get kL_law_r19_ok 20 rfl
theorem dL_law__1052 : decode cL_law_ 1052 = .ok (.i2l, 1) := dk_get kL_law_r19_ok 21 rfl
theorem dL_law__1053 : decode cL_law_ 1053 = .ok (.lcmp, 1) := dk_get kL_law_r19_ok 22 rfl
theorem dL_law__1054 : decode cL_law_ 1054 = .ok (.ifCond .eq 5, 3) := dk_get kL_law_r19_ok 23 rfl
theorem dL_law__1057 : decode cL_law_ 1057 = .ok (.iconst 0, 1) := dk_get kL_law_r19_ok 24 rfl
theorem dL_law__1058 : decode cL_law_ 1058 = .ok (.ireturn, 1) := dk_get kL_law_r19_ok 25 rfl
theorem dL_law__1059 : decode cL_law_ 1059 = .ok (.goto 1425, 3) := dk_get kL_law_r19_ok 26 rfl
theorem dL_law__1062 : decode cL_law_ 1062 = .ok (.aload_n 1, 1) := dk_get kL_law_r19_ok 27 rfl
theorem dL_law__1063 : decode cL_law_ 1063 = .ok (.aload_n 0, 1) := dk_get kL_law_r19_ok 28 rfl
theorem dL_law__1064 : decode cL_law_ 1064 = .ok (.iload 4, 2) := dk_get kL_law_r19_ok 29 rfl
