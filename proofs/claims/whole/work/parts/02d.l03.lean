theorem dL_law__837 : decode cL_law_ 837 = .ok (.aload_n 0, 1) := by decide +kernel
theorem dL_law__838 : decode cL_law_ 838 = .ok (.iload 4, 2) := by decide +kernel
theorem dL_law__840 : decode cL_law_ 840 = .ok (.iconst 2, 1) := by decide +kernel
theorem dL_law__841 : decode cL_law_ 841 = .ok (.iadd, 1) := by decide +kernel
theorem dL_law__842 : decode cL_law_ 842 = .ok (.iaload, 1) := by decide +kernel
theorem dL_law__843 : decode cL_law_ 843 = .ok (.aload_n 3, 1) := by decide +kernel
theorem dL_law__844 : decode cL_law_ 844 = .ok (.invokestatic 155, 3) := by decide +kernel
theorem dL_law__847 : decode cL_law_ 847 = .ok (.istore 5, 2) := by decide +kernel
theorem dL_law__849 : decode cL_law_ 849 = .ok (.aload_n 2, 1) := by decide +kernel
theorem dL_law__850 : decode cL_law_ 850 = .ok (.aload_n 0, 1) := by decide +kernel
theorem dL_law__851 : decode cL_law_ 851 = .ok (.iload 4, 2) := by decide +kernel
theorem dL_law__853 : decode cL_law_ 853 = .ok (.iconst 1, 1) := by decide +kernel
theorem dL_law__854 : decode cL_law_ 854 = .ok (.iadd, 1) := by decide +kernel
theorem dL_law__855 : decode cL_law_ 855 = .ok (.iaload, 1) := by decide +kernel
theorem dL_law__856 : decode cL_law_ 856 = .ok (.aload_n 0, 1) := by decide +kernel
theorem dL_law__857 : decode cL_law_ 857 = .ok (.iload 4, 2) := by decide +kernel
theorem dL_law__859 : decode cL_law_ 859 = .ok (.iconst 2, 1) := by decide +kernel
theorem dL_law__860 : decode cL_law_ 860 = .ok (.iadd, 1) := by decide +kernel
theorem dL_law__861 : decode cL_law_ 861 = .ok (.iaload, 1) := by decide +kernel
theorem dL_law__862 : decode cL_law_ 862 = .ok (.invokevirtual 157, 3) := by decide +kernel
theorem dL_law__865 : decode cL_law_ 865 = .ok (.istore 6, 2) := by decide +kernel
theorem dL_law__867 : decode cL_law_ 867 = .ok (.aload_n 2, 1) := by decide +kernel
theorem dL_law__868 : decode cL_law_ 868 = .ok (.invokevirtual 122, 3) := by decide +kernel
theorem dL_law__871 : decode cL_law_ 871 = .ok (.iload 5, 2) := by decide +kernel
theorem dL_law__873 : decode cL_law_ 873 = .ok (.if_icmp .eq 5, 3) := by decide +kernel
theorem dL_law__876 : decode cL_law_ 876 = .ok (.iconst 0, 1) := by decide +kernel
theorem dL_law__877 : decode cL_law_ 877 = .ok (.ireturn, 1) := by decide +kernel
theorem dL_law__878 : decode cL_law_ 878 = .ok (.iload 5, 2) := by decide +kernel
theorem dL_law__880 : decode cL_law_ 880 = .ok (.ifCond .ne 15, 3) := by decide +kernel
theorem dL_law__883 : decode cL_law_ 883 = .ok (.aload_n 3, 1) := by decide +kernel
theorem dL_law__884 : decode cL_law_ 884 = .ok (.iconst 0, 1) := by decide +kernel
theorem dL_law__885 : decode cL_law_ 885 = .ok (.laload, 1) := by decide +kernel
theorem dL_law__886 : decode cL_law_ 886 = .ok (.iload 6, 2) := by decide +kernel
theorem dL_law__888 : decode cL_law_ 888 = .ok (.i2l, 1) := by decide +kernel
theorem dL_law__889 : decode cL_law_ 889 = .ok (.lcmp, 1) := by decide +kernel
theorem dL_law__890 : decode cL_law_ 890 = .ok (.ifCond .eq 5, 3) := by decide +kernel
theorem dL_law__893 : decode cL_law_ 893 = .ok (.iconst 0, 1) := by decide +kernel
theorem dL_law__894 : decode cL_law_ 894 = .ok (.ireturn, 1) := by decide +kernel
theorem dL_law__895 : decode cL_law_ 895 = .ok (.goto 1589, 3) := by decide +kernel
theorem dL_law__898 : decode cL_law_ 898 = .ok (.aload_n 1, 1) := by decide +kernel
theorem dL_law__899 : decode cL_law_ 899 = .ok (.aload_n 0, 1) := by decide +kernel
theorem dL_law__900 : decode cL_law_ 900 = .ok (.iload 4, 2) := by decide +kernel
theorem dL_law__902 : decode cL_law_ 902 = .ok (.iconst 1, 1) := by decide +kernel
theorem dL_law__903 : decode cL_law_ 903 = .ok (.iadd, 1) := by decide +kernel
theorem dL_law__904 : decode cL_law_ 904 = .ok (.iaload, 1) := by decide +kernel
theorem dL_law__905 : decode cL_law_ 905 = .ok (.aload_n 0, 1) := by decide +kernel
theorem dL_law__906 : decode cL_law_ 906 = .ok (.iload 4, 2) := by decide +kernel
theorem dL_law__908 : decode cL_law_ 908 = .ok (.iconst 2, 1) := by decide +kernel
theorem dL_law__909 : decode cL_law_ 909 = .ok (.iadd, 1) := by decide +kernel
theorem dL_law__910 : decode cL_law_ 910 = .ok (.iaload, 1) := by decide +kernel
theorem dL_law__911 : decode cL_law_ 911 = .ok (.aload_n 3, 1) := by decide +kernel
theorem dL_law__912 : decode cL_law_ 912 = .ok (.invokestatic 158, 3) := by decide +kernel
theorem dL_law__915 : decode cL_law_ 915 = .ok (.istore 5, 2) := by decide +kernel
theorem dL_law__917 : decode cL_law_ 917 = .ok (.aload_n 2, 1) := by decide +kernel
theorem dL_law__918 : decode cL_law_ 918 = .ok (.aload_n 0, 1) := by decide +kernel
theorem dL_law__919 : decode cL_law_ 919 = .ok (.iload 4, 2) := by decide +kernel
theorem dL_law__921 : decode cL_law_ 921 = .ok (.iconst 1, 1) := by decide +kernel
theorem dL_law__922 : decode cL_law_ 922 = .ok (.iadd, 1) := by decide +kernel
theorem dL_law__923 : decode cL_law_ 923 = .ok (.iaload, 1) := by decide +kernel
theorem dL_law__924 : decode cL_law_ 924 = .ok (.aload_n 0, 1) := by decide +kernel
theorem dL_law__925 : decode cL_law_ 925 = .ok (.iload 4, 2) := by decide +kernel
theorem dL_law__927 : decode cL_law_ 927 = .ok (.iconst 2, 1) := by decide +kernel
theorem dL_law__928 : decode cL_law_ 928 = .ok (.iadd, 1) := by decide +kernel
theorem dL_law__929 : decode cL_law_ 929 = .ok (.iaload, 1) := by decide +kernel
theorem dL_law__930 : decode cL_law_ 930 = .ok (.invokevirtual 160, 3) := by decide +kernel
theorem dL_law__933 : decode cL_law_ 933 = .ok (.istore 6, 2) := by decide +kernel
theorem dL_law__935 : decode cL_law_ 935 = .ok (.aload_n 2, 1) := by decide +kernel
theorem dL_law__936 : decode cL_law_ 936 = .ok (.invokevirtual 122, 3) := by decide +kernel
theorem dL_law__939 : decode cL_law_ 939 = .ok (.iload 5, 2) := by decide +kernel
theorem dL_law__941 : decode cL_law_ 941 = .ok (.if_icmp .eq 5, 3) := by decide +kernel
theorem dL_law__944 : decode cL_law_ 944 = .ok (.iconst 0, 1) := by decide +kernel
theorem dL_law__945 : decode cL_law_ 945 = .ok (.ireturn, 1) := by decide +kernel
theorem dL_law__946 : decode cL_law_ 946 = .ok (.iload 5, 2) := by decide +kernel
theorem dL_law__948 : decode cL_law_ 948 = .ok (.ifCond .ne 15, 3) := by decide +kernel
theorem dL_law__951 : decode cL_law_ 951 = .ok (.aload_n 3, 1) := by decide +kernel
theorem dL_law__952 : decode cL_law_ 952 = .ok (.iconst 0, 1) := by decide +kernel
theorem dL_law__953 : decode cL_law_ 953 = .ok (.laload, 1) := by decide +kernel
theorem dL_law__954 : decode cL_law_ 954 = .ok (.iload 6, 2) := by decide +kernel
theorem dL_law__956 : decode cL_law_ 956 = .ok (.i2l, 1) := by decide +kernel
theorem dL_law__957 : decode cL_law_ 957 = .ok (.lcmp, 1) := by decide +kernel
theorem dL_law__958 : decode cL_law_ 958 = .ok (.ifCond .eq 5, 3) := by decide +kernel
theorem dL_law__961 : decode cL_law_ 961 = .ok (.iconst 0, 1) := by decide +kernel
theorem dL_law__962 : decode cL_law_ 962 = .ok (.ireturn, 1) := by decide +kernel
theorem dL_law__963 : decode cL_law_ 963 = .ok (.goto 1521, 3) := by decide +kernel
theorem dL_law__966 : decode cL_law_ 966 = .ok (.aload_n 1, 1) := by decide +kernel
theorem dL_law__967 : decode cL_law_ 967 = .ok (.aload_n 0, 1) := by decide +kernel
theorem dL_law__968 : decode cL_law_ 968 = .ok (.iload 4, 2) := by decide +kernel
theorem dL_law__970 : decode cL_law_ 970 = .ok (.iconst 1, 1) := by decide +kernel
theorem dL_law__971 : decode cL_law_ 971 = .ok (.iadd, 1) := by decide +kernel
theorem dL_law__972 : decode cL_law_ 972 = .ok (.iaload, 1) := by decide +kernel
theorem dL_law__973 : decode cL_law_ 973 = .ok (.aload_n 0, 1) := by decide +kernel
theorem dL_law__974 : decode cL_law_ 974 = .ok (.iload 4, 2) := by decide +kernel
theorem dL_law__976 : decode cL_law_ 976 = .ok (.iconst 2, 1) := by decide +kernel
theorem dL_law__977 : decode cL_law_ 977 = .ok (.iadd, 1) := by decide +kernel
theorem dL_law__978 : decode cL_law_ 978 = .ok (.iaload, 1) := by decide +kernel
theorem dL_law__979 : decode cL_law_ 979 = .ok (.aload_n 0, 1) := by decide +kernel
theorem dL_law__980 : decode cL_law_ 980 = .ok (.iload 4, 2) := by decide +kernel
theorem dL_law__982 : decode cL_law_ 982 = .ok (.iconst 3, 1) := by decide +kernel
theorem dL_law__983 : decode cL_law_ 983 = .ok (.iadd, 1) := by decide +kernel
theorem dL_law__984 : decode cL_law_ 984 = .ok (.iaload, 1) := by decide +kernel
theorem dL_law__985 : decode cL_law_ 985 = .ok (.ifCond .eq 7, 3) := by decide +kernel
theorem dL_law__988 : decode cL_law_ 988 = .ok (.iconst 1, 1) := by decide +kernel
theorem dL_law__989 : decode cL_law_ 989 = .ok (.goto 4, 3) := by decide +kernel
theorem dL_law__992 : decode cL_law_ 992 = .ok (.iconst 0, 1) := by decide +kernel
theorem dL_law__993 : decode cL_law_ 993 = .ok (.aload_n 3, 1) := by decide +kernel
theorem dL_law__994 : decode cL_law_ 994 = .ok (.invokestatic 161, 3) := by decide +kernel
theorem dL_law__997 : decode cL_law_ 997 = .ok (.istore 5, 2) := by decide +kernel
theorem dL_law__999 : decode cL_law_ 999 = .ok (.aload_n 2, 1) := by decide +kernel
theorem dL_law__1000 : decode cL_law_ 1000 = .ok (.aload_n 0, 1) := by decide +kernel
theorem dL_law__1001 : decode cL_law_ 1001 = .ok (.iload 4, 2) := by decide +kernel
theorem dL_law__1003 : decode cL_law_ 1003 = .ok (.iconst 1, 1) := by decide +kernel
theorem dL_law__1004 : decode cL_law_ 1004 = .ok (.iadd, 1) := by decide +kernel
theorem dL_law__1005 : decode cL_law_ 1005 = .ok (.iaload, 1) := by decide +kernel
theorem dL_law__1006 : decode cL_law_ 1006 = .ok (.aload_n 0, 1) := by decide +kernel
theorem dL_law__1007 : decode cL_law_ 1007 = .ok (.iload 4, 2) := by decide +kernel
theorem dL_law__1009 : decode cL_law_ 1009 = .ok (.iconst 2, 1) := by decide +kernel
theorem dL_law__1010 : decode cL_law_ 1010 = .ok (.iadd, 1) := by decide +kernel
theorem dL_law__1011 : decode cL_law_ 1011 = .ok (.iaload, 1) := by decide +kernel
theorem dL_law__1012 : decode cL_law_ 1012 = .ok (.aload_n 0, 1) := by decide +kernel
theorem dL_law__1013 : decode cL_law_ 1013 = .ok (.iload 4, 2) := by decide +kernel
theorem dL_law__1015 : decode cL_law_ 1015 = .ok (.iconst 3, 1) := by decide +kernel
theorem dL_law__1016 : decode cL_law_ 1016 = .ok (.iadd, 1) := by decide +kernel
theorem dL_law__1017 : decode cL_law_ 1017 = .ok (.iaload, 1) := by decide +kernel
theorem dL_law__1018 : decode cL_law_ 1018 = .ok (.ifCond .eq 7, 3) := by decide +kernel
theorem dL_law__1021 : decode cL_law_ 1021 = .ok (.iconst 1, 1) := by decide +kernel
theorem dL_law__1022 : decode cL_law_ 1022 = .ok (.goto 4, 3) := by decide +kernel
theorem dL_law__1025 : decode cL_law_ 1025 = .ok (.iconst 0, 1) := by decide +kernel
theorem dL_law__1026 : decode cL_law_ 1026 = .ok (.invokevirtual 164, 3) := by decide +kernel
theorem dL_law__1029 : decode cL_law_ 1029 = .ok (.istore 6, 2) := by decide +kernel
theorem dL_law__1031 : decode cL_law_ 1031 = .ok (.aload_n 2, 1) := by decide +kernel
theorem dL_law__1032 : decode cL_law_ 1032 = .ok (.invokevirtual 122, 3) := by decide +kernel
theorem dL_law__1035 : decode cL_law_ 1035 = .ok (.iload 5, 2) := by decide +kernel
theorem dL_law__1037 : decode cL_law_ 1037 = .ok (.if_icmp .eq 5, 3) := by decide +kernel
theorem dL_law__1040 : decode cL_law_ 1040 = .ok (.iconst 0, 1) := by decide +kernel
theorem dL_law__1041 : decode cL_law_ 1041 = .ok (.ireturn, 1) := by decide +kernel
theorem dL_law__1042 : decode cL_law_ 1042 = .ok (.iload 5, 2) := by decide +kernel
theorem dL_law__1044 : decode cL_law_ 1044 = .ok (.ifCond .ne 15, 3) := by decide +kernel
theorem dL_law__1047 : decode cL_law_ 1047 = .ok (.aload_n 3, 1) := by decide +kernel
theorem dL_law__1048 : decode cL_law_ 1048 = .ok (.iconst 0, 1) := by decide +kernel
theorem dL_law__1049 : decode cL_law_ 1049 = .ok (.laload, 1) := by decide +kernel
theorem dL_law__1050 : decode cL_law_ 1050 = .ok (.iload 6, 2) := by decide +kernel
theorem dL_law__1052 : decode cL_law_ 1052 = .ok (.i2l, 1) := by decide +kernel
theorem dL_law__1053 : decode cL_law_ 1053 = .ok (.lcmp, 1) := by decide +kernel
theorem dL_law__1054 : decode cL_law_ 1054 = .ok (.ifCond .eq 5, 3) := by decide +kernel
theorem dL_law__1057 : decode cL_law_ 1057 = .ok (.iconst 0, 1) := by decide +kernel
theorem dL_law__1058 : decode cL_law_ 1058 = .ok (.ireturn, 1) := by decide +kernel
theorem dL_law__1059 : decode cL_law_ 1059 = .ok (.goto 1425, 3) := by decide +kernel
theorem dL_law__1062 : decode cL_law_ 1062 = .ok (.aload_n 1, 1) := by decide +kernel
theorem dL_law__1063 : decode cL_law_ 1063 = .ok (.aload_n 0, 1) := by decide +kernel
theorem dL_law__1064 : decode cL_law_ 1064 = .ok (.iload 4, 2) := by decide +kernel
