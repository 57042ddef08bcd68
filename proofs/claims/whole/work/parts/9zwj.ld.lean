def kL_law_r36 : List (Nat × Instr × Nat) := [(1812, .iload 5, 2), (1814, .ifCond .ne 15, 3), (1817, .aload_n 3, 1), (1818, .iconst 0, 1), (1819, .laload, 1), (1820, .iload 6, 2), (1822, .i2l, 1), (1823, .lcmp, 1), (1824, .ifCond .eq 5, 3), (1827, .iconst 0, 1), (1828, .ireturn, 1), (1829, .goto 655, 3), (1832, .aload_n 1, 1), (1833, .aload_n 0, 1), (1834, .iload 4, 2), (1836, .iconst 1, 1), (1837, .iadd, 1), (1838, .iaload, 1), (1839, .aload_n 3, 1), (1840, .invokestatic 216, 3), (1843, .istore 5, 2), (1845, .aload_n 2, 1), (1846, .aload_n 0, 1), (1847, .iload 4, 2), (1849, .iconst 1, 1), (1850, .iadd, 1), (1851, .iaload, 1), (1852, .invokevirtual 218, 3), (1855, .istore 6, 2), (1857, .aload_n 2, 1)]
set_option maxRecDepth 100000 in
theorem kL_law_r36_ok : kL_law_r36.all (fun q => decide (decode cL_law_ q.1 = .ok q.2)) = true := by decide +kernel
theorem dL_law__1812 : decode cL_law_ 1812 = .ok (.iload 5, 2) := dk_get kL_law_r36_ok 0 rfl
theorem dL_law__1814 : decode cL_law_ 1814 = .ok (.ifCond .ne 15, 3) := dk_get kL_law_r36_ok 1 rfl
theorem dL_law__1817 : decode cL_law_ 1817 = .ok (.aload_n 3, 1) := dk_get kL_law_r36_ok 2 rfl
theorem dL_law__1818 : decode cL_law_ 1818 = .ok (.iconst 0, 1) := dk_get kL_law_r36_ok 3 rfl
theorem dL_law__1819 : decode cL_law_ 1819 = .ok (.laload, 1) := dk_get kL_law_r36_ok 4 rfl
theorem dL_law__1820 : decode cL_law_ 1820 = .ok (.iload 6, 2) := dk_get kL_law_r36_ok 5 rfl
theorem dL_law__1822 : decode cL_law_ 1822 = .ok (.i2l, 1) := dk_get kL_law_r36_ok 6 rfl
theorem dL_law__1823 : decode cL_law_ 1823 = .ok (.lcmp, 1) := dk_get kL_law_r36_ok 7 rfl
theorem dL_law__1824 : decode cL_law_ 1824 = .ok (.ifCond .eq 5, 3) := dk_get kL_law_r36_ok 8 rfl
theorem dL_law__1827 : decode cL_law_ 1827 = .ok (.iconst 0, 1) := dk_get kL_law_r36_ok 9 rfl
theorem dL_law__1828 : decode cL_law_ 1828 = .ok (.ireturn, 1) := dk_get kL_law_r36_ok 10 rfl
theorem dL_law__1829 : decode cL_law_ 1829 = .ok (.goto 655, 3) := dk_get kL_law_r36_ok 11 rfl
theorem dL_law__1832 : decode cL_law_ 1832 = .ok (.aload_n 1, 1) := dk_get kL_law_r36_ok 12 rfl
theorem dL_law__1833 : decode cL_law_ 1833 = .ok (.aload_n 0, 1) := dk_get kL_law_r36_ok 13 rfl
theorem dL_law__1834 : decode cL_law_ 1834 = .ok (.iload 4, 2) := dk_get kL_law_r36_ok 14 rfl
theorem dL_law__1836 : decode cL_law_ 1836 = .ok (.iconst 1, 1) := dk_get kL_law_r36_ok 15 rfl
theorem dL_law__1837 : decode cL_law_ 1837 = .ok (.iadd, 1) := dk_get kL_law_r36_ok 16 rfl
theorem dL_law__1838 : decode cL_law_ 1838 = .ok (.iaload, 1) := dk_get kL_law_r36_ok 17 rfl
theorem dL_law__1839 : decode cL_law_ 1839 = .ok (.aload_n 3, 1) := dk_get kL_law_r36_ok 18 rfl
theorem dL_law__1840 : decode cL_law_ 1840 = .ok (.invokestatic 216, 3) := dk_get kL_law_r36_ok 19 rfl
theorem dL_law__1843 : decode cL_law_ 1843 = .ok (.istore 5, 2) := dk_get kL_law_r36_ok 20 rfl
theorem dL_law__1845 : decode cL_law_ 1845 = .ok (.aload_n 2, 1) := dk_get kL_law_r36_ok 21 rfl
theorem dL_law__1846 : decode cL_law_ 1846 = .ok (.aload_n 0, 1) := dk_get kL_law_r36_ok 22 rfl
theorem dL_law__1847 : decode cL_law_ 1847 = .ok (.iload 4, 2) := dk_get kL_law_r36_ok 23 rfl
theorem dL_law__1849 : decode cL_law_ 1849 = .ok (.iconst 1, 1) := dk_get kL_law_r36_ok 24 rfl
theorem dL_law__1850 : decode cL_law_ 1850 = .ok (.iadd, 1) := dk_get kL_law_r36_ok 25 rfl
theorem dL_law__1851 : decode cL_law_ 1851 = .ok (.iaload, 1) := dk_get kL_law_r36_ok 26 rfl
theorem dL_law__1852 : decode cL_law_ 1852 = .ok (.invokevirtual 218, 3) := dk_get kL_law_r36_ok 27 rfl
theorem dL_law__1855 : decode cL_law_ 1855 = .ok (.istore 6, 2) := dk_get kL_law_r36_ok 28 rfl
theorem dL_law__1857 : decode cL_law_ 1857 = .ok (.aload_n 2, 1) := dk_get kL_law_r36_ok 29 rfl
def kL_law_r37 : List (Nat × Instr × Nat) := [(1858, .invokevirtual 122, 3), (1861, .iload 5, 2), (1863, .if_icmp .eq 5, 3), (1866, .iconst 0, 1), (1867, .ireturn, 1), (1868, .iload 5, 2), (1870, .ifCond .ne 15, 3), (1873, .aload_n 3, 1), (1874, .iconst 0, 1), (1875, .laload, 1), (1876, .iload 6, 2), (1878, .i2l, 1), (1879, .lcmp, 1), (1880, .ifCond .eq 5, 3), (1883, .iconst 0, 1), (1884, .ireturn, 1), (1885, .goto 599, 3), (1888, .aload_n 1, 1), (1889, .invokevirtual 219, 3), (1892, .aload_n 2, 1), (1893, .invokevirtual 222, 3), (1896, .lcmp, 1), (1897, .ifCond .eq 587, 3), (1900, .iconst 0, 1), (1901, .ireturn, 1), (1902, .aload_n 1, 1), (1903, .invokevirtual 223, 3), (1906, .aload_n 2, 1), (1907, .invokevirtual 226, 3), (1910, .if_icmp .eq 574, 3)]
set_option maxRecDepth 100000 in
theorem kL_law_r37_ok : kL_law_r37.all (fun q => decide (decode cL_law_ q.1 = .ok q.2)) = true := by decide +kernel
theorem dL_law__1858 : decode cL_law_ 1858 = .ok (.invokevirtual 122, 3) := dk_get kL_law_r37_ok 0 rfl
theorem dL_law__1861 : decode cL_law_ 1861 = .ok (.iload 5, 2) := dk_get kL_law_r37_ok 1 rfl
theorem dL_law__1863 : decode cL_law_ 1863 = .ok (.if_icmp .eq 5, 3) := dk_get kL_law_r37_ok 2 rfl
theorem dL_law__1866 : decode cL_law_ 1866 = .ok (.iconst 0, 1) := dk_get kL_law_r37_ok 3 rfl
theorem dL_law__1867 : decode cL_law_ 1867 = .ok (.ireturn, 1) := dk_get kL_law_r37_ok 4 rfl
theorem dL_law__1868 : decode cL_law_ 1868 = .ok (.iload 5, 2) := dk_get kL_law_r37_ok 5 rfl
theorem dL_law__1870 : decode cL_law_ 1870 = .ok (.ifCond .ne 15, 3) := dk_get kL_law_r37_ok 6 rfl
theorem dL_law__1873 : decode cL_law_ 1873 = .ok (.aload_n 3, 1) := dk_get kL_law_r37_ok 7 rfl
theorem dL_law__1874 : decode cL_law_ 1874 = .ok (.iconst 0, 1) := dk_get kL_law_r37_ok 8 rfl
theorem dL_law__1875 : decode cL_law_ 1875 = .ok (.laload, 1) := dk_get kL_law_r37_ok 9 rfl
theorem dL_law__1876 : decode cL_law_ 1876 = .ok (.iload 6, 2) := dk_get kL_law_r37_ok 10 rfl
theorem dL_law__1878 : decode cL_law_ 1878 = .ok (.i2l, 1) := dk_get kL_law_r37_ok 11 rfl
theorem dL_law__1879 : decode cL_law_ 1879 = .ok (.lcmp, 1) := dk_get kL_law_r37_ok 12 rfl
theorem dL_law__1880 : decode cL_law_ 1880 = .ok (.ifCond .eq 5, 3) := dk_get kL_law_r37_ok 13 rfl
theorem dL_law__1883 : decode cL_law_ 1883 = .ok (.iconst 0, 1) := dk_get kL_law_r37_ok 14 rfl
theorem dL_law__1884 : decode cL_law_ 1884 = .ok (.ireturn, 1) := dk_get kL_law_r37_ok 15 rfl
theorem dL_law__1885 : decode cL_law_ 1885 = .ok (.goto 599, 3) := dk_get kL_law_r37_ok 16 rfl
theorem dL_law__1888 : decode cL_law_ 1888 = .ok (.aload_n 1, 1) := dk_get kL_law_r37_ok 17 rfl
theorem dL_law__1889 : decode cL_law_ 1889 = .ok (.invokevirtual 219, 3) := dk_get kL_law_r37_ok 18 rfl
theorem dL_law__1892 : decode cL_law_ 1892 = .ok (.aload_n 2, 1) := dk_get kL_law_r37_ok 19 rfl
theorem dL_law__1893 : decode cL_law_ 1893 = .ok (.invokevirtual 222, 3) := dk_get kL_law_r37_ok 20 rfl
theorem dL_law__1896 : decode cL_law_ 1896 = .ok (.lcmp, 1) := dk_get kL_law_r37_ok 21 rfl
theorem dL_law__1897 : decode cL_law_ 1897 = .ok (.ifCond .eq 587, 3) := dk_get kL_law_r37_ok 22 rfl
theorem dL_law__1900 : decode cL_law_ 1900 = .ok (.iconst 0, 1) := dk_get kL_law_r37_ok 23 rfl
theorem dL_law__1901 : decode cL_law_ 1901 = .ok (.ireturn, 1) := dk_get kL_law_r37_ok 24 rfl
theorem dL_law__1902 : decode cL_law_ 1902 = .ok (.aload_n 1, 1) := dk_get kL_law_r37_ok 25 rfl
theorem dL_law__1903 : decode cL_law_ 1903 = .ok (.invokevirtual 223, 3) := dk_get kL_law_r37_ok 26 rfl
theorem dL_law__1906 : decode cL_law_ 1906 = .ok (.aload_n 2, 1) := dk_get kL_law_r37_ok 27 rfl
theorem dL_law__1907 : decode cL_law_ 1907 = .ok (.invokevirtual 226, 3) := dk_get kL_law_r37_ok 28 rfl
theorem dL_law__1910 : decode cL_law_ 1910 = .ok (.if_icmp .eq 574, 3) := dk_get kL_law_r37_ok 29 rfl
def kL_law_r38 : List (Nat × Instr × Nat) := [(1913, .iconst 0, 1), (1914, .ireturn, 1), (1915, .aload_n 1, 1), (1916, .aload_n 0, 1), (1917, .iload 4, 2), (1919, .iconst 1, 1), (1920, .iadd, 1), (1921, .iaload, 1), (1922, .aload_n 0, 1), (1923, .iload 4, 2), (1925, .iconst 2, 1), (1926, .iadd, 1), (1927, .iaload, 1), (1928, .aload_n 3, 1), (1929, .invokestatic 227, 3), (1932, .istore 5, 2), (1934, .aload_n 2, 1), (1935, .aload_n 0, 1), (1936, .iload 4, 2), (1938, .iconst 1, 1), (1939, .iadd, 1), (1940, .iaload, 1), (1941, .aload_n 0, 1), (1942, .iload 4, 2), (1944, .iconst 2, 1), (1945, .iadd, 1), (1946, .iaload, 1), (1947, .invokevirtual 229, 3), (1950, .istore 6, 2), (1952, .aload_n 2, 1)]
set_option maxRecDepth 100000 in
theorem kL_law_r38_ok : kL_law_r38.all (fun q => decide (decode cL_law_ q.1 = .ok q.2)) = true := by decide +kernel
theorem dL_law__1913 : decode cL_law_ 1913 = .ok (.iconst 0, 1) := dk_get kL_law_r38_ok 0 rfl
theorem dL_law__1914 : decode cL_law_ 1914 = .ok (.ireturn, 1) := dk_get kL_law_r38_ok 1 rfl
theorem dL_law__1915 : decode cL_law_ 1915 = .ok (.aload_n 1, 1) := dk_get kL_law_r38_ok 2 rfl
theorem dL_law__1916 : decode cL_law_ 1916 = .ok (.aload_n 0, 1) := dk_get kL_law_r38_ok 3 rfl
theorem dL_law__1917 : decode cL_law_ 1917 = .ok (.iload 4, 2) := dk_get kL_law_r38_ok 4 rfl
theorem dL_law__1919 : decode cL_law_ 1919 = .ok (.iconst 1, 1) := dk_get kL_law_r38_ok 5 rfl
theorem dL_law__1920 : decode cL_law_ 1920 = .ok (.iadd, 1) := dk_get kL_law_r38_ok 6 rfl
theorem dL_law__1921 : decode cL_law_ 1921 = .ok (.iaload, 1) := dk_get kL_law_r38_ok 7 rfl
theorem dL_law__1922 : decode cL_law_ 1922 = .ok (.aload_n 0, 1) := dk_get kL_law_r38_ok 8 rfl
theorem dL_law__1923 : decode cL_law_ 1923 = .ok (.iload 4, 2) := dk_get kL_law_r38_ok 9 rfl
theorem dL_law__1925 : decode cL_law_ 1925 = .ok (.iconst 2, 1) := dk_get kL_law_r38_ok 10 rfl
theorem dL_law__1926 : decode cL_law_ 1926 = .ok (.iadd, 1) := dk_get kL_law_r38_ok 11 rfl
theorem dL_law__1927 : decode cL_law_ 1927 = .ok (.iaload, 1) := dk_get kL_law_r38_ok 12 rfl
theorem dL_law__1928 : decode cL_law_ 1928 = .ok (.aload_n 3, 1) := dk_get kL_law_r38_ok 13 rfl
theorem dL_law__1929 : decode cL_law_ 1929 = .ok (.invokestatic 227, 3) := dk_get kL_law_r38_ok 14 rfl
theorem dL_law__1932 : decode cL_law_ 1932 = .ok (.istore 5, 2) := dk_get kL_law_r38_ok 15 rfl
theorem dL_law__1934 : decode cL_law_ 1934 = .ok (.aload_n 2, 1) := dk_get kL_law_r38_ok 16 rfl
theorem dL_law__1935 : decode cL_law_ 1935 = .ok (.aload_n 0, 1) := dk_get kL_law_r38_ok 17 rfl
theorem dL_law__1936 : decode cL_law_ 1936 = .ok (.iload 4, 2) := dk_get kL_law_r38_ok 18 rfl
theorem dL_law__1938 : decode cL_law_ 1938 = .ok (.iconst 1, 1) := dk_get kL_law_r38_ok 19 rfl
theorem dL_law__1939 : decode cL_law_ 1939 = .ok (.iadd, 1) := dk_get kL_law_r38_ok 20 rfl
theorem dL_law__1940 : decode cL_law_ 1940 = .ok (.iaload, 1) := dk_get kL_law_r38_ok 21 rfl
theorem dL_law__1941 : decode cL_law_ 1941 = .ok (.aload_n 0, 1) := dk_get kL_law_r38_ok 22 rfl
theorem dL_law__1942 : decode cL_law_ 1942 = .ok (.iload 4, 2) := dk_get kL_law_r38_ok 23 rfl
theorem dL_law__1944 : decode cL_law_ 1944 = .ok (.iconst 2, 1) := dk_get kL_law_r38_ok 24 rfl
theorem dL_law__1945 : decode cL_law_ 1945 = .ok (.iadd, 1) := dk_get kL_law_r38_ok 25 rfl
theorem dL_law__1946 : decode cL_law_ 1946 = .ok (.iaload, 1) := dk_get kL_law_r38_ok 26 rfl
theorem dL_law__1947 : decode cL_law_ 1947 = .ok (.invokevirtual 229, 3) := dk_get kL_law_r38_ok 27 rfl
theorem dL_law__1950 : decode cL_law_ 1950 = .ok (.istore 6, 2) := dk_get kL_law_r38_ok 28 rfl
theorem dL_law__1952 : decode cL_law_ 1952 = .ok (.aload_n 2, 1) := dk_get kL_law_r38_ok 29 rfl
def kL_law_r39 : List (Nat × Instr × Nat) := [(1953, .invokevirtual 122, 3), (1956, .iload 5, 2), (1958, .if_icmp .eq 5, 3), (1961, .iconst 0, 1), (1962, .ireturn, 1), (1963, .iload 5, 2), (1965, .ifCond .ne 15, 3), (1968, .aload_n 3, 1), (1969, .iconst 0, 1), (1970, .laload, 1), (1971, .iload 6, 2), (1973, .i2l, 1), (1974, .lcmp, 1), (1975, .ifCond .eq 5, 3), (1978, .iconst 0, 1), (1979, .ireturn, 1), (1980, .goto 504, 3), (1983, .aload_n 1, 1), (1984, .aload_n 0, 1), (1985, .iload 4, 2), (1987, .iconst 1, 1), (1988, .iadd, 1), (1989, .iaload, 1), (1990, .aload_n 0, 1), (1991, .iload 4, 2), (1993, .iconst 2, 1), (1994, .iadd, 1), (1995, .iaload, 1), (1996, .aload_n 3, 1), (1997, .invokestatic 230, 3)]
set_option maxRecDepth 100000 in
theorem kL_law_r39_ok : kL_law_r39.all (fun q => decide (decode cL_law_ q.1 = .ok q.2)) = true := by decide +kernel
theorem dL_law__1953 : decode cL_law_ 1953 = .ok (.invokevirtual 122, 3) := dk_get kL_law_r39_ok 0 rfl
theorem dL_law__1956 : decode cL_law_ 1956 = .ok (.iload 5, 2) := dk_get kL_law_r39_ok 1 rfl
theorem dL_law__1958 : decode cL_law_ 1958 = .ok (.if_icmp .eq 5, 3) := dk_get kL_law_r39_ok 2 rfl
theorem dL_law__1961 : decode cL_law_ 1961 = .ok (.iconst 0, 1) := dk_get kL_law_r39_ok 3 rfl
theorem dL_law__1962 : decode cL_law_ 1962 = .ok (.ireturn, 1) := dk_get kL_law_r39_ok 4 rfl
theorem dL_law__1963 : decode cL_law_ 1963 = .ok (.iload 5, 2) := dk_get kL_law_r39_ok 5 rfl
theorem dL_law__1965 : decode cL_law_ 1965 = .ok (.ifCond .ne 15, 3) := dk_get kL_law_r39_ok 6 rfl
theorem dL_law__1968 : decode cL_law_ 1968 = .ok (.aload_n 3, 1) := dk_get kL_law_r39_ok 7 rfl
theorem dL_law__1969 : decode cL_law_ 1969 = .ok (.iconst 0, 1) := dk_get kL_law_r39_ok 8 rfl
theorem dL_law__1970 : decode cL_law_ 1970 = .ok (.laload, 1) := dk_get kL_law_r39_ok 9 rfl
theorem dL_law__1971 : decode cL_law_ 1971 = .ok (.iload 6, 2) := dk_get kL_law_r39_ok 10 rfl
theorem dL_law__1973 : decode cL_law_ 1973 = .ok (.i2l, 1) := dk_get kL_law_r39_ok 11 rfl
theorem dL_law__1974 : decode cL_law_ 1974 = .ok (.lcmp, 1) := dk_get kL_law_r39_ok 12 rfl
theorem dL_law__1975 : decode cL_law_ 1975 = .ok (.ifCond .eq 5, 3) := dk_get kL_law_r39_ok 13 rfl
theorem dL_law__1978 : decode cL_law_ 1978 = .ok (.iconst 0, 1) := dk_get kL_law_r39_ok 14 rfl
theorem dL_law__1979 : decode cL_law_ 1979 = .ok (.ireturn, 1) := dk_get kL_law_r39_ok 15 rfl
theorem dL_law__1980 : decode cL_law_ 1980 = .ok (.goto 504, 3) := dk_get kL_law_r39_ok 16 rfl
theorem dL_law__1983 : decode cL_law_ 1983 = .ok (.aload_n 1, 1) := dk_get kL_law_r39_ok 17 rfl
theorem dL_law__1984 : decode cL_law_ 1984 = .ok (.aload_n 0, 1) := dk_get kL_law_r39_ok 18 rfl
theorem dL_law__1985 : decode cL_law_ 1985 = .ok (.iload 4, 2) := dk_get kL_law_r39_ok 19 rfl
theorem dL_law__1987 : decode cL_law_ 1987 = .ok (.iconst 1, 1) := dk_get kL_law_r39_ok 20 rfl
theorem dL_law__1988 : decode cL_law_ 1988 = .ok (.iadd, 1) := dk_get kL_law_r39_ok 21 rfl
theorem dL_law__1989 : decode cL_law_ 1989 = .ok (.iaload, 1) := dk_get kL_law_r39_ok 22 rfl
theorem dL_law__1990 : decode cL_law_ 1990 = .ok (.aload_n 0, 1) := dk_get kL_law_r39_ok 23 rfl
theorem dL_law__1991 : decode cL_law_ 1991 = .ok (.iload 4, 2) := dk_get kL_law_r39_ok 24 rfl
theorem dL_law__1993 : decode cL_law_ 1993 = .ok (.iconst 2, 1) := dk_get kL_law_r39_ok 25 rfl
theorem dL_law__1994 : decode cL_law_ 1994 = .ok (.iadd, 1) := dk_get kL_law_r39_ok 26 rfl
theorem dL_law__1995 : decode cL_law_ 1995 = .ok (.iaload, 1) := dk_get kL_law_r39_ok 27 rfl
theorem dL_law__1996 : decode cL_law_ 1996 = .ok (.aload_n 3, 1) := dk_get kL_law_r39_ok 28 rfl
theorem dL_law__1997 : decode cL_law_ 1997 = .ok (.invokestatic 230, 3) := dk_get kL_law_r39_ok 29 rfl
