theorem dL_law__1764 : decode cL_law_ 1764 = .ok (.laload, 1) := by decide +kernel
theorem dL_law__1765 : decode cL_law_ 1765 = .ok (.lload 6, 2) := by decide +kernel
theorem dL_law__1767 : decode cL_law_ 1767 = .ok (.lcmp, 1) := by decide +kernel
theorem dL_law__1768 : decode cL_law_ 1768 = .ok (.ifCond .eq 5, 3) := by decide +kernel
theorem dL_law__1771 : decode cL_law_ 1771 = .ok (.iconst 0, 1) := by decide +kernel
theorem dL_law__1772 : decode cL_law_ 1772 = .ok (.ireturn, 1) := by decide +kernel
theorem dL_law__1773 : decode cL_law_ 1773 = .ok (.goto 711, 3) := by decide +kernel
theorem dL_law__1776 : decode cL_law_ 1776 = .ok (.aload_n 1, 1) := by decide +kernel
theorem dL_law__1777 : decode cL_law_ 1777 = .ok (.aload_n 0, 1) := by decide +kernel
theorem dL_law__1778 : decode cL_law_ 1778 = .ok (.iload 4, 2) := by decide +kernel
theorem dL_law__1780 : decode cL_law_ 1780 = .ok (.iconst 1, 1) := by decide +kernel
theorem dL_law__1781 : decode cL_law_ 1781 = .ok (.iadd, 1) := by decide +kernel
theorem dL_law__1782 : decode cL_law_ 1782 = .ok (.iaload, 1) := by decide +kernel
theorem dL_law__1783 : decode cL_law_ 1783 = .ok (.aload_n 3, 1) := by decide +kernel
theorem dL_law__1784 : decode cL_law_ 1784 = .ok (.invokestatic 213, 3) := by decide +kernel
theorem dL_law__1787 : decode cL_law_ 1787 = .ok (.istore 5, 2) := by decide +kernel
theorem dL_law__1789 : decode cL_law_ 1789 = .ok (.aload_n 2, 1) := by decide +kernel
theorem dL_law__1790 : decode cL_law_ 1790 = .ok (.aload_n 0, 1) := by decide +kernel
theorem dL_law__1791 : decode cL_law_ 1791 = .ok (.iload 4, 2) := by decide +kernel
theorem dL_law__1793 : decode cL_law_ 1793 = .ok (.iconst 1, 1) := by decide +kernel
theorem dL_law__1794 : decode cL_law_ 1794 = .ok (.iadd, 1) := by decide +kernel
theorem dL_law__1795 : decode cL_law_ 1795 = .ok (.iaload, 1) := by decide +kernel
theorem dL_law__1796 : decode cL_law_ 1796 = .ok (.invokevirtual 215, 3) := by decide +kernel
theorem dL_law__1799 : decode cL_law_ 1799 = .ok (.istore 6, 2) := by decide +kernel
theorem dL_law__1801 : decode cL_law_ 1801 = .ok (.aload_n 2, 1) := by decide +kernel
theorem dL_law__1802 : decode cL_law_ 1802 = .ok (.invokevirtual 122, 3) := by decide +kernel
theorem dL_law__1805 : decode cL_law_ 1805 = .ok (.iload 5, 2) := by decide +kernel
theorem dL_law__1807 : decode cL_law_ 1807 = .ok (.if_icmp .eq 5, 3) := by decide +kernel
theorem dL_law__1810 : decode cL_law_ 1810 = .ok (.iconst 0, 1) := by decide +kernel
theorem dL_law__1811 : decode cL_law_ 1811 = .ok (.ireturn, 1) := by decide +kernel
theorem dL_law__1812 : decode cL_law_ 1812 = .ok (.iload 5, 2) := by decide +kernel
theorem dL_law__1814 : decode cL_law_ 1814 = .ok (.ifCond .ne 15, 3) := by decide +kernel
theorem dL_law__1817 : decode cL_law_ 1817 = .ok (.aload_n 3, 1) := by decide +kernel
theorem dL_law__1818 : decode cL_law_ 1818 = .ok (.iconst 0, 1) := by decide +kernel
theorem dL_law__1819 : decode cL_law_ 1819 = .ok (.laload, 1) := by decide +kernel
theorem dL_law__1820 : decode cL_law_ 1820 = .ok (.iload 6, 2) := by decide +kernel
theorem dL_law__1822 : decode cL_law_ 1822 = .ok (.i2l, 1) := by decide +kernel
theorem dL_law__1823 : decode cL_law_ 1823 = .ok (.lcmp, 1) := by decide +kernel
theorem dL_law__1824 : decode cL_law_ 1824 = .ok (.ifCond .eq 5, 3) := by decide +kernel
theorem dL_law__1827 : decode cL_law_ 1827 = .ok (.iconst 0, 1) := by decide +kernel
theorem dL_law__1828 : decode cL_law_ 1828 = .ok (.ireturn, 1) := by decide +kernel
theorem dL_law__1829 : decode cL_law_ 1829 = .ok (.goto 655, 3) := by decide +kernel
theorem dL_law__1832 : decode cL_law_ 1832 = .ok (.aload_n 1, 1) := by decide +kernel
theorem dL_law__1833 : decode cL_law_ 1833 = .ok (.aload_n 0, 1) := by decide +kernel
theorem dL_law__1834 : decode cL_law_ 1834 = .ok (.iload 4, 2) := by decide +kernel
theorem dL_law__1836 : decode cL_law_ 1836 = .ok (.iconst 1, 1) := by decide +kernel
theorem dL_law__1837 : decode cL_law_ 1837 = .ok (.iadd, 1) := by decide +kernel
theorem dL_law__1838 : decode cL_law_ 1838 = .ok (.iaload, 1) := by decide +kernel
theorem dL_law__1839 : decode cL_law_ 1839 = .ok (.aload_n 3, 1) := by decide +kernel
theorem dL_law__1840 : decode cL_law_ 1840 = .ok (.invokestatic 216, 3) := by decide +kernel
theorem dL_law__1843 : decode cL_law_ 1843 = .ok (.istore 5, 2) := by decide +kernel
theorem dL_law__1845 : decode cL_law_ 1845 = .ok (.aload_n 2, 1) := by decide +kernel
theorem dL_law__1846 : decode cL_law_ 1846 = .ok (.aload_n 0, 1) := by decide +kernel
theorem dL_law__1847 : decode cL_law_ 1847 = .ok (.iload 4, 2) := by decide +kernel
theorem dL_law__1849 : decode cL_law_ 1849 = .ok (.iconst 1, 1) := by decide +kernel
theorem dL_law__1850 : decode cL_law_ 1850 = .ok (.iadd, 1) := by decide +kernel
theorem dL_law__1851 : decode cL_law_ 1851 = .ok (.iaload, 1) := by decide +kernel
theorem dL_law__1852 : decode cL_law_ 1852 = .ok (.invokevirtual 218, 3) := by decide +kernel
theorem dL_law__1855 : decode cL_law_ 1855 = .ok (.istore 6, 2) := by decide +kernel
theorem dL_law__1857 : decode cL_law_ 1857 = .ok (.aload_n 2, 1) := by decide +kernel
theorem dL_law__1858 : decode cL_law_ 1858 = .ok (.invokevirtual 122, 3) := by decide +kernel
theorem dL_law__1861 : decode cL_law_ 1861 = .ok (.iload 5, 2) := by decide +kernel
theorem dL_law__1863 : decode cL_law_ 1863 = .ok (.if_icmp .eq 5, 3) := by decide +kernel
theorem dL_law__1866 : decode cL_law_ 1866 = .ok (.iconst 0, 1) := by decide +kernel
theorem dL_law__1867 : decode cL_law_ 1867 = .ok (.ireturn, 1) := by decide +kernel
theorem dL_law__1868 : decode cL_law_ 1868 = .ok (.iload 5, 2) := by decide +kernel
theorem dL_law__1870 : decode cL_law_ 1870 = .ok (.ifCond .ne 15, 3) := by decide +kernel
theorem dL_law__1873 : decode cL_law_ 1873 = .ok (.aload_n 3, 1) := by decide +kernel
theorem dL_law__1874 : decode cL_law_ 1874 = .ok (.iconst 0, 1) := by decide +kernel
theorem dL_law__1875 : decode cL_law_ 1875 = .ok (.laload, 1) := by decide +kernel
theorem dL_law__1876 : decode cL_law_ 1876 = .ok (.iload 6, 2) := by decide +kernel
theorem dL_law__1878 : decode cL_law_ 1878 = .ok (.i2l, 1) := by decide +kernel
theorem dL_law__1879 : decode cL_law_ 1879 = .ok (.lcmp, 1) := by decide +kernel
theorem dL_law__1880 : decode cL_law_ 1880 = .ok (.ifCond .eq 5, 3) := by decide +kernel
theorem dL_law__1883 : decode cL_law_ 1883 = .ok (.iconst 0, 1) := by decide +kernel
theorem dL_law__1884 : decode cL_law_ 1884 = .ok (.ireturn, 1) := by decide +kernel
theorem dL_law__1885 : decode cL_law_ 1885 = .ok (.goto 599, 3) := by decide +kernel
theorem dL_law__1888 : decode cL_law_ 1888 = .ok (.aload_n 1, 1) := by decide +kernel
theorem dL_law__1889 : decode cL_law_ 1889 = .ok (.invokevirtual 219, 3) := by decide +kernel
theorem dL_law__1892 : decode cL_law_ 1892 = .ok (.aload_n 2, 1) := by decide +kernel
theorem dL_law__1893 : decode cL_law_ 1893 = .ok (.invokevirtual 222, 3) := by decide +kernel
theorem dL_law__1896 : decode cL_law_ 1896 = .ok (.lcmp, 1) := by decide +kernel
theorem dL_law__1897 : decode cL_law_ 1897 = .ok (.ifCond .eq 587, 3) := by decide +kernel
theorem dL_law__1900 : decode cL_law_ 1900 = .ok (.iconst 0, 1) := by decide +kernel
theorem dL_law__1901 : decode cL_law_ 1901 = .ok (.ireturn, 1) := by decide +kernel
theorem dL_law__1902 : decode cL_law_ 1902 = .ok (.aload_n 1, 1) := by decide +kernel
theorem dL_law__1903 : decode cL_law_ 1903 = .ok (.invokevirtual 223, 3) := by decide +kernel
theorem dL_law__1906 : decode cL_law_ 1906 = .ok (.aload_n 2, 1) := by decide +kernel
theorem dL_law__1907 : decode cL_law_ 1907 = .ok (.invokevirtual 226, 3) := by decide +kernel
theorem dL_law__1910 : decode cL_law_ 1910 = .ok (.if_icmp .eq 574, 3) := by decide +kernel
theorem dL_law__1913 : decode cL_law_ 1913 = .ok (.iconst 0, 1) := by decide +kernel
theorem dL_law__1914 : decode cL_law_ 1914 = .ok (.ireturn, 1) := by decide +kernel
theorem dL_law__1915 : decode cL_law_ 1915 = .ok (.aload_n 1, 1) := by decide +kernel
theorem dL_law__1916 : decode cL_law_ 1916 = .ok (.aload_n 0, 1) := by decide +kernel
theorem dL_law__1917 : decode cL_law_ 1917 = .ok (.iload 4, 2) := by decide +kernel
theorem dL_law__1919 : decode cL_law_ 1919 = .ok (.iconst 1, 1) := by decide +kernel
theorem dL_law__1920 : decode cL_law_ 1920 = .ok (.iadd, 1) := by decide +kernel
theorem dL_law__1921 : decode cL_law_ 1921 = .ok (.iaload, 1) := by decide +kernel
theorem dL_law__1922 : decode cL_law_ 1922 = .ok (.aload_n 0, 1) := by decide +kernel
theorem dL_law__1923 : decode cL_law_ 1923 = .ok (.iload 4, 2) := by decide +kernel
theorem dL_law__1925 : decode cL_law_ 1925 = .ok (.iconst 2, 1) := by decide +kernel
theorem dL_law__1926 : decode cL_law_ 1926 = .ok (.iadd, 1) := by decide +kernel
theorem dL_law__1927 : decode cL_law_ 1927 = .ok (.iaload, 1) := by decide +kernel
theorem dL_law__1928 : decode cL_law_ 1928 = .ok (.aload_n 3, 1) := by decide +kernel
theorem dL_law__1929 : decode cL_law_ 1929 = .ok (.invokestatic 227, 3) := by decide +kernel
theorem dL_law__1932 : decode cL_law_ 1932 = .ok (.istore 5, 2) := by decide +kernel
theorem dL_law__1934 : decode cL_law_ 1934 = .ok (.aload_n 2, 1) := by decide +kernel
theorem dL_law__1935 : decode cL_law_ 1935 = .ok (.aload_n 0, 1) := by decide +kernel
theorem dL_law__1936 : decode cL_law_ 1936 = .ok (.iload 4, 2) := by decide +kernel
theorem dL_law__1938 : decode cL_law_ 1938 = .ok (.iconst 1, 1) := by decide +kernel
theorem dL_law__1939 : decode cL_law_ 1939 = .ok (.iadd, 1) := by decide +kernel
theorem dL_law__1940 : decode cL_law_ 1940 = .ok (.iaload, 1) := by decide +kernel
theorem dL_law__1941 : decode cL_law_ 1941 = .ok (.aload_n 0, 1) := by decide +kernel
theorem dL_law__1942 : decode cL_law_ 1942 = .ok (.iload 4, 2) := by decide +kernel
theorem dL_law__1944 : decode cL_law_ 1944 = .ok (.iconst 2, 1) := by decide +kernel
theorem dL_law__1945 : decode cL_law_ 1945 = .ok (.iadd, 1) := by decide +kernel
theorem dL_law__1946 : decode cL_law_ 1946 = .ok (.iaload, 1) := by decide +kernel
theorem dL_law__1947 : decode cL_law_ 1947 = .ok (.invokevirtual 229, 3) := by decide +kernel
theorem dL_law__1950 : decode cL_law_ 1950 = .ok (.istore 6, 2) := by decide +kernel
theorem dL_law__1952 : decode cL_law_ 1952 = .ok (.aload_n 2, 1) := by decide +kernel
theorem dL_law__1953 : decode cL_law_ 1953 = .ok (.invokevirtual 122, 3) := by decide +kernel
theorem dL_law__1956 : decode cL_law_ 1956 = .ok (.iload 5, 2) := by decide +kernel
theorem dL_law__1958 : decode cL_law_ 1958 = .ok (.if_icmp .eq 5, 3) := by decide +kernel
theorem dL_law__1961 : decode cL_law_ 1961 = .ok (.iconst 0, 1) := by decide +kernel
theorem dL_law__1962 : decode cL_law_ 1962 = .ok (.ireturn, 1) := by decide +kernel
theorem dL_law__1963 : decode cL_law_ 1963 = .ok (.iload 5, 2) := by decide +kernel
theorem dL_law__1965 : decode cL_law_ 1965 = .ok (.ifCond .ne 15, 3) := by decide +kernel
theorem dL_law__1968 : decode cL_law_ 1968 = .ok (.aload_n 3, 1) := by decide +kernel
theorem dL_law__1969 : decode cL_law_ 1969 = .ok (.iconst 0, 1) := by decide +kernel
theorem dL_law__1970 : decode cL_law_ 1970 = .ok (.laload, 1) := by decide +kernel
theorem dL_law__1971 : decode cL_law_ 1971 = .ok (.iload 6, 2) := by decide +kernel
theorem dL_law__1973 : decode cL_law_ 1973 = .ok (.i2l, 1) := by decide +kernel
theorem dL_law__1974 : decode cL_law_ 1974 = .ok (.lcmp, 1) := by decide +kernel
theorem dL_law__1975 : decode cL_law_ 1975 = .ok (.ifCond .eq 5, 3) := by decide +kernel
theorem dL_law__1978 : decode cL_law_ 1978 = .ok (.iconst 0, 1) := by decide +kernel
theorem dL_law__1979 : decode cL_law_ 1979 = .ok (.ireturn, 1) := by decide +kernel
theorem dL_law__1980 : decode cL_law_ 1980 = .ok (.goto 504, 3) := by decide +kernel
theorem dL_law__1983 : decode cL_law_ 1983 = .ok (.aload_n 1, 1) := by decide +kernel
theorem dL_law__1984 : decode cL_law_ 1984 = .ok (.aload_n 0, 1) := by decide +kernel
theorem dL_law__1985 : decode cL_law_ 1985 = .ok (.iload 4, 2) := by decide +kernel
theorem dL_law__1987 : decode cL_law_ 1987 = .ok (.iconst 1, 1) := by decide +kernel
theorem dL_law__1988 : decode cL_law_ 1988 = .ok (.iadd, 1) := by decide +kernel
theorem dL_law__1989 : decode cL_law_ 1989 = .ok (.iaload, 1) := by decide +kernel
theorem dL_law__1990 : decode cL_law_ 1990 = .ok (.aload_n 0, 1) := by decide +kernel
theorem dL_law__1991 : decode cL_law_ 1991 = .ok (.iload 4, 2) := by decide +kernel
theorem dL_law__1993 : decode cL_law_ 1993 = .ok (.iconst 2, 1) := by decide +kernel
theorem dL_law__1994 : decode cL_law_ 1994 = .ok (.iadd, 1) := by decide +kernel
theorem dL_law__1995 : decode cL_law_ 1995 = .ok (.iaload, 1) := by decide +kernel
theorem dL_law__1996 : decode cL_law_ 1996 = .ok (.aload_n 3, 1) := by decide +kernel
theorem dL_law__1997 : decode cL_law_ 1997 = .ok (.invokestatic 230, 3) := by decide +kernel
