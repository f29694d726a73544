set_option maxRecDepth 100000 in
theorem dLg_3_0 : decAll cL_law [(1794, .aload_n 0, 1), (1795, .iload 4, 2), (1797, .iconst 1, 1), (1798, .iadd, 1), (1799, .iaload, 1), (1800, .aload_n 0, 1), (1801, .iload 4, 2), (1803, .iconst 2, 1), (1804, .iadd, 1), (1805, .iaload, 1), (1806, .aload_n 0, 1), (1807, .iload 4, 2), (1809, .iconst 3, 1), (1810, .iadd, 1), (1811, .iaload, 1), (1812, .invokevirtual 160, 3), (1815, .if_icmp .eq 515, 3), (1818, .iconst 0, 1), (1819, .ireturn, 1), (1820, .aload_n 1, 1), (1821, .aload_n 0, 1), (1822, .iload 4, 2), (1824, .iconst 1, 1), (1825, .iadd, 1), (1826, .iaload, 1), (1827, .aload_n 0, 1), (1828, .iload 4, 2), (1830, .iconst 2, 1), (1831, .iadd, 1), (1832, .iaload, 1), (1833, .aload_n 0, 1), (1834, .iload 4, 2), (1836, .iconst 3, 1), (1837, .iadd, 1), (1838, .iaload, 1), (1839, .aload_n 0, 1), (1840, .iload 4, 2), (1842, .iconst 4, 1), (1843, .iadd, 1), (1844, .iaload, 1), (1845, .invokevirtual 161, 3), (1848, .aload_n 2, 1), (1849, .aload_n 0, 1), (1850, .iload 4, 2), (1852, .iconst 1, 1), (1853, .iadd, 1), (1854, .iaload, 1), (1855, .aload_n 0, 1), (1856, .iload 4, 2), (1858, .iconst 2, 1)] = true := by decide +kernel
theorem dL_law_1794 : decode cL_law 1794 = .ok (.aload_n 0, 1) := decAll_at dLg_3_0 0 rfl
theorem dL_law_1795 : decode cL_law 1795 = .ok (.iload 4, 2) := decAll_at dLg_3_0 1 rfl
theorem dL_law_1797 : decode cL_law 1797 = .ok (.iconst 1, 1) := decAll_at dLg_3_0 2 rfl
theorem dL_law_1798 : decode cL_law 1798 = .ok (.iadd, 1) := decAll_at dLg_3_0 3 rfl
theorem dL_law_1799 : decode cL_law 1799 = .ok (.iaload, 1) := decAll_at dLg_3_0 4 rfl
theorem dL_law_1800 : decode cL_law 1800 = .ok (.aload_n 0, 1) := decAll_at dLg_3_0 5 rfl
theorem dL_law_1801 : decode cL_law 1801 = .ok (.iload 4, 2) := decAll_at dLg_3_0 6 rfl
theorem dL_law_1803 : decode cL_law 1803 = .ok (.iconst 2, 1) := decAll_at dLg_3_0 7 rfl
theorem dL_law_1804 : decode cL_law 1804 = .ok (.iadd, 1) := decAll_at dLg_3_0 8 rfl
theorem dL_law_1805 : decode cL_law 1805 = .ok (.iaload, 1) := decAll_at dLg_3_0 9 rfl
theorem dL_law_1806 : decode cL_law 1806 = .ok (.aload_n 0, 1) := decAll_at dLg_3_0 10 rfl
theorem dL_law_1807 : decode cL_law 1807 = .ok (.iload 4, 2) := decAll_at dLg_3_0 11 rfl
theorem dL_law_1809 : decode cL_law 1809 = .ok (.iconst 3, 1) := decAll_at dLg_3_0 12 rfl
theorem dL_law_1810 : decode cL_law 1810 = .ok (.iadd, 1) := decAll_at dLg_3_0 13 rfl
theorem dL_law_1811 : decode cL_law 1811 = .ok (.iaload, 1) := decAll_at dLg_3_0 14 rfl
theorem dL_law_1812 : decode cL_law 1812 = .ok (.invokevirtual 160, 3) := decAll_at dLg_3_0 15 rfl
theorem dL_law_1815 : decode cL_law 1815 = .ok (.if_icmp .eq 515, 3) := decAll_at dLg_3_0 16 rfl
theorem dL_law_1818 : decode cL_law 1818 = .ok (.iconst 0, 1) := decAll_at dLg_3_0 17 rfl
theorem dL_law_1819 : decode cL_law 1819 = .ok (.ireturn, 1) := decAll_at dLg_3_0 18 rfl
theorem dL_law_1820 : decode cL_law 1820 = .ok (.aload_n 1, 1) := decAll_at dLg_3_0 19 rfl
theorem dL_law_1821 : decode cL_law 1821 = .ok (.aload_n 0, 1) := decAll_at dLg_3_0 20 rfl
theorem dL_law_1822 : decode cL_law 1822 = .ok (.iload 4, 2) := decAll_at dLg_3_0 21 rfl
theorem dL_law_1824 : decode cL_law 1824 = .ok (.iconst 1, 1) := decAll_at dLg_3_0 22 rfl
theorem dL_law_1825 : decode cL_law 1825 = .ok (.iadd, 1) := decAll_at dLg_3_0 23 rfl
theorem dL_law_1826 : decode cL_law 1826 = .ok (.iaload, 1) := decAll_at dLg_3_0 24 rfl
theorem dL_law_1827 : decode cL_law 1827 = .ok (.aload_n 0, 1) := decAll_at dLg_3_0 25 rfl
theorem dL_law_1828 : decode cL_law 1828 = .ok (.iload 4, 2) := decAll_at dLg_3_0 26 rfl
theorem dL_law_1830 : decode cL_law 1830 = .ok (.iconst 2, 1) := decAll_at dLg_3_0 27 rfl
theorem dL_law_1831 : decode cL_law 1831 = .ok (.iadd, 1) := decAll_at dLg_3_0 28 rfl
theorem dL_law_1832 : decode cL_law 1832 = .ok (.iaload, 1) := decAll_at dLg_3_0 29 rfl
theorem dL_law_1833 : decode cL_law 1833 = .ok (.aload_n 0, 1) := decAll_at dLg_3_0 30 rfl
theorem dL_law_1834 : decode cL_law 1834 = .ok (.iload 4, 2) := decAll_at dLg_3_0 31 rfl
theorem dL_law_1836 : decode cL_law 1836 = .ok (.iconst 3, 1) := decAll_at dLg_3_0 32 rfl
theorem dL_law_1837 : decode cL_law 1837 = .ok (.iadd, 1) := decAll_at dLg_3_0 33 rfl
theorem dL_law_1838 : decode cL_law 1838 = .ok (.iaload, 1) := decAll_at dLg_3_0 34 rfl
theorem dL_law_1839 : decode cL_law 1839 = .ok (.aload_n 0, 1) := decAll_at dLg_3_0 35 rfl
theorem dL_law_1840 : decode cL_law 1840 = .ok (.iload 4, 2) := decAll_at dLg_3_0 36 rfl
theorem dL_law_1842 : decode cL_law 1842 = .ok (.iconst 4, 1) := decAll_at dLg_3_0 37 rfl
theorem dL_law_1843 : decode cL_law 1843 = .ok (.iadd, 1) := decAll_at dLg_3_0 38 rfl
theorem dL_law_1844 : decode cL_law 1844 = .ok (.iaload, 1) := decAll_at dLg_3_0 39 rfl
theorem dL_law_1845 : decode cL_law 1845 = .ok (.invokevirtual 161, 3) := decAll_at dLg_3_0 40 rfl
theorem dL_law_1848 : decode cL_law 1848 = .ok (.aload_n 2, 1) := decAll_at dLg_3_0 41 rfl
theorem dL_law_1849 : decode cL_law 1849 = .ok (.aload_n 0, 1) := decAll_at dLg_3_0 42 rfl
theorem dL_law_1850 : decode cL_law 1850 = .ok (.iload 4, 2) := decAll_at dLg_3_0 43 rfl
theorem dL_law_1852 : decode cL_law 1852 = .ok (.iconst 1, 1) := decAll_at dLg_3_0 44 rfl
theorem dL_law_1853 : decode cL_law 1853 = .ok (.iadd, 1) := decAll_at dLg_3_0 45 rfl
theorem dL_law_1854 : decode cL_law 1854 = .ok (.iaload, 1) := decAll_at dLg_3_0 46 rfl
theorem dL_law_1855 : decode cL_law 1855 = .ok (.aload_n 0, 1) := decAll_at dLg_3_0 47 rfl
theorem dL_law_1856 : decode cL_law 1856 = .ok (.iload 4, 2) := decAll_at dLg_3_0 48 rfl
theorem dL_law_1858 : decode cL_law 1858 = .ok (.iconst 2, 1) := decAll_at dLg_3_0 49 rfl
set_option maxRecDepth 100000 in
theorem dLg_3_1 : decAll cL_law [(1859, .iadd, 1), (1860, .iaload, 1), (1861, .aload_n 0, 1), (1862, .iload 4, 2), (1864, .iconst 3, 1), (1865, .iadd, 1), (1866, .iaload, 1), (1867, .aload_n 0, 1), (1868, .iload 4, 2), (1870, .iconst 4, 1), (1871, .iadd, 1), (1872, .iaload, 1), (1873, .invokevirtual 164, 3), (1876, .if_icmp .eq 454, 3), (1879, .iconst 0, 1), (1880, .ireturn, 1), (1881, .aload_n 1, 1), (1882, .aload_n 0, 1), (1883, .iload 4, 2), (1885, .iconst 1, 1), (1886, .iadd, 1), (1887, .iaload, 1), (1888, .aload_n 0, 1), (1889, .iload 4, 2), (1891, .iconst 2, 1), (1892, .iadd, 1), (1893, .iaload, 1), (1894, .aload_n 0, 1), (1895, .iload 4, 2), (1897, .iconst 3, 1), (1898, .iadd, 1), (1899, .iaload, 1), (1900, .invokevirtual 165, 3), (1903, .aload_n 2, 1), (1904, .aload_n 0, 1), (1905, .iload 4, 2), (1907, .iconst 1, 1), (1908, .iadd, 1), (1909, .iaload, 1), (1910, .aload_n 0, 1), (1911, .iload 4, 2), (1913, .iconst 2, 1), (1914, .iadd, 1), (1915, .iaload, 1), (1916, .aload_n 0, 1), (1917, .iload 4, 2), (1919, .iconst 3, 1), (1920, .iadd, 1), (1921, .iaload, 1), (1922, .invokevirtual 168, 3)] = true := by decide +kernel
theorem dL_law_1859 : decode cL_law 1859 = .ok (.iadd, 1) := decAll_at dLg_3_1 0 rfl
theorem dL_law_1860 : decode cL_law 1860 = .ok (.iaload, 1) := decAll_at dLg_3_1 1 rfl
theorem dL_law_1861 : decode cL_law 1861 = .ok (.aload_n 0, 1) := decAll_at dLg_3_1 2 rfl
theorem dL_law_1862 : decode cL_law 1862 = .ok (.iload 4, 2) := decAll_at dLg_3_1 3 rfl
theorem dL_law_1864 : decode cL_law 1864 = .ok (.iconst 3, 1) := decAll_at dLg_3_1 4 rfl
theorem dL_law_1865 : decode cL_law 1865 = .ok (.iadd, 1) := decAll_at dLg_3_1 5 rfl
theorem dL_law_1866 : decode cL_law 1866 = .ok (.iaload, 1) := decAll_at dLg_3_1 6 rfl
theorem dL_law_1867 : decode cL_law 1867 = .ok (.aload_n 0, 1) := decAll_at dLg_3_1 7 rfl
theorem dL_law_1868 : decode cL_law 1868 = .ok (.iload 4, 2) := decAll_at dLg_3_1 8 rfl
theorem dL_law_1870 : decode cL_law 1870 = .ok (.iconst 4, 1) := decAll_at dLg_3_1 9 rfl
theorem dL_law_1871 : decode cL_law 1871 = .ok (.iadd, 1) := decAll_at dLg_3_1 10 rfl
theorem dL_law_1872 : decode cL_law 1872 = .ok (.iaload, 1) := decAll_at dLg_3_1 11 rfl
theorem dL_law_1873 : decode cL_law 1873 = .ok (.invokevirtual 164, 3) := decAll_at dLg_3_1 12 rfl
theorem dL_law_1876 : decode cL_law 1876 = .ok (.if_icmp .eq 454, 3) := decAll_at dLg_3_1 13 rfl
theorem dL_law_1879 : decode cL_law 1879 = .ok (.iconst 0, 1) := decAll_at dLg_3_1 14 rfl
theorem dL_law_1880 : decode cL_law 1880 = .ok (.ireturn, 1) := decAll_at dLg_3_1 15 rfl
theorem dL_law_1881 : decode cL_law 1881 = .ok (.aload_n 1, 1) := decAll_at dLg_3_1 16 rfl
theorem dL_law_1882 : decode cL_law 1882 = .ok (.aload_n 0, 1) := decAll_at dLg_3_1 17 rfl
theorem dL_law_1883 : decode cL_law 1883 = .ok (.iload 4, 2) := decAll_at dLg_3_1 18 rfl
theorem dL_law_1885 : decode cL_law 1885 = .ok (.iconst 1, 1) := decAll_at dLg_3_1 19 rfl
theorem dL_law_1886 : decode cL_law 1886 = .ok (.iadd, 1) := decAll_at dLg_3_1 20 rfl
theorem dL_law_1887 : decode cL_law 1887 = .ok (.iaload, 1) := decAll_at dLg_3_1 21 rfl
theorem dL_law_1888 : decode cL_law 1888 = .ok (.aload_n 0, 1) := decAll_at dLg_3_1 22 rfl
theorem dL_law_1889 : decode cL_law 1889 = .ok (.iload 4, 2) := decAll_at dLg_3_1 23 rfl
theorem dL_law_1891 : decode cL_law 1891 = .ok (.iconst 2, 1) := decAll_at dLg_3_1 24 rfl
theorem dL_law_1892 : decode cL_law 1892 = .ok (.iadd, 1) := decAll_at dLg_3_1 25 rfl
theorem dL_law_1893 : decode cL_law 1893 = .ok (.iaload, 1) := decAll_at dLg_3_1 26 rfl
theorem dL_law_1894 : decode cL_law 1894 = .ok (.aload_n 0, 1) := decAll_at dLg_3_1 27 rfl
theorem dL_law_1895 : decode cL_law 1895 = .ok (.iload 4, 2) := decAll_at dLg_3_1 28 rfl
theorem dL_law_1897 : decode cL_law 1897 = .ok (.iconst 3, 1) := decAll_at dLg_3_1 29 rfl
theorem dL_law_1898 : decode cL_law 1898 = .ok (.iadd, 1) := decAll_at dLg_3_1 30 rfl
theorem dL_law_1899 : decode cL_law 1899 = .ok (.iaload, 1) := decAll_at dLg_3_1 31 rfl
theorem dL_law_1900 : decode cL_law 1900 = .ok (.invokevirtual 165, 3) := decAll_at dLg_3_1 32 rfl
theorem dL_law_1903 : decode cL_law 1903 = .ok (.aload_n 2, 1) := decAll_at dLg_3_1 33 rfl
theorem dL_law_1904 : decode cL_law 1904 = .ok (.aload_n 0, 1) := decAll_at dLg_3_1 34 rfl
theorem dL_law_1905 : decode cL_law 1905 = .ok (.iload 4, 2) := decAll_at dLg_3_1 35 rfl
theorem dL_law_1907 : decode cL_law 1907 = .ok (.iconst 1, 1) := decAll_at dLg_3_1 36 rfl
theorem dL_law_1908 : decode cL_law 1908 = .ok (.iadd, 1) := decAll_at dLg_3_1 37 rfl
theorem dL_law_1909 : decode cL_law 1909 = .ok (.iaload, 1) := decAll_at dLg_3_1 38 rfl
theorem dL_law_1910 : decode cL_law 1910 = .ok (.aload_n 0, 1) := decAll_at dLg_3_1 39 rfl
theorem dL_law_1911 : decode cL_law 1911 = .ok (.iload 4, 2) := decAll_at dLg_3_1 40 rfl
theorem dL_law_1913 : decode cL_law 1913 = .ok (.iconst 2, 1) := decAll_at dLg_3_1 41 rfl
theorem dL_law_1914 : decode cL_law 1914 = .ok (.iadd, 1) := decAll_at dLg_3_1 42 rfl
theorem dL_law_1915 : decode cL_law 1915 = .ok (.iaload, 1) := decAll_at dLg_3_1 43 rfl
theorem dL_law_1916 : decode cL_law 1916 = .ok (.aload_n 0, 1) := decAll_at dLg_3_1 44 rfl
theorem dL_law_1917 : decode cL_law 1917 = .ok (.iload 4, 2) := decAll_at dLg_3_1 45 rfl
theorem dL_law_1919 : decode cL_law 1919 = .ok (.iconst 3, 1) := decAll_at dLg_3_1 46 rfl
theorem dL_law_1920 : decode cL_law 1920 = .ok (.iadd, 1) := decAll_at dLg_3_1 47 rfl
theorem dL_law_1921 : decode cL_law 1921 = .ok (.iaload, 1) := decAll_at dLg_3_1 48 rfl
theorem dL_law_1922 : decode cL_law 1922 = .ok (.invokevirtual 168, 3) := decAll_at dLg_3_1 49 rfl
set_option maxRecDepth 100000 in
theorem dLg_3_2 : decAll cL_law [(1925, .if_icmp .eq 405, 3), (1928, .iconst 0, 1), (1929, .ireturn, 1), (1930, .aload_n 1, 1), (1931, .invokevirtual 169, 3), (1934, .aload_n 2, 1), (1935, .invokevirtual 172, 3), (1938, .if_icmp .eq 392, 3), (1941, .iconst 0, 1), (1942, .ireturn, 1), (1943, .aload_n 1, 1), (1944, .invokevirtual 173, 3), (1947, .aload_n 2, 1), (1948, .invokevirtual 176, 3), (1951, .if_icmp .eq 379, 3), (1954, .iconst 0, 1), (1955, .ireturn, 1), (1956, .aload_n 1, 1), (1957, .aload_n 0, 1), (1958, .iload 4, 2), (1960, .iconst 1, 1), (1961, .iadd, 1), (1962, .iaload, 1), (1963, .invokevirtual 177, 3), (1966, .aload_n 2, 1), (1967, .aload_n 0, 1), (1968, .iload 4, 2), (1970, .iconst 1, 1), (1971, .iadd, 1), (1972, .iaload, 1), (1973, .invokevirtual 180, 3), (1976, .if_icmp .eq 354, 3), (1979, .iconst 0, 1), (1980, .ireturn, 1), (1981, .aload_n 1, 1), (1982, .aload_n 0, 1), (1983, .iload 4, 2), (1985, .iconst 1, 1), (1986, .iadd, 1), (1987, .iaload, 1), (1988, .aload_n 0, 1), (1989, .iload 4, 2), (1991, .iconst 2, 1), (1992, .iadd, 1), (1993, .iaload, 1), (1994, .aload_n 0, 1), (1995, .iload 4, 2), (1997, .iconst 3, 1), (1998, .iadd, 1), (1999, .iaload, 1)] = true := by decide +kernel
theorem dL_law_1925 : decode cL_law 1925 = .ok (.if_icmp .eq 405, 3) := decAll_at dLg_3_2 0 rfl
theorem dL_law_1928 : decode cL_law 1928 = .ok (.iconst 0, 1) := decAll_at dLg_3_2 1 rfl
theorem dL_law_1929 : decode cL_law 1929 = .ok (.ireturn, 1) := decAll_at dLg_3_2 2 rfl
theorem dL_law_1930 : decode cL_law 1930 = .ok (.aload_n 1, 1) := decAll_at dLg_3_2 3 rfl
theorem dL_law_1931 : decode cL_law 1931 = .ok (.invokevirtual 169, 3) := decAll_at dLg_3_2 4 rfl
theorem dL_law_1934 : decode cL_law 1934 = .ok (.aload_n 2, 1) := decAll_at dLg_3_2 5 rfl
theorem dL_law_1935 : decode cL_law 1935 = .ok (.invokevirtual 172, 3) := decAll_at dLg_3_2 6 rfl
theorem dL_law_1938 : decode cL_law 1938 = .ok (.if_icmp .eq 392, 3) := decAll_at dLg_3_2 7 rfl
theorem dL_law_1941 : decode cL_law 1941 = .ok (.iconst 0, 1) := decAll_at dLg_3_2 8 rfl
theorem dL_law_1942 : decode cL_law 1942 = .ok (.ireturn, 1) := decAll_at dLg_3_2 9 rfl
theorem dL_law_1943 : decode cL_law 1943 = .ok (.aload_n 1, 1) := decAll_at dLg_3_2 10 rfl
theorem dL_law_1944 : decode cL_law 1944 = .ok (.invokevirtual 173, 3) := decAll_at dLg_3_2 11 rfl
theorem dL_law_1947 : decode cL_law 1947 = .ok (.aload_n 2, 1) := decAll_at dLg_3_2 12 rfl
theorem dL_law_1948 : decode cL_law 1948 = .ok (.invokevirtual 176, 3) := decAll_at dLg_3_2 13 rfl
theorem dL_law_1951 : decode cL_law 1951 = .ok (.if_icmp .eq 379, 3) := decAll_at dLg_3_2 14 rfl
theorem dL_law_1954 : decode cL_law 1954 = .ok (.iconst 0, 1) := decAll_at dLg_3_2 15 rfl
theorem dL_law_1955 : decode cL_law 1955 = .ok (.ireturn, 1) := decAll_at dLg_3_2 16 rfl
theorem dL_law_1956 : decode cL_law 1956 = .ok (.aload_n 1, 1) := decAll_at dLg_3_2 17 rfl
theorem dL_law_1957 : decode cL_law 1957 = .ok (.aload_n 0, 1) := decAll_at dLg_3_2 18 rfl
theorem dL_law_1958 : decode cL_law 1958 = .ok (.iload 4, 2) := decAll_at dLg_3_2 19 rfl
theorem dL_law_1960 : decode cL_law 1960 = .ok (.iconst 1, 1) := decAll_at dLg_3_2 20 rfl
theorem dL_law_1961 : decode cL_law 1961 = .ok (.iadd, 1) := decAll_at dLg_3_2 21 rfl
theorem dL_law_1962 : decode cL_law 1962 = .ok (.iaload, 1) := decAll_at dLg_3_2 22 rfl
theorem dL_law_1963 : decode cL_law 1963 = .ok (.invokevirtual 177, 3) := decAll_at dLg_3_2 23 rfl
theorem dL_law_1966 : decode cL_law 1966 = .ok (.aload_n 2, 1) := decAll_at dLg_3_2 24 rfl
theorem dL_law_1967 : decode cL_law 1967 = .ok (.aload_n 0, 1) := decAll_at dLg_3_2 25 rfl
theorem dL_law_1968 : decode cL_law 1968 = .ok (.iload 4, 2) := decAll_at dLg_3_2 26 rfl
theorem dL_law_1970 : decode cL_law 1970 = .ok (.iconst 1, 1) := decAll_at dLg_3_2 27 rfl
theorem dL_law_1971 : decode cL_law 1971 = .ok (.iadd, 1) := decAll_at dLg_3_2 28 rfl
theorem dL_law_1972 : decode cL_law 1972 = .ok (.iaload, 1) := decAll_at dLg_3_2 29 rfl
theorem dL_law_1973 : decode cL_law 1973 = .ok (.invokevirtual 180, 3) := decAll_at dLg_3_2 30 rfl
theorem dL_law_1976 : decode cL_law 1976 = .ok (.if_icmp .eq 354, 3) := decAll_at dLg_3_2 31 rfl
theorem dL_law_1979 : decode cL_law 1979 = .ok (.iconst 0, 1) := decAll_at dLg_3_2 32 rfl
theorem dL_law_1980 : decode cL_law 1980 = .ok (.ireturn, 1) := decAll_at dLg_3_2 33 rfl
theorem dL_law_1981 : decode cL_law 1981 = .ok (.aload_n 1, 1) := decAll_at dLg_3_2 34 rfl
theorem dL_law_1982 : decode cL_law 1982 = .ok (.aload_n 0, 1) := decAll_at dLg_3_2 35 rfl
theorem dL_law_1983 : decode cL_law 1983 = .ok (.iload 4, 2) := decAll_at dLg_3_2 36 rfl
theorem dL_law_1985 : decode cL_law 1985 = .ok (.iconst 1, 1) := decAll_at dLg_3_2 37 rfl
theorem dL_law_1986 : decode cL_law 1986 = .ok (.iadd, 1) := decAll_at dLg_3_2 38 rfl
theorem dL_law_1987 : decode cL_law 1987 = .ok (.iaload, 1) := decAll_at dLg_3_2 39 rfl
theorem dL_law_1988 : decode cL_law 1988 = .ok (.aload_n 0, 1) := decAll_at dLg_3_2 40 rfl
theorem dL_law_1989 : decode cL_law 1989 = .ok (.iload 4, 2) := decAll_at dLg_3_2 41 rfl
theorem dL_law_1991 : decode cL_law 1991 = .ok (.iconst 2, 1) := decAll_at dLg_3_2 42 rfl
theorem dL_law_1992 : decode cL_law 1992 = .ok (.iadd, 1) := decAll_at dLg_3_2 43 rfl
theorem dL_law_1993 : decode cL_law 1993 = .ok (.iaload, 1) := decAll_at dLg_3_2 44 rfl
theorem dL_law_1994 : decode cL_law 1994 = .ok (.aload_n 0, 1) := decAll_at dLg_3_2 45 rfl
theorem dL_law_1995 : decode cL_law 1995 = .ok (.iload 4, 2) := decAll_at dLg_3_2 46 rfl
theorem dL_law_1997 : decode cL_law 1997 = .ok (.iconst 3, 1) := decAll_at dLg_3_2 47 rfl
theorem dL_law_1998 : decode cL_law 1998 = .ok (.iadd, 1) := decAll_at dLg_3_2 48 rfl
theorem dL_law_1999 : decode cL_law 1999 = .ok (.iaload, 1) := decAll_at dLg_3_2 49 rfl
set_option maxRecDepth 100000 in
theorem dLg_3_3 : decAll cL_law [(2000, .aload_n 0, 1), (2001, .iload 4, 2), (2003, .iconst 4, 1), (2004, .iadd, 1), (2005, .iaload, 1), (2006, .invokevirtual 181, 3), (2009, .aload_n 2, 1), (2010, .aload_n 0, 1), (2011, .iload 4, 2), (2013, .iconst 1, 1), (2014, .iadd, 1), (2015, .iaload, 1), (2016, .aload_n 0, 1), (2017, .iload 4, 2), (2019, .iconst 2, 1), (2020, .iadd, 1), (2021, .iaload, 1), (2022, .aload_n 0, 1), (2023, .iload 4, 2), (2025, .iconst 3, 1), (2026, .iadd, 1), (2027, .iaload, 1), (2028, .aload_n 0, 1), (2029, .iload 4, 2), (2031, .iconst 4, 1), (2032, .iadd, 1), (2033, .iaload, 1), (2034, .invokevirtual 184, 3), (2037, .if_icmp .eq 293, 3), (2040, .iconst 0, 1), (2041, .ireturn, 1), (2042, .aload_n 1, 1), (2043, .aload_n 0, 1), (2044, .iload 4, 2), (2046, .iconst 1, 1), (2047, .iadd, 1), (2048, .iaload, 1), (2049, .aload_n 0, 1), (2050, .iload 4, 2), (2052, .iconst 2, 1), (2053, .iadd, 1), (2054, .iaload, 1), (2055, .aload_n 0, 1), (2056, .iload 4, 2), (2058, .iconst 3, 1), (2059, .iadd, 1), (2060, .iaload, 1), (2061, .invokevirtual 185, 3), (2064, .aload_n 2, 1), (2065, .aload_n 0, 1)] = true := by decide +kernel
theorem dL_law_2000 : decode cL_law 2000 = .ok (.aload_n 0, 1) := decAll_at dLg_3_3 0 rfl
theorem dL_law_2001 : decode cL_law 2001 = .ok (.iload 4, 2) := decAll_at dLg_3_3 1 rfl
theorem dL_law_2003 : decode cL_law 2003 = .ok (.iconst 4, 1) := decAll_at dLg_3_3 2 rfl
theorem dL_law_2004 : decode cL_law 2004 = .ok (.iadd, 1) := decAll_at dLg_3_3 3 rfl
theorem dL_law_2005 : decode cL_law 2005 = .ok (.iaload, 1) := decAll_at dLg_3_3 4 rfl
theorem dL_law_2006 : decode cL_law 2006 = .ok (.invokevirtual 181, 3) := decAll_at dLg_3_3 5 rfl
theorem dL_law_2009 : decode cL_law 2009 = .ok (.aload_n 2, 1) := decAll_at dLg_3_3 6 rfl
theorem dL_law_2010 : decode cL_law 2010 = .ok (.aload_n 0, 1) := decAll_at dLg_3_3 7 rfl
theorem dL_law_2011 : decode cL_law 2011 = .ok (.iload 4, 2) := decAll_at dLg_3_3 8 rfl
theorem dL_law_2013 : decode cL_law 2013 = .ok (.iconst 1, 1) := decAll_at dLg_3_3 9 rfl
theorem dL_law_2014 : decode cL_law 2014 = .ok (.iadd, 1) := decAll_at dLg_3_3 10 rfl
theorem dL_law_2015 : decode cL_law 2015 = .ok (.iaload, 1) := decAll_at dLg_3_3 11 rfl
theorem dL_law_2016 : decode cL_law 2016 = .ok (.aload_n 0, 1) := decAll_at dLg_3_3 12 rfl
theorem dL_law_2017 : decode cL_law 2017 = .ok (.iload 4, 2) := decAll_at dLg_3_3 13 rfl
theorem dL_law_2019 : decode cL_law 2019 = .ok (.iconst 2, 1) := decAll_at dLg_3_3 14 rfl
theorem dL_law_2020 : decode cL_law 2020 = .ok (.iadd, 1) := decAll_at dLg_3_3 15 rfl
theorem dL_law_2021 : decode cL_law 2021 = .ok (.iaload, 1) := decAll_at dLg_3_3 16 rfl
theorem dL_law_2022 : decode cL_law 2022 = .ok (.aload_n 0, 1) := decAll_at dLg_3_3 17 rfl
theorem dL_law_2023 : decode cL_law 2023 = .ok (.iload 4, 2) := decAll_at dLg_3_3 18 rfl
theorem dL_law_2025 : decode cL_law 2025 = .ok (.iconst 3, 1) := decAll_at dLg_3_3 19 rfl
theorem dL_law_2026 : decode cL_law 2026 = .ok (.iadd, 1) := decAll_at dLg_3_3 20 rfl
theorem dL_law_2027 : decode cL_law 2027 = .ok (.iaload, 1) := decAll_at dLg_3_3 21 rfl
theorem dL_law_2028 : decode cL_law 2028 = .ok (.aload_n 0, 1) := decAll_at dLg_3_3 22 rfl
theorem dL_law_2029 : decode cL_law 2029 = .ok (.iload 4, 2) := decAll_at dLg_3_3 23 rfl
theorem dL_law_2031 : decode cL_law 2031 = .ok (.iconst 4, 1) := decAll_at dLg_3_3 24 rfl
theorem dL_law_2032 : decode cL_law 2032 = .ok (.iadd, 1) := decAll_at dLg_3_3 25 rfl
theorem dL_law_2033 : decode cL_law 2033 = .ok (.iaload, 1) := decAll_at dLg_3_3 26 rfl
theorem dL_law_2034 : decode cL_law 2034 = .ok (.invokevirtual 184, 3) := decAll_at dLg_3_3 27 rfl
theorem dL_law_2037 : decode cL_law 2037 = .ok (.if_icmp .eq 293, 3) := decAll_at dLg_3_3 28 rfl
theorem dL_law_2040 : decode cL_law 2040 = .ok (.iconst 0, 1) := decAll_at dLg_3_3 29 rfl
theorem dL_law_2041 : decode cL_law 2041 = .ok (.ireturn, 1) := decAll_at dLg_3_3 30 rfl
theorem dL_law_2042 : decode cL_law 2042 = .ok (.aload_n 1, 1) := decAll_at dLg_3_3 31 rfl
theorem dL_law_2043 : decode cL_law 2043 = .ok (.aload_n 0, 1) := decAll_at dLg_3_3 32 rfl
theorem dL_law_2044 : decode cL_law 2044 = .ok (.iload 4, 2) := decAll_at dLg_3_3 33 rfl
theorem dL_law_2046 : decode cL_law 2046 = .ok (.iconst 1, 1) := decAll_at dLg_3_3 34 rfl
theorem dL_law_2047 : decode cL_law 2047 = .ok (.iadd, 1) := decAll_at dLg_3_3 35 rfl
theorem dL_law_2048 : decode cL_law 2048 = .ok (.iaload, 1) := decAll_at dLg_3_3 36 rfl
theorem dL_law_2049 : decode cL_law 2049 = .ok (.aload_n 0, 1) := decAll_at dLg_3_3 37 rfl
theorem dL_law_2050 : decode cL_law 2050 = .ok (.iload 4, 2) := decAll_at dLg_3_3 38 rfl
theorem dL_law_2052 : decode cL_law 2052 = .ok (.iconst 2, 1) := decAll_at dLg_3_3 39 rfl
theorem dL_law_2053 : decode cL_law 2053 = .ok (.iadd, 1) := decAll_at dLg_3_3 40 rfl
theorem dL_law_2054 : decode cL_law 2054 = .ok (.iaload, 1) := decAll_at dLg_3_3 41 rfl
theorem dL_law_2055 : decode cL_law 2055 = .ok (.aload_n 0, 1) := decAll_at dLg_3_3 42 rfl
theorem dL_law_2056 : decode cL_law 2056 = .ok (.iload 4, 2) := decAll_at dLg_3_3 43 rfl
theorem dL_law_2058 : decode cL_law 2058 = .ok (.iconst 3, 1) := decAll_at dLg_3_3 44 rfl
theorem dL_law_2059 : decode cL_law 2059 = .ok (.iadd, 1) := decAll_at dLg_3_3 45 rfl
theorem dL_law_2060 : decode cL_law 2060 = .ok (.iaload, 1) := decAll_at dLg_3_3 46 rfl
theorem dL_law_2061 : decode cL_law 2061 = .ok (.invokevirtual 185, 3) := decAll_at dLg_3_3 47 rfl
theorem dL_law_2064 : decode cL_law 2064 = .ok (.aload_n 2, 1) := decAll_at dLg_3_3 48 rfl
theorem dL_law_2065 : decode cL_law 2065 = .ok (.aload_n 0, 1) := decAll_at dLg_3_3 49 rfl
set_option maxRecDepth 100000 in
theorem dLg_3_4 : decAll cL_law [(2066, .iload 4, 2), (2068, .iconst 1, 1), (2069, .iadd, 1), (2070, .iaload, 1), (2071, .aload_n 0, 1), (2072, .iload 4, 2), (2074, .iconst 2, 1), (2075, .iadd, 1), (2076, .iaload, 1), (2077, .aload_n 0, 1), (2078, .iload 4, 2), (2080, .iconst 3, 1), (2081, .iadd, 1), (2082, .iaload, 1), (2083, .invokevirtual 188, 3), (2086, .if_icmp .eq 244, 3), (2089, .iconst 0, 1), (2090, .ireturn, 1), (2091, .aload_n 1, 1), (2092, .aload_n 0, 1), (2093, .iload 4, 2), (2095, .iconst 1, 1), (2096, .iadd, 1), (2097, .iaload, 1), (2098, .aload_n 0, 1), (2099, .iload 4, 2), (2101, .iconst 2, 1), (2102, .iadd, 1), (2103, .iaload, 1), (2104, .aload_n 0, 1), (2105, .iload 4, 2), (2107, .iconst 3, 1), (2108, .iadd, 1), (2109, .iaload, 1), (2110, .invokevirtual 189, 3), (2113, .aload_n 2, 1), (2114, .aload_n 0, 1), (2115, .iload 4, 2), (2117, .iconst 1, 1), (2118, .iadd, 1), (2119, .iaload, 1), (2120, .aload_n 0, 1), (2121, .iload 4, 2), (2123, .iconst 2, 1), (2124, .iadd, 1), (2125, .iaload, 1), (2126, .aload_n 0, 1), (2127, .iload 4, 2), (2129, .iconst 3, 1), (2130, .iadd, 1)] = true := by decide +kernel
theorem dL_law_2066 : decode cL_law 2066 = .ok (.iload 4, 2) := decAll_at dLg_3_4 0 rfl
theorem dL_law_2068 : decode cL_law 2068 = .ok (.iconst 1, 1) := decAll_at dLg_3_4 1 rfl
theorem dL_law_2069 : decode cL_law 2069 = .ok (.iadd, 1) := decAll_at dLg_3_4 2 rfl
theorem dL_law_2070 : decode cL_law 2070 = .ok (.iaload, 1) := decAll_at dLg_3_4 3 rfl
theorem dL_law_2071 : decode cL_law 2071 = .ok (.aload_n 0, 1) := decAll_at dLg_3_4 4 rfl
theorem dL_law_2072 : decode cL_law 2072 = .ok (.iload 4, 2) := decAll_at dLg_3_4 5 rfl
theorem dL_law_2074 : decode cL_law 2074 = .ok (.iconst 2, 1) := decAll_at dLg_3_4 6 rfl
theorem dL_law_2075 : decode cL_law 2075 = .ok (.iadd, 1) := decAll_at dLg_3_4 7 rfl
theorem dL_law_2076 : decode cL_law 2076 = .ok (.iaload, 1) := decAll_at dLg_3_4 8 rfl
theorem dL_law_2077 : decode cL_law 2077 = .ok (.aload_n 0, 1) := decAll_at dLg_3_4 9 rfl
theorem dL_law_2078 : decode cL_law 2078 = .ok (.iload 4, 2) := decAll_at dLg_3_4 10 rfl
theorem dL_law_2080 : decode cL_law 2080 = .ok (.iconst 3, 1) := decAll_at dLg_3_4 11 rfl
theorem dL_law_2081 : decode cL_law 2081 = .ok (.iadd, 1) := decAll_at dLg_3_4 12 rfl
theorem dL_law_2082 : decode cL_law 2082 = .ok (.iaload, 1) := decAll_at dLg_3_4 13 rfl
theorem dL_law_2083 : decode cL_law 2083 = .ok (.invokevirtual 188, 3) := decAll_at dLg_3_4 14 rfl
theorem dL_law_2086 : decode cL_law 2086 = .ok (.if_icmp .eq 244, 3) := decAll_at dLg_3_4 15 rfl
theorem dL_law_2089 : decode cL_law 2089 = .ok (.iconst 0, 1) := decAll_at dLg_3_4 16 rfl
theorem dL_law_2090 : decode cL_law 2090 = .ok (.ireturn, 1) := decAll_at dLg_3_4 17 rfl
theorem dL_law_2091 : decode cL_law 2091 = .ok (.aload_n 1, 1) := decAll_at dLg_3_4 18 rfl
theorem dL_law_2092 : decode cL_law 2092 = .ok (.aload_n 0, 1) := decAll_at dLg_3_4 19 rfl
theorem dL_law_2093 : decode cL_law 2093 = .ok (.iload 4, 2) := decAll_at dLg_3_4 20 rfl
theorem dL_law_2095 : decode cL_law 2095 = .ok (.iconst 1, 1) := decAll_at dLg_3_4 21 rfl
theorem dL_law_2096 : decode cL_law 2096 = .ok (.iadd, 1) := decAll_at dLg_3_4 22 rfl
theorem dL_law_2097 : decode cL_law 2097 = .ok (.iaload, 1) := decAll_at dLg_3_4 23 rfl
theorem dL_law_2098 : decode cL_law 2098 = .ok (.aload_n 0, 1) := decAll_at dLg_3_4 24 rfl
theorem dL_law_2099 : decode cL_law 2099 = .ok (.iload 4, 2) := decAll_at dLg_3_4 25 rfl
theorem dL_law_2101 : decode cL_law 2101 = .ok (.iconst 2, 1) := decAll_at dLg_3_4 26 rfl
theorem dL_law_2102 : decode cL_law 2102 = .ok (.iadd, 1) := decAll_at dLg_3_4 27 rfl
theorem dL_law_2103 : decode cL_law 2103 = .ok (.iaload, 1) := decAll_at dLg_3_4 28 rfl
theorem dL_law_2104 : decode cL_law 2104 = .ok (.aload_n 0, 1) := decAll_at dLg_3_4 29 rfl
theorem dL_law_2105 : decode cL_law 2105 = .ok (.iload 4, 2) := decAll_at dLg_3_4 30 rfl
theorem dL_law_2107 : decode cL_law 2107 = .ok (.iconst 3, 1) := decAll_at dLg_3_4 31 rfl
theorem dL_law_2108 : decode cL_law 2108 = .ok (.iadd, 1) := decAll_at dLg_3_4 32 rfl
theorem dL_law_2109 : decode cL_law 2109 = .ok (.iaload, 1) := decAll_at dLg_3_4 33 rfl
theorem dL_law_2110 : decode cL_law 2110 = .ok (.invokevirtual 189, 3) := decAll_at dLg_3_4 34 rfl
theorem dL_law_2113 : decode cL_law 2113 = .ok (.aload_n 2, 1) := decAll_at dLg_3_4 35 rfl
theorem dL_law_2114 : decode cL_law 2114 = .ok (.aload_n 0, 1) := decAll_at dLg_3_4 36 rfl
theorem dL_law_2115 : decode cL_law 2115 = .ok (.iload 4, 2) := decAll_at dLg_3_4 37 rfl
theorem dL_law_2117 : decode cL_law 2117 = .ok (.iconst 1, 1) := decAll_at dLg_3_4 38 rfl
theorem dL_law_2118 : decode cL_law 2118 = .ok (.iadd, 1) := decAll_at dLg_3_4 39 rfl
theorem dL_law_2119 : decode cL_law 2119 = .ok (.iaload, 1) := decAll_at dLg_3_4 40 rfl
theorem dL_law_2120 : decode cL_law 2120 = .ok (.aload_n 0, 1) := decAll_at dLg_3_4 41 rfl
theorem dL_law_2121 : decode cL_law 2121 = .ok (.iload 4, 2) := decAll_at dLg_3_4 42 rfl
theorem dL_law_2123 : decode cL_law 2123 = .ok (.iconst 2, 1) := decAll_at dLg_3_4 43 rfl
theorem dL_law_2124 : decode cL_law 2124 = .ok (.iadd, 1) := decAll_at dLg_3_4 44 rfl
theorem dL_law_2125 : decode cL_law 2125 = .ok (.iaload, 1) := decAll_at dLg_3_4 45 rfl
theorem dL_law_2126 : decode cL_law 2126 = .ok (.aload_n 0, 1) := decAll_at dLg_3_4 46 rfl
theorem dL_law_2127 : decode cL_law 2127 = .ok (.iload 4, 2) := decAll_at dLg_3_4 47 rfl
theorem dL_law_2129 : decode cL_law 2129 = .ok (.iconst 3, 1) := decAll_at dLg_3_4 48 rfl
theorem dL_law_2130 : decode cL_law 2130 = .ok (.iadd, 1) := decAll_at dLg_3_4 49 rfl
set_option maxRecDepth 100000 in
theorem dLg_3_5 : decAll cL_law [(2131, .iaload, 1), (2132, .invokevirtual 192, 3), (2135, .if_icmp .eq 195, 3), (2138, .iconst 0, 1), (2139, .ireturn, 1), (2140, .aload_n 1, 1), (2141, .aload_n 0, 1), (2142, .iload 4, 2), (2144, .iconst 1, 1), (2145, .iadd, 1), (2146, .iaload, 1), (2147, .aload_n 0, 1), (2148, .iload 4, 2), (2150, .iconst 2, 1), (2151, .iadd, 1), (2152, .iaload, 1), (2153, .aload_n 3, 1), (2154, .invokestatic 193, 3), (2157, .istore 5, 2), (2159, .aload_n 2, 1), (2160, .aload_n 0, 1), (2161, .iload 4, 2), (2163, .iconst 1, 1), (2164, .iadd, 1), (2165, .iaload, 1), (2166, .aload_n 0, 1), (2167, .iload 4, 2), (2169, .iconst 2, 1), (2170, .iadd, 1), (2171, .iaload, 1), (2172, .invokevirtual 198, 3), (2175, .lstore 6, 2), (2177, .aload_n 2, 1), (2178, .invokevirtual 199, 3), (2181, .iload 5, 2), (2183, .if_icmp .eq 5, 3), (2186, .iconst 0, 1), (2187, .ireturn, 1), (2188, .iload 5, 2), (2190, .ifCond .ne 14, 3), (2193, .aload_n 3, 1), (2194, .iconst 0, 1), (2195, .laload, 1), (2196, .lload 6, 2), (2198, .lcmp, 1), (2199, .ifCond .eq 5, 3), (2202, .iconst 0, 1), (2203, .ireturn, 1), (2204, .goto 126, 3), (2207, .aload_n 1, 1)] = true := by decide +kernel
theorem dL_law_2131 : decode cL_law 2131 = .ok (.iaload, 1) := decAll_at dLg_3_5 0 rfl
theorem dL_law_2132 : decode cL_law 2132 = .ok (.invokevirtual 192, 3) := decAll_at dLg_3_5 1 rfl
theorem dL_law_2135 : decode cL_law 2135 = .ok (.if_icmp .eq 195, 3) := decAll_at dLg_3_5 2 rfl
theorem dL_law_2138 : decode cL_law 2138 = .ok (.iconst 0, 1) := decAll_at dLg_3_5 3 rfl
theorem dL_law_2139 : decode cL_law 2139 = .ok (.ireturn, 1) := decAll_at dLg_3_5 4 rfl
theorem dL_law_2140 : decode cL_law 2140 = .ok (.aload_n 1, 1) := decAll_at dLg_3_5 5 rfl
theorem dL_law_2141 : decode cL_law 2141 = .ok (.aload_n 0, 1) := decAll_at dLg_3_5 6 rfl
theorem dL_law_2142 : decode cL_law 2142 = .ok (.iload 4, 2) := decAll_at dLg_3_5 7 rfl
theorem dL_law_2144 : decode cL_law 2144 = .ok (.iconst 1, 1) := decAll_at dLg_3_5 8 rfl
theorem dL_law_2145 : decode cL_law 2145 = .ok (.iadd, 1) := decAll_at dLg_3_5 9 rfl
theorem dL_law_2146 : decode cL_law 2146 = .ok (.iaload, 1) := decAll_at dLg_3_5 10 rfl
theorem dL_law_2147 : decode cL_law 2147 = .ok (.aload_n 0, 1) := decAll_at dLg_3_5 11 rfl
theorem dL_law_2148 : decode cL_law 2148 = .ok (.iload 4, 2) := decAll_at dLg_3_5 12 rfl
theorem dL_law_2150 : decode cL_law 2150 = .ok (.iconst 2, 1) := decAll_at dLg_3_5 13 rfl
theorem dL_law_2151 : decode cL_law 2151 = .ok (.iadd, 1) := decAll_at dLg_3_5 14 rfl
theorem dL_law_2152 : decode cL_law 2152 = .ok (.iaload, 1) := decAll_at dLg_3_5 15 rfl
theorem dL_law_2153 : decode cL_law 2153 = .ok (.aload_n 3, 1) := decAll_at dLg_3_5 16 rfl
theorem dL_law_2154 : decode cL_law 2154 = .ok (.invokestatic 193, 3) := decAll_at dLg_3_5 17 rfl
theorem dL_law_2157 : decode cL_law 2157 = .ok (.istore 5, 2) := decAll_at dLg_3_5 18 rfl
theorem dL_law_2159 : decode cL_law 2159 = .ok (.aload_n 2, 1) := decAll_at dLg_3_5 19 rfl
theorem dL_law_2160 : decode cL_law 2160 = .ok (.aload_n 0, 1) := decAll_at dLg_3_5 20 rfl
theorem dL_law_2161 : decode cL_law 2161 = .ok (.iload 4, 2) := decAll_at dLg_3_5 21 rfl
theorem dL_law_2163 : decode cL_law 2163 = .ok (.iconst 1, 1) := decAll_at dLg_3_5 22 rfl
theorem dL_law_2164 : decode cL_law 2164 = .ok (.iadd, 1) := decAll_at dLg_3_5 23 rfl
theorem dL_law_2165 : decode cL_law 2165 = .ok (.iaload, 1) := decAll_at dLg_3_5 24 rfl
theorem dL_law_2166 : decode cL_law 2166 = .ok (.aload_n 0, 1) := decAll_at dLg_3_5 25 rfl
theorem dL_law_2167 : decode cL_law 2167 = .ok (.iload 4, 2) := decAll_at dLg_3_5 26 rfl
theorem dL_law_2169 : decode cL_law 2169 = .ok (.iconst 2, 1) := decAll_at dLg_3_5 27 rfl
theorem dL_law_2170 : decode cL_law 2170 = .ok (.iadd, 1) := decAll_at dLg_3_5 28 rfl
theorem dL_law_2171 : decode cL_law 2171 = .ok (.iaload, 1) := decAll_at dLg_3_5 29 rfl
theorem dL_law_2172 : decode cL_law 2172 = .ok (.invokevirtual 198, 3) := decAll_at dLg_3_5 30 rfl
theorem dL_law_2175 : decode cL_law 2175 = .ok (.lstore 6, 2) := decAll_at dLg_3_5 31 rfl
theorem dL_law_2177 : decode cL_law 2177 = .ok (.aload_n 2, 1) := decAll_at dLg_3_5 32 rfl
theorem dL_law_2178 : decode cL_law 2178 = .ok (.invokevirtual 199, 3) := decAll_at dLg_3_5 33 rfl
theorem dL_law_2181 : decode cL_law 2181 = .ok (.iload 5, 2) := decAll_at dLg_3_5 34 rfl
theorem dL_law_2183 : decode cL_law 2183 = .ok (.if_icmp .eq 5, 3) := decAll_at dLg_3_5 35 rfl
theorem dL_law_2186 : decode cL_law 2186 = .ok (.iconst 0, 1) := decAll_at dLg_3_5 36 rfl
theorem dL_law_2187 : decode cL_law 2187 = .ok (.ireturn, 1) := decAll_at dLg_3_5 37 rfl
theorem dL_law_2188 : decode cL_law 2188 = .ok (.iload 5, 2) := decAll_at dLg_3_5 38 rfl
theorem dL_law_2190 : decode cL_law 2190 = .ok (.ifCond .ne 14, 3) := decAll_at dLg_3_5 39 rfl
theorem dL_law_2193 : decode cL_law 2193 = .ok (.aload_n 3, 1) := decAll_at dLg_3_5 40 rfl
theorem dL_law_2194 : decode cL_law 2194 = .ok (.iconst 0, 1) := decAll_at dLg_3_5 41 rfl
theorem dL_law_2195 : decode cL_law 2195 = .ok (.laload, 1) := decAll_at dLg_3_5 42 rfl
theorem dL_law_2196 : decode cL_law 2196 = .ok (.lload 6, 2) := decAll_at dLg_3_5 43 rfl
theorem dL_law_2198 : decode cL_law 2198 = .ok (.lcmp, 1) := decAll_at dLg_3_5 44 rfl
theorem dL_law_2199 : decode cL_law 2199 = .ok (.ifCond .eq 5, 3) := decAll_at dLg_3_5 45 rfl
theorem dL_law_2202 : decode cL_law 2202 = .ok (.iconst 0, 1) := decAll_at dLg_3_5 46 rfl
theorem dL_law_2203 : decode cL_law 2203 = .ok (.ireturn, 1) := decAll_at dLg_3_5 47 rfl
theorem dL_law_2204 : decode cL_law 2204 = .ok (.goto 126, 3) := decAll_at dLg_3_5 48 rfl
theorem dL_law_2207 : decode cL_law 2207 = .ok (.aload_n 1, 1) := decAll_at dLg_3_5 49 rfl
set_option maxRecDepth 100000 in
theorem dLg_3_6 : decAll cL_law [(2208, .aload_n 0, 1), (2209, .iload 4, 2), (2211, .iconst 1, 1), (2212, .iadd, 1), (2213, .iaload, 1), (2214, .aload_n 0, 1), (2215, .iload 4, 2), (2217, .iconst 2, 1), (2218, .iadd, 1), (2219, .iaload, 1), (2220, .aload_n 0, 1), (2221, .iload 4, 2), (2223, .iconst 3, 1), (2224, .iadd, 1), (2225, .iaload, 1), (2226, .aload_n 0, 1), (2227, .iload 4, 2), (2229, .iconst 4, 1), (2230, .iadd, 1), (2231, .iaload, 1), (2232, .aload_n 0, 1), (2233, .iload 4, 2), (2235, .iconst 5, 1), (2236, .iadd, 1), (2237, .iaload, 1), (2238, .invokevirtual 202, 3), (2241, .aload_n 2, 1), (2242, .aload_n 0, 1), (2243, .iload 4, 2), (2245, .iconst 1, 1), (2246, .iadd, 1), (2247, .iaload, 1), (2248, .aload_n 0, 1), (2249, .iload 4, 2), (2251, .iconst 2, 1), (2252, .iadd, 1), (2253, .iaload, 1), (2254, .aload_n 0, 1), (2255, .iload 4, 2), (2257, .iconst 3, 1), (2258, .iadd, 1), (2259, .iaload, 1), (2260, .aload_n 0, 1), (2261, .iload 4, 2), (2263, .iconst 4, 1), (2264, .iadd, 1), (2265, .iaload, 1), (2266, .aload_n 0, 1), (2267, .iload 4, 2), (2269, .iconst 5, 1)] = true := by decide +kernel
theorem dL_law_2208 : decode cL_law 2208 = .ok (.aload_n 0, 1) := decAll_at dLg_3_6 0 rfl
theorem dL_law_2209 : decode cL_law 2209 = .ok (.iload 4, 2) := decAll_at dLg_3_6 1 rfl
theorem dL_law_2211 : decode cL_law 2211 = .ok (.iconst 1, 1) := decAll_at dLg_3_6 2 rfl
theorem dL_law_2212 : decode cL_law 2212 = .ok (.iadd, 1) := decAll_at dLg_3_6 3 rfl
theorem dL_law_2213 : decode cL_law 2213 = .ok (.iaload, 1) := decAll_at dLg_3_6 4 rfl
theorem dL_law_2214 : decode cL_law 2214 = .ok (.aload_n 0, 1) := decAll_at dLg_3_6 5 rfl
theorem dL_law_2215 : decode cL_law 2215 = .ok (.iload 4, 2) := decAll_at dLg_3_6 6 rfl
theorem dL_law_2217 : decode cL_law 2217 = .ok (.iconst 2, 1) := decAll_at dLg_3_6 7 rfl
theorem dL_law_2218 : decode cL_law 2218 = .ok (.iadd, 1) := decAll_at dLg_3_6 8 rfl
theorem dL_law_2219 : decode cL_law 2219 = .ok (.iaload, 1) := decAll_at dLg_3_6 9 rfl
theorem dL_law_2220 : decode cL_law 2220 = .ok (.aload_n 0, 1) := decAll_at dLg_3_6 10 rfl
theorem dL_law_2221 : decode cL_law 2221 = .ok (.iload 4, 2) := decAll_at dLg_3_6 11 rfl
theorem dL_law_2223 : decode cL_law 2223 = .ok (.iconst 3, 1) := decAll_at dLg_3_6 12 rfl
theorem dL_law_2224 : decode cL_law 2224 = .ok (.iadd, 1) := decAll_at dLg_3_6 13 rfl
theorem dL_law_2225 : decode cL_law 2225 = .ok (.iaload, 1) := decAll_at dLg_3_6 14 rfl
theorem dL_law_2226 : decode cL_law 2226 = .ok (.aload_n 0, 1) := decAll_at dLg_3_6 15 rfl
theorem dL_law_2227 : decode cL_law 2227 = .ok (.iload 4, 2) := decAll_at dLg_3_6 16 rfl
theorem dL_law_2229 : decode cL_law 2229 = .ok (.iconst 4, 1) := decAll_at dLg_3_6 17 rfl
theorem dL_law_2230 : decode cL_law 2230 = .ok (.iadd, 1) := decAll_at dLg_3_6 18 rfl
theorem dL_law_2231 : decode cL_law 2231 = .ok (.iaload, 1) := decAll_at dLg_3_6 19 rfl
theorem dL_law_2232 : decode cL_law 2232 = .ok (.aload_n 0, 1) := decAll_at dLg_3_6 20 rfl
theorem dL_law_2233 : decode cL_law 2233 = .ok (.iload 4, 2) := decAll_at dLg_3_6 21 rfl
theorem dL_law_2235 : decode cL_law 2235 = .ok (.iconst 5, 1) := decAll_at dLg_3_6 22 rfl
theorem dL_law_2236 : decode cL_law 2236 = .ok (.iadd, 1) := decAll_at dLg_3_6 23 rfl
theorem dL_law_2237 : decode cL_law 2237 = .ok (.iaload, 1) := decAll_at dLg_3_6 24 rfl
theorem dL_law_2238 : decode cL_law 2238 = .ok (.invokevirtual 202, 3) := decAll_at dLg_3_6 25 rfl
theorem dL_law_2241 : decode cL_law 2241 = .ok (.aload_n 2, 1) := decAll_at dLg_3_6 26 rfl
theorem dL_law_2242 : decode cL_law 2242 = .ok (.aload_n 0, 1) := decAll_at dLg_3_6 27 rfl
theorem dL_law_2243 : decode cL_law 2243 = .ok (.iload 4, 2) := decAll_at dLg_3_6 28 rfl
theorem dL_law_2245 : decode cL_law 2245 = .ok (.iconst 1, 1) := decAll_at dLg_3_6 29 rfl
theorem dL_law_2246 : decode cL_law 2246 = .ok (.iadd, 1) := decAll_at dLg_3_6 30 rfl
theorem dL_law_2247 : decode cL_law 2247 = .ok (.iaload, 1) := decAll_at dLg_3_6 31 rfl
theorem dL_law_2248 : decode cL_law 2248 = .ok (.aload_n 0, 1) := decAll_at dLg_3_6 32 rfl
theorem dL_law_2249 : decode cL_law 2249 = .ok (.iload 4, 2) := decAll_at dLg_3_6 33 rfl
theorem dL_law_2251 : decode cL_law 2251 = .ok (.iconst 2, 1) := decAll_at dLg_3_6 34 rfl
theorem dL_law_2252 : decode cL_law 2252 = .ok (.iadd, 1) := decAll_at dLg_3_6 35 rfl
theorem dL_law_2253 : decode cL_law 2253 = .ok (.iaload, 1) := decAll_at dLg_3_6 36 rfl
theorem dL_law_2254 : decode cL_law 2254 = .ok (.aload_n 0, 1) := decAll_at dLg_3_6 37 rfl
theorem dL_law_2255 : decode cL_law 2255 = .ok (.iload 4, 2) := decAll_at dLg_3_6 38 rfl
theorem dL_law_2257 : decode cL_law 2257 = .ok (.iconst 3, 1) := decAll_at dLg_3_6 39 rfl
theorem dL_law_2258 : decode cL_law 2258 = .ok (.iadd, 1) := decAll_at dLg_3_6 40 rfl
theorem dL_law_2259 : decode cL_law 2259 = .ok (.iaload, 1) := decAll_at dLg_3_6 41 rfl
theorem dL_law_2260 : decode cL_law 2260 = .ok (.aload_n 0, 1) := decAll_at dLg_3_6 42 rfl
theorem dL_law_2261 : decode cL_law 2261 = .ok (.iload 4, 2) := decAll_at dLg_3_6 43 rfl
theorem dL_law_2263 : decode cL_law 2263 = .ok (.iconst 4, 1) := decAll_at dLg_3_6 44 rfl
theorem dL_law_2264 : decode cL_law 2264 = .ok (.iadd, 1) := decAll_at dLg_3_6 45 rfl
theorem dL_law_2265 : decode cL_law 2265 = .ok (.iaload, 1) := decAll_at dLg_3_6 46 rfl
theorem dL_law_2266 : decode cL_law 2266 = .ok (.aload_n 0, 1) := decAll_at dLg_3_6 47 rfl
theorem dL_law_2267 : decode cL_law 2267 = .ok (.iload 4, 2) := decAll_at dLg_3_6 48 rfl
theorem dL_law_2269 : decode cL_law 2269 = .ok (.iconst 5, 1) := decAll_at dLg_3_6 49 rfl
set_option maxRecDepth 100000 in
theorem dLg_3_7 : decAll cL_law [(2270, .iadd, 1), (2271, .iaload, 1), (2272, .invokevirtual 205, 3), (2275, .if_icmp .eq 55, 3), (2278, .iconst 0, 1), (2279, .ireturn, 1), (2280, .aload_n 1, 1), (2281, .aload_n 0, 1), (2282, .iload 4, 2), (2284, .iconst 1, 1), (2285, .iadd, 1), (2286, .iaload, 1), (2287, .invokevirtual 206, 3), (2290, .aload_n 2, 1), (2291, .aload_n 0, 1), (2292, .iload 4, 2), (2294, .iconst 1, 1), (2295, .iadd, 1), (2296, .iaload, 1), (2297, .invokevirtual 209, 3), (2300, .if_icmp .eq 30, 3), (2303, .iconst 0, 1), (2304, .ireturn, 1), (2305, .aload_n 1, 1), (2306, .aload_n 0, 1), (2307, .iload 4, 2), (2309, .iconst 1, 1), (2310, .iadd, 1), (2311, .iaload, 1), (2312, .invokevirtual 210, 3), (2315, .aload_n 2, 1), (2316, .aload_n 0, 1), (2317, .iload 4, 2), (2319, .iconst 1, 1), (2320, .iadd, 1), (2321, .iaload, 1), (2322, .invokevirtual 213, 3), (2325, .if_icmp .eq 5, 3), (2328, .iconst 0, 1), (2329, .ireturn, 1), (2330, .iinc 4 6, 3), (2333, .goto (-2310), 3), (2336, .iconst 1, 1), (2337, .ireturn, 1)] = true := by decide +kernel
theorem dL_law_2270 : decode cL_law 2270 = .ok (.iadd, 1) := decAll_at dLg_3_7 0 rfl
theorem dL_law_2271 : decode cL_law 2271 = .ok (.iaload, 1) := decAll_at dLg_3_7 1 rfl
theorem dL_law_2272 : decode cL_law 2272 = .ok (.invokevirtual 205, 3) := decAll_at dLg_3_7 2 rfl
theorem dL_law_2275 : decode cL_law 2275 = .ok (.if_icmp .eq 55, 3) := decAll_at dLg_3_7 3 rfl
theorem dL_law_2278 : decode cL_law 2278 = .ok (.iconst 0, 1) := decAll_at dLg_3_7 4 rfl
theorem dL_law_2279 : decode cL_law 2279 = .ok (.ireturn, 1) := decAll_at dLg_3_7 5 rfl
theorem dL_law_2280 : decode cL_law 2280 = .ok (.aload_n 1, 1) := decAll_at dLg_3_7 6 rfl
theorem dL_law_2281 : decode cL_law 2281 = .ok (.aload_n 0, 1) := decAll_at dLg_3_7 7 rfl
theorem dL_law_2282 : decode cL_law 2282 = .ok (.iload 4, 2) := decAll_at dLg_3_7 8 rfl
theorem dL_law_2284 : decode cL_law 2284 = .ok (.iconst 1, 1) := decAll_at dLg_3_7 9 rfl
theorem dL_law_2285 : decode cL_law 2285 = .ok (.iadd, 1) := decAll_at dLg_3_7 10 rfl
theorem dL_law_2286 : decode cL_law 2286 = .ok (.iaload, 1) := decAll_at dLg_3_7 11 rfl
theorem dL_law_2287 : decode cL_law 2287 = .ok (.invokevirtual 206, 3) := decAll_at dLg_3_7 12 rfl
theorem dL_law_2290 : decode cL_law 2290 = .ok (.aload_n 2, 1) := decAll_at dLg_3_7 13 rfl
theorem dL_law_2291 : decode cL_law 2291 = .ok (.aload_n 0, 1) := decAll_at dLg_3_7 14 rfl
theorem dL_law_2292 : decode cL_law 2292 = .ok (.iload 4, 2) := decAll_at dLg_3_7 15 rfl
theorem dL_law_2294 : decode cL_law 2294 = .ok (.iconst 1, 1) := decAll_at dLg_3_7 16 rfl
theorem dL_law_2295 : decode cL_law 2295 = .ok (.iadd, 1) := decAll_at dLg_3_7 17 rfl
theorem dL_law_2296 : decode cL_law 2296 = .ok (.iaload, 1) := decAll_at dLg_3_7 18 rfl
theorem dL_law_2297 : decode cL_law 2297 = .ok (.invokevirtual 209, 3) := decAll_at dLg_3_7 19 rfl
theorem dL_law_2300 : decode cL_law 2300 = .ok (.if_icmp .eq 30, 3) := decAll_at dLg_3_7 20 rfl
theorem dL_law_2303 : decode cL_law 2303 = .ok (.iconst 0, 1) := decAll_at dLg_3_7 21 rfl
theorem dL_law_2304 : decode cL_law 2304 = .ok (.ireturn, 1) := decAll_at dLg_3_7 22 rfl
theorem dL_law_2305 : decode cL_law 2305 = .ok (.aload_n 1, 1) := decAll_at dLg_3_7 23 rfl
theorem dL_law_2306 : decode cL_law 2306 = .ok (.aload_n 0, 1) := decAll_at dLg_3_7 24 rfl
theorem dL_law_2307 : decode cL_law 2307 = .ok (.iload 4, 2) := decAll_at dLg_3_7 25 rfl
theorem dL_law_2309 : decode cL_law 2309 = .ok (.iconst 1, 1) := decAll_at dLg_3_7 26 rfl
theorem dL_law_2310 : decode cL_law 2310 = .ok (.iadd, 1) := decAll_at dLg_3_7 27 rfl
theorem dL_law_2311 : decode cL_law 2311 = .ok (.iaload, 1) := decAll_at dLg_3_7 28 rfl
theorem dL_law_2312 : decode cL_law 2312 = .ok (.invokevirtual 210, 3) := decAll_at dLg_3_7 29 rfl
theorem dL_law_2315 : decode cL_law 2315 = .ok (.aload_n 2, 1) := decAll_at dLg_3_7 30 rfl
theorem dL_law_2316 : decode cL_law 2316 = .ok (.aload_n 0, 1) := decAll_at dLg_3_7 31 rfl
theorem dL_law_2317 : decode cL_law 2317 = .ok (.iload 4, 2) := decAll_at dLg_3_7 32 rfl
theorem dL_law_2319 : decode cL_law 2319 = .ok (.iconst 1, 1) := decAll_at dLg_3_7 33 rfl
theorem dL_law_2320 : decode cL_law 2320 = .ok (.iadd, 1) := decAll_at dLg_3_7 34 rfl
theorem dL_law_2321 : decode cL_law 2321 = .ok (.iaload, 1) := decAll_at dLg_3_7 35 rfl
theorem dL_law_2322 : decode cL_law 2322 = .ok (.invokevirtual 213, 3) := decAll_at dLg_3_7 36 rfl
theorem dL_law_2325 : decode cL_law 2325 = .ok (.if_icmp .eq 5, 3) := decAll_at dLg_3_7 37 rfl
theorem dL_law_2328 : decode cL_law 2328 = .ok (.iconst 0, 1) := decAll_at dLg_3_7 38 rfl
theorem dL_law_2329 : decode cL_law 2329 = .ok (.ireturn, 1) := decAll_at dLg_3_7 39 rfl
theorem dL_law_2330 : decode cL_law 2330 = .ok (.iinc 4 6, 3) := decAll_at dLg_3_7 40 rfl
theorem dL_law_2333 : decode cL_law 2333 = .ok (.goto (-2310), 3) := decAll_at dLg_3_7 41 rfl
theorem dL_law_2336 : decode cL_law 2336 = .ok (.iconst 1, 1) := decAll_at dLg_3_7 42 rfl
theorem dL_law_2337 : decode cL_law 2337 = .ok (.ireturn, 1) := decAll_at dLg_3_7 43 rfl
