theorem gdL_law_1999 : (decode cL_law 1999 = .ok (.invokevirtual 281, 3)) ∧ (decode cL_law 2002 = .ok (.iload 5, 2)) ∧ (decode cL_law 2004 = .ok (.if_icmp .eq 5, 3)) ∧ (decode cL_law 2007 = .ok (.iconst 0, 1)) ∧ (decode cL_law 2008 = .ok (.ireturn, 1)) ∧ (decode cL_law 2009 = .ok (.iload 5, 2)) := by decide +kernel
theorem dL_law_1999 : decode cL_law 1999 = .ok (.invokevirtual 281, 3) := gdL_law_1999.1
theorem dL_law_2002 : decode cL_law 2002 = .ok (.iload 5, 2) := gdL_law_1999.2.1
theorem dL_law_2004 : decode cL_law 2004 = .ok (.if_icmp .eq 5, 3) := gdL_law_1999.2.2.1
theorem dL_law_2007 : decode cL_law 2007 = .ok (.iconst 0, 1) := gdL_law_1999.2.2.2.1
theorem dL_law_2008 : decode cL_law 2008 = .ok (.ireturn, 1) := gdL_law_1999.2.2.2.2.1
theorem dL_law_2009 : decode cL_law 2009 = .ok (.iload 5, 2) := gdL_law_1999.2.2.2.2.2
theorem gdL_law_2011 : (decode cL_law 2011 = .ok (.ifCond .ne 16, 3)) ∧ (decode cL_law 2014 = .ok (.aload_n 3, 1)) ∧ (decode cL_law 2015 = .ok (.getfield 13, 3)) ∧ (decode cL_law 2018 = .ok (.iload 6, 2)) ∧ (decode cL_law 2020 = .ok (.i2l, 1)) ∧ (decode cL_law 2021 = .ok (.lcmp, 1)) := by decide +kernel
theorem dL_law_2011 : decode cL_law 2011 = .ok (.ifCond .ne 16, 3) := gdL_law_2011.1
theorem dL_law_2014 : decode cL_law 2014 = .ok (.aload_n 3, 1) := gdL_law_2011.2.1
theorem dL_law_2015 : decode cL_law 2015 = .ok (.getfield 13, 3) := gdL_law_2011.2.2.1
theorem dL_law_2018 : decode cL_law 2018 = .ok (.iload 6, 2) := gdL_law_2011.2.2.2.1
theorem dL_law_2020 : decode cL_law 2020 = .ok (.i2l, 1) := gdL_law_2011.2.2.2.2.1
theorem dL_law_2021 : decode cL_law 2021 = .ok (.lcmp, 1) := gdL_law_2011.2.2.2.2.2
theorem gdL_law_2022 : (decode cL_law 2022 = .ok (.ifCond .eq 5, 3)) ∧ (decode cL_law 2025 = .ok (.iconst 0, 1)) ∧ (decode cL_law 2026 = .ok (.ireturn, 1)) ∧ (decode cL_law 2027 = .ok (.goto 57, 3)) ∧ (decode cL_law 2030 = .ok (.aload_n 1, 1)) ∧ (decode cL_law 2031 = .ok (.invokevirtual 285, 3)) := by decide +kernel
theorem dL_law_2022 : decode cL_law 2022 = .ok (.ifCond .eq 5, 3) := gdL_law_2022.1
theorem dL_law_2025 : decode cL_law 2025 = .ok (.iconst 0, 1) := gdL_law_2022.2.1
theorem dL_law_2026 : decode cL_law 2026 = .ok (.ireturn, 1) := gdL_law_2022.2.2.1
theorem dL_law_2027 : decode cL_law 2027 = .ok (.goto 57, 3) := gdL_law_2022.2.2.2.1
theorem dL_law_2030 : decode cL_law 2030 = .ok (.aload_n 1, 1) := gdL_law_2022.2.2.2.2.1
theorem dL_law_2031 : decode cL_law 2031 = .ok (.invokevirtual 285, 3) := gdL_law_2022.2.2.2.2.2
theorem gdL_law_2034 : (decode cL_law 2034 = .ok (.pop, 1)) ∧ (decode cL_law 2035 = .ok (.aload_n 2, 1)) ∧ (decode cL_law 2036 = .ok (.invokevirtual 288, 3)) ∧ (decode cL_law 2039 = .ok (.pop, 1)) ∧ (decode cL_law 2040 = .ok (.goto 44, 3)) ∧ (decode cL_law 2043 = .ok (.aload_n 1, 1)) := by decide +kernel
theorem dL_law_2034 : decode cL_law 2034 = .ok (.pop, 1) := gdL_law_2034.1
theorem dL_law_2035 : decode cL_law 2035 = .ok (.aload_n 2, 1) := gdL_law_2034.2.1
theorem dL_law_2036 : decode cL_law 2036 = .ok (.invokevirtual 288, 3) := gdL_law_2034.2.2.1
theorem dL_law_2039 : decode cL_law 2039 = .ok (.pop, 1) := gdL_law_2034.2.2.2.1
theorem dL_law_2040 : decode cL_law 2040 = .ok (.goto 44, 3) := gdL_law_2034.2.2.2.2.1
theorem dL_law_2043 : decode cL_law 2043 = .ok (.aload_n 1, 1) := gdL_law_2034.2.2.2.2.2
theorem gdL_law_2044 : (decode cL_law 2044 = .ok (.aload_n 0, 1)) ∧ (decode cL_law 2045 = .ok (.iload 4, 2)) ∧ (decode cL_law 2047 = .ok (.iconst 1, 1)) ∧ (decode cL_law 2048 = .ok (.iadd, 1)) ∧ (decode cL_law 2049 = .ok (.iaload, 1)) ∧ (decode cL_law 2050 = .ok (.aload_n 3, 1)) := by decide +kernel
theorem dL_law_2044 : decode cL_law 2044 = .ok (.aload_n 0, 1) := gdL_law_2044.1
theorem dL_law_2045 : decode cL_law 2045 = .ok (.iload 4, 2) := gdL_law_2044.2.1
theorem dL_law_2047 : decode cL_law 2047 = .ok (.iconst 1, 1) := gdL_law_2044.2.2.1
theorem dL_law_2048 : decode cL_law 2048 = .ok (.iadd, 1) := gdL_law_2044.2.2.2.1
theorem dL_law_2049 : decode cL_law 2049 = .ok (.iaload, 1) := gdL_law_2044.2.2.2.2.1
theorem dL_law_2050 : decode cL_law 2050 = .ok (.aload_n 3, 1) := gdL_law_2044.2.2.2.2.2
theorem gdL_law_2051 : (decode cL_law 2051 = .ok (.invokestatic 289, 3)) ∧ (decode cL_law 2054 = .ok (.istore 5, 2)) ∧ (decode cL_law 2056 = .ok (.aload_n 2, 1)) ∧ (decode cL_law 2057 = .ok (.aload_n 0, 1)) ∧ (decode cL_law 2058 = .ok (.iload 4, 2)) ∧ (decode cL_law 2060 = .ok (.iconst 1, 1)) := by decide +kernel
theorem dL_law_2051 : decode cL_law 2051 = .ok (.invokestatic 289, 3) := gdL_law_2051.1
theorem dL_law_2054 : decode cL_law 2054 = .ok (.istore 5, 2) := gdL_law_2051.2.1
theorem dL_law_2056 : decode cL_law 2056 = .ok (.aload_n 2, 1) := gdL_law_2051.2.2.1
theorem dL_law_2057 : decode cL_law 2057 = .ok (.aload_n 0, 1) := gdL_law_2051.2.2.2.1
theorem dL_law_2058 : decode cL_law 2058 = .ok (.iload 4, 2) := gdL_law_2051.2.2.2.2.1
theorem dL_law_2060 : decode cL_law 2060 = .ok (.iconst 1, 1) := gdL_law_2051.2.2.2.2.2
theorem gdL_law_2061 : (decode cL_law 2061 = .ok (.iadd, 1)) ∧ (decode cL_law 2062 = .ok (.iaload, 1)) ∧ (decode cL_law 2063 = .ok (.invokevirtual 291, 3)) ∧ (decode cL_law 2066 = .ok (.istore 6, 2)) ∧ (decode cL_law 2068 = .ok (.goto 16, 3)) ∧ (decode cL_law 2071 = .ok (.aload_n 1, 1)) := by decide +kernel
theorem dL_law_2061 : decode cL_law 2061 = .ok (.iadd, 1) := gdL_law_2061.1
theorem dL_law_2062 : decode cL_law 2062 = .ok (.iaload, 1) := gdL_law_2061.2.1
theorem dL_law_2063 : decode cL_law 2063 = .ok (.invokevirtual 291, 3) := gdL_law_2061.2.2.1
theorem dL_law_2066 : decode cL_law 2066 = .ok (.istore 6, 2) := gdL_law_2061.2.2.2.1
theorem dL_law_2068 : decode cL_law 2068 = .ok (.goto 16, 3) := gdL_law_2061.2.2.2.2.1
theorem dL_law_2071 : decode cL_law 2071 = .ok (.aload_n 1, 1) := gdL_law_2061.2.2.2.2.2
theorem gdL_law_2072 : (decode cL_law 2072 = .ok (.invokevirtual 292, 3)) ∧ (decode cL_law 2075 = .ok (.pop2, 1)) ∧ (decode cL_law 2076 = .ok (.aload_n 2, 1)) ∧ (decode cL_law 2077 = .ok (.invokevirtual 296, 3)) ∧ (decode cL_law 2080 = .ok (.pop2, 1)) ∧ (decode cL_law 2081 = .ok (.goto 3, 3)) := by decide +kernel
theorem dL_law_2072 : decode cL_law 2072 = .ok (.invokevirtual 292, 3) := gdL_law_2072.1
theorem dL_law_2075 : decode cL_law 2075 = .ok (.pop2, 1) := gdL_law_2072.2.1
theorem dL_law_2076 : decode cL_law 2076 = .ok (.aload_n 2, 1) := gdL_law_2072.2.2.1
theorem dL_law_2077 : decode cL_law 2077 = .ok (.invokevirtual 296, 3) := gdL_law_2072.2.2.2.1
theorem dL_law_2080 : decode cL_law 2080 = .ok (.pop2, 1) := gdL_law_2072.2.2.2.2.1
theorem dL_law_2081 : decode cL_law 2081 = .ok (.goto 3, 3) := gdL_law_2072.2.2.2.2.2
theorem gdL_law_2084 : (decode cL_law 2084 = .ok (.iinc 4 6, 3)) ∧ (decode cL_law 2087 = .ok (.goto (-2060), 3)) ∧ (decode cL_law 2090 = .ok (.iconst 1, 1)) ∧ (decode cL_law 2091 = .ok (.ireturn, 1)) := by decide +kernel
theorem dL_law_2084 : decode cL_law 2084 = .ok (.iinc 4 6, 3) := gdL_law_2084.1
theorem dL_law_2087 : decode cL_law 2087 = .ok (.goto (-2060), 3) := gdL_law_2084.2.1
theorem dL_law_2090 : decode cL_law 2090 = .ok (.iconst 1, 1) := gdL_law_2084.2.2.1
theorem dL_law_2091 : decode cL_law 2091 = .ok (.ireturn, 1) := gdL_law_2084.2.2.2
