theorem gdL_law_2006 : (decode cL_law 2006 = .ok (.aload_n 2, 1)) ∧ (decode cL_law 2007 = .ok (.invokevirtual 285, 3)) ∧ (decode cL_law 2010 = .ok (.pop, 1)) ∧ (decode cL_law 2011 = .ok (.goto 45, 3)) ∧ (decode cL_law 2014 = .ok (.aload_n 1, 1)) ∧ (decode cL_law 2015 = .ok (.aload_n 0, 1)) := by decide +kernel
theorem dL_law_2006 : decode cL_law 2006 = .ok (.aload_n 2, 1) := gdL_law_2006.1
theorem dL_law_2007 : decode cL_law 2007 = .ok (.invokevirtual 285, 3) := gdL_law_2006.2.1
theorem dL_law_2010 : decode cL_law 2010 = .ok (.pop, 1) := gdL_law_2006.2.2.1
theorem dL_law_2011 : decode cL_law 2011 = .ok (.goto 45, 3) := gdL_law_2006.2.2.2.1
theorem dL_law_2014 : decode cL_law 2014 = .ok (.aload_n 1, 1) := gdL_law_2006.2.2.2.2.1
theorem dL_law_2015 : decode cL_law 2015 = .ok (.aload_n 0, 1) := gdL_law_2006.2.2.2.2.2
theorem gdL_law_2016 : (decode cL_law 2016 = .ok (.iload 4, 2)) ∧ (decode cL_law 2018 = .ok (.iconst 1, 1)) ∧ (decode cL_law 2019 = .ok (.iadd, 1)) ∧ (decode cL_law 2020 = .ok (.iaload, 1)) ∧ (decode cL_law 2021 = .ok (.aload_n 3, 1)) ∧ (decode cL_law 2022 = .ok (.invokestatic 286, 3)) := by decide +kernel
theorem dL_law_2016 : decode cL_law 2016 = .ok (.iload 4, 2) := gdL_law_2016.1
theorem dL_law_2018 : decode cL_law 2018 = .ok (.iconst 1, 1) := gdL_law_2016.2.1
theorem dL_law_2019 : decode cL_law 2019 = .ok (.iadd, 1) := gdL_law_2016.2.2.1
theorem dL_law_2020 : decode cL_law 2020 = .ok (.iaload, 1) := gdL_law_2016.2.2.2.1
theorem dL_law_2021 : decode cL_law 2021 = .ok (.aload_n 3, 1) := gdL_law_2016.2.2.2.2.1
theorem dL_law_2022 : decode cL_law 2022 = .ok (.invokestatic 286, 3) := gdL_law_2016.2.2.2.2.2
theorem gdL_law_2025 : (decode cL_law 2025 = .ok (.istore 5, 2)) ∧ (decode cL_law 2027 = .ok (.aload_n 2, 1)) ∧ (decode cL_law 2028 = .ok (.aload_n 0, 1)) ∧ (decode cL_law 2029 = .ok (.iload 4, 2)) ∧ (decode cL_law 2031 = .ok (.iconst 1, 1)) ∧ (decode cL_law 2032 = .ok (.iadd, 1)) := by decide +kernel
theorem dL_law_2025 : decode cL_law 2025 = .ok (.istore 5, 2) := gdL_law_2025.1
theorem dL_law_2027 : decode cL_law 2027 = .ok (.aload_n 2, 1) := gdL_law_2025.2.1
theorem dL_law_2028 : decode cL_law 2028 = .ok (.aload_n 0, 1) := gdL_law_2025.2.2.1
theorem dL_law_2029 : decode cL_law 2029 = .ok (.iload 4, 2) := gdL_law_2025.2.2.2.1
theorem dL_law_2031 : decode cL_law 2031 = .ok (.iconst 1, 1) := gdL_law_2025.2.2.2.2.1
theorem dL_law_2032 : decode cL_law 2032 = .ok (.iadd, 1) := gdL_law_2025.2.2.2.2.2
theorem gdL_law_2033 : (decode cL_law 2033 = .ok (.iaload, 1)) ∧ (decode cL_law 2034 = .ok (.invokevirtual 288, 3)) ∧ (decode cL_law 2037 = .ok (.istore 6, 2)) ∧ (decode cL_law 2039 = .ok (.goto 17, 3)) ∧ (decode cL_law 2042 = .ok (.aload_n 1, 1)) ∧ (decode cL_law 2043 = .ok (.invokevirtual 289, 3)) := by decide +kernel
theorem dL_law_2033 : decode cL_law 2033 = .ok (.iaload, 1) := gdL_law_2033.1
theorem dL_law_2034 : decode cL_law 2034 = .ok (.invokevirtual 288, 3) := gdL_law_2033.2.1
theorem dL_law_2037 : decode cL_law 2037 = .ok (.istore 6, 2) := gdL_law_2033.2.2.1
theorem dL_law_2039 : decode cL_law 2039 = .ok (.goto 17, 3) := gdL_law_2033.2.2.2.1
theorem dL_law_2042 : decode cL_law 2042 = .ok (.aload_n 1, 1) := gdL_law_2033.2.2.2.2.1
theorem dL_law_2043 : decode cL_law 2043 = .ok (.invokevirtual 289, 3) := gdL_law_2033.2.2.2.2.2
theorem gdL_law_2046 : (decode cL_law 2046 = .ok (.aload_n 2, 1)) ∧ (decode cL_law 2047 = .ok (.invokevirtual 293, 3)) ∧ (decode cL_law 2050 = .ok (.lcmp, 1)) ∧ (decode cL_law 2051 = .ok (.ifCond .eq 5, 3)) ∧ (decode cL_law 2054 = .ok (.iconst 0, 1)) ∧ (decode cL_law 2055 = .ok (.ireturn, 1)) := by decide +kernel
theorem dL_law_2046 : decode cL_law 2046 = .ok (.aload_n 2, 1) := gdL_law_2046.1
theorem dL_law_2047 : decode cL_law 2047 = .ok (.invokevirtual 293, 3) := gdL_law_2046.2.1
theorem dL_law_2050 : decode cL_law 2050 = .ok (.lcmp, 1) := gdL_law_2046.2.2.1
theorem dL_law_2051 : decode cL_law 2051 = .ok (.ifCond .eq 5, 3) := gdL_law_2046.2.2.2.1
theorem dL_law_2054 : decode cL_law 2054 = .ok (.iconst 0, 1) := gdL_law_2046.2.2.2.2.1
theorem dL_law_2055 : decode cL_law 2055 = .ok (.ireturn, 1) := gdL_law_2046.2.2.2.2.2
theorem gdL_law_2056 : (decode cL_law 2056 = .ok (.iinc 4 6, 3)) ∧ (decode cL_law 2059 = .ok (.goto (-2032), 3)) ∧ (decode cL_law 2062 = .ok (.iconst 1, 1)) ∧ (decode cL_law 2063 = .ok (.ireturn, 1)) := by decide +kernel
theorem dL_law_2056 : decode cL_law 2056 = .ok (.iinc 4 6, 3) := gdL_law_2056.1
theorem dL_law_2059 : decode cL_law 2059 = .ok (.goto (-2032), 3) := gdL_law_2056.2.1
theorem dL_law_2062 : decode cL_law 2062 = .ok (.iconst 1, 1) := gdL_law_2056.2.2.1
theorem dL_law_2063 : decode cL_law 2063 = .ok (.ireturn, 1) := gdL_law_2056.2.2.2
