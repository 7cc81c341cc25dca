theorem dL_law_2006 : decode cL_law 2006 = .ok (.invokevirtual 285, 3) := by decide +kernel
theorem dL_law_2009 : decode cL_law 2009 = .ok (.if_icmp .eq 46, 3) := by decide +kernel
theorem dL_law_2012 : decode cL_law 2012 = .ok (.iconst 0, 1) := by decide +kernel
theorem dL_law_2013 : decode cL_law 2013 = .ok (.ireturn, 1) := by decide +kernel
theorem dL_law_2014 : decode cL_law 2014 = .ok (.aload_n 1, 1) := by decide +kernel
theorem dL_law_2015 : decode cL_law 2015 = .ok (.aload_n 0, 1) := by decide +kernel
theorem dL_law_2016 : decode cL_law 2016 = .ok (.iload 4, 2) := by decide +kernel
theorem dL_law_2018 : decode cL_law 2018 = .ok (.iconst 1, 1) := by decide +kernel
theorem dL_law_2019 : decode cL_law 2019 = .ok (.iadd, 1) := by decide +kernel
theorem dL_law_2020 : decode cL_law 2020 = .ok (.iaload, 1) := by decide +kernel
theorem dL_law_2021 : decode cL_law 2021 = .ok (.aload_n 3, 1) := by decide +kernel
theorem dL_law_2022 : decode cL_law 2022 = .ok (.invokestatic 286, 3) := by decide +kernel
theorem dL_law_2025 : decode cL_law 2025 = .ok (.istore 5, 2) := by decide +kernel
theorem dL_law_2027 : decode cL_law 2027 = .ok (.aload_n 2, 1) := by decide +kernel
theorem dL_law_2028 : decode cL_law 2028 = .ok (.aload_n 0, 1) := by decide +kernel
theorem dL_law_2029 : decode cL_law 2029 = .ok (.iload 4, 2) := by decide +kernel
theorem dL_law_2031 : decode cL_law 2031 = .ok (.iconst 1, 1) := by decide +kernel
theorem dL_law_2032 : decode cL_law 2032 = .ok (.iadd, 1) := by decide +kernel
theorem dL_law_2033 : decode cL_law 2033 = .ok (.iaload, 1) := by decide +kernel
theorem dL_law_2034 : decode cL_law 2034 = .ok (.invokevirtual 288, 3) := by decide +kernel
theorem dL_law_2037 : decode cL_law 2037 = .ok (.istore 6, 2) := by decide +kernel
theorem dL_law_2039 : decode cL_law 2039 = .ok (.goto 16, 3) := by decide +kernel
theorem dL_law_2042 : decode cL_law 2042 = .ok (.aload_n 1, 1) := by decide +kernel
theorem dL_law_2043 : decode cL_law 2043 = .ok (.invokevirtual 289, 3) := by decide +kernel
theorem dL_law_2046 : decode cL_law 2046 = .ok (.pop2, 1) := by decide +kernel
theorem dL_law_2047 : decode cL_law 2047 = .ok (.aload_n 2, 1) := by decide +kernel
theorem dL_law_2048 : decode cL_law 2048 = .ok (.invokevirtual 293, 3) := by decide +kernel
theorem dL_law_2051 : decode cL_law 2051 = .ok (.pop2, 1) := by decide +kernel
theorem dL_law_2052 : decode cL_law 2052 = .ok (.goto 3, 3) := by decide +kernel
theorem dL_law_2055 : decode cL_law 2055 = .ok (.iinc 4 6, 3) := by decide +kernel
theorem dL_law_2058 : decode cL_law 2058 = .ok (.goto (-2031), 3) := by decide +kernel
theorem dL_law_2061 : decode cL_law 2061 = .ok (.iconst 1, 1) := by decide +kernel
theorem dL_law_2062 : decode cL_law 2062 = .ok (.ireturn, 1) := by decide +kernel
