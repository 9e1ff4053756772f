/-! the law's bytecode, decoded -/
theorem dL_law_2965 : decode cL_law 2965 = .ok (.iconst 1, 1) := by decide +kernel
theorem dL_law_2966 : decode cL_law 2966 = .ok (.iadd, 1) := by decide +kernel
theorem dL_law_2967 : decode cL_law 2967 = .ok (.iaload, 1) := by decide +kernel
theorem dL_law_2968 : decode cL_law 2968 = .ok (.aload_n 3, 1) := by decide +kernel
theorem dL_law_2969 : decode cL_law 2969 = .ok (.invokestatic 291, 3) := by decide +kernel
theorem dL_law_2972 : decode cL_law 2972 = .ok (.istore 6, 2) := by decide +kernel
theorem dL_law_2974 : decode cL_law 2974 = .ok (.aload_n 2, 1) := by decide +kernel
theorem dL_law_2975 : decode cL_law 2975 = .ok (.aload_n 0, 1) := by decide +kernel
theorem dL_law_2976 : decode cL_law 2976 = .ok (.iload 5, 2) := by decide +kernel
theorem dL_law_2978 : decode cL_law 2978 = .ok (.iconst 1, 1) := by decide +kernel
theorem dL_law_2979 : decode cL_law 2979 = .ok (.iadd, 1) := by decide +kernel
theorem dL_law_2980 : decode cL_law 2980 = .ok (.iaload, 1) := by decide +kernel
theorem dL_law_2981 : decode cL_law 2981 = .ok (.invokevirtual 293, 3) := by decide +kernel
theorem dL_law_2984 : decode cL_law 2984 = .ok (.istore 7, 2) := by decide +kernel
theorem dL_law_2986 : decode cL_law 2986 = .ok (.aload_n 2, 1) := by decide +kernel
theorem dL_law_2987 : decode cL_law 2987 = .ok (.invokevirtual 150, 3) := by decide +kernel
theorem dL_law_2990 : decode cL_law 2990 = .ok (.iload 6, 2) := by decide +kernel
theorem dL_law_2992 : decode cL_law 2992 = .ok (.if_icmp .eq 5, 3) := by decide +kernel
theorem dL_law_2995 : decode cL_law 2995 = .ok (.iconst 0, 1) := by decide +kernel
theorem dL_law_2996 : decode cL_law 2996 = .ok (.ireturn, 1) := by decide +kernel
theorem dL_law_2997 : decode cL_law 2997 = .ok (.iload 6, 2) := by decide +kernel
theorem dL_law_2999 : decode cL_law 2999 = .ok (.ifCond .ne 15, 3) := by decide +kernel
theorem dL_law_3002 : decode cL_law 3002 = .ok (.aload_n 3, 1) := by decide +kernel
theorem dL_law_3003 : decode cL_law 3003 = .ok (.iconst 0, 1) := by decide +kernel
theorem dL_law_3004 : decode cL_law 3004 = .ok (.laload, 1) := by decide +kernel
theorem dL_law_3005 : decode cL_law 3005 = .ok (.iload 7, 2) := by decide +kernel
theorem dL_law_3007 : decode cL_law 3007 = .ok (.i2l, 1) := by decide +kernel
theorem dL_law_3008 : decode cL_law 3008 = .ok (.lcmp, 1) := by decide +kernel
theorem dL_law_3009 : decode cL_law 3009 = .ok (.ifCond .eq 5, 3) := by decide +kernel
theorem dL_law_3012 : decode cL_law 3012 = .ok (.iconst 0, 1) := by decide +kernel
theorem dL_law_3013 : decode cL_law 3013 = .ok (.ireturn, 1) := by decide +kernel
theorem dL_law_3014 : decode cL_law 3014 = .ok (.goto 3, 3) := by decide +kernel
theorem dL_law_3017 : decode cL_law 3017 = .ok (.iinc 5 6, 3) := by decide +kernel
theorem dL_law_3020 : decode cL_law 3020 = .ok (.goto (-2992), 3) := by decide +kernel
theorem dL_law_3023 : decode cL_law 3023 = .ok (.iconst 1, 1) := by decide +kernel
theorem dL_law_3024 : decode cL_law 3024 = .ok (.ireturn, 1) := by decide +kernel
