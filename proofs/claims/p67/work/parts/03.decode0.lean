theorem dX1_isCounter_0 : decode cX1_isCounter 0 = .ok (.aload_n 0, 1) := by decide +kernel
theorem dX1_isCounter_1 : decode cX1_isCounter 1 = .ok (.getstatic 46, 3) := by decide +kernel
theorem dX1_isCounter_4 : decode cX1_isCounter 4 = .ok (.if_acmp .eq 38, 3) := by decide +kernel
theorem dX1_isCounter_7 : decode cX1_isCounter 7 = .ok (.aload_n 0, 1) := by decide +kernel
theorem dX1_isCounter_8 : decode cX1_isCounter 8 = .ok (.getstatic 49, 3) := by decide +kernel
theorem dX1_isCounter_11 : decode cX1_isCounter 11 = .ok (.if_acmp .eq 31, 3) := by decide +kernel
theorem dX1_isCounter_14 : decode cX1_isCounter 14 = .ok (.aload_n 0, 1) := by decide +kernel
theorem dX1_isCounter_15 : decode cX1_isCounter 15 = .ok (.getstatic 52, 3) := by decide +kernel
theorem dX1_isCounter_18 : decode cX1_isCounter 18 = .ok (.if_acmp .eq 24, 3) := by decide +kernel
theorem dX1_isCounter_21 : decode cX1_isCounter 21 = .ok (.aload_n 0, 1) := by decide +kernel
theorem dX1_isCounter_22 : decode cX1_isCounter 22 = .ok (.getstatic 55, 3) := by decide +kernel
theorem dX1_isCounter_25 : decode cX1_isCounter 25 = .ok (.if_acmp .eq 17, 3) := by decide +kernel
theorem dX1_isCounter_28 : decode cX1_isCounter 28 = .ok (.aload_n 0, 1) := by decide +kernel
theorem dX1_isCounter_29 : decode cX1_isCounter 29 = .ok (.getstatic 58, 3) := by decide +kernel
theorem dX1_isCounter_32 : decode cX1_isCounter 32 = .ok (.if_acmp .eq 10, 3) := by decide +kernel
theorem dX1_isCounter_35 : decode cX1_isCounter 35 = .ok (.aload_n 0, 1) := by decide +kernel
theorem dX1_isCounter_36 : decode cX1_isCounter 36 = .ok (.getstatic 61, 3) := by decide +kernel
theorem dX1_isCounter_39 : decode cX1_isCounter 39 = .ok (.if_acmp .ne 7, 3) := by decide +kernel
theorem dX1_isCounter_42 : decode cX1_isCounter 42 = .ok (.iconst 1, 1) := by decide +kernel
theorem dX1_isCounter_43 : decode cX1_isCounter 43 = .ok (.goto 4, 3) := by decide +kernel
theorem dX1_isCounter_46 : decode cX1_isCounter 46 = .ok (.iconst 0, 1) := by decide +kernel
theorem dX1_isCounter_47 : decode cX1_isCounter 47 = .ok (.ireturn, 1) := by decide +kernel
theorem dX2_init_0 : decode cX2_init 0 = .ok (.aload_n 0, 1) := by decide +kernel
theorem dX2_init_1 : decode cX2_init 1 = .ok (.invokespecial 3, 3) := by decide +kernel
theorem dX2_init_4 : decode cX2_init 4 = .ok (.aload_n 0, 1) := by decide +kernel
theorem dX2_init_5 : decode cX2_init 5 = .ok (.sipush 501, 3) := by decide +kernel
theorem dX2_init_8 : decode cX2_init 8 = .ok (.anewarray 11, 3) := by decide +kernel
theorem dX2_init_11 : decode cX2_init 11 = .ok (.putfield 13, 3) := by decide +kernel
theorem dX2_init_14 : decode cX2_init 14 = .ok (.aload_n 0, 1) := by decide +kernel
theorem dX2_init_15 : decode cX2_init 15 = .ok (.sipush 501, 3) := by decide +kernel
theorem dX2_init_18 : decode cX2_init 18 = .ok (.newarray .int, 2) := by decide +kernel
theorem dX2_init_20 : decode cX2_init 20 = .ok (.putfield 17, 3) := by decide +kernel
theorem dX2_init_23 : decode cX2_init 23 = .ok (.aload_n 0, 1) := by decide +kernel
theorem dX2_init_24 : decode cX2_init 24 = .ok (.sipush 501, 3) := by decide +kernel
theorem dX2_init_27 : decode cX2_init 27 = .ok (.newarray .int, 2) := by decide +kernel
theorem dX2_init_29 : decode cX2_init 29 = .ok (.putfield 21, 3) := by decide +kernel
theorem dX2_init_32 : decode cX2_init 32 = .ok (.aload_n 0, 1) := by decide +kernel
theorem dX2_init_33 : decode cX2_init 33 = .ok (.iconst 0, 1) := by decide +kernel
theorem dX2_init_34 : decode cX2_init 34 = .ok (.putfield 24, 3) := by decide +kernel
theorem dX2_init_37 : decode cX2_init 37 = .ok (.aload_n 0, 1) := by decide +kernel
theorem dX2_init_38 : decode cX2_init 38 = .ok (.iconst 0, 1) := by decide +kernel
theorem dX2_init_39 : decode cX2_init 39 = .ok (.putfield 28, 3) := by decide +kernel
theorem dX2_init_42 : decode cX2_init 42 = .ok (.aload_n 0, 1) := by decide +kernel
theorem dX2_init_43 : decode cX2_init 43 = .ok (.iconst 0, 1) := by decide +kernel
theorem dX2_init_44 : decode cX2_init 44 = .ok (.putfield 31, 3) := by decide +kernel
theorem dX2_init_47 : decode cX2_init 47 = .ok (.aload_n 0, 1) := by decide +kernel
theorem dX2_init_48 : decode cX2_init 48 = .ok (.iconst 0, 1) := by decide +kernel
theorem dX2_init_49 : decode cX2_init 49 = .ok (.putfield 34, 3) := by decide +kernel
theorem dX2_init_52 : decode cX2_init 52 = .ok (.aload_n 0, 1) := by decide +kernel
theorem dX2_init_53 : decode cX2_init 53 = .ok (.iconst (-1), 1) := by decide +kernel
theorem dX2_init_54 : decode cX2_init 54 = .ok (.putfield 37, 3) := by decide +kernel
theorem dX2_init_57 : decode cX2_init 57 = .ok (.return_, 1) := by decide +kernel
theorem dX2_readTokens_0 : decode cX2_readTokens 0 = .ok (.aload_n 0, 1) := by decide +kernel
theorem dX2_readTokens_1 : decode cX2_readTokens 1 = .ok (.iconst 0, 1) := by decide +kernel
theorem dX2_readTokens_2 : decode cX2_readTokens 2 = .ok (.putfield 24, 3) := by decide +kernel
theorem dX2_readTokens_5 : decode cX2_readTokens 5 = .ok (.iconst 0, 1) := by decide +kernel
theorem dX2_readTokens_6 : decode cX2_readTokens 6 = .ok (.istore_n 3, 1) := by decide +kernel
theorem dX2_readTokens_7 : decode cX2_readTokens 7 = .ok (.iload_n 3, 1) := by decide +kernel
theorem dX2_readTokens_8 : decode cX2_readTokens 8 = .ok (.iload_n 2, 1) := by decide +kernel
theorem dX2_readTokens_9 : decode cX2_readTokens 9 = .ok (.if_icmp .ge 92, 3) := by decide +kernel
theorem dX2_readTokens_12 : decode cX2_readTokens 12 = .ok (.iload_n 3, 1) := by decide +kernel
theorem dX2_readTokens_13 : decode cX2_readTokens 13 = .ok (.istore 4, 2) := by decide +kernel
theorem dX2_readTokens_15 : decode cX2_readTokens 15 = .ok (.iinc 3 1, 3) := by decide +kernel
theorem dX2_readTokens_18 : decode cX2_readTokens 18 = .ok (.aload_n 1, 1) := by decide +kernel
theorem dX2_readTokens_19 : decode cX2_readTokens 19 = .ok (.iload 4, 2) := by decide +kernel
theorem dX2_readTokens_21 : decode cX2_readTokens 21 = .ok (.baload, 1) := by decide +kernel
theorem dX2_readTokens_22 : decode cX2_readTokens 22 = .ok (.invokestatic 40, 3) := by decide +kernel
theorem dX2_readTokens_25 : decode cX2_readTokens 25 = .ok (.ifCond .eq 6, 3) := by decide +kernel
theorem dX2_readTokens_28 : decode cX2_readTokens 28 = .ok (.goto (-21), 3) := by decide +kernel
theorem dX2_readTokens_31 : decode cX2_readTokens 31 = .ok (.iload_n 3, 1) := by decide +kernel
theorem dX2_readTokens_32 : decode cX2_readTokens 32 = .ok (.iload_n 2, 1) := by decide +kernel
theorem dX2_readTokens_33 : decode cX2_readTokens 33 = .ok (.if_icmp .ge 22, 3) := by decide +kernel
theorem dX2_readTokens_36 : decode cX2_readTokens 36 = .ok (.aload_n 1, 1) := by decide +kernel
theorem dX2_readTokens_37 : decode cX2_readTokens 37 = .ok (.iload 4, 2) := by decide +kernel
theorem dX2_readTokens_39 : decode cX2_readTokens 39 = .ok (.baload, 1) := by decide +kernel
theorem dX2_readTokens_40 : decode cX2_readTokens 40 = .ok (.aload_n 1, 1) := by decide +kernel
theorem dX2_readTokens_41 : decode cX2_readTokens 41 = .ok (.iload_n 3, 1) := by decide +kernel
theorem dX2_readTokens_42 : decode cX2_readTokens 42 = .ok (.baload, 1) := by decide +kernel
theorem dX2_readTokens_43 : decode cX2_readTokens 43 = .ok (.invokestatic 44, 3) := by decide +kernel
theorem dX2_readTokens_46 : decode cX2_readTokens 46 = .ok (.ifCond .eq 9, 3) := by decide +kernel
theorem dX2_readTokens_49 : decode cX2_readTokens 49 = .ok (.iinc 3 1, 3) := by decide +kernel
theorem dX2_readTokens_52 : decode cX2_readTokens 52 = .ok (.goto (-21), 3) := by decide +kernel
theorem dX2_readTokens_55 : decode cX2_readTokens 55 = .ok (.aload_n 1, 1) := by decide +kernel
theorem dX2_readTokens_56 : decode cX2_readTokens 56 = .ok (.iload 4, 2) := by decide +kernel
theorem dX2_readTokens_58 : decode cX2_readTokens 58 = .ok (.baload, 1) := by decide +kernel
theorem dX2_readTokens_59 : decode cX2_readTokens 59 = .ok (.invokestatic 48, 3) := by decide +kernel
theorem dX2_readTokens_62 : decode cX2_readTokens 62 = .ok (.ifCond .eq 22, 3) := by decide +kernel
theorem dX2_readTokens_65 : decode cX2_readTokens 65 = .ok (.aload_n 0, 1) := by decide +kernel
theorem dX2_readTokens_66 : decode cX2_readTokens 66 = .ok (.getstatic 51, 3) := by decide +kernel
theorem dX2_readTokens_69 : decode cX2_readTokens 69 = .ok (.iload 4, 2) := by decide +kernel
theorem dX2_readTokens_71 : decode cX2_readTokens 71 = .ok (.aload_n 1, 1) := by decide +kernel
theorem dX2_readTokens_72 : decode cX2_readTokens 72 = .ok (.iload 4, 2) := by decide +kernel
theorem dX2_readTokens_74 : decode cX2_readTokens 74 = .ok (.iload_n 3, 1) := by decide +kernel
theorem dX2_readTokens_75 : decode cX2_readTokens 75 = .ok (.invokestatic 55, 3) := by decide +kernel
theorem dX2_readTokens_78 : decode cX2_readTokens 78 = .ok (.invokevirtual 59, 3) := by decide +kernel
theorem dX2_readTokens_81 : decode cX2_readTokens 81 = .ok (.goto 17, 3) := by decide +kernel
theorem dX2_readTokens_84 : decode cX2_readTokens 84 = .ok (.aload_n 0, 1) := by decide +kernel
theorem dX2_readTokens_85 : decode cX2_readTokens 85 = .ok (.aload_n 1, 1) := by decide +kernel
theorem dX2_readTokens_86 : decode cX2_readTokens 86 = .ok (.iload 4, 2) := by decide +kernel
theorem dX2_readTokens_88 : decode cX2_readTokens 88 = .ok (.iload_n 3, 1) := by decide +kernel
theorem dX2_readTokens_89 : decode cX2_readTokens 89 = .ok (.invokestatic 63, 3) := by decide +kernel
theorem dX2_readTokens_92 : decode cX2_readTokens 92 = .ok (.iload 4, 2) := by decide +kernel
theorem dX2_readTokens_94 : decode cX2_readTokens 94 = .ok (.iconst 0, 1) := by decide +kernel
theorem dX2_readTokens_95 : decode cX2_readTokens 95 = .ok (.invokevirtual 59, 3) := by decide +kernel
theorem dX2_readTokens_98 : decode cX2_readTokens 98 = .ok (.goto (-91), 3) := by decide +kernel
theorem dX2_readTokens_101 : decode cX2_readTokens 101 = .ok (.aload_n 0, 1) := by decide +kernel
theorem dX2_readTokens_102 : decode cX2_readTokens 102 = .ok (.getstatic 67, 3) := by decide +kernel
theorem dX2_readTokens_105 : decode cX2_readTokens 105 = .ok (.iload_n 2, 1) := by decide +kernel
theorem dX2_readTokens_106 : decode cX2_readTokens 106 = .ok (.iconst 0, 1) := by decide +kernel
theorem dX2_readTokens_107 : decode cX2_readTokens 107 = .ok (.invokevirtual 59, 3) := by decide +kernel
theorem dX2_readTokens_110 : decode cX2_readTokens 110 = .ok (.aload_n 0, 1) := by decide +kernel
theorem dX2_readTokens_111 : decode cX2_readTokens 111 = .ok (.iconst 0, 1) := by decide +kernel
theorem dX2_readTokens_112 : decode cX2_readTokens 112 = .ok (.putfield 28, 3) := by decide +kernel
theorem dX2_readTokens_115 : decode cX2_readTokens 115 = .ok (.aload_n 0, 1) := by decide +kernel
theorem dX2_readTokens_116 : decode cX2_readTokens 116 = .ok (.iconst 0, 1) := by decide +kernel
theorem dX2_readTokens_117 : decode cX2_readTokens 117 = .ok (.putfield 31, 3) := by decide +kernel
theorem dX2_readTokens_120 : decode cX2_readTokens 120 = .ok (.aload_n 0, 1) := by decide +kernel
theorem dX2_readTokens_121 : decode cX2_readTokens 121 = .ok (.iconst 0, 1) := by decide +kernel
theorem dX2_readTokens_122 : decode cX2_readTokens 122 = .ok (.putfield 34, 3) := by decide +kernel
theorem dX2_readTokens_125 : decode cX2_readTokens 125 = .ok (.aload_n 0, 1) := by decide +kernel
theorem dX2_readTokens_126 : decode cX2_readTokens 126 = .ok (.iconst (-1), 1) := by decide +kernel
theorem dX2_readTokens_127 : decode cX2_readTokens 127 = .ok (.putfield 37, 3) := by decide +kernel
theorem dX2_readTokens_130 : decode cX2_readTokens 130 = .ok (.return_, 1) := by decide +kernel
theorem dX2_addToken_0 : decode cX2_addToken 0 = .ok (.aload_n 0, 1) := by decide +kernel
theorem dX2_addToken_1 : decode cX2_addToken 1 = .ok (.getfield 24, 3) := by decide +kernel
theorem dX2_addToken_4 : decode cX2_addToken 4 = .ok (.sipush 501, 3) := by decide +kernel
theorem dX2_addToken_7 : decode cX2_addToken 7 = .ok (.if_icmp .ge 43, 3) := by decide +kernel
theorem dX2_addToken_10 : decode cX2_addToken 10 = .ok (.aload_n 0, 1) := by decide +kernel
theorem dX2_addToken_11 : decode cX2_addToken 11 = .ok (.getfield 13, 3) := by decide +kernel
theorem dX2_addToken_14 : decode cX2_addToken 14 = .ok (.aload_n 0, 1) := by decide +kernel
theorem dX2_addToken_15 : decode cX2_addToken 15 = .ok (.getfield 24, 3) := by decide +kernel
theorem dX2_addToken_18 : decode cX2_addToken 18 = .ok (.aload_n 1, 1) := by decide +kernel
theorem dX2_addToken_19 : decode cX2_addToken 19 = .ok (.aastore, 1) := by decide +kernel
theorem dX2_addToken_20 : decode cX2_addToken 20 = .ok (.aload_n 0, 1) := by decide +kernel
theorem dX2_addToken_21 : decode cX2_addToken 21 = .ok (.getfield 17, 3) := by decide +kernel
theorem dX2_addToken_24 : decode cX2_addToken 24 = .ok (.aload_n 0, 1) := by decide +kernel
theorem dX2_addToken_25 : decode cX2_addToken 25 = .ok (.getfield 24, 3) := by decide +kernel
theorem dX2_addToken_28 : decode cX2_addToken 28 = .ok (.iload_n 2, 1) := by decide +kernel
theorem dX2_addToken_29 : decode cX2_addToken 29 = .ok (.iastore, 1) := by decide +kernel
theorem dX2_addToken_30 : decode cX2_addToken 30 = .ok (.aload_n 0, 1) := by decide +kernel
theorem dX2_addToken_31 : decode cX2_addToken 31 = .ok (.getfield 21, 3) := by decide +kernel
theorem dX2_addToken_34 : decode cX2_addToken 34 = .ok (.aload_n 0, 1) := by decide +kernel
theorem dX2_addToken_35 : decode cX2_addToken 35 = .ok (.getfield 24, 3) := by decide +kernel
theorem dX2_addToken_38 : decode cX2_addToken 38 = .ok (.iload_n 3, 1) := by decide +kernel
theorem dX2_addToken_39 : decode cX2_addToken 39 = .ok (.iastore, 1) := by decide +kernel
theorem dX2_addToken_40 : decode cX2_addToken 40 = .ok (.aload_n 0, 1) := by decide +kernel
theorem dX2_addToken_41 : decode cX2_addToken 41 = .ok (.dup, 1) := by decide +kernel
theorem dX2_addToken_42 : decode cX2_addToken 42 = .ok (.getfield 24, 3) := by decide +kernel
theorem dX2_addToken_45 : decode cX2_addToken 45 = .ok (.iconst 1, 1) := by decide +kernel
theorem dX2_addToken_46 : decode cX2_addToken 46 = .ok (.iadd, 1) := by decide +kernel
theorem dX2_addToken_47 : decode cX2_addToken 47 = .ok (.putfield 24, 3) := by decide +kernel
theorem dX2_addToken_50 : decode cX2_addToken 50 = .ok (.return_, 1) := by decide +kernel
theorem dX2_isSpace_0 : decode cX2_isSpace 0 = .ok (.iload_n 0, 1) := by decide +kernel
theorem dX2_isSpace_1 : decode cX2_isSpace 1 = .ok (.bipush 32, 2) := by decide +kernel
theorem dX2_isSpace_3 : decode cX2_isSpace 3 = .ok (.if_icmp .eq 15, 3) := by decide +kernel
theorem dX2_isSpace_6 : decode cX2_isSpace 6 = .ok (.iload_n 0, 1) := by decide +kernel
theorem dX2_isSpace_7 : decode cX2_isSpace 7 = .ok (.bipush 9, 2) := by decide +kernel
theorem dX2_isSpace_9 : decode cX2_isSpace 9 = .ok (.if_icmp .eq 9, 3) := by decide +kernel
theorem dX2_isSpace_12 : decode cX2_isSpace 12 = .ok (.iload_n 0, 1) := by decide +kernel
theorem dX2_isSpace_13 : decode cX2_isSpace 13 = .ok (.bipush 10, 2) := by decide +kernel
theorem dX2_isSpace_15 : decode cX2_isSpace 15 = .ok (.if_icmp .ne 7, 3) := by decide +kernel
theorem dX2_isSpace_18 : decode cX2_isSpace 18 = .ok (.iconst 1, 1) := by decide +kernel
theorem dX2_isSpace_19 : decode cX2_isSpace 19 = .ok (.goto 4, 3) := by decide +kernel
theorem dX2_isSpace_22 : decode cX2_isSpace 22 = .ok (.iconst 0, 1) := by decide +kernel
theorem dX2_isSpace_23 : decode cX2_isSpace 23 = .ok (.ireturn, 1) := by decide +kernel
theorem dX2_isDigit_0 : decode cX2_isDigit 0 = .ok (.iload_n 0, 1) := by decide +kernel
theorem dX2_isDigit_1 : decode cX2_isDigit 1 = .ok (.bipush 48, 2) := by decide +kernel
theorem dX2_isDigit_3 : decode cX2_isDigit 3 = .ok (.if_icmp .lt 13, 3) := by decide +kernel
theorem dX2_isDigit_6 : decode cX2_isDigit 6 = .ok (.iload_n 0, 1) := by decide +kernel
theorem dX2_isDigit_7 : decode cX2_isDigit 7 = .ok (.bipush 57, 2) := by decide +kernel
theorem dX2_isDigit_9 : decode cX2_isDigit 9 = .ok (.if_icmp .gt 7, 3) := by decide +kernel
theorem dX2_isDigit_12 : decode cX2_isDigit 12 = .ok (.iconst 1, 1) := by decide +kernel
theorem dX2_isDigit_13 : decode cX2_isDigit 13 = .ok (.goto 4, 3) := by decide +kernel
theorem dX2_isDigit_16 : decode cX2_isDigit 16 = .ok (.iconst 0, 1) := by decide +kernel
theorem dX2_isDigit_17 : decode cX2_isDigit 17 = .ok (.ireturn, 1) := by decide +kernel
theorem dX2_isLetter_0 : decode cX2_isLetter 0 = .ok (.iload_n 0, 1) := by decide +kernel
theorem dX2_isLetter_1 : decode cX2_isLetter 1 = .ok (.bipush 97, 2) := by decide +kernel
theorem dX2_isLetter_3 : decode cX2_isLetter 3 = .ok (.if_icmp .lt 13, 3) := by decide +kernel
theorem dX2_isLetter_6 : decode cX2_isLetter 6 = .ok (.iload_n 0, 1) := by decide +kernel
theorem dX2_isLetter_7 : decode cX2_isLetter 7 = .ok (.bipush 122, 2) := by decide +kernel
theorem dX2_isLetter_9 : decode cX2_isLetter 9 = .ok (.if_icmp .gt 7, 3) := by decide +kernel
theorem dX2_isLetter_12 : decode cX2_isLetter 12 = .ok (.iconst 1, 1) := by decide +kernel
theorem dX2_isLetter_13 : decode cX2_isLetter 13 = .ok (.goto 4, 3) := by decide +kernel
theorem dX2_isLetter_16 : decode cX2_isLetter 16 = .ok (.iconst 0, 1) := by decide +kernel
theorem dX2_isLetter_17 : decode cX2_isLetter 17 = .ok (.ireturn, 1) := by decide +kernel
theorem dX2_belongTogether_0 : decode cX2_belongTogether 0 = .ok (.iload_n 0, 1) := by decide +kernel
theorem dX2_belongTogether_1 : decode cX2_belongTogether 1 = .ok (.invokestatic 70, 3) := by decide +kernel
theorem dX2_belongTogether_4 : decode cX2_belongTogether 4 = .ok (.ifCond .eq 10, 3) := by decide +kernel
theorem dX2_belongTogether_7 : decode cX2_belongTogether 7 = .ok (.iload_n 1, 1) := by decide +kernel
theorem dX2_belongTogether_8 : decode cX2_belongTogether 8 = .ok (.invokestatic 70, 3) := by decide +kernel
theorem dX2_belongTogether_11 : decode cX2_belongTogether 11 = .ok (.ifCond .ne 17, 3) := by decide +kernel
theorem dX2_belongTogether_14 : decode cX2_belongTogether 14 = .ok (.iload_n 0, 1) := by decide +kernel
theorem dX2_belongTogether_15 : decode cX2_belongTogether 15 = .ok (.invokestatic 48, 3) := by decide +kernel
theorem dX2_belongTogether_18 : decode cX2_belongTogether 18 = .ok (.ifCond .eq 14, 3) := by decide +kernel
theorem dX2_belongTogether_21 : decode cX2_belongTogether 21 = .ok (.iload_n 1, 1) := by decide +kernel
theorem dX2_belongTogether_22 : decode cX2_belongTogether 22 = .ok (.invokestatic 48, 3) := by decide +kernel
theorem dX2_belongTogether_25 : decode cX2_belongTogether 25 = .ok (.ifCond .eq 7, 3) := by decide +kernel
theorem dX2_belongTogether_28 : decode cX2_belongTogether 28 = .ok (.iconst 1, 1) := by decide +kernel
theorem dX2_belongTogether_29 : decode cX2_belongTogether 29 = .ok (.goto 4, 3) := by decide +kernel
theorem dX2_belongTogether_32 : decode cX2_belongTogether 32 = .ok (.iconst 0, 1) := by decide +kernel
theorem dX2_belongTogether_33 : decode cX2_belongTogether 33 = .ok (.ireturn, 1) := by decide +kernel
theorem dX2_numberOf_0 : decode cX2_numberOf 0 = .ok (.iload_n 2, 1) := by decide +kernel
theorem dX2_numberOf_1 : decode cX2_numberOf 1 = .ok (.iload_n 1, 1) := by decide +kernel
theorem dX2_numberOf_2 : decode cX2_numberOf 2 = .ok (.isub, 1) := by decide +kernel
theorem dX2_numberOf_3 : decode cX2_numberOf 3 = .ok (.iconst 3, 1) := by decide +kernel
theorem dX2_numberOf_4 : decode cX2_numberOf 4 = .ok (.if_icmp .le 7, 3) := by decide +kernel
theorem dX2_numberOf_7 : decode cX2_numberOf 7 = .ok (.sipush 1000, 3) := by decide +kernel
theorem dX2_numberOf_10 : decode cX2_numberOf 10 = .ok (.ireturn, 1) := by decide +kernel
theorem dX2_numberOf_11 : decode cX2_numberOf 11 = .ok (.iconst 0, 1) := by decide +kernel
theorem dX2_numberOf_12 : decode cX2_numberOf 12 = .ok (.istore_n 3, 1) := by decide +kernel
theorem dX2_numberOf_13 : decode cX2_numberOf 13 = .ok (.iload_n 1, 1) := by decide +kernel
theorem dX2_numberOf_14 : decode cX2_numberOf 14 = .ok (.istore 4, 2) := by decide +kernel
theorem dX2_numberOf_16 : decode cX2_numberOf 16 = .ok (.iload 4, 2) := by decide +kernel
theorem dX2_numberOf_18 : decode cX2_numberOf 18 = .ok (.iload_n 2, 1) := by decide +kernel
theorem dX2_numberOf_19 : decode cX2_numberOf 19 = .ok (.if_icmp .ge 22, 3) := by decide +kernel
theorem dX2_numberOf_22 : decode cX2_numberOf 22 = .ok (.iload_n 3, 1) := by decide +kernel
theorem dX2_numberOf_23 : decode cX2_numberOf 23 = .ok (.bipush 10, 2) := by decide +kernel
theorem dX2_numberOf_25 : decode cX2_numberOf 25 = .ok (.imul, 1) := by decide +kernel
theorem dX2_numberOf_26 : decode cX2_numberOf 26 = .ok (.aload_n 0, 1) := by decide +kernel
theorem dX2_numberOf_27 : decode cX2_numberOf 27 = .ok (.iload 4, 2) := by decide +kernel
theorem dX2_numberOf_29 : decode cX2_numberOf 29 = .ok (.baload, 1) := by decide +kernel
theorem dX2_numberOf_30 : decode cX2_numberOf 30 = .ok (.iadd, 1) := by decide +kernel
theorem dX2_numberOf_31 : decode cX2_numberOf 31 = .ok (.bipush 48, 2) := by decide +kernel
theorem dX2_numberOf_33 : decode cX2_numberOf 33 = .ok (.isub, 1) := by decide +kernel
theorem dX2_numberOf_34 : decode cX2_numberOf 34 = .ok (.istore_n 3, 1) := by decide +kernel
theorem dX2_numberOf_35 : decode cX2_numberOf 35 = .ok (.iinc 4 1, 3) := by decide +kernel
theorem dX2_numberOf_38 : decode cX2_numberOf 38 = .ok (.goto (-22), 3) := by decide +kernel
theorem dX2_numberOf_41 : decode cX2_numberOf 41 = .ok (.iload_n 3, 1) := by decide +kernel
theorem dX2_numberOf_42 : decode cX2_numberOf 42 = .ok (.ireturn, 1) := by decide +kernel
theorem dX2_kindOf_0 : decode cX2_kindOf 0 = .ok (.getstatic 73, 3) := by decide +kernel
theorem dX2_kindOf_3 : decode cX2_kindOf 3 = .ok (.astore_n 3, 1) := by decide +kernel
theorem dX2_kindOf_4 : decode cX2_kindOf 4 = .ok (.aload_n 3, 1) := by decide +kernel
theorem dX2_kindOf_5 : decode cX2_kindOf 5 = .ok (.arraylength, 1) := by decide +kernel
theorem dX2_kindOf_6 : decode cX2_kindOf 6 = .ok (.istore 4, 2) := by decide +kernel
theorem dX2_kindOf_8 : decode cX2_kindOf 8 = .ok (.iconst 0, 1) := by decide +kernel
theorem dX2_kindOf_9 : decode cX2_kindOf 9 = .ok (.istore 5, 2) := by decide +kernel
theorem dX2_kindOf_11 : decode cX2_kindOf 11 = .ok (.iload 5, 2) := by decide +kernel
theorem dX2_kindOf_13 : decode cX2_kindOf 13 = .ok (.iload 4, 2) := by decide +kernel
theorem dX2_kindOf_15 : decode cX2_kindOf 15 = .ok (.if_icmp .ge 32, 3) := by decide +kernel
theorem dX2_kindOf_18 : decode cX2_kindOf 18 = .ok (.aload_n 3, 1) := by decide +kernel
theorem dX2_kindOf_19 : decode cX2_kindOf 19 = .ok (.iload 5, 2) := by decide +kernel
theorem dX2_kindOf_21 : decode cX2_kindOf 21 = .ok (.aaload, 1) := by decide +kernel
theorem dX2_kindOf_22 : decode cX2_kindOf 22 = .ok (.astore 6, 2) := by decide +kernel
theorem dX2_kindOf_24 : decode cX2_kindOf 24 = .ok (.aload 6, 2) := by decide +kernel
theorem dX2_kindOf_26 : decode cX2_kindOf 26 = .ok (.getfield 76, 3) := by decide +kernel
theorem dX2_kindOf_29 : decode cX2_kindOf 29 = .ok (.aload_n 0, 1) := by decide +kernel
theorem dX2_kindOf_30 : decode cX2_kindOf 30 = .ok (.iload_n 1, 1) := by decide +kernel
theorem dX2_kindOf_31 : decode cX2_kindOf 31 = .ok (.iload_n 2, 1) := by decide +kernel
theorem dX2_kindOf_32 : decode cX2_kindOf 32 = .ok (.invokestatic 80, 3) := by decide +kernel
theorem dX2_kindOf_35 : decode cX2_kindOf 35 = .ok (.ifCond .eq 6, 3) := by decide +kernel
theorem dX2_kindOf_38 : decode cX2_kindOf 38 = .ok (.aload 6, 2) := by decide +kernel
theorem dX2_kindOf_40 : decode cX2_kindOf 40 = .ok (.areturn, 1) := by decide +kernel
theorem dX2_kindOf_41 : decode cX2_kindOf 41 = .ok (.iinc 5 1, 3) := by decide +kernel
theorem dX2_kindOf_44 : decode cX2_kindOf 44 = .ok (.goto (-33), 3) := by decide +kernel
theorem dX2_kindOf_47 : decode cX2_kindOf 47 = .ok (.getstatic 84, 3) := by decide +kernel
theorem dX2_kindOf_50 : decode cX2_kindOf 50 = .ok (.areturn, 1) := by decide +kernel
theorem dX2_isText_0 : decode cX2_isText 0 = .ok (.aload_n 0, 1) := by decide +kernel
theorem dX2_isText_1 : decode cX2_isText 1 = .ok (.invokevirtual 87, 3) := by decide +kernel
theorem dX2_isText_4 : decode cX2_isText 4 = .ok (.iload_n 3, 1) := by decide +kernel
theorem dX2_isText_5 : decode cX2_isText 5 = .ok (.iload_n 2, 1) := by decide +kernel
theorem dX2_isText_6 : decode cX2_isText 6 = .ok (.isub, 1) := by decide +kernel
theorem dX2_isText_7 : decode cX2_isText 7 = .ok (.if_icmp .eq 5, 3) := by decide +kernel
theorem dX2_isText_10 : decode cX2_isText 10 = .ok (.iconst 0, 1) := by decide +kernel
theorem dX2_isText_11 : decode cX2_isText 11 = .ok (.ireturn, 1) := by decide +kernel
theorem dX2_isText_12 : decode cX2_isText 12 = .ok (.iload_n 2, 1) := by decide +kernel
theorem dX2_isText_13 : decode cX2_isText 13 = .ok (.istore 4, 2) := by decide +kernel
theorem dX2_isText_15 : decode cX2_isText 15 = .ok (.iload 4, 2) := by decide +kernel
theorem dX2_isText_17 : decode cX2_isText 17 = .ok (.iload_n 3, 1) := by decide +kernel
theorem dX2_isText_18 : decode cX2_isText 18 = .ok (.if_icmp .ge 26, 3) := by decide +kernel
theorem dX2_isText_21 : decode cX2_isText 21 = .ok (.aload_n 0, 1) := by decide +kernel
theorem dX2_isText_22 : decode cX2_isText 22 = .ok (.iload 4, 2) := by decide +kernel
theorem dX2_isText_24 : decode cX2_isText 24 = .ok (.iload_n 2, 1) := by decide +kernel
theorem dX2_isText_25 : decode cX2_isText 25 = .ok (.isub, 1) := by decide +kernel
theorem dX2_isText_26 : decode cX2_isText 26 = .ok (.invokevirtual 93, 3) := by decide +kernel
theorem dX2_isText_29 : decode cX2_isText 29 = .ok (.aload_n 1, 1) := by decide +kernel
theorem dX2_isText_30 : decode cX2_isText 30 = .ok (.iload 4, 2) := by decide +kernel
theorem dX2_isText_32 : decode cX2_isText 32 = .ok (.baload, 1) := by decide +kernel
theorem dX2_isText_33 : decode cX2_isText 33 = .ok (.if_icmp .eq 5, 3) := by decide +kernel
theorem dX2_isText_36 : decode cX2_isText 36 = .ok (.iconst 0, 1) := by decide +kernel
theorem dX2_isText_37 : decode cX2_isText 37 = .ok (.ireturn, 1) := by decide +kernel
theorem dX2_isText_38 : decode cX2_isText 38 = .ok (.iinc 4 1, 3) := by decide +kernel
theorem dX2_isText_41 : decode cX2_isText 41 = .ok (.goto (-26), 3) := by decide +kernel
theorem dX2_isText_44 : decode cX2_isText 44 = .ok (.iconst 1, 1) := by decide +kernel
theorem dX2_isText_45 : decode cX2_isText 45 = .ok (.ireturn, 1) := by decide +kernel
theorem dX2_performHeader_0 : decode cX2_performHeader 0 = .ok (.aload_n 0, 1) := by decide +kernel
theorem dX2_performHeader_1 : decode cX2_performHeader 1 = .ok (.getstatic 97, 3) := by decide +kernel
theorem dX2_performHeader_4 : decode cX2_performHeader 4 = .ok (.invokevirtual 100, 3) := by decide +kernel
theorem dX2_performHeader_7 : decode cX2_performHeader 7 = .ok (.ifCond .ne 5, 3) := by decide +kernel
theorem dX2_performHeader_10 : decode cX2_performHeader 10 = .ok (.iconst 0, 1) := by decide +kernel
theorem dX2_performHeader_11 : decode cX2_performHeader 11 = .ok (.ireturn, 1) := by decide +kernel
theorem dX2_performHeader_12 : decode cX2_performHeader 12 = .ok (.aload_n 0, 1) := by decide +kernel
theorem dX2_performHeader_13 : decode cX2_performHeader 13 = .ok (.iconst 2, 1) := by decide +kernel
theorem dX2_performHeader_14 : decode cX2_performHeader 14 = .ok (.bipush 20, 2) := by decide +kernel
theorem dX2_performHeader_16 : decode cX2_performHeader 16 = .ok (.invokevirtual 104, 3) := by decide +kernel
theorem dX2_performHeader_19 : decode cX2_performHeader 19 = .ok (.istore_n 2, 1) := by decide +kernel
theorem dX2_performHeader_20 : decode cX2_performHeader 20 = .ok (.iload_n 2, 1) := by decide +kernel
theorem dX2_performHeader_21 : decode cX2_performHeader 21 = .ok (.iconst (-1), 1) := by decide +kernel
theorem dX2_performHeader_22 : decode cX2_performHeader 22 = .ok (.if_icmp .ne 5, 3) := by decide +kernel
theorem dX2_performHeader_25 : decode cX2_performHeader 25 = .ok (.iconst 0, 1) := by decide +kernel
theorem dX2_performHeader_26 : decode cX2_performHeader 26 = .ok (.ireturn, 1) := by decide +kernel
theorem dX2_performHeader_27 : decode cX2_performHeader 27 = .ok (.aload_n 0, 1) := by decide +kernel
theorem dX2_performHeader_28 : decode cX2_performHeader 28 = .ok (.iconst 1, 1) := by decide +kernel
theorem dX2_performHeader_29 : decode cX2_performHeader 29 = .ok (.bipush 8, 2) := by decide +kernel
theorem dX2_performHeader_31 : decode cX2_performHeader 31 = .ok (.invokevirtual 104, 3) := by decide +kernel
theorem dX2_performHeader_34 : decode cX2_performHeader 34 = .ok (.istore_n 3, 1) := by decide +kernel
theorem dX2_performHeader_35 : decode cX2_performHeader 35 = .ok (.iload_n 3, 1) := by decide +kernel
theorem dX2_performHeader_36 : decode cX2_performHeader 36 = .ok (.iconst (-1), 1) := by decide +kernel
theorem dX2_performHeader_37 : decode cX2_performHeader 37 = .ok (.if_icmp .ne 5, 3) := by decide +kernel
theorem dX2_performHeader_40 : decode cX2_performHeader 40 = .ok (.iconst 0, 1) := by decide +kernel
theorem dX2_performHeader_41 : decode cX2_performHeader 41 = .ok (.ireturn, 1) := by decide +kernel
theorem dX2_performHeader_42 : decode cX2_performHeader 42 = .ok (.aload_n 0, 1) := by decide +kernel
theorem dX2_performHeader_43 : decode cX2_performHeader 43 = .ok (.invokevirtual 108, 3) := by decide +kernel
theorem dX2_performHeader_46 : decode cX2_performHeader 46 = .ok (.istore 4, 2) := by decide +kernel
theorem dX2_performHeader_48 : decode cX2_performHeader 48 = .ok (.iload 4, 2) := by decide +kernel
theorem dX2_performHeader_50 : decode cX2_performHeader 50 = .ok (.iconst (-1), 1) := by decide +kernel
theorem dX2_performHeader_51 : decode cX2_performHeader 51 = .ok (.if_icmp .ne 5, 3) := by decide +kernel
theorem dX2_performHeader_54 : decode cX2_performHeader 54 = .ok (.iconst 0, 1) := by decide +kernel
theorem dX2_performHeader_55 : decode cX2_performHeader 55 = .ok (.ireturn, 1) := by decide +kernel
theorem dX2_performHeader_56 : decode cX2_performHeader 56 = .ok (.aload_n 1, 1) := by decide +kernel
theorem dX2_performHeader_57 : decode cX2_performHeader 57 = .ok (.iload_n 2, 1) := by decide +kernel
theorem dX2_performHeader_58 : decode cX2_performHeader 58 = .ok (.iload_n 3, 1) := by decide +kernel
theorem dX2_performHeader_59 : decode cX2_performHeader 59 = .ok (.iload 4, 2) := by decide +kernel
theorem dX2_performHeader_61 : decode cX2_performHeader 61 = .ok (.invokevirtual 111, 3) := by decide +kernel
theorem dX2_performHeader_64 : decode cX2_performHeader 64 = .ok (.aload_n 0, 1) := by decide +kernel
theorem dX2_performHeader_65 : decode cX2_performHeader 65 = .ok (.getstatic 117, 3) := by decide +kernel
theorem dX2_performHeader_68 : decode cX2_performHeader 68 = .ok (.invokevirtual 100, 3) := by decide +kernel
theorem dX2_performHeader_71 : decode cX2_performHeader 71 = .ok (.ireturn, 1) := by decide +kernel
theorem dX2_performCommands_0 : decode cX2_performCommands 0 = .ok (.aload_n 0, 1) := by decide +kernel
theorem dX2_performCommands_1 : decode cX2_performCommands 1 = .ok (.aload_n 1, 1) := by decide +kernel
theorem dX2_performCommands_2 : decode cX2_performCommands 2 = .ok (.putfield 120, 3) := by decide +kernel
theorem dX2_performCommands_5 : decode cX2_performCommands 5 = .ok (.iconst 0, 1) := by decide +kernel
theorem dX2_performCommands_6 : decode cX2_performCommands 6 = .ok (.istore_n 2, 1) := by decide +kernel
theorem dX2_performCommands_7 : decode cX2_performCommands 7 = .ok (.iload_n 2, 1) := by decide +kernel
theorem dX2_performCommands_8 : decode cX2_performCommands 8 = .ok (.sipush 501, 3) := by decide +kernel
theorem dX2_performCommands_11 : decode cX2_performCommands 11 = .ok (.if_icmp .ge 57, 3) := by decide +kernel
theorem dX2_performCommands_14 : decode cX2_performCommands 14 = .ok (.aload_n 0, 1) := by decide +kernel
theorem dX2_performCommands_15 : decode cX2_performCommands 15 = .ok (.invokevirtual 124, 3) := by decide +kernel
theorem dX2_performCommands_18 : decode cX2_performCommands 18 = .ok (.getstatic 67, 3) := by decide +kernel
theorem dX2_performCommands_21 : decode cX2_performCommands 21 = .ok (.if_acmp .eq 47, 3) := by decide +kernel
theorem dX2_performCommands_24 : decode cX2_performCommands 24 = .ok (.aload_n 0, 1) := by decide +kernel
theorem dX2_performCommands_25 : decode cX2_performCommands 25 = .ok (.invokevirtual 124, 3) := by decide +kernel
theorem dX2_performCommands_28 : decode cX2_performCommands 28 = .ok (.getstatic 128, 3) := by decide +kernel
theorem dX2_performCommands_31 : decode cX2_performCommands 31 = .ok (.if_acmp .ne 10, 3) := by decide +kernel
theorem dX2_performCommands_34 : decode cX2_performCommands 34 = .ok (.aload_n 0, 1) := by decide +kernel
theorem dX2_performCommands_35 : decode cX2_performCommands 35 = .ok (.invokevirtual 131, 3) := by decide +kernel
theorem dX2_performCommands_38 : decode cX2_performCommands 38 = .ok (.goto 7, 3) := by decide +kernel
theorem dX2_performCommands_41 : decode cX2_performCommands 41 = .ok (.aload_n 0, 1) := by decide +kernel
theorem dX2_performCommands_42 : decode cX2_performCommands 42 = .ok (.invokevirtual 135, 3) := by decide +kernel
theorem dX2_performCommands_45 : decode cX2_performCommands 45 = .ok (.istore_n 3, 1) := by decide +kernel
theorem dX2_performCommands_46 : decode cX2_performCommands 46 = .ok (.iload_n 3, 1) := by decide +kernel
theorem dX2_performCommands_47 : decode cX2_performCommands 47 = .ok (.ifCond .eq 13, 3) := by decide +kernel
theorem dX2_performCommands_50 : decode cX2_performCommands 50 = .ok (.aload_n 0, 1) := by decide +kernel
theorem dX2_performCommands_51 : decode cX2_performCommands 51 = .ok (.getstatic 117, 3) := by decide +kernel
theorem dX2_performCommands_54 : decode cX2_performCommands 54 = .ok (.invokevirtual 100, 3) := by decide +kernel
theorem dX2_performCommands_57 : decode cX2_performCommands 57 = .ok (.ifCond .ne 5, 3) := by decide +kernel
theorem dX2_performCommands_60 : decode cX2_performCommands 60 = .ok (.iconst 0, 1) := by decide +kernel
theorem dX2_performCommands_61 : decode cX2_performCommands 61 = .ok (.ireturn, 1) := by decide +kernel
theorem dX2_performCommands_62 : decode cX2_performCommands 62 = .ok (.iinc 2 1, 3) := by decide +kernel
theorem dX2_performCommands_65 : decode cX2_performCommands 65 = .ok (.goto (-58), 3) := by decide +kernel
theorem dX2_performCommands_68 : decode cX2_performCommands 68 = .ok (.iconst 1, 1) := by decide +kernel
theorem dX2_performCommands_69 : decode cX2_performCommands 69 = .ok (.ireturn, 1) := by decide +kernel
theorem dX2_performRepeat_0 : decode cX2_performRepeat 0 = .ok (.aload_n 0, 1) := by decide +kernel
theorem dX2_performRepeat_1 : decode cX2_performRepeat 1 = .ok (.dup, 1) := by decide +kernel
theorem dX2_performRepeat_2 : decode cX2_performRepeat 2 = .ok (.getfield 28, 3) := by decide +kernel
theorem dX2_performRepeat_5 : decode cX2_performRepeat 5 = .ok (.iconst 1, 1) := by decide +kernel
theorem dX2_performRepeat_6 : decode cX2_performRepeat 6 = .ok (.iadd, 1) := by decide +kernel
theorem dX2_performRepeat_7 : decode cX2_performRepeat 7 = .ok (.putfield 28, 3) := by decide +kernel
theorem dX2_performRepeat_10 : decode cX2_performRepeat 10 = .ok (.aload_n 0, 1) := by decide +kernel
theorem dX2_performRepeat_11 : decode cX2_performRepeat 11 = .ok (.iconst 1, 1) := by decide +kernel
theorem dX2_performRepeat_12 : decode cX2_performRepeat 12 = .ok (.bipush 9, 2) := by decide +kernel
theorem dX2_performRepeat_14 : decode cX2_performRepeat 14 = .ok (.invokevirtual 104, 3) := by decide +kernel
theorem dX2_performRepeat_17 : decode cX2_performRepeat 17 = .ok (.istore_n 1, 1) := by decide +kernel
theorem dX2_performRepeat_18 : decode cX2_performRepeat 18 = .ok (.iload_n 1, 1) := by decide +kernel
theorem dX2_performRepeat_19 : decode cX2_performRepeat 19 = .ok (.iconst (-1), 1) := by decide +kernel
theorem dX2_performRepeat_20 : decode cX2_performRepeat 20 = .ok (.if_icmp .eq 13, 3) := by decide +kernel
theorem dX2_performRepeat_23 : decode cX2_performRepeat 23 = .ok (.aload_n 0, 1) := by decide +kernel
theorem dX2_performRepeat_24 : decode cX2_performRepeat 24 = .ok (.getstatic 138, 3) := by decide +kernel
theorem dX2_performRepeat_27 : decode cX2_performRepeat 27 = .ok (.invokevirtual 100, 3) := by decide +kernel
theorem dX2_performRepeat_30 : decode cX2_performRepeat 30 = .ok (.ifCond .ne 5, 3) := by decide +kernel
theorem dX2_performRepeat_33 : decode cX2_performRepeat 33 = .ok (.iconst 0, 1) := by decide +kernel
theorem dX2_performRepeat_34 : decode cX2_performRepeat 34 = .ok (.ireturn, 1) := by decide +kernel
theorem dX2_performRepeat_35 : decode cX2_performRepeat 35 = .ok (.aload_n 0, 1) := by decide +kernel
theorem dX2_performRepeat_36 : decode cX2_performRepeat 36 = .ok (.getfield 28, 3) := by decide +kernel
theorem dX2_performRepeat_39 : decode cX2_performRepeat 39 = .ok (.istore_n 2, 1) := by decide +kernel
theorem dX2_performRepeat_40 : decode cX2_performRepeat 40 = .ok (.iconst 0, 1) := by decide +kernel
theorem dX2_performRepeat_41 : decode cX2_performRepeat 41 = .ok (.istore_n 3, 1) := by decide +kernel
theorem dX2_performRepeat_42 : decode cX2_performRepeat 42 = .ok (.iload_n 3, 1) := by decide +kernel
theorem dX2_performRepeat_43 : decode cX2_performRepeat 43 = .ok (.iload_n 1, 1) := by decide +kernel
theorem dX2_performRepeat_44 : decode cX2_performRepeat 44 = .ok (.if_icmp .ge 60, 3) := by decide +kernel
theorem dX2_performRepeat_47 : decode cX2_performRepeat 47 = .ok (.aload_n 0, 1) := by decide +kernel
theorem dX2_performRepeat_48 : decode cX2_performRepeat 48 = .ok (.iload_n 2, 1) := by decide +kernel
theorem dX2_performRepeat_49 : decode cX2_performRepeat 49 = .ok (.putfield 28, 3) := by decide +kernel
theorem dX2_performRepeat_52 : decode cX2_performRepeat 52 = .ok (.iconst 0, 1) := by decide +kernel
theorem dX2_performRepeat_53 : decode cX2_performRepeat 53 = .ok (.istore 4, 2) := by decide +kernel
theorem dX2_performRepeat_55 : decode cX2_performRepeat 55 = .ok (.iload 4, 2) := by decide +kernel
theorem dX2_performRepeat_57 : decode cX2_performRepeat 57 = .ok (.sipush 501, 3) := by decide +kernel
theorem dX2_performRepeat_60 : decode cX2_performRepeat 60 = .ok (.if_icmp .ge 38, 3) := by decide +kernel
theorem dX2_performRepeat_63 : decode cX2_performRepeat 63 = .ok (.aload_n 0, 1) := by decide +kernel
theorem dX2_performRepeat_64 : decode cX2_performRepeat 64 = .ok (.invokevirtual 124, 3) := by decide +kernel
theorem dX2_performRepeat_67 : decode cX2_performRepeat 67 = .ok (.getstatic 141, 3) := by decide +kernel
theorem dX2_performRepeat_70 : decode cX2_performRepeat 70 = .ok (.if_acmp .eq 28, 3) := by decide +kernel
theorem dX2_performRepeat_73 : decode cX2_performRepeat 73 = .ok (.aload_n 0, 1) := by decide +kernel
theorem dX2_performRepeat_74 : decode cX2_performRepeat 74 = .ok (.invokevirtual 135, 3) := by decide +kernel
theorem dX2_performRepeat_77 : decode cX2_performRepeat 77 = .ok (.ifCond .eq 13, 3) := by decide +kernel
theorem dX2_performRepeat_80 : decode cX2_performRepeat 80 = .ok (.aload_n 0, 1) := by decide +kernel
theorem dX2_performRepeat_81 : decode cX2_performRepeat 81 = .ok (.getstatic 117, 3) := by decide +kernel
theorem dX2_performRepeat_84 : decode cX2_performRepeat 84 = .ok (.invokevirtual 100, 3) := by decide +kernel
theorem dX2_performRepeat_87 : decode cX2_performRepeat 87 = .ok (.ifCond .ne 5, 3) := by decide +kernel
theorem dX2_performRepeat_90 : decode cX2_performRepeat 90 = .ok (.iconst 0, 1) := by decide +kernel
theorem dX2_performRepeat_91 : decode cX2_performRepeat 91 = .ok (.ireturn, 1) := by decide +kernel
theorem dX2_performRepeat_92 : decode cX2_performRepeat 92 = .ok (.iinc 4 1, 3) := by decide +kernel
theorem dX2_performRepeat_95 : decode cX2_performRepeat 95 = .ok (.goto (-40), 3) := by decide +kernel
theorem dX2_performRepeat_98 : decode cX2_performRepeat 98 = .ok (.iinc 3 1, 3) := by decide +kernel
theorem dX2_performRepeat_101 : decode cX2_performRepeat 101 = .ok (.goto (-59), 3) := by decide +kernel
theorem dX2_performRepeat_104 : decode cX2_performRepeat 104 = .ok (.aload_n 0, 1) := by decide +kernel
theorem dX2_performRepeat_105 : decode cX2_performRepeat 105 = .ok (.getstatic 141, 3) := by decide +kernel
theorem dX2_performRepeat_108 : decode cX2_performRepeat 108 = .ok (.invokevirtual 100, 3) := by decide +kernel
theorem dX2_performRepeat_111 : decode cX2_performRepeat 111 = .ok (.ireturn, 1) := by decide +kernel
theorem dX2_performSimple_0 : decode cX2_performSimple 0 = .ok (.aload_n 0, 1) := by decide +kernel
theorem dX2_performSimple_1 : decode cX2_performSimple 1 = .ok (.dup, 1) := by decide +kernel
theorem dX2_performSimple_2 : decode cX2_performSimple 2 = .ok (.getfield 31, 3) := by decide +kernel
theorem dX2_performSimple_5 : decode cX2_performSimple 5 = .ok (.iconst 1, 1) := by decide +kernel
theorem dX2_performSimple_6 : decode cX2_performSimple 6 = .ok (.iadd, 1) := by decide +kernel
theorem dX2_performSimple_7 : decode cX2_performSimple 7 = .ok (.putfield 31, 3) := by decide +kernel
theorem dX2_performSimple_10 : decode cX2_performSimple 10 = .ok (.getstatic 144, 3) := by decide +kernel
theorem dX2_performSimple_13 : decode cX2_performSimple 13 = .ok (.aload_n 0, 1) := by decide +kernel
theorem dX2_performSimple_14 : decode cX2_performSimple 14 = .ok (.invokevirtual 124, 3) := by decide +kernel
theorem dX2_performSimple_17 : decode cX2_performSimple 17 = .ok (.invokevirtual 149, 3) := by decide +kernel
theorem dX2_performSimple_20 : decode cX2_performSimple 20 = .ok (.iaload, 1) := by decide +kernel
theorem dX2_performSimple_21 : decode cX2_performSimple 21 = .ok (.tableswitch 142 1 8 #[47, 52, 57, 88, 93, 127, 132, 137], 47) := by decide +kernel
theorem dX2_performSimple_68 : decode cX2_performSimple 68 = .ok (.aload_n 0, 1) := by decide +kernel
theorem dX2_performSimple_69 : decode cX2_performSimple 69 = .ok (.invokevirtual 152, 3) := by decide +kernel
theorem dX2_performSimple_72 : decode cX2_performSimple 72 = .ok (.ireturn, 1) := by decide +kernel
theorem dX2_performSimple_73 : decode cX2_performSimple 73 = .ok (.aload_n 0, 1) := by decide +kernel
theorem dX2_performSimple_74 : decode cX2_performSimple 74 = .ok (.invokevirtual 155, 3) := by decide +kernel
theorem dX2_performSimple_77 : decode cX2_performSimple 77 = .ok (.ireturn, 1) := by decide +kernel
theorem dX2_performSimple_78 : decode cX2_performSimple 78 = .ok (.aload_n 0, 1) := by decide +kernel
theorem dX2_performSimple_79 : decode cX2_performSimple 79 = .ok (.dup, 1) := by decide +kernel
theorem dX2_performSimple_80 : decode cX2_performSimple 80 = .ok (.getfield 28, 3) := by decide +kernel
theorem dX2_performSimple_83 : decode cX2_performSimple 83 = .ok (.iconst 1, 1) := by decide +kernel
theorem dX2_performSimple_84 : decode cX2_performSimple 84 = .ok (.iadd, 1) := by decide +kernel
theorem dX2_performSimple_85 : decode cX2_performSimple 85 = .ok (.putfield 28, 3) := by decide +kernel
theorem dX2_performSimple_88 : decode cX2_performSimple 88 = .ok (.aload_n 0, 1) := by decide +kernel
theorem dX2_performSimple_89 : decode cX2_performSimple 89 = .ok (.getfield 120, 3) := by decide +kernel
theorem dX2_performSimple_92 : decode cX2_performSimple 92 = .ok (.sipush 999, 3) := by decide +kernel
theorem dX2_performSimple_95 : decode cX2_performSimple 95 = .ok (.aload_n 0, 1) := by decide +kernel
theorem dX2_performSimple_96 : decode cX2_performSimple 96 = .ok (.getfield 120, 3) := by decide +kernel
theorem dX2_performSimple_99 : decode cX2_performSimple 99 = .ok (.getfield 158, 3) := by decide +kernel
theorem dX2_performSimple_102 : decode cX2_performSimple 102 = .ok (.isub, 1) := by decide +kernel
theorem dX2_performSimple_103 : decode cX2_performSimple 103 = .ok (.invokevirtual 161, 3) := by decide +kernel
theorem dX2_performSimple_106 : decode cX2_performSimple 106 = .ok (.pop, 1) := by decide +kernel
theorem dX2_performSimple_107 : decode cX2_performSimple 107 = .ok (.iconst 1, 1) := by decide +kernel
theorem dX2_performSimple_108 : decode cX2_performSimple 108 = .ok (.ireturn, 1) := by decide +kernel
theorem dX2_performSimple_109 : decode cX2_performSimple 109 = .ok (.aload_n 0, 1) := by decide +kernel
theorem dX2_performSimple_110 : decode cX2_performSimple 110 = .ok (.invokevirtual 165, 3) := by decide +kernel
theorem dX2_performSimple_113 : decode cX2_performSimple 113 = .ok (.ireturn, 1) := by decide +kernel
theorem dX2_performSimple_114 : decode cX2_performSimple 114 = .ok (.aload_n 0, 1) := by decide +kernel
theorem dX2_performSimple_115 : decode cX2_performSimple 115 = .ok (.dup, 1) := by decide +kernel
theorem dX2_performSimple_116 : decode cX2_performSimple 116 = .ok (.getfield 28, 3) := by decide +kernel
theorem dX2_performSimple_119 : decode cX2_performSimple 119 = .ok (.iconst 1, 1) := by decide +kernel
theorem dX2_performSimple_120 : decode cX2_performSimple 120 = .ok (.iadd, 1) := by decide +kernel
theorem dX2_performSimple_121 : decode cX2_performSimple 121 = .ok (.putfield 28, 3) := by decide +kernel
theorem dX2_performSimple_124 : decode cX2_performSimple 124 = .ok (.aload_n 0, 1) := by decide +kernel
theorem dX2_performSimple_125 : decode cX2_performSimple 125 = .ok (.getfield 120, 3) := by decide +kernel
theorem dX2_performSimple_128 : decode cX2_performSimple 128 = .ok (.aload_n 0, 1) := by decide +kernel
theorem dX2_performSimple_129 : decode cX2_performSimple 129 = .ok (.getfield 120, 3) := by decide +kernel
theorem dX2_performSimple_132 : decode cX2_performSimple 132 = .ok (.getfield 168, 3) := by decide +kernel
theorem dX2_performSimple_135 : decode cX2_performSimple 135 = .ok (.ifCond .ne 7, 3) := by decide +kernel
theorem dX2_performSimple_138 : decode cX2_performSimple 138 = .ok (.iconst 1, 1) := by decide +kernel
theorem dX2_performSimple_139 : decode cX2_performSimple 139 = .ok (.goto 4, 3) := by decide +kernel
theorem dX2_performSimple_142 : decode cX2_performSimple 142 = .ok (.iconst 0, 1) := by decide +kernel
theorem dX2_performSimple_143 : decode cX2_performSimple 143 = .ok (.putfield 168, 3) := by decide +kernel
theorem dX2_performSimple_146 : decode cX2_performSimple 146 = .ok (.iconst 1, 1) := by decide +kernel
theorem dX2_performSimple_147 : decode cX2_performSimple 147 = .ok (.ireturn, 1) := by decide +kernel
theorem dX2_performSimple_148 : decode cX2_performSimple 148 = .ok (.aload_n 0, 1) := by decide +kernel
theorem dX2_performSimple_149 : decode cX2_performSimple 149 = .ok (.invokevirtual 172, 3) := by decide +kernel
theorem dX2_performSimple_152 : decode cX2_performSimple 152 = .ok (.ireturn, 1) := by decide +kernel
theorem dX2_performSimple_153 : decode cX2_performSimple 153 = .ok (.aload_n 0, 1) := by decide +kernel
theorem dX2_performSimple_154 : decode cX2_performSimple 154 = .ok (.invokevirtual 175, 3) := by decide +kernel
theorem dX2_performSimple_157 : decode cX2_performSimple 157 = .ok (.ireturn, 1) := by decide +kernel
theorem dX2_performSimple_158 : decode cX2_performSimple 158 = .ok (.aload_n 0, 1) := by decide +kernel
theorem dX2_performSimple_159 : decode cX2_performSimple 159 = .ok (.invokevirtual 178, 3) := by decide +kernel
theorem dX2_performSimple_162 : decode cX2_performSimple 162 = .ok (.ireturn, 1) := by decide +kernel
theorem dX2_performSimple_163 : decode cX2_performSimple 163 = .ok (.aload_n 0, 1) := by decide +kernel
theorem dX2_performSimple_164 : decode cX2_performSimple 164 = .ok (.iconst 1, 1) := by decide +kernel
theorem dX2_performSimple_165 : decode cX2_performSimple 165 = .ok (.aload_n 0, 1) := by decide +kernel
theorem dX2_performSimple_166 : decode cX2_performSimple 166 = .ok (.getfield 28, 3) := by decide +kernel
theorem dX2_performSimple_169 : decode cX2_performSimple 169 = .ok (.invokevirtual 181, 3) := by decide +kernel
theorem dX2_performSimple_172 : decode cX2_performSimple 172 = .ok (.ireturn, 1) := by decide +kernel
theorem dX2_performCall_0 : decode cX2_performCall 0 = .ok (.aload_n 0, 1) := by decide +kernel
theorem dX2_performCall_1 : decode cX2_performCall 1 = .ok (.getfield 120, 3) := by decide +kernel
theorem dX2_performCall_4 : decode cX2_performCall 4 = .ok (.getfield 184, 3) := by decide +kernel
theorem dX2_performCall_7 : decode cX2_performCall 7 = .ok (.bipush 40, 2) := by decide +kernel
theorem dX2_performCall_9 : decode cX2_performCall 9 = .ok (.if_icmp .lt 13, 3) := by decide +kernel
theorem dX2_performCall_12 : decode cX2_performCall 12 = .ok (.aload_n 0, 1) := by decide +kernel
theorem dX2_performCall_13 : decode cX2_performCall 13 = .ok (.iconst 3, 1) := by decide +kernel
theorem dX2_performCall_14 : decode cX2_performCall 14 = .ok (.aload_n 0, 1) := by decide +kernel
theorem dX2_performCall_15 : decode cX2_performCall 15 = .ok (.getfield 28, 3) := by decide +kernel
theorem dX2_performCall_18 : decode cX2_performCall 18 = .ok (.invokevirtual 181, 3) := by decide +kernel
theorem dX2_performCall_21 : decode cX2_performCall 21 = .ok (.ireturn, 1) := by decide +kernel
theorem dX2_performCall_22 : decode cX2_performCall 22 = .ok (.aload_n 0, 1) := by decide +kernel
theorem dX2_performCall_23 : decode cX2_performCall 23 = .ok (.dup, 1) := by decide +kernel
theorem dX2_performCall_24 : decode cX2_performCall 24 = .ok (.getfield 28, 3) := by decide +kernel
theorem dX2_performCall_27 : decode cX2_performCall 27 = .ok (.iconst 1, 1) := by decide +kernel
theorem dX2_performCall_28 : decode cX2_performCall 28 = .ok (.iadd, 1) := by decide +kernel
theorem dX2_performCall_29 : decode cX2_performCall 29 = .ok (.putfield 28, 3) := by decide +kernel
theorem dX2_performCall_32 : decode cX2_performCall 32 = .ok (.aload_n 0, 1) := by decide +kernel
theorem dX2_performCall_33 : decode cX2_performCall 33 = .ok (.iconst 0, 1) := by decide +kernel
theorem dX2_performCall_34 : decode cX2_performCall 34 = .ok (.aload_n 0, 1) := by decide +kernel
theorem dX2_performCall_35 : decode cX2_performCall 35 = .ok (.getfield 120, 3) := by decide +kernel
theorem dX2_performCall_38 : decode cX2_performCall 38 = .ok (.getfield 187, 3) := by decide +kernel
theorem dX2_performCall_41 : decode cX2_performCall 41 = .ok (.iconst 1, 1) := by decide +kernel
theorem dX2_performCall_42 : decode cX2_performCall 42 = .ok (.isub, 1) := by decide +kernel
theorem dX2_performCall_43 : decode cX2_performCall 43 = .ok (.invokevirtual 104, 3) := by decide +kernel
theorem dX2_performCall_46 : decode cX2_performCall 46 = .ok (.istore_n 1, 1) := by decide +kernel
theorem dX2_performCall_47 : decode cX2_performCall 47 = .ok (.iload_n 1, 1) := by decide +kernel
theorem dX2_performCall_48 : decode cX2_performCall 48 = .ok (.iconst (-1), 1) := by decide +kernel
theorem dX2_performCall_49 : decode cX2_performCall 49 = .ok (.if_icmp .ne 5, 3) := by decide +kernel
theorem dX2_performCall_52 : decode cX2_performCall 52 = .ok (.iconst 0, 1) := by decide +kernel
theorem dX2_performCall_53 : decode cX2_performCall 53 = .ok (.ireturn, 1) := by decide +kernel
theorem dX2_performCall_54 : decode cX2_performCall 54 = .ok (.aload_n 0, 1) := by decide +kernel
theorem dX2_performCall_55 : decode cX2_performCall 55 = .ok (.iconst 0, 1) := by decide +kernel
theorem dX2_performCall_56 : decode cX2_performCall 56 = .ok (.aload_n 0, 1) := by decide +kernel
theorem dX2_performCall_57 : decode cX2_performCall 57 = .ok (.getfield 120, 3) := by decide +kernel
theorem dX2_performCall_60 : decode cX2_performCall 60 = .ok (.getfield 187, 3) := by decide +kernel
theorem dX2_performCall_63 : decode cX2_performCall 63 = .ok (.iconst 1, 1) := by decide +kernel
theorem dX2_performCall_64 : decode cX2_performCall 64 = .ok (.isub, 1) := by decide +kernel
theorem dX2_performCall_65 : decode cX2_performCall 65 = .ok (.invokevirtual 104, 3) := by decide +kernel
theorem dX2_performCall_68 : decode cX2_performCall 68 = .ok (.istore_n 2, 1) := by decide +kernel
theorem dX2_performCall_69 : decode cX2_performCall 69 = .ok (.iload_n 2, 1) := by decide +kernel
theorem dX2_performCall_70 : decode cX2_performCall 70 = .ok (.iconst (-1), 1) := by decide +kernel
theorem dX2_performCall_71 : decode cX2_performCall 71 = .ok (.if_icmp .ne 5, 3) := by decide +kernel
theorem dX2_performCall_74 : decode cX2_performCall 74 = .ok (.iconst 0, 1) := by decide +kernel
theorem dX2_performCall_75 : decode cX2_performCall 75 = .ok (.ireturn, 1) := by decide +kernel
theorem dX2_performCall_76 : decode cX2_performCall 76 = .ok (.iload_n 2, 1) := by decide +kernel
theorem dX2_performCall_77 : decode cX2_performCall 77 = .ok (.iload_n 1, 1) := by decide +kernel
theorem dX2_performCall_78 : decode cX2_performCall 78 = .ok (.if_icmp .ne 15, 3) := by decide +kernel
theorem dX2_performCall_81 : decode cX2_performCall 81 = .ok (.aload_n 0, 1) := by decide +kernel
theorem dX2_performCall_82 : decode cX2_performCall 82 = .ok (.iconst 2, 1) := by decide +kernel
theorem dX2_performCall_83 : decode cX2_performCall 83 = .ok (.aload_n 0, 1) := by decide +kernel
theorem dX2_performCall_84 : decode cX2_performCall 84 = .ok (.getfield 28, 3) := by decide +kernel
theorem dX2_performCall_87 : decode cX2_performCall 87 = .ok (.iconst 1, 1) := by decide +kernel
theorem dX2_performCall_88 : decode cX2_performCall 88 = .ok (.isub, 1) := by decide +kernel
theorem dX2_performCall_89 : decode cX2_performCall 89 = .ok (.invokevirtual 181, 3) := by decide +kernel
theorem dX2_performCall_92 : decode cX2_performCall 92 = .ok (.ireturn, 1) := by decide +kernel
theorem dX2_performCall_93 : decode cX2_performCall 93 = .ok (.aload_n 0, 1) := by decide +kernel
theorem dX2_performCall_94 : decode cX2_performCall 94 = .ok (.getfield 120, 3) := by decide +kernel
theorem dX2_performCall_97 : decode cX2_performCall 97 = .ok (.getfield 158, 3) := by decide +kernel
theorem dX2_performCall_100 : decode cX2_performCall 100 = .ok (.istore_n 3, 1) := by decide +kernel
theorem dX2_performCall_101 : decode cX2_performCall 101 = .ok (.aload_n 0, 1) := by decide +kernel
theorem dX2_performCall_102 : decode cX2_performCall 102 = .ok (.invokevirtual 124, 3) := by decide +kernel
theorem dX2_performCall_105 : decode cX2_performCall 105 = .ok (.getstatic 190, 3) := by decide +kernel
theorem dX2_performCall_108 : decode cX2_performCall 108 = .ok (.if_acmp .ne 35, 3) := by decide +kernel
theorem dX2_performCall_111 : decode cX2_performCall 111 = .ok (.aload_n 0, 1) := by decide +kernel
theorem dX2_performCall_112 : decode cX2_performCall 112 = .ok (.dup, 1) := by decide +kernel
theorem dX2_performCall_113 : decode cX2_performCall 113 = .ok (.getfield 28, 3) := by decide +kernel
theorem dX2_performCall_116 : decode cX2_performCall 116 = .ok (.iconst 1, 1) := by decide +kernel
theorem dX2_performCall_117 : decode cX2_performCall 117 = .ok (.iadd, 1) := by decide +kernel
theorem dX2_performCall_118 : decode cX2_performCall 118 = .ok (.putfield 28, 3) := by decide +kernel
theorem dX2_performCall_121 : decode cX2_performCall 121 = .ok (.aload_n 0, 1) := by decide +kernel
theorem dX2_performCall_122 : decode cX2_performCall 122 = .ok (.aload_n 0, 1) := by decide +kernel
theorem dX2_performCall_123 : decode cX2_performCall 123 = .ok (.getfield 120, 3) := by decide +kernel
theorem dX2_performCall_126 : decode cX2_performCall 126 = .ok (.getfield 158, 3) := by decide +kernel
theorem dX2_performCall_129 : decode cX2_performCall 129 = .ok (.sipush 999, 3) := by decide +kernel
theorem dX2_performCall_132 : decode cX2_performCall 132 = .ok (.invokevirtual 104, 3) := by decide +kernel
theorem dX2_performCall_135 : decode cX2_performCall 135 = .ok (.istore_n 3, 1) := by decide +kernel
theorem dX2_performCall_136 : decode cX2_performCall 136 = .ok (.iload_n 3, 1) := by decide +kernel
theorem dX2_performCall_137 : decode cX2_performCall 137 = .ok (.iconst (-1), 1) := by decide +kernel
theorem dX2_performCall_138 : decode cX2_performCall 138 = .ok (.if_icmp .ne 5, 3) := by decide +kernel
theorem dX2_performCall_141 : decode cX2_performCall 141 = .ok (.iconst 0, 1) := by decide +kernel
theorem dX2_performCall_142 : decode cX2_performCall 142 = .ok (.ireturn, 1) := by decide +kernel
theorem dX2_performCall_143 : decode cX2_performCall 143 = .ok (.aload_n 0, 1) := by decide +kernel
theorem dX2_performCall_144 : decode cX2_performCall 144 = .ok (.getfield 120, 3) := by decide +kernel
theorem dX2_performCall_147 : decode cX2_performCall 147 = .ok (.iload_n 1, 1) := by decide +kernel
theorem dX2_performCall_148 : decode cX2_performCall 148 = .ok (.iload_n 2, 1) := by decide +kernel
theorem dX2_performCall_149 : decode cX2_performCall 149 = .ok (.iload_n 3, 1) := by decide +kernel
theorem dX2_performCall_150 : decode cX2_performCall 150 = .ok (.invokevirtual 193, 3) := by decide +kernel
theorem dX2_performCall_153 : decode cX2_performCall 153 = .ok (.iconst 1, 1) := by decide +kernel
theorem dX2_performCall_154 : decode cX2_performCall 154 = .ok (.ireturn, 1) := by decide +kernel
theorem dX2_performRun_0 : decode cX2_performRun 0 = .ok (.aload_n 0, 1) := by decide +kernel
theorem dX2_performRun_1 : decode cX2_performRun 1 = .ok (.dup, 1) := by decide +kernel
theorem dX2_performRun_2 : decode cX2_performRun 2 = .ok (.getfield 28, 3) := by decide +kernel
theorem dX2_performRun_5 : decode cX2_performRun 5 = .ok (.iconst 1, 1) := by decide +kernel
theorem dX2_performRun_6 : decode cX2_performRun 6 = .ok (.iadd, 1) := by decide +kernel
theorem dX2_performRun_7 : decode cX2_performRun 7 = .ok (.putfield 28, 3) := by decide +kernel
theorem dX2_performRun_10 : decode cX2_performRun 10 = .ok (.aload_n 0, 1) := by decide +kernel
theorem dX2_performRun_11 : decode cX2_performRun 11 = .ok (.iconst 1, 1) := by decide +kernel
theorem dX2_performRun_12 : decode cX2_performRun 12 = .ok (.sipush 999, 3) := by decide +kernel
theorem dX2_performRun_15 : decode cX2_performRun 15 = .ok (.invokevirtual 104, 3) := by decide +kernel
theorem dX2_performRun_18 : decode cX2_performRun 18 = .ok (.istore_n 1, 1) := by decide +kernel
theorem dX2_performRun_19 : decode cX2_performRun 19 = .ok (.iload_n 1, 1) := by decide +kernel
theorem dX2_performRun_20 : decode cX2_performRun 20 = .ok (.iconst (-1), 1) := by decide +kernel
theorem dX2_performRun_21 : decode cX2_performRun 21 = .ok (.if_icmp .ne 5, 3) := by decide +kernel
theorem dX2_performRun_24 : decode cX2_performRun 24 = .ok (.iconst 0, 1) := by decide +kernel
theorem dX2_performRun_25 : decode cX2_performRun 25 = .ok (.ireturn, 1) := by decide +kernel
theorem dX2_performRun_26 : decode cX2_performRun 26 = .ok (.aload_n 0, 1) := by decide +kernel
theorem dX2_performRun_27 : decode cX2_performRun 27 = .ok (.getfield 120, 3) := by decide +kernel
theorem dX2_performRun_30 : decode cX2_performRun 30 = .ok (.getfield 158, 3) := by decide +kernel
theorem dX2_performRun_33 : decode cX2_performRun 33 = .ok (.iload_n 1, 1) := by decide +kernel
theorem dX2_performRun_34 : decode cX2_performRun 34 = .ok (.iadd, 1) := by decide +kernel
theorem dX2_performRun_35 : decode cX2_performRun 35 = .ok (.sipush 999, 3) := by decide +kernel
theorem dX2_performRun_38 : decode cX2_performRun 38 = .ok (.if_icmp .le 15, 3) := by decide +kernel
theorem dX2_performRun_41 : decode cX2_performRun 41 = .ok (.aload_n 0, 1) := by decide +kernel
theorem dX2_performRun_42 : decode cX2_performRun 42 = .ok (.iconst 4, 1) := by decide +kernel
theorem dX2_performRun_43 : decode cX2_performRun 43 = .ok (.aload_n 0, 1) := by decide +kernel
theorem dX2_performRun_44 : decode cX2_performRun 44 = .ok (.getfield 28, 3) := by decide +kernel
theorem dX2_performRun_47 : decode cX2_performRun 47 = .ok (.iconst 1, 1) := by decide +kernel
theorem dX2_performRun_48 : decode cX2_performRun 48 = .ok (.isub, 1) := by decide +kernel
theorem dX2_performRun_49 : decode cX2_performRun 49 = .ok (.invokevirtual 181, 3) := by decide +kernel
theorem dX2_performRun_52 : decode cX2_performRun 52 = .ok (.ireturn, 1) := by decide +kernel
theorem dX2_performRun_53 : decode cX2_performRun 53 = .ok (.iconst 0, 1) := by decide +kernel
theorem dX2_performRun_54 : decode cX2_performRun 54 = .ok (.istore_n 2, 1) := by decide +kernel
theorem dX2_performRun_55 : decode cX2_performRun 55 = .ok (.iload_n 2, 1) := by decide +kernel
theorem dX2_performRun_56 : decode cX2_performRun 56 = .ok (.iload_n 1, 1) := by decide +kernel
theorem dX2_performRun_57 : decode cX2_performRun 57 = .ok (.if_icmp .ge 16, 3) := by decide +kernel
theorem dX2_performRun_60 : decode cX2_performRun 60 = .ok (.aload_n 0, 1) := by decide +kernel
theorem dX2_performRun_61 : decode cX2_performRun 61 = .ok (.getfield 120, 3) := by decide +kernel
theorem dX2_performRun_64 : decode cX2_performRun 64 = .ok (.invokevirtual 196, 3) := by decide +kernel
theorem dX2_performRun_67 : decode cX2_performRun 67 = .ok (.iinc 2 1, 3) := by decide +kernel
theorem dX2_performRun_70 : decode cX2_performRun 70 = .ok (.goto (-15), 3) := by decide +kernel
theorem dX2_performRun_73 : decode cX2_performRun 73 = .ok (.iconst 1, 1) := by decide +kernel
theorem dX2_performRun_74 : decode cX2_performRun 74 = .ok (.ireturn, 1) := by decide +kernel
theorem dX2_performUntil_0 : decode cX2_performUntil 0 = .ok (.aload_n 0, 1) := by decide +kernel
theorem dX2_performUntil_1 : decode cX2_performUntil 1 = .ok (.dup, 1) := by decide +kernel
theorem dX2_performUntil_2 : decode cX2_performUntil 2 = .ok (.getfield 28, 3) := by decide +kernel
theorem dX2_performUntil_5 : decode cX2_performUntil 5 = .ok (.iconst 1, 1) := by decide +kernel
theorem dX2_performUntil_6 : decode cX2_performUntil 6 = .ok (.iadd, 1) := by decide +kernel
theorem dX2_performUntil_7 : decode cX2_performUntil 7 = .ok (.putfield 28, 3) := by decide +kernel
theorem dX2_performUntil_10 : decode cX2_performUntil 10 = .ok (.aload_n 0, 1) := by decide +kernel
theorem dX2_performUntil_11 : decode cX2_performUntil 11 = .ok (.invokevirtual 124, 3) := by decide +kernel
theorem dX2_performUntil_14 : decode cX2_performUntil 14 = .ok (.astore_n 1, 1) := by decide +kernel
theorem dX2_performUntil_15 : decode cX2_performUntil 15 = .ok (.aload_n 0, 1) := by decide +kernel
theorem dX2_performUntil_16 : decode cX2_performUntil 16 = .ok (.invokevirtual 199, 3) := by decide +kernel
theorem dX2_performUntil_19 : decode cX2_performUntil 19 = .ok (.istore_n 2, 1) := by decide +kernel
theorem dX2_performUntil_20 : decode cX2_performUntil 20 = .ok (.iload_n 2, 1) := by decide +kernel
theorem dX2_performUntil_21 : decode cX2_performUntil 21 = .ok (.iconst (-1), 1) := by decide +kernel
theorem dX2_performUntil_22 : decode cX2_performUntil 22 = .ok (.if_icmp .ne 5, 3) := by decide +kernel
theorem dX2_performUntil_25 : decode cX2_performUntil 25 = .ok (.iconst 0, 1) := by decide +kernel
theorem dX2_performUntil_26 : decode cX2_performUntil 26 = .ok (.ireturn, 1) := by decide +kernel
theorem dX2_performUntil_27 : decode cX2_performUntil 27 = .ok (.aload_n 0, 1) := by decide +kernel
theorem dX2_performUntil_28 : decode cX2_performUntil 28 = .ok (.getfield 120, 3) := by decide +kernel
theorem dX2_performUntil_31 : decode cX2_performUntil 31 = .ok (.getfield 158, 3) := by decide +kernel
theorem dX2_performUntil_34 : decode cX2_performUntil 34 = .ok (.istore_n 3, 1) := by decide +kernel
theorem dX2_performUntil_35 : decode cX2_performUntil 35 = .ok (.iload_n 3, 1) := by decide +kernel
theorem dX2_performUntil_36 : decode cX2_performUntil 36 = .ok (.sipush 999, 3) := by decide +kernel
theorem dX2_performUntil_39 : decode cX2_performUntil 39 = .ok (.if_icmp .ge 25, 3) := by decide +kernel
theorem dX2_performUntil_42 : decode cX2_performUntil 42 = .ok (.aload_n 0, 1) := by decide +kernel
theorem dX2_performUntil_43 : decode cX2_performUntil 43 = .ok (.aload_n 1, 1) := by decide +kernel
theorem dX2_performUntil_44 : decode cX2_performUntil 44 = .ok (.invokevirtual 202, 3) := by decide +kernel
theorem dX2_performUntil_47 : decode cX2_performUntil 47 = .ok (.iload_n 2, 1) := by decide +kernel
theorem dX2_performUntil_48 : decode cX2_performUntil 48 = .ok (.if_icmp .ge 16, 3) := by decide +kernel
theorem dX2_performUntil_51 : decode cX2_performUntil 51 = .ok (.aload_n 0, 1) := by decide +kernel
theorem dX2_performUntil_52 : decode cX2_performUntil 52 = .ok (.getfield 120, 3) := by decide +kernel
theorem dX2_performUntil_55 : decode cX2_performUntil 55 = .ok (.invokevirtual 196, 3) := by decide +kernel
theorem dX2_performUntil_58 : decode cX2_performUntil 58 = .ok (.iinc 3 1, 3) := by decide +kernel
theorem dX2_performUntil_61 : decode cX2_performUntil 61 = .ok (.goto (-26), 3) := by decide +kernel
theorem dX2_performUntil_64 : decode cX2_performUntil 64 = .ok (.aload_n 0, 1) := by decide +kernel
theorem dX2_performUntil_65 : decode cX2_performUntil 65 = .ok (.aload_n 1, 1) := by decide +kernel
theorem dX2_performUntil_66 : decode cX2_performUntil 66 = .ok (.invokevirtual 202, 3) := by decide +kernel
theorem dX2_performUntil_69 : decode cX2_performUntil 69 = .ok (.iload_n 2, 1) := by decide +kernel
theorem dX2_performUntil_70 : decode cX2_performUntil 70 = .ok (.if_icmp .ge 15, 3) := by decide +kernel
theorem dX2_performUntil_73 : decode cX2_performUntil 73 = .ok (.aload_n 0, 1) := by decide +kernel
theorem dX2_performUntil_74 : decode cX2_performUntil 74 = .ok (.iconst 4, 1) := by decide +kernel
theorem dX2_performUntil_75 : decode cX2_performUntil 75 = .ok (.aload_n 0, 1) := by decide +kernel
theorem dX2_performUntil_76 : decode cX2_performUntil 76 = .ok (.getfield 28, 3) := by decide +kernel
theorem dX2_performUntil_79 : decode cX2_performUntil 79 = .ok (.iconst 1, 1) := by decide +kernel
theorem dX2_performUntil_80 : decode cX2_performUntil 80 = .ok (.isub, 1) := by decide +kernel
theorem dX2_performUntil_81 : decode cX2_performUntil 81 = .ok (.invokevirtual 181, 3) := by decide +kernel
theorem dX2_performUntil_84 : decode cX2_performUntil 84 = .ok (.ireturn, 1) := by decide +kernel
theorem dX2_performUntil_85 : decode cX2_performUntil 85 = .ok (.iconst 1, 1) := by decide +kernel
theorem dX2_performUntil_86 : decode cX2_performUntil 86 = .ok (.ireturn, 1) := by decide +kernel
theorem dX2_performPolicy_0 : decode cX2_performPolicy 0 = .ok (.aload_n 0, 1) := by decide +kernel
theorem dX2_performPolicy_1 : decode cX2_performPolicy 1 = .ok (.dup, 1) := by decide +kernel
theorem dX2_performPolicy_2 : decode cX2_performPolicy 2 = .ok (.getfield 28, 3) := by decide +kernel
theorem dX2_performPolicy_5 : decode cX2_performPolicy 5 = .ok (.iconst 1, 1) := by decide +kernel
theorem dX2_performPolicy_6 : decode cX2_performPolicy 6 = .ok (.iadd, 1) := by decide +kernel
theorem dX2_performPolicy_7 : decode cX2_performPolicy 7 = .ok (.putfield 28, 3) := by decide +kernel
theorem dX2_performPolicy_10 : decode cX2_performPolicy 10 = .ok (.aload_n 0, 1) := by decide +kernel
theorem dX2_performPolicy_11 : decode cX2_performPolicy 11 = .ok (.invokevirtual 108, 3) := by decide +kernel
theorem dX2_performPolicy_14 : decode cX2_performPolicy 14 = .ok (.istore_n 1, 1) := by decide +kernel
theorem dX2_performPolicy_15 : decode cX2_performPolicy 15 = .ok (.iload_n 1, 1) := by decide +kernel
theorem dX2_performPolicy_16 : decode cX2_performPolicy 16 = .ok (.iconst (-1), 1) := by decide +kernel
theorem dX2_performPolicy_17 : decode cX2_performPolicy 17 = .ok (.if_icmp .ne 5, 3) := by decide +kernel
theorem dX2_performPolicy_20 : decode cX2_performPolicy 20 = .ok (.iconst 0, 1) := by decide +kernel
theorem dX2_performPolicy_21 : decode cX2_performPolicy 21 = .ok (.ireturn, 1) := by decide +kernel
theorem dX2_performPolicy_22 : decode cX2_performPolicy 22 = .ok (.aload_n 0, 1) := by decide +kernel
theorem dX2_performPolicy_23 : decode cX2_performPolicy 23 = .ok (.getfield 120, 3) := by decide +kernel
theorem dX2_performPolicy_26 : decode cX2_performPolicy 26 = .ok (.iload_n 1, 1) := by decide +kernel
theorem dX2_performPolicy_27 : decode cX2_performPolicy 27 = .ok (.putfield 205, 3) := by decide +kernel
theorem dX2_performPolicy_30 : decode cX2_performPolicy 30 = .ok (.iconst 1, 1) := by decide +kernel
theorem dX2_performPolicy_31 : decode cX2_performPolicy 31 = .ok (.ireturn, 1) := by decide +kernel
theorem dX2_performCapacity_0 : decode cX2_performCapacity 0 = .ok (.aload_n 0, 1) := by decide +kernel
theorem dX2_performCapacity_1 : decode cX2_performCapacity 1 = .ok (.dup, 1) := by decide +kernel
theorem dX2_performCapacity_2 : decode cX2_performCapacity 2 = .ok (.getfield 28, 3) := by decide +kernel
theorem dX2_performCapacity_5 : decode cX2_performCapacity 5 = .ok (.iconst 1, 1) := by decide +kernel
theorem dX2_performCapacity_6 : decode cX2_performCapacity 6 = .ok (.iadd, 1) := by decide +kernel
theorem dX2_performCapacity_7 : decode cX2_performCapacity 7 = .ok (.putfield 28, 3) := by decide +kernel
theorem dX2_performCapacity_10 : decode cX2_performCapacity 10 = .ok (.aload_n 0, 1) := by decide +kernel
theorem dX2_performCapacity_11 : decode cX2_performCapacity 11 = .ok (.iconst 1, 1) := by decide +kernel
theorem dX2_performCapacity_12 : decode cX2_performCapacity 12 = .ok (.bipush 8, 2) := by decide +kernel
theorem dX2_performCapacity_14 : decode cX2_performCapacity 14 = .ok (.invokevirtual 104, 3) := by decide +kernel
theorem dX2_performCapacity_17 : decode cX2_performCapacity 17 = .ok (.istore_n 1, 1) := by decide +kernel
theorem dX2_performCapacity_18 : decode cX2_performCapacity 18 = .ok (.iload_n 1, 1) := by decide +kernel
theorem dX2_performCapacity_19 : decode cX2_performCapacity 19 = .ok (.iconst (-1), 1) := by decide +kernel
theorem dX2_performCapacity_20 : decode cX2_performCapacity 20 = .ok (.if_icmp .ne 5, 3) := by decide +kernel
theorem dX2_performCapacity_23 : decode cX2_performCapacity 23 = .ok (.iconst 0, 1) := by decide +kernel
theorem dX2_performCapacity_24 : decode cX2_performCapacity 24 = .ok (.ireturn, 1) := by decide +kernel
theorem dX2_performCapacity_25 : decode cX2_performCapacity 25 = .ok (.aload_n 0, 1) := by decide +kernel
theorem dX2_performCapacity_26 : decode cX2_performCapacity 26 = .ok (.getfield 120, 3) := by decide +kernel
theorem dX2_performCapacity_29 : decode cX2_performCapacity 29 = .ok (.getfield 208, 3) := by decide +kernel
theorem dX2_performCapacity_32 : decode cX2_performCapacity 32 = .ok (.iload_n 1, 1) := by decide +kernel
theorem dX2_performCapacity_33 : decode cX2_performCapacity 33 = .ok (.if_icmp .le 15, 3) := by decide +kernel
theorem dX2_performCapacity_36 : decode cX2_performCapacity 36 = .ok (.aload_n 0, 1) := by decide +kernel
theorem dX2_performCapacity_37 : decode cX2_performCapacity 37 = .ok (.iconst 4, 1) := by decide +kernel
theorem dX2_performCapacity_38 : decode cX2_performCapacity 38 = .ok (.aload_n 0, 1) := by decide +kernel
theorem dX2_performCapacity_39 : decode cX2_performCapacity 39 = .ok (.getfield 28, 3) := by decide +kernel
theorem dX2_performCapacity_42 : decode cX2_performCapacity 42 = .ok (.iconst 1, 1) := by decide +kernel
theorem dX2_performCapacity_43 : decode cX2_performCapacity 43 = .ok (.isub, 1) := by decide +kernel
theorem dX2_performCapacity_44 : decode cX2_performCapacity 44 = .ok (.invokevirtual 181, 3) := by decide +kernel
theorem dX2_performCapacity_47 : decode cX2_performCapacity 47 = .ok (.ireturn, 1) := by decide +kernel
theorem dX2_performCapacity_48 : decode cX2_performCapacity 48 = .ok (.aload_n 0, 1) := by decide +kernel
theorem dX2_performCapacity_49 : decode cX2_performCapacity 49 = .ok (.getfield 120, 3) := by decide +kernel
theorem dX2_performCapacity_52 : decode cX2_performCapacity 52 = .ok (.iload_n 1, 1) := by decide +kernel
theorem dX2_performCapacity_53 : decode cX2_performCapacity 53 = .ok (.putfield 211, 3) := by decide +kernel
theorem dX2_performCapacity_56 : decode cX2_performCapacity 56 = .ok (.iconst 1, 1) := by decide +kernel
theorem dX2_performCapacity_57 : decode cX2_performCapacity 57 = .ok (.ireturn, 1) := by decide +kernel
theorem dX2_performExpect_0 : decode cX2_performExpect 0 = .ok (.aload_n 0, 1) := by decide +kernel
theorem dX2_performExpect_1 : decode cX2_performExpect 1 = .ok (.getfield 28, 3) := by decide +kernel
theorem dX2_performExpect_4 : decode cX2_performExpect 4 = .ok (.istore_n 1, 1) := by decide +kernel
theorem dX2_performExpect_5 : decode cX2_performExpect 5 = .ok (.aload_n 0, 1) := by decide +kernel
theorem dX2_performExpect_6 : decode cX2_performExpect 6 = .ok (.dup, 1) := by decide +kernel
theorem dX2_performExpect_7 : decode cX2_performExpect 7 = .ok (.getfield 28, 3) := by decide +kernel
theorem dX2_performExpect_10 : decode cX2_performExpect 10 = .ok (.iconst 1, 1) := by decide +kernel
theorem dX2_performExpect_11 : decode cX2_performExpect 11 = .ok (.iadd, 1) := by decide +kernel
theorem dX2_performExpect_12 : decode cX2_performExpect 12 = .ok (.putfield 28, 3) := by decide +kernel
theorem dX2_performExpect_15 : decode cX2_performExpect 15 = .ok (.aload_n 0, 1) := by decide +kernel
theorem dX2_performExpect_16 : decode cX2_performExpect 16 = .ok (.invokevirtual 124, 3) := by decide +kernel
theorem dX2_performExpect_19 : decode cX2_performExpect 19 = .ok (.astore_n 2, 1) := by decide +kernel
theorem dX2_performExpect_20 : decode cX2_performExpect 20 = .ok (.aload_n 0, 1) := by decide +kernel
theorem dX2_performExpect_21 : decode cX2_performExpect 21 = .ok (.invokevirtual 199, 3) := by decide +kernel
theorem dX2_performExpect_24 : decode cX2_performExpect 24 = .ok (.istore_n 3, 1) := by decide +kernel
theorem dX2_performExpect_25 : decode cX2_performExpect 25 = .ok (.iload_n 3, 1) := by decide +kernel
theorem dX2_performExpect_26 : decode cX2_performExpect 26 = .ok (.iconst (-1), 1) := by decide +kernel
theorem dX2_performExpect_27 : decode cX2_performExpect 27 = .ok (.if_icmp .ne 5, 3) := by decide +kernel
theorem dX2_performExpect_30 : decode cX2_performExpect 30 = .ok (.iconst 0, 1) := by decide +kernel
theorem dX2_performExpect_31 : decode cX2_performExpect 31 = .ok (.ireturn, 1) := by decide +kernel
theorem dX2_performExpect_32 : decode cX2_performExpect 32 = .ok (.aload_n 0, 1) := by decide +kernel
theorem dX2_performExpect_33 : decode cX2_performExpect 33 = .ok (.aload_n 2, 1) := by decide +kernel
theorem dX2_performExpect_34 : decode cX2_performExpect 34 = .ok (.invokevirtual 202, 3) := by decide +kernel
theorem dX2_performExpect_37 : decode cX2_performExpect 37 = .ok (.iload_n 3, 1) := by decide +kernel
theorem dX2_performExpect_38 : decode cX2_performExpect 38 = .ok (.if_icmp .eq 10, 3) := by decide +kernel
theorem dX2_performExpect_41 : decode cX2_performExpect 41 = .ok (.aload_n 0, 1) := by decide +kernel
theorem dX2_performExpect_42 : decode cX2_performExpect 42 = .ok (.iconst 5, 1) := by decide +kernel
theorem dX2_performExpect_43 : decode cX2_performExpect 43 = .ok (.iload_n 1, 1) := by decide +kernel
theorem dX2_performExpect_44 : decode cX2_performExpect 44 = .ok (.invokevirtual 181, 3) := by decide +kernel
theorem dX2_performExpect_47 : decode cX2_performExpect 47 = .ok (.ireturn, 1) := by decide +kernel
theorem dX2_performExpect_48 : decode cX2_performExpect 48 = .ok (.iconst 1, 1) := by decide +kernel
theorem dX2_performExpect_49 : decode cX2_performExpect 49 = .ok (.ireturn, 1) := by decide +kernel
theorem dX2_count_0 : decode cX2_count 0 = .ok (.getstatic 144, 3) := by decide +kernel
theorem dX2_count_3 : decode cX2_count 3 = .ok (.aload_n 1, 1) := by decide +kernel
theorem dX2_count_4 : decode cX2_count 4 = .ok (.invokevirtual 149, 3) := by decide +kernel
theorem dX2_count_7 : decode cX2_count 7 = .ok (.iaload, 1) := by decide +kernel
theorem dX2_count_8 : decode cX2_count 8 = .ok (.tableswitch 77 9 13 #[36, 44, 52, 61, 69], 36) := by decide +kernel
theorem dX2_count_44 : decode cX2_count 44 = .ok (.aload_n 0, 1) := by decide +kernel
theorem dX2_count_45 : decode cX2_count 45 = .ok (.getfield 120, 3) := by decide +kernel
theorem dX2_count_48 : decode cX2_count 48 = .ok (.getfield 214, 3) := by decide +kernel
theorem dX2_count_51 : decode cX2_count 51 = .ok (.ireturn, 1) := by decide +kernel
theorem dX2_count_52 : decode cX2_count 52 = .ok (.aload_n 0, 1) := by decide +kernel
theorem dX2_count_53 : decode cX2_count 53 = .ok (.getfield 120, 3) := by decide +kernel
theorem dX2_count_56 : decode cX2_count 56 = .ok (.getfield 208, 3) := by decide +kernel
theorem dX2_count_59 : decode cX2_count 59 = .ok (.ireturn, 1) := by decide +kernel
theorem dX2_count_60 : decode cX2_count 60 = .ok (.aload_n 0, 1) := by decide +kernel
theorem dX2_count_61 : decode cX2_count 61 = .ok (.getfield 120, 3) := by decide +kernel
theorem dX2_count_64 : decode cX2_count 64 = .ok (.iconst 1, 1) := by decide +kernel
theorem dX2_count_65 : decode cX2_count 65 = .ok (.invokevirtual 217, 3) := by decide +kernel
theorem dX2_count_68 : decode cX2_count 68 = .ok (.ireturn, 1) := by decide +kernel
theorem dX2_count_69 : decode cX2_count 69 = .ok (.aload_n 0, 1) := by decide +kernel
theorem dX2_count_70 : decode cX2_count 70 = .ok (.getfield 120, 3) := by decide +kernel
theorem dX2_count_73 : decode cX2_count 73 = .ok (.getfield 220, 3) := by decide +kernel
theorem dX2_count_76 : decode cX2_count 76 = .ok (.ireturn, 1) := by decide +kernel
theorem dX2_count_77 : decode cX2_count 77 = .ok (.aload_n 0, 1) := by decide +kernel
theorem dX2_count_78 : decode cX2_count 78 = .ok (.getfield 120, 3) := by decide +kernel
theorem dX2_count_81 : decode cX2_count 81 = .ok (.getfield 223, 3) := by decide +kernel
theorem dX2_count_84 : decode cX2_count 84 = .ok (.ireturn, 1) := by decide +kernel
theorem dX2_count_85 : decode cX2_count 85 = .ok (.aload_n 0, 1) := by decide +kernel
theorem dX2_count_86 : decode cX2_count 86 = .ok (.getfield 120, 3) := by decide +kernel
theorem dX2_count_89 : decode cX2_count 89 = .ok (.getfield 158, 3) := by decide +kernel
theorem dX2_count_92 : decode cX2_count 92 = .ok (.ireturn, 1) := by decide +kernel
theorem dX2_nextKind_0 : decode cX2_nextKind 0 = .ok (.aload_n 0, 1) := by decide +kernel
theorem dX2_nextKind_1 : decode cX2_nextKind 1 = .ok (.getfield 28, 3) := by decide +kernel
theorem dX2_nextKind_4 : decode cX2_nextKind 4 = .ok (.aload_n 0, 1) := by decide +kernel
theorem dX2_nextKind_5 : decode cX2_nextKind 5 = .ok (.getfield 24, 3) := by decide +kernel
theorem dX2_nextKind_8 : decode cX2_nextKind 8 = .ok (.if_icmp .ge 15, 3) := by decide +kernel
theorem dX2_nextKind_11 : decode cX2_nextKind 11 = .ok (.aload_n 0, 1) := by decide +kernel
theorem dX2_nextKind_12 : decode cX2_nextKind 12 = .ok (.getfield 13, 3) := by decide +kernel
theorem dX2_nextKind_15 : decode cX2_nextKind 15 = .ok (.aload_n 0, 1) := by decide +kernel
theorem dX2_nextKind_16 : decode cX2_nextKind 16 = .ok (.getfield 28, 3) := by decide +kernel
theorem dX2_nextKind_19 : decode cX2_nextKind 19 = .ok (.aaload, 1) := by decide +kernel
theorem dX2_nextKind_20 : decode cX2_nextKind 20 = .ok (.goto 6, 3) := by decide +kernel
theorem dX2_nextKind_23 : decode cX2_nextKind 23 = .ok (.getstatic 67, 3) := by decide +kernel
theorem dX2_nextKind_26 : decode cX2_nextKind 26 = .ok (.areturn, 1) := by decide +kernel
theorem dX2_take_0 : decode cX2_take 0 = .ok (.aload_n 0, 1) := by decide +kernel
theorem dX2_take_1 : decode cX2_take 1 = .ok (.invokevirtual 124, 3) := by decide +kernel
theorem dX2_take_4 : decode cX2_take 4 = .ok (.aload_n 1, 1) := by decide +kernel
theorem dX2_take_5 : decode cX2_take 5 = .ok (.if_acmp .eq 13, 3) := by decide +kernel
theorem dX2_take_8 : decode cX2_take 8 = .ok (.aload_n 0, 1) := by decide +kernel
theorem dX2_take_9 : decode cX2_take 9 = .ok (.iconst 1, 1) := by decide +kernel
theorem dX2_take_10 : decode cX2_take 10 = .ok (.aload_n 0, 1) := by decide +kernel
theorem dX2_take_11 : decode cX2_take 11 = .ok (.getfield 28, 3) := by decide +kernel
theorem dX2_take_14 : decode cX2_take 14 = .ok (.invokevirtual 181, 3) := by decide +kernel
theorem dX2_take_17 : decode cX2_take 17 = .ok (.ireturn, 1) := by decide +kernel
theorem dX2_take_18 : decode cX2_take 18 = .ok (.aload_n 0, 1) := by decide +kernel
theorem dX2_take_19 : decode cX2_take 19 = .ok (.dup, 1) := by decide +kernel
theorem dX2_take_20 : decode cX2_take 20 = .ok (.getfield 28, 3) := by decide +kernel
theorem dX2_take_23 : decode cX2_take 23 = .ok (.iconst 1, 1) := by decide +kernel
theorem dX2_take_24 : decode cX2_take 24 = .ok (.iadd, 1) := by decide +kernel
theorem dX2_take_25 : decode cX2_take 25 = .ok (.putfield 28, 3) := by decide +kernel
theorem dX2_take_28 : decode cX2_take 28 = .ok (.iconst 1, 1) := by decide +kernel
theorem dX2_take_29 : decode cX2_take 29 = .ok (.ireturn, 1) := by decide +kernel
theorem dX2_takeNumber_0 : decode cX2_takeNumber 0 = .ok (.aload_n 0, 1) := by decide +kernel
theorem dX2_takeNumber_1 : decode cX2_takeNumber 1 = .ok (.invokevirtual 124, 3) := by decide +kernel
theorem dX2_takeNumber_4 : decode cX2_takeNumber 4 = .ok (.getstatic 51, 3) := by decide +kernel
theorem dX2_takeNumber_7 : decode cX2_takeNumber 7 = .ok (.if_acmp .eq 15, 3) := by decide +kernel
theorem dX2_takeNumber_10 : decode cX2_takeNumber 10 = .ok (.aload_n 0, 1) := by decide +kernel
theorem dX2_takeNumber_11 : decode cX2_takeNumber 11 = .ok (.iconst 1, 1) := by decide +kernel
theorem dX2_takeNumber_12 : decode cX2_takeNumber 12 = .ok (.aload_n 0, 1) := by decide +kernel
theorem dX2_takeNumber_13 : decode cX2_takeNumber 13 = .ok (.getfield 28, 3) := by decide +kernel
theorem dX2_takeNumber_16 : decode cX2_takeNumber 16 = .ok (.invokevirtual 181, 3) := by decide +kernel
theorem dX2_takeNumber_19 : decode cX2_takeNumber 19 = .ok (.pop, 1) := by decide +kernel
theorem dX2_takeNumber_20 : decode cX2_takeNumber 20 = .ok (.iconst (-1), 1) := by decide +kernel
theorem dX2_takeNumber_21 : decode cX2_takeNumber 21 = .ok (.ireturn, 1) := by decide +kernel
theorem dX2_takeNumber_22 : decode cX2_takeNumber 22 = .ok (.aload_n 0, 1) := by decide +kernel
theorem dX2_takeNumber_23 : decode cX2_takeNumber 23 = .ok (.getfield 21, 3) := by decide +kernel
theorem dX2_takeNumber_26 : decode cX2_takeNumber 26 = .ok (.aload_n 0, 1) := by decide +kernel
theorem dX2_takeNumber_27 : decode cX2_takeNumber 27 = .ok (.getfield 28, 3) := by decide +kernel
theorem dX2_takeNumber_30 : decode cX2_takeNumber 30 = .ok (.iaload, 1) := by decide +kernel
theorem dX2_takeNumber_31 : decode cX2_takeNumber 31 = .ok (.istore_n 3, 1) := by decide +kernel
theorem dX2_takeNumber_32 : decode cX2_takeNumber 32 = .ok (.iload_n 3, 1) := by decide +kernel
theorem dX2_takeNumber_33 : decode cX2_takeNumber 33 = .ok (.iload_n 1, 1) := by decide +kernel
theorem dX2_takeNumber_34 : decode cX2_takeNumber 34 = .ok (.if_icmp .lt 8, 3) := by decide +kernel
theorem dX2_takeNumber_37 : decode cX2_takeNumber 37 = .ok (.iload_n 3, 1) := by decide +kernel
theorem dX2_takeNumber_38 : decode cX2_takeNumber 38 = .ok (.iload_n 2, 1) := by decide +kernel
theorem dX2_takeNumber_39 : decode cX2_takeNumber 39 = .ok (.if_icmp .le 15, 3) := by decide +kernel
theorem dX2_takeNumber_42 : decode cX2_takeNumber 42 = .ok (.aload_n 0, 1) := by decide +kernel
theorem dX2_takeNumber_43 : decode cX2_takeNumber 43 = .ok (.iconst 2, 1) := by decide +kernel
theorem dX2_takeNumber_44 : decode cX2_takeNumber 44 = .ok (.aload_n 0, 1) := by decide +kernel
theorem dX2_takeNumber_45 : decode cX2_takeNumber 45 = .ok (.getfield 28, 3) := by decide +kernel
theorem dX2_takeNumber_48 : decode cX2_takeNumber 48 = .ok (.invokevirtual 181, 3) := by decide +kernel
theorem dX2_takeNumber_51 : decode cX2_takeNumber 51 = .ok (.pop, 1) := by decide +kernel
theorem dX2_takeNumber_52 : decode cX2_takeNumber 52 = .ok (.iconst (-1), 1) := by decide +kernel
theorem dX2_takeNumber_53 : decode cX2_takeNumber 53 = .ok (.ireturn, 1) := by decide +kernel
theorem dX2_takeNumber_54 : decode cX2_takeNumber 54 = .ok (.aload_n 0, 1) := by decide +kernel
theorem dX2_takeNumber_55 : decode cX2_takeNumber 55 = .ok (.dup, 1) := by decide +kernel
theorem dX2_takeNumber_56 : decode cX2_takeNumber 56 = .ok (.getfield 28, 3) := by decide +kernel
theorem dX2_takeNumber_59 : decode cX2_takeNumber 59 = .ok (.iconst 1, 1) := by decide +kernel
theorem dX2_takeNumber_60 : decode cX2_takeNumber 60 = .ok (.iadd, 1) := by decide +kernel
theorem dX2_takeNumber_61 : decode cX2_takeNumber 61 = .ok (.putfield 28, 3) := by decide +kernel
theorem dX2_takeNumber_64 : decode cX2_takeNumber 64 = .ok (.iload_n 3, 1) := by decide +kernel
theorem dX2_takeNumber_65 : decode cX2_takeNumber 65 = .ok (.ireturn, 1) := by decide +kernel
theorem dX2_takePolicy_0 : decode cX2_takePolicy 0 = .ok (.iconst (-1), 1) := by decide +kernel
theorem dX2_takePolicy_1 : decode cX2_takePolicy 1 = .ok (.istore_n 1, 1) := by decide +kernel
theorem dX2_takePolicy_2 : decode cX2_takePolicy 2 = .ok (.getstatic 144, 3) := by decide +kernel
theorem dX2_takePolicy_5 : decode cX2_takePolicy 5 = .ok (.aload_n 0, 1) := by decide +kernel
theorem dX2_takePolicy_6 : decode cX2_takePolicy 6 = .ok (.invokevirtual 124, 3) := by decide +kernel
theorem dX2_takePolicy_9 : decode cX2_takePolicy 9 = .ok (.invokevirtual 149, 3) := by decide +kernel
theorem dX2_takePolicy_12 : decode cX2_takePolicy 12 = .ok (.iaload, 1) := by decide +kernel
theorem dX2_takePolicy_13 : decode cX2_takePolicy 13 = .ok (.tableswitch 42 14 16 #[27, 32, 37], 27) := by decide +kernel
theorem dX2_takePolicy_40 : decode cX2_takePolicy 40 = .ok (.iconst 0, 1) := by decide +kernel
theorem dX2_takePolicy_41 : decode cX2_takePolicy 41 = .ok (.istore_n 1, 1) := by decide +kernel
theorem dX2_takePolicy_42 : decode cX2_takePolicy 42 = .ok (.goto 25, 3) := by decide +kernel
theorem dX2_takePolicy_45 : decode cX2_takePolicy 45 = .ok (.iconst 1, 1) := by decide +kernel
theorem dX2_takePolicy_46 : decode cX2_takePolicy 46 = .ok (.istore_n 1, 1) := by decide +kernel
theorem dX2_takePolicy_47 : decode cX2_takePolicy 47 = .ok (.goto 20, 3) := by decide +kernel
theorem dX2_takePolicy_50 : decode cX2_takePolicy 50 = .ok (.iconst 2, 1) := by decide +kernel
theorem dX2_takePolicy_51 : decode cX2_takePolicy 51 = .ok (.istore_n 1, 1) := by decide +kernel
theorem dX2_takePolicy_52 : decode cX2_takePolicy 52 = .ok (.goto 15, 3) := by decide +kernel
theorem dX2_takePolicy_55 : decode cX2_takePolicy 55 = .ok (.aload_n 0, 1) := by decide +kernel
theorem dX2_takePolicy_56 : decode cX2_takePolicy 56 = .ok (.iconst 1, 1) := by decide +kernel
theorem dX2_takePolicy_57 : decode cX2_takePolicy 57 = .ok (.aload_n 0, 1) := by decide +kernel
theorem dX2_takePolicy_58 : decode cX2_takePolicy 58 = .ok (.getfield 28, 3) := by decide +kernel
theorem dX2_takePolicy_61 : decode cX2_takePolicy 61 = .ok (.invokevirtual 181, 3) := by decide +kernel
theorem dX2_takePolicy_64 : decode cX2_takePolicy 64 = .ok (.pop, 1) := by decide +kernel
theorem dX2_takePolicy_65 : decode cX2_takePolicy 65 = .ok (.iconst (-1), 1) := by decide +kernel
theorem dX2_takePolicy_66 : decode cX2_takePolicy 66 = .ok (.ireturn, 1) := by decide +kernel
theorem dX2_takePolicy_67 : decode cX2_takePolicy 67 = .ok (.aload_n 0, 1) := by decide +kernel
theorem dX2_takePolicy_68 : decode cX2_takePolicy 68 = .ok (.dup, 1) := by decide +kernel
theorem dX2_takePolicy_69 : decode cX2_takePolicy 69 = .ok (.getfield 28, 3) := by decide +kernel
theorem dX2_takePolicy_72 : decode cX2_takePolicy 72 = .ok (.iconst 1, 1) := by decide +kernel
theorem dX2_takePolicy_73 : decode cX2_takePolicy 73 = .ok (.iadd, 1) := by decide +kernel
theorem dX2_takePolicy_74 : decode cX2_takePolicy 74 = .ok (.putfield 28, 3) := by decide +kernel
theorem dX2_takePolicy_77 : decode cX2_takePolicy 77 = .ok (.iload_n 1, 1) := by decide +kernel
theorem dX2_takePolicy_78 : decode cX2_takePolicy 78 = .ok (.ireturn, 1) := by decide +kernel
theorem dX2_takeCounterAndValue_0 : decode cX2_takeCounterAndValue 0 = .ok (.aload_n 0, 1) := by decide +kernel
theorem dX2_takeCounterAndValue_1 : decode cX2_takeCounterAndValue 1 = .ok (.invokevirtual 124, 3) := by decide +kernel
theorem dX2_takeCounterAndValue_4 : decode cX2_takeCounterAndValue 4 = .ok (.invokevirtual 226, 3) := by decide +kernel
theorem dX2_takeCounterAndValue_7 : decode cX2_takeCounterAndValue 7 = .ok (.ifCond .ne 15, 3) := by decide +kernel
theorem dX2_takeCounterAndValue_10 : decode cX2_takeCounterAndValue 10 = .ok (.aload_n 0, 1) := by decide +kernel
theorem dX2_takeCounterAndValue_11 : decode cX2_takeCounterAndValue 11 = .ok (.iconst 1, 1) := by decide +kernel
theorem dX2_takeCounterAndValue_12 : decode cX2_takeCounterAndValue 12 = .ok (.aload_n 0, 1) := by decide +kernel
theorem dX2_takeCounterAndValue_13 : decode cX2_takeCounterAndValue 13 = .ok (.getfield 28, 3) := by decide +kernel
theorem dX2_takeCounterAndValue_16 : decode cX2_takeCounterAndValue 16 = .ok (.invokevirtual 181, 3) := by decide +kernel
theorem dX2_takeCounterAndValue_19 : decode cX2_takeCounterAndValue 19 = .ok (.pop, 1) := by decide +kernel
theorem dX2_takeCounterAndValue_20 : decode cX2_takeCounterAndValue 20 = .ok (.iconst (-1), 1) := by decide +kernel
theorem dX2_takeCounterAndValue_21 : decode cX2_takeCounterAndValue 21 = .ok (.ireturn, 1) := by decide +kernel
theorem dX2_takeCounterAndValue_22 : decode cX2_takeCounterAndValue 22 = .ok (.aload_n 0, 1) := by decide +kernel
theorem dX2_takeCounterAndValue_23 : decode cX2_takeCounterAndValue 23 = .ok (.dup, 1) := by decide +kernel
theorem dX2_takeCounterAndValue_24 : decode cX2_takeCounterAndValue 24 = .ok (.getfield 28, 3) := by decide +kernel
theorem dX2_takeCounterAndValue_27 : decode cX2_takeCounterAndValue 27 = .ok (.iconst 1, 1) := by decide +kernel
theorem dX2_takeCounterAndValue_28 : decode cX2_takeCounterAndValue 28 = .ok (.iadd, 1) := by decide +kernel
theorem dX2_takeCounterAndValue_29 : decode cX2_takeCounterAndValue 29 = .ok (.putfield 28, 3) := by decide +kernel
theorem dX2_takeCounterAndValue_32 : decode cX2_takeCounterAndValue 32 = .ok (.aload_n 0, 1) := by decide +kernel
theorem dX2_takeCounterAndValue_33 : decode cX2_takeCounterAndValue 33 = .ok (.iconst 0, 1) := by decide +kernel
theorem dX2_takeCounterAndValue_34 : decode cX2_takeCounterAndValue 34 = .ok (.sipush 999, 3) := by decide +kernel
theorem dX2_takeCounterAndValue_37 : decode cX2_takeCounterAndValue 37 = .ok (.invokevirtual 104, 3) := by decide +kernel
theorem dX2_takeCounterAndValue_40 : decode cX2_takeCounterAndValue 40 = .ok (.ireturn, 1) := by decide +kernel
theorem dX2_fail_0 : decode cX2_fail 0 = .ok (.aload_n 0, 1) := by decide +kernel
theorem dX2_fail_1 : decode cX2_fail 1 = .ok (.iload_n 1, 1) := by decide +kernel
theorem dX2_fail_2 : decode cX2_fail 2 = .ok (.putfield 34, 3) := by decide +kernel
theorem dX2_fail_5 : decode cX2_fail 5 = .ok (.iload_n 2, 1) := by decide +kernel
theorem dX2_fail_6 : decode cX2_fail 6 = .ok (.ifCond .lt 21, 3) := by decide +kernel
theorem dX2_fail_9 : decode cX2_fail 9 = .ok (.iload_n 2, 1) := by decide +kernel
theorem dX2_fail_10 : decode cX2_fail 10 = .ok (.aload_n 0, 1) := by decide +kernel
theorem dX2_fail_11 : decode cX2_fail 11 = .ok (.getfield 24, 3) := by decide +kernel
theorem dX2_fail_14 : decode cX2_fail 14 = .ok (.if_icmp .ge 13, 3) := by decide +kernel
theorem dX2_fail_17 : decode cX2_fail 17 = .ok (.aload_n 0, 1) := by decide +kernel
theorem dX2_fail_18 : decode cX2_fail 18 = .ok (.aload_n 0, 1) := by decide +kernel
theorem dX2_fail_19 : decode cX2_fail 19 = .ok (.getfield 17, 3) := by decide +kernel
theorem dX2_fail_22 : decode cX2_fail 22 = .ok (.iload_n 2, 1) := by decide +kernel
theorem dX2_fail_23 : decode cX2_fail 23 = .ok (.iaload, 1) := by decide +kernel
theorem dX2_fail_24 : decode cX2_fail 24 = .ok (.putfield 37, 3) := by decide +kernel
theorem dX2_fail_27 : decode cX2_fail 27 = .ok (.iconst 0, 1) := by decide +kernel
theorem dX2_fail_28 : decode cX2_fail 28 = .ok (.ireturn, 1) := by decide +kernel
theorem dX3_init_0 : decode cX3_init 0 = .ok (.aload_n 0, 1) := by decide +kernel
theorem dX3_init_1 : decode cX3_init 1 = .ok (.invokespecial 3, 3) := by decide +kernel
theorem dX3_init_4 : decode cX3_init 4 = .ok (.aload_n 0, 1) := by decide +kernel
theorem dX3_init_5 : decode cX3_init 5 = .ok (.bipush 40, 2) := by decide +kernel
theorem dX3_init_7 : decode cX3_init 7 = .ok (.newarray .int, 2) := by decide +kernel
theorem dX3_init_9 : decode cX3_init 9 = .ok (.putfield 9, 3) := by decide +kernel
theorem dX3_init_12 : decode cX3_init 12 = .ok (.aload_n 0, 1) := by decide +kernel
theorem dX3_init_13 : decode cX3_init 13 = .ok (.bipush 40, 2) := by decide +kernel
theorem dX3_init_15 : decode cX3_init 15 = .ok (.newarray .int, 2) := by decide +kernel
theorem dX3_init_17 : decode cX3_init 17 = .ok (.putfield 15, 3) := by decide +kernel
theorem dX3_init_20 : decode cX3_init 20 = .ok (.aload_n 0, 1) := by decide +kernel
theorem dX3_init_21 : decode cX3_init 21 = .ok (.bipush 40, 2) := by decide +kernel
theorem dX3_init_23 : decode cX3_init 23 = .ok (.newarray .int, 2) := by decide +kernel
theorem dX3_init_25 : decode cX3_init 25 = .ok (.putfield 18, 3) := by decide +kernel
theorem dX3_init_28 : decode cX3_init 28 = .ok (.aload_n 0, 1) := by decide +kernel
theorem dX3_init_29 : decode cX3_init 29 = .ok (.bipush 40, 2) := by decide +kernel
theorem dX3_init_31 : decode cX3_init 31 = .ok (.newarray .int, 2) := by decide +kernel
theorem dX3_init_33 : decode cX3_init 33 = .ok (.putfield 21, 3) := by decide +kernel
theorem dX3_init_36 : decode cX3_init 36 = .ok (.aload_n 0, 1) := by decide +kernel
theorem dX3_init_37 : decode cX3_init 37 = .ok (.bipush 40, 2) := by decide +kernel
theorem dX3_init_39 : decode cX3_init 39 = .ok (.newarray .int, 2) := by decide +kernel
theorem dX3_init_41 : decode cX3_init 41 = .ok (.putfield 24, 3) := by decide +kernel
theorem dX3_init_44 : decode cX3_init 44 = .ok (.aload_n 0, 1) := by decide +kernel
theorem dX3_init_45 : decode cX3_init 45 = .ok (.bipush 40, 2) := by decide +kernel
theorem dX3_init_47 : decode cX3_init 47 = .ok (.newarray .int, 2) := by decide +kernel
theorem dX3_init_49 : decode cX3_init 49 = .ok (.putfield 27, 3) := by decide +kernel
theorem dX3_init_52 : decode cX3_init 52 = .ok (.aload_n 0, 1) := by decide +kernel
theorem dX3_init_53 : decode cX3_init 53 = .ok (.bipush 10, 2) := by decide +kernel
theorem dX3_init_55 : decode cX3_init 55 = .ok (.iconst 4, 1) := by decide +kernel
theorem dX3_init_56 : decode cX3_init 56 = .ok (.iconst 2, 1) := by decide +kernel
theorem dX3_init_57 : decode cX3_init 57 = .ok (.invokevirtual 30, 3) := by decide +kernel
theorem dX3_init_60 : decode cX3_init 60 = .ok (.return_, 1) := by decide +kernel
theorem dX3_begin_0 : decode cX3_begin 0 = .ok (.aload_n 0, 1) := by decide +kernel
theorem dX3_begin_1 : decode cX3_begin 1 = .ok (.iload_n 1, 1) := by decide +kernel
theorem dX3_begin_2 : decode cX3_begin 2 = .ok (.putfield 34, 3) := by decide +kernel
theorem dX3_begin_5 : decode cX3_begin 5 = .ok (.aload_n 0, 1) := by decide +kernel
theorem dX3_begin_6 : decode cX3_begin 6 = .ok (.iload_n 2, 1) := by decide +kernel
theorem dX3_begin_7 : decode cX3_begin 7 = .ok (.putfield 38, 3) := by decide +kernel
theorem dX3_begin_10 : decode cX3_begin 10 = .ok (.aload_n 0, 1) := by decide +kernel
theorem dX3_begin_11 : decode cX3_begin 11 = .ok (.iload_n 3, 1) := by decide +kernel
theorem dX3_begin_12 : decode cX3_begin 12 = .ok (.putfield 41, 3) := by decide +kernel
theorem dX3_begin_15 : decode cX3_begin 15 = .ok (.aload_n 0, 1) := by decide +kernel
theorem dX3_begin_16 : decode cX3_begin 16 = .ok (.iconst 0, 1) := by decide +kernel
theorem dX3_begin_17 : decode cX3_begin 17 = .ok (.putfield 44, 3) := by decide +kernel
theorem dX3_begin_20 : decode cX3_begin 20 = .ok (.aload_n 0, 1) := by decide +kernel
theorem dX3_begin_21 : decode cX3_begin 21 = .ok (.iconst 0, 1) := by decide +kernel
theorem dX3_begin_22 : decode cX3_begin 22 = .ok (.putfield 47, 3) := by decide +kernel
theorem dX3_begin_25 : decode cX3_begin 25 = .ok (.aload_n 0, 1) := by decide +kernel
theorem dX3_begin_26 : decode cX3_begin 26 = .ok (.iconst 1, 1) := by decide +kernel
theorem dX3_begin_27 : decode cX3_begin 27 = .ok (.putfield 50, 3) := by decide +kernel
theorem dX3_begin_30 : decode cX3_begin 30 = .ok (.aload_n 0, 1) := by decide +kernel
theorem dX3_begin_31 : decode cX3_begin 31 = .ok (.iconst 0, 1) := by decide +kernel
theorem dX3_begin_32 : decode cX3_begin 32 = .ok (.putfield 54, 3) := by decide +kernel
theorem dX3_begin_35 : decode cX3_begin 35 = .ok (.aload_n 0, 1) := by decide +kernel
theorem dX3_begin_36 : decode cX3_begin 36 = .ok (.iconst 0, 1) := by decide +kernel
theorem dX3_begin_37 : decode cX3_begin 37 = .ok (.putfield 57, 3) := by decide +kernel
theorem dX3_begin_40 : decode cX3_begin 40 = .ok (.aload_n 0, 1) := by decide +kernel
theorem dX3_begin_41 : decode cX3_begin 41 = .ok (.iconst 0, 1) := by decide +kernel
theorem dX3_begin_42 : decode cX3_begin 42 = .ok (.putfield 60, 3) := by decide +kernel
theorem dX3_begin_45 : decode cX3_begin 45 = .ok (.aload_n 0, 1) := by decide +kernel
theorem dX3_begin_46 : decode cX3_begin 46 = .ok (.iconst 0, 1) := by decide +kernel
theorem dX3_begin_47 : decode cX3_begin 47 = .ok (.putfield 63, 3) := by decide +kernel
theorem dX3_begin_50 : decode cX3_begin 50 = .ok (.aload_n 0, 1) := by decide +kernel
theorem dX3_begin_51 : decode cX3_begin 51 = .ok (.iconst 0, 1) := by decide +kernel
theorem dX3_begin_52 : decode cX3_begin 52 = .ok (.putfield 66, 3) := by decide +kernel
theorem dX3_begin_55 : decode cX3_begin 55 = .ok (.aload_n 0, 1) := by decide +kernel
theorem dX3_begin_56 : decode cX3_begin 56 = .ok (.iconst 0, 1) := by decide +kernel
theorem dX3_begin_57 : decode cX3_begin 57 = .ok (.putfield 69, 3) := by decide +kernel
theorem dX3_begin_60 : decode cX3_begin 60 = .ok (.aload_n 0, 1) := by decide +kernel
theorem dX3_begin_61 : decode cX3_begin 61 = .ok (.iconst 0, 1) := by decide +kernel
theorem dX3_begin_62 : decode cX3_begin 62 = .ok (.putfield 72, 3) := by decide +kernel
theorem dX3_begin_65 : decode cX3_begin 65 = .ok (.return_, 1) := by decide +kernel
theorem dX3_copyFrom_0 : decode cX3_copyFrom 0 = .ok (.aload_n 0, 1) := by decide +kernel
theorem dX3_copyFrom_1 : decode cX3_copyFrom 1 = .ok (.aload_n 1, 1) := by decide +kernel
theorem dX3_copyFrom_2 : decode cX3_copyFrom 2 = .ok (.getfield 34, 3) := by decide +kernel
theorem dX3_copyFrom_5 : decode cX3_copyFrom 5 = .ok (.putfield 34, 3) := by decide +kernel
theorem dX3_copyFrom_8 : decode cX3_copyFrom 8 = .ok (.aload_n 0, 1) := by decide +kernel
theorem dX3_copyFrom_9 : decode cX3_copyFrom 9 = .ok (.aload_n 1, 1) := by decide +kernel
theorem dX3_copyFrom_10 : decode cX3_copyFrom 10 = .ok (.getfield 38, 3) := by decide +kernel
theorem dX3_copyFrom_13 : decode cX3_copyFrom 13 = .ok (.putfield 38, 3) := by decide +kernel
theorem dX3_copyFrom_16 : decode cX3_copyFrom 16 = .ok (.aload_n 0, 1) := by decide +kernel
theorem dX3_copyFrom_17 : decode cX3_copyFrom 17 = .ok (.aload_n 1, 1) := by decide +kernel
theorem dX3_copyFrom_18 : decode cX3_copyFrom 18 = .ok (.getfield 41, 3) := by decide +kernel
theorem dX3_copyFrom_21 : decode cX3_copyFrom 21 = .ok (.putfield 41, 3) := by decide +kernel
theorem dX3_copyFrom_24 : decode cX3_copyFrom 24 = .ok (.aload_n 0, 1) := by decide +kernel
theorem dX3_copyFrom_25 : decode cX3_copyFrom 25 = .ok (.aload_n 1, 1) := by decide +kernel
theorem dX3_copyFrom_26 : decode cX3_copyFrom 26 = .ok (.getfield 44, 3) := by decide +kernel
theorem dX3_copyFrom_29 : decode cX3_copyFrom 29 = .ok (.putfield 44, 3) := by decide +kernel
theorem dX3_copyFrom_32 : decode cX3_copyFrom 32 = .ok (.aload_n 0, 1) := by decide +kernel
theorem dX3_copyFrom_33 : decode cX3_copyFrom 33 = .ok (.aload_n 1, 1) := by decide +kernel
theorem dX3_copyFrom_34 : decode cX3_copyFrom 34 = .ok (.getfield 47, 3) := by decide +kernel
theorem dX3_copyFrom_37 : decode cX3_copyFrom 37 = .ok (.putfield 47, 3) := by decide +kernel
theorem dX3_copyFrom_40 : decode cX3_copyFrom 40 = .ok (.aload_n 0, 1) := by decide +kernel
theorem dX3_copyFrom_41 : decode cX3_copyFrom 41 = .ok (.aload_n 1, 1) := by decide +kernel
theorem dX3_copyFrom_42 : decode cX3_copyFrom 42 = .ok (.getfield 50, 3) := by decide +kernel
theorem dX3_copyFrom_45 : decode cX3_copyFrom 45 = .ok (.putfield 50, 3) := by decide +kernel
theorem dX3_copyFrom_48 : decode cX3_copyFrom 48 = .ok (.aload_n 0, 1) := by decide +kernel
theorem dX3_copyFrom_49 : decode cX3_copyFrom 49 = .ok (.aload_n 1, 1) := by decide +kernel
theorem dX3_copyFrom_50 : decode cX3_copyFrom 50 = .ok (.getfield 54, 3) := by decide +kernel
theorem dX3_copyFrom_53 : decode cX3_copyFrom 53 = .ok (.putfield 54, 3) := by decide +kernel
theorem dX3_copyFrom_56 : decode cX3_copyFrom 56 = .ok (.aload_n 0, 1) := by decide +kernel
theorem dX3_copyFrom_57 : decode cX3_copyFrom 57 = .ok (.aload_n 1, 1) := by decide +kernel
theorem dX3_copyFrom_58 : decode cX3_copyFrom 58 = .ok (.getfield 57, 3) := by decide +kernel
theorem dX3_copyFrom_61 : decode cX3_copyFrom 61 = .ok (.putfield 57, 3) := by decide +kernel
theorem dX3_copyFrom_64 : decode cX3_copyFrom 64 = .ok (.aload_n 0, 1) := by decide +kernel
theorem dX3_copyFrom_65 : decode cX3_copyFrom 65 = .ok (.aload_n 1, 1) := by decide +kernel
theorem dX3_copyFrom_66 : decode cX3_copyFrom 66 = .ok (.getfield 60, 3) := by decide +kernel
theorem dX3_copyFrom_69 : decode cX3_copyFrom 69 = .ok (.putfield 60, 3) := by decide +kernel
theorem dX3_copyFrom_72 : decode cX3_copyFrom 72 = .ok (.aload_n 0, 1) := by decide +kernel
theorem dX3_copyFrom_73 : decode cX3_copyFrom 73 = .ok (.aload_n 1, 1) := by decide +kernel
theorem dX3_copyFrom_74 : decode cX3_copyFrom 74 = .ok (.getfield 63, 3) := by decide +kernel
theorem dX3_copyFrom_77 : decode cX3_copyFrom 77 = .ok (.putfield 63, 3) := by decide +kernel
theorem dX3_copyFrom_80 : decode cX3_copyFrom 80 = .ok (.aload_n 0, 1) := by decide +kernel
theorem dX3_copyFrom_81 : decode cX3_copyFrom 81 = .ok (.aload_n 1, 1) := by decide +kernel
theorem dX3_copyFrom_82 : decode cX3_copyFrom 82 = .ok (.getfield 66, 3) := by decide +kernel
theorem dX3_copyFrom_85 : decode cX3_copyFrom 85 = .ok (.putfield 66, 3) := by decide +kernel
theorem dX3_copyFrom_88 : decode cX3_copyFrom 88 = .ok (.aload_n 0, 1) := by decide +kernel
theorem dX3_copyFrom_89 : decode cX3_copyFrom 89 = .ok (.aload_n 1, 1) := by decide +kernel
theorem dX3_copyFrom_90 : decode cX3_copyFrom 90 = .ok (.getfield 69, 3) := by decide +kernel
theorem dX3_copyFrom_93 : decode cX3_copyFrom 93 = .ok (.putfield 69, 3) := by decide +kernel
theorem dX3_copyFrom_96 : decode cX3_copyFrom 96 = .ok (.aload_n 0, 1) := by decide +kernel
theorem dX3_copyFrom_97 : decode cX3_copyFrom 97 = .ok (.aload_n 1, 1) := by decide +kernel
theorem dX3_copyFrom_98 : decode cX3_copyFrom 98 = .ok (.getfield 72, 3) := by decide +kernel
theorem dX3_copyFrom_101 : decode cX3_copyFrom 101 = .ok (.putfield 72, 3) := by decide +kernel
theorem dX3_copyFrom_104 : decode cX3_copyFrom 104 = .ok (.aload_n 1, 1) := by decide +kernel
theorem dX3_copyFrom_105 : decode cX3_copyFrom 105 = .ok (.getfield 9, 3) := by decide +kernel
theorem dX3_copyFrom_108 : decode cX3_copyFrom 108 = .ok (.iconst 0, 1) := by decide +kernel
theorem dX3_copyFrom_109 : decode cX3_copyFrom 109 = .ok (.aload_n 0, 1) := by decide +kernel
theorem dX3_copyFrom_110 : decode cX3_copyFrom 110 = .ok (.getfield 9, 3) := by decide +kernel
theorem dX3_copyFrom_113 : decode cX3_copyFrom 113 = .ok (.iconst 0, 1) := by decide +kernel
theorem dX3_copyFrom_114 : decode cX3_copyFrom 114 = .ok (.aload_n 0, 1) := by decide +kernel
theorem dX3_copyFrom_115 : decode cX3_copyFrom 115 = .ok (.getfield 66, 3) := by decide +kernel
theorem dX3_copyFrom_118 : decode cX3_copyFrom 118 = .ok (.invokestatic 75, 3) := by decide +kernel
theorem dX3_copyFrom_121 : decode cX3_copyFrom 121 = .ok (.aload_n 1, 1) := by decide +kernel
theorem dX3_copyFrom_122 : decode cX3_copyFrom 122 = .ok (.getfield 15, 3) := by decide +kernel
theorem dX3_copyFrom_125 : decode cX3_copyFrom 125 = .ok (.iconst 0, 1) := by decide +kernel
theorem dX3_copyFrom_126 : decode cX3_copyFrom 126 = .ok (.aload_n 0, 1) := by decide +kernel
theorem dX3_copyFrom_127 : decode cX3_copyFrom 127 = .ok (.getfield 15, 3) := by decide +kernel
theorem dX3_copyFrom_130 : decode cX3_copyFrom 130 = .ok (.iconst 0, 1) := by decide +kernel
theorem dX3_copyFrom_131 : decode cX3_copyFrom 131 = .ok (.aload_n 0, 1) := by decide +kernel
theorem dX3_copyFrom_132 : decode cX3_copyFrom 132 = .ok (.getfield 66, 3) := by decide +kernel
theorem dX3_copyFrom_135 : decode cX3_copyFrom 135 = .ok (.invokestatic 75, 3) := by decide +kernel
theorem dX3_copyFrom_138 : decode cX3_copyFrom 138 = .ok (.aload_n 1, 1) := by decide +kernel
theorem dX3_copyFrom_139 : decode cX3_copyFrom 139 = .ok (.getfield 18, 3) := by decide +kernel
theorem dX3_copyFrom_142 : decode cX3_copyFrom 142 = .ok (.iconst 0, 1) := by decide +kernel
theorem dX3_copyFrom_143 : decode cX3_copyFrom 143 = .ok (.aload_n 0, 1) := by decide +kernel
theorem dX3_copyFrom_144 : decode cX3_copyFrom 144 = .ok (.getfield 18, 3) := by decide +kernel
theorem dX3_copyFrom_147 : decode cX3_copyFrom 147 = .ok (.iconst 0, 1) := by decide +kernel
theorem dX3_copyFrom_148 : decode cX3_copyFrom 148 = .ok (.aload_n 0, 1) := by decide +kernel
theorem dX3_copyFrom_149 : decode cX3_copyFrom 149 = .ok (.getfield 66, 3) := by decide +kernel
theorem dX3_copyFrom_152 : decode cX3_copyFrom 152 = .ok (.invokestatic 75, 3) := by decide +kernel
theorem dX3_copyFrom_155 : decode cX3_copyFrom 155 = .ok (.aload_n 1, 1) := by decide +kernel
theorem dX3_copyFrom_156 : decode cX3_copyFrom 156 = .ok (.getfield 21, 3) := by decide +kernel
theorem dX3_copyFrom_159 : decode cX3_copyFrom 159 = .ok (.iconst 0, 1) := by decide +kernel
theorem dX3_copyFrom_160 : decode cX3_copyFrom 160 = .ok (.aload_n 0, 1) := by decide +kernel
theorem dX3_copyFrom_161 : decode cX3_copyFrom 161 = .ok (.getfield 21, 3) := by decide +kernel
theorem dX3_copyFrom_164 : decode cX3_copyFrom 164 = .ok (.iconst 0, 1) := by decide +kernel
theorem dX3_copyFrom_165 : decode cX3_copyFrom 165 = .ok (.aload_n 0, 1) := by decide +kernel
theorem dX3_copyFrom_166 : decode cX3_copyFrom 166 = .ok (.getfield 66, 3) := by decide +kernel
theorem dX3_copyFrom_169 : decode cX3_copyFrom 169 = .ok (.invokestatic 75, 3) := by decide +kernel
theorem dX3_copyFrom_172 : decode cX3_copyFrom 172 = .ok (.aload_n 1, 1) := by decide +kernel
theorem dX3_copyFrom_173 : decode cX3_copyFrom 173 = .ok (.getfield 24, 3) := by decide +kernel
theorem dX3_copyFrom_176 : decode cX3_copyFrom 176 = .ok (.iconst 0, 1) := by decide +kernel
theorem dX3_copyFrom_177 : decode cX3_copyFrom 177 = .ok (.aload_n 0, 1) := by decide +kernel
theorem dX3_copyFrom_178 : decode cX3_copyFrom 178 = .ok (.getfield 24, 3) := by decide +kernel
theorem dX3_copyFrom_181 : decode cX3_copyFrom 181 = .ok (.iconst 0, 1) := by decide +kernel
theorem dX3_copyFrom_182 : decode cX3_copyFrom 182 = .ok (.aload_n 0, 1) := by decide +kernel
theorem dX3_copyFrom_183 : decode cX3_copyFrom 183 = .ok (.getfield 66, 3) := by decide +kernel
theorem dX3_copyFrom_186 : decode cX3_copyFrom 186 = .ok (.invokestatic 75, 3) := by decide +kernel
theorem dX3_copyFrom_189 : decode cX3_copyFrom 189 = .ok (.aload_n 1, 1) := by decide +kernel
theorem dX3_copyFrom_190 : decode cX3_copyFrom 190 = .ok (.getfield 27, 3) := by decide +kernel
theorem dX3_copyFrom_193 : decode cX3_copyFrom 193 = .ok (.iconst 0, 1) := by decide +kernel
theorem dX3_copyFrom_194 : decode cX3_copyFrom 194 = .ok (.aload_n 0, 1) := by decide +kernel
theorem dX3_copyFrom_195 : decode cX3_copyFrom 195 = .ok (.getfield 27, 3) := by decide +kernel
theorem dX3_copyFrom_198 : decode cX3_copyFrom 198 = .ok (.iconst 0, 1) := by decide +kernel
theorem dX3_copyFrom_199 : decode cX3_copyFrom 199 = .ok (.aload_n 0, 1) := by decide +kernel
theorem dX3_copyFrom_200 : decode cX3_copyFrom 200 = .ok (.getfield 66, 3) := by decide +kernel
theorem dX3_copyFrom_203 : decode cX3_copyFrom 203 = .ok (.invokestatic 75, 3) := by decide +kernel
theorem dX3_copyFrom_206 : decode cX3_copyFrom 206 = .ok (.return_, 1) := by decide +kernel
theorem dX3_addArrival_0 : decode cX3_addArrival 0 = .ok (.aload_n 0, 1) := by decide +kernel
theorem dX3_addArrival_1 : decode cX3_addArrival 1 = .ok (.getfield 66, 3) := by decide +kernel
theorem dX3_addArrival_4 : decode cX3_addArrival 4 = .ok (.bipush 40, 2) := by decide +kernel
theorem dX3_addArrival_6 : decode cX3_addArrival 6 = .ok (.if_icmp .lt 4, 3) := by decide +kernel
theorem dX3_addArrival_9 : decode cX3_addArrival 9 = .ok (.return_, 1) := by decide +kernel
theorem dX3_addArrival_10 : decode cX3_addArrival 10 = .ok (.aload_n 0, 1) := by decide +kernel
theorem dX3_addArrival_11 : decode cX3_addArrival 11 = .ok (.getfield 9, 3) := by decide +kernel
theorem dX3_addArrival_14 : decode cX3_addArrival 14 = .ok (.aload_n 0, 1) := by decide +kernel
theorem dX3_addArrival_15 : decode cX3_addArrival 15 = .ok (.getfield 66, 3) := by decide +kernel
theorem dX3_addArrival_18 : decode cX3_addArrival 18 = .ok (.iload_n 1, 1) := by decide +kernel
theorem dX3_addArrival_19 : decode cX3_addArrival 19 = .ok (.iastore, 1) := by decide +kernel
theorem dX3_addArrival_20 : decode cX3_addArrival 20 = .ok (.aload_n 0, 1) := by decide +kernel
theorem dX3_addArrival_21 : decode cX3_addArrival 21 = .ok (.getfield 15, 3) := by decide +kernel
theorem dX3_addArrival_24 : decode cX3_addArrival 24 = .ok (.aload_n 0, 1) := by decide +kernel
theorem dX3_addArrival_25 : decode cX3_addArrival 25 = .ok (.getfield 66, 3) := by decide +kernel
theorem dX3_addArrival_28 : decode cX3_addArrival 28 = .ok (.iload_n 2, 1) := by decide +kernel
theorem dX3_addArrival_29 : decode cX3_addArrival 29 = .ok (.iastore, 1) := by decide +kernel
theorem dX3_addArrival_30 : decode cX3_addArrival 30 = .ok (.aload_n 0, 1) := by decide +kernel
theorem dX3_addArrival_31 : decode cX3_addArrival 31 = .ok (.getfield 18, 3) := by decide +kernel
theorem dX3_addArrival_34 : decode cX3_addArrival 34 = .ok (.aload_n 0, 1) := by decide +kernel
theorem dX3_addArrival_35 : decode cX3_addArrival 35 = .ok (.getfield 66, 3) := by decide +kernel
theorem dX3_addArrival_38 : decode cX3_addArrival 38 = .ok (.iload_n 3, 1) := by decide +kernel
theorem dX3_addArrival_39 : decode cX3_addArrival 39 = .ok (.iastore, 1) := by decide +kernel
theorem dX3_addArrival_40 : decode cX3_addArrival 40 = .ok (.aload_n 0, 1) := by decide +kernel
theorem dX3_addArrival_41 : decode cX3_addArrival 41 = .ok (.getfield 21, 3) := by decide +kernel
theorem dX3_addArrival_44 : decode cX3_addArrival 44 = .ok (.aload_n 0, 1) := by decide +kernel
theorem dX3_addArrival_45 : decode cX3_addArrival 45 = .ok (.getfield 66, 3) := by decide +kernel
theorem dX3_addArrival_48 : decode cX3_addArrival 48 = .ok (.iconst (-1), 1) := by decide +kernel
theorem dX3_addArrival_49 : decode cX3_addArrival 49 = .ok (.iastore, 1) := by decide +kernel
theorem dX3_addArrival_50 : decode cX3_addArrival 50 = .ok (.aload_n 0, 1) := by decide +kernel
theorem dX3_addArrival_51 : decode cX3_addArrival 51 = .ok (.getfield 24, 3) := by decide +kernel
theorem dX3_addArrival_54 : decode cX3_addArrival 54 = .ok (.aload_n 0, 1) := by decide +kernel
theorem dX3_addArrival_55 : decode cX3_addArrival 55 = .ok (.getfield 66, 3) := by decide +kernel
theorem dX3_addArrival_58 : decode cX3_addArrival 58 = .ok (.iconst (-1), 1) := by decide +kernel
theorem dX3_addArrival_59 : decode cX3_addArrival 59 = .ok (.iastore, 1) := by decide +kernel
theorem dX3_addArrival_60 : decode cX3_addArrival 60 = .ok (.aload_n 0, 1) := by decide +kernel
theorem dX3_addArrival_61 : decode cX3_addArrival 61 = .ok (.getfield 66, 3) := by decide +kernel
theorem dX3_addArrival_64 : decode cX3_addArrival 64 = .ok (.istore 4, 2) := by decide +kernel
theorem dX3_addArrival_66 : decode cX3_addArrival 66 = .ok (.iload 4, 2) := by decide +kernel
theorem dX3_addArrival_68 : decode cX3_addArrival 68 = .ok (.ifCond .le 43, 3) := by decide +kernel
theorem dX3_addArrival_71 : decode cX3_addArrival 71 = .ok (.aload_n 0, 1) := by decide +kernel
theorem dX3_addArrival_72 : decode cX3_addArrival 72 = .ok (.getfield 18, 3) := by decide +kernel
theorem dX3_addArrival_75 : decode cX3_addArrival 75 = .ok (.aload_n 0, 1) := by decide +kernel
theorem dX3_addArrival_76 : decode cX3_addArrival 76 = .ok (.getfield 27, 3) := by decide +kernel
theorem dX3_addArrival_79 : decode cX3_addArrival 79 = .ok (.iload 4, 2) := by decide +kernel
theorem dX3_addArrival_81 : decode cX3_addArrival 81 = .ok (.iconst 1, 1) := by decide +kernel
theorem dX3_addArrival_82 : decode cX3_addArrival 82 = .ok (.isub, 1) := by decide +kernel
theorem dX3_addArrival_83 : decode cX3_addArrival 83 = .ok (.iaload, 1) := by decide +kernel
theorem dX3_addArrival_84 : decode cX3_addArrival 84 = .ok (.iaload, 1) := by decide +kernel
theorem dX3_addArrival_85 : decode cX3_addArrival 85 = .ok (.iload_n 3, 1) := by decide +kernel
theorem dX3_addArrival_86 : decode cX3_addArrival 86 = .ok (.if_icmp .le 25, 3) := by decide +kernel
theorem dX3_addArrival_89 : decode cX3_addArrival 89 = .ok (.aload_n 0, 1) := by decide +kernel
theorem dX3_addArrival_90 : decode cX3_addArrival 90 = .ok (.getfield 27, 3) := by decide +kernel
theorem dX3_addArrival_93 : decode cX3_addArrival 93 = .ok (.iload 4, 2) := by decide +kernel
theorem dX3_addArrival_95 : decode cX3_addArrival 95 = .ok (.aload_n 0, 1) := by decide +kernel
theorem dX3_addArrival_96 : decode cX3_addArrival 96 = .ok (.getfield 27, 3) := by decide +kernel
theorem dX3_addArrival_99 : decode cX3_addArrival 99 = .ok (.iload 4, 2) := by decide +kernel
theorem dX3_addArrival_101 : decode cX3_addArrival 101 = .ok (.iconst 1, 1) := by decide +kernel
theorem dX3_addArrival_102 : decode cX3_addArrival 102 = .ok (.isub, 1) := by decide +kernel
theorem dX3_addArrival_103 : decode cX3_addArrival 103 = .ok (.iaload, 1) := by decide +kernel
theorem dX3_addArrival_104 : decode cX3_addArrival 104 = .ok (.iastore, 1) := by decide +kernel
theorem dX3_addArrival_105 : decode cX3_addArrival 105 = .ok (.iinc 4 (-1), 3) := by decide +kernel
theorem dX3_addArrival_108 : decode cX3_addArrival 108 = .ok (.goto (-42), 3) := by decide +kernel
theorem dX3_addArrival_111 : decode cX3_addArrival 111 = .ok (.aload_n 0, 1) := by decide +kernel
theorem dX3_addArrival_112 : decode cX3_addArrival 112 = .ok (.getfield 27, 3) := by decide +kernel
theorem dX3_addArrival_115 : decode cX3_addArrival 115 = .ok (.iload 4, 2) := by decide +kernel
theorem dX3_addArrival_117 : decode cX3_addArrival 117 = .ok (.aload_n 0, 1) := by decide +kernel
theorem dX3_addArrival_118 : decode cX3_addArrival 118 = .ok (.getfield 66, 3) := by decide +kernel
theorem dX3_addArrival_121 : decode cX3_addArrival 121 = .ok (.iastore, 1) := by decide +kernel
theorem dX3_addArrival_122 : decode cX3_addArrival 122 = .ok (.aload_n 0, 1) := by decide +kernel
theorem dX3_addArrival_123 : decode cX3_addArrival 123 = .ok (.dup, 1) := by decide +kernel
theorem dX3_addArrival_124 : decode cX3_addArrival 124 = .ok (.getfield 66, 3) := by decide +kernel
theorem dX3_addArrival_127 : decode cX3_addArrival 127 = .ok (.iconst 1, 1) := by decide +kernel
theorem dX3_addArrival_128 : decode cX3_addArrival 128 = .ok (.iadd, 1) := by decide +kernel
theorem dX3_addArrival_129 : decode cX3_addArrival 129 = .ok (.putfield 66, 3) := by decide +kernel
theorem dX3_addArrival_132 : decode cX3_addArrival 132 = .ok (.return_, 1) := by decide +kernel
theorem dX3_findStatus_0 : decode cX3_findStatus 0 = .ok (.aload_n 0, 1) := by decide +kernel
theorem dX3_findStatus_1 : decode cX3_findStatus 1 = .ok (.getfield 24, 3) := by decide +kernel
theorem dX3_findStatus_4 : decode cX3_findStatus 4 = .ok (.iload_n 1, 1) := by decide +kernel
theorem dX3_findStatus_5 : decode cX3_findStatus 5 = .ok (.iaload, 1) := by decide +kernel
theorem dX3_findStatus_6 : decode cX3_findStatus 6 = .ok (.iconst (-1), 1) := by decide +kernel
theorem dX3_findStatus_7 : decode cX3_findStatus 7 = .ok (.if_icmp .eq 5, 3) := by decide +kernel
theorem dX3_findStatus_10 : decode cX3_findStatus 10 = .ok (.iconst 3, 1) := by decide +kernel
theorem dX3_findStatus_11 : decode cX3_findStatus 11 = .ok (.ireturn, 1) := by decide +kernel
theorem dX3_findStatus_12 : decode cX3_findStatus 12 = .ok (.aload_n 0, 1) := by decide +kernel
theorem dX3_findStatus_13 : decode cX3_findStatus 13 = .ok (.getfield 21, 3) := by decide +kernel
theorem dX3_findStatus_16 : decode cX3_findStatus 16 = .ok (.iload_n 1, 1) := by decide +kernel
theorem dX3_findStatus_17 : decode cX3_findStatus 17 = .ok (.iaload, 1) := by decide +kernel
theorem dX3_findStatus_18 : decode cX3_findStatus 18 = .ok (.iconst (-1), 1) := by decide +kernel
theorem dX3_findStatus_19 : decode cX3_findStatus 19 = .ok (.if_icmp .eq 5, 3) := by decide +kernel
theorem dX3_findStatus_22 : decode cX3_findStatus 22 = .ok (.iconst 2, 1) := by decide +kernel
theorem dX3_findStatus_23 : decode cX3_findStatus 23 = .ok (.ireturn, 1) := by decide +kernel
theorem dX3_findStatus_24 : decode cX3_findStatus 24 = .ok (.aload_n 0, 1) := by decide +kernel
theorem dX3_findStatus_25 : decode cX3_findStatus 25 = .ok (.getfield 18, 3) := by decide +kernel
theorem dX3_findStatus_28 : decode cX3_findStatus 28 = .ok (.iload_n 1, 1) := by decide +kernel
theorem dX3_findStatus_29 : decode cX3_findStatus 29 = .ok (.iaload, 1) := by decide +kernel
theorem dX3_findStatus_30 : decode cX3_findStatus 30 = .ok (.aload_n 0, 1) := by decide +kernel
theorem dX3_findStatus_31 : decode cX3_findStatus 31 = .ok (.getfield 44, 3) := by decide +kernel
theorem dX3_findStatus_34 : decode cX3_findStatus 34 = .ok (.if_icmp .gt 7, 3) := by decide +kernel
theorem dX3_findStatus_37 : decode cX3_findStatus 37 = .ok (.iconst 1, 1) := by decide +kernel
theorem dX3_findStatus_38 : decode cX3_findStatus 38 = .ok (.goto 4, 3) := by decide +kernel
theorem dX3_findStatus_41 : decode cX3_findStatus 41 = .ok (.iconst 0, 1) := by decide +kernel
theorem dX3_findStatus_42 : decode cX3_findStatus 42 = .ok (.ireturn, 1) := by decide +kernel
theorem dX3_findWait_0 : decode cX3_findWait 0 = .ok (.aload_n 0, 1) := by decide +kernel
theorem dX3_findWait_1 : decode cX3_findWait 1 = .ok (.getfield 21, 3) := by decide +kernel
theorem dX3_findWait_4 : decode cX3_findWait 4 = .ok (.iload_n 1, 1) := by decide +kernel
theorem dX3_findWait_5 : decode cX3_findWait 5 = .ok (.iaload, 1) := by decide +kernel
theorem dX3_findWait_6 : decode cX3_findWait 6 = .ok (.iconst (-1), 1) := by decide +kernel
theorem dX3_findWait_7 : decode cX3_findWait 7 = .ok (.if_icmp .ne 7, 3) := by decide +kernel
theorem dX3_findWait_10 : decode cX3_findWait 10 = .ok (.iconst (-1), 1) := by decide +kernel
theorem dX3_findWait_11 : decode cX3_findWait 11 = .ok (.goto 16, 3) := by decide +kernel
theorem dX3_findWait_14 : decode cX3_findWait 14 = .ok (.aload_n 0, 1) := by decide +kernel
theorem dX3_findWait_15 : decode cX3_findWait 15 = .ok (.getfield 21, 3) := by decide +kernel
theorem dX3_findWait_18 : decode cX3_findWait 18 = .ok (.iload_n 1, 1) := by decide +kernel
theorem dX3_findWait_19 : decode cX3_findWait 19 = .ok (.iaload, 1) := by decide +kernel
theorem dX3_findWait_20 : decode cX3_findWait 20 = .ok (.aload_n 0, 1) := by decide +kernel
theorem dX3_findWait_21 : decode cX3_findWait 21 = .ok (.getfield 18, 3) := by decide +kernel
theorem dX3_findWait_24 : decode cX3_findWait 24 = .ok (.iload_n 1, 1) := by decide +kernel
theorem dX3_findWait_25 : decode cX3_findWait 25 = .ok (.iaload, 1) := by decide +kernel
theorem dX3_findWait_26 : decode cX3_findWait 26 = .ok (.isub, 1) := by decide +kernel
theorem dX3_findWait_27 : decode cX3_findWait 27 = .ok (.ireturn, 1) := by decide +kernel
theorem dX3_findRide_0 : decode cX3_findRide 0 = .ok (.aload_n 0, 1) := by decide +kernel
theorem dX3_findRide_1 : decode cX3_findRide 1 = .ok (.getfield 24, 3) := by decide +kernel
theorem dX3_findRide_4 : decode cX3_findRide 4 = .ok (.iload_n 1, 1) := by decide +kernel
theorem dX3_findRide_5 : decode cX3_findRide 5 = .ok (.iaload, 1) := by decide +kernel
theorem dX3_findRide_6 : decode cX3_findRide 6 = .ok (.iconst (-1), 1) := by decide +kernel
theorem dX3_findRide_7 : decode cX3_findRide 7 = .ok (.if_icmp .ne 7, 3) := by decide +kernel
theorem dX3_findRide_10 : decode cX3_findRide 10 = .ok (.iconst (-1), 1) := by decide +kernel
theorem dX3_findRide_11 : decode cX3_findRide 11 = .ok (.goto 16, 3) := by decide +kernel
theorem dX3_findRide_14 : decode cX3_findRide 14 = .ok (.aload_n 0, 1) := by decide +kernel
theorem dX3_findRide_15 : decode cX3_findRide 15 = .ok (.getfield 24, 3) := by decide +kernel
theorem dX3_findRide_18 : decode cX3_findRide 18 = .ok (.iload_n 1, 1) := by decide +kernel
theorem dX3_findRide_19 : decode cX3_findRide 19 = .ok (.iaload, 1) := by decide +kernel
theorem dX3_findRide_20 : decode cX3_findRide 20 = .ok (.aload_n 0, 1) := by decide +kernel
theorem dX3_findRide_21 : decode cX3_findRide 21 = .ok (.getfield 21, 3) := by decide +kernel
theorem dX3_findRide_24 : decode cX3_findRide 24 = .ok (.iload_n 1, 1) := by decide +kernel
theorem dX3_findRide_25 : decode cX3_findRide 25 = .ok (.iaload, 1) := by decide +kernel
theorem dX3_findRide_26 : decode cX3_findRide 26 = .ok (.isub, 1) := by decide +kernel
theorem dX3_findRide_27 : decode cX3_findRide 27 = .ok (.ireturn, 1) := by decide +kernel
theorem dX3_countWith_0 : decode cX3_countWith 0 = .ok (.iconst 0, 1) := by decide +kernel
theorem dX3_countWith_1 : decode cX3_countWith 1 = .ok (.istore_n 2, 1) := by decide +kernel
theorem dX3_countWith_2 : decode cX3_countWith 2 = .ok (.iconst 0, 1) := by decide +kernel
theorem dX3_countWith_3 : decode cX3_countWith 3 = .ok (.istore_n 3, 1) := by decide +kernel
theorem dX3_countWith_4 : decode cX3_countWith 4 = .ok (.iload_n 3, 1) := by decide +kernel
theorem dX3_countWith_5 : decode cX3_countWith 5 = .ok (.aload_n 0, 1) := by decide +kernel
theorem dX3_countWith_6 : decode cX3_countWith 6 = .ok (.getfield 66, 3) := by decide +kernel
theorem dX3_countWith_9 : decode cX3_countWith 9 = .ok (.if_icmp .ge 21, 3) := by decide +kernel
theorem dX3_countWith_12 : decode cX3_countWith 12 = .ok (.aload_n 0, 1) := by decide +kernel
theorem dX3_countWith_13 : decode cX3_countWith 13 = .ok (.iload_n 3, 1) := by decide +kernel
theorem dX3_countWith_14 : decode cX3_countWith 14 = .ok (.invokevirtual 81, 3) := by decide +kernel
theorem dX3_countWith_17 : decode cX3_countWith 17 = .ok (.iload_n 1, 1) := by decide +kernel
theorem dX3_countWith_18 : decode cX3_countWith 18 = .ok (.if_icmp .ne 6, 3) := by decide +kernel
theorem dX3_countWith_21 : decode cX3_countWith 21 = .ok (.iinc 2 1, 3) := by decide +kernel
theorem dX3_countWith_24 : decode cX3_countWith 24 = .ok (.iinc 3 1, 3) := by decide +kernel
theorem dX3_countWith_27 : decode cX3_countWith 27 = .ok (.goto (-23), 3) := by decide +kernel
theorem dX3_countWith_30 : decode cX3_countWith 30 = .ok (.iload_n 2, 1) := by decide +kernel
theorem dX3_countWith_31 : decode cX3_countWith 31 = .ok (.ireturn, 1) := by decide +kernel
theorem dX3_countWaiting_0 : decode cX3_countWaiting 0 = .ok (.iconst 0, 1) := by decide +kernel
theorem dX3_countWaiting_1 : decode cX3_countWaiting 1 = .ok (.istore_n 2, 1) := by decide +kernel
theorem dX3_countWaiting_2 : decode cX3_countWaiting 2 = .ok (.iconst 0, 1) := by decide +kernel
theorem dX3_countWaiting_3 : decode cX3_countWaiting 3 = .ok (.istore_n 3, 1) := by decide +kernel
theorem dX3_countWaiting_4 : decode cX3_countWaiting 4 = .ok (.iload_n 3, 1) := by decide +kernel
theorem dX3_countWaiting_5 : decode cX3_countWaiting 5 = .ok (.aload_n 0, 1) := by decide +kernel
theorem dX3_countWaiting_6 : decode cX3_countWaiting 6 = .ok (.getfield 66, 3) := by decide +kernel
theorem dX3_countWaiting_9 : decode cX3_countWaiting 9 = .ok (.if_icmp .ge 31, 3) := by decide +kernel
theorem dX3_countWaiting_12 : decode cX3_countWaiting 12 = .ok (.aload_n 0, 1) := by decide +kernel
theorem dX3_countWaiting_13 : decode cX3_countWaiting 13 = .ok (.getfield 9, 3) := by decide +kernel
theorem dX3_countWaiting_16 : decode cX3_countWaiting 16 = .ok (.iload_n 3, 1) := by decide +kernel
theorem dX3_countWaiting_17 : decode cX3_countWaiting 17 = .ok (.iaload, 1) := by decide +kernel
theorem dX3_countWaiting_18 : decode cX3_countWaiting 18 = .ok (.iload_n 1, 1) := by decide +kernel
theorem dX3_countWaiting_19 : decode cX3_countWaiting 19 = .ok (.if_icmp .ne 15, 3) := by decide +kernel
theorem dX3_countWaiting_22 : decode cX3_countWaiting 22 = .ok (.aload_n 0, 1) := by decide +kernel
theorem dX3_countWaiting_23 : decode cX3_countWaiting 23 = .ok (.iload_n 3, 1) := by decide +kernel
theorem dX3_countWaiting_24 : decode cX3_countWaiting 24 = .ok (.invokevirtual 81, 3) := by decide +kernel
theorem dX3_countWaiting_27 : decode cX3_countWaiting 27 = .ok (.iconst 1, 1) := by decide +kernel
theorem dX3_countWaiting_28 : decode cX3_countWaiting 28 = .ok (.if_icmp .ne 6, 3) := by decide +kernel
theorem dX3_countWaiting_31 : decode cX3_countWaiting 31 = .ok (.iinc 2 1, 3) := by decide +kernel
theorem dX3_countWaiting_34 : decode cX3_countWaiting 34 = .ok (.iinc 3 1, 3) := by decide +kernel
theorem dX3_countWaiting_37 : decode cX3_countWaiting 37 = .ok (.goto (-33), 3) := by decide +kernel
theorem dX3_countWaiting_40 : decode cX3_countWaiting 40 = .ok (.iload_n 2, 1) := by decide +kernel
theorem dX3_countWaiting_41 : decode cX3_countWaiting 41 = .ok (.ireturn, 1) := by decide +kernel
theorem dX3_findFirstWaiting_0 : decode cX3_findFirstWaiting 0 = .ok (.iconst 0, 1) := by decide +kernel
theorem dX3_findFirstWaiting_1 : decode cX3_findFirstWaiting 1 = .ok (.istore_n 1, 1) := by decide +kernel
theorem dX3_findFirstWaiting_2 : decode cX3_findFirstWaiting 2 = .ok (.iload_n 1, 1) := by decide +kernel
theorem dX3_findFirstWaiting_3 : decode cX3_findFirstWaiting 3 = .ok (.aload_n 0, 1) := by decide +kernel
theorem dX3_findFirstWaiting_4 : decode cX3_findFirstWaiting 4 = .ok (.getfield 66, 3) := by decide +kernel
theorem dX3_findFirstWaiting_7 : decode cX3_findFirstWaiting 7 = .ok (.if_icmp .ge 45, 3) := by decide +kernel
theorem dX3_findFirstWaiting_10 : decode cX3_findFirstWaiting 10 = .ok (.aload_n 0, 1) := by decide +kernel
theorem dX3_findFirstWaiting_11 : decode cX3_findFirstWaiting 11 = .ok (.getfield 27, 3) := by decide +kernel
theorem dX3_findFirstWaiting_14 : decode cX3_findFirstWaiting 14 = .ok (.iload_n 1, 1) := by decide +kernel
theorem dX3_findFirstWaiting_15 : decode cX3_findFirstWaiting 15 = .ok (.iaload, 1) := by decide +kernel
theorem dX3_findFirstWaiting_16 : decode cX3_findFirstWaiting 16 = .ok (.istore_n 2, 1) := by decide +kernel
theorem dX3_findFirstWaiting_17 : decode cX3_findFirstWaiting 17 = .ok (.aload_n 0, 1) := by decide +kernel
theorem dX3_findFirstWaiting_18 : decode cX3_findFirstWaiting 18 = .ok (.getfield 21, 3) := by decide +kernel
theorem dX3_findFirstWaiting_21 : decode cX3_findFirstWaiting 21 = .ok (.iload_n 2, 1) := by decide +kernel
theorem dX3_findFirstWaiting_22 : decode cX3_findFirstWaiting 22 = .ok (.iaload, 1) := by decide +kernel
theorem dX3_findFirstWaiting_23 : decode cX3_findFirstWaiting 23 = .ok (.iconst (-1), 1) := by decide +kernel
theorem dX3_findFirstWaiting_24 : decode cX3_findFirstWaiting 24 = .ok (.if_icmp .ne 22, 3) := by decide +kernel
theorem dX3_findFirstWaiting_27 : decode cX3_findFirstWaiting 27 = .ok (.aload_n 0, 1) := by decide +kernel
theorem dX3_findFirstWaiting_28 : decode cX3_findFirstWaiting 28 = .ok (.getfield 18, 3) := by decide +kernel
theorem dX3_findFirstWaiting_31 : decode cX3_findFirstWaiting 31 = .ok (.iload_n 2, 1) := by decide +kernel
theorem dX3_findFirstWaiting_32 : decode cX3_findFirstWaiting 32 = .ok (.iaload, 1) := by decide +kernel
theorem dX3_findFirstWaiting_33 : decode cX3_findFirstWaiting 33 = .ok (.aload_n 0, 1) := by decide +kernel
theorem dX3_findFirstWaiting_34 : decode cX3_findFirstWaiting 34 = .ok (.getfield 44, 3) := by decide +kernel
theorem dX3_findFirstWaiting_37 : decode cX3_findFirstWaiting 37 = .ok (.if_icmp .gt 7, 3) := by decide +kernel
theorem dX3_findFirstWaiting_40 : decode cX3_findFirstWaiting 40 = .ok (.iload_n 2, 1) := by decide +kernel
theorem dX3_findFirstWaiting_41 : decode cX3_findFirstWaiting 41 = .ok (.goto 4, 3) := by decide +kernel
theorem dX3_findFirstWaiting_44 : decode cX3_findFirstWaiting 44 = .ok (.iconst (-1), 1) := by decide +kernel
theorem dX3_findFirstWaiting_45 : decode cX3_findFirstWaiting 45 = .ok (.ireturn, 1) := by decide +kernel
theorem dX3_findFirstWaiting_46 : decode cX3_findFirstWaiting 46 = .ok (.iinc 1 1, 3) := by decide +kernel
theorem dX3_findFirstWaiting_49 : decode cX3_findFirstWaiting 49 = .ok (.goto (-47), 3) := by decide +kernel
theorem dX3_findFirstWaiting_52 : decode cX3_findFirstWaiting 52 = .ok (.iconst (-1), 1) := by decide +kernel
theorem dX3_findFirstWaiting_53 : decode cX3_findFirstWaiting 53 = .ok (.ireturn, 1) := by decide +kernel
theorem dX3_sumWaits_0 : decode cX3_sumWaits 0 = .ok (.iconst 0, 1) := by decide +kernel
theorem dX3_sumWaits_1 : decode cX3_sumWaits 1 = .ok (.istore_n 1, 1) := by decide +kernel
theorem dX3_sumWaits_2 : decode cX3_sumWaits 2 = .ok (.iconst 0, 1) := by decide +kernel
theorem dX3_sumWaits_3 : decode cX3_sumWaits 3 = .ok (.istore_n 2, 1) := by decide +kernel
theorem dX3_sumWaits_4 : decode cX3_sumWaits 4 = .ok (.iload_n 2, 1) := by decide +kernel
theorem dX3_sumWaits_5 : decode cX3_sumWaits 5 = .ok (.aload_n 0, 1) := by decide +kernel
theorem dX3_sumWaits_6 : decode cX3_sumWaits 6 = .ok (.getfield 66, 3) := by decide +kernel
theorem dX3_sumWaits_9 : decode cX3_sumWaits 9 = .ok (.if_icmp .ge 21, 3) := by decide +kernel
theorem dX3_sumWaits_12 : decode cX3_sumWaits 12 = .ok (.iload_n 1, 1) := by decide +kernel
theorem dX3_sumWaits_13 : decode cX3_sumWaits 13 = .ok (.aload_n 0, 1) := by decide +kernel
theorem dX3_sumWaits_14 : decode cX3_sumWaits 14 = .ok (.iload_n 2, 1) := by decide +kernel
theorem dX3_sumWaits_15 : decode cX3_sumWaits 15 = .ok (.invokevirtual 85, 3) := by decide +kernel
theorem dX3_sumWaits_18 : decode cX3_sumWaits 18 = .ok (.iconst 0, 1) := by decide +kernel
theorem dX3_sumWaits_19 : decode cX3_sumWaits 19 = .ok (.invokestatic 88, 3) := by decide +kernel
theorem dX3_sumWaits_22 : decode cX3_sumWaits 22 = .ok (.iadd, 1) := by decide +kernel
theorem dX3_sumWaits_23 : decode cX3_sumWaits 23 = .ok (.istore_n 1, 1) := by decide +kernel
theorem dX3_sumWaits_24 : decode cX3_sumWaits 24 = .ok (.iinc 2 1, 3) := by decide +kernel
theorem dX3_sumWaits_27 : decode cX3_sumWaits 27 = .ok (.goto (-23), 3) := by decide +kernel
theorem dX3_sumWaits_30 : decode cX3_sumWaits 30 = .ok (.iload_n 1, 1) := by decide +kernel
theorem dX3_sumWaits_31 : decode cX3_sumWaits 31 = .ok (.ireturn, 1) := by decide +kernel
theorem dX3_isOver_0 : decode cX3_isOver 0 = .ok (.aload_n 0, 1) := by decide +kernel
theorem dX3_isOver_1 : decode cX3_isOver 1 = .ok (.getfield 72, 3) := by decide +kernel
theorem dX3_isOver_4 : decode cX3_isOver 4 = .ok (.aload_n 0, 1) := by decide +kernel
theorem dX3_isOver_5 : decode cX3_isOver 5 = .ok (.getfield 66, 3) := by decide +kernel
theorem dX3_isOver_8 : decode cX3_isOver 8 = .ok (.if_icmp .ne 7, 3) := by decide +kernel
theorem dX3_isOver_11 : decode cX3_isOver 11 = .ok (.iconst 1, 1) := by decide +kernel
theorem dX3_isOver_12 : decode cX3_isOver 12 = .ok (.goto 4, 3) := by decide +kernel
theorem dX3_isOver_15 : decode cX3_isOver 15 = .ok (.iconst 0, 1) := by decide +kernel
theorem dX3_isOver_16 : decode cX3_isOver 16 = .ok (.ireturn, 1) := by decide +kernel
theorem dX3_findStops_0 : decode cX3_findStops 0 = .ok (.aload_n 0, 1) := by decide +kernel
theorem dX3_findStops_1 : decode cX3_findStops 1 = .ok (.getfield 69, 3) := by decide +kernel
theorem dX3_findStops_4 : decode cX3_findStops 4 = .ok (.aload_n 0, 1) := by decide +kernel
theorem dX3_findStops_5 : decode cX3_findStops 5 = .ok (.getfield 38, 3) := by decide +kernel
theorem dX3_findStops_8 : decode cX3_findStops 8 = .ok (.if_icmp .ge 7, 3) := by decide +kernel
theorem dX3_findStops_11 : decode cX3_findStops 11 = .ok (.iconst 1, 1) := by decide +kernel
theorem dX3_findStops_12 : decode cX3_findStops 12 = .ok (.goto 4, 3) := by decide +kernel
theorem dX3_findStops_15 : decode cX3_findStops 15 = .ok (.iconst 0, 1) := by decide +kernel
theorem dX3_findStops_16 : decode cX3_findStops 16 = .ok (.istore_n 1, 1) := by decide +kernel
theorem dX3_findStops_17 : decode cX3_findStops 17 = .ok (.iconst 0, 1) := by decide +kernel
theorem dX3_findStops_18 : decode cX3_findStops 18 = .ok (.istore_n 2, 1) := by decide +kernel
theorem dX3_findStops_19 : decode cX3_findStops 19 = .ok (.iconst 0, 1) := by decide +kernel
theorem dX3_findStops_20 : decode cX3_findStops 20 = .ok (.istore_n 3, 1) := by decide +kernel
theorem dX3_findStops_21 : decode cX3_findStops 21 = .ok (.iload_n 3, 1) := by decide +kernel
theorem dX3_findStops_22 : decode cX3_findStops 22 = .ok (.aload_n 0, 1) := by decide +kernel
theorem dX3_findStops_23 : decode cX3_findStops 23 = .ok (.getfield 66, 3) := by decide +kernel
theorem dX3_findStops_26 : decode cX3_findStops 26 = .ok (.if_icmp .ge 74, 3) := by decide +kernel
theorem dX3_findStops_29 : decode cX3_findStops 29 = .ok (.aload_n 0, 1) := by decide +kernel
theorem dX3_findStops_30 : decode cX3_findStops 30 = .ok (.getfield 24, 3) := by decide +kernel
theorem dX3_findStops_33 : decode cX3_findStops 33 = .ok (.iload_n 3, 1) := by decide +kernel
theorem dX3_findStops_34 : decode cX3_findStops 34 = .ok (.iaload, 1) := by decide +kernel
theorem dX3_findStops_35 : decode cX3_findStops 35 = .ok (.iconst (-1), 1) := by decide +kernel
theorem dX3_findStops_36 : decode cX3_findStops 36 = .ok (.if_icmp .eq 6, 3) := by decide +kernel
theorem dX3_findStops_39 : decode cX3_findStops 39 = .ok (.goto 55, 3) := by decide +kernel
theorem dX3_findStops_42 : decode cX3_findStops 42 = .ok (.aload_n 0, 1) := by decide +kernel
theorem dX3_findStops_43 : decode cX3_findStops 43 = .ok (.getfield 21, 3) := by decide +kernel
theorem dX3_findStops_46 : decode cX3_findStops 46 = .ok (.iload_n 3, 1) := by decide +kernel
theorem dX3_findStops_47 : decode cX3_findStops 47 = .ok (.iaload, 1) := by decide +kernel
theorem dX3_findStops_48 : decode cX3_findStops 48 = .ok (.iconst (-1), 1) := by decide +kernel
theorem dX3_findStops_49 : decode cX3_findStops 49 = .ok (.if_icmp .eq 17, 3) := by decide +kernel
theorem dX3_findStops_52 : decode cX3_findStops 52 = .ok (.iload_n 2, 1) := by decide +kernel
theorem dX3_findStops_53 : decode cX3_findStops 53 = .ok (.iconst 1, 1) := by decide +kernel
theorem dX3_findStops_54 : decode cX3_findStops 54 = .ok (.aload_n 0, 1) := by decide +kernel
theorem dX3_findStops_55 : decode cX3_findStops 55 = .ok (.getfield 15, 3) := by decide +kernel
theorem dX3_findStops_58 : decode cX3_findStops 58 = .ok (.iload_n 3, 1) := by decide +kernel
theorem dX3_findStops_59 : decode cX3_findStops 59 = .ok (.iaload, 1) := by decide +kernel
theorem dX3_findStops_60 : decode cX3_findStops 60 = .ok (.ishl, 1) := by decide +kernel
theorem dX3_findStops_61 : decode cX3_findStops 61 = .ok (.ior, 1) := by decide +kernel
theorem dX3_findStops_62 : decode cX3_findStops 62 = .ok (.istore_n 2, 1) := by decide +kernel
theorem dX3_findStops_63 : decode cX3_findStops 63 = .ok (.goto 31, 3) := by decide +kernel
theorem dX3_findStops_66 : decode cX3_findStops 66 = .ok (.iload_n 1, 1) := by decide +kernel
theorem dX3_findStops_67 : decode cX3_findStops 67 = .ok (.ifCond .eq 27, 3) := by decide +kernel
theorem dX3_findStops_70 : decode cX3_findStops 70 = .ok (.aload_n 0, 1) := by decide +kernel
theorem dX3_findStops_71 : decode cX3_findStops 71 = .ok (.getfield 18, 3) := by decide +kernel
theorem dX3_findStops_74 : decode cX3_findStops 74 = .ok (.iload_n 3, 1) := by decide +kernel
theorem dX3_findStops_75 : decode cX3_findStops 75 = .ok (.iaload, 1) := by decide +kernel
theorem dX3_findStops_76 : decode cX3_findStops 76 = .ok (.aload_n 0, 1) := by decide +kernel
theorem dX3_findStops_77 : decode cX3_findStops 77 = .ok (.getfield 44, 3) := by decide +kernel
theorem dX3_findStops_80 : decode cX3_findStops 80 = .ok (.if_icmp .gt 14, 3) := by decide +kernel
theorem dX3_findStops_83 : decode cX3_findStops 83 = .ok (.iload_n 2, 1) := by decide +kernel
theorem dX3_findStops_84 : decode cX3_findStops 84 = .ok (.iconst 1, 1) := by decide +kernel
theorem dX3_findStops_85 : decode cX3_findStops 85 = .ok (.aload_n 0, 1) := by decide +kernel
theorem dX3_findStops_86 : decode cX3_findStops 86 = .ok (.getfield 9, 3) := by decide +kernel
theorem dX3_findStops_89 : decode cX3_findStops 89 = .ok (.iload_n 3, 1) := by decide +kernel
theorem dX3_findStops_90 : decode cX3_findStops 90 = .ok (.iaload, 1) := by decide +kernel
theorem dX3_findStops_91 : decode cX3_findStops 91 = .ok (.ishl, 1) := by decide +kernel
theorem dX3_findStops_92 : decode cX3_findStops 92 = .ok (.ior, 1) := by decide +kernel
theorem dX3_findStops_93 : decode cX3_findStops 93 = .ok (.istore_n 2, 1) := by decide +kernel
theorem dX3_findStops_94 : decode cX3_findStops 94 = .ok (.iinc 3 1, 3) := by decide +kernel
theorem dX3_findStops_97 : decode cX3_findStops 97 = .ok (.goto (-76), 3) := by decide +kernel
theorem dX3_findStops_100 : decode cX3_findStops 100 = .ok (.iload_n 2, 1) := by decide +kernel
theorem dX3_findStops_101 : decode cX3_findStops 101 = .ok (.ireturn, 1) := by decide +kernel
theorem dX3_findTarget_0 : decode cX3_findTarget 0 = .ok (.aload_n 0, 1) := by decide +kernel
theorem dX3_findTarget_1 : decode cX3_findTarget 1 = .ok (.invokevirtual 94, 3) := by decide +kernel
theorem dX3_findTarget_4 : decode cX3_findTarget 4 = .ok (.istore_n 2, 1) := by decide +kernel
theorem dX3_findTarget_5 : decode cX3_findTarget 5 = .ok (.iload_n 2, 1) := by decide +kernel
theorem dX3_findTarget_6 : decode cX3_findTarget 6 = .ok (.ifCond .ne 5, 3) := by decide +kernel
theorem dX3_findTarget_9 : decode cX3_findTarget 9 = .ok (.iconst (-1), 1) := by decide +kernel
theorem dX3_findTarget_10 : decode cX3_findTarget 10 = .ok (.ireturn, 1) := by decide +kernel
theorem dX3_findTarget_11 : decode cX3_findTarget 11 = .ok (.iload_n 2, 1) := by decide +kernel
theorem dX3_findTarget_12 : decode cX3_findTarget 12 = .ok (.aload_n 0, 1) := by decide +kernel
theorem dX3_findTarget_13 : decode cX3_findTarget 13 = .ok (.getfield 47, 3) := by decide +kernel
theorem dX3_findTarget_16 : decode cX3_findTarget 16 = .ok (.ishr, 1) := by decide +kernel
theorem dX3_findTarget_17 : decode cX3_findTarget 17 = .ok (.iconst 1, 1) := by decide +kernel
theorem dX3_findTarget_18 : decode cX3_findTarget 18 = .ok (.iand, 1) := by decide +kernel
theorem dX3_findTarget_19 : decode cX3_findTarget 19 = .ok (.ifCond .eq 8, 3) := by decide +kernel
theorem dX3_findTarget_22 : decode cX3_findTarget 22 = .ok (.aload_n 0, 1) := by decide +kernel
theorem dX3_findTarget_23 : decode cX3_findTarget 23 = .ok (.getfield 47, 3) := by decide +kernel
theorem dX3_findTarget_26 : decode cX3_findTarget 26 = .ok (.ireturn, 1) := by decide +kernel
theorem dX3_findTarget_27 : decode cX3_findTarget 27 = .ok (.iload_n 1, 1) := by decide +kernel
theorem dX3_findTarget_28 : decode cX3_findTarget 28 = .ok (.ifCond .ne 54, 3) := by decide +kernel
theorem dX3_findTarget_31 : decode cX3_findTarget 31 = .ok (.aload_n 0, 1) := by decide +kernel
theorem dX3_findTarget_32 : decode cX3_findTarget 32 = .ok (.invokevirtual 98, 3) := by decide +kernel
theorem dX3_findTarget_35 : decode cX3_findTarget 35 = .ok (.istore_n 3, 1) := by decide +kernel
theorem dX3_findTarget_36 : decode cX3_findTarget 36 = .ok (.iload_n 3, 1) := by decide +kernel
theorem dX3_findTarget_37 : decode cX3_findTarget 37 = .ok (.iconst (-1), 1) := by decide +kernel
theorem dX3_findTarget_38 : decode cX3_findTarget 38 = .ok (.if_icmp .ne 10, 3) := by decide +kernel
theorem dX3_findTarget_41 : decode cX3_findTarget 41 = .ok (.aload_n 0, 1) := by decide +kernel
theorem dX3_findTarget_42 : decode cX3_findTarget 42 = .ok (.invokevirtual 101, 3) := by decide +kernel
theorem dX3_findTarget_45 : decode cX3_findTarget 45 = .ok (.goto 4, 3) := by decide +kernel
theorem dX3_findTarget_48 : decode cX3_findTarget 48 = .ok (.iload_n 3, 1) := by decide +kernel
theorem dX3_findTarget_49 : decode cX3_findTarget 49 = .ok (.istore 4, 2) := by decide +kernel
theorem dX3_findTarget_51 : decode cX3_findTarget 51 = .ok (.iload 4, 2) := by decide +kernel
theorem dX3_findTarget_53 : decode cX3_findTarget 53 = .ok (.iconst (-1), 1) := by decide +kernel
theorem dX3_findTarget_54 : decode cX3_findTarget 54 = .ok (.if_icmp .ne 5, 3) := by decide +kernel
theorem dX3_findTarget_57 : decode cX3_findTarget 57 = .ok (.iconst (-1), 1) := by decide +kernel
theorem dX3_findTarget_58 : decode cX3_findTarget 58 = .ok (.ireturn, 1) := by decide +kernel
theorem dX3_findTarget_59 : decode cX3_findTarget 59 = .ok (.iload_n 3, 1) := by decide +kernel
theorem dX3_findTarget_60 : decode cX3_findTarget 60 = .ok (.iconst (-1), 1) := by decide +kernel
theorem dX3_findTarget_61 : decode cX3_findTarget 61 = .ok (.if_icmp .ne 13, 3) := by decide +kernel
theorem dX3_findTarget_64 : decode cX3_findTarget 64 = .ok (.aload_n 0, 1) := by decide +kernel
theorem dX3_findTarget_65 : decode cX3_findTarget 65 = .ok (.getfield 9, 3) := by decide +kernel
theorem dX3_findTarget_68 : decode cX3_findTarget 68 = .ok (.iload 4, 2) := by decide +kernel
theorem dX3_findTarget_70 : decode cX3_findTarget 70 = .ok (.iaload, 1) := by decide +kernel
theorem dX3_findTarget_71 : decode cX3_findTarget 71 = .ok (.goto 10, 3) := by decide +kernel
theorem dX3_findTarget_74 : decode cX3_findTarget 74 = .ok (.aload_n 0, 1) := by decide +kernel
theorem dX3_findTarget_75 : decode cX3_findTarget 75 = .ok (.getfield 15, 3) := by decide +kernel
theorem dX3_findTarget_78 : decode cX3_findTarget 78 = .ok (.iload 4, 2) := by decide +kernel
theorem dX3_findTarget_80 : decode cX3_findTarget 80 = .ok (.iaload, 1) := by decide +kernel
theorem dX3_findTarget_81 : decode cX3_findTarget 81 = .ok (.ireturn, 1) := by decide +kernel
theorem dX3_findTarget_82 : decode cX3_findTarget 82 = .ok (.aload_n 0, 1) := by decide +kernel
theorem dX3_findTarget_83 : decode cX3_findTarget 83 = .ok (.iload_n 2, 1) := by decide +kernel
theorem dX3_findTarget_84 : decode cX3_findTarget 84 = .ok (.invokevirtual 104, 3) := by decide +kernel
theorem dX3_findTarget_87 : decode cX3_findTarget 87 = .ok (.istore_n 3, 1) := by decide +kernel
theorem dX3_findTarget_88 : decode cX3_findTarget 88 = .ok (.aload_n 0, 1) := by decide +kernel
theorem dX3_findTarget_89 : decode cX3_findTarget 89 = .ok (.iload_n 2, 1) := by decide +kernel
theorem dX3_findTarget_90 : decode cX3_findTarget 90 = .ok (.invokevirtual 107, 3) := by decide +kernel
theorem dX3_findTarget_93 : decode cX3_findTarget 93 = .ok (.istore 4, 2) := by decide +kernel
theorem dX3_findTarget_95 : decode cX3_findTarget 95 = .ok (.iload_n 3, 1) := by decide +kernel
theorem dX3_findTarget_96 : decode cX3_findTarget 96 = .ok (.iconst (-1), 1) := by decide +kernel
theorem dX3_findTarget_97 : decode cX3_findTarget 97 = .ok (.if_icmp .ne 6, 3) := by decide +kernel
theorem dX3_findTarget_100 : decode cX3_findTarget 100 = .ok (.iload 4, 2) := by decide +kernel
theorem dX3_findTarget_102 : decode cX3_findTarget 102 = .ok (.ireturn, 1) := by decide +kernel
theorem dX3_findTarget_103 : decode cX3_findTarget 103 = .ok (.iload 4, 2) := by decide +kernel
theorem dX3_findTarget_105 : decode cX3_findTarget 105 = .ok (.iconst (-1), 1) := by decide +kernel
theorem dX3_findTarget_106 : decode cX3_findTarget 106 = .ok (.if_icmp .ne 5, 3) := by decide +kernel
theorem dX3_findTarget_109 : decode cX3_findTarget 109 = .ok (.iload_n 3, 1) := by decide +kernel
theorem dX3_findTarget_110 : decode cX3_findTarget 110 = .ok (.ireturn, 1) := by decide +kernel
theorem dX3_findTarget_111 : decode cX3_findTarget 111 = .ok (.iload_n 1, 1) := by decide +kernel
theorem dX3_findTarget_112 : decode cX3_findTarget 112 = .ok (.iconst 2, 1) := by decide +kernel
theorem dX3_findTarget_113 : decode cX3_findTarget 113 = .ok (.if_icmp .ne 17, 3) := by decide +kernel
theorem dX3_findTarget_116 : decode cX3_findTarget 116 = .ok (.aload_n 0, 1) := by decide +kernel
theorem dX3_findTarget_117 : decode cX3_findTarget 117 = .ok (.getfield 50, 3) := by decide +kernel
theorem dX3_findTarget_120 : decode cX3_findTarget 120 = .ok (.ifCond .eq 8, 3) := by decide +kernel
theorem dX3_findTarget_123 : decode cX3_findTarget 123 = .ok (.iload 4, 2) := by decide +kernel
theorem dX3_findTarget_125 : decode cX3_findTarget 125 = .ok (.goto 4, 3) := by decide +kernel
theorem dX3_findTarget_128 : decode cX3_findTarget 128 = .ok (.iload_n 3, 1) := by decide +kernel
theorem dX3_findTarget_129 : decode cX3_findTarget 129 = .ok (.ireturn, 1) := by decide +kernel
theorem dX3_findTarget_130 : decode cX3_findTarget 130 = .ok (.aload_n 0, 1) := by decide +kernel
theorem dX3_findTarget_131 : decode cX3_findTarget 131 = .ok (.getfield 47, 3) := by decide +kernel
theorem dX3_findTarget_134 : decode cX3_findTarget 134 = .ok (.iload_n 3, 1) := by decide +kernel
theorem dX3_findTarget_135 : decode cX3_findTarget 135 = .ok (.isub, 1) := by decide +kernel
theorem dX3_findTarget_136 : decode cX3_findTarget 136 = .ok (.iload 4, 2) := by decide +kernel
theorem dX3_findTarget_138 : decode cX3_findTarget 138 = .ok (.aload_n 0, 1) := by decide +kernel
theorem dX3_findTarget_139 : decode cX3_findTarget 139 = .ok (.getfield 47, 3) := by decide +kernel
theorem dX3_findTarget_142 : decode cX3_findTarget 142 = .ok (.isub, 1) := by decide +kernel
theorem dX3_findTarget_143 : decode cX3_findTarget 143 = .ok (.if_icmp .gt 7, 3) := by decide +kernel
theorem dX3_findTarget_146 : decode cX3_findTarget 146 = .ok (.iload_n 3, 1) := by decide +kernel
theorem dX3_findTarget_147 : decode cX3_findTarget 147 = .ok (.goto 5, 3) := by decide +kernel
theorem dX3_findTarget_150 : decode cX3_findTarget 150 = .ok (.iload 4, 2) := by decide +kernel
theorem dX3_findTarget_152 : decode cX3_findTarget 152 = .ok (.ireturn, 1) := by decide +kernel
theorem dX3_findFirstRiding_0 : decode cX3_findFirstRiding 0 = .ok (.iconst 0, 1) := by decide +kernel
theorem dX3_findFirstRiding_1 : decode cX3_findFirstRiding 1 = .ok (.istore_n 1, 1) := by decide +kernel
theorem dX3_findFirstRiding_2 : decode cX3_findFirstRiding 2 = .ok (.iload_n 1, 1) := by decide +kernel
theorem dX3_findFirstRiding_3 : decode cX3_findFirstRiding 3 = .ok (.aload_n 0, 1) := by decide +kernel
theorem dX3_findFirstRiding_4 : decode cX3_findFirstRiding 4 = .ok (.getfield 66, 3) := by decide +kernel
theorem dX3_findFirstRiding_7 : decode cX3_findFirstRiding 7 = .ok (.if_icmp .ge 31, 3) := by decide +kernel
theorem dX3_findFirstRiding_10 : decode cX3_findFirstRiding 10 = .ok (.aload_n 0, 1) := by decide +kernel
theorem dX3_findFirstRiding_11 : decode cX3_findFirstRiding 11 = .ok (.getfield 21, 3) := by decide +kernel
theorem dX3_findFirstRiding_14 : decode cX3_findFirstRiding 14 = .ok (.iload_n 1, 1) := by decide +kernel
theorem dX3_findFirstRiding_15 : decode cX3_findFirstRiding 15 = .ok (.iaload, 1) := by decide +kernel
theorem dX3_findFirstRiding_16 : decode cX3_findFirstRiding 16 = .ok (.iconst (-1), 1) := by decide +kernel
theorem dX3_findFirstRiding_17 : decode cX3_findFirstRiding 17 = .ok (.if_icmp .eq 15, 3) := by decide +kernel
theorem dX3_findFirstRiding_20 : decode cX3_findFirstRiding 20 = .ok (.aload_n 0, 1) := by decide +kernel
theorem dX3_findFirstRiding_21 : decode cX3_findFirstRiding 21 = .ok (.getfield 24, 3) := by decide +kernel
theorem dX3_findFirstRiding_24 : decode cX3_findFirstRiding 24 = .ok (.iload_n 1, 1) := by decide +kernel
theorem dX3_findFirstRiding_25 : decode cX3_findFirstRiding 25 = .ok (.iaload, 1) := by decide +kernel
theorem dX3_findFirstRiding_26 : decode cX3_findFirstRiding 26 = .ok (.iconst (-1), 1) := by decide +kernel
theorem dX3_findFirstRiding_27 : decode cX3_findFirstRiding 27 = .ok (.if_icmp .ne 5, 3) := by decide +kernel
theorem dX3_findFirstRiding_30 : decode cX3_findFirstRiding 30 = .ok (.iload_n 1, 1) := by decide +kernel
theorem dX3_findFirstRiding_31 : decode cX3_findFirstRiding 31 = .ok (.ireturn, 1) := by decide +kernel
theorem dX3_findFirstRiding_32 : decode cX3_findFirstRiding 32 = .ok (.iinc 1 1, 3) := by decide +kernel
theorem dX3_findFirstRiding_35 : decode cX3_findFirstRiding 35 = .ok (.goto (-33), 3) := by decide +kernel
theorem dX3_findFirstRiding_38 : decode cX3_findFirstRiding 38 = .ok (.iconst (-1), 1) := by decide +kernel
theorem dX3_findFirstRiding_39 : decode cX3_findFirstRiding 39 = .ok (.ireturn, 1) := by decide +kernel
theorem dX3_findStopBelow_0 : decode cX3_findStopBelow 0 = .ok (.aload_n 0, 1) := by decide +kernel
theorem dX3_findStopBelow_1 : decode cX3_findStopBelow 1 = .ok (.getfield 47, 3) := by decide +kernel
theorem dX3_findStopBelow_4 : decode cX3_findStopBelow 4 = .ok (.iconst 1, 1) := by decide +kernel
theorem dX3_findStopBelow_5 : decode cX3_findStopBelow 5 = .ok (.isub, 1) := by decide +kernel
theorem dX3_findStopBelow_6 : decode cX3_findStopBelow 6 = .ok (.istore_n 2, 1) := by decide +kernel
theorem dX3_findStopBelow_7 : decode cX3_findStopBelow 7 = .ok (.iload_n 2, 1) := by decide +kernel
theorem dX3_findStopBelow_8 : decode cX3_findStopBelow 8 = .ok (.ifCond .lt 19, 3) := by decide +kernel
theorem dX3_findStopBelow_11 : decode cX3_findStopBelow 11 = .ok (.iload_n 1, 1) := by decide +kernel
theorem dX3_findStopBelow_12 : decode cX3_findStopBelow 12 = .ok (.iload_n 2, 1) := by decide +kernel
theorem dX3_findStopBelow_13 : decode cX3_findStopBelow 13 = .ok (.ishr, 1) := by decide +kernel
theorem dX3_findStopBelow_14 : decode cX3_findStopBelow 14 = .ok (.iconst 1, 1) := by decide +kernel
theorem dX3_findStopBelow_15 : decode cX3_findStopBelow 15 = .ok (.iand, 1) := by decide +kernel
theorem dX3_findStopBelow_16 : decode cX3_findStopBelow 16 = .ok (.ifCond .eq 5, 3) := by decide +kernel
theorem dX3_findStopBelow_19 : decode cX3_findStopBelow 19 = .ok (.iload_n 2, 1) := by decide +kernel
theorem dX3_findStopBelow_20 : decode cX3_findStopBelow 20 = .ok (.ireturn, 1) := by decide +kernel
theorem dX3_findStopBelow_21 : decode cX3_findStopBelow 21 = .ok (.iinc 2 (-1), 3) := by decide +kernel
theorem dX3_findStopBelow_24 : decode cX3_findStopBelow 24 = .ok (.goto (-17), 3) := by decide +kernel
theorem dX3_findStopBelow_27 : decode cX3_findStopBelow 27 = .ok (.iconst (-1), 1) := by decide +kernel
theorem dX3_findStopBelow_28 : decode cX3_findStopBelow 28 = .ok (.ireturn, 1) := by decide +kernel
theorem dX3_findStopAbove_0 : decode cX3_findStopAbove 0 = .ok (.aload_n 0, 1) := by decide +kernel
theorem dX3_findStopAbove_1 : decode cX3_findStopAbove 1 = .ok (.getfield 47, 3) := by decide +kernel
theorem dX3_findStopAbove_4 : decode cX3_findStopAbove 4 = .ok (.iconst 1, 1) := by decide +kernel
theorem dX3_findStopAbove_5 : decode cX3_findStopAbove 5 = .ok (.iadd, 1) := by decide +kernel
theorem dX3_findStopAbove_6 : decode cX3_findStopAbove 6 = .ok (.istore_n 2, 1) := by decide +kernel
theorem dX3_findStopAbove_7 : decode cX3_findStopAbove 7 = .ok (.iload_n 2, 1) := by decide +kernel
theorem dX3_findStopAbove_8 : decode cX3_findStopAbove 8 = .ok (.aload_n 0, 1) := by decide +kernel
theorem dX3_findStopAbove_9 : decode cX3_findStopAbove 9 = .ok (.getfield 34, 3) := by decide +kernel
theorem dX3_findStopAbove_12 : decode cX3_findStopAbove 12 = .ok (.if_icmp .ge 19, 3) := by decide +kernel
theorem dX3_findStopAbove_15 : decode cX3_findStopAbove 15 = .ok (.iload_n 1, 1) := by decide +kernel
theorem dX3_findStopAbove_16 : decode cX3_findStopAbove 16 = .ok (.iload_n 2, 1) := by decide +kernel
theorem dX3_findStopAbove_17 : decode cX3_findStopAbove 17 = .ok (.ishr, 1) := by decide +kernel
theorem dX3_findStopAbove_18 : decode cX3_findStopAbove 18 = .ok (.iconst 1, 1) := by decide +kernel
theorem dX3_findStopAbove_19 : decode cX3_findStopAbove 19 = .ok (.iand, 1) := by decide +kernel
theorem dX3_findStopAbove_20 : decode cX3_findStopAbove 20 = .ok (.ifCond .eq 5, 3) := by decide +kernel
theorem dX3_findStopAbove_23 : decode cX3_findStopAbove 23 = .ok (.iload_n 2, 1) := by decide +kernel
theorem dX3_findStopAbove_24 : decode cX3_findStopAbove 24 = .ok (.ireturn, 1) := by decide +kernel
theorem dX3_findStopAbove_25 : decode cX3_findStopAbove 25 = .ok (.iinc 2 1, 3) := by decide +kernel
theorem dX3_findStopAbove_28 : decode cX3_findStopAbove 28 = .ok (.goto (-21), 3) := by decide +kernel
theorem dX3_findStopAbove_31 : decode cX3_findStopAbove 31 = .ok (.iconst (-1), 1) := by decide +kernel
theorem dX3_findStopAbove_32 : decode cX3_findStopAbove 32 = .ok (.ireturn, 1) := by decide +kernel
theorem dX3_tick_0 : decode cX3_tick 0 = .ok (.aload_n 0, 1) := by decide +kernel
theorem dX3_tick_1 : decode cX3_tick 1 = .ok (.aload_n 0, 1) := by decide +kernel
theorem dX3_tick_2 : decode cX3_tick 2 = .ok (.getfield 41, 3) := by decide +kernel
theorem dX3_tick_5 : decode cX3_tick 5 = .ok (.invokevirtual 110, 3) := by decide +kernel
theorem dX3_tick_8 : decode cX3_tick 8 = .ok (.istore_n 1, 1) := by decide +kernel
theorem dX3_tick_9 : decode cX3_tick 9 = .ok (.iload_n 1, 1) := by decide +kernel
theorem dX3_tick_10 : decode cX3_tick 10 = .ok (.iconst (-1), 1) := by decide +kernel
theorem dX3_tick_11 : decode cX3_tick 11 = .ok (.if_icmp .ne 16, 3) := by decide +kernel
theorem dX3_tick_14 : decode cX3_tick 14 = .ok (.aload_n 0, 1) := by decide +kernel
theorem dX3_tick_15 : decode cX3_tick 15 = .ok (.dup, 1) := by decide +kernel
theorem dX3_tick_16 : decode cX3_tick 16 = .ok (.getfield 60, 3) := by decide +kernel
theorem dX3_tick_19 : decode cX3_tick 19 = .ok (.iconst 1, 1) := by decide +kernel
theorem dX3_tick_20 : decode cX3_tick 20 = .ok (.iadd, 1) := by decide +kernel
theorem dX3_tick_21 : decode cX3_tick 21 = .ok (.putfield 60, 3) := by decide +kernel
theorem dX3_tick_24 : decode cX3_tick 24 = .ok (.goto 23, 3) := by decide +kernel
theorem dX3_tick_27 : decode cX3_tick 27 = .ok (.iload_n 1, 1) := by decide +kernel
theorem dX3_tick_28 : decode cX3_tick 28 = .ok (.aload_n 0, 1) := by decide +kernel
theorem dX3_tick_29 : decode cX3_tick 29 = .ok (.getfield 47, 3) := by decide +kernel
theorem dX3_tick_32 : decode cX3_tick 32 = .ok (.if_icmp .ne 10, 3) := by decide +kernel
theorem dX3_tick_35 : decode cX3_tick 35 = .ok (.aload_n 0, 1) := by decide +kernel
theorem dX3_tick_36 : decode cX3_tick 36 = .ok (.invokevirtual 113, 3) := by decide +kernel
theorem dX3_tick_39 : decode cX3_tick 39 = .ok (.goto 8, 3) := by decide +kernel
theorem dX3_tick_42 : decode cX3_tick 42 = .ok (.aload_n 0, 1) := by decide +kernel
theorem dX3_tick_43 : decode cX3_tick 43 = .ok (.iload_n 1, 1) := by decide +kernel
theorem dX3_tick_44 : decode cX3_tick 44 = .ok (.invokevirtual 116, 3) := by decide +kernel
theorem dX3_tick_47 : decode cX3_tick 47 = .ok (.aload_n 0, 1) := by decide +kernel
theorem dX3_tick_48 : decode cX3_tick 48 = .ok (.dup, 1) := by decide +kernel
theorem dX3_tick_49 : decode cX3_tick 49 = .ok (.getfield 44, 3) := by decide +kernel
theorem dX3_tick_52 : decode cX3_tick 52 = .ok (.iconst 1, 1) := by decide +kernel
theorem dX3_tick_53 : decode cX3_tick 53 = .ok (.iadd, 1) := by decide +kernel
theorem dX3_tick_54 : decode cX3_tick 54 = .ok (.putfield 44, 3) := by decide +kernel
theorem dX3_tick_57 : decode cX3_tick 57 = .ok (.return_, 1) := by decide +kernel
theorem dX3_tickToEnd_0 : decode cX3_tickToEnd 0 = .ok (.iconst 0, 1) := by decide +kernel
theorem dX3_tickToEnd_1 : decode cX3_tickToEnd 1 = .ok (.istore_n 2, 1) := by decide +kernel
theorem dX3_tickToEnd_2 : decode cX3_tickToEnd 2 = .ok (.iload_n 2, 1) := by decide +kernel
theorem dX3_tickToEnd_3 : decode cX3_tickToEnd 3 = .ok (.iload_n 1, 1) := by decide +kernel
theorem dX3_tickToEnd_4 : decode cX3_tickToEnd 4 = .ok (.if_icmp .ge 20, 3) := by decide +kernel
theorem dX3_tickToEnd_7 : decode cX3_tickToEnd 7 = .ok (.aload_n 0, 1) := by decide +kernel
theorem dX3_tickToEnd_8 : decode cX3_tickToEnd 8 = .ok (.invokevirtual 120, 3) := by decide +kernel
theorem dX3_tickToEnd_11 : decode cX3_tickToEnd 11 = .ok (.ifCond .ne 13, 3) := by decide +kernel
theorem dX3_tickToEnd_14 : decode cX3_tickToEnd 14 = .ok (.aload_n 0, 1) := by decide +kernel
theorem dX3_tickToEnd_15 : decode cX3_tickToEnd 15 = .ok (.invokevirtual 124, 3) := by decide +kernel
theorem dX3_tickToEnd_18 : decode cX3_tickToEnd 18 = .ok (.iinc 2 1, 3) := by decide +kernel
theorem dX3_tickToEnd_21 : decode cX3_tickToEnd 21 = .ok (.goto (-19), 3) := by decide +kernel
theorem dX3_tickToEnd_24 : decode cX3_tickToEnd 24 = .ok (.iload_n 2, 1) := by decide +kernel
theorem dX3_tickToEnd_25 : decode cX3_tickToEnd 25 = .ok (.ireturn, 1) := by decide +kernel
theorem dX3_openDoors_0 : decode cX3_openDoors 0 = .ok (.iconst 0, 1) := by decide +kernel
theorem dX3_openDoors_1 : decode cX3_openDoors 1 = .ok (.istore_n 1, 1) := by decide +kernel
theorem dX3_openDoors_2 : decode cX3_openDoors 2 = .ok (.iload_n 1, 1) := by decide +kernel
theorem dX3_openDoors_3 : decode cX3_openDoors 3 = .ok (.aload_n 0, 1) := by decide +kernel
theorem dX3_openDoors_4 : decode cX3_openDoors 4 = .ok (.getfield 66, 3) := by decide +kernel
theorem dX3_openDoors_7 : decode cX3_openDoors 7 = .ok (.if_icmp .ge 72, 3) := by decide +kernel
theorem dX3_openDoors_10 : decode cX3_openDoors 10 = .ok (.aload_n 0, 1) := by decide +kernel
theorem dX3_openDoors_11 : decode cX3_openDoors 11 = .ok (.getfield 15, 3) := by decide +kernel
theorem dX3_openDoors_14 : decode cX3_openDoors 14 = .ok (.iload_n 1, 1) := by decide +kernel
theorem dX3_openDoors_15 : decode cX3_openDoors 15 = .ok (.iaload, 1) := by decide +kernel
theorem dX3_openDoors_16 : decode cX3_openDoors 16 = .ok (.aload_n 0, 1) := by decide +kernel
theorem dX3_openDoors_17 : decode cX3_openDoors 17 = .ok (.getfield 47, 3) := by decide +kernel
theorem dX3_openDoors_20 : decode cX3_openDoors 20 = .ok (.if_icmp .ne 53, 3) := by decide +kernel
theorem dX3_openDoors_23 : decode cX3_openDoors 23 = .ok (.aload_n 0, 1) := by decide +kernel
theorem dX3_openDoors_24 : decode cX3_openDoors 24 = .ok (.getfield 21, 3) := by decide +kernel
theorem dX3_openDoors_27 : decode cX3_openDoors 27 = .ok (.iload_n 1, 1) := by decide +kernel
theorem dX3_openDoors_28 : decode cX3_openDoors 28 = .ok (.iaload, 1) := by decide +kernel
theorem dX3_openDoors_29 : decode cX3_openDoors 29 = .ok (.iconst (-1), 1) := by decide +kernel
theorem dX3_openDoors_30 : decode cX3_openDoors 30 = .ok (.if_icmp .eq 43, 3) := by decide +kernel
theorem dX3_openDoors_33 : decode cX3_openDoors 33 = .ok (.aload_n 0, 1) := by decide +kernel
theorem dX3_openDoors_34 : decode cX3_openDoors 34 = .ok (.getfield 24, 3) := by decide +kernel
theorem dX3_openDoors_37 : decode cX3_openDoors 37 = .ok (.iload_n 1, 1) := by decide +kernel
theorem dX3_openDoors_38 : decode cX3_openDoors 38 = .ok (.iaload, 1) := by decide +kernel
theorem dX3_openDoors_39 : decode cX3_openDoors 39 = .ok (.iconst (-1), 1) := by decide +kernel
theorem dX3_openDoors_40 : decode cX3_openDoors 40 = .ok (.if_icmp .ne 33, 3) := by decide +kernel
theorem dX3_openDoors_43 : decode cX3_openDoors 43 = .ok (.aload_n 0, 1) := by decide +kernel
theorem dX3_openDoors_44 : decode cX3_openDoors 44 = .ok (.getfield 24, 3) := by decide +kernel
theorem dX3_openDoors_47 : decode cX3_openDoors 47 = .ok (.iload_n 1, 1) := by decide +kernel
theorem dX3_openDoors_48 : decode cX3_openDoors 48 = .ok (.aload_n 0, 1) := by decide +kernel
theorem dX3_openDoors_49 : decode cX3_openDoors 49 = .ok (.getfield 44, 3) := by decide +kernel
theorem dX3_openDoors_52 : decode cX3_openDoors 52 = .ok (.iastore, 1) := by decide +kernel
theorem dX3_openDoors_53 : decode cX3_openDoors 53 = .ok (.aload_n 0, 1) := by decide +kernel
theorem dX3_openDoors_54 : decode cX3_openDoors 54 = .ok (.dup, 1) := by decide +kernel
theorem dX3_openDoors_55 : decode cX3_openDoors 55 = .ok (.getfield 69, 3) := by decide +kernel
theorem dX3_openDoors_58 : decode cX3_openDoors 58 = .ok (.iconst 1, 1) := by decide +kernel
theorem dX3_openDoors_59 : decode cX3_openDoors 59 = .ok (.isub, 1) := by decide +kernel
theorem dX3_openDoors_60 : decode cX3_openDoors 60 = .ok (.putfield 69, 3) := by decide +kernel
theorem dX3_openDoors_63 : decode cX3_openDoors 63 = .ok (.aload_n 0, 1) := by decide +kernel
theorem dX3_openDoors_64 : decode cX3_openDoors 64 = .ok (.dup, 1) := by decide +kernel
theorem dX3_openDoors_65 : decode cX3_openDoors 65 = .ok (.getfield 72, 3) := by decide +kernel
theorem dX3_openDoors_68 : decode cX3_openDoors 68 = .ok (.iconst 1, 1) := by decide +kernel
theorem dX3_openDoors_69 : decode cX3_openDoors 69 = .ok (.iadd, 1) := by decide +kernel
theorem dX3_openDoors_70 : decode cX3_openDoors 70 = .ok (.putfield 72, 3) := by decide +kernel
theorem dX3_openDoors_73 : decode cX3_openDoors 73 = .ok (.iinc 1 1, 3) := by decide +kernel
theorem dX3_openDoors_76 : decode cX3_openDoors 76 = .ok (.goto (-74), 3) := by decide +kernel
theorem dX3_openDoors_79 : decode cX3_openDoors 79 = .ok (.iconst 0, 1) := by decide +kernel
theorem dX3_openDoors_80 : decode cX3_openDoors 80 = .ok (.istore_n 1, 1) := by decide +kernel
theorem dX3_openDoors_81 : decode cX3_openDoors 81 = .ok (.iload_n 1, 1) := by decide +kernel
theorem dX3_openDoors_82 : decode cX3_openDoors 82 = .ok (.aload_n 0, 1) := by decide +kernel
theorem dX3_openDoors_83 : decode cX3_openDoors 83 = .ok (.getfield 66, 3) := by decide +kernel
theorem dX3_openDoors_86 : decode cX3_openDoors 86 = .ok (.if_icmp .ge 83, 3) := by decide +kernel
theorem dX3_openDoors_89 : decode cX3_openDoors 89 = .ok (.aload_n 0, 1) := by decide +kernel
theorem dX3_openDoors_90 : decode cX3_openDoors 90 = .ok (.getfield 69, 3) := by decide +kernel
theorem dX3_openDoors_93 : decode cX3_openDoors 93 = .ok (.aload_n 0, 1) := by decide +kernel
theorem dX3_openDoors_94 : decode cX3_openDoors 94 = .ok (.getfield 38, 3) := by decide +kernel
theorem dX3_openDoors_97 : decode cX3_openDoors 97 = .ok (.if_icmp .ge 72, 3) := by decide +kernel
theorem dX3_openDoors_100 : decode cX3_openDoors 100 = .ok (.aload_n 0, 1) := by decide +kernel
theorem dX3_openDoors_101 : decode cX3_openDoors 101 = .ok (.getfield 27, 3) := by decide +kernel
theorem dX3_openDoors_104 : decode cX3_openDoors 104 = .ok (.iload_n 1, 1) := by decide +kernel
theorem dX3_openDoors_105 : decode cX3_openDoors 105 = .ok (.iaload, 1) := by decide +kernel
theorem dX3_openDoors_106 : decode cX3_openDoors 106 = .ok (.istore_n 2, 1) := by decide +kernel
theorem dX3_openDoors_107 : decode cX3_openDoors 107 = .ok (.aload_n 0, 1) := by decide +kernel
theorem dX3_openDoors_108 : decode cX3_openDoors 108 = .ok (.getfield 9, 3) := by decide +kernel
theorem dX3_openDoors_111 : decode cX3_openDoors 111 = .ok (.iload_n 2, 1) := by decide +kernel
theorem dX3_openDoors_112 : decode cX3_openDoors 112 = .ok (.iaload, 1) := by decide +kernel
theorem dX3_openDoors_113 : decode cX3_openDoors 113 = .ok (.aload_n 0, 1) := by decide +kernel
theorem dX3_openDoors_114 : decode cX3_openDoors 114 = .ok (.getfield 47, 3) := by decide +kernel
theorem dX3_openDoors_117 : decode cX3_openDoors 117 = .ok (.if_icmp .ne 46, 3) := by decide +kernel
theorem dX3_openDoors_120 : decode cX3_openDoors 120 = .ok (.aload_n 0, 1) := by decide +kernel
theorem dX3_openDoors_121 : decode cX3_openDoors 121 = .ok (.getfield 21, 3) := by decide +kernel
theorem dX3_openDoors_124 : decode cX3_openDoors 124 = .ok (.iload_n 2, 1) := by decide +kernel
theorem dX3_openDoors_125 : decode cX3_openDoors 125 = .ok (.iaload, 1) := by decide +kernel
theorem dX3_openDoors_126 : decode cX3_openDoors 126 = .ok (.iconst (-1), 1) := by decide +kernel
theorem dX3_openDoors_127 : decode cX3_openDoors 127 = .ok (.if_icmp .ne 36, 3) := by decide +kernel
theorem dX3_openDoors_130 : decode cX3_openDoors 130 = .ok (.aload_n 0, 1) := by decide +kernel
theorem dX3_openDoors_131 : decode cX3_openDoors 131 = .ok (.getfield 18, 3) := by decide +kernel
theorem dX3_openDoors_134 : decode cX3_openDoors 134 = .ok (.iload_n 2, 1) := by decide +kernel
theorem dX3_openDoors_135 : decode cX3_openDoors 135 = .ok (.iaload, 1) := by decide +kernel
theorem dX3_openDoors_136 : decode cX3_openDoors 136 = .ok (.aload_n 0, 1) := by decide +kernel
theorem dX3_openDoors_137 : decode cX3_openDoors 137 = .ok (.getfield 44, 3) := by decide +kernel
theorem dX3_openDoors_140 : decode cX3_openDoors 140 = .ok (.if_icmp .gt 23, 3) := by decide +kernel
theorem dX3_openDoors_143 : decode cX3_openDoors 143 = .ok (.aload_n 0, 1) := by decide +kernel
theorem dX3_openDoors_144 : decode cX3_openDoors 144 = .ok (.getfield 21, 3) := by decide +kernel
theorem dX3_openDoors_147 : decode cX3_openDoors 147 = .ok (.iload_n 2, 1) := by decide +kernel
theorem dX3_openDoors_148 : decode cX3_openDoors 148 = .ok (.aload_n 0, 1) := by decide +kernel
theorem dX3_openDoors_149 : decode cX3_openDoors 149 = .ok (.getfield 44, 3) := by decide +kernel
theorem dX3_openDoors_152 : decode cX3_openDoors 152 = .ok (.iastore, 1) := by decide +kernel
theorem dX3_openDoors_153 : decode cX3_openDoors 153 = .ok (.aload_n 0, 1) := by decide +kernel
theorem dX3_openDoors_154 : decode cX3_openDoors 154 = .ok (.dup, 1) := by decide +kernel
theorem dX3_openDoors_155 : decode cX3_openDoors 155 = .ok (.getfield 69, 3) := by decide +kernel
theorem dX3_openDoors_158 : decode cX3_openDoors 158 = .ok (.iconst 1, 1) := by decide +kernel
theorem dX3_openDoors_159 : decode cX3_openDoors 159 = .ok (.iadd, 1) := by decide +kernel
theorem dX3_openDoors_160 : decode cX3_openDoors 160 = .ok (.putfield 69, 3) := by decide +kernel
theorem dX3_openDoors_163 : decode cX3_openDoors 163 = .ok (.iinc 1 1, 3) := by decide +kernel
theorem dX3_openDoors_166 : decode cX3_openDoors 166 = .ok (.goto (-85), 3) := by decide +kernel
theorem dX3_openDoors_169 : decode cX3_openDoors 169 = .ok (.aload_n 0, 1) := by decide +kernel
theorem dX3_openDoors_170 : decode cX3_openDoors 170 = .ok (.dup, 1) := by decide +kernel
theorem dX3_openDoors_171 : decode cX3_openDoors 171 = .ok (.getfield 57, 3) := by decide +kernel
theorem dX3_openDoors_174 : decode cX3_openDoors 174 = .ok (.iconst 1, 1) := by decide +kernel
theorem dX3_openDoors_175 : decode cX3_openDoors 175 = .ok (.iadd, 1) := by decide +kernel
theorem dX3_openDoors_176 : decode cX3_openDoors 176 = .ok (.putfield 57, 3) := by decide +kernel
theorem dX3_openDoors_179 : decode cX3_openDoors 179 = .ok (.return_, 1) := by decide +kernel
theorem dX3_moveTowards_0 : decode cX3_moveTowards 0 = .ok (.iload_n 1, 1) := by decide +kernel
theorem dX3_moveTowards_1 : decode cX3_moveTowards 1 = .ok (.aload_n 0, 1) := by decide +kernel
theorem dX3_moveTowards_2 : decode cX3_moveTowards 2 = .ok (.getfield 47, 3) := by decide +kernel
theorem dX3_moveTowards_5 : decode cX3_moveTowards 5 = .ok (.if_icmp .le 7, 3) := by decide +kernel
theorem dX3_moveTowards_8 : decode cX3_moveTowards 8 = .ok (.iconst 1, 1) := by decide +kernel
theorem dX3_moveTowards_9 : decode cX3_moveTowards 9 = .ok (.goto 4, 3) := by decide +kernel
theorem dX3_moveTowards_12 : decode cX3_moveTowards 12 = .ok (.iconst 0, 1) := by decide +kernel
theorem dX3_moveTowards_13 : decode cX3_moveTowards 13 = .ok (.istore_n 2, 1) := by decide +kernel
theorem dX3_moveTowards_14 : decode cX3_moveTowards 14 = .ok (.aload_n 0, 1) := by decide +kernel
theorem dX3_moveTowards_15 : decode cX3_moveTowards 15 = .ok (.getfield 41, 3) := by decide +kernel
theorem dX3_moveTowards_18 : decode cX3_moveTowards 18 = .ok (.iconst 2, 1) := by decide +kernel
theorem dX3_moveTowards_19 : decode cX3_moveTowards 19 = .ok (.if_icmp .ne 26, 3) := by decide +kernel
theorem dX3_moveTowards_22 : decode cX3_moveTowards 22 = .ok (.iload_n 2, 1) := by decide +kernel
theorem dX3_moveTowards_23 : decode cX3_moveTowards 23 = .ok (.aload_n 0, 1) := by decide +kernel
theorem dX3_moveTowards_24 : decode cX3_moveTowards 24 = .ok (.getfield 50, 3) := by decide +kernel
theorem dX3_moveTowards_27 : decode cX3_moveTowards 27 = .ok (.if_icmp .eq 18, 3) := by decide +kernel
theorem dX3_moveTowards_30 : decode cX3_moveTowards 30 = .ok (.aload_n 0, 1) := by decide +kernel
theorem dX3_moveTowards_31 : decode cX3_moveTowards 31 = .ok (.iload_n 2, 1) := by decide +kernel
theorem dX3_moveTowards_32 : decode cX3_moveTowards 32 = .ok (.putfield 50, 3) := by decide +kernel
theorem dX3_moveTowards_35 : decode cX3_moveTowards 35 = .ok (.aload_n 0, 1) := by decide +kernel
theorem dX3_moveTowards_36 : decode cX3_moveTowards 36 = .ok (.dup, 1) := by decide +kernel
theorem dX3_moveTowards_37 : decode cX3_moveTowards 37 = .ok (.getfield 63, 3) := by decide +kernel
theorem dX3_moveTowards_40 : decode cX3_moveTowards 40 = .ok (.iconst 1, 1) := by decide +kernel
theorem dX3_moveTowards_41 : decode cX3_moveTowards 41 = .ok (.iadd, 1) := by decide +kernel
theorem dX3_moveTowards_42 : decode cX3_moveTowards 42 = .ok (.putfield 63, 3) := by decide +kernel
theorem dX3_moveTowards_45 : decode cX3_moveTowards 45 = .ok (.aload_n 0, 1) := by decide +kernel
theorem dX3_moveTowards_46 : decode cX3_moveTowards 46 = .ok (.dup, 1) := by decide +kernel
theorem dX3_moveTowards_47 : decode cX3_moveTowards 47 = .ok (.getfield 47, 3) := by decide +kernel
theorem dX3_moveTowards_50 : decode cX3_moveTowards 50 = .ok (.iload_n 2, 1) := by decide +kernel
theorem dX3_moveTowards_51 : decode cX3_moveTowards 51 = .ok (.ifCond .eq 7, 3) := by decide +kernel
theorem dX3_moveTowards_54 : decode cX3_moveTowards 54 = .ok (.iconst 1, 1) := by decide +kernel
theorem dX3_moveTowards_55 : decode cX3_moveTowards 55 = .ok (.goto 4, 3) := by decide +kernel
theorem dX3_moveTowards_58 : decode cX3_moveTowards 58 = .ok (.iconst (-1), 1) := by decide +kernel
theorem dX3_moveTowards_59 : decode cX3_moveTowards 59 = .ok (.iadd, 1) := by decide +kernel
theorem dX3_moveTowards_60 : decode cX3_moveTowards 60 = .ok (.putfield 47, 3) := by decide +kernel
theorem dX3_moveTowards_63 : decode cX3_moveTowards 63 = .ok (.aload_n 0, 1) := by decide +kernel
theorem dX3_moveTowards_64 : decode cX3_moveTowards 64 = .ok (.dup, 1) := by decide +kernel
theorem dX3_moveTowards_65 : decode cX3_moveTowards 65 = .ok (.getfield 54, 3) := by decide +kernel
theorem dX3_moveTowards_68 : decode cX3_moveTowards 68 = .ok (.iconst 1, 1) := by decide +kernel
theorem dX3_moveTowards_69 : decode cX3_moveTowards 69 = .ok (.iadd, 1) := by decide +kernel
theorem dX3_moveTowards_70 : decode cX3_moveTowards 70 = .ok (.putfield 54, 3) := by decide +kernel
theorem dX3_moveTowards_73 : decode cX3_moveTowards 73 = .ok (.return_, 1) := by decide +kernel
theorem dX4_init_0 : decode cX4_init 0 = .ok (.aload_n 0, 1) := by decide +kernel
theorem dX4_init_1 : decode cX4_init 1 = .ok (.invokespecial 1, 3) := by decide +kernel
theorem dX4_init_4 : decode cX4_init 4 = .ok (.aload_n 0, 1) := by decide +kernel
theorem dX4_init_5 : decode cX4_init 5 = .ok (.new 7, 3) := by decide +kernel
theorem dX4_init_8 : decode cX4_init 8 = .ok (.dup, 1) := by decide +kernel
theorem dX4_init_9 : decode cX4_init 9 = .ok (.invokespecial 9, 3) := by decide +kernel
theorem dX4_init_12 : decode cX4_init 12 = .ok (.putfield 10, 3) := by decide +kernel
theorem dX4_init_15 : decode cX4_init 15 = .ok (.aload_n 0, 1) := by decide +kernel
theorem dX4_init_16 : decode cX4_init 16 = .ok (.new 7, 3) := by decide +kernel
theorem dX4_init_19 : decode cX4_init 19 = .ok (.dup, 1) := by decide +kernel
theorem dX4_init_20 : decode cX4_init 20 = .ok (.invokespecial 9, 3) := by decide +kernel
theorem dX4_init_23 : decode cX4_init 23 = .ok (.putfield 16, 3) := by decide +kernel
theorem dX4_init_26 : decode cX4_init 26 = .ok (.aload_n 0, 1) := by decide +kernel
theorem dX4_init_27 : decode cX4_init 27 = .ok (.bipush 8, 2) := by decide +kernel
theorem dX4_init_29 : decode cX4_init 29 = .ok (.anewarray 7, 3) := by decide +kernel
theorem dX4_init_32 : decode cX4_init 32 = .ok (.putfield 19, 3) := by decide +kernel
theorem dX4_init_35 : decode cX4_init 35 = .ok (.aload_n 0, 1) := by decide +kernel
theorem dX4_init_36 : decode cX4_init 36 = .ok (.iconst 0, 1) := by decide +kernel
theorem dX4_init_37 : decode cX4_init 37 = .ok (.putfield 23, 3) := by decide +kernel
theorem dX4_init_40 : decode cX4_init 40 = .ok (.aload_n 0, 1) := by decide +kernel
theorem dX4_init_41 : decode cX4_init 41 = .ok (.iconst 0, 1) := by decide +kernel
theorem dX4_init_42 : decode cX4_init 42 = .ok (.putfield 27, 3) := by decide +kernel
theorem dX4_init_45 : decode cX4_init 45 = .ok (.aload_n 0, 1) := by decide +kernel
theorem dX4_init_46 : decode cX4_init 46 = .ok (.iconst 2, 1) := by decide +kernel
theorem dX4_init_47 : decode cX4_init 47 = .ok (.anewarray 7, 3) := by decide +kernel
theorem dX4_init_50 : decode cX4_init 50 = .ok (.putfield 30, 3) := by decide +kernel
theorem dX4_init_53 : decode cX4_init 53 = .ok (.aload_n 0, 1) := by decide +kernel
theorem dX4_init_54 : decode cX4_init 54 = .ok (.iconst 2, 1) := by decide +kernel
theorem dX4_init_55 : decode cX4_init 55 = .ok (.newarray .boolean, 2) := by decide +kernel
theorem dX4_init_57 : decode cX4_init 57 = .ok (.putfield 33, 3) := by decide +kernel
theorem dX4_init_60 : decode cX4_init 60 = .ok (.aload_n 0, 1) := by decide +kernel
theorem dX4_init_61 : decode cX4_init 61 = .ok (.sipush 500, 3) := by decide +kernel
theorem dX4_init_64 : decode cX4_init 64 = .ok (.newarray .byte, 2) := by decide +kernel
theorem dX4_init_66 : decode cX4_init 66 = .ok (.putfield 37, 3) := by decide +kernel
theorem dX4_init_69 : decode cX4_init 69 = .ok (.aload_n 0, 1) := by decide +kernel
theorem dX4_init_70 : decode cX4_init 70 = .ok (.iconst 0, 1) := by decide +kernel
theorem dX4_init_71 : decode cX4_init 71 = .ok (.putfield 41, 3) := by decide +kernel
theorem dX4_init_74 : decode cX4_init 74 = .ok (.aload_n 0, 1) := by decide +kernel
theorem dX4_init_75 : decode cX4_init 75 = .ok (.new 44, 3) := by decide +kernel
theorem dX4_init_78 : decode cX4_init 78 = .ok (.dup, 1) := by decide +kernel
theorem dX4_init_79 : decode cX4_init 79 = .ok (.invokespecial 46, 3) := by decide +kernel
theorem dX4_init_82 : decode cX4_init 82 = .ok (.putfield 47, 3) := by decide +kernel
theorem dX4_init_85 : decode cX4_init 85 = .ok (.aload_n 0, 1) := by decide +kernel
theorem dX4_init_86 : decode cX4_init 86 = .ok (.bipush 64, 2) := by decide +kernel
theorem dX4_init_88 : decode cX4_init 88 = .ok (.newarray .byte, 2) := by decide +kernel
theorem dX4_init_90 : decode cX4_init 90 = .ok (.putfield 51, 3) := by decide +kernel
theorem dX4_init_93 : decode cX4_init 93 = .ok (.aload_n 0, 1) := by decide +kernel
theorem dX4_init_94 : decode cX4_init 94 = .ok (.iconst 0, 1) := by decide +kernel
theorem dX4_init_95 : decode cX4_init 95 = .ok (.putfield 54, 3) := by decide +kernel
theorem dX4_init_98 : decode cX4_init 98 = .ok (.iconst 0, 1) := by decide +kernel
theorem dX4_init_99 : decode cX4_init 99 = .ok (.istore_n 1, 1) := by decide +kernel
theorem dX4_init_100 : decode cX4_init 100 = .ok (.iload_n 1, 1) := by decide +kernel
theorem dX4_init_101 : decode cX4_init 101 = .ok (.bipush 8, 2) := by decide +kernel
theorem dX4_init_103 : decode cX4_init 103 = .ok (.if_icmp .ge 22, 3) := by decide +kernel
theorem dX4_init_106 : decode cX4_init 106 = .ok (.aload_n 0, 1) := by decide +kernel
theorem dX4_init_107 : decode cX4_init 107 = .ok (.getfield 19, 3) := by decide +kernel
theorem dX4_init_110 : decode cX4_init 110 = .ok (.iload_n 1, 1) := by decide +kernel
theorem dX4_init_111 : decode cX4_init 111 = .ok (.new 7, 3) := by decide +kernel
theorem dX4_init_114 : decode cX4_init 114 = .ok (.dup, 1) := by decide +kernel
theorem dX4_init_115 : decode cX4_init 115 = .ok (.invokespecial 9, 3) := by decide +kernel
theorem dX4_init_118 : decode cX4_init 118 = .ok (.aastore, 1) := by decide +kernel
theorem dX4_init_119 : decode cX4_init 119 = .ok (.iinc 1 1, 3) := by decide +kernel
theorem dX4_init_122 : decode cX4_init 122 = .ok (.goto (-22), 3) := by decide +kernel
theorem dX4_init_125 : decode cX4_init 125 = .ok (.iconst 0, 1) := by decide +kernel
theorem dX4_init_126 : decode cX4_init 126 = .ok (.istore_n 1, 1) := by decide +kernel
theorem dX4_init_127 : decode cX4_init 127 = .ok (.iload_n 1, 1) := by decide +kernel
theorem dX4_init_128 : decode cX4_init 128 = .ok (.iconst 2, 1) := by decide +kernel
theorem dX4_init_129 : decode cX4_init 129 = .ok (.if_icmp .ge 22, 3) := by decide +kernel
theorem dX4_init_132 : decode cX4_init 132 = .ok (.aload_n 0, 1) := by decide +kernel
theorem dX4_init_133 : decode cX4_init 133 = .ok (.getfield 30, 3) := by decide +kernel
theorem dX4_init_136 : decode cX4_init 136 = .ok (.iload_n 1, 1) := by decide +kernel
theorem dX4_init_137 : decode cX4_init 137 = .ok (.new 7, 3) := by decide +kernel
theorem dX4_init_140 : decode cX4_init 140 = .ok (.dup, 1) := by decide +kernel
theorem dX4_init_141 : decode cX4_init 141 = .ok (.invokespecial 9, 3) := by decide +kernel
theorem dX4_init_144 : decode cX4_init 144 = .ok (.aastore, 1) := by decide +kernel
theorem dX4_init_145 : decode cX4_init 145 = .ok (.iinc 1 1, 3) := by decide +kernel
theorem dX4_init_148 : decode cX4_init 148 = .ok (.goto (-21), 3) := by decide +kernel
theorem dX4_init_151 : decode cX4_init 151 = .ok (.return_, 1) := by decide +kernel
theorem dX4_append_0 : decode cX4_append 0 = .ok (.aload_n 0, 1) := by decide +kernel
theorem dX4_append_1 : decode cX4_append 1 = .ok (.getfield 41, 3) := by decide +kernel
theorem dX4_append_4 : decode cX4_append 4 = .ok (.bipush 20, 2) := by decide +kernel
theorem dX4_append_6 : decode cX4_append 6 = .ok (.iadd, 1) := by decide +kernel
theorem dX4_append_7 : decode cX4_append 7 = .ok (.sipush 500, 3) := by decide +kernel
theorem dX4_append_10 : decode cX4_append 10 = .ok (.if_icmp .le 5, 3) := by decide +kernel
theorem dX4_append_13 : decode cX4_append 13 = .ok (.iconst (-1), 1) := by decide +kernel
theorem dX4_append_14 : decode cX4_append 14 = .ok (.ireturn, 1) := by decide +kernel
theorem dX4_append_15 : decode cX4_append 15 = .ok (.aload_n 0, 1) := by decide +kernel
theorem dX4_append_16 : decode cX4_append 16 = .ok (.iload_n 1, 1) := by decide +kernel
theorem dX4_append_17 : decode cX4_append 17 = .ok (.invokevirtual 57, 3) := by decide +kernel
theorem dX4_append_20 : decode cX4_append 20 = .ok (.aload_n 0, 1) := by decide +kernel
theorem dX4_append_21 : decode cX4_append 21 = .ok (.iload_n 2, 1) := by decide +kernel
theorem dX4_append_22 : decode cX4_append 22 = .ok (.invokevirtual 57, 3) := by decide +kernel
theorem dX4_append_25 : decode cX4_append 25 = .ok (.aload_n 0, 1) := by decide +kernel
theorem dX4_append_26 : decode cX4_append 26 = .ok (.iload_n 3, 1) := by decide +kernel
theorem dX4_append_27 : decode cX4_append 27 = .ok (.invokevirtual 57, 3) := by decide +kernel
theorem dX4_append_30 : decode cX4_append 30 = .ok (.aload_n 0, 1) := by decide +kernel
theorem dX4_append_31 : decode cX4_append 31 = .ok (.iload 4, 2) := by decide +kernel
theorem dX4_append_33 : decode cX4_append 33 = .ok (.invokevirtual 57, 3) := by decide +kernel
theorem dX4_append_36 : decode cX4_append 36 = .ok (.aload_n 0, 1) := by decide +kernel
theorem dX4_append_37 : decode cX4_append 37 = .ok (.iload 5, 2) := by decide +kernel
theorem dX4_append_39 : decode cX4_append 39 = .ok (.invokevirtual 57, 3) := by decide +kernel
theorem dX4_append_42 : decode cX4_append 42 = .ok (.aload_n 0, 1) := by decide +kernel
theorem dX4_append_43 : decode cX4_append 43 = .ok (.getfield 41, 3) := by decide +kernel
theorem dX4_append_46 : decode cX4_append 46 = .ok (.ireturn, 1) := by decide +kernel
theorem dX4_appendFour_0 : decode cX4_appendFour 0 = .ok (.bipush 24, 2) := by decide +kernel
theorem dX4_appendFour_2 : decode cX4_appendFour 2 = .ok (.istore_n 2, 1) := by decide +kernel
theorem dX4_appendFour_3 : decode cX4_appendFour 3 = .ok (.iload_n 2, 1) := by decide +kernel
theorem dX4_appendFour_4 : decode cX4_appendFour 4 = .ok (.ifCond .lt 42, 3) := by decide +kernel
theorem dX4_appendFour_7 : decode cX4_appendFour 7 = .ok (.aload_n 0, 1) := by decide +kernel
theorem dX4_appendFour_8 : decode cX4_appendFour 8 = .ok (.getfield 41, 3) := by decide +kernel
theorem dX4_appendFour_11 : decode cX4_appendFour 11 = .ok (.sipush 500, 3) := by decide +kernel
theorem dX4_appendFour_14 : decode cX4_appendFour 14 = .ok (.if_icmp .ge 26, 3) := by decide +kernel
theorem dX4_appendFour_17 : decode cX4_appendFour 17 = .ok (.aload_n 0, 1) := by decide +kernel
theorem dX4_appendFour_18 : decode cX4_appendFour 18 = .ok (.getfield 37, 3) := by decide +kernel
theorem dX4_appendFour_21 : decode cX4_appendFour 21 = .ok (.aload_n 0, 1) := by decide +kernel
theorem dX4_appendFour_22 : decode cX4_appendFour 22 = .ok (.getfield 41, 3) := by decide +kernel
theorem dX4_appendFour_25 : decode cX4_appendFour 25 = .ok (.iload_n 1, 1) := by decide +kernel
theorem dX4_appendFour_26 : decode cX4_appendFour 26 = .ok (.iload_n 2, 1) := by decide +kernel
theorem dX4_appendFour_27 : decode cX4_appendFour 27 = .ok (.iushr, 1) := by decide +kernel
theorem dX4_appendFour_28 : decode cX4_appendFour 28 = .ok (.i2b, 1) := by decide +kernel
theorem dX4_appendFour_29 : decode cX4_appendFour 29 = .ok (.bastore, 1) := by decide +kernel
theorem dX4_appendFour_30 : decode cX4_appendFour 30 = .ok (.aload_n 0, 1) := by decide +kernel
theorem dX4_appendFour_31 : decode cX4_appendFour 31 = .ok (.dup, 1) := by decide +kernel
theorem dX4_appendFour_32 : decode cX4_appendFour 32 = .ok (.getfield 41, 3) := by decide +kernel
theorem dX4_appendFour_35 : decode cX4_appendFour 35 = .ok (.iconst 1, 1) := by decide +kernel
theorem dX4_appendFour_36 : decode cX4_appendFour 36 = .ok (.iadd, 1) := by decide +kernel
theorem dX4_appendFour_37 : decode cX4_appendFour 37 = .ok (.putfield 41, 3) := by decide +kernel
theorem dX4_appendFour_40 : decode cX4_appendFour 40 = .ok (.iinc 2 (-8), 3) := by decide +kernel
theorem dX4_appendFour_43 : decode cX4_appendFour 43 = .ok (.goto (-40), 3) := by decide +kernel
theorem dX4_appendFour_46 : decode cX4_appendFour 46 = .ok (.return_, 1) := by decide +kernel
theorem dX4_truncate_0 : decode cX4_truncate 0 = .ok (.iload_n 1, 1) := by decide +kernel
theorem dX4_truncate_1 : decode cX4_truncate 1 = .ok (.ifCond .lt 11, 3) := by decide +kernel
theorem dX4_truncate_4 : decode cX4_truncate 4 = .ok (.iload_n 1, 1) := by decide +kernel
theorem dX4_truncate_5 : decode cX4_truncate 5 = .ok (.aload_n 0, 1) := by decide +kernel
theorem dX4_truncate_6 : decode cX4_truncate 6 = .ok (.getfield 41, 3) := by decide +kernel
theorem dX4_truncate_9 : decode cX4_truncate 9 = .ok (.if_icmp .le 5, 3) := by decide +kernel
theorem dX4_truncate_12 : decode cX4_truncate 12 = .ok (.iconst 0, 1) := by decide +kernel
theorem dX4_truncate_13 : decode cX4_truncate 13 = .ok (.ireturn, 1) := by decide +kernel
theorem dX4_truncate_14 : decode cX4_truncate 14 = .ok (.aload_n 0, 1) := by decide +kernel
theorem dX4_truncate_15 : decode cX4_truncate 15 = .ok (.iload_n 1, 1) := by decide +kernel
theorem dX4_truncate_16 : decode cX4_truncate 16 = .ok (.putfield 41, 3) := by decide +kernel
theorem dX4_truncate_19 : decode cX4_truncate 19 = .ok (.iconst 1, 1) := by decide +kernel
theorem dX4_truncate_20 : decode cX4_truncate 20 = .ok (.ireturn, 1) := by decide +kernel
theorem dX4_load_0 : decode cX4_load 0 = .ok (.aload_n 0, 1) := by decide +kernel
theorem dX4_load_1 : decode cX4_load 1 = .ok (.getfield 47, 3) := by decide +kernel
theorem dX4_load_4 : decode cX4_load 4 = .ok (.aload_n 0, 1) := by decide +kernel
theorem dX4_load_5 : decode cX4_load 5 = .ok (.getfield 37, 3) := by decide +kernel
theorem dX4_load_8 : decode cX4_load 8 = .ok (.aload_n 0, 1) := by decide +kernel
theorem dX4_load_9 : decode cX4_load 9 = .ok (.getfield 41, 3) := by decide +kernel
theorem dX4_load_12 : decode cX4_load 12 = .ok (.invokevirtual 61, 3) := by decide +kernel
theorem dX4_load_15 : decode cX4_load 15 = .ok (.aload_n 0, 1) := by decide +kernel
theorem dX4_load_16 : decode cX4_load 16 = .ok (.iconst 0, 1) := by decide +kernel
theorem dX4_load_17 : decode cX4_load 17 = .ok (.putfield 41, 3) := by decide +kernel
theorem dX4_load_20 : decode cX4_load 20 = .ok (.aload_n 0, 1) := by decide +kernel
theorem dX4_load_21 : decode cX4_load 21 = .ok (.getfield 47, 3) := by decide +kernel
theorem dX4_load_24 : decode cX4_load 24 = .ok (.aload_n 0, 1) := by decide +kernel
theorem dX4_load_25 : decode cX4_load 25 = .ok (.getfield 16, 3) := by decide +kernel
theorem dX4_load_28 : decode cX4_load 28 = .ok (.invokevirtual 65, 3) := by decide +kernel
theorem dX4_load_31 : decode cX4_load 31 = .ok (.ifCond .eq 17, 3) := by decide +kernel
theorem dX4_load_34 : decode cX4_load 34 = .ok (.aload_n 0, 1) := by decide +kernel
theorem dX4_load_35 : decode cX4_load 35 = .ok (.getfield 47, 3) := by decide +kernel
theorem dX4_load_38 : decode cX4_load 38 = .ok (.aload_n 0, 1) := by decide +kernel
theorem dX4_load_39 : decode cX4_load 39 = .ok (.getfield 16, 3) := by decide +kernel
theorem dX4_load_42 : decode cX4_load 42 = .ok (.invokevirtual 69, 3) := by decide +kernel
theorem dX4_load_45 : decode cX4_load 45 = .ok (.ifCond .ne 13, 3) := by decide +kernel
theorem dX4_load_48 : decode cX4_load 48 = .ok (.new 72, 3) := by decide +kernel
theorem dX4_load_51 : decode cX4_load 51 = .ok (.dup, 1) := by decide +kernel
theorem dX4_load_52 : decode cX4_load 52 = .ok (.ldc 74, 2) := by decide +kernel
theorem dX4_load_54 : decode cX4_load 54 = .ok (.invokespecial 76, 3) := by decide +kernel
theorem dX4_load_57 : decode cX4_load 57 = .ok (.athrow, 1) := by decide +kernel
theorem dX4_load_58 : decode cX4_load 58 = .ok (.aload_n 0, 1) := by decide +kernel
theorem dX4_load_59 : decode cX4_load 59 = .ok (.getfield 10, 3) := by decide +kernel
theorem dX4_load_62 : decode cX4_load 62 = .ok (.aload_n 0, 1) := by decide +kernel
theorem dX4_load_63 : decode cX4_load 63 = .ok (.getfield 16, 3) := by decide +kernel
theorem dX4_load_66 : decode cX4_load 66 = .ok (.invokevirtual 79, 3) := by decide +kernel
theorem dX4_load_69 : decode cX4_load 69 = .ok (.aload_n 0, 1) := by decide +kernel
theorem dX4_load_70 : decode cX4_load 70 = .ok (.iconst 0, 1) := by decide +kernel
theorem dX4_load_71 : decode cX4_load 71 = .ok (.putfield 27, 3) := by decide +kernel
theorem dX4_load_74 : decode cX4_load 74 = .ok (.iconst 0, 1) := by decide +kernel
theorem dX4_load_75 : decode cX4_load 75 = .ok (.istore_n 1, 1) := by decide +kernel
theorem dX4_load_76 : decode cX4_load 76 = .ok (.iload_n 1, 1) := by decide +kernel
theorem dX4_load_77 : decode cX4_load 77 = .ok (.iconst 2, 1) := by decide +kernel
theorem dX4_load_78 : decode cX4_load 78 = .ok (.if_icmp .ge 16, 3) := by decide +kernel
theorem dX4_load_81 : decode cX4_load 81 = .ok (.aload_n 0, 1) := by decide +kernel
theorem dX4_load_82 : decode cX4_load 82 = .ok (.getfield 33, 3) := by decide +kernel
theorem dX4_load_85 : decode cX4_load 85 = .ok (.iload_n 1, 1) := by decide +kernel
theorem dX4_load_86 : decode cX4_load 86 = .ok (.iconst 0, 1) := by decide +kernel
theorem dX4_load_87 : decode cX4_load 87 = .ok (.bastore, 1) := by decide +kernel
theorem dX4_load_88 : decode cX4_load 88 = .ok (.iinc 1 1, 3) := by decide +kernel
theorem dX4_load_91 : decode cX4_load 91 = .ok (.goto (-15), 3) := by decide +kernel
theorem dX4_load_94 : decode cX4_load 94 = .ok (.aload_n 0, 1) := by decide +kernel
theorem dX4_load_95 : decode cX4_load 95 = .ok (.getfield 10, 3) := by decide +kernel
theorem dX4_load_98 : decode cX4_load 98 = .ok (.getfield 83, 3) := by decide +kernel
theorem dX4_load_101 : decode cX4_load 101 = .ok (.ireturn, 1) := by decide +kernel
theorem dX4_parseError_0 : decode cX4_parseError 0 = .ok (.aload_n 0, 1) := by decide +kernel
theorem dX4_parseError_1 : decode cX4_parseError 1 = .ok (.getfield 47, 3) := by decide +kernel
theorem dX4_parseError_4 : decode cX4_parseError 4 = .ok (.getfield 94, 3) := by decide +kernel
theorem dX4_parseError_7 : decode cX4_parseError 7 = .ok (.ireturn, 1) := by decide +kernel
theorem dX4_floorCount_0 : decode cX4_floorCount 0 = .ok (.aload_n 0, 1) := by decide +kernel
theorem dX4_floorCount_1 : decode cX4_floorCount 1 = .ok (.getfield 10, 3) := by decide +kernel
theorem dX4_floorCount_4 : decode cX4_floorCount 4 = .ok (.getfield 100, 3) := by decide +kernel
theorem dX4_floorCount_7 : decode cX4_floorCount 7 = .ok (.ireturn, 1) := by decide +kernel
theorem dX4_capacity_0 : decode cX4_capacity 0 = .ok (.aload_n 0, 1) := by decide +kernel
theorem dX4_capacity_1 : decode cX4_capacity 1 = .ok (.getfield 10, 3) := by decide +kernel
theorem dX4_capacity_4 : decode cX4_capacity 4 = .ok (.getfield 103, 3) := by decide +kernel
theorem dX4_capacity_7 : decode cX4_capacity 7 = .ok (.ireturn, 1) := by decide +kernel
theorem dX4_policy_0 : decode cX4_policy 0 = .ok (.aload_n 0, 1) := by decide +kernel
theorem dX4_policy_1 : decode cX4_policy 1 = .ok (.getfield 10, 3) := by decide +kernel
theorem dX4_policy_4 : decode cX4_policy 4 = .ok (.getfield 106, 3) := by decide +kernel
theorem dX4_policy_7 : decode cX4_policy 7 = .ok (.ireturn, 1) := by decide +kernel
theorem dX4_time_0 : decode cX4_time 0 = .ok (.aload_n 0, 1) := by decide +kernel
theorem dX4_time_1 : decode cX4_time 1 = .ok (.getfield 10, 3) := by decide +kernel
theorem dX4_time_4 : decode cX4_time 4 = .ok (.getfield 109, 3) := by decide +kernel
theorem dX4_time_7 : decode cX4_time 7 = .ok (.ireturn, 1) := by decide +kernel
theorem dX4_floor_0 : decode cX4_floor 0 = .ok (.aload_n 0, 1) := by decide +kernel
theorem dX4_floor_1 : decode cX4_floor 1 = .ok (.getfield 10, 3) := by decide +kernel
theorem dX4_floor_4 : decode cX4_floor 4 = .ok (.getfield 112, 3) := by decide +kernel
theorem dX4_floor_7 : decode cX4_floor 7 = .ok (.ireturn, 1) := by decide +kernel
theorem dX4_isFull_0 : decode cX4_isFull 0 = .ok (.aload_n 0, 1) := by decide +kernel
theorem dX4_isFull_1 : decode cX4_isFull 1 = .ok (.getfield 10, 3) := by decide +kernel
theorem dX4_isFull_4 : decode cX4_isFull 4 = .ok (.getfield 119, 3) := by decide +kernel
theorem dX4_isFull_7 : decode cX4_isFull 7 = .ok (.aload_n 0, 1) := by decide +kernel
theorem dX4_isFull_8 : decode cX4_isFull 8 = .ok (.getfield 10, 3) := by decide +kernel
theorem dX4_isFull_11 : decode cX4_isFull 11 = .ok (.getfield 103, 3) := by decide +kernel
theorem dX4_isFull_14 : decode cX4_isFull 14 = .ok (.if_icmp .ne 7, 3) := by decide +kernel
theorem dX4_isFull_17 : decode cX4_isFull 17 = .ok (.iconst 1, 1) := by decide +kernel
theorem dX4_isFull_18 : decode cX4_isFull 18 = .ok (.goto 4, 3) := by decide +kernel
theorem dX4_isFull_21 : decode cX4_isFull 21 = .ok (.iconst 0, 1) := by decide +kernel
theorem dX4_isFull_22 : decode cX4_isFull 22 = .ok (.ireturn, 1) := by decide +kernel
theorem dX4_stopMask_0 : decode cX4_stopMask 0 = .ok (.aload_n 0, 1) := by decide +kernel
theorem dX4_stopMask_1 : decode cX4_stopMask 1 = .ok (.getfield 10, 3) := by decide +kernel
theorem dX4_stopMask_4 : decode cX4_stopMask 4 = .ok (.invokevirtual 122, 3) := by decide +kernel
theorem dX4_stopMask_7 : decode cX4_stopMask 7 = .ok (.ireturn, 1) := by decide +kernel
theorem dX4_targetBy_0 : decode cX4_targetBy 0 = .ok (.aload_n 0, 1) := by decide +kernel
theorem dX4_targetBy_1 : decode cX4_targetBy 1 = .ok (.iload_n 1, 1) := by decide +kernel
theorem dX4_targetBy_2 : decode cX4_targetBy 2 = .ok (.invokevirtual 126, 3) := by decide +kernel
theorem dX4_targetBy_5 : decode cX4_targetBy 5 = .ok (.aload_n 0, 1) := by decide +kernel
theorem dX4_targetBy_6 : decode cX4_targetBy 6 = .ok (.getfield 10, 3) := by decide +kernel
theorem dX4_targetBy_9 : decode cX4_targetBy 9 = .ok (.iload_n 1, 1) := by decide +kernel
theorem dX4_targetBy_10 : decode cX4_targetBy 10 = .ok (.invokevirtual 129, 3) := by decide +kernel
theorem dX4_targetBy_13 : decode cX4_targetBy 13 = .ok (.ireturn, 1) := by decide +kernel
theorem dX4_distance_0 : decode cX4_distance 0 = .ok (.aload_n 0, 1) := by decide +kernel
theorem dX4_distance_1 : decode cX4_distance 1 = .ok (.getfield 10, 3) := by decide +kernel
theorem dX4_distance_4 : decode cX4_distance 4 = .ok (.getfield 133, 3) := by decide +kernel
theorem dX4_distance_7 : decode cX4_distance 7 = .ok (.ireturn, 1) := by decide +kernel
theorem dX4_doorTicks_0 : decode cX4_doorTicks 0 = .ok (.aload_n 0, 1) := by decide +kernel
theorem dX4_doorTicks_1 : decode cX4_doorTicks 1 = .ok (.getfield 10, 3) := by decide +kernel
theorem dX4_doorTicks_4 : decode cX4_doorTicks 4 = .ok (.getfield 136, 3) := by decide +kernel
theorem dX4_doorTicks_7 : decode cX4_doorTicks 7 = .ok (.ireturn, 1) := by decide +kernel
theorem dX4_idleTicks_0 : decode cX4_idleTicks 0 = .ok (.aload_n 0, 1) := by decide +kernel
theorem dX4_idleTicks_1 : decode cX4_idleTicks 1 = .ok (.getfield 10, 3) := by decide +kernel
theorem dX4_idleTicks_4 : decode cX4_idleTicks 4 = .ok (.getfield 139, 3) := by decide +kernel
theorem dX4_idleTicks_7 : decode cX4_idleTicks 7 = .ok (.ireturn, 1) := by decide +kernel
theorem dX4_statusOf_0 : decode cX4_statusOf 0 = .ok (.aload_n 0, 1) := by decide +kernel
theorem dX4_statusOf_1 : decode cX4_statusOf 1 = .ok (.iload_n 1, 1) := by decide +kernel
theorem dX4_statusOf_2 : decode cX4_statusOf 2 = .ok (.invokevirtual 145, 3) := by decide +kernel
theorem dX4_statusOf_5 : decode cX4_statusOf 5 = .ok (.aload_n 0, 1) := by decide +kernel
theorem dX4_statusOf_6 : decode cX4_statusOf 6 = .ok (.getfield 10, 3) := by decide +kernel
theorem dX4_statusOf_9 : decode cX4_statusOf 9 = .ok (.iload_n 1, 1) := by decide +kernel
theorem dX4_statusOf_10 : decode cX4_statusOf 10 = .ok (.invokevirtual 148, 3) := by decide +kernel
theorem dX4_statusOf_13 : decode cX4_statusOf 13 = .ok (.ireturn, 1) := by decide +kernel
theorem dX4_originOf_0 : decode cX4_originOf 0 = .ok (.aload_n 0, 1) := by decide +kernel
theorem dX4_originOf_1 : decode cX4_originOf 1 = .ok (.iload_n 1, 1) := by decide +kernel
theorem dX4_originOf_2 : decode cX4_originOf 2 = .ok (.invokevirtual 145, 3) := by decide +kernel
theorem dX4_originOf_5 : decode cX4_originOf 5 = .ok (.aload_n 0, 1) := by decide +kernel
theorem dX4_originOf_6 : decode cX4_originOf 6 = .ok (.getfield 10, 3) := by decide +kernel
theorem dX4_originOf_9 : decode cX4_originOf 9 = .ok (.getfield 151, 3) := by decide +kernel
theorem dX4_originOf_12 : decode cX4_originOf 12 = .ok (.iload_n 1, 1) := by decide +kernel
theorem dX4_originOf_13 : decode cX4_originOf 13 = .ok (.iaload, 1) := by decide +kernel
theorem dX4_originOf_14 : decode cX4_originOf 14 = .ok (.ireturn, 1) := by decide +kernel
theorem dX4_destinationOf_0 : decode cX4_destinationOf 0 = .ok (.aload_n 0, 1) := by decide +kernel
theorem dX4_destinationOf_1 : decode cX4_destinationOf 1 = .ok (.iload_n 1, 1) := by decide +kernel
theorem dX4_destinationOf_2 : decode cX4_destinationOf 2 = .ok (.invokevirtual 145, 3) := by decide +kernel
theorem dX4_destinationOf_5 : decode cX4_destinationOf 5 = .ok (.aload_n 0, 1) := by decide +kernel
theorem dX4_destinationOf_6 : decode cX4_destinationOf 6 = .ok (.getfield 10, 3) := by decide +kernel
theorem dX4_destinationOf_9 : decode cX4_destinationOf 9 = .ok (.getfield 155, 3) := by decide +kernel
theorem dX4_destinationOf_12 : decode cX4_destinationOf 12 = .ok (.iload_n 1, 1) := by decide +kernel
theorem dX4_destinationOf_13 : decode cX4_destinationOf 13 = .ok (.iaload, 1) := by decide +kernel
theorem dX4_destinationOf_14 : decode cX4_destinationOf 14 = .ok (.ireturn, 1) := by decide +kernel
theorem dX4_arrivalOf_0 : decode cX4_arrivalOf 0 = .ok (.aload_n 0, 1) := by decide +kernel
theorem dX4_arrivalOf_1 : decode cX4_arrivalOf 1 = .ok (.iload_n 1, 1) := by decide +kernel
theorem dX4_arrivalOf_2 : decode cX4_arrivalOf 2 = .ok (.invokevirtual 145, 3) := by decide +kernel
theorem dX4_arrivalOf_5 : decode cX4_arrivalOf 5 = .ok (.aload_n 0, 1) := by decide +kernel
theorem dX4_arrivalOf_6 : decode cX4_arrivalOf 6 = .ok (.getfield 10, 3) := by decide +kernel
theorem dX4_arrivalOf_9 : decode cX4_arrivalOf 9 = .ok (.getfield 158, 3) := by decide +kernel
theorem dX4_arrivalOf_12 : decode cX4_arrivalOf 12 = .ok (.iload_n 1, 1) := by decide +kernel
theorem dX4_arrivalOf_13 : decode cX4_arrivalOf 13 = .ok (.iaload, 1) := by decide +kernel
theorem dX4_arrivalOf_14 : decode cX4_arrivalOf 14 = .ok (.ireturn, 1) := by decide +kernel
theorem dX4_boardedAt_0 : decode cX4_boardedAt 0 = .ok (.aload_n 0, 1) := by decide +kernel
theorem dX4_boardedAt_1 : decode cX4_boardedAt 1 = .ok (.iload_n 1, 1) := by decide +kernel
theorem dX4_boardedAt_2 : decode cX4_boardedAt 2 = .ok (.invokevirtual 145, 3) := by decide +kernel
theorem dX4_boardedAt_5 : decode cX4_boardedAt 5 = .ok (.aload_n 0, 1) := by decide +kernel
theorem dX4_boardedAt_6 : decode cX4_boardedAt 6 = .ok (.getfield 10, 3) := by decide +kernel
theorem dX4_boardedAt_9 : decode cX4_boardedAt 9 = .ok (.getfield 161, 3) := by decide +kernel
theorem dX4_boardedAt_12 : decode cX4_boardedAt 12 = .ok (.iload_n 1, 1) := by decide +kernel
theorem dX4_boardedAt_13 : decode cX4_boardedAt 13 = .ok (.iaload, 1) := by decide +kernel
theorem dX4_boardedAt_14 : decode cX4_boardedAt 14 = .ok (.ireturn, 1) := by decide +kernel
theorem dX4_leftAt_0 : decode cX4_leftAt 0 = .ok (.aload_n 0, 1) := by decide +kernel
theorem dX4_leftAt_1 : decode cX4_leftAt 1 = .ok (.iload_n 1, 1) := by decide +kernel
theorem dX4_leftAt_2 : decode cX4_leftAt 2 = .ok (.invokevirtual 145, 3) := by decide +kernel
theorem dX4_leftAt_5 : decode cX4_leftAt 5 = .ok (.aload_n 0, 1) := by decide +kernel
theorem dX4_leftAt_6 : decode cX4_leftAt 6 = .ok (.getfield 10, 3) := by decide +kernel
theorem dX4_leftAt_9 : decode cX4_leftAt 9 = .ok (.getfield 164, 3) := by decide +kernel
theorem dX4_leftAt_12 : decode cX4_leftAt 12 = .ok (.iload_n 1, 1) := by decide +kernel
theorem dX4_leftAt_13 : decode cX4_leftAt 13 = .ok (.iaload, 1) := by decide +kernel
theorem dX4_leftAt_14 : decode cX4_leftAt 14 = .ok (.ireturn, 1) := by decide +kernel
theorem dX4_waitOf_0 : decode cX4_waitOf 0 = .ok (.aload_n 0, 1) := by decide +kernel
theorem dX4_waitOf_1 : decode cX4_waitOf 1 = .ok (.iload_n 1, 1) := by decide +kernel
theorem dX4_waitOf_2 : decode cX4_waitOf 2 = .ok (.invokevirtual 145, 3) := by decide +kernel
theorem dX4_waitOf_5 : decode cX4_waitOf 5 = .ok (.aload_n 0, 1) := by decide +kernel
theorem dX4_waitOf_6 : decode cX4_waitOf 6 = .ok (.getfield 10, 3) := by decide +kernel
theorem dX4_waitOf_9 : decode cX4_waitOf 9 = .ok (.iload_n 1, 1) := by decide +kernel
theorem dX4_waitOf_10 : decode cX4_waitOf 10 = .ok (.invokevirtual 167, 3) := by decide +kernel
theorem dX4_waitOf_13 : decode cX4_waitOf 13 = .ok (.ireturn, 1) := by decide +kernel
theorem dX4_rideOf_0 : decode cX4_rideOf 0 = .ok (.aload_n 0, 1) := by decide +kernel
theorem dX4_rideOf_1 : decode cX4_rideOf 1 = .ok (.iload_n 1, 1) := by decide +kernel
theorem dX4_rideOf_2 : decode cX4_rideOf 2 = .ok (.invokevirtual 145, 3) := by decide +kernel
theorem dX4_rideOf_5 : decode cX4_rideOf 5 = .ok (.aload_n 0, 1) := by decide +kernel
theorem dX4_rideOf_6 : decode cX4_rideOf 6 = .ok (.getfield 10, 3) := by decide +kernel
theorem dX4_rideOf_9 : decode cX4_rideOf 9 = .ok (.iload_n 1, 1) := by decide +kernel
theorem dX4_rideOf_10 : decode cX4_rideOf 10 = .ok (.invokevirtual 170, 3) := by decide +kernel
theorem dX4_rideOf_13 : decode cX4_rideOf 13 = .ok (.ireturn, 1) := by decide +kernel
theorem dX4_detourOf_0 : decode cX4_detourOf 0 = .ok (.aload_n 0, 1) := by decide +kernel
theorem dX4_detourOf_1 : decode cX4_detourOf 1 = .ok (.iload_n 1, 1) := by decide +kernel
theorem dX4_detourOf_2 : decode cX4_detourOf 2 = .ok (.invokevirtual 145, 3) := by decide +kernel
theorem dX4_detourOf_5 : decode cX4_detourOf 5 = .ok (.aload_n 0, 1) := by decide +kernel
theorem dX4_detourOf_6 : decode cX4_detourOf 6 = .ok (.getfield 10, 3) := by decide +kernel
theorem dX4_detourOf_9 : decode cX4_detourOf 9 = .ok (.iload_n 1, 1) := by decide +kernel
theorem dX4_detourOf_10 : decode cX4_detourOf 10 = .ok (.invokevirtual 170, 3) := by decide +kernel
theorem dX4_detourOf_13 : decode cX4_detourOf 13 = .ok (.istore_n 2, 1) := by decide +kernel
theorem dX4_detourOf_14 : decode cX4_detourOf 14 = .ok (.iload_n 2, 1) := by decide +kernel
theorem dX4_detourOf_15 : decode cX4_detourOf 15 = .ok (.iconst (-1), 1) := by decide +kernel
theorem dX4_detourOf_16 : decode cX4_detourOf 16 = .ok (.if_icmp .ne 5, 3) := by decide +kernel
theorem dX4_detourOf_19 : decode cX4_detourOf 19 = .ok (.iconst (-1), 1) := by decide +kernel
theorem dX4_detourOf_20 : decode cX4_detourOf 20 = .ok (.ireturn, 1) := by decide +kernel
theorem dX4_detourOf_21 : decode cX4_detourOf 21 = .ok (.iload_n 2, 1) := by decide +kernel
theorem dX4_detourOf_22 : decode cX4_detourOf 22 = .ok (.iconst 1, 1) := by decide +kernel
theorem dX4_detourOf_23 : decode cX4_detourOf 23 = .ok (.isub, 1) := by decide +kernel
theorem dX4_detourOf_24 : decode cX4_detourOf 24 = .ok (.aload_n 0, 1) := by decide +kernel
theorem dX4_detourOf_25 : decode cX4_detourOf 25 = .ok (.getfield 10, 3) := by decide +kernel
theorem dX4_detourOf_28 : decode cX4_detourOf 28 = .ok (.getfield 151, 3) := by decide +kernel
theorem dX4_detourOf_31 : decode cX4_detourOf 31 = .ok (.iload_n 1, 1) := by decide +kernel
theorem dX4_detourOf_32 : decode cX4_detourOf 32 = .ok (.iaload, 1) := by decide +kernel
theorem dX4_detourOf_33 : decode cX4_detourOf 33 = .ok (.aload_n 0, 1) := by decide +kernel
theorem dX4_detourOf_34 : decode cX4_detourOf 34 = .ok (.getfield 10, 3) := by decide +kernel
theorem dX4_detourOf_37 : decode cX4_detourOf 37 = .ok (.getfield 155, 3) := by decide +kernel
theorem dX4_detourOf_40 : decode cX4_detourOf 40 = .ok (.iload_n 1, 1) := by decide +kernel
theorem dX4_detourOf_41 : decode cX4_detourOf 41 = .ok (.iaload, 1) := by decide +kernel
theorem dX4_detourOf_42 : decode cX4_detourOf 42 = .ok (.isub, 1) := by decide +kernel
theorem dX4_detourOf_43 : decode cX4_detourOf 43 = .ok (.invokestatic 173, 3) := by decide +kernel
theorem dX4_detourOf_46 : decode cX4_detourOf 46 = .ok (.isub, 1) := by decide +kernel
theorem dX4_detourOf_47 : decode cX4_detourOf 47 = .ok (.ireturn, 1) := by decide +kernel
theorem dX4_countStatus_0 : decode cX4_countStatus 0 = .ok (.iload_n 1, 1) := by decide +kernel
theorem dX4_countStatus_1 : decode cX4_countStatus 1 = .ok (.ifCond .lt 8, 3) := by decide +kernel
theorem dX4_countStatus_4 : decode cX4_countStatus 4 = .ok (.iload_n 1, 1) := by decide +kernel
theorem dX4_countStatus_5 : decode cX4_countStatus 5 = .ok (.iconst 3, 1) := by decide +kernel
theorem dX4_countStatus_6 : decode cX4_countStatus 6 = .ok (.if_icmp .le 13, 3) := by decide +kernel
theorem dX4_countStatus_9 : decode cX4_countStatus 9 = .ok (.new 72, 3) := by decide +kernel
theorem dX4_countStatus_12 : decode cX4_countStatus 12 = .ok (.dup, 1) := by decide +kernel
theorem dX4_countStatus_13 : decode cX4_countStatus 13 = .ok (.ldc 178, 2) := by decide +kernel
theorem dX4_countStatus_15 : decode cX4_countStatus 15 = .ok (.invokespecial 76, 3) := by decide +kernel
theorem dX4_countStatus_18 : decode cX4_countStatus 18 = .ok (.athrow, 1) := by decide +kernel
theorem dX4_countStatus_19 : decode cX4_countStatus 19 = .ok (.aload_n 0, 1) := by decide +kernel
theorem dX4_countStatus_20 : decode cX4_countStatus 20 = .ok (.getfield 10, 3) := by decide +kernel
theorem dX4_countStatus_23 : decode cX4_countStatus 23 = .ok (.iload_n 1, 1) := by decide +kernel
theorem dX4_countStatus_24 : decode cX4_countStatus 24 = .ok (.invokevirtual 180, 3) := by decide +kernel
theorem dX4_countStatus_27 : decode cX4_countStatus 27 = .ok (.ireturn, 1) := by decide +kernel
theorem dX4_waitingAt_0 : decode cX4_waitingAt 0 = .ok (.aload_n 0, 1) := by decide +kernel
theorem dX4_waitingAt_1 : decode cX4_waitingAt 1 = .ok (.iload_n 1, 1) := by decide +kernel
theorem dX4_waitingAt_2 : decode cX4_waitingAt 2 = .ok (.invokevirtual 183, 3) := by decide +kernel
theorem dX4_waitingAt_5 : decode cX4_waitingAt 5 = .ok (.aload_n 0, 1) := by decide +kernel
theorem dX4_waitingAt_6 : decode cX4_waitingAt 6 = .ok (.getfield 10, 3) := by decide +kernel
theorem dX4_waitingAt_9 : decode cX4_waitingAt 9 = .ok (.iload_n 1, 1) := by decide +kernel
theorem dX4_waitingAt_10 : decode cX4_waitingAt 10 = .ok (.invokevirtual 186, 3) := by decide +kernel
theorem dX4_waitingAt_13 : decode cX4_waitingAt 13 = .ok (.ireturn, 1) := by decide +kernel
theorem dX4_queueAt_0 : decode cX4_queueAt 0 = .ok (.aload_n 0, 1) := by decide +kernel
theorem dX4_queueAt_1 : decode cX4_queueAt 1 = .ok (.iload_n 1, 1) := by decide +kernel
theorem dX4_queueAt_2 : decode cX4_queueAt 2 = .ok (.invokevirtual 183, 3) := by decide +kernel
theorem dX4_queueAt_5 : decode cX4_queueAt 5 = .ok (.iconst 0, 1) := by decide +kernel
theorem dX4_queueAt_6 : decode cX4_queueAt 6 = .ok (.istore_n 3, 1) := by decide +kernel
theorem dX4_queueAt_7 : decode cX4_queueAt 7 = .ok (.iconst 0, 1) := by decide +kernel
theorem dX4_queueAt_8 : decode cX4_queueAt 8 = .ok (.istore 4, 2) := by decide +kernel
theorem dX4_queueAt_10 : decode cX4_queueAt 10 = .ok (.iload 4, 2) := by decide +kernel
theorem dX4_queueAt_12 : decode cX4_queueAt 12 = .ok (.aload_n 0, 1) := by decide +kernel
theorem dX4_queueAt_13 : decode cX4_queueAt 13 = .ok (.getfield 10, 3) := by decide +kernel
theorem dX4_queueAt_16 : decode cX4_queueAt 16 = .ok (.getfield 83, 3) := by decide +kernel
theorem dX4_queueAt_19 : decode cX4_queueAt 19 = .ok (.if_icmp .ge 59, 3) := by decide +kernel
theorem dX4_queueAt_22 : decode cX4_queueAt 22 = .ok (.aload_n 0, 1) := by decide +kernel
theorem dX4_queueAt_23 : decode cX4_queueAt 23 = .ok (.getfield 10, 3) := by decide +kernel
theorem dX4_queueAt_26 : decode cX4_queueAt 26 = .ok (.getfield 189, 3) := by decide +kernel
theorem dX4_queueAt_29 : decode cX4_queueAt 29 = .ok (.iload 4, 2) := by decide +kernel
theorem dX4_queueAt_31 : decode cX4_queueAt 31 = .ok (.iaload, 1) := by decide +kernel
theorem dX4_queueAt_32 : decode cX4_queueAt 32 = .ok (.istore 5, 2) := by decide +kernel
theorem dX4_queueAt_34 : decode cX4_queueAt 34 = .ok (.aload_n 0, 1) := by decide +kernel
theorem dX4_queueAt_35 : decode cX4_queueAt 35 = .ok (.getfield 10, 3) := by decide +kernel
theorem dX4_queueAt_38 : decode cX4_queueAt 38 = .ok (.getfield 151, 3) := by decide +kernel
theorem dX4_queueAt_41 : decode cX4_queueAt 41 = .ok (.iload 5, 2) := by decide +kernel
theorem dX4_queueAt_43 : decode cX4_queueAt 43 = .ok (.iaload, 1) := by decide +kernel
theorem dX4_queueAt_44 : decode cX4_queueAt 44 = .ok (.iload_n 1, 1) := by decide +kernel
theorem dX4_queueAt_45 : decode cX4_queueAt 45 = .ok (.if_icmp .ne 27, 3) := by decide +kernel
theorem dX4_queueAt_48 : decode cX4_queueAt 48 = .ok (.aload_n 0, 1) := by decide +kernel
theorem dX4_queueAt_49 : decode cX4_queueAt 49 = .ok (.getfield 10, 3) := by decide +kernel
theorem dX4_queueAt_52 : decode cX4_queueAt 52 = .ok (.iload 5, 2) := by decide +kernel
theorem dX4_queueAt_54 : decode cX4_queueAt 54 = .ok (.invokevirtual 148, 3) := by decide +kernel
theorem dX4_queueAt_57 : decode cX4_queueAt 57 = .ok (.iconst 1, 1) := by decide +kernel
theorem dX4_queueAt_58 : decode cX4_queueAt 58 = .ok (.if_icmp .ne 14, 3) := by decide +kernel
theorem dX4_queueAt_61 : decode cX4_queueAt 61 = .ok (.iload_n 3, 1) := by decide +kernel
theorem dX4_queueAt_62 : decode cX4_queueAt 62 = .ok (.iload_n 2, 1) := by decide +kernel
theorem dX4_queueAt_63 : decode cX4_queueAt 63 = .ok (.if_icmp .ne 6, 3) := by decide +kernel
theorem dX4_queueAt_66 : decode cX4_queueAt 66 = .ok (.iload 5, 2) := by decide +kernel
theorem dX4_queueAt_68 : decode cX4_queueAt 68 = .ok (.ireturn, 1) := by decide +kernel
theorem dX4_queueAt_69 : decode cX4_queueAt 69 = .ok (.iinc 3 1, 3) := by decide +kernel
theorem dX4_queueAt_72 : decode cX4_queueAt 72 = .ok (.iinc 4 1, 3) := by decide +kernel
theorem dX4_queueAt_75 : decode cX4_queueAt 75 = .ok (.goto (-65), 3) := by decide +kernel
theorem dX4_queueAt_78 : decode cX4_queueAt 78 = .ok (.iconst (-1), 1) := by decide +kernel
theorem dX4_queueAt_79 : decode cX4_queueAt 79 = .ok (.ireturn, 1) := by decide +kernel
theorem dX4_firstWaiting_0 : decode cX4_firstWaiting 0 = .ok (.aload_n 0, 1) := by decide +kernel
theorem dX4_firstWaiting_1 : decode cX4_firstWaiting 1 = .ok (.getfield 10, 3) := by decide +kernel
theorem dX4_firstWaiting_4 : decode cX4_firstWaiting 4 = .ok (.invokevirtual 192, 3) := by decide +kernel
theorem dX4_firstWaiting_7 : decode cX4_firstWaiting 7 = .ok (.ireturn, 1) := by decide +kernel
theorem dX4_totalWait_0 : decode cX4_totalWait 0 = .ok (.aload_n 0, 1) := by decide +kernel
theorem dX4_totalWait_1 : decode cX4_totalWait 1 = .ok (.getfield 10, 3) := by decide +kernel
theorem dX4_totalWait_4 : decode cX4_totalWait 4 = .ok (.invokevirtual 199, 3) := by decide +kernel
theorem dX4_totalWait_7 : decode cX4_totalWait 7 = .ok (.ireturn, 1) := by decide +kernel
theorem dX4_isFinished_0 : decode cX4_isFinished 0 = .ok (.aload_n 0, 1) := by decide +kernel
theorem dX4_isFinished_1 : decode cX4_isFinished 1 = .ok (.getfield 10, 3) := by decide +kernel
theorem dX4_isFinished_4 : decode cX4_isFinished 4 = .ok (.invokevirtual 208, 3) := by decide +kernel
theorem dX4_isFinished_7 : decode cX4_isFinished 7 = .ok (.ireturn, 1) := by decide +kernel
theorem dX4_run_0 : decode cX4_run 0 = .ok (.iload_n 1, 1) := by decide +kernel
theorem dX4_run_1 : decode cX4_run 1 = .ok (.iconst 1, 1) := by decide +kernel
theorem dX4_run_2 : decode cX4_run 2 = .ok (.if_icmp .lt 10, 3) := by decide +kernel
theorem dX4_run_5 : decode cX4_run 5 = .ok (.iload_n 1, 1) := by decide +kernel
theorem dX4_run_6 : decode cX4_run 6 = .ok (.sipush 999, 3) := by decide +kernel
theorem dX4_run_9 : decode cX4_run 9 = .ok (.if_icmp .le 13, 3) := by decide +kernel
theorem dX4_run_12 : decode cX4_run 12 = .ok (.new 72, 3) := by decide +kernel
theorem dX4_run_15 : decode cX4_run 15 = .ok (.dup, 1) := by decide +kernel
theorem dX4_run_16 : decode cX4_run 16 = .ok (.ldc 238, 2) := by decide +kernel
theorem dX4_run_18 : decode cX4_run 18 = .ok (.invokespecial 76, 3) := by decide +kernel
theorem dX4_run_21 : decode cX4_run 21 = .ok (.athrow, 1) := by decide +kernel
theorem dX4_run_22 : decode cX4_run 22 = .ok (.aload_n 0, 1) := by decide +kernel
theorem dX4_run_23 : decode cX4_run 23 = .ok (.getfield 10, 3) := by decide +kernel
theorem dX4_run_26 : decode cX4_run 26 = .ok (.getfield 109, 3) := by decide +kernel
