theorem dX4_lineEnd_14 : decode cX4_lineEnd 14 = .ok (.if_icmp .ne 7, 3) := by decide +kernel
theorem dX4_lineEnd_17 : decode cX4_lineEnd 17 = .ok (.iconst 1, 1) := by decide +kernel
theorem dX4_lineEnd_18 : decode cX4_lineEnd 18 = .ok (.goto 4, 3) := by decide +kernel
theorem dX4_lineEnd_21 : decode cX4_lineEnd 21 = .ok (.iconst 0, 1) := by decide +kernel
theorem dX4_lineEnd_22 : decode cX4_lineEnd 22 = .ok (.istore_n 3, 1) := by decide +kernel
theorem dX4_lineEnd_23 : decode cX4_lineEnd 23 = .ok (.iload_n 3, 1) := by decide +kernel
theorem dX4_lineEnd_24 : decode cX4_lineEnd 24 = .ok (.ifCond .eq 9, 3) := by decide +kernel
theorem dX4_lineEnd_27 : decode cX4_lineEnd 27 = .ok (.iload_n 2, 1) := by decide +kernel
theorem dX4_lineEnd_28 : decode cX4_lineEnd 28 = .ok (.iconst 1, 1) := by decide +kernel
theorem dX4_lineEnd_29 : decode cX4_lineEnd 29 = .ok (.isub, 1) := by decide +kernel
theorem dX4_lineEnd_30 : decode cX4_lineEnd 30 = .ok (.goto 4, 3) := by decide +kernel
theorem dX4_lineEnd_33 : decode cX4_lineEnd 33 = .ok (.iload_n 2, 1) := by decide +kernel
theorem dX4_lineEnd_34 : decode cX4_lineEnd 34 = .ok (.ireturn, 1) := by decide +kernel
set_option maxRecDepth 20000 in
theorem ggX4_hasText_J0_length_8abf5 : GoodIn wsX4_hasText wsJ0_length_8abf5 := goodIn_r _ [5, 6, 7, 8, 9, 4, 10, 11, 12] (by decide +kernel) (by decide +kernel)
set_option maxRecDepth 20000 in
theorem gX4_hasText_J0_length_8abf5 : GoodIn wsX4_hasText (wsV RX4 40 RJ0 yJ0_length_8abf5 wsJ0_length_8abf5) := goodIn_app (goodIn_of _ (by decide +kernel)) ggX4_hasText_J0_length_8abf5
set_option maxRecDepth 20000 in
theorem ggX4_hasText_X4_get : GoodIn wsX4_hasText wsX4_get := goodIn_r _ [17, 18, 19, 57, 58, 59] (by decide +kernel) (by decide +kernel)
set_option maxRecDepth 20000 in
theorem gX4_hasText_X4_get : GoodIn wsX4_hasText (wsV RX4 22 RX4 yX4_get wsX4_get) := goodIn_app (goodIn_of _ (by decide +kernel)) ggX4_hasText_X4_get
set_option maxRecDepth 20000 in
theorem ggX4_hasText_J0_charAt_5068e : GoodIn wsX4_hasText wsJ0_charAt_5068e := goodIn_r _ [23, 6, 24, 25, 26, 4, 27, 11, 12, 28, 29, 30, 31, 32, 33, 34, 35, 36, 37, 38, 39, 40, 41, 42, 43, 44, 45, 46, 47, 48, 49, 50, 51, 52, 53, 54, 55, 56] (by decide +kernel) (by decide +kernel)
set_option maxRecDepth 20000 in
theorem gX4_hasText_J0_charAt_5068e : GoodIn wsX4_hasText (wsV RX4 46 RJ0 yJ0_charAt_5068e wsJ0_charAt_5068e) := goodIn_app (goodIn_of _ (by decide +kernel)) ggX4_hasText_J0_charAt_5068e
theorem dX4_hasText_0 : decode cX4_hasText 0 = .ok (.iload_n 2, 1) := by decide +kernel
theorem dX4_hasText_1 : decode cX4_hasText 1 = .ok (.iload_n 1, 1) := by decide +kernel
theorem dX4_hasText_2 : decode cX4_hasText 2 = .ok (.isub, 1) := by decide +kernel
theorem dX4_hasText_3 : decode cX4_hasText 3 = .ok (.aload_n 3, 1) := by decide +kernel
theorem dX4_hasText_4 : decode cX4_hasText 4 = .ok (.invokevirtual 40, 3) := by decide +kernel
theorem dX4_hasText_7 : decode cX4_hasText 7 = .ok (.if_icmp .ne 7, 3) := by decide +kernel
theorem dX4_hasText_10 : decode cX4_hasText 10 = .ok (.iconst 1, 1) := by decide +kernel
theorem dX4_hasText_11 : decode cX4_hasText 11 = .ok (.goto 4, 3) := by decide +kernel
theorem dX4_hasText_14 : decode cX4_hasText 14 = .ok (.iconst 0, 1) := by decide +kernel
theorem dX4_hasText_15 : decode cX4_hasText 15 = .ok (.istore 4, 2) := by decide +kernel
theorem dX4_hasText_17 : decode cX4_hasText 17 = .ok (.iconst 0, 1) := by decide +kernel
theorem dX4_hasText_18 : decode cX4_hasText 18 = .ok (.istore 5, 2) := by decide +kernel
theorem dX4_hasText_20 : decode cX4_hasText 20 = .ok (.iload 4, 2) := by decide +kernel
theorem dX4_hasText_22 : decode cX4_hasText 22 = .ok (.ifCond .eq 42, 3) := by decide +kernel
theorem dX4_hasText_25 : decode cX4_hasText 25 = .ok (.iload 5, 2) := by decide +kernel
theorem dX4_hasText_27 : decode cX4_hasText 27 = .ok (.aload_n 3, 1) := by decide +kernel
theorem dX4_hasText_28 : decode cX4_hasText 28 = .ok (.invokevirtual 40, 3) := by decide +kernel
theorem dX4_hasText_31 : decode cX4_hasText 31 = .ok (.if_icmp .ge 33, 3) := by decide +kernel
theorem dX4_hasText_34 : decode cX4_hasText 34 = .ok (.aload_n 0, 1) := by decide +kernel
theorem dX4_hasText_35 : decode cX4_hasText 35 = .ok (.iload_n 1, 1) := by decide +kernel
theorem dX4_hasText_36 : decode cX4_hasText 36 = .ok (.iload 5, 2) := by decide +kernel
theorem dX4_hasText_38 : decode cX4_hasText 38 = .ok (.iadd, 1) := by decide +kernel
theorem dX4_hasText_39 : decode cX4_hasText 39 = .ok (.invokevirtual 22, 3) := by decide +kernel
theorem dX4_hasText_42 : decode cX4_hasText 42 = .ok (.aload_n 3, 1) := by decide +kernel
theorem dX4_hasText_43 : decode cX4_hasText 43 = .ok (.iload 5, 2) := by decide +kernel
theorem dX4_hasText_45 : decode cX4_hasText 45 = .ok (.invokevirtual 46, 3) := by decide +kernel
theorem dX4_hasText_48 : decode cX4_hasText 48 = .ok (.if_icmp .ne 7, 3) := by decide +kernel
theorem dX4_hasText_51 : decode cX4_hasText 51 = .ok (.iconst 1, 1) := by decide +kernel
theorem dX4_hasText_52 : decode cX4_hasText 52 = .ok (.goto 4, 3) := by decide +kernel
theorem dX4_hasText_55 : decode cX4_hasText 55 = .ok (.iconst 0, 1) := by decide +kernel
theorem dX4_hasText_56 : decode cX4_hasText 56 = .ok (.istore 4, 2) := by decide +kernel
theorem dX4_hasText_58 : decode cX4_hasText 58 = .ok (.iinc 5 1, 3) := by decide +kernel
theorem dX4_hasText_61 : decode cX4_hasText 61 = .ok (.goto (-41), 3) := by decide +kernel
theorem dX4_hasText_64 : decode cX4_hasText 64 = .ok (.iload 4, 2) := by decide +kernel
theorem dX4_hasText_66 : decode cX4_hasText 66 = .ok (.ireturn, 1) := by decide +kernel
set_option maxRecDepth 20000 in
theorem ggX4_hasWord_J0_length_8abf5 : GoodIn wsX4_hasWord wsJ0_length_8abf5 := goodIn_r _ [5, 6, 7, 8, 9, 4, 10, 11, 12] (by decide +kernel) (by decide +kernel)
set_option maxRecDepth 20000 in
theorem gX4_hasWord_J0_length_8abf5 : GoodIn wsX4_hasWord (wsV RX4 40 RJ0 yJ0_length_8abf5 wsJ0_length_8abf5) := goodIn_app (goodIn_of _ (by decide +kernel)) ggX4_hasWord_J0_length_8abf5
set_option maxRecDepth 20000 in
theorem ggX4_hasWord_X4_get : GoodIn wsX4_hasWord wsX4_get := goodIn_r _ [17, 18, 19, 61, 62, 63] (by decide +kernel) (by decide +kernel)
set_option maxRecDepth 20000 in
theorem gX4_hasWord_X4_get : GoodIn wsX4_hasWord (wsV RX4 22 RX4 yX4_get wsX4_get) := goodIn_app (goodIn_of _ (by decide +kernel)) ggX4_hasWord_X4_get
set_option maxRecDepth 20000 in
theorem ggX4_hasWord_X1_isGreat : GoodIn wsX4_hasWord wsX1_isGreat := goodIn_r _ [23] (by decide +kernel) (by decide +kernel)
set_option maxRecDepth 20000 in
theorem gX4_hasWord_X1_isGreat : GoodIn wsX4_hasWord (va_wsS RX4 59 yX1_isGreat wsX1_isGreat) := goodIn_app (goodIn_of _ (by decide +kernel)) ggX4_hasWord_X1_isGreat
set_option maxRecDepth 20000 in
theorem ggX4_hasWord_J0_charAt_5068e : GoodIn wsX4_hasWord wsJ0_charAt_5068e := goodIn_r _ [27, 6, 28, 29, 30, 4, 31, 11, 12, 32, 33, 34, 35, 36, 37, 38, 39, 40, 41, 42, 43, 44, 45, 46, 47, 48, 49, 50, 51, 52, 53, 54, 55, 56, 57, 58, 59, 60] (by decide +kernel) (by decide +kernel)
set_option maxRecDepth 20000 in
theorem gX4_hasWord_J0_charAt_5068e : GoodIn wsX4_hasWord (wsV RX4 46 RJ0 yJ0_charAt_5068e wsJ0_charAt_5068e) := goodIn_app (goodIn_of _ (by decide +kernel)) ggX4_hasWord_J0_charAt_5068e
theorem dX4_hasWord_0 : decode cX4_hasWord 0 = .ok (.iload_n 2, 1) := by decide +kernel
theorem dX4_hasWord_1 : decode cX4_hasWord 1 = .ok (.iload_n 1, 1) := by decide +kernel
theorem dX4_hasWord_2 : decode cX4_hasWord 2 = .ok (.isub, 1) := by decide +kernel
theorem dX4_hasWord_3 : decode cX4_hasWord 3 = .ok (.aload_n 3, 1) := by decide +kernel
theorem dX4_hasWord_4 : decode cX4_hasWord 4 = .ok (.invokevirtual 40, 3) := by decide +kernel
theorem dX4_hasWord_7 : decode cX4_hasWord 7 = .ok (.if_icmp .ne 7, 3) := by decide +kernel
theorem dX4_hasWord_10 : decode cX4_hasWord 10 = .ok (.iconst 1, 1) := by decide +kernel
theorem dX4_hasWord_11 : decode cX4_hasWord 11 = .ok (.goto 4, 3) := by decide +kernel
theorem dX4_hasWord_14 : decode cX4_hasWord 14 = .ok (.iconst 0, 1) := by decide +kernel
theorem dX4_hasWord_15 : decode cX4_hasWord 15 = .ok (.istore 4, 2) := by decide +kernel
theorem dX4_hasWord_17 : decode cX4_hasWord 17 = .ok (.iconst 0, 1) := by decide +kernel
theorem dX4_hasWord_18 : decode cX4_hasWord 18 = .ok (.istore 5, 2) := by decide +kernel
theorem dX4_hasWord_20 : decode cX4_hasWord 20 = .ok (.iload 4, 2) := by decide +kernel
theorem dX4_hasWord_22 : decode cX4_hasWord 22 = .ok (.ifCond .eq 62, 3) := by decide +kernel
theorem dX4_hasWord_25 : decode cX4_hasWord 25 = .ok (.iload 5, 2) := by decide +kernel
theorem dX4_hasWord_27 : decode cX4_hasWord 27 = .ok (.aload_n 3, 1) := by decide +kernel
theorem dX4_hasWord_28 : decode cX4_hasWord 28 = .ok (.invokevirtual 40, 3) := by decide +kernel
theorem dX4_hasWord_31 : decode cX4_hasWord 31 = .ok (.if_icmp .ge 53, 3) := by decide +kernel
theorem dX4_hasWord_34 : decode cX4_hasWord 34 = .ok (.aload_n 0, 1) := by decide +kernel
theorem dX4_hasWord_35 : decode cX4_hasWord 35 = .ok (.iload_n 1, 1) := by decide +kernel
theorem dX4_hasWord_36 : decode cX4_hasWord 36 = .ok (.iload 5, 2) := by decide +kernel
theorem dX4_hasWord_38 : decode cX4_hasWord 38 = .ok (.iadd, 1) := by decide +kernel
theorem dX4_hasWord_39 : decode cX4_hasWord 39 = .ok (.invokevirtual 22, 3) := by decide +kernel
theorem dX4_hasWord_42 : decode cX4_hasWord 42 = .ok (.istore 6, 2) := by decide +kernel
theorem dX4_hasWord_44 : decode cX4_hasWord 44 = .ok (.iload 6, 2) := by decide +kernel
theorem dX4_hasWord_46 : decode cX4_hasWord 46 = .ok (.invokestatic 59, 3) := by decide +kernel
theorem dX4_hasWord_49 : decode cX4_hasWord 49 = .ok (.ifCond .eq 11, 3) := by decide +kernel
theorem dX4_hasWord_52 : decode cX4_hasWord 52 = .ok (.iload 6, 2) := by decide +kernel
theorem dX4_hasWord_54 : decode cX4_hasWord 54 = .ok (.bipush 32, 2) := by decide +kernel
theorem dX4_hasWord_56 : decode cX4_hasWord 56 = .ok (.iadd, 1) := by decide +kernel
theorem dX4_hasWord_57 : decode cX4_hasWord 57 = .ok (.goto 5, 3) := by decide +kernel
theorem dX4_hasWord_60 : decode cX4_hasWord 60 = .ok (.iload 6, 2) := by decide +kernel
theorem dX4_hasWord_62 : decode cX4_hasWord 62 = .ok (.aload_n 3, 1) := by decide +kernel
theorem dX4_hasWord_63 : decode cX4_hasWord 63 = .ok (.iload 5, 2) := by decide +kernel
theorem dX4_hasWord_65 : decode cX4_hasWord 65 = .ok (.invokevirtual 46, 3) := by decide +kernel
theorem dX4_hasWord_68 : decode cX4_hasWord 68 = .ok (.if_icmp .ne 7, 3) := by decide +kernel
theorem dX4_hasWord_71 : decode cX4_hasWord 71 = .ok (.iconst 1, 1) := by decide +kernel
theorem dX4_hasWord_72 : decode cX4_hasWord 72 = .ok (.goto 4, 3) := by decide +kernel
theorem dX4_hasWord_75 : decode cX4_hasWord 75 = .ok (.iconst 0, 1) := by decide +kernel
theorem dX4_hasWord_76 : decode cX4_hasWord 76 = .ok (.istore 4, 2) := by decide +kernel
theorem dX4_hasWord_78 : decode cX4_hasWord 78 = .ok (.iinc 5 1, 3) := by decide +kernel
theorem dX4_hasWord_81 : decode cX4_hasWord 81 = .ok (.goto (-61), 3) := by decide +kernel
theorem dX4_hasWord_84 : decode cX4_hasWord 84 = .ok (.iload 4, 2) := by decide +kernel
theorem dX4_hasWord_86 : decode cX4_hasWord 86 = .ok (.ireturn, 1) := by decide +kernel
set_option maxRecDepth 20000 in
theorem ggX4_endsWith_J0_length_8abf5 : GoodIn wsX4_endsWith wsJ0_length_8abf5 := goodIn_r _ [6, 7, 8, 9, 10, 5, 11, 12, 13] (by decide +kernel) (by decide +kernel)
set_option maxRecDepth 20000 in
theorem gX4_endsWith_J0_length_8abf5 : GoodIn wsX4_endsWith (wsV RX4 40 RJ0 yJ0_length_8abf5 wsJ0_length_8abf5) := goodIn_app (goodIn_of _ (by decide +kernel)) ggX4_endsWith_J0_length_8abf5
set_option maxRecDepth 20000 in
theorem ggX4_endsWith_X4_hasText : GoodIn wsX4_endsWith wsX4_hasText := goodIn_r _ [18, 2, 3, 4, 5, 6, 7, 8, 9, 10, 11, 12, 13, 19, 20, 21, 17, 22, 1, 23, 24, 25, 26, 27, 28, 29, 30, 31, 32, 33, 34, 35, 36, 37, 38, 39, 40, 41, 42, 43, 44, 45, 46, 47, 48, 49, 50, 51, 52, 53, 54, 55, 56, 57, 58, 59, 60, 61, 62, 63] (by decide +kernel) (by decide +kernel)
set_option maxRecDepth 20000 in
theorem gX4_endsWith_X4_hasText : GoodIn wsX4_endsWith (wsV RX4 64 RX4 yX4_hasText wsX4_hasText) := goodIn_app (goodIn_of _ (by decide +kernel)) ggX4_endsWith_X4_hasText
theorem dX4_endsWith_0 : decode cX4_endsWith 0 = .ok (.aload_n 0, 1) := by decide +kernel
theorem dX4_endsWith_1 : decode cX4_endsWith 1 = .ok (.aload_n 0, 1) := by decide +kernel
theorem dX4_endsWith_2 : decode cX4_endsWith 2 = .ok (.getfield 19, 3) := by decide +kernel
theorem dX4_endsWith_5 : decode cX4_endsWith 5 = .ok (.aload_n 1, 1) := by decide +kernel
theorem dX4_endsWith_6 : decode cX4_endsWith 6 = .ok (.invokevirtual 40, 3) := by decide +kernel
theorem dX4_endsWith_9 : decode cX4_endsWith 9 = .ok (.isub, 1) := by decide +kernel
theorem dX4_endsWith_10 : decode cX4_endsWith 10 = .ok (.aload_n 0, 1) := by decide +kernel
theorem dX4_endsWith_11 : decode cX4_endsWith 11 = .ok (.getfield 19, 3) := by decide +kernel
theorem dX4_endsWith_14 : decode cX4_endsWith 14 = .ok (.aload_n 1, 1) := by decide +kernel
theorem dX4_endsWith_15 : decode cX4_endsWith 15 = .ok (.invokevirtual 64, 3) := by decide +kernel
theorem dX4_endsWith_18 : decode cX4_endsWith 18 = .ok (.ireturn, 1) := by decide +kernel
set_option maxRecDepth 20000 in
theorem ggX4_check_X4_get : GoodIn wsX4_check wsX4_get := goodIn_r _ [6, 7, 8, 9, 10, 11] (by decide +kernel) (by decide +kernel)
set_option maxRecDepth 20000 in
theorem gX4_check_X4_get : GoodIn wsX4_check (wsV RX4 22 RX4 yX4_get wsX4_get) := goodIn_app (goodIn_of _ (by decide +kernel)) ggX4_check_X4_get
theorem dX4_check_0 : decode cX4_check 0 = .ok (.iconst (-1), 1) := by decide +kernel
theorem dX4_check_1 : decode cX4_check 1 = .ok (.istore_n 3, 1) := by decide +kernel
theorem dX4_check_2 : decode cX4_check 2 = .ok (.iload_n 1, 1) := by decide +kernel
theorem dX4_check_3 : decode cX4_check 3 = .ok (.istore 4, 2) := by decide +kernel
theorem dX4_check_5 : decode cX4_check 5 = .ok (.iload 4, 2) := by decide +kernel
theorem dX4_check_7 : decode cX4_check 7 = .ok (.iload_n 2, 1) := by decide +kernel
theorem dX4_check_8 : decode cX4_check 8 = .ok (.if_icmp .ge 44, 3) := by decide +kernel
theorem dX4_check_11 : decode cX4_check 11 = .ok (.iload_n 3, 1) := by decide +kernel
theorem dX4_check_12 : decode cX4_check 12 = .ok (.aload_n 0, 1) := by decide +kernel
theorem dX4_check_13 : decode cX4_check 13 = .ok (.iload 4, 2) := by decide +kernel
theorem dX4_check_15 : decode cX4_check 15 = .ok (.invokevirtual 22, 3) := by decide +kernel
theorem dX4_check_18 : decode cX4_check 18 = .ok (.ixor, 1) := by decide +kernel
theorem dX4_check_19 : decode cX4_check 19 = .ok (.istore_n 3, 1) := by decide +kernel
theorem dX4_check_20 : decode cX4_check 20 = .ok (.iload_n 3, 1) := by decide +kernel
theorem dX4_check_21 : decode cX4_check 21 = .ok (.iconst 4, 1) := by decide +kernel
theorem dX4_check_22 : decode cX4_check 22 = .ok (.iushr, 1) := by decide +kernel
theorem dX4_check_23 : decode cX4_check 23 = .ok (.getstatic 68, 3) := by decide +kernel
theorem dX4_check_26 : decode cX4_check 26 = .ok (.iload_n 3, 1) := by decide +kernel
theorem dX4_check_27 : decode cX4_check 27 = .ok (.bipush 15, 2) := by decide +kernel
theorem dX4_check_29 : decode cX4_check 29 = .ok (.iand, 1) := by decide +kernel
theorem dX4_check_30 : decode cX4_check 30 = .ok (.iaload, 1) := by decide +kernel
theorem dX4_check_31 : decode cX4_check 31 = .ok (.ixor, 1) := by decide +kernel
theorem dX4_check_32 : decode cX4_check 32 = .ok (.istore_n 3, 1) := by decide +kernel
theorem dX4_check_33 : decode cX4_check 33 = .ok (.iload_n 3, 1) := by decide +kernel
theorem dX4_check_34 : decode cX4_check 34 = .ok (.iconst 4, 1) := by decide +kernel
theorem dX4_check_35 : decode cX4_check 35 = .ok (.iushr, 1) := by decide +kernel
theorem dX4_check_36 : decode cX4_check 36 = .ok (.getstatic 68, 3) := by decide +kernel
theorem dX4_check_39 : decode cX4_check 39 = .ok (.iload_n 3, 1) := by decide +kernel
theorem dX4_check_40 : decode cX4_check 40 = .ok (.bipush 15, 2) := by decide +kernel
theorem dX4_check_42 : decode cX4_check 42 = .ok (.iand, 1) := by decide +kernel
theorem dX4_check_43 : decode cX4_check 43 = .ok (.iaload, 1) := by decide +kernel
theorem dX4_check_44 : decode cX4_check 44 = .ok (.ixor, 1) := by decide +kernel
theorem dX4_check_45 : decode cX4_check 45 = .ok (.istore_n 3, 1) := by decide +kernel
theorem dX4_check_46 : decode cX4_check 46 = .ok (.iinc 4 1, 3) := by decide +kernel
theorem dX4_check_49 : decode cX4_check 49 = .ok (.goto (-44), 3) := by decide +kernel
theorem dX4_check_52 : decode cX4_check 52 = .ok (.iload_n 3, 1) := by decide +kernel
theorem dX4_check_53 : decode cX4_check 53 = .ok (.iconst (-1), 1) := by decide +kernel
theorem dX4_check_54 : decode cX4_check 54 = .ok (.ixor, 1) := by decide +kernel
theorem dX4_check_55 : decode cX4_check 55 = .ok (.ireturn, 1) := by decide +kernel
set_option maxRecDepth 20000 in
theorem ggX6_init_X4_init : GoodIn wsX6_init wsX4_init := goodIn_r _ [13, 14, 2, 3, 15, 16, 17, 18, 19, 20, 21] (by decide +kernel) (by decide +kernel)
set_option maxRecDepth 20000 in
theorem gX6_init_X4_init : GoodIn wsX6_init (wsX4_init) := ggX6_init_X4_init
theorem dX6_init_0 : decode cX6_init 0 = .ok (.aload_n 0, 1) := by decide +kernel
theorem dX6_init_1 : decode cX6_init 1 = .ok (.invokespecial 3, 3) := by decide +kernel
theorem dX6_init_4 : decode cX6_init 4 = .ok (.aload_n 0, 1) := by decide +kernel
theorem dX6_init_5 : decode cX6_init 5 = .ok (.new 9, 3) := by decide +kernel
theorem dX6_init_8 : decode cX6_init 8 = .ok (.dup, 1) := by decide +kernel
theorem dX6_init_9 : decode cX6_init 9 = .ok (.ldc 11, 2) := by decide +kernel
theorem dX6_init_11 : decode cX6_init 11 = .ok (.invokespecial 12, 3) := by decide +kernel
theorem dX6_init_14 : decode cX6_init 14 = .ok (.putfield 15, 3) := by decide +kernel
theorem dX6_init_17 : decode cX6_init 17 = .ok (.aload_n 0, 1) := by decide +kernel
theorem dX6_init_18 : decode cX6_init 18 = .ok (.new 9, 3) := by decide +kernel
theorem dX6_init_21 : decode cX6_init 21 = .ok (.dup, 1) := by decide +kernel
theorem dX6_init_22 : decode cX6_init 22 = .ok (.sipush 4096, 3) := by decide +kernel
theorem dX6_init_25 : decode cX6_init 25 = .ok (.invokespecial 12, 3) := by decide +kernel
theorem dX6_init_28 : decode cX6_init 28 = .ok (.putfield 21, 3) := by decide +kernel
theorem dX6_init_31 : decode cX6_init 31 = .ok (.aload_n 0, 1) := by decide +kernel
theorem dX6_init_32 : decode cX6_init 32 = .ok (.iconst 0, 1) := by decide +kernel
theorem dX6_init_33 : decode cX6_init 33 = .ok (.putfield 24, 3) := by decide +kernel
theorem dX6_init_36 : decode cX6_init 36 = .ok (.return_, 1) := by decide +kernel
set_option maxRecDepth 20000 in
theorem ggX6_replaceImage_X4_cutTo : GoodIn wsX6_replaceImage wsX4_cutTo := goodIn_r _ [8, 9, 39, 40, 41] (by decide +kernel) (by decide +kernel)
set_option maxRecDepth 20000 in
theorem gX6_replaceImage_X4_cutTo : GoodIn wsX6_replaceImage (wsV RX6 28 RX4 yX4_cutTo wsX4_cutTo) := goodIn_app (goodIn_of _ (by decide +kernel)) ggX6_replaceImage_X4_cutTo
set_option maxRecDepth 20000 in
theorem ggX6_replaceImage_X4_count : GoodIn wsX6_replaceImage wsX4_count := goodIn_r _ [13, 9, 39, 40, 41] (by decide +kernel) (by decide +kernel)
set_option maxRecDepth 20000 in
theorem gX6_replaceImage_X4_count : GoodIn wsX6_replaceImage (wsV RX6 31 RX4 yX4_count wsX4_count) := goodIn_app (goodIn_of _ (by decide +kernel)) ggX6_replaceImage_X4_count
set_option maxRecDepth 20000 in
theorem ggX6_replaceImage_X4_addRange : GoodIn wsX6_replaceImage wsX4_addRange := goodIn_r _ [17, 9, 18, 19, 20, 21, 22, 23, 24, 25, 7, 26, 27, 28, 29, 30, 31, 32, 33, 34, 35, 39, 40, 41] (by decide +kernel) (by decide +kernel)
set_option maxRecDepth 20000 in
theorem gX6_replaceImage_X4_addRange : GoodIn wsX6_replaceImage (wsV RX6 35 RX4 yX4_addRange wsX4_addRange) := goodIn_app (goodIn_of _ (by decide +kernel)) ggX6_replaceImage_X4_addRange
theorem dX6_replaceImage_0 : decode cX6_replaceImage 0 = .ok (.aload_n 0, 1) := by decide +kernel
theorem dX6_replaceImage_1 : decode cX6_replaceImage 1 = .ok (.getfield 15, 3) := by decide +kernel
theorem dX6_replaceImage_4 : decode cX6_replaceImage 4 = .ok (.iconst 0, 1) := by decide +kernel
theorem dX6_replaceImage_5 : decode cX6_replaceImage 5 = .ok (.invokevirtual 28, 3) := by decide +kernel
theorem dX6_replaceImage_8 : decode cX6_replaceImage 8 = .ok (.aload_n 0, 1) := by decide +kernel
theorem dX6_replaceImage_9 : decode cX6_replaceImage 9 = .ok (.getfield 15, 3) := by decide +kernel
theorem dX6_replaceImage_12 : decode cX6_replaceImage 12 = .ok (.aload_n 1, 1) := by decide +kernel
theorem dX6_replaceImage_13 : decode cX6_replaceImage 13 = .ok (.iconst 0, 1) := by decide +kernel
theorem dX6_replaceImage_14 : decode cX6_replaceImage 14 = .ok (.aload_n 1, 1) := by decide +kernel
theorem dX6_replaceImage_15 : decode cX6_replaceImage 15 = .ok (.invokevirtual 31, 3) := by decide +kernel
theorem dX6_replaceImage_18 : decode cX6_replaceImage 18 = .ok (.invokevirtual 35, 3) := by decide +kernel
theorem dX6_replaceImage_21 : decode cX6_replaceImage 21 = .ok (.aload_n 0, 1) := by decide +kernel
theorem dX6_replaceImage_22 : decode cX6_replaceImage 22 = .ok (.getfield 21, 3) := by decide +kernel
theorem dX6_replaceImage_25 : decode cX6_replaceImage 25 = .ok (.iconst 0, 1) := by decide +kernel
theorem dX6_replaceImage_26 : decode cX6_replaceImage 26 = .ok (.invokevirtual 28, 3) := by decide +kernel
theorem dX6_replaceImage_29 : decode cX6_replaceImage 29 = .ok (.aload_n 0, 1) := by decide +kernel
theorem dX6_replaceImage_30 : decode cX6_replaceImage 30 = .ok (.iconst 0, 1) := by decide +kernel
theorem dX6_replaceImage_31 : decode cX6_replaceImage 31 = .ok (.putfield 24, 3) := by decide +kernel
theorem dX6_replaceImage_34 : decode cX6_replaceImage 34 = .ok (.return_, 1) := by decide +kernel
set_option maxRecDepth 20000 in
theorem ggX6_openImage_X4_get : GoodIn wsX6_openImage wsX4_get := goodIn_r _ [8, 9, 10, 136, 137, 138] (by decide +kernel) (by decide +kernel)
set_option maxRecDepth 20000 in
theorem gX6_openImage_X4_get : GoodIn wsX6_openImage (wsV RX6 39 RX4 yX4_get wsX4_get) := goodIn_app (goodIn_of _ (by decide +kernel)) ggX6_openImage_X4_get
set_option maxRecDepth 20000 in
theorem ggX6_openImage_X6_isRight : GoodIn wsX6_openImage wsX6_isRight := goodIn_r _ [15, 1, 16, 17, 18, 7, 19, 9, 20, 21, 22, 23, 24, 25, 26, 27, 28, 29, 30, 31, 32, 33, 34, 35, 36, 5, 6, 8, 10, 37, 38, 39, 40, 41, 42, 43, 44, 45, 46, 47, 48, 49, 50, 51, 52, 53, 54, 55, 56, 57, 58, 59, 60, 61, 62, 63, 64, 65, 66, 67, 68, 69, 70, 71, 72, 73, 4, 74, 75, 76, 77, 78, 79, 80, 81, 82, 83, 84, 85, 14, 86, 87, 88, 89, 90, 91, 92, 93, 94, 95, 96, 97, 98, 99, 100, 101, 102, 103, 104, 105, 106, 107, 133, 134, 135, 136, 137, 138] (by decide +kernel) (by decide +kernel)
set_option maxRecDepth 20000 in
theorem gX6_openImage_X6_isRight : GoodIn wsX6_openImage (wsV RX6 43 RX6 yX6_isRight wsX6_isRight) := goodIn_app (goodIn_of _ (by decide +kernel)) ggX6_openImage_X6_isRight
set_option maxRecDepth 20000 in
theorem ggX6_openImage_X4_cutTo : GoodIn wsX6_openImage wsX4_cutTo := goodIn_r _ [111, 9, 136, 137, 138] (by decide +kernel) (by decide +kernel)
set_option maxRecDepth 20000 in
theorem gX6_openImage_X4_cutTo : GoodIn wsX6_openImage (wsV RX6 28 RX4 yX4_cutTo wsX4_cutTo) := goodIn_app (goodIn_of _ (by decide +kernel)) ggX6_openImage_X4_cutTo
set_option maxRecDepth 20000 in
theorem ggX6_openImage_X4_addRange : GoodIn wsX6_openImage wsX4_addRange := goodIn_r _ [115, 9, 10, 116, 117, 118, 119, 120, 121, 122, 7, 123, 124, 125, 126, 127, 128, 129, 130, 131, 132, 136, 137, 138] (by decide +kernel) (by decide +kernel)
set_option maxRecDepth 20000 in
theorem gX6_openImage_X4_addRange : GoodIn wsX6_openImage (wsV RX6 35 RX4 yX4_addRange wsX4_addRange) := goodIn_app (goodIn_of _ (by decide +kernel)) ggX6_openImage_X4_addRange
theorem dX6_openImage_0 : decode cX6_openImage 0 = .ok (.aload_n 0, 1) := by decide +kernel
theorem dX6_openImage_1 : decode cX6_openImage 1 = .ok (.getfield 15, 3) := by decide +kernel
theorem dX6_openImage_4 : decode cX6_openImage 4 = .ok (.iconst 4, 1) := by decide +kernel
theorem dX6_openImage_5 : decode cX6_openImage 5 = .ok (.invokevirtual 39, 3) := by decide +kernel
theorem dX6_openImage_8 : decode cX6_openImage 8 = .ok (.bipush 8, 2) := by decide +kernel
theorem dX6_openImage_10 : decode cX6_openImage 10 = .ok (.ishl, 1) := by decide +kernel
theorem dX6_openImage_11 : decode cX6_openImage 11 = .ok (.aload_n 0, 1) := by decide +kernel
theorem dX6_openImage_12 : decode cX6_openImage 12 = .ok (.getfield 15, 3) := by decide +kernel
theorem dX6_openImage_15 : decode cX6_openImage 15 = .ok (.iconst 5, 1) := by decide +kernel
theorem dX6_openImage_16 : decode cX6_openImage 16 = .ok (.invokevirtual 39, 3) := by decide +kernel
theorem dX6_openImage_19 : decode cX6_openImage 19 = .ok (.ior, 1) := by decide +kernel
theorem dX6_openImage_20 : decode cX6_openImage 20 = .ok (.istore_n 1, 1) := by decide +kernel
theorem dX6_openImage_21 : decode cX6_openImage 21 = .ok (.aload_n 0, 1) := by decide +kernel
theorem dX6_openImage_22 : decode cX6_openImage 22 = .ok (.iload_n 1, 1) := by decide +kernel
theorem dX6_openImage_23 : decode cX6_openImage 23 = .ok (.invokevirtual 43, 3) := by decide +kernel
theorem dX6_openImage_26 : decode cX6_openImage 26 = .ok (.ifCond .ne 5, 3) := by decide +kernel
theorem dX6_openImage_29 : decode cX6_openImage 29 = .ok (.iconst (-1), 1) := by decide +kernel
theorem dX6_openImage_30 : decode cX6_openImage 30 = .ok (.ireturn, 1) := by decide +kernel
theorem dX6_openImage_31 : decode cX6_openImage 31 = .ok (.aload_n 0, 1) := by decide +kernel
theorem dX6_openImage_32 : decode cX6_openImage 32 = .ok (.getfield 21, 3) := by decide +kernel
theorem dX6_openImage_35 : decode cX6_openImage 35 = .ok (.iconst 0, 1) := by decide +kernel
theorem dX6_openImage_36 : decode cX6_openImage 36 = .ok (.invokevirtual 28, 3) := by decide +kernel
theorem dX6_openImage_39 : decode cX6_openImage 39 = .ok (.aload_n 0, 1) := by decide +kernel
theorem dX6_openImage_40 : decode cX6_openImage 40 = .ok (.getfield 21, 3) := by decide +kernel
theorem dX6_openImage_43 : decode cX6_openImage 43 = .ok (.aload_n 0, 1) := by decide +kernel
theorem dX6_openImage_44 : decode cX6_openImage 44 = .ok (.getfield 15, 3) := by decide +kernel
theorem dX6_openImage_47 : decode cX6_openImage 47 = .ok (.bipush 8, 2) := by decide +kernel
theorem dX6_openImage_49 : decode cX6_openImage 49 = .ok (.iload_n 1, 1) := by decide +kernel
theorem dX6_openImage_50 : decode cX6_openImage 50 = .ok (.bipush 64, 2) := by decide +kernel
theorem dX6_openImage_52 : decode cX6_openImage 52 = .ok (.imul, 1) := by decide +kernel
theorem dX6_openImage_53 : decode cX6_openImage 53 = .ok (.invokevirtual 35, 3) := by decide +kernel
theorem dX6_openImage_56 : decode cX6_openImage 56 = .ok (.aload_n 0, 1) := by decide +kernel
theorem dX6_openImage_57 : decode cX6_openImage 57 = .ok (.iconst 1, 1) := by decide +kernel
theorem dX6_openImage_58 : decode cX6_openImage 58 = .ok (.putfield 24, 3) := by decide +kernel
theorem dX6_openImage_61 : decode cX6_openImage 61 = .ok (.iload_n 1, 1) := by decide +kernel
theorem dX6_openImage_62 : decode cX6_openImage 62 = .ok (.ireturn, 1) := by decide +kernel
set_option maxRecDepth 20000 in
theorem ggX6_isRight_X4_count : GoodIn wsX6_isRight wsX4_count := goodIn_r _ [6, 7, 105, 106, 107] (by decide +kernel) (by decide +kernel)
set_option maxRecDepth 20000 in
theorem gX6_isRight_X4_count : GoodIn wsX6_isRight (wsV RX6 31 RX4 yX4_count wsX4_count) := goodIn_app (goodIn_of _ (by decide +kernel)) ggX6_isRight_X4_count
set_option maxRecDepth 20000 in
theorem ggX6_isRight_X4_hasText : GoodIn wsX6_isRight wsX4_hasText := goodIn_r _ [11, 12, 13, 14, 15, 16, 17, 18, 19, 20, 21, 22, 23, 24, 25, 26, 5, 27, 7, 28, 29, 30, 31, 32, 33, 34, 35, 36, 37, 38, 39, 40, 41, 42, 43, 44, 45, 46, 47, 48, 49, 50, 51, 52, 53, 54, 55, 56, 57, 58, 59, 60, 61, 62, 63, 64, 65, 105, 106, 107] (by decide +kernel) (by decide +kernel)
set_option maxRecDepth 20000 in
theorem gX6_isRight_X4_hasText : GoodIn wsX6_isRight (wsV RX6 49 RX4 yX4_hasText wsX4_hasText) := goodIn_app (goodIn_of _ (by decide +kernel)) ggX6_isRight_X4_hasText
set_option maxRecDepth 20000 in
theorem ggX6_isRight_X4_get : GoodIn wsX6_isRight wsX4_get := goodIn_r _ [27, 7, 28, 105, 106, 107] (by decide +kernel) (by decide +kernel)
set_option maxRecDepth 20000 in
theorem gX6_isRight_X4_get : GoodIn wsX6_isRight (wsV RX6 39 RX4 yX4_get wsX4_get) := goodIn_app (goodIn_of _ (by decide +kernel)) ggX6_isRight_X4_get
set_option maxRecDepth 20000 in
theorem ggX6_isRight_X4_check : GoodIn wsX6_isRight wsX4_check := goodIn_r _ [70, 71, 24, 25, 26, 5, 27, 7, 28, 105, 106, 107] (by decide +kernel) (by decide +kernel)
set_option maxRecDepth 20000 in
theorem gX6_isRight_X4_check : GoodIn wsX6_isRight (wsV RX6 53 RX4 yX4_check wsX4_check) := goodIn_app (goodIn_of _ (by decide +kernel)) ggX6_isRight_X4_check
set_option maxRecDepth 20000 in
theorem ggX6_isRight_X4_intFrom : GoodIn wsX6_isRight wsX4_intFrom := goodIn_r _ [75, 7, 24, 25, 26, 5, 27, 28, 105, 106, 107] (by decide +kernel) (by decide +kernel)
set_option maxRecDepth 20000 in
theorem gX6_isRight_X4_intFrom : GoodIn wsX6_isRight (wsV RX6 57 RX4 yX4_intFrom wsX4_intFrom) := goodIn_app (goodIn_of _ (by decide +kernel)) ggX6_isRight_X4_intFrom
set_option maxRecDepth 20000 in
theorem ggX6_isRight_X6_isEntryRight : GoodIn wsX6_isRight wsX6_isEntryRight := goodIn_r _ [80, 1, 81, 72, 73, 74, 5, 75, 7, 24, 25, 26, 27, 28, 82, 83, 84, 79, 85, 86, 87, 88, 89, 66, 90, 91, 92, 93, 2, 3, 4, 6, 102, 103, 104, 105, 106, 107] (by decide +kernel) (by decide +kernel)
set_option maxRecDepth 20000 in
theorem gX6_isRight_X6_isEntryRight : GoodIn wsX6_isRight (wsV RX6 60 RX6 yX6_isEntryRight wsX6_isEntryRight) := goodIn_app (goodIn_of _ (by decide +kernel)) ggX6_isRight_X6_isEntryRight
set_option maxRecDepth 20000 in
theorem ggX6_isRight_X6_isNameNew : GoodIn wsX6_isRight wsX6_isNameNew := goodIn_r _ [97, 98, 99, 100, 79, 101, 1, 66, 25, 26, 5, 27, 7, 28, 102, 103, 104, 105, 106, 107] (by decide +kernel) (by decide +kernel)
set_option maxRecDepth 20000 in
theorem gX6_isRight_X6_isNameNew : GoodIn wsX6_isRight (wsV RX6 63 RX6 yX6_isNameNew wsX6_isNameNew) := goodIn_app (goodIn_of _ (by decide +kernel)) ggX6_isRight_X6_isNameNew
theorem dX6_isRight_0 : decode cX6_isRight 0 = .ok (.iload_n 1, 1) := by decide +kernel
theorem dX6_isRight_1 : decode cX6_isRight 1 = .ok (.ifCond .lt 9, 3) := by decide +kernel
theorem dX6_isRight_4 : decode cX6_isRight 4 = .ok (.iload_n 1, 1) := by decide +kernel
theorem dX6_isRight_5 : decode cX6_isRight 5 = .ok (.bipush 64, 2) := by decide +kernel
theorem dX6_isRight_7 : decode cX6_isRight 7 = .ok (.if_icmp .le 5, 3) := by decide +kernel
theorem dX6_isRight_10 : decode cX6_isRight 10 = .ok (.iconst 0, 1) := by decide +kernel
theorem dX6_isRight_11 : decode cX6_isRight 11 = .ok (.ireturn, 1) := by decide +kernel
theorem dX6_isRight_12 : decode cX6_isRight 12 = .ok (.bipush 8, 2) := by decide +kernel
theorem dX6_isRight_14 : decode cX6_isRight 14 = .ok (.iload_n 1, 1) := by decide +kernel
theorem dX6_isRight_15 : decode cX6_isRight 15 = .ok (.bipush 64, 2) := by decide +kernel
theorem dX6_isRight_17 : decode cX6_isRight 17 = .ok (.imul, 1) := by decide +kernel
theorem dX6_isRight_18 : decode cX6_isRight 18 = .ok (.iadd, 1) := by decide +kernel
theorem dX6_isRight_19 : decode cX6_isRight 19 = .ok (.istore_n 2, 1) := by decide +kernel
theorem dX6_isRight_20 : decode cX6_isRight 20 = .ok (.aload_n 0, 1) := by decide +kernel
theorem dX6_isRight_21 : decode cX6_isRight 21 = .ok (.getfield 15, 3) := by decide +kernel
theorem dX6_isRight_24 : decode cX6_isRight 24 = .ok (.invokevirtual 31, 3) := by decide +kernel
theorem dX6_isRight_27 : decode cX6_isRight 27 = .ok (.iload_n 2, 1) := by decide +kernel
theorem dX6_isRight_28 : decode cX6_isRight 28 = .ok (.iconst 4, 1) := by decide +kernel
theorem dX6_isRight_29 : decode cX6_isRight 29 = .ok (.iadd, 1) := by decide +kernel
theorem dX6_isRight_30 : decode cX6_isRight 30 = .ok (.if_icmp .lt 61, 3) := by decide +kernel
theorem dX6_isRight_33 : decode cX6_isRight 33 = .ok (.aload_n 0, 1) := by decide +kernel
theorem dX6_isRight_34 : decode cX6_isRight 34 = .ok (.getfield 15, 3) := by decide +kernel
theorem dX6_isRight_37 : decode cX6_isRight 37 = .ok (.iconst 0, 1) := by decide +kernel
theorem dX6_isRight_38 : decode cX6_isRight 38 = .ok (.iconst 4, 1) := by decide +kernel
theorem dX6_isRight_39 : decode cX6_isRight 39 = .ok (.ldc 47, 2) := by decide +kernel
theorem dX6_isRight_41 : decode cX6_isRight 41 = .ok (.invokevirtual 49, 3) := by decide +kernel
theorem dX6_isRight_44 : decode cX6_isRight 44 = .ok (.ifCond .eq 47, 3) := by decide +kernel
theorem dX6_isRight_47 : decode cX6_isRight 47 = .ok (.aload_n 0, 1) := by decide +kernel
theorem dX6_isRight_48 : decode cX6_isRight 48 = .ok (.getfield 15, 3) := by decide +kernel
theorem dX6_isRight_51 : decode cX6_isRight 51 = .ok (.bipush 6, 2) := by decide +kernel
theorem dX6_isRight_53 : decode cX6_isRight 53 = .ok (.invokevirtual 39, 3) := by decide +kernel
theorem dX6_isRight_56 : decode cX6_isRight 56 = .ok (.ifCond .ne 35, 3) := by decide +kernel
theorem dX6_isRight_59 : decode cX6_isRight 59 = .ok (.aload_n 0, 1) := by decide +kernel
theorem dX6_isRight_60 : decode cX6_isRight 60 = .ok (.getfield 15, 3) := by decide +kernel
theorem dX6_isRight_63 : decode cX6_isRight 63 = .ok (.bipush 7, 2) := by decide +kernel
theorem dX6_isRight_65 : decode cX6_isRight 65 = .ok (.invokevirtual 39, 3) := by decide +kernel
theorem dX6_isRight_68 : decode cX6_isRight 68 = .ok (.ifCond .ne 23, 3) := by decide +kernel
theorem dX6_isRight_71 : decode cX6_isRight 71 = .ok (.aload_n 0, 1) := by decide +kernel
theorem dX6_isRight_72 : decode cX6_isRight 72 = .ok (.getfield 15, 3) := by decide +kernel
theorem dX6_isRight_75 : decode cX6_isRight 75 = .ok (.iconst 0, 1) := by decide +kernel
theorem dX6_isRight_76 : decode cX6_isRight 76 = .ok (.iload_n 2, 1) := by decide +kernel
theorem dX6_isRight_77 : decode cX6_isRight 77 = .ok (.invokevirtual 53, 3) := by decide +kernel
theorem dX6_isRight_80 : decode cX6_isRight 80 = .ok (.aload_n 0, 1) := by decide +kernel
theorem dX6_isRight_81 : decode cX6_isRight 81 = .ok (.getfield 15, 3) := by decide +kernel
theorem dX6_isRight_84 : decode cX6_isRight 84 = .ok (.iload_n 2, 1) := by decide +kernel
theorem dX6_isRight_85 : decode cX6_isRight 85 = .ok (.invokevirtual 57, 3) := by decide +kernel
theorem dX6_isRight_88 : decode cX6_isRight 88 = .ok (.if_icmp .eq 5, 3) := by decide +kernel
theorem dX6_isRight_91 : decode cX6_isRight 91 = .ok (.iconst 0, 1) := by decide +kernel
theorem dX6_isRight_92 : decode cX6_isRight 92 = .ok (.ireturn, 1) := by decide +kernel
theorem dX6_isRight_93 : decode cX6_isRight 93 = .ok (.iconst 1, 1) := by decide +kernel
theorem dX6_isRight_94 : decode cX6_isRight 94 = .ok (.istore_n 3, 1) := by decide +kernel
theorem dX6_isRight_95 : decode cX6_isRight 95 = .ok (.iconst 0, 1) := by decide +kernel
theorem dX6_isRight_96 : decode cX6_isRight 96 = .ok (.istore 4, 2) := by decide +kernel
theorem dX6_isRight_98 : decode cX6_isRight 98 = .ok (.iload_n 3, 1) := by decide +kernel
theorem dX6_isRight_99 : decode cX6_isRight 99 = .ok (.ifCond .eq 45, 3) := by decide +kernel
theorem dX6_isRight_102 : decode cX6_isRight 102 = .ok (.iload 4, 2) := by decide +kernel
theorem dX6_isRight_104 : decode cX6_isRight 104 = .ok (.iload_n 1, 1) := by decide +kernel
theorem dX6_isRight_105 : decode cX6_isRight 105 = .ok (.if_icmp .ge 39, 3) := by decide +kernel
theorem dX6_isRight_108 : decode cX6_isRight 108 = .ok (.aload_n 0, 1) := by decide +kernel
theorem dX6_isRight_109 : decode cX6_isRight 109 = .ok (.bipush 8, 2) := by decide +kernel
theorem dX6_isRight_111 : decode cX6_isRight 111 = .ok (.iload 4, 2) := by decide +kernel
theorem dX6_isRight_113 : decode cX6_isRight 113 = .ok (.bipush 64, 2) := by decide +kernel
theorem dX6_isRight_115 : decode cX6_isRight 115 = .ok (.imul, 1) := by decide +kernel
theorem dX6_isRight_116 : decode cX6_isRight 116 = .ok (.iadd, 1) := by decide +kernel
theorem dX6_isRight_117 : decode cX6_isRight 117 = .ok (.invokevirtual 60, 3) := by decide +kernel
theorem dX6_isRight_120 : decode cX6_isRight 120 = .ok (.ifCond .eq 16, 3) := by decide +kernel
theorem dX6_isRight_123 : decode cX6_isRight 123 = .ok (.aload_n 0, 1) := by decide +kernel
theorem dX6_isRight_124 : decode cX6_isRight 124 = .ok (.iload 4, 2) := by decide +kernel
theorem dX6_isRight_126 : decode cX6_isRight 126 = .ok (.invokevirtual 63, 3) := by decide +kernel
theorem dX6_isRight_129 : decode cX6_isRight 129 = .ok (.ifCond .eq 7, 3) := by decide +kernel
theorem dX6_isRight_132 : decode cX6_isRight 132 = .ok (.iconst 1, 1) := by decide +kernel
theorem dX6_isRight_133 : decode cX6_isRight 133 = .ok (.goto 4, 3) := by decide +kernel
theorem dX6_isRight_136 : decode cX6_isRight 136 = .ok (.iconst 0, 1) := by decide +kernel
theorem dX6_isRight_137 : decode cX6_isRight 137 = .ok (.istore_n 3, 1) := by decide +kernel
theorem dX6_isRight_138 : decode cX6_isRight 138 = .ok (.iinc 4 1, 3) := by decide +kernel
theorem dX6_isRight_141 : decode cX6_isRight 141 = .ok (.goto (-43), 3) := by decide +kernel
theorem dX6_isRight_144 : decode cX6_isRight 144 = .ok (.iload_n 3, 1) := by decide +kernel
theorem dX6_isRight_145 : decode cX6_isRight 145 = .ok (.ireturn, 1) := by decide +kernel
set_option maxRecDepth 20000 in
theorem ggX6_isEntryRight_X4_intFrom : GoodIn wsX6_isEntryRight wsX4_intFrom := goodIn_r _ [7, 8, 9, 10, 11, 6, 12, 13, 35, 36, 37] (by decide +kernel) (by decide +kernel)
set_option maxRecDepth 20000 in
theorem gX6_isEntryRight_X4_intFrom : GoodIn wsX6_isEntryRight (wsV RX6 57 RX4 yX4_intFrom wsX4_intFrom) := goodIn_app (goodIn_of _ (by decide +kernel)) ggX6_isEntryRight_X4_intFrom
set_option maxRecDepth 20000 in
theorem ggX6_isEntryRight_X6_isNameRight : GoodIn wsX6_isEntryRight wsX6_isNameRight := goodIn_r _ [18, 1, 19, 20, 21, 6, 22, 9, 10, 11, 12, 8, 13, 23, 24, 25, 26, 27, 32, 33, 34, 35, 36, 37] (by decide +kernel) (by decide +kernel)
set_option maxRecDepth 20000 in
theorem gX6_isEntryRight_X6_isNameRight : GoodIn wsX6_isEntryRight (wsV RX6 68 RX6 yX6_isNameRight wsX6_isNameRight) := goodIn_app (goodIn_of _ (by decide +kernel)) ggX6_isEntryRight_X6_isNameRight
set_option maxRecDepth 20000 in
theorem ggX6_isEntryRight_X4_count : GoodIn wsX6_isEntryRight wsX4_count := goodIn_r _ [31, 8, 35, 36, 37] (by decide +kernel) (by decide +kernel)
set_option maxRecDepth 20000 in
theorem gX6_isEntryRight_X4_count : GoodIn wsX6_isEntryRight (wsV RX6 31 RX4 yX4_count wsX4_count) := goodIn_app (goodIn_of _ (by decide +kernel)) ggX6_isEntryRight_X4_count
theorem dX6_isEntryRight_0 : decode cX6_isEntryRight 0 = .ok (.aload_n 0, 1) := by decide +kernel
theorem dX6_isEntryRight_1 : decode cX6_isEntryRight 1 = .ok (.getfield 15, 3) := by decide +kernel
theorem dX6_isEntryRight_4 : decode cX6_isEntryRight 4 = .ok (.iload_n 1, 1) := by decide +kernel
theorem dX6_isEntryRight_5 : decode cX6_isEntryRight 5 = .ok (.bipush 48, 2) := by decide +kernel
theorem dX6_isEntryRight_7 : decode cX6_isEntryRight 7 = .ok (.iadd, 1) := by decide +kernel
theorem dX6_isEntryRight_8 : decode cX6_isEntryRight 8 = .ok (.invokevirtual 57, 3) := by decide +kernel
theorem dX6_isEntryRight_11 : decode cX6_isEntryRight 11 = .ok (.i2l, 1) := by decide +kernel
theorem dX6_isEntryRight_12 : decode cX6_isEntryRight 12 = .ok (.ldc2_w 66, 3) := by decide +kernel
theorem dX6_isEntryRight_15 : decode cX6_isEntryRight 15 = .ok (.land, 1) := by decide +kernel
theorem dX6_isEntryRight_16 : decode cX6_isEntryRight 16 = .ok (.lstore_n 2, 1) := by decide +kernel
theorem dX6_isEntryRight_17 : decode cX6_isEntryRight 17 = .ok (.aload_n 0, 1) := by decide +kernel
theorem dX6_isEntryRight_18 : decode cX6_isEntryRight 18 = .ok (.getfield 15, 3) := by decide +kernel
theorem dX6_isEntryRight_21 : decode cX6_isEntryRight 21 = .ok (.iload_n 1, 1) := by decide +kernel
theorem dX6_isEntryRight_22 : decode cX6_isEntryRight 22 = .ok (.bipush 52, 2) := by decide +kernel
theorem dX6_isEntryRight_24 : decode cX6_isEntryRight 24 = .ok (.iadd, 1) := by decide +kernel
theorem dX6_isEntryRight_25 : decode cX6_isEntryRight 25 = .ok (.invokevirtual 57, 3) := by decide +kernel
theorem dX6_isEntryRight_28 : decode cX6_isEntryRight 28 = .ok (.i2l, 1) := by decide +kernel
theorem dX6_isEntryRight_29 : decode cX6_isEntryRight 29 = .ok (.ldc2_w 66, 3) := by decide +kernel
theorem dX6_isEntryRight_32 : decode cX6_isEntryRight 32 = .ok (.land, 1) := by decide +kernel
theorem dX6_isEntryRight_33 : decode cX6_isEntryRight 33 = .ok (.lstore 4, 2) := by decide +kernel
theorem dX6_isEntryRight_35 : decode cX6_isEntryRight 35 = .ok (.aload_n 0, 1) := by decide +kernel
theorem dX6_isEntryRight_36 : decode cX6_isEntryRight 36 = .ok (.iload_n 1, 1) := by decide +kernel
theorem dX6_isEntryRight_37 : decode cX6_isEntryRight 37 = .ok (.invokevirtual 68, 3) := by decide +kernel
theorem dX6_isEntryRight_40 : decode cX6_isEntryRight 40 = .ok (.ifCond .eq 37, 3) := by decide +kernel
theorem dX6_isEntryRight_43 : decode cX6_isEntryRight 43 = .ok (.lload_n 2, 1) := by decide +kernel
theorem dX6_isEntryRight_44 : decode cX6_isEntryRight 44 = .ok (.lload 4, 2) := by decide +kernel
theorem dX6_isEntryRight_46 : decode cX6_isEntryRight 46 = .ok (.ladd, 1) := by decide +kernel
theorem dX6_isEntryRight_47 : decode cX6_isEntryRight 47 = .ok (.aload_n 0, 1) := by decide +kernel
theorem dX6_isEntryRight_48 : decode cX6_isEntryRight 48 = .ok (.getfield 15, 3) := by decide +kernel
theorem dX6_isEntryRight_51 : decode cX6_isEntryRight 51 = .ok (.invokevirtual 31, 3) := by decide +kernel
theorem dX6_isEntryRight_54 : decode cX6_isEntryRight 54 = .ok (.i2l, 1) := by decide +kernel
theorem dX6_isEntryRight_55 : decode cX6_isEntryRight 55 = .ok (.lcmp, 1) := by decide +kernel
theorem dX6_isEntryRight_56 : decode cX6_isEntryRight 56 = .ok (.ifCond .gt 21, 3) := by decide +kernel
theorem dX6_isEntryRight_59 : decode cX6_isEntryRight 59 = .ok (.aload_n 0, 1) := by decide +kernel
theorem dX6_isEntryRight_60 : decode cX6_isEntryRight 60 = .ok (.getfield 15, 3) := by decide +kernel
theorem dX6_isEntryRight_63 : decode cX6_isEntryRight 63 = .ok (.iload_n 1, 1) := by decide +kernel
theorem dX6_isEntryRight_64 : decode cX6_isEntryRight 64 = .ok (.bipush 60, 2) := by decide +kernel
theorem dX6_isEntryRight_66 : decode cX6_isEntryRight 66 = .ok (.iadd, 1) := by decide +kernel
theorem dX6_isEntryRight_67 : decode cX6_isEntryRight 67 = .ok (.invokevirtual 57, 3) := by decide +kernel
theorem dX6_isEntryRight_70 : decode cX6_isEntryRight 70 = .ok (.ifCond .ne 7, 3) := by decide +kernel
theorem dX6_isEntryRight_73 : decode cX6_isEntryRight 73 = .ok (.iconst 1, 1) := by decide +kernel
theorem dX6_isEntryRight_74 : decode cX6_isEntryRight 74 = .ok (.goto 4, 3) := by decide +kernel
theorem dX6_isEntryRight_77 : decode cX6_isEntryRight 77 = .ok (.iconst 0, 1) := by decide +kernel
theorem dX6_isEntryRight_78 : decode cX6_isEntryRight 78 = .ok (.ireturn, 1) := by decide +kernel
set_option maxRecDepth 20000 in
theorem ggX6_isNameRight_X4_find : GoodIn wsX6_isNameRight wsX4_find := goodIn_r _ [6, 7, 8, 9, 5, 10, 11, 12, 21, 22, 23] (by decide +kernel) (by decide +kernel)
set_option maxRecDepth 20000 in
theorem gX6_isNameRight_X4_find : GoodIn wsX6_isNameRight (wsV RX6 71 RX4 yX4_find wsX4_find) := goodIn_app (goodIn_of _ (by decide +kernel)) ggX6_isNameRight_X4_find
set_option maxRecDepth 20000 in
theorem ggX6_isNameRight_X4_get : GoodIn wsX6_isNameRight wsX4_get := goodIn_r _ [10, 11, 12, 21, 22, 23] (by decide +kernel) (by decide +kernel)
set_option maxRecDepth 20000 in
theorem gX6_isNameRight_X4_get : GoodIn wsX6_isNameRight (wsV RX6 39 RX4 yX4_get wsX4_get) := goodIn_app (goodIn_of _ (by decide +kernel)) ggX6_isNameRight_X4_get
set_option maxRecDepth 20000 in
theorem ggX6_isNameRight_X1_isVisible : GoodIn wsX6_isNameRight wsX1_isVisible := goodIn_r _ [17] (by decide +kernel) (by decide +kernel)
set_option maxRecDepth 20000 in
theorem gX6_isNameRight_X1_isVisible : GoodIn wsX6_isNameRight (va_wsS RX6 75 yX1_isVisible wsX1_isVisible) := goodIn_app (goodIn_of _ (by decide +kernel)) ggX6_isNameRight_X1_isVisible
theorem dX6_isNameRight_0 : decode cX6_isNameRight 0 = .ok (.aload_n 0, 1) := by decide +kernel
theorem dX6_isNameRight_1 : decode cX6_isNameRight 1 = .ok (.getfield 15, 3) := by decide +kernel
theorem dX6_isNameRight_4 : decode cX6_isNameRight 4 = .ok (.iconst 0, 1) := by decide +kernel
theorem dX6_isNameRight_5 : decode cX6_isNameRight 5 = .ok (.iload_n 1, 1) := by decide +kernel
theorem dX6_isNameRight_6 : decode cX6_isNameRight 6 = .ok (.iload_n 1, 1) := by decide +kernel
theorem dX6_isNameRight_7 : decode cX6_isNameRight 7 = .ok (.bipush 48, 2) := by decide +kernel
theorem dX6_isNameRight_9 : decode cX6_isNameRight 9 = .ok (.iadd, 1) := by decide +kernel
theorem dX6_isNameRight_10 : decode cX6_isNameRight 10 = .ok (.invokevirtual 71, 3) := by decide +kernel
theorem dX6_isNameRight_13 : decode cX6_isNameRight 13 = .ok (.istore_n 2, 1) := by decide +kernel
theorem dX6_isNameRight_14 : decode cX6_isNameRight 14 = .ok (.aload_n 0, 1) := by decide +kernel
theorem dX6_isNameRight_15 : decode cX6_isNameRight 15 = .ok (.getfield 15, 3) := by decide +kernel
theorem dX6_isNameRight_18 : decode cX6_isNameRight 18 = .ok (.iload_n 1, 1) := by decide +kernel
theorem dX6_isNameRight_19 : decode cX6_isNameRight 19 = .ok (.invokevirtual 39, 3) := by decide +kernel
theorem dX6_isNameRight_22 : decode cX6_isNameRight 22 = .ok (.bipush 47, 2) := by decide +kernel
theorem dX6_isNameRight_24 : decode cX6_isNameRight 24 = .ok (.if_icmp .ne 15, 3) := by decide +kernel
theorem dX6_isNameRight_27 : decode cX6_isNameRight 27 = .ok (.iload_n 2, 1) := by decide +kernel
theorem dX6_isNameRight_28 : decode cX6_isNameRight 28 = .ok (.iload_n 1, 1) := by decide +kernel
theorem dX6_isNameRight_29 : decode cX6_isNameRight 29 = .ok (.bipush 48, 2) := by decide +kernel
theorem dX6_isNameRight_31 : decode cX6_isNameRight 31 = .ok (.iadd, 1) := by decide +kernel
theorem dX6_isNameRight_32 : decode cX6_isNameRight 32 = .ok (.if_icmp .ge 7, 3) := by decide +kernel
theorem dX6_isNameRight_35 : decode cX6_isNameRight 35 = .ok (.iconst 1, 1) := by decide +kernel
theorem dX6_isNameRight_36 : decode cX6_isNameRight 36 = .ok (.goto 4, 3) := by decide +kernel
theorem dX6_isNameRight_39 : decode cX6_isNameRight 39 = .ok (.iconst 0, 1) := by decide +kernel
theorem dX6_isNameRight_40 : decode cX6_isNameRight 40 = .ok (.istore_n 3, 1) := by decide +kernel
theorem dX6_isNameRight_41 : decode cX6_isNameRight 41 = .ok (.iload_n 1, 1) := by decide +kernel
theorem dX6_isNameRight_42 : decode cX6_isNameRight 42 = .ok (.istore 4, 2) := by decide +kernel
theorem dX6_isNameRight_44 : decode cX6_isNameRight 44 = .ok (.iload_n 3, 1) := by decide +kernel
theorem dX6_isNameRight_45 : decode cX6_isNameRight 45 = .ok (.ifCond .eq 54, 3) := by decide +kernel
theorem dX6_isNameRight_48 : decode cX6_isNameRight 48 = .ok (.iload 4, 2) := by decide +kernel
theorem dX6_isNameRight_50 : decode cX6_isNameRight 50 = .ok (.iload_n 1, 1) := by decide +kernel
theorem dX6_isNameRight_51 : decode cX6_isNameRight 51 = .ok (.bipush 48, 2) := by decide +kernel
theorem dX6_isNameRight_53 : decode cX6_isNameRight 53 = .ok (.iadd, 1) := by decide +kernel
theorem dX6_isNameRight_54 : decode cX6_isNameRight 54 = .ok (.if_icmp .ge 45, 3) := by decide +kernel
theorem dX6_isNameRight_57 : decode cX6_isNameRight 57 = .ok (.aload_n 0, 1) := by decide +kernel
theorem dX6_isNameRight_58 : decode cX6_isNameRight 58 = .ok (.getfield 15, 3) := by decide +kernel
theorem dX6_isNameRight_61 : decode cX6_isNameRight 61 = .ok (.iload 4, 2) := by decide +kernel
theorem dX6_isNameRight_63 : decode cX6_isNameRight 63 = .ok (.invokevirtual 39, 3) := by decide +kernel
theorem dX6_isNameRight_66 : decode cX6_isNameRight 66 = .ok (.istore 5, 2) := by decide +kernel
theorem dX6_isNameRight_68 : decode cX6_isNameRight 68 = .ok (.iload 4, 2) := by decide +kernel
theorem dX6_isNameRight_70 : decode cX6_isNameRight 70 = .ok (.iload_n 2, 1) := by decide +kernel
theorem dX6_isNameRight_71 : decode cX6_isNameRight 71 = .ok (.if_icmp .ge 11, 3) := by decide +kernel
theorem dX6_isNameRight_74 : decode cX6_isNameRight 74 = .ok (.iload 5, 2) := by decide +kernel
theorem dX6_isNameRight_76 : decode cX6_isNameRight 76 = .ok (.invokestatic 75, 3) := by decide +kernel
theorem dX6_isNameRight_79 : decode cX6_isNameRight 79 = .ok (.goto 13, 3) := by decide +kernel
theorem dX6_isNameRight_82 : decode cX6_isNameRight 82 = .ok (.iload 5, 2) := by decide +kernel
theorem dX6_isNameRight_84 : decode cX6_isNameRight 84 = .ok (.ifCond .ne 7, 3) := by decide +kernel
theorem dX6_isNameRight_87 : decode cX6_isNameRight 87 = .ok (.iconst 1, 1) := by decide +kernel
theorem dX6_isNameRight_88 : decode cX6_isNameRight 88 = .ok (.goto 4, 3) := by decide +kernel
theorem dX6_isNameRight_91 : decode cX6_isNameRight 91 = .ok (.iconst 0, 1) := by decide +kernel
theorem dX6_isNameRight_92 : decode cX6_isNameRight 92 = .ok (.istore_n 3, 1) := by decide +kernel
theorem dX6_isNameRight_93 : decode cX6_isNameRight 93 = .ok (.iinc 4 1, 3) := by decide +kernel
theorem dX6_isNameRight_96 : decode cX6_isNameRight 96 = .ok (.goto (-52), 3) := by decide +kernel
theorem dX6_isNameRight_99 : decode cX6_isNameRight 99 = .ok (.iload_n 3, 1) := by decide +kernel
theorem dX6_isNameRight_100 : decode cX6_isNameRight 100 = .ok (.ireturn, 1) := by decide +kernel
set_option maxRecDepth 20000 in
theorem ggX6_isNameNew_X6_haveSameName : GoodIn wsX6_isNameNew wsX6_haveSameName := goodIn_r _ [5, 6, 7, 8, 9, 10, 11, 12, 13, 14, 15, 16, 17, 18, 19] (by decide +kernel) (by decide +kernel)
set_option maxRecDepth 20000 in
theorem gX6_isNameNew_X6_haveSameName : GoodIn wsX6_isNameNew (wsV RX6 80 RX6 yX6_haveSameName wsX6_haveSameName) := goodIn_app (goodIn_of _ (by decide +kernel)) ggX6_isNameNew_X6_haveSameName
theorem dX6_isNameNew_0 : decode cX6_isNameNew 0 = .ok (.iconst 1, 1) := by decide +kernel
theorem dX6_isNameNew_1 : decode cX6_isNameNew 1 = .ok (.istore_n 2, 1) := by decide +kernel
theorem dX6_isNameNew_2 : decode cX6_isNameNew 2 = .ok (.iconst 0, 1) := by decide +kernel
theorem dX6_isNameNew_3 : decode cX6_isNameNew 3 = .ok (.istore_n 3, 1) := by decide +kernel
theorem dX6_isNameNew_4 : decode cX6_isNameNew 4 = .ok (.iload_n 2, 1) := by decide +kernel
theorem dX6_isNameNew_5 : decode cX6_isNameNew 5 = .ok (.ifCond .eq 41, 3) := by decide +kernel
theorem dX6_isNameNew_8 : decode cX6_isNameNew 8 = .ok (.iload_n 3, 1) := by decide +kernel
theorem dX6_isNameNew_9 : decode cX6_isNameNew 9 = .ok (.iload_n 1, 1) := by decide +kernel
theorem dX6_isNameNew_10 : decode cX6_isNameNew 10 = .ok (.if_icmp .ge 36, 3) := by decide +kernel
theorem dX6_isNameNew_13 : decode cX6_isNameNew 13 = .ok (.aload_n 0, 1) := by decide +kernel
theorem dX6_isNameNew_14 : decode cX6_isNameNew 14 = .ok (.bipush 8, 2) := by decide +kernel
theorem dX6_isNameNew_16 : decode cX6_isNameNew 16 = .ok (.iload_n 3, 1) := by decide +kernel
theorem dX6_isNameNew_17 : decode cX6_isNameNew 17 = .ok (.bipush 64, 2) := by decide +kernel
theorem dX6_isNameNew_19 : decode cX6_isNameNew 19 = .ok (.imul, 1) := by decide +kernel
theorem dX6_isNameNew_20 : decode cX6_isNameNew 20 = .ok (.iadd, 1) := by decide +kernel
theorem dX6_isNameNew_21 : decode cX6_isNameNew 21 = .ok (.bipush 8, 2) := by decide +kernel
theorem dX6_isNameNew_23 : decode cX6_isNameNew 23 = .ok (.iload_n 1, 1) := by decide +kernel
theorem dX6_isNameNew_24 : decode cX6_isNameNew 24 = .ok (.bipush 64, 2) := by decide +kernel
theorem dX6_isNameNew_26 : decode cX6_isNameNew 26 = .ok (.imul, 1) := by decide +kernel
theorem dX6_isNameNew_27 : decode cX6_isNameNew 27 = .ok (.iadd, 1) := by decide +kernel
theorem dX6_isNameNew_28 : decode cX6_isNameNew 28 = .ok (.invokevirtual 80, 3) := by decide +kernel
theorem dX6_isNameNew_31 : decode cX6_isNameNew 31 = .ok (.ifCond .ne 7, 3) := by decide +kernel
theorem dX6_isNameNew_34 : decode cX6_isNameNew 34 = .ok (.iconst 1, 1) := by decide +kernel
theorem dX6_isNameNew_35 : decode cX6_isNameNew 35 = .ok (.goto 4, 3) := by decide +kernel
theorem dX6_isNameNew_38 : decode cX6_isNameNew 38 = .ok (.iconst 0, 1) := by decide +kernel
theorem dX6_isNameNew_39 : decode cX6_isNameNew 39 = .ok (.istore_n 2, 1) := by decide +kernel
theorem dX6_isNameNew_40 : decode cX6_isNameNew 40 = .ok (.iinc 3 1, 3) := by decide +kernel
theorem dX6_isNameNew_43 : decode cX6_isNameNew 43 = .ok (.goto (-39), 3) := by decide +kernel
theorem dX6_isNameNew_46 : decode cX6_isNameNew 46 = .ok (.iload_n 2, 1) := by decide +kernel
theorem dX6_isNameNew_47 : decode cX6_isNameNew 47 = .ok (.ireturn, 1) := by decide +kernel
set_option maxRecDepth 20000 in
theorem ggX6_haveSameName_X4_get : GoodIn wsX6_haveSameName wsX4_get := goodIn_r _ [6, 7, 8, 12, 13, 14] (by decide +kernel) (by decide +kernel)
set_option maxRecDepth 20000 in
theorem gX6_haveSameName_X4_get : GoodIn wsX6_haveSameName (wsV RX6 39 RX4 yX4_get wsX4_get) := goodIn_app (goodIn_of _ (by decide +kernel)) ggX6_haveSameName_X4_get
theorem dX6_haveSameName_0 : decode cX6_haveSameName 0 = .ok (.iconst 1, 1) := by decide +kernel
theorem dX6_haveSameName_1 : decode cX6_haveSameName 1 = .ok (.istore_n 3, 1) := by decide +kernel
theorem dX6_haveSameName_2 : decode cX6_haveSameName 2 = .ok (.iconst 0, 1) := by decide +kernel
theorem dX6_haveSameName_3 : decode cX6_haveSameName 3 = .ok (.istore 4, 2) := by decide +kernel
theorem dX6_haveSameName_5 : decode cX6_haveSameName 5 = .ok (.iload_n 3, 1) := by decide +kernel
theorem dX6_haveSameName_6 : decode cX6_haveSameName 6 = .ok (.ifCond .eq 47, 3) := by decide +kernel
theorem dX6_haveSameName_9 : decode cX6_haveSameName 9 = .ok (.iload 4, 2) := by decide +kernel
theorem dX6_haveSameName_11 : decode cX6_haveSameName 11 = .ok (.bipush 48, 2) := by decide +kernel
theorem dX6_haveSameName_13 : decode cX6_haveSameName 13 = .ok (.if_icmp .ge 40, 3) := by decide +kernel
theorem dX6_haveSameName_16 : decode cX6_haveSameName 16 = .ok (.aload_n 0, 1) := by decide +kernel
theorem dX6_haveSameName_17 : decode cX6_haveSameName 17 = .ok (.getfield 15, 3) := by decide +kernel
theorem dX6_haveSameName_20 : decode cX6_haveSameName 20 = .ok (.iload_n 1, 1) := by decide +kernel
theorem dX6_haveSameName_21 : decode cX6_haveSameName 21 = .ok (.iload 4, 2) := by decide +kernel
theorem dX6_haveSameName_23 : decode cX6_haveSameName 23 = .ok (.iadd, 1) := by decide +kernel
theorem dX6_haveSameName_24 : decode cX6_haveSameName 24 = .ok (.invokevirtual 39, 3) := by decide +kernel
theorem dX6_haveSameName_27 : decode cX6_haveSameName 27 = .ok (.aload_n 0, 1) := by decide +kernel
theorem dX6_haveSameName_28 : decode cX6_haveSameName 28 = .ok (.getfield 15, 3) := by decide +kernel
theorem dX6_haveSameName_31 : decode cX6_haveSameName 31 = .ok (.iload_n 2, 1) := by decide +kernel
theorem dX6_haveSameName_32 : decode cX6_haveSameName 32 = .ok (.iload 4, 2) := by decide +kernel
theorem dX6_haveSameName_34 : decode cX6_haveSameName 34 = .ok (.iadd, 1) := by decide +kernel
theorem dX6_haveSameName_35 : decode cX6_haveSameName 35 = .ok (.invokevirtual 39, 3) := by decide +kernel
theorem dX6_haveSameName_38 : decode cX6_haveSameName 38 = .ok (.if_icmp .ne 7, 3) := by decide +kernel
theorem dX6_haveSameName_41 : decode cX6_haveSameName 41 = .ok (.iconst 1, 1) := by decide +kernel
theorem dX6_haveSameName_42 : decode cX6_haveSameName 42 = .ok (.goto 4, 3) := by decide +kernel
theorem dX6_haveSameName_45 : decode cX6_haveSameName 45 = .ok (.iconst 0, 1) := by decide +kernel
theorem dX6_haveSameName_46 : decode cX6_haveSameName 46 = .ok (.istore_n 3, 1) := by decide +kernel
theorem dX6_haveSameName_47 : decode cX6_haveSameName 47 = .ok (.iinc 4 1, 3) := by decide +kernel
theorem dX6_haveSameName_50 : decode cX6_haveSameName 50 = .ok (.goto (-45), 3) := by decide +kernel
theorem dX6_haveSameName_53 : decode cX6_haveSameName 53 = .ok (.iload_n 3, 1) := by decide +kernel
theorem dX6_haveSameName_54 : decode cX6_haveSameName 54 = .ok (.ireturn, 1) := by decide +kernel
set_option maxRecDepth 20000 in
theorem ggX6_find_X4_count : GoodIn wsX6_find wsX4_count := goodIn_r _ [6, 7, 21, 22, 23] (by decide +kernel) (by decide +kernel)
set_option maxRecDepth 20000 in
theorem gX6_find_X4_count : GoodIn wsX6_find (wsV RX6 31 RX4 yX4_count wsX4_count) := goodIn_app (goodIn_of _ (by decide +kernel)) ggX6_find_X4_count
set_option maxRecDepth 20000 in
theorem ggX6_find_X6_isNamed : GoodIn wsX6_find wsX6_isNamed := goodIn_r _ [12, 1, 2, 3, 4, 5, 6, 7, 13, 14, 15, 16, 17, 18, 19, 20, 21, 22, 23] (by decide +kernel) (by decide +kernel)
set_option maxRecDepth 20000 in
theorem gX6_find_X6_isNamed : GoodIn wsX6_find (wsV RX6 84 RX6 yX6_isNamed wsX6_isNamed) := goodIn_app (goodIn_of _ (by decide +kernel)) ggX6_find_X6_isNamed
theorem dX6_find_0 : decode cX6_find 0 = .ok (.aload_n 1, 1) := by decide +kernel
theorem dX6_find_1 : decode cX6_find 1 = .ok (.invokevirtual 31, 3) := by decide +kernel
theorem dX6_find_4 : decode cX6_find 4 = .ok (.bipush 48, 2) := by decide +kernel
theorem dX6_find_6 : decode cX6_find 6 = .ok (.if_icmp .lt 5, 3) := by decide +kernel
theorem dX6_find_9 : decode cX6_find 9 = .ok (.iconst (-1), 1) := by decide +kernel
theorem dX6_find_10 : decode cX6_find 10 = .ok (.ireturn, 1) := by decide +kernel
theorem dX6_find_11 : decode cX6_find 11 = .ok (.iconst 0, 1) := by decide +kernel
theorem dX6_find_12 : decode cX6_find 12 = .ok (.istore_n 2, 1) := by decide +kernel
theorem dX6_find_13 : decode cX6_find 13 = .ok (.iload_n 2, 1) := by decide +kernel
theorem dX6_find_14 : decode cX6_find 14 = .ok (.aload_n 0, 1) := by decide +kernel
theorem dX6_find_15 : decode cX6_find 15 = .ok (.getfield 21, 3) := by decide +kernel
theorem dX6_find_18 : decode cX6_find 18 = .ok (.invokevirtual 31, 3) := by decide +kernel
theorem dX6_find_21 : decode cX6_find 21 = .ok (.bipush 64, 2) := by decide +kernel
theorem dX6_find_23 : decode cX6_find 23 = .ok (.idiv, 1) := by decide +kernel
theorem dX6_find_24 : decode cX6_find 24 = .ok (.if_icmp .ge 20, 3) := by decide +kernel
theorem dX6_find_27 : decode cX6_find 27 = .ok (.aload_n 0, 1) := by decide +kernel
theorem dX6_find_28 : decode cX6_find 28 = .ok (.iload_n 2, 1) := by decide +kernel
theorem dX6_find_29 : decode cX6_find 29 = .ok (.aload_n 1, 1) := by decide +kernel
theorem dX6_find_30 : decode cX6_find 30 = .ok (.invokevirtual 84, 3) := by decide +kernel
theorem dX6_find_33 : decode cX6_find 33 = .ok (.ifCond .eq 5, 3) := by decide +kernel
theorem dX6_find_36 : decode cX6_find 36 = .ok (.iload_n 2, 1) := by decide +kernel
theorem dX6_find_37 : decode cX6_find 37 = .ok (.ireturn, 1) := by decide +kernel
theorem dX6_find_38 : decode cX6_find 38 = .ok (.iinc 2 1, 3) := by decide +kernel
theorem dX6_find_41 : decode cX6_find 41 = .ok (.goto (-28), 3) := by decide +kernel
theorem dX6_find_44 : decode cX6_find 44 = .ok (.iconst (-1), 1) := by decide +kernel
theorem dX6_find_45 : decode cX6_find 45 = .ok (.ireturn, 1) := by decide +kernel
set_option maxRecDepth 20000 in
theorem ggX6_isNamed_X4_count : GoodIn wsX6_isNamed wsX4_count := goodIn_r _ [6, 7, 16, 17, 18] (by decide +kernel) (by decide +kernel)
set_option maxRecDepth 20000 in
theorem gX6_isNamed_X4_count : GoodIn wsX6_isNamed (wsV RX6 31 RX4 yX4_count wsX4_count) := goodIn_app (goodIn_of _ (by decide +kernel)) ggX6_isNamed_X4_count
set_option maxRecDepth 20000 in
theorem ggX6_isNamed_X4_get : GoodIn wsX6_isNamed wsX4_get := goodIn_r _ [11, 7, 12, 16, 17, 18] (by decide +kernel) (by decide +kernel)
set_option maxRecDepth 20000 in
theorem gX6_isNamed_X4_get : GoodIn wsX6_isNamed (wsV RX6 39 RX4 yX4_get wsX4_get) := goodIn_app (goodIn_of _ (by decide +kernel)) ggX6_isNamed_X4_get
theorem dX6_isNamed_0 : decode cX6_isNamed 0 = .ok (.iconst 1, 1) := by decide +kernel
theorem dX6_isNamed_1 : decode cX6_isNamed 1 = .ok (.istore_n 3, 1) := by decide +kernel
theorem dX6_isNamed_2 : decode cX6_isNamed 2 = .ok (.iconst 0, 1) := by decide +kernel
theorem dX6_isNamed_3 : decode cX6_isNamed 3 = .ok (.istore 4, 2) := by decide +kernel
theorem dX6_isNamed_5 : decode cX6_isNamed 5 = .ok (.iload_n 3, 1) := by decide +kernel
theorem dX6_isNamed_6 : decode cX6_isNamed 6 = .ok (.ifCond .eq 62, 3) := by decide +kernel
theorem dX6_isNamed_9 : decode cX6_isNamed 9 = .ok (.iload 4, 2) := by decide +kernel
theorem dX6_isNamed_11 : decode cX6_isNamed 11 = .ok (.bipush 48, 2) := by decide +kernel
theorem dX6_isNamed_13 : decode cX6_isNamed 13 = .ok (.if_icmp .ge 55, 3) := by decide +kernel
theorem dX6_isNamed_16 : decode cX6_isNamed 16 = .ok (.iload 4, 2) := by decide +kernel
theorem dX6_isNamed_18 : decode cX6_isNamed 18 = .ok (.aload_n 2, 1) := by decide +kernel
theorem dX6_isNamed_19 : decode cX6_isNamed 19 = .ok (.invokevirtual 31, 3) := by decide +kernel
theorem dX6_isNamed_22 : decode cX6_isNamed 22 = .ok (.if_icmp .ge 12, 3) := by decide +kernel
theorem dX6_isNamed_25 : decode cX6_isNamed 25 = .ok (.aload_n 2, 1) := by decide +kernel
theorem dX6_isNamed_26 : decode cX6_isNamed 26 = .ok (.iload 4, 2) := by decide +kernel
theorem dX6_isNamed_28 : decode cX6_isNamed 28 = .ok (.invokevirtual 39, 3) := by decide +kernel
theorem dX6_isNamed_31 : decode cX6_isNamed 31 = .ok (.goto 4, 3) := by decide +kernel
theorem dX6_isNamed_34 : decode cX6_isNamed 34 = .ok (.iconst 0, 1) := by decide +kernel
theorem dX6_isNamed_35 : decode cX6_isNamed 35 = .ok (.istore 5, 2) := by decide +kernel
theorem dX6_isNamed_37 : decode cX6_isNamed 37 = .ok (.aload_n 0, 1) := by decide +kernel
theorem dX6_isNamed_38 : decode cX6_isNamed 38 = .ok (.getfield 21, 3) := by decide +kernel
theorem dX6_isNamed_41 : decode cX6_isNamed 41 = .ok (.iload_n 1, 1) := by decide +kernel
theorem dX6_isNamed_42 : decode cX6_isNamed 42 = .ok (.bipush 64, 2) := by decide +kernel
theorem dX6_isNamed_44 : decode cX6_isNamed 44 = .ok (.imul, 1) := by decide +kernel
theorem dX6_isNamed_45 : decode cX6_isNamed 45 = .ok (.iload 4, 2) := by decide +kernel
theorem dX6_isNamed_47 : decode cX6_isNamed 47 = .ok (.iadd, 1) := by decide +kernel
theorem dX6_isNamed_48 : decode cX6_isNamed 48 = .ok (.invokevirtual 39, 3) := by decide +kernel
theorem dX6_isNamed_51 : decode cX6_isNamed 51 = .ok (.iload 5, 2) := by decide +kernel
theorem dX6_isNamed_53 : decode cX6_isNamed 53 = .ok (.if_icmp .ne 7, 3) := by decide +kernel
theorem dX6_isNamed_56 : decode cX6_isNamed 56 = .ok (.iconst 1, 1) := by decide +kernel
theorem dX6_isNamed_57 : decode cX6_isNamed 57 = .ok (.goto 4, 3) := by decide +kernel
theorem dX6_isNamed_60 : decode cX6_isNamed 60 = .ok (.iconst 0, 1) := by decide +kernel
theorem dX6_isNamed_61 : decode cX6_isNamed 61 = .ok (.istore_n 3, 1) := by decide +kernel
theorem dX6_isNamed_62 : decode cX6_isNamed 62 = .ok (.iinc 4 1, 3) := by decide +kernel
theorem dX6_isNamed_65 : decode cX6_isNamed 65 = .ok (.goto (-60), 3) := by decide +kernel
theorem dX6_isNamed_68 : decode cX6_isNamed 68 = .ok (.iload_n 3, 1) := by decide +kernel
theorem dX6_isNamed_69 : decode cX6_isNamed 69 = .ok (.ireturn, 1) := by decide +kernel
set_option maxRecDepth 20000 in
theorem ggX6_placeOf_X4_intFrom : GoodIn wsX6_placeOf wsX4_intFrom := goodIn_r _ [6, 7, 8, 9, 10, 5, 11, 12, 16, 17, 18] (by decide +kernel) (by decide +kernel)
set_option maxRecDepth 20000 in
theorem gX6_placeOf_X4_intFrom : GoodIn wsX6_placeOf (wsV RX6 57 RX4 yX4_intFrom wsX4_intFrom) := goodIn_app (goodIn_of _ (by decide +kernel)) ggX6_placeOf_X4_intFrom
theorem dX6_placeOf_0 : decode cX6_placeOf 0 = .ok (.aload_n 0, 1) := by decide +kernel
theorem dX6_placeOf_1 : decode cX6_placeOf 1 = .ok (.getfield 21, 3) := by decide +kernel
theorem dX6_placeOf_4 : decode cX6_placeOf 4 = .ok (.iload_n 1, 1) := by decide +kernel
theorem dX6_placeOf_5 : decode cX6_placeOf 5 = .ok (.bipush 64, 2) := by decide +kernel
theorem dX6_placeOf_7 : decode cX6_placeOf 7 = .ok (.imul, 1) := by decide +kernel
theorem dX6_placeOf_8 : decode cX6_placeOf 8 = .ok (.bipush 48, 2) := by decide +kernel
theorem dX6_placeOf_10 : decode cX6_placeOf 10 = .ok (.iadd, 1) := by decide +kernel
theorem dX6_placeOf_11 : decode cX6_placeOf 11 = .ok (.invokevirtual 57, 3) := by decide +kernel
theorem dX6_placeOf_14 : decode cX6_placeOf 14 = .ok (.ireturn, 1) := by decide +kernel
set_option maxRecDepth 20000 in
theorem ggX6_lengthOf_X4_intFrom : GoodIn wsX6_lengthOf wsX4_intFrom := goodIn_r _ [6, 7, 8, 9, 10, 5, 11, 12, 16, 17, 18] (by decide +kernel) (by decide +kernel)
set_option maxRecDepth 20000 in
theorem gX6_lengthOf_X4_intFrom : GoodIn wsX6_lengthOf (wsV RX6 57 RX4 yX4_intFrom wsX4_intFrom) := goodIn_app (goodIn_of _ (by decide +kernel)) ggX6_lengthOf_X4_intFrom
theorem dX6_lengthOf_0 : decode cX6_lengthOf 0 = .ok (.aload_n 0, 1) := by decide +kernel
theorem dX6_lengthOf_1 : decode cX6_lengthOf 1 = .ok (.getfield 21, 3) := by decide +kernel
theorem dX6_lengthOf_4 : decode cX6_lengthOf 4 = .ok (.iload_n 1, 1) := by decide +kernel
theorem dX6_lengthOf_5 : decode cX6_lengthOf 5 = .ok (.bipush 64, 2) := by decide +kernel
theorem dX6_lengthOf_7 : decode cX6_lengthOf 7 = .ok (.imul, 1) := by decide +kernel
theorem dX6_lengthOf_8 : decode cX6_lengthOf 8 = .ok (.bipush 52, 2) := by decide +kernel
theorem dX6_lengthOf_10 : decode cX6_lengthOf 10 = .ok (.iadd, 1) := by decide +kernel
theorem dX6_lengthOf_11 : decode cX6_lengthOf 11 = .ok (.invokevirtual 57, 3) := by decide +kernel
theorem dX6_lengthOf_14 : decode cX6_lengthOf 14 = .ok (.ireturn, 1) := by decide +kernel
set_option maxRecDepth 20000 in
theorem ggX6_checkOf_X4_intFrom : GoodIn wsX6_checkOf wsX4_intFrom := goodIn_r _ [6, 7, 8, 9, 10, 5, 11, 12, 16, 17, 18] (by decide +kernel) (by decide +kernel)
set_option maxRecDepth 20000 in
theorem gX6_checkOf_X4_intFrom : GoodIn wsX6_checkOf (wsV RX6 57 RX4 yX4_intFrom wsX4_intFrom) := goodIn_app (goodIn_of _ (by decide +kernel)) ggX6_checkOf_X4_intFrom
theorem dX6_checkOf_0 : decode cX6_checkOf 0 = .ok (.aload_n 0, 1) := by decide +kernel
theorem dX6_checkOf_1 : decode cX6_checkOf 1 = .ok (.getfield 21, 3) := by decide +kernel
theorem dX6_checkOf_4 : decode cX6_checkOf 4 = .ok (.iload_n 1, 1) := by decide +kernel
theorem dX6_checkOf_5 : decode cX6_checkOf 5 = .ok (.bipush 64, 2) := by decide +kernel
theorem dX6_checkOf_7 : decode cX6_checkOf 7 = .ok (.imul, 1) := by decide +kernel
theorem dX6_checkOf_8 : decode cX6_checkOf 8 = .ok (.bipush 56, 2) := by decide +kernel
theorem dX6_checkOf_10 : decode cX6_checkOf 10 = .ok (.iadd, 1) := by decide +kernel
theorem dX6_checkOf_11 : decode cX6_checkOf 11 = .ok (.invokevirtual 57, 3) := by decide +kernel
theorem dX6_checkOf_14 : decode cX6_checkOf 14 = .ok (.ireturn, 1) := by decide +kernel
set_option maxRecDepth 20000 in
theorem ggX6_isWhole_X6_placeOf : GoodIn wsX6_isWhole wsX6_placeOf := goodIn_r _ [6, 7, 8, 9, 10, 11, 12, 13, 14, 15, 16, 17, 18, 32, 33, 34, 35, 36, 37] (by decide +kernel) (by decide +kernel)
set_option maxRecDepth 20000 in
theorem gX6_isWhole_X6_placeOf : GoodIn wsX6_isWhole (wsV RX6 88 RX6 yX6_placeOf wsX6_placeOf) := goodIn_app (goodIn_of _ (by decide +kernel)) ggX6_isWhole_X6_placeOf
set_option maxRecDepth 20000 in
theorem ggX6_isWhole_X6_lengthOf : GoodIn wsX6_isWhole wsX6_lengthOf := goodIn_r _ [22, 7, 8, 9, 10, 11, 12, 13, 14, 15, 16, 17, 18, 32, 33, 34, 35, 36, 37] (by decide +kernel) (by decide +kernel)
set_option maxRecDepth 20000 in
theorem gX6_isWhole_X6_lengthOf : GoodIn wsX6_isWhole (wsV RX6 91 RX6 yX6_lengthOf wsX6_lengthOf) := goodIn_app (goodIn_of _ (by decide +kernel)) ggX6_isWhole_X6_lengthOf
set_option maxRecDepth 20000 in
theorem ggX6_isWhole_X4_check : GoodIn wsX6_isWhole wsX4_check := goodIn_r _ [26, 27, 14, 15, 16, 11, 17, 13, 18, 35, 36, 37] (by decide +kernel) (by decide +kernel)
set_option maxRecDepth 20000 in
theorem gX6_isWhole_X4_check : GoodIn wsX6_isWhole (wsV RX6 53 RX4 yX4_check wsX4_check) := goodIn_app (goodIn_of _ (by decide +kernel)) ggX6_isWhole_X4_check
set_option maxRecDepth 20000 in
theorem ggX6_isWhole_X6_checkOf : GoodIn wsX6_isWhole wsX6_checkOf := goodIn_r _ [31, 7, 8, 9, 10, 11, 12, 13, 14, 15, 16, 17, 18, 32, 33, 34, 35, 36, 37] (by decide +kernel) (by decide +kernel)
set_option maxRecDepth 20000 in
theorem gX6_isWhole_X6_checkOf : GoodIn wsX6_isWhole (wsV RX6 94 RX6 yX6_checkOf wsX6_checkOf) := goodIn_app (goodIn_of _ (by decide +kernel)) ggX6_isWhole_X6_checkOf
theorem dX6_isWhole_0 : decode cX6_isWhole 0 = .ok (.aload_n 0, 1) := by decide +kernel
theorem dX6_isWhole_1 : decode cX6_isWhole 1 = .ok (.iload_n 1, 1) := by decide +kernel
theorem dX6_isWhole_2 : decode cX6_isWhole 2 = .ok (.invokevirtual 88, 3) := by decide +kernel
theorem dX6_isWhole_5 : decode cX6_isWhole 5 = .ok (.istore_n 2, 1) := by decide +kernel
theorem dX6_isWhole_6 : decode cX6_isWhole 6 = .ok (.aload_n 0, 1) := by decide +kernel
theorem dX6_isWhole_7 : decode cX6_isWhole 7 = .ok (.getfield 15, 3) := by decide +kernel
theorem dX6_isWhole_10 : decode cX6_isWhole 10 = .ok (.iload_n 2, 1) := by decide +kernel
theorem dX6_isWhole_11 : decode cX6_isWhole 11 = .ok (.iload_n 2, 1) := by decide +kernel
theorem dX6_isWhole_12 : decode cX6_isWhole 12 = .ok (.aload_n 0, 1) := by decide +kernel
theorem dX6_isWhole_13 : decode cX6_isWhole 13 = .ok (.iload_n 1, 1) := by decide +kernel
theorem dX6_isWhole_14 : decode cX6_isWhole 14 = .ok (.invokevirtual 91, 3) := by decide +kernel
theorem dX6_isWhole_17 : decode cX6_isWhole 17 = .ok (.iadd, 1) := by decide +kernel
theorem dX6_isWhole_18 : decode cX6_isWhole 18 = .ok (.invokevirtual 53, 3) := by decide +kernel
theorem dX6_isWhole_21 : decode cX6_isWhole 21 = .ok (.aload_n 0, 1) := by decide +kernel
theorem dX6_isWhole_22 : decode cX6_isWhole 22 = .ok (.iload_n 1, 1) := by decide +kernel
theorem dX6_isWhole_23 : decode cX6_isWhole 23 = .ok (.invokevirtual 94, 3) := by decide +kernel
theorem dX6_isWhole_26 : decode cX6_isWhole 26 = .ok (.if_icmp .ne 7, 3) := by decide +kernel
theorem dX6_isWhole_29 : decode cX6_isWhole 29 = .ok (.iconst 1, 1) := by decide +kernel
theorem dX6_isWhole_30 : decode cX6_isWhole 30 = .ok (.goto 4, 3) := by decide +kernel
theorem dX6_isWhole_33 : decode cX6_isWhole 33 = .ok (.iconst 0, 1) := by decide +kernel
theorem dX6_isWhole_34 : decode cX6_isWhole 34 = .ok (.ireturn, 1) := by decide +kernel
set_option maxRecDepth 20000 in
theorem ggX7_init_X4_init : GoodIn wsX7_init wsX4_init := goodIn_r _ [11, 12, 2, 3, 13, 14, 15, 16, 17, 18, 19] (by decide +kernel) (by decide +kernel)
set_option maxRecDepth 20000 in
theorem gX7_init_X4_init : GoodIn wsX7_init (wsX4_init) := ggX7_init_X4_init
theorem dX7_init_0 : decode cX7_init 0 = .ok (.aload_n 0, 1) := by decide +kernel
theorem dX7_init_1 : decode cX7_init 1 = .ok (.invokespecial 3, 3) := by decide +kernel
theorem dX7_init_4 : decode cX7_init 4 = .ok (.aload_n 0, 1) := by decide +kernel
theorem dX7_init_5 : decode cX7_init 5 = .ok (.new 9, 3) := by decide +kernel
theorem dX7_init_8 : decode cX7_init 8 = .ok (.dup, 1) := by decide +kernel
theorem dX7_init_9 : decode cX7_init 9 = .ok (.sipush 4096, 3) := by decide +kernel
theorem dX7_init_12 : decode cX7_init 12 = .ok (.invokespecial 11, 3) := by decide +kernel
theorem dX7_init_15 : decode cX7_init 15 = .ok (.putfield 14, 3) := by decide +kernel
theorem dX7_init_18 : decode cX7_init 18 = .ok (.aload_n 0, 1) := by decide +kernel
theorem dX7_init_19 : decode cX7_init 19 = .ok (.iconst 0, 1) := by decide +kernel
theorem dX7_init_20 : decode cX7_init 20 = .ok (.putfield 20, 3) := by decide +kernel
theorem dX7_init_23 : decode cX7_init 23 = .ok (.return_, 1) := by decide +kernel
set_option maxRecDepth 20000 in
theorem ggX7_forget_X4_cutTo : GoodIn wsX7_forget wsX4_cutTo := goodIn_r _ [7, 8, 11, 12, 13] (by decide +kernel) (by decide +kernel)
set_option maxRecDepth 20000 in
theorem gX7_forget_X4_cutTo : GoodIn wsX7_forget (wsV RX7 24 RX4 yX4_cutTo wsX4_cutTo) := goodIn_app (goodIn_of _ (by decide +kernel)) ggX7_forget_X4_cutTo
theorem dX7_forget_0 : decode cX7_forget 0 = .ok (.aload_n 0, 1) := by decide +kernel
theorem dX7_forget_1 : decode cX7_forget 1 = .ok (.getfield 14, 3) := by decide +kernel
theorem dX7_forget_4 : decode cX7_forget 4 = .ok (.iconst 0, 1) := by decide +kernel
theorem dX7_forget_5 : decode cX7_forget 5 = .ok (.invokevirtual 24, 3) := by decide +kernel
theorem dX7_forget_8 : decode cX7_forget 8 = .ok (.aload_n 0, 1) := by decide +kernel
theorem dX7_forget_9 : decode cX7_forget 9 = .ok (.iconst 0, 1) := by decide +kernel
theorem dX7_forget_10 : decode cX7_forget 10 = .ok (.putfield 20, 3) := by decide +kernel
theorem dX7_forget_13 : decode cX7_forget 13 = .ok (.return_, 1) := by decide +kernel
set_option maxRecDepth 20000 in
theorem ggX7_takeBody_X4_count : GoodIn wsX7_takeBody wsX4_count := goodIn_r _ [11, 12, 24, 25, 26] (by decide +kernel) (by decide +kernel)
set_option maxRecDepth 20000 in
theorem gX7_takeBody_X4_count : GoodIn wsX7_takeBody (wsV RX7 27 RX4 yX4_count wsX4_count) := goodIn_app (goodIn_of _ (by decide +kernel)) ggX7_takeBody_X4_count
set_option maxRecDepth 20000 in
theorem ggX7_takeBody_X4_dropFirst : GoodIn wsX7_takeBody wsX4_dropFirst := goodIn_r _ [16, 12, 17, 18, 19, 20, 21, 24, 25, 26] (by decide +kernel) (by decide +kernel)
set_option maxRecDepth 20000 in
theorem gX7_takeBody_X4_dropFirst : GoodIn wsX7_takeBody (wsV RX7 37 RX4 yX4_dropFirst wsX4_dropFirst) := goodIn_app (goodIn_of _ (by decide +kernel)) ggX7_takeBody_X4_dropFirst
theorem dX7_takeBody_0 : decode cX7_takeBody 0 = .ok (.aload_n 0, 1) := by decide +kernel
theorem dX7_takeBody_1 : decode cX7_takeBody 1 = .ok (.getfield 20, 3) := by decide +kernel
theorem dX7_takeBody_4 : decode cX7_takeBody 4 = .ok (.aload_n 0, 1) := by decide +kernel
theorem dX7_takeBody_5 : decode cX7_takeBody 5 = .ok (.getfield 14, 3) := by decide +kernel
theorem dX7_takeBody_8 : decode cX7_takeBody 8 = .ok (.invokevirtual 27, 3) := by decide +kernel
theorem dX7_takeBody_11 : decode cX7_takeBody 11 = .ok (.invokestatic 31, 3) := by decide +kernel
theorem dX7_takeBody_14 : decode cX7_takeBody 14 = .ok (.istore_n 1, 1) := by decide +kernel
theorem dX7_takeBody_15 : decode cX7_takeBody 15 = .ok (.aload_n 0, 1) := by decide +kernel
theorem dX7_takeBody_16 : decode cX7_takeBody 16 = .ok (.getfield 14, 3) := by decide +kernel
theorem dX7_takeBody_19 : decode cX7_takeBody 19 = .ok (.iload_n 1, 1) := by decide +kernel
theorem dX7_takeBody_20 : decode cX7_takeBody 20 = .ok (.invokevirtual 37, 3) := by decide +kernel
theorem dX7_takeBody_23 : decode cX7_takeBody 23 = .ok (.aload_n 0, 1) := by decide +kernel
theorem dX7_takeBody_24 : decode cX7_takeBody 24 = .ok (.dup, 1) := by decide +kernel
theorem dX7_takeBody_25 : decode cX7_takeBody 25 = .ok (.getfield 20, 3) := by decide +kernel
theorem dX7_takeBody_28 : decode cX7_takeBody 28 = .ok (.iload_n 1, 1) := by decide +kernel
theorem dX7_takeBody_29 : decode cX7_takeBody 29 = .ok (.isub, 1) := by decide +kernel
theorem dX7_takeBody_30 : decode cX7_takeBody 30 = .ok (.putfield 20, 3) := by decide +kernel
theorem dX7_takeBody_33 : decode cX7_takeBody 33 = .ok (.return_, 1) := by decide +kernel
set_option maxRecDepth 20000 in
theorem ggX7_takeEmptyLines_X4_count : GoodIn wsX7_takeEmptyLines wsX4_count := goodIn_r _ [6, 7, 23, 24, 25] (by decide +kernel) (by decide +kernel)
set_option maxRecDepth 20000 in
theorem gX7_takeEmptyLines_X4_count : GoodIn wsX7_takeEmptyLines (wsV RX7 27 RX4 yX4_count wsX4_count) := goodIn_app (goodIn_of _ (by decide +kernel)) ggX7_takeEmptyLines_X4_count
set_option maxRecDepth 20000 in
theorem ggX7_takeEmptyLines_X4_get : GoodIn wsX7_takeEmptyLines wsX4_get := goodIn_r _ [11, 7, 12, 23, 24, 25] (by decide +kernel) (by decide +kernel)
set_option maxRecDepth 20000 in
theorem gX7_takeEmptyLines_X4_get : GoodIn wsX7_takeEmptyLines (wsV RX7 40 RX4 yX4_get wsX4_get) := goodIn_app (goodIn_of _ (by decide +kernel)) ggX7_takeEmptyLines_X4_get
set_option maxRecDepth 20000 in
theorem ggX7_takeEmptyLines_X4_dropFirst : GoodIn wsX7_takeEmptyLines wsX4_dropFirst := goodIn_r _ [16, 7, 12, 17, 18, 19, 20, 23, 24, 25] (by decide +kernel) (by decide +kernel)
set_option maxRecDepth 20000 in
theorem gX7_takeEmptyLines_X4_dropFirst : GoodIn wsX7_takeEmptyLines (wsV RX7 37 RX4 yX4_dropFirst wsX4_dropFirst) := goodIn_app (goodIn_of _ (by decide +kernel)) ggX7_takeEmptyLines_X4_dropFirst
theorem dX7_takeEmptyLines_0 : decode cX7_takeEmptyLines 0 = .ok (.iconst 0, 1) := by decide +kernel
theorem dX7_takeEmptyLines_1 : decode cX7_takeEmptyLines 1 = .ok (.istore_n 1, 1) := by decide +kernel
theorem dX7_takeEmptyLines_2 : decode cX7_takeEmptyLines 2 = .ok (.iconst 0, 1) := by decide +kernel
theorem dX7_takeEmptyLines_3 : decode cX7_takeEmptyLines 3 = .ok (.istore_n 2, 1) := by decide +kernel
theorem dX7_takeEmptyLines_4 : decode cX7_takeEmptyLines 4 = .ok (.iload_n 2, 1) := by decide +kernel
theorem dX7_takeEmptyLines_5 : decode cX7_takeEmptyLines 5 = .ok (.aload_n 0, 1) := by decide +kernel
theorem dX7_takeEmptyLines_6 : decode cX7_takeEmptyLines 6 = .ok (.getfield 14, 3) := by decide +kernel
theorem dX7_takeEmptyLines_9 : decode cX7_takeEmptyLines 9 = .ok (.invokevirtual 27, 3) := by decide +kernel
theorem dX7_takeEmptyLines_12 : decode cX7_takeEmptyLines 12 = .ok (.if_icmp .ge 55, 3) := by decide +kernel
theorem dX7_takeEmptyLines_15 : decode cX7_takeEmptyLines 15 = .ok (.aload_n 0, 1) := by decide +kernel
theorem dX7_takeEmptyLines_16 : decode cX7_takeEmptyLines 16 = .ok (.getfield 14, 3) := by decide +kernel
theorem dX7_takeEmptyLines_19 : decode cX7_takeEmptyLines 19 = .ok (.iload_n 2, 1) := by decide +kernel
theorem dX7_takeEmptyLines_20 : decode cX7_takeEmptyLines 20 = .ok (.invokevirtual 40, 3) := by decide +kernel
theorem dX7_takeEmptyLines_23 : decode cX7_takeEmptyLines 23 = .ok (.istore_n 3, 1) := by decide +kernel
theorem dX7_takeEmptyLines_24 : decode cX7_takeEmptyLines 24 = .ok (.iload_n 3, 1) := by decide +kernel
theorem dX7_takeEmptyLines_25 : decode cX7_takeEmptyLines 25 = .ok (.bipush 10, 2) := by decide +kernel
theorem dX7_takeEmptyLines_27 : decode cX7_takeEmptyLines 27 = .ok (.if_icmp .ne 10, 3) := by decide +kernel
theorem dX7_takeEmptyLines_30 : decode cX7_takeEmptyLines 30 = .ok (.iload_n 2, 1) := by decide +kernel
theorem dX7_takeEmptyLines_31 : decode cX7_takeEmptyLines 31 = .ok (.iconst 1, 1) := by decide +kernel
theorem dX7_takeEmptyLines_32 : decode cX7_takeEmptyLines 32 = .ok (.iadd, 1) := by decide +kernel
theorem dX7_takeEmptyLines_33 : decode cX7_takeEmptyLines 33 = .ok (.istore_n 1, 1) := by decide +kernel
theorem dX7_takeEmptyLines_34 : decode cX7_takeEmptyLines 34 = .ok (.goto 27, 3) := by decide +kernel
theorem dX7_takeEmptyLines_37 : decode cX7_takeEmptyLines 37 = .ok (.iload_n 3, 1) := by decide +kernel
theorem dX7_takeEmptyLines_38 : decode cX7_takeEmptyLines 38 = .ok (.bipush 13, 2) := by decide +kernel
theorem dX7_takeEmptyLines_40 : decode cX7_takeEmptyLines 40 = .ok (.if_icmp .ne 27, 3) := by decide +kernel
theorem dX7_takeEmptyLines_43 : decode cX7_takeEmptyLines 43 = .ok (.aload_n 0, 1) := by decide +kernel
theorem dX7_takeEmptyLines_44 : decode cX7_takeEmptyLines 44 = .ok (.getfield 14, 3) := by decide +kernel
theorem dX7_takeEmptyLines_47 : decode cX7_takeEmptyLines 47 = .ok (.iload_n 2, 1) := by decide +kernel
theorem dX7_takeEmptyLines_48 : decode cX7_takeEmptyLines 48 = .ok (.iconst 1, 1) := by decide +kernel
theorem dX7_takeEmptyLines_49 : decode cX7_takeEmptyLines 49 = .ok (.iadd, 1) := by decide +kernel
theorem dX7_takeEmptyLines_50 : decode cX7_takeEmptyLines 50 = .ok (.invokevirtual 40, 3) := by decide +kernel
theorem dX7_takeEmptyLines_53 : decode cX7_takeEmptyLines 53 = .ok (.bipush 10, 2) := by decide +kernel
theorem dX7_takeEmptyLines_55 : decode cX7_takeEmptyLines 55 = .ok (.if_icmp .eq 6, 3) := by decide +kernel
theorem dX7_takeEmptyLines_58 : decode cX7_takeEmptyLines 58 = .ok (.goto 9, 3) := by decide +kernel
theorem dX7_takeEmptyLines_61 : decode cX7_takeEmptyLines 61 = .ok (.iinc 2 1, 3) := by decide +kernel
theorem dX7_takeEmptyLines_64 : decode cX7_takeEmptyLines 64 = .ok (.goto (-60), 3) := by decide +kernel
theorem dX7_takeEmptyLines_67 : decode cX7_takeEmptyLines 67 = .ok (.aload_n 0, 1) := by decide +kernel
theorem dX7_takeEmptyLines_68 : decode cX7_takeEmptyLines 68 = .ok (.getfield 14, 3) := by decide +kernel
theorem dX7_takeEmptyLines_71 : decode cX7_takeEmptyLines 71 = .ok (.iload_n 1, 1) := by decide +kernel
theorem dX7_takeEmptyLines_72 : decode cX7_takeEmptyLines 72 = .ok (.invokevirtual 37, 3) := by decide +kernel
theorem dX7_takeEmptyLines_75 : decode cX7_takeEmptyLines 75 = .ok (.return_, 1) := by decide +kernel
set_option maxRecDepth 20000 in
theorem ggX7_headSize_X4_count : GoodIn wsX7_headSize wsX4_count := goodIn_r _ [6, 7, 20, 21, 22] (by decide +kernel) (by decide +kernel)
set_option maxRecDepth 20000 in
theorem gX7_headSize_X4_count : GoodIn wsX7_headSize (wsV RX7 27 RX4 yX4_count wsX4_count) := goodIn_app (goodIn_of _ (by decide +kernel)) ggX7_headSize_X4_count
set_option maxRecDepth 20000 in
theorem ggX7_headSize_X4_get : GoodIn wsX7_headSize wsX4_get := goodIn_r _ [11, 7, 12, 20, 21, 22] (by decide +kernel) (by decide +kernel)
set_option maxRecDepth 20000 in
theorem gX7_headSize_X4_get : GoodIn wsX7_headSize (wsV RX7 40 RX4 yX4_get wsX4_get) := goodIn_app (goodIn_of _ (by decide +kernel)) ggX7_headSize_X4_get
set_option maxRecDepth 20000 in
theorem ggX7_headSize_X4_lineEnd : GoodIn wsX7_headSize wsX4_lineEnd := goodIn_r _ [16, 17, 9, 10, 5, 11, 7, 12, 20, 21, 22] (by decide +kernel) (by decide +kernel)
set_option maxRecDepth 20000 in
theorem gX7_headSize_X4_lineEnd : GoodIn wsX7_headSize (wsV RX7 44 RX4 yX4_lineEnd wsX4_lineEnd) := goodIn_app (goodIn_of _ (by decide +kernel)) ggX7_headSize_X4_lineEnd
theorem dX7_headSize_0 : decode cX7_headSize 0 = .ok (.iconst 0, 1) := by decide +kernel
theorem dX7_headSize_1 : decode cX7_headSize 1 = .ok (.istore_n 1, 1) := by decide +kernel
theorem dX7_headSize_2 : decode cX7_headSize 2 = .ok (.iconst 0, 1) := by decide +kernel
theorem dX7_headSize_3 : decode cX7_headSize 3 = .ok (.istore_n 2, 1) := by decide +kernel
theorem dX7_headSize_4 : decode cX7_headSize 4 = .ok (.iload_n 2, 1) := by decide +kernel
theorem dX7_headSize_5 : decode cX7_headSize 5 = .ok (.aload_n 0, 1) := by decide +kernel
theorem dX7_headSize_6 : decode cX7_headSize 6 = .ok (.getfield 14, 3) := by decide +kernel
theorem dX7_headSize_9 : decode cX7_headSize 9 = .ok (.invokevirtual 27, 3) := by decide +kernel
theorem dX7_headSize_12 : decode cX7_headSize 12 = .ok (.if_icmp .ge 43, 3) := by decide +kernel
theorem dX7_headSize_15 : decode cX7_headSize 15 = .ok (.aload_n 0, 1) := by decide +kernel
theorem dX7_headSize_16 : decode cX7_headSize 16 = .ok (.getfield 14, 3) := by decide +kernel
theorem dX7_headSize_19 : decode cX7_headSize 19 = .ok (.iload_n 2, 1) := by decide +kernel
theorem dX7_headSize_20 : decode cX7_headSize 20 = .ok (.invokevirtual 40, 3) := by decide +kernel
theorem dX7_headSize_23 : decode cX7_headSize 23 = .ok (.bipush 10, 2) := by decide +kernel
theorem dX7_headSize_25 : decode cX7_headSize 25 = .ok (.if_icmp .ne 24, 3) := by decide +kernel
theorem dX7_headSize_28 : decode cX7_headSize 28 = .ok (.aload_n 0, 1) := by decide +kernel
theorem dX7_headSize_29 : decode cX7_headSize 29 = .ok (.getfield 14, 3) := by decide +kernel
theorem dX7_headSize_32 : decode cX7_headSize 32 = .ok (.iload_n 1, 1) := by decide +kernel
theorem dX7_headSize_33 : decode cX7_headSize 33 = .ok (.iload_n 2, 1) := by decide +kernel
theorem dX7_headSize_34 : decode cX7_headSize 34 = .ok (.invokevirtual 44, 3) := by decide +kernel
theorem dX7_headSize_37 : decode cX7_headSize 37 = .ok (.iload_n 1, 1) := by decide +kernel
theorem dX7_headSize_38 : decode cX7_headSize 38 = .ok (.if_icmp .ne 7, 3) := by decide +kernel
theorem dX7_headSize_41 : decode cX7_headSize 41 = .ok (.iload_n 2, 1) := by decide +kernel
theorem dX7_headSize_42 : decode cX7_headSize 42 = .ok (.iconst 1, 1) := by decide +kernel
theorem dX7_headSize_43 : decode cX7_headSize 43 = .ok (.iadd, 1) := by decide +kernel
theorem dX7_headSize_44 : decode cX7_headSize 44 = .ok (.ireturn, 1) := by decide +kernel
theorem dX7_headSize_45 : decode cX7_headSize 45 = .ok (.iload_n 2, 1) := by decide +kernel
theorem dX7_headSize_46 : decode cX7_headSize 46 = .ok (.iconst 1, 1) := by decide +kernel
theorem dX7_headSize_47 : decode cX7_headSize 47 = .ok (.iadd, 1) := by decide +kernel
theorem dX7_headSize_48 : decode cX7_headSize 48 = .ok (.istore_n 1, 1) := by decide +kernel
theorem dX7_headSize_49 : decode cX7_headSize 49 = .ok (.iinc 2 1, 3) := by decide +kernel
theorem dX7_headSize_52 : decode cX7_headSize 52 = .ok (.goto (-48), 3) := by decide +kernel
theorem dX7_headSize_55 : decode cX7_headSize 55 = .ok (.iconst 0, 1) := by decide +kernel
theorem dX7_headSize_56 : decode cX7_headSize 56 = .ok (.ireturn, 1) := by decide +kernel
set_option maxRecDepth 20000 in
theorem ggX8_init_X4_init : GoodIn wsX8_init wsX4_init := goodIn_r _ [32, 33, 2, 3, 34, 35, 36, 37, 88, 89, 90] (by decide +kernel) (by decide +kernel)
set_option maxRecDepth 20000 in
theorem gX8_init_X4_init : GoodIn wsX8_init (wsX4_init) := ggX8_init_X4_init
set_option maxRecDepth 20000 in
theorem ggX8_init_X6_init : GoodIn wsX8_init wsX6_init := goodIn_r _ [40, 41, 2, 3, 42, 5, 6, 43, 44, 45, 46, 47, 31, 32, 33, 34, 35, 36, 37, 88, 89, 90, 98, 99, 100] (by decide +kernel) (by decide +kernel)
set_option maxRecDepth 20000 in
theorem gX8_init_X6_init : GoodIn wsX8_init (wsX6_init) := ggX8_init_X6_init
set_option maxRecDepth 20000 in
theorem ggX8_init_X7_init : GoodIn wsX8_init wsX7_init := goodIn_r _ [50, 51, 2, 3, 52, 5, 6, 53, 54, 55, 31, 32, 33, 34, 35, 36, 37, 88, 89, 90, 101, 102] (by decide +kernel) (by decide +kernel)
set_option maxRecDepth 20000 in
theorem gX8_init_X7_init : GoodIn wsX8_init (wsX7_init) := ggX8_init_X7_init
set_option maxRecDepth 20000 in
theorem ggX8_init_X2_init : GoodIn wsX8_init wsX2_init := goodIn_r _ [58, 59, 2, 3, 60, 103, 104, 105, 106, 107, 108, 109, 110, 111, 112, 113, 114, 115, 116] (by decide +kernel) (by decide +kernel)
set_option maxRecDepth 20000 in
theorem gX8_init_X2_init : GoodIn wsX8_init (wsX2_init) := ggX8_init_X2_init
set_option maxRecDepth 20000 in
theorem ggX8_init_X3_init : GoodIn wsX8_init wsX3_init := goodIn_r _ [63, 64, 2, 3, 65, 5, 6, 66, 67, 68, 69, 70, 71, 72, 73, 74, 75, 76, 77, 78, 79, 31, 32, 33, 34, 35, 36, 37, 88, 89, 90, 117] (by decide +kernel) (by decide +kernel)
set_option maxRecDepth 20000 in
theorem gX8_init_X3_init : GoodIn wsX8_init (wsX3_init) := ggX8_init_X3_init
set_option maxRecDepth 20000 in
theorem ggX8_init_X0_init : GoodIn wsX8_init wsX0_init := goodIn_r _ [82, 83, 2, 3, 84, 5, 6, 85, 86, 87, 31, 32, 33, 34, 35, 36, 37, 88, 89, 90, 118] (by decide +kernel) (by decide +kernel)
set_option maxRecDepth 20000 in
theorem gX8_init_X0_init : GoodIn wsX8_init (wsX0_init) := ggX8_init_X0_init
theorem dX8_init_0 : decode cX8_init 0 = .ok (.aload_n 0, 1) := by decide +kernel
theorem dX8_init_1 : decode cX8_init 1 = .ok (.invokespecial 1, 3) := by decide +kernel
theorem dX8_init_4 : decode cX8_init 4 = .ok (.aload_n 0, 1) := by decide +kernel
theorem dX8_init_5 : decode cX8_init 5 = .ok (.new 7, 3) := by decide +kernel
theorem dX8_init_8 : decode cX8_init 8 = .ok (.dup, 1) := by decide +kernel
theorem dX8_init_9 : decode cX8_init 9 = .ok (.ldc 11, 2) := by decide +kernel
theorem dX8_init_11 : decode cX8_init 11 = .ok (.invokespecial 12, 3) := by decide +kernel
theorem dX8_init_14 : decode cX8_init 14 = .ok (.putfield 15, 3) := by decide +kernel
theorem dX8_init_17 : decode cX8_init 17 = .ok (.aload_n 0, 1) := by decide +kernel
theorem dX8_init_18 : decode cX8_init 18 = .ok (.new 19, 3) := by decide +kernel
theorem dX8_init_21 : decode cX8_init 21 = .ok (.dup, 1) := by decide +kernel
theorem dX8_init_22 : decode cX8_init 22 = .ok (.invokespecial 21, 3) := by decide +kernel
theorem dX8_init_25 : decode cX8_init 25 = .ok (.putfield 22, 3) := by decide +kernel
theorem dX8_init_28 : decode cX8_init 28 = .ok (.aload_n 0, 1) := by decide +kernel
theorem dX8_init_29 : decode cX8_init 29 = .ok (.new 26, 3) := by decide +kernel
theorem dX8_init_32 : decode cX8_init 32 = .ok (.dup, 1) := by decide +kernel
theorem dX8_init_33 : decode cX8_init 33 = .ok (.invokespecial 28, 3) := by decide +kernel
theorem dX8_init_36 : decode cX8_init 36 = .ok (.putfield 29, 3) := by decide +kernel
theorem dX8_init_39 : decode cX8_init 39 = .ok (.aload_n 0, 1) := by decide +kernel
theorem dX8_init_40 : decode cX8_init 40 = .ok (.new 33, 3) := by decide +kernel
theorem dX8_init_43 : decode cX8_init 43 = .ok (.dup, 1) := by decide +kernel
theorem dX8_init_44 : decode cX8_init 44 = .ok (.invokespecial 35, 3) := by decide +kernel
theorem dX8_init_47 : decode cX8_init 47 = .ok (.putfield 36, 3) := by decide +kernel
theorem dX8_init_50 : decode cX8_init 50 = .ok (.aload_n 0, 1) := by decide +kernel
theorem dX8_init_51 : decode cX8_init 51 = .ok (.new 40, 3) := by decide +kernel
theorem dX8_init_54 : decode cX8_init 54 = .ok (.dup, 1) := by decide +kernel
theorem dX8_init_55 : decode cX8_init 55 = .ok (.invokespecial 42, 3) := by decide +kernel
theorem dX8_init_58 : decode cX8_init 58 = .ok (.putfield 43, 3) := by decide +kernel
theorem dX8_init_61 : decode cX8_init 61 = .ok (.aload_n 0, 1) := by decide +kernel
theorem dX8_init_62 : decode cX8_init 62 = .ok (.new 47, 3) := by decide +kernel
theorem dX8_init_65 : decode cX8_init 65 = .ok (.dup, 1) := by decide +kernel
theorem dX8_init_66 : decode cX8_init 66 = .ok (.invokespecial 49, 3) := by decide +kernel
theorem dX8_init_69 : decode cX8_init 69 = .ok (.putfield 50, 3) := by decide +kernel
theorem dX8_init_72 : decode cX8_init 72 = .ok (.aload_n 0, 1) := by decide +kernel
theorem dX8_init_73 : decode cX8_init 73 = .ok (.iconst (-1), 1) := by decide +kernel
theorem dX8_init_74 : decode cX8_init 74 = .ok (.putfield 54, 3) := by decide +kernel
theorem dX8_init_77 : decode cX8_init 77 = .ok (.return_, 1) := by decide +kernel
set_option maxRecDepth 20000 in
theorem ggX8_feed_X4_count : GoodIn wsX8_feed wsX4_count := goodIn_r _ [7, 8, 42, 43, 44] (by decide +kernel) (by decide +kernel)
set_option maxRecDepth 20000 in
theorem gX8_feed_X4_count : GoodIn wsX8_feed (wsV RX8 58 RX4 yX4_count wsX4_count) := goodIn_app (goodIn_of _ (by decide +kernel)) ggX8_feed_X4_count
set_option maxRecDepth 20000 in
theorem ggX8_feed_X4_addInt : GoodIn wsX8_feed wsX4_addInt := goodIn_r _ [12, 13, 14, 15, 6, 16, 17, 8, 18, 19, 20, 21, 22, 23, 24, 25, 26, 27, 28, 29, 30, 31, 32, 33, 34, 42, 43, 44] (by decide +kernel) (by decide +kernel)
set_option maxRecDepth 20000 in
theorem gX8_feed_X4_addInt : GoodIn wsX8_feed (wsV RX8 63 RX4 yX4_addInt wsX4_addInt) := goodIn_app (goodIn_of _ (by decide +kernel)) ggX8_feed_X4_addInt
theorem dX8_feed_0 : decode cX8_feed 0 = .ok (.aload_n 0, 1) := by decide +kernel
theorem dX8_feed_1 : decode cX8_feed 1 = .ok (.getfield 15, 3) := by decide +kernel
theorem dX8_feed_4 : decode cX8_feed 4 = .ok (.invokevirtual 58, 3) := by decide +kernel
theorem dX8_feed_7 : decode cX8_feed 7 = .ok (.ldc 62, 2) := by decide +kernel
theorem dX8_feed_9 : decode cX8_feed 9 = .ok (.if_icmp .le 5, 3) := by decide +kernel
theorem dX8_feed_12 : decode cX8_feed 12 = .ok (.iconst (-1), 1) := by decide +kernel
theorem dX8_feed_13 : decode cX8_feed 13 = .ok (.ireturn, 1) := by decide +kernel
theorem dX8_feed_14 : decode cX8_feed 14 = .ok (.aload_n 0, 1) := by decide +kernel
theorem dX8_feed_15 : decode cX8_feed 15 = .ok (.getfield 15, 3) := by decide +kernel
theorem dX8_feed_18 : decode cX8_feed 18 = .ok (.iload_n 1, 1) := by decide +kernel
theorem dX8_feed_19 : decode cX8_feed 19 = .ok (.invokevirtual 63, 3) := by decide +kernel
theorem dX8_feed_22 : decode cX8_feed 22 = .ok (.aload_n 0, 1) := by decide +kernel
theorem dX8_feed_23 : decode cX8_feed 23 = .ok (.getfield 15, 3) := by decide +kernel
theorem dX8_feed_26 : decode cX8_feed 26 = .ok (.iload_n 2, 1) := by decide +kernel
theorem dX8_feed_27 : decode cX8_feed 27 = .ok (.invokevirtual 63, 3) := by decide +kernel
theorem dX8_feed_30 : decode cX8_feed 30 = .ok (.aload_n 0, 1) := by decide +kernel
theorem dX8_feed_31 : decode cX8_feed 31 = .ok (.getfield 15, 3) := by decide +kernel
theorem dX8_feed_34 : decode cX8_feed 34 = .ok (.iload_n 3, 1) := by decide +kernel
theorem dX8_feed_35 : decode cX8_feed 35 = .ok (.invokevirtual 63, 3) := by decide +kernel
theorem dX8_feed_38 : decode cX8_feed 38 = .ok (.aload_n 0, 1) := by decide +kernel
theorem dX8_feed_39 : decode cX8_feed 39 = .ok (.getfield 15, 3) := by decide +kernel
theorem dX8_feed_42 : decode cX8_feed 42 = .ok (.iload 4, 2) := by decide +kernel
theorem dX8_feed_44 : decode cX8_feed 44 = .ok (.invokevirtual 63, 3) := by decide +kernel
theorem dX8_feed_47 : decode cX8_feed 47 = .ok (.aload_n 0, 1) := by decide +kernel
theorem dX8_feed_48 : decode cX8_feed 48 = .ok (.getfield 15, 3) := by decide +kernel
theorem dX8_feed_51 : decode cX8_feed 51 = .ok (.iload 5, 2) := by decide +kernel
theorem dX8_feed_53 : decode cX8_feed 53 = .ok (.invokevirtual 63, 3) := by decide +kernel
theorem dX8_feed_56 : decode cX8_feed 56 = .ok (.aload_n 0, 1) := by decide +kernel
theorem dX8_feed_57 : decode cX8_feed 57 = .ok (.getfield 15, 3) := by decide +kernel
theorem dX8_feed_60 : decode cX8_feed 60 = .ok (.invokevirtual 58, 3) := by decide +kernel
theorem dX8_feed_63 : decode cX8_feed 63 = .ok (.ireturn, 1) := by decide +kernel
set_option maxRecDepth 20000 in
theorem ggX8_end_X4_count : GoodIn wsX8_end wsX4_count := goodIn_r _ [6, 7, 19, 20, 21] (by decide +kernel) (by decide +kernel)
set_option maxRecDepth 20000 in
theorem gX8_end_X4_count : GoodIn wsX8_end (wsV RX8 58 RX4 yX4_count wsX4_count) := goodIn_app (goodIn_of _ (by decide +kernel)) ggX8_end_X4_count
set_option maxRecDepth 20000 in
theorem ggX8_end_X4_cutTo : GoodIn wsX8_end wsX4_cutTo := goodIn_r _ [11, 7, 19, 20, 21] (by decide +kernel) (by decide +kernel)
set_option maxRecDepth 20000 in
theorem gX8_end_X4_cutTo : GoodIn wsX8_end (wsV RX8 66 RX4 yX4_cutTo wsX4_cutTo) := goodIn_app (goodIn_of _ (by decide +kernel)) ggX8_end_X4_cutTo
theorem dX8_end_0 : decode cX8_end 0 = .ok (.iload_n 1, 1) := by decide +kernel
theorem dX8_end_1 : decode cX8_end 1 = .ok (.ifCond .lt 14, 3) := by decide +kernel
theorem dX8_end_4 : decode cX8_end 4 = .ok (.iload_n 1, 1) := by decide +kernel
theorem dX8_end_5 : decode cX8_end 5 = .ok (.aload_n 0, 1) := by decide +kernel
theorem dX8_end_6 : decode cX8_end 6 = .ok (.getfield 15, 3) := by decide +kernel
theorem dX8_end_9 : decode cX8_end 9 = .ok (.invokevirtual 58, 3) := by decide +kernel
theorem dX8_end_12 : decode cX8_end 12 = .ok (.if_icmp .le 5, 3) := by decide +kernel
theorem dX8_end_15 : decode cX8_end 15 = .ok (.iconst (-1), 1) := by decide +kernel
theorem dX8_end_16 : decode cX8_end 16 = .ok (.ireturn, 1) := by decide +kernel
theorem dX8_end_17 : decode cX8_end 17 = .ok (.aload_n 0, 1) := by decide +kernel
theorem dX8_end_18 : decode cX8_end 18 = .ok (.getfield 15, 3) := by decide +kernel
theorem dX8_end_21 : decode cX8_end 21 = .ok (.iload_n 1, 1) := by decide +kernel
theorem dX8_end_22 : decode cX8_end 22 = .ok (.invokevirtual 66, 3) := by decide +kernel
theorem dX8_end_25 : decode cX8_end 25 = .ok (.iload_n 1, 1) := by decide +kernel
theorem dX8_end_26 : decode cX8_end 26 = .ok (.ireturn, 1) := by decide +kernel
set_option maxRecDepth 20000 in
theorem ggX8_install_X4_count : GoodIn wsX8_install wsX4_count := goodIn_r _ [10, 11, 73, 74, 75] (by decide +kernel) (by decide +kernel)
set_option maxRecDepth 20000 in
theorem gX8_install_X4_count : GoodIn wsX8_install (wsV RX8 58 RX4 yX4_count wsX4_count) := goodIn_app (goodIn_of _ (by decide +kernel)) ggX8_install_X4_count
set_option maxRecDepth 20000 in
theorem ggX8_install_X6_replaceImage : GoodIn wsX8_install wsX6_replaceImage := goodIn_r _ [16, 17, 18, 19, 20, 21, 22, 9, 23, 11, 24, 7, 8, 10, 25, 26, 27, 28, 29, 30, 31, 32, 33, 34, 35, 36, 37, 38, 39, 40, 41, 42, 43, 44, 45, 46, 70, 71, 72, 73, 74, 75] (by decide +kernel) (by decide +kernel)
set_option maxRecDepth 20000 in
theorem gX8_install_X6_replaceImage : GoodIn wsX8_install (wsV RX8 70 RX6 yX6_replaceImage wsX6_replaceImage) := goodIn_app (goodIn_of _ (by decide +kernel)) ggX8_install_X6_replaceImage
set_option maxRecDepth 20000 in
theorem ggX8_install_X4_cutTo : GoodIn wsX8_install wsX4_cutTo := goodIn_r _ [23, 11, 73, 74, 75] (by decide +kernel) (by decide +kernel)
set_option maxRecDepth 20000 in
theorem gX8_install_X4_cutTo : GoodIn wsX8_install (wsV RX8 66 RX4 yX4_cutTo wsX4_cutTo) := goodIn_app (goodIn_of _ (by decide +kernel)) ggX8_install_X4_cutTo
set_option maxRecDepth 20000 in
theorem ggX8_install_X7_forget : GoodIn wsX8_install wsX7_forget := goodIn_r _ [52, 53, 54, 55, 21, 22, 9, 23, 11, 76, 77, 73, 74, 75] (by decide +kernel) (by decide +kernel)
set_option maxRecDepth 20000 in
theorem gX8_install_X7_forget : GoodIn wsX8_install (wsV RX8 74 RX7 yX7_forget wsX7_forget) := goodIn_app (goodIn_of _ (by decide +kernel)) ggX8_install_X7_forget
set_option maxRecDepth 20000 in
theorem ggX8_install_X0_forget : GoodIn wsX8_install wsX0_forget := goodIn_r _ [60, 61, 62, 21, 22, 9, 23, 11, 78, 73, 74, 75] (by decide +kernel) (by decide +kernel)
set_option maxRecDepth 20000 in
theorem gX8_install_X0_forget : GoodIn wsX8_install (wsV RX8 77 RX0 yX0_forget wsX0_forget) := goodIn_app (goodIn_of _ (by decide +kernel)) ggX8_install_X0_forget
theorem dX8_install_0 : decode cX8_install 0 = .ok (.aload_n 0, 1) := by decide +kernel
theorem dX8_install_1 : decode cX8_install 1 = .ok (.getfield 15, 3) := by decide +kernel
theorem dX8_install_4 : decode cX8_install 4 = .ok (.invokevirtual 58, 3) := by decide +kernel
theorem dX8_install_7 : decode cX8_install 7 = .ok (.ldc 69, 2) := by decide +kernel
theorem dX8_install_9 : decode cX8_install 9 = .ok (.if_icmp .le 5, 3) := by decide +kernel
theorem dX8_install_12 : decode cX8_install 12 = .ok (.iconst (-1), 1) := by decide +kernel
theorem dX8_install_13 : decode cX8_install 13 = .ok (.ireturn, 1) := by decide +kernel
theorem dX8_install_14 : decode cX8_install 14 = .ok (.aload_n 0, 1) := by decide +kernel
theorem dX8_install_15 : decode cX8_install 15 = .ok (.getfield 22, 3) := by decide +kernel
theorem dX8_install_18 : decode cX8_install 18 = .ok (.aload_n 0, 1) := by decide +kernel
theorem dX8_install_19 : decode cX8_install 19 = .ok (.getfield 15, 3) := by decide +kernel
theorem dX8_install_22 : decode cX8_install 22 = .ok (.invokevirtual 70, 3) := by decide +kernel
theorem dX8_install_25 : decode cX8_install 25 = .ok (.aload_n 0, 1) := by decide +kernel
theorem dX8_install_26 : decode cX8_install 26 = .ok (.getfield 15, 3) := by decide +kernel
theorem dX8_install_29 : decode cX8_install 29 = .ok (.iconst 0, 1) := by decide +kernel
theorem dX8_install_30 : decode cX8_install 30 = .ok (.invokevirtual 66, 3) := by decide +kernel
theorem dX8_install_33 : decode cX8_install 33 = .ok (.aload_n 0, 1) := by decide +kernel
theorem dX8_install_34 : decode cX8_install 34 = .ok (.getfield 29, 3) := by decide +kernel
theorem dX8_install_37 : decode cX8_install 37 = .ok (.invokevirtual 74, 3) := by decide +kernel
theorem dX8_install_40 : decode cX8_install 40 = .ok (.aload_n 0, 1) := by decide +kernel
theorem dX8_install_41 : decode cX8_install 41 = .ok (.getfield 50, 3) := by decide +kernel
theorem dX8_install_44 : decode cX8_install 44 = .ok (.invokevirtual 77, 3) := by decide +kernel
theorem dX8_install_47 : decode cX8_install 47 = .ok (.aload_n 0, 1) := by decide +kernel
theorem dX8_install_48 : decode cX8_install 48 = .ok (.getfield 22, 3) := by decide +kernel
theorem dX8_install_51 : decode cX8_install 51 = .ok (.getfield 78, 3) := by decide +kernel
theorem dX8_install_54 : decode cX8_install 54 = .ok (.invokevirtual 58, 3) := by decide +kernel
theorem dX8_install_57 : decode cX8_install 57 = .ok (.ireturn, 1) := by decide +kernel
set_option maxRecDepth 20000 in
theorem ggX8_open_X6_openImage : GoodIn wsX8_open wsX6_openImage := goodIn_r _ [6, 7, 8, 9, 10, 11, 12, 13, 14, 15, 16, 17, 18, 19, 5, 20, 21, 22, 23, 24, 25, 26, 27, 28, 29, 30, 31, 32, 33, 34, 35, 36, 37, 38, 39, 40, 41, 42, 43, 44, 45, 46, 47, 48, 49, 50, 51, 52, 53, 54, 55, 56, 57, 58, 59, 60, 61, 62, 63, 64, 65, 66, 67, 68, 69, 70, 71, 72, 73, 74, 75, 76, 77, 78, 79, 80, 81, 82, 83, 84, 85, 86, 87, 88, 89, 90, 91, 92, 93, 94, 95, 96, 97, 98, 99, 100, 101, 102, 103, 104, 105, 106, 107, 108, 109, 110, 111, 112, 113, 114, 115, 116, 117, 118, 119, 120, 121, 122, 123, 124, 125, 126, 127, 128, 129, 130, 131, 132, 133, 134, 135, 136, 137, 145, 146, 147, 148, 149, 150] (by decide +kernel) (by decide +kernel)
set_option maxRecDepth 20000 in
theorem gX8_open_X6_openImage : GoodIn wsX8_open (wsV RX8 81 RX6 yX6_openImage wsX6_openImage) := goodIn_app (goodIn_of _ (by decide +kernel)) ggX8_open_X6_openImage
theorem dX8_open_0 : decode cX8_open 0 = .ok (.aload_n 0, 1) := by decide +kernel
theorem dX8_open_1 : decode cX8_open 1 = .ok (.getfield 22, 3) := by decide +kernel
theorem dX8_open_4 : decode cX8_open 4 = .ok (.invokevirtual 81, 3) := by decide +kernel
theorem dX8_open_7 : decode cX8_open 7 = .ok (.ireturn, 1) := by decide +kernel
set_option maxRecDepth 20000 in
theorem ggX8_come_X4_count : GoodIn wsX8_come wsX4_count := goodIn_r _ [8, 9, 48, 49, 50] (by decide +kernel) (by decide +kernel)
set_option maxRecDepth 20000 in
theorem gX8_come_X4_count : GoodIn wsX8_come (wsV RX8 58 RX4 yX4_count wsX4_count) := goodIn_app (goodIn_of _ (by decide +kernel)) ggX8_come_X4_count
set_option maxRecDepth 20000 in
theorem ggX8_come_X4_addRange : GoodIn wsX8_come wsX4_addRange := goodIn_r _ [13, 9, 14, 15, 16, 17, 18, 19, 20, 21, 7, 22, 23, 24, 25, 26, 27, 28, 29, 30, 31, 48, 49, 50] (by decide +kernel) (by decide +kernel)
set_option maxRecDepth 20000 in
theorem gX8_come_X4_addRange : GoodIn wsX8_come (wsV RX8 91 RX4 yX4_addRange wsX4_addRange) := goodIn_app (goodIn_of _ (by decide +kernel)) ggX8_come_X4_addRange
set_option maxRecDepth 20000 in
theorem ggX8_come_X4_cutTo : GoodIn wsX8_come wsX4_cutTo := goodIn_r _ [35, 9, 48, 49, 50] (by decide +kernel) (by decide +kernel)
set_option maxRecDepth 20000 in
theorem gX8_come_X4_cutTo : GoodIn wsX8_come (wsV RX8 66 RX4 yX4_cutTo wsX4_cutTo) := goodIn_app (goodIn_of _ (by decide +kernel)) ggX8_come_X4_cutTo
theorem dX8_come_0 : decode cX8_come 0 = .ok (.aload_n 0, 1) := by decide +kernel
theorem dX8_come_1 : decode cX8_come 1 = .ok (.getfield 22, 3) := by decide +kernel
theorem dX8_come_4 : decode cX8_come 4 = .ok (.getfield 84, 3) := by decide +kernel
theorem dX8_come_7 : decode cX8_come 7 = .ok (.ifCond .eq 27, 3) := by decide +kernel
theorem dX8_come_10 : decode cX8_come 10 = .ok (.aload_n 0, 1) := by decide +kernel
theorem dX8_come_11 : decode cX8_come 11 = .ok (.getfield 15, 3) := by decide +kernel
theorem dX8_come_14 : decode cX8_come 14 = .ok (.invokevirtual 58, 3) := by decide +kernel
theorem dX8_come_17 : decode cX8_come 17 = .ok (.sipush 4096, 3) := by decide +kernel
theorem dX8_come_20 : decode cX8_come 20 = .ok (.aload_n 0, 1) := by decide +kernel
theorem dX8_come_21 : decode cX8_come 21 = .ok (.getfield 29, 3) := by decide +kernel
theorem dX8_come_24 : decode cX8_come 24 = .ok (.getfield 88, 3) := by decide +kernel
theorem dX8_come_27 : decode cX8_come 27 = .ok (.invokevirtual 58, 3) := by decide +kernel
theorem dX8_come_30 : decode cX8_come 30 = .ok (.isub, 1) := by decide +kernel
theorem dX8_come_31 : decode cX8_come 31 = .ok (.if_icmp .le 5, 3) := by decide +kernel
theorem dX8_come_34 : decode cX8_come 34 = .ok (.iconst (-1), 1) := by decide +kernel
theorem dX8_come_35 : decode cX8_come 35 = .ok (.ireturn, 1) := by decide +kernel
theorem dX8_come_36 : decode cX8_come 36 = .ok (.aload_n 0, 1) := by decide +kernel
theorem dX8_come_37 : decode cX8_come 37 = .ok (.getfield 29, 3) := by decide +kernel
theorem dX8_come_40 : decode cX8_come 40 = .ok (.getfield 88, 3) := by decide +kernel
theorem dX8_come_43 : decode cX8_come 43 = .ok (.aload_n 0, 1) := by decide +kernel
theorem dX8_come_44 : decode cX8_come 44 = .ok (.getfield 15, 3) := by decide +kernel
theorem dX8_come_47 : decode cX8_come 47 = .ok (.iconst 0, 1) := by decide +kernel
theorem dX8_come_48 : decode cX8_come 48 = .ok (.aload_n 0, 1) := by decide +kernel
theorem dX8_come_49 : decode cX8_come 49 = .ok (.getfield 15, 3) := by decide +kernel
theorem dX8_come_52 : decode cX8_come 52 = .ok (.invokevirtual 58, 3) := by decide +kernel
theorem dX8_come_55 : decode cX8_come 55 = .ok (.invokevirtual 91, 3) := by decide +kernel
theorem dX8_come_58 : decode cX8_come 58 = .ok (.aload_n 0, 1) := by decide +kernel
theorem dX8_come_59 : decode cX8_come 59 = .ok (.getfield 15, 3) := by decide +kernel
theorem dX8_come_62 : decode cX8_come 62 = .ok (.iconst 0, 1) := by decide +kernel
theorem dX8_come_63 : decode cX8_come 63 = .ok (.invokevirtual 66, 3) := by decide +kernel
theorem dX8_come_66 : decode cX8_come 66 = .ok (.aload_n 0, 1) := by decide +kernel
theorem dX8_come_67 : decode cX8_come 67 = .ok (.getfield 29, 3) := by decide +kernel
theorem dX8_come_70 : decode cX8_come 70 = .ok (.getfield 88, 3) := by decide +kernel
theorem dX8_come_73 : decode cX8_come 73 = .ok (.invokevirtual 58, 3) := by decide +kernel
theorem dX8_come_76 : decode cX8_come 76 = .ok (.ireturn, 1) := by decide +kernel
set_option maxRecDepth 20000 in
theorem ggX8_look_X7_takeBody : GoodIn wsX8_look wsX7_takeBody := goodIn_r _ [12, 13, 14, 15, 16, 17, 18, 19, 20, 21, 22, 23, 24, 25, 26, 27, 28, 29, 30, 31, 32, 33, 413, 414, 429, 430, 431] (by decide +kernel) (by decide +kernel)
set_option maxRecDepth 20000 in
theorem gX8_look_X7_takeBody : GoodIn wsX8_look (wsV RX8 95 RX7 yX7_takeBody wsX7_takeBody) := goodIn_app (goodIn_of _ (by decide +kernel)) ggX8_look_X7_takeBody
set_option maxRecDepth 20000 in
theorem ggX8_look_X7_takeEmptyLines : GoodIn wsX8_look wsX7_takeEmptyLines := goodIn_r _ [37, 14, 19, 20, 21, 22, 23, 24, 38, 39, 40, 41, 29, 25, 26, 27, 28, 30, 31, 32, 33, 413, 414, 429, 430, 431] (by decide +kernel) (by decide +kernel)
set_option maxRecDepth 20000 in
theorem gX8_look_X7_takeEmptyLines : GoodIn wsX8_look (wsV RX8 98 RX7 yX7_takeEmptyLines wsX7_takeEmptyLines) := goodIn_app (goodIn_of _ (by decide +kernel)) ggX8_look_X7_takeEmptyLines
set_option maxRecDepth 20000 in
theorem ggX8_look_X7_headSize : GoodIn wsX8_look wsX7_headSize := goodIn_r _ [45, 14, 19, 20, 21, 22, 23, 24, 38, 39, 40, 41, 29, 46, 47, 48, 49, 50, 413, 414, 429, 430, 431] (by decide +kernel) (by decide +kernel)
set_option maxRecDepth 20000 in
theorem gX8_look_X7_headSize : GoodIn wsX8_look (wsV RX8 101 RX7 yX7_headSize wsX7_headSize) := goodIn_app (goodIn_of _ (by decide +kernel)) ggX8_look_X7_headSize
set_option maxRecDepth 20000 in
theorem ggX8_look_X4_count : GoodIn wsX8_look wsX4_count := goodIn_r _ [23, 24, 429, 430, 431] (by decide +kernel) (by decide +kernel)
set_option maxRecDepth 20000 in
theorem gX8_look_X4_count : GoodIn wsX8_look (wsV RX8 58 RX4 yX4_count wsX4_count) := goodIn_app (goodIn_of _ (by decide +kernel)) ggX8_look_X4_count
set_option maxRecDepth 20000 in
theorem ggX8_look_X2_read : GoodIn wsX8_look wsX2_read := goodIn_r _ [56, 57, 58, 59, 55, 60, 61, 62, 63, 64, 65, 66, 67, 68, 69, 70, 71, 72, 73, 74, 75, 39, 40, 22, 41, 24, 29, 76, 47, 48, 49, 50, 77, 78, 79, 80, 81, 82, 83, 84, 85, 86, 87, 88, 89, 90, 91, 92, 93, 94, 95, 96, 97, 98, 99, 100, 101, 102, 103, 104, 105, 106, 107, 108, 109, 110, 111, 112, 113, 114, 115, 116, 117, 118, 119, 120, 121, 122, 123, 124, 125, 126, 127, 128, 129, 130, 131, 132, 133, 134, 135, 136, 137, 138, 139, 140, 141, 142, 143, 144, 145, 146, 147, 148, 149, 150, 151, 152, 153, 154, 155, 156, 157, 158, 159, 160, 161, 162, 163, 164, 165, 166, 167, 168, 169, 170, 171, 172, 173, 174, 175, 176, 177, 17, 178, 179, 16, 18, 180, 181, 182, 183, 184, 185, 186, 187, 188, 189, 190, 191, 192, 193, 194, 195, 196, 197, 198, 199, 200, 201, 202, 203, 204, 205, 206, 207, 208, 209, 210, 211, 212, 213, 214, 215, 216, 217, 218, 219, 220, 221, 222, 223, 224, 225, 226, 227, 228, 229, 230, 231, 232, 233, 234, 235, 236, 237, 238, 239, 240, 241, 242, 243, 244, 415, 416, 417, 418, 419, 420, 421, 422, 423, 424, 425, 426, 427, 428, 429, 430, 431] (by decide +kernel) (by decide +kernel)
set_option maxRecDepth 20000 in
theorem gX8_look_X2_read : GoodIn wsX8_look (wsV RX8 104 RX2 yX2_read wsX2_read) := goodIn_app (goodIn_of _ (by decide +kernel)) ggX8_look_X2_read
set_option maxRecDepth 20000 in
theorem ggX8_look_X8_judge : GoodIn wsX8_look wsX8_judge := goodIn_r _ [249, 3, 250, 7, 2, 251, 1, 6, 252, 253, 254, 255, 256, 257, 55, 258, 63, 66, 61, 259, 67, 260, 68, 69, 261, 262, 62, 263, 264, 265, 266, 267, 268, 269, 270, 271, 272, 273, 22, 274, 24, 275, 82, 83, 84, 50, 39, 40, 41, 29, 276, 277, 278, 279, 280, 281, 143, 282, 160, 161, 162, 283, 150, 151, 284, 285, 286, 287, 288, 289, 290, 291, 292, 293, 16, 17, 18, 294, 177, 178, 295, 30, 31, 32, 33, 296, 297, 298, 299, 89, 90, 91, 92, 93, 94, 95, 96, 97, 98, 99, 100, 300, 86, 87, 88, 101, 102, 103, 104, 105, 106, 107, 108, 109, 110, 111, 112, 113, 114, 115, 116, 117, 118, 119, 120, 121, 122, 123, 124, 125, 126, 127, 128, 129, 130, 131, 132, 133, 134, 135, 136, 137, 301, 302, 303, 304, 305, 306, 307, 308, 309, 310, 311, 312, 20, 21, 23, 313, 314, 315, 316, 317, 318, 319, 320, 321, 322, 323, 324, 325, 326, 327, 328, 329, 330, 331, 332, 333, 334, 335, 336, 337, 338, 339, 340, 341, 342, 343, 344, 345, 346, 347, 348, 70, 72, 71, 75, 349, 350, 351, 352, 85, 403, 404, 405, 406, 407, 408, 409, 413, 414, 415, 416, 417, 418, 419, 420, 421, 422, 423, 424, 425, 426, 427, 428, 432, 429, 430, 431, 410, 411, 412] (by decide +kernel) (by decide +kernel)
set_option maxRecDepth 20000 in
theorem gX8_look_X8_judge : GoodIn wsX8_look (wsV RX8 114 RX8 yX8_judge wsX8_judge) := goodIn_app (goodIn_of _ (by decide +kernel)) ggX8_look_X8_judge
set_option maxRecDepth 20000 in
theorem ggX8_look_X2_isPersistent : GoodIn wsX8_look wsX2_isPersistent := goodIn_r _ [356, 73, 63, 74, 415, 416, 417, 418, 419, 420, 421, 422, 423, 424, 425, 426, 427, 428] (by decide +kernel) (by decide +kernel)
set_option maxRecDepth 20000 in
theorem gX8_look_X2_isPersistent : GoodIn wsX8_look (wsV RX8 121 RX2 yX2_isPersistent wsX2_isPersistent) := goodIn_app (goodIn_of _ (by decide +kernel)) ggX8_look_X2_isPersistent
set_option maxRecDepth 20000 in
theorem ggX8_look_X3_type : GoodIn wsX8_look wsX3_type := goodIn_r _ [360, 270, 296, 297, 298, 22, 299, 24, 89, 90, 91, 92, 93, 94, 95, 96, 97, 98, 99, 100, 300, 86, 87, 88, 50, 39, 40, 41, 29, 101, 102, 103, 104, 105, 106, 107, 108, 109, 110, 111, 112, 113, 114, 115, 116, 117, 118, 119, 120, 121, 122, 123, 124, 125, 126, 127, 128, 129, 130, 131, 132, 133, 134, 135, 136, 137, 432, 429, 430, 431] (by decide +kernel) (by decide +kernel)
set_option maxRecDepth 20000 in
theorem gX8_look_X3_type : GoodIn wsX8_look (wsV RX8 125 RX3 yX3_type wsX3_type) := goodIn_app (goodIn_of _ (by decide +kernel)) ggX8_look_X3_type
set_option maxRecDepth 20000 in
theorem ggX8_look_X0_writeHead : GoodIn wsX8_look wsX0_writeHead := goodIn_r _ [365, 366, 367, 368, 369, 370, 272, 273, 22, 274, 24, 371, 302, 303, 304, 89, 90, 91, 92, 93, 94, 95, 96, 97, 98, 99, 100, 101, 102, 103, 104, 105, 106, 107, 108, 109, 110, 111, 112, 113, 114, 115, 116, 117, 118, 119, 120, 121, 122, 123, 124, 125, 126, 127, 128, 129, 130, 131, 132, 133, 134, 135, 136, 137, 305, 285, 286, 287, 29, 288, 289, 290, 291, 292, 293, 16, 17, 18, 294, 177, 178, 295, 30, 31, 32, 33, 372, 373, 374, 364, 375, 376, 377, 378, 379, 380, 381, 332, 333, 309, 334, 311, 327, 328, 329, 330, 50, 39, 40, 41, 382, 383, 384, 385, 386, 387, 341, 342, 343, 388, 389, 390, 391, 392, 350, 143, 351, 352, 433, 429, 430, 431, 410, 411, 412] (by decide +kernel) (by decide +kernel)
set_option maxRecDepth 20000 in
theorem gX8_look_X0_writeHead : GoodIn wsX8_look (wsV RX8 129 RX0 yX0_writeHead wsX0_writeHead) := goodIn_app (goodIn_of _ (by decide +kernel)) ggX8_look_X0_writeHead
set_option maxRecDepth 20000 in
theorem ggX8_look_X0_writeBody : GoodIn wsX8_look wsX0_writeBody := goodIn_r _ [396, 367, 366, 368, 397, 324, 325, 309, 326, 311, 327, 328, 329, 22, 330, 24, 50, 39, 40, 41, 29, 381, 332, 333, 334, 398, 399, 400, 401, 30, 31, 32, 33, 288, 289, 290, 291, 292, 293, 16, 17, 18, 294, 177, 178, 295, 372, 373, 374, 364, 375, 376, 377, 378, 379, 305, 285, 286, 287, 380, 371, 302, 303, 304, 89, 90, 91, 92, 93, 94, 95, 96, 97, 98, 99, 100, 101, 102, 103, 104, 105, 106, 107, 108, 109, 110, 111, 112, 113, 114, 115, 116, 117, 118, 119, 120, 121, 122, 123, 124, 125, 126, 127, 128, 129, 130, 131, 132, 133, 134, 135, 136, 137, 433, 410, 411, 412, 429, 430, 431] (by decide +kernel) (by decide +kernel)
set_option maxRecDepth 20000 in
theorem gX8_look_X0_writeBody : GoodIn wsX8_look (wsV RX8 136 RX0 yX0_writeBody wsX0_writeBody) := goodIn_app (goodIn_of _ (by decide +kernel)) ggX8_look_X0_writeBody
set_option maxRecDepth 20000 in
theorem ggX8_look_X4_dropFirst : GoodIn wsX8_look wsX4_dropFirst := goodIn_r _ [28, 24, 29, 30, 31, 32, 33, 429, 430, 431] (by decide +kernel) (by decide +kernel)
set_option maxRecDepth 20000 in
theorem gX8_look_X4_dropFirst : GoodIn wsX8_look (wsV RX8 140 RX4 yX4_dropFirst wsX4_dropFirst) := goodIn_app (goodIn_of _ (by decide +kernel)) ggX8_look_X4_dropFirst
theorem dX8_look_0 : decode cX8_look 0 = .ok (.aload_n 0, 1) := by decide +kernel
theorem dX8_look_1 : decode cX8_look 1 = .ok (.getfield 22, 3) := by decide +kernel
theorem dX8_look_4 : decode cX8_look 4 = .ok (.getfield 84, 3) := by decide +kernel
theorem dX8_look_7 : decode cX8_look 7 = .ok (.ifCond .ne 5, 3) := by decide +kernel
theorem dX8_look_10 : decode cX8_look 10 = .ok (.iconst (-1), 1) := by decide +kernel
theorem dX8_look_11 : decode cX8_look 11 = .ok (.ireturn, 1) := by decide +kernel
theorem dX8_look_12 : decode cX8_look 12 = .ok (.aload_n 0, 1) := by decide +kernel
theorem dX8_look_13 : decode cX8_look 13 = .ok (.getfield 29, 3) := by decide +kernel
theorem dX8_look_16 : decode cX8_look 16 = .ok (.invokevirtual 95, 3) := by decide +kernel
theorem dX8_look_19 : decode cX8_look 19 = .ok (.aload_n 0, 1) := by decide +kernel
theorem dX8_look_20 : decode cX8_look 20 = .ok (.getfield 29, 3) := by decide +kernel
theorem dX8_look_23 : decode cX8_look 23 = .ok (.invokevirtual 98, 3) := by decide +kernel
theorem dX8_look_26 : decode cX8_look 26 = .ok (.aload_n 0, 1) := by decide +kernel
theorem dX8_look_27 : decode cX8_look 27 = .ok (.getfield 29, 3) := by decide +kernel
theorem dX8_look_30 : decode cX8_look 30 = .ok (.invokevirtual 101, 3) := by decide +kernel
theorem dX8_look_33 : decode cX8_look 33 = .ok (.istore_n 1, 1) := by decide +kernel
theorem dX8_look_34 : decode cX8_look 34 = .ok (.iload_n 1, 1) := by decide +kernel
theorem dX8_look_35 : decode cX8_look 35 = .ok (.ifCond .ne 21, 3) := by decide +kernel
theorem dX8_look_38 : decode cX8_look 38 = .ok (.aload_n 0, 1) := by decide +kernel
theorem dX8_look_39 : decode cX8_look 39 = .ok (.getfield 29, 3) := by decide +kernel
theorem dX8_look_42 : decode cX8_look 42 = .ok (.getfield 88, 3) := by decide +kernel
theorem dX8_look_45 : decode cX8_look 45 = .ok (.invokevirtual 58, 3) := by decide +kernel
theorem dX8_look_48 : decode cX8_look 48 = .ok (.sipush 4096, 3) := by decide +kernel
theorem dX8_look_51 : decode cX8_look 51 = .ok (.if_icmp .ge 5, 3) := by decide +kernel
theorem dX8_look_54 : decode cX8_look 54 = .ok (.iconst 0, 1) := by decide +kernel
theorem dX8_look_55 : decode cX8_look 55 = .ok (.ireturn, 1) := by decide +kernel
theorem dX8_look_56 : decode cX8_look 56 = .ok (.aload_n 0, 1) := by decide +kernel
theorem dX8_look_57 : decode cX8_look 57 = .ok (.getfield 36, 3) := by decide +kernel
theorem dX8_look_60 : decode cX8_look 60 = .ok (.aload_n 0, 1) := by decide +kernel
theorem dX8_look_61 : decode cX8_look 61 = .ok (.getfield 29, 3) := by decide +kernel
theorem dX8_look_64 : decode cX8_look 64 = .ok (.getfield 88, 3) := by decide +kernel
theorem dX8_look_67 : decode cX8_look 67 = .ok (.iload_n 1, 1) := by decide +kernel
theorem dX8_look_68 : decode cX8_look 68 = .ok (.invokevirtual 104, 3) := by decide +kernel
theorem dX8_look_71 : decode cX8_look 71 = .ok (.iload_n 1, 1) := by decide +kernel
theorem dX8_look_72 : decode cX8_look 72 = .ok (.ifCond .ne 9, 3) := by decide +kernel
theorem dX8_look_75 : decode cX8_look 75 = .ok (.getstatic 108, 3) := by decide +kernel
theorem dX8_look_78 : decode cX8_look 78 = .ok (.goto 7, 3) := by decide +kernel
theorem dX8_look_81 : decode cX8_look 81 = .ok (.aload_n 0, 1) := by decide +kernel
theorem dX8_look_82 : decode cX8_look 82 = .ok (.invokevirtual 114, 3) := by decide +kernel
theorem dX8_look_85 : decode cX8_look 85 = .ok (.astore_n 2, 1) := by decide +kernel
theorem dX8_look_86 : decode cX8_look 86 = .ok (.aload_n 2, 1) := by decide +kernel
theorem dX8_look_87 : decode cX8_look 87 = .ok (.getfield 118, 3) := by decide +kernel
theorem dX8_look_90 : decode cX8_look 90 = .ok (.ifCond .ne 13, 3) := by decide +kernel
theorem dX8_look_93 : decode cX8_look 93 = .ok (.aload_n 0, 1) := by decide +kernel
theorem dX8_look_94 : decode cX8_look 94 = .ok (.getfield 36, 3) := by decide +kernel
theorem dX8_look_97 : decode cX8_look 97 = .ok (.invokevirtual 121, 3) := by decide +kernel
theorem dX8_look_100 : decode cX8_look 100 = .ok (.ifCond .ne 7, 3) := by decide +kernel
theorem dX8_look_103 : decode cX8_look 103 = .ok (.iconst 1, 1) := by decide +kernel
theorem dX8_look_104 : decode cX8_look 104 = .ok (.goto 4, 3) := by decide +kernel
theorem dX8_look_107 : decode cX8_look 107 = .ok (.iconst 0, 1) := by decide +kernel
theorem dX8_look_108 : decode cX8_look 108 = .ok (.istore_n 3, 1) := by decide +kernel
theorem dX8_look_109 : decode cX8_look 109 = .ok (.aload_n 0, 1) := by decide +kernel
theorem dX8_look_110 : decode cX8_look 110 = .ok (.getfield 50, 3) := by decide +kernel
theorem dX8_look_113 : decode cX8_look 113 = .ok (.aload_n 2, 1) := by decide +kernel
theorem dX8_look_114 : decode cX8_look 114 = .ok (.aload_n 0, 1) := by decide +kernel
theorem dX8_look_115 : decode cX8_look 115 = .ok (.getfield 22, 3) := by decide +kernel
theorem dX8_look_118 : decode cX8_look 118 = .ok (.aload_n 0, 1) := by decide +kernel
theorem dX8_look_119 : decode cX8_look 119 = .ok (.getfield 54, 3) := by decide +kernel
theorem dX8_look_122 : decode cX8_look 122 = .ok (.aload_n 0, 1) := by decide +kernel
theorem dX8_look_123 : decode cX8_look 123 = .ok (.getfield 43, 3) := by decide +kernel
theorem dX8_look_126 : decode cX8_look 126 = .ok (.invokevirtual 125, 3) := by decide +kernel
theorem dX8_look_129 : decode cX8_look 129 = .ok (.iload_n 3, 1) := by decide +kernel
theorem dX8_look_130 : decode cX8_look 130 = .ok (.invokevirtual 129, 3) := by decide +kernel
theorem dX8_look_133 : decode cX8_look 133 = .ok (.aload_n 0, 1) := by decide +kernel
theorem dX8_look_134 : decode cX8_look 134 = .ok (.getfield 36, 3) := by decide +kernel
theorem dX8_look_137 : decode cX8_look 137 = .ok (.getfield 133, 3) := by decide +kernel
theorem dX8_look_140 : decode cX8_look 140 = .ok (.iconst 1, 1) := by decide +kernel
theorem dX8_look_141 : decode cX8_look 141 = .ok (.if_icmp .eq 19, 3) := by decide +kernel
theorem dX8_look_144 : decode cX8_look 144 = .ok (.aload_n 0, 1) := by decide +kernel
theorem dX8_look_145 : decode cX8_look 145 = .ok (.getfield 50, 3) := by decide +kernel
theorem dX8_look_148 : decode cX8_look 148 = .ok (.aload_n 2, 1) := by decide +kernel
theorem dX8_look_149 : decode cX8_look 149 = .ok (.aload_n 0, 1) := by decide +kernel
theorem dX8_look_150 : decode cX8_look 150 = .ok (.getfield 22, 3) := by decide +kernel
theorem dX8_look_153 : decode cX8_look 153 = .ok (.aload_n 0, 1) := by decide +kernel
theorem dX8_look_154 : decode cX8_look 154 = .ok (.getfield 54, 3) := by decide +kernel
theorem dX8_look_157 : decode cX8_look 157 = .ok (.invokevirtual 136, 3) := by decide +kernel
theorem dX8_look_160 : decode cX8_look 160 = .ok (.aload_n 0, 1) := by decide +kernel
theorem dX8_look_161 : decode cX8_look 161 = .ok (.getfield 29, 3) := by decide +kernel
theorem dX8_look_164 : decode cX8_look 164 = .ok (.getfield 88, 3) := by decide +kernel
theorem dX8_look_167 : decode cX8_look 167 = .ok (.iload_n 1, 1) := by decide +kernel
theorem dX8_look_168 : decode cX8_look 168 = .ok (.ifCond .ne 9, 3) := by decide +kernel
theorem dX8_look_171 : decode cX8_look 171 = .ok (.sipush 4096, 3) := by decide +kernel
theorem dX8_look_174 : decode cX8_look 174 = .ok (.goto 4, 3) := by decide +kernel
theorem dX8_look_177 : decode cX8_look 177 = .ok (.iload_n 1, 1) := by decide +kernel
theorem dX8_look_178 : decode cX8_look 178 = .ok (.invokevirtual 140, 3) := by decide +kernel
theorem dX8_look_181 : decode cX8_look 181 = .ok (.aload_n 0, 1) := by decide +kernel
theorem dX8_look_182 : decode cX8_look 182 = .ok (.getfield 29, 3) := by decide +kernel
theorem dX8_look_185 : decode cX8_look 185 = .ok (.aload_n 2, 1) := by decide +kernel
theorem dX8_look_186 : decode cX8_look 186 = .ok (.getfield 143, 3) := by decide +kernel
theorem dX8_look_189 : decode cX8_look 189 = .ok (.ifCond .eq 13, 3) := by decide +kernel
theorem dX8_look_192 : decode cX8_look 192 = .ok (.aload_n 0, 1) := by decide +kernel
theorem dX8_look_193 : decode cX8_look 193 = .ok (.getfield 36, 3) := by decide +kernel
theorem dX8_look_196 : decode cX8_look 196 = .ok (.getfield 146, 3) := by decide +kernel
theorem dX8_look_199 : decode cX8_look 199 = .ok (.goto 4, 3) := by decide +kernel
theorem dX8_look_202 : decode cX8_look 202 = .ok (.iconst 0, 1) := by decide +kernel
theorem dX8_look_203 : decode cX8_look 203 = .ok (.putfield 149, 3) := by decide +kernel
theorem dX8_look_206 : decode cX8_look 206 = .ok (.iload_n 3, 1) := by decide +kernel
theorem dX8_look_207 : decode cX8_look 207 = .ok (.ifCond .eq 7, 3) := by decide +kernel
theorem dX8_look_210 : decode cX8_look 210 = .ok (.iconst 2, 1) := by decide +kernel
theorem dX8_look_211 : decode cX8_look 211 = .ok (.goto 4, 3) := by decide +kernel
theorem dX8_look_214 : decode cX8_look 214 = .ok (.iconst 1, 1) := by decide +kernel
theorem dX8_look_215 : decode cX8_look 215 = .ok (.ireturn, 1) := by decide +kernel
set_option maxRecDepth 20000 in
theorem ggX8_held_X4_count : GoodIn wsX8_held wsX4_count := goodIn_r _ [6, 7, 17, 18, 19] (by decide +kernel) (by decide +kernel)
set_option maxRecDepth 20000 in
theorem gX8_held_X4_count : GoodIn wsX8_held (wsV RX8 58 RX4 yX4_count wsX4_count) := goodIn_app (goodIn_of _ (by decide +kernel)) ggX8_held_X4_count
theorem dX8_held_0 : decode cX8_held 0 = .ok (.aload_n 0, 1) := by decide +kernel
theorem dX8_held_1 : decode cX8_held 1 = .ok (.getfield 29, 3) := by decide +kernel
theorem dX8_held_4 : decode cX8_held 4 = .ok (.getfield 88, 3) := by decide +kernel
theorem dX8_held_7 : decode cX8_held 7 = .ok (.invokevirtual 58, 3) := by decide +kernel
theorem dX8_held_10 : decode cX8_held 10 = .ok (.ireturn, 1) := by decide +kernel
theorem dX8_left_0 : decode cX8_left 0 = .ok (.aload_n 0, 1) := by decide +kernel
theorem dX8_left_1 : decode cX8_left 1 = .ok (.getfield 29, 3) := by decide +kernel
theorem dX8_left_4 : decode cX8_left 4 = .ok (.getfield 149, 3) := by decide +kernel
theorem dX8_left_7 : decode cX8_left 7 = .ok (.ireturn, 1) := by decide +kernel
set_option maxRecDepth 20000 in
theorem ggX8_length_X4_count : GoodIn wsX8_length wsX4_count := goodIn_r _ [6, 7, 16, 17, 18] (by decide +kernel) (by decide +kernel)
set_option maxRecDepth 20000 in
theorem gX8_length_X4_count : GoodIn wsX8_length (wsV RX8 58 RX4 yX4_count wsX4_count) := goodIn_app (goodIn_of _ (by decide +kernel)) ggX8_length_X4_count
theorem dX8_length_0 : decode cX8_length 0 = .ok (.aload_n 0, 1) := by decide +kernel
theorem dX8_length_1 : decode cX8_length 1 = .ok (.getfield 50, 3) := by decide +kernel
theorem dX8_length_4 : decode cX8_length 4 = .ok (.getfield 152, 3) := by decide +kernel
theorem dX8_length_7 : decode cX8_length 7 = .ok (.invokevirtual 58, 3) := by decide +kernel
theorem dX8_length_10 : decode cX8_length 10 = .ok (.ireturn, 1) := by decide +kernel
set_option maxRecDepth 20000 in
theorem ggX8_at_X4_get : GoodIn wsX8_at wsX4_get := goodIn_r _ [6, 7, 8, 17, 18, 19] (by decide +kernel) (by decide +kernel)
set_option maxRecDepth 20000 in
theorem gX8_at_X4_get : GoodIn wsX8_at (wsV RX8 153 RX4 yX4_get wsX4_get) := goodIn_app (goodIn_of _ (by decide +kernel)) ggX8_at_X4_get
theorem dX8_at_0 : decode cX8_at 0 = .ok (.aload_n 0, 1) := by decide +kernel
theorem dX8_at_1 : decode cX8_at 1 = .ok (.getfield 50, 3) := by decide +kernel
theorem dX8_at_4 : decode cX8_at 4 = .ok (.getfield 152, 3) := by decide +kernel
theorem dX8_at_7 : decode cX8_at 7 = .ok (.iload_n 1, 1) := by decide +kernel
theorem dX8_at_8 : decode cX8_at 8 = .ok (.invokevirtual 153, 3) := by decide +kernel
theorem dX8_at_11 : decode cX8_at 11 = .ok (.ireturn, 1) := by decide +kernel
set_option maxRecDepth 20000 in
theorem ggX8_damage_X4_set : GoodIn wsX8_damage wsX4_set := goodIn_r _ [6, 7, 8, 19, 20, 21] (by decide +kernel) (by decide +kernel)
set_option maxRecDepth 20000 in
theorem gX8_damage_X4_set : GoodIn wsX8_damage (wsV RX8 157 RX4 yX4_set wsX4_set) := goodIn_app (goodIn_of _ (by decide +kernel)) ggX8_damage_X4_set
theorem dX8_damage_0 : decode cX8_damage 0 = .ok (.aload_n 0, 1) := by decide +kernel
theorem dX8_damage_1 : decode cX8_damage 1 = .ok (.getfield 22, 3) := by decide +kernel
theorem dX8_damage_4 : decode cX8_damage 4 = .ok (.getfield 78, 3) := by decide +kernel
theorem dX8_damage_7 : decode cX8_damage 7 = .ok (.iload_n 1, 1) := by decide +kernel
theorem dX8_damage_8 : decode cX8_damage 8 = .ok (.iload_n 2, 1) := by decide +kernel
theorem dX8_damage_9 : decode cX8_damage 9 = .ok (.invokevirtual 157, 3) := by decide +kernel
theorem dX8_damage_12 : decode cX8_damage 12 = .ok (.ireturn, 1) := by decide +kernel
set_option maxRecDepth 20000 in
theorem ggX8_judge_X2_judge : GoodIn wsX8_judge wsX2_judge := goodIn_r _ [15, 16, 17, 18, 19, 20, 21, 22, 23, 24, 25, 26, 27, 28, 211, 212, 213, 214, 215, 216, 217, 218, 219, 220, 221, 222, 223, 224] (by decide +kernel) (by decide +kernel)
set_option maxRecDepth 20000 in
theorem gX8_judge_X2_judge : GoodIn wsX8_judge (wsV RX8 161 RX2 yX2_judge wsX2_judge) := goodIn_app (goodIn_of _ (by decide +kernel)) ggX8_judge_X2_judge
set_option maxRecDepth 20000 in
theorem ggX8_judge_X3_read : GoodIn wsX8_judge wsX3_read := goodIn_r _ [33, 34, 35, 36, 37, 38, 39, 40, 41, 42, 43, 44, 45, 46, 47, 48, 49, 50, 51, 52, 32, 53, 54, 55, 56, 57, 58, 59, 60, 61, 62, 63, 64, 65, 66, 67, 68, 69, 70, 71, 72, 73, 74, 75, 76, 77, 78, 79, 80, 81, 82, 83, 84, 85, 86, 87, 88, 89, 90, 91, 92, 93, 94, 95, 96, 97, 98, 99, 100, 101, 102, 103, 104, 105, 106, 107, 108, 109, 110, 111, 112, 113, 114, 115, 116, 117, 118, 119, 120, 121, 122, 123, 124, 125, 126, 127, 128, 129, 130, 131, 132, 133, 134, 135, 136, 137, 138, 139, 140, 141, 142, 143, 144, 145, 146, 225, 226, 227, 228] (by decide +kernel) (by decide +kernel)
set_option maxRecDepth 20000 in
theorem gX8_judge_X3_read : GoodIn wsX8_judge (wsV RX8 171 RX3 yX3_read wsX3_read) := goodIn_app (goodIn_of _ (by decide +kernel)) ggX8_judge_X3_read
set_option maxRecDepth 20000 in
theorem ggX8_judge_X6_find : GoodIn wsX8_judge wsX6_find := goodIn_r _ [151, 152, 153, 154, 155, 38, 156, 40, 157, 158, 159, 150, 160, 161, 46, 47, 48, 49, 229, 230, 231, 226, 227, 228] (by decide +kernel) (by decide +kernel)
set_option maxRecDepth 20000 in
theorem gX8_judge_X6_find : GoodIn wsX8_judge (wsV RX8 180 RX6 yX6_find wsX6_find) := goodIn_app (goodIn_of _ (by decide +kernel)) ggX8_judge_X6_find
set_option maxRecDepth 20000 in
theorem ggX8_judge_X6_isWhole : GoodIn wsX8_judge wsX6_isWhole := goodIn_r _ [165, 166, 167, 168, 169, 150, 170, 152, 171, 172, 173, 38, 174, 40, 45, 46, 47, 48, 49, 175, 176, 177, 178, 179, 180, 181, 182, 183, 184, 185, 186, 187, 229, 230, 231, 226, 227, 228] (by decide +kernel) (by decide +kernel)
set_option maxRecDepth 20000 in
theorem gX8_judge_X6_isWhole : GoodIn wsX8_judge (wsV RX8 187 RX6 yX6_isWhole wsX6_isWhole) := goodIn_app (goodIn_of _ (by decide +kernel)) ggX8_judge_X6_isWhole
set_option maxRecDepth 20000 in
theorem ggX8_judge_X6_checkOf : GoodIn wsX8_judge wsX6_checkOf := goodIn_r _ [187, 152, 171, 172, 173, 38, 174, 40, 45, 46, 47, 48, 49, 229, 230, 231, 226, 227, 228] (by decide +kernel) (by decide +kernel)
set_option maxRecDepth 20000 in
theorem gX8_judge_X6_checkOf : GoodIn wsX8_judge (wsV RX8 194 RX6 yX6_checkOf wsX6_checkOf) := goodIn_app (goodIn_of _ (by decide +kernel)) ggX8_judge_X6_checkOf
set_option maxRecDepth 20000 in
theorem ggX8_judge_X2_hasMark : GoodIn wsX8_judge wsX2_hasMark := goodIn_r _ [192, 193, 194, 195, 196, 46, 47, 38, 48, 40, 49, 197, 198, 56, 199, 200, 106, 107, 92, 108, 94, 109, 110, 111, 112, 99, 100, 113, 114, 115, 116, 117, 118, 119, 120, 121, 122, 123, 124, 125, 126, 127, 128, 129, 130, 131, 132, 133, 134, 135, 136, 137, 138, 139, 140, 141, 201, 102, 103, 104, 89, 90, 91, 93, 95, 96, 97, 98, 45, 105, 211, 212, 213, 214, 215, 216, 217, 218, 219, 220, 221, 222, 223, 224, 226, 227, 228] (by decide +kernel) (by decide +kernel)
set_option maxRecDepth 20000 in
theorem gX8_judge_X2_hasMark : GoodIn wsX8_judge (wsV RX8 197 RX2 yX2_hasMark wsX2_hasMark) := goodIn_app (goodIn_of _ (by decide +kernel)) ggX8_judge_X2_hasMark
theorem dX8_judge_0 : decode cX8_judge 0 = .ok (.aload_n 0, 1) := by decide +kernel
theorem dX8_judge_1 : decode cX8_judge 1 = .ok (.getfield 36, 3) := by decide +kernel
theorem dX8_judge_4 : decode cX8_judge 4 = .ok (.invokevirtual 161, 3) := by decide +kernel
theorem dX8_judge_7 : decode cX8_judge 7 = .ok (.astore_n 1, 1) := by decide +kernel
theorem dX8_judge_8 : decode cX8_judge 8 = .ok (.aload_n 1, 1) := by decide +kernel
theorem dX8_judge_9 : decode cX8_judge 9 = .ok (.getstatic 162, 3) := by decide +kernel
theorem dX8_judge_12 : decode cX8_judge 12 = .ok (.if_acmp .eq 5, 3) := by decide +kernel
theorem dX8_judge_15 : decode cX8_judge 15 = .ok (.aload_n 1, 1) := by decide +kernel
theorem dX8_judge_16 : decode cX8_judge 16 = .ok (.areturn, 1) := by decide +kernel
theorem dX8_judge_17 : decode cX8_judge 17 = .ok (.aload_n 0, 1) := by decide +kernel
theorem dX8_judge_18 : decode cX8_judge 18 = .ok (.getfield 43, 3) := by decide +kernel
theorem dX8_judge_21 : decode cX8_judge 21 = .ok (.aload_n 0, 1) := by decide +kernel
theorem dX8_judge_22 : decode cX8_judge 22 = .ok (.getfield 29, 3) := by decide +kernel
theorem dX8_judge_25 : decode cX8_judge 25 = .ok (.getfield 88, 3) := by decide +kernel
theorem dX8_judge_28 : decode cX8_judge 28 = .ok (.aload_n 0, 1) := by decide +kernel
theorem dX8_judge_29 : decode cX8_judge 29 = .ok (.getfield 36, 3) := by decide +kernel
theorem dX8_judge_32 : decode cX8_judge 32 = .ok (.getfield 165, 3) := by decide +kernel
theorem dX8_judge_35 : decode cX8_judge 35 = .ok (.aload_n 0, 1) := by decide +kernel
theorem dX8_judge_36 : decode cX8_judge 36 = .ok (.getfield 36, 3) := by decide +kernel
theorem dX8_judge_39 : decode cX8_judge 39 = .ok (.getfield 168, 3) := by decide +kernel
theorem dX8_judge_42 : decode cX8_judge 42 = .ok (.invokevirtual 171, 3) := by decide +kernel
theorem dX8_judge_45 : decode cX8_judge 45 = .ok (.ifCond .ne 7, 3) := by decide +kernel
theorem dX8_judge_48 : decode cX8_judge 48 = .ok (.getstatic 174, 3) := by decide +kernel
theorem dX8_judge_51 : decode cX8_judge 51 = .ok (.areturn, 1) := by decide +kernel
theorem dX8_judge_52 : decode cX8_judge 52 = .ok (.aload_n 0, 1) := by decide +kernel
theorem dX8_judge_53 : decode cX8_judge 53 = .ok (.aload_n 0, 1) := by decide +kernel
theorem dX8_judge_54 : decode cX8_judge 54 = .ok (.getfield 22, 3) := by decide +kernel
theorem dX8_judge_57 : decode cX8_judge 57 = .ok (.aload_n 0, 1) := by decide +kernel
theorem dX8_judge_58 : decode cX8_judge 58 = .ok (.getfield 43, 3) := by decide +kernel
theorem dX8_judge_61 : decode cX8_judge 61 = .ok (.getfield 177, 3) := by decide +kernel
theorem dX8_judge_64 : decode cX8_judge 64 = .ok (.invokevirtual 180, 3) := by decide +kernel
theorem dX8_judge_67 : decode cX8_judge 67 = .ok (.putfield 54, 3) := by decide +kernel
theorem dX8_judge_70 : decode cX8_judge 70 = .ok (.aload_n 0, 1) := by decide +kernel
theorem dX8_judge_71 : decode cX8_judge 71 = .ok (.getfield 54, 3) := by decide +kernel
theorem dX8_judge_74 : decode cX8_judge 74 = .ok (.ifCond .ge 7, 3) := by decide +kernel
theorem dX8_judge_77 : decode cX8_judge 77 = .ok (.getstatic 184, 3) := by decide +kernel
theorem dX8_judge_80 : decode cX8_judge 80 = .ok (.areturn, 1) := by decide +kernel
theorem dX8_judge_81 : decode cX8_judge 81 = .ok (.aload_n 0, 1) := by decide +kernel
theorem dX8_judge_82 : decode cX8_judge 82 = .ok (.getfield 22, 3) := by decide +kernel
theorem dX8_judge_85 : decode cX8_judge 85 = .ok (.aload_n 0, 1) := by decide +kernel
theorem dX8_judge_86 : decode cX8_judge 86 = .ok (.getfield 54, 3) := by decide +kernel
theorem dX8_judge_89 : decode cX8_judge 89 = .ok (.invokevirtual 187, 3) := by decide +kernel
theorem dX8_judge_92 : decode cX8_judge 92 = .ok (.ifCond .ne 7, 3) := by decide +kernel
theorem dX8_judge_95 : decode cX8_judge 95 = .ok (.getstatic 191, 3) := by decide +kernel
theorem dX8_judge_98 : decode cX8_judge 98 = .ok (.areturn, 1) := by decide +kernel
theorem dX8_judge_99 : decode cX8_judge 99 = .ok (.aload_n 0, 1) := by decide +kernel
theorem dX8_judge_100 : decode cX8_judge 100 = .ok (.getfield 36, 3) := by decide +kernel
theorem dX8_judge_103 : decode cX8_judge 103 = .ok (.aload_n 0, 1) := by decide +kernel
theorem dX8_judge_104 : decode cX8_judge 104 = .ok (.getfield 29, 3) := by decide +kernel
theorem dX8_judge_107 : decode cX8_judge 107 = .ok (.getfield 88, 3) := by decide +kernel
theorem dX8_judge_110 : decode cX8_judge 110 = .ok (.aload_n 0, 1) := by decide +kernel
theorem dX8_judge_111 : decode cX8_judge 111 = .ok (.getfield 22, 3) := by decide +kernel
theorem dX8_judge_114 : decode cX8_judge 114 = .ok (.aload_n 0, 1) := by decide +kernel
theorem dX8_judge_115 : decode cX8_judge 115 = .ok (.getfield 54, 3) := by decide +kernel
theorem dX8_judge_118 : decode cX8_judge 118 = .ok (.invokevirtual 194, 3) := by decide +kernel
theorem dX8_judge_121 : decode cX8_judge 121 = .ok (.invokevirtual 197, 3) := by decide +kernel
theorem dX8_judge_124 : decode cX8_judge 124 = .ok (.ifCond .eq 9, 3) := by decide +kernel
theorem dX8_judge_127 : decode cX8_judge 127 = .ok (.getstatic 201, 3) := by decide +kernel
theorem dX8_judge_130 : decode cX8_judge 130 = .ok (.goto 6, 3) := by decide +kernel
theorem dX8_judge_133 : decode cX8_judge 133 = .ok (.getstatic 162, 3) := by decide +kernel
theorem dX8_judge_136 : decode cX8_judge 136 = .ok (.areturn, 1) := by decide +kernel
theorem dX9_init_0 : decode cX9_init 0 = .ok (.aload_n 0, 1) := by decide +kernel
theorem dX9_init_1 : decode cX9_init 1 = .ok (.invokespecial 1, 3) := by decide +kernel
theorem dX9_init_4 : decode cX9_init 4 = .ok (.aload_n 0, 1) := by decide +kernel
theorem dX9_init_5 : decode cX9_init 5 = .ok (.ldc 9, 2) := by decide +kernel
theorem dX9_init_7 : decode cX9_init 7 = .ok (.newarray .byte, 2) := by decide +kernel
theorem dX9_init_9 : decode cX9_init 9 = .ok (.putfield 10, 3) := by decide +kernel
theorem dX9_init_12 : decode cX9_init 12 = .ok (.aload_n 0, 1) := by decide +kernel
theorem dX9_init_13 : decode cX9_init 13 = .ok (.ldc 14, 2) := by decide +kernel
theorem dX9_init_15 : decode cX9_init 15 = .ok (.newarray .byte, 2) := by decide +kernel
theorem dX9_init_17 : decode cX9_init 17 = .ok (.putfield 15, 3) := by decide +kernel
theorem dX9_init_20 : decode cX9_init 20 = .ok (.aload_n 0, 1) := by decide +kernel
theorem dX9_init_21 : decode cX9_init 21 = .ok (.sipush 3072, 3) := by decide +kernel
theorem dX9_init_24 : decode cX9_init 24 = .ok (.newarray .byte, 2) := by decide +kernel
theorem dX9_init_26 : decode cX9_init 26 = .ok (.putfield 18, 3) := by decide +kernel
theorem dX9_init_29 : decode cX9_init 29 = .ok (.aload_n 0, 1) := by decide +kernel
theorem dX9_init_30 : decode cX9_init 30 = .ok (.bipush 64, 2) := by decide +kernel
theorem dX9_init_32 : decode cX9_init 32 = .ok (.newarray .int, 2) := by decide +kernel
theorem dX9_init_34 : decode cX9_init 34 = .ok (.putfield 21, 3) := by decide +kernel
theorem dX9_init_37 : decode cX9_init 37 = .ok (.aload_n 0, 1) := by decide +kernel
theorem dX9_init_38 : decode cX9_init 38 = .ok (.bipush 64, 2) := by decide +kernel
theorem dX9_init_40 : decode cX9_init 40 = .ok (.newarray .int, 2) := by decide +kernel
theorem dX9_init_42 : decode cX9_init 42 = .ok (.putfield 25, 3) := by decide +kernel
theorem dX9_init_45 : decode cX9_init 45 = .ok (.aload_n 0, 1) := by decide +kernel
theorem dX9_init_46 : decode cX9_init 46 = .ok (.bipush 64, 2) := by decide +kernel
theorem dX9_init_48 : decode cX9_init 48 = .ok (.newarray .int, 2) := by decide +kernel
theorem dX9_init_50 : decode cX9_init 50 = .ok (.putfield 28, 3) := by decide +kernel
theorem dX9_init_53 : decode cX9_init 53 = .ok (.aload_n 0, 1) := by decide +kernel
theorem dX9_init_54 : decode cX9_init 54 = .ok (.sipush 4096, 3) := by decide +kernel
theorem dX9_init_57 : decode cX9_init 57 = .ok (.newarray .byte, 2) := by decide +kernel
theorem dX9_init_59 : decode cX9_init 59 = .ok (.putfield 31, 3) := by decide +kernel
theorem dX9_init_62 : decode cX9_init 62 = .ok (.aload_n 0, 1) := by decide +kernel
theorem dX9_init_63 : decode cX9_init 63 = .ok (.sipush 512, 3) := by decide +kernel
theorem dX9_init_66 : decode cX9_init 66 = .ok (.newarray .byte, 2) := by decide +kernel
theorem dX9_init_68 : decode cX9_init 68 = .ok (.putfield 34, 3) := by decide +kernel
theorem dX9_init_71 : decode cX9_init 71 = .ok (.aload_n 0, 1) := by decide +kernel
theorem dX9_init_72 : decode cX9_init 72 = .ok (.ldc 14, 2) := by decide +kernel
theorem dX9_init_74 : decode cX9_init 74 = .ok (.newarray .byte, 2) := by decide +kernel
theorem dX9_init_76 : decode cX9_init 76 = .ok (.putfield 37, 3) := by decide +kernel
theorem dX9_init_79 : decode cX9_init 79 = .ok (.aload_n 0, 1) := by decide +kernel
theorem dX9_init_80 : decode cX9_init 80 = .ok (.sipush 4096, 3) := by decide +kernel
theorem dX9_init_83 : decode cX9_init 83 = .ok (.newarray .byte, 2) := by decide +kernel
theorem dX9_init_85 : decode cX9_init 85 = .ok (.putfield 40, 3) := by decide +kernel
theorem dX9_init_88 : decode cX9_init 88 = .ok (.aload_n 0, 1) := by decide +kernel
theorem dX9_init_89 : decode cX9_init 89 = .ok (.sipush 8192, 3) := by decide +kernel
theorem dX9_init_92 : decode cX9_init 92 = .ok (.newarray .byte, 2) := by decide +kernel
theorem dX9_init_94 : decode cX9_init 94 = .ok (.putfield 43, 3) := by decide +kernel
theorem dX9_init_97 : decode cX9_init 97 = .ok (.return_, 1) := by decide +kernel
set_option maxRecDepth 20000 in
theorem ggX9_feed_X9_word : GoodIn wsX9_feed wsX9_word := goodIn_r _ [7, 8, 1, 9, 10, 11, 12, 13, 14, 15, 16, 17, 18, 19, 20, 21, 22, 23, 24, 25, 26, 27, 28, 29, 30, 31, 32, 33, 34, 35, 36, 37, 38, 39, 40, 41, 42, 43, 44, 45, 46, 47] (by decide +kernel) (by decide +kernel)
set_option maxRecDepth 20000 in
theorem gX9_feed_X9_word : GoodIn wsX9_feed (wsV RX9 50 RX9 yX9_word wsX9_word) := goodIn_app (goodIn_of _ (by decide +kernel)) ggX9_feed_X9_word
theorem dX9_feed_0 : decode cX9_feed 0 = .ok (.aload_n 0, 1) := by decide +kernel
theorem dX9_feed_1 : decode cX9_feed 1 = .ok (.getfield 46, 3) := by decide +kernel
theorem dX9_feed_4 : decode cX9_feed 4 = .ok (.bipush 20, 2) := by decide +kernel
theorem dX9_feed_6 : decode cX9_feed 6 = .ok (.iadd, 1) := by decide +kernel
theorem dX9_feed_7 : decode cX9_feed 7 = .ok (.ldc 9, 2) := by decide +kernel
theorem dX9_feed_9 : decode cX9_feed 9 = .ok (.if_icmp .le 5, 3) := by decide +kernel
theorem dX9_feed_12 : decode cX9_feed 12 = .ok (.iconst (-1), 1) := by decide +kernel
theorem dX9_feed_13 : decode cX9_feed 13 = .ok (.ireturn, 1) := by decide +kernel
theorem dX9_feed_14 : decode cX9_feed 14 = .ok (.aload_n 0, 1) := by decide +kernel
theorem dX9_feed_15 : decode cX9_feed 15 = .ok (.iload_n 1, 1) := by decide +kernel
theorem dX9_feed_16 : decode cX9_feed 16 = .ok (.invokevirtual 50, 3) := by decide +kernel
theorem dX9_feed_19 : decode cX9_feed 19 = .ok (.aload_n 0, 1) := by decide +kernel
theorem dX9_feed_20 : decode cX9_feed 20 = .ok (.iload_n 2, 1) := by decide +kernel
theorem dX9_feed_21 : decode cX9_feed 21 = .ok (.invokevirtual 50, 3) := by decide +kernel
theorem dX9_feed_24 : decode cX9_feed 24 = .ok (.aload_n 0, 1) := by decide +kernel
theorem dX9_feed_25 : decode cX9_feed 25 = .ok (.iload_n 3, 1) := by decide +kernel
theorem dX9_feed_26 : decode cX9_feed 26 = .ok (.invokevirtual 50, 3) := by decide +kernel
theorem dX9_feed_29 : decode cX9_feed 29 = .ok (.aload_n 0, 1) := by decide +kernel
theorem dX9_feed_30 : decode cX9_feed 30 = .ok (.iload 4, 2) := by decide +kernel
theorem dX9_feed_32 : decode cX9_feed 32 = .ok (.invokevirtual 50, 3) := by decide +kernel
theorem dX9_feed_35 : decode cX9_feed 35 = .ok (.aload_n 0, 1) := by decide +kernel
theorem dX9_feed_36 : decode cX9_feed 36 = .ok (.iload 5, 2) := by decide +kernel
theorem dX9_feed_38 : decode cX9_feed 38 = .ok (.invokevirtual 50, 3) := by decide +kernel
theorem dX9_feed_41 : decode cX9_feed 41 = .ok (.aload_n 0, 1) := by decide +kernel
theorem dX9_feed_42 : decode cX9_feed 42 = .ok (.getfield 46, 3) := by decide +kernel
theorem dX9_feed_45 : decode cX9_feed 45 = .ok (.ireturn, 1) := by decide +kernel
theorem dX9_word_0 : decode cX9_word 0 = .ok (.iconst 0, 1) := by decide +kernel
theorem dX9_word_1 : decode cX9_word 1 = .ok (.istore_n 2, 1) := by decide +kernel
theorem dX9_word_2 : decode cX9_word 2 = .ok (.iload_n 2, 1) := by decide +kernel
theorem dX9_word_3 : decode cX9_word 3 = .ok (.iconst 4, 1) := by decide +kernel
theorem dX9_word_4 : decode cX9_word 4 = .ok (.if_icmp .ge 38, 3) := by decide +kernel
theorem dX9_word_7 : decode cX9_word 7 = .ok (.aload_n 0, 1) := by decide +kernel
theorem dX9_word_8 : decode cX9_word 8 = .ok (.getfield 10, 3) := by decide +kernel
theorem dX9_word_11 : decode cX9_word 11 = .ok (.aload_n 0, 1) := by decide +kernel
theorem dX9_word_12 : decode cX9_word 12 = .ok (.getfield 46, 3) := by decide +kernel
theorem dX9_word_15 : decode cX9_word 15 = .ok (.iload_n 1, 1) := by decide +kernel
theorem dX9_word_16 : decode cX9_word 16 = .ok (.bipush 24, 2) := by decide +kernel
theorem dX9_word_18 : decode cX9_word 18 = .ok (.bipush 8, 2) := by decide +kernel
theorem dX9_word_20 : decode cX9_word 20 = .ok (.iload_n 2, 1) := by decide +kernel
theorem dX9_word_21 : decode cX9_word 21 = .ok (.imul, 1) := by decide +kernel
theorem dX9_word_22 : decode cX9_word 22 = .ok (.isub, 1) := by decide +kernel
theorem dX9_word_23 : decode cX9_word 23 = .ok (.ishr, 1) := by decide +kernel
theorem dX9_word_24 : decode cX9_word 24 = .ok (.i2b, 1) := by decide +kernel
theorem dX9_word_25 : decode cX9_word 25 = .ok (.bastore, 1) := by decide +kernel
theorem dX9_word_26 : decode cX9_word 26 = .ok (.aload_n 0, 1) := by decide +kernel
theorem dX9_word_27 : decode cX9_word 27 = .ok (.dup, 1) := by decide +kernel
theorem dX9_word_28 : decode cX9_word 28 = .ok (.getfield 46, 3) := by decide +kernel
theorem dX9_word_31 : decode cX9_word 31 = .ok (.iconst 1, 1) := by decide +kernel
theorem dX9_word_32 : decode cX9_word 32 = .ok (.iadd, 1) := by decide +kernel
theorem dX9_word_33 : decode cX9_word 33 = .ok (.putfield 46, 3) := by decide +kernel
theorem dX9_word_36 : decode cX9_word 36 = .ok (.iinc 2 1, 3) := by decide +kernel
theorem dX9_word_39 : decode cX9_word 39 = .ok (.goto (-37), 3) := by decide +kernel
theorem dX9_word_42 : decode cX9_word 42 = .ok (.return_, 1) := by decide +kernel
theorem dX9_end_0 : decode cX9_end 0 = .ok (.iload_n 1, 1) := by decide +kernel
theorem dX9_end_1 : decode cX9_end 1 = .ok (.ifCond .lt 11, 3) := by decide +kernel
theorem dX9_end_4 : decode cX9_end 4 = .ok (.iload_n 1, 1) := by decide +kernel
theorem dX9_end_5 : decode cX9_end 5 = .ok (.aload_n 0, 1) := by decide +kernel
theorem dX9_end_6 : decode cX9_end 6 = .ok (.getfield 46, 3) := by decide +kernel
theorem dX9_end_9 : decode cX9_end 9 = .ok (.if_icmp .le 5, 3) := by decide +kernel
theorem dX9_end_12 : decode cX9_end 12 = .ok (.iconst (-1), 1) := by decide +kernel
theorem dX9_end_13 : decode cX9_end 13 = .ok (.ireturn, 1) := by decide +kernel
theorem dX9_end_14 : decode cX9_end 14 = .ok (.aload_n 0, 1) := by decide +kernel
theorem dX9_end_15 : decode cX9_end 15 = .ok (.iload_n 1, 1) := by decide +kernel
theorem dX9_end_16 : decode cX9_end 16 = .ok (.putfield 46, 3) := by decide +kernel
theorem dX9_end_19 : decode cX9_end 19 = .ok (.iload_n 1, 1) := by decide +kernel
theorem dX9_end_20 : decode cX9_end 20 = .ok (.ireturn, 1) := by decide +kernel
theorem dX9_install_0 : decode cX9_install 0 = .ok (.aload_n 0, 1) := by decide +kernel
theorem dX9_install_1 : decode cX9_install 1 = .ok (.getfield 46, 3) := by decide +kernel
theorem dX9_install_4 : decode cX9_install 4 = .ok (.ldc 14, 2) := by decide +kernel
theorem dX9_install_6 : decode cX9_install 6 = .ok (.if_icmp .le 5, 3) := by decide +kernel
theorem dX9_install_9 : decode cX9_install 9 = .ok (.iconst (-1), 1) := by decide +kernel
theorem dX9_install_10 : decode cX9_install 10 = .ok (.ireturn, 1) := by decide +kernel
theorem dX9_install_11 : decode cX9_install 11 = .ok (.iconst 0, 1) := by decide +kernel
theorem dX9_install_12 : decode cX9_install 12 = .ok (.istore_n 1, 1) := by decide +kernel
theorem dX9_install_13 : decode cX9_install 13 = .ok (.iload_n 1, 1) := by decide +kernel
theorem dX9_install_14 : decode cX9_install 14 = .ok (.aload_n 0, 1) := by decide +kernel
theorem dX9_install_15 : decode cX9_install 15 = .ok (.getfield 46, 3) := by decide +kernel
theorem dX9_install_18 : decode cX9_install 18 = .ok (.if_icmp .ge 21, 3) := by decide +kernel
theorem dX9_install_21 : decode cX9_install 21 = .ok (.aload_n 0, 1) := by decide +kernel
theorem dX9_install_22 : decode cX9_install 22 = .ok (.getfield 15, 3) := by decide +kernel
theorem dX9_install_25 : decode cX9_install 25 = .ok (.iload_n 1, 1) := by decide +kernel
theorem dX9_install_26 : decode cX9_install 26 = .ok (.aload_n 0, 1) := by decide +kernel
theorem dX9_install_27 : decode cX9_install 27 = .ok (.getfield 10, 3) := by decide +kernel
theorem dX9_install_30 : decode cX9_install 30 = .ok (.iload_n 1, 1) := by decide +kernel
theorem dX9_install_31 : decode cX9_install 31 = .ok (.baload, 1) := by decide +kernel
theorem dX9_install_32 : decode cX9_install 32 = .ok (.bastore, 1) := by decide +kernel
theorem dX9_install_33 : decode cX9_install 33 = .ok (.iinc 1 1, 3) := by decide +kernel
theorem dX9_install_36 : decode cX9_install 36 = .ok (.goto (-23), 3) := by decide +kernel
theorem dX9_install_39 : decode cX9_install 39 = .ok (.aload_n 0, 1) := by decide +kernel
theorem dX9_install_40 : decode cX9_install 40 = .ok (.aload_n 0, 1) := by decide +kernel
theorem dX9_install_41 : decode cX9_install 41 = .ok (.getfield 46, 3) := by decide +kernel
theorem dX9_install_44 : decode cX9_install 44 = .ok (.putfield 54, 3) := by decide +kernel
theorem dX9_install_47 : decode cX9_install 47 = .ok (.aload_n 0, 1) := by decide +kernel
theorem dX9_install_48 : decode cX9_install 48 = .ok (.iconst 0, 1) := by decide +kernel
theorem dX9_install_49 : decode cX9_install 49 = .ok (.putfield 46, 3) := by decide +kernel
theorem dX9_install_52 : decode cX9_install 52 = .ok (.aload_n 0, 1) := by decide +kernel
theorem dX9_install_53 : decode cX9_install 53 = .ok (.iconst 0, 1) := by decide +kernel
theorem dX9_install_54 : decode cX9_install 54 = .ok (.putfield 57, 3) := by decide +kernel
theorem dX9_install_57 : decode cX9_install 57 = .ok (.aload_n 0, 1) := by decide +kernel
theorem dX9_install_58 : decode cX9_install 58 = .ok (.iconst 0, 1) := by decide +kernel
theorem dX9_install_59 : decode cX9_install 59 = .ok (.putfield 61, 3) := by decide +kernel
theorem dX9_install_62 : decode cX9_install 62 = .ok (.aload_n 0, 1) := by decide +kernel
theorem dX9_install_63 : decode cX9_install 63 = .ok (.iconst 0, 1) := by decide +kernel
theorem dX9_install_64 : decode cX9_install 64 = .ok (.putfield 64, 3) := by decide +kernel
theorem dX9_install_67 : decode cX9_install 67 = .ok (.aload_n 0, 1) := by decide +kernel
theorem dX9_install_68 : decode cX9_install 68 = .ok (.iconst 0, 1) := by decide +kernel
theorem dX9_install_69 : decode cX9_install 69 = .ok (.putfield 67, 3) := by decide +kernel
theorem dX9_install_72 : decode cX9_install 72 = .ok (.aload_n 0, 1) := by decide +kernel
theorem dX9_install_73 : decode cX9_install 73 = .ok (.iconst 0, 1) := by decide +kernel
theorem dX9_install_74 : decode cX9_install 74 = .ok (.putfield 70, 3) := by decide +kernel
theorem dX9_install_77 : decode cX9_install 77 = .ok (.aload_n 0, 1) := by decide +kernel
theorem dX9_install_78 : decode cX9_install 78 = .ok (.getfield 54, 3) := by decide +kernel
theorem dX9_install_81 : decode cX9_install 81 = .ok (.ireturn, 1) := by decide +kernel
theorem dX9_imageWord_0 : decode cX9_imageWord 0 = .ok (.lconst 0, 1) := by decide +kernel
theorem dX9_imageWord_1 : decode cX9_imageWord 1 = .ok (.lstore_n 2, 1) := by decide +kernel
theorem dX9_imageWord_2 : decode cX9_imageWord 2 = .ok (.iconst 0, 1) := by decide +kernel
theorem dX9_imageWord_3 : decode cX9_imageWord 3 = .ok (.istore 4, 2) := by decide +kernel
theorem dX9_imageWord_5 : decode cX9_imageWord 5 = .ok (.iload 4, 2) := by decide +kernel
theorem dX9_imageWord_7 : decode cX9_imageWord 7 = .ok (.iconst 4, 1) := by decide +kernel
theorem dX9_imageWord_8 : decode cX9_imageWord 8 = .ok (.if_icmp .ge 29, 3) := by decide +kernel
theorem dX9_imageWord_11 : decode cX9_imageWord 11 = .ok (.lload_n 2, 1) := by decide +kernel
theorem dX9_imageWord_12 : decode cX9_imageWord 12 = .ok (.bipush 8, 2) := by decide +kernel
theorem dX9_imageWord_14 : decode cX9_imageWord 14 = .ok (.lshl, 1) := by decide +kernel
theorem dX9_imageWord_15 : decode cX9_imageWord 15 = .ok (.aload_n 0, 1) := by decide +kernel
theorem dX9_imageWord_16 : decode cX9_imageWord 16 = .ok (.getfield 15, 3) := by decide +kernel
theorem dX9_imageWord_19 : decode cX9_imageWord 19 = .ok (.iload_n 1, 1) := by decide +kernel
theorem dX9_imageWord_20 : decode cX9_imageWord 20 = .ok (.iload 4, 2) := by decide +kernel
theorem dX9_imageWord_22 : decode cX9_imageWord 22 = .ok (.iadd, 1) := by decide +kernel
theorem dX9_imageWord_23 : decode cX9_imageWord 23 = .ok (.baload, 1) := by decide +kernel
theorem dX9_imageWord_24 : decode cX9_imageWord 24 = .ok (.sipush 255, 3) := by decide +kernel
theorem dX9_imageWord_27 : decode cX9_imageWord 27 = .ok (.iand, 1) := by decide +kernel
theorem dX9_imageWord_28 : decode cX9_imageWord 28 = .ok (.i2l, 1) := by decide +kernel
theorem dX9_imageWord_29 : decode cX9_imageWord 29 = .ok (.lor, 1) := by decide +kernel
theorem dX9_imageWord_30 : decode cX9_imageWord 30 = .ok (.lstore_n 2, 1) := by decide +kernel
theorem dX9_imageWord_31 : decode cX9_imageWord 31 = .ok (.iinc 4 1, 3) := by decide +kernel
theorem dX9_imageWord_34 : decode cX9_imageWord 34 = .ok (.goto (-29), 3) := by decide +kernel
theorem dX9_imageWord_37 : decode cX9_imageWord 37 = .ok (.lload_n 2, 1) := by decide +kernel
theorem dX9_imageWord_38 : decode cX9_imageWord 38 = .ok (.lreturn, 1) := by decide +kernel
theorem dX9_check_0 : decode cX9_check 0 = .ok (.iconst (-1), 1) := by decide +kernel
theorem dX9_check_1 : decode cX9_check 1 = .ok (.istore_n 3, 1) := by decide +kernel
theorem dX9_check_2 : decode cX9_check 2 = .ok (.iload_n 1, 1) := by decide +kernel
theorem dX9_check_3 : decode cX9_check 3 = .ok (.istore 4, 2) := by decide +kernel
theorem dX9_check_5 : decode cX9_check 5 = .ok (.iload 4, 2) := by decide +kernel
theorem dX9_check_7 : decode cX9_check 7 = .ok (.iload_n 2, 1) := by decide +kernel
theorem dX9_check_8 : decode cX9_check 8 = .ok (.if_icmp .ge 59, 3) := by decide +kernel
theorem dX9_check_11 : decode cX9_check 11 = .ok (.iload_n 3, 1) := by decide +kernel
theorem dX9_check_12 : decode cX9_check 12 = .ok (.aload_n 0, 1) := by decide +kernel
theorem dX9_check_13 : decode cX9_check 13 = .ok (.getfield 15, 3) := by decide +kernel
theorem dX9_check_16 : decode cX9_check 16 = .ok (.iload 4, 2) := by decide +kernel
theorem dX9_check_18 : decode cX9_check 18 = .ok (.baload, 1) := by decide +kernel
theorem dX9_check_19 : decode cX9_check 19 = .ok (.sipush 255, 3) := by decide +kernel
theorem dX9_check_22 : decode cX9_check 22 = .ok (.iand, 1) := by decide +kernel
theorem dX9_check_23 : decode cX9_check 23 = .ok (.ixor, 1) := by decide +kernel
theorem dX9_check_24 : decode cX9_check 24 = .ok (.istore_n 3, 1) := by decide +kernel
theorem dX9_check_25 : decode cX9_check 25 = .ok (.iconst 0, 1) := by decide +kernel
theorem dX9_check_26 : decode cX9_check 26 = .ok (.istore 5, 2) := by decide +kernel
theorem dX9_check_28 : decode cX9_check 28 = .ok (.iload 5, 2) := by decide +kernel
theorem dX9_check_30 : decode cX9_check 30 = .ok (.bipush 8, 2) := by decide +kernel
theorem dX9_check_32 : decode cX9_check 32 = .ok (.if_icmp .ge 29, 3) := by decide +kernel
