theorem dX0_writeHead_12 : decode cX0_writeHead 12 = .ok (.ldc 24, 2) := by decide +kernel
theorem dX0_writeHead_14 : decode cX0_writeHead 14 = .ok (.invokevirtual 26, 3) := by decide +kernel
theorem dX0_writeHead_17 : decode cX0_writeHead 17 = .ok (.aload_n 0, 1) := by decide +kernel
theorem dX0_writeHead_18 : decode cX0_writeHead 18 = .ok (.aload_n 1, 1) := by decide +kernel
theorem dX0_writeHead_19 : decode cX0_writeHead 19 = .ok (.invokevirtual 30, 3) := by decide +kernel
theorem dX0_writeHead_22 : decode cX0_writeHead 22 = .ok (.aload_n 0, 1) := by decide +kernel
theorem dX0_writeHead_23 : decode cX0_writeHead 23 = .ok (.getfield 17, 3) := by decide +kernel
theorem dX0_writeHead_26 : decode cX0_writeHead 26 = .ok (.ldc 34, 2) := by decide +kernel
theorem dX0_writeHead_28 : decode cX0_writeHead 28 = .ok (.invokevirtual 26, 3) := by decide +kernel
theorem dX0_writeHead_31 : decode cX0_writeHead 31 = .ok (.aload_n 1, 1) := by decide +kernel
theorem dX0_writeHead_32 : decode cX0_writeHead 32 = .ok (.getstatic 36, 3) := by decide +kernel
theorem dX0_writeHead_35 : decode cX0_writeHead 35 = .ok (.if_acmp .ne 17, 3) := by decide +kernel
theorem dX0_writeHead_38 : decode cX0_writeHead 38 = .ok (.aload_n 0, 1) := by decide +kernel
theorem dX0_writeHead_39 : decode cX0_writeHead 39 = .ok (.aload_n 2, 1) := by decide +kernel
theorem dX0_writeHead_40 : decode cX0_writeHead 40 = .ok (.iload_n 3, 1) := by decide +kernel
theorem dX0_writeHead_41 : decode cX0_writeHead 41 = .ok (.invokevirtual 42, 3) := by decide +kernel
theorem dX0_writeHead_44 : decode cX0_writeHead 44 = .ok (.aload 4, 2) := by decide +kernel
theorem dX0_writeHead_46 : decode cX0_writeHead 46 = .ok (.invokevirtual 48, 3) := by decide +kernel
theorem dX0_writeHead_49 : decode cX0_writeHead 49 = .ok (.goto 27, 3) := by decide +kernel
theorem dX0_writeHead_52 : decode cX0_writeHead 52 = .ok (.aload_n 1, 1) := by decide +kernel
theorem dX0_writeHead_53 : decode cX0_writeHead 53 = .ok (.getstatic 52, 3) := by decide +kernel
theorem dX0_writeHead_56 : decode cX0_writeHead 56 = .ok (.if_acmp .eq 20, 3) := by decide +kernel
theorem dX0_writeHead_59 : decode cX0_writeHead 59 = .ok (.aload_n 0, 1) := by decide +kernel
theorem dX0_writeHead_60 : decode cX0_writeHead 60 = .ok (.iconst 4, 1) := by decide +kernel
theorem dX0_writeHead_61 : decode cX0_writeHead 61 = .ok (.aload_n 1, 1) := by decide +kernel
theorem dX0_writeHead_62 : decode cX0_writeHead 62 = .ok (.getfield 55, 3) := by decide +kernel
theorem dX0_writeHead_65 : decode cX0_writeHead 65 = .ok (.invokevirtual 59, 3) := by decide +kernel
theorem dX0_writeHead_68 : decode cX0_writeHead 68 = .ok (.iadd, 1) := by decide +kernel
theorem dX0_writeHead_69 : decode cX0_writeHead 69 = .ok (.iconst 1, 1) := by decide +kernel
theorem dX0_writeHead_70 : decode cX0_writeHead 70 = .ok (.iadd, 1) := by decide +kernel
theorem dX0_writeHead_71 : decode cX0_writeHead 71 = .ok (.ldc 65, 2) := by decide +kernel
theorem dX0_writeHead_73 : decode cX0_writeHead 73 = .ok (.invokevirtual 48, 3) := by decide +kernel
theorem dX0_writeHead_76 : decode cX0_writeHead 76 = .ok (.aload_n 1, 1) := by decide +kernel
theorem dX0_writeHead_77 : decode cX0_writeHead 77 = .ok (.getstatic 36, 3) := by decide +kernel
theorem dX0_writeHead_80 : decode cX0_writeHead 80 = .ok (.if_acmp .eq 10, 3) := by decide +kernel
theorem dX0_writeHead_83 : decode cX0_writeHead 83 = .ok (.aload_n 1, 1) := by decide +kernel
theorem dX0_writeHead_84 : decode cX0_writeHead 84 = .ok (.getstatic 52, 3) := by decide +kernel
theorem dX0_writeHead_87 : decode cX0_writeHead 87 = .ok (.if_acmp .ne 12, 3) := by decide +kernel
theorem dX0_writeHead_90 : decode cX0_writeHead 90 = .ok (.aload_n 0, 1) := by decide +kernel
theorem dX0_writeHead_91 : decode cX0_writeHead 91 = .ok (.aload_n 2, 1) := by decide +kernel
theorem dX0_writeHead_92 : decode cX0_writeHead 92 = .ok (.iload_n 3, 1) := by decide +kernel
theorem dX0_writeHead_93 : decode cX0_writeHead 93 = .ok (.invokevirtual 67, 3) := by decide +kernel
theorem dX0_writeHead_96 : decode cX0_writeHead 96 = .ok (.invokevirtual 70, 3) := by decide +kernel
theorem dX0_writeHead_99 : decode cX0_writeHead 99 = .ok (.aload_n 1, 1) := by decide +kernel
theorem dX0_writeHead_100 : decode cX0_writeHead 100 = .ok (.getstatic 73, 3) := by decide +kernel
theorem dX0_writeHead_103 : decode cX0_writeHead 103 = .ok (.if_acmp .ne 12, 3) := by decide +kernel
theorem dX0_writeHead_106 : decode cX0_writeHead 106 = .ok (.aload_n 0, 1) := by decide +kernel
theorem dX0_writeHead_107 : decode cX0_writeHead 107 = .ok (.getfield 17, 3) := by decide +kernel
theorem dX0_writeHead_110 : decode cX0_writeHead 110 = .ok (.ldc 76, 2) := by decide +kernel
theorem dX0_writeHead_112 : decode cX0_writeHead 112 = .ok (.invokevirtual 26, 3) := by decide +kernel
theorem dX0_writeHead_115 : decode cX0_writeHead 115 = .ok (.iload 5, 2) := by decide +kernel
theorem dX0_writeHead_117 : decode cX0_writeHead 117 = .ok (.ifCond .eq 12, 3) := by decide +kernel
theorem dX0_writeHead_120 : decode cX0_writeHead 120 = .ok (.aload_n 0, 1) := by decide +kernel
theorem dX0_writeHead_121 : decode cX0_writeHead 121 = .ok (.getfield 17, 3) := by decide +kernel
theorem dX0_writeHead_124 : decode cX0_writeHead 124 = .ok (.ldc 78, 2) := by decide +kernel
theorem dX0_writeHead_126 : decode cX0_writeHead 126 = .ok (.invokevirtual 26, 3) := by decide +kernel
theorem dX0_writeHead_129 : decode cX0_writeHead 129 = .ok (.aload_n 0, 1) := by decide +kernel
theorem dX0_writeHead_130 : decode cX0_writeHead 130 = .ok (.getfield 17, 3) := by decide +kernel
theorem dX0_writeHead_133 : decode cX0_writeHead 133 = .ok (.ldc 34, 2) := by decide +kernel
theorem dX0_writeHead_135 : decode cX0_writeHead 135 = .ok (.invokevirtual 26, 3) := by decide +kernel
theorem dX0_writeHead_138 : decode cX0_writeHead 138 = .ok (.return_, 1) := by decide +kernel
set_option maxRecDepth 20000 in
theorem ggX0_writeBody_X6_placeOf : GoodIn wsX0_writeBody wsX6_placeOf := goodIn_r _ [8, 9, 10, 11, 12, 13, 14, 15, 16, 17, 18, 19, 20, 114, 115, 116, 117, 118, 119] (by decide +kernel) (by decide +kernel)
set_option maxRecDepth 20000 in
theorem gX0_writeBody_X6_placeOf : GoodIn wsX0_writeBody (wsV RX0 83 RX6 yX6_placeOf wsX6_placeOf) := goodIn_app (goodIn_of _ (by decide +kernel)) ggX0_writeBody_X6_placeOf
set_option maxRecDepth 20000 in
theorem ggX0_writeBody_X6_lengthOf : GoodIn wsX0_writeBody wsX6_lengthOf := goodIn_r _ [24, 9, 10, 11, 12, 13, 14, 15, 16, 17, 18, 19, 20, 114, 115, 116, 117, 118, 119] (by decide +kernel) (by decide +kernel)
set_option maxRecDepth 20000 in
theorem gX0_writeBody_X6_lengthOf : GoodIn wsX0_writeBody (wsV RX0 42 RX6 yX6_lengthOf wsX6_lengthOf) := goodIn_app (goodIn_of _ (by decide +kernel)) ggX0_writeBody_X6_lengthOf
set_option maxRecDepth 20000 in
theorem ggX0_writeBody_X4_addRange : GoodIn wsX0_writeBody wsX4_addRange := goodIn_r _ [28, 15, 20, 29, 30, 31, 32, 33, 34, 35, 13, 36, 37, 38, 39, 40, 41, 42, 43, 44, 45, 117, 118, 119] (by decide +kernel) (by decide +kernel)
set_option maxRecDepth 20000 in
theorem gX0_writeBody_X4_addRange : GoodIn wsX0_writeBody (wsV RX0 86 RX4 yX4_addRange wsX4_addRange) := goodIn_app (goodIn_of _ (by decide +kernel)) ggX0_writeBody_X4_addRange
set_option maxRecDepth 20000 in
theorem ggX0_writeBody_X0_writeStatus : GoodIn wsX0_writeBody wsX0_writeStatus := goodIn_r _ [50, 2, 51, 52, 53, 13, 54, 55, 56, 57, 58, 20, 15, 33, 34, 35, 36, 37, 38, 39, 40, 41, 42, 43, 44, 45, 29, 30, 31, 32, 59, 60, 61, 62, 63, 64, 65, 66, 67, 68, 69, 70, 71, 72, 73, 74, 75, 76, 77, 78, 79, 80, 81, 82, 83, 84, 85, 86, 87, 88, 89, 90, 91, 92, 93, 94, 95, 96, 97, 98, 99, 100, 101, 102, 103, 104, 105, 106, 107, 108, 109, 110, 111, 112, 113, 117, 118, 119] (by decide +kernel) (by decide +kernel)
set_option maxRecDepth 20000 in
theorem gX0_writeBody_X0_writeStatus : GoodIn wsX0_writeBody (wsV RX0 30 RX0 yX0_writeStatus wsX0_writeStatus) := goodIn_app (goodIn_of _ (by decide +kernel)) ggX0_writeBody_X0_writeStatus
set_option maxRecDepth 20000 in
theorem ggX0_writeBody_X4_add : GoodIn wsX0_writeBody wsX4_add := goodIn_r _ [58, 20, 15, 33, 34, 35, 13, 36, 37, 38, 39, 40, 41, 42, 43, 44, 45, 29, 30, 31, 32, 117, 118, 119] (by decide +kernel) (by decide +kernel)
set_option maxRecDepth 20000 in
theorem gX0_writeBody_X4_add : GoodIn wsX0_writeBody (wsV RX0 90 RX4 yX4_add wsX4_add) := goodIn_app (goodIn_of _ (by decide +kernel)) ggX0_writeBody_X4_add
theorem dX0_writeBody_0 : decode cX0_writeBody 0 = .ok (.aload_n 1, 1) := by decide +kernel
theorem dX0_writeBody_1 : decode cX0_writeBody 1 = .ok (.getstatic 36, 3) := by decide +kernel
theorem dX0_writeBody_4 : decode cX0_writeBody 4 = .ok (.if_acmp .ne 27, 3) := by decide +kernel
theorem dX0_writeBody_7 : decode cX0_writeBody 7 = .ok (.aload_n 0, 1) := by decide +kernel
theorem dX0_writeBody_8 : decode cX0_writeBody 8 = .ok (.getfield 17, 3) := by decide +kernel
theorem dX0_writeBody_11 : decode cX0_writeBody 11 = .ok (.aload_n 2, 1) := by decide +kernel
theorem dX0_writeBody_12 : decode cX0_writeBody 12 = .ok (.getfield 80, 3) := by decide +kernel
theorem dX0_writeBody_15 : decode cX0_writeBody 15 = .ok (.aload_n 2, 1) := by decide +kernel
theorem dX0_writeBody_16 : decode cX0_writeBody 16 = .ok (.iload_n 3, 1) := by decide +kernel
theorem dX0_writeBody_17 : decode cX0_writeBody 17 = .ok (.invokevirtual 83, 3) := by decide +kernel
theorem dX0_writeBody_20 : decode cX0_writeBody 20 = .ok (.aload_n 2, 1) := by decide +kernel
theorem dX0_writeBody_21 : decode cX0_writeBody 21 = .ok (.iload_n 3, 1) := by decide +kernel
theorem dX0_writeBody_22 : decode cX0_writeBody 22 = .ok (.invokevirtual 42, 3) := by decide +kernel
theorem dX0_writeBody_25 : decode cX0_writeBody 25 = .ok (.invokevirtual 86, 3) := by decide +kernel
theorem dX0_writeBody_28 : decode cX0_writeBody 28 = .ok (.goto 24, 3) := by decide +kernel
theorem dX0_writeBody_31 : decode cX0_writeBody 31 = .ok (.aload_n 1, 1) := by decide +kernel
theorem dX0_writeBody_32 : decode cX0_writeBody 32 = .ok (.getstatic 52, 3) := by decide +kernel
theorem dX0_writeBody_35 : decode cX0_writeBody 35 = .ok (.if_acmp .eq 17, 3) := by decide +kernel
theorem dX0_writeBody_38 : decode cX0_writeBody 38 = .ok (.aload_n 0, 1) := by decide +kernel
theorem dX0_writeBody_39 : decode cX0_writeBody 39 = .ok (.aload_n 1, 1) := by decide +kernel
theorem dX0_writeBody_40 : decode cX0_writeBody 40 = .ok (.invokevirtual 30, 3) := by decide +kernel
theorem dX0_writeBody_43 : decode cX0_writeBody 43 = .ok (.aload_n 0, 1) := by decide +kernel
theorem dX0_writeBody_44 : decode cX0_writeBody 44 = .ok (.getfield 17, 3) := by decide +kernel
theorem dX0_writeBody_47 : decode cX0_writeBody 47 = .ok (.bipush 10, 2) := by decide +kernel
theorem dX0_writeBody_49 : decode cX0_writeBody 49 = .ok (.invokevirtual 90, 3) := by decide +kernel
theorem dX0_writeBody_52 : decode cX0_writeBody 52 = .ok (.return_, 1) := by decide +kernel
set_option maxRecDepth 20000 in
theorem ggX0_writeStatus_X4_addNumber : GoodIn wsX0_writeStatus wsX4_addNumber := goodIn_r _ [6, 7, 8, 9, 5, 10, 11, 12, 13, 14, 15, 16, 17, 18, 19, 20, 21, 22, 23, 24, 25, 26, 27, 28, 29, 85, 86, 87] (by decide +kernel) (by decide +kernel)
set_option maxRecDepth 20000 in
theorem gX0_writeStatus_X4_addNumber : GoodIn wsX0_writeStatus (wsV RX0 97 RX4 yX4_addNumber wsX4_addNumber) := goodIn_app (goodIn_of _ (by decide +kernel)) ggX0_writeStatus_X4_addNumber
set_option maxRecDepth 20000 in
theorem ggX0_writeStatus_X4_add : GoodIn wsX0_writeStatus wsX4_add := goodIn_r _ [10, 11, 12, 13, 14, 15, 5, 16, 17, 18, 19, 20, 21, 22, 23, 24, 25, 26, 27, 28, 29, 85, 86, 87] (by decide +kernel) (by decide +kernel)
set_option maxRecDepth 20000 in
theorem gX0_writeStatus_X4_add : GoodIn wsX0_writeStatus (wsV RX0 90 RX4 yX4_add wsX4_add) := goodIn_app (goodIn_of _ (by decide +kernel)) ggX0_writeStatus_X4_add
set_option maxRecDepth 20000 in
theorem ggX0_writeStatus_X4_addText : GoodIn wsX0_writeStatus wsX4_addText := goodIn_r _ [34, 35, 36, 37, 38, 39, 40, 41, 42, 43, 44, 45, 46, 47, 48, 49, 50, 51, 52, 53, 54, 55, 56, 57, 58, 59, 60, 61, 62, 63, 64, 65, 66, 67, 68, 69, 70, 71, 72, 73, 74, 75, 76, 77, 78, 79, 80, 81, 82, 83, 7, 8, 9, 5, 10, 11, 12, 13, 14, 15, 16, 17, 18, 19, 20, 21, 22, 23, 24, 25, 26, 27, 28, 29, 85, 86, 87] (by decide +kernel) (by decide +kernel)
set_option maxRecDepth 20000 in
theorem gX0_writeStatus_X4_addText : GoodIn wsX0_writeStatus (wsV RX0 26 RX4 yX4_addText wsX4_addText) := goodIn_app (goodIn_of _ (by decide +kernel)) ggX0_writeStatus_X4_addText
theorem dX0_writeStatus_0 : decode cX0_writeStatus 0 = .ok (.aload_n 0, 1) := by decide +kernel
theorem dX0_writeStatus_1 : decode cX0_writeStatus 1 = .ok (.getfield 17, 3) := by decide +kernel
theorem dX0_writeStatus_4 : decode cX0_writeStatus 4 = .ok (.aload_n 1, 1) := by decide +kernel
theorem dX0_writeStatus_5 : decode cX0_writeStatus 5 = .ok (.getfield 93, 3) := by decide +kernel
theorem dX0_writeStatus_8 : decode cX0_writeStatus 8 = .ok (.invokevirtual 97, 3) := by decide +kernel
theorem dX0_writeStatus_11 : decode cX0_writeStatus 11 = .ok (.aload_n 0, 1) := by decide +kernel
theorem dX0_writeStatus_12 : decode cX0_writeStatus 12 = .ok (.getfield 17, 3) := by decide +kernel
theorem dX0_writeStatus_15 : decode cX0_writeStatus 15 = .ok (.bipush 32, 2) := by decide +kernel
theorem dX0_writeStatus_17 : decode cX0_writeStatus 17 = .ok (.invokevirtual 90, 3) := by decide +kernel
theorem dX0_writeStatus_20 : decode cX0_writeStatus 20 = .ok (.aload_n 0, 1) := by decide +kernel
theorem dX0_writeStatus_21 : decode cX0_writeStatus 21 = .ok (.getfield 17, 3) := by decide +kernel
theorem dX0_writeStatus_24 : decode cX0_writeStatus 24 = .ok (.aload_n 1, 1) := by decide +kernel
theorem dX0_writeStatus_25 : decode cX0_writeStatus 25 = .ok (.getfield 55, 3) := by decide +kernel
theorem dX0_writeStatus_28 : decode cX0_writeStatus 28 = .ok (.invokevirtual 26, 3) := by decide +kernel
theorem dX0_writeStatus_31 : decode cX0_writeStatus 31 = .ok (.return_, 1) := by decide +kernel
set_option maxRecDepth 20000 in
theorem ggX0_writeContent_X4_addText : GoodIn wsX0_writeContent wsX4_addText := goodIn_r _ [6, 7, 8, 9, 10, 11, 12, 13, 14, 15, 16, 17, 18, 19, 20, 21, 22, 23, 24, 25, 26, 27, 28, 29, 30, 31, 32, 33, 34, 35, 36, 37, 38, 39, 40, 41, 42, 43, 44, 45, 46, 47, 48, 49, 50, 51, 52, 53, 54, 55, 56, 57, 58, 5, 59, 60, 61, 62, 63, 64, 65, 66, 67, 68, 69, 70, 71, 72, 73, 74, 75, 76, 77, 78, 84, 85, 86] (by decide +kernel) (by decide +kernel)
set_option maxRecDepth 20000 in
theorem gX0_writeContent_X4_addText : GoodIn wsX0_writeContent (wsV RX0 26 RX4 yX4_addText wsX4_addText) := goodIn_app (goodIn_of _ (by decide +kernel)) ggX0_writeContent_X4_addText
set_option maxRecDepth 20000 in
theorem ggX0_writeContent_X4_addNumber : GoodIn wsX0_writeContent wsX4_addNumber := goodIn_r _ [82, 56, 57, 58, 5, 59, 60, 61, 62, 63, 64, 65, 66, 67, 68, 69, 70, 71, 72, 73, 74, 75, 76, 77, 78, 84, 85, 86] (by decide +kernel) (by decide +kernel)
set_option maxRecDepth 20000 in
theorem gX0_writeContent_X4_addNumber : GoodIn wsX0_writeContent (wsV RX0 97 RX4 yX4_addNumber wsX4_addNumber) := goodIn_app (goodIn_of _ (by decide +kernel)) ggX0_writeContent_X4_addNumber
theorem dX0_writeContent_0 : decode cX0_writeContent 0 = .ok (.aload_n 0, 1) := by decide +kernel
theorem dX0_writeContent_1 : decode cX0_writeContent 1 = .ok (.getfield 17, 3) := by decide +kernel
theorem dX0_writeContent_4 : decode cX0_writeContent 4 = .ok (.ldc 100, 2) := by decide +kernel
theorem dX0_writeContent_6 : decode cX0_writeContent 6 = .ok (.invokevirtual 26, 3) := by decide +kernel
theorem dX0_writeContent_9 : decode cX0_writeContent 9 = .ok (.aload_n 0, 1) := by decide +kernel
theorem dX0_writeContent_10 : decode cX0_writeContent 10 = .ok (.getfield 17, 3) := by decide +kernel
theorem dX0_writeContent_13 : decode cX0_writeContent 13 = .ok (.iload_n 1, 1) := by decide +kernel
theorem dX0_writeContent_14 : decode cX0_writeContent 14 = .ok (.invokevirtual 97, 3) := by decide +kernel
theorem dX0_writeContent_17 : decode cX0_writeContent 17 = .ok (.aload_n 0, 1) := by decide +kernel
theorem dX0_writeContent_18 : decode cX0_writeContent 18 = .ok (.getfield 17, 3) := by decide +kernel
theorem dX0_writeContent_21 : decode cX0_writeContent 21 = .ok (.ldc 102, 2) := by decide +kernel
theorem dX0_writeContent_23 : decode cX0_writeContent 23 = .ok (.invokevirtual 26, 3) := by decide +kernel
theorem dX0_writeContent_26 : decode cX0_writeContent 26 = .ok (.aload_n 0, 1) := by decide +kernel
theorem dX0_writeContent_27 : decode cX0_writeContent 27 = .ok (.getfield 17, 3) := by decide +kernel
theorem dX0_writeContent_30 : decode cX0_writeContent 30 = .ok (.aload_n 2, 1) := by decide +kernel
theorem dX0_writeContent_31 : decode cX0_writeContent 31 = .ok (.invokevirtual 26, 3) := by decide +kernel
theorem dX0_writeContent_34 : decode cX0_writeContent 34 = .ok (.aload_n 0, 1) := by decide +kernel
theorem dX0_writeContent_35 : decode cX0_writeContent 35 = .ok (.getfield 17, 3) := by decide +kernel
theorem dX0_writeContent_38 : decode cX0_writeContent 38 = .ok (.ldc 34, 2) := by decide +kernel
theorem dX0_writeContent_40 : decode cX0_writeContent 40 = .ok (.invokevirtual 26, 3) := by decide +kernel
theorem dX0_writeContent_43 : decode cX0_writeContent 43 = .ok (.return_, 1) := by decide +kernel
set_option maxRecDepth 20000 in
theorem ggX0_writeMark_X4_addText : GoodIn wsX0_writeMark wsX4_addText := goodIn_r _ [6, 7, 8, 9, 10, 11, 12, 13, 14, 15, 16, 17, 18, 19, 20, 21, 22, 23, 24, 25, 26, 27, 28, 29, 30, 31, 32, 33, 34, 35, 36, 37, 38, 39, 40, 41, 42, 43, 44, 45, 46, 47, 48, 49, 50, 51, 52, 53, 54, 55, 56, 57, 58, 5, 59, 60, 61, 62, 63, 64, 65, 66, 67, 68, 69, 70, 71, 72, 73, 74, 75, 76, 77, 78, 86, 87, 88] (by decide +kernel) (by decide +kernel)
set_option maxRecDepth 20000 in
theorem gX0_writeMark_X4_addText : GoodIn wsX0_writeMark (wsV RX0 26 RX4 yX4_addText wsX4_addText) := goodIn_app (goodIn_of _ (by decide +kernel)) ggX0_writeMark_X4_addText
set_option maxRecDepth 20000 in
theorem ggX0_writeMark_X1_ofMark : GoodIn wsX0_writeMark wsX1_ofMark := goodIn_r _ [82, 83, 20, 21, 10, 22, 12, 23, 24, 25, 26, 17, 18, 27, 28, 29, 30, 31, 32, 33, 34, 35, 36, 37, 38, 39, 40, 41, 42, 43, 44, 45, 46, 47, 48, 49, 50, 51, 52, 53, 54, 55] (by decide +kernel) (by decide +kernel)
set_option maxRecDepth 20000 in
theorem gX0_writeMark_X1_ofMark : GoodIn wsX0_writeMark (va_wsS RX0 108 yX1_ofMark wsX1_ofMark) := goodIn_app (goodIn_of _ (by decide +kernel)) ggX0_writeMark_X1_ofMark
set_option maxRecDepth 20000 in
theorem ggX0_writeMark_X4_add : GoodIn wsX0_writeMark wsX4_add := goodIn_r _ [59, 60, 61, 62, 63, 64, 5, 65, 66, 67, 68, 69, 70, 71, 72, 73, 74, 75, 76, 77, 78, 86, 87, 88] (by decide +kernel) (by decide +kernel)
set_option maxRecDepth 20000 in
theorem gX0_writeMark_X4_add : GoodIn wsX0_writeMark (wsV RX0 90 RX4 yX4_add wsX4_add) := goodIn_app (goodIn_of _ (by decide +kernel)) ggX0_writeMark_X4_add
theorem dX0_writeMark_0 : decode cX0_writeMark 0 = .ok (.aload_n 0, 1) := by decide +kernel
theorem dX0_writeMark_1 : decode cX0_writeMark 1 = .ok (.getfield 17, 3) := by decide +kernel
theorem dX0_writeMark_4 : decode cX0_writeMark 4 = .ok (.ldc 104, 2) := by decide +kernel
theorem dX0_writeMark_6 : decode cX0_writeMark 6 = .ok (.invokevirtual 26, 3) := by decide +kernel
theorem dX0_writeMark_9 : decode cX0_writeMark 9 = .ok (.iconst 0, 1) := by decide +kernel
theorem dX0_writeMark_10 : decode cX0_writeMark 10 = .ok (.istore_n 2, 1) := by decide +kernel
theorem dX0_writeMark_11 : decode cX0_writeMark 11 = .ok (.iload_n 2, 1) := by decide +kernel
theorem dX0_writeMark_12 : decode cX0_writeMark 12 = .ok (.bipush 10, 2) := by decide +kernel
theorem dX0_writeMark_14 : decode cX0_writeMark 14 = .ok (.if_icmp .ge 21, 3) := by decide +kernel
theorem dX0_writeMark_17 : decode cX0_writeMark 17 = .ok (.aload_n 0, 1) := by decide +kernel
theorem dX0_writeMark_18 : decode cX0_writeMark 18 = .ok (.getfield 17, 3) := by decide +kernel
theorem dX0_writeMark_21 : decode cX0_writeMark 21 = .ok (.iload_n 1, 1) := by decide +kernel
theorem dX0_writeMark_22 : decode cX0_writeMark 22 = .ok (.iload_n 2, 1) := by decide +kernel
theorem dX0_writeMark_23 : decode cX0_writeMark 23 = .ok (.invokestatic 108, 3) := by decide +kernel
theorem dX0_writeMark_26 : decode cX0_writeMark 26 = .ok (.invokevirtual 90, 3) := by decide +kernel
theorem dX0_writeMark_29 : decode cX0_writeMark 29 = .ok (.iinc 2 1, 3) := by decide +kernel
theorem dX0_writeMark_32 : decode cX0_writeMark 32 = .ok (.goto (-21), 3) := by decide +kernel
theorem dX0_writeMark_35 : decode cX0_writeMark 35 = .ok (.aload_n 0, 1) := by decide +kernel
theorem dX0_writeMark_36 : decode cX0_writeMark 36 = .ok (.getfield 17, 3) := by decide +kernel
theorem dX0_writeMark_39 : decode cX0_writeMark 39 = .ok (.ldc 34, 2) := by decide +kernel
theorem dX0_writeMark_41 : decode cX0_writeMark 41 = .ok (.invokevirtual 26, 3) := by decide +kernel
theorem dX0_writeMark_44 : decode cX0_writeMark 44 = .ok (.return_, 1) := by decide +kernel
theorem dX1_isGreat_0 : decode cX1_isGreat 0 = .ok (.iload_n 0, 1) := by decide +kernel
theorem dX1_isGreat_1 : decode cX1_isGreat 1 = .ok (.bipush 65, 2) := by decide +kernel
theorem dX1_isGreat_3 : decode cX1_isGreat 3 = .ok (.if_icmp .lt 13, 3) := by decide +kernel
theorem dX1_isGreat_6 : decode cX1_isGreat 6 = .ok (.iload_n 0, 1) := by decide +kernel
theorem dX1_isGreat_7 : decode cX1_isGreat 7 = .ok (.bipush 90, 2) := by decide +kernel
theorem dX1_isGreat_9 : decode cX1_isGreat 9 = .ok (.if_icmp .gt 7, 3) := by decide +kernel
theorem dX1_isGreat_12 : decode cX1_isGreat 12 = .ok (.iconst 1, 1) := by decide +kernel
theorem dX1_isGreat_13 : decode cX1_isGreat 13 = .ok (.goto 4, 3) := by decide +kernel
theorem dX1_isGreat_16 : decode cX1_isGreat 16 = .ok (.iconst 0, 1) := by decide +kernel
theorem dX1_isGreat_17 : decode cX1_isGreat 17 = .ok (.ireturn, 1) := by decide +kernel
theorem dX1_isDigit_0 : decode cX1_isDigit 0 = .ok (.iload_n 0, 1) := by decide +kernel
theorem dX1_isDigit_1 : decode cX1_isDigit 1 = .ok (.bipush 48, 2) := by decide +kernel
theorem dX1_isDigit_3 : decode cX1_isDigit 3 = .ok (.if_icmp .lt 13, 3) := by decide +kernel
theorem dX1_isDigit_6 : decode cX1_isDigit 6 = .ok (.iload_n 0, 1) := by decide +kernel
theorem dX1_isDigit_7 : decode cX1_isDigit 7 = .ok (.bipush 57, 2) := by decide +kernel
theorem dX1_isDigit_9 : decode cX1_isDigit 9 = .ok (.if_icmp .gt 7, 3) := by decide +kernel
theorem dX1_isDigit_12 : decode cX1_isDigit 12 = .ok (.iconst 1, 1) := by decide +kernel
theorem dX1_isDigit_13 : decode cX1_isDigit 13 = .ok (.goto 4, 3) := by decide +kernel
theorem dX1_isDigit_16 : decode cX1_isDigit 16 = .ok (.iconst 0, 1) := by decide +kernel
theorem dX1_isDigit_17 : decode cX1_isDigit 17 = .ok (.ireturn, 1) := by decide +kernel
theorem dX1_isVisible_0 : decode cX1_isVisible 0 = .ok (.iload_n 0, 1) := by decide +kernel
theorem dX1_isVisible_1 : decode cX1_isVisible 1 = .ok (.bipush 33, 2) := by decide +kernel
theorem dX1_isVisible_3 : decode cX1_isVisible 3 = .ok (.if_icmp .lt 13, 3) := by decide +kernel
theorem dX1_isVisible_6 : decode cX1_isVisible 6 = .ok (.iload_n 0, 1) := by decide +kernel
theorem dX1_isVisible_7 : decode cX1_isVisible 7 = .ok (.bipush 126, 2) := by decide +kernel
theorem dX1_isVisible_9 : decode cX1_isVisible 9 = .ok (.if_icmp .gt 7, 3) := by decide +kernel
theorem dX1_isVisible_12 : decode cX1_isVisible 12 = .ok (.iconst 1, 1) := by decide +kernel
theorem dX1_isVisible_13 : decode cX1_isVisible 13 = .ok (.goto 4, 3) := by decide +kernel
theorem dX1_isVisible_16 : decode cX1_isVisible 16 = .ok (.iconst 0, 1) := by decide +kernel
theorem dX1_isVisible_17 : decode cX1_isVisible 17 = .ok (.ireturn, 1) := by decide +kernel
set_option maxRecDepth 20000 in
theorem ggX1_isOfName_X1_isGreat : GoodIn wsX1_isOfName wsX1_isGreat := goodIn_r _ [4] (by decide +kernel) (by decide +kernel)
set_option maxRecDepth 20000 in
theorem gX1_isOfName_X1_isGreat : GoodIn wsX1_isOfName (va_wsS RX1 9 yX1_isGreat wsX1_isGreat) := goodIn_app (goodIn_of _ (by decide +kernel)) ggX1_isOfName_X1_isGreat
set_option maxRecDepth 20000 in
theorem ggX1_isOfName_X1_isDigit : GoodIn wsX1_isOfName wsX1_isDigit := goodIn_r _ [7] (by decide +kernel) (by decide +kernel)
set_option maxRecDepth 20000 in
theorem gX1_isOfName_X1_isDigit : GoodIn wsX1_isOfName (va_wsS RX1 15 yX1_isDigit wsX1_isDigit) := goodIn_app (goodIn_of _ (by decide +kernel)) ggX1_isOfName_X1_isDigit
set_option maxRecDepth 20000 in
theorem ggX1_isOfName_X1_isVisible : GoodIn wsX1_isOfName wsX1_isVisible := goodIn_r _ [10] (by decide +kernel) (by decide +kernel)
set_option maxRecDepth 20000 in
theorem gX1_isOfName_X1_isVisible : GoodIn wsX1_isOfName (va_wsS RX1 18 yX1_isVisible wsX1_isVisible) := goodIn_app (goodIn_of _ (by decide +kernel)) ggX1_isOfName_X1_isVisible
set_option maxRecDepth 20000 in
theorem ggX1_isOfName_J0_indexOf_0f7a4 : GoodIn wsX1_isOfName wsJ0_indexOf_0f7a4 := goodIn_r _ [15, 16, 17, 18, 14, 19, 20, 21, 22, 23, 24, 25, 26, 27, 28, 29, 30, 31, 32, 33, 34, 35, 36, 37, 38, 39, 40, 41, 42, 43, 44, 45, 46, 47, 48, 49, 50, 51, 52, 53, 54, 55, 56, 57, 58, 59, 60, 61, 62, 63, 64, 65, 66, 67, 68, 69, 70, 71, 72, 73, 74, 75, 76, 77, 78, 79, 80, 81, 82, 83, 84, 85, 86, 87, 88, 89, 90, 91, 92, 93, 94, 95, 96, 97, 98, 99] (by decide +kernel) (by decide +kernel)
set_option maxRecDepth 20000 in
theorem gX1_isOfName_J0_indexOf_0f7a4 : GoodIn wsX1_isOfName (wsV RX1 23 RJ0 yJ0_indexOf_0f7a4 wsJ0_indexOf_0f7a4) := goodIn_app (goodIn_of _ (by decide +kernel)) ggX1_isOfName_J0_indexOf_0f7a4
theorem dX1_isOfName_0 : decode cX1_isOfName 0 = .ok (.iload_n 0, 1) := by decide +kernel
theorem dX1_isOfName_1 : decode cX1_isOfName 1 = .ok (.invokestatic 9, 3) := by decide +kernel
theorem dX1_isOfName_4 : decode cX1_isOfName 4 = .ok (.ifCond .ne 39, 3) := by decide +kernel
theorem dX1_isOfName_7 : decode cX1_isOfName 7 = .ok (.iload_n 0, 1) := by decide +kernel
theorem dX1_isOfName_8 : decode cX1_isOfName 8 = .ok (.invokestatic 15, 3) := by decide +kernel
theorem dX1_isOfName_11 : decode cX1_isOfName 11 = .ok (.ifCond .ne 32, 3) := by decide +kernel
theorem dX1_isOfName_14 : decode cX1_isOfName 14 = .ok (.iload_n 0, 1) := by decide +kernel
theorem dX1_isOfName_15 : decode cX1_isOfName 15 = .ok (.bipush 97, 2) := by decide +kernel
theorem dX1_isOfName_17 : decode cX1_isOfName 17 = .ok (.if_icmp .lt 9, 3) := by decide +kernel
theorem dX1_isOfName_20 : decode cX1_isOfName 20 = .ok (.iload_n 0, 1) := by decide +kernel
theorem dX1_isOfName_21 : decode cX1_isOfName 21 = .ok (.bipush 122, 2) := by decide +kernel
theorem dX1_isOfName_23 : decode cX1_isOfName 23 = .ok (.if_icmp .le 20, 3) := by decide +kernel
theorem dX1_isOfName_26 : decode cX1_isOfName 26 = .ok (.iload_n 0, 1) := by decide +kernel
theorem dX1_isOfName_27 : decode cX1_isOfName 27 = .ok (.invokestatic 18, 3) := by decide +kernel
theorem dX1_isOfName_30 : decode cX1_isOfName 30 = .ok (.ifCond .eq 17, 3) := by decide +kernel
theorem dX1_isOfName_33 : decode cX1_isOfName 33 = .ok (.ldc 21, 2) := by decide +kernel
theorem dX1_isOfName_35 : decode cX1_isOfName 35 = .ok (.iload_n 0, 1) := by decide +kernel
theorem dX1_isOfName_36 : decode cX1_isOfName 36 = .ok (.i2c, 1) := by decide +kernel
theorem dX1_isOfName_37 : decode cX1_isOfName 37 = .ok (.invokevirtual 23, 3) := by decide +kernel
theorem dX1_isOfName_40 : decode cX1_isOfName 40 = .ok (.ifCond .lt 7, 3) := by decide +kernel
theorem dX1_isOfName_43 : decode cX1_isOfName 43 = .ok (.iconst 1, 1) := by decide +kernel
theorem dX1_isOfName_44 : decode cX1_isOfName 44 = .ok (.goto 4, 3) := by decide +kernel
theorem dX1_isOfName_47 : decode cX1_isOfName 47 = .ok (.iconst 0, 1) := by decide +kernel
theorem dX1_isOfName_48 : decode cX1_isOfName 48 = .ok (.ireturn, 1) := by decide +kernel
theorem dX1_isOfValue_0 : decode cX1_isOfValue 0 = .ok (.iload_n 0, 1) := by decide +kernel
theorem dX1_isOfValue_1 : decode cX1_isOfValue 1 = .ok (.bipush 9, 2) := by decide +kernel
theorem dX1_isOfValue_3 : decode cX1_isOfValue 3 = .ok (.if_icmp .eq 22, 3) := by decide +kernel
theorem dX1_isOfValue_6 : decode cX1_isOfValue 6 = .ok (.iload_n 0, 1) := by decide +kernel
theorem dX1_isOfValue_7 : decode cX1_isOfValue 7 = .ok (.bipush 32, 2) := by decide +kernel
theorem dX1_isOfValue_9 : decode cX1_isOfValue 9 = .ok (.if_icmp .lt 9, 3) := by decide +kernel
theorem dX1_isOfValue_12 : decode cX1_isOfValue 12 = .ok (.iload_n 0, 1) := by decide +kernel
theorem dX1_isOfValue_13 : decode cX1_isOfValue 13 = .ok (.bipush 126, 2) := by decide +kernel
theorem dX1_isOfValue_15 : decode cX1_isOfValue 15 = .ok (.if_icmp .le 10, 3) := by decide +kernel
theorem dX1_isOfValue_18 : decode cX1_isOfValue 18 = .ok (.iload_n 0, 1) := by decide +kernel
theorem dX1_isOfValue_19 : decode cX1_isOfValue 19 = .ok (.sipush 128, 3) := by decide +kernel
theorem dX1_isOfValue_22 : decode cX1_isOfValue 22 = .ok (.if_icmp .lt 7, 3) := by decide +kernel
theorem dX1_isOfValue_25 : decode cX1_isOfValue 25 = .ok (.iconst 1, 1) := by decide +kernel
theorem dX1_isOfValue_26 : decode cX1_isOfValue 26 = .ok (.goto 4, 3) := by decide +kernel
theorem dX1_isOfValue_29 : decode cX1_isOfValue 29 = .ok (.iconst 0, 1) := by decide +kernel
theorem dX1_isOfValue_30 : decode cX1_isOfValue 30 = .ok (.ireturn, 1) := by decide +kernel
theorem dX1_isSpace_0 : decode cX1_isSpace 0 = .ok (.iload_n 0, 1) := by decide +kernel
theorem dX1_isSpace_1 : decode cX1_isSpace 1 = .ok (.bipush 32, 2) := by decide +kernel
theorem dX1_isSpace_3 : decode cX1_isSpace 3 = .ok (.if_icmp .eq 9, 3) := by decide +kernel
theorem dX1_isSpace_6 : decode cX1_isSpace 6 = .ok (.iload_n 0, 1) := by decide +kernel
theorem dX1_isSpace_7 : decode cX1_isSpace 7 = .ok (.bipush 9, 2) := by decide +kernel
theorem dX1_isSpace_9 : decode cX1_isSpace 9 = .ok (.if_icmp .ne 7, 3) := by decide +kernel
theorem dX1_isSpace_12 : decode cX1_isSpace 12 = .ok (.iconst 1, 1) := by decide +kernel
theorem dX1_isSpace_13 : decode cX1_isSpace 13 = .ok (.goto 4, 3) := by decide +kernel
theorem dX1_isSpace_16 : decode cX1_isSpace 16 = .ok (.iconst 0, 1) := by decide +kernel
theorem dX1_isSpace_17 : decode cX1_isSpace 17 = .ok (.ireturn, 1) := by decide +kernel
set_option maxRecDepth 20000 in
theorem ggX1_hexValue_X1_isDigit : GoodIn wsX1_hexValue wsX1_isDigit := goodIn_r _ [4] (by decide +kernel) (by decide +kernel)
set_option maxRecDepth 20000 in
theorem gX1_hexValue_X1_isDigit : GoodIn wsX1_hexValue (va_wsS RX1 15 yX1_isDigit wsX1_isDigit) := goodIn_app (goodIn_of _ (by decide +kernel)) ggX1_hexValue_X1_isDigit
theorem dX1_hexValue_0 : decode cX1_hexValue 0 = .ok (.iload_n 0, 1) := by decide +kernel
theorem dX1_hexValue_1 : decode cX1_hexValue 1 = .ok (.invokestatic 15, 3) := by decide +kernel
theorem dX1_hexValue_4 : decode cX1_hexValue 4 = .ok (.ifCond .eq 8, 3) := by decide +kernel
theorem dX1_hexValue_7 : decode cX1_hexValue 7 = .ok (.iload_n 0, 1) := by decide +kernel
theorem dX1_hexValue_8 : decode cX1_hexValue 8 = .ok (.bipush 48, 2) := by decide +kernel
theorem dX1_hexValue_10 : decode cX1_hexValue 10 = .ok (.isub, 1) := by decide +kernel
theorem dX1_hexValue_11 : decode cX1_hexValue 11 = .ok (.ireturn, 1) := by decide +kernel
theorem dX1_hexValue_12 : decode cX1_hexValue 12 = .ok (.iload_n 0, 1) := by decide +kernel
theorem dX1_hexValue_13 : decode cX1_hexValue 13 = .ok (.bipush 97, 2) := by decide +kernel
theorem dX1_hexValue_15 : decode cX1_hexValue 15 = .ok (.if_icmp .lt 17, 3) := by decide +kernel
theorem dX1_hexValue_18 : decode cX1_hexValue 18 = .ok (.iload_n 0, 1) := by decide +kernel
theorem dX1_hexValue_19 : decode cX1_hexValue 19 = .ok (.bipush 102, 2) := by decide +kernel
theorem dX1_hexValue_21 : decode cX1_hexValue 21 = .ok (.if_icmp .gt 11, 3) := by decide +kernel
theorem dX1_hexValue_24 : decode cX1_hexValue 24 = .ok (.iload_n 0, 1) := by decide +kernel
theorem dX1_hexValue_25 : decode cX1_hexValue 25 = .ok (.bipush 97, 2) := by decide +kernel
theorem dX1_hexValue_27 : decode cX1_hexValue 27 = .ok (.isub, 1) := by decide +kernel
theorem dX1_hexValue_28 : decode cX1_hexValue 28 = .ok (.bipush 10, 2) := by decide +kernel
theorem dX1_hexValue_30 : decode cX1_hexValue 30 = .ok (.iadd, 1) := by decide +kernel
theorem dX1_hexValue_31 : decode cX1_hexValue 31 = .ok (.ireturn, 1) := by decide +kernel
theorem dX1_hexValue_32 : decode cX1_hexValue 32 = .ok (.iload_n 0, 1) := by decide +kernel
theorem dX1_hexValue_33 : decode cX1_hexValue 33 = .ok (.bipush 65, 2) := by decide +kernel
theorem dX1_hexValue_35 : decode cX1_hexValue 35 = .ok (.if_icmp .lt 19, 3) := by decide +kernel
theorem dX1_hexValue_38 : decode cX1_hexValue 38 = .ok (.iload_n 0, 1) := by decide +kernel
theorem dX1_hexValue_39 : decode cX1_hexValue 39 = .ok (.bipush 70, 2) := by decide +kernel
theorem dX1_hexValue_41 : decode cX1_hexValue 41 = .ok (.if_icmp .gt 13, 3) := by decide +kernel
theorem dX1_hexValue_44 : decode cX1_hexValue 44 = .ok (.iload_n 0, 1) := by decide +kernel
theorem dX1_hexValue_45 : decode cX1_hexValue 45 = .ok (.bipush 65, 2) := by decide +kernel
theorem dX1_hexValue_47 : decode cX1_hexValue 47 = .ok (.isub, 1) := by decide +kernel
theorem dX1_hexValue_48 : decode cX1_hexValue 48 = .ok (.bipush 10, 2) := by decide +kernel
theorem dX1_hexValue_50 : decode cX1_hexValue 50 = .ok (.iadd, 1) := by decide +kernel
theorem dX1_hexValue_51 : decode cX1_hexValue 51 = .ok (.goto 4, 3) := by decide +kernel
theorem dX1_hexValue_54 : decode cX1_hexValue 54 = .ok (.iconst (-1), 1) := by decide +kernel
theorem dX1_hexValue_55 : decode cX1_hexValue 55 = .ok (.ireturn, 1) := by decide +kernel
set_option maxRecDepth 20000 in
theorem ggX1_ofMark_J0_charAt_5068e : GoodIn wsX1_ofMark wsJ0_charAt_5068e := goodIn_r _ [5, 6, 7, 8, 9, 4, 10, 11, 12, 13, 14, 15, 16, 17, 18, 19, 20, 21, 22, 23, 24, 25, 26, 27, 28, 29, 30, 31, 32, 33, 34, 35, 36, 37, 38, 39, 40, 41] (by decide +kernel) (by decide +kernel)
set_option maxRecDepth 20000 in
theorem gX1_ofMark_J0_charAt_5068e : GoodIn wsX1_ofMark (wsV RX1 31 RJ0 yJ0_charAt_5068e wsJ0_charAt_5068e) := goodIn_app (goodIn_of _ (by decide +kernel)) ggX1_ofMark_J0_charAt_5068e
theorem dX1_ofMark_0 : decode cX1_ofMark 0 = .ok (.iload_n 1, 1) := by decide +kernel
theorem dX1_ofMark_1 : decode cX1_ofMark 1 = .ok (.ifCond .le 9, 3) := by decide +kernel
theorem dX1_ofMark_4 : decode cX1_ofMark 4 = .ok (.iload_n 1, 1) := by decide +kernel
theorem dX1_ofMark_5 : decode cX1_ofMark 5 = .ok (.bipush 9, 2) := by decide +kernel
theorem dX1_ofMark_7 : decode cX1_ofMark 7 = .ok (.if_icmp .lt 6, 3) := by decide +kernel
theorem dX1_ofMark_10 : decode cX1_ofMark 10 = .ok (.bipush 34, 2) := by decide +kernel
theorem dX1_ofMark_12 : decode cX1_ofMark 12 = .ok (.ireturn, 1) := by decide +kernel
theorem dX1_ofMark_13 : decode cX1_ofMark 13 = .ok (.ldc 29, 2) := by decide +kernel
theorem dX1_ofMark_15 : decode cX1_ofMark 15 = .ok (.iload_n 0, 1) := by decide +kernel
theorem dX1_ofMark_16 : decode cX1_ofMark 16 = .ok (.iconst 4, 1) := by decide +kernel
theorem dX1_ofMark_17 : decode cX1_ofMark 17 = .ok (.bipush 8, 2) := by decide +kernel
theorem dX1_ofMark_19 : decode cX1_ofMark 19 = .ok (.iload_n 1, 1) := by decide +kernel
theorem dX1_ofMark_20 : decode cX1_ofMark 20 = .ok (.isub, 1) := by decide +kernel
theorem dX1_ofMark_21 : decode cX1_ofMark 21 = .ok (.imul, 1) := by decide +kernel
theorem dX1_ofMark_22 : decode cX1_ofMark 22 = .ok (.iushr, 1) := by decide +kernel
theorem dX1_ofMark_23 : decode cX1_ofMark 23 = .ok (.bipush 15, 2) := by decide +kernel
theorem dX1_ofMark_25 : decode cX1_ofMark 25 = .ok (.iand, 1) := by decide +kernel
theorem dX1_ofMark_26 : decode cX1_ofMark 26 = .ok (.invokevirtual 31, 3) := by decide +kernel
theorem dX1_ofMark_29 : decode cX1_ofMark 29 = .ok (.ireturn, 1) := by decide +kernel
theorem dX2_init_0 : decode cX2_init 0 = .ok (.aload_n 0, 1) := by decide +kernel
theorem dX2_init_1 : decode cX2_init 1 = .ok (.invokespecial 3, 3) := by decide +kernel
theorem dX2_init_4 : decode cX2_init 4 = .ok (.aload_n 0, 1) := by decide +kernel
theorem dX2_init_5 : decode cX2_init 5 = .ok (.iconst 0, 1) := by decide +kernel
theorem dX2_init_6 : decode cX2_init 6 = .ok (.putfield 11, 3) := by decide +kernel
theorem dX2_init_9 : decode cX2_init 9 = .ok (.return_, 1) := by decide +kernel
theorem dX2_forget_0 : decode cX2_forget 0 = .ok (.aload_n 0, 1) := by decide +kernel
theorem dX2_forget_1 : decode cX2_forget 1 = .ok (.iconst 0, 1) := by decide +kernel
theorem dX2_forget_2 : decode cX2_forget 2 = .ok (.putfield 15, 3) := by decide +kernel
theorem dX2_forget_5 : decode cX2_forget 5 = .ok (.aload_n 0, 1) := by decide +kernel
theorem dX2_forget_6 : decode cX2_forget 6 = .ok (.iconst 0, 1) := by decide +kernel
theorem dX2_forget_7 : decode cX2_forget 7 = .ok (.putfield 11, 3) := by decide +kernel
theorem dX2_forget_10 : decode cX2_forget 10 = .ok (.aload_n 0, 1) := by decide +kernel
theorem dX2_forget_11 : decode cX2_forget 11 = .ok (.iconst 0, 1) := by decide +kernel
theorem dX2_forget_12 : decode cX2_forget 12 = .ok (.putfield 19, 3) := by decide +kernel
theorem dX2_forget_15 : decode cX2_forget 15 = .ok (.aload_n 0, 1) := by decide +kernel
theorem dX2_forget_16 : decode cX2_forget 16 = .ok (.iconst 0, 1) := by decide +kernel
theorem dX2_forget_17 : decode cX2_forget 17 = .ok (.putfield 22, 3) := by decide +kernel
theorem dX2_forget_20 : decode cX2_forget 20 = .ok (.aload_n 0, 1) := by decide +kernel
theorem dX2_forget_21 : decode cX2_forget 21 = .ok (.iconst 0, 1) := by decide +kernel
theorem dX2_forget_22 : decode cX2_forget 22 = .ok (.putfield 25, 3) := by decide +kernel
theorem dX2_forget_25 : decode cX2_forget 25 = .ok (.aload_n 0, 1) := by decide +kernel
theorem dX2_forget_26 : decode cX2_forget 26 = .ok (.iconst 0, 1) := by decide +kernel
theorem dX2_forget_27 : decode cX2_forget 27 = .ok (.putfield 28, 3) := by decide +kernel
theorem dX2_forget_30 : decode cX2_forget 30 = .ok (.aload_n 0, 1) := by decide +kernel
theorem dX2_forget_31 : decode cX2_forget 31 = .ok (.iconst 0, 1) := by decide +kernel
theorem dX2_forget_32 : decode cX2_forget 32 = .ok (.putfield 31, 3) := by decide +kernel
theorem dX2_forget_35 : decode cX2_forget 35 = .ok (.aload_n 0, 1) := by decide +kernel
theorem dX2_forget_36 : decode cX2_forget 36 = .ok (.iconst 0, 1) := by decide +kernel
theorem dX2_forget_37 : decode cX2_forget 37 = .ok (.putfield 34, 3) := by decide +kernel
theorem dX2_forget_40 : decode cX2_forget 40 = .ok (.aload_n 0, 1) := by decide +kernel
theorem dX2_forget_41 : decode cX2_forget 41 = .ok (.iconst 0, 1) := by decide +kernel
theorem dX2_forget_42 : decode cX2_forget 42 = .ok (.putfield 37, 3) := by decide +kernel
theorem dX2_forget_45 : decode cX2_forget 45 = .ok (.aload_n 0, 1) := by decide +kernel
theorem dX2_forget_46 : decode cX2_forget 46 = .ok (.iconst 0, 1) := by decide +kernel
theorem dX2_forget_47 : decode cX2_forget 47 = .ok (.putfield 40, 3) := by decide +kernel
theorem dX2_forget_50 : decode cX2_forget 50 = .ok (.aload_n 0, 1) := by decide +kernel
theorem dX2_forget_51 : decode cX2_forget 51 = .ok (.iconst 0, 1) := by decide +kernel
theorem dX2_forget_52 : decode cX2_forget 52 = .ok (.putfield 43, 3) := by decide +kernel
theorem dX2_forget_55 : decode cX2_forget 55 = .ok (.aload_n 0, 1) := by decide +kernel
theorem dX2_forget_56 : decode cX2_forget 56 = .ok (.iconst 0, 1) := by decide +kernel
theorem dX2_forget_57 : decode cX2_forget 57 = .ok (.putfield 46, 3) := by decide +kernel
theorem dX2_forget_60 : decode cX2_forget 60 = .ok (.aload_n 0, 1) := by decide +kernel
theorem dX2_forget_61 : decode cX2_forget 61 = .ok (.iconst 0, 1) := by decide +kernel
theorem dX2_forget_62 : decode cX2_forget 62 = .ok (.putfield 49, 3) := by decide +kernel
theorem dX2_forget_65 : decode cX2_forget 65 = .ok (.aload_n 0, 1) := by decide +kernel
theorem dX2_forget_66 : decode cX2_forget 66 = .ok (.iconst 0, 1) := by decide +kernel
theorem dX2_forget_67 : decode cX2_forget 67 = .ok (.putfield 52, 3) := by decide +kernel
theorem dX2_forget_70 : decode cX2_forget 70 = .ok (.return_, 1) := by decide +kernel
set_option maxRecDepth 20000 in
theorem ggX2_read_X2_forget : GoodIn wsX2_read wsX2_forget := goodIn_r _ [5, 6, 7, 8, 9, 10, 11, 12, 13, 14, 15, 16, 17, 18, 19, 203, 204, 205, 206, 207, 208, 209, 210, 211, 212, 213, 214, 215, 216] (by decide +kernel) (by decide +kernel)
set_option maxRecDepth 20000 in
theorem gX2_read_X2_forget : GoodIn wsX2_read (wsV RX2 55 RX2 yX2_forget wsX2_forget) := goodIn_app (goodIn_of _ (by decide +kernel)) ggX2_read_X2_forget
set_option maxRecDepth 20000 in
theorem ggX2_read_X4_get : GoodIn wsX2_read wsX4_get := goodIn_r _ [24, 25, 26, 217, 218, 219] (by decide +kernel) (by decide +kernel)
set_option maxRecDepth 20000 in
theorem gX2_read_X4_get : GoodIn wsX2_read (wsV RX2 58 RX4 yX4_get wsX4_get) := goodIn_app (goodIn_of _ (by decide +kernel)) ggX2_read_X4_get
set_option maxRecDepth 20000 in
theorem ggX2_read_X4_lineEnd : GoodIn wsX2_read wsX4_lineEnd := goodIn_r _ [30, 31, 21, 22, 23, 24, 25, 26, 217, 218, 219] (by decide +kernel) (by decide +kernel)
set_option maxRecDepth 20000 in
theorem gX2_read_X4_lineEnd : GoodIn wsX2_read (wsV RX2 64 RX4 yX4_lineEnd wsX4_lineEnd) := goodIn_app (goodIn_of _ (by decide +kernel)) ggX2_read_X4_lineEnd
set_option maxRecDepth 20000 in
theorem ggX2_read_X2_readRequestLine : GoodIn wsX2_read wsX2_readRequestLine := goodIn_r _ [35, 9, 10, 8, 6, 7, 36, 37, 38, 23, 39, 31, 21, 22, 24, 25, 26, 40, 41, 42, 43, 44, 45, 46, 47, 48, 49, 50, 51, 52, 53, 54, 55, 56, 57, 58, 59, 60, 61, 62, 63, 64, 65, 66, 67, 68, 69, 70, 71, 72, 73, 74, 75, 76, 77, 78, 79, 80, 81, 82, 83, 84, 85, 86, 87, 88, 89, 90, 91, 92, 93, 94, 4, 95, 20, 96, 97, 98, 99, 100, 101, 102, 103, 104, 105, 106, 203, 204, 205, 206, 207, 208, 209, 210, 211, 212, 213, 214, 215, 216, 217, 218, 219] (by decide +kernel) (by decide +kernel)
set_option maxRecDepth 20000 in
theorem gX2_read_X2_readRequestLine : GoodIn wsX2_read (wsV RX2 68 RX2 yX2_readRequestLine wsX2_readRequestLine) := goodIn_app (goodIn_of _ (by decide +kernel)) ggX2_read_X2_readRequestLine
set_option maxRecDepth 20000 in
theorem ggX2_read_X2_readField : GoodIn wsX2_read wsX2_readField := goodIn_r _ [110, 6, 36, 37, 38, 23, 39, 31, 21, 22, 24, 25, 26, 20, 111, 112, 98, 113, 114, 97, 99, 115, 116, 117, 118, 105, 106, 119, 120, 121, 47, 122, 123, 124, 125, 126, 49, 60, 61, 62, 63, 54, 55, 127, 45, 46, 48, 50, 51, 52, 53, 128, 129, 66, 130, 131, 132, 133, 134, 135, 136, 137, 138, 139, 140, 141, 142, 143, 144, 145, 78, 146, 147, 148, 149, 150, 151, 152, 153, 154, 155, 83, 84, 85, 156, 157, 158, 71, 159, 160, 74, 161, 162, 163, 164, 87, 88, 89, 90, 91, 92, 165, 166, 167, 168, 169, 170, 171, 172, 173, 174, 175, 176, 177, 178, 179, 180, 181, 182, 183, 184, 185, 186, 187, 188, 4, 189, 11, 12, 13, 14, 15, 16, 17, 190, 191, 192, 193, 44, 194, 56, 57, 58, 59, 64, 65, 67, 68, 69, 70, 72, 73, 75, 76, 77, 79, 80, 81, 82, 86, 195, 196, 197, 198, 199, 200, 201, 202, 18, 19, 203, 204, 205, 206, 207, 208, 209, 210, 211, 212, 213, 214, 215, 216, 217, 218, 219] (by decide +kernel) (by decide +kernel)
set_option maxRecDepth 20000 in
theorem gX2_read_X2_readField : GoodIn wsX2_read (wsV RX2 72 RX2 yX2_readField wsX2_readField) := goodIn_app (goodIn_of _ (by decide +kernel)) ggX2_read_X2_readField
theorem dX2_read_0 : decode cX2_read 0 = .ok (.aload_n 0, 1) := by decide +kernel
theorem dX2_read_1 : decode cX2_read 1 = .ok (.invokevirtual 55, 3) := by decide +kernel
theorem dX2_read_4 : decode cX2_read 4 = .ok (.iconst 0, 1) := by decide +kernel
theorem dX2_read_5 : decode cX2_read 5 = .ok (.istore_n 3, 1) := by decide +kernel
theorem dX2_read_6 : decode cX2_read 6 = .ok (.iconst 0, 1) := by decide +kernel
theorem dX2_read_7 : decode cX2_read 7 = .ok (.istore 4, 2) := by decide +kernel
theorem dX2_read_9 : decode cX2_read 9 = .ok (.iload 4, 2) := by decide +kernel
theorem dX2_read_11 : decode cX2_read 11 = .ok (.iload_n 2, 1) := by decide +kernel
theorem dX2_read_12 : decode cX2_read 12 = .ok (.if_icmp .ge 62, 3) := by decide +kernel
theorem dX2_read_15 : decode cX2_read 15 = .ok (.aload_n 1, 1) := by decide +kernel
theorem dX2_read_16 : decode cX2_read 16 = .ok (.iload 4, 2) := by decide +kernel
theorem dX2_read_18 : decode cX2_read 18 = .ok (.invokevirtual 58, 3) := by decide +kernel
theorem dX2_read_21 : decode cX2_read 21 = .ok (.bipush 10, 2) := by decide +kernel
theorem dX2_read_23 : decode cX2_read 23 = .ok (.if_icmp .ne 45, 3) := by decide +kernel
theorem dX2_read_26 : decode cX2_read 26 = .ok (.aload_n 1, 1) := by decide +kernel
theorem dX2_read_27 : decode cX2_read 27 = .ok (.iload_n 3, 1) := by decide +kernel
theorem dX2_read_28 : decode cX2_read 28 = .ok (.iload 4, 2) := by decide +kernel
theorem dX2_read_30 : decode cX2_read 30 = .ok (.invokevirtual 64, 3) := by decide +kernel
theorem dX2_read_33 : decode cX2_read 33 = .ok (.istore 5, 2) := by decide +kernel
theorem dX2_read_35 : decode cX2_read 35 = .ok (.iload_n 3, 1) := by decide +kernel
theorem dX2_read_36 : decode cX2_read 36 = .ok (.ifCond .ne 13, 3) := by decide +kernel
theorem dX2_read_39 : decode cX2_read 39 = .ok (.aload_n 0, 1) := by decide +kernel
theorem dX2_read_40 : decode cX2_read 40 = .ok (.aload_n 1, 1) := by decide +kernel
theorem dX2_read_41 : decode cX2_read 41 = .ok (.iload 5, 2) := by decide +kernel
theorem dX2_read_43 : decode cX2_read 43 = .ok (.invokevirtual 68, 3) := by decide +kernel
theorem dX2_read_46 : decode cX2_read 46 = .ok (.goto 17, 3) := by decide +kernel
theorem dX2_read_49 : decode cX2_read 49 = .ok (.iload 5, 2) := by decide +kernel
theorem dX2_read_51 : decode cX2_read 51 = .ok (.iload_n 3, 1) := by decide +kernel
theorem dX2_read_52 : decode cX2_read 52 = .ok (.if_icmp .le 11, 3) := by decide +kernel
theorem dX2_read_55 : decode cX2_read 55 = .ok (.aload_n 0, 1) := by decide +kernel
theorem dX2_read_56 : decode cX2_read 56 = .ok (.aload_n 1, 1) := by decide +kernel
theorem dX2_read_57 : decode cX2_read 57 = .ok (.iload_n 3, 1) := by decide +kernel
theorem dX2_read_58 : decode cX2_read 58 = .ok (.iload 5, 2) := by decide +kernel
theorem dX2_read_60 : decode cX2_read 60 = .ok (.invokevirtual 72, 3) := by decide +kernel
theorem dX2_read_63 : decode cX2_read 63 = .ok (.iload 4, 2) := by decide +kernel
theorem dX2_read_65 : decode cX2_read 65 = .ok (.iconst 1, 1) := by decide +kernel
theorem dX2_read_66 : decode cX2_read 66 = .ok (.iadd, 1) := by decide +kernel
theorem dX2_read_67 : decode cX2_read 67 = .ok (.istore_n 3, 1) := by decide +kernel
theorem dX2_read_68 : decode cX2_read 68 = .ok (.iinc 4 1, 3) := by decide +kernel
theorem dX2_read_71 : decode cX2_read 71 = .ok (.goto (-62), 3) := by decide +kernel
theorem dX2_read_74 : decode cX2_read 74 = .ok (.return_, 1) := by decide +kernel
set_option maxRecDepth 20000 in
theorem ggX2_readRequestLine_X4_find : GoodIn wsX2_readRequestLine wsX4_find := goodIn_r _ [10, 11, 12, 13, 9, 14, 15, 16, 100, 101, 102] (by decide +kernel) (by decide +kernel)
set_option maxRecDepth 20000 in
theorem gX2_readRequestLine_X4_find : GoodIn wsX2_readRequestLine (wsV RX2 76 RX4 yX4_find wsX4_find) := goodIn_app (goodIn_of _ (by decide +kernel)) ggX2_readRequestLine_X4_find
set_option maxRecDepth 20000 in
theorem ggX2_readRequestLine_X4_hasText : GoodIn wsX2_readRequestLine wsX4_hasText := goodIn_r _ [20, 21, 22, 23, 24, 25, 26, 27, 28, 29, 30, 31, 32, 11, 12, 13, 9, 14, 15, 16, 33, 34, 35, 36, 37, 38, 39, 40, 41, 42, 43, 44, 45, 46, 47, 48, 49, 50, 51, 52, 53, 54, 55, 56, 57, 58, 59, 60, 61, 62, 63, 64, 65, 66, 67, 68, 69, 100, 101, 102] (by decide +kernel) (by decide +kernel)
set_option maxRecDepth 20000 in
theorem gX2_readRequestLine_X4_hasText : GoodIn wsX2_readRequestLine (wsV RX2 82 RX4 yX4_hasText wsX4_hasText) := goodIn_app (goodIn_of _ (by decide +kernel)) ggX2_readRequestLine_X4_hasText
set_option maxRecDepth 20000 in
theorem ggX2_readRequestLine_X2_isMethod : GoodIn wsX2_readRequestLine wsX2_isMethod := goodIn_r _ [73, 74, 12, 13, 9, 14, 15, 16, 75, 76, 77, 78, 100, 101, 102] (by decide +kernel) (by decide +kernel)
set_option maxRecDepth 20000 in
theorem gX2_readRequestLine_X2_isMethod : GoodIn wsX2_readRequestLine (va_wsS RX2 88 yX2_isMethod wsX2_isMethod) := goodIn_app (goodIn_of _ (by decide +kernel)) ggX2_readRequestLine_X2_isMethod
set_option maxRecDepth 20000 in
theorem ggX2_readRequestLine_X2_isTarget : GoodIn wsX2_readRequestLine wsX2_isTarget := goodIn_r _ [82, 1, 2, 74, 12, 13, 9, 14, 15, 16, 83, 84, 77, 85, 86, 87, 88, 89, 90, 91, 92, 93, 94, 95, 96, 97, 98, 99, 100, 101, 102] (by decide +kernel) (by decide +kernel)
set_option maxRecDepth 20000 in
theorem gX2_readRequestLine_X2_isTarget : GoodIn wsX2_readRequestLine (wsV RX2 92 RX2 yX2_isTarget wsX2_isTarget) := goodIn_app (goodIn_of _ (by decide +kernel)) ggX2_readRequestLine_X2_isTarget
theorem dX2_readRequestLine_0 : decode cX2_readRequestLine 0 = .ok (.aload_n 1, 1) := by decide +kernel
theorem dX2_readRequestLine_1 : decode cX2_readRequestLine 1 = .ok (.bipush 32, 2) := by decide +kernel
theorem dX2_readRequestLine_3 : decode cX2_readRequestLine 3 = .ok (.iconst 0, 1) := by decide +kernel
theorem dX2_readRequestLine_4 : decode cX2_readRequestLine 4 = .ok (.iload_n 2, 1) := by decide +kernel
theorem dX2_readRequestLine_5 : decode cX2_readRequestLine 5 = .ok (.invokevirtual 76, 3) := by decide +kernel
theorem dX2_readRequestLine_8 : decode cX2_readRequestLine 8 = .ok (.istore_n 3, 1) := by decide +kernel
theorem dX2_readRequestLine_9 : decode cX2_readRequestLine 9 = .ok (.aload_n 0, 1) := by decide +kernel
theorem dX2_readRequestLine_10 : decode cX2_readRequestLine 10 = .ok (.iload_n 3, 1) := by decide +kernel
theorem dX2_readRequestLine_11 : decode cX2_readRequestLine 11 = .ok (.iconst 1, 1) := by decide +kernel
theorem dX2_readRequestLine_12 : decode cX2_readRequestLine 12 = .ok (.iadd, 1) := by decide +kernel
theorem dX2_readRequestLine_13 : decode cX2_readRequestLine 13 = .ok (.putfield 22, 3) := by decide +kernel
theorem dX2_readRequestLine_16 : decode cX2_readRequestLine 16 = .ok (.aload_n 0, 1) := by decide +kernel
theorem dX2_readRequestLine_17 : decode cX2_readRequestLine 17 = .ok (.aload_n 1, 1) := by decide +kernel
theorem dX2_readRequestLine_18 : decode cX2_readRequestLine 18 = .ok (.bipush 32, 2) := by decide +kernel
theorem dX2_readRequestLine_20 : decode cX2_readRequestLine 20 = .ok (.aload_n 0, 1) := by decide +kernel
theorem dX2_readRequestLine_21 : decode cX2_readRequestLine 21 = .ok (.getfield 22, 3) := by decide +kernel
theorem dX2_readRequestLine_24 : decode cX2_readRequestLine 24 = .ok (.iload_n 2, 1) := by decide +kernel
theorem dX2_readRequestLine_25 : decode cX2_readRequestLine 25 = .ok (.invokevirtual 76, 3) := by decide +kernel
theorem dX2_readRequestLine_28 : decode cX2_readRequestLine 28 = .ok (.putfield 25, 3) := by decide +kernel
theorem dX2_readRequestLine_31 : decode cX2_readRequestLine 31 = .ok (.aload_n 0, 1) := by decide +kernel
theorem dX2_readRequestLine_32 : decode cX2_readRequestLine 32 = .ok (.aload_n 1, 1) := by decide +kernel
theorem dX2_readRequestLine_33 : decode cX2_readRequestLine 33 = .ok (.aload_n 0, 1) := by decide +kernel
theorem dX2_readRequestLine_34 : decode cX2_readRequestLine 34 = .ok (.getfield 25, 3) := by decide +kernel
theorem dX2_readRequestLine_37 : decode cX2_readRequestLine 37 = .ok (.iconst 1, 1) := by decide +kernel
theorem dX2_readRequestLine_38 : decode cX2_readRequestLine 38 = .ok (.iadd, 1) := by decide +kernel
theorem dX2_readRequestLine_39 : decode cX2_readRequestLine 39 = .ok (.iload_n 2, 1) := by decide +kernel
theorem dX2_readRequestLine_40 : decode cX2_readRequestLine 40 = .ok (.ldc 80, 2) := by decide +kernel
theorem dX2_readRequestLine_42 : decode cX2_readRequestLine 42 = .ok (.invokevirtual 82, 3) := by decide +kernel
theorem dX2_readRequestLine_45 : decode cX2_readRequestLine 45 = .ok (.putfield 19, 3) := by decide +kernel
theorem dX2_readRequestLine_48 : decode cX2_readRequestLine 48 = .ok (.aload_n 0, 1) := by decide +kernel
theorem dX2_readRequestLine_49 : decode cX2_readRequestLine 49 = .ok (.getfield 19, 3) := by decide +kernel
theorem dX2_readRequestLine_52 : decode cX2_readRequestLine 52 = .ok (.ifCond .ne 19, 3) := by decide +kernel
theorem dX2_readRequestLine_55 : decode cX2_readRequestLine 55 = .ok (.aload_n 1, 1) := by decide +kernel
theorem dX2_readRequestLine_56 : decode cX2_readRequestLine 56 = .ok (.aload_n 0, 1) := by decide +kernel
theorem dX2_readRequestLine_57 : decode cX2_readRequestLine 57 = .ok (.getfield 25, 3) := by decide +kernel
theorem dX2_readRequestLine_60 : decode cX2_readRequestLine 60 = .ok (.iconst 1, 1) := by decide +kernel
theorem dX2_readRequestLine_61 : decode cX2_readRequestLine 61 = .ok (.iadd, 1) := by decide +kernel
theorem dX2_readRequestLine_62 : decode cX2_readRequestLine 62 = .ok (.iload_n 2, 1) := by decide +kernel
theorem dX2_readRequestLine_63 : decode cX2_readRequestLine 63 = .ok (.ldc 86, 2) := by decide +kernel
theorem dX2_readRequestLine_65 : decode cX2_readRequestLine 65 = .ok (.invokevirtual 82, 3) := by decide +kernel
theorem dX2_readRequestLine_68 : decode cX2_readRequestLine 68 = .ok (.ifCond .eq 7, 3) := by decide +kernel
theorem dX2_readRequestLine_71 : decode cX2_readRequestLine 71 = .ok (.iconst 1, 1) := by decide +kernel
theorem dX2_readRequestLine_72 : decode cX2_readRequestLine 72 = .ok (.goto 4, 3) := by decide +kernel
theorem dX2_readRequestLine_75 : decode cX2_readRequestLine 75 = .ok (.iconst 0, 1) := by decide +kernel
theorem dX2_readRequestLine_76 : decode cX2_readRequestLine 76 = .ok (.istore 4, 2) := by decide +kernel
theorem dX2_readRequestLine_78 : decode cX2_readRequestLine 78 = .ok (.iload 4, 2) := by decide +kernel
theorem dX2_readRequestLine_80 : decode cX2_readRequestLine 80 = .ok (.ifCond .eq 19, 3) := by decide +kernel
theorem dX2_readRequestLine_83 : decode cX2_readRequestLine 83 = .ok (.aload_n 1, 1) := by decide +kernel
theorem dX2_readRequestLine_84 : decode cX2_readRequestLine 84 = .ok (.iload_n 3, 1) := by decide +kernel
theorem dX2_readRequestLine_85 : decode cX2_readRequestLine 85 = .ok (.invokestatic 88, 3) := by decide +kernel
theorem dX2_readRequestLine_88 : decode cX2_readRequestLine 88 = .ok (.ifCond .eq 11, 3) := by decide +kernel
theorem dX2_readRequestLine_91 : decode cX2_readRequestLine 91 = .ok (.aload_n 0, 1) := by decide +kernel
theorem dX2_readRequestLine_92 : decode cX2_readRequestLine 92 = .ok (.aload_n 1, 1) := by decide +kernel
theorem dX2_readRequestLine_93 : decode cX2_readRequestLine 93 = .ok (.invokevirtual 92, 3) := by decide +kernel
theorem dX2_readRequestLine_96 : decode cX2_readRequestLine 96 = .ok (.ifCond .ne 11, 3) := by decide +kernel
theorem dX2_readRequestLine_99 : decode cX2_readRequestLine 99 = .ok (.aload_n 0, 1) := by decide +kernel
theorem dX2_readRequestLine_100 : decode cX2_readRequestLine 100 = .ok (.iconst 1, 1) := by decide +kernel
theorem dX2_readRequestLine_101 : decode cX2_readRequestLine 101 = .ok (.putfield 15, 3) := by decide +kernel
theorem dX2_readRequestLine_104 : decode cX2_readRequestLine 104 = .ok (.goto 38, 3) := by decide +kernel
theorem dX2_readRequestLine_107 : decode cX2_readRequestLine 107 = .ok (.aload_n 1, 1) := by decide +kernel
theorem dX2_readRequestLine_108 : decode cX2_readRequestLine 108 = .ok (.iconst 0, 1) := by decide +kernel
theorem dX2_readRequestLine_109 : decode cX2_readRequestLine 109 = .ok (.iload_n 3, 1) := by decide +kernel
theorem dX2_readRequestLine_110 : decode cX2_readRequestLine 110 = .ok (.ldc 96, 2) := by decide +kernel
theorem dX2_readRequestLine_112 : decode cX2_readRequestLine 112 = .ok (.invokevirtual 82, 3) := by decide +kernel
theorem dX2_readRequestLine_115 : decode cX2_readRequestLine 115 = .ok (.ifCond .eq 11, 3) := by decide +kernel
theorem dX2_readRequestLine_118 : decode cX2_readRequestLine 118 = .ok (.aload_n 0, 1) := by decide +kernel
theorem dX2_readRequestLine_119 : decode cX2_readRequestLine 119 = .ok (.iconst 1, 1) := by decide +kernel
theorem dX2_readRequestLine_120 : decode cX2_readRequestLine 120 = .ok (.putfield 11, 3) := by decide +kernel
theorem dX2_readRequestLine_123 : decode cX2_readRequestLine 123 = .ok (.goto 19, 3) := by decide +kernel
theorem dX2_readRequestLine_126 : decode cX2_readRequestLine 126 = .ok (.aload_n 1, 1) := by decide +kernel
theorem dX2_readRequestLine_127 : decode cX2_readRequestLine 127 = .ok (.iconst 0, 1) := by decide +kernel
theorem dX2_readRequestLine_128 : decode cX2_readRequestLine 128 = .ok (.iload_n 3, 1) := by decide +kernel
theorem dX2_readRequestLine_129 : decode cX2_readRequestLine 129 = .ok (.ldc 98, 2) := by decide +kernel
theorem dX2_readRequestLine_131 : decode cX2_readRequestLine 131 = .ok (.invokevirtual 82, 3) := by decide +kernel
theorem dX2_readRequestLine_134 : decode cX2_readRequestLine 134 = .ok (.ifCond .ne 8, 3) := by decide +kernel
theorem dX2_readRequestLine_137 : decode cX2_readRequestLine 137 = .ok (.aload_n 0, 1) := by decide +kernel
theorem dX2_readRequestLine_138 : decode cX2_readRequestLine 138 = .ok (.iconst 2, 1) := by decide +kernel
theorem dX2_readRequestLine_139 : decode cX2_readRequestLine 139 = .ok (.putfield 11, 3) := by decide +kernel
theorem dX2_readRequestLine_142 : decode cX2_readRequestLine 142 = .ok (.return_, 1) := by decide +kernel
set_option maxRecDepth 20000 in
theorem ggX2_isMethod_X4_get : GoodIn wsX2_isMethod wsX4_get := goodIn_r _ [5, 6, 7, 12, 13, 14] (by decide +kernel) (by decide +kernel)
set_option maxRecDepth 20000 in
theorem gX2_isMethod_X4_get : GoodIn wsX2_isMethod (wsV RX2 58 RX4 yX4_get wsX4_get) := goodIn_app (goodIn_of _ (by decide +kernel)) ggX2_isMethod_X4_get
set_option maxRecDepth 20000 in
theorem ggX2_isMethod_X1_isGreat : GoodIn wsX2_isMethod wsX1_isGreat := goodIn_r _ [11] (by decide +kernel) (by decide +kernel)
set_option maxRecDepth 20000 in
theorem gX2_isMethod_X1_isGreat : GoodIn wsX2_isMethod (va_wsS RX2 100 yX1_isGreat wsX1_isGreat) := goodIn_app (goodIn_of _ (by decide +kernel)) ggX2_isMethod_X1_isGreat
theorem dX2_isMethod_0 : decode cX2_isMethod 0 = .ok (.iload_n 1, 1) := by decide +kernel
theorem dX2_isMethod_1 : decode cX2_isMethod 1 = .ok (.iconst 1, 1) := by decide +kernel
theorem dX2_isMethod_2 : decode cX2_isMethod 2 = .ok (.if_icmp .lt 13, 3) := by decide +kernel
theorem dX2_isMethod_5 : decode cX2_isMethod 5 = .ok (.iload_n 1, 1) := by decide +kernel
theorem dX2_isMethod_6 : decode cX2_isMethod 6 = .ok (.bipush 16, 2) := by decide +kernel
theorem dX2_isMethod_8 : decode cX2_isMethod 8 = .ok (.if_icmp .gt 7, 3) := by decide +kernel
theorem dX2_isMethod_11 : decode cX2_isMethod 11 = .ok (.iconst 1, 1) := by decide +kernel
theorem dX2_isMethod_12 : decode cX2_isMethod 12 = .ok (.goto 4, 3) := by decide +kernel
theorem dX2_isMethod_15 : decode cX2_isMethod 15 = .ok (.iconst 0, 1) := by decide +kernel
theorem dX2_isMethod_16 : decode cX2_isMethod 16 = .ok (.istore_n 2, 1) := by decide +kernel
theorem dX2_isMethod_17 : decode cX2_isMethod 17 = .ok (.iconst 0, 1) := by decide +kernel
theorem dX2_isMethod_18 : decode cX2_isMethod 18 = .ok (.istore_n 3, 1) := by decide +kernel
theorem dX2_isMethod_19 : decode cX2_isMethod 19 = .ok (.iload_n 2, 1) := by decide +kernel
theorem dX2_isMethod_20 : decode cX2_isMethod 20 = .ok (.ifCond .eq 23, 3) := by decide +kernel
theorem dX2_isMethod_23 : decode cX2_isMethod 23 = .ok (.iload_n 3, 1) := by decide +kernel
theorem dX2_isMethod_24 : decode cX2_isMethod 24 = .ok (.iload_n 1, 1) := by decide +kernel
theorem dX2_isMethod_25 : decode cX2_isMethod 25 = .ok (.if_icmp .ge 18, 3) := by decide +kernel
theorem dX2_isMethod_28 : decode cX2_isMethod 28 = .ok (.aload_n 0, 1) := by decide +kernel
theorem dX2_isMethod_29 : decode cX2_isMethod 29 = .ok (.iload_n 3, 1) := by decide +kernel
theorem dX2_isMethod_30 : decode cX2_isMethod 30 = .ok (.invokevirtual 58, 3) := by decide +kernel
theorem dX2_isMethod_33 : decode cX2_isMethod 33 = .ok (.invokestatic 100, 3) := by decide +kernel
theorem dX2_isMethod_36 : decode cX2_isMethod 36 = .ok (.istore_n 2, 1) := by decide +kernel
theorem dX2_isMethod_37 : decode cX2_isMethod 37 = .ok (.iinc 3 1, 3) := by decide +kernel
theorem dX2_isMethod_40 : decode cX2_isMethod 40 = .ok (.goto (-21), 3) := by decide +kernel
theorem dX2_isMethod_43 : decode cX2_isMethod 43 = .ok (.iload_n 2, 1) := by decide +kernel
theorem dX2_isMethod_44 : decode cX2_isMethod 44 = .ok (.ireturn, 1) := by decide +kernel
set_option maxRecDepth 20000 in
theorem ggX2_isTarget_X4_get : GoodIn wsX2_isTarget wsX4_get := goodIn_r _ [7, 8, 9, 28, 29, 30] (by decide +kernel) (by decide +kernel)
set_option maxRecDepth 20000 in
theorem gX2_isTarget_X4_get : GoodIn wsX2_isTarget (wsV RX2 58 RX4 yX4_get wsX4_get) := goodIn_app (goodIn_of _ (by decide +kernel)) ggX2_isTarget_X4_get
set_option maxRecDepth 20000 in
theorem ggX2_isTarget_X1_isVisible : GoodIn wsX2_isTarget wsX1_isVisible := goodIn_r _ [13] (by decide +kernel) (by decide +kernel)
set_option maxRecDepth 20000 in
theorem gX2_isTarget_X1_isVisible : GoodIn wsX2_isTarget (va_wsS RX2 106 yX1_isVisible wsX1_isVisible) := goodIn_app (goodIn_of _ (by decide +kernel)) ggX2_isTarget_X1_isVisible
theorem dX2_isTarget_0 : decode cX2_isTarget 0 = .ok (.aload_n 0, 1) := by decide +kernel
theorem dX2_isTarget_1 : decode cX2_isTarget 1 = .ok (.getfield 22, 3) := by decide +kernel
theorem dX2_isTarget_4 : decode cX2_isTarget 4 = .ok (.aload_n 0, 1) := by decide +kernel
theorem dX2_isTarget_5 : decode cX2_isTarget 5 = .ok (.getfield 25, 3) := by decide +kernel
theorem dX2_isTarget_8 : decode cX2_isTarget 8 = .ok (.if_icmp .ge 20, 3) := by decide +kernel
theorem dX2_isTarget_11 : decode cX2_isTarget 11 = .ok (.aload_n 1, 1) := by decide +kernel
theorem dX2_isTarget_12 : decode cX2_isTarget 12 = .ok (.aload_n 0, 1) := by decide +kernel
theorem dX2_isTarget_13 : decode cX2_isTarget 13 = .ok (.getfield 22, 3) := by decide +kernel
theorem dX2_isTarget_16 : decode cX2_isTarget 16 = .ok (.invokevirtual 58, 3) := by decide +kernel
theorem dX2_isTarget_19 : decode cX2_isTarget 19 = .ok (.bipush 47, 2) := by decide +kernel
theorem dX2_isTarget_21 : decode cX2_isTarget 21 = .ok (.if_icmp .ne 7, 3) := by decide +kernel
theorem dX2_isTarget_24 : decode cX2_isTarget 24 = .ok (.iconst 1, 1) := by decide +kernel
theorem dX2_isTarget_25 : decode cX2_isTarget 25 = .ok (.goto 4, 3) := by decide +kernel
theorem dX2_isTarget_28 : decode cX2_isTarget 28 = .ok (.iconst 0, 1) := by decide +kernel
theorem dX2_isTarget_29 : decode cX2_isTarget 29 = .ok (.istore_n 2, 1) := by decide +kernel
theorem dX2_isTarget_30 : decode cX2_isTarget 30 = .ok (.aload_n 0, 1) := by decide +kernel
theorem dX2_isTarget_31 : decode cX2_isTarget 31 = .ok (.getfield 22, 3) := by decide +kernel
theorem dX2_isTarget_34 : decode cX2_isTarget 34 = .ok (.istore_n 3, 1) := by decide +kernel
theorem dX2_isTarget_35 : decode cX2_isTarget 35 = .ok (.iload_n 2, 1) := by decide +kernel
theorem dX2_isTarget_36 : decode cX2_isTarget 36 = .ok (.ifCond .eq 26, 3) := by decide +kernel
theorem dX2_isTarget_39 : decode cX2_isTarget 39 = .ok (.iload_n 3, 1) := by decide +kernel
theorem dX2_isTarget_40 : decode cX2_isTarget 40 = .ok (.aload_n 0, 1) := by decide +kernel
theorem dX2_isTarget_41 : decode cX2_isTarget 41 = .ok (.getfield 25, 3) := by decide +kernel
theorem dX2_isTarget_44 : decode cX2_isTarget 44 = .ok (.if_icmp .ge 18, 3) := by decide +kernel
theorem dX2_isTarget_47 : decode cX2_isTarget 47 = .ok (.aload_n 1, 1) := by decide +kernel
theorem dX2_isTarget_48 : decode cX2_isTarget 48 = .ok (.iload_n 3, 1) := by decide +kernel
theorem dX2_isTarget_49 : decode cX2_isTarget 49 = .ok (.invokevirtual 58, 3) := by decide +kernel
theorem dX2_isTarget_52 : decode cX2_isTarget 52 = .ok (.invokestatic 106, 3) := by decide +kernel
theorem dX2_isTarget_55 : decode cX2_isTarget 55 = .ok (.istore_n 2, 1) := by decide +kernel
theorem dX2_isTarget_56 : decode cX2_isTarget 56 = .ok (.iinc 3 1, 3) := by decide +kernel
theorem dX2_isTarget_59 : decode cX2_isTarget 59 = .ok (.goto (-24), 3) := by decide +kernel
theorem dX2_isTarget_62 : decode cX2_isTarget 62 = .ok (.iload_n 2, 1) := by decide +kernel
theorem dX2_isTarget_63 : decode cX2_isTarget 63 = .ok (.ireturn, 1) := by decide +kernel
set_option maxRecDepth 20000 in
theorem ggX2_readField_X4_find : GoodIn wsX2_readField wsX4_find := goodIn_r _ [6, 7, 8, 9, 5, 10, 11, 12, 184, 185, 186] (by decide +kernel) (by decide +kernel)
set_option maxRecDepth 20000 in
theorem gX2_readField_X4_find : GoodIn wsX2_readField (wsV RX2 76 RX4 yX4_find wsX4_find) := goodIn_app (goodIn_of _ (by decide +kernel)) ggX2_readField_X4_find
set_option maxRecDepth 20000 in
theorem ggX2_readField_X4_get : GoodIn wsX2_readField wsX4_get := goodIn_r _ [10, 11, 12, 184, 185, 186] (by decide +kernel) (by decide +kernel)
set_option maxRecDepth 20000 in
theorem gX2_readField_X4_get : GoodIn wsX2_readField (wsV RX2 58 RX4 yX4_get wsX4_get) := goodIn_app (goodIn_of _ (by decide +kernel)) ggX2_readField_X4_get
set_option maxRecDepth 20000 in
theorem ggX2_readField_X1_isOfName : GoodIn wsX2_readField wsX1_isOfName := goodIn_r _ [17, 18, 19, 16, 20, 21, 22, 23, 24, 25, 26, 27, 28, 29, 30, 31, 32, 33, 34, 35, 36, 37, 38, 39, 40, 41, 42, 43, 44, 45, 46, 47, 48, 49, 50, 51, 52, 53, 54, 55, 56, 57, 58, 59, 60, 61, 62, 63, 64, 65, 66, 67, 68, 69, 70, 71, 72, 73, 74, 75, 76, 77, 78, 79, 80, 81, 82, 83, 84, 85, 86, 87, 88, 89, 90, 91, 92, 93, 94, 95, 96, 97, 98, 99, 100, 101, 102, 103, 104, 105, 106, 107, 108, 109, 110, 111, 112, 113, 114, 115] (by decide +kernel) (by decide +kernel)
set_option maxRecDepth 20000 in
theorem gX2_readField_X1_isOfName : GoodIn wsX2_readField (va_wsS RX2 109 yX1_isOfName wsX1_isOfName) := goodIn_app (goodIn_of _ (by decide +kernel)) ggX2_readField_X1_isOfName
set_option maxRecDepth 20000 in
theorem ggX2_readField_X1_isOfValue : GoodIn wsX2_readField wsX1_isOfValue := goodIn_r _ [118] (by decide +kernel) (by decide +kernel)
set_option maxRecDepth 20000 in
theorem gX2_readField_X1_isOfValue : GoodIn wsX2_readField (va_wsS RX2 112 yX1_isOfValue wsX1_isOfValue) := goodIn_app (goodIn_of _ (by decide +kernel)) ggX2_readField_X1_isOfValue
set_option maxRecDepth 20000 in
theorem ggX2_readField_X1_isSpace : GoodIn wsX2_readField wsX1_isSpace := goodIn_r _ [121] (by decide +kernel) (by decide +kernel)
set_option maxRecDepth 20000 in
theorem gX2_readField_X1_isSpace : GoodIn wsX2_readField (va_wsS RX2 115 yX1_isSpace wsX1_isSpace) := goodIn_app (goodIn_of _ (by decide +kernel)) ggX2_readField_X1_isSpace
set_option maxRecDepth 20000 in
theorem ggX2_readField_X2_noteField : GoodIn wsX2_readField wsX2_noteField := goodIn_r _ [126, 127, 128, 129, 130, 131, 132, 133, 134, 135, 136, 5, 137, 138, 44, 45, 30, 46, 36, 47, 48, 49, 50, 41, 42, 7, 8, 9, 10, 11, 12, 139, 19, 16, 20, 140, 141, 142, 143, 37, 38, 39, 40, 144, 145, 53, 146, 147, 148, 149, 87, 150, 151, 90, 152, 153, 154, 70, 155, 156, 157, 158, 81, 82, 83, 159, 95, 96, 97, 98, 99, 100, 160, 161, 125, 162, 13, 163, 22, 23, 164, 165, 166, 167, 168, 169, 119, 120, 121, 170, 171, 172, 173, 174, 175, 176, 177, 178, 179, 180, 181, 182, 183, 184, 185, 186] (by decide +kernel) (by decide +kernel)
set_option maxRecDepth 20000 in
theorem gX2_readField_X2_noteField : GoodIn wsX2_readField (wsV RX2 118 RX2 yX2_noteField wsX2_noteField) := goodIn_app (goodIn_of _ (by decide +kernel)) ggX2_readField_X2_noteField
theorem dX2_readField_0 : decode cX2_readField 0 = .ok (.aload_n 1, 1) := by decide +kernel
theorem dX2_readField_1 : decode cX2_readField 1 = .ok (.bipush 58, 2) := by decide +kernel
theorem dX2_readField_3 : decode cX2_readField 3 = .ok (.iload_n 2, 1) := by decide +kernel
theorem dX2_readField_4 : decode cX2_readField 4 = .ok (.iload_n 3, 1) := by decide +kernel
theorem dX2_readField_5 : decode cX2_readField 5 = .ok (.invokevirtual 76, 3) := by decide +kernel
theorem dX2_readField_8 : decode cX2_readField 8 = .ok (.istore 4, 2) := by decide +kernel
theorem dX2_readField_10 : decode cX2_readField 10 = .ok (.iload 4, 2) := by decide +kernel
theorem dX2_readField_12 : decode cX2_readField 12 = .ok (.iload_n 2, 1) := by decide +kernel
theorem dX2_readField_13 : decode cX2_readField 13 = .ok (.if_icmp .le 13, 3) := by decide +kernel
theorem dX2_readField_16 : decode cX2_readField 16 = .ok (.iload 4, 2) := by decide +kernel
theorem dX2_readField_18 : decode cX2_readField 18 = .ok (.iload_n 3, 1) := by decide +kernel
theorem dX2_readField_19 : decode cX2_readField 19 = .ok (.if_icmp .ge 7, 3) := by decide +kernel
theorem dX2_readField_22 : decode cX2_readField 22 = .ok (.iconst 1, 1) := by decide +kernel
theorem dX2_readField_23 : decode cX2_readField 23 = .ok (.goto 4, 3) := by decide +kernel
theorem dX2_readField_26 : decode cX2_readField 26 = .ok (.iconst 0, 1) := by decide +kernel
theorem dX2_readField_27 : decode cX2_readField 27 = .ok (.istore 5, 2) := by decide +kernel
theorem dX2_readField_29 : decode cX2_readField 29 = .ok (.iload_n 2, 1) := by decide +kernel
theorem dX2_readField_30 : decode cX2_readField 30 = .ok (.istore 6, 2) := by decide +kernel
theorem dX2_readField_32 : decode cX2_readField 32 = .ok (.iload 5, 2) := by decide +kernel
theorem dX2_readField_34 : decode cX2_readField 34 = .ok (.ifCond .eq 63, 3) := by decide +kernel
theorem dX2_readField_37 : decode cX2_readField 37 = .ok (.iload 6, 2) := by decide +kernel
theorem dX2_readField_39 : decode cX2_readField 39 = .ok (.iload_n 3, 1) := by decide +kernel
theorem dX2_readField_40 : decode cX2_readField 40 = .ok (.if_icmp .ge 57, 3) := by decide +kernel
theorem dX2_readField_43 : decode cX2_readField 43 = .ok (.aload_n 1, 1) := by decide +kernel
theorem dX2_readField_44 : decode cX2_readField 44 = .ok (.iload 6, 2) := by decide +kernel
theorem dX2_readField_46 : decode cX2_readField 46 = .ok (.invokevirtual 58, 3) := by decide +kernel
theorem dX2_readField_49 : decode cX2_readField 49 = .ok (.istore 7, 2) := by decide +kernel
theorem dX2_readField_51 : decode cX2_readField 51 = .ok (.iload 6, 2) := by decide +kernel
theorem dX2_readField_53 : decode cX2_readField 53 = .ok (.iload 4, 2) := by decide +kernel
theorem dX2_readField_55 : decode cX2_readField 55 = .ok (.if_icmp .eq 29, 3) := by decide +kernel
theorem dX2_readField_58 : decode cX2_readField 58 = .ok (.iload 6, 2) := by decide +kernel
theorem dX2_readField_60 : decode cX2_readField 60 = .ok (.iload 4, 2) := by decide +kernel
theorem dX2_readField_62 : decode cX2_readField 62 = .ok (.if_icmp .ge 14, 3) := by decide +kernel
theorem dX2_readField_65 : decode cX2_readField 65 = .ok (.iload 7, 2) := by decide +kernel
theorem dX2_readField_67 : decode cX2_readField 67 = .ok (.invokestatic 109, 3) := by decide +kernel
theorem dX2_readField_70 : decode cX2_readField 70 = .ok (.ifCond .eq 18, 3) := by decide +kernel
theorem dX2_readField_73 : decode cX2_readField 73 = .ok (.goto 11, 3) := by decide +kernel
theorem dX2_readField_76 : decode cX2_readField 76 = .ok (.iload 7, 2) := by decide +kernel
theorem dX2_readField_78 : decode cX2_readField 78 = .ok (.invokestatic 112, 3) := by decide +kernel
theorem dX2_readField_81 : decode cX2_readField 81 = .ok (.ifCond .eq 7, 3) := by decide +kernel
theorem dX2_readField_84 : decode cX2_readField 84 = .ok (.iconst 1, 1) := by decide +kernel
theorem dX2_readField_85 : decode cX2_readField 85 = .ok (.goto 4, 3) := by decide +kernel
theorem dX2_readField_88 : decode cX2_readField 88 = .ok (.iconst 0, 1) := by decide +kernel
theorem dX2_readField_89 : decode cX2_readField 89 = .ok (.istore 5, 2) := by decide +kernel
theorem dX2_readField_91 : decode cX2_readField 91 = .ok (.iinc 6 1, 3) := by decide +kernel
theorem dX2_readField_94 : decode cX2_readField 94 = .ok (.goto (-62), 3) := by decide +kernel
theorem dX2_readField_97 : decode cX2_readField 97 = .ok (.iload 5, 2) := by decide +kernel
theorem dX2_readField_99 : decode cX2_readField 99 = .ok (.ifCond .ne 9, 3) := by decide +kernel
theorem dX2_readField_102 : decode cX2_readField 102 = .ok (.aload_n 0, 1) := by decide +kernel
theorem dX2_readField_103 : decode cX2_readField 103 = .ok (.iconst 1, 1) := by decide +kernel
theorem dX2_readField_104 : decode cX2_readField 104 = .ok (.putfield 15, 3) := by decide +kernel
theorem dX2_readField_107 : decode cX2_readField 107 = .ok (.return_, 1) := by decide +kernel
theorem dX2_readField_108 : decode cX2_readField 108 = .ok (.iload 4, 2) := by decide +kernel
theorem dX2_readField_110 : decode cX2_readField 110 = .ok (.iconst 1, 1) := by decide +kernel
theorem dX2_readField_111 : decode cX2_readField 111 = .ok (.iadd, 1) := by decide +kernel
theorem dX2_readField_112 : decode cX2_readField 112 = .ok (.istore 6, 2) := by decide +kernel
theorem dX2_readField_114 : decode cX2_readField 114 = .ok (.iload_n 3, 1) := by decide +kernel
theorem dX2_readField_115 : decode cX2_readField 115 = .ok (.istore 7, 2) := by decide +kernel
theorem dX2_readField_117 : decode cX2_readField 117 = .ok (.iload 6, 2) := by decide +kernel
theorem dX2_readField_119 : decode cX2_readField 119 = .ok (.iload 7, 2) := by decide +kernel
theorem dX2_readField_121 : decode cX2_readField 121 = .ok (.if_icmp .ge 21, 3) := by decide +kernel
theorem dX2_readField_124 : decode cX2_readField 124 = .ok (.aload_n 1, 1) := by decide +kernel
theorem dX2_readField_125 : decode cX2_readField 125 = .ok (.iload 6, 2) := by decide +kernel
theorem dX2_readField_127 : decode cX2_readField 127 = .ok (.invokevirtual 58, 3) := by decide +kernel
theorem dX2_readField_130 : decode cX2_readField 130 = .ok (.invokestatic 115, 3) := by decide +kernel
theorem dX2_readField_133 : decode cX2_readField 133 = .ok (.ifCond .eq 9, 3) := by decide +kernel
theorem dX2_readField_136 : decode cX2_readField 136 = .ok (.iinc 6 1, 3) := by decide +kernel
theorem dX2_readField_139 : decode cX2_readField 139 = .ok (.goto (-22), 3) := by decide +kernel
theorem dX2_readField_142 : decode cX2_readField 142 = .ok (.iload 6, 2) := by decide +kernel
theorem dX2_readField_144 : decode cX2_readField 144 = .ok (.iload 7, 2) := by decide +kernel
theorem dX2_readField_146 : decode cX2_readField 146 = .ok (.if_icmp .ge 23, 3) := by decide +kernel
theorem dX2_readField_149 : decode cX2_readField 149 = .ok (.aload_n 1, 1) := by decide +kernel
theorem dX2_readField_150 : decode cX2_readField 150 = .ok (.iload 7, 2) := by decide +kernel
theorem dX2_readField_152 : decode cX2_readField 152 = .ok (.iconst 1, 1) := by decide +kernel
theorem dX2_readField_153 : decode cX2_readField 153 = .ok (.isub, 1) := by decide +kernel
theorem dX2_readField_154 : decode cX2_readField 154 = .ok (.invokevirtual 58, 3) := by decide +kernel
theorem dX2_readField_157 : decode cX2_readField 157 = .ok (.invokestatic 115, 3) := by decide +kernel
theorem dX2_readField_160 : decode cX2_readField 160 = .ok (.ifCond .eq 9, 3) := by decide +kernel
theorem dX2_readField_163 : decode cX2_readField 163 = .ok (.iinc 7 (-1), 3) := by decide +kernel
theorem dX2_readField_166 : decode cX2_readField 166 = .ok (.goto (-24), 3) := by decide +kernel
theorem dX2_readField_169 : decode cX2_readField 169 = .ok (.aload_n 0, 1) := by decide +kernel
theorem dX2_readField_170 : decode cX2_readField 170 = .ok (.aload_n 1, 1) := by decide +kernel
theorem dX2_readField_171 : decode cX2_readField 171 = .ok (.iload_n 2, 1) := by decide +kernel
theorem dX2_readField_172 : decode cX2_readField 172 = .ok (.iload 4, 2) := by decide +kernel
theorem dX2_readField_174 : decode cX2_readField 174 = .ok (.iload 6, 2) := by decide +kernel
theorem dX2_readField_176 : decode cX2_readField 176 = .ok (.iload 7, 2) := by decide +kernel
theorem dX2_readField_178 : decode cX2_readField 178 = .ok (.invokevirtual 118, 3) := by decide +kernel
theorem dX2_readField_181 : decode cX2_readField 181 = .ok (.return_, 1) := by decide +kernel
set_option maxRecDepth 20000 in
theorem ggX2_noteField_X4_hasWord : GoodIn wsX2_noteField wsX4_hasWord := goodIn_r _ [12, 13, 14, 15, 16, 17, 18, 19, 20, 21, 22, 23, 24, 25, 26, 27, 11, 28, 29, 30, 31, 32, 33, 34, 35, 36, 37, 38, 39, 40, 41, 42, 43, 44, 45, 46, 47, 48, 49, 50, 51, 52, 53, 54, 55, 56, 57, 58, 59, 60, 61, 62, 63, 64, 65, 66, 67, 68, 69, 70, 71, 103, 104, 105] (by decide +kernel) (by decide +kernel)
set_option maxRecDepth 20000 in
theorem gX2_noteField_X4_hasWord : GoodIn wsX2_noteField (wsV RX2 124 RX4 yX4_hasWord wsX4_hasWord) := goodIn_app (goodIn_of _ (by decide +kernel)) ggX2_noteField_X4_hasWord
set_option maxRecDepth 20000 in
theorem ggX2_noteField_X2_numberIn : GoodIn wsX2_noteField wsX2_numberIn := goodIn_r _ [75, 76, 26, 27, 11, 28, 29, 30, 77, 78, 33, 79, 103, 104, 105] (by decide +kernel) (by decide +kernel)
set_option maxRecDepth 20000 in
theorem gX2_noteField_X2_numberIn : GoodIn wsX2_noteField (va_wsS RX2 131 yX2_numberIn wsX2_numberIn) := goodIn_app (goodIn_of _ (by decide +kernel)) ggX2_noteField_X2_numberIn
set_option maxRecDepth 20000 in
theorem ggX2_noteField_X2_noteWords : GoodIn wsX2_noteField wsX2_noteWords := goodIn_r _ [83, 84, 85, 76, 26, 27, 11, 28, 29, 30, 86, 87, 33, 88, 8, 9, 10, 12, 13, 14, 15, 16, 17, 18, 19, 20, 21, 22, 23, 24, 25, 31, 32, 34, 35, 36, 37, 38, 39, 40, 41, 42, 43, 44, 45, 46, 47, 48, 49, 50, 51, 52, 53, 54, 55, 56, 57, 58, 59, 60, 61, 62, 63, 64, 65, 66, 67, 68, 69, 70, 71, 89, 90, 91, 92, 93, 94, 95, 96, 97, 98, 99, 100, 101, 102, 103, 104, 105] (by decide +kernel) (by decide +kernel)
set_option maxRecDepth 20000 in
theorem gX2_noteField_X2_noteWords : GoodIn wsX2_noteField (wsV RX2 139 RX2 yX2_noteWords wsX2_noteWords) := goodIn_app (goodIn_of _ (by decide +kernel)) ggX2_noteField_X2_noteWords
theorem dX2_noteField_0 : decode cX2_noteField 0 = .ok (.aload_n 1, 1) := by decide +kernel
theorem dX2_noteField_1 : decode cX2_noteField 1 = .ok (.iload_n 2, 1) := by decide +kernel
theorem dX2_noteField_2 : decode cX2_noteField 2 = .ok (.iload_n 3, 1) := by decide +kernel
theorem dX2_noteField_3 : decode cX2_noteField 3 = .ok (.ldc 122, 2) := by decide +kernel
theorem dX2_noteField_5 : decode cX2_noteField 5 = .ok (.invokevirtual 124, 3) := by decide +kernel
theorem dX2_noteField_8 : decode cX2_noteField 8 = .ok (.ifCond .eq 16, 3) := by decide +kernel
theorem dX2_noteField_11 : decode cX2_noteField 11 = .ok (.aload_n 0, 1) := by decide +kernel
theorem dX2_noteField_12 : decode cX2_noteField 12 = .ok (.dup, 1) := by decide +kernel
theorem dX2_noteField_13 : decode cX2_noteField 13 = .ok (.getfield 28, 3) := by decide +kernel
theorem dX2_noteField_16 : decode cX2_noteField 16 = .ok (.iconst 1, 1) := by decide +kernel
theorem dX2_noteField_17 : decode cX2_noteField 17 = .ok (.iadd, 1) := by decide +kernel
theorem dX2_noteField_18 : decode cX2_noteField 18 = .ok (.putfield 28, 3) := by decide +kernel
theorem dX2_noteField_21 : decode cX2_noteField 21 = .ok (.goto 119, 3) := by decide +kernel
theorem dX2_noteField_24 : decode cX2_noteField 24 = .ok (.aload_n 1, 1) := by decide +kernel
theorem dX2_noteField_25 : decode cX2_noteField 25 = .ok (.iload_n 2, 1) := by decide +kernel
theorem dX2_noteField_26 : decode cX2_noteField 26 = .ok (.iload_n 3, 1) := by decide +kernel
theorem dX2_noteField_27 : decode cX2_noteField 27 = .ok (.ldc 127, 2) := by decide +kernel
theorem dX2_noteField_29 : decode cX2_noteField 29 = .ok (.invokevirtual 124, 3) := by decide +kernel
theorem dX2_noteField_32 : decode cX2_noteField 32 = .ok (.ifCond .eq 16, 3) := by decide +kernel
theorem dX2_noteField_35 : decode cX2_noteField 35 = .ok (.aload_n 0, 1) := by decide +kernel
theorem dX2_noteField_36 : decode cX2_noteField 36 = .ok (.dup, 1) := by decide +kernel
theorem dX2_noteField_37 : decode cX2_noteField 37 = .ok (.getfield 31, 3) := by decide +kernel
theorem dX2_noteField_40 : decode cX2_noteField 40 = .ok (.iconst 1, 1) := by decide +kernel
theorem dX2_noteField_41 : decode cX2_noteField 41 = .ok (.iadd, 1) := by decide +kernel
theorem dX2_noteField_42 : decode cX2_noteField 42 = .ok (.putfield 31, 3) := by decide +kernel
theorem dX2_noteField_45 : decode cX2_noteField 45 = .ok (.goto 95, 3) := by decide +kernel
theorem dX2_noteField_48 : decode cX2_noteField 48 = .ok (.aload_n 1, 1) := by decide +kernel
theorem dX2_noteField_49 : decode cX2_noteField 49 = .ok (.iload_n 2, 1) := by decide +kernel
theorem dX2_noteField_50 : decode cX2_noteField 50 = .ok (.iload_n 3, 1) := by decide +kernel
theorem dX2_noteField_51 : decode cX2_noteField 51 = .ok (.ldc 129, 2) := by decide +kernel
theorem dX2_noteField_53 : decode cX2_noteField 53 = .ok (.invokevirtual 124, 3) := by decide +kernel
theorem dX2_noteField_56 : decode cX2_noteField 56 = .ok (.ifCond .eq 28, 3) := by decide +kernel
theorem dX2_noteField_59 : decode cX2_noteField 59 = .ok (.aload_n 0, 1) := by decide +kernel
theorem dX2_noteField_60 : decode cX2_noteField 60 = .ok (.dup, 1) := by decide +kernel
theorem dX2_noteField_61 : decode cX2_noteField 61 = .ok (.getfield 34, 3) := by decide +kernel
theorem dX2_noteField_64 : decode cX2_noteField 64 = .ok (.iconst 1, 1) := by decide +kernel
theorem dX2_noteField_65 : decode cX2_noteField 65 = .ok (.iadd, 1) := by decide +kernel
theorem dX2_noteField_66 : decode cX2_noteField 66 = .ok (.putfield 34, 3) := by decide +kernel
theorem dX2_noteField_69 : decode cX2_noteField 69 = .ok (.aload_n 0, 1) := by decide +kernel
theorem dX2_noteField_70 : decode cX2_noteField 70 = .ok (.aload_n 1, 1) := by decide +kernel
theorem dX2_noteField_71 : decode cX2_noteField 71 = .ok (.iload 4, 2) := by decide +kernel
theorem dX2_noteField_73 : decode cX2_noteField 73 = .ok (.iload 5, 2) := by decide +kernel
theorem dX2_noteField_75 : decode cX2_noteField 75 = .ok (.invokestatic 131, 3) := by decide +kernel
theorem dX2_noteField_78 : decode cX2_noteField 78 = .ok (.putfield 37, 3) := by decide +kernel
theorem dX2_noteField_81 : decode cX2_noteField 81 = .ok (.goto 59, 3) := by decide +kernel
theorem dX2_noteField_84 : decode cX2_noteField 84 = .ok (.aload_n 1, 1) := by decide +kernel
theorem dX2_noteField_85 : decode cX2_noteField 85 = .ok (.iload_n 2, 1) := by decide +kernel
theorem dX2_noteField_86 : decode cX2_noteField 86 = .ok (.iload_n 3, 1) := by decide +kernel
theorem dX2_noteField_87 : decode cX2_noteField 87 = .ok (.ldc 135, 2) := by decide +kernel
theorem dX2_noteField_89 : decode cX2_noteField 89 = .ok (.invokevirtual 124, 3) := by decide +kernel
theorem dX2_noteField_92 : decode cX2_noteField 92 = .ok (.ifCond .eq 28, 3) := by decide +kernel
theorem dX2_noteField_95 : decode cX2_noteField 95 = .ok (.aload_n 0, 1) := by decide +kernel
theorem dX2_noteField_96 : decode cX2_noteField 96 = .ok (.dup, 1) := by decide +kernel
theorem dX2_noteField_97 : decode cX2_noteField 97 = .ok (.getfield 40, 3) := by decide +kernel
theorem dX2_noteField_100 : decode cX2_noteField 100 = .ok (.iconst 1, 1) := by decide +kernel
theorem dX2_noteField_101 : decode cX2_noteField 101 = .ok (.iadd, 1) := by decide +kernel
theorem dX2_noteField_102 : decode cX2_noteField 102 = .ok (.putfield 40, 3) := by decide +kernel
theorem dX2_noteField_105 : decode cX2_noteField 105 = .ok (.aload_n 0, 1) := by decide +kernel
theorem dX2_noteField_106 : decode cX2_noteField 106 = .ok (.iload 4, 2) := by decide +kernel
theorem dX2_noteField_108 : decode cX2_noteField 108 = .ok (.putfield 43, 3) := by decide +kernel
theorem dX2_noteField_111 : decode cX2_noteField 111 = .ok (.aload_n 0, 1) := by decide +kernel
theorem dX2_noteField_112 : decode cX2_noteField 112 = .ok (.iload 5, 2) := by decide +kernel
theorem dX2_noteField_114 : decode cX2_noteField 114 = .ok (.putfield 46, 3) := by decide +kernel
theorem dX2_noteField_117 : decode cX2_noteField 117 = .ok (.goto 23, 3) := by decide +kernel
theorem dX2_noteField_120 : decode cX2_noteField 120 = .ok (.aload_n 1, 1) := by decide +kernel
theorem dX2_noteField_121 : decode cX2_noteField 121 = .ok (.iload_n 2, 1) := by decide +kernel
theorem dX2_noteField_122 : decode cX2_noteField 122 = .ok (.iload_n 3, 1) := by decide +kernel
theorem dX2_noteField_123 : decode cX2_noteField 123 = .ok (.ldc 137, 2) := by decide +kernel
theorem dX2_noteField_125 : decode cX2_noteField 125 = .ok (.invokevirtual 124, 3) := by decide +kernel
theorem dX2_noteField_128 : decode cX2_noteField 128 = .ok (.ifCond .eq 12, 3) := by decide +kernel
theorem dX2_noteField_131 : decode cX2_noteField 131 = .ok (.aload_n 0, 1) := by decide +kernel
theorem dX2_noteField_132 : decode cX2_noteField 132 = .ok (.aload_n 1, 1) := by decide +kernel
theorem dX2_noteField_133 : decode cX2_noteField 133 = .ok (.iload 4, 2) := by decide +kernel
theorem dX2_noteField_135 : decode cX2_noteField 135 = .ok (.iload 5, 2) := by decide +kernel
theorem dX2_noteField_137 : decode cX2_noteField 137 = .ok (.invokevirtual 139, 3) := by decide +kernel
theorem dX2_noteField_140 : decode cX2_noteField 140 = .ok (.return_, 1) := by decide +kernel
set_option maxRecDepth 20000 in
theorem ggX2_numberIn_X4_get : GoodIn wsX2_numberIn wsX4_get := goodIn_r _ [5, 6, 7, 12, 13, 14] (by decide +kernel) (by decide +kernel)
set_option maxRecDepth 20000 in
theorem gX2_numberIn_X4_get : GoodIn wsX2_numberIn (wsV RX2 58 RX4 yX4_get wsX4_get) := goodIn_app (goodIn_of _ (by decide +kernel)) ggX2_numberIn_X4_get
set_option maxRecDepth 20000 in
theorem ggX2_numberIn_X1_isDigit : GoodIn wsX2_numberIn wsX1_isDigit := goodIn_r _ [11] (by decide +kernel) (by decide +kernel)
set_option maxRecDepth 20000 in
theorem gX2_numberIn_X1_isDigit : GoodIn wsX2_numberIn (va_wsS RX2 142 yX1_isDigit wsX1_isDigit) := goodIn_app (goodIn_of _ (by decide +kernel)) ggX2_numberIn_X1_isDigit
theorem dX2_numberIn_0 : decode cX2_numberIn 0 = .ok (.iload_n 2, 1) := by decide +kernel
theorem dX2_numberIn_1 : decode cX2_numberIn 1 = .ok (.iload_n 1, 1) := by decide +kernel
theorem dX2_numberIn_2 : decode cX2_numberIn 2 = .ok (.if_icmp .le 11, 3) := by decide +kernel
theorem dX2_numberIn_5 : decode cX2_numberIn 5 = .ok (.iload_n 2, 1) := by decide +kernel
theorem dX2_numberIn_6 : decode cX2_numberIn 6 = .ok (.iload_n 1, 1) := by decide +kernel
theorem dX2_numberIn_7 : decode cX2_numberIn 7 = .ok (.isub, 1) := by decide +kernel
theorem dX2_numberIn_8 : decode cX2_numberIn 8 = .ok (.bipush 9, 2) := by decide +kernel
theorem dX2_numberIn_10 : decode cX2_numberIn 10 = .ok (.if_icmp .le 5, 3) := by decide +kernel
theorem dX2_numberIn_13 : decode cX2_numberIn 13 = .ok (.iconst (-1), 1) := by decide +kernel
theorem dX2_numberIn_14 : decode cX2_numberIn 14 = .ok (.ireturn, 1) := by decide +kernel
theorem dX2_numberIn_15 : decode cX2_numberIn 15 = .ok (.iconst 0, 1) := by decide +kernel
theorem dX2_numberIn_16 : decode cX2_numberIn 16 = .ok (.istore_n 3, 1) := by decide +kernel
theorem dX2_numberIn_17 : decode cX2_numberIn 17 = .ok (.iload_n 1, 1) := by decide +kernel
theorem dX2_numberIn_18 : decode cX2_numberIn 18 = .ok (.istore 4, 2) := by decide +kernel
theorem dX2_numberIn_20 : decode cX2_numberIn 20 = .ok (.iload 4, 2) := by decide +kernel
theorem dX2_numberIn_22 : decode cX2_numberIn 22 = .ok (.iload_n 2, 1) := by decide +kernel
theorem dX2_numberIn_23 : decode cX2_numberIn 23 = .ok (.if_icmp .ge 38, 3) := by decide +kernel
theorem dX2_numberIn_26 : decode cX2_numberIn 26 = .ok (.aload_n 0, 1) := by decide +kernel
theorem dX2_numberIn_27 : decode cX2_numberIn 27 = .ok (.iload 4, 2) := by decide +kernel
theorem dX2_numberIn_29 : decode cX2_numberIn 29 = .ok (.invokevirtual 58, 3) := by decide +kernel
theorem dX2_numberIn_32 : decode cX2_numberIn 32 = .ok (.istore 5, 2) := by decide +kernel
theorem dX2_numberIn_34 : decode cX2_numberIn 34 = .ok (.iload 5, 2) := by decide +kernel
theorem dX2_numberIn_36 : decode cX2_numberIn 36 = .ok (.invokestatic 142, 3) := by decide +kernel
theorem dX2_numberIn_39 : decode cX2_numberIn 39 = .ok (.ifCond .ne 5, 3) := by decide +kernel
theorem dX2_numberIn_42 : decode cX2_numberIn 42 = .ok (.iconst (-1), 1) := by decide +kernel
theorem dX2_numberIn_43 : decode cX2_numberIn 43 = .ok (.ireturn, 1) := by decide +kernel
theorem dX2_numberIn_44 : decode cX2_numberIn 44 = .ok (.iload_n 3, 1) := by decide +kernel
theorem dX2_numberIn_45 : decode cX2_numberIn 45 = .ok (.bipush 10, 2) := by decide +kernel
theorem dX2_numberIn_47 : decode cX2_numberIn 47 = .ok (.imul, 1) := by decide +kernel
theorem dX2_numberIn_48 : decode cX2_numberIn 48 = .ok (.iload 5, 2) := by decide +kernel
theorem dX2_numberIn_50 : decode cX2_numberIn 50 = .ok (.iadd, 1) := by decide +kernel
theorem dX2_numberIn_51 : decode cX2_numberIn 51 = .ok (.bipush 48, 2) := by decide +kernel
theorem dX2_numberIn_53 : decode cX2_numberIn 53 = .ok (.isub, 1) := by decide +kernel
theorem dX2_numberIn_54 : decode cX2_numberIn 54 = .ok (.istore_n 3, 1) := by decide +kernel
theorem dX2_numberIn_55 : decode cX2_numberIn 55 = .ok (.iinc 4 1, 3) := by decide +kernel
theorem dX2_numberIn_58 : decode cX2_numberIn 58 = .ok (.goto (-38), 3) := by decide +kernel
theorem dX2_numberIn_61 : decode cX2_numberIn 61 = .ok (.iload_n 3, 1) := by decide +kernel
theorem dX2_numberIn_62 : decode cX2_numberIn 62 = .ok (.ireturn, 1) := by decide +kernel
set_option maxRecDepth 20000 in
theorem ggX2_noteWords_X4_get : GoodIn wsX2_noteWords wsX4_get := goodIn_r _ [7, 8, 9, 85, 86, 87] (by decide +kernel) (by decide +kernel)
set_option maxRecDepth 20000 in
theorem gX2_noteWords_X4_get : GoodIn wsX2_noteWords (wsV RX2 58 RX4 yX4_get wsX4_get) := goodIn_app (goodIn_of _ (by decide +kernel)) ggX2_noteWords_X4_get
set_option maxRecDepth 20000 in
theorem ggX2_noteWords_X1_isSpace : GoodIn wsX2_noteWords wsX1_isSpace := goodIn_r _ [13] (by decide +kernel) (by decide +kernel)
set_option maxRecDepth 20000 in
theorem gX2_noteWords_X1_isSpace : GoodIn wsX2_noteWords (va_wsS RX2 115 yX1_isSpace wsX1_isSpace) := goodIn_app (goodIn_of _ (by decide +kernel)) ggX2_noteWords_X1_isSpace
set_option maxRecDepth 20000 in
theorem ggX2_noteWords_X4_hasWord : GoodIn wsX2_noteWords wsX4_hasWord := goodIn_r _ [17, 18, 19, 20, 21, 22, 23, 24, 25, 26, 27, 28, 29, 30, 4, 5, 6, 7, 8, 9, 31, 32, 12, 33, 34, 35, 36, 37, 38, 39, 40, 41, 42, 43, 44, 45, 46, 47, 48, 49, 50, 51, 52, 53, 54, 55, 56, 57, 58, 59, 60, 61, 62, 63, 64, 65, 66, 67, 68, 69, 70, 85, 86, 87] (by decide +kernel) (by decide +kernel)
set_option maxRecDepth 20000 in
theorem gX2_noteWords_X4_hasWord : GoodIn wsX2_noteWords (wsV RX2 124 RX4 yX4_hasWord wsX4_hasWord) := goodIn_app (goodIn_of _ (by decide +kernel)) ggX2_noteWords_X4_hasWord
theorem dX2_noteWords_0 : decode cX2_noteWords 0 = .ok (.iload_n 2, 1) := by decide +kernel
theorem dX2_noteWords_1 : decode cX2_noteWords 1 = .ok (.istore 4, 2) := by decide +kernel
theorem dX2_noteWords_3 : decode cX2_noteWords 3 = .ok (.iload_n 2, 1) := by decide +kernel
theorem dX2_noteWords_4 : decode cX2_noteWords 4 = .ok (.istore 5, 2) := by decide +kernel
theorem dX2_noteWords_6 : decode cX2_noteWords 6 = .ok (.iload 5, 2) := by decide +kernel
theorem dX2_noteWords_8 : decode cX2_noteWords 8 = .ok (.iload_n 3, 1) := by decide +kernel
theorem dX2_noteWords_9 : decode cX2_noteWords 9 = .ok (.if_icmp .gt 82, 3) := by decide +kernel
theorem dX2_noteWords_12 : decode cX2_noteWords 12 = .ok (.iload 5, 2) := by decide +kernel
theorem dX2_noteWords_14 : decode cX2_noteWords 14 = .ok (.iload_n 3, 1) := by decide +kernel
theorem dX2_noteWords_15 : decode cX2_noteWords 15 = .ok (.if_icmp .eq 26, 3) := by decide +kernel
theorem dX2_noteWords_18 : decode cX2_noteWords 18 = .ok (.aload_n 1, 1) := by decide +kernel
theorem dX2_noteWords_19 : decode cX2_noteWords 19 = .ok (.iload 5, 2) := by decide +kernel
theorem dX2_noteWords_21 : decode cX2_noteWords 21 = .ok (.invokevirtual 58, 3) := by decide +kernel
theorem dX2_noteWords_24 : decode cX2_noteWords 24 = .ok (.bipush 44, 2) := by decide +kernel
theorem dX2_noteWords_26 : decode cX2_noteWords 26 = .ok (.if_icmp .eq 15, 3) := by decide +kernel
theorem dX2_noteWords_29 : decode cX2_noteWords 29 = .ok (.aload_n 1, 1) := by decide +kernel
theorem dX2_noteWords_30 : decode cX2_noteWords 30 = .ok (.iload 5, 2) := by decide +kernel
theorem dX2_noteWords_32 : decode cX2_noteWords 32 = .ok (.invokevirtual 58, 3) := by decide +kernel
theorem dX2_noteWords_35 : decode cX2_noteWords 35 = .ok (.invokestatic 115, 3) := by decide +kernel
theorem dX2_noteWords_38 : decode cX2_noteWords 38 = .ok (.ifCond .eq 47, 3) := by decide +kernel
theorem dX2_noteWords_41 : decode cX2_noteWords 41 = .ok (.aload_n 0, 1) := by decide +kernel
theorem dX2_noteWords_42 : decode cX2_noteWords 42 = .ok (.dup, 1) := by decide +kernel
theorem dX2_noteWords_43 : decode cX2_noteWords 43 = .ok (.getfield 49, 3) := by decide +kernel
theorem dX2_noteWords_46 : decode cX2_noteWords 46 = .ok (.aload_n 1, 1) := by decide +kernel
theorem dX2_noteWords_47 : decode cX2_noteWords 47 = .ok (.iload 4, 2) := by decide +kernel
theorem dX2_noteWords_49 : decode cX2_noteWords 49 = .ok (.iload 5, 2) := by decide +kernel
theorem dX2_noteWords_51 : decode cX2_noteWords 51 = .ok (.ldc 145, 2) := by decide +kernel
theorem dX2_noteWords_53 : decode cX2_noteWords 53 = .ok (.invokevirtual 124, 3) := by decide +kernel
theorem dX2_noteWords_56 : decode cX2_noteWords 56 = .ok (.ior, 1) := by decide +kernel
theorem dX2_noteWords_57 : decode cX2_noteWords 57 = .ok (.putfield 49, 3) := by decide +kernel
theorem dX2_noteWords_60 : decode cX2_noteWords 60 = .ok (.aload_n 0, 1) := by decide +kernel
theorem dX2_noteWords_61 : decode cX2_noteWords 61 = .ok (.dup, 1) := by decide +kernel
theorem dX2_noteWords_62 : decode cX2_noteWords 62 = .ok (.getfield 52, 3) := by decide +kernel
theorem dX2_noteWords_65 : decode cX2_noteWords 65 = .ok (.aload_n 1, 1) := by decide +kernel
theorem dX2_noteWords_66 : decode cX2_noteWords 66 = .ok (.iload 4, 2) := by decide +kernel
theorem dX2_noteWords_68 : decode cX2_noteWords 68 = .ok (.iload 5, 2) := by decide +kernel
theorem dX2_noteWords_70 : decode cX2_noteWords 70 = .ok (.ldc 147, 2) := by decide +kernel
theorem dX2_noteWords_72 : decode cX2_noteWords 72 = .ok (.invokevirtual 124, 3) := by decide +kernel
theorem dX2_noteWords_75 : decode cX2_noteWords 75 = .ok (.ior, 1) := by decide +kernel
theorem dX2_noteWords_76 : decode cX2_noteWords 76 = .ok (.putfield 52, 3) := by decide +kernel
theorem dX2_noteWords_79 : decode cX2_noteWords 79 = .ok (.iload 5, 2) := by decide +kernel
theorem dX2_noteWords_81 : decode cX2_noteWords 81 = .ok (.iconst 1, 1) := by decide +kernel
theorem dX2_noteWords_82 : decode cX2_noteWords 82 = .ok (.iadd, 1) := by decide +kernel
theorem dX2_noteWords_83 : decode cX2_noteWords 83 = .ok (.istore 4, 2) := by decide +kernel
theorem dX2_noteWords_85 : decode cX2_noteWords 85 = .ok (.iinc 5 1, 3) := by decide +kernel
theorem dX2_noteWords_88 : decode cX2_noteWords 88 = .ok (.goto (-82), 3) := by decide +kernel
theorem dX2_noteWords_91 : decode cX2_noteWords 91 = .ok (.return_, 1) := by decide +kernel
theorem dX2_judge_0 : decode cX2_judge 0 = .ok (.aload_n 0, 1) := by decide +kernel
theorem dX2_judge_1 : decode cX2_judge 1 = .ok (.getfield 19, 3) := by decide +kernel
theorem dX2_judge_4 : decode cX2_judge 4 = .ok (.ifCond .eq 19, 3) := by decide +kernel
theorem dX2_judge_7 : decode cX2_judge 7 = .ok (.aload_n 0, 1) := by decide +kernel
theorem dX2_judge_8 : decode cX2_judge 8 = .ok (.getfield 28, 3) := by decide +kernel
theorem dX2_judge_11 : decode cX2_judge 11 = .ok (.iconst 1, 1) := by decide +kernel
theorem dX2_judge_12 : decode cX2_judge 12 = .ok (.if_icmp .eq 7, 3) := by decide +kernel
theorem dX2_judge_15 : decode cX2_judge 15 = .ok (.iconst 1, 1) := by decide +kernel
theorem dX2_judge_16 : decode cX2_judge 16 = .ok (.goto 20, 3) := by decide +kernel
theorem dX2_judge_19 : decode cX2_judge 19 = .ok (.iconst 0, 1) := by decide +kernel
theorem dX2_judge_20 : decode cX2_judge 20 = .ok (.goto 16, 3) := by decide +kernel
theorem dX2_judge_23 : decode cX2_judge 23 = .ok (.aload_n 0, 1) := by decide +kernel
theorem dX2_judge_24 : decode cX2_judge 24 = .ok (.getfield 28, 3) := by decide +kernel
theorem dX2_judge_27 : decode cX2_judge 27 = .ok (.iconst 1, 1) := by decide +kernel
theorem dX2_judge_28 : decode cX2_judge 28 = .ok (.if_icmp .le 7, 3) := by decide +kernel
theorem dX2_judge_31 : decode cX2_judge 31 = .ok (.iconst 1, 1) := by decide +kernel
theorem dX2_judge_32 : decode cX2_judge 32 = .ok (.goto 4, 3) := by decide +kernel
theorem dX2_judge_35 : decode cX2_judge 35 = .ok (.iconst 0, 1) := by decide +kernel
theorem dX2_judge_36 : decode cX2_judge 36 = .ok (.istore_n 1, 1) := by decide +kernel
theorem dX2_judge_37 : decode cX2_judge 37 = .ok (.aload_n 0, 1) := by decide +kernel
theorem dX2_judge_38 : decode cX2_judge 38 = .ok (.getfield 15, 3) := by decide +kernel
theorem dX2_judge_41 : decode cX2_judge 41 = .ok (.ifCond .ne 7, 3) := by decide +kernel
theorem dX2_judge_44 : decode cX2_judge 44 = .ok (.iload_n 1, 1) := by decide +kernel
theorem dX2_judge_45 : decode cX2_judge 45 = .ok (.ifCond .eq 7, 3) := by decide +kernel
theorem dX2_judge_48 : decode cX2_judge 48 = .ok (.getstatic 149, 3) := by decide +kernel
theorem dX2_judge_51 : decode cX2_judge 51 = .ok (.areturn, 1) := by decide +kernel
theorem dX2_judge_52 : decode cX2_judge 52 = .ok (.aload_n 0, 1) := by decide +kernel
theorem dX2_judge_53 : decode cX2_judge 53 = .ok (.getfield 31, 3) := by decide +kernel
theorem dX2_judge_56 : decode cX2_judge 56 = .ok (.ifCond .le 7, 3) := by decide +kernel
theorem dX2_judge_59 : decode cX2_judge 59 = .ok (.getstatic 155, 3) := by decide +kernel
theorem dX2_judge_62 : decode cX2_judge 62 = .ok (.areturn, 1) := by decide +kernel
theorem dX2_judge_63 : decode cX2_judge 63 = .ok (.aload_n 0, 1) := by decide +kernel
theorem dX2_judge_64 : decode cX2_judge 64 = .ok (.getfield 34, 3) := by decide +kernel
theorem dX2_judge_67 : decode cX2_judge 67 = .ok (.iconst 1, 1) := by decide +kernel
theorem dX2_judge_68 : decode cX2_judge 68 = .ok (.if_icmp .gt 10, 3) := by decide +kernel
theorem dX2_judge_71 : decode cX2_judge 71 = .ok (.aload_n 0, 1) := by decide +kernel
theorem dX2_judge_72 : decode cX2_judge 72 = .ok (.getfield 37, 3) := by decide +kernel
theorem dX2_judge_75 : decode cX2_judge 75 = .ok (.ifCond .ge 7, 3) := by decide +kernel
theorem dX2_judge_78 : decode cX2_judge 78 = .ok (.getstatic 149, 3) := by decide +kernel
theorem dX2_judge_81 : decode cX2_judge 81 = .ok (.areturn, 1) := by decide +kernel
theorem dX2_judge_82 : decode cX2_judge 82 = .ok (.aload_n 0, 1) := by decide +kernel
theorem dX2_judge_83 : decode cX2_judge 83 = .ok (.getfield 37, 3) := by decide +kernel
theorem dX2_judge_86 : decode cX2_judge 86 = .ok (.ldc 158, 2) := by decide +kernel
theorem dX2_judge_88 : decode cX2_judge 88 = .ok (.if_icmp .le 7, 3) := by decide +kernel
theorem dX2_judge_91 : decode cX2_judge 91 = .ok (.getstatic 159, 3) := by decide +kernel
theorem dX2_judge_94 : decode cX2_judge 94 = .ok (.areturn, 1) := by decide +kernel
theorem dX2_judge_95 : decode cX2_judge 95 = .ok (.aload_n 0, 1) := by decide +kernel
theorem dX2_judge_96 : decode cX2_judge 96 = .ok (.getfield 11, 3) := by decide +kernel
theorem dX2_judge_99 : decode cX2_judge 99 = .ok (.iconst 2, 1) := by decide +kernel
theorem dX2_judge_100 : decode cX2_judge 100 = .ok (.if_icmp .ne 9, 3) := by decide +kernel
theorem dX2_judge_103 : decode cX2_judge 103 = .ok (.getstatic 162, 3) := by decide +kernel
theorem dX2_judge_106 : decode cX2_judge 106 = .ok (.goto 6, 3) := by decide +kernel
theorem dX2_judge_109 : decode cX2_judge 109 = .ok (.getstatic 165, 3) := by decide +kernel
theorem dX2_judge_112 : decode cX2_judge 112 = .ok (.areturn, 1) := by decide +kernel
theorem dX2_isPersistent_0 : decode cX2_isPersistent 0 = .ok (.aload_n 0, 1) := by decide +kernel
theorem dX2_isPersistent_1 : decode cX2_isPersistent 1 = .ok (.getfield 49, 3) := by decide +kernel
theorem dX2_isPersistent_4 : decode cX2_isPersistent 4 = .ok (.ifCond .ne 21, 3) := by decide +kernel
theorem dX2_isPersistent_7 : decode cX2_isPersistent 7 = .ok (.aload_n 0, 1) := by decide +kernel
theorem dX2_isPersistent_8 : decode cX2_isPersistent 8 = .ok (.getfield 19, 3) := by decide +kernel
theorem dX2_isPersistent_11 : decode cX2_isPersistent 11 = .ok (.ifCond .ne 10, 3) := by decide +kernel
theorem dX2_isPersistent_14 : decode cX2_isPersistent 14 = .ok (.aload_n 0, 1) := by decide +kernel
theorem dX2_isPersistent_15 : decode cX2_isPersistent 15 = .ok (.getfield 52, 3) := by decide +kernel
theorem dX2_isPersistent_18 : decode cX2_isPersistent 18 = .ok (.ifCond .eq 7, 3) := by decide +kernel
theorem dX2_isPersistent_21 : decode cX2_isPersistent 21 = .ok (.iconst 1, 1) := by decide +kernel
theorem dX2_isPersistent_22 : decode cX2_isPersistent 22 = .ok (.goto 4, 3) := by decide +kernel
theorem dX2_isPersistent_25 : decode cX2_isPersistent 25 = .ok (.iconst 0, 1) := by decide +kernel
theorem dX2_isPersistent_26 : decode cX2_isPersistent 26 = .ok (.ireturn, 1) := by decide +kernel
set_option maxRecDepth 20000 in
theorem ggX2_hasMark_X4_get : GoodIn wsX2_hasMark wsX4_get := goodIn_r _ [8, 9, 10, 84, 85, 86] (by decide +kernel) (by decide +kernel)
set_option maxRecDepth 20000 in
theorem gX2_hasMark_X4_get : GoodIn wsX2_hasMark (wsV RX2 58 RX4 yX4_get wsX4_get) := goodIn_app (goodIn_of _ (by decide +kernel)) ggX2_hasMark_X4_get
set_option maxRecDepth 20000 in
theorem ggX2_hasMark_X1_ofMark : GoodIn wsX2_hasMark wsX1_ofMark := goodIn_r _ [14, 15, 16, 17, 18, 19, 20, 21, 22, 23, 24, 25, 26, 27, 28, 29, 30, 31, 32, 33, 34, 35, 36, 37, 38, 39, 40, 41, 42, 43, 44, 45, 46, 47, 48, 49, 50, 51, 52, 53, 54, 55] (by decide +kernel) (by decide +kernel)
set_option maxRecDepth 20000 in
theorem gX2_hasMark_X1_ofMark : GoodIn wsX2_hasMark (va_wsS RX2 168 yX1_ofMark wsX1_ofMark) := goodIn_app (goodIn_of _ (by decide +kernel)) ggX2_hasMark_X1_ofMark
set_option maxRecDepth 20000 in
theorem ggX2_hasMark_X4_hasText : GoodIn wsX2_hasMark wsX4_hasText := goodIn_r _ [59, 60, 61, 62, 18, 63, 20, 64, 65, 66, 67, 25, 26, 68, 5, 6, 7, 8, 9, 10, 69, 16, 17, 19, 21, 22, 23, 24, 27, 28, 29, 30, 31, 32, 33, 34, 35, 36, 37, 38, 39, 40, 41, 42, 43, 44, 45, 46, 47, 48, 49, 50, 51, 52, 53, 54, 55, 84, 85, 86] (by decide +kernel) (by decide +kernel)
set_option maxRecDepth 20000 in
theorem gX2_hasMark_X4_hasText : GoodIn wsX2_hasMark (wsV RX2 82 RX4 yX4_hasText wsX4_hasText) := goodIn_app (goodIn_of _ (by decide +kernel)) ggX2_hasMark_X4_hasText
theorem dX2_hasMark_0 : decode cX2_hasMark 0 = .ok (.aload_n 0, 1) := by decide +kernel
theorem dX2_hasMark_1 : decode cX2_hasMark 1 = .ok (.getfield 40, 3) := by decide +kernel
theorem dX2_hasMark_4 : decode cX2_hasMark 4 = .ok (.iconst 1, 1) := by decide +kernel
theorem dX2_hasMark_5 : decode cX2_hasMark 5 = .ok (.if_icmp .eq 5, 3) := by decide +kernel
theorem dX2_hasMark_8 : decode cX2_hasMark 8 = .ok (.iconst 0, 1) := by decide +kernel
theorem dX2_hasMark_9 : decode cX2_hasMark 9 = .ok (.ireturn, 1) := by decide +kernel
theorem dX2_hasMark_10 : decode cX2_hasMark 10 = .ok (.aload_n 0, 1) := by decide +kernel
theorem dX2_hasMark_11 : decode cX2_hasMark 11 = .ok (.getfield 46, 3) := by decide +kernel
theorem dX2_hasMark_14 : decode cX2_hasMark 14 = .ok (.aload_n 0, 1) := by decide +kernel
theorem dX2_hasMark_15 : decode cX2_hasMark 15 = .ok (.getfield 43, 3) := by decide +kernel
theorem dX2_hasMark_18 : decode cX2_hasMark 18 = .ok (.isub, 1) := by decide +kernel
theorem dX2_hasMark_19 : decode cX2_hasMark 19 = .ok (.bipush 10, 2) := by decide +kernel
theorem dX2_hasMark_21 : decode cX2_hasMark 21 = .ok (.if_icmp .ne 7, 3) := by decide +kernel
theorem dX2_hasMark_24 : decode cX2_hasMark 24 = .ok (.iconst 1, 1) := by decide +kernel
theorem dX2_hasMark_25 : decode cX2_hasMark 25 = .ok (.goto 4, 3) := by decide +kernel
theorem dX2_hasMark_28 : decode cX2_hasMark 28 = .ok (.iconst 0, 1) := by decide +kernel
theorem dX2_hasMark_29 : decode cX2_hasMark 29 = .ok (.istore_n 3, 1) := by decide +kernel
theorem dX2_hasMark_30 : decode cX2_hasMark 30 = .ok (.iconst 0, 1) := by decide +kernel
theorem dX2_hasMark_31 : decode cX2_hasMark 31 = .ok (.istore 4, 2) := by decide +kernel
theorem dX2_hasMark_33 : decode cX2_hasMark 33 = .ok (.iload_n 3, 1) := by decide +kernel
theorem dX2_hasMark_34 : decode cX2_hasMark 34 = .ok (.ifCond .eq 42, 3) := by decide +kernel
theorem dX2_hasMark_37 : decode cX2_hasMark 37 = .ok (.iload 4, 2) := by decide +kernel
theorem dX2_hasMark_39 : decode cX2_hasMark 39 = .ok (.bipush 10, 2) := by decide +kernel
theorem dX2_hasMark_41 : decode cX2_hasMark 41 = .ok (.if_icmp .ge 35, 3) := by decide +kernel
theorem dX2_hasMark_44 : decode cX2_hasMark 44 = .ok (.aload_n 1, 1) := by decide +kernel
theorem dX2_hasMark_45 : decode cX2_hasMark 45 = .ok (.aload_n 0, 1) := by decide +kernel
theorem dX2_hasMark_46 : decode cX2_hasMark 46 = .ok (.getfield 43, 3) := by decide +kernel
theorem dX2_hasMark_49 : decode cX2_hasMark 49 = .ok (.iload 4, 2) := by decide +kernel
theorem dX2_hasMark_51 : decode cX2_hasMark 51 = .ok (.iadd, 1) := by decide +kernel
theorem dX2_hasMark_52 : decode cX2_hasMark 52 = .ok (.invokevirtual 58, 3) := by decide +kernel
theorem dX2_hasMark_55 : decode cX2_hasMark 55 = .ok (.iload_n 2, 1) := by decide +kernel
theorem dX2_hasMark_56 : decode cX2_hasMark 56 = .ok (.iload 4, 2) := by decide +kernel
theorem dX2_hasMark_58 : decode cX2_hasMark 58 = .ok (.invokestatic 168, 3) := by decide +kernel
theorem dX2_hasMark_61 : decode cX2_hasMark 61 = .ok (.if_icmp .ne 7, 3) := by decide +kernel
theorem dX2_hasMark_64 : decode cX2_hasMark 64 = .ok (.iconst 1, 1) := by decide +kernel
theorem dX2_hasMark_65 : decode cX2_hasMark 65 = .ok (.goto 4, 3) := by decide +kernel
theorem dX2_hasMark_68 : decode cX2_hasMark 68 = .ok (.iconst 0, 1) := by decide +kernel
theorem dX2_hasMark_69 : decode cX2_hasMark 69 = .ok (.istore_n 3, 1) := by decide +kernel
theorem dX2_hasMark_70 : decode cX2_hasMark 70 = .ok (.iinc 4 1, 3) := by decide +kernel
theorem dX2_hasMark_73 : decode cX2_hasMark 73 = .ok (.goto (-40), 3) := by decide +kernel
theorem dX2_hasMark_76 : decode cX2_hasMark 76 = .ok (.iload_n 3, 1) := by decide +kernel
theorem dX2_hasMark_77 : decode cX2_hasMark 77 = .ok (.ifCond .ne 20, 3) := by decide +kernel
theorem dX2_hasMark_80 : decode cX2_hasMark 80 = .ok (.aload_n 1, 1) := by decide +kernel
theorem dX2_hasMark_81 : decode cX2_hasMark 81 = .ok (.aload_n 0, 1) := by decide +kernel
theorem dX2_hasMark_82 : decode cX2_hasMark 82 = .ok (.getfield 43, 3) := by decide +kernel
theorem dX2_hasMark_85 : decode cX2_hasMark 85 = .ok (.aload_n 0, 1) := by decide +kernel
theorem dX2_hasMark_86 : decode cX2_hasMark 86 = .ok (.getfield 46, 3) := by decide +kernel
theorem dX2_hasMark_89 : decode cX2_hasMark 89 = .ok (.ldc 171, 2) := by decide +kernel
theorem dX2_hasMark_91 : decode cX2_hasMark 91 = .ok (.invokevirtual 82, 3) := by decide +kernel
theorem dX2_hasMark_94 : decode cX2_hasMark 94 = .ok (.ifCond .eq 7, 3) := by decide +kernel
theorem dX2_hasMark_97 : decode cX2_hasMark 97 = .ok (.iconst 1, 1) := by decide +kernel
theorem dX2_hasMark_98 : decode cX2_hasMark 98 = .ok (.goto 4, 3) := by decide +kernel
theorem dX2_hasMark_101 : decode cX2_hasMark 101 = .ok (.iconst 0, 1) := by decide +kernel
theorem dX2_hasMark_102 : decode cX2_hasMark 102 = .ok (.ireturn, 1) := by decide +kernel
set_option maxRecDepth 20000 in
theorem ggX3_init_J0_length_8abf5 : GoodIn wsX3_init wsJ0_length_8abf5 := goodIn_r _ [12, 13, 14, 15, 16, 11, 17, 18, 19] (by decide +kernel) (by decide +kernel)
set_option maxRecDepth 20000 in
theorem gX3_init_J0_length_8abf5 : GoodIn wsX3_init (wsV RX3 15 RJ0 yJ0_length_8abf5 wsJ0_length_8abf5) := goodIn_app (goodIn_of _ (by decide +kernel)) ggX3_init_J0_length_8abf5
set_option maxRecDepth 20000 in
theorem ggX3_init_X4_init : GoodIn wsX3_init wsX4_init := goodIn_r _ [22, 23, 2, 3, 24, 25, 26, 27, 28, 29, 30] (by decide +kernel) (by decide +kernel)
set_option maxRecDepth 20000 in
theorem gX3_init_X4_init : GoodIn wsX3_init (wsX4_init) := ggX3_init_X4_init
theorem dX3_init_0 : decode cX3_init 0 = .ok (.aload_n 0, 1) := by decide +kernel
theorem dX3_init_1 : decode cX3_init 1 = .ok (.invokespecial 3, 3) := by decide +kernel
theorem dX3_init_4 : decode cX3_init 4 = .ok (.aload_n 0, 1) := by decide +kernel
theorem dX3_init_5 : decode cX3_init 5 = .ok (.new 9, 3) := by decide +kernel
theorem dX3_init_8 : decode cX3_init 8 = .ok (.dup, 1) := by decide +kernel
theorem dX3_init_9 : decode cX3_init 9 = .ok (.sipush 4096, 3) := by decide +kernel
theorem dX3_init_12 : decode cX3_init 12 = .ok (.ldc 13, 2) := by decide +kernel
theorem dX3_init_14 : decode cX3_init 14 = .ok (.invokevirtual 15, 3) := by decide +kernel
theorem dX3_init_17 : decode cX3_init 17 = .ok (.iadd, 1) := by decide +kernel
theorem dX3_init_18 : decode cX3_init 18 = .ok (.invokespecial 21, 3) := by decide +kernel
theorem dX3_init_21 : decode cX3_init 21 = .ok (.putfield 24, 3) := by decide +kernel
theorem dX3_init_24 : decode cX3_init 24 = .ok (.return_, 1) := by decide +kernel
set_option maxRecDepth 20000 in
theorem ggX3_read_X4_cutTo : GoodIn wsX3_read wsX4_cutTo := goodIn_r _ [6, 7, 116, 117, 118] (by decide +kernel) (by decide +kernel)
set_option maxRecDepth 20000 in
theorem gX3_read_X4_cutTo : GoodIn wsX3_read (wsV RX3 28 RX4 yX4_cutTo wsX4_cutTo) := goodIn_app (goodIn_of _ (by decide +kernel)) ggX3_read_X4_cutTo
set_option maxRecDepth 20000 in
theorem ggX3_read_X4_find : GoodIn wsX3_read wsX4_find := goodIn_r _ [11, 12, 13, 14, 5, 15, 7, 16, 116, 117, 118] (by decide +kernel) (by decide +kernel)
set_option maxRecDepth 20000 in
theorem gX3_read_X4_find : GoodIn wsX3_read (wsV RX3 31 RX4 yX4_find wsX4_find) := goodIn_app (goodIn_of _ (by decide +kernel)) ggX3_read_X4_find
set_option maxRecDepth 20000 in
theorem ggX3_read_X4_get : GoodIn wsX3_read wsX4_get := goodIn_r _ [15, 7, 16, 116, 117, 118] (by decide +kernel) (by decide +kernel)
set_option maxRecDepth 20000 in
theorem gX3_read_X4_get : GoodIn wsX3_read (wsV RX3 35 RX4 yX4_get wsX4_get) := goodIn_app (goodIn_of _ (by decide +kernel)) ggX3_read_X4_get
set_option maxRecDepth 20000 in
theorem ggX3_read_X3_escapedCode : GoodIn wsX3_read wsX3_escapedCode := goodIn_r _ [21, 17, 13, 14, 5, 15, 7, 16, 22, 23, 24, 25, 26, 27, 28, 116, 117, 118] (by decide +kernel) (by decide +kernel)
set_option maxRecDepth 20000 in
theorem gX3_read_X3_escapedCode : GoodIn wsX3_read (va_wsS RX3 39 yX3_escapedCode wsX3_escapedCode) := goodIn_app (goodIn_of _ (by decide +kernel)) ggX3_read_X3_escapedCode
set_option maxRecDepth 20000 in
theorem ggX3_read_X1_isVisible : GoodIn wsX3_read wsX1_isVisible := goodIn_r _ [31] (by decide +kernel) (by decide +kernel)
set_option maxRecDepth 20000 in
theorem gX3_read_X1_isVisible : GoodIn wsX3_read (va_wsS RX3 43 yX1_isVisible wsX1_isVisible) := goodIn_app (goodIn_of _ (by decide +kernel)) ggX3_read_X1_isVisible
set_option maxRecDepth 20000 in
theorem ggX3_read_X4_add : GoodIn wsX3_read wsX4_add := goodIn_r _ [35, 16, 7, 36, 37, 38, 5, 39, 40, 41, 42, 43, 44, 45, 46, 47, 48, 49, 50, 51, 52, 116, 117, 118] (by decide +kernel) (by decide +kernel)
set_option maxRecDepth 20000 in
theorem gX3_read_X4_add : GoodIn wsX3_read (wsV RX3 49 RX4 yX4_add wsX4_add) := goodIn_app (goodIn_of _ (by decide +kernel)) ggX3_read_X4_add
set_option maxRecDepth 20000 in
theorem ggX3_read_X4_endsWith : GoodIn wsX3_read wsX4_endsWith := goodIn_r _ [56, 7, 57, 58, 59, 60, 61, 62, 63, 64, 65, 66, 67, 68, 69, 70, 71, 5, 72, 12, 13, 14, 15, 16, 73, 74, 75, 76, 77, 78, 79, 80, 81, 82, 83, 84, 85, 86, 87, 88, 89, 90, 91, 92, 93, 94, 95, 96, 97, 98, 99, 100, 101, 102, 103, 104, 105, 106, 107, 108, 109, 116, 117, 118] (by decide +kernel) (by decide +kernel)
set_option maxRecDepth 20000 in
theorem gX3_read_X4_endsWith : GoodIn wsX3_read (wsV RX3 54 RX4 yX4_endsWith wsX4_endsWith) := goodIn_app (goodIn_of _ (by decide +kernel)) ggX3_read_X4_endsWith
set_option maxRecDepth 20000 in
theorem ggX3_read_X4_addText : GoodIn wsX3_read wsX4_addText := goodIn_r _ [113, 57, 58, 59, 60, 61, 62, 63, 64, 65, 66, 67, 68, 73, 74, 75, 76, 77, 78, 79, 80, 81, 82, 83, 84, 85, 86, 87, 88, 89, 90, 91, 92, 93, 94, 95, 96, 97, 98, 99, 100, 101, 102, 103, 104, 105, 106, 107, 108, 109, 114, 33, 34, 5, 35, 16, 7, 36, 37, 38, 39, 40, 41, 42, 43, 44, 45, 46, 47, 48, 49, 50, 51, 52, 116, 117, 118] (by decide +kernel) (by decide +kernel)
set_option maxRecDepth 20000 in
theorem gX3_read_X4_addText : GoodIn wsX3_read (wsV RX3 58 RX4 yX4_addText wsX4_addText) := goodIn_app (goodIn_of _ (by decide +kernel)) ggX3_read_X4_addText
theorem dX3_read_0 : decode cX3_read 0 = .ok (.aload_n 0, 1) := by decide +kernel
theorem dX3_read_1 : decode cX3_read 1 = .ok (.getfield 24, 3) := by decide +kernel
theorem dX3_read_4 : decode cX3_read 4 = .ok (.iconst 0, 1) := by decide +kernel
theorem dX3_read_5 : decode cX3_read 5 = .ok (.invokevirtual 28, 3) := by decide +kernel
theorem dX3_read_8 : decode cX3_read 8 = .ok (.aload_n 1, 1) := by decide +kernel
theorem dX3_read_9 : decode cX3_read 9 = .ok (.bipush 63, 2) := by decide +kernel
theorem dX3_read_11 : decode cX3_read 11 = .ok (.iload_n 2, 1) := by decide +kernel
theorem dX3_read_12 : decode cX3_read 12 = .ok (.iload_n 3, 1) := by decide +kernel
theorem dX3_read_13 : decode cX3_read 13 = .ok (.invokevirtual 31, 3) := by decide +kernel
theorem dX3_read_16 : decode cX3_read 16 = .ok (.istore 4, 2) := by decide +kernel
theorem dX3_read_18 : decode cX3_read 18 = .ok (.iload_n 2, 1) := by decide +kernel
theorem dX3_read_19 : decode cX3_read 19 = .ok (.istore 5, 2) := by decide +kernel
theorem dX3_read_21 : decode cX3_read 21 = .ok (.iload 5, 2) := by decide +kernel
theorem dX3_read_23 : decode cX3_read 23 = .ok (.iload 4, 2) := by decide +kernel
theorem dX3_read_25 : decode cX3_read 25 = .ok (.if_icmp .ge 56, 3) := by decide +kernel
theorem dX3_read_28 : decode cX3_read 28 = .ok (.aload_n 1, 1) := by decide +kernel
theorem dX3_read_29 : decode cX3_read 29 = .ok (.iload 5, 2) := by decide +kernel
theorem dX3_read_31 : decode cX3_read 31 = .ok (.invokevirtual 35, 3) := by decide +kernel
theorem dX3_read_34 : decode cX3_read 34 = .ok (.istore 6, 2) := by decide +kernel
theorem dX3_read_36 : decode cX3_read 36 = .ok (.iload 6, 2) := by decide +kernel
theorem dX3_read_38 : decode cX3_read 38 = .ok (.bipush 37, 2) := by decide +kernel
theorem dX3_read_40 : decode cX3_read 40 = .ok (.if_icmp .ne 16, 3) := by decide +kernel
theorem dX3_read_43 : decode cX3_read 43 = .ok (.aload_n 1, 1) := by decide +kernel
theorem dX3_read_44 : decode cX3_read 44 = .ok (.iload 5, 2) := by decide +kernel
theorem dX3_read_46 : decode cX3_read 46 = .ok (.iload 4, 2) := by decide +kernel
theorem dX3_read_48 : decode cX3_read 48 = .ok (.invokestatic 39, 3) := by decide +kernel
theorem dX3_read_51 : decode cX3_read 51 = .ok (.istore 6, 2) := by decide +kernel
theorem dX3_read_53 : decode cX3_read 53 = .ok (.iinc 5 2, 3) := by decide +kernel
theorem dX3_read_56 : decode cX3_read 56 = .ok (.iload 6, 2) := by decide +kernel
theorem dX3_read_58 : decode cX3_read 58 = .ok (.invokestatic 43, 3) := by decide +kernel
theorem dX3_read_61 : decode cX3_read 61 = .ok (.ifCond .ne 5, 3) := by decide +kernel
theorem dX3_read_64 : decode cX3_read 64 = .ok (.iconst 0, 1) := by decide +kernel
theorem dX3_read_65 : decode cX3_read 65 = .ok (.ireturn, 1) := by decide +kernel
theorem dX3_read_66 : decode cX3_read 66 = .ok (.aload_n 0, 1) := by decide +kernel
theorem dX3_read_67 : decode cX3_read 67 = .ok (.getfield 24, 3) := by decide +kernel
theorem dX3_read_70 : decode cX3_read 70 = .ok (.iload 6, 2) := by decide +kernel
theorem dX3_read_72 : decode cX3_read 72 = .ok (.invokevirtual 49, 3) := by decide +kernel
theorem dX3_read_75 : decode cX3_read 75 = .ok (.iinc 5 1, 3) := by decide +kernel
theorem dX3_read_78 : decode cX3_read 78 = .ok (.goto (-57), 3) := by decide +kernel
theorem dX3_read_81 : decode cX3_read 81 = .ok (.aload_n 0, 1) := by decide +kernel
theorem dX3_read_82 : decode cX3_read 82 = .ok (.getfield 24, 3) := by decide +kernel
theorem dX3_read_85 : decode cX3_read 85 = .ok (.ldc 52, 2) := by decide +kernel
theorem dX3_read_87 : decode cX3_read 87 = .ok (.invokevirtual 54, 3) := by decide +kernel
theorem dX3_read_90 : decode cX3_read 90 = .ok (.ifCond .eq 12, 3) := by decide +kernel
theorem dX3_read_93 : decode cX3_read 93 = .ok (.aload_n 0, 1) := by decide +kernel
theorem dX3_read_94 : decode cX3_read 94 = .ok (.getfield 24, 3) := by decide +kernel
theorem dX3_read_97 : decode cX3_read 97 = .ok (.ldc 13, 2) := by decide +kernel
theorem dX3_read_99 : decode cX3_read 99 = .ok (.invokevirtual 58, 3) := by decide +kernel
theorem dX3_read_102 : decode cX3_read 102 = .ok (.iconst 1, 1) := by decide +kernel
theorem dX3_read_103 : decode cX3_read 103 = .ok (.ireturn, 1) := by decide +kernel
set_option maxRecDepth 20000 in
theorem ggX3_escapedCode_X4_get : GoodIn wsX3_escapedCode wsX4_get := goodIn_r _ [5, 6, 7, 15, 16, 17] (by decide +kernel) (by decide +kernel)
set_option maxRecDepth 20000 in
theorem gX3_escapedCode_X4_get : GoodIn wsX3_escapedCode (wsV RX3 35 RX4 yX4_get wsX4_get) := goodIn_app (goodIn_of _ (by decide +kernel)) ggX3_escapedCode_X4_get
set_option maxRecDepth 20000 in
theorem ggX3_escapedCode_X1_hexValue : GoodIn wsX3_escapedCode wsX1_hexValue := goodIn_r _ [11, 12, 13, 10, 14] (by decide +kernel) (by decide +kernel)
set_option maxRecDepth 20000 in
theorem gX3_escapedCode_X1_hexValue : GoodIn wsX3_escapedCode (va_wsS RX3 62 yX1_hexValue wsX1_hexValue) := goodIn_app (goodIn_of _ (by decide +kernel)) ggX3_escapedCode_X1_hexValue
theorem dX3_escapedCode_0 : decode cX3_escapedCode 0 = .ok (.iload_n 1, 1) := by decide +kernel
theorem dX3_escapedCode_1 : decode cX3_escapedCode 1 = .ok (.iconst 2, 1) := by decide +kernel
theorem dX3_escapedCode_2 : decode cX3_escapedCode 2 = .ok (.iadd, 1) := by decide +kernel
theorem dX3_escapedCode_3 : decode cX3_escapedCode 3 = .ok (.iload_n 2, 1) := by decide +kernel
theorem dX3_escapedCode_4 : decode cX3_escapedCode 4 = .ok (.if_icmp .lt 5, 3) := by decide +kernel
theorem dX3_escapedCode_7 : decode cX3_escapedCode 7 = .ok (.iconst (-1), 1) := by decide +kernel
theorem dX3_escapedCode_8 : decode cX3_escapedCode 8 = .ok (.ireturn, 1) := by decide +kernel
theorem dX3_escapedCode_9 : decode cX3_escapedCode 9 = .ok (.aload_n 0, 1) := by decide +kernel
theorem dX3_escapedCode_10 : decode cX3_escapedCode 10 = .ok (.iload_n 1, 1) := by decide +kernel
theorem dX3_escapedCode_11 : decode cX3_escapedCode 11 = .ok (.iconst 1, 1) := by decide +kernel
theorem dX3_escapedCode_12 : decode cX3_escapedCode 12 = .ok (.iadd, 1) := by decide +kernel
theorem dX3_escapedCode_13 : decode cX3_escapedCode 13 = .ok (.invokevirtual 35, 3) := by decide +kernel
theorem dX3_escapedCode_16 : decode cX3_escapedCode 16 = .ok (.invokestatic 62, 3) := by decide +kernel
theorem dX3_escapedCode_19 : decode cX3_escapedCode 19 = .ok (.istore_n 3, 1) := by decide +kernel
theorem dX3_escapedCode_20 : decode cX3_escapedCode 20 = .ok (.aload_n 0, 1) := by decide +kernel
theorem dX3_escapedCode_21 : decode cX3_escapedCode 21 = .ok (.iload_n 1, 1) := by decide +kernel
theorem dX3_escapedCode_22 : decode cX3_escapedCode 22 = .ok (.iconst 2, 1) := by decide +kernel
theorem dX3_escapedCode_23 : decode cX3_escapedCode 23 = .ok (.iadd, 1) := by decide +kernel
theorem dX3_escapedCode_24 : decode cX3_escapedCode 24 = .ok (.invokevirtual 35, 3) := by decide +kernel
theorem dX3_escapedCode_27 : decode cX3_escapedCode 27 = .ok (.invokestatic 62, 3) := by decide +kernel
theorem dX3_escapedCode_30 : decode cX3_escapedCode 30 = .ok (.istore 4, 2) := by decide +kernel
theorem dX3_escapedCode_32 : decode cX3_escapedCode 32 = .ok (.iload_n 3, 1) := by decide +kernel
theorem dX3_escapedCode_33 : decode cX3_escapedCode 33 = .ok (.ifCond .lt 8, 3) := by decide +kernel
theorem dX3_escapedCode_36 : decode cX3_escapedCode 36 = .ok (.iload 4, 2) := by decide +kernel
theorem dX3_escapedCode_38 : decode cX3_escapedCode 38 = .ok (.ifCond .ge 7, 3) := by decide +kernel
theorem dX3_escapedCode_41 : decode cX3_escapedCode 41 = .ok (.iconst (-1), 1) := by decide +kernel
theorem dX3_escapedCode_42 : decode cX3_escapedCode 42 = .ok (.goto 10, 3) := by decide +kernel
theorem dX3_escapedCode_45 : decode cX3_escapedCode 45 = .ok (.iload_n 3, 1) := by decide +kernel
theorem dX3_escapedCode_46 : decode cX3_escapedCode 46 = .ok (.bipush 16, 2) := by decide +kernel
theorem dX3_escapedCode_48 : decode cX3_escapedCode 48 = .ok (.imul, 1) := by decide +kernel
theorem dX3_escapedCode_49 : decode cX3_escapedCode 49 = .ok (.iload 4, 2) := by decide +kernel
theorem dX3_escapedCode_51 : decode cX3_escapedCode 51 = .ok (.iadd, 1) := by decide +kernel
theorem dX3_escapedCode_52 : decode cX3_escapedCode 52 = .ok (.ireturn, 1) := by decide +kernel
set_option maxRecDepth 20000 in
theorem ggX3_type_X4_endsWith : GoodIn wsX3_type wsX4_endsWith := goodIn_r _ [6, 7, 8, 9, 10, 11, 12, 13, 14, 15, 16, 17, 18, 19, 20, 21, 22, 5, 23, 24, 25, 26, 27, 28, 29, 30, 31, 32, 33, 34, 35, 36, 37, 38, 39, 40, 41, 42, 43, 44, 45, 46, 47, 48, 49, 50, 51, 52, 53, 54, 55, 56, 57, 58, 59, 60, 61, 62, 63, 64, 65, 67, 68, 69] (by decide +kernel) (by decide +kernel)
set_option maxRecDepth 20000 in
theorem gX3_type_X4_endsWith : GoodIn wsX3_type (wsV RX3 54 RX4 yX4_endsWith wsX4_endsWith) := goodIn_app (goodIn_of _ (by decide +kernel)) ggX3_type_X4_endsWith
theorem dX3_type_0 : decode cX3_type 0 = .ok (.aload_n 0, 1) := by decide +kernel
theorem dX3_type_1 : decode cX3_type 1 = .ok (.getfield 24, 3) := by decide +kernel
theorem dX3_type_4 : decode cX3_type 4 = .ok (.ldc 65, 2) := by decide +kernel
theorem dX3_type_6 : decode cX3_type 6 = .ok (.invokevirtual 54, 3) := by decide +kernel
theorem dX3_type_9 : decode cX3_type 9 = .ok (.ifCond .eq 6, 3) := by decide +kernel
theorem dX3_type_12 : decode cX3_type 12 = .ok (.ldc 67, 2) := by decide +kernel
theorem dX3_type_14 : decode cX3_type 14 = .ok (.areturn, 1) := by decide +kernel
theorem dX3_type_15 : decode cX3_type 15 = .ok (.aload_n 0, 1) := by decide +kernel
theorem dX3_type_16 : decode cX3_type 16 = .ok (.getfield 24, 3) := by decide +kernel
theorem dX3_type_19 : decode cX3_type 19 = .ok (.ldc 69, 2) := by decide +kernel
theorem dX3_type_21 : decode cX3_type 21 = .ok (.invokevirtual 54, 3) := by decide +kernel
theorem dX3_type_24 : decode cX3_type 24 = .ok (.ifCond .eq 6, 3) := by decide +kernel
theorem dX3_type_27 : decode cX3_type 27 = .ok (.ldc 71, 2) := by decide +kernel
theorem dX3_type_29 : decode cX3_type 29 = .ok (.areturn, 1) := by decide +kernel
theorem dX3_type_30 : decode cX3_type 30 = .ok (.aload_n 0, 1) := by decide +kernel
theorem dX3_type_31 : decode cX3_type 31 = .ok (.getfield 24, 3) := by decide +kernel
theorem dX3_type_34 : decode cX3_type 34 = .ok (.ldc 73, 2) := by decide +kernel
theorem dX3_type_36 : decode cX3_type 36 = .ok (.invokevirtual 54, 3) := by decide +kernel
theorem dX3_type_39 : decode cX3_type 39 = .ok (.ifCond .eq 6, 3) := by decide +kernel
theorem dX3_type_42 : decode cX3_type 42 = .ok (.ldc 75, 2) := by decide +kernel
theorem dX3_type_44 : decode cX3_type 44 = .ok (.areturn, 1) := by decide +kernel
theorem dX3_type_45 : decode cX3_type 45 = .ok (.aload_n 0, 1) := by decide +kernel
theorem dX3_type_46 : decode cX3_type 46 = .ok (.getfield 24, 3) := by decide +kernel
theorem dX3_type_49 : decode cX3_type 49 = .ok (.ldc 77, 2) := by decide +kernel
theorem dX3_type_51 : decode cX3_type 51 = .ok (.invokevirtual 54, 3) := by decide +kernel
theorem dX3_type_54 : decode cX3_type 54 = .ok (.ifCond .eq 6, 3) := by decide +kernel
theorem dX3_type_57 : decode cX3_type 57 = .ok (.ldc 79, 2) := by decide +kernel
theorem dX3_type_59 : decode cX3_type 59 = .ok (.areturn, 1) := by decide +kernel
theorem dX3_type_60 : decode cX3_type 60 = .ok (.aload_n 0, 1) := by decide +kernel
theorem dX3_type_61 : decode cX3_type 61 = .ok (.getfield 24, 3) := by decide +kernel
theorem dX3_type_64 : decode cX3_type 64 = .ok (.ldc 81, 2) := by decide +kernel
theorem dX3_type_66 : decode cX3_type 66 = .ok (.invokevirtual 54, 3) := by decide +kernel
theorem dX3_type_69 : decode cX3_type 69 = .ok (.ifCond .eq 8, 3) := by decide +kernel
theorem dX3_type_72 : decode cX3_type 72 = .ok (.ldc 83, 2) := by decide +kernel
theorem dX3_type_74 : decode cX3_type 74 = .ok (.goto 5, 3) := by decide +kernel
theorem dX3_type_77 : decode cX3_type 77 = .ok (.ldc 85, 2) := by decide +kernel
theorem dX3_type_79 : decode cX3_type 79 = .ok (.areturn, 1) := by decide +kernel
theorem dX4_init_0 : decode cX4_init 0 = .ok (.aload_n 0, 1) := by decide +kernel
theorem dX4_init_1 : decode cX4_init 1 = .ok (.invokespecial 3, 3) := by decide +kernel
theorem dX4_init_4 : decode cX4_init 4 = .ok (.aload_n 0, 1) := by decide +kernel
theorem dX4_init_5 : decode cX4_init 5 = .ok (.iload_n 1, 1) := by decide +kernel
theorem dX4_init_6 : decode cX4_init 6 = .ok (.putfield 9, 3) := by decide +kernel
theorem dX4_init_9 : decode cX4_init 9 = .ok (.aload_n 0, 1) := by decide +kernel
theorem dX4_init_10 : decode cX4_init 10 = .ok (.sipush 256, 3) := by decide +kernel
theorem dX4_init_13 : decode cX4_init 13 = .ok (.newarray .byte, 2) := by decide +kernel
theorem dX4_init_15 : decode cX4_init 15 = .ok (.putfield 15, 3) := by decide +kernel
theorem dX4_init_18 : decode cX4_init 18 = .ok (.aload_n 0, 1) := by decide +kernel
theorem dX4_init_19 : decode cX4_init 19 = .ok (.iconst 0, 1) := by decide +kernel
theorem dX4_init_20 : decode cX4_init 20 = .ok (.putfield 19, 3) := by decide +kernel
theorem dX4_init_23 : decode cX4_init 23 = .ok (.return_, 1) := by decide +kernel
theorem dX4_count_0 : decode cX4_count 0 = .ok (.aload_n 0, 1) := by decide +kernel
theorem dX4_count_1 : decode cX4_count 1 = .ok (.getfield 19, 3) := by decide +kernel
theorem dX4_count_4 : decode cX4_count 4 = .ok (.ireturn, 1) := by decide +kernel
theorem dX4_get_0 : decode cX4_get 0 = .ok (.iload_n 1, 1) := by decide +kernel
theorem dX4_get_1 : decode cX4_get 1 = .ok (.ifCond .lt 24, 3) := by decide +kernel
theorem dX4_get_4 : decode cX4_get 4 = .ok (.iload_n 1, 1) := by decide +kernel
theorem dX4_get_5 : decode cX4_get 5 = .ok (.aload_n 0, 1) := by decide +kernel
theorem dX4_get_6 : decode cX4_get 6 = .ok (.getfield 19, 3) := by decide +kernel
theorem dX4_get_9 : decode cX4_get 9 = .ok (.if_icmp .ge 16, 3) := by decide +kernel
theorem dX4_get_12 : decode cX4_get 12 = .ok (.aload_n 0, 1) := by decide +kernel
theorem dX4_get_13 : decode cX4_get 13 = .ok (.getfield 15, 3) := by decide +kernel
theorem dX4_get_16 : decode cX4_get 16 = .ok (.iload_n 1, 1) := by decide +kernel
theorem dX4_get_17 : decode cX4_get 17 = .ok (.baload, 1) := by decide +kernel
theorem dX4_get_18 : decode cX4_get 18 = .ok (.sipush 255, 3) := by decide +kernel
theorem dX4_get_21 : decode cX4_get 21 = .ok (.iand, 1) := by decide +kernel
theorem dX4_get_22 : decode cX4_get 22 = .ok (.goto 4, 3) := by decide +kernel
theorem dX4_get_25 : decode cX4_get 25 = .ok (.iconst (-1), 1) := by decide +kernel
theorem dX4_get_26 : decode cX4_get 26 = .ok (.ireturn, 1) := by decide +kernel
set_option maxRecDepth 20000 in
theorem ggX4_intFrom_X4_get : GoodIn wsX4_intFrom wsX4_get := goodIn_r _ [6, 1, 7, 8, 9, 10] (by decide +kernel) (by decide +kernel)
set_option maxRecDepth 20000 in
theorem gX4_intFrom_X4_get : GoodIn wsX4_intFrom (wsV RX4 22 RX4 yX4_get wsX4_get) := goodIn_app (goodIn_of _ (by decide +kernel)) ggX4_intFrom_X4_get
theorem dX4_intFrom_0 : decode cX4_intFrom 0 = .ok (.iload_n 1, 1) := by decide +kernel
theorem dX4_intFrom_1 : decode cX4_intFrom 1 = .ok (.ifCond .lt 13, 3) := by decide +kernel
theorem dX4_intFrom_4 : decode cX4_intFrom 4 = .ok (.iload_n 1, 1) := by decide +kernel
theorem dX4_intFrom_5 : decode cX4_intFrom 5 = .ok (.aload_n 0, 1) := by decide +kernel
theorem dX4_intFrom_6 : decode cX4_intFrom 6 = .ok (.getfield 19, 3) := by decide +kernel
theorem dX4_intFrom_9 : decode cX4_intFrom 9 = .ok (.iconst 4, 1) := by decide +kernel
theorem dX4_intFrom_10 : decode cX4_intFrom 10 = .ok (.isub, 1) := by decide +kernel
theorem dX4_intFrom_11 : decode cX4_intFrom 11 = .ok (.if_icmp .le 5, 3) := by decide +kernel
theorem dX4_intFrom_14 : decode cX4_intFrom 14 = .ok (.iconst 0, 1) := by decide +kernel
theorem dX4_intFrom_15 : decode cX4_intFrom 15 = .ok (.ireturn, 1) := by decide +kernel
theorem dX4_intFrom_16 : decode cX4_intFrom 16 = .ok (.aload_n 0, 1) := by decide +kernel
theorem dX4_intFrom_17 : decode cX4_intFrom 17 = .ok (.iload_n 1, 1) := by decide +kernel
theorem dX4_intFrom_18 : decode cX4_intFrom 18 = .ok (.invokevirtual 22, 3) := by decide +kernel
theorem dX4_intFrom_21 : decode cX4_intFrom 21 = .ok (.bipush 24, 2) := by decide +kernel
theorem dX4_intFrom_23 : decode cX4_intFrom 23 = .ok (.ishl, 1) := by decide +kernel
theorem dX4_intFrom_24 : decode cX4_intFrom 24 = .ok (.aload_n 0, 1) := by decide +kernel
theorem dX4_intFrom_25 : decode cX4_intFrom 25 = .ok (.iload_n 1, 1) := by decide +kernel
theorem dX4_intFrom_26 : decode cX4_intFrom 26 = .ok (.iconst 1, 1) := by decide +kernel
theorem dX4_intFrom_27 : decode cX4_intFrom 27 = .ok (.iadd, 1) := by decide +kernel
theorem dX4_intFrom_28 : decode cX4_intFrom 28 = .ok (.invokevirtual 22, 3) := by decide +kernel
theorem dX4_intFrom_31 : decode cX4_intFrom 31 = .ok (.bipush 16, 2) := by decide +kernel
theorem dX4_intFrom_33 : decode cX4_intFrom 33 = .ok (.ishl, 1) := by decide +kernel
theorem dX4_intFrom_34 : decode cX4_intFrom 34 = .ok (.ior, 1) := by decide +kernel
theorem dX4_intFrom_35 : decode cX4_intFrom 35 = .ok (.aload_n 0, 1) := by decide +kernel
theorem dX4_intFrom_36 : decode cX4_intFrom 36 = .ok (.iload_n 1, 1) := by decide +kernel
theorem dX4_intFrom_37 : decode cX4_intFrom 37 = .ok (.iconst 2, 1) := by decide +kernel
theorem dX4_intFrom_38 : decode cX4_intFrom 38 = .ok (.iadd, 1) := by decide +kernel
theorem dX4_intFrom_39 : decode cX4_intFrom 39 = .ok (.invokevirtual 22, 3) := by decide +kernel
theorem dX4_intFrom_42 : decode cX4_intFrom 42 = .ok (.bipush 8, 2) := by decide +kernel
theorem dX4_intFrom_44 : decode cX4_intFrom 44 = .ok (.ishl, 1) := by decide +kernel
theorem dX4_intFrom_45 : decode cX4_intFrom 45 = .ok (.ior, 1) := by decide +kernel
theorem dX4_intFrom_46 : decode cX4_intFrom 46 = .ok (.aload_n 0, 1) := by decide +kernel
theorem dX4_intFrom_47 : decode cX4_intFrom 47 = .ok (.iload_n 1, 1) := by decide +kernel
theorem dX4_intFrom_48 : decode cX4_intFrom 48 = .ok (.iconst 3, 1) := by decide +kernel
theorem dX4_intFrom_49 : decode cX4_intFrom 49 = .ok (.iadd, 1) := by decide +kernel
theorem dX4_intFrom_50 : decode cX4_intFrom 50 = .ok (.invokevirtual 22, 3) := by decide +kernel
theorem dX4_intFrom_53 : decode cX4_intFrom 53 = .ok (.ior, 1) := by decide +kernel
theorem dX4_intFrom_54 : decode cX4_intFrom 54 = .ok (.ireturn, 1) := by decide +kernel
theorem dX4_set_0 : decode cX4_set 0 = .ok (.iload_n 1, 1) := by decide +kernel
theorem dX4_set_1 : decode cX4_set 1 = .ok (.ifCond .lt 11, 3) := by decide +kernel
theorem dX4_set_4 : decode cX4_set 4 = .ok (.iload_n 1, 1) := by decide +kernel
theorem dX4_set_5 : decode cX4_set 5 = .ok (.aload_n 0, 1) := by decide +kernel
theorem dX4_set_6 : decode cX4_set 6 = .ok (.getfield 19, 3) := by decide +kernel
theorem dX4_set_9 : decode cX4_set 9 = .ok (.if_icmp .lt 5, 3) := by decide +kernel
theorem dX4_set_12 : decode cX4_set 12 = .ok (.iconst 0, 1) := by decide +kernel
theorem dX4_set_13 : decode cX4_set 13 = .ok (.ireturn, 1) := by decide +kernel
theorem dX4_set_14 : decode cX4_set 14 = .ok (.aload_n 0, 1) := by decide +kernel
theorem dX4_set_15 : decode cX4_set 15 = .ok (.getfield 15, 3) := by decide +kernel
theorem dX4_set_18 : decode cX4_set 18 = .ok (.iload_n 1, 1) := by decide +kernel
theorem dX4_set_19 : decode cX4_set 19 = .ok (.iload_n 2, 1) := by decide +kernel
theorem dX4_set_20 : decode cX4_set 20 = .ok (.i2b, 1) := by decide +kernel
theorem dX4_set_21 : decode cX4_set 21 = .ok (.bastore, 1) := by decide +kernel
theorem dX4_set_22 : decode cX4_set 22 = .ok (.iconst 1, 1) := by decide +kernel
theorem dX4_set_23 : decode cX4_set 23 = .ok (.ireturn, 1) := by decide +kernel
theorem dX4_cutTo_0 : decode cX4_cutTo 0 = .ok (.iload_n 1, 1) := by decide +kernel
theorem dX4_cutTo_1 : decode cX4_cutTo 1 = .ok (.ifCond .lt 16, 3) := by decide +kernel
theorem dX4_cutTo_4 : decode cX4_cutTo 4 = .ok (.iload_n 1, 1) := by decide +kernel
theorem dX4_cutTo_5 : decode cX4_cutTo 5 = .ok (.aload_n 0, 1) := by decide +kernel
theorem dX4_cutTo_6 : decode cX4_cutTo 6 = .ok (.getfield 19, 3) := by decide +kernel
theorem dX4_cutTo_9 : decode cX4_cutTo 9 = .ok (.if_icmp .ge 8, 3) := by decide +kernel
theorem dX4_cutTo_12 : decode cX4_cutTo 12 = .ok (.aload_n 0, 1) := by decide +kernel
theorem dX4_cutTo_13 : decode cX4_cutTo 13 = .ok (.iload_n 1, 1) := by decide +kernel
theorem dX4_cutTo_14 : decode cX4_cutTo 14 = .ok (.putfield 19, 3) := by decide +kernel
theorem dX4_cutTo_17 : decode cX4_cutTo 17 = .ok (.return_, 1) := by decide +kernel
theorem dX4_dropFirst_0 : decode cX4_dropFirst 0 = .ok (.iload_n 1, 1) := by decide +kernel
theorem dX4_dropFirst_1 : decode cX4_dropFirst 1 = .ok (.ifCond .le 40, 3) := by decide +kernel
theorem dX4_dropFirst_4 : decode cX4_dropFirst 4 = .ok (.iload_n 1, 1) := by decide +kernel
theorem dX4_dropFirst_5 : decode cX4_dropFirst 5 = .ok (.aload_n 0, 1) := by decide +kernel
theorem dX4_dropFirst_6 : decode cX4_dropFirst 6 = .ok (.getfield 19, 3) := by decide +kernel
theorem dX4_dropFirst_9 : decode cX4_dropFirst 9 = .ok (.if_icmp .gt 32, 3) := by decide +kernel
theorem dX4_dropFirst_12 : decode cX4_dropFirst 12 = .ok (.aload_n 0, 1) := by decide +kernel
theorem dX4_dropFirst_13 : decode cX4_dropFirst 13 = .ok (.getfield 15, 3) := by decide +kernel
theorem dX4_dropFirst_16 : decode cX4_dropFirst 16 = .ok (.iload_n 1, 1) := by decide +kernel
theorem dX4_dropFirst_17 : decode cX4_dropFirst 17 = .ok (.aload_n 0, 1) := by decide +kernel
theorem dX4_dropFirst_18 : decode cX4_dropFirst 18 = .ok (.getfield 15, 3) := by decide +kernel
theorem dX4_dropFirst_21 : decode cX4_dropFirst 21 = .ok (.iconst 0, 1) := by decide +kernel
theorem dX4_dropFirst_22 : decode cX4_dropFirst 22 = .ok (.aload_n 0, 1) := by decide +kernel
theorem dX4_dropFirst_23 : decode cX4_dropFirst 23 = .ok (.getfield 19, 3) := by decide +kernel
theorem dX4_dropFirst_26 : decode cX4_dropFirst 26 = .ok (.iload_n 1, 1) := by decide +kernel
theorem dX4_dropFirst_27 : decode cX4_dropFirst 27 = .ok (.isub, 1) := by decide +kernel
theorem dX4_dropFirst_28 : decode cX4_dropFirst 28 = .ok (.invokestatic 26, 3) := by decide +kernel
theorem dX4_dropFirst_31 : decode cX4_dropFirst 31 = .ok (.aload_n 0, 1) := by decide +kernel
theorem dX4_dropFirst_32 : decode cX4_dropFirst 32 = .ok (.dup, 1) := by decide +kernel
theorem dX4_dropFirst_33 : decode cX4_dropFirst 33 = .ok (.getfield 19, 3) := by decide +kernel
theorem dX4_dropFirst_36 : decode cX4_dropFirst 36 = .ok (.iload_n 1, 1) := by decide +kernel
theorem dX4_dropFirst_37 : decode cX4_dropFirst 37 = .ok (.isub, 1) := by decide +kernel
theorem dX4_dropFirst_38 : decode cX4_dropFirst 38 = .ok (.putfield 19, 3) := by decide +kernel
theorem dX4_dropFirst_41 : decode cX4_dropFirst 41 = .ok (.return_, 1) := by decide +kernel
set_option maxRecDepth 20000 in
theorem ggX4_add_X4_makeRoom : GoodIn wsX4_add wsX4_makeRoom := goodIn_r _ [7, 8, 2, 1, 9, 10, 11, 12, 13, 14, 15, 16, 17, 18, 19, 20, 21, 22, 23] (by decide +kernel) (by decide +kernel)
set_option maxRecDepth 20000 in
theorem gX4_add_X4_makeRoom : GoodIn wsX4_add (wsV RX4 32 RX4 yX4_makeRoom wsX4_makeRoom) := goodIn_app (goodIn_of _ (by decide +kernel)) ggX4_add_X4_makeRoom
theorem dX4_add_0 : decode cX4_add 0 = .ok (.aload_n 0, 1) := by decide +kernel
theorem dX4_add_1 : decode cX4_add 1 = .ok (.iconst 1, 1) := by decide +kernel
theorem dX4_add_2 : decode cX4_add 2 = .ok (.invokevirtual 32, 3) := by decide +kernel
theorem dX4_add_5 : decode cX4_add 5 = .ok (.ifCond .eq 24, 3) := by decide +kernel
theorem dX4_add_8 : decode cX4_add 8 = .ok (.aload_n 0, 1) := by decide +kernel
theorem dX4_add_9 : decode cX4_add 9 = .ok (.getfield 15, 3) := by decide +kernel
theorem dX4_add_12 : decode cX4_add 12 = .ok (.aload_n 0, 1) := by decide +kernel
theorem dX4_add_13 : decode cX4_add 13 = .ok (.getfield 19, 3) := by decide +kernel
theorem dX4_add_16 : decode cX4_add 16 = .ok (.iload_n 1, 1) := by decide +kernel
theorem dX4_add_17 : decode cX4_add 17 = .ok (.i2b, 1) := by decide +kernel
theorem dX4_add_18 : decode cX4_add 18 = .ok (.bastore, 1) := by decide +kernel
theorem dX4_add_19 : decode cX4_add 19 = .ok (.aload_n 0, 1) := by decide +kernel
theorem dX4_add_20 : decode cX4_add 20 = .ok (.dup, 1) := by decide +kernel
theorem dX4_add_21 : decode cX4_add 21 = .ok (.getfield 19, 3) := by decide +kernel
theorem dX4_add_24 : decode cX4_add 24 = .ok (.iconst 1, 1) := by decide +kernel
theorem dX4_add_25 : decode cX4_add 25 = .ok (.iadd, 1) := by decide +kernel
theorem dX4_add_26 : decode cX4_add 26 = .ok (.putfield 19, 3) := by decide +kernel
theorem dX4_add_29 : decode cX4_add 29 = .ok (.return_, 1) := by decide +kernel
set_option maxRecDepth 20000 in
theorem ggX4_addInt_X4_add : GoodIn wsX4_addInt wsX4_add := goodIn_r _ [5, 6, 7, 8, 9, 10, 4, 11, 12, 13, 14, 15, 16, 17, 18, 19, 20, 21, 22, 23, 24, 25, 26, 27] (by decide +kernel) (by decide +kernel)
set_option maxRecDepth 20000 in
theorem gX4_addInt_X4_add : GoodIn wsX4_addInt (wsV RX4 36 RX4 yX4_add wsX4_add) := goodIn_app (goodIn_of _ (by decide +kernel)) ggX4_addInt_X4_add
theorem dX4_addInt_0 : decode cX4_addInt 0 = .ok (.aload_n 0, 1) := by decide +kernel
theorem dX4_addInt_1 : decode cX4_addInt 1 = .ok (.iload_n 1, 1) := by decide +kernel
theorem dX4_addInt_2 : decode cX4_addInt 2 = .ok (.bipush 24, 2) := by decide +kernel
theorem dX4_addInt_4 : decode cX4_addInt 4 = .ok (.iushr, 1) := by decide +kernel
theorem dX4_addInt_5 : decode cX4_addInt 5 = .ok (.invokevirtual 36, 3) := by decide +kernel
theorem dX4_addInt_8 : decode cX4_addInt 8 = .ok (.aload_n 0, 1) := by decide +kernel
theorem dX4_addInt_9 : decode cX4_addInt 9 = .ok (.iload_n 1, 1) := by decide +kernel
theorem dX4_addInt_10 : decode cX4_addInt 10 = .ok (.bipush 16, 2) := by decide +kernel
theorem dX4_addInt_12 : decode cX4_addInt 12 = .ok (.iushr, 1) := by decide +kernel
theorem dX4_addInt_13 : decode cX4_addInt 13 = .ok (.invokevirtual 36, 3) := by decide +kernel
theorem dX4_addInt_16 : decode cX4_addInt 16 = .ok (.aload_n 0, 1) := by decide +kernel
theorem dX4_addInt_17 : decode cX4_addInt 17 = .ok (.iload_n 1, 1) := by decide +kernel
theorem dX4_addInt_18 : decode cX4_addInt 18 = .ok (.bipush 8, 2) := by decide +kernel
theorem dX4_addInt_20 : decode cX4_addInt 20 = .ok (.iushr, 1) := by decide +kernel
theorem dX4_addInt_21 : decode cX4_addInt 21 = .ok (.invokevirtual 36, 3) := by decide +kernel
theorem dX4_addInt_24 : decode cX4_addInt 24 = .ok (.aload_n 0, 1) := by decide +kernel
theorem dX4_addInt_25 : decode cX4_addInt 25 = .ok (.iload_n 1, 1) := by decide +kernel
theorem dX4_addInt_26 : decode cX4_addInt 26 = .ok (.invokevirtual 36, 3) := by decide +kernel
theorem dX4_addInt_29 : decode cX4_addInt 29 = .ok (.return_, 1) := by decide +kernel
set_option maxRecDepth 20000 in
theorem ggX4_addText_J0_length_8abf5 : GoodIn wsX4_addText wsJ0_length_8abf5 := goodIn_r _ [5, 6, 7, 8, 9, 4, 10, 11, 12] (by decide +kernel) (by decide +kernel)
set_option maxRecDepth 20000 in
theorem gX4_addText_J0_length_8abf5 : GoodIn wsX4_addText (wsV RX4 40 RJ0 yJ0_length_8abf5 wsJ0_length_8abf5) := goodIn_app (goodIn_of _ (by decide +kernel)) ggX4_addText_J0_length_8abf5
set_option maxRecDepth 20000 in
theorem ggX4_addText_J0_charAt_5068e : GoodIn wsX4_addText wsJ0_charAt_5068e := goodIn_r _ [16, 6, 17, 18, 19, 4, 20, 11, 12, 21, 22, 23, 24, 25, 26, 27, 28, 29, 30, 31, 32, 33, 34, 35, 36, 37, 38, 39, 40, 41, 42, 43, 44, 45, 46, 47, 48, 49] (by decide +kernel) (by decide +kernel)
set_option maxRecDepth 20000 in
theorem gX4_addText_J0_charAt_5068e : GoodIn wsX4_addText (wsV RX4 46 RJ0 yJ0_charAt_5068e wsJ0_charAt_5068e) := goodIn_app (goodIn_of _ (by decide +kernel)) ggX4_addText_J0_charAt_5068e
set_option maxRecDepth 20000 in
theorem ggX4_addText_X4_add : GoodIn wsX4_addText wsX4_add := goodIn_r _ [54, 55, 56, 57, 58, 59, 53, 60, 61, 62, 63, 64, 65, 66, 67, 68, 69, 70, 71, 72, 73, 74, 75, 76] (by decide +kernel) (by decide +kernel)
set_option maxRecDepth 20000 in
theorem gX4_addText_X4_add : GoodIn wsX4_addText (wsV RX4 36 RX4 yX4_add wsX4_add) := goodIn_app (goodIn_of _ (by decide +kernel)) ggX4_addText_X4_add
theorem dX4_addText_0 : decode cX4_addText 0 = .ok (.iconst 0, 1) := by decide +kernel
theorem dX4_addText_1 : decode cX4_addText 1 = .ok (.istore_n 2, 1) := by decide +kernel
theorem dX4_addText_2 : decode cX4_addText 2 = .ok (.iload_n 2, 1) := by decide +kernel
theorem dX4_addText_3 : decode cX4_addText 3 = .ok (.aload_n 1, 1) := by decide +kernel
theorem dX4_addText_4 : decode cX4_addText 4 = .ok (.invokevirtual 40, 3) := by decide +kernel
theorem dX4_addText_7 : decode cX4_addText 7 = .ok (.if_icmp .ge 18, 3) := by decide +kernel
theorem dX4_addText_10 : decode cX4_addText 10 = .ok (.aload_n 0, 1) := by decide +kernel
theorem dX4_addText_11 : decode cX4_addText 11 = .ok (.aload_n 1, 1) := by decide +kernel
theorem dX4_addText_12 : decode cX4_addText 12 = .ok (.iload_n 2, 1) := by decide +kernel
theorem dX4_addText_13 : decode cX4_addText 13 = .ok (.invokevirtual 46, 3) := by decide +kernel
theorem dX4_addText_16 : decode cX4_addText 16 = .ok (.invokevirtual 36, 3) := by decide +kernel
theorem dX4_addText_19 : decode cX4_addText 19 = .ok (.iinc 2 1, 3) := by decide +kernel
theorem dX4_addText_22 : decode cX4_addText 22 = .ok (.goto (-20), 3) := by decide +kernel
theorem dX4_addText_25 : decode cX4_addText 25 = .ok (.return_, 1) := by decide +kernel
set_option maxRecDepth 20000 in
theorem ggX4_addNumber_X4_add : GoodIn wsX4_addNumber wsX4_add := goodIn_r _ [5, 6, 7, 8, 9, 10, 4, 11, 12, 13, 14, 15, 16, 17, 18, 19, 20, 21, 22, 23, 24, 25, 26, 27] (by decide +kernel) (by decide +kernel)
set_option maxRecDepth 20000 in
theorem gX4_addNumber_X4_add : GoodIn wsX4_addNumber (wsV RX4 36 RX4 yX4_add wsX4_add) := goodIn_app (goodIn_of _ (by decide +kernel)) ggX4_addNumber_X4_add
theorem dX4_addNumber_0 : decode cX4_addNumber 0 = .ok (.iconst 1, 1) := by decide +kernel
theorem dX4_addNumber_1 : decode cX4_addNumber 1 = .ok (.istore_n 2, 1) := by decide +kernel
theorem dX4_addNumber_2 : decode cX4_addNumber 2 = .ok (.iconst 0, 1) := by decide +kernel
theorem dX4_addNumber_3 : decode cX4_addNumber 3 = .ok (.istore_n 3, 1) := by decide +kernel
theorem dX4_addNumber_4 : decode cX4_addNumber 4 = .ok (.iload_n 3, 1) := by decide +kernel
theorem dX4_addNumber_5 : decode cX4_addNumber 5 = .ok (.bipush 9, 2) := by decide +kernel
theorem dX4_addNumber_7 : decode cX4_addNumber 7 = .ok (.if_icmp .ge 22, 3) := by decide +kernel
theorem dX4_addNumber_10 : decode cX4_addNumber 10 = .ok (.iload_n 2, 1) := by decide +kernel
theorem dX4_addNumber_11 : decode cX4_addNumber 11 = .ok (.iload_n 1, 1) := by decide +kernel
theorem dX4_addNumber_12 : decode cX4_addNumber 12 = .ok (.bipush 10, 2) := by decide +kernel
theorem dX4_addNumber_14 : decode cX4_addNumber 14 = .ok (.idiv, 1) := by decide +kernel
theorem dX4_addNumber_15 : decode cX4_addNumber 15 = .ok (.if_icmp .gt 14, 3) := by decide +kernel
theorem dX4_addNumber_18 : decode cX4_addNumber 18 = .ok (.iload_n 2, 1) := by decide +kernel
theorem dX4_addNumber_19 : decode cX4_addNumber 19 = .ok (.bipush 10, 2) := by decide +kernel
theorem dX4_addNumber_21 : decode cX4_addNumber 21 = .ok (.imul, 1) := by decide +kernel
theorem dX4_addNumber_22 : decode cX4_addNumber 22 = .ok (.istore_n 2, 1) := by decide +kernel
theorem dX4_addNumber_23 : decode cX4_addNumber 23 = .ok (.iinc 3 1, 3) := by decide +kernel
theorem dX4_addNumber_26 : decode cX4_addNumber 26 = .ok (.goto (-22), 3) := by decide +kernel
theorem dX4_addNumber_29 : decode cX4_addNumber 29 = .ok (.iload_n 2, 1) := by decide +kernel
theorem dX4_addNumber_30 : decode cX4_addNumber 30 = .ok (.ifCond .le 24, 3) := by decide +kernel
theorem dX4_addNumber_33 : decode cX4_addNumber 33 = .ok (.aload_n 0, 1) := by decide +kernel
theorem dX4_addNumber_34 : decode cX4_addNumber 34 = .ok (.bipush 48, 2) := by decide +kernel
theorem dX4_addNumber_36 : decode cX4_addNumber 36 = .ok (.iload_n 1, 1) := by decide +kernel
theorem dX4_addNumber_37 : decode cX4_addNumber 37 = .ok (.iload_n 2, 1) := by decide +kernel
theorem dX4_addNumber_38 : decode cX4_addNumber 38 = .ok (.idiv, 1) := by decide +kernel
theorem dX4_addNumber_39 : decode cX4_addNumber 39 = .ok (.bipush 10, 2) := by decide +kernel
theorem dX4_addNumber_41 : decode cX4_addNumber 41 = .ok (.irem, 1) := by decide +kernel
theorem dX4_addNumber_42 : decode cX4_addNumber 42 = .ok (.iadd, 1) := by decide +kernel
theorem dX4_addNumber_43 : decode cX4_addNumber 43 = .ok (.invokevirtual 36, 3) := by decide +kernel
theorem dX4_addNumber_46 : decode cX4_addNumber 46 = .ok (.iload_n 2, 1) := by decide +kernel
theorem dX4_addNumber_47 : decode cX4_addNumber 47 = .ok (.bipush 10, 2) := by decide +kernel
theorem dX4_addNumber_49 : decode cX4_addNumber 49 = .ok (.idiv, 1) := by decide +kernel
theorem dX4_addNumber_50 : decode cX4_addNumber 50 = .ok (.istore_n 2, 1) := by decide +kernel
theorem dX4_addNumber_51 : decode cX4_addNumber 51 = .ok (.goto (-22), 3) := by decide +kernel
theorem dX4_addNumber_54 : decode cX4_addNumber 54 = .ok (.return_, 1) := by decide +kernel
set_option maxRecDepth 20000 in
theorem ggX4_addRange_X4_makeRoom : GoodIn wsX4_addRange wsX4_makeRoom := goodIn_r _ [11, 12, 1, 2, 13, 14, 15, 16, 17, 18, 19, 20, 3, 4, 5, 6, 21, 22, 23] (by decide +kernel) (by decide +kernel)
set_option maxRecDepth 20000 in
theorem gX4_addRange_X4_makeRoom : GoodIn wsX4_addRange (wsV RX4 32 RX4 yX4_makeRoom wsX4_makeRoom) := goodIn_app (goodIn_of _ (by decide +kernel)) ggX4_addRange_X4_makeRoom
theorem dX4_addRange_0 : decode cX4_addRange 0 = .ok (.iload_n 2, 1) := by decide +kernel
theorem dX4_addRange_1 : decode cX4_addRange 1 = .ok (.ifCond .lt 25, 3) := by decide +kernel
theorem dX4_addRange_4 : decode cX4_addRange 4 = .ok (.iload_n 3, 1) := by decide +kernel
theorem dX4_addRange_5 : decode cX4_addRange 5 = .ok (.ifCond .lt 21, 3) := by decide +kernel
theorem dX4_addRange_8 : decode cX4_addRange 8 = .ok (.iload_n 2, 1) := by decide +kernel
theorem dX4_addRange_9 : decode cX4_addRange 9 = .ok (.aload_n 1, 1) := by decide +kernel
theorem dX4_addRange_10 : decode cX4_addRange 10 = .ok (.getfield 19, 3) := by decide +kernel
theorem dX4_addRange_13 : decode cX4_addRange 13 = .ok (.iload_n 3, 1) := by decide +kernel
theorem dX4_addRange_14 : decode cX4_addRange 14 = .ok (.isub, 1) := by decide +kernel
theorem dX4_addRange_15 : decode cX4_addRange 15 = .ok (.if_icmp .gt 11, 3) := by decide +kernel
theorem dX4_addRange_18 : decode cX4_addRange 18 = .ok (.aload_n 0, 1) := by decide +kernel
theorem dX4_addRange_19 : decode cX4_addRange 19 = .ok (.iload_n 3, 1) := by decide +kernel
theorem dX4_addRange_20 : decode cX4_addRange 20 = .ok (.invokevirtual 32, 3) := by decide +kernel
theorem dX4_addRange_23 : decode cX4_addRange 23 = .ok (.ifCond .ne 4, 3) := by decide +kernel
theorem dX4_addRange_26 : decode cX4_addRange 26 = .ok (.return_, 1) := by decide +kernel
theorem dX4_addRange_27 : decode cX4_addRange 27 = .ok (.aload_n 1, 1) := by decide +kernel
theorem dX4_addRange_28 : decode cX4_addRange 28 = .ok (.getfield 15, 3) := by decide +kernel
theorem dX4_addRange_31 : decode cX4_addRange 31 = .ok (.iload_n 2, 1) := by decide +kernel
theorem dX4_addRange_32 : decode cX4_addRange 32 = .ok (.aload_n 0, 1) := by decide +kernel
theorem dX4_addRange_33 : decode cX4_addRange 33 = .ok (.getfield 15, 3) := by decide +kernel
theorem dX4_addRange_36 : decode cX4_addRange 36 = .ok (.aload_n 0, 1) := by decide +kernel
theorem dX4_addRange_37 : decode cX4_addRange 37 = .ok (.getfield 19, 3) := by decide +kernel
theorem dX4_addRange_40 : decode cX4_addRange 40 = .ok (.iload_n 3, 1) := by decide +kernel
theorem dX4_addRange_41 : decode cX4_addRange 41 = .ok (.invokestatic 26, 3) := by decide +kernel
theorem dX4_addRange_44 : decode cX4_addRange 44 = .ok (.aload_n 0, 1) := by decide +kernel
theorem dX4_addRange_45 : decode cX4_addRange 45 = .ok (.dup, 1) := by decide +kernel
theorem dX4_addRange_46 : decode cX4_addRange 46 = .ok (.getfield 19, 3) := by decide +kernel
theorem dX4_addRange_49 : decode cX4_addRange 49 = .ok (.iload_n 3, 1) := by decide +kernel
theorem dX4_addRange_50 : decode cX4_addRange 50 = .ok (.iadd, 1) := by decide +kernel
theorem dX4_addRange_51 : decode cX4_addRange 51 = .ok (.putfield 19, 3) := by decide +kernel
theorem dX4_addRange_54 : decode cX4_addRange 54 = .ok (.return_, 1) := by decide +kernel
theorem dX4_makeRoom_0 : decode cX4_makeRoom 0 = .ok (.iload_n 1, 1) := by decide +kernel
theorem dX4_makeRoom_1 : decode cX4_makeRoom 1 = .ok (.aload_n 0, 1) := by decide +kernel
theorem dX4_makeRoom_2 : decode cX4_makeRoom 2 = .ok (.getfield 9, 3) := by decide +kernel
theorem dX4_makeRoom_5 : decode cX4_makeRoom 5 = .ok (.aload_n 0, 1) := by decide +kernel
theorem dX4_makeRoom_6 : decode cX4_makeRoom 6 = .ok (.getfield 19, 3) := by decide +kernel
theorem dX4_makeRoom_9 : decode cX4_makeRoom 9 = .ok (.isub, 1) := by decide +kernel
theorem dX4_makeRoom_10 : decode cX4_makeRoom 10 = .ok (.if_icmp .le 5, 3) := by decide +kernel
theorem dX4_makeRoom_13 : decode cX4_makeRoom 13 = .ok (.iconst 0, 1) := by decide +kernel
theorem dX4_makeRoom_14 : decode cX4_makeRoom 14 = .ok (.ireturn, 1) := by decide +kernel
theorem dX4_makeRoom_15 : decode cX4_makeRoom 15 = .ok (.aload_n 0, 1) := by decide +kernel
theorem dX4_makeRoom_16 : decode cX4_makeRoom 16 = .ok (.getfield 19, 3) := by decide +kernel
theorem dX4_makeRoom_19 : decode cX4_makeRoom 19 = .ok (.iload_n 1, 1) := by decide +kernel
theorem dX4_makeRoom_20 : decode cX4_makeRoom 20 = .ok (.iadd, 1) := by decide +kernel
theorem dX4_makeRoom_21 : decode cX4_makeRoom 21 = .ok (.istore_n 2, 1) := by decide +kernel
theorem dX4_makeRoom_22 : decode cX4_makeRoom 22 = .ok (.iload_n 2, 1) := by decide +kernel
theorem dX4_makeRoom_23 : decode cX4_makeRoom 23 = .ok (.aload_n 0, 1) := by decide +kernel
theorem dX4_makeRoom_24 : decode cX4_makeRoom 24 = .ok (.getfield 15, 3) := by decide +kernel
theorem dX4_makeRoom_27 : decode cX4_makeRoom 27 = .ok (.arraylength, 1) := by decide +kernel
theorem dX4_makeRoom_28 : decode cX4_makeRoom 28 = .ok (.if_icmp .le 43, 3) := by decide +kernel
theorem dX4_makeRoom_31 : decode cX4_makeRoom 31 = .ok (.iload_n 2, 1) := by decide +kernel
theorem dX4_makeRoom_32 : decode cX4_makeRoom 32 = .ok (.aload_n 0, 1) := by decide +kernel
theorem dX4_makeRoom_33 : decode cX4_makeRoom 33 = .ok (.getfield 9, 3) := by decide +kernel
theorem dX4_makeRoom_36 : decode cX4_makeRoom 36 = .ok (.iconst 2, 1) := by decide +kernel
theorem dX4_makeRoom_37 : decode cX4_makeRoom 37 = .ok (.aload_n 0, 1) := by decide +kernel
theorem dX4_makeRoom_38 : decode cX4_makeRoom 38 = .ok (.getfield 15, 3) := by decide +kernel
theorem dX4_makeRoom_41 : decode cX4_makeRoom 41 = .ok (.arraylength, 1) := by decide +kernel
theorem dX4_makeRoom_42 : decode cX4_makeRoom 42 = .ok (.imul, 1) := by decide +kernel
theorem dX4_makeRoom_43 : decode cX4_makeRoom 43 = .ok (.invokestatic 50, 3) := by decide +kernel
theorem dX4_makeRoom_46 : decode cX4_makeRoom 46 = .ok (.invokestatic 56, 3) := by decide +kernel
theorem dX4_makeRoom_49 : decode cX4_makeRoom 49 = .ok (.newarray .byte, 2) := by decide +kernel
theorem dX4_makeRoom_51 : decode cX4_makeRoom 51 = .ok (.astore_n 3, 1) := by decide +kernel
theorem dX4_makeRoom_52 : decode cX4_makeRoom 52 = .ok (.aload_n 0, 1) := by decide +kernel
theorem dX4_makeRoom_53 : decode cX4_makeRoom 53 = .ok (.getfield 15, 3) := by decide +kernel
theorem dX4_makeRoom_56 : decode cX4_makeRoom 56 = .ok (.iconst 0, 1) := by decide +kernel
theorem dX4_makeRoom_57 : decode cX4_makeRoom 57 = .ok (.aload_n 3, 1) := by decide +kernel
theorem dX4_makeRoom_58 : decode cX4_makeRoom 58 = .ok (.iconst 0, 1) := by decide +kernel
theorem dX4_makeRoom_59 : decode cX4_makeRoom 59 = .ok (.aload_n 0, 1) := by decide +kernel
theorem dX4_makeRoom_60 : decode cX4_makeRoom 60 = .ok (.getfield 19, 3) := by decide +kernel
theorem dX4_makeRoom_63 : decode cX4_makeRoom 63 = .ok (.invokestatic 26, 3) := by decide +kernel
theorem dX4_makeRoom_66 : decode cX4_makeRoom 66 = .ok (.aload_n 0, 1) := by decide +kernel
theorem dX4_makeRoom_67 : decode cX4_makeRoom 67 = .ok (.aload_n 3, 1) := by decide +kernel
theorem dX4_makeRoom_68 : decode cX4_makeRoom 68 = .ok (.putfield 15, 3) := by decide +kernel
theorem dX4_makeRoom_71 : decode cX4_makeRoom 71 = .ok (.iconst 1, 1) := by decide +kernel
theorem dX4_makeRoom_72 : decode cX4_makeRoom 72 = .ok (.ireturn, 1) := by decide +kernel
set_option maxRecDepth 20000 in
theorem ggX4_find_X4_get : GoodIn wsX4_find wsX4_get := goodIn_r _ [5, 6, 7, 8, 9, 10] (by decide +kernel) (by decide +kernel)
set_option maxRecDepth 20000 in
theorem gX4_find_X4_get : GoodIn wsX4_find (wsV RX4 22 RX4 yX4_get wsX4_get) := goodIn_app (goodIn_of _ (by decide +kernel)) ggX4_find_X4_get
theorem dX4_find_0 : decode cX4_find 0 = .ok (.iload_n 2, 1) := by decide +kernel
theorem dX4_find_1 : decode cX4_find 1 = .ok (.istore 4, 2) := by decide +kernel
theorem dX4_find_3 : decode cX4_find 3 = .ok (.iload 4, 2) := by decide +kernel
theorem dX4_find_5 : decode cX4_find 5 = .ok (.iload_n 3, 1) := by decide +kernel
theorem dX4_find_6 : decode cX4_find 6 = .ok (.if_icmp .ge 22, 3) := by decide +kernel
theorem dX4_find_9 : decode cX4_find 9 = .ok (.aload_n 0, 1) := by decide +kernel
theorem dX4_find_10 : decode cX4_find 10 = .ok (.iload 4, 2) := by decide +kernel
theorem dX4_find_12 : decode cX4_find 12 = .ok (.invokevirtual 22, 3) := by decide +kernel
theorem dX4_find_15 : decode cX4_find 15 = .ok (.iload_n 1, 1) := by decide +kernel
theorem dX4_find_16 : decode cX4_find 16 = .ok (.if_icmp .ne 6, 3) := by decide +kernel
theorem dX4_find_19 : decode cX4_find 19 = .ok (.iload 4, 2) := by decide +kernel
theorem dX4_find_21 : decode cX4_find 21 = .ok (.ireturn, 1) := by decide +kernel
theorem dX4_find_22 : decode cX4_find 22 = .ok (.iinc 4 1, 3) := by decide +kernel
theorem dX4_find_25 : decode cX4_find 25 = .ok (.goto (-22), 3) := by decide +kernel
theorem dX4_find_28 : decode cX4_find 28 = .ok (.iload_n 3, 1) := by decide +kernel
theorem dX4_find_29 : decode cX4_find 29 = .ok (.ireturn, 1) := by decide +kernel
set_option maxRecDepth 20000 in
theorem ggX4_lineEnd_X4_get : GoodIn wsX4_lineEnd wsX4_get := goodIn_r _ [5, 6, 7, 8, 9, 10] (by decide +kernel) (by decide +kernel)
set_option maxRecDepth 20000 in
theorem gX4_lineEnd_X4_get : GoodIn wsX4_lineEnd (wsV RX4 22 RX4 yX4_get wsX4_get) := goodIn_app (goodIn_of _ (by decide +kernel)) ggX4_lineEnd_X4_get
theorem dX4_lineEnd_0 : decode cX4_lineEnd 0 = .ok (.iload_n 2, 1) := by decide +kernel
theorem dX4_lineEnd_1 : decode cX4_lineEnd 1 = .ok (.iload_n 1, 1) := by decide +kernel
theorem dX4_lineEnd_2 : decode cX4_lineEnd 2 = .ok (.if_icmp .le 19, 3) := by decide +kernel
theorem dX4_lineEnd_5 : decode cX4_lineEnd 5 = .ok (.aload_n 0, 1) := by decide +kernel
theorem dX4_lineEnd_6 : decode cX4_lineEnd 6 = .ok (.iload_n 2, 1) := by decide +kernel
theorem dX4_lineEnd_7 : decode cX4_lineEnd 7 = .ok (.iconst 1, 1) := by decide +kernel
theorem dX4_lineEnd_8 : decode cX4_lineEnd 8 = .ok (.isub, 1) := by decide +kernel
theorem dX4_lineEnd_9 : decode cX4_lineEnd 9 = .ok (.invokevirtual 22, 3) := by decide +kernel
theorem dX4_lineEnd_12 : decode cX4_lineEnd 12 = .ok (.bipush 13, 2) := by decide +kernel
