theorem dX0_init_1 : decode cX0_init 1 = .ok (.invokespecial 3, 3) := by decide +kernel
set_option maxRecDepth 20000 in
theorem ggX0_isLike_X6_isSameText : GoodIn wsX0_isLike wsX6_isSameText := goodIn_r _ [5] (by decide +kernel) (by decide +kernel)
set_option maxRecDepth 20000 in
theorem gX0_isLike_X6_isSameText_n22 : GoodIn wsX0_isLike (wsX6_isSameText) := ggX0_isLike_X6_isSameText
theorem dX0_isLike_5 : decode cX0_isLike 5 = .ok (.invokestatic 22, 3) := by decide +kernel
theorem dX0_isLike_16 : decode cX0_isLike 16 = .ok (.invokestatic 22, 3) := by decide +kernel
theorem dX1_init_1 : decode cX1_init 1 = .ok (.invokespecial 1, 3) := by decide +kernel
set_option maxRecDepth 20000 in
theorem ggX1_become_X1_clear : GoodIn wsX1_become wsX1_clear := goodIn_r _ [7, 1, 12, 13] (by decide +kernel) (by decide +kernel)
set_option maxRecDepth 20000 in
theorem gX1_become_X1_clear : GoodIn wsX1_become (wsV RX1 19 RX1 yX1_clear wsX1_clear) := goodIn_app (goodIn_of _ (by decide +kernel)) ggX1_become_X1_clear
set_option maxRecDepth 20000 in
theorem ggX1_become_X1_add : GoodIn wsX1_become wsX1_add := goodIn_r _ [11, 1, 2, 12, 13] (by decide +kernel) (by decide +kernel)
set_option maxRecDepth 20000 in
theorem gX1_become_X1_add : GoodIn wsX1_become (wsV RX1 22 RX1 yX1_add wsX1_add) := goodIn_app (goodIn_of _ (by decide +kernel)) ggX1_become_X1_add
theorem dX1_become_1 : decode cX1_become 1 = .ok (.invokevirtual 19, 3) := by decide +kernel
theorem dX1_become_21 : decode cX1_become 21 = .ok (.invokevirtual 22, 3) := by decide +kernel
set_option maxRecDepth 20000 in
theorem ggX2_init_X3_init : GoodIn wsX2_init wsX3_init := goodIn_r _ [14, 15, 2, 3, 16, 17, 18, 19, 20, 31, 32, 33, 34] (by decide +kernel) (by decide +kernel)
set_option maxRecDepth 20000 in
theorem gX2_init_X3_init : GoodIn wsX2_init (wsX3_init) := ggX2_init_X3_init
set_option maxRecDepth 20000 in
theorem ggX2_init_X4_init : GoodIn wsX2_init wsX4_init := goodIn_r _ [23, 24, 2, 3, 25, 26, 27, 28, 29, 30, 37, 38, 39, 40, 41] (by decide +kernel) (by decide +kernel)
set_option maxRecDepth 20000 in
theorem gX2_init_X4_init : GoodIn wsX2_init (wsX4_init) := ggX2_init_X4_init
theorem dX2_init_1 : decode cX2_init 1 = .ok (.invokespecial 3, 3) := by decide +kernel
theorem dX2_init_12 : decode cX2_init 12 = .ok (.invokespecial 11, 3) := by decide +kernel
theorem dX2_init_24 : decode cX2_init 24 = .ok (.invokespecial 22, 3) := by decide +kernel
set_option maxRecDepth 20000 in
theorem ggX2_begin_X3_clear : GoodIn wsX2_begin wsX3_clear := goodIn_r _ [7, 8, 9, 21, 22, 23, 24] (by decide +kernel) (by decide +kernel)
set_option maxRecDepth 20000 in
theorem gX2_begin_X3_clear : GoodIn wsX2_begin (wsV RX2 29 RX3 yX3_clear wsX3_clear) := goodIn_app (goodIn_of _ (by decide +kernel)) ggX2_begin_X3_clear
set_option maxRecDepth 20000 in
theorem ggX2_begin_X4_become : GoodIn wsX2_begin wsX4_become := goodIn_r _ [14, 15, 16, 17, 18, 25, 26, 27, 28, 29] (by decide +kernel) (by decide +kernel)
set_option maxRecDepth 20000 in
theorem gX2_begin_X4_become : GoodIn wsX2_begin (wsV RX2 32 RX4 yX4_become wsX4_become) := goodIn_app (goodIn_of _ (by decide +kernel)) ggX2_begin_X4_become
theorem dX2_begin_4 : decode cX2_begin 4 = .ok (.invokevirtual 29, 3) := by decide +kernel
theorem dX2_begin_12 : decode cX2_begin 12 = .ok (.invokevirtual 32, 3) := by decide +kernel
set_option maxRecDepth 20000 in
theorem ggX2_writeLimits_X2_writeNumber : GoodIn wsX2_writeLimits wsX2_writeNumber := goodIn_r _ [7, 8, 9, 10, 11, 12, 13, 14, 15, 16, 17, 18, 19, 20, 21, 22, 23, 24, 25, 26, 27, 28, 29, 30, 31, 32, 33, 34, 35, 36, 37, 38, 39, 45, 46, 47, 48] (by decide +kernel) (by decide +kernel)
set_option maxRecDepth 20000 in
theorem gX2_writeLimits_X2_writeNumber : GoodIn wsX2_writeLimits (wsV RX2 40 RX2 yX2_writeNumber wsX2_writeNumber) := goodIn_app (goodIn_of _ (by decide +kernel)) ggX2_writeLimits_X2_writeNumber
theorem dX2_writeLimits_35 : decode cX2_writeLimits 35 = .ok (.invokevirtual 40, 3) := by decide +kernel
theorem dX2_writeLimits_53 : decode cX2_writeLimits 53 = .ok (.invokevirtual 40, 3) := by decide +kernel
set_option maxRecDepth 20000 in
theorem ggX2_writeField_X2_writeTexts : GoodIn wsX2_writeField wsX2_writeTexts := goodIn_r _ [8, 2, 9, 10, 11, 12, 13, 14, 15, 16, 17, 18, 19, 20, 21, 22, 23, 24, 25, 26, 27, 28, 29, 30, 31, 32, 33, 34, 35, 36, 37, 38, 39, 40, 41, 7, 42, 43, 44, 45, 46, 47, 48, 49, 50, 51, 52, 53, 54, 55, 56, 57, 58, 59, 60, 61, 62, 63, 64, 65, 66, 67, 68, 69, 70, 71, 72, 73, 74, 75, 76, 77, 78, 79, 80, 81, 82, 83, 84, 85, 86, 87, 88, 89, 90, 91, 92, 93, 94, 95, 96, 97, 98, 99, 100, 101, 102, 103, 104, 105, 106, 107, 108, 109, 110, 111, 112, 113, 114, 115, 116, 117, 118, 119, 120, 121, 122, 123, 124, 125, 126, 127, 128, 129, 130, 131, 132, 133, 134, 135, 136, 137, 138, 139, 140, 141, 142, 143, 144, 145, 146, 147, 148, 149, 150, 151, 152, 153, 154, 155, 156, 157, 158, 159, 160, 161, 162, 163, 164, 165, 166, 167, 168, 169, 170, 205, 206, 202, 203, 204, 207, 208, 209, 210, 211, 212, 213, 214, 215, 216, 217] (by decide +kernel) (by decide +kernel)
set_option maxRecDepth 20000 in
theorem gX2_writeField_X2_writeTexts : GoodIn wsX2_writeField (wsV RX2 50 RX2 yX2_writeTexts wsX2_writeTexts) := goodIn_app (goodIn_of _ (by decide +kernel)) ggX2_writeField_X2_writeTexts
set_option maxRecDepth 20000 in
theorem ggX2_writeField_X4_placeOfWhole : GoodIn wsX2_writeField wsX4_placeOfWhole := goodIn_r _ [174, 16, 17, 18, 19, 175, 20, 21, 22, 14, 23, 24, 25, 26, 27, 28, 29, 30, 31, 32, 33, 34, 35, 176, 177, 178, 179, 180, 181, 182, 36, 37, 38, 207, 208, 209, 210, 211, 212, 213, 202, 203, 204] (by decide +kernel) (by decide +kernel)
set_option maxRecDepth 20000 in
theorem gX2_writeField_X4_placeOfWhole : GoodIn wsX2_writeField (wsV RX2 54 RX4 yX4_placeOfWhole wsX4_placeOfWhole) := goodIn_app (goodIn_of _ (by decide +kernel)) ggX2_writeField_X4_placeOfWhole
set_option maxRecDepth 20000 in
theorem ggX2_writeField_X2_writeNumber : GoodIn wsX2_writeField wsX2_writeNumber := goodIn_r _ [42, 43, 44, 45, 46, 47, 48, 49, 50, 51, 52, 53, 54, 55, 56, 57, 58, 59, 60, 61, 62, 63, 64, 65, 66, 67, 68, 69, 70, 71, 72, 205, 206, 214, 215, 216, 217] (by decide +kernel) (by decide +kernel)
set_option maxRecDepth 20000 in
theorem gX2_writeField_X2_writeNumber : GoodIn wsX2_writeField (wsV RX2 40 RX2 yX2_writeNumber wsX2_writeNumber) := goodIn_app (goodIn_of _ (by decide +kernel)) ggX2_writeField_X2_writeNumber
set_option maxRecDepth 20000 in
theorem ggX2_writeField_X0_cost : GoodIn wsX2_writeField wsX0_cost := goodIn_r _ [186, 181, 182, 202, 203, 204] (by decide +kernel) (by decide +kernel)
set_option maxRecDepth 20000 in
theorem gX2_writeField_X0_cost : GoodIn wsX2_writeField (wsV RX2 58 RX0 yX0_cost wsX0_cost) := goodIn_app (goodIn_of _ (by decide +kernel)) ggX2_writeField_X0_cost
set_option maxRecDepth 20000 in
theorem ggX2_writeField_X4_put : GoodIn wsX2_writeField wsX4_put := goodIn_r _ [190, 191, 18, 35, 192, 193, 184, 185, 179, 186, 181, 182, 194, 195, 196, 14, 197, 198, 199, 200, 201, 31, 32, 33, 34, 207, 208, 209, 210, 211, 202, 203, 204] (by decide +kernel) (by decide +kernel)
set_option maxRecDepth 20000 in
theorem gX2_writeField_X4_put : GoodIn wsX2_writeField (wsV RX2 62 RX4 yX4_put wsX4_put) := goodIn_app (goodIn_of _ (by decide +kernel)) ggX2_writeField_X4_put
theorem dX2_writeField_17 : decode cX2_writeField 17 = .ok (.invokevirtual 50, 3) := by decide +kernel
theorem dX2_writeField_26 : decode cX2_writeField 26 = .ok (.invokevirtual 54, 3) := by decide +kernel
theorem dX2_writeField_41 : decode cX2_writeField 41 = .ok (.invokevirtual 40, 3) := by decide +kernel
theorem dX2_writeField_48 : decode cX2_writeField 48 = .ok (.invokevirtual 58, 3) := by decide +kernel
theorem dX2_writeField_67 : decode cX2_writeField 67 = .ok (.invokevirtual 50, 3) := by decide +kernel
theorem dX2_writeField_75 : decode cX2_writeField 75 = .ok (.invokevirtual 62, 3) := by decide +kernel
theorem dX2_writeField_85 : decode cX2_writeField 85 = .ok (.invokevirtual 50, 3) := by decide +kernel
set_option maxRecDepth 20000 in
theorem ggX2_writeTexts_X4_placeOfName : GoodIn wsX2_writeTexts wsX4_placeOfName := goodIn_r _ [8, 9, 10, 11, 12, 13, 14, 15, 7, 16, 17, 18, 19, 20, 21, 22, 23, 24, 25, 26, 27, 28, 29, 30, 31, 170, 171, 172, 173, 174, 175, 176, 167, 168, 169] (by decide +kernel) (by decide +kernel)
set_option maxRecDepth 20000 in
theorem gX2_writeTexts_X4_placeOfName : GoodIn wsX2_writeTexts (wsV RX2 70 RX4 yX4_placeOfName wsX4_placeOfName) := goodIn_app (goodIn_of _ (by decide +kernel)) ggX2_writeTexts_X4_placeOfName
set_option maxRecDepth 20000 in
theorem ggX2_writeTexts_X2_writeNumber : GoodIn wsX2_writeTexts wsX2_writeNumber := goodIn_r _ [36, 37, 38, 39, 40, 41, 42, 43, 44, 45, 46, 47, 48, 49, 50, 51, 52, 53, 54, 55, 56, 57, 58, 59, 60, 61, 62, 63, 64, 65, 66, 165, 166, 177, 178, 179, 180] (by decide +kernel) (by decide +kernel)
set_option maxRecDepth 20000 in
theorem gX2_writeTexts_X2_writeNumber : GoodIn wsX2_writeTexts (wsV RX2 40 RX2 yX2_writeNumber wsX2_writeNumber) := goodIn_app (goodIn_of _ (by decide +kernel)) ggX2_writeTexts_X2_writeNumber
set_option maxRecDepth 20000 in
theorem ggX2_writeTexts_X2_writeText : GoodIn wsX2_writeTexts wsX2_writeText := goodIn_r _ [70, 37, 71, 72, 73, 35, 74, 75, 76, 77, 78, 79, 80, 81, 82, 83, 84, 85, 86, 87, 88, 89, 90, 91, 92, 93, 94, 95, 96, 97, 98, 99, 100, 101, 102, 103, 104, 49, 105, 106, 48, 50, 107, 108, 109, 110, 111, 112, 113, 114, 115, 116, 117, 118, 119, 120, 121, 122, 123, 124, 125, 126, 127, 128, 129, 130, 131, 132, 133, 134, 135, 136, 137, 138, 139, 140, 141, 142, 143, 144, 145, 146, 147, 148, 149, 150, 151, 152, 153, 154, 155, 156, 157, 158, 159, 160, 32, 33, 34, 36, 38, 39, 40, 41, 42, 43, 44, 45, 46, 47, 51, 52, 53, 54, 55, 56, 57, 58, 59, 60, 61, 62, 63, 64, 65, 66, 161, 162, 163, 164, 165, 166, 177, 178, 179, 180] (by decide +kernel) (by decide +kernel)
set_option maxRecDepth 20000 in
theorem gX2_writeTexts_X2_writeText : GoodIn wsX2_writeTexts (wsV RX2 74 RX2 yX2_writeText wsX2_writeText) := goodIn_app (goodIn_of _ (by decide +kernel)) ggX2_writeTexts_X2_writeText
theorem dX2_writeTexts_8 : decode cX2_writeTexts 8 = .ok (.invokevirtual 70, 3) := by decide +kernel
theorem dX2_writeTexts_18 : decode cX2_writeTexts 18 = .ok (.invokevirtual 40, 3) := by decide +kernel
theorem dX2_writeTexts_31 : decode cX2_writeTexts 31 = .ok (.invokevirtual 74, 3) := by decide +kernel
theorem dX2_writeTexts_39 : decode cX2_writeTexts 39 = .ok (.invokevirtual 74, 3) := by decide +kernel
set_option maxRecDepth 20000 in
theorem ggX2_writeNumber_X3_add : GoodIn wsX2_writeNumber wsX3_add := goodIn_r _ [6, 7, 8, 9, 10, 11, 12, 13, 14, 15, 16, 17, 18, 19, 20, 21, 22, 23, 24, 25, 26, 27, 28, 29, 30, 33, 34, 35, 36] (by decide +kernel) (by decide +kernel)
set_option maxRecDepth 20000 in
theorem gX2_writeNumber_X3_add : GoodIn wsX2_writeNumber (wsV RX2 81 RX3 yX3_add wsX3_add) := goodIn_app (goodIn_of _ (by decide +kernel)) ggX2_writeNumber_X3_add
theorem dX2_writeNumber_20 : decode cX2_writeNumber 20 = .ok (.invokevirtual 81, 3) := by decide +kernel
theorem dX2_writeNumber_32 : decode cX2_writeNumber 32 = .ok (.invokevirtual 81, 3) := by decide +kernel
theorem dX2_writeNumber_61 : decode cX2_writeNumber 61 = .ok (.invokevirtual 81, 3) := by decide +kernel
theorem dX2_writeNumber_80 : decode cX2_writeNumber 80 = .ok (.invokevirtual 81, 3) := by decide +kernel
set_option maxRecDepth 20000 in
theorem ggX2_writeText_X2_tightSize : GoodIn wsX2_writeText wsX2_tightSize := goodIn_r _ [6, 7, 8, 9, 10, 11, 12, 13, 14, 15, 16, 17, 18, 19, 20, 21, 22, 23, 24, 25, 26, 27, 28, 29, 30, 31, 32, 33, 34, 35, 36, 37, 38, 39, 40, 41, 42, 43, 44, 45, 46, 47, 48, 49, 50, 51, 52, 53, 54, 55, 56, 57, 58, 59, 60, 61, 62, 63, 64, 65, 66, 67, 68, 69, 70, 71, 72, 73, 74, 75, 76, 77, 78, 79, 80, 81, 82, 83, 84, 85, 86, 87, 88, 89, 90, 91, 92, 93, 94, 95] (by decide +kernel) (by decide +kernel)
set_option maxRecDepth 20000 in
theorem gX2_writeText_X2_tightSize : GoodIn wsX2_writeText (wsV RX2 84 RX2 yX2_tightSize wsX2_tightSize) := goodIn_app (goodIn_of _ (by decide +kernel)) ggX2_writeText_X2_tightSize
set_option maxRecDepth 20000 in
theorem ggX2_writeText_X2_writeNumber : GoodIn wsX2_writeText wsX2_writeNumber := goodIn_r _ [99, 1, 100, 101, 102, 103, 104, 105, 106, 107, 108, 109, 40, 37, 41, 110, 111, 112, 113, 114, 115, 116, 117, 118, 119, 120, 121, 122, 123, 124, 125, 130, 131, 132, 133, 134, 135] (by decide +kernel) (by decide +kernel)
set_option maxRecDepth 20000 in
theorem gX2_writeText_X2_writeNumber : GoodIn wsX2_writeText (wsV RX2 40 RX2 yX2_writeNumber wsX2_writeNumber) := goodIn_app (goodIn_of _ (by decide +kernel)) ggX2_writeText_X2_writeNumber
set_option maxRecDepth 20000 in
theorem ggX2_writeText_X2_writeTightly : GoodIn wsX2_writeText wsX2_writeTightly := goodIn_r _ [129, 1, 7, 8, 9, 10, 11, 12, 13, 14, 15, 16, 17, 18, 19, 20, 21, 22, 23, 24, 25, 26, 27, 28, 29, 30, 31, 32, 33, 34, 35, 36, 37, 38, 39, 40, 41, 42, 43, 44, 45, 46, 47, 48, 49, 50, 51, 52, 53, 54, 55, 56, 57, 58, 59, 60, 61, 62, 63, 64, 65, 66, 67, 68, 69, 70, 71, 72, 73, 74, 75, 76, 77, 78, 79, 80, 81, 82, 83, 84, 85, 86, 87, 88, 89, 90, 91, 92, 93, 94, 95, 100, 101, 102, 103, 104, 105, 106, 107, 108, 109, 110, 111, 112, 113, 114, 115, 116, 117, 118, 119, 120, 121, 122, 123, 124, 125, 130, 131, 132, 133, 134, 135] (by decide +kernel) (by decide +kernel)
set_option maxRecDepth 20000 in
theorem gX2_writeText_X2_writeTightly : GoodIn wsX2_writeText (wsV RX2 87 RX2 yX2_writeTightly wsX2_writeTightly) := goodIn_app (goodIn_of _ (by decide +kernel)) ggX2_writeText_X2_writeTightly
set_option maxRecDepth 20000 in
theorem ggX2_writeText_X3_add : GoodIn wsX2_writeText wsX3_add := goodIn_r _ [104, 105, 106, 107, 108, 109, 40, 37, 41, 110, 111, 112, 113, 114, 115, 116, 117, 118, 119, 120, 121, 122, 123, 124, 125, 132, 133, 134, 135] (by decide +kernel) (by decide +kernel)
set_option maxRecDepth 20000 in
theorem gX2_writeText_X3_add : GoodIn wsX2_writeText (wsV RX2 81 RX3 yX3_add wsX3_add) := goodIn_app (goodIn_of _ (by decide +kernel)) ggX2_writeText_X3_add
theorem dX2_writeText_2 : decode cX2_writeText 2 = .ok (.invokevirtual 84, 3) := by decide +kernel
theorem dX2_writeText_19 : decode cX2_writeText 19 = .ok (.invokevirtual 40, 3) := by decide +kernel
theorem dX2_writeText_24 : decode cX2_writeText 24 = .ok (.invokevirtual 87, 3) := by decide +kernel
theorem dX2_writeText_34 : decode cX2_writeText 34 = .ok (.invokevirtual 40, 3) := by decide +kernel
theorem dX2_writeText_52 : decode cX2_writeText 52 = .ok (.invokevirtual 81, 3) := by decide +kernel
set_option maxRecDepth 20000 in
theorem ggX2_tightSize_J0_indexOf_0f7a4 : GoodIn wsX2_tightSize wsJ0_indexOf_0f7a4 := goodIn_r _ [5, 6, 7, 8, 4, 9, 10, 11, 12, 13, 14, 15, 16, 17, 18, 19, 20, 21, 22, 23, 24, 25, 26, 27, 28, 29, 30, 31, 32, 33, 34, 35, 36, 37, 38, 39, 40, 41, 42, 43, 44, 45, 46, 47, 48, 49, 50, 51, 52, 53, 54, 55, 56, 57, 58, 59, 60, 61, 62, 63, 64, 65, 66, 67, 68, 69, 70, 71, 72, 73, 74, 75, 76, 77, 78, 79, 80, 81, 82, 83, 84, 85, 86, 87, 88, 89] (by decide +kernel) (by decide +kernel)
set_option maxRecDepth 20000 in
theorem gX2_tightSize_J0_indexOf_0f7a4 : GoodIn wsX2_tightSize (wsV RX2 92 RJ0 yJ0_indexOf_0f7a4 wsJ0_indexOf_0f7a4) := goodIn_app (goodIn_of _ (by decide +kernel)) ggX2_tightSize_J0_indexOf_0f7a4
theorem dX2_tightSize_17 : decode cX2_tightSize 17 = .ok (.invokevirtual 92, 3) := by decide +kernel
set_option maxRecDepth 20000 in
theorem ggX2_writeTightly_J0_indexOf_0f7a4 : GoodIn wsX2_writeTightly wsJ0_indexOf_0f7a4 := goodIn_r _ [6, 7, 8, 9, 5, 10, 11, 12, 13, 14, 15, 16, 17, 18, 19, 20, 21, 22, 23, 24, 25, 26, 27, 28, 29, 30, 31, 32, 33, 34, 35, 36, 37, 38, 39, 40, 41, 42, 43, 44, 45, 46, 47, 48, 49, 50, 51, 52, 53, 54, 55, 56, 57, 58, 59, 60, 61, 62, 63, 64, 65, 66, 67, 68, 69, 70, 71, 72, 73, 74, 75, 76, 77, 78, 79, 80, 81, 82, 83, 84, 85, 86, 87, 88, 89, 90] (by decide +kernel) (by decide +kernel)
set_option maxRecDepth 20000 in
theorem gX2_writeTightly_J0_indexOf_0f7a4 : GoodIn wsX2_writeTightly (wsV RX2 92 RJ0 yJ0_indexOf_0f7a4 wsJ0_indexOf_0f7a4) := goodIn_app (goodIn_of _ (by decide +kernel)) ggX2_writeTightly_J0_indexOf_0f7a4
set_option maxRecDepth 20000 in
theorem ggX2_writeTightly_X3_add : GoodIn wsX2_writeTightly wsX3_add := goodIn_r _ [95, 96, 97, 98, 99, 100, 35, 32, 36, 101, 102, 103, 104, 105, 106, 107, 108, 109, 110, 111, 112, 113, 114, 115, 116, 119, 120, 121, 122] (by decide +kernel) (by decide +kernel)
set_option maxRecDepth 20000 in
theorem gX2_writeTightly_X3_add : GoodIn wsX2_writeTightly (wsV RX2 81 RX3 yX3_add wsX3_add) := goodIn_app (goodIn_of _ (by decide +kernel)) ggX2_writeTightly_X3_add
theorem dX2_writeTightly_21 : decode cX2_writeTightly 21 = .ok (.invokevirtual 92, 3) := by decide +kernel
theorem dX2_writeTightly_81 : decode cX2_writeTightly 81 = .ok (.invokevirtual 81, 3) := by decide +kernel
theorem dX2_writeTightly_126 : decode cX2_writeTightly 126 = .ok (.invokevirtual 81, 3) := by decide +kernel
theorem dX3_init_1 : decode cX3_init 1 = .ok (.invokespecial 3, 3) := by decide +kernel
set_option maxRecDepth 20000 in
theorem ggX3_add_J7_copyOf_59c91 : GoodIn wsX3_add wsJ7_copyOf_59c91 := goodIn_r _ [12, 13, 14, 15, 16, 17, 18, 19, 20, 6, 7, 8, 21, 22, 23, 24] (by decide +kernel) (by decide +kernel)
set_option maxRecDepth 20000 in
theorem gX3_add_J7_copyOf_59c91 : GoodIn wsX3_add (va_wsS RX3 32 yJ7_copyOf_59c91 wsJ7_copyOf_59c91) := goodIn_app (goodIn_of _ (by decide +kernel)) ggX3_add_J7_copyOf_59c91
theorem dX3_add_45 : decode cX3_add 45 = .ok (.invokestatic 26, 3) := by decide +kernel
theorem dX3_add_48 : decode cX3_add 48 = .ok (.invokestatic 32, 3) := by decide +kernel
set_option maxRecDepth 20000 in
theorem ggX3_addLowest_X3_add : GoodIn wsX3_addLowest wsX3_add := goodIn_r _ [7, 1, 2, 8, 9, 10, 11, 12, 13, 14, 15, 16, 17, 18, 19, 20, 21, 22, 23, 24, 25, 26, 27, 28, 29, 30, 31, 32, 33] (by decide +kernel) (by decide +kernel)
set_option maxRecDepth 20000 in
theorem gX3_addLowest_X3_add : GoodIn wsX3_addLowest (wsV RX3 38 RX3 yX3_add wsX3_add) := goodIn_app (goodIn_of _ (by decide +kernel)) ggX3_addLowest_X3_add
theorem dX3_addLowest_49 : decode cX3_addLowest 49 = .ok (.invokevirtual 38, 3) := by decide +kernel
set_option maxRecDepth 20000 in
theorem ggX3_takeAll_J7_copyOf_59c91 : GoodIn wsX3_takeAll wsJ7_copyOf_59c91 := goodIn_r _ [6, 7, 8, 9, 10, 11, 12, 13, 14, 15, 16, 17, 18, 19, 20, 21] (by decide +kernel) (by decide +kernel)
set_option maxRecDepth 20000 in
theorem gX3_takeAll_J7_copyOf_59c91 : GoodIn wsX3_takeAll (va_wsS RX3 32 yJ7_copyOf_59c91 wsJ7_copyOf_59c91) := goodIn_app (goodIn_of _ (by decide +kernel)) ggX3_takeAll_J7_copyOf_59c91
set_option maxRecDepth 20000 in
theorem ggX3_takeAll_X3_clear : GoodIn wsX3_takeAll wsX3_clear := goodIn_r _ [26, 2, 27, 28, 29, 30, 31] (by decide +kernel) (by decide +kernel)
set_option maxRecDepth 20000 in
theorem gX3_takeAll_X3_clear : GoodIn wsX3_takeAll (wsV RX3 42 RX3 yX3_clear wsX3_clear) := goodIn_app (goodIn_of _ (by decide +kernel)) ggX3_takeAll_X3_clear
theorem dX3_takeAll_8 : decode cX3_takeAll 8 = .ok (.invokestatic 32, 3) := by decide +kernel
theorem dX3_takeAll_13 : decode cX3_takeAll 13 = .ok (.invokevirtual 42, 3) := by decide +kernel
set_option maxRecDepth 20000 in
theorem ggX3_become_X3_clear : GoodIn wsX3_become wsX3_clear := goodIn_r _ [7, 1, 8, 34, 35, 36, 37] (by decide +kernel) (by decide +kernel)
set_option maxRecDepth 20000 in
theorem gX3_become_X3_clear : GoodIn wsX3_become (wsV RX3 42 RX3 yX3_clear wsX3_clear) := goodIn_app (goodIn_of _ (by decide +kernel)) ggX3_become_X3_clear
set_option maxRecDepth 20000 in
theorem ggX3_become_X3_add : GoodIn wsX3_become wsX3_add := goodIn_r _ [12, 1, 13, 8, 2, 14, 15, 16, 17, 18, 19, 20, 21, 22, 23, 24, 25, 26, 27, 28, 29, 30, 31, 32, 33, 34, 35, 36, 37] (by decide +kernel) (by decide +kernel)
set_option maxRecDepth 20000 in
theorem gX3_become_X3_add : GoodIn wsX3_become (wsV RX3 38 RX3 yX3_add wsX3_add) := goodIn_app (goodIn_of _ (by decide +kernel)) ggX3_become_X3_add
theorem dX3_become_1 : decode cX3_become 1 = .ok (.invokevirtual 42, 3) := by decide +kernel
theorem dX3_become_21 : decode cX3_become 21 = .ok (.invokevirtual 38, 3) := by decide +kernel
theorem dX4_init_1 : decode cX4_init 1 = .ok (.invokespecial 3, 3) := by decide +kernel
set_option maxRecDepth 20000 in
theorem ggX4_setLimit_X4_makeRoom : GoodIn wsX4_setLimit wsX4_makeRoom := goodIn_r _ [6, 7, 8, 1, 9, 10, 11, 5, 12, 13, 14, 15, 16, 17, 18, 19, 20, 21, 22, 23, 24, 25, 26, 27, 28, 29, 30, 31, 32] (by decide +kernel) (by decide +kernel)
set_option maxRecDepth 20000 in
theorem gX4_setLimit_X4_makeRoom : GoodIn wsX4_setLimit (wsV RX4 31 RX4 yX4_makeRoom wsX4_makeRoom) := goodIn_app (goodIn_of _ (by decide +kernel)) ggX4_setLimit_X4_makeRoom
theorem dX4_setLimit_7 : decode cX4_setLimit 7 = .ok (.invokevirtual 31, 3) := by decide +kernel
set_option maxRecDepth 20000 in
theorem ggX4_put_X0_cost : GoodIn wsX4_put wsX0_cost := goodIn_r _ [9, 10, 11, 30, 31, 32] (by decide +kernel) (by decide +kernel)
set_option maxRecDepth 20000 in
theorem gX4_put_X0_cost : GoodIn wsX4_put (wsV RX4 35 RX0 yX0_cost wsX0_cost) := goodIn_app (goodIn_of _ (by decide +kernel)) ggX4_put_X0_cost
set_option maxRecDepth 20000 in
theorem ggX4_put_X4_makeRoom : GoodIn wsX4_put wsX4_makeRoom := goodIn_r _ [16, 2, 4, 1, 17, 18, 19, 15, 20, 21, 22, 23, 24, 3, 5, 6, 7, 8, 9, 10, 11, 25, 26, 27, 28, 29, 30, 31, 32] (by decide +kernel) (by decide +kernel)
set_option maxRecDepth 20000 in
theorem gX4_put_X4_makeRoom : GoodIn wsX4_put (wsV RX4 31 RX4 yX4_makeRoom wsX4_makeRoom) := goodIn_app (goodIn_of _ (by decide +kernel)) ggX4_put_X4_makeRoom
theorem dX4_put_1 : decode cX4_put 1 = .ok (.invokevirtual 35, 3) := by decide +kernel
theorem dX4_put_7 : decode cX4_put 7 = .ok (.invokevirtual 31, 3) := by decide +kernel
set_option maxRecDepth 20000 in
theorem ggX4_makeRoom_X4_costAt : GoodIn wsX4_makeRoom wsX4_costAt := goodIn_r _ [8, 9, 10, 11, 7, 12, 1, 13, 14, 15, 16, 17, 18, 19, 20, 21, 22, 23, 24, 25, 26, 27, 28] (by decide +kernel) (by decide +kernel)
set_option maxRecDepth 20000 in
theorem gX4_makeRoom_X4_costAt : GoodIn wsX4_makeRoom (wsV RX4 39 RX4 yX4_costAt wsX4_costAt) := goodIn_app (goodIn_of _ (by decide +kernel)) ggX4_makeRoom_X4_costAt
theorem dX4_makeRoom_32 : decode cX4_makeRoom 32 = .ok (.invokevirtual 39, 3) := by decide +kernel
set_option maxRecDepth 20000 in
theorem ggX4_costAt_X4_at : GoodIn wsX4_costAt wsX4_at := goodIn_r _ [5, 6, 7, 15, 16, 17, 18, 19] (by decide +kernel) (by decide +kernel)
set_option maxRecDepth 20000 in
theorem gX4_costAt_X4_at : GoodIn wsX4_costAt (wsV RX4 43 RX4 yX4_at wsX4_at) := goodIn_app (goodIn_of _ (by decide +kernel)) ggX4_costAt_X4_at
set_option maxRecDepth 20000 in
theorem ggX4_costAt_X0_cost : GoodIn wsX4_costAt wsX0_cost := goodIn_r _ [12, 13, 14, 20, 21, 22] (by decide +kernel) (by decide +kernel)
set_option maxRecDepth 20000 in
theorem gX4_costAt_X0_cost : GoodIn wsX4_costAt (wsV RX4 35 RX0 yX0_cost wsX0_cost) := goodIn_app (goodIn_of _ (by decide +kernel)) ggX4_costAt_X0_cost
theorem dX4_costAt_2 : decode cX4_costAt 2 = .ok (.invokevirtual 43, 3) := by decide +kernel
theorem dX4_costAt_15 : decode cX4_costAt 15 = .ok (.invokevirtual 35, 3) := by decide +kernel
set_option maxRecDepth 20000 in
theorem ggX4_atPlace_X1_at : GoodIn wsX4_atPlace wsX1_at := goodIn_r _ [7, 8, 9, 22, 23] (by decide +kernel) (by decide +kernel)
set_option maxRecDepth 20000 in
theorem gX4_atPlace_X1_at : GoodIn wsX4_atPlace (wsV RX4 50 RX1 yX1_at wsX1_at) := goodIn_app (goodIn_of _ (by decide +kernel)) ggX4_atPlace_X1_at
set_option maxRecDepth 20000 in
theorem ggX4_atPlace_X4_at : GoodIn wsX4_atPlace wsX4_at := goodIn_r _ [14, 15, 16, 17, 18, 19, 20, 21] (by decide +kernel) (by decide +kernel)
set_option maxRecDepth 20000 in
theorem gX4_atPlace_X4_at : GoodIn wsX4_atPlace (wsV RX4 43 RX4 yX4_at wsX4_at) := goodIn_app (goodIn_of _ (by decide +kernel)) ggX4_atPlace_X4_at
theorem dX4_atPlace_18 : decode cX4_atPlace 18 = .ok (.invokevirtual 50, 3) := by decide +kernel
theorem dX4_atPlace_36 : decode cX4_atPlace 36 = .ok (.invokevirtual 43, 3) := by decide +kernel
set_option maxRecDepth 20000 in
theorem ggX4_placeOfName_X4_atPlace : GoodIn wsX4_placeOfName wsX4_atPlace := goodIn_r _ [9, 1, 2, 10, 11, 12, 13, 14, 15, 16, 17, 18, 19, 8, 20, 3, 21, 25, 26, 27, 28, 29, 30, 31] (by decide +kernel) (by decide +kernel)
set_option maxRecDepth 20000 in
theorem gX4_placeOfName_X4_atPlace : GoodIn wsX4_placeOfName (wsV RX4 51 RX4 yX4_atPlace wsX4_atPlace) := goodIn_app (goodIn_of _ (by decide +kernel)) ggX4_placeOfName_X4_atPlace
set_option maxRecDepth 20000 in
theorem ggX4_placeOfName_X6_isSameText : GoodIn wsX4_placeOfName wsX6_isSameText := goodIn_r _ [24] (by decide +kernel) (by decide +kernel)
set_option maxRecDepth 20000 in
theorem gX4_placeOfName_X6_isSameText_n58 : GoodIn wsX4_placeOfName (wsX6_isSameText) := ggX4_placeOfName_X6_isSameText
theorem dX4_placeOfName_20 : decode cX4_placeOfName 20 = .ok (.invokevirtual 51, 3) := by decide +kernel
theorem dX4_placeOfName_33 : decode cX4_placeOfName 33 = .ok (.invokestatic 58, 3) := by decide +kernel
set_option maxRecDepth 20000 in
theorem ggX4_placeOfWhole_X4_atPlace : GoodIn wsX4_placeOfWhole wsX4_atPlace := goodIn_r _ [10, 1, 2, 11, 12, 13, 14, 15, 16, 17, 18, 19, 20, 9, 21, 3, 22, 33, 34, 35, 36, 37, 38, 39] (by decide +kernel) (by decide +kernel)
set_option maxRecDepth 20000 in
theorem gX4_placeOfWhole_X4_atPlace : GoodIn wsX4_placeOfWhole (wsV RX4 51 RX4 yX4_atPlace wsX4_atPlace) := goodIn_app (goodIn_of _ (by decide +kernel)) ggX4_placeOfWhole_X4_atPlace
set_option maxRecDepth 20000 in
theorem ggX4_placeOfWhole_X0_isLike : GoodIn wsX4_placeOfWhole wsX0_isLike := goodIn_r _ [27, 28, 29, 30, 31, 32, 40, 41, 42] (by decide +kernel) (by decide +kernel)
set_option maxRecDepth 20000 in
theorem gX4_placeOfWhole_X0_isLike : GoodIn wsX4_placeOfWhole (wsV RX4 65 RX0 yX0_isLike wsX0_isLike) := goodIn_app (goodIn_of _ (by decide +kernel)) ggX4_placeOfWhole_X0_isLike
theorem dX4_placeOfWhole_20 : decode cX4_placeOfWhole 20 = .ok (.invokevirtual 51, 3) := by decide +kernel
theorem dX4_placeOfWhole_37 : decode cX4_placeOfWhole 37 = .ok (.invokevirtual 65, 3) := by decide +kernel
set_option maxRecDepth 20000 in
theorem ggX4_isSound_X4_costAt : GoodIn wsX4_isSound wsX4_costAt := goodIn_r _ [8, 9, 10, 11, 7, 12, 1, 13, 14, 15, 16, 17, 18, 19, 20, 21, 22, 23, 24, 25, 26, 27, 28] (by decide +kernel) (by decide +kernel)
set_option maxRecDepth 20000 in
theorem gX4_isSound_X4_costAt : GoodIn wsX4_isSound (wsV RX4 39 RX4 yX4_costAt wsX4_costAt) := goodIn_app (goodIn_of _ (by decide +kernel)) ggX4_isSound_X4_costAt
theorem dX4_isSound_15 : decode cX4_isSound 15 = .ok (.invokevirtual 39, 3) := by decide +kernel
set_option maxRecDepth 20000 in
theorem ggX5_init_X1_init : GoodIn wsX5_init wsX1_init := goodIn_r _ [19, 20, 2, 3, 21, 22, 23, 34, 35] (by decide +kernel) (by decide +kernel)
set_option maxRecDepth 20000 in
theorem gX5_init_X1_init : GoodIn wsX5_init (wsX1_init) := ggX5_init_X1_init
set_option maxRecDepth 20000 in
theorem ggX5_init_X4_init : GoodIn wsX5_init wsX4_init := goodIn_r _ [26, 27, 2, 3, 28, 29, 30, 31, 32, 33, 42, 43, 44, 45, 46] (by decide +kernel) (by decide +kernel)
set_option maxRecDepth 20000 in
theorem gX5_init_X4_init : GoodIn wsX5_init (wsX4_init) := ggX5_init_X4_init
theorem dX5_init_1 : decode cX5_init 1 = .ok (.invokespecial 3, 3) := by decide +kernel
theorem dX5_init_11 : decode cX5_init 11 = .ok (.invokespecial 11, 3) := by decide +kernel
theorem dX5_init_47 : decode cX5_init 47 = .ok (.invokespecial 37, 3) := by decide +kernel
set_option maxRecDepth 20000 in
theorem ggX5_readBlock_X1_clear : GoodIn wsX5_readBlock wsX1_clear := goodIn_r _ [11, 12, 205, 206] (by decide +kernel) (by decide +kernel)
set_option maxRecDepth 20000 in
theorem gX5_readBlock_X1_clear : GoodIn wsX5_readBlock (wsV RX5 44 RX1 yX1_clear wsX1_clear) := goodIn_app (goodIn_of _ (by decide +kernel)) ggX5_readBlock_X1_clear
set_option maxRecDepth 20000 in
theorem ggX5_readBlock_X4_become : GoodIn wsX5_readBlock wsX4_become := goodIn_r _ [17, 18, 19, 20, 21, 207, 208, 209, 210, 211] (by decide +kernel) (by decide +kernel)
set_option maxRecDepth 20000 in
theorem gX5_readBlock_X4_become : GoodIn wsX5_readBlock (wsV RX5 47 RX4 yX4_become wsX4_become) := goodIn_app (goodIn_of _ (by decide +kernel)) ggX5_readBlock_X4_become
set_option maxRecDepth 20000 in
theorem ggX5_readBlock_X3_at : GoodIn wsX5_readBlock wsX3_at := goodIn_r _ [26, 27, 28, 201, 202, 203, 204] (by decide +kernel) (by decide +kernel)
set_option maxRecDepth 20000 in
theorem gX5_readBlock_X3_at : GoodIn wsX5_readBlock (wsV RX5 56 RX3 yX3_at wsX3_at) := goodIn_app (goodIn_of _ (by decide +kernel)) ggX5_readBlock_X3_at
set_option maxRecDepth 20000 in
theorem ggX5_readBlock_X5_readLimit : GoodIn wsX5_readBlock wsX5_readLimit := goodIn_r _ [33, 2, 3, 34, 4, 35, 36, 37, 32, 38, 1, 5, 6, 39, 22, 23, 24, 25, 26, 27, 28, 40, 41, 42, 16, 43, 21, 44, 45, 46, 47, 18, 20, 48, 49, 50, 51, 52, 53, 54, 55, 19, 56, 57, 58, 59, 60, 61, 62, 195, 196, 197, 198, 199, 200, 205, 206, 201, 202, 203, 204, 207, 208, 209, 210, 211, 212, 213, 214] (by decide +kernel) (by decide +kernel)
set_option maxRecDepth 20000 in
theorem gX5_readBlock_X5_readLimit : GoodIn wsX5_readBlock (wsV RX5 59 RX5 yX5_readLimit wsX5_readLimit) := goodIn_app (goodIn_of _ (by decide +kernel)) ggX5_readBlock_X5_readLimit
set_option maxRecDepth 20000 in
theorem ggX5_readBlock_X1_isFull : GoodIn wsX5_readBlock wsX1_isFull := goodIn_r _ [66, 12, 67, 205, 206] (by decide +kernel) (by decide +kernel)
set_option maxRecDepth 20000 in
theorem gX5_readBlock_X1_isFull : GoodIn wsX5_readBlock (wsV RX5 62 RX1 yX1_isFull wsX1_isFull) := goodIn_app (goodIn_of _ (by decide +kernel)) ggX5_readBlock_X1_isFull
set_option maxRecDepth 20000 in
theorem ggX5_readBlock_X5_readWhole : GoodIn wsX5_readBlock wsX5_readWhole := goodIn_r _ [71, 3, 35, 36, 37, 32, 38, 1, 5, 6, 2, 39, 22, 23, 24, 25, 26, 27, 28, 72, 73, 74, 75, 4, 76, 77, 78, 16, 79, 80, 81, 82, 83, 84, 10, 85, 12, 67, 52, 53, 54, 55, 18, 19, 86, 87, 88, 89, 195, 196, 197, 198, 199, 200, 201, 202, 203, 204, 207, 208, 209, 210, 211, 205, 206] (by decide +kernel) (by decide +kernel)
set_option maxRecDepth 20000 in
theorem gX5_readBlock_X5_readWhole : GoodIn wsX5_readBlock (wsV RX5 66 RX5 yX5_readWhole wsX5_readWhole) := goodIn_app (goodIn_of _ (by decide +kernel)) ggX5_readBlock_X5_readWhole
set_option maxRecDepth 20000 in
theorem ggX5_readBlock_X5_readTexts : GoodIn wsX5_readBlock wsX5_readTexts := goodIn_r _ [93, 2, 94, 95, 59, 3, 4, 35, 36, 37, 32, 38, 1, 5, 6, 39, 22, 23, 24, 25, 26, 27, 28, 96, 97, 98, 99, 100, 101, 102, 103, 104, 105, 106, 107, 108, 109, 110, 111, 112, 113, 114, 115, 116, 117, 118, 119, 120, 121, 122, 123, 124, 125, 126, 127, 128, 129, 130, 131, 132, 133, 134, 135, 136, 137, 138, 139, 140, 141, 142, 143, 144, 145, 146, 147, 148, 149, 150, 151, 152, 153, 154, 155, 156, 157, 158, 159, 160, 161, 162, 163, 164, 165, 166, 167, 168, 169, 170, 171, 172, 173, 174, 175, 176, 177, 178, 179, 180, 181, 182, 183, 72, 73, 74, 75, 76, 77, 78, 16, 79, 80, 81, 82, 83, 84, 10, 85, 12, 67, 52, 53, 54, 55, 18, 19, 184, 185, 186, 187, 188, 189, 61, 62, 190, 86, 87, 88, 89, 191, 192, 193, 194, 21, 20, 56, 57, 58, 60, 44, 45, 46, 47, 48, 49, 50, 51, 195, 196, 197, 198, 199, 200, 212, 213, 214, 201, 202, 203, 204, 207, 208, 209, 210, 211, 205, 206] (by decide +kernel) (by decide +kernel)
set_option maxRecDepth 20000 in
theorem gX5_readBlock_X5_readTexts : GoodIn wsX5_readBlock (wsV RX5 69 RX5 yX5_readTexts wsX5_readTexts) := goodIn_app (goodIn_of _ (by decide +kernel)) ggX5_readBlock_X5_readTexts
theorem dX5_readBlock_14 : decode cX5_readBlock 14 = .ok (.invokevirtual 44, 3) := by decide +kernel
theorem dX5_readBlock_22 : decode cX5_readBlock 22 = .ok (.invokevirtual 47, 3) := by decide +kernel
theorem dX5_readBlock_63 : decode cX5_readBlock 63 = .ok (.invokevirtual 56, 3) := by decide +kernel
theorem dX5_readBlock_80 : decode cX5_readBlock 80 = .ok (.invokevirtual 59, 3) := by decide +kernel
theorem dX5_readBlock_90 : decode cX5_readBlock 90 = .ok (.invokevirtual 62, 3) := by decide +kernel
theorem dX5_readBlock_113 : decode cX5_readBlock 113 = .ok (.invokevirtual 66, 3) := by decide +kernel
theorem dX5_readBlock_121 : decode cX5_readBlock 121 = .ok (.invokevirtual 69, 3) := by decide +kernel
set_option maxRecDepth 20000 in
theorem ggX5_readLimit_X5_readNumber : GoodIn wsX5_readLimit wsX5_readNumber := goodIn_r _ [9, 10, 11, 12, 1, 13, 14, 15, 16, 17, 18, 19, 20, 49, 50, 51, 52, 53, 54, 57, 58, 59, 60] (by decide +kernel) (by decide +kernel)
set_option maxRecDepth 20000 in
theorem gX5_readLimit_X5_readNumber : GoodIn wsX5_readLimit (wsV RX5 72 RX5 yX5_readNumber wsX5_readNumber) := goodIn_app (goodIn_of _ (by decide +kernel)) ggX5_readLimit_X5_readNumber
set_option maxRecDepth 20000 in
theorem ggX5_readLimit_X4_setLimit : GoodIn wsX5_readLimit wsX4_setLimit := goodIn_r _ [25, 26, 27, 28, 29, 24, 30, 31, 32, 33, 34, 35, 36, 37, 38, 39, 40, 41, 42, 43, 44, 45, 46, 47, 48, 61, 62, 63, 64, 65, 66, 67, 68] (by decide +kernel) (by decide +kernel)
set_option maxRecDepth 20000 in
theorem gX5_readLimit_X4_setLimit : GoodIn wsX5_readLimit (wsV RX5 76 RX4 yX4_setLimit wsX4_setLimit) := goodIn_app (goodIn_of _ (by decide +kernel)) ggX5_readLimit_X4_setLimit
theorem dX5_readLimit_2 : decode cX5_readLimit 2 = .ok (.invokevirtual 72, 3) := by decide +kernel
theorem dX5_readLimit_42 : decode cX5_readLimit 42 = .ok (.invokevirtual 76, 3) := by decide +kernel
set_option maxRecDepth 20000 in
theorem ggX5_readWhole_X5_readNumber : GoodIn wsX5_readWhole wsX5_readNumber := goodIn_r _ [6, 7, 8, 9, 10, 11, 12, 13, 14, 15, 16, 17, 18, 48, 49, 50, 51, 52, 53, 54, 55, 56, 57] (by decide +kernel) (by decide +kernel)
set_option maxRecDepth 20000 in
theorem gX5_readWhole_X5_readNumber : GoodIn wsX5_readWhole (wsV RX5 72 RX5 yX5_readNumber wsX5_readNumber) := goodIn_app (goodIn_of _ (by decide +kernel)) ggX5_readWhole_X5_readNumber
set_option maxRecDepth 20000 in
theorem ggX5_readWhole_X5_entryAt : GoodIn wsX5_readWhole wsX5_entryAt := goodIn_r _ [22, 10, 23, 24, 25, 26, 27, 28, 29, 30, 31, 32, 33, 34, 35, 36, 37, 38, 39, 40, 41, 42, 43, 48, 49, 50, 51, 52, 53, 58, 59, 60, 61, 62, 63, 64] (by decide +kernel) (by decide +kernel)
set_option maxRecDepth 20000 in
theorem gX5_readWhole_X5_entryAt : GoodIn wsX5_readWhole (wsV RX5 79 RX5 yX5_entryAt wsX5_entryAt) := goodIn_app (goodIn_of _ (by decide +kernel)) ggX5_readWhole_X5_entryAt
set_option maxRecDepth 20000 in
theorem ggX5_readWhole_X1_add : GoodIn wsX5_readWhole wsX1_add := goodIn_r _ [47, 36, 37, 63, 64] (by decide +kernel) (by decide +kernel)
set_option maxRecDepth 20000 in
theorem gX5_readWhole_X1_add : GoodIn wsX5_readWhole (wsV RX5 83 RX1 yX1_add wsX1_add) := goodIn_app (goodIn_of _ (by decide +kernel)) ggX5_readWhole_X1_add
theorem dX5_readWhole_4 : decode cX5_readWhole 4 = .ok (.invokevirtual 72, 3) := by decide +kernel
theorem dX5_readWhole_7 : decode cX5_readWhole 7 = .ok (.invokevirtual 79, 3) := by decide +kernel
theorem dX5_readWhole_20 : decode cX5_readWhole 20 = .ok (.invokevirtual 83, 3) := by decide +kernel
set_option maxRecDepth 20000 in
theorem ggX5_readTexts_X5_readNumber : GoodIn wsX5_readTexts wsX5_readNumber := goodIn_r _ [11, 12, 13, 14, 1, 15, 16, 17, 18, 19, 20, 21, 22, 166, 167, 168, 169, 170, 171, 175, 176, 177, 178] (by decide +kernel) (by decide +kernel)
set_option maxRecDepth 20000 in
theorem gX5_readTexts_X5_readNumber : GoodIn wsX5_readTexts (wsV RX5 72 RX5 yX5_readNumber wsX5_readNumber) := goodIn_app (goodIn_of _ (by decide +kernel)) ggX5_readTexts_X5_readNumber
set_option maxRecDepth 20000 in
theorem ggX5_readTexts_X5_readText : GoodIn wsX5_readTexts wsX5_readText := goodIn_r _ [26, 13, 12, 1, 14, 27, 16, 17, 18, 19, 20, 21, 22, 7, 8, 9, 10, 11, 15, 28, 29, 30, 31, 32, 33, 34, 35, 36, 37, 38, 39, 40, 41, 42, 43, 44, 45, 46, 47, 48, 49, 50, 51, 52, 53, 54, 55, 56, 57, 58, 59, 60, 61, 62, 63, 64, 65, 66, 67, 68, 69, 70, 71, 72, 73, 74, 75, 76, 77, 78, 79, 80, 81, 82, 83, 84, 85, 86, 87, 88, 89, 90, 91, 92, 93, 94, 95, 96, 97, 98, 99, 100, 101, 102, 103, 104, 105, 166, 167, 168, 169, 170, 171, 175, 176, 177, 178] (by decide +kernel) (by decide +kernel)
set_option maxRecDepth 20000 in
theorem gX5_readTexts_X5_readText : GoodIn wsX5_readTexts (wsV RX5 87 RX5 yX5_readText wsX5_readText) := goodIn_app (goodIn_of _ (by decide +kernel)) ggX5_readTexts_X5_readText
set_option maxRecDepth 20000 in
theorem ggX5_readTexts_X5_nameAt : GoodIn wsX5_readTexts wsX5_nameAt := goodIn_r _ [109, 110, 111, 112, 113, 10, 114, 1, 6, 115, 116, 117, 118, 119, 120, 121, 122, 123, 124, 125, 126, 127, 128, 129, 130, 131, 132, 133, 134, 172, 173, 174, 166, 167, 168, 169, 170, 171, 179, 180, 181, 182, 183, 184, 185] (by decide +kernel) (by decide +kernel)
set_option maxRecDepth 20000 in
theorem gX5_readTexts_X5_nameAt : GoodIn wsX5_readTexts (wsV RX5 91 RX5 yX5_nameAt wsX5_nameAt) := goodIn_app (goodIn_of _ (by decide +kernel)) ggX5_readTexts_X5_nameAt
set_option maxRecDepth 20000 in
theorem ggX5_readTexts_X0_init : GoodIn wsX5_readTexts wsX0_init := goodIn_r _ [137, 138, 139, 140, 141, 142, 143, 172, 173, 174] (by decide +kernel) (by decide +kernel)
set_option maxRecDepth 20000 in
theorem gX5_readTexts_X0_init : GoodIn wsX5_readTexts (wsX0_init) := ggX5_readTexts_X0_init
set_option maxRecDepth 20000 in
theorem ggX5_readTexts_X1_add : GoodIn wsX5_readTexts wsX1_add := goodIn_r _ [147, 127, 128, 184, 185] (by decide +kernel) (by decide +kernel)
set_option maxRecDepth 20000 in
theorem gX5_readTexts_X1_add : GoodIn wsX5_readTexts (wsV RX5 83 RX1 yX1_add wsX1_add) := goodIn_app (goodIn_of _ (by decide +kernel)) ggX5_readTexts_X1_add
set_option maxRecDepth 20000 in
theorem ggX5_readTexts_X4_put : GoodIn wsX5_readTexts wsX4_put := goodIn_r _ [151, 152, 133, 134, 153, 154, 155, 156, 4, 157, 141, 142, 158, 159, 160, 118, 161, 162, 163, 164, 165, 129, 130, 131, 132, 179, 180, 181, 182, 183, 172, 173, 174] (by decide +kernel) (by decide +kernel)
set_option maxRecDepth 20000 in
theorem gX5_readTexts_X4_put : GoodIn wsX5_readTexts (wsV RX5 100 RX4 yX4_put wsX4_put) := goodIn_app (goodIn_of _ (by decide +kernel)) ggX5_readTexts_X4_put
theorem dX5_readTexts_23 : decode cX5_readTexts 23 = .ok (.invokevirtual 72, 3) := by decide +kernel
theorem dX5_readTexts_40 : decode cX5_readTexts 40 = .ok (.invokevirtual 87, 3) := by decide +kernel
theorem dX5_readTexts_48 : decode cX5_readTexts 48 = .ok (.invokevirtual 91, 3) := by decide +kernel
theorem dX5_readTexts_63 : decode cX5_readTexts 63 = .ok (.invokevirtual 87, 3) := by decide +kernel
theorem dX5_readTexts_97 : decode cX5_readTexts 97 = .ok (.invokespecial 97, 3) := by decide +kernel
theorem dX5_readTexts_108 : decode cX5_readTexts 108 = .ok (.invokevirtual 83, 3) := by decide +kernel
theorem dX5_readTexts_121 : decode cX5_readTexts 121 = .ok (.invokevirtual 100, 3) := by decide +kernel
set_option maxRecDepth 20000 in
theorem ggX5_nameAt_X5_entryAt : GoodIn wsX5_nameAt wsX5_entryAt := goodIn_r _ [6, 7, 8, 9, 10, 11, 12, 13, 14, 15, 16, 17, 18, 19, 20, 21, 22, 23, 24, 25, 26, 27, 28, 32, 33, 34, 35, 36, 37, 38, 39, 40, 41, 42, 43, 44] (by decide +kernel) (by decide +kernel)
set_option maxRecDepth 20000 in
theorem gX5_nameAt_X5_entryAt : GoodIn wsX5_nameAt (wsV RX5 79 RX5 yX5_entryAt wsX5_entryAt) := goodIn_app (goodIn_of _ (by decide +kernel)) ggX5_nameAt_X5_entryAt
theorem dX5_nameAt_2 : decode cX5_nameAt 2 = .ok (.invokevirtual 79, 3) := by decide +kernel
set_option maxRecDepth 20000 in
theorem ggX5_entryAt_X4_atPlace : GoodIn wsX5_entryAt wsX4_atPlace := goodIn_r _ [7, 8, 9, 10, 11, 12, 13, 14, 15, 16, 17, 18, 19, 6, 20, 21, 22, 29, 30, 31, 32, 33, 34, 35] (by decide +kernel) (by decide +kernel)
set_option maxRecDepth 20000 in
theorem gX5_entryAt_X4_atPlace : GoodIn wsX5_entryAt (wsV RX5 106 RX4 yX4_atPlace wsX4_atPlace) := goodIn_app (goodIn_of _ (by decide +kernel)) ggX5_entryAt_X4_atPlace
theorem dX5_entryAt_14 : decode cX5_entryAt 14 = .ok (.invokevirtual 106, 3) := by decide +kernel
set_option maxRecDepth 20000 in
theorem ggX5_readNumber_X3_at : GoodIn wsX5_readNumber wsX3_at := goodIn_r _ [10, 11, 12, 19, 20, 21, 22] (by decide +kernel) (by decide +kernel)
set_option maxRecDepth 20000 in
theorem gX5_readNumber_X3_at : GoodIn wsX5_readNumber (wsV RX5 56 RX3 yX3_at wsX3_at) := goodIn_app (goodIn_of _ (by decide +kernel)) ggX5_readNumber_X3_at
theorem dX5_readNumber_35 : decode cX5_readNumber 35 = .ok (.invokevirtual 56, 3) := by decide +kernel
theorem dX5_readNumber_96 : decode cX5_readNumber 96 = .ok (.invokevirtual 56, 3) := by decide +kernel
set_option maxRecDepth 20000 in
theorem ggX5_readText_X3_at : GoodIn wsX5_readText wsX3_at := goodIn_r _ [10, 11, 12, 103, 104, 105, 106] (by decide +kernel) (by decide +kernel)
set_option maxRecDepth 20000 in
theorem gX5_readText_X3_at : GoodIn wsX5_readText (wsV RX5 56 RX3 yX3_at wsX3_at) := goodIn_app (goodIn_of _ (by decide +kernel)) ggX5_readText_X3_at
set_option maxRecDepth 20000 in
theorem ggX5_readText_X5_readNumber : GoodIn wsX5_readText wsX5_readNumber := goodIn_r _ [17, 2, 1, 4, 3, 18, 6, 7, 8, 9, 10, 11, 12, 97, 98, 99, 100, 101, 102, 103, 104, 105, 106] (by decide +kernel) (by decide +kernel)
set_option maxRecDepth 20000 in
theorem gX5_readText_X5_readNumber : GoodIn wsX5_readText (wsV RX5 72 RX5 yX5_readNumber wsX5_readNumber) := goodIn_app (goodIn_of _ (by decide +kernel)) ggX5_readText_X5_readNumber
set_option maxRecDepth 20000 in
theorem ggX5_readText_X5_loosen : GoodIn wsX5_readText wsX5_loosen := goodIn_r _ [22, 3, 23, 24, 25, 26, 16, 27, 2, 1, 6, 7, 8, 9, 10, 11, 12, 28, 29, 30, 31, 32, 33, 34, 35, 36, 37, 38, 39, 40, 41, 42, 43, 44, 45, 46, 47, 48, 49, 50, 51, 52, 53, 54, 55, 56, 57, 58, 59, 60, 61, 62, 63, 64, 65, 66, 67, 68, 69, 70, 71, 72, 73, 74, 75, 76, 77, 78, 79, 80, 81, 82, 83, 84, 85, 86, 87, 97, 98, 99, 100, 101, 102, 103, 104, 105, 106] (by decide +kernel) (by decide +kernel)
set_option maxRecDepth 20000 in
theorem gX5_readText_X5_loosen : GoodIn wsX5_readText (wsV RX5 110 RX5 yX5_loosen wsX5_loosen) := goodIn_app (goodIn_of _ (by decide +kernel)) ggX5_readText_X5_loosen
set_option maxRecDepth 20000 in
theorem ggX5_readText_J7_copyOfRange_feecc : GoodIn wsX5_readText wsJ7_copyOfRange_feecc := goodIn_r _ [90, 73, 74, 75, 76, 77, 78, 91, 92, 71, 93, 79, 80, 81, 82, 83, 84, 85, 86, 87, 94, 95, 96] (by decide +kernel) (by decide +kernel)
set_option maxRecDepth 20000 in
theorem gX5_readText_J7_copyOfRange_feecc : GoodIn wsX5_readText (va_wsS RX5 116 yJ7_copyOfRange_feecc wsJ7_copyOfRange_feecc) := goodIn_app (goodIn_of _ (by decide +kernel)) ggX5_readText_J7_copyOfRange_feecc
theorem dX5_readText_8 : decode cX5_readText 8 = .ok (.invokevirtual 56, 3) := by decide +kernel
theorem dX5_readText_26 : decode cX5_readText 26 = .ok (.invokevirtual 72, 3) := by decide +kernel
theorem dX5_readText_96 : decode cX5_readText 96 = .ok (.invokevirtual 110, 3) := by decide +kernel
theorem dX5_readText_119 : decode cX5_readText 119 = .ok (.invokestatic 116, 3) := by decide +kernel
set_option maxRecDepth 20000 in
theorem ggX5_loosen_X5_bitsBefore : GoodIn wsX5_loosen wsX5_bitsBefore := goodIn_r _ [7, 8, 9, 10, 11, 12, 13, 14, 15, 16, 77, 78, 79, 80, 81, 82, 83, 84, 85, 86] (by decide +kernel) (by decide +kernel)
set_option maxRecDepth 20000 in
theorem gX5_loosen_X5_bitsBefore : GoodIn wsX5_loosen (wsV RX5 122 RX5 yX5_bitsBefore wsX5_bitsBefore) := goodIn_app (goodIn_of _ (by decide +kernel)) ggX5_loosen_X5_bitsBefore
set_option maxRecDepth 20000 in
theorem ggX5_loosen_J0_charAt_5068e : GoodIn wsX5_loosen wsJ0_charAt_5068e := goodIn_r _ [21, 22, 23, 24, 25, 20, 26, 27, 28, 29, 30, 31, 32, 33, 34, 35, 36, 37, 38, 39, 40, 41, 42, 43, 44, 45, 46, 47, 48, 49, 50, 51, 52, 53, 54, 55, 56, 57] (by decide +kernel) (by decide +kernel)
set_option maxRecDepth 20000 in
theorem gX5_loosen_J0_charAt_5068e : GoodIn wsX5_loosen (wsV RX5 128 RJ0 yJ0_charAt_5068e wsJ0_charAt_5068e) := goodIn_app (goodIn_of _ (by decide +kernel)) ggX5_loosen_J0_charAt_5068e
set_option maxRecDepth 20000 in
theorem ggX5_loosen_J7_copyOf_59c91 : GoodIn wsX5_loosen wsJ7_copyOf_59c91 := goodIn_r _ [61, 62, 63, 64, 65, 66, 67, 68, 69, 70, 71, 72, 73, 74, 75, 76] (by decide +kernel) (by decide +kernel)
set_option maxRecDepth 20000 in
theorem gX5_loosen_J7_copyOf_59c91 : GoodIn wsX5_loosen (va_wsS RX5 134 yJ7_copyOf_59c91 wsJ7_copyOf_59c91) := goodIn_app (goodIn_of _ (by decide +kernel)) ggX5_loosen_J7_copyOf_59c91
theorem dX5_loosen_15 : decode cX5_loosen 15 = .ok (.invokevirtual 122, 3) := by decide +kernel
theorem dX5_loosen_68 : decode cX5_loosen 68 = .ok (.invokevirtual 122, 3) := by decide +kernel
theorem dX5_loosen_87 : decode cX5_loosen 87 = .ok (.invokevirtual 128, 3) := by decide +kernel
theorem dX5_loosen_109 : decode cX5_loosen 109 = .ok (.invokevirtual 122, 3) := by decide +kernel
theorem dX5_loosen_133 : decode cX5_loosen 133 = .ok (.invokestatic 134, 3) := by decide +kernel
set_option maxRecDepth 20000 in
theorem ggX5_bitsBefore_X3_at : GoodIn wsX5_bitsBefore wsX3_at := goodIn_r _ [7, 8, 9, 16, 17, 18, 19] (by decide +kernel) (by decide +kernel)
set_option maxRecDepth 20000 in
theorem gX5_bitsBefore_X3_at : GoodIn wsX5_bitsBefore (wsV RX5 56 RX3 yX3_at wsX3_at) := goodIn_app (goodIn_of _ (by decide +kernel)) ggX5_bitsBefore_X3_at
theorem dX5_bitsBefore_37 : decode cX5_bitsBefore 37 = .ok (.invokevirtual 56, 3) := by decide +kernel
set_option maxRecDepth 20000 in
theorem ggX6_init_X3_init : GoodIn wsX6_init wsX3_init := goodIn_r _ [38, 39, 2, 3, 28, 40, 41, 42, 43, 85, 86, 87, 88] (by decide +kernel) (by decide +kernel)
set_option maxRecDepth 20000 in
theorem gX6_init_X3_init : GoodIn wsX6_init (wsX3_init) := ggX6_init_X3_init
set_option maxRecDepth 20000 in
theorem ggX6_init_X1_init : GoodIn wsX6_init wsX1_init := goodIn_r _ [46, 47, 2, 3, 48, 49, 50, 105, 106] (by decide +kernel) (by decide +kernel)
set_option maxRecDepth 20000 in
theorem gX6_init_X1_init : GoodIn wsX6_init (wsX1_init) := ggX6_init_X1_init
set_option maxRecDepth 20000 in
theorem ggX6_init_X4_init : GoodIn wsX6_init wsX4_init := goodIn_r _ [53, 54, 2, 3, 55, 56, 57, 58, 59, 60, 107, 108, 109, 110, 111] (by decide +kernel) (by decide +kernel)
set_option maxRecDepth 20000 in
theorem gX6_init_X4_init : GoodIn wsX6_init (wsX4_init) := ggX6_init_X4_init
set_option maxRecDepth 20000 in
theorem ggX6_init_X2_init : GoodIn wsX6_init wsX2_init := goodIn_r _ [63, 64, 2, 3, 65, 5, 6, 66, 67, 16, 17, 68, 69, 37, 38, 39, 28, 40, 41, 42, 43, 70, 52, 53, 54, 55, 56, 57, 58, 59, 60, 85, 86, 87, 88, 112, 113, 107, 108, 109, 110, 111] (by decide +kernel) (by decide +kernel)
set_option maxRecDepth 20000 in
theorem gX6_init_X2_init : GoodIn wsX6_init (wsX2_init) := ggX6_init_X2_init
set_option maxRecDepth 20000 in
theorem ggX6_init_X5_init : GoodIn wsX6_init wsX5_init := goodIn_r _ [73, 74, 2, 3, 75, 11, 12, 76, 28, 77, 78, 79, 80, 81, 16, 17, 82, 83, 45, 46, 47, 48, 49, 50, 84, 52, 53, 54, 55, 56, 57, 58, 59, 60, 105, 106, 114, 115, 116, 117, 118, 119, 107, 108, 109, 110, 111] (by decide +kernel) (by decide +kernel)
set_option maxRecDepth 20000 in
theorem gX6_init_X5_init : GoodIn wsX6_init (wsX5_init) := ggX6_init_X5_init
theorem dX6_init_1 : decode cX6_init 1 = .ok (.invokespecial 1, 3) := by decide +kernel
theorem dX6_init_12 : decode cX6_init 12 = .ok (.invokespecial 11, 3) := by decide +kernel
theorem dX6_init_26 : decode cX6_init 26 = .ok (.invokespecial 11, 3) := by decide +kernel
theorem dX6_init_40 : decode cX6_init 40 = .ok (.invokespecial 11, 3) := by decide +kernel
theorem dX6_init_53 : decode cX6_init 53 = .ok (.invokespecial 26, 3) := by decide +kernel
theorem dX6_init_66 : decode cX6_init 66 = .ok (.invokespecial 26, 3) := by decide +kernel
theorem dX6_init_81 : decode cX6_init 81 = .ok (.invokespecial 36, 3) := by decide +kernel
theorem dX6_init_96 : decode cX6_init 96 = .ok (.invokespecial 36, 3) := by decide +kernel
theorem dX6_init_111 : decode cX6_init 111 = .ok (.invokespecial 48, 3) := by decide +kernel
theorem dX6_init_130 : decode cX6_init 130 = .ok (.invokespecial 55, 3) := by decide +kernel
set_option maxRecDepth 20000 in
theorem ggX6_type_X3_addLowest : GoodIn wsX6_type wsX3_addLowest := goodIn_r _ [6, 7, 8, 9, 10, 11, 5, 12, 13, 14, 15, 16, 17, 18, 19, 20, 21, 22, 23, 24, 25, 26, 27, 28, 29, 30, 31, 32, 33, 34, 51, 52, 53, 54] (by decide +kernel) (by decide +kernel)
set_option maxRecDepth 20000 in
theorem gX6_type_X3_addLowest : GoodIn wsX6_type (wsV RX6 86 RX3 yX3_addLowest wsX3_addLowest) := goodIn_app (goodIn_of _ (by decide +kernel)) ggX6_type_X3_addLowest
theorem dX6_type_6 : decode cX6_type 6 = .ok (.invokevirtual 86, 3) := by decide +kernel
set_option maxRecDepth 20000 in
theorem ggX6_name_X3_takeAll : GoodIn wsX6_name wsX3_takeAll := goodIn_r _ [7, 8, 9, 10, 11, 12, 13, 14, 15, 16, 17, 18, 19, 20, 21, 22, 23, 24, 25, 26, 27, 28, 29, 30, 31, 6, 32, 33, 50, 51, 52, 53] (by decide +kernel) (by decide +kernel)
set_option maxRecDepth 20000 in
theorem gX6_name_X3_takeAll : GoodIn wsX6_name (wsV RX6 90 RX3 yX3_takeAll wsX3_takeAll) := goodIn_app (goodIn_of _ (by decide +kernel)) ggX6_name_X3_takeAll
theorem dX6_name_5 : decode cX6_name 5 = .ok (.invokevirtual 90, 3) := by decide +kernel
set_option maxRecDepth 20000 in
theorem ggX6_fixed_X1_isFull : GoodIn wsX6_fixed wsX1_isFull := goodIn_r _ [13, 14, 15, 79, 80] (by decide +kernel) (by decide +kernel)
set_option maxRecDepth 20000 in
theorem gX6_fixed_X1_isFull : GoodIn wsX6_fixed (wsV RX6 94 RX1 yX1_isFull wsX1_isFull) := goodIn_app (goodIn_of _ (by decide +kernel)) ggX6_fixed_X1_isFull
set_option maxRecDepth 20000 in
theorem ggX6_fixed_X3_takeAll : GoodIn wsX6_fixed wsX3_takeAll := goodIn_r _ [20, 21, 22, 23, 24, 25, 26, 27, 28, 29, 30, 31, 32, 33, 34, 35, 36, 37, 38, 39, 40, 41, 42, 43, 44, 19, 45, 46, 81, 82, 83, 84] (by decide +kernel) (by decide +kernel)
set_option maxRecDepth 20000 in
theorem gX6_fixed_X3_takeAll : GoodIn wsX6_fixed (wsV RX6 90 RX3 yX3_takeAll wsX3_takeAll) := goodIn_app (goodIn_of _ (by decide +kernel)) ggX6_fixed_X3_takeAll
set_option maxRecDepth 20000 in
theorem ggX6_fixed_X0_init : GoodIn wsX6_fixed wsX0_init := goodIn_r _ [49, 50, 51, 52, 53, 54, 55, 76, 77, 78] (by decide +kernel) (by decide +kernel)
set_option maxRecDepth 20000 in
theorem gX6_fixed_X0_init : GoodIn wsX6_fixed (wsX0_init) := ggX6_fixed_X0_init
set_option maxRecDepth 20000 in
theorem ggX6_fixed_X1_add : GoodIn wsX6_fixed wsX1_add := goodIn_r _ [59, 14, 15, 79, 80] (by decide +kernel) (by decide +kernel)
set_option maxRecDepth 20000 in
theorem gX6_fixed_X1_add : GoodIn wsX6_fixed (wsV RX6 103 RX1 yX1_add wsX1_add) := goodIn_app (goodIn_of _ (by decide +kernel)) ggX6_fixed_X1_add
theorem dX6_fixed_11 : decode cX6_fixed 11 = .ok (.invokevirtual 94, 3) := by decide +kernel
theorem dX6_fixed_35 : decode cX6_fixed 35 = .ok (.invokevirtual 90, 3) := by decide +kernel
theorem dX6_fixed_39 : decode cX6_fixed 39 = .ok (.invokespecial 100, 3) := by decide +kernel
theorem dX6_fixed_42 : decode cX6_fixed 42 = .ok (.invokevirtual 103, 3) := by decide +kernel
set_option maxRecDepth 20000 in
theorem ggX6_field_X1_isFull : GoodIn wsX6_field wsX1_isFull := goodIn_r _ [12, 13, 14, 78, 79] (by decide +kernel) (by decide +kernel)
set_option maxRecDepth 20000 in
theorem gX6_field_X1_isFull : GoodIn wsX6_field (wsV RX6 94 RX1 yX1_isFull wsX1_isFull) := goodIn_app (goodIn_of _ (by decide +kernel)) ggX6_field_X1_isFull
set_option maxRecDepth 20000 in
theorem ggX6_field_X3_takeAll : GoodIn wsX6_field wsX3_takeAll := goodIn_r _ [19, 20, 21, 22, 23, 24, 25, 26, 27, 28, 29, 30, 31, 32, 33, 34, 35, 36, 37, 38, 39, 40, 41, 42, 43, 18, 44, 45, 80, 81, 82, 83] (by decide +kernel) (by decide +kernel)
set_option maxRecDepth 20000 in
theorem gX6_field_X3_takeAll : GoodIn wsX6_field (wsV RX6 90 RX3 yX3_takeAll wsX3_takeAll) := goodIn_app (goodIn_of _ (by decide +kernel)) ggX6_field_X3_takeAll
set_option maxRecDepth 20000 in
theorem ggX6_field_X0_init : GoodIn wsX6_field wsX0_init := goodIn_r _ [48, 49, 50, 51, 52, 53, 54, 75, 76, 77] (by decide +kernel) (by decide +kernel)
set_option maxRecDepth 20000 in
theorem gX6_field_X0_init : GoodIn wsX6_field (wsX0_init) := ggX6_field_X0_init
set_option maxRecDepth 20000 in
theorem ggX6_field_X1_add : GoodIn wsX6_field wsX1_add := goodIn_r _ [58, 13, 14, 78, 79] (by decide +kernel) (by decide +kernel)
set_option maxRecDepth 20000 in
theorem gX6_field_X1_add : GoodIn wsX6_field (wsV RX6 103 RX1 yX1_add wsX1_add) := goodIn_app (goodIn_of _ (by decide +kernel)) ggX6_field_X1_add
theorem dX6_field_13 : decode cX6_field 13 = .ok (.invokevirtual 94, 3) := by decide +kernel
theorem dX6_field_37 : decode cX6_field 37 = .ok (.invokevirtual 90, 3) := by decide +kernel
theorem dX6_field_50 : decode cX6_field 50 = .ok (.invokespecial 100, 3) := by decide +kernel
theorem dX6_field_53 : decode cX6_field 53 = .ok (.invokevirtual 103, 3) := by decide +kernel
set_option maxRecDepth 20000 in
theorem ggX6_drop_X1_clear : GoodIn wsX6_drop wsX1_clear := goodIn_r _ [7, 8, 25, 26] (by decide +kernel) (by decide +kernel)
set_option maxRecDepth 20000 in
theorem gX6_drop_X1_clear : GoodIn wsX6_drop (wsV RX6 110 RX1 yX1_clear wsX1_clear) := goodIn_app (goodIn_of _ (by decide +kernel)) ggX6_drop_X1_clear
theorem dX6_drop_12 : decode cX6_drop 12 = .ok (.invokevirtual 110, 3) := by decide +kernel
set_option maxRecDepth 20000 in
theorem ggX6_limit_X4_setLimit : GoodIn wsX6_limit wsX4_setLimit := goodIn_r _ [11, 12, 13, 14, 15, 10, 16, 17, 18, 19, 20, 21, 22, 23, 24, 25, 26, 27, 28, 29, 30, 31, 32, 33, 34, 51, 52, 53, 54, 55, 56, 57, 58] (by decide +kernel) (by decide +kernel)
set_option maxRecDepth 20000 in
theorem gX6_limit_X4_setLimit : GoodIn wsX6_limit (wsV RX6 113 RX4 yX4_setLimit wsX4_setLimit) := goodIn_app (goodIn_of _ (by decide +kernel)) ggX6_limit_X4_setLimit
theorem dX6_limit_18 : decode cX6_limit 18 = .ok (.invokevirtual 113, 3) := by decide +kernel
theorem dX6_limit_27 : decode cX6_limit 27 = .ok (.invokestatic 116, 3) := by decide +kernel
set_option maxRecDepth 20000 in
theorem ggX6_pack_X2_begin : GoodIn wsX6_pack wsX2_begin := goodIn_r _ [19, 20, 21, 22, 23, 24, 25, 26, 27, 28, 29, 30, 31, 32, 33, 34, 35, 36, 37, 262, 263, 264, 265, 266, 267, 268, 269, 270, 271, 272] (by decide +kernel) (by decide +kernel)
set_option maxRecDepth 20000 in
theorem gX6_pack_X2_begin : GoodIn wsX6_pack (wsV RX6 122 RX2 yX2_begin wsX2_begin) := goodIn_app (goodIn_of _ (by decide +kernel)) ggX6_pack_X2_begin
set_option maxRecDepth 20000 in
theorem ggX6_pack_X2_writeLimits : GoodIn wsX6_pack wsX2_writeLimits := goodIn_r _ [41, 21, 42, 43, 44, 45, 18, 46, 20, 47, 48, 49, 25, 50, 27, 51, 28, 52, 53, 54, 55, 56, 57, 58, 59, 60, 61, 62, 63, 64, 65, 66, 67, 68, 69, 70, 71, 72, 262, 263, 268, 269, 270, 271, 272, 264, 265, 266, 267] (by decide +kernel) (by decide +kernel)
set_option maxRecDepth 20000 in
theorem gX6_pack_X2_writeLimits : GoodIn wsX6_pack (wsV RX6 126 RX2 yX2_writeLimits wsX2_writeLimits) := goodIn_app (goodIn_of _ (by decide +kernel)) ggX6_pack_X2_writeLimits
set_option maxRecDepth 20000 in
theorem ggX6_pack_X1_at : GoodIn wsX6_pack wsX1_at := goodIn_r _ [77, 78, 79, 260, 261] (by decide +kernel) (by decide +kernel)
set_option maxRecDepth 20000 in
theorem gX6_pack_X1_at : GoodIn wsX6_pack (wsV RX6 130 RX1 yX1_at wsX1_at) := goodIn_app (goodIn_of _ (by decide +kernel)) ggX6_pack_X1_at
set_option maxRecDepth 20000 in
theorem ggX6_pack_X2_writeField : GoodIn wsX6_pack wsX2_writeField := goodIn_r _ [83, 84, 21, 42, 85, 86, 87, 18, 88, 89, 90, 91, 92, 93, 32, 94, 95, 96, 34, 97, 98, 99, 100, 101, 102, 74, 75, 76, 77, 78, 79, 103, 104, 105, 106, 35, 107, 108, 109, 43, 44, 45, 46, 20, 47, 48, 49, 25, 50, 27, 51, 28, 52, 53, 54, 55, 56, 57, 58, 59, 60, 61, 62, 63, 64, 65, 66, 67, 68, 69, 70, 71, 72, 110, 111, 112, 113, 114, 115, 116, 117, 118, 119, 120, 121, 122, 123, 124, 125, 126, 127, 128, 129, 130, 131, 132, 133, 134, 135, 136, 137, 138, 139, 140, 141, 142, 143, 144, 145, 146, 147, 148, 149, 150, 151, 152, 153, 154, 155, 156, 157, 158, 159, 160, 161, 162, 163, 164, 165, 166, 167, 168, 169, 170, 171, 172, 173, 174, 175, 176, 177, 178, 179, 180, 181, 182, 183, 184, 185, 186, 187, 188, 189, 190, 191, 192, 193, 194, 195, 196, 197, 198, 199, 200, 201, 202, 203, 204, 205, 206, 207, 208, 209, 210, 211, 212, 213, 214, 215, 216, 217, 218, 219, 220, 221, 222, 223, 224, 225, 226, 227, 37, 36, 228, 229, 230, 231, 232, 233, 234, 235, 236, 273, 274, 275, 262, 263, 268, 269, 270, 271, 272, 260, 261, 264, 265, 266, 267] (by decide +kernel) (by decide +kernel)
set_option maxRecDepth 20000 in
theorem gX6_pack_X2_writeField : GoodIn wsX6_pack (wsV RX6 134 RX2 yX2_writeField wsX2_writeField) := goodIn_app (goodIn_of _ (by decide +kernel)) ggX6_pack_X2_writeField
set_option maxRecDepth 20000 in
theorem ggX6_pack_X3_become : GoodIn wsX6_pack wsX3_become := goodIn_r _ [240, 27, 52, 241, 23, 24, 25, 26, 28, 242, 48, 49, 50, 51, 53, 54, 55, 56, 57, 58, 59, 60, 61, 62, 63, 64, 65, 66, 67, 68, 69, 70, 71, 72, 264, 265, 266, 267] (by decide +kernel) (by decide +kernel)
set_option maxRecDepth 20000 in
theorem gX6_pack_X3_become : GoodIn wsX6_pack (wsV RX6 143 RX3 yX3_become wsX3_become) := goodIn_app (goodIn_of _ (by decide +kernel)) ggX6_pack_X3_become
set_option maxRecDepth 20000 in
theorem ggX6_pack_X4_become : GoodIn wsX6_pack wsX4_become := goodIn_r _ [33, 34, 35, 36, 37, 268, 269, 270, 271, 272] (by decide +kernel) (by decide +kernel)
set_option maxRecDepth 20000 in
theorem gX6_pack_X4_become : GoodIn wsX6_pack (wsV RX6 150 RX4 yX4_become wsX4_become) := goodIn_app (goodIn_of _ (by decide +kernel)) ggX6_pack_X4_become
theorem dX6_pack_13 : decode cX6_pack 13 = .ok (.invokevirtual 122, 3) := by decide +kernel
theorem dX6_pack_28 : decode cX6_pack 28 = .ok (.invokevirtual 126, 3) := by decide +kernel
theorem dX6_pack_53 : decode cX6_pack 53 = .ok (.invokevirtual 130, 3) := by decide +kernel
theorem dX6_pack_56 : decode cX6_pack 56 = .ok (.invokevirtual 134, 3) := by decide +kernel
theorem dX6_pack_92 : decode cX6_pack 92 = .ok (.invokevirtual 143, 3) := by decide +kernel
theorem dX6_pack_106 : decode cX6_pack 106 = .ok (.invokevirtual 150, 3) := by decide +kernel
set_option maxRecDepth 20000 in
theorem ggX6_packed_X3_at : GoodIn wsX6_packed wsX3_at := goodIn_r _ [6, 7, 8, 25, 26, 27, 28] (by decide +kernel) (by decide +kernel)
set_option maxRecDepth 20000 in
theorem gX6_packed_X3_at : GoodIn wsX6_packed (wsV RX6 156 RX3 yX3_at wsX3_at) := goodIn_app (goodIn_of _ (by decide +kernel)) ggX6_packed_X3_at
theorem dX6_packed_5 : decode cX6_packed 5 = .ok (.invokevirtual 156, 3) := by decide +kernel
set_option maxRecDepth 20000 in
theorem ggX6_load_X3_addLowest : GoodIn wsX6_load wsX3_addLowest := goodIn_r _ [6, 7, 8, 9, 10, 11, 5, 12, 13, 14, 15, 16, 17, 18, 19, 20, 21, 22, 23, 24, 25, 26, 27, 28, 29, 30, 31, 32, 33, 34, 51, 52, 53, 54] (by decide +kernel) (by decide +kernel)
set_option maxRecDepth 20000 in
theorem gX6_load_X3_addLowest : GoodIn wsX6_load (wsV RX6 86 RX3 yX3_addLowest wsX3_addLowest) := goodIn_app (goodIn_of _ (by decide +kernel)) ggX6_load_X3_addLowest
theorem dX6_load_6 : decode cX6_load 6 = .ok (.invokevirtual 86, 3) := by decide +kernel
set_option maxRecDepth 20000 in
theorem ggX6_loop_X3_become : GoodIn wsX6_loop wsX3_become := goodIn_r _ [8, 9, 10, 11, 12, 13, 7, 14, 15, 16, 17, 18, 19, 20, 21, 22, 23, 24, 25, 26, 27, 28, 29, 30, 31, 32, 33, 34, 35, 36, 37, 38, 39, 40, 57, 58, 59, 60] (by decide +kernel) (by decide +kernel)
set_option maxRecDepth 20000 in
theorem gX6_loop_X3_become : GoodIn wsX6_loop (wsV RX6 143 RX3 yX3_become wsX3_become) := goodIn_app (goodIn_of _ (by decide +kernel)) ggX6_loop_X3_become
theorem dX6_loop_8 : decode cX6_loop 8 = .ok (.invokevirtual 143, 3) := by decide +kernel
set_option maxRecDepth 20000 in
theorem ggX6_unpack_X5_readBlock : GoodIn wsX6_unpack wsX5_readBlock := goodIn_r _ [15, 16, 17, 18, 19, 20, 21, 22, 23, 24, 25, 26, 27, 28, 29, 30, 31, 32, 33, 34, 35, 36, 37, 38, 39, 40, 41, 42, 43, 44, 45, 46, 14, 47, 48, 49, 50, 51, 52, 53, 54, 55, 56, 57, 58, 59, 60, 61, 62, 63, 64, 65, 66, 67, 68, 69, 70, 71, 72, 73, 74, 75, 76, 77, 78, 79, 80, 81, 82, 83, 84, 85, 86, 87, 88, 89, 90, 91, 92, 93, 94, 95, 96, 97, 98, 99, 100, 101, 102, 103, 104, 105, 106, 107, 108, 109, 110, 111, 112, 113, 114, 115, 116, 117, 118, 119, 120, 121, 122, 123, 124, 125, 126, 127, 128, 129, 130, 131, 132, 133, 134, 135, 136, 137, 138, 139, 140, 141, 142, 143, 144, 145, 146, 147, 148, 149, 150, 151, 152, 153, 154, 155, 156, 157, 158, 159, 160, 161, 162, 163, 164, 165, 166, 167, 168, 169, 170, 171, 172, 173, 174, 175, 176, 177, 178, 179, 180, 181, 182, 183, 184, 185, 186, 187, 188, 189, 190, 191, 192, 193, 194, 195, 196, 197, 198, 199, 200, 201, 202, 203, 204, 205, 206, 207, 208, 237, 238, 239, 240, 241, 242, 245, 246, 247, 248, 243, 244, 249, 250, 251, 252, 253, 254, 255, 256] (by decide +kernel) (by decide +kernel)
set_option maxRecDepth 20000 in
theorem gX6_unpack_X5_readBlock : GoodIn wsX6_unpack (wsV RX6 159 RX5 yX5_readBlock wsX5_readBlock) := goodIn_app (goodIn_of _ (by decide +kernel)) ggX6_unpack_X5_readBlock
set_option maxRecDepth 20000 in
theorem ggX6_unpack_X3_clear : GoodIn wsX6_unpack wsX3_clear := goodIn_r _ [212, 42, 213, 245, 246, 247, 248] (by decide +kernel) (by decide +kernel)
set_option maxRecDepth 20000 in
theorem gX6_unpack_X3_clear : GoodIn wsX6_unpack (wsV RX6 163 RX3 yX3_clear wsX3_clear) := goodIn_app (goodIn_of _ (by decide +kernel)) ggX6_unpack_X3_clear
set_option maxRecDepth 20000 in
theorem ggX6_unpack_X1_become : GoodIn wsX6_unpack wsX1_become := goodIn_r _ [217, 27, 81, 218, 23, 24, 25, 26, 219, 101, 102, 103, 243, 244] (by decide +kernel) (by decide +kernel)
set_option maxRecDepth 20000 in
theorem gX6_unpack_X1_become : GoodIn wsX6_unpack (wsV RX6 167 RX1 yX1_become wsX1_become) := goodIn_app (goodIn_of _ (by decide +kernel)) ggX6_unpack_X1_become
set_option maxRecDepth 20000 in
theorem ggX6_unpack_X4_become : GoodIn wsX6_unpack wsX4_become := goodIn_r _ [32, 33, 34, 35, 36, 249, 250, 251, 252, 253] (by decide +kernel) (by decide +kernel)
set_option maxRecDepth 20000 in
theorem gX6_unpack_X4_become : GoodIn wsX6_unpack (wsV RX6 150 RX4 yX4_become wsX4_become) := goodIn_app (goodIn_of _ (by decide +kernel)) ggX6_unpack_X4_become
theorem dX6_unpack_13 : decode cX6_unpack 13 = .ok (.invokevirtual 159, 3) := by decide +kernel
theorem dX6_unpack_21 : decode cX6_unpack 21 = .ok (.invokevirtual 163, 3) := by decide +kernel
theorem dX6_unpack_60 : decode cX6_unpack 60 = .ok (.invokevirtual 167, 3) := by decide +kernel
theorem dX6_unpack_74 : decode cX6_unpack 74 = .ok (.invokevirtual 150, 3) := by decide +kernel
set_option maxRecDepth 20000 in
theorem ggX6_about_X1_at : GoodIn wsX6_about wsX1_at := goodIn_r _ [9, 10, 11, 31, 32] (by decide +kernel) (by decide +kernel)
set_option maxRecDepth 20000 in
theorem gX6_about_X1_at : GoodIn wsX6_about (wsV RX6 130 RX1 yX1_at wsX1_at) := goodIn_app (goodIn_of _ (by decide +kernel)) ggX6_about_X1_at
theorem dX6_about_5 : decode cX6_about 5 = .ok (.invokevirtual 130, 3) := by decide +kernel
set_option maxRecDepth 20000 in
theorem ggX6_byteOf_X1_at : GoodIn wsX6_byteOf wsX1_at := goodIn_r _ [6, 7, 8, 31, 32] (by decide +kernel) (by decide +kernel)
set_option maxRecDepth 20000 in
theorem gX6_byteOf_X1_at : GoodIn wsX6_byteOf (wsV RX6 130 RX1 yX1_at wsX1_at) := goodIn_app (goodIn_of _ (by decide +kernel)) ggX6_byteOf_X1_at
set_option maxRecDepth 20000 in
theorem ggX6_byteOf_X6_byteIn : GoodIn wsX6_byteOf wsX6_byteIn := goodIn_r _ [12, 13, 14, 33, 34, 35] (by decide +kernel) (by decide +kernel)
set_option maxRecDepth 20000 in
theorem gX6_byteOf_X6_byteIn : GoodIn wsX6_byteOf (va_wsS RX6 179 yX6_byteIn wsX6_byteIn) := goodIn_app (goodIn_of _ (by decide +kernel)) ggX6_byteOf_X6_byteIn
theorem dX6_byteOf_5 : decode cX6_byteOf 5 = .ok (.invokevirtual 130, 3) := by decide +kernel
theorem dX6_byteOf_10 : decode cX6_byteOf 10 = .ok (.invokestatic 179, 3) := by decide +kernel
set_option maxRecDepth 20000 in
theorem ggX6_table_X6_tableOf : GoodIn wsX6_table wsX6_tableOf := goodIn_r _ [8, 9, 10, 16, 17, 18, 19, 20, 21, 22, 23, 24, 25, 26, 27, 28, 29, 30, 31] (by decide +kernel) (by decide +kernel)
set_option maxRecDepth 20000 in
theorem gX6_table_X6_tableOf : GoodIn wsX6_table (wsV RX6 183 RX6 yX6_tableOf wsX6_tableOf) := goodIn_app (goodIn_of _ (by decide +kernel)) ggX6_table_X6_tableOf
theorem dX6_table_2 : decode cX6_table 2 = .ok (.invokevirtual 183, 3) := by decide +kernel
set_option maxRecDepth 20000 in
theorem ggX6_entry_X6_entryOf : GoodIn wsX6_entry wsX6_entryOf := goodIn_r _ [5, 6, 7, 8, 4, 9, 10, 11, 12, 13, 14, 15, 16, 17, 18, 26, 27, 28, 29, 30, 31, 32, 33, 34, 35, 36, 37, 38, 39, 40, 41, 42, 43, 44, 45, 46] (by decide +kernel) (by decide +kernel)
set_option maxRecDepth 20000 in
theorem gX6_entry_X6_entryOf : GoodIn wsX6_entry (wsV RX6 191 RX6 yX6_entryOf wsX6_entryOf) := goodIn_app (goodIn_of _ (by decide +kernel)) ggX6_entry_X6_entryOf
set_option maxRecDepth 20000 in
theorem ggX6_entry_X0_cost : GoodIn wsX6_entry wsX0_cost := goodIn_r _ [23, 24, 25, 47, 48, 49] (by decide +kernel) (by decide +kernel)
set_option maxRecDepth 20000 in
theorem gX6_entry_X0_cost : GoodIn wsX6_entry (wsV RX6 195 RX0 yX0_cost wsX0_cost) := goodIn_app (goodIn_of _ (by decide +kernel)) ggX6_entry_X0_cost
theorem dX6_entry_3 : decode cX6_entry 3 = .ok (.invokevirtual 191, 3) := by decide +kernel
theorem dX6_entry_16 : decode cX6_entry 16 = .ok (.invokevirtual 195, 3) := by decide +kernel
set_option maxRecDepth 20000 in
theorem ggX6_entryByte_X6_entryOf : GoodIn wsX6_entryByte wsX6_entryOf := goodIn_r _ [5, 6, 7, 8, 4, 9, 10, 11, 12, 13, 14, 15, 16, 17, 18, 24, 25, 26, 27, 28, 29, 30, 31, 32, 33, 34, 35, 36, 37, 38, 39, 40, 41, 42, 43, 44] (by decide +kernel) (by decide +kernel)
set_option maxRecDepth 20000 in
theorem gX6_entryByte_X6_entryOf : GoodIn wsX6_entryByte (wsV RX6 191 RX6 yX6_entryOf wsX6_entryOf) := goodIn_app (goodIn_of _ (by decide +kernel)) ggX6_entryByte_X6_entryOf
set_option maxRecDepth 20000 in
theorem ggX6_entryByte_X6_byteIn : GoodIn wsX6_entryByte wsX6_byteIn := goodIn_r _ [21, 22, 23, 45, 46, 47] (by decide +kernel) (by decide +kernel)
set_option maxRecDepth 20000 in
theorem gX6_entryByte_X6_byteIn : GoodIn wsX6_entryByte (va_wsS RX6 179 yX6_byteIn wsX6_byteIn) := goodIn_app (goodIn_of _ (by decide +kernel)) ggX6_entryByte_X6_byteIn
theorem dX6_entryByte_3 : decode cX6_entryByte 3 = .ok (.invokevirtual 191, 3) := by decide +kernel
theorem dX6_entryByte_9 : decode cX6_entryByte 9 = .ok (.invokestatic 179, 3) := by decide +kernel
set_option maxRecDepth 20000 in
theorem ggX6_check_X4_isSound : GoodIn wsX6_check wsX4_isSound := goodIn_r _ [7, 8, 9, 10, 11, 12, 13, 6, 14, 15, 16, 17, 18, 19, 20, 21, 22, 23, 24, 25, 26, 43, 44, 45, 46, 47, 48, 49, 50] (by decide +kernel) (by decide +kernel)
set_option maxRecDepth 20000 in
theorem gX6_check_X4_isSound : GoodIn wsX6_check (wsV RX6 199 RX4 yX4_isSound wsX4_isSound) := goodIn_app (goodIn_of _ (by decide +kernel)) ggX6_check_X4_isSound
theorem dX6_check_4 : decode cX6_check 4 = .ok (.invokevirtual 199, 3) := by decide +kernel
theorem dX6_check_14 : decode cX6_check 14 = .ok (.invokevirtual 199, 3) := by decide +kernel
set_option maxRecDepth 20000 in
theorem ggX6_entryOf_X6_tableOf : GoodIn wsX6_entryOf wsX6_tableOf := goodIn_r _ [5, 6, 7, 15, 16, 17, 18, 19, 20, 21, 22, 23, 24, 25, 26, 27, 28, 29, 30] (by decide +kernel) (by decide +kernel)
set_option maxRecDepth 20000 in
theorem gX6_entryOf_X6_tableOf : GoodIn wsX6_entryOf (wsV RX6 183 RX6 yX6_tableOf wsX6_tableOf) := goodIn_app (goodIn_of _ (by decide +kernel)) ggX6_entryOf_X6_tableOf
set_option maxRecDepth 20000 in
theorem ggX6_entryOf_X4_at : GoodIn wsX6_entryOf wsX4_at := goodIn_r _ [12, 13, 14, 31, 32, 33, 34, 35] (by decide +kernel) (by decide +kernel)
set_option maxRecDepth 20000 in
theorem gX6_entryOf_X4_at : GoodIn wsX6_entryOf (wsV RX6 202 RX4 yX4_at wsX4_at) := goodIn_app (goodIn_of _ (by decide +kernel)) ggX6_entryOf_X4_at
theorem dX6_entryOf_2 : decode cX6_entryOf 2 = .ok (.invokevirtual 183, 3) := by decide +kernel
theorem dX6_entryOf_16 : decode cX6_entryOf 16 = .ok (.invokevirtual 202, 3) := by decide +kernel
theorem dX7_init_1 : decode cX7_init 1 = .ok (.invokespecial 1, 3) := by decide +kernel
set_option maxRecDepth 20000 in
theorem ggX7_fixed_X7_put : GoodIn wsX7_fixed wsX7_put := goodIn_r _ [8, 9, 10, 11, 12, 13, 14, 15, 16, 17, 18, 19, 20, 21, 22, 23, 24, 25, 26, 27, 28, 29, 30, 31, 32, 33, 34, 35, 36, 37, 38, 39, 40, 41, 42, 43, 44, 45] (by decide +kernel) (by decide +kernel)
set_option maxRecDepth 20000 in
theorem gX7_fixed_X7_put : GoodIn wsX7_fixed (wsV RX7 75 RX7 yX7_put wsX7_put) := goodIn_app (goodIn_of _ (by decide +kernel)) ggX7_fixed_X7_put
theorem dX7_fixed_28 : decode cX7_fixed 28 = .ok (.invokevirtual 75, 3) := by decide +kernel
set_option maxRecDepth 20000 in
theorem ggX7_field_X7_put : GoodIn wsX7_field wsX7_put := goodIn_r _ [8, 9, 10, 11, 12, 13, 14, 15, 16, 17, 18, 19, 20, 21, 22, 23, 24, 25, 26, 27, 28, 29, 30, 31, 32, 33, 34, 35, 36, 37, 38, 39, 40, 41, 42, 43, 44, 45] (by decide +kernel) (by decide +kernel)
set_option maxRecDepth 20000 in
theorem gX7_field_X7_put : GoodIn wsX7_field (wsV RX7 75 RX7 yX7_put wsX7_put) := goodIn_app (goodIn_of _ (by decide +kernel)) ggX7_field_X7_put
theorem dX7_field_33 : decode cX7_field 33 = .ok (.invokevirtual 75, 3) := by decide +kernel
set_option maxRecDepth 20000 in
theorem ggX7_entryAt_X7_slot : GoodIn wsX7_entryAt wsX7_slot := goodIn_r _ [7, 8, 9, 10, 11, 12, 13, 14, 15, 16, 17, 18, 19, 20, 21, 22, 23, 24, 25, 26, 27, 28, 29, 30, 31, 32, 33, 34, 35, 36, 37, 38, 39] (by decide +kernel) (by decide +kernel)
set_option maxRecDepth 20000 in
theorem gX7_entryAt_X7_slot : GoodIn wsX7_entryAt (wsV RX7 82 RX7 yX7_slot wsX7_slot) := goodIn_app (goodIn_of _ (by decide +kernel)) ggX7_entryAt_X7_slot
theorem dX7_entryAt_48 : decode cX7_entryAt 48 = .ok (.invokevirtual 82, 3) := by decide +kernel
set_option maxRecDepth 20000 in
theorem ggX7_cut_X7_slot : GoodIn wsX7_cut wsX7_slot := goodIn_r _ [7, 8, 14, 15, 16, 17, 18, 19, 20, 21, 22, 23, 24, 25, 26, 27, 28, 29, 30, 31, 32, 33, 34, 35, 36, 37, 38, 39, 40, 41, 42, 43, 44] (by decide +kernel) (by decide +kernel)
set_option maxRecDepth 20000 in
theorem gX7_cut_X7_slot : GoodIn wsX7_cut (wsV RX7 82 RX7 yX7_slot wsX7_slot) := goodIn_app (goodIn_of _ (by decide +kernel)) ggX7_cut_X7_slot
set_option maxRecDepth 20000 in
theorem ggX7_cut_X7_size : GoodIn wsX7_cut wsX7_size := goodIn_r _ [12, 13, 14, 15, 16, 17, 18, 19, 20, 21, 22, 23, 24, 25, 26, 27, 28, 29, 30, 31, 32, 33, 34, 35, 36, 37, 38, 39, 40, 41, 42, 43, 44] (by decide +kernel) (by decide +kernel)
set_option maxRecDepth 20000 in
theorem gX7_cut_X7_size : GoodIn wsX7_cut (wsV RX7 86 RX7 yX7_size wsX7_size) := goodIn_app (goodIn_of _ (by decide +kernel)) ggX7_cut_X7_size
theorem dX7_cut_37 : decode cX7_cut 37 = .ok (.invokevirtual 82, 3) := by decide +kernel
theorem dX7_cut_40 : decode cX7_cut 40 = .ok (.invokevirtual 86, 3) := by decide +kernel
set_option maxRecDepth 20000 in
theorem ggX7_addEntry_X7_size : GoodIn wsX7_addEntry wsX7_size := goodIn_r _ [9, 10, 24, 25, 26, 27, 28, 29, 30, 31, 32, 33, 34, 35, 36, 37, 38, 39, 40, 41, 42, 43, 44, 45, 46, 47, 48, 49, 50, 51, 52, 53, 54] (by decide +kernel) (by decide +kernel)
set_option maxRecDepth 20000 in
theorem gX7_addEntry_X7_size : GoodIn wsX7_addEntry (wsV RX7 86 RX7 yX7_size wsX7_size) := goodIn_app (goodIn_of _ (by decide +kernel)) ggX7_addEntry_X7_size
set_option maxRecDepth 20000 in
theorem ggX7_addEntry_X7_cut : GoodIn wsX7_addEntry wsX7_cut := goodIn_r _ [14, 3, 4, 15, 16, 17, 8, 18, 2, 5, 6, 7, 9, 10, 24, 25, 26, 27, 28, 29, 30, 31, 32, 33, 34, 35, 36, 37, 38, 39, 40, 41, 42, 43, 44, 45, 46, 47, 48, 49, 50, 51, 52, 53, 54] (by decide +kernel) (by decide +kernel)
set_option maxRecDepth 20000 in
theorem gX7_addEntry_X7_cut : GoodIn wsX7_addEntry (wsV RX7 90 RX7 yX7_cut wsX7_cut) := goodIn_app (goodIn_of _ (by decide +kernel)) ggX7_addEntry_X7_cut
set_option maxRecDepth 20000 in
theorem ggX7_addEntry_X7_slot : GoodIn wsX7_addEntry wsX7_slot := goodIn_r _ [18, 2, 24, 25, 26, 27, 28, 29, 30, 31, 32, 33, 34, 35, 36, 37, 38, 39, 40, 41, 42, 43, 44, 45, 46, 47, 48, 49, 50, 51, 52, 53, 54] (by decide +kernel) (by decide +kernel)
set_option maxRecDepth 20000 in
theorem gX7_addEntry_X7_slot : GoodIn wsX7_addEntry (wsV RX7 82 RX7 yX7_slot wsX7_slot) := goodIn_app (goodIn_of _ (by decide +kernel)) ggX7_addEntry_X7_slot
set_option maxRecDepth 20000 in
theorem ggX7_addEntry_X7_copyPart : GoodIn wsX7_addEntry wsX7_copyPart := goodIn_r _ [22, 10, 23, 24, 25, 26, 27, 28, 29, 30, 31, 32, 33, 34, 35, 36, 37, 38, 39, 40, 41, 42, 43, 44, 45, 46, 47, 48, 49, 50, 51, 52, 53, 54] (by decide +kernel) (by decide +kernel)
set_option maxRecDepth 20000 in
theorem gX7_addEntry_X7_copyPart : GoodIn wsX7_addEntry (wsV RX7 94 RX7 yX7_copyPart wsX7_copyPart) := goodIn_app (goodIn_of _ (by decide +kernel)) ggX7_addEntry_X7_copyPart
theorem dX7_addEntry_10 : decode cX7_addEntry 10 = .ok (.invokevirtual 86, 3) := by decide +kernel
theorem dX7_addEntry_14 : decode cX7_addEntry 14 = .ok (.invokevirtual 90, 3) := by decide +kernel
theorem dX7_addEntry_19 : decode cX7_addEntry 19 = .ok (.invokevirtual 86, 3) := by decide +kernel
theorem dX7_addEntry_68 : decode cX7_addEntry 68 = .ok (.invokevirtual 86, 3) := by decide +kernel
theorem dX7_addEntry_78 : decode cX7_addEntry 78 = .ok (.invokevirtual 82, 3) := by decide +kernel
theorem dX7_addEntry_82 : decode cX7_addEntry 82 = .ok (.invokevirtual 94, 3) := by decide +kernel
theorem dX7_addEntry_90 : decode cX7_addEntry 90 = .ok (.invokevirtual 82, 3) := by decide +kernel
theorem dX7_addEntry_94 : decode cX7_addEntry 94 = .ok (.invokevirtual 94, 3) := by decide +kernel
set_option maxRecDepth 20000 in
theorem ggX7_limit_X7_cut : GoodIn wsX7_limit wsX7_cut := goodIn_r _ [8, 9, 10, 11, 12, 13, 7, 14, 15, 16, 17, 18, 19, 20, 21, 22, 23, 24, 25, 26, 27, 28, 29, 30, 31, 32, 33, 34, 35, 36, 37, 38, 39, 40, 41, 42, 43, 44, 45, 46, 47, 48, 49, 50, 51] (by decide +kernel) (by decide +kernel)
set_option maxRecDepth 20000 in
theorem gX7_limit_X7_cut : GoodIn wsX7_limit (wsV RX7 90 RX7 yX7_cut wsX7_cut) := goodIn_app (goodIn_of _ (by decide +kernel)) ggX7_limit_X7_cut
theorem dX7_limit_48 : decode cX7_limit 48 = .ok (.invokevirtual 90, 3) := by decide +kernel
set_option maxRecDepth 20000 in
theorem ggX7_writeNumber_X7_write : GoodIn wsX7_writeNumber wsX7_write := goodIn_r _ [5, 6, 7, 8, 9, 10, 11, 12, 13, 14, 15, 16, 17, 18, 19, 20, 21, 22, 23, 24, 25, 26, 27, 28, 29, 30, 31, 32, 33, 34, 35, 36, 37, 38] (by decide +kernel) (by decide +kernel)
set_option maxRecDepth 20000 in
theorem gX7_writeNumber_X7_write : GoodIn wsX7_writeNumber (wsV RX7 101 RX7 yX7_write wsX7_write) := goodIn_app (goodIn_of _ (by decide +kernel)) ggX7_writeNumber_X7_write
theorem dX7_writeNumber_17 : decode cX7_writeNumber 17 = .ok (.invokevirtual 101, 3) := by decide +kernel
theorem dX7_writeNumber_26 : decode cX7_writeNumber 26 = .ok (.invokevirtual 101, 3) := by decide +kernel
theorem dX7_writeNumber_53 : decode cX7_writeNumber 53 = .ok (.invokevirtual 101, 3) := by decide +kernel
theorem dX7_writeNumber_70 : decode cX7_writeNumber 70 = .ok (.invokevirtual 101, 3) := by decide +kernel
set_option maxRecDepth 20000 in
theorem ggX7_short5_J0_charAt_5068e : GoodIn wsX7_short5 wsJ0_charAt_5068e := goodIn_r _ [5, 6, 7, 8, 9, 4, 10, 11, 12, 13, 14, 15, 16, 17, 18, 19, 20, 21, 22, 23, 24, 25, 26, 27, 28, 29, 30, 31, 32, 33, 34, 35, 36, 37, 38, 39, 40, 41] (by decide +kernel) (by decide +kernel)
set_option maxRecDepth 20000 in
theorem gX7_short5_J0_charAt_5068e : GoodIn wsX7_short5 (wsV RX7 106 RJ0 yJ0_charAt_5068e wsJ0_charAt_5068e) := goodIn_app (goodIn_of _ (by decide +kernel)) ggX7_short5_J0_charAt_5068e
theorem dX7_short5_14 : decode cX7_short5 14 = .ok (.invokevirtual 106, 3) := by decide +kernel
set_option maxRecDepth 20000 in
theorem ggX7_writeBits_X7_write : GoodIn wsX7_writeBits wsX7_write := goodIn_r _ [7, 8, 9, 10, 11, 12, 13, 14, 15, 16, 17, 18, 19, 20, 21, 22, 23, 24, 25, 26, 27, 28, 29, 30, 31, 32, 33, 34, 35, 36, 37, 38, 39, 40] (by decide +kernel) (by decide +kernel)
set_option maxRecDepth 20000 in
theorem gX7_writeBits_X7_write : GoodIn wsX7_writeBits (wsV RX7 101 RX7 yX7_write wsX7_write) := goodIn_app (goodIn_of _ (by decide +kernel)) ggX7_writeBits_X7_write
theorem dX7_writeBits_48 : decode cX7_writeBits 48 = .ok (.invokevirtual 101, 3) := by decide +kernel
set_option maxRecDepth 20000 in
theorem ggX7_writeText_X7_short5 : GoodIn wsX7_writeText wsX7_short5 := goodIn_r _ [8, 9, 10, 11, 12, 13, 14, 15, 16, 17, 18, 19, 20, 21, 22, 23, 24, 25, 26, 27, 28, 29, 30, 31, 32, 33, 34, 35, 36, 37, 38, 39, 40, 41, 42, 43, 44, 45, 46, 47, 48, 49] (by decide +kernel) (by decide +kernel)
set_option maxRecDepth 20000 in
theorem gX7_writeText_X7_short5 : GoodIn wsX7_writeText (va_wsS RX7 118 yX7_short5 wsX7_short5) := goodIn_app (goodIn_of _ (by decide +kernel)) ggX7_writeText_X7_short5
set_option maxRecDepth 20000 in
theorem ggX7_writeText_X7_numberBytes : GoodIn wsX7_writeText wsX7_numberBytes := goodIn_r _ [52] (by decide +kernel) (by decide +kernel)
set_option maxRecDepth 20000 in
theorem gX7_writeText_X7_numberBytes : GoodIn wsX7_writeText (va_wsS RX7 121 yX7_numberBytes wsX7_numberBytes) := goodIn_app (goodIn_of _ (by decide +kernel)) ggX7_writeText_X7_numberBytes
set_option maxRecDepth 20000 in
theorem ggX7_writeText_X7_writeNumber : GoodIn wsX7_writeText wsX7_writeNumber := goodIn_r _ [56, 57, 58, 59, 7, 60, 61, 62, 67, 68, 69, 70, 71, 72, 73, 74, 75, 76, 77, 78, 79, 80, 81, 82, 83, 84, 85, 86, 87, 88, 89, 90, 91, 92, 93, 94, 95, 96, 97] (by decide +kernel) (by decide +kernel)
set_option maxRecDepth 20000 in
theorem gX7_writeText_X7_writeNumber : GoodIn wsX7_writeText (wsV RX7 124 RX7 yX7_writeNumber wsX7_writeNumber) := goodIn_app (goodIn_of _ (by decide +kernel)) ggX7_writeText_X7_writeNumber
set_option maxRecDepth 20000 in
theorem ggX7_writeText_X7_write : GoodIn wsX7_writeText wsX7_write := goodIn_r _ [60, 61, 62, 67, 68, 69, 70, 71, 72, 73, 74, 75, 76, 77, 78, 79, 80, 81, 82, 83, 84, 85, 86, 87, 88, 89, 90, 91, 92, 93, 94, 95, 96, 97] (by decide +kernel) (by decide +kernel)
set_option maxRecDepth 20000 in
theorem gX7_writeText_X7_write : GoodIn wsX7_writeText (wsV RX7 101 RX7 yX7_write wsX7_write) := goodIn_app (goodIn_of _ (by decide +kernel)) ggX7_writeText_X7_write
set_option maxRecDepth 20000 in
theorem ggX7_writeText_X7_writeBits : GoodIn wsX7_writeText wsX7_writeBits := goodIn_r _ [66, 3, 4, 57, 58, 59, 7, 60, 61, 62, 67, 68, 69, 70, 71, 72, 73, 74, 75, 76, 77, 78, 79, 80, 81, 82, 83, 84, 85, 86, 87, 88, 89, 90, 91, 92, 93, 94, 95, 96, 97] (by decide +kernel) (by decide +kernel)
set_option maxRecDepth 20000 in
theorem gX7_writeText_X7_writeBits : GoodIn wsX7_writeText (wsV RX7 127 RX7 yX7_writeBits wsX7_writeBits) := goodIn_app (goodIn_of _ (by decide +kernel)) ggX7_writeText_X7_writeBits
theorem dX7_writeText_52 : decode cX7_writeText 52 = .ok (.invokestatic 118, 3) := by decide +kernel
theorem dX7_writeText_89 : decode cX7_writeText 89 = .ok (.invokestatic 121, 3) := by decide +kernel
theorem dX7_writeText_98 : decode cX7_writeText 98 = .ok (.invokestatic 121, 3) := by decide +kernel
theorem dX7_writeText_111 : decode cX7_writeText 111 = .ok (.invokevirtual 124, 3) := by decide +kernel
theorem dX7_writeText_134 : decode cX7_writeText 134 = .ok (.invokevirtual 101, 3) := by decide +kernel
theorem dX7_writeText_152 : decode cX7_writeText 152 = .ok (.invokevirtual 124, 3) := by decide +kernel
theorem dX7_writeText_188 : decode cX7_writeText 188 = .ok (.invokestatic 118, 3) := by decide +kernel
theorem dX7_writeText_197 : decode cX7_writeText 197 = .ok (.invokevirtual 127, 3) := by decide +kernel
theorem dX7_writeText_224 : decode cX7_writeText 224 = .ok (.invokevirtual 127, 3) := by decide +kernel
theorem dX7_writeText_243 : decode cX7_writeText 243 = .ok (.invokevirtual 127, 3) := by decide +kernel
set_option maxRecDepth 20000 in
theorem ggX7_writeLimits_X7_writeNumber : GoodIn wsX7_writeLimits wsX7_writeNumber := goodIn_r _ [8, 9, 10, 11, 7, 12, 13, 14, 15, 16, 17, 18, 19, 20, 21, 22, 23, 24, 25, 26, 27, 28, 29, 30, 31, 32, 33, 34, 35, 36, 37, 38, 39, 40, 41, 42, 43, 44, 45] (by decide +kernel) (by decide +kernel)
set_option maxRecDepth 20000 in
theorem gX7_writeLimits_X7_writeNumber : GoodIn wsX7_writeLimits (wsV RX7 124 RX7 yX7_writeNumber wsX7_writeNumber) := goodIn_app (goodIn_of _ (by decide +kernel)) ggX7_writeLimits_X7_writeNumber
theorem dX7_writeLimits_34 : decode cX7_writeLimits 34 = .ok (.invokevirtual 124, 3) := by decide +kernel
theorem dX7_writeLimits_42 : decode cX7_writeLimits 42 = .ok (.invokevirtual 124, 3) := by decide +kernel
theorem dX7_writeLimits_61 : decode cX7_writeLimits 61 = .ok (.invokevirtual 124, 3) := by decide +kernel
set_option maxRecDepth 20000 in
theorem ggX7_writeField_X7_entryAt : GoodIn wsX7_writeField wsX7_entryAt := goodIn_r _ [9, 1, 2, 10, 11, 12, 8, 13, 14, 105, 106, 107, 108, 109, 110, 111, 112, 113, 114, 115, 116, 117, 118, 119, 120, 121, 122, 123, 124, 125, 126, 127, 128, 129, 130, 131, 132, 133, 134, 135] (by decide +kernel) (by decide +kernel)
set_option maxRecDepth 20000 in
theorem gX7_writeField_X7_entryAt : GoodIn wsX7_writeField (wsV RX7 130 RX7 yX7_entryAt wsX7_entryAt) := goodIn_app (goodIn_of _ (by decide +kernel)) ggX7_writeField_X7_entryAt
set_option maxRecDepth 20000 in
theorem ggX7_writeField_X7_isSame : GoodIn wsX7_writeField wsX7_isSame := goodIn_r _ [18, 19, 20, 105, 106, 107, 108, 109, 110, 111, 112, 113, 114, 115, 116, 117, 118, 119, 120, 121, 122, 123, 124, 125, 126, 127, 128, 129, 130, 131, 132, 133, 134, 135] (by decide +kernel) (by decide +kernel)
set_option maxRecDepth 20000 in
theorem gX7_writeField_X7_isSame : GoodIn wsX7_writeField (wsV RX7 133 RX7 yX7_isSame wsX7_isSame) := goodIn_app (goodIn_of _ (by decide +kernel)) ggX7_writeField_X7_isSame
set_option maxRecDepth 20000 in
theorem ggX7_writeField_X7_writeNumber : GoodIn wsX7_writeField wsX7_writeNumber := goodIn_r _ [24, 25, 26, 27, 8, 28, 29, 30, 105, 106, 107, 108, 109, 110, 111, 112, 113, 114, 115, 116, 117, 118, 119, 120, 121, 122, 123, 124, 125, 126, 127, 128, 129, 130, 131, 132, 133, 134, 135] (by decide +kernel) (by decide +kernel)
set_option maxRecDepth 20000 in
theorem gX7_writeField_X7_writeNumber : GoodIn wsX7_writeField (wsV RX7 124 RX7 yX7_writeNumber wsX7_writeNumber) := goodIn_app (goodIn_of _ (by decide +kernel)) ggX7_writeField_X7_writeNumber
set_option maxRecDepth 20000 in
theorem ggX7_writeField_X7_size : GoodIn wsX7_writeField wsX7_size := goodIn_r _ [34, 19, 105, 106, 107, 108, 109, 110, 111, 112, 113, 114, 115, 116, 117, 118, 119, 120, 121, 122, 123, 124, 125, 126, 127, 128, 129, 130, 131, 132, 133, 134, 135] (by decide +kernel) (by decide +kernel)
set_option maxRecDepth 20000 in
theorem gX7_writeField_X7_size : GoodIn wsX7_writeField (wsV RX7 86 RX7 yX7_size wsX7_size) := goodIn_app (goodIn_of _ (by decide +kernel)) ggX7_writeField_X7_size
set_option maxRecDepth 20000 in
theorem ggX7_writeField_X7_writeText : GoodIn wsX7_writeField wsX7_writeText := goodIn_r _ [38, 19, 20, 39, 40, 41, 42, 8, 43, 44, 45, 46, 47, 48, 49, 50, 51, 52, 53, 54, 55, 56, 57, 58, 59, 60, 61, 62, 63, 64, 65, 66, 67, 68, 69, 70, 71, 72, 73, 74, 75, 76, 77, 78, 79, 80, 81, 82, 83, 84, 85, 86, 87, 21, 22, 23, 24, 25, 26, 27, 28, 29, 30, 88, 89, 90, 91, 105, 106, 107, 108, 109, 110, 111, 112, 113, 114, 115, 116, 117, 118, 119, 120, 121, 122, 123, 124, 125, 126, 127, 128, 129, 130, 131, 132, 133, 134, 135] (by decide +kernel) (by decide +kernel)
set_option maxRecDepth 20000 in
theorem gX7_writeField_X7_writeText : GoodIn wsX7_writeField (wsV RX7 137 RX7 yX7_writeText wsX7_writeText) := goodIn_app (goodIn_of _ (by decide +kernel)) ggX7_writeField_X7_writeText
set_option maxRecDepth 20000 in
theorem ggX7_writeField_X7_addEntry : GoodIn wsX7_writeField wsX7_addEntry := goodIn_r _ [95, 4, 14, 2, 96, 31, 32, 33, 8, 34, 19, 97, 98, 99, 100, 10, 11, 12, 13, 101, 102, 103, 104, 20, 105, 106, 107, 108, 109, 110, 111, 112, 113, 114, 115, 116, 117, 118, 119, 120, 121, 122, 123, 124, 125, 126, 127, 128, 129, 130, 131, 132, 133, 134, 135] (by decide +kernel) (by decide +kernel)
set_option maxRecDepth 20000 in
theorem gX7_writeField_X7_addEntry : GoodIn wsX7_writeField (wsV RX7 140 RX7 yX7_addEntry wsX7_addEntry) := goodIn_app (goodIn_of _ (by decide +kernel)) ggX7_writeField_X7_addEntry
theorem dX7_writeField_26 : decode cX7_writeField 26 = .ok (.invokevirtual 130, 3) := by decide +kernel
theorem dX7_writeField_36 : decode cX7_writeField 36 = .ok (.invokevirtual 133, 3) := by decide +kernel
theorem dX7_writeField_50 : decode cX7_writeField 50 = .ok (.invokevirtual 133, 3) := by decide +kernel
theorem dX7_writeField_89 : decode cX7_writeField 89 = .ok (.invokevirtual 124, 3) := by decide +kernel
theorem dX7_writeField_104 : decode cX7_writeField 104 = .ok (.invokevirtual 86, 3) := by decide +kernel
theorem dX7_writeField_161 : decode cX7_writeField 161 = .ok (.invokevirtual 124, 3) := by decide +kernel
theorem dX7_writeField_171 : decode cX7_writeField 171 = .ok (.invokevirtual 137, 3) := by decide +kernel
theorem dX7_writeField_177 : decode cX7_writeField 177 = .ok (.invokevirtual 137, 3) := by decide +kernel
theorem dX7_writeField_188 : decode cX7_writeField 188 = .ok (.invokevirtual 140, 3) := by decide +kernel
set_option maxRecDepth 20000 in
theorem ggX7_pack_X7_writeLimits : GoodIn wsX7_pack wsX7_writeLimits := goodIn_r _ [19, 9, 10, 11, 20, 21, 22, 18, 23, 24, 25, 26, 27, 6, 14, 121, 122, 123, 124, 125, 126, 127, 128, 129, 130, 131, 132, 133, 134, 135, 136, 137, 138, 139, 140, 141, 142, 143, 144, 145, 146, 147, 148, 149, 150, 151] (by decide +kernel) (by decide +kernel)
set_option maxRecDepth 20000 in
theorem gX7_pack_X7_writeLimits : GoodIn wsX7_pack (wsV RX7 143 RX7 yX7_writeLimits wsX7_writeLimits) := goodIn_app (goodIn_of _ (by decide +kernel)) ggX7_pack_X7_writeLimits
set_option maxRecDepth 20000 in
theorem ggX7_pack_X7_writeField : GoodIn wsX7_pack wsX7_writeField := goodIn_r _ [31, 32, 3, 33, 9, 34, 35, 36, 18, 37, 38, 39, 40, 41, 2, 42, 43, 44, 45, 46, 47, 20, 21, 22, 23, 24, 25, 26, 27, 6, 14, 48, 49, 50, 51, 52, 53, 54, 55, 56, 57, 58, 59, 60, 61, 62, 63, 64, 65, 66, 67, 68, 69, 70, 71, 72, 73, 74, 75, 76, 77, 78, 79, 80, 81, 82, 83, 84, 85, 86, 87, 88, 89, 90, 91, 92, 93, 94, 95, 96, 97, 98, 99, 100, 101, 102, 103, 104, 105, 106, 107, 108, 109, 110, 111, 112, 4, 113, 114, 115, 116, 117, 118, 119, 120, 121, 122, 123, 124, 125, 126, 127, 128, 129, 130, 131, 132, 133, 134, 135, 136, 137, 138, 139, 140, 141, 142, 143, 144, 145, 146, 147, 148, 149, 150, 151] (by decide +kernel) (by decide +kernel)
set_option maxRecDepth 20000 in
theorem gX7_pack_X7_writeField : GoodIn wsX7_pack (wsV RX7 146 RX7 yX7_writeField wsX7_writeField) := goodIn_app (goodIn_of _ (by decide +kernel)) ggX7_pack_X7_writeField
theorem dX7_pack_37 : decode cX7_pack 37 = .ok (.invokevirtual 143, 3) := by decide +kernel
theorem dX7_pack_58 : decode cX7_pack 58 = .ok (.invokevirtual 146, 3) := by decide +kernel
set_option maxRecDepth 20000 in
theorem ggX7_readNumber_X7_next : GoodIn wsX7_readNumber wsX7_next := goodIn_r _ [7, 8, 9, 1, 10, 11, 12, 13, 14, 15, 16, 17, 18, 19, 20, 21, 22, 23, 24, 25, 26, 27, 28, 29, 30, 31, 32, 33, 34, 35, 36, 37, 38, 39, 40, 41] (by decide +kernel) (by decide +kernel)
set_option maxRecDepth 20000 in
theorem gX7_readNumber_X7_next : GoodIn wsX7_readNumber (wsV RX7 164 RX7 yX7_next wsX7_next) := goodIn_app (goodIn_of _ (by decide +kernel)) ggX7_readNumber_X7_next
theorem dX7_readNumber_56 : decode cX7_readNumber 56 = .ok (.invokevirtual 164, 3) := by decide +kernel
set_option maxRecDepth 20000 in
theorem ggX7_bitsAt_X7_bitAt : GoodIn wsX7_bitsAt wsX7_bitAt := goodIn_r _ [5, 6, 7, 8, 9, 10, 11, 12, 13, 14, 15, 16, 17, 18, 19, 20, 21, 22, 23, 24, 25, 26, 27, 28, 29, 30, 31, 32, 33, 34, 35, 36, 37] (by decide +kernel) (by decide +kernel)
set_option maxRecDepth 20000 in
theorem gX7_bitsAt_X7_bitAt : GoodIn wsX7_bitsAt (wsV RX7 169 RX7 yX7_bitAt wsX7_bitAt) := goodIn_app (goodIn_of _ (by decide +kernel)) ggX7_bitsAt_X7_bitAt
theorem dX7_bitsAt_22 : decode cX7_bitsAt 22 = .ok (.invokevirtual 169, 3) := by decide +kernel
set_option maxRecDepth 20000 in
theorem ggX7_readTight_X7_bitsAt : GoodIn wsX7_readTight wsX7_bitsAt := goodIn_r _ [10, 11, 12, 13, 9, 14, 15, 57, 58, 59, 60, 61, 62, 63, 64, 65, 66, 67, 68, 69, 70, 71, 72, 73, 74, 75, 76, 77, 78, 79, 80, 81, 82, 83, 84, 85, 86, 87] (by decide +kernel) (by decide +kernel)
set_option maxRecDepth 20000 in
theorem gX7_readTight_X7_bitsAt : GoodIn wsX7_readTight (wsV RX7 172 RX7 yX7_bitsAt wsX7_bitsAt) := goodIn_app (goodIn_of _ (by decide +kernel)) ggX7_readTight_X7_bitsAt
set_option maxRecDepth 20000 in
theorem ggX7_readTight_J0_charAt_5068e : GoodIn wsX7_readTight wsJ0_charAt_5068e := goodIn_r _ [20, 21, 22, 23, 24, 19, 25, 26, 27, 28, 29, 30, 31, 32, 33, 34, 35, 36, 37, 38, 39, 40, 41, 42, 43, 44, 45, 46, 47, 48, 49, 50, 51, 52, 53, 54, 55, 56] (by decide +kernel) (by decide +kernel)
set_option maxRecDepth 20000 in
theorem gX7_readTight_J0_charAt_5068e : GoodIn wsX7_readTight (wsV RX7 106 RJ0 yJ0_charAt_5068e wsJ0_charAt_5068e) := goodIn_app (goodIn_of _ (by decide +kernel)) ggX7_readTight_J0_charAt_5068e
theorem dX7_readTight_89 : decode cX7_readTight 89 = .ok (.invokevirtual 172, 3) := by decide +kernel
theorem dX7_readTight_182 : decode cX7_readTight 182 = .ok (.invokevirtual 106, 3) := by decide +kernel
theorem dX7_readTight_197 : decode cX7_readTight 197 = .ok (.invokevirtual 172, 3) := by decide +kernel
theorem dX7_readTight_256 : decode cX7_readTight 256 = .ok (.invokevirtual 172, 3) := by decide +kernel
set_option maxRecDepth 20000 in
theorem ggX7_readText_X7_next : GoodIn wsX7_readText wsX7_next := goodIn_r _ [8, 9, 10, 1, 11, 70, 71, 72, 73, 74, 75, 76, 77, 78, 79, 80, 81, 82, 83, 84, 85, 86, 87, 88, 89, 90, 91, 92, 93, 94, 95, 96, 97, 98, 99, 100] (by decide +kernel) (by decide +kernel)
set_option maxRecDepth 20000 in
theorem gX7_readText_X7_next : GoodIn wsX7_readText (wsV RX7 164 RX7 yX7_next wsX7_next) := goodIn_app (goodIn_of _ (by decide +kernel)) ggX7_readText_X7_next
set_option maxRecDepth 20000 in
theorem ggX7_readText_X7_readNumber : GoodIn wsX7_readText wsX7_readNumber := goodIn_r _ [15, 1, 16, 4, 5, 6, 7, 8, 9, 10, 11, 70, 71, 72, 73, 74, 75, 76, 77, 78, 79, 80, 81, 82, 83, 84, 85, 86, 87, 88, 89, 90, 91, 92, 93, 94, 95, 96, 97, 98, 99, 100] (by decide +kernel) (by decide +kernel)
set_option maxRecDepth 20000 in
theorem gX7_readText_X7_readNumber : GoodIn wsX7_readText (wsV RX7 176 RX7 yX7_readNumber wsX7_readNumber) := goodIn_app (goodIn_of _ (by decide +kernel)) ggX7_readText_X7_readNumber
set_option maxRecDepth 20000 in
theorem ggX7_readText_X7_readTight : GoodIn wsX7_readText wsX7_readTight := goodIn_r _ [20, 9, 10, 1, 2, 3, 21, 22, 23, 7, 24, 25, 26, 27, 28, 11, 29, 30, 31, 32, 33, 34, 35, 36, 37, 38, 39, 40, 41, 42, 43, 44, 45, 46, 47, 48, 49, 50, 51, 52, 53, 54, 55, 56, 57, 58, 59, 60, 61, 62, 63, 64, 65, 66, 67, 68, 69, 70, 71, 72, 73, 74, 75, 76, 77, 78, 79, 80, 81, 82, 83, 84, 85, 86, 87, 88, 89, 90, 91, 92, 93, 94, 95, 96, 97, 98, 99, 100] (by decide +kernel) (by decide +kernel)
set_option maxRecDepth 20000 in
theorem gX7_readText_X7_readTight : GoodIn wsX7_readText (wsV RX7 179 RX7 yX7_readTight wsX7_readTight) := goodIn_app (goodIn_of _ (by decide +kernel)) ggX7_readText_X7_readTight
theorem dX7_readText_1 : decode cX7_readText 1 = .ok (.invokevirtual 164, 3) := by decide +kernel
theorem dX7_readText_9 : decode cX7_readText 9 = .ok (.invokevirtual 176, 3) := by decide +kernel
theorem dX7_readText_33 : decode cX7_readText 33 = .ok (.invokevirtual 179, 3) := by decide +kernel
theorem dX7_readText_80 : decode cX7_readText 80 = .ok (.invokevirtual 164, 3) := by decide +kernel
set_option maxRecDepth 20000 in
theorem ggX7_readLimit_X7_readNumber : GoodIn wsX7_readLimit wsX7_readNumber := goodIn_r _ [8, 1, 9, 10, 11, 12, 7, 13, 14, 15, 16, 33, 34, 35, 36, 37, 38, 39, 40, 41, 42, 43, 44, 45, 46, 47, 48, 49, 50, 51, 52, 53, 54, 55, 56, 57, 58, 59, 60, 61, 62, 63] (by decide +kernel) (by decide +kernel)
set_option maxRecDepth 20000 in
theorem gX7_readLimit_X7_readNumber : GoodIn wsX7_readLimit (wsV RX7 176 RX7 yX7_readNumber wsX7_readNumber) := goodIn_app (goodIn_of _ (by decide +kernel)) ggX7_readLimit_X7_readNumber
set_option maxRecDepth 20000 in
theorem ggX7_readLimit_X7_cut : GoodIn wsX7_readLimit wsX7_cut := goodIn_r _ [20, 21, 22, 23, 24, 25, 7, 26, 27, 28, 29, 30, 31, 32, 33, 34, 35, 36, 37, 38, 39, 40, 41, 42, 43, 44, 45, 46, 47, 48, 49, 50, 51, 52, 53, 54, 55, 56, 57, 58, 59, 60, 61, 62, 63] (by decide +kernel) (by decide +kernel)
set_option maxRecDepth 20000 in
theorem gX7_readLimit_X7_cut : GoodIn wsX7_readLimit (wsV RX7 90 RX7 yX7_cut wsX7_cut) := goodIn_app (goodIn_of _ (by decide +kernel)) ggX7_readLimit_X7_cut
theorem dX7_readLimit_3 : decode cX7_readLimit 3 = .ok (.invokevirtual 176, 3) := by decide +kernel
theorem dX7_readLimit_50 : decode cX7_readLimit 50 = .ok (.invokevirtual 90, 3) := by decide +kernel
set_option maxRecDepth 20000 in
theorem ggX7_readField_X7_readNumber : GoodIn wsX7_readField wsX7_readNumber := goodIn_r _ [8, 2, 9, 10, 11, 12, 7, 13, 14, 15, 16, 105, 106, 107, 108, 109, 110, 111, 112, 113, 114, 115, 116, 117, 118, 119, 120, 121, 122, 123, 124, 125, 126, 127, 128, 129, 130, 131, 132, 133, 134, 135] (by decide +kernel) (by decide +kernel)
set_option maxRecDepth 20000 in
theorem gX7_readField_X7_readNumber : GoodIn wsX7_readField (wsV RX7 176 RX7 yX7_readNumber wsX7_readNumber) := goodIn_app (goodIn_of _ (by decide +kernel)) ggX7_readField_X7_readNumber
set_option maxRecDepth 20000 in
theorem ggX7_readField_X7_entryAt : GoodIn wsX7_readField wsX7_entryAt := goodIn_r _ [20, 21, 22, 23, 24, 25, 7, 26, 27, 105, 106, 107, 108, 109, 110, 111, 112, 113, 114, 115, 116, 117, 118, 119, 120, 121, 122, 123, 124, 125, 126, 127, 128, 129, 130, 131, 132, 133, 134, 135] (by decide +kernel) (by decide +kernel)
set_option maxRecDepth 20000 in
theorem gX7_readField_X7_entryAt : GoodIn wsX7_readField (wsV RX7 130 RX7 yX7_entryAt wsX7_entryAt) := goodIn_app (goodIn_of _ (by decide +kernel)) ggX7_readField_X7_entryAt
set_option maxRecDepth 20000 in
theorem ggX7_readField_X7_readText : GoodIn wsX7_readField wsX7_readText := goodIn_r _ [31, 2, 32, 33, 10, 11, 12, 7, 13, 14, 15, 16, 4, 5, 6, 8, 9, 34, 35, 36, 37, 38, 39, 40, 41, 42, 43, 44, 45, 46, 47, 48, 49, 50, 51, 52, 53, 54, 55, 56, 57, 58, 59, 60, 61, 62, 63, 64, 65, 66, 67, 68, 69, 70, 71, 72, 73, 74, 75, 76, 77, 78, 79, 80, 81, 82, 83, 84, 85, 86, 105, 106, 107, 108, 109, 110, 111, 112, 113, 114, 115, 116, 117, 118, 119, 120, 121, 122, 123, 124, 125, 126, 127, 128, 129, 130, 131, 132, 133, 134, 135] (by decide +kernel) (by decide +kernel)
set_option maxRecDepth 20000 in
theorem gX7_readField_X7_readText : GoodIn wsX7_readField (wsV RX7 185 RX7 yX7_readText wsX7_readText) := goodIn_app (goodIn_of _ (by decide +kernel)) ggX7_readField_X7_readText
set_option maxRecDepth 20000 in
theorem ggX7_readField_X7_copyPart : GoodIn wsX7_readField wsX7_copyPart := goodIn_r _ [90, 33, 32, 105, 106, 107, 108, 109, 110, 111, 112, 113, 114, 115, 116, 117, 118, 119, 120, 121, 122, 123, 124, 125, 126, 127, 128, 129, 130, 131, 132, 133, 134, 135] (by decide +kernel) (by decide +kernel)
set_option maxRecDepth 20000 in
theorem gX7_readField_X7_copyPart : GoodIn wsX7_readField (wsV RX7 94 RX7 yX7_copyPart wsX7_copyPart) := goodIn_app (goodIn_of _ (by decide +kernel)) ggX7_readField_X7_copyPart
set_option maxRecDepth 20000 in
theorem ggX7_readField_X7_addEntry : GoodIn wsX7_readField wsX7_addEntry := goodIn_r _ [94, 95, 27, 22, 96, 97, 98, 99, 7, 100, 33, 101, 102, 103, 104, 23, 24, 25, 26, 87, 88, 89, 90, 32, 105, 106, 107, 108, 109, 110, 111, 112, 113, 114, 115, 116, 117, 118, 119, 120, 121, 122, 123, 124, 125, 126, 127, 128, 129, 130, 131, 132, 133, 134, 135] (by decide +kernel) (by decide +kernel)
set_option maxRecDepth 20000 in
theorem gX7_readField_X7_addEntry : GoodIn wsX7_readField (wsV RX7 140 RX7 yX7_addEntry wsX7_addEntry) := goodIn_app (goodIn_of _ (by decide +kernel)) ggX7_readField_X7_addEntry
theorem dX7_readField_78 : decode cX7_readField 78 = .ok (.invokevirtual 176, 3) := by decide +kernel
theorem dX7_readField_95 : decode cX7_readField 95 = .ok (.invokevirtual 130, 3) := by decide +kernel
theorem dX7_readField_130 : decode cX7_readField 130 = .ok (.invokevirtual 185, 3) := by decide +kernel
theorem dX7_readField_141 : decode cX7_readField 141 = .ok (.invokevirtual 94, 3) := by decide +kernel
theorem dX7_readField_153 : decode cX7_readField 153 = .ok (.invokevirtual 94, 3) := by decide +kernel
theorem dX7_readField_169 : decode cX7_readField 169 = .ok (.invokevirtual 185, 3) := by decide +kernel
theorem dX7_readField_216 : decode cX7_readField 216 = .ok (.invokevirtual 140, 3) := by decide +kernel
set_option maxRecDepth 20000 in
theorem ggX7_unpack_X7_next : GoodIn wsX7_unpack wsX7_next := goodIn_r _ [19, 7, 10, 8, 20, 118, 119, 120, 121, 122, 123, 124, 125, 126, 127, 128, 129, 130, 131, 132, 133, 134, 135, 136, 137, 138, 139, 140, 141, 142, 143, 144, 145, 146, 147, 148] (by decide +kernel) (by decide +kernel)
set_option maxRecDepth 20000 in
theorem gX7_unpack_X7_next : GoodIn wsX7_unpack (wsV RX7 164 RX7 yX7_next wsX7_next) := goodIn_app (goodIn_of _ (by decide +kernel)) ggX7_unpack_X7_next
set_option maxRecDepth 20000 in
theorem ggX7_unpack_X7_readLimit : GoodIn wsX7_unpack wsX7_readLimit := goodIn_r _ [24, 8, 9, 5, 25, 26, 27, 18, 28, 29, 15, 16, 17, 19, 7, 10, 20, 30, 31, 32, 33, 3, 4, 34, 35, 36, 37, 2, 38, 39, 40, 41, 42, 118, 119, 120, 121, 122, 123, 124, 125, 126, 127, 128, 129, 130, 131, 132, 133, 134, 135, 136, 137, 138, 139, 140, 141, 142, 143, 144, 145, 146, 147, 148] (by decide +kernel) (by decide +kernel)
set_option maxRecDepth 20000 in
theorem gX7_unpack_X7_readLimit : GoodIn wsX7_unpack (wsV RX7 188 RX7 yX7_readLimit wsX7_readLimit) := goodIn_app (goodIn_of _ (by decide +kernel)) ggX7_unpack_X7_readLimit
set_option maxRecDepth 20000 in
theorem ggX7_unpack_X7_readField : GoodIn wsX7_unpack wsX7_readField := goodIn_r _ [46, 9, 8, 14, 25, 26, 27, 18, 28, 29, 15, 16, 17, 19, 7, 10, 20, 47, 48, 49, 50, 51, 3, 34, 35, 36, 37, 2, 52, 53, 54, 55, 56, 42, 57, 58, 59, 60, 61, 62, 63, 64, 65, 66, 67, 68, 69, 70, 71, 72, 73, 74, 75, 76, 77, 78, 79, 80, 81, 82, 83, 84, 85, 86, 87, 88, 89, 90, 91, 92, 93, 94, 95, 96, 97, 98, 99, 100, 101, 102, 103, 104, 105, 106, 107, 108, 109, 110, 111, 112, 113, 114, 115, 116, 117, 5, 4, 38, 39, 40, 41, 30, 31, 32, 33, 118, 119, 120, 121, 122, 123, 124, 125, 126, 127, 128, 129, 130, 131, 132, 133, 134, 135, 136, 137, 138, 139, 140, 141, 142, 143, 144, 145, 146, 147, 148] (by decide +kernel) (by decide +kernel)
set_option maxRecDepth 20000 in
theorem gX7_unpack_X7_readField : GoodIn wsX7_unpack (wsV RX7 191 RX7 yX7_readField wsX7_readField) := goodIn_app (goodIn_of _ (by decide +kernel)) ggX7_unpack_X7_readField
set_option maxRecDepth 20000 in
theorem ggX7_unpack_X7_copyPart : GoodIn wsX7_unpack wsX7_copyPart := goodIn_r _ [113, 42, 56, 118, 119, 120, 121, 122, 123, 124, 125, 126, 127, 128, 129, 130, 131, 132, 133, 134, 135, 136, 137, 138, 139, 140, 141, 142, 143, 144, 145, 146, 147, 148] (by decide +kernel) (by decide +kernel)
set_option maxRecDepth 20000 in
theorem gX7_unpack_X7_copyPart : GoodIn wsX7_unpack (wsV RX7 94 RX7 yX7_copyPart wsX7_copyPart) := goodIn_app (goodIn_of _ (by decide +kernel)) ggX7_unpack_X7_copyPart
theorem dX7_unpack_73 : decode cX7_unpack 73 = .ok (.invokevirtual 164, 3) := by decide +kernel
theorem dX7_unpack_90 : decode cX7_unpack 90 = .ok (.invokevirtual 188, 3) := by decide +kernel
theorem dX7_unpack_99 : decode cX7_unpack 99 = .ok (.invokevirtual 191, 3) := by decide +kernel
theorem dX7_unpack_206 : decode cX7_unpack 206 = .ok (.invokevirtual 94, 3) := by decide +kernel
theorem dX7_unpack_221 : decode cX7_unpack 221 = .ok (.invokevirtual 94, 3) := by decide +kernel
set_option maxRecDepth 20000 in
theorem ggX7_byteOf_X7_partOf : GoodIn wsX7_byteOf wsX7_partOf := goodIn_r _ [7, 8, 9, 10, 11, 12, 13, 14, 15, 16, 17, 18, 19, 20, 21, 22, 23, 24, 25, 26, 27, 28, 29, 30, 31, 32, 33, 34, 35, 36, 37, 38, 39, 40] (by decide +kernel) (by decide +kernel)
set_option maxRecDepth 20000 in
theorem gX7_byteOf_X7_partOf : GoodIn wsX7_byteOf (wsV RX7 197 RX7 yX7_partOf wsX7_partOf) := goodIn_app (goodIn_of _ (by decide +kernel)) ggX7_byteOf_X7_partOf
theorem dX7_byteOf_28 : decode cX7_byteOf 28 = .ok (.invokevirtual 197, 3) := by decide +kernel
set_option maxRecDepth 20000 in
theorem ggX7_entry_X7_isEntry : GoodIn wsX7_entry wsX7_isEntry := goodIn_r _ [6, 7, 18, 19, 20, 21, 22, 23, 24, 25, 26, 27, 28, 29, 30, 31, 32, 33, 34, 35, 36, 37, 38, 39, 40, 41, 42, 43, 44, 45, 46, 47, 48] (by decide +kernel) (by decide +kernel)
set_option maxRecDepth 20000 in
theorem gX7_entry_X7_isEntry : GoodIn wsX7_entry (wsV RX7 200 RX7 yX7_isEntry wsX7_isEntry) := goodIn_app (goodIn_of _ (by decide +kernel)) ggX7_entry_X7_isEntry
set_option maxRecDepth 20000 in
theorem ggX7_entry_X7_slot : GoodIn wsX7_entry wsX7_slot := goodIn_r _ [11, 12, 18, 19, 20, 21, 22, 23, 24, 25, 26, 27, 28, 29, 30, 31, 32, 33, 34, 35, 36, 37, 38, 39, 40, 41, 42, 43, 44, 45, 46, 47, 48] (by decide +kernel) (by decide +kernel)
set_option maxRecDepth 20000 in
theorem gX7_entry_X7_slot : GoodIn wsX7_entry (wsV RX7 82 RX7 yX7_slot wsX7_slot) := goodIn_app (goodIn_of _ (by decide +kernel)) ggX7_entry_X7_slot
set_option maxRecDepth 20000 in
theorem ggX7_entry_X7_size : GoodIn wsX7_entry wsX7_size := goodIn_r _ [16, 17, 18, 19, 20, 21, 22, 23, 24, 25, 26, 27, 28, 29, 30, 31, 32, 33, 34, 35, 36, 37, 38, 39, 40, 41, 42, 43, 44, 45, 46, 47, 48] (by decide +kernel) (by decide +kernel)
set_option maxRecDepth 20000 in
theorem gX7_entry_X7_size : GoodIn wsX7_entry (wsV RX7 86 RX7 yX7_size wsX7_size) := goodIn_app (goodIn_of _ (by decide +kernel)) ggX7_entry_X7_size
theorem dX7_entry_8 : decode cX7_entry 8 = .ok (.invokevirtual 200, 3) := by decide +kernel
theorem dX7_entry_18 : decode cX7_entry 18 = .ok (.invokevirtual 82, 3) := by decide +kernel
theorem dX7_entry_21 : decode cX7_entry 21 = .ok (.invokevirtual 86, 3) := by decide +kernel
set_option maxRecDepth 20000 in
theorem ggX7_entryByte_X7_isEntry : GoodIn wsX7_entryByte wsX7_isEntry := goodIn_r _ [6, 7, 19, 20, 21, 22, 23, 24, 25, 26, 27, 28, 29, 30, 31, 32, 33, 34, 35, 36, 37, 38, 39, 40, 41, 42, 43, 44, 45, 46, 47, 48, 49] (by decide +kernel) (by decide +kernel)
set_option maxRecDepth 20000 in
theorem gX7_entryByte_X7_isEntry : GoodIn wsX7_entryByte (wsV RX7 200 RX7 yX7_isEntry wsX7_isEntry) := goodIn_app (goodIn_of _ (by decide +kernel)) ggX7_entryByte_X7_isEntry
set_option maxRecDepth 20000 in
theorem ggX7_entryByte_X7_slot : GoodIn wsX7_entryByte wsX7_slot := goodIn_r _ [11, 12, 19, 20, 21, 22, 23, 24, 25, 26, 27, 28, 29, 30, 31, 32, 33, 34, 35, 36, 37, 38, 39, 40, 41, 42, 43, 44, 45, 46, 47, 48, 49] (by decide +kernel) (by decide +kernel)
set_option maxRecDepth 20000 in
theorem gX7_entryByte_X7_slot : GoodIn wsX7_entryByte (wsV RX7 82 RX7 yX7_slot wsX7_slot) := goodIn_app (goodIn_of _ (by decide +kernel)) ggX7_entryByte_X7_slot
set_option maxRecDepth 20000 in
theorem ggX7_entryByte_X7_partOf : GoodIn wsX7_entryByte wsX7_partOf := goodIn_r _ [16, 17, 18, 19, 20, 21, 22, 23, 24, 25, 26, 27, 28, 29, 30, 31, 32, 33, 34, 35, 36, 37, 38, 39, 40, 41, 42, 43, 44, 45, 46, 47, 48, 49] (by decide +kernel) (by decide +kernel)
set_option maxRecDepth 20000 in
theorem gX7_entryByte_X7_partOf : GoodIn wsX7_entryByte (wsV RX7 197 RX7 yX7_partOf wsX7_partOf) := goodIn_app (goodIn_of _ (by decide +kernel)) ggX7_entryByte_X7_partOf
theorem dX7_entryByte_8 : decode cX7_entryByte 8 = .ok (.invokevirtual 200, 3) := by decide +kernel
theorem dX7_entryByte_18 : decode cX7_entryByte 18 = .ok (.invokevirtual 82, 3) := by decide +kernel
theorem dX7_entryByte_24 : decode cX7_entryByte 24 = .ok (.invokevirtual 197, 3) := by decide +kernel
set_option maxRecDepth 20000 in
theorem ggJ0_length_8abf5_J0_coder_7d493 : GoodIn wsJ0_length_8abf5 wsJ0_coder_7d493 := goodIn_r _ [6, 7, 8] (by decide +kernel) (by decide +kernel)
set_option maxRecDepth 20000 in
theorem gJ0_length_8abf5_J0_coder_7d493 : GoodIn wsJ0_length_8abf5 (wsV RJ0 335 RJ0 yJ0_coder_7d493 wsJ0_coder_7d493) := goodIn_app (goodIn_of _ (by decide +kernel)) ggJ0_length_8abf5_J0_coder_7d493
theorem dJ0_length_8abf5_6 : decode cJ0_length_8abf5 6 = .ok (.invokevirtual 335, 3) := by decide +kernel
set_option maxRecDepth 20000 in
theorem ggJ0_charAt_5068e_J0_isLatin1_aae02 : GoodIn wsJ0_charAt_5068e wsJ0_isLatin1_aae02 := goodIn_r _ [6, 7, 8] (by decide +kernel) (by decide +kernel)
set_option maxRecDepth 20000 in
theorem gJ0_charAt_5068e_J0_isLatin1_aae02 : GoodIn wsJ0_charAt_5068e (wsV RJ0 492 RJ0 yJ0_isLatin1_aae02 wsJ0_isLatin1_aae02) := goodIn_app (goodIn_of _ (by decide +kernel)) ggJ0_charAt_5068e_J0_isLatin1_aae02
set_option maxRecDepth 20000 in
theorem ggJ0_charAt_5068e_J1_charAt_3b067 : GoodIn wsJ0_charAt_5068e wsJ1_charAt_3b067 := goodIn_r _ [12, 13, 14, 5, 15, 16, 17, 18, 19, 20] (by decide +kernel) (by decide +kernel)
set_option maxRecDepth 20000 in
theorem gJ0_charAt_5068e_J1_charAt_3b067 : GoodIn wsJ0_charAt_5068e (va_wsS RJ0 495 yJ1_charAt_3b067 wsJ1_charAt_3b067) := goodIn_app (goodIn_of _ (by decide +kernel)) ggJ0_charAt_5068e_J1_charAt_3b067
set_option maxRecDepth 20000 in
theorem ggJ0_charAt_5068e_J2_charAt_3b067 : GoodIn wsJ0_charAt_5068e wsJ2_charAt_3b067 := goodIn_r _ [24, 25, 26, 23, 27, 28, 29, 30, 31, 14, 5, 15, 16, 17, 18, 19, 20, 32, 33, 34, 35, 36, 37] (by decide +kernel) (by decide +kernel)
set_option maxRecDepth 20000 in
theorem gJ0_charAt_5068e_J2_charAt_3b067 : GoodIn wsJ0_charAt_5068e (va_wsS RJ0 498 yJ2_charAt_3b067 wsJ2_charAt_3b067) := goodIn_app (goodIn_of _ (by decide +kernel)) ggJ0_charAt_5068e_J2_charAt_3b067
theorem dJ0_charAt_5068e_1 : decode cJ0_charAt_5068e 1 = .ok (.invokevirtual 492, 3) := by decide +kernel
theorem dJ0_charAt_5068e_12 : decode cJ0_charAt_5068e 12 = .ok (.invokestatic 495, 3) := by decide +kernel
theorem dJ0_charAt_5068e_21 : decode cJ0_charAt_5068e 21 = .ok (.invokestatic 498, 3) := by decide +kernel
set_option maxRecDepth 20000 in
theorem ggJ0_indexOf_0f7a4_J0_indexOf_7cf53 : GoodIn wsJ0_indexOf_0f7a4 wsJ0_indexOf_7cf53 := goodIn_r _ [5, 6, 7, 8, 9, 4, 10, 11, 12, 13, 14, 15, 16, 17, 18, 19, 20, 21, 22, 23, 24, 25, 26, 27, 28, 29, 30, 31, 32, 33, 34, 35, 36, 37, 38, 39, 40, 41, 42, 43, 44, 45, 46, 47, 48, 49, 50, 51, 52, 53, 54, 55, 56, 57, 58, 59, 60, 61, 62, 63, 64, 65, 66, 67, 68, 69, 70, 71, 72, 73, 74, 75, 76, 77, 78, 79, 80, 81, 82, 83, 84, 85] (by decide +kernel) (by decide +kernel)
set_option maxRecDepth 20000 in
theorem gJ0_indexOf_0f7a4_J0_indexOf_7cf53 : GoodIn wsJ0_indexOf_0f7a4 (wsV RJ0 633 RJ0 yJ0_indexOf_7cf53 wsJ0_indexOf_7cf53) := goodIn_app (goodIn_of _ (by decide +kernel)) ggJ0_indexOf_0f7a4_J0_indexOf_7cf53
theorem dJ0_indexOf_0f7a4_3 : decode cJ0_indexOf_0f7a4 3 = .ok (.invokevirtual 633, 3) := by decide +kernel
set_option maxRecDepth 20000 in
theorem ggJ0_indexOf_7cf53_J0_isLatin1_aae02 : GoodIn wsJ0_indexOf_7cf53 wsJ0_isLatin1_aae02 := goodIn_r _ [6, 7, 8] (by decide +kernel) (by decide +kernel)
set_option maxRecDepth 20000 in
theorem gJ0_indexOf_7cf53_J0_isLatin1_aae02 : GoodIn wsJ0_indexOf_7cf53 (wsV RJ0 492 RJ0 yJ0_isLatin1_aae02 wsJ0_isLatin1_aae02) := goodIn_app (goodIn_of _ (by decide +kernel)) ggJ0_indexOf_7cf53_J0_isLatin1_aae02
set_option maxRecDepth 20000 in
theorem ggJ0_indexOf_7cf53_J0_length_8abf5 : GoodIn wsJ0_indexOf_7cf53 wsJ0_length_8abf5 := goodIn_r _ [12, 1, 13, 14, 15, 5, 16, 7, 8] (by decide +kernel) (by decide +kernel)
set_option maxRecDepth 20000 in
theorem gJ0_indexOf_7cf53_J0_length_8abf5 : GoodIn wsJ0_indexOf_7cf53 (wsV RJ0 505 RJ0 yJ0_length_8abf5 wsJ0_length_8abf5) := goodIn_app (goodIn_of _ (by decide +kernel)) ggJ0_indexOf_7cf53_J0_length_8abf5
set_option maxRecDepth 20000 in
theorem ggJ0_indexOf_7cf53_J1_indexOf_4cfef : GoodIn wsJ0_indexOf_7cf53 wsJ1_indexOf_4cfef := goodIn_r _ [20, 21, 22, 23, 24, 25, 26, 27, 28, 29, 19, 30, 31, 32, 33] (by decide +kernel) (by decide +kernel)
set_option maxRecDepth 20000 in
theorem gJ0_indexOf_7cf53_J1_indexOf_4cfef : GoodIn wsJ0_indexOf_7cf53 (va_wsS RJ0 637 yJ1_indexOf_4cfef wsJ1_indexOf_4cfef) := goodIn_app (goodIn_of _ (by decide +kernel)) ggJ0_indexOf_7cf53_J1_indexOf_4cfef
set_option maxRecDepth 20000 in
theorem ggJ0_indexOf_7cf53_J2_indexOf_4cfef : GoodIn wsJ0_indexOf_7cf53 wsJ2_indexOf_4cfef := goodIn_r _ [37, 38, 22, 23, 24, 39, 26, 27, 40, 41, 42, 36, 43, 44, 45, 46, 47, 48, 49, 50, 51, 5, 52, 53, 54, 55, 56, 57, 58, 59, 60, 61, 62, 63, 64, 65, 66, 67, 68, 69, 70, 71, 72, 73, 74, 75, 76, 77, 78, 79, 80, 81] (by decide +kernel) (by decide +kernel)
set_option maxRecDepth 20000 in
theorem gJ0_indexOf_7cf53_J2_indexOf_4cfef : GoodIn wsJ0_indexOf_7cf53 (va_wsS RJ0 640 yJ2_indexOf_4cfef wsJ2_indexOf_4cfef) := goodIn_app (goodIn_of _ (by decide +kernel)) ggJ0_indexOf_7cf53_J2_indexOf_4cfef
theorem dJ0_indexOf_7cf53_1 : decode cJ0_indexOf_7cf53 1 = .ok (.invokevirtual 492, 3) := by decide +kernel
theorem dJ0_indexOf_7cf53_14 : decode cJ0_indexOf_7cf53 14 = .ok (.invokevirtual 505, 3) := by decide +kernel
theorem dJ0_indexOf_7cf53_17 : decode cJ0_indexOf_7cf53 17 = .ok (.invokestatic 637, 3) := by decide +kernel
theorem dJ0_indexOf_7cf53_30 : decode cJ0_indexOf_7cf53 30 = .ok (.invokevirtual 505, 3) := by decide +kernel
theorem dJ0_indexOf_7cf53_33 : decode cJ0_indexOf_7cf53 33 = .ok (.invokestatic 640, 3) := by decide +kernel
set_option maxRecDepth 20000 in
theorem ggJ0_checkIndex_df160_J3_checkIndex_8e157 : GoodIn wsJ0_checkIndex_df160 wsJ3_checkIndex_8e157 := goodIn_r _ [5] (by decide +kernel) (by decide +kernel)
set_option maxRecDepth 20000 in
theorem gJ0_checkIndex_df160_J3_checkIndex_8e157 : GoodIn wsJ0_checkIndex_df160 (va_wsS RJ0 1059 yJ3_checkIndex_8e157 wsJ3_checkIndex_8e157) := goodIn_app (goodIn_of _ (by decide +kernel)) ggJ0_checkIndex_df160_J3_checkIndex_8e157
theorem dJ0_checkIndex_df160_5 : decode cJ0_checkIndex_df160 5 = .ok (.invokestatic 1059, 3) := by decide +kernel
set_option maxRecDepth 20000 in
theorem ggJ0_checkBoundsBeginEnd_23922_J3_checkFromToIndex_8c36e : GoodIn wsJ0_checkBoundsBeginEnd_23922 wsJ3_checkFromToIndex_8c36e := goodIn_r _ [5] (by decide +kernel) (by decide +kernel)
set_option maxRecDepth 20000 in
theorem gJ0_checkBoundsBeginEnd_23922_J3_checkFromToIndex_8c36e : GoodIn wsJ0_checkBoundsBeginEnd_23922 (va_wsS RJ0 1062 yJ3_checkFromToIndex_8c36e wsJ3_checkFromToIndex_8c36e) := goodIn_app (goodIn_of _ (by decide +kernel)) ggJ0_checkBoundsBeginEnd_23922_J3_checkFromToIndex_8c36e
theorem dJ0_checkBoundsBeginEnd_23922_6 : decode cJ0_checkBoundsBeginEnd_23922 6 = .ok (.invokestatic 1062, 3) := by decide +kernel
set_option maxRecDepth 20000 in
theorem ggJ1_charAt_3b067_J0_checkIndex_df160 : GoodIn wsJ1_charAt_3b067 wsJ0_checkIndex_df160 := goodIn_r _ [4, 5, 6, 7, 8, 9] (by decide +kernel) (by decide +kernel)
set_option maxRecDepth 20000 in
theorem gJ1_charAt_3b067_J0_checkIndex_df160 : GoodIn wsJ1_charAt_3b067 (va_wsS RJ1 9 yJ0_checkIndex_df160 wsJ0_checkIndex_df160) := goodIn_app (goodIn_of _ (by decide +kernel)) ggJ1_charAt_3b067_J0_checkIndex_df160
theorem dJ1_charAt_3b067_3 : decode cJ1_charAt_3b067 3 = .ok (.invokestatic 9, 3) := by decide +kernel
set_option maxRecDepth 20000 in
theorem ggJ1_indexOf_4cfef_J1_canEncode_9a6ad : GoodIn wsJ1_indexOf_4cfef wsJ1_canEncode_9a6ad := goodIn_r _ [11] (by decide +kernel) (by decide +kernel)
set_option maxRecDepth 20000 in
theorem gJ1_indexOf_4cfef_J1_canEncode_9a6ad : GoodIn wsJ1_indexOf_4cfef (va_wsS RJ1 88 yJ1_canEncode_9a6ad wsJ1_canEncode_9a6ad) := goodIn_app (goodIn_of _ (by decide +kernel)) ggJ1_indexOf_4cfef_J1_canEncode_9a6ad
set_option maxRecDepth 20000 in
theorem ggJ1_indexOf_4cfef_J1_indexOfChar_4cfef : GoodIn wsJ1_indexOf_4cfef wsJ1_indexOfChar_4cfef := goodIn_r _ [14] (by decide +kernel) (by decide +kernel)
set_option maxRecDepth 20000 in
theorem gJ1_indexOf_4cfef_J1_indexOfChar_4cfef : GoodIn wsJ1_indexOf_4cfef (va_wsS RJ1 95 yJ1_indexOfChar_4cfef wsJ1_indexOfChar_4cfef) := goodIn_app (goodIn_of _ (by decide +kernel)) ggJ1_indexOf_4cfef_J1_indexOfChar_4cfef
theorem dJ1_indexOf_4cfef_1 : decode cJ1_indexOf_4cfef 1 = .ok (.invokestatic 88, 3) := by decide +kernel
theorem dJ1_indexOf_4cfef_11 : decode cJ1_indexOf_4cfef 11 = .ok (.invokestatic 92, 3) := by decide +kernel
theorem dJ1_indexOf_4cfef_18 : decode cJ1_indexOf_4cfef 18 = .ok (.invokestatic 38, 3) := by decide +kernel
theorem dJ1_indexOf_4cfef_33 : decode cJ1_indexOf_4cfef 33 = .ok (.invokestatic 95, 3) := by decide +kernel
set_option maxRecDepth 20000 in
theorem ggJ2_getChar_3b067_J2_length_9d52b : GoodIn wsJ2_getChar_3b067 wsJ2_length_9d52b := goodIn_r _ [7] (by decide +kernel) (by decide +kernel)
set_option maxRecDepth 20000 in
theorem gJ2_getChar_3b067_J2_length_9d52b : GoodIn wsJ2_getChar_3b067 (va_wsS RJ2 48 yJ2_length_9d52b wsJ2_length_9d52b) := goodIn_app (goodIn_of _ (by decide +kernel)) ggJ2_getChar_3b067_J2_length_9d52b
theorem dJ2_getChar_3b067_12 : decode cJ2_getChar_3b067 12 = .ok (.invokestatic 48, 3) := by decide +kernel
theorem dJ2_getChar_3b067_24 : decode cJ2_getChar_3b067 24 = .ok (.invokespecial 56, 3) := by decide +kernel
set_option maxRecDepth 20000 in
theorem ggJ2_indexOf_4cfef_J2_indexOfChar_4cfef : GoodIn wsJ2_indexOf_4cfef wsJ2_indexOfChar_4cfef := goodIn_r _ [12, 13, 14, 11, 15, 16, 17, 18, 19, 20, 21, 22, 23, 24, 25, 26, 27, 28, 29, 30, 31, 32, 33, 34, 35, 36] (by decide +kernel) (by decide +kernel)
set_option maxRecDepth 20000 in
theorem gJ2_indexOf_4cfef_J2_indexOfChar_4cfef : GoodIn wsJ2_indexOf_4cfef (va_wsS RJ2 228 yJ2_indexOfChar_4cfef wsJ2_indexOfChar_4cfef) := goodIn_app (goodIn_of _ (by decide +kernel)) ggJ2_indexOf_4cfef_J2_indexOfChar_4cfef
set_option maxRecDepth 20000 in
theorem ggJ2_indexOf_4cfef_J2_indexOfSupplementary_4cfef : GoodIn wsJ2_indexOf_4cfef wsJ2_indexOfSupplementary_4cfef := goodIn_r _ [39, 40, 41, 42, 43, 44, 45, 46, 47, 48, 49, 50, 51, 13, 14, 11, 15, 16, 17, 18, 19, 20, 21, 22, 23, 24, 25, 26, 27, 31, 32, 33, 34, 35, 36] (by decide +kernel) (by decide +kernel)
set_option maxRecDepth 20000 in
theorem gJ2_indexOf_4cfef_J2_indexOfSupplementary_4cfef : GoodIn wsJ2_indexOf_4cfef (va_wsS RJ2 232 yJ2_indexOfSupplementary_4cfef wsJ2_indexOfSupplementary_4cfef) := goodIn_app (goodIn_of _ (by decide +kernel)) ggJ2_indexOf_4cfef_J2_indexOfSupplementary_4cfef
theorem dJ2_indexOf_4cfef_2 : decode cJ2_indexOf_4cfef 2 = .ok (.invokestatic 224, 3) := by decide +kernel
theorem dJ2_indexOf_4cfef_11 : decode cJ2_indexOf_4cfef 11 = .ok (.invokestatic 183, 3) := by decide +kernel
theorem dJ2_indexOf_4cfef_32 : decode cJ2_indexOf_4cfef 32 = .ok (.invokestatic 228, 3) := by decide +kernel
theorem dJ2_indexOf_4cfef_40 : decode cJ2_indexOf_4cfef 40 = .ok (.invokestatic 232, 3) := by decide +kernel
set_option maxRecDepth 20000 in
theorem ggJ2_indexOfChar_4cfef_J2_checkBoundsBeginEnd_d044e : GoodIn wsJ2_indexOfChar_4cfef wsJ2_checkBoundsBeginEnd_d044e := goodIn_r _ [4, 5, 6, 3, 7, 8, 9, 10, 11, 12, 13, 14, 15, 16] (by decide +kernel) (by decide +kernel)
set_option maxRecDepth 20000 in
theorem gJ2_indexOfChar_4cfef_J2_checkBoundsBeginEnd_d044e : GoodIn wsJ2_indexOfChar_4cfef (va_wsS RJ2 96 yJ2_checkBoundsBeginEnd_d044e wsJ2_checkBoundsBeginEnd_d044e) := goodIn_app (goodIn_of _ (by decide +kernel)) ggJ2_indexOfChar_4cfef_J2_checkBoundsBeginEnd_d044e
set_option maxRecDepth 20000 in
theorem ggJ2_indexOfChar_4cfef_J2_indexOfCharUnsafe_4cfef : GoodIn wsJ2_indexOfChar_4cfef wsJ2_indexOfCharUnsafe_4cfef := goodIn_r _ [19, 20, 21, 3, 22, 23, 24, 25, 5, 6, 7] (by decide +kernel) (by decide +kernel)
set_option maxRecDepth 20000 in
theorem gJ2_indexOfChar_4cfef_J2_indexOfCharUnsafe_4cfef : GoodIn wsJ2_indexOfChar_4cfef (va_wsS RJ2 244 yJ2_indexOfCharUnsafe_4cfef wsJ2_indexOfCharUnsafe_4cfef) := goodIn_app (goodIn_of _ (by decide +kernel)) ggJ2_indexOfChar_4cfef_J2_indexOfCharUnsafe_4cfef
theorem dJ2_indexOfChar_4cfef_3 : decode cJ2_indexOfChar_4cfef 3 = .ok (.invokestatic 96, 3) := by decide +kernel
theorem dJ2_indexOfChar_4cfef_10 : decode cJ2_indexOfChar_4cfef 10 = .ok (.invokestatic 244, 3) := by decide +kernel
set_option maxRecDepth 20000 in
theorem ggJ2_indexOfCharUnsafe_4cfef_J2_getChar_3b067 : GoodIn wsJ2_indexOfCharUnsafe_4cfef wsJ2_getChar_3b067 := goodIn_r _ [4, 5, 6, 7, 8, 9, 3, 10] (by decide +kernel) (by decide +kernel)
set_option maxRecDepth 20000 in
theorem gJ2_indexOfCharUnsafe_4cfef_J2_getChar_3b067 : GoodIn wsJ2_indexOfCharUnsafe_4cfef (va_wsS RJ2 71 yJ2_getChar_3b067 wsJ2_getChar_3b067) := goodIn_app (goodIn_of _ (by decide +kernel)) ggJ2_indexOfCharUnsafe_4cfef_J2_getChar_3b067
theorem dJ2_indexOfCharUnsafe_4cfef_12 : decode cJ2_indexOfCharUnsafe_4cfef 12 = .ok (.invokestatic 71, 3) := by decide +kernel
set_option maxRecDepth 20000 in
theorem ggJ2_indexOfSupplementary_4cfef_J11_isValidCodePoint_9a6ad : GoodIn wsJ2_indexOfSupplementary_4cfef wsJ11_isValidCodePoint_9a6ad := goodIn_r _ [4] (by decide +kernel) (by decide +kernel)
set_option maxRecDepth 20000 in
theorem gJ2_indexOfSupplementary_4cfef_J11_isValidCodePoint_9a6ad : GoodIn wsJ2_indexOfSupplementary_4cfef (va_wsS RJ2 164 yJ11_isValidCodePoint_9a6ad wsJ11_isValidCodePoint_9a6ad) := goodIn_app (goodIn_of _ (by decide +kernel)) ggJ2_indexOfSupplementary_4cfef_J11_isValidCodePoint_9a6ad
set_option maxRecDepth 20000 in
theorem ggJ2_indexOfSupplementary_4cfef_J11_highSurrogate_5068e : GoodIn wsJ2_indexOfSupplementary_4cfef wsJ11_highSurrogate_5068e := goodIn_r _ [7, 8] (by decide +kernel) (by decide +kernel)
set_option maxRecDepth 20000 in
theorem gJ2_indexOfSupplementary_4cfef_J11_highSurrogate_5068e : GoodIn wsJ2_indexOfSupplementary_4cfef (va_wsS RJ2 157 yJ11_highSurrogate_5068e wsJ11_highSurrogate_5068e) := goodIn_app (goodIn_of _ (by decide +kernel)) ggJ2_indexOfSupplementary_4cfef_J11_highSurrogate_5068e
set_option maxRecDepth 20000 in
theorem ggJ2_indexOfSupplementary_4cfef_J11_lowSurrogate_5068e : GoodIn wsJ2_indexOfSupplementary_4cfef wsJ11_lowSurrogate_5068e := goodIn_r _ [11, 12] (by decide +kernel) (by decide +kernel)
set_option maxRecDepth 20000 in
theorem gJ2_indexOfSupplementary_4cfef_J11_lowSurrogate_5068e : GoodIn wsJ2_indexOfSupplementary_4cfef (va_wsS RJ2 161 yJ11_lowSurrogate_5068e wsJ11_lowSurrogate_5068e) := goodIn_app (goodIn_of _ (by decide +kernel)) ggJ2_indexOfSupplementary_4cfef_J11_lowSurrogate_5068e
set_option maxRecDepth 20000 in
theorem ggJ2_indexOfSupplementary_4cfef_J2_checkBoundsBeginEnd_d044e : GoodIn wsJ2_indexOfSupplementary_4cfef wsJ2_checkBoundsBeginEnd_d044e := goodIn_r _ [16, 17, 18, 15, 19, 20, 21, 22, 23, 24, 25, 26, 27, 28] (by decide +kernel) (by decide +kernel)
set_option maxRecDepth 20000 in
theorem gJ2_indexOfSupplementary_4cfef_J2_checkBoundsBeginEnd_d044e : GoodIn wsJ2_indexOfSupplementary_4cfef (va_wsS RJ2 96 yJ2_checkBoundsBeginEnd_d044e wsJ2_checkBoundsBeginEnd_d044e) := goodIn_app (goodIn_of _ (by decide +kernel)) ggJ2_indexOfSupplementary_4cfef_J2_checkBoundsBeginEnd_d044e
set_option maxRecDepth 20000 in
theorem ggJ2_indexOfSupplementary_4cfef_J2_getChar_3b067 : GoodIn wsJ2_indexOfSupplementary_4cfef wsJ2_getChar_3b067 := goodIn_r _ [31, 32, 33, 34, 17, 18, 15, 19] (by decide +kernel) (by decide +kernel)
set_option maxRecDepth 20000 in
theorem gJ2_indexOfSupplementary_4cfef_J2_getChar_3b067 : GoodIn wsJ2_indexOfSupplementary_4cfef (va_wsS RJ2 71 yJ2_getChar_3b067 wsJ2_getChar_3b067) := goodIn_app (goodIn_of _ (by decide +kernel)) ggJ2_indexOfSupplementary_4cfef_J2_getChar_3b067
theorem dJ2_indexOfSupplementary_4cfef_1 : decode cJ2_indexOfSupplementary_4cfef 1 = .ok (.invokestatic 164, 3) := by decide +kernel
theorem dJ2_indexOfSupplementary_4cfef_8 : decode cJ2_indexOfSupplementary_4cfef 8 = .ok (.invokestatic 157, 3) := by decide +kernel
theorem dJ2_indexOfSupplementary_4cfef_14 : decode cJ2_indexOfSupplementary_4cfef 14 = .ok (.invokestatic 161, 3) := by decide +kernel
theorem dJ2_indexOfSupplementary_4cfef_22 : decode cJ2_indexOfSupplementary_4cfef 22 = .ok (.invokestatic 96, 3) := by decide +kernel
theorem dJ2_indexOfSupplementary_4cfef_39 : decode cJ2_indexOfSupplementary_4cfef 39 = .ok (.invokestatic 71, 3) := by decide +kernel
theorem dJ2_indexOfSupplementary_4cfef_52 : decode cJ2_indexOfSupplementary_4cfef 52 = .ok (.invokestatic 71, 3) := by decide +kernel
set_option maxRecDepth 20000 in
theorem ggJ2_charAt_3b067_J2_checkIndex_2214a : GoodIn wsJ2_charAt_3b067 wsJ2_checkIndex_2214a := goodIn_r _ [4, 5, 6, 3, 7, 8, 9, 10, 11, 12, 13, 14, 15, 16] (by decide +kernel) (by decide +kernel)
set_option maxRecDepth 20000 in
theorem gJ2_charAt_3b067_J2_checkIndex_2214a : GoodIn wsJ2_charAt_3b067 (va_wsS RJ2 67 yJ2_checkIndex_2214a wsJ2_checkIndex_2214a) := goodIn_app (goodIn_of _ (by decide +kernel)) ggJ2_charAt_3b067_J2_checkIndex_2214a
set_option maxRecDepth 20000 in
theorem ggJ2_charAt_3b067_J2_getChar_3b067 : GoodIn wsJ2_charAt_3b067 wsJ2_getChar_3b067 := goodIn_r _ [19, 20, 21, 22, 5, 6, 3, 7] (by decide +kernel) (by decide +kernel)
set_option maxRecDepth 20000 in
theorem gJ2_charAt_3b067_J2_getChar_3b067 : GoodIn wsJ2_charAt_3b067 (va_wsS RJ2 71 yJ2_getChar_3b067 wsJ2_getChar_3b067) := goodIn_app (goodIn_of _ (by decide +kernel)) ggJ2_charAt_3b067_J2_getChar_3b067
theorem dJ2_charAt_3b067_2 : decode cJ2_charAt_3b067 2 = .ok (.invokestatic 67, 3) := by decide +kernel
theorem dJ2_charAt_3b067_7 : decode cJ2_charAt_3b067 7 = .ok (.invokestatic 71, 3) := by decide +kernel
set_option maxRecDepth 20000 in
theorem ggJ2_checkIndex_2214a_J2_length_9d52b : GoodIn wsJ2_checkIndex_2214a wsJ2_length_9d52b := goodIn_r _ [4] (by decide +kernel) (by decide +kernel)
set_option maxRecDepth 20000 in
theorem gJ2_checkIndex_2214a_J2_length_9d52b : GoodIn wsJ2_checkIndex_2214a (va_wsS RJ2 48 yJ2_length_9d52b wsJ2_length_9d52b) := goodIn_app (goodIn_of _ (by decide +kernel)) ggJ2_checkIndex_2214a_J2_length_9d52b
set_option maxRecDepth 20000 in
theorem ggJ2_checkIndex_2214a_J0_checkIndex_df160 : GoodIn wsJ2_checkIndex_2214a wsJ0_checkIndex_df160 := goodIn_r _ [8, 9, 10, 11, 12, 13] (by decide +kernel) (by decide +kernel)
set_option maxRecDepth 20000 in
theorem gJ2_checkIndex_2214a_J0_checkIndex_df160 : GoodIn wsJ2_checkIndex_2214a (va_wsS RJ2 414 yJ0_checkIndex_df160 wsJ0_checkIndex_df160) := goodIn_app (goodIn_of _ (by decide +kernel)) ggJ2_checkIndex_2214a_J0_checkIndex_df160
theorem dJ2_checkIndex_2214a_2 : decode cJ2_checkIndex_2214a 2 = .ok (.invokestatic 48, 3) := by decide +kernel
theorem dJ2_checkIndex_2214a_5 : decode cJ2_checkIndex_2214a 5 = .ok (.invokestatic 414, 3) := by decide +kernel
set_option maxRecDepth 20000 in
theorem ggJ2_checkBoundsBeginEnd_d044e_J2_length_9d52b : GoodIn wsJ2_checkBoundsBeginEnd_d044e wsJ2_length_9d52b := goodIn_r _ [4] (by decide +kernel) (by decide +kernel)
set_option maxRecDepth 20000 in
theorem gJ2_checkBoundsBeginEnd_d044e_J2_length_9d52b : GoodIn wsJ2_checkBoundsBeginEnd_d044e (va_wsS RJ2 48 yJ2_length_9d52b wsJ2_length_9d52b) := goodIn_app (goodIn_of _ (by decide +kernel)) ggJ2_checkBoundsBeginEnd_d044e_J2_length_9d52b
set_option maxRecDepth 20000 in
theorem ggJ2_checkBoundsBeginEnd_d044e_J0_checkBoundsBeginEnd_23922 : GoodIn wsJ2_checkBoundsBeginEnd_d044e wsJ0_checkBoundsBeginEnd_23922 := goodIn_r _ [8, 9, 10, 11, 12, 13] (by decide +kernel) (by decide +kernel)
set_option maxRecDepth 20000 in
theorem gJ2_checkBoundsBeginEnd_d044e_J0_checkBoundsBeginEnd_23922 : GoodIn wsJ2_checkBoundsBeginEnd_d044e (va_wsS RJ2 241 yJ0_checkBoundsBeginEnd_23922 wsJ0_checkBoundsBeginEnd_23922) := goodIn_app (goodIn_of _ (by decide +kernel)) ggJ2_checkBoundsBeginEnd_d044e_J0_checkBoundsBeginEnd_23922
theorem dJ2_checkBoundsBeginEnd_d044e_3 : decode cJ2_checkBoundsBeginEnd_d044e 3 = .ok (.invokestatic 48, 3) := by decide +kernel
theorem dJ2_checkBoundsBeginEnd_d044e_6 : decode cJ2_checkBoundsBeginEnd_d044e 6 = .ok (.invokestatic 241, 3) := by decide +kernel
theorem dJ7_copyOf_59c91_7 : decode cJ7_copyOf_59c91 7 = .ok (.invokevirtual 316, 3) := by decide +kernel
theorem dJ7_copyOf_59c91_25 : decode cJ7_copyOf_59c91 25 = .ok (.invokestatic 304, 3) := by decide +kernel
theorem dJ7_copyOf_59c91_28 : decode cJ7_copyOf_59c91 28 = .ok (.invokestatic 150, 3) := by decide +kernel
theorem dJ7_checkLength_df160_13 : decode cJ7_checkLength_df160 13 = .ok (.invokespecial 47, 3) := by decide +kernel
theorem dJ7_checkLength_df160_17 : decode cJ7_checkLength_df160 17 = .ok (.invokevirtual 54, 3) := by decide +kernel
theorem dJ7_checkLength_df160_23 : decode cJ7_checkLength_df160 23 = .ok (.invokevirtual 50, 3) := by decide +kernel
theorem dJ7_checkLength_df160_27 : decode cJ7_checkLength_df160 27 = .ok (.invokevirtual 54, 3) := by decide +kernel
theorem dJ7_checkLength_df160_30 : decode cJ7_checkLength_df160 30 = .ok (.invokevirtual 61, 3) := by decide +kernel
theorem dJ7_checkLength_df160_33 : decode cJ7_checkLength_df160 33 = .ok (.invokespecial 65, 3) := by decide +kernel
set_option maxRecDepth 20000 in
theorem ggJ7_copyOfRange_feecc_J7_copyOfRangeInt_feecc : GoodIn wsJ7_copyOfRange_feecc wsJ7_copyOfRangeInt_feecc := goodIn_r _ [10, 11, 12, 13, 14, 15, 16, 17, 18, 19, 20, 21, 9, 22] (by decide +kernel) (by decide +kernel)
set_option maxRecDepth 20000 in
theorem gJ7_copyOfRange_feecc_J7_copyOfRangeInt_feecc : GoodIn wsJ7_copyOfRange_feecc (va_wsS RJ7 351 yJ7_copyOfRangeInt_feecc wsJ7_copyOfRangeInt_feecc) := goodIn_app (goodIn_of _ (by decide +kernel)) ggJ7_copyOfRange_feecc_J7_copyOfRangeInt_feecc
theorem dJ7_copyOfRange_feecc_13 : decode cJ7_copyOfRange_feecc 13 = .ok (.invokestatic 351, 3) := by decide +kernel
theorem dJ7_copyOfRange_feecc_18 : decode cJ7_copyOfRange_feecc 18 = .ok (.invokevirtual 316, 3) := by decide +kernel
set_option maxRecDepth 20000 in
theorem ggJ7_copyOfRangeInt_feecc_J7_checkLength_df160 : GoodIn wsJ7_copyOfRangeInt_feecc wsJ7_checkLength_df160 := goodIn_r _ [13] (by decide +kernel) (by decide +kernel)
set_option maxRecDepth 20000 in
theorem gJ7_copyOfRangeInt_feecc_J7_checkLength_df160 : GoodIn wsJ7_copyOfRangeInt_feecc (va_wsS RJ7 343 yJ7_checkLength_df160 wsJ7_checkLength_df160) := goodIn_app (goodIn_of _ (by decide +kernel)) ggJ7_copyOfRangeInt_feecc_J7_checkLength_df160
theorem dJ7_copyOfRangeInt_feecc_2 : decode cJ7_copyOfRangeInt_feecc 2 = .ok (.invokestatic 343, 3) := by decide +kernel
theorem dJ7_copyOfRangeInt_feecc_24 : decode cJ7_copyOfRangeInt_feecc 24 = .ok (.invokestatic 304, 3) := by decide +kernel
theorem dJ7_copyOfRangeInt_feecc_27 : decode cJ7_copyOfRangeInt_feecc 27 = .ok (.invokestatic 150, 3) := by decide +kernel
theorem dJ3_checkIndex_8e157_12 : decode cJ3_checkIndex_8e157 12 = .ok (.invokestatic 95, 3) := by decide +kernel
theorem dJ3_checkFromToIndex_8c36e_18 : decode cJ3_checkFromToIndex_8c36e 18 = .ok (.invokestatic 99, 3) := by decide +kernel
