/-! the tables' entries that the methods name -/
theorem cl_17_335 : xCal 17 335 = some (mJ0_coder_7d493, 0) := by rfl
theorem cl_17_492 : xCal 17 492 = some (mJ0_isLatin1_aae02, 0) := by rfl
theorem cl_17_495 : xCal 17 495 = some (mJ1_charAt_3b067, 2) := by rfl
theorem cl_18_9 : xCal 18 9 = some (mJ0_checkIndex_df160, 2) := by rfl
theorem cl_17_1059 : xCal 17 1059 = some (mJ3_checkIndex_8e157, 3) := by rfl
theorem fl_4_7 : xFld 4 7 = some (4, 0) := by decide +kernel
theorem fl_4_13 : xFld 4 13 = some (4, 1) := by decide +kernel
theorem fl_4_20 : xFld 4 20 = some (4, 2) := by decide +kernel
theorem fl_4_24 : xFld 4 24 = some (4, 3) := by decide +kernel
theorem cl_4_16 : xCal 4 16 = some (mX4_below, 1) := by rfl
theorem fl_3_11 : xFld 3 11 = some (3, 0) := by decide +kernel
theorem fl_3_17 : xFld 3 17 = some (3, 1) := by decide +kernel
theorem cl_3_21 : xCal 3 21 = some (mX4_init, 2) := by rfl
theorem cl_4_30 : xCal 4 30 = some (mX4_rowAt, 1) := by rfl
theorem cl_4_33 : xCal 4 33 = some (mX4_putRow, 2) := by rfl
theorem cl_4_43 : xCal 4 43 = some (mX4_clipped, 2) := by rfl
theorem cl_4_47 : xCal 4 47 = some (mX4_span, 2) := by rfl
theorem cl_4_37 : xCal 4 37 = some (mJ13_bitCount_95d88, 1) := by rfl
theorem cl_4_54 : xCal 4 54 = some (mX4_mirrored, 1) := by rfl
theorem cl_4_51 : xCal 4 51 = some (mX4_moved, 2) := by rfl
theorem cl_4_58 : xCal 4 58 = some (mX4_inkAround, 2) := by rfl
theorem cl_4_82 : xCal 4 82 = some (mX4_startsLine, 1) := by rfl
theorem fl_3_24 : xFld 3 24 = some (3, 3) := by decide +kernel
theorem fl_3_28 : xFld 3 28 = some (3, 2) := by decide +kernel
theorem cl_3_37 : xCal 3 37 = some (mX3_slotAt, 1) := by rfl
theorem cl_3_41 : xCal 3 41 = some (mX4_takeFrom, 1) := by rfl
theorem cl_3_31 : xCal 3 31 = some (mJ9_floorMod_7cf53, 2) := by rfl
theorem cl_4_78 : xCal 4 78 = some (mX4_linesUpTo, 1) := by rfl
theorem cl_4_86 : xCal 4 86 = some (mX4_lineEnd, 1) := by rfl
theorem fl_4_62 : xFld 4 62 = some (5, 5) := by decide +kernel
theorem fl_4_68 : xFld 4 68 = some (5, 2) := by decide +kernel
theorem fl_4_71 : xFld 4 71 = some (5, 3) := by decide +kernel
theorem fl_4_74 : xFld 4 74 = some (5, 0) := by decide +kernel
theorem cl_4_65 : xCal 4 65 = some (mX5_shapeRow, 1) := by rfl
theorem fl_0_9 : xFld 0 9 = some (0, 0) := by decide +kernel
theorem fl_0_15 : xFld 0 15 = some (0, 1) := by decide +kernel
theorem fl_0_18 : xFld 0 18 = some (0, 2) := by decide +kernel
theorem fl_0_22 : xFld 0 22 = some (0, 3) := by decide +kernel
theorem fl_10_9 : xFld 10 9 = some (10, 0) := by decide +kernel
theorem fl_2_13 : xFld 2 13 = some (2, 0) := by decide +kernel
theorem fl_2_19 : xFld 2 19 = some (2, 1) := by decide +kernel
theorem fl_2_22 : xFld 2 22 = some (2, 3) := by decide +kernel
theorem fl_2_25 : xFld 2 25 = some (2, 4) := by decide +kernel
theorem fl_10_15 : xFld 10 15 = some (10, 1) := by decide +kernel
theorem fl_2_43 : xFld 2 43 = some (2, 2) := by decide +kernel
theorem fl_2_46 : xFld 2 46 = some (2, 5) := by decide +kernel
theorem cl_2_49 : xCal 2 49 = some (mX11_length, 0) := by rfl
theorem cl_2_55 : xCal 2 55 = some (mX11_endOfLetters, 1) := by rfl
theorem cl_2_59 : xCal 2 59 = some (mX2_settingNamed, 3) := by rfl
theorem cl_2_63 : xCal 2 63 = some (mX11_codeAt, 1) := by rfl
theorem cl_2_66 : xCal 2 66 = some (mX11_endOfLettersAndDigits, 1) := by rfl
theorem cl_2_69 : xCal 2 69 = some (mX9_valueIn, 3) := by rfl
theorem cl_2_73 : xCal 2 73 = some (mX2_note, 2) := by rfl
theorem cl_10_23 : xCal 10 23 = some (mX11_codeAt, 1) := by rfl
theorem cl_10_31 : xCal 10 31 = some (mX11_isLetter, 1) := by rfl
theorem cl_2_81 : xCal 2 81 = some (mX11_matches, 3) := by rfl
theorem cl_10_34 : xCal 10 34 = some (mJ0_length_8abf5, 0) := by rfl
theorem cl_10_39 : xCal 10 39 = some (mJ0_charAt_5068e, 1) := by rfl
theorem cl_10_27 : xCal 10 27 = some (mX11_isDigit, 1) := by rfl
theorem cl_13_86 : xCal 13 86 = some (mX9_hasWords, 0) := by rfl
theorem cl_13_89 : xCal 13 89 = some (mX11_matches, 3) := by rfl
theorem cl_13_95 : xCal 13 95 = some (mX11_endOfDigits, 1) := by rfl
theorem cl_13_99 : xCal 13 99 = some (mX11_numberOf, 2) := by rfl
theorem cl_13_80 : xCal 13 80 = some (mJ0_isEmpty_aae02, 0) := by rfl
theorem cl_0_25 : xCal 0 25 = some (mX0_begin, 1) := by rfl
theorem cl_0_29 : xCal 0 29 = some (mX0_findNext, 0) := by rfl
theorem cl_0_33 : xCal 0 33 = some (mX0_pixels, 0) := by rfl
theorem cl_0_37 : xCal 0 37 = some (mX0_erase, 1) := by rfl
theorem fl_0_40 : xFld 0 40 = some (0, 4) := by decide +kernel
theorem fl_0_43 : xFld 0 43 = some (0, 5) := by decide +kernel
theorem cl_0_46 : xCal 0 46 = some (mX4_rowAt, 1) := by rfl
theorem cl_0_52 : xCal 0 52 = some (mX0_grow, 0) := by rfl
theorem cl_0_55 : xCal 0 55 = some (mX0_close, 0) := by rfl
theorem cl_0_58 : xCal 0 58 = some (mX0_spread, 1) := by rfl
theorem cl_0_62 : xCal 0 62 = some (mX0_blobAt, 1) := by rfl
theorem cl_0_65 : xCal 0 65 = some (mX0_widened, 2) := by rfl
theorem cl_0_69 : xCal 0 69 = some (mJ9_max_7cf53, 2) := by rfl
theorem cl_0_77 : xCal 0 77 = some (mJ13_bitCount_95d88, 1) := by rfl
theorem cl_0_83 : xCal 0 83 = some (mX4_putRow, 2) := by rfl
theorem cl_10_43 : xCal 10 43 = some (mX11_endOfDigits, 1) := by rfl
theorem cl_10_46 : xCal 10 46 = some (mX11_numberOf, 2) := by rfl
theorem cl_10_50 : xCal 10 50 = some (mX11_isCount, 1) := by rfl
theorem cl_10_53 : xCal 10 53 = some (mX11_errorAtMark, 2) := by rfl
theorem cl_10_56 : xCal 10 56 = some (mX4_paint, 5) := by rfl
theorem cl_10_19 : xCal 10 19 = some (mX11_isFull, 0) := by rfl
theorem fl_6_7 : xFld 6 7 = some (6, 0) := by decide +kernel
theorem fl_6_13 : xFld 6 13 = some (6, 1) := by decide +kernel
theorem fl_6_16 : xFld 6 16 = some (6, 2) := by decide +kernel
theorem cl_2_85 : xCal 2 85 = some (mX6_put, 1) := by rfl
theorem cl_2_91 : xCal 2 91 = some (mX2_describeOne, 2) := by rfl
theorem cl_2_95 : xCal 2 95 = some (mX2_valueOf, 1) := by rfl
theorem cl_2_99 : xCal 2 99 = some (mX6_write, 1) := by rfl
theorem cl_2_103 : xCal 2 103 = some (mX9_hasWords, 0) := by rfl
theorem cl_2_113 : xCal 2 113 = some (mX6_writeNumber, 1) := by rfl
theorem cl_6_19 : xCal 6 19 = some (mJ0_length_8abf5, 0) := by rfl
theorem cl_6_25 : xCal 6 25 = some (mJ0_charAt_5068e, 1) := by rfl
theorem cl_6_29 : xCal 6 29 = some (mX6_put, 1) := by rfl
theorem cl_6_33 : xCal 6 33 = some (mJ9_abs_0f7a4, 1) := by rfl
theorem cl_6_40 : xCal 6 40 = some (mX6_writeNumber, 1) := by rfl
theorem cl_6_43 : xCal 6 43 = some (mX6_write, 1) := by rfl
theorem fl_9_11 : xFld 9 11 = some (9, 0) := by decide +kernel
theorem cl_9_17 : xCal 9 17 = some (mX5_init, 1) := by rfl
theorem fl_5_9 : xFld 5 9 = some (5, 1) := by decide +kernel
theorem fl_5_15 : xFld 5 15 = some (5, 0) := by decide +kernel
theorem fl_8_9 : xFld 8 9 = some (8, 4) := by decide +kernel
theorem fl_8_15 : xFld 8 15 = some (8, 5) := by decide +kernel
theorem fl_8_18 : xFld 8 18 = some (8, 0) := by decide +kernel
theorem fl_8_22 : xFld 8 22 = some (8, 1) := by decide +kernel
theorem fl_8_30 : xFld 8 30 = some (8, 2) := by decide +kernel
theorem fl_8_34 : xFld 8 34 = some (8, 3) := by decide +kernel
theorem cl_8_27 : xCal 8 27 = some (mX4_init, 2) := by rfl
theorem fl_8_42 : xFld 8 42 = some (8, 10) := by decide +kernel
theorem fl_8_53 : xFld 8 53 = some (8, 11) := by decide +kernel
theorem fl_8_56 : xFld 8 56 = some (8, 12) := by decide +kernel
theorem fl_8_63 : xFld 8 63 = some (8, 13) := by decide +kernel
theorem fl_8_66 : xFld 8 66 = some (8, 6) := by decide +kernel
theorem fl_8_69 : xFld 8 69 = some (8, 7) := by decide +kernel
theorem fl_8_72 : xFld 8 72 = some (8, 8) := by decide +kernel
theorem fl_8_75 : xFld 8 75 = some (8, 9) := by decide +kernel
theorem cl_8_37 : xCal 8 37 = some (mX8_countCells, 2) := by rfl
theorem cl_8_45 : xCal 8 45 = some (mX8_look, 3) := by rfl
theorem cl_8_49 : xCal 8 49 = some (mX8_findCoarse, 1) := by rfl
theorem cl_8_59 : xCal 8 59 = some (mX8_findFine, 4) := by rfl
theorem cl_8_105 : xCal 8 105 = some (mX8_cellColumns, 0) := by rfl
theorem cl_8_109 : xCal 8 109 = some (mX8_cellRows, 0) := by rfl
theorem cl_8_112 : xCal 8 112 = some (mX4_inkWithin, 4) := by rfl
theorem cl_8_79 : xCal 8 79 = some (mX4_drawFlipped, 3) := by rfl
theorem cl_8_83 : xCal 8 83 = some (mX4_takeFrom, 1) := by rfl
theorem cl_8_87 : xCal 8 87 = some (mX4_rowAt, 1) := by rfl
theorem cl_8_91 : xCal 8 91 = some (mJ9_floorDiv_7cf53, 2) := by rfl
theorem cl_8_97 : xCal 8 97 = some (mX4_moved, 2) := by rfl
theorem cl_8_101 : xCal 8 101 = some (mX4_putRow, 2) := by rfl
theorem cl_8_116 : xCal 8 116 = some (mX8_coarseCost, 2) := by rfl
theorem cl_8_119 : xCal 8 119 = some (mX8_offer, 3) := by rfl
theorem cl_8_133 : xCal 8 133 = some (mJ9_abs_0f7a4, 1) := by rfl
theorem cl_8_137 : xCal 8 137 = some (mX8_countAt, 2) := by rfl
theorem cl_8_123 : xCal 8 123 = some (mJ9_max_7cf53, 2) := by rfl
theorem cl_8_126 : xCal 8 126 = some (mJ9_min_7cf53, 2) := by rfl
theorem cl_8_129 : xCal 8 129 = some (mX8_costOf, 3) := by rfl
theorem cl_8_141 : xCal 8 141 = some (mX4_below, 1) := by rfl
theorem cl_8_144 : xCal 8 144 = some (mJ13_bitCount_95d88, 1) := by rfl
theorem fl_7_12 : xFld 7 12 = some (7, 0) := by decide +kernel
theorem fl_7_18 : xFld 7 18 = some (7, 1) := by decide +kernel
theorem cl_7_9 : xCal 7 9 = some (mX5_init, 1) := by rfl
theorem fl_5_19 : xFld 5 19 = some (5, 8) := by decide +kernel
theorem fl_7_24 : xFld 7 24 = some (5, 6) := by decide +kernel
theorem fl_7_28 : xFld 7 28 = some (5, 2) := by decide +kernel
theorem fl_7_37 : xFld 7 37 = some (7, 2) := by decide +kernel
theorem fl_7_38 : xFld 7 38 = some (5, 3) := by decide +kernel
theorem fl_7_41 : xFld 7 41 = some (7, 3) := by decide +kernel
theorem fl_7_42 : xFld 7 42 = some (5, 4) := by decide +kernel
theorem fl_7_48 : xFld 7 48 = some (7, 4) := by decide +kernel
theorem fl_7_51 : xFld 7 51 = some (5, 5) := by decide +kernel
theorem fl_7_54 : xFld 7 54 = some (7, 5) := by decide +kernel
theorem cl_7_21 : xCal 7 21 = some (mX5_settle, 0) := by rfl
theorem cl_7_31 : xCal 7 31 = some (mJ9_min_7cf53, 2) := by rfl
theorem cl_7_45 : xCal 7 45 = some (mJ9_max_7cf53, 2) := by rfl
theorem fl_5_23 : xFld 5 23 = some (5, 6) := by decide +kernel
theorem fl_5_27 : xFld 5 27 = some (5, 3) := by decide +kernel
theorem fl_5_39 : xFld 5 39 = some (5, 2) := by decide +kernel
theorem fl_5_45 : xFld 5 45 = some (5, 4) := by decide +kernel
theorem fl_5_48 : xFld 5 48 = some (5, 5) := by decide +kernel
theorem cl_5_30 : xCal 5 30 = some (mJ13_bitCount_95d88, 1) := by rfl
theorem cl_5_36 : xCal 5 36 = some (mX5_lowestBit, 1) := by rfl
theorem cl_5_42 : xCal 5 42 = some (mX5_bitsUpToHighest, 1) := by rfl
theorem cl_5_51 : xCal 5 51 = some (mX5_shapeRow, 1) := by rfl
theorem cl_5_55 : xCal 5 55 = some (mX4_moved, 2) := by rfl
theorem fl_7_57 : xFld 7 57 = some (7, 6) := by decide +kernel
theorem fl_7_60 : xFld 7 60 = some (5, 7) := by decide +kernel
theorem fl_9_20 : xFld 9 20 = some (9, 1) := by decide +kernel
theorem cl_9_24 : xCal 9 24 = some (mX5_hasShapeOf, 1) := by rfl
theorem fl_5_99 : xFld 5 99 = some (5, 10) := by decide +kernel
theorem cl_5_69 : xCal 5 69 = some (mX6_write, 1) := by rfl
theorem cl_5_75 : xCal 5 75 = some (mX6_writeNumber, 1) := by rfl
theorem cl_5_83 : xCal 5 83 = some (mX6_writePair, 3) := by rfl
theorem cl_5_104 : xCal 5 104 = some (mX6_put, 1) := by rfl
theorem cl_9_28 : xCal 9 28 = some (mX10_isFull, 0) := by rfl
theorem cl_9_32 : xCal 9 32 = some (mX5_takeShape, 1) := by rfl
theorem fl_1_9 : xFld 1 9 = some (1, 11) := by decide +kernel
theorem fl_1_15 : xFld 1 15 = some (1, 12) := by decide +kernel
theorem fl_1_18 : xFld 1 18 = some (1, 13) := by decide +kernel
theorem fl_1_21 : xFld 1 21 = some (1, 14) := by decide +kernel
theorem fl_1_26 : xFld 1 26 = some (1, 15) := by decide +kernel
theorem fl_1_30 : xFld 1 30 = some (1, 16) := by decide +kernel
theorem fl_1_35 : xFld 1 35 = some (1, 18) := by decide +kernel
theorem fl_1_39 : xFld 1 39 = some (1, 0) := by decide +kernel
theorem fl_1_43 : xFld 1 43 = some (1, 1) := by decide +kernel
theorem fl_1_51 : xFld 1 51 = some (1, 2) := by decide +kernel
theorem fl_1_55 : xFld 1 55 = some (1, 3) := by decide +kernel
theorem fl_1_58 : xFld 1 58 = some (1, 4) := by decide +kernel
theorem fl_1_61 : xFld 1 61 = some (1, 5) := by decide +kernel
theorem fl_1_64 : xFld 1 64 = some (1, 6) := by decide +kernel
theorem fl_1_70 : xFld 1 70 = some (1, 7) := by decide +kernel
theorem fl_1_74 : xFld 1 74 = some (1, 8) := by decide +kernel
theorem cl_1_48 : xCal 1 48 = some (mX4_init, 2) := by rfl
theorem cl_1_69 : xCal 1 69 = some (mX8_init, 2) := by rfl
theorem cl_1_83 : xCal 1 83 = some (mX2_valueOf, 1) := by rfl
theorem cl_1_89 : xCal 1 89 = some (mX4_takeFrom, 1) := by rfl
theorem cl_1_93 : xCal 1 93 = some (mX0_strip, 2) := by rfl
theorem fl_1_112 : xFld 1 112 = some (8, 3) := by decide +kernel
theorem fl_1_115 : xFld 1 115 = some (8, 6) := by decide +kernel
theorem fl_1_118 : xFld 1 118 = some (8, 7) := by decide +kernel
theorem fl_1_149 : xFld 1 149 = some (1, 17) := by decide +kernel
theorem cl_1_108 : xCal 1 108 = some (mX8_search, 5) := by rfl
theorem cl_1_121 : xCal 1 121 = some (mX4_drawMoved, 3) := by rfl
theorem cl_1_128 : xCal 1 128 = some (mX4_drawUnmatched, 3) := by rfl
theorem cl_1_132 : xCal 1 132 = some (mX4_keepOnly, 1) := by rfl
theorem cl_1_138 : xCal 1 138 = some (mX1_measureBlocks, 1) := by rfl
theorem cl_1_145 : xCal 1 145 = some (mX1_group, 2) := by rfl
theorem cl_1_152 : xCal 1 152 = some (mX1_formRegions, 0) := by rfl
theorem cl_1_158 : xCal 1 158 = some (mX1_sortRegions, 1) := by rfl
theorem cl_1_165 : xCal 1 165 = some (mX1_pairParts, 1) := by rfl
theorem cl_1_171 : xCal 1 171 = some (mX1_listChanges, 2) := by rfl
theorem fl_1_181 : xFld 1 181 = some (1, 9) := by decide +kernel
theorem fl_1_184 : xFld 1 184 = some (1, 10) := by decide +kernel
theorem cl_1_175 : xCal 1 175 = some (mJ9_max_7cf53, 2) := by rfl
theorem cl_1_187 : xCal 1 187 = some (mX1_blockCount, 0) := by rfl
theorem cl_1_191 : xCal 1 191 = some (mX4_inkWithin, 4) := by rfl
theorem cl_1_195 : xCal 1 195 = some (mJ9_min_7cf53, 2) := by rfl
theorem cl_1_198 : xCal 1 198 = some (mX1_mark, 4) := by rfl
theorem cl_1_202 : xCal 1 202 = some (mX1_join, 5) := by rfl
theorem fl_1_214 : xFld 1 214 = some (7, 0) := by decide +kernel
theorem fl_1_222 : xFld 1 222 = some (7, 1) := by decide +kernel
theorem cl_1_207 : xCal 1 207 = some (mX1_find, 1) := by rfl
theorem cl_1_218 : xCal 1 218 = some (mX1_collect, 3) := by rfl
theorem cl_1_225 : xCal 1 225 = some (mX7_settle, 0) := by rfl
theorem cl_1_206 : xCal 1 206 = some (mX7_init, 0) := by rfl
theorem cl_1_228 : xCal 1 228 = some (mX5_begin, 0) := by rfl
theorem cl_1_231 : xCal 1 231 = some (mX1_spanOf, 2) := by rfl
theorem cl_1_235 : xCal 1 235 = some (mX4_rowAt, 1) := by rfl
theorem cl_1_239 : xCal 1 239 = some (mX5_takeRow, 2) := by rfl
theorem cl_1_243 : xCal 1 243 = some (mX4_below, 1) := by rfl
theorem cl_1_246 : xCal 1 246 = some (mX4_moved, 2) := by rfl
theorem fl_1_256 : xFld 1 256 = some (7, 8) := by decide +kernel
theorem cl_1_250 : xCal 1 250 = some (mX7_start, 1) := by rfl
theorem cl_1_260 : xCal 1 260 = some (mX1_sortByKey, 0) := by rfl
theorem cl_1_263 : xCal 1 263 = some (mX7_end, 1) := by rfl
theorem cl_1_266 : xCal 1 266 = some (mX7_takeNumber, 1) := by rfl
theorem fl_1_269 : xFld 1 269 = some (5, 6) := by decide +kernel
theorem cl_1_272 : xCal 1 272 = some (mX1_pair, 1) := by rfl
theorem fl_1_276 : xFld 1 276 = some (5, 8) := by decide +kernel
theorem cl_1_279 : xCal 1 279 = some (mX5_hasShapeOf, 1) := by rfl
theorem fl_1_283 : xFld 1 283 = some (1, 19) := by decide +kernel
theorem cl_1_286 : xCal 1 286 = some (mX1_list, 4) := by rfl
theorem fl_1_296 : xFld 1 296 = some (5, 10) := by decide +kernel
theorem fl_1_299 : xFld 1 299 = some (5, 3) := by decide +kernel
theorem fl_1_306 : xFld 1 306 = some (5, 9) := by decide +kernel
theorem cl_1_290 : xCal 1 290 = some (mX10_numberOf, 1) := by rfl
theorem cl_1_302 : xCal 1 302 = some (mX4_linesUpTo, 1) := by rfl
theorem fl_1_211 : xFld 1 211 = some (7, 6) := by decide +kernel
theorem fl_1_325 : xFld 1 325 = some (8, 8) := by decide +kernel
theorem fl_1_331 : xFld 1 331 = some (8, 9) := by decide +kernel
theorem cl_1_311 : xCal 1 311 = some (mX6_write, 1) := by rfl
theorem cl_1_319 : xCal 1 319 = some (mX6_writePair, 3) := by rfl
theorem cl_1_328 : xCal 1 328 = some (mX6_writeNumber, 1) := by rfl
theorem cl_1_337 : xCal 1 337 = some (mX6_put, 1) := by rfl
theorem cl_1_344 : xCal 1 344 = some (mX5_report, 1) := by rfl
theorem fl_11_18 : xFld 11 18 = some (11, 0) := by decide +kernel
theorem fl_11_22 : xFld 11 22 = some (11, 1) := by decide +kernel
theorem fl_11_27 : xFld 11 27 = some (11, 2) := by decide +kernel
theorem fl_11_37 : xFld 11 37 = some (11, 3) := by decide +kernel
theorem fl_11_44 : xFld 11 44 = some (11, 4) := by decide +kernel
theorem fl_11_51 : xFld 11 51 = some (11, 5) := by decide +kernel
theorem fl_11_58 : xFld 11 58 = some (11, 6) := by decide +kernel
theorem fl_11_64 : xFld 11 64 = some (11, 7) := by decide +kernel
theorem fl_11_67 : xFld 11 67 = some (11, 9) := by decide +kernel
theorem fl_11_74 : xFld 11 74 = some (11, 10) := by decide +kernel
theorem fl_11_81 : xFld 11 81 = some (11, 11) := by decide +kernel
theorem fl_11_88 : xFld 11 88 = some (11, 13) := by decide +kernel
theorem cl_11_9 : xCal 11 9 = some (mJ9_min_7cf53, 2) := by rfl
theorem cl_11_15 : xCal 11 15 = some (mJ9_max_7cf53, 2) := by rfl
theorem cl_11_31 : xCal 11 31 = some (mX4_init, 2) := by rfl
theorem cl_11_36 : xCal 11 36 = some (mX3_init, 2) := by rfl
theorem cl_11_43 : xCal 11 43 = some (mX0_init, 2) := by rfl
theorem cl_11_50 : xCal 11 50 = some (mX11_init, 0) := by rfl
theorem cl_11_57 : xCal 11 57 = some (mX2_init, 0) := by rfl
theorem cl_11_73 : xCal 11 73 = some (mX10_init, 0) := by rfl
theorem cl_11_80 : xCal 11 80 = some (mX1_init, 2) := by rfl
theorem cl_11_87 : xCal 11 87 = some (mX6_init, 0) := by rfl
theorem cl_11_155 : xCal 11 155 = some (mX11_clear, 0) := by rfl
theorem cl_11_207 : xCal 11 207 = some (mX2_read, 1) := by rfl
theorem cl_11_211 : xCal 11 211 = some (mX2_applyRead, 0) := by rfl
theorem fl_11_245 : xFld 11 245 = some (11, 8) := by decide +kernel
theorem fl_11_266 : xFld 11 266 = some (11, 12) := by decide +kernel
theorem fl_11_270 : xFld 11 270 = some (1, 19) := by decide +kernel
theorem cl_11_119 : xCal 11 119 = some (mX4_paint, 5) := by rfl
theorem cl_11_258 : xCal 11 258 = some (mX1_clean, 4) := by rfl
theorem cl_11_262 : xCal 11 262 = some (mX1_examine, 3) := by rfl
theorem cl_11_92 : xCal 11 92 = some (mX12_pageAt, 1) := by rfl
theorem cl_11_96 : xCal 11 96 = some (mX12_requireRow, 1) := by rfl
theorem cl_11_100 : xCal 11 100 = some (mX4_rowAt, 1) := by rfl
theorem cl_11_104 : xCal 11 104 = some (mX3_keep, 2) := by rfl
theorem cl_11_108 : xCal 11 108 = some (mX4_putRow, 2) := by rfl
theorem cl_11_112 : xCal 11 112 = some (mX4_differences, 1) := by rfl
theorem cl_11_116 : xCal 11 116 = some (mX12_requireSize, 2) := by rfl
theorem cl_11_123 : xCal 11 123 = some (mX4_drawMoved, 3) := by rfl
theorem cl_11_127 : xCal 11 127 = some (mX4_drawMajority, 3) := by rfl
theorem cl_11_138 : xCal 11 138 = some (mX4_drawFlipped, 3) := by rfl
theorem cl_11_144 : xCal 11 144 = some (mX0_strip, 2) := by rfl
theorem cl_11_148 : xCal 11 148 = some (mX11_patternError, 0) := by rfl
theorem cl_11_152 : xCal 11 152 = some (mX11_drawPattern, 3) := by rfl
theorem cl_11_158 : xCal 11 158 = some (mX0_countIn, 1) := by rfl
theorem cl_11_161 : xCal 11 161 = some (mX4_lineCount, 0) := by rfl
theorem cl_11_164 : xCal 11 164 = some (mX12_topOfLine, 2) := by rfl
theorem cl_11_410 : xCal 11 410 = some (mX4_lineStart, 1) := by rfl
theorem cl_11_167 : xCal 11 167 = some (mX4_lineEnd, 1) := by rfl
theorem cl_11_173 : xCal 11 173 = some (mX4_wordCount, 2) := by rfl
theorem cl_11_176 : xCal 11 176 = some (mX4_inkWithin, 4) := by rfl
theorem cl_11_184 : xCal 11 184 = some (mX3_isBare, 0) := by rfl
theorem cl_11_193 : xCal 11 193 = some (mX3_restoreTo, 1) := by rfl
theorem cl_11_199 : xCal 11 199 = some (mX11_isFull, 0) := by rfl
theorem cl_11_204 : xCal 11 204 = some (mX11_add, 1) := by rfl
theorem cl_11_223 : xCal 11 223 = some (mX2_valueOf, 1) := by rfl
theorem cl_11_229 : xCal 11 229 = some (mX6_seek, 1) := by rfl
theorem cl_11_232 : xCal 11 232 = some (mX2_describe, 1) := by rfl
theorem cl_11_236 : xCal 11 236 = some (mX6_found, 0) := by rfl
theorem cl_11_239 : xCal 11 239 = some (mX12_isWithin, 3) := by rfl
theorem fl_11_277 : xFld 11 277 = some (8, 6) := by decide +kernel
theorem cl_11_273 : xCal 11 273 = some (mX12_registration, 0) := by rfl
theorem fl_11_415 : xFld 11 415 = some (1, 7) := by decide +kernel
theorem cl_11_303 : xCal 11 303 = some (mX12_requireComparison, 0) := by rfl
theorem fl_11_282 : xFld 11 282 = some (8, 7) := by decide +kernel
theorem fl_11_285 : xFld 11 285 = some (8, 8) := by decide +kernel
theorem fl_11_288 : xFld 11 288 = some (8, 9) := by decide +kernel
theorem fl_11_291 : xFld 11 291 = some (8, 10) := by decide +kernel
theorem fl_11_296 : xFld 11 296 = some (1, 2) := by decide +kernel
theorem cl_11_299 : xCal 11 299 = some (mX8_costOf, 3) := by rfl
theorem fl_11_306 : xFld 11 306 = some (1, 9) := by decide +kernel
theorem fl_11_309 : xFld 11 309 = some (1, 10) := by decide +kernel
theorem cl_11_314 : xCal 11 314 = some (mX1_differenceOf, 2) := by rfl
theorem fl_11_317 : xFld 11 317 = some (1, 17) := by decide +kernel
theorem cl_11_322 : xCal 11 322 = some (mX1_regionOfPixel, 2) := by rfl
theorem fl_11_329 : xFld 11 329 = some (7, 2) := by decide +kernel
theorem cl_11_325 : xCal 11 325 = some (mX12_regionOf, 1) := by rfl
theorem cl_11_418 : xCal 11 418 = some (mX1_regionNumbered, 1) := by rfl
theorem fl_11_334 : xFld 11 334 = some (7, 3) := by decide +kernel
theorem fl_11_337 : xFld 11 337 = some (7, 4) := by decide +kernel
theorem fl_11_340 : xFld 11 340 = some (7, 5) := by decide +kernel
theorem fl_11_343 : xFld 11 343 = some (7, 0) := by decide +kernel
theorem fl_11_347 : xFld 11 347 = some (5, 6) := by decide +kernel
theorem fl_11_352 : xFld 11 352 = some (7, 1) := by decide +kernel
theorem cl_11_355 : xCal 11 355 = some (mX12_changeOf, 1) := by rfl
theorem cl_11_359 : xCal 11 359 = some (mX5_kind, 0) := by rfl
theorem cl_11_423 : xCal 11 423 = some (mX1_changeNumbered, 1) := by rfl
theorem fl_11_362 : xFld 11 362 = some (5, 7) := by decide +kernel
theorem fl_11_365 : xFld 11 365 = some (5, 8) := by decide +kernel
theorem fl_11_368 : xFld 11 368 = some (5, 2) := by decide +kernel
theorem fl_11_369 : xFld 11 369 = some (5, 3) := by decide +kernel
theorem fl_11_370 : xFld 11 370 = some (5, 9) := by decide +kernel
theorem cl_11_373 : xCal 11 373 = some (mX1_report, 1) := by rfl
theorem cl_11_378 : xCal 11 378 = some (mX10_numberOf, 1) := by rfl
theorem cl_11_382 : xCal 11 382 = some (mX10_isFull, 0) := by rfl
theorem cl_11_385 : xCal 11 385 = some (mX10_add, 1) := by rfl
theorem fl_11_387 : xFld 11 387 = some (9, 1) := by decide +kernel
theorem cl_11_392 : xCal 11 392 = some (mX10_drop, 1) := by rfl
theorem cl_11_395 : xCal 11 395 = some (mX4_stampPart, 1) := by rfl
theorem cl_11_401 : xCal 11 401 = some (mX1_noiseFor, 1) := by rfl
theorem fl_12_7 : xFld 12 7 = some (12, 3) := by decide +kernel
theorem fl_12_14 : xFld 12 14 = some (12, 4) := by decide +kernel
theorem fl_12_17 : xFld 12 17 = some (12, 5) := by decide +kernel
theorem fl_12_21 : xFld 12 21 = some (12, 7) := by decide +kernel
theorem fl_12_24 : xFld 12 24 = some (12, 8) := by decide +kernel
theorem fl_12_27 : xFld 12 27 = some (12, 9) := by decide +kernel
theorem fl_12_30 : xFld 12 30 = some (12, 12) := by decide +kernel
theorem fl_12_33 : xFld 12 33 = some (12, 14) := by decide +kernel
theorem fl_12_36 : xFld 12 36 = some (12, 15) := by decide +kernel
theorem fl_12_39 : xFld 12 39 = some (12, 17) := by decide +kernel
theorem fl_12_43 : xFld 12 43 = some (12, 18) := by decide +kernel
theorem fl_12_46 : xFld 12 46 = some (12, 19) := by decide +kernel
theorem fl_12_49 : xFld 12 49 = some (12, 20) := by decide +kernel
theorem fl_12_52 : xFld 12 52 = some (12, 21) := by decide +kernel
theorem fl_12_55 : xFld 12 55 = some (12, 22) := by decide +kernel
theorem fl_12_59 : xFld 12 59 = some (12, 24) := by decide +kernel
theorem fl_12_62 : xFld 12 62 = some (12, 26) := by decide +kernel
theorem fl_12_65 : xFld 12 65 = some (12, 27) := by decide +kernel
theorem fl_12_68 : xFld 12 68 = some (12, 28) := by decide +kernel
theorem fl_12_71 : xFld 12 71 = some (12, 29) := by decide +kernel
theorem fl_12_74 : xFld 12 74 = some (12, 31) := by decide +kernel
theorem fl_12_77 : xFld 12 77 = some (12, 32) := by decide +kernel
theorem fl_12_80 : xFld 12 80 = some (12, 33) := by decide +kernel
theorem fl_12_83 : xFld 12 83 = some (12, 36) := by decide +kernel
theorem fl_12_86 : xFld 12 86 = some (12, 37) := by decide +kernel
theorem fl_12_89 : xFld 12 89 = some (12, 38) := by decide +kernel
theorem fl_12_92 : xFld 12 92 = some (12, 39) := by decide +kernel
theorem fl_12_95 : xFld 12 95 = some (12, 40) := by decide +kernel
theorem fl_12_98 : xFld 12 98 = some (12, 46) := by decide +kernel
theorem fl_12_101 : xFld 12 101 = some (12, 47) := by decide +kernel
theorem fl_12_104 : xFld 12 104 = some (12, 52) := by decide +kernel
theorem fl_12_107 : xFld 12 107 = some (12, 53) := by decide +kernel
theorem fl_12_110 : xFld 12 110 = some (12, 57) := by decide +kernel
theorem fl_12_113 : xFld 12 113 = some (12, 58) := by decide +kernel
theorem fl_12_116 : xFld 12 116 = some (12, 60) := by decide +kernel
theorem fl_12_119 : xFld 12 119 = some (12, 61) := by decide +kernel
theorem fl_12_122 : xFld 12 122 = some (12, 62) := by decide +kernel
theorem fl_12_125 : xFld 12 125 = some (12, 63) := by decide +kernel
theorem fl_12_128 : xFld 12 128 = some (12, 64) := by decide +kernel
theorem fl_12_131 : xFld 12 131 = some (12, 65) := by decide +kernel
theorem fl_12_134 : xFld 12 134 = some (12, 66) := by decide +kernel
theorem fl_12_137 : xFld 12 137 = some (12, 67) := by decide +kernel
theorem fl_12_140 : xFld 12 140 = some (12, 68) := by decide +kernel
theorem fl_12_143 : xFld 12 143 = some (12, 69) := by decide +kernel
theorem fl_12_146 : xFld 12 146 = some (12, 70) := by decide +kernel
theorem fl_12_149 : xFld 12 149 = some (12, 71) := by decide +kernel
theorem fl_12_152 : xFld 12 152 = some (12, 72) := by decide +kernel
theorem fl_12_155 : xFld 12 155 = some (12, 73) := by decide +kernel
theorem fl_12_158 : xFld 12 158 = some (12, 74) := by decide +kernel
theorem fl_12_161 : xFld 12 161 = some (12, 75) := by decide +kernel
theorem fl_12_164 : xFld 12 164 = some (12, 76) := by decide +kernel
theorem fl_12_167 : xFld 12 167 = some (12, 77) := by decide +kernel
theorem fl_12_170 : xFld 12 170 = some (12, 78) := by decide +kernel
theorem fl_12_173 : xFld 12 173 = some (12, 80) := by decide +kernel
theorem fl_12_176 : xFld 12 176 = some (12, 81) := by decide +kernel
theorem fl_12_179 : xFld 12 179 = some (12, 0) := by decide +kernel
theorem fl_12_183 : xFld 12 183 = some (12, 1) := by decide +kernel
theorem fl_12_186 : xFld 12 186 = some (12, 2) := by decide +kernel
theorem cl_12_191 : xCal 12 191 = some (mX13_in, 3) := by rfl
theorem cl_12_202 : xCal 12 202 = some (mX13_isPage, 1) := by rfl
theorem cl_12_206 : xCal 12 206 = some (mX13_fails, 1) := by rfl
theorem cl_12_210 : xCal 12 210 = some (mX13_rowOf, 2) := by rfl
theorem cl_12_214 : xCal 12 214 = some (mX13_takes, 1) := by rfl
theorem cl_12_218 : xCal 12 218 = some (mX13_edits, 1) := by rfl
theorem fl_12_199 : xFld 12 199 = some (12, 6) := by decide +kernel
theorem cl_12_195 : xCal 12 195 = some (mX13_isOn, 2) := by rfl
theorem cl_12_220 : xCal 12 220 = some (mX13_isWithin, 5) := by rfl
theorem cl_12_224 : xCal 12 224 = some (mX13_at, 3) := by rfl
theorem cl_12_246 : xCal 12 246 = some (mX13_cleans, 2) := by rfl
theorem fl_12_237 : xFld 12 237 = some (12, 11) := by decide +kernel
theorem cl_12_240 : xCal 12 240 = some (mX13_gathers, 2) := by rfl
theorem fl_12_230 : xFld 12 230 = some (12, 10) := by decide +kernel
theorem cl_12_233 : xCal 12 233 = some (mX13_looks, 3) := by rfl
theorem cl_12_253 : xCal 12 253 = some (mX13_linesTo, 3) := by rfl
theorem cl_12_249 : xCal 12 249 = some (mX13_hasInk, 3) := by rfl
theorem cl_12_257 : xCal 12 257 = some (mX13_topOf, 2) := by rfl
theorem cl_12_261 : xCal 12 261 = some (mX13_bottomOf, 2) := by rfl
theorem fl_12_272 : xFld 12 272 = some (12, 13) := by decide +kernel
theorem fl_12_296 : xFld 12 296 = some (12, 23) := by decide +kernel
theorem fl_12_306 : xFld 12 306 = some (12, 16) := by decide +kernel
theorem cl_12_309 : xCal 12 309 = some (mX13_readsSettings, 0) := by rfl
theorem cl_12_313 : xCal 12 313 = some (mX13_isGiven, 1) := by rfl
theorem cl_12_275 : xCal 12 275 = some (mX13_letter, 1) := by rfl
theorem cl_12_289 : xCal 12 289 = some (mX13_wordOf, 3) := by rfl
theorem cl_12_293 : xCal 12 293 = some (mX13_isFigure, 1) := by rfl
theorem cl_12_299 : xCal 12 299 = some (mX13_isSmall, 1) := by rfl
theorem cl_12_302 : xCal 12 302 = some (mX13_valueOf, 3) := by rfl
theorem cl_12_286 : xCal 12 286 = some (mX13_firstWord, 1) := by rfl
theorem fl_12_318 : xFld 12 318 = some (12, 25) := by decide +kernel
theorem cl_12_321 : xCal 12 321 = some (mX13_tells, 1) := by rfl
theorem cl_12_324 : xCal 12 324 = some (mX13_tellsWord, 2) := by rfl
theorem cl_12_328 : xCal 12 328 = some (mX13_tellsNumber, 1) := by rfl
theorem cl_12_331 : xCal 12 331 = some (mX13_countOf, 2) := by rfl
theorem cl_12_334 : xCal 12 334 = some (mX13_readsPattern, 0) := by rfl
theorem fl_12_337 : xFld 12 337 = some (12, 30) := by decide +kernel
theorem fl_12_467 : xFld 12 467 = some (12, 79) := by decide +kernel
theorem fl_12_502 : xFld 12 502 = some (12, 35) := by decide +kernel
theorem cl_12_484 : xCal 12 484 = some (mX13_registers, 0) := by rfl
theorem cl_12_487 : xCal 12 487 = some (mX13_findsDifferences, 0) := by rfl
theorem cl_12_490 : xCal 12 490 = some (mX13_findsRegions, 0) := by rfl
theorem cl_12_493 : xCal 12 493 = some (mX13_findsParts, 0) := by rfl
theorem cl_12_496 : xCal 12 496 = some (mX13_findsChanges, 0) := by rfl
theorem cl_12_499 : xCal 12 499 = some (mX13_reports, 0) := by rfl
theorem fl_12_359 : xFld 12 359 = some (12, 50) := by decide +kernel
theorem fl_12_362 : xFld 12 362 = some (12, 51) := by decide +kernel
theorem fl_12_365 : xFld 12 365 = some (12, 45) := by decide +kernel
theorem fl_12_378 : xFld 12 378 = some (12, 41) := by decide +kernel
theorem fl_12_381 : xFld 12 381 = some (12, 42) := by decide +kernel
theorem fl_12_384 : xFld 12 384 = some (12, 43) := by decide +kernel
theorem fl_12_387 : xFld 12 387 = some (12, 44) := by decide +kernel
theorem cl_12_368 : xCal 12 368 = some (mX13_skews, 2) := by rfl
theorem cl_12_372 : xCal 12 372 = some (mX13_seeksCoarse, 0) := by rfl
theorem cl_12_375 : xCal 12 375 = some (mX13_seeksFine, 0) := by rfl
theorem fl_12_350 : xFld 12 350 = some (12, 48) := by decide +kernel
theorem fl_12_353 : xFld 12 353 = some (12, 49) := by decide +kernel
theorem cl_12_340 : xCal 12 340 = some (mX13_size, 1) := by rfl
theorem cl_12_343 : xCal 12 343 = some (mX13_countsCells, 2) := by rfl
theorem cl_12_347 : xCal 12 347 = some (mX13_coarseCost, 2) := by rfl
theorem cl_12_356 : xCal 12 356 = some (mX13_differ, 3) := by rfl
theorem fl_12_391 : xFld 12 391 = some (12, 54) := by decide +kernel
theorem fl_12_394 : xFld 12 394 = some (12, 55) := by decide +kernel
theorem fl_12_397 : xFld 12 397 = some (12, 56) := by decide +kernel
theorem cl_12_400 : xCal 12 400 = some (mX13_isMasked, 1) := by rfl
theorem cl_12_403 : xCal 12 403 = some (mX13_isNear, 2) := by rfl
theorem cl_12_407 : xCal 12 407 = some (mX13_blockOf, 1) := by rfl
theorem fl_12_421 : xFld 12 421 = some (12, 59) := by decide +kernel
theorem cl_12_418 : xCal 12 418 = some (mX13_joins, 1) := by rfl
theorem cl_12_424 : xCal 12 424 = some (mX13_lesser, 2) := by rfl
theorem cl_12_427 : xCal 12 427 = some (mX13_greater, 2) := by rfl
theorem cl_12_430 : xCal 12 430 = some (mX13_ordersRegions, 0) := by rfl
theorem cl_12_410 : xCal 12 410 = some (mX13_isBlock, 2) := by rfl
theorem cl_12_414 : xCal 12 414 = some (mX13_spreads, 3) := by rfl
theorem cl_12_440 : xCal 12 440 = some (mX13_firstKey, 1) := by rfl
theorem cl_12_443 : xCal 12 443 = some (mX13_leastRegion, 1) := by rfl
theorem cl_12_446 : xCal 12 446 = some (mX13_endKey, 1) := by rfl
theorem cl_12_433 : xCal 12 433 = some (mX13_isAhead, 3) := by rfl
theorem cl_12_437 : xCal 12 437 = some (mX13_secondKey, 1) := by rfl
theorem cl_12_449 : xCal 12 449 = some (mX13_isOf, 2) := by rfl
theorem cl_12_470 : xCal 12 470 = some (mX13_pairs, 0) := by rfl
theorem cl_12_473 : xCal 12 473 = some (mX13_lists, 2) := by rfl
theorem cl_12_461 : xCal 12 461 = some (mX13_areAlike, 2) := by rfl
theorem cl_12_452 : xCal 12 452 = some (mX13_widthOf, 1) := by rfl
theorem cl_12_455 : xCal 12 455 = some (mX13_heightOf, 1) := by rfl
theorem cl_12_464 : xCal 12 464 = some (mX13_stampFor, 1) := by rfl
theorem fl_12_458 : xFld 12 458 = some (12, 34) := by decide +kernel
theorem cl_12_477 : xCal 12 477 = some (mX13_tellsTwo, 3) := by rfl
theorem cl_12_481 : xCal 12 481 = some (mX13_reportsOne, 2) := by rfl
theorem cl_12_505 : xCal 12 505 = some (mX13_told, 1) := by rfl
theorem cl_12_507 : xCal 12 507 = some (mX13_lacks, 2) := by rfl
theorem cl_14_7 : xCal 14 7 = some (mX12_row, 2) := by rfl
theorem cl_14_15 : xCal 14 15 = some (mX12_setRow, 3) := by rfl
theorem cl_14_19 : xCal 14 19 = some (mX12_fill, 6) := by rfl
theorem cl_14_25 : xCal 14 25 = some (mX12_copy, 4) := by rfl
theorem cl_14_29 : xCal 14 29 = some (mX12_merge, 1) := by rfl
theorem cl_14_33 : xCal 14 33 = some (mX12_flip, 2) := by rfl
theorem cl_14_37 : xCal 14 37 = some (mX12_despeckle, 2) := by rfl
theorem cl_14_40 : xCal 14 40 = some (mX12_paste, 3) := by rfl
theorem cl_14_44 : xCal 14 44 = some (mX12_components, 1) := by rfl
theorem cl_14_47 : xCal 14 47 = some (mX12_lines, 1) := by rfl
theorem cl_14_50 : xCal 14 50 = some (mX12_lineTop, 2) := by rfl
theorem cl_14_53 : xCal 14 53 = some (mX12_lineBottom, 2) := by rfl
theorem cl_14_56 : xCal 14 56 = some (mX12_words, 3) := by rfl
theorem cl_14_59 : xCal 14 59 = some (mX12_ink, 5) := by rfl
theorem cl_14_63 : xCal 14 63 = some (mX12_fingerprint, 1) := by rfl
theorem cl_14_67 : xCal 14 67 = some (mX12_undo, 0) := by rfl
theorem cl_14_73 : xCal 14 73 = some (mX12_type, 1) := by rfl
theorem cl_14_76 : xCal 14 76 = some (mX12_setting, 1) := by rfl
theorem cl_14_79 : xCal 14 79 = some (mX12_configChar, 1) := by rfl
theorem cl_14_82 : xCal 14 82 = some (mX12_addMask, 4) := by rfl
theorem cl_14_85 : xCal 14 85 = some (mX12_removeMask, 1) := by rfl
theorem cl_14_88 : xCal 14 88 = some (mX12_shiftX, 0) := by rfl
theorem cl_14_91 : xCal 14 91 = some (mX12_shiftY, 0) := by rfl
theorem cl_14_94 : xCal 14 94 = some (mX12_skew, 0) := by rfl
theorem cl_14_97 : xCal 14 97 = some (mX12_turned, 0) := by rfl
theorem cl_14_101 : xCal 14 101 = some (mX12_mismatch, 0) := by rfl
theorem cl_14_104 : xCal 14 104 = some (mX12_similarity, 0) := by rfl
theorem cl_14_107 : xCal 14 107 = some (mX12_mismatchAt, 2) := by rfl
theorem cl_14_110 : xCal 14 110 = some (mX12_blockDifference, 2) := by rfl
theorem cl_14_113 : xCal 14 113 = some (mX12_regions, 0) := by rfl
theorem cl_14_116 : xCal 14 116 = some (mX12_regionAt, 2) := by rfl
theorem cl_14_119 : xCal 14 119 = some (mX12_regionLeft, 1) := by rfl
theorem cl_14_122 : xCal 14 122 = some (mX12_regionTop, 1) := by rfl
theorem cl_14_125 : xCal 14 125 = some (mX12_regionRight, 1) := by rfl
theorem cl_14_128 : xCal 14 128 = some (mX12_regionBottom, 1) := by rfl
theorem cl_14_131 : xCal 14 131 = some (mX12_missingPixels, 1) := by rfl
theorem cl_14_134 : xCal 14 134 = some (mX12_addedPixels, 1) := by rfl
theorem cl_14_137 : xCal 14 137 = some (mX12_changes, 0) := by rfl
theorem cl_14_140 : xCal 14 140 = some (mX12_changeKind, 1) := by rfl
theorem cl_14_143 : xCal 14 143 = some (mX12_changeRegion, 1) := by rfl
theorem cl_14_146 : xCal 14 146 = some (mX12_changeTarget, 1) := by rfl
theorem cl_14_149 : xCal 14 149 = some (mX12_moveX, 1) := by rfl
theorem cl_14_152 : xCal 14 152 = some (mX12_moveY, 1) := by rfl
theorem cl_14_155 : xCal 14 155 = some (mX12_changePixels, 1) := by rfl
theorem cl_14_158 : xCal 14 158 = some (mX12_changeLine, 1) := by rfl
theorem cl_14_161 : xCal 14 161 = some (mX12_reportChar, 1) := by rfl
theorem cl_14_164 : xCal 14 164 = some (mX12_learn, 1) := by rfl
theorem cl_14_167 : xCal 14 167 = some (mX12_stampOf, 1) := by rfl
theorem cl_14_170 : xCal 14 170 = some (mX12_forgetStamp, 1) := by rfl
theorem cl_14_173 : xCal 14 173 = some (mX12_accept, 1) := by rfl
theorem cl_14_176 : xCal 14 176 = some (mX12_leastNoise, 1) := by rfl
