/-! CONSTANTS; what is known of each method, by program (wip/whole/wpemit.py) -/
theorem kB_m64 : (Int8.ofInt (-64)).toInt32 = (-64 : Int32) := by decide
theorem kB_m16 : (Int8.ofInt (-16)).toInt32 = (-16 : Int32) := by decide
theorem kB_m2 : (Int8.ofInt (-2)).toInt32 = (-2 : Int32) := by decide
theorem kB_6 : (Int8.ofInt (6)).toInt32 = (6 : Int32) := by decide
theorem kB_7 : (Int8.ofInt (7)).toInt32 = (7 : Int32) := by decide
theorem kB_8 : (Int8.ofInt (8)).toInt32 = (8 : Int32) := by decide
theorem kB_9 : (Int8.ofInt (9)).toInt32 = (9 : Int32) := by decide
theorem kB_10 : (Int8.ofInt (10)).toInt32 = (10 : Int32) := by decide
theorem kB_11 : (Int8.ofInt (11)).toInt32 = (11 : Int32) := by decide
theorem kB_12 : (Int8.ofInt (12)).toInt32 = (12 : Int32) := by decide
theorem kB_13 : (Int8.ofInt (13)).toInt32 = (13 : Int32) := by decide
theorem kB_14 : (Int8.ofInt (14)).toInt32 = (14 : Int32) := by decide
theorem kB_15 : (Int8.ofInt (15)).toInt32 = (15 : Int32) := by decide
theorem kB_16 : (Int8.ofInt (16)).toInt32 = (16 : Int32) := by decide
theorem kB_17 : (Int8.ofInt (17)).toInt32 = (17 : Int32) := by decide
theorem kB_18 : (Int8.ofInt (18)).toInt32 = (18 : Int32) := by decide
theorem kB_19 : (Int8.ofInt (19)).toInt32 = (19 : Int32) := by decide
theorem kB_20 : (Int8.ofInt (20)).toInt32 = (20 : Int32) := by decide
theorem kB_21 : (Int8.ofInt (21)).toInt32 = (21 : Int32) := by decide
theorem kB_22 : (Int8.ofInt (22)).toInt32 = (22 : Int32) := by decide
theorem kB_23 : (Int8.ofInt (23)).toInt32 = (23 : Int32) := by decide
theorem kB_24 : (Int8.ofInt (24)).toInt32 = (24 : Int32) := by decide
theorem kB_25 : (Int8.ofInt (25)).toInt32 = (25 : Int32) := by decide
theorem kB_26 : (Int8.ofInt (26)).toInt32 = (26 : Int32) := by decide
theorem kB_27 : (Int8.ofInt (27)).toInt32 = (27 : Int32) := by decide
theorem kB_28 : (Int8.ofInt (28)).toInt32 = (28 : Int32) := by decide
theorem kB_29 : (Int8.ofInt (29)).toInt32 = (29 : Int32) := by decide
theorem kB_30 : (Int8.ofInt (30)).toInt32 = (30 : Int32) := by decide
theorem kB_31 : (Int8.ofInt (31)).toInt32 = (31 : Int32) := by decide
theorem kB_32 : (Int8.ofInt (32)).toInt32 = (32 : Int32) := by decide
theorem kB_33 : (Int8.ofInt (33)).toInt32 = (33 : Int32) := by decide
theorem kB_34 : (Int8.ofInt (34)).toInt32 = (34 : Int32) := by decide
theorem kB_35 : (Int8.ofInt (35)).toInt32 = (35 : Int32) := by decide
theorem kB_36 : (Int8.ofInt (36)).toInt32 = (36 : Int32) := by decide
theorem kB_37 : (Int8.ofInt (37)).toInt32 = (37 : Int32) := by decide
theorem kB_38 : (Int8.ofInt (38)).toInt32 = (38 : Int32) := by decide
theorem kB_39 : (Int8.ofInt (39)).toInt32 = (39 : Int32) := by decide
theorem kB_40 : (Int8.ofInt (40)).toInt32 = (40 : Int32) := by decide
theorem kB_41 : (Int8.ofInt (41)).toInt32 = (41 : Int32) := by decide
theorem kB_42 : (Int8.ofInt (42)).toInt32 = (42 : Int32) := by decide
theorem kB_43 : (Int8.ofInt (43)).toInt32 = (43 : Int32) := by decide
theorem kB_44 : (Int8.ofInt (44)).toInt32 = (44 : Int32) := by decide
theorem kB_45 : (Int8.ofInt (45)).toInt32 = (45 : Int32) := by decide
theorem kB_46 : (Int8.ofInt (46)).toInt32 = (46 : Int32) := by decide
theorem kB_47 : (Int8.ofInt (47)).toInt32 = (47 : Int32) := by decide
theorem kB_48 : (Int8.ofInt (48)).toInt32 = (48 : Int32) := by decide
theorem kB_49 : (Int8.ofInt (49)).toInt32 = (49 : Int32) := by decide
theorem kB_50 : (Int8.ofInt (50)).toInt32 = (50 : Int32) := by decide
theorem kB_51 : (Int8.ofInt (51)).toInt32 = (51 : Int32) := by decide
theorem kB_52 : (Int8.ofInt (52)).toInt32 = (52 : Int32) := by decide
theorem kB_53 : (Int8.ofInt (53)).toInt32 = (53 : Int32) := by decide
theorem kB_54 : (Int8.ofInt (54)).toInt32 = (54 : Int32) := by decide
theorem kB_55 : (Int8.ofInt (55)).toInt32 = (55 : Int32) := by decide
theorem kB_56 : (Int8.ofInt (56)).toInt32 = (56 : Int32) := by decide
theorem kB_57 : (Int8.ofInt (57)).toInt32 = (57 : Int32) := by decide
theorem kB_58 : (Int8.ofInt (58)).toInt32 = (58 : Int32) := by decide
theorem kB_59 : (Int8.ofInt (59)).toInt32 = (59 : Int32) := by decide
theorem kB_60 : (Int8.ofInt (60)).toInt32 = (60 : Int32) := by decide
theorem kB_61 : (Int8.ofInt (61)).toInt32 = (61 : Int32) := by decide
theorem kB_62 : (Int8.ofInt (62)).toInt32 = (62 : Int32) := by decide
theorem kB_63 : (Int8.ofInt (63)).toInt32 = (63 : Int32) := by decide
theorem kB_64 : (Int8.ofInt (64)).toInt32 = (64 : Int32) := by decide
theorem kB_65 : (Int8.ofInt (65)).toInt32 = (65 : Int32) := by decide
theorem kB_66 : (Int8.ofInt (66)).toInt32 = (66 : Int32) := by decide
theorem kB_67 : (Int8.ofInt (67)).toInt32 = (67 : Int32) := by decide
theorem kB_68 : (Int8.ofInt (68)).toInt32 = (68 : Int32) := by decide
theorem kB_69 : (Int8.ofInt (69)).toInt32 = (69 : Int32) := by decide
theorem kB_70 : (Int8.ofInt (70)).toInt32 = (70 : Int32) := by decide
theorem kB_71 : (Int8.ofInt (71)).toInt32 = (71 : Int32) := by decide
theorem kB_72 : (Int8.ofInt (72)).toInt32 = (72 : Int32) := by decide
theorem kB_73 : (Int8.ofInt (73)).toInt32 = (73 : Int32) := by decide
theorem kB_74 : (Int8.ofInt (74)).toInt32 = (74 : Int32) := by decide
theorem kB_75 : (Int8.ofInt (75)).toInt32 = (75 : Int32) := by decide
theorem kB_76 : (Int8.ofInt (76)).toInt32 = (76 : Int32) := by decide
theorem kB_77 : (Int8.ofInt (77)).toInt32 = (77 : Int32) := by decide
theorem kB_78 : (Int8.ofInt (78)).toInt32 = (78 : Int32) := by decide
theorem kB_79 : (Int8.ofInt (79)).toInt32 = (79 : Int32) := by decide
theorem kB_80 : (Int8.ofInt (80)).toInt32 = (80 : Int32) := by decide
theorem kB_81 : (Int8.ofInt (81)).toInt32 = (81 : Int32) := by decide
theorem kB_82 : (Int8.ofInt (82)).toInt32 = (82 : Int32) := by decide
theorem kB_83 : (Int8.ofInt (83)).toInt32 = (83 : Int32) := by decide
theorem kB_84 : (Int8.ofInt (84)).toInt32 = (84 : Int32) := by decide
theorem kB_85 : (Int8.ofInt (85)).toInt32 = (85 : Int32) := by decide
theorem kB_97 : (Int8.ofInt (97)).toInt32 = (97 : Int32) := by decide
theorem kB_98 : (Int8.ofInt (98)).toInt32 = (98 : Int32) := by decide
theorem kB_99 : (Int8.ofInt (99)).toInt32 = (99 : Int32) := by decide
theorem kB_100 : (Int8.ofInt (100)).toInt32 = (100 : Int32) := by decide
theorem kB_101 : (Int8.ofInt (101)).toInt32 = (101 : Int32) := by decide
theorem kB_102 : (Int8.ofInt (102)).toInt32 = (102 : Int32) := by decide
theorem kB_103 : (Int8.ofInt (103)).toInt32 = (103 : Int32) := by decide
theorem kB_104 : (Int8.ofInt (104)).toInt32 = (104 : Int32) := by decide
theorem kB_105 : (Int8.ofInt (105)).toInt32 = (105 : Int32) := by decide
theorem kB_106 : (Int8.ofInt (106)).toInt32 = (106 : Int32) := by decide
theorem kB_107 : (Int8.ofInt (107)).toInt32 = (107 : Int32) := by decide
theorem kB_108 : (Int8.ofInt (108)).toInt32 = (108 : Int32) := by decide
theorem kB_109 : (Int8.ofInt (109)).toInt32 = (109 : Int32) := by decide
theorem kB_110 : (Int8.ofInt (110)).toInt32 = (110 : Int32) := by decide
theorem kB_111 : (Int8.ofInt (111)).toInt32 = (111 : Int32) := by decide
theorem kB_112 : (Int8.ofInt (112)).toInt32 = (112 : Int32) := by decide
theorem kB_114 : (Int8.ofInt (114)).toInt32 = (114 : Int32) := by decide
theorem kB_115 : (Int8.ofInt (115)).toInt32 = (115 : Int32) := by decide
theorem kB_116 : (Int8.ofInt (116)).toInt32 = (116 : Int32) := by decide
theorem kB_117 : (Int8.ofInt (117)).toInt32 = (117 : Int32) := by decide
theorem kB_118 : (Int8.ofInt (118)).toInt32 = (118 : Int32) := by decide
theorem kB_119 : (Int8.ofInt (119)).toInt32 = (119 : Int32) := by decide
theorem kB_120 : (Int8.ofInt (120)).toInt32 = (120 : Int32) := by decide
theorem kB_122 : (Int8.ofInt (122)).toInt32 = (122 : Int32) := by decide
theorem kB_126 : (Int8.ofInt (126)).toInt32 = (126 : Int32) := by decide
theorem kB_127 : (Int8.ofInt (127)).toInt32 = (127 : Int32) := by decide
theorem kI_m1 : Int32.ofInt (-1) = (-1 : Int32) := by decide
theorem kI_0 : Int32.ofInt (0) = (0 : Int32) := by decide
theorem kI_1 : Int32.ofInt (1) = (1 : Int32) := by decide
theorem kI_2 : Int32.ofInt (2) = (2 : Int32) := by decide
theorem kI_3 : Int32.ofInt (3) = (3 : Int32) := by decide
theorem kI_4 : Int32.ofInt (4) = (4 : Int32) := by decide
theorem kI_5 : Int32.ofInt (5) = (5 : Int32) := by decide
theorem kS_m1000 : (Int16.ofInt (-1000)).toInt32 = (-1000 : Int32) := by decide
theorem kS_255 : (Int16.ofInt (255)).toInt32 = (255 : Int32) := by decide
theorem kS_256 : (Int16.ofInt (256)).toInt32 = (256 : Int32) := by decide
theorem kS_512 : (Int16.ofInt (512)).toInt32 = (512 : Int32) := by decide
theorem kS_1000 : (Int16.ofInt (1000)).toInt32 = (1000 : Int32) := by decide
theorem kS_4096 : (Int16.ofInt (4096)).toInt32 = (4096 : Int32) := by decide
theorem kS_8192 : (Int16.ofInt (8192)).toInt32 = (8192 : Int32) := by decide
theorem kS_12288 : (Int16.ofInt (12288)).toInt32 = (12288 : Int32) := by decide
theorem kS_16384 : (Int16.ofInt (16384)).toInt32 = (16384 : Int32) := by decide
theorem kS_20000 : (Int16.ofInt (20000)).toInt32 = (20000 : Int32) := by decide
theorem kS_28672 : (Int16.ofInt (28672)).toInt32 = (28672 : Int32) := by decide
theorem ko_mX12_init : xIok mX12_init = true := by decide +kernel
theorem nm_mX12_init : (mX12_init.1.name == "<init>") = true := by decide +kernel
theorem ko_mJ9_min_7cf53 : xSok mJ9_min_7cf53 = true := by decide +kernel
theorem nm_mJ9_min_7cf53 : (mJ9_min_7cf53.1.name == "<init>") = false := by decide +kernel
theorem ko_mJ9_max_7cf53 : xSok mJ9_max_7cf53 = true := by decide +kernel
theorem nm_mJ9_max_7cf53 : (mJ9_max_7cf53.1.name == "<init>") = false := by decide +kernel
theorem ko_mX4_init : xIok mX4_init = true := by decide +kernel
theorem nm_mX4_init : (mX4_init.1.name == "<init>") = true := by decide +kernel
theorem ko_mX4_below : xSok mX4_below = true := by decide +kernel
theorem nm_mX4_below : (mX4_below.1.name == "<init>") = false := by decide +kernel
theorem ko_mX3_init : xIok mX3_init = true := by decide +kernel
theorem nm_mX3_init : (mX3_init.1.name == "<init>") = true := by decide +kernel
theorem ko_mX0_init : xIok mX0_init = true := by decide +kernel
theorem nm_mX0_init : (mX0_init.1.name == "<init>") = true := by decide +kernel
theorem ko_mX11_init : xIok mX11_init = true := by decide +kernel
theorem nm_mX11_init : (mX11_init.1.name == "<init>") = true := by decide +kernel
theorem ko_mX2_init : xIok mX2_init = true := by decide +kernel
theorem nm_mX2_init : (mX2_init.1.name == "<init>") = true := by decide +kernel
theorem ko_mX10_init : xIok mX10_init = true := by decide +kernel
theorem nm_mX10_init : (mX10_init.1.name == "<init>") = true := by decide +kernel
theorem ko_mX5_init : xIok mX5_init = true := by decide +kernel
theorem nm_mX5_init : (mX5_init.1.name == "<init>") = true := by decide +kernel
theorem ko_mX1_init : xIok mX1_init = true := by decide +kernel
theorem nm_mX1_init : (mX1_init.1.name == "<init>") = true := by decide +kernel
theorem ko_mX8_init : xIok mX8_init = true := by decide +kernel
theorem nm_mX8_init : (mX8_init.1.name == "<init>") = true := by decide +kernel
theorem ko_mX6_init : xIok mX6_init = true := by decide +kernel
theorem nm_mX6_init : (mX6_init.1.name == "<init>") = true := by decide +kernel
theorem ko_mX12_clearText : xVok mX12_clearText = true := by decide +kernel
theorem nm_mX12_clearText : (mX12_clearText.1.name == "<init>") = false := by decide +kernel
theorem ko_mX11_clear : xVok mX11_clear = true := by decide +kernel
theorem nm_mX11_clear : (mX11_clear.1.name == "<init>") = false := by decide +kernel
theorem ko_mX12_configure : xVok mX12_configure = true := by decide +kernel
theorem nm_mX12_configure : (mX12_configure.1.name == "<init>") = false := by decide +kernel
theorem ko_mX2_read : xVok mX2_read = true := by decide +kernel
theorem nm_mX2_read : (mX2_read.1.name == "<init>") = false := by decide +kernel
theorem ko_mX11_length : xVok mX11_length = true := by decide +kernel
theorem nm_mX11_length : (mX11_length.1.name == "<init>") = false := by decide +kernel
theorem ko_mX11_endOfLetters : xVok mX11_endOfLetters = true := by decide +kernel
theorem nm_mX11_endOfLetters : (mX11_endOfLetters.1.name == "<init>") = false := by decide +kernel
theorem ko_mX11_codeAt : xVok mX11_codeAt = true := by decide +kernel
theorem nm_mX11_codeAt : (mX11_codeAt.1.name == "<init>") = false := by decide +kernel
theorem ko_mX11_isLetter : xSok mX11_isLetter = true := by decide +kernel
theorem nm_mX11_isLetter : (mX11_isLetter.1.name == "<init>") = false := by decide +kernel
theorem ko_mX2_settingNamed : xSok mX2_settingNamed = true := by decide +kernel
theorem nm_mX2_settingNamed : (mX2_settingNamed.1.name == "<init>") = false := by decide +kernel
theorem ko_mX11_matches : xVok mX11_matches = true := by decide +kernel
theorem nm_mX11_matches : (mX11_matches.1.name == "<init>") = false := by decide +kernel
theorem ko_mJ0_length_8abf5 : xVok mJ0_length_8abf5 = true := by decide +kernel
theorem nm_mJ0_length_8abf5 : (mJ0_length_8abf5.1.name == "<init>") = false := by decide +kernel
theorem ko_mJ0_coder_7d493 : xVok mJ0_coder_7d493 = true := by decide +kernel
theorem nm_mJ0_coder_7d493 : (mJ0_coder_7d493.1.name == "<init>") = false := by decide +kernel
theorem ko_mJ0_charAt_5068e : xVok mJ0_charAt_5068e = true := by decide +kernel
theorem nm_mJ0_charAt_5068e : (mJ0_charAt_5068e.1.name == "<init>") = false := by decide +kernel
theorem ko_mJ0_isLatin1_aae02 : xVok mJ0_isLatin1_aae02 = true := by decide +kernel
theorem nm_mJ0_isLatin1_aae02 : (mJ0_isLatin1_aae02.1.name == "<init>") = false := by decide +kernel
theorem ko_mJ1_charAt_3b067 : xSok mJ1_charAt_3b067 = true := by decide +kernel
theorem nm_mJ1_charAt_3b067 : (mJ1_charAt_3b067.1.name == "<init>") = false := by decide +kernel
theorem ko_mJ0_checkIndex_df160 : xSok mJ0_checkIndex_df160 = true := by decide +kernel
theorem nm_mJ0_checkIndex_df160 : (mJ0_checkIndex_df160.1.name == "<init>") = false := by decide +kernel
theorem ko_mJ3_checkIndex_8e157 : xSok mJ3_checkIndex_8e157 = true := by decide +kernel
theorem nm_mJ3_checkIndex_8e157 : (mJ3_checkIndex_8e157.1.name == "<init>") = false := by decide +kernel
theorem ko_mX11_endOfLettersAndDigits : xVok mX11_endOfLettersAndDigits = true := by decide +kernel
theorem nm_mX11_endOfLettersAndDigits : (mX11_endOfLettersAndDigits.1.name == "<init>") = false := by decide +kernel
theorem ko_mX11_isDigit : xSok mX11_isDigit = true := by decide +kernel
theorem nm_mX11_isDigit : (mX11_isDigit.1.name == "<init>") = false := by decide +kernel
theorem ko_mX9_valueIn : xVok mX9_valueIn = true := by decide +kernel
theorem nm_mX9_valueIn : (mX9_valueIn.1.name == "<init>") = false := by decide +kernel
theorem ko_mX9_hasWords : xVok mX9_hasWords = true := by decide +kernel
theorem nm_mX9_hasWords : (mX9_hasWords.1.name == "<init>") = false := by decide +kernel
theorem ko_mJ0_isEmpty_aae02 : xVok mJ0_isEmpty_aae02 = true := by decide +kernel
theorem nm_mJ0_isEmpty_aae02 : (mJ0_isEmpty_aae02.1.name == "<init>") = false := by decide +kernel
theorem ko_mX11_endOfDigits : xVok mX11_endOfDigits = true := by decide +kernel
theorem nm_mX11_endOfDigits : (mX11_endOfDigits.1.name == "<init>") = false := by decide +kernel
theorem ko_mX11_numberOf : xVok mX11_numberOf = true := by decide +kernel
theorem nm_mX11_numberOf : (mX11_numberOf.1.name == "<init>") = false := by decide +kernel
theorem ko_mX2_note : xVok mX2_note = true := by decide +kernel
theorem nm_mX2_note : (mX2_note.1.name == "<init>") = false := by decide +kernel
theorem ko_mX2_applyRead : xVok mX2_applyRead = true := by decide +kernel
theorem nm_mX2_applyRead : (mX2_applyRead.1.name == "<init>") = false := by decide +kernel
theorem ko_mX12_compare : xVok mX12_compare = true := by decide +kernel
theorem nm_mX12_compare : (mX12_compare.1.name == "<init>") = false := by decide +kernel
theorem ko_mX4_paint : xVok mX4_paint = true := by decide +kernel
theorem nm_mX4_paint : (mX4_paint.1.name == "<init>") = false := by decide +kernel
theorem ko_mX4_span : xVok mX4_span = true := by decide +kernel
theorem nm_mX4_span : (mX4_span.1.name == "<init>") = false := by decide +kernel
theorem ko_mX4_clipped : xSok mX4_clipped = true := by decide +kernel
theorem nm_mX4_clipped : (mX4_clipped.1.name == "<init>") = false := by decide +kernel
theorem ko_mX4_rowAt : xVok mX4_rowAt = true := by decide +kernel
theorem nm_mX4_rowAt : (mX4_rowAt.1.name == "<init>") = false := by decide +kernel
theorem ko_mX4_putRow : xVok mX4_putRow = true := by decide +kernel
theorem nm_mX4_putRow : (mX4_putRow.1.name == "<init>") = false := by decide +kernel
theorem ko_mX1_clean : xVok mX1_clean = true := by decide +kernel
theorem nm_mX1_clean : (mX1_clean.1.name == "<init>") = false := by decide +kernel
theorem ko_mX2_valueOf : xVok mX2_valueOf = true := by decide +kernel
theorem nm_mX2_valueOf : (mX2_valueOf.1.name == "<init>") = false := by decide +kernel
theorem ko_mX4_takeFrom : xVok mX4_takeFrom = true := by decide +kernel
theorem nm_mX4_takeFrom : (mX4_takeFrom.1.name == "<init>") = false := by decide +kernel
theorem ko_mX0_strip : xVok mX0_strip = true := by decide +kernel
theorem nm_mX0_strip : (mX0_strip.1.name == "<init>") = false := by decide +kernel
theorem ko_mX0_begin : xVok mX0_begin = true := by decide +kernel
theorem nm_mX0_begin : (mX0_begin.1.name == "<init>") = false := by decide +kernel
theorem ko_mX0_findNext : xVok mX0_findNext = true := by decide +kernel
theorem nm_mX0_findNext : (mX0_findNext.1.name == "<init>") = false := by decide +kernel
theorem ko_mX0_grow : xVok mX0_grow = true := by decide +kernel
theorem nm_mX0_grow : (mX0_grow.1.name == "<init>") = false := by decide +kernel
theorem ko_mX0_spread : xVok mX0_spread = true := by decide +kernel
theorem nm_mX0_spread : (mX0_spread.1.name == "<init>") = false := by decide +kernel
theorem ko_mX0_blobAt : xVok mX0_blobAt = true := by decide +kernel
theorem nm_mX0_blobAt : (mX0_blobAt.1.name == "<init>") = false := by decide +kernel
theorem ko_mX0_widened : xSok mX0_widened = true := by decide +kernel
theorem nm_mX0_widened : (mX0_widened.1.name == "<init>") = false := by decide +kernel
theorem ko_mX0_close : xVok mX0_close = true := by decide +kernel
theorem nm_mX0_close : (mX0_close.1.name == "<init>") = false := by decide +kernel
theorem ko_mX0_pixels : xVok mX0_pixels = true := by decide +kernel
theorem nm_mX0_pixels : (mX0_pixels.1.name == "<init>") = false := by decide +kernel
theorem ko_mJ13_bitCount_95d88 : xSok mJ13_bitCount_95d88 = true := by decide +kernel
theorem nm_mJ13_bitCount_95d88 : (mJ13_bitCount_95d88.1.name == "<init>") = false := by decide +kernel
theorem ko_mX0_erase : xVok mX0_erase = true := by decide +kernel
theorem nm_mX0_erase : (mX0_erase.1.name == "<init>") = false := by decide +kernel
theorem ko_mX1_examine : xVok mX1_examine = true := by decide +kernel
theorem nm_mX1_examine : (mX1_examine.1.name == "<init>") = false := by decide +kernel
theorem ko_mX8_search : xVok mX8_search = true := by decide +kernel
theorem nm_mX8_search : (mX8_search.1.name == "<init>") = false := by decide +kernel
theorem ko_mX8_countCells : xVok mX8_countCells = true := by decide +kernel
theorem nm_mX8_countCells : (mX8_countCells.1.name == "<init>") = false := by decide +kernel
theorem ko_mX8_cellColumns : xVok mX8_cellColumns = true := by decide +kernel
theorem nm_mX8_cellColumns : (mX8_cellColumns.1.name == "<init>") = false := by decide +kernel
theorem ko_mX8_cellRows : xVok mX8_cellRows = true := by decide +kernel
theorem nm_mX8_cellRows : (mX8_cellRows.1.name == "<init>") = false := by decide +kernel
theorem ko_mX4_inkWithin : xVok mX4_inkWithin = true := by decide +kernel
theorem nm_mX4_inkWithin : (mX4_inkWithin.1.name == "<init>") = false := by decide +kernel
theorem ko_mX8_look : xVok mX8_look = true := by decide +kernel
theorem nm_mX8_look : (mX8_look.1.name == "<init>") = false := by decide +kernel
theorem ko_mX4_drawFlipped : xVok mX4_drawFlipped = true := by decide +kernel
theorem nm_mX4_drawFlipped : (mX4_drawFlipped.1.name == "<init>") = false := by decide +kernel
theorem ko_mX4_mirrored : xVok mX4_mirrored = true := by decide +kernel
theorem nm_mX4_mirrored : (mX4_mirrored.1.name == "<init>") = false := by decide +kernel
theorem ko_mJ9_floorDiv_7cf53 : xSok mJ9_floorDiv_7cf53 = true := by decide +kernel
theorem nm_mJ9_floorDiv_7cf53 : (mJ9_floorDiv_7cf53.1.name == "<init>") = false := by decide +kernel
theorem ko_mX4_moved : xSok mX4_moved = true := by decide +kernel
theorem nm_mX4_moved : (mX4_moved.1.name == "<init>") = false := by decide +kernel
theorem ko_mX8_findCoarse : xVok mX8_findCoarse = true := by decide +kernel
theorem nm_mX8_findCoarse : (mX8_findCoarse.1.name == "<init>") = false := by decide +kernel
theorem ko_mX8_coarseCost : xVok mX8_coarseCost = true := by decide +kernel
theorem nm_mX8_coarseCost : (mX8_coarseCost.1.name == "<init>") = false := by decide +kernel
theorem ko_mX8_countAt : xSok mX8_countAt = true := by decide +kernel
theorem nm_mX8_countAt : (mX8_countAt.1.name == "<init>") = false := by decide +kernel
theorem ko_mJ9_abs_0f7a4 : xSok mJ9_abs_0f7a4 = true := by decide +kernel
theorem nm_mJ9_abs_0f7a4 : (mJ9_abs_0f7a4.1.name == "<init>") = false := by decide +kernel
theorem ko_mX8_offer : xVok mX8_offer = true := by decide +kernel
theorem nm_mX8_offer : (mX8_offer.1.name == "<init>") = false := by decide +kernel
theorem ko_mX8_findFine : xVok mX8_findFine = true := by decide +kernel
theorem nm_mX8_findFine : (mX8_findFine.1.name == "<init>") = false := by decide +kernel
theorem ko_mX8_costOf : xVok mX8_costOf = true := by decide +kernel
theorem nm_mX8_costOf : (mX8_costOf.1.name == "<init>") = false := by decide +kernel
theorem ko_mX4_drawMoved : xVok mX4_drawMoved = true := by decide +kernel
theorem nm_mX4_drawMoved : (mX4_drawMoved.1.name == "<init>") = false := by decide +kernel
theorem ko_mX4_drawUnmatched : xVok mX4_drawUnmatched = true := by decide +kernel
theorem nm_mX4_drawUnmatched : (mX4_drawUnmatched.1.name == "<init>") = false := by decide +kernel
theorem ko_mX4_inkAround : xVok mX4_inkAround = true := by decide +kernel
theorem nm_mX4_inkAround : (mX4_inkAround.1.name == "<init>") = false := by decide +kernel
theorem ko_mX4_keepOnly : xVok mX4_keepOnly = true := by decide +kernel
theorem nm_mX4_keepOnly : (mX4_keepOnly.1.name == "<init>") = false := by decide +kernel
theorem ko_mX1_measureBlocks : xVok mX1_measureBlocks = true := by decide +kernel
theorem nm_mX1_measureBlocks : (mX1_measureBlocks.1.name == "<init>") = false := by decide +kernel
theorem ko_mX1_blockCount : xVok mX1_blockCount = true := by decide +kernel
theorem nm_mX1_blockCount : (mX1_blockCount.1.name == "<init>") = false := by decide +kernel
theorem ko_mX1_group : xVok mX1_group = true := by decide +kernel
theorem nm_mX1_group : (mX1_group.1.name == "<init>") = false := by decide +kernel
theorem ko_mX1_mark : xVok mX1_mark = true := by decide +kernel
theorem nm_mX1_mark : (mX1_mark.1.name == "<init>") = false := by decide +kernel
theorem ko_mX1_join : xVok mX1_join = true := by decide +kernel
theorem nm_mX1_join : (mX1_join.1.name == "<init>") = false := by decide +kernel
theorem ko_mX1_formRegions : xVok mX1_formRegions = true := by decide +kernel
theorem nm_mX1_formRegions : (mX1_formRegions.1.name == "<init>") = false := by decide +kernel
theorem ko_mX1_find : xVok mX1_find = true := by decide +kernel
theorem nm_mX1_find : (mX1_find.1.name == "<init>") = false := by decide +kernel
theorem ko_mX7_init : xIok mX7_init = true := by decide +kernel
theorem nm_mX7_init : (mX7_init.1.name == "<init>") = true := by decide +kernel
theorem ko_mX1_collect : xVok mX1_collect = true := by decide +kernel
theorem nm_mX1_collect : (mX1_collect.1.name == "<init>") = false := by decide +kernel
theorem ko_mX5_begin : xVok mX5_begin = true := by decide +kernel
theorem nm_mX5_begin : (mX5_begin.1.name == "<init>") = false := by decide +kernel
theorem ko_mX1_spanOf : xVok mX1_spanOf = true := by decide +kernel
theorem nm_mX1_spanOf : (mX1_spanOf.1.name == "<init>") = false := by decide +kernel
theorem ko_mX5_takeRow : xVok mX5_takeRow = true := by decide +kernel
theorem nm_mX5_takeRow : (mX5_takeRow.1.name == "<init>") = false := by decide +kernel
theorem ko_mX7_settle : xVok mX7_settle = true := by decide +kernel
theorem nm_mX7_settle : (mX7_settle.1.name == "<init>") = false := by decide +kernel
theorem ko_mX5_settle : xVok mX5_settle = true := by decide +kernel
theorem nm_mX5_settle : (mX5_settle.1.name == "<init>") = false := by decide +kernel
theorem ko_mX5_lowestBit : xSok mX5_lowestBit = true := by decide +kernel
theorem nm_mX5_lowestBit : (mX5_lowestBit.1.name == "<init>") = false := by decide +kernel
theorem ko_mX5_bitsUpToHighest : xSok mX5_bitsUpToHighest = true := by decide +kernel
theorem nm_mX5_bitsUpToHighest : (mX5_bitsUpToHighest.1.name == "<init>") = false := by decide +kernel
theorem ko_mX5_shapeRow : xVok mX5_shapeRow = true := by decide +kernel
theorem nm_mX5_shapeRow : (mX5_shapeRow.1.name == "<init>") = false := by decide +kernel
theorem ko_mX1_sortRegions : xVok mX1_sortRegions = true := by decide +kernel
theorem nm_mX1_sortRegions : (mX1_sortRegions.1.name == "<init>") = false := by decide +kernel
theorem ko_mX7_start : xVok mX7_start = true := by decide +kernel
theorem nm_mX7_start : (mX7_start.1.name == "<init>") = false := by decide +kernel
theorem ko_mX1_sortByKey : xVok mX1_sortByKey = true := by decide +kernel
theorem nm_mX1_sortByKey : (mX1_sortByKey.1.name == "<init>") = false := by decide +kernel
theorem ko_mX7_end : xVok mX7_end = true := by decide +kernel
theorem nm_mX7_end : (mX7_end.1.name == "<init>") = false := by decide +kernel
theorem ko_mX7_takeNumber : xVok mX7_takeNumber = true := by decide +kernel
theorem nm_mX7_takeNumber : (mX7_takeNumber.1.name == "<init>") = false := by decide +kernel
theorem ko_mX1_pairParts : xVok mX1_pairParts = true := by decide +kernel
theorem nm_mX1_pairParts : (mX1_pairParts.1.name == "<init>") = false := by decide +kernel
theorem ko_mX1_pair : xVok mX1_pair = true := by decide +kernel
theorem nm_mX1_pair : (mX1_pair.1.name == "<init>") = false := by decide +kernel
theorem ko_mX5_hasShapeOf : xVok mX5_hasShapeOf = true := by decide +kernel
theorem nm_mX5_hasShapeOf : (mX5_hasShapeOf.1.name == "<init>") = false := by decide +kernel
theorem ko_mX1_listChanges : xVok mX1_listChanges = true := by decide +kernel
theorem nm_mX1_listChanges : (mX1_listChanges.1.name == "<init>") = false := by decide +kernel
theorem ko_mX1_list : xVok mX1_list = true := by decide +kernel
theorem nm_mX1_list : (mX1_list.1.name == "<init>") = false := by decide +kernel
theorem ko_mX10_numberOf : xVok mX10_numberOf = true := by decide +kernel
theorem nm_mX10_numberOf : (mX10_numberOf.1.name == "<init>") = false := by decide +kernel
theorem ko_mX4_linesUpTo : xVok mX4_linesUpTo = true := by decide +kernel
theorem nm_mX4_linesUpTo : (mX4_linesUpTo.1.name == "<init>") = false := by decide +kernel
theorem ko_mX4_startsLine : xVok mX4_startsLine = true := by decide +kernel
theorem nm_mX4_startsLine : (mX4_startsLine.1.name == "<init>") = false := by decide +kernel
theorem ko_mL_cell : xSok mL_cell = true := by decide +kernel
theorem nm_mL_cell : (mL_cell.1.name == "<init>") = false := by decide +kernel
theorem ko_mL_row : xSok mL_row = true := by decide +kernel
theorem nm_mL_row : (mL_row.1.name == "<init>") = false := by decide +kernel
theorem ko_mX12_row : xVok mX12_row = true := by decide +kernel
theorem nm_mX12_row : (mX12_row.1.name == "<init>") = false := by decide +kernel
theorem ko_mX12_pageAt : xVok mX12_pageAt = true := by decide +kernel
theorem nm_mX12_pageAt : (mX12_pageAt.1.name == "<init>") = false := by decide +kernel
theorem ko_mX12_requireRow : xVok mX12_requireRow = true := by decide +kernel
theorem nm_mX12_requireRow : (mX12_requireRow.1.name == "<init>") = false := by decide +kernel
theorem ko_mL_setRow : xSok mL_setRow = true := by decide +kernel
theorem nm_mL_setRow : (mL_setRow.1.name == "<init>") = false := by decide +kernel
theorem ko_mX12_setRow : xVok mX12_setRow = true := by decide +kernel
theorem nm_mX12_setRow : (mX12_setRow.1.name == "<init>") = false := by decide +kernel
theorem ko_mX3_keep : xVok mX3_keep = true := by decide +kernel
theorem nm_mX3_keep : (mX3_keep.1.name == "<init>") = false := by decide +kernel
theorem ko_mX3_slotAt : xVok mX3_slotAt = true := by decide +kernel
theorem nm_mX3_slotAt : (mX3_slotAt.1.name == "<init>") = false := by decide +kernel
theorem ko_mJ9_floorMod_7cf53 : xSok mJ9_floorMod_7cf53 = true := by decide +kernel
theorem nm_mJ9_floorMod_7cf53 : (mJ9_floorMod_7cf53.1.name == "<init>") = false := by decide +kernel
theorem ko_mX4_differences : xVok mX4_differences = true := by decide +kernel
theorem nm_mX4_differences : (mX4_differences.1.name == "<init>") = false := by decide +kernel
theorem ko_mL_fill : xSok mL_fill = true := by decide +kernel
theorem nm_mL_fill : (mL_fill.1.name == "<init>") = false := by decide +kernel
theorem ko_mX12_fill : xVok mX12_fill = true := by decide +kernel
theorem nm_mX12_fill : (mX12_fill.1.name == "<init>") = false := by decide +kernel
theorem ko_mX12_requireSize : xSok mX12_requireSize = true := by decide +kernel
theorem nm_mX12_requireSize : (mX12_requireSize.1.name == "<init>") = false := by decide +kernel
theorem ko_mL_copy : xSok mL_copy = true := by decide +kernel
theorem nm_mL_copy : (mL_copy.1.name == "<init>") = false := by decide +kernel
theorem ko_mX12_copy : xVok mX12_copy = true := by decide +kernel
theorem nm_mX12_copy : (mX12_copy.1.name == "<init>") = false := by decide +kernel
theorem ko_mL_merge : xSok mL_merge = true := by decide +kernel
theorem nm_mL_merge : (mL_merge.1.name == "<init>") = false := by decide +kernel
theorem ko_mX12_merge : xVok mX12_merge = true := by decide +kernel
theorem nm_mX12_merge : (mX12_merge.1.name == "<init>") = false := by decide +kernel
theorem ko_mX4_drawMajority : xVok mX4_drawMajority = true := by decide +kernel
theorem nm_mX4_drawMajority : (mX4_drawMajority.1.name == "<init>") = false := by decide +kernel
theorem ko_mL_flip : xSok mL_flip = true := by decide +kernel
theorem nm_mL_flip : (mL_flip.1.name == "<init>") = false := by decide +kernel
theorem ko_mX12_flip : xVok mX12_flip = true := by decide +kernel
theorem nm_mX12_flip : (mX12_flip.1.name == "<init>") = false := by decide +kernel
theorem ko_mL_despeckle : xSok mL_despeckle = true := by decide +kernel
theorem nm_mL_despeckle : (mL_despeckle.1.name == "<init>") = false := by decide +kernel
theorem ko_mX12_despeckle : xVok mX12_despeckle = true := by decide +kernel
theorem nm_mX12_despeckle : (mX12_despeckle.1.name == "<init>") = false := by decide +kernel
theorem ko_mL_paste : xSok mL_paste = true := by decide +kernel
theorem nm_mL_paste : (mL_paste.1.name == "<init>") = false := by decide +kernel
theorem ko_mX12_paste : xVok mX12_paste = true := by decide +kernel
theorem nm_mX12_paste : (mX12_paste.1.name == "<init>") = false := by decide +kernel
theorem ko_mX11_patternError : xVok mX11_patternError = true := by decide +kernel
theorem nm_mX11_patternError : (mX11_patternError.1.name == "<init>") = false := by decide +kernel
theorem ko_mX11_isCount : xSok mX11_isCount = true := by decide +kernel
theorem nm_mX11_isCount : (mX11_isCount.1.name == "<init>") = false := by decide +kernel
theorem ko_mX11_errorAtMark : xVok mX11_errorAtMark = true := by decide +kernel
theorem nm_mX11_errorAtMark : (mX11_errorAtMark.1.name == "<init>") = false := by decide +kernel
theorem ko_mX11_drawPattern : xVok mX11_drawPattern = true := by decide +kernel
theorem nm_mX11_drawPattern : (mX11_drawPattern.1.name == "<init>") = false := by decide +kernel
theorem ko_mL_components : xSok mL_components = true := by decide +kernel
theorem nm_mL_components : (mL_components.1.name == "<init>") = false := by decide +kernel
theorem ko_mX12_components : xVok mX12_components = true := by decide +kernel
theorem nm_mX12_components : (mX12_components.1.name == "<init>") = false := by decide +kernel
theorem ko_mX0_countIn : xVok mX0_countIn = true := by decide +kernel
theorem nm_mX0_countIn : (mX0_countIn.1.name == "<init>") = false := by decide +kernel
theorem ko_mL_lines : xSok mL_lines = true := by decide +kernel
theorem nm_mL_lines : (mL_lines.1.name == "<init>") = false := by decide +kernel
theorem ko_mX12_lines : xVok mX12_lines = true := by decide +kernel
theorem nm_mX12_lines : (mX12_lines.1.name == "<init>") = false := by decide +kernel
theorem ko_mX4_lineCount : xVok mX4_lineCount = true := by decide +kernel
theorem nm_mX4_lineCount : (mX4_lineCount.1.name == "<init>") = false := by decide +kernel
theorem ko_mL_lineTop : xSok mL_lineTop = true := by decide +kernel
theorem nm_mL_lineTop : (mL_lineTop.1.name == "<init>") = false := by decide +kernel
theorem ko_mX12_lineTop : xVok mX12_lineTop = true := by decide +kernel
theorem nm_mX12_lineTop : (mX12_lineTop.1.name == "<init>") = false := by decide +kernel
theorem ko_mX12_topOfLine : xSok mX12_topOfLine = true := by decide +kernel
theorem nm_mX12_topOfLine : (mX12_topOfLine.1.name == "<init>") = false := by decide +kernel
theorem ko_mX4_lineStart : xVok mX4_lineStart = true := by decide +kernel
theorem nm_mX4_lineStart : (mX4_lineStart.1.name == "<init>") = false := by decide +kernel
theorem ko_mL_lineBottom : xSok mL_lineBottom = true := by decide +kernel
theorem nm_mL_lineBottom : (mL_lineBottom.1.name == "<init>") = false := by decide +kernel
theorem ko_mX12_lineBottom : xVok mX12_lineBottom = true := by decide +kernel
theorem nm_mX12_lineBottom : (mX12_lineBottom.1.name == "<init>") = false := by decide +kernel
theorem ko_mX4_lineEnd : xVok mX4_lineEnd = true := by decide +kernel
theorem nm_mX4_lineEnd : (mX4_lineEnd.1.name == "<init>") = false := by decide +kernel
theorem ko_mL_words : xSok mL_words = true := by decide +kernel
theorem nm_mL_words : (mL_words.1.name == "<init>") = false := by decide +kernel
theorem ko_mX12_words : xVok mX12_words = true := by decide +kernel
theorem nm_mX12_words : (mX12_words.1.name == "<init>") = false := by decide +kernel
theorem ko_mX4_wordCount : xVok mX4_wordCount = true := by decide +kernel
theorem nm_mX4_wordCount : (mX4_wordCount.1.name == "<init>") = false := by decide +kernel
theorem ko_mL_ink : xSok mL_ink = true := by decide +kernel
theorem nm_mL_ink : (mL_ink.1.name == "<init>") = false := by decide +kernel
theorem ko_mX12_ink : xVok mX12_ink = true := by decide +kernel
theorem nm_mX12_ink : (mX12_ink.1.name == "<init>") = false := by decide +kernel
theorem ko_mL_fingerprint : xSok mL_fingerprint = true := by decide +kernel
theorem nm_mL_fingerprint : (mL_fingerprint.1.name == "<init>") = false := by decide +kernel
theorem ko_mX12_fingerprint : xVok mX12_fingerprint = true := by decide +kernel
theorem nm_mX12_fingerprint : (mX12_fingerprint.1.name == "<init>") = false := by decide +kernel
theorem ko_mL_undo : xSok mL_undo = true := by decide +kernel
theorem nm_mL_undo : (mL_undo.1.name == "<init>") = false := by decide +kernel
theorem ko_mX12_undo : xVok mX12_undo = true := by decide +kernel
theorem nm_mX12_undo : (mX12_undo.1.name == "<init>") = false := by decide +kernel
theorem ko_mX3_isBare : xVok mX3_isBare = true := by decide +kernel
theorem nm_mX3_isBare : (mX3_isBare.1.name == "<init>") = false := by decide +kernel
theorem ko_mX3_restoreTo : xVok mX3_restoreTo = true := by decide +kernel
theorem nm_mX3_restoreTo : (mX3_restoreTo.1.name == "<init>") = false := by decide +kernel
theorem ko_mL_type : xSok mL_type = true := by decide +kernel
theorem nm_mL_type : (mL_type.1.name == "<init>") = false := by decide +kernel
theorem ko_mX12_type : xVok mX12_type = true := by decide +kernel
theorem nm_mX12_type : (mX12_type.1.name == "<init>") = false := by decide +kernel
theorem ko_mX11_isFull : xVok mX11_isFull = true := by decide +kernel
theorem nm_mX11_isFull : (mX11_isFull.1.name == "<init>") = false := by decide +kernel
theorem ko_mX11_add : xVok mX11_add = true := by decide +kernel
theorem nm_mX11_add : (mX11_add.1.name == "<init>") = false := by decide +kernel
theorem ko_mL_setting : xSok mL_setting = true := by decide +kernel
theorem nm_mL_setting : (mL_setting.1.name == "<init>") = false := by decide +kernel
theorem ko_mX12_setting : xVok mX12_setting = true := by decide +kernel
theorem nm_mX12_setting : (mX12_setting.1.name == "<init>") = false := by decide +kernel
theorem ko_mL_configChar : xSok mL_configChar = true := by decide +kernel
theorem nm_mL_configChar : (mL_configChar.1.name == "<init>") = false := by decide +kernel
theorem ko_mX12_configChar : xVok mX12_configChar = true := by decide +kernel
theorem nm_mX12_configChar : (mX12_configChar.1.name == "<init>") = false := by decide +kernel
theorem ko_mX6_seek : xVok mX6_seek = true := by decide +kernel
theorem nm_mX6_seek : (mX6_seek.1.name == "<init>") = false := by decide +kernel
theorem ko_mX2_describe : xVok mX2_describe = true := by decide +kernel
theorem nm_mX2_describe : (mX2_describe.1.name == "<init>") = false := by decide +kernel
theorem ko_mX6_put : xVok mX6_put = true := by decide +kernel
theorem nm_mX6_put : (mX6_put.1.name == "<init>") = false := by decide +kernel
theorem ko_mX2_describeOne : xVok mX2_describeOne = true := by decide +kernel
theorem nm_mX2_describeOne : (mX2_describeOne.1.name == "<init>") = false := by decide +kernel
theorem ko_mX6_write : xVok mX6_write = true := by decide +kernel
theorem nm_mX6_write : (mX6_write.1.name == "<init>") = false := by decide +kernel
theorem ko_mX6_writeNumber : xVok mX6_writeNumber = true := by decide +kernel
theorem nm_mX6_writeNumber : (mX6_writeNumber.1.name == "<init>") = false := by decide +kernel
theorem ko_mX6_found : xVok mX6_found = true := by decide +kernel
theorem nm_mX6_found : (mX6_found.1.name == "<init>") = false := by decide +kernel
theorem ko_mL_addMask : xSok mL_addMask = true := by decide +kernel
theorem nm_mL_addMask : (mL_addMask.1.name == "<init>") = false := by decide +kernel
theorem ko_mX12_addMask : xVok mX12_addMask = true := by decide +kernel
theorem nm_mX12_addMask : (mX12_addMask.1.name == "<init>") = false := by decide +kernel
theorem ko_mX12_isWithin : xSok mX12_isWithin = true := by decide +kernel
theorem nm_mX12_isWithin : (mX12_isWithin.1.name == "<init>") = false := by decide +kernel
theorem ko_mL_removeMask : xSok mL_removeMask = true := by decide +kernel
theorem nm_mL_removeMask : (mL_removeMask.1.name == "<init>") = false := by decide +kernel
theorem ko_mX12_removeMask : xVok mX12_removeMask = true := by decide +kernel
theorem nm_mX12_removeMask : (mX12_removeMask.1.name == "<init>") = false := by decide +kernel
theorem ko_mL_shiftX : xSok mL_shiftX = true := by decide +kernel
theorem nm_mL_shiftX : (mL_shiftX.1.name == "<init>") = false := by decide +kernel
theorem ko_mX12_shiftX : xVok mX12_shiftX = true := by decide +kernel
theorem nm_mX12_shiftX : (mX12_shiftX.1.name == "<init>") = false := by decide +kernel
theorem ko_mX12_registration : xVok mX12_registration = true := by decide +kernel
theorem nm_mX12_registration : (mX12_registration.1.name == "<init>") = false := by decide +kernel
theorem ko_mX12_requireComparison : xVok mX12_requireComparison = true := by decide +kernel
theorem nm_mX12_requireComparison : (mX12_requireComparison.1.name == "<init>") = false := by decide +kernel
theorem ko_mL_shiftY : xSok mL_shiftY = true := by decide +kernel
theorem nm_mL_shiftY : (mL_shiftY.1.name == "<init>") = false := by decide +kernel
theorem ko_mX12_shiftY : xVok mX12_shiftY = true := by decide +kernel
theorem nm_mX12_shiftY : (mX12_shiftY.1.name == "<init>") = false := by decide +kernel
theorem ko_mL_skew : xSok mL_skew = true := by decide +kernel
theorem nm_mL_skew : (mL_skew.1.name == "<init>") = false := by decide +kernel
theorem ko_mX12_skew : xVok mX12_skew = true := by decide +kernel
theorem nm_mX12_skew : (mX12_skew.1.name == "<init>") = false := by decide +kernel
theorem ko_mL_turned : xSok mL_turned = true := by decide +kernel
theorem nm_mL_turned : (mL_turned.1.name == "<init>") = false := by decide +kernel
theorem ko_mX12_turned : xVok mX12_turned = true := by decide +kernel
theorem nm_mX12_turned : (mX12_turned.1.name == "<init>") = false := by decide +kernel
theorem ko_mL_mismatch : xSok mL_mismatch = true := by decide +kernel
theorem nm_mL_mismatch : (mL_mismatch.1.name == "<init>") = false := by decide +kernel
theorem ko_mX12_mismatch : xVok mX12_mismatch = true := by decide +kernel
theorem nm_mX12_mismatch : (mX12_mismatch.1.name == "<init>") = false := by decide +kernel
theorem ko_mL_similarity : xSok mL_similarity = true := by decide +kernel
theorem nm_mL_similarity : (mL_similarity.1.name == "<init>") = false := by decide +kernel
theorem ko_mX12_similarity : xVok mX12_similarity = true := by decide +kernel
theorem nm_mX12_similarity : (mX12_similarity.1.name == "<init>") = false := by decide +kernel
theorem ko_mL_mismatchAt : xSok mL_mismatchAt = true := by decide +kernel
theorem nm_mL_mismatchAt : (mL_mismatchAt.1.name == "<init>") = false := by decide +kernel
theorem ko_mX12_mismatchAt : xVok mX12_mismatchAt = true := by decide +kernel
theorem nm_mX12_mismatchAt : (mX12_mismatchAt.1.name == "<init>") = false := by decide +kernel
theorem ko_mL_blockDifference : xSok mL_blockDifference = true := by decide +kernel
theorem nm_mL_blockDifference : (mL_blockDifference.1.name == "<init>") = false := by decide +kernel
theorem ko_mX12_blockDifference : xVok mX12_blockDifference = true := by decide +kernel
theorem nm_mX12_blockDifference : (mX12_blockDifference.1.name == "<init>") = false := by decide +kernel
theorem ko_mX1_differenceOf : xVok mX1_differenceOf = true := by decide +kernel
theorem nm_mX1_differenceOf : (mX1_differenceOf.1.name == "<init>") = false := by decide +kernel
theorem ko_mL_regions : xSok mL_regions = true := by decide +kernel
theorem nm_mL_regions : (mL_regions.1.name == "<init>") = false := by decide +kernel
theorem ko_mX12_regions : xVok mX12_regions = true := by decide +kernel
theorem nm_mX12_regions : (mX12_regions.1.name == "<init>") = false := by decide +kernel
theorem ko_mL_regionAt : xSok mL_regionAt = true := by decide +kernel
theorem nm_mL_regionAt : (mL_regionAt.1.name == "<init>") = false := by decide +kernel
theorem ko_mX12_regionAt : xVok mX12_regionAt = true := by decide +kernel
theorem nm_mX12_regionAt : (mX12_regionAt.1.name == "<init>") = false := by decide +kernel
theorem ko_mX1_regionOfPixel : xVok mX1_regionOfPixel = true := by decide +kernel
theorem nm_mX1_regionOfPixel : (mX1_regionOfPixel.1.name == "<init>") = false := by decide +kernel
theorem ko_mL_regionLeft : xSok mL_regionLeft = true := by decide +kernel
theorem nm_mL_regionLeft : (mL_regionLeft.1.name == "<init>") = false := by decide +kernel
theorem ko_mX12_regionLeft : xVok mX12_regionLeft = true := by decide +kernel
theorem nm_mX12_regionLeft : (mX12_regionLeft.1.name == "<init>") = false := by decide +kernel
theorem ko_mX12_regionOf : xVok mX12_regionOf = true := by decide +kernel
theorem nm_mX12_regionOf : (mX12_regionOf.1.name == "<init>") = false := by decide +kernel
theorem ko_mX1_regionNumbered : xVok mX1_regionNumbered = true := by decide +kernel
theorem nm_mX1_regionNumbered : (mX1_regionNumbered.1.name == "<init>") = false := by decide +kernel
theorem ko_mL_regionTop : xSok mL_regionTop = true := by decide +kernel
theorem nm_mL_regionTop : (mL_regionTop.1.name == "<init>") = false := by decide +kernel
theorem ko_mX12_regionTop : xVok mX12_regionTop = true := by decide +kernel
theorem nm_mX12_regionTop : (mX12_regionTop.1.name == "<init>") = false := by decide +kernel
theorem ko_mL_regionRight : xSok mL_regionRight = true := by decide +kernel
theorem nm_mL_regionRight : (mL_regionRight.1.name == "<init>") = false := by decide +kernel
theorem ko_mX12_regionRight : xVok mX12_regionRight = true := by decide +kernel
theorem nm_mX12_regionRight : (mX12_regionRight.1.name == "<init>") = false := by decide +kernel
theorem ko_mL_regionBottom : xSok mL_regionBottom = true := by decide +kernel
theorem nm_mL_regionBottom : (mL_regionBottom.1.name == "<init>") = false := by decide +kernel
theorem ko_mX12_regionBottom : xVok mX12_regionBottom = true := by decide +kernel
theorem nm_mX12_regionBottom : (mX12_regionBottom.1.name == "<init>") = false := by decide +kernel
theorem ko_mL_missingPixels : xSok mL_missingPixels = true := by decide +kernel
theorem nm_mL_missingPixels : (mL_missingPixels.1.name == "<init>") = false := by decide +kernel
theorem ko_mX12_missingPixels : xVok mX12_missingPixels = true := by decide +kernel
theorem nm_mX12_missingPixels : (mX12_missingPixels.1.name == "<init>") = false := by decide +kernel
theorem ko_mL_addedPixels : xSok mL_addedPixels = true := by decide +kernel
theorem nm_mL_addedPixels : (mL_addedPixels.1.name == "<init>") = false := by decide +kernel
theorem ko_mX12_addedPixels : xVok mX12_addedPixels = true := by decide +kernel
theorem nm_mX12_addedPixels : (mX12_addedPixels.1.name == "<init>") = false := by decide +kernel
theorem ko_mL_changes : xSok mL_changes = true := by decide +kernel
theorem nm_mL_changes : (mL_changes.1.name == "<init>") = false := by decide +kernel
theorem ko_mX12_changes : xVok mX12_changes = true := by decide +kernel
theorem nm_mX12_changes : (mX12_changes.1.name == "<init>") = false := by decide +kernel
theorem ko_mL_changeKind : xSok mL_changeKind = true := by decide +kernel
theorem nm_mL_changeKind : (mL_changeKind.1.name == "<init>") = false := by decide +kernel
theorem ko_mX12_changeKind : xVok mX12_changeKind = true := by decide +kernel
theorem nm_mX12_changeKind : (mX12_changeKind.1.name == "<init>") = false := by decide +kernel
theorem ko_mX12_changeOf : xVok mX12_changeOf = true := by decide +kernel
theorem nm_mX12_changeOf : (mX12_changeOf.1.name == "<init>") = false := by decide +kernel
theorem ko_mX1_changeNumbered : xVok mX1_changeNumbered = true := by decide +kernel
theorem nm_mX1_changeNumbered : (mX1_changeNumbered.1.name == "<init>") = false := by decide +kernel
theorem ko_mX5_kind : xVok mX5_kind = true := by decide +kernel
theorem nm_mX5_kind : (mX5_kind.1.name == "<init>") = false := by decide +kernel
theorem ko_mL_changeRegion : xSok mL_changeRegion = true := by decide +kernel
theorem nm_mL_changeRegion : (mL_changeRegion.1.name == "<init>") = false := by decide +kernel
theorem ko_mX12_changeRegion : xVok mX12_changeRegion = true := by decide +kernel
theorem nm_mX12_changeRegion : (mX12_changeRegion.1.name == "<init>") = false := by decide +kernel
theorem ko_mL_changeTarget : xSok mL_changeTarget = true := by decide +kernel
theorem nm_mL_changeTarget : (mL_changeTarget.1.name == "<init>") = false := by decide +kernel
theorem ko_mX12_changeTarget : xVok mX12_changeTarget = true := by decide +kernel
theorem nm_mX12_changeTarget : (mX12_changeTarget.1.name == "<init>") = false := by decide +kernel
theorem ko_mL_moveX : xSok mL_moveX = true := by decide +kernel
theorem nm_mL_moveX : (mL_moveX.1.name == "<init>") = false := by decide +kernel
theorem ko_mX12_moveX : xVok mX12_moveX = true := by decide +kernel
theorem nm_mX12_moveX : (mX12_moveX.1.name == "<init>") = false := by decide +kernel
theorem ko_mL_moveY : xSok mL_moveY = true := by decide +kernel
theorem nm_mL_moveY : (mL_moveY.1.name == "<init>") = false := by decide +kernel
theorem ko_mX12_moveY : xVok mX12_moveY = true := by decide +kernel
theorem nm_mX12_moveY : (mX12_moveY.1.name == "<init>") = false := by decide +kernel
theorem ko_mL_changePixels : xSok mL_changePixels = true := by decide +kernel
theorem nm_mL_changePixels : (mL_changePixels.1.name == "<init>") = false := by decide +kernel
theorem ko_mX12_changePixels : xVok mX12_changePixels = true := by decide +kernel
theorem nm_mX12_changePixels : (mX12_changePixels.1.name == "<init>") = false := by decide +kernel
theorem ko_mL_changeLine : xSok mL_changeLine = true := by decide +kernel
theorem nm_mL_changeLine : (mL_changeLine.1.name == "<init>") = false := by decide +kernel
theorem ko_mX12_changeLine : xVok mX12_changeLine = true := by decide +kernel
theorem nm_mX12_changeLine : (mX12_changeLine.1.name == "<init>") = false := by decide +kernel
theorem ko_mL_reportChar : xSok mL_reportChar = true := by decide +kernel
theorem nm_mL_reportChar : (mL_reportChar.1.name == "<init>") = false := by decide +kernel
theorem ko_mX12_reportChar : xVok mX12_reportChar = true := by decide +kernel
theorem nm_mX12_reportChar : (mX12_reportChar.1.name == "<init>") = false := by decide +kernel
theorem ko_mX1_report : xVok mX1_report = true := by decide +kernel
theorem nm_mX1_report : (mX1_report.1.name == "<init>") = false := by decide +kernel
theorem ko_mX6_writePair : xVok mX6_writePair = true := by decide +kernel
theorem nm_mX6_writePair : (mX6_writePair.1.name == "<init>") = false := by decide +kernel
theorem ko_mX5_report : xVok mX5_report = true := by decide +kernel
theorem nm_mX5_report : (mX5_report.1.name == "<init>") = false := by decide +kernel
theorem ko_mL_learn : xSok mL_learn = true := by decide +kernel
theorem nm_mL_learn : (mL_learn.1.name == "<init>") = false := by decide +kernel
theorem ko_mX12_learn : xVok mX12_learn = true := by decide +kernel
theorem nm_mX12_learn : (mX12_learn.1.name == "<init>") = false := by decide +kernel
theorem ko_mX10_isFull : xVok mX10_isFull = true := by decide +kernel
theorem nm_mX10_isFull : (mX10_isFull.1.name == "<init>") = false := by decide +kernel
theorem ko_mX10_add : xVok mX10_add = true := by decide +kernel
theorem nm_mX10_add : (mX10_add.1.name == "<init>") = false := by decide +kernel
theorem ko_mX5_takeShape : xVok mX5_takeShape = true := by decide +kernel
theorem nm_mX5_takeShape : (mX5_takeShape.1.name == "<init>") = false := by decide +kernel
theorem ko_mL_stampOf : xSok mL_stampOf = true := by decide +kernel
theorem nm_mL_stampOf : (mL_stampOf.1.name == "<init>") = false := by decide +kernel
theorem ko_mX12_stampOf : xVok mX12_stampOf = true := by decide +kernel
theorem nm_mX12_stampOf : (mX12_stampOf.1.name == "<init>") = false := by decide +kernel
theorem ko_mL_forgetStamp : xSok mL_forgetStamp = true := by decide +kernel
theorem nm_mL_forgetStamp : (mL_forgetStamp.1.name == "<init>") = false := by decide +kernel
theorem ko_mX12_forgetStamp : xVok mX12_forgetStamp = true := by decide +kernel
theorem nm_mX12_forgetStamp : (mX12_forgetStamp.1.name == "<init>") = false := by decide +kernel
theorem ko_mX10_drop : xVok mX10_drop = true := by decide +kernel
theorem nm_mX10_drop : (mX10_drop.1.name == "<init>") = false := by decide +kernel
theorem ko_mL_accept : xSok mL_accept = true := by decide +kernel
theorem nm_mL_accept : (mL_accept.1.name == "<init>") = false := by decide +kernel
theorem ko_mX12_accept : xVok mX12_accept = true := by decide +kernel
theorem nm_mX12_accept : (mX12_accept.1.name == "<init>") = false := by decide +kernel
theorem ko_mX4_stampPart : xVok mX4_stampPart = true := by decide +kernel
theorem nm_mX4_stampPart : (mX4_stampPart.1.name == "<init>") = false := by decide +kernel
theorem ko_mL_leastNoise : xSok mL_leastNoise = true := by decide +kernel
theorem nm_mL_leastNoise : (mL_leastNoise.1.name == "<init>") = false := by decide +kernel
theorem ko_mX12_leastNoise : xVok mX12_leastNoise = true := by decide +kernel
theorem nm_mX12_leastNoise : (mX12_leastNoise.1.name == "<init>") = false := by decide +kernel
theorem ko_mX1_noiseFor : xVok mX1_noiseFor = true := by decide +kernel
theorem nm_mX1_noiseFor : (mX1_noiseFor.1.name == "<init>") = false := by decide +kernel
theorem ko_mX13_init : xIok mX13_init = true := by decide +kernel
theorem nm_mX13_init : (mX13_init.1.name == "<init>") = true := by decide +kernel
theorem ko_mX13_thrown : xVok mX13_thrown = true := by decide +kernel
theorem nm_mX13_thrown : (mX13_thrown.1.name == "<init>") = false := by decide +kernel
theorem ko_mX13_row : xVok mX13_row = true := by decide +kernel
theorem nm_mX13_row : (mX13_row.1.name == "<init>") = false := by decide +kernel
theorem ko_mX13_isPage : xVok mX13_isPage = true := by decide +kernel
theorem nm_mX13_isPage : (mX13_isPage.1.name == "<init>") = false := by decide +kernel
theorem ko_mX13_in : xSok mX13_in = true := by decide +kernel
theorem nm_mX13_in : (mX13_in.1.name == "<init>") = false := by decide +kernel
theorem ko_mX13_fails : xVok mX13_fails = true := by decide +kernel
theorem nm_mX13_fails : (mX13_fails.1.name == "<init>") = false := by decide +kernel
theorem ko_mX13_rowOf : xVok mX13_rowOf = true := by decide +kernel
theorem nm_mX13_rowOf : (mX13_rowOf.1.name == "<init>") = false := by decide +kernel
theorem ko_mX13_setRow : xVok mX13_setRow = true := by decide +kernel
theorem nm_mX13_setRow : (mX13_setRow.1.name == "<init>") = false := by decide +kernel
theorem ko_mX13_takes : xVok mX13_takes = true := by decide +kernel
theorem nm_mX13_takes : (mX13_takes.1.name == "<init>") = false := by decide +kernel
theorem ko_mX13_edits : xVok mX13_edits = true := by decide +kernel
theorem nm_mX13_edits : (mX13_edits.1.name == "<init>") = false := by decide +kernel
theorem ko_mX13_fill : xVok mX13_fill = true := by decide +kernel
theorem nm_mX13_fill : (mX13_fill.1.name == "<init>") = false := by decide +kernel
theorem ko_mX13_isOn : xVok mX13_isOn = true := by decide +kernel
theorem nm_mX13_isOn : (mX13_isOn.1.name == "<init>") = false := by decide +kernel
theorem ko_mX13_isWithin : xSok mX13_isWithin = true := by decide +kernel
theorem nm_mX13_isWithin : (mX13_isWithin.1.name == "<init>") = false := by decide +kernel
theorem ko_mX13_copy : xVok mX13_copy = true := by decide +kernel
theorem nm_mX13_copy : (mX13_copy.1.name == "<init>") = false := by decide +kernel
theorem ko_mX13_at : xVok mX13_at = true := by decide +kernel
theorem nm_mX13_at : (mX13_at.1.name == "<init>") = false := by decide +kernel
theorem ko_mX13_merge : xVok mX13_merge = true := by decide +kernel
theorem nm_mX13_merge : (mX13_merge.1.name == "<init>") = false := by decide +kernel
theorem ko_mX13_flip : xVok mX13_flip = true := by decide +kernel
theorem nm_mX13_flip : (mX13_flip.1.name == "<init>") = false := by decide +kernel
theorem ko_mX13_despeckle : xVok mX13_despeckle = true := by decide +kernel
theorem nm_mX13_despeckle : (mX13_despeckle.1.name == "<init>") = false := by decide +kernel
theorem ko_mX13_cleans : xVok mX13_cleans = true := by decide +kernel
theorem nm_mX13_cleans : (mX13_cleans.1.name == "<init>") = false := by decide +kernel
theorem ko_mX13_gathers : xVok mX13_gathers = true := by decide +kernel
theorem nm_mX13_gathers : (mX13_gathers.1.name == "<init>") = false := by decide +kernel
theorem ko_mX13_looks : xVok mX13_looks = true := by decide +kernel
theorem nm_mX13_looks : (mX13_looks.1.name == "<init>") = false := by decide +kernel
theorem ko_mX13_components : xVok mX13_components = true := by decide +kernel
theorem nm_mX13_components : (mX13_components.1.name == "<init>") = false := by decide +kernel
theorem ko_mX13_lines : xVok mX13_lines = true := by decide +kernel
theorem nm_mX13_lines : (mX13_lines.1.name == "<init>") = false := by decide +kernel
theorem ko_mX13_linesTo : xVok mX13_linesTo = true := by decide +kernel
theorem nm_mX13_linesTo : (mX13_linesTo.1.name == "<init>") = false := by decide +kernel
theorem ko_mX13_hasInk : xVok mX13_hasInk = true := by decide +kernel
theorem nm_mX13_hasInk : (mX13_hasInk.1.name == "<init>") = false := by decide +kernel
theorem ko_mX13_lineTop : xVok mX13_lineTop = true := by decide +kernel
theorem nm_mX13_lineTop : (mX13_lineTop.1.name == "<init>") = false := by decide +kernel
theorem ko_mX13_topOf : xVok mX13_topOf = true := by decide +kernel
theorem nm_mX13_topOf : (mX13_topOf.1.name == "<init>") = false := by decide +kernel
theorem ko_mX13_lineBottom : xVok mX13_lineBottom = true := by decide +kernel
theorem nm_mX13_lineBottom : (mX13_lineBottom.1.name == "<init>") = false := by decide +kernel
theorem ko_mX13_bottomOf : xVok mX13_bottomOf = true := by decide +kernel
theorem nm_mX13_bottomOf : (mX13_bottomOf.1.name == "<init>") = false := by decide +kernel
theorem ko_mX13_words : xVok mX13_words = true := by decide +kernel
theorem nm_mX13_words : (mX13_words.1.name == "<init>") = false := by decide +kernel
theorem ko_mX13_ink : xVok mX13_ink = true := by decide +kernel
theorem nm_mX13_ink : (mX13_ink.1.name == "<init>") = false := by decide +kernel
theorem ko_mX13_fingerprint : xVok mX13_fingerprint = true := by decide +kernel
theorem nm_mX13_fingerprint : (mX13_fingerprint.1.name == "<init>") = false := by decide +kernel
theorem ko_mX13_undo : xVok mX13_undo = true := by decide +kernel
theorem nm_mX13_undo : (mX13_undo.1.name == "<init>") = false := by decide +kernel
theorem ko_mX13_type : xVok mX13_type = true := by decide +kernel
theorem nm_mX13_type : (mX13_type.1.name == "<init>") = false := by decide +kernel
theorem ko_mX13_clearText : xVok mX13_clearText = true := by decide +kernel
theorem nm_mX13_clearText : (mX13_clearText.1.name == "<init>") = false := by decide +kernel
theorem ko_mX13_configure : xVok mX13_configure = true := by decide +kernel
theorem nm_mX13_configure : (mX13_configure.1.name == "<init>") = false := by decide +kernel
theorem ko_mX13_readsSettings : xVok mX13_readsSettings = true := by decide +kernel
theorem nm_mX13_readsSettings : (mX13_readsSettings.1.name == "<init>") = false := by decide +kernel
theorem ko_mX13_isSmall : xVok mX13_isSmall = true := by decide +kernel
theorem nm_mX13_isSmall : (mX13_isSmall.1.name == "<init>") = false := by decide +kernel
theorem ko_mX13_letter : xVok mX13_letter = true := by decide +kernel
theorem nm_mX13_letter : (mX13_letter.1.name == "<init>") = false := by decide +kernel
theorem ko_mX13_wordOf : xVok mX13_wordOf = true := by decide +kernel
theorem nm_mX13_wordOf : (mX13_wordOf.1.name == "<init>") = false := by decide +kernel
theorem ko_mX13_isFigure : xVok mX13_isFigure = true := by decide +kernel
theorem nm_mX13_isFigure : (mX13_isFigure.1.name == "<init>") = false := by decide +kernel
theorem ko_mX13_valueOf : xVok mX13_valueOf = true := by decide +kernel
theorem nm_mX13_valueOf : (mX13_valueOf.1.name == "<init>") = false := by decide +kernel
theorem ko_mX13_firstWord : xSok mX13_firstWord = true := by decide +kernel
theorem nm_mX13_firstWord : (mX13_firstWord.1.name == "<init>") = false := by decide +kernel
theorem ko_mX13_isGiven : xVok mX13_isGiven = true := by decide +kernel
theorem nm_mX13_isGiven : (mX13_isGiven.1.name == "<init>") = false := by decide +kernel
theorem ko_mX13_setting : xVok mX13_setting = true := by decide +kernel
theorem nm_mX13_setting : (mX13_setting.1.name == "<init>") = false := by decide +kernel
theorem ko_mX13_configChar : xVok mX13_configChar = true := by decide +kernel
theorem nm_mX13_configChar : (mX13_configChar.1.name == "<init>") = false := by decide +kernel
theorem ko_mX13_tells : xVok mX13_tells = true := by decide +kernel
theorem nm_mX13_tells : (mX13_tells.1.name == "<init>") = false := by decide +kernel
theorem ko_mX13_tellsWord : xVok mX13_tellsWord = true := by decide +kernel
theorem nm_mX13_tellsWord : (mX13_tellsWord.1.name == "<init>") = false := by decide +kernel
theorem ko_mX13_tellsNumber : xVok mX13_tellsNumber = true := by decide +kernel
theorem nm_mX13_tellsNumber : (mX13_tellsNumber.1.name == "<init>") = false := by decide +kernel
theorem ko_mX13_paste : xVok mX13_paste = true := by decide +kernel
theorem nm_mX13_paste : (mX13_paste.1.name == "<init>") = false := by decide +kernel
theorem ko_mX13_readsPattern : xVok mX13_readsPattern = true := by decide +kernel
theorem nm_mX13_readsPattern : (mX13_readsPattern.1.name == "<init>") = false := by decide +kernel
theorem ko_mX13_countOf : xVok mX13_countOf = true := by decide +kernel
theorem nm_mX13_countOf : (mX13_countOf.1.name == "<init>") = false := by decide +kernel
theorem ko_mX13_addMask : xVok mX13_addMask = true := by decide +kernel
theorem nm_mX13_addMask : (mX13_addMask.1.name == "<init>") = false := by decide +kernel
theorem ko_mX13_removeMask : xVok mX13_removeMask = true := by decide +kernel
theorem nm_mX13_removeMask : (mX13_removeMask.1.name == "<init>") = false := by decide +kernel
theorem ko_mX13_compare : xVok mX13_compare = true := by decide +kernel
theorem nm_mX13_compare : (mX13_compare.1.name == "<init>") = false := by decide +kernel
theorem ko_mX13_registers : xVok mX13_registers = true := by decide +kernel
theorem nm_mX13_registers : (mX13_registers.1.name == "<init>") = false := by decide +kernel
theorem ko_mX13_skews : xVok mX13_skews = true := by decide +kernel
theorem nm_mX13_skews : (mX13_skews.1.name == "<init>") = false := by decide +kernel
theorem ko_mX13_seeksCoarse : xVok mX13_seeksCoarse = true := by decide +kernel
theorem nm_mX13_seeksCoarse : (mX13_seeksCoarse.1.name == "<init>") = false := by decide +kernel
theorem ko_mX13_countsCells : xVok mX13_countsCells = true := by decide +kernel
theorem nm_mX13_countsCells : (mX13_countsCells.1.name == "<init>") = false := by decide +kernel
theorem ko_mX13_size : xSok mX13_size = true := by decide +kernel
theorem nm_mX13_size : (mX13_size.1.name == "<init>") = false := by decide +kernel
theorem ko_mX13_coarseCost : xVok mX13_coarseCost = true := by decide +kernel
theorem nm_mX13_coarseCost : (mX13_coarseCost.1.name == "<init>") = false := by decide +kernel
theorem ko_mX13_seeksFine : xVok mX13_seeksFine = true := by decide +kernel
theorem nm_mX13_seeksFine : (mX13_seeksFine.1.name == "<init>") = false := by decide +kernel
theorem ko_mX13_differ : xVok mX13_differ = true := by decide +kernel
theorem nm_mX13_differ : (mX13_differ.1.name == "<init>") = false := by decide +kernel
theorem ko_mX13_findsDifferences : xVok mX13_findsDifferences = true := by decide +kernel
theorem nm_mX13_findsDifferences : (mX13_findsDifferences.1.name == "<init>") = false := by decide +kernel
theorem ko_mX13_isMasked : xVok mX13_isMasked = true := by decide +kernel
theorem nm_mX13_isMasked : (mX13_isMasked.1.name == "<init>") = false := by decide +kernel
theorem ko_mX13_isNear : xVok mX13_isNear = true := by decide +kernel
theorem nm_mX13_isNear : (mX13_isNear.1.name == "<init>") = false := by decide +kernel
theorem ko_mX13_blockOf : xVok mX13_blockOf = true := by decide +kernel
theorem nm_mX13_blockOf : (mX13_blockOf.1.name == "<init>") = false := by decide +kernel
theorem ko_mX13_findsRegions : xVok mX13_findsRegions = true := by decide +kernel
theorem nm_mX13_findsRegions : (mX13_findsRegions.1.name == "<init>") = false := by decide +kernel
theorem ko_mX13_joins : xVok mX13_joins = true := by decide +kernel
theorem nm_mX13_joins : (mX13_joins.1.name == "<init>") = false := by decide +kernel
theorem ko_mX13_isBlock : xVok mX13_isBlock = true := by decide +kernel
theorem nm_mX13_isBlock : (mX13_isBlock.1.name == "<init>") = false := by decide +kernel
theorem ko_mX13_spreads : xVok mX13_spreads = true := by decide +kernel
theorem nm_mX13_spreads : (mX13_spreads.1.name == "<init>") = false := by decide +kernel
theorem ko_mX13_lesser : xSok mX13_lesser = true := by decide +kernel
theorem nm_mX13_lesser : (mX13_lesser.1.name == "<init>") = false := by decide +kernel
theorem ko_mX13_greater : xSok mX13_greater = true := by decide +kernel
theorem nm_mX13_greater : (mX13_greater.1.name == "<init>") = false := by decide +kernel
theorem ko_mX13_ordersRegions : xVok mX13_ordersRegions = true := by decide +kernel
theorem nm_mX13_ordersRegions : (mX13_ordersRegions.1.name == "<init>") = false := by decide +kernel
theorem ko_mX13_leastRegion : xVok mX13_leastRegion = true := by decide +kernel
theorem nm_mX13_leastRegion : (mX13_leastRegion.1.name == "<init>") = false := by decide +kernel
theorem ko_mX13_isAhead : xVok mX13_isAhead = true := by decide +kernel
theorem nm_mX13_isAhead : (mX13_isAhead.1.name == "<init>") = false := by decide +kernel
theorem ko_mX13_secondKey : xVok mX13_secondKey = true := by decide +kernel
theorem nm_mX13_secondKey : (mX13_secondKey.1.name == "<init>") = false := by decide +kernel
theorem ko_mX13_firstKey : xVok mX13_firstKey = true := by decide +kernel
theorem nm_mX13_firstKey : (mX13_firstKey.1.name == "<init>") = false := by decide +kernel
theorem ko_mX13_endKey : xVok mX13_endKey = true := by decide +kernel
theorem nm_mX13_endKey : (mX13_endKey.1.name == "<init>") = false := by decide +kernel
theorem ko_mX13_findsParts : xVok mX13_findsParts = true := by decide +kernel
theorem nm_mX13_findsParts : (mX13_findsParts.1.name == "<init>") = false := by decide +kernel
theorem ko_mX13_isOf : xVok mX13_isOf = true := by decide +kernel
theorem nm_mX13_isOf : (mX13_isOf.1.name == "<init>") = false := by decide +kernel
theorem ko_mX13_findsChanges : xVok mX13_findsChanges = true := by decide +kernel
theorem nm_mX13_findsChanges : (mX13_findsChanges.1.name == "<init>") = false := by decide +kernel
theorem ko_mX13_pairs : xVok mX13_pairs = true := by decide +kernel
theorem nm_mX13_pairs : (mX13_pairs.1.name == "<init>") = false := by decide +kernel
theorem ko_mX13_areAlike : xVok mX13_areAlike = true := by decide +kernel
theorem nm_mX13_areAlike : (mX13_areAlike.1.name == "<init>") = false := by decide +kernel
theorem ko_mX13_widthOf : xVok mX13_widthOf = true := by decide +kernel
theorem nm_mX13_widthOf : (mX13_widthOf.1.name == "<init>") = false := by decide +kernel
theorem ko_mX13_heightOf : xVok mX13_heightOf = true := by decide +kernel
theorem nm_mX13_heightOf : (mX13_heightOf.1.name == "<init>") = false := by decide +kernel
theorem ko_mX13_lists : xVok mX13_lists = true := by decide +kernel
theorem nm_mX13_lists : (mX13_lists.1.name == "<init>") = false := by decide +kernel
theorem ko_mX13_stampFor : xVok mX13_stampFor = true := by decide +kernel
theorem nm_mX13_stampFor : (mX13_stampFor.1.name == "<init>") = false := by decide +kernel
theorem ko_mX13_reports : xVok mX13_reports = true := by decide +kernel
theorem nm_mX13_reports : (mX13_reports.1.name == "<init>") = false := by decide +kernel
theorem ko_mX13_tellsTwo : xVok mX13_tellsTwo = true := by decide +kernel
theorem nm_mX13_tellsTwo : (mX13_tellsTwo.1.name == "<init>") = false := by decide +kernel
theorem ko_mX13_reportsOne : xVok mX13_reportsOne = true := by decide +kernel
theorem nm_mX13_reportsOne : (mX13_reportsOne.1.name == "<init>") = false := by decide +kernel
theorem ko_mX13_shiftX : xVok mX13_shiftX = true := by decide +kernel
theorem nm_mX13_shiftX : (mX13_shiftX.1.name == "<init>") = false := by decide +kernel
theorem ko_mX13_told : xVok mX13_told = true := by decide +kernel
theorem nm_mX13_told : (mX13_told.1.name == "<init>") = false := by decide +kernel
theorem ko_mX13_shiftY : xVok mX13_shiftY = true := by decide +kernel
theorem nm_mX13_shiftY : (mX13_shiftY.1.name == "<init>") = false := by decide +kernel
theorem ko_mX13_skew : xVok mX13_skew = true := by decide +kernel
theorem nm_mX13_skew : (mX13_skew.1.name == "<init>") = false := by decide +kernel
theorem ko_mX13_turned : xVok mX13_turned = true := by decide +kernel
theorem nm_mX13_turned : (mX13_turned.1.name == "<init>") = false := by decide +kernel
theorem ko_mX13_mismatch : xVok mX13_mismatch = true := by decide +kernel
theorem nm_mX13_mismatch : (mX13_mismatch.1.name == "<init>") = false := by decide +kernel
theorem ko_mX13_similarity : xVok mX13_similarity = true := by decide +kernel
theorem nm_mX13_similarity : (mX13_similarity.1.name == "<init>") = false := by decide +kernel
theorem ko_mX13_mismatchAt : xVok mX13_mismatchAt = true := by decide +kernel
theorem nm_mX13_mismatchAt : (mX13_mismatchAt.1.name == "<init>") = false := by decide +kernel
theorem ko_mX13_blockDifference : xVok mX13_blockDifference = true := by decide +kernel
theorem nm_mX13_blockDifference : (mX13_blockDifference.1.name == "<init>") = false := by decide +kernel
theorem ko_mX13_regions : xVok mX13_regions = true := by decide +kernel
theorem nm_mX13_regions : (mX13_regions.1.name == "<init>") = false := by decide +kernel
theorem ko_mX13_regionAt : xVok mX13_regionAt = true := by decide +kernel
theorem nm_mX13_regionAt : (mX13_regionAt.1.name == "<init>") = false := by decide +kernel
theorem ko_mX13_regionLeft : xVok mX13_regionLeft = true := by decide +kernel
theorem nm_mX13_regionLeft : (mX13_regionLeft.1.name == "<init>") = false := by decide +kernel
theorem ko_mX13_lacks : xVok mX13_lacks = true := by decide +kernel
theorem nm_mX13_lacks : (mX13_lacks.1.name == "<init>") = false := by decide +kernel
theorem ko_mX13_regionTop : xVok mX13_regionTop = true := by decide +kernel
theorem nm_mX13_regionTop : (mX13_regionTop.1.name == "<init>") = false := by decide +kernel
theorem ko_mX13_regionRight : xVok mX13_regionRight = true := by decide +kernel
theorem nm_mX13_regionRight : (mX13_regionRight.1.name == "<init>") = false := by decide +kernel
theorem ko_mX13_regionBottom : xVok mX13_regionBottom = true := by decide +kernel
theorem nm_mX13_regionBottom : (mX13_regionBottom.1.name == "<init>") = false := by decide +kernel
theorem ko_mX13_missingPixels : xVok mX13_missingPixels = true := by decide +kernel
theorem nm_mX13_missingPixels : (mX13_missingPixels.1.name == "<init>") = false := by decide +kernel
theorem ko_mX13_addedPixels : xVok mX13_addedPixels = true := by decide +kernel
theorem nm_mX13_addedPixels : (mX13_addedPixels.1.name == "<init>") = false := by decide +kernel
theorem ko_mX13_changes : xVok mX13_changes = true := by decide +kernel
theorem nm_mX13_changes : (mX13_changes.1.name == "<init>") = false := by decide +kernel
theorem ko_mX13_changeKind : xVok mX13_changeKind = true := by decide +kernel
theorem nm_mX13_changeKind : (mX13_changeKind.1.name == "<init>") = false := by decide +kernel
theorem ko_mX13_changeRegion : xVok mX13_changeRegion = true := by decide +kernel
theorem nm_mX13_changeRegion : (mX13_changeRegion.1.name == "<init>") = false := by decide +kernel
theorem ko_mX13_changeTarget : xVok mX13_changeTarget = true := by decide +kernel
theorem nm_mX13_changeTarget : (mX13_changeTarget.1.name == "<init>") = false := by decide +kernel
theorem ko_mX13_moveX : xVok mX13_moveX = true := by decide +kernel
theorem nm_mX13_moveX : (mX13_moveX.1.name == "<init>") = false := by decide +kernel
theorem ko_mX13_moveY : xVok mX13_moveY = true := by decide +kernel
theorem nm_mX13_moveY : (mX13_moveY.1.name == "<init>") = false := by decide +kernel
theorem ko_mX13_changePixels : xVok mX13_changePixels = true := by decide +kernel
theorem nm_mX13_changePixels : (mX13_changePixels.1.name == "<init>") = false := by decide +kernel
theorem ko_mX13_changeLine : xVok mX13_changeLine = true := by decide +kernel
theorem nm_mX13_changeLine : (mX13_changeLine.1.name == "<init>") = false := by decide +kernel
theorem ko_mX13_reportChar : xVok mX13_reportChar = true := by decide +kernel
theorem nm_mX13_reportChar : (mX13_reportChar.1.name == "<init>") = false := by decide +kernel
theorem ko_mX13_learn : xVok mX13_learn = true := by decide +kernel
theorem nm_mX13_learn : (mX13_learn.1.name == "<init>") = false := by decide +kernel
theorem ko_mX13_stampOf : xVok mX13_stampOf = true := by decide +kernel
theorem nm_mX13_stampOf : (mX13_stampOf.1.name == "<init>") = false := by decide +kernel
theorem ko_mX13_forgetStamp : xVok mX13_forgetStamp = true := by decide +kernel
theorem nm_mX13_forgetStamp : (mX13_forgetStamp.1.name == "<init>") = false := by decide +kernel
theorem ko_mX13_accept : xVok mX13_accept = true := by decide +kernel
theorem nm_mX13_accept : (mX13_accept.1.name == "<init>") = false := by decide +kernel
theorem ko_mX13_leastNoise : xVok mX13_leastNoise = true := by decide +kernel
theorem nm_mX13_leastNoise : (mX13_leastNoise.1.name == "<init>") = false := by decide +kernel
theorem ko_mL_law : xSok mL_law = true := by decide +kernel
theorem nm_mL_law : (mL_law.1.name == "<init>") = false := by decide +kernel
