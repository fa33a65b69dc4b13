/-! DECODE ROWS (printed names) -/
theorem dL_cell_0 : decode cL_cell 0 = .ok (.iload_n 1, 1) := by decide +kernel
theorem dL_cell_1 : decode cL_cell 1 = .ok (.aload_n 0, 1) := by decide +kernel
theorem dL_cell_2 : decode cL_cell 2 = .ok (.arraylength, 1) := by decide +kernel
theorem dL_cell_3 : decode cL_cell 3 = .ok (.if_icmp .ge 9, 3) := by decide +kernel
theorem dL_cell_6 : decode cL_cell 6 = .ok (.aload_n 0, 1) := by decide +kernel
theorem dL_cell_7 : decode cL_cell 7 = .ok (.iload_n 1, 1) := by decide +kernel
theorem dL_cell_8 : decode cL_cell 8 = .ok (.iaload, 1) := by decide +kernel
theorem dL_cell_9 : decode cL_cell 9 = .ok (.goto 4, 3) := by decide +kernel
theorem dL_cell_12 : decode cL_cell 12 = .ok (.iconst 0, 1) := by decide +kernel
theorem dL_cell_13 : decode cL_cell 13 = .ok (.ireturn, 1) := by decide +kernel
theorem dL_row_0 : decode cL_row 0 = .ok (.aload_n 3, 1) := by decide +kernel
theorem dL_row_1 : decode cL_row 1 = .ok (.iconst 0, 1) := by decide +kernel
theorem dL_row_2 : decode cL_row 2 = .ok (.aload_n 0, 1) := by decide +kernel
theorem dL_row_3 : decode cL_row 3 = .ok (.iload_n 1, 1) := by decide +kernel
theorem dL_row_4 : decode cL_row 4 = .ok (.iload_n 2, 1) := by decide +kernel
theorem dL_row_5 : decode cL_row 5 = .ok (.invokevirtual 7, 3) := by decide +kernel
theorem dL_row_8 : decode cL_row 8 = .ok (.lastore, 1) := by decide +kernel
theorem dL_row_9 : decode cL_row 9 = .ok (.goto 7, 3) := by decide +kernel
theorem dL_row_12 : decode cL_row 12 = .ok (.astore 4, 2) := by decide +kernel
theorem dL_row_14 : decode cL_row 14 = .ok (.iconst 1, 1) := by decide +kernel
theorem dL_row_15 : decode cL_row 15 = .ok (.ireturn, 1) := by decide +kernel
theorem dL_row_16 : decode cL_row 16 = .ok (.iconst 0, 1) := by decide +kernel
theorem dL_row_17 : decode cL_row 17 = .ok (.ireturn, 1) := by decide +kernel
theorem dL_setRow_0 : decode cL_setRow 0 = .ok (.aload 5, 2) := by decide +kernel
theorem dL_setRow_2 : decode cL_setRow 2 = .ok (.iconst 0, 1) := by decide +kernel
theorem dL_setRow_3 : decode cL_setRow 3 = .ok (.aload_n 0, 1) := by decide +kernel
theorem dL_setRow_4 : decode cL_setRow 4 = .ok (.iload_n 1, 1) := by decide +kernel
theorem dL_setRow_5 : decode cL_setRow 5 = .ok (.iload_n 2, 1) := by decide +kernel
theorem dL_setRow_6 : decode cL_setRow 6 = .ok (.lload_n 3, 1) := by decide +kernel
theorem dL_setRow_7 : decode cL_setRow 7 = .ok (.invokevirtual 15, 3) := by decide +kernel
theorem dL_setRow_10 : decode cL_setRow 10 = .ok (.i2l, 1) := by decide +kernel
theorem dL_setRow_11 : decode cL_setRow 11 = .ok (.lastore, 1) := by decide +kernel
theorem dL_setRow_12 : decode cL_setRow 12 = .ok (.goto 7, 3) := by decide +kernel
theorem dL_setRow_15 : decode cL_setRow 15 = .ok (.astore 6, 2) := by decide +kernel
theorem dL_setRow_17 : decode cL_setRow 17 = .ok (.iconst 1, 1) := by decide +kernel
theorem dL_setRow_18 : decode cL_setRow 18 = .ok (.ireturn, 1) := by decide +kernel
theorem dL_setRow_19 : decode cL_setRow 19 = .ok (.iconst 0, 1) := by decide +kernel
theorem dL_setRow_20 : decode cL_setRow 20 = .ok (.ireturn, 1) := by decide +kernel
theorem dL_fill_0 : decode cL_fill 0 = .ok (.aload 7, 2) := by decide +kernel
theorem dL_fill_2 : decode cL_fill 2 = .ok (.iconst 0, 1) := by decide +kernel
theorem dL_fill_3 : decode cL_fill 3 = .ok (.aload_n 0, 1) := by decide +kernel
theorem dL_fill_4 : decode cL_fill 4 = .ok (.iload_n 1, 1) := by decide +kernel
theorem dL_fill_5 : decode cL_fill 5 = .ok (.iload_n 2, 1) := by decide +kernel
theorem dL_fill_6 : decode cL_fill 6 = .ok (.iload_n 3, 1) := by decide +kernel
theorem dL_fill_7 : decode cL_fill 7 = .ok (.iload 4, 2) := by decide +kernel
theorem dL_fill_9 : decode cL_fill 9 = .ok (.iload 5, 2) := by decide +kernel
theorem dL_fill_11 : decode cL_fill 11 = .ok (.iload 6, 2) := by decide +kernel
theorem dL_fill_13 : decode cL_fill 13 = .ok (.invokevirtual 19, 3) := by decide +kernel
theorem dL_fill_16 : decode cL_fill 16 = .ok (.i2l, 1) := by decide +kernel
theorem dL_fill_17 : decode cL_fill 17 = .ok (.lastore, 1) := by decide +kernel
theorem dL_fill_18 : decode cL_fill 18 = .ok (.goto 11, 3) := by decide +kernel
theorem dL_fill_21 : decode cL_fill 21 = .ok (.astore 8, 2) := by decide +kernel
theorem dL_fill_23 : decode cL_fill 23 = .ok (.iconst 1, 1) := by decide +kernel
theorem dL_fill_24 : decode cL_fill 24 = .ok (.ireturn, 1) := by decide +kernel
theorem dL_fill_25 : decode cL_fill 25 = .ok (.astore 8, 2) := by decide +kernel
theorem dL_fill_27 : decode cL_fill 27 = .ok (.iconst 2, 1) := by decide +kernel
theorem dL_fill_28 : decode cL_fill 28 = .ok (.ireturn, 1) := by decide +kernel
theorem dL_fill_29 : decode cL_fill 29 = .ok (.iconst 0, 1) := by decide +kernel
theorem dL_fill_30 : decode cL_fill 30 = .ok (.ireturn, 1) := by decide +kernel
theorem dL_copy_0 : decode cL_copy 0 = .ok (.aload 5, 2) := by decide +kernel
theorem dL_copy_2 : decode cL_copy 2 = .ok (.iconst 0, 1) := by decide +kernel
theorem dL_copy_3 : decode cL_copy 3 = .ok (.aload_n 0, 1) := by decide +kernel
theorem dL_copy_4 : decode cL_copy 4 = .ok (.iload_n 1, 1) := by decide +kernel
theorem dL_copy_5 : decode cL_copy 5 = .ok (.iload_n 2, 1) := by decide +kernel
theorem dL_copy_6 : decode cL_copy 6 = .ok (.iload_n 3, 1) := by decide +kernel
theorem dL_copy_7 : decode cL_copy 7 = .ok (.iload 4, 2) := by decide +kernel
theorem dL_copy_9 : decode cL_copy 9 = .ok (.invokevirtual 25, 3) := by decide +kernel
theorem dL_copy_12 : decode cL_copy 12 = .ok (.i2l, 1) := by decide +kernel
theorem dL_copy_13 : decode cL_copy 13 = .ok (.lastore, 1) := by decide +kernel
theorem dL_copy_14 : decode cL_copy 14 = .ok (.goto 7, 3) := by decide +kernel
theorem dL_copy_17 : decode cL_copy 17 = .ok (.astore 6, 2) := by decide +kernel
theorem dL_copy_19 : decode cL_copy 19 = .ok (.iconst 1, 1) := by decide +kernel
theorem dL_copy_20 : decode cL_copy 20 = .ok (.ireturn, 1) := by decide +kernel
theorem dL_copy_21 : decode cL_copy 21 = .ok (.iconst 0, 1) := by decide +kernel
theorem dL_copy_22 : decode cL_copy 22 = .ok (.ireturn, 1) := by decide +kernel
theorem dL_merge_0 : decode cL_merge 0 = .ok (.aload_n 2, 1) := by decide +kernel
theorem dL_merge_1 : decode cL_merge 1 = .ok (.iconst 0, 1) := by decide +kernel
theorem dL_merge_2 : decode cL_merge 2 = .ok (.aload_n 0, 1) := by decide +kernel
theorem dL_merge_3 : decode cL_merge 3 = .ok (.iload_n 1, 1) := by decide +kernel
theorem dL_merge_4 : decode cL_merge 4 = .ok (.invokevirtual 29, 3) := by decide +kernel
theorem dL_merge_7 : decode cL_merge 7 = .ok (.i2l, 1) := by decide +kernel
theorem dL_merge_8 : decode cL_merge 8 = .ok (.lastore, 1) := by decide +kernel
theorem dL_merge_9 : decode cL_merge 9 = .ok (.goto 6, 3) := by decide +kernel
theorem dL_merge_12 : decode cL_merge 12 = .ok (.astore_n 3, 1) := by decide +kernel
theorem dL_merge_13 : decode cL_merge 13 = .ok (.iconst 1, 1) := by decide +kernel
theorem dL_merge_14 : decode cL_merge 14 = .ok (.ireturn, 1) := by decide +kernel
theorem dL_merge_15 : decode cL_merge 15 = .ok (.iconst 0, 1) := by decide +kernel
theorem dL_merge_16 : decode cL_merge 16 = .ok (.ireturn, 1) := by decide +kernel
theorem dL_flip_0 : decode cL_flip 0 = .ok (.aload_n 3, 1) := by decide +kernel
theorem dL_flip_1 : decode cL_flip 1 = .ok (.iconst 0, 1) := by decide +kernel
theorem dL_flip_2 : decode cL_flip 2 = .ok (.aload_n 0, 1) := by decide +kernel
theorem dL_flip_3 : decode cL_flip 3 = .ok (.iload_n 1, 1) := by decide +kernel
theorem dL_flip_4 : decode cL_flip 4 = .ok (.iload_n 2, 1) := by decide +kernel
theorem dL_flip_5 : decode cL_flip 5 = .ok (.invokevirtual 33, 3) := by decide +kernel
theorem dL_flip_8 : decode cL_flip 8 = .ok (.i2l, 1) := by decide +kernel
theorem dL_flip_9 : decode cL_flip 9 = .ok (.lastore, 1) := by decide +kernel
theorem dL_flip_10 : decode cL_flip 10 = .ok (.goto 11, 3) := by decide +kernel
theorem dL_flip_13 : decode cL_flip 13 = .ok (.astore 4, 2) := by decide +kernel
theorem dL_flip_15 : decode cL_flip 15 = .ok (.iconst 1, 1) := by decide +kernel
theorem dL_flip_16 : decode cL_flip 16 = .ok (.ireturn, 1) := by decide +kernel
theorem dL_flip_17 : decode cL_flip 17 = .ok (.astore 4, 2) := by decide +kernel
theorem dL_flip_19 : decode cL_flip 19 = .ok (.iconst 2, 1) := by decide +kernel
theorem dL_flip_20 : decode cL_flip 20 = .ok (.ireturn, 1) := by decide +kernel
theorem dL_flip_21 : decode cL_flip 21 = .ok (.iconst 0, 1) := by decide +kernel
theorem dL_flip_22 : decode cL_flip 22 = .ok (.ireturn, 1) := by decide +kernel
theorem dL_despeckle_0 : decode cL_despeckle 0 = .ok (.aload_n 3, 1) := by decide +kernel
theorem dL_despeckle_1 : decode cL_despeckle 1 = .ok (.iconst 0, 1) := by decide +kernel
theorem dL_despeckle_2 : decode cL_despeckle 2 = .ok (.aload_n 0, 1) := by decide +kernel
theorem dL_despeckle_3 : decode cL_despeckle 3 = .ok (.iload_n 1, 1) := by decide +kernel
theorem dL_despeckle_4 : decode cL_despeckle 4 = .ok (.iload_n 2, 1) := by decide +kernel
theorem dL_despeckle_5 : decode cL_despeckle 5 = .ok (.invokevirtual 37, 3) := by decide +kernel
theorem dL_despeckle_8 : decode cL_despeckle 8 = .ok (.i2l, 1) := by decide +kernel
theorem dL_despeckle_9 : decode cL_despeckle 9 = .ok (.lastore, 1) := by decide +kernel
theorem dL_despeckle_10 : decode cL_despeckle 10 = .ok (.goto 11, 3) := by decide +kernel
theorem dL_despeckle_13 : decode cL_despeckle 13 = .ok (.astore 4, 2) := by decide +kernel
theorem dL_despeckle_15 : decode cL_despeckle 15 = .ok (.iconst 1, 1) := by decide +kernel
theorem dL_despeckle_16 : decode cL_despeckle 16 = .ok (.ireturn, 1) := by decide +kernel
theorem dL_despeckle_17 : decode cL_despeckle 17 = .ok (.astore 4, 2) := by decide +kernel
theorem dL_despeckle_19 : decode cL_despeckle 19 = .ok (.iconst 2, 1) := by decide +kernel
theorem dL_despeckle_20 : decode cL_despeckle 20 = .ok (.ireturn, 1) := by decide +kernel
theorem dL_despeckle_21 : decode cL_despeckle 21 = .ok (.iconst 0, 1) := by decide +kernel
theorem dL_despeckle_22 : decode cL_despeckle 22 = .ok (.ireturn, 1) := by decide +kernel
theorem dL_paste_0 : decode cL_paste 0 = .ok (.aload 4, 2) := by decide +kernel
theorem dL_paste_2 : decode cL_paste 2 = .ok (.iconst 0, 1) := by decide +kernel
theorem dL_paste_3 : decode cL_paste 3 = .ok (.aload_n 0, 1) := by decide +kernel
theorem dL_paste_4 : decode cL_paste 4 = .ok (.iload_n 1, 1) := by decide +kernel
theorem dL_paste_5 : decode cL_paste 5 = .ok (.iload_n 2, 1) := by decide +kernel
theorem dL_paste_6 : decode cL_paste 6 = .ok (.iload_n 3, 1) := by decide +kernel
theorem dL_paste_7 : decode cL_paste 7 = .ok (.invokevirtual 40, 3) := by decide +kernel
theorem dL_paste_10 : decode cL_paste 10 = .ok (.i2l, 1) := by decide +kernel
theorem dL_paste_11 : decode cL_paste 11 = .ok (.lastore, 1) := by decide +kernel
theorem dL_paste_12 : decode cL_paste 12 = .ok (.goto 7, 3) := by decide +kernel
theorem dL_paste_15 : decode cL_paste 15 = .ok (.astore 5, 2) := by decide +kernel
theorem dL_paste_17 : decode cL_paste 17 = .ok (.iconst 1, 1) := by decide +kernel
theorem dL_paste_18 : decode cL_paste 18 = .ok (.ireturn, 1) := by decide +kernel
theorem dL_paste_19 : decode cL_paste 19 = .ok (.iconst 0, 1) := by decide +kernel
theorem dL_paste_20 : decode cL_paste 20 = .ok (.ireturn, 1) := by decide +kernel
theorem dL_components_0 : decode cL_components 0 = .ok (.aload_n 2, 1) := by decide +kernel
theorem dL_components_1 : decode cL_components 1 = .ok (.iconst 0, 1) := by decide +kernel
theorem dL_components_2 : decode cL_components 2 = .ok (.aload_n 0, 1) := by decide +kernel
theorem dL_components_3 : decode cL_components 3 = .ok (.iload_n 1, 1) := by decide +kernel
theorem dL_components_4 : decode cL_components 4 = .ok (.invokevirtual 44, 3) := by decide +kernel
theorem dL_components_7 : decode cL_components 7 = .ok (.i2l, 1) := by decide +kernel
theorem dL_components_8 : decode cL_components 8 = .ok (.lastore, 1) := by decide +kernel
theorem dL_components_9 : decode cL_components 9 = .ok (.goto 6, 3) := by decide +kernel
theorem dL_components_12 : decode cL_components 12 = .ok (.astore_n 3, 1) := by decide +kernel
theorem dL_components_13 : decode cL_components 13 = .ok (.iconst 1, 1) := by decide +kernel
theorem dL_components_14 : decode cL_components 14 = .ok (.ireturn, 1) := by decide +kernel
theorem dL_components_15 : decode cL_components 15 = .ok (.iconst 0, 1) := by decide +kernel
theorem dL_components_16 : decode cL_components 16 = .ok (.ireturn, 1) := by decide +kernel
theorem dL_lines_0 : decode cL_lines 0 = .ok (.aload_n 2, 1) := by decide +kernel
theorem dL_lines_1 : decode cL_lines 1 = .ok (.iconst 0, 1) := by decide +kernel
theorem dL_lines_2 : decode cL_lines 2 = .ok (.aload_n 0, 1) := by decide +kernel
theorem dL_lines_3 : decode cL_lines 3 = .ok (.iload_n 1, 1) := by decide +kernel
theorem dL_lines_4 : decode cL_lines 4 = .ok (.invokevirtual 47, 3) := by decide +kernel
theorem dL_lines_7 : decode cL_lines 7 = .ok (.i2l, 1) := by decide +kernel
theorem dL_lines_8 : decode cL_lines 8 = .ok (.lastore, 1) := by decide +kernel
theorem dL_lines_9 : decode cL_lines 9 = .ok (.goto 6, 3) := by decide +kernel
theorem dL_lines_12 : decode cL_lines 12 = .ok (.astore_n 3, 1) := by decide +kernel
theorem dL_lines_13 : decode cL_lines 13 = .ok (.iconst 1, 1) := by decide +kernel
theorem dL_lines_14 : decode cL_lines 14 = .ok (.ireturn, 1) := by decide +kernel
theorem dL_lines_15 : decode cL_lines 15 = .ok (.iconst 0, 1) := by decide +kernel
theorem dL_lines_16 : decode cL_lines 16 = .ok (.ireturn, 1) := by decide +kernel
theorem dL_lineTop_0 : decode cL_lineTop 0 = .ok (.aload_n 3, 1) := by decide +kernel
theorem dL_lineTop_1 : decode cL_lineTop 1 = .ok (.iconst 0, 1) := by decide +kernel
theorem dL_lineTop_2 : decode cL_lineTop 2 = .ok (.aload_n 0, 1) := by decide +kernel
theorem dL_lineTop_3 : decode cL_lineTop 3 = .ok (.iload_n 1, 1) := by decide +kernel
theorem dL_lineTop_4 : decode cL_lineTop 4 = .ok (.iload_n 2, 1) := by decide +kernel
theorem dL_lineTop_5 : decode cL_lineTop 5 = .ok (.invokevirtual 50, 3) := by decide +kernel
theorem dL_lineTop_8 : decode cL_lineTop 8 = .ok (.i2l, 1) := by decide +kernel
theorem dL_lineTop_9 : decode cL_lineTop 9 = .ok (.lastore, 1) := by decide +kernel
theorem dL_lineTop_10 : decode cL_lineTop 10 = .ok (.goto 7, 3) := by decide +kernel
theorem dL_lineTop_13 : decode cL_lineTop 13 = .ok (.astore 4, 2) := by decide +kernel
theorem dL_lineTop_15 : decode cL_lineTop 15 = .ok (.iconst 1, 1) := by decide +kernel
theorem dL_lineTop_16 : decode cL_lineTop 16 = .ok (.ireturn, 1) := by decide +kernel
theorem dL_lineTop_17 : decode cL_lineTop 17 = .ok (.iconst 0, 1) := by decide +kernel
theorem dL_lineTop_18 : decode cL_lineTop 18 = .ok (.ireturn, 1) := by decide +kernel
theorem dL_lineBottom_0 : decode cL_lineBottom 0 = .ok (.aload_n 3, 1) := by decide +kernel
theorem dL_lineBottom_1 : decode cL_lineBottom 1 = .ok (.iconst 0, 1) := by decide +kernel
theorem dL_lineBottom_2 : decode cL_lineBottom 2 = .ok (.aload_n 0, 1) := by decide +kernel
theorem dL_lineBottom_3 : decode cL_lineBottom 3 = .ok (.iload_n 1, 1) := by decide +kernel
theorem dL_lineBottom_4 : decode cL_lineBottom 4 = .ok (.iload_n 2, 1) := by decide +kernel
theorem dL_lineBottom_5 : decode cL_lineBottom 5 = .ok (.invokevirtual 53, 3) := by decide +kernel
theorem dL_lineBottom_8 : decode cL_lineBottom 8 = .ok (.i2l, 1) := by decide +kernel
theorem dL_lineBottom_9 : decode cL_lineBottom 9 = .ok (.lastore, 1) := by decide +kernel
theorem dL_lineBottom_10 : decode cL_lineBottom 10 = .ok (.goto 7, 3) := by decide +kernel
theorem dL_lineBottom_13 : decode cL_lineBottom 13 = .ok (.astore 4, 2) := by decide +kernel
theorem dL_lineBottom_15 : decode cL_lineBottom 15 = .ok (.iconst 1, 1) := by decide +kernel
theorem dL_lineBottom_16 : decode cL_lineBottom 16 = .ok (.ireturn, 1) := by decide +kernel
theorem dL_lineBottom_17 : decode cL_lineBottom 17 = .ok (.iconst 0, 1) := by decide +kernel
theorem dL_lineBottom_18 : decode cL_lineBottom 18 = .ok (.ireturn, 1) := by decide +kernel
theorem dL_words_0 : decode cL_words 0 = .ok (.aload 4, 2) := by decide +kernel
theorem dL_words_2 : decode cL_words 2 = .ok (.iconst 0, 1) := by decide +kernel
theorem dL_words_3 : decode cL_words 3 = .ok (.aload_n 0, 1) := by decide +kernel
theorem dL_words_4 : decode cL_words 4 = .ok (.iload_n 1, 1) := by decide +kernel
theorem dL_words_5 : decode cL_words 5 = .ok (.iload_n 2, 1) := by decide +kernel
theorem dL_words_6 : decode cL_words 6 = .ok (.iload_n 3, 1) := by decide +kernel
theorem dL_words_7 : decode cL_words 7 = .ok (.invokevirtual 56, 3) := by decide +kernel
theorem dL_words_10 : decode cL_words 10 = .ok (.i2l, 1) := by decide +kernel
theorem dL_words_11 : decode cL_words 11 = .ok (.lastore, 1) := by decide +kernel
theorem dL_words_12 : decode cL_words 12 = .ok (.goto 11, 3) := by decide +kernel
theorem dL_words_15 : decode cL_words 15 = .ok (.astore 5, 2) := by decide +kernel
theorem dL_words_17 : decode cL_words 17 = .ok (.iconst 1, 1) := by decide +kernel
theorem dL_words_18 : decode cL_words 18 = .ok (.ireturn, 1) := by decide +kernel
theorem dL_words_19 : decode cL_words 19 = .ok (.astore 5, 2) := by decide +kernel
theorem dL_words_21 : decode cL_words 21 = .ok (.iconst 2, 1) := by decide +kernel
theorem dL_words_22 : decode cL_words 22 = .ok (.ireturn, 1) := by decide +kernel
theorem dL_words_23 : decode cL_words 23 = .ok (.iconst 0, 1) := by decide +kernel
theorem dL_words_24 : decode cL_words 24 = .ok (.ireturn, 1) := by decide +kernel
theorem dL_ink_0 : decode cL_ink 0 = .ok (.aload 6, 2) := by decide +kernel
theorem dL_ink_2 : decode cL_ink 2 = .ok (.iconst 0, 1) := by decide +kernel
theorem dL_ink_3 : decode cL_ink 3 = .ok (.aload_n 0, 1) := by decide +kernel
theorem dL_ink_4 : decode cL_ink 4 = .ok (.iload_n 1, 1) := by decide +kernel
theorem dL_ink_5 : decode cL_ink 5 = .ok (.iload_n 2, 1) := by decide +kernel
theorem dL_ink_6 : decode cL_ink 6 = .ok (.iload_n 3, 1) := by decide +kernel
theorem dL_ink_7 : decode cL_ink 7 = .ok (.iload 4, 2) := by decide +kernel
theorem dL_ink_9 : decode cL_ink 9 = .ok (.iload 5, 2) := by decide +kernel
theorem dL_ink_11 : decode cL_ink 11 = .ok (.invokevirtual 59, 3) := by decide +kernel
theorem dL_ink_14 : decode cL_ink 14 = .ok (.i2l, 1) := by decide +kernel
theorem dL_ink_15 : decode cL_ink 15 = .ok (.lastore, 1) := by decide +kernel
theorem dL_ink_16 : decode cL_ink 16 = .ok (.goto 11, 3) := by decide +kernel
theorem dL_ink_19 : decode cL_ink 19 = .ok (.astore 7, 2) := by decide +kernel
theorem dL_ink_21 : decode cL_ink 21 = .ok (.iconst 1, 1) := by decide +kernel
theorem dL_ink_22 : decode cL_ink 22 = .ok (.ireturn, 1) := by decide +kernel
theorem dL_ink_23 : decode cL_ink 23 = .ok (.astore 7, 2) := by decide +kernel
theorem dL_ink_25 : decode cL_ink 25 = .ok (.iconst 2, 1) := by decide +kernel
theorem dL_ink_26 : decode cL_ink 26 = .ok (.ireturn, 1) := by decide +kernel
theorem dL_ink_27 : decode cL_ink 27 = .ok (.iconst 0, 1) := by decide +kernel
theorem dL_ink_28 : decode cL_ink 28 = .ok (.ireturn, 1) := by decide +kernel
theorem dL_fingerprint_0 : decode cL_fingerprint 0 = .ok (.aload_n 2, 1) := by decide +kernel
theorem dL_fingerprint_1 : decode cL_fingerprint 1 = .ok (.iconst 0, 1) := by decide +kernel
theorem dL_fingerprint_2 : decode cL_fingerprint 2 = .ok (.aload_n 0, 1) := by decide +kernel
theorem dL_fingerprint_3 : decode cL_fingerprint 3 = .ok (.iload_n 1, 1) := by decide +kernel
theorem dL_fingerprint_4 : decode cL_fingerprint 4 = .ok (.invokevirtual 63, 3) := by decide +kernel
theorem dL_fingerprint_7 : decode cL_fingerprint 7 = .ok (.lastore, 1) := by decide +kernel
theorem dL_fingerprint_8 : decode cL_fingerprint 8 = .ok (.goto 6, 3) := by decide +kernel
theorem dL_fingerprint_11 : decode cL_fingerprint 11 = .ok (.astore_n 3, 1) := by decide +kernel
theorem dL_fingerprint_12 : decode cL_fingerprint 12 = .ok (.iconst 1, 1) := by decide +kernel
theorem dL_fingerprint_13 : decode cL_fingerprint 13 = .ok (.ireturn, 1) := by decide +kernel
theorem dL_fingerprint_14 : decode cL_fingerprint 14 = .ok (.iconst 0, 1) := by decide +kernel
theorem dL_fingerprint_15 : decode cL_fingerprint 15 = .ok (.ireturn, 1) := by decide +kernel
theorem dL_undo_0 : decode cL_undo 0 = .ok (.aload_n 1, 1) := by decide +kernel
theorem dL_undo_1 : decode cL_undo 1 = .ok (.iconst 0, 1) := by decide +kernel
theorem dL_undo_2 : decode cL_undo 2 = .ok (.aload_n 0, 1) := by decide +kernel
theorem dL_undo_3 : decode cL_undo 3 = .ok (.invokevirtual 67, 3) := by decide +kernel
theorem dL_undo_6 : decode cL_undo 6 = .ok (.i2l, 1) := by decide +kernel
theorem dL_undo_7 : decode cL_undo 7 = .ok (.lastore, 1) := by decide +kernel
theorem dL_undo_8 : decode cL_undo 8 = .ok (.goto 6, 3) := by decide +kernel
theorem dL_undo_11 : decode cL_undo 11 = .ok (.astore_n 2, 1) := by decide +kernel
theorem dL_undo_12 : decode cL_undo 12 = .ok (.iconst 1, 1) := by decide +kernel
theorem dL_undo_13 : decode cL_undo 13 = .ok (.ireturn, 1) := by decide +kernel
theorem dL_undo_14 : decode cL_undo 14 = .ok (.iconst 0, 1) := by decide +kernel
theorem dL_undo_15 : decode cL_undo 15 = .ok (.ireturn, 1) := by decide +kernel
theorem dL_type_0 : decode cL_type 0 = .ok (.aload_n 2, 1) := by decide +kernel
theorem dL_type_1 : decode cL_type 1 = .ok (.iconst 0, 1) := by decide +kernel
theorem dL_type_2 : decode cL_type 2 = .ok (.aload_n 0, 1) := by decide +kernel
theorem dL_type_3 : decode cL_type 3 = .ok (.iload_n 1, 1) := by decide +kernel
theorem dL_type_4 : decode cL_type 4 = .ok (.invokevirtual 73, 3) := by decide +kernel
theorem dL_type_7 : decode cL_type 7 = .ok (.i2l, 1) := by decide +kernel
theorem dL_type_8 : decode cL_type 8 = .ok (.lastore, 1) := by decide +kernel
theorem dL_type_9 : decode cL_type 9 = .ok (.goto 9, 3) := by decide +kernel
theorem dL_type_12 : decode cL_type 12 = .ok (.astore_n 3, 1) := by decide +kernel
theorem dL_type_13 : decode cL_type 13 = .ok (.iconst 1, 1) := by decide +kernel
theorem dL_type_14 : decode cL_type 14 = .ok (.ireturn, 1) := by decide +kernel
theorem dL_type_15 : decode cL_type 15 = .ok (.astore_n 3, 1) := by decide +kernel
theorem dL_type_16 : decode cL_type 16 = .ok (.iconst 2, 1) := by decide +kernel
theorem dL_type_17 : decode cL_type 17 = .ok (.ireturn, 1) := by decide +kernel
theorem dL_type_18 : decode cL_type 18 = .ok (.iconst 0, 1) := by decide +kernel
theorem dL_type_19 : decode cL_type 19 = .ok (.ireturn, 1) := by decide +kernel
theorem dL_setting_0 : decode cL_setting 0 = .ok (.aload_n 2, 1) := by decide +kernel
theorem dL_setting_1 : decode cL_setting 1 = .ok (.iconst 0, 1) := by decide +kernel
theorem dL_setting_2 : decode cL_setting 2 = .ok (.aload_n 0, 1) := by decide +kernel
theorem dL_setting_3 : decode cL_setting 3 = .ok (.iload_n 1, 1) := by decide +kernel
theorem dL_setting_4 : decode cL_setting 4 = .ok (.invokevirtual 76, 3) := by decide +kernel
theorem dL_setting_7 : decode cL_setting 7 = .ok (.i2l, 1) := by decide +kernel
theorem dL_setting_8 : decode cL_setting 8 = .ok (.lastore, 1) := by decide +kernel
theorem dL_setting_9 : decode cL_setting 9 = .ok (.goto 6, 3) := by decide +kernel
theorem dL_setting_12 : decode cL_setting 12 = .ok (.astore_n 3, 1) := by decide +kernel
theorem dL_setting_13 : decode cL_setting 13 = .ok (.iconst 1, 1) := by decide +kernel
theorem dL_setting_14 : decode cL_setting 14 = .ok (.ireturn, 1) := by decide +kernel
theorem dL_setting_15 : decode cL_setting 15 = .ok (.iconst 0, 1) := by decide +kernel
theorem dL_setting_16 : decode cL_setting 16 = .ok (.ireturn, 1) := by decide +kernel
theorem dL_configChar_0 : decode cL_configChar 0 = .ok (.aload_n 2, 1) := by decide +kernel
theorem dL_configChar_1 : decode cL_configChar 1 = .ok (.iconst 0, 1) := by decide +kernel
theorem dL_configChar_2 : decode cL_configChar 2 = .ok (.aload_n 0, 1) := by decide +kernel
theorem dL_configChar_3 : decode cL_configChar 3 = .ok (.iload_n 1, 1) := by decide +kernel
theorem dL_configChar_4 : decode cL_configChar 4 = .ok (.invokevirtual 79, 3) := by decide +kernel
theorem dL_configChar_7 : decode cL_configChar 7 = .ok (.i2l, 1) := by decide +kernel
theorem dL_configChar_8 : decode cL_configChar 8 = .ok (.lastore, 1) := by decide +kernel
theorem dL_configChar_9 : decode cL_configChar 9 = .ok (.goto 6, 3) := by decide +kernel
theorem dL_configChar_12 : decode cL_configChar 12 = .ok (.astore_n 3, 1) := by decide +kernel
theorem dL_configChar_13 : decode cL_configChar 13 = .ok (.iconst 1, 1) := by decide +kernel
theorem dL_configChar_14 : decode cL_configChar 14 = .ok (.ireturn, 1) := by decide +kernel
theorem dL_configChar_15 : decode cL_configChar 15 = .ok (.iconst 0, 1) := by decide +kernel
theorem dL_configChar_16 : decode cL_configChar 16 = .ok (.ireturn, 1) := by decide +kernel
theorem dL_addMask_0 : decode cL_addMask 0 = .ok (.aload 5, 2) := by decide +kernel
theorem dL_addMask_2 : decode cL_addMask 2 = .ok (.iconst 0, 1) := by decide +kernel
theorem dL_addMask_3 : decode cL_addMask 3 = .ok (.aload_n 0, 1) := by decide +kernel
theorem dL_addMask_4 : decode cL_addMask 4 = .ok (.iload_n 1, 1) := by decide +kernel
theorem dL_addMask_5 : decode cL_addMask 5 = .ok (.iload_n 2, 1) := by decide +kernel
theorem dL_addMask_6 : decode cL_addMask 6 = .ok (.iload_n 3, 1) := by decide +kernel
theorem dL_addMask_7 : decode cL_addMask 7 = .ok (.iload 4, 2) := by decide +kernel
theorem dL_addMask_9 : decode cL_addMask 9 = .ok (.invokevirtual 82, 3) := by decide +kernel
theorem dL_addMask_12 : decode cL_addMask 12 = .ok (.i2l, 1) := by decide +kernel
theorem dL_addMask_13 : decode cL_addMask 13 = .ok (.lastore, 1) := by decide +kernel
theorem dL_addMask_14 : decode cL_addMask 14 = .ok (.goto 11, 3) := by decide +kernel
theorem dL_addMask_17 : decode cL_addMask 17 = .ok (.astore 6, 2) := by decide +kernel
theorem dL_addMask_19 : decode cL_addMask 19 = .ok (.iconst 1, 1) := by decide +kernel
theorem dL_addMask_20 : decode cL_addMask 20 = .ok (.ireturn, 1) := by decide +kernel
theorem dL_addMask_21 : decode cL_addMask 21 = .ok (.astore 6, 2) := by decide +kernel
theorem dL_addMask_23 : decode cL_addMask 23 = .ok (.iconst 2, 1) := by decide +kernel
theorem dL_addMask_24 : decode cL_addMask 24 = .ok (.ireturn, 1) := by decide +kernel
theorem dL_addMask_25 : decode cL_addMask 25 = .ok (.iconst 0, 1) := by decide +kernel
theorem dL_addMask_26 : decode cL_addMask 26 = .ok (.ireturn, 1) := by decide +kernel
theorem dL_removeMask_0 : decode cL_removeMask 0 = .ok (.aload_n 2, 1) := by decide +kernel
theorem dL_removeMask_1 : decode cL_removeMask 1 = .ok (.iconst 0, 1) := by decide +kernel
theorem dL_removeMask_2 : decode cL_removeMask 2 = .ok (.aload_n 0, 1) := by decide +kernel
theorem dL_removeMask_3 : decode cL_removeMask 3 = .ok (.iload_n 1, 1) := by decide +kernel
theorem dL_removeMask_4 : decode cL_removeMask 4 = .ok (.invokevirtual 85, 3) := by decide +kernel
theorem dL_removeMask_7 : decode cL_removeMask 7 = .ok (.i2l, 1) := by decide +kernel
theorem dL_removeMask_8 : decode cL_removeMask 8 = .ok (.lastore, 1) := by decide +kernel
theorem dL_removeMask_9 : decode cL_removeMask 9 = .ok (.goto 6, 3) := by decide +kernel
theorem dL_removeMask_12 : decode cL_removeMask 12 = .ok (.astore_n 3, 1) := by decide +kernel
theorem dL_removeMask_13 : decode cL_removeMask 13 = .ok (.iconst 1, 1) := by decide +kernel
theorem dL_removeMask_14 : decode cL_removeMask 14 = .ok (.ireturn, 1) := by decide +kernel
theorem dL_removeMask_15 : decode cL_removeMask 15 = .ok (.iconst 0, 1) := by decide +kernel
theorem dL_removeMask_16 : decode cL_removeMask 16 = .ok (.ireturn, 1) := by decide +kernel
theorem dL_shiftX_0 : decode cL_shiftX 0 = .ok (.aload_n 1, 1) := by decide +kernel
theorem dL_shiftX_1 : decode cL_shiftX 1 = .ok (.iconst 0, 1) := by decide +kernel
theorem dL_shiftX_2 : decode cL_shiftX 2 = .ok (.aload_n 0, 1) := by decide +kernel
theorem dL_shiftX_3 : decode cL_shiftX 3 = .ok (.invokevirtual 88, 3) := by decide +kernel
theorem dL_shiftX_6 : decode cL_shiftX 6 = .ok (.i2l, 1) := by decide +kernel
theorem dL_shiftX_7 : decode cL_shiftX 7 = .ok (.lastore, 1) := by decide +kernel
theorem dL_shiftX_8 : decode cL_shiftX 8 = .ok (.goto 6, 3) := by decide +kernel
theorem dL_shiftX_11 : decode cL_shiftX 11 = .ok (.astore_n 2, 1) := by decide +kernel
theorem dL_shiftX_12 : decode cL_shiftX 12 = .ok (.iconst 1, 1) := by decide +kernel
theorem dL_shiftX_13 : decode cL_shiftX 13 = .ok (.ireturn, 1) := by decide +kernel
theorem dL_shiftX_14 : decode cL_shiftX 14 = .ok (.iconst 0, 1) := by decide +kernel
theorem dL_shiftX_15 : decode cL_shiftX 15 = .ok (.ireturn, 1) := by decide +kernel
theorem dL_shiftY_0 : decode cL_shiftY 0 = .ok (.aload_n 1, 1) := by decide +kernel
theorem dL_shiftY_1 : decode cL_shiftY 1 = .ok (.iconst 0, 1) := by decide +kernel
theorem dL_shiftY_2 : decode cL_shiftY 2 = .ok (.aload_n 0, 1) := by decide +kernel
theorem dL_shiftY_3 : decode cL_shiftY 3 = .ok (.invokevirtual 91, 3) := by decide +kernel
theorem dL_shiftY_6 : decode cL_shiftY 6 = .ok (.i2l, 1) := by decide +kernel
theorem dL_shiftY_7 : decode cL_shiftY 7 = .ok (.lastore, 1) := by decide +kernel
theorem dL_shiftY_8 : decode cL_shiftY 8 = .ok (.goto 6, 3) := by decide +kernel
theorem dL_shiftY_11 : decode cL_shiftY 11 = .ok (.astore_n 2, 1) := by decide +kernel
theorem dL_shiftY_12 : decode cL_shiftY 12 = .ok (.iconst 1, 1) := by decide +kernel
theorem dL_shiftY_13 : decode cL_shiftY 13 = .ok (.ireturn, 1) := by decide +kernel
theorem dL_shiftY_14 : decode cL_shiftY 14 = .ok (.iconst 0, 1) := by decide +kernel
theorem dL_shiftY_15 : decode cL_shiftY 15 = .ok (.ireturn, 1) := by decide +kernel
theorem dL_skew_0 : decode cL_skew 0 = .ok (.aload_n 1, 1) := by decide +kernel
theorem dL_skew_1 : decode cL_skew 1 = .ok (.iconst 0, 1) := by decide +kernel
theorem dL_skew_2 : decode cL_skew 2 = .ok (.aload_n 0, 1) := by decide +kernel
theorem dL_skew_3 : decode cL_skew 3 = .ok (.invokevirtual 94, 3) := by decide +kernel
theorem dL_skew_6 : decode cL_skew 6 = .ok (.i2l, 1) := by decide +kernel
theorem dL_skew_7 : decode cL_skew 7 = .ok (.lastore, 1) := by decide +kernel
theorem dL_skew_8 : decode cL_skew 8 = .ok (.goto 6, 3) := by decide +kernel
theorem dL_skew_11 : decode cL_skew 11 = .ok (.astore_n 2, 1) := by decide +kernel
theorem dL_skew_12 : decode cL_skew 12 = .ok (.iconst 1, 1) := by decide +kernel
theorem dL_skew_13 : decode cL_skew 13 = .ok (.ireturn, 1) := by decide +kernel
theorem dL_skew_14 : decode cL_skew 14 = .ok (.iconst 0, 1) := by decide +kernel
theorem dL_skew_15 : decode cL_skew 15 = .ok (.ireturn, 1) := by decide +kernel
theorem dL_turned_0 : decode cL_turned 0 = .ok (.aload_n 1, 1) := by decide +kernel
theorem dL_turned_1 : decode cL_turned 1 = .ok (.iconst 0, 1) := by decide +kernel
theorem dL_turned_2 : decode cL_turned 2 = .ok (.aload_n 0, 1) := by decide +kernel
theorem dL_turned_3 : decode cL_turned 3 = .ok (.invokevirtual 97, 3) := by decide +kernel
theorem dL_turned_6 : decode cL_turned 6 = .ok (.ifCond .eq 7, 3) := by decide +kernel
theorem dL_turned_9 : decode cL_turned 9 = .ok (.lconst 1, 1) := by decide +kernel
theorem dL_turned_10 : decode cL_turned 10 = .ok (.goto 4, 3) := by decide +kernel
theorem dL_turned_13 : decode cL_turned 13 = .ok (.lconst 0, 1) := by decide +kernel
theorem dL_turned_14 : decode cL_turned 14 = .ok (.lastore, 1) := by decide +kernel
theorem dL_turned_15 : decode cL_turned 15 = .ok (.goto 6, 3) := by decide +kernel
theorem dL_turned_18 : decode cL_turned 18 = .ok (.astore_n 2, 1) := by decide +kernel
theorem dL_turned_19 : decode cL_turned 19 = .ok (.iconst 1, 1) := by decide +kernel
theorem dL_turned_20 : decode cL_turned 20 = .ok (.ireturn, 1) := by decide +kernel
theorem dL_turned_21 : decode cL_turned 21 = .ok (.iconst 0, 1) := by decide +kernel
theorem dL_turned_22 : decode cL_turned 22 = .ok (.ireturn, 1) := by decide +kernel
theorem dL_mismatch_0 : decode cL_mismatch 0 = .ok (.aload_n 1, 1) := by decide +kernel
theorem dL_mismatch_1 : decode cL_mismatch 1 = .ok (.iconst 0, 1) := by decide +kernel
theorem dL_mismatch_2 : decode cL_mismatch 2 = .ok (.aload_n 0, 1) := by decide +kernel
theorem dL_mismatch_3 : decode cL_mismatch 3 = .ok (.invokevirtual 101, 3) := by decide +kernel
theorem dL_mismatch_6 : decode cL_mismatch 6 = .ok (.i2l, 1) := by decide +kernel
theorem dL_mismatch_7 : decode cL_mismatch 7 = .ok (.lastore, 1) := by decide +kernel
theorem dL_mismatch_8 : decode cL_mismatch 8 = .ok (.goto 6, 3) := by decide +kernel
theorem dL_mismatch_11 : decode cL_mismatch 11 = .ok (.astore_n 2, 1) := by decide +kernel
theorem dL_mismatch_12 : decode cL_mismatch 12 = .ok (.iconst 1, 1) := by decide +kernel
theorem dL_mismatch_13 : decode cL_mismatch 13 = .ok (.ireturn, 1) := by decide +kernel
theorem dL_mismatch_14 : decode cL_mismatch 14 = .ok (.iconst 0, 1) := by decide +kernel
theorem dL_mismatch_15 : decode cL_mismatch 15 = .ok (.ireturn, 1) := by decide +kernel
theorem dL_similarity_0 : decode cL_similarity 0 = .ok (.aload_n 1, 1) := by decide +kernel
theorem dL_similarity_1 : decode cL_similarity 1 = .ok (.iconst 0, 1) := by decide +kernel
theorem dL_similarity_2 : decode cL_similarity 2 = .ok (.aload_n 0, 1) := by decide +kernel
theorem dL_similarity_3 : decode cL_similarity 3 = .ok (.invokevirtual 104, 3) := by decide +kernel
theorem dL_similarity_6 : decode cL_similarity 6 = .ok (.i2l, 1) := by decide +kernel
theorem dL_similarity_7 : decode cL_similarity 7 = .ok (.lastore, 1) := by decide +kernel
theorem dL_similarity_8 : decode cL_similarity 8 = .ok (.goto 6, 3) := by decide +kernel
theorem dL_similarity_11 : decode cL_similarity 11 = .ok (.astore_n 2, 1) := by decide +kernel
theorem dL_similarity_12 : decode cL_similarity 12 = .ok (.iconst 1, 1) := by decide +kernel
theorem dL_similarity_13 : decode cL_similarity 13 = .ok (.ireturn, 1) := by decide +kernel
theorem dL_similarity_14 : decode cL_similarity 14 = .ok (.iconst 0, 1) := by decide +kernel
theorem dL_similarity_15 : decode cL_similarity 15 = .ok (.ireturn, 1) := by decide +kernel
theorem dL_mismatchAt_0 : decode cL_mismatchAt 0 = .ok (.aload_n 3, 1) := by decide +kernel
theorem dL_mismatchAt_1 : decode cL_mismatchAt 1 = .ok (.iconst 0, 1) := by decide +kernel
theorem dL_mismatchAt_2 : decode cL_mismatchAt 2 = .ok (.aload_n 0, 1) := by decide +kernel
theorem dL_mismatchAt_3 : decode cL_mismatchAt 3 = .ok (.iload_n 1, 1) := by decide +kernel
theorem dL_mismatchAt_4 : decode cL_mismatchAt 4 = .ok (.iload_n 2, 1) := by decide +kernel
theorem dL_mismatchAt_5 : decode cL_mismatchAt 5 = .ok (.invokevirtual 107, 3) := by decide +kernel
theorem dL_mismatchAt_8 : decode cL_mismatchAt 8 = .ok (.i2l, 1) := by decide +kernel
theorem dL_mismatchAt_9 : decode cL_mismatchAt 9 = .ok (.lastore, 1) := by decide +kernel
theorem dL_mismatchAt_10 : decode cL_mismatchAt 10 = .ok (.goto 11, 3) := by decide +kernel
theorem dL_mismatchAt_13 : decode cL_mismatchAt 13 = .ok (.astore 4, 2) := by decide +kernel
theorem dL_mismatchAt_15 : decode cL_mismatchAt 15 = .ok (.iconst 1, 1) := by decide +kernel
theorem dL_mismatchAt_16 : decode cL_mismatchAt 16 = .ok (.ireturn, 1) := by decide +kernel
theorem dL_mismatchAt_17 : decode cL_mismatchAt 17 = .ok (.astore 4, 2) := by decide +kernel
theorem dL_mismatchAt_19 : decode cL_mismatchAt 19 = .ok (.iconst 2, 1) := by decide +kernel
theorem dL_mismatchAt_20 : decode cL_mismatchAt 20 = .ok (.ireturn, 1) := by decide +kernel
theorem dL_mismatchAt_21 : decode cL_mismatchAt 21 = .ok (.iconst 0, 1) := by decide +kernel
theorem dL_mismatchAt_22 : decode cL_mismatchAt 22 = .ok (.ireturn, 1) := by decide +kernel
theorem dL_blockDifference_0 : decode cL_blockDifference 0 = .ok (.aload_n 3, 1) := by decide +kernel
theorem dL_blockDifference_1 : decode cL_blockDifference 1 = .ok (.iconst 0, 1) := by decide +kernel
theorem dL_blockDifference_2 : decode cL_blockDifference 2 = .ok (.aload_n 0, 1) := by decide +kernel
theorem dL_blockDifference_3 : decode cL_blockDifference 3 = .ok (.iload_n 1, 1) := by decide +kernel
theorem dL_blockDifference_4 : decode cL_blockDifference 4 = .ok (.iload_n 2, 1) := by decide +kernel
theorem dL_blockDifference_5 : decode cL_blockDifference 5 = .ok (.invokevirtual 110, 3) := by decide +kernel
theorem dL_blockDifference_8 : decode cL_blockDifference 8 = .ok (.i2l, 1) := by decide +kernel
theorem dL_blockDifference_9 : decode cL_blockDifference 9 = .ok (.lastore, 1) := by decide +kernel
theorem dL_blockDifference_10 : decode cL_blockDifference 10 = .ok (.goto 11, 3) := by decide +kernel
theorem dL_blockDifference_13 : decode cL_blockDifference 13 = .ok (.astore 4, 2) := by decide +kernel
theorem dL_blockDifference_15 : decode cL_blockDifference 15 = .ok (.iconst 1, 1) := by decide +kernel
theorem dL_blockDifference_16 : decode cL_blockDifference 16 = .ok (.ireturn, 1) := by decide +kernel
theorem dL_blockDifference_17 : decode cL_blockDifference 17 = .ok (.astore 4, 2) := by decide +kernel
theorem dL_blockDifference_19 : decode cL_blockDifference 19 = .ok (.iconst 2, 1) := by decide +kernel
theorem dL_blockDifference_20 : decode cL_blockDifference 20 = .ok (.ireturn, 1) := by decide +kernel
theorem dL_blockDifference_21 : decode cL_blockDifference 21 = .ok (.iconst 0, 1) := by decide +kernel
theorem dL_blockDifference_22 : decode cL_blockDifference 22 = .ok (.ireturn, 1) := by decide +kernel
theorem dL_regions_0 : decode cL_regions 0 = .ok (.aload_n 1, 1) := by decide +kernel
theorem dL_regions_1 : decode cL_regions 1 = .ok (.iconst 0, 1) := by decide +kernel
theorem dL_regions_2 : decode cL_regions 2 = .ok (.aload_n 0, 1) := by decide +kernel
theorem dL_regions_3 : decode cL_regions 3 = .ok (.invokevirtual 113, 3) := by decide +kernel
theorem dL_regions_6 : decode cL_regions 6 = .ok (.i2l, 1) := by decide +kernel
theorem dL_regions_7 : decode cL_regions 7 = .ok (.lastore, 1) := by decide +kernel
theorem dL_regions_8 : decode cL_regions 8 = .ok (.goto 6, 3) := by decide +kernel
theorem dL_regions_11 : decode cL_regions 11 = .ok (.astore_n 2, 1) := by decide +kernel
theorem dL_regions_12 : decode cL_regions 12 = .ok (.iconst 1, 1) := by decide +kernel
theorem dL_regions_13 : decode cL_regions 13 = .ok (.ireturn, 1) := by decide +kernel
theorem dL_regions_14 : decode cL_regions 14 = .ok (.iconst 0, 1) := by decide +kernel
theorem dL_regions_15 : decode cL_regions 15 = .ok (.ireturn, 1) := by decide +kernel
theorem dL_regionAt_0 : decode cL_regionAt 0 = .ok (.aload_n 3, 1) := by decide +kernel
theorem dL_regionAt_1 : decode cL_regionAt 1 = .ok (.iconst 0, 1) := by decide +kernel
theorem dL_regionAt_2 : decode cL_regionAt 2 = .ok (.aload_n 0, 1) := by decide +kernel
theorem dL_regionAt_3 : decode cL_regionAt 3 = .ok (.iload_n 1, 1) := by decide +kernel
theorem dL_regionAt_4 : decode cL_regionAt 4 = .ok (.iload_n 2, 1) := by decide +kernel
theorem dL_regionAt_5 : decode cL_regionAt 5 = .ok (.invokevirtual 116, 3) := by decide +kernel
theorem dL_regionAt_8 : decode cL_regionAt 8 = .ok (.i2l, 1) := by decide +kernel
theorem dL_regionAt_9 : decode cL_regionAt 9 = .ok (.lastore, 1) := by decide +kernel
theorem dL_regionAt_10 : decode cL_regionAt 10 = .ok (.goto 11, 3) := by decide +kernel
theorem dL_regionAt_13 : decode cL_regionAt 13 = .ok (.astore 4, 2) := by decide +kernel
theorem dL_regionAt_15 : decode cL_regionAt 15 = .ok (.iconst 1, 1) := by decide +kernel
theorem dL_regionAt_16 : decode cL_regionAt 16 = .ok (.ireturn, 1) := by decide +kernel
theorem dL_regionAt_17 : decode cL_regionAt 17 = .ok (.astore 4, 2) := by decide +kernel
theorem dL_regionAt_19 : decode cL_regionAt 19 = .ok (.iconst 2, 1) := by decide +kernel
theorem dL_regionAt_20 : decode cL_regionAt 20 = .ok (.ireturn, 1) := by decide +kernel
theorem dL_regionAt_21 : decode cL_regionAt 21 = .ok (.iconst 0, 1) := by decide +kernel
theorem dL_regionAt_22 : decode cL_regionAt 22 = .ok (.ireturn, 1) := by decide +kernel
theorem dL_regionLeft_0 : decode cL_regionLeft 0 = .ok (.aload_n 2, 1) := by decide +kernel
theorem dL_regionLeft_1 : decode cL_regionLeft 1 = .ok (.iconst 0, 1) := by decide +kernel
theorem dL_regionLeft_2 : decode cL_regionLeft 2 = .ok (.aload_n 0, 1) := by decide +kernel
theorem dL_regionLeft_3 : decode cL_regionLeft 3 = .ok (.iload_n 1, 1) := by decide +kernel
theorem dL_regionLeft_4 : decode cL_regionLeft 4 = .ok (.invokevirtual 119, 3) := by decide +kernel
theorem dL_regionLeft_7 : decode cL_regionLeft 7 = .ok (.i2l, 1) := by decide +kernel
theorem dL_regionLeft_8 : decode cL_regionLeft 8 = .ok (.lastore, 1) := by decide +kernel
theorem dL_regionLeft_9 : decode cL_regionLeft 9 = .ok (.goto 9, 3) := by decide +kernel
theorem dL_regionLeft_12 : decode cL_regionLeft 12 = .ok (.astore_n 3, 1) := by decide +kernel
theorem dL_regionLeft_13 : decode cL_regionLeft 13 = .ok (.iconst 1, 1) := by decide +kernel
theorem dL_regionLeft_14 : decode cL_regionLeft 14 = .ok (.ireturn, 1) := by decide +kernel
theorem dL_regionLeft_15 : decode cL_regionLeft 15 = .ok (.astore_n 3, 1) := by decide +kernel
theorem dL_regionLeft_16 : decode cL_regionLeft 16 = .ok (.iconst 2, 1) := by decide +kernel
theorem dL_regionLeft_17 : decode cL_regionLeft 17 = .ok (.ireturn, 1) := by decide +kernel
theorem dL_regionLeft_18 : decode cL_regionLeft 18 = .ok (.iconst 0, 1) := by decide +kernel
theorem dL_regionLeft_19 : decode cL_regionLeft 19 = .ok (.ireturn, 1) := by decide +kernel
theorem dL_regionTop_0 : decode cL_regionTop 0 = .ok (.aload_n 2, 1) := by decide +kernel
theorem dL_regionTop_1 : decode cL_regionTop 1 = .ok (.iconst 0, 1) := by decide +kernel
theorem dL_regionTop_2 : decode cL_regionTop 2 = .ok (.aload_n 0, 1) := by decide +kernel
theorem dL_regionTop_3 : decode cL_regionTop 3 = .ok (.iload_n 1, 1) := by decide +kernel
theorem dL_regionTop_4 : decode cL_regionTop 4 = .ok (.invokevirtual 122, 3) := by decide +kernel
theorem dL_regionTop_7 : decode cL_regionTop 7 = .ok (.i2l, 1) := by decide +kernel
theorem dL_regionTop_8 : decode cL_regionTop 8 = .ok (.lastore, 1) := by decide +kernel
theorem dL_regionTop_9 : decode cL_regionTop 9 = .ok (.goto 9, 3) := by decide +kernel
theorem dL_regionTop_12 : decode cL_regionTop 12 = .ok (.astore_n 3, 1) := by decide +kernel
theorem dL_regionTop_13 : decode cL_regionTop 13 = .ok (.iconst 1, 1) := by decide +kernel
theorem dL_regionTop_14 : decode cL_regionTop 14 = .ok (.ireturn, 1) := by decide +kernel
theorem dL_regionTop_15 : decode cL_regionTop 15 = .ok (.astore_n 3, 1) := by decide +kernel
theorem dL_regionTop_16 : decode cL_regionTop 16 = .ok (.iconst 2, 1) := by decide +kernel
theorem dL_regionTop_17 : decode cL_regionTop 17 = .ok (.ireturn, 1) := by decide +kernel
theorem dL_regionTop_18 : decode cL_regionTop 18 = .ok (.iconst 0, 1) := by decide +kernel
theorem dL_regionTop_19 : decode cL_regionTop 19 = .ok (.ireturn, 1) := by decide +kernel
theorem dL_regionRight_0 : decode cL_regionRight 0 = .ok (.aload_n 2, 1) := by decide +kernel
theorem dL_regionRight_1 : decode cL_regionRight 1 = .ok (.iconst 0, 1) := by decide +kernel
theorem dL_regionRight_2 : decode cL_regionRight 2 = .ok (.aload_n 0, 1) := by decide +kernel
theorem dL_regionRight_3 : decode cL_regionRight 3 = .ok (.iload_n 1, 1) := by decide +kernel
theorem dL_regionRight_4 : decode cL_regionRight 4 = .ok (.invokevirtual 125, 3) := by decide +kernel
theorem dL_regionRight_7 : decode cL_regionRight 7 = .ok (.i2l, 1) := by decide +kernel
theorem dL_regionRight_8 : decode cL_regionRight 8 = .ok (.lastore, 1) := by decide +kernel
theorem dL_regionRight_9 : decode cL_regionRight 9 = .ok (.goto 9, 3) := by decide +kernel
theorem dL_regionRight_12 : decode cL_regionRight 12 = .ok (.astore_n 3, 1) := by decide +kernel
theorem dL_regionRight_13 : decode cL_regionRight 13 = .ok (.iconst 1, 1) := by decide +kernel
theorem dL_regionRight_14 : decode cL_regionRight 14 = .ok (.ireturn, 1) := by decide +kernel
theorem dL_regionRight_15 : decode cL_regionRight 15 = .ok (.astore_n 3, 1) := by decide +kernel
theorem dL_regionRight_16 : decode cL_regionRight 16 = .ok (.iconst 2, 1) := by decide +kernel
theorem dL_regionRight_17 : decode cL_regionRight 17 = .ok (.ireturn, 1) := by decide +kernel
theorem dL_regionRight_18 : decode cL_regionRight 18 = .ok (.iconst 0, 1) := by decide +kernel
theorem dL_regionRight_19 : decode cL_regionRight 19 = .ok (.ireturn, 1) := by decide +kernel
theorem dL_regionBottom_0 : decode cL_regionBottom 0 = .ok (.aload_n 2, 1) := by decide +kernel
theorem dL_regionBottom_1 : decode cL_regionBottom 1 = .ok (.iconst 0, 1) := by decide +kernel
theorem dL_regionBottom_2 : decode cL_regionBottom 2 = .ok (.aload_n 0, 1) := by decide +kernel
theorem dL_regionBottom_3 : decode cL_regionBottom 3 = .ok (.iload_n 1, 1) := by decide +kernel
theorem dL_regionBottom_4 : decode cL_regionBottom 4 = .ok (.invokevirtual 128, 3) := by decide +kernel
theorem dL_regionBottom_7 : decode cL_regionBottom 7 = .ok (.i2l, 1) := by decide +kernel
theorem dL_regionBottom_8 : decode cL_regionBottom 8 = .ok (.lastore, 1) := by decide +kernel
theorem dL_regionBottom_9 : decode cL_regionBottom 9 = .ok (.goto 9, 3) := by decide +kernel
theorem dL_regionBottom_12 : decode cL_regionBottom 12 = .ok (.astore_n 3, 1) := by decide +kernel
theorem dL_regionBottom_13 : decode cL_regionBottom 13 = .ok (.iconst 1, 1) := by decide +kernel
theorem dL_regionBottom_14 : decode cL_regionBottom 14 = .ok (.ireturn, 1) := by decide +kernel
theorem dL_regionBottom_15 : decode cL_regionBottom 15 = .ok (.astore_n 3, 1) := by decide +kernel
theorem dL_regionBottom_16 : decode cL_regionBottom 16 = .ok (.iconst 2, 1) := by decide +kernel
theorem dL_regionBottom_17 : decode cL_regionBottom 17 = .ok (.ireturn, 1) := by decide +kernel
theorem dL_regionBottom_18 : decode cL_regionBottom 18 = .ok (.iconst 0, 1) := by decide +kernel
theorem dL_regionBottom_19 : decode cL_regionBottom 19 = .ok (.ireturn, 1) := by decide +kernel
theorem dL_missingPixels_0 : decode cL_missingPixels 0 = .ok (.aload_n 2, 1) := by decide +kernel
theorem dL_missingPixels_1 : decode cL_missingPixels 1 = .ok (.iconst 0, 1) := by decide +kernel
theorem dL_missingPixels_2 : decode cL_missingPixels 2 = .ok (.aload_n 0, 1) := by decide +kernel
theorem dL_missingPixels_3 : decode cL_missingPixels 3 = .ok (.iload_n 1, 1) := by decide +kernel
theorem dL_missingPixels_4 : decode cL_missingPixels 4 = .ok (.invokevirtual 131, 3) := by decide +kernel
theorem dL_missingPixels_7 : decode cL_missingPixels 7 = .ok (.i2l, 1) := by decide +kernel
theorem dL_missingPixels_8 : decode cL_missingPixels 8 = .ok (.lastore, 1) := by decide +kernel
theorem dL_missingPixels_9 : decode cL_missingPixels 9 = .ok (.goto 9, 3) := by decide +kernel
theorem dL_missingPixels_12 : decode cL_missingPixels 12 = .ok (.astore_n 3, 1) := by decide +kernel
theorem dL_missingPixels_13 : decode cL_missingPixels 13 = .ok (.iconst 1, 1) := by decide +kernel
theorem dL_missingPixels_14 : decode cL_missingPixels 14 = .ok (.ireturn, 1) := by decide +kernel
theorem dL_missingPixels_15 : decode cL_missingPixels 15 = .ok (.astore_n 3, 1) := by decide +kernel
theorem dL_missingPixels_16 : decode cL_missingPixels 16 = .ok (.iconst 2, 1) := by decide +kernel
theorem dL_missingPixels_17 : decode cL_missingPixels 17 = .ok (.ireturn, 1) := by decide +kernel
theorem dL_missingPixels_18 : decode cL_missingPixels 18 = .ok (.iconst 0, 1) := by decide +kernel
theorem dL_missingPixels_19 : decode cL_missingPixels 19 = .ok (.ireturn, 1) := by decide +kernel
theorem dL_addedPixels_0 : decode cL_addedPixels 0 = .ok (.aload_n 2, 1) := by decide +kernel
theorem dL_addedPixels_1 : decode cL_addedPixels 1 = .ok (.iconst 0, 1) := by decide +kernel
theorem dL_addedPixels_2 : decode cL_addedPixels 2 = .ok (.aload_n 0, 1) := by decide +kernel
theorem dL_addedPixels_3 : decode cL_addedPixels 3 = .ok (.iload_n 1, 1) := by decide +kernel
theorem dL_addedPixels_4 : decode cL_addedPixels 4 = .ok (.invokevirtual 134, 3) := by decide +kernel
theorem dL_addedPixels_7 : decode cL_addedPixels 7 = .ok (.i2l, 1) := by decide +kernel
theorem dL_addedPixels_8 : decode cL_addedPixels 8 = .ok (.lastore, 1) := by decide +kernel
theorem dL_addedPixels_9 : decode cL_addedPixels 9 = .ok (.goto 9, 3) := by decide +kernel
theorem dL_addedPixels_12 : decode cL_addedPixels 12 = .ok (.astore_n 3, 1) := by decide +kernel
theorem dL_addedPixels_13 : decode cL_addedPixels 13 = .ok (.iconst 1, 1) := by decide +kernel
theorem dL_addedPixels_14 : decode cL_addedPixels 14 = .ok (.ireturn, 1) := by decide +kernel
theorem dL_addedPixels_15 : decode cL_addedPixels 15 = .ok (.astore_n 3, 1) := by decide +kernel
theorem dL_addedPixels_16 : decode cL_addedPixels 16 = .ok (.iconst 2, 1) := by decide +kernel
theorem dL_addedPixels_17 : decode cL_addedPixels 17 = .ok (.ireturn, 1) := by decide +kernel
theorem dL_addedPixels_18 : decode cL_addedPixels 18 = .ok (.iconst 0, 1) := by decide +kernel
theorem dL_addedPixels_19 : decode cL_addedPixels 19 = .ok (.ireturn, 1) := by decide +kernel
theorem dL_changes_0 : decode cL_changes 0 = .ok (.aload_n 1, 1) := by decide +kernel
theorem dL_changes_1 : decode cL_changes 1 = .ok (.iconst 0, 1) := by decide +kernel
theorem dL_changes_2 : decode cL_changes 2 = .ok (.aload_n 0, 1) := by decide +kernel
theorem dL_changes_3 : decode cL_changes 3 = .ok (.invokevirtual 137, 3) := by decide +kernel
theorem dL_changes_6 : decode cL_changes 6 = .ok (.i2l, 1) := by decide +kernel
theorem dL_changes_7 : decode cL_changes 7 = .ok (.lastore, 1) := by decide +kernel
theorem dL_changes_8 : decode cL_changes 8 = .ok (.goto 6, 3) := by decide +kernel
theorem dL_changes_11 : decode cL_changes 11 = .ok (.astore_n 2, 1) := by decide +kernel
theorem dL_changes_12 : decode cL_changes 12 = .ok (.iconst 1, 1) := by decide +kernel
theorem dL_changes_13 : decode cL_changes 13 = .ok (.ireturn, 1) := by decide +kernel
theorem dL_changes_14 : decode cL_changes 14 = .ok (.iconst 0, 1) := by decide +kernel
theorem dL_changes_15 : decode cL_changes 15 = .ok (.ireturn, 1) := by decide +kernel
theorem dL_changeKind_0 : decode cL_changeKind 0 = .ok (.aload_n 2, 1) := by decide +kernel
theorem dL_changeKind_1 : decode cL_changeKind 1 = .ok (.iconst 0, 1) := by decide +kernel
theorem dL_changeKind_2 : decode cL_changeKind 2 = .ok (.aload_n 0, 1) := by decide +kernel
theorem dL_changeKind_3 : decode cL_changeKind 3 = .ok (.iload_n 1, 1) := by decide +kernel
theorem dL_changeKind_4 : decode cL_changeKind 4 = .ok (.invokevirtual 140, 3) := by decide +kernel
theorem dL_changeKind_7 : decode cL_changeKind 7 = .ok (.i2l, 1) := by decide +kernel
theorem dL_changeKind_8 : decode cL_changeKind 8 = .ok (.lastore, 1) := by decide +kernel
theorem dL_changeKind_9 : decode cL_changeKind 9 = .ok (.goto 9, 3) := by decide +kernel
theorem dL_changeKind_12 : decode cL_changeKind 12 = .ok (.astore_n 3, 1) := by decide +kernel
theorem dL_changeKind_13 : decode cL_changeKind 13 = .ok (.iconst 1, 1) := by decide +kernel
theorem dL_changeKind_14 : decode cL_changeKind 14 = .ok (.ireturn, 1) := by decide +kernel
theorem dL_changeKind_15 : decode cL_changeKind 15 = .ok (.astore_n 3, 1) := by decide +kernel
theorem dL_changeKind_16 : decode cL_changeKind 16 = .ok (.iconst 2, 1) := by decide +kernel
theorem dL_changeKind_17 : decode cL_changeKind 17 = .ok (.ireturn, 1) := by decide +kernel
theorem dL_changeKind_18 : decode cL_changeKind 18 = .ok (.iconst 0, 1) := by decide +kernel
theorem dL_changeKind_19 : decode cL_changeKind 19 = .ok (.ireturn, 1) := by decide +kernel
theorem dL_changeRegion_0 : decode cL_changeRegion 0 = .ok (.aload_n 2, 1) := by decide +kernel
theorem dL_changeRegion_1 : decode cL_changeRegion 1 = .ok (.iconst 0, 1) := by decide +kernel
theorem dL_changeRegion_2 : decode cL_changeRegion 2 = .ok (.aload_n 0, 1) := by decide +kernel
theorem dL_changeRegion_3 : decode cL_changeRegion 3 = .ok (.iload_n 1, 1) := by decide +kernel
theorem dL_changeRegion_4 : decode cL_changeRegion 4 = .ok (.invokevirtual 143, 3) := by decide +kernel
theorem dL_changeRegion_7 : decode cL_changeRegion 7 = .ok (.i2l, 1) := by decide +kernel
theorem dL_changeRegion_8 : decode cL_changeRegion 8 = .ok (.lastore, 1) := by decide +kernel
theorem dL_changeRegion_9 : decode cL_changeRegion 9 = .ok (.goto 9, 3) := by decide +kernel
theorem dL_changeRegion_12 : decode cL_changeRegion 12 = .ok (.astore_n 3, 1) := by decide +kernel
theorem dL_changeRegion_13 : decode cL_changeRegion 13 = .ok (.iconst 1, 1) := by decide +kernel
theorem dL_changeRegion_14 : decode cL_changeRegion 14 = .ok (.ireturn, 1) := by decide +kernel
theorem dL_changeRegion_15 : decode cL_changeRegion 15 = .ok (.astore_n 3, 1) := by decide +kernel
theorem dL_changeRegion_16 : decode cL_changeRegion 16 = .ok (.iconst 2, 1) := by decide +kernel
theorem dL_changeRegion_17 : decode cL_changeRegion 17 = .ok (.ireturn, 1) := by decide +kernel
theorem dL_changeRegion_18 : decode cL_changeRegion 18 = .ok (.iconst 0, 1) := by decide +kernel
theorem dL_changeRegion_19 : decode cL_changeRegion 19 = .ok (.ireturn, 1) := by decide +kernel
theorem dL_changeTarget_0 : decode cL_changeTarget 0 = .ok (.aload_n 2, 1) := by decide +kernel
theorem dL_changeTarget_1 : decode cL_changeTarget 1 = .ok (.iconst 0, 1) := by decide +kernel
theorem dL_changeTarget_2 : decode cL_changeTarget 2 = .ok (.aload_n 0, 1) := by decide +kernel
theorem dL_changeTarget_3 : decode cL_changeTarget 3 = .ok (.iload_n 1, 1) := by decide +kernel
theorem dL_changeTarget_4 : decode cL_changeTarget 4 = .ok (.invokevirtual 146, 3) := by decide +kernel
theorem dL_changeTarget_7 : decode cL_changeTarget 7 = .ok (.i2l, 1) := by decide +kernel
theorem dL_changeTarget_8 : decode cL_changeTarget 8 = .ok (.lastore, 1) := by decide +kernel
theorem dL_changeTarget_9 : decode cL_changeTarget 9 = .ok (.goto 9, 3) := by decide +kernel
theorem dL_changeTarget_12 : decode cL_changeTarget 12 = .ok (.astore_n 3, 1) := by decide +kernel
theorem dL_changeTarget_13 : decode cL_changeTarget 13 = .ok (.iconst 1, 1) := by decide +kernel
theorem dL_changeTarget_14 : decode cL_changeTarget 14 = .ok (.ireturn, 1) := by decide +kernel
theorem dL_changeTarget_15 : decode cL_changeTarget 15 = .ok (.astore_n 3, 1) := by decide +kernel
theorem dL_changeTarget_16 : decode cL_changeTarget 16 = .ok (.iconst 2, 1) := by decide +kernel
theorem dL_changeTarget_17 : decode cL_changeTarget 17 = .ok (.ireturn, 1) := by decide +kernel
theorem dL_changeTarget_18 : decode cL_changeTarget 18 = .ok (.iconst 0, 1) := by decide +kernel
theorem dL_changeTarget_19 : decode cL_changeTarget 19 = .ok (.ireturn, 1) := by decide +kernel
theorem dL_moveX_0 : decode cL_moveX 0 = .ok (.aload_n 2, 1) := by decide +kernel
theorem dL_moveX_1 : decode cL_moveX 1 = .ok (.iconst 0, 1) := by decide +kernel
theorem dL_moveX_2 : decode cL_moveX 2 = .ok (.aload_n 0, 1) := by decide +kernel
theorem dL_moveX_3 : decode cL_moveX 3 = .ok (.iload_n 1, 1) := by decide +kernel
theorem dL_moveX_4 : decode cL_moveX 4 = .ok (.invokevirtual 149, 3) := by decide +kernel
theorem dL_moveX_7 : decode cL_moveX 7 = .ok (.i2l, 1) := by decide +kernel
theorem dL_moveX_8 : decode cL_moveX 8 = .ok (.lastore, 1) := by decide +kernel
theorem dL_moveX_9 : decode cL_moveX 9 = .ok (.goto 9, 3) := by decide +kernel
theorem dL_moveX_12 : decode cL_moveX 12 = .ok (.astore_n 3, 1) := by decide +kernel
theorem dL_moveX_13 : decode cL_moveX 13 = .ok (.iconst 1, 1) := by decide +kernel
theorem dL_moveX_14 : decode cL_moveX 14 = .ok (.ireturn, 1) := by decide +kernel
theorem dL_moveX_15 : decode cL_moveX 15 = .ok (.astore_n 3, 1) := by decide +kernel
theorem dL_moveX_16 : decode cL_moveX 16 = .ok (.iconst 2, 1) := by decide +kernel
theorem dL_moveX_17 : decode cL_moveX 17 = .ok (.ireturn, 1) := by decide +kernel
theorem dL_moveX_18 : decode cL_moveX 18 = .ok (.iconst 0, 1) := by decide +kernel
theorem dL_moveX_19 : decode cL_moveX 19 = .ok (.ireturn, 1) := by decide +kernel
theorem dL_moveY_0 : decode cL_moveY 0 = .ok (.aload_n 2, 1) := by decide +kernel
theorem dL_moveY_1 : decode cL_moveY 1 = .ok (.iconst 0, 1) := by decide +kernel
theorem dL_moveY_2 : decode cL_moveY 2 = .ok (.aload_n 0, 1) := by decide +kernel
theorem dL_moveY_3 : decode cL_moveY 3 = .ok (.iload_n 1, 1) := by decide +kernel
theorem dL_moveY_4 : decode cL_moveY 4 = .ok (.invokevirtual 152, 3) := by decide +kernel
theorem dL_moveY_7 : decode cL_moveY 7 = .ok (.i2l, 1) := by decide +kernel
theorem dL_moveY_8 : decode cL_moveY 8 = .ok (.lastore, 1) := by decide +kernel
theorem dL_moveY_9 : decode cL_moveY 9 = .ok (.goto 9, 3) := by decide +kernel
theorem dL_moveY_12 : decode cL_moveY 12 = .ok (.astore_n 3, 1) := by decide +kernel
theorem dL_moveY_13 : decode cL_moveY 13 = .ok (.iconst 1, 1) := by decide +kernel
theorem dL_moveY_14 : decode cL_moveY 14 = .ok (.ireturn, 1) := by decide +kernel
theorem dL_moveY_15 : decode cL_moveY 15 = .ok (.astore_n 3, 1) := by decide +kernel
theorem dL_moveY_16 : decode cL_moveY 16 = .ok (.iconst 2, 1) := by decide +kernel
theorem dL_moveY_17 : decode cL_moveY 17 = .ok (.ireturn, 1) := by decide +kernel
theorem dL_moveY_18 : decode cL_moveY 18 = .ok (.iconst 0, 1) := by decide +kernel
theorem dL_moveY_19 : decode cL_moveY 19 = .ok (.ireturn, 1) := by decide +kernel
theorem dL_changePixels_0 : decode cL_changePixels 0 = .ok (.aload_n 2, 1) := by decide +kernel
theorem dL_changePixels_1 : decode cL_changePixels 1 = .ok (.iconst 0, 1) := by decide +kernel
theorem dL_changePixels_2 : decode cL_changePixels 2 = .ok (.aload_n 0, 1) := by decide +kernel
theorem dL_changePixels_3 : decode cL_changePixels 3 = .ok (.iload_n 1, 1) := by decide +kernel
theorem dL_changePixels_4 : decode cL_changePixels 4 = .ok (.invokevirtual 155, 3) := by decide +kernel
theorem dL_changePixels_7 : decode cL_changePixels 7 = .ok (.i2l, 1) := by decide +kernel
theorem dL_changePixels_8 : decode cL_changePixels 8 = .ok (.lastore, 1) := by decide +kernel
theorem dL_changePixels_9 : decode cL_changePixels 9 = .ok (.goto 9, 3) := by decide +kernel
theorem dL_changePixels_12 : decode cL_changePixels 12 = .ok (.astore_n 3, 1) := by decide +kernel
theorem dL_changePixels_13 : decode cL_changePixels 13 = .ok (.iconst 1, 1) := by decide +kernel
theorem dL_changePixels_14 : decode cL_changePixels 14 = .ok (.ireturn, 1) := by decide +kernel
theorem dL_changePixels_15 : decode cL_changePixels 15 = .ok (.astore_n 3, 1) := by decide +kernel
theorem dL_changePixels_16 : decode cL_changePixels 16 = .ok (.iconst 2, 1) := by decide +kernel
theorem dL_changePixels_17 : decode cL_changePixels 17 = .ok (.ireturn, 1) := by decide +kernel
theorem dL_changePixels_18 : decode cL_changePixels 18 = .ok (.iconst 0, 1) := by decide +kernel
theorem dL_changePixels_19 : decode cL_changePixels 19 = .ok (.ireturn, 1) := by decide +kernel
theorem dL_changeLine_0 : decode cL_changeLine 0 = .ok (.aload_n 2, 1) := by decide +kernel
theorem dL_changeLine_1 : decode cL_changeLine 1 = .ok (.iconst 0, 1) := by decide +kernel
theorem dL_changeLine_2 : decode cL_changeLine 2 = .ok (.aload_n 0, 1) := by decide +kernel
theorem dL_changeLine_3 : decode cL_changeLine 3 = .ok (.iload_n 1, 1) := by decide +kernel
theorem dL_changeLine_4 : decode cL_changeLine 4 = .ok (.invokevirtual 158, 3) := by decide +kernel
theorem dL_changeLine_7 : decode cL_changeLine 7 = .ok (.i2l, 1) := by decide +kernel
theorem dL_changeLine_8 : decode cL_changeLine 8 = .ok (.lastore, 1) := by decide +kernel
theorem dL_changeLine_9 : decode cL_changeLine 9 = .ok (.goto 9, 3) := by decide +kernel
theorem dL_changeLine_12 : decode cL_changeLine 12 = .ok (.astore_n 3, 1) := by decide +kernel
theorem dL_changeLine_13 : decode cL_changeLine 13 = .ok (.iconst 1, 1) := by decide +kernel
theorem dL_changeLine_14 : decode cL_changeLine 14 = .ok (.ireturn, 1) := by decide +kernel
theorem dL_changeLine_15 : decode cL_changeLine 15 = .ok (.astore_n 3, 1) := by decide +kernel
theorem dL_changeLine_16 : decode cL_changeLine 16 = .ok (.iconst 2, 1) := by decide +kernel
theorem dL_changeLine_17 : decode cL_changeLine 17 = .ok (.ireturn, 1) := by decide +kernel
theorem dL_changeLine_18 : decode cL_changeLine 18 = .ok (.iconst 0, 1) := by decide +kernel
theorem dL_changeLine_19 : decode cL_changeLine 19 = .ok (.ireturn, 1) := by decide +kernel
theorem dL_reportChar_0 : decode cL_reportChar 0 = .ok (.aload_n 2, 1) := by decide +kernel
theorem dL_reportChar_1 : decode cL_reportChar 1 = .ok (.iconst 0, 1) := by decide +kernel
theorem dL_reportChar_2 : decode cL_reportChar 2 = .ok (.aload_n 0, 1) := by decide +kernel
theorem dL_reportChar_3 : decode cL_reportChar 3 = .ok (.iload_n 1, 1) := by decide +kernel
theorem dL_reportChar_4 : decode cL_reportChar 4 = .ok (.invokevirtual 161, 3) := by decide +kernel
theorem dL_reportChar_7 : decode cL_reportChar 7 = .ok (.i2l, 1) := by decide +kernel
theorem dL_reportChar_8 : decode cL_reportChar 8 = .ok (.lastore, 1) := by decide +kernel
theorem dL_reportChar_9 : decode cL_reportChar 9 = .ok (.goto 9, 3) := by decide +kernel
theorem dL_reportChar_12 : decode cL_reportChar 12 = .ok (.astore_n 3, 1) := by decide +kernel
theorem dL_reportChar_13 : decode cL_reportChar 13 = .ok (.iconst 1, 1) := by decide +kernel
theorem dL_reportChar_14 : decode cL_reportChar 14 = .ok (.ireturn, 1) := by decide +kernel
theorem dL_reportChar_15 : decode cL_reportChar 15 = .ok (.astore_n 3, 1) := by decide +kernel
theorem dL_reportChar_16 : decode cL_reportChar 16 = .ok (.iconst 2, 1) := by decide +kernel
theorem dL_reportChar_17 : decode cL_reportChar 17 = .ok (.ireturn, 1) := by decide +kernel
theorem dL_reportChar_18 : decode cL_reportChar 18 = .ok (.iconst 0, 1) := by decide +kernel
theorem dL_reportChar_19 : decode cL_reportChar 19 = .ok (.ireturn, 1) := by decide +kernel
theorem dL_learn_0 : decode cL_learn 0 = .ok (.aload_n 2, 1) := by decide +kernel
theorem dL_learn_1 : decode cL_learn 1 = .ok (.iconst 0, 1) := by decide +kernel
theorem dL_learn_2 : decode cL_learn 2 = .ok (.aload_n 0, 1) := by decide +kernel
theorem dL_learn_3 : decode cL_learn 3 = .ok (.iload_n 1, 1) := by decide +kernel
theorem dL_learn_4 : decode cL_learn 4 = .ok (.invokevirtual 164, 3) := by decide +kernel
theorem dL_learn_7 : decode cL_learn 7 = .ok (.i2l, 1) := by decide +kernel
theorem dL_learn_8 : decode cL_learn 8 = .ok (.lastore, 1) := by decide +kernel
theorem dL_learn_9 : decode cL_learn 9 = .ok (.goto 9, 3) := by decide +kernel
theorem dL_learn_12 : decode cL_learn 12 = .ok (.astore_n 3, 1) := by decide +kernel
theorem dL_learn_13 : decode cL_learn 13 = .ok (.iconst 1, 1) := by decide +kernel
theorem dL_learn_14 : decode cL_learn 14 = .ok (.ireturn, 1) := by decide +kernel
theorem dL_learn_15 : decode cL_learn 15 = .ok (.astore_n 3, 1) := by decide +kernel
theorem dL_learn_16 : decode cL_learn 16 = .ok (.iconst 2, 1) := by decide +kernel
theorem dL_learn_17 : decode cL_learn 17 = .ok (.ireturn, 1) := by decide +kernel
theorem dL_learn_18 : decode cL_learn 18 = .ok (.iconst 0, 1) := by decide +kernel
theorem dL_learn_19 : decode cL_learn 19 = .ok (.ireturn, 1) := by decide +kernel
theorem dL_stampOf_0 : decode cL_stampOf 0 = .ok (.aload_n 2, 1) := by decide +kernel
theorem dL_stampOf_1 : decode cL_stampOf 1 = .ok (.iconst 0, 1) := by decide +kernel
theorem dL_stampOf_2 : decode cL_stampOf 2 = .ok (.aload_n 0, 1) := by decide +kernel
theorem dL_stampOf_3 : decode cL_stampOf 3 = .ok (.iload_n 1, 1) := by decide +kernel
theorem dL_stampOf_4 : decode cL_stampOf 4 = .ok (.invokevirtual 167, 3) := by decide +kernel
theorem dL_stampOf_7 : decode cL_stampOf 7 = .ok (.i2l, 1) := by decide +kernel
theorem dL_stampOf_8 : decode cL_stampOf 8 = .ok (.lastore, 1) := by decide +kernel
theorem dL_stampOf_9 : decode cL_stampOf 9 = .ok (.goto 9, 3) := by decide +kernel
theorem dL_stampOf_12 : decode cL_stampOf 12 = .ok (.astore_n 3, 1) := by decide +kernel
theorem dL_stampOf_13 : decode cL_stampOf 13 = .ok (.iconst 1, 1) := by decide +kernel
theorem dL_stampOf_14 : decode cL_stampOf 14 = .ok (.ireturn, 1) := by decide +kernel
theorem dL_stampOf_15 : decode cL_stampOf 15 = .ok (.astore_n 3, 1) := by decide +kernel
theorem dL_stampOf_16 : decode cL_stampOf 16 = .ok (.iconst 2, 1) := by decide +kernel
theorem dL_stampOf_17 : decode cL_stampOf 17 = .ok (.ireturn, 1) := by decide +kernel
theorem dL_stampOf_18 : decode cL_stampOf 18 = .ok (.iconst 0, 1) := by decide +kernel
theorem dL_stampOf_19 : decode cL_stampOf 19 = .ok (.ireturn, 1) := by decide +kernel
theorem dL_forgetStamp_0 : decode cL_forgetStamp 0 = .ok (.aload_n 2, 1) := by decide +kernel
theorem dL_forgetStamp_1 : decode cL_forgetStamp 1 = .ok (.iconst 0, 1) := by decide +kernel
theorem dL_forgetStamp_2 : decode cL_forgetStamp 2 = .ok (.aload_n 0, 1) := by decide +kernel
theorem dL_forgetStamp_3 : decode cL_forgetStamp 3 = .ok (.iload_n 1, 1) := by decide +kernel
theorem dL_forgetStamp_4 : decode cL_forgetStamp 4 = .ok (.invokevirtual 170, 3) := by decide +kernel
theorem dL_forgetStamp_7 : decode cL_forgetStamp 7 = .ok (.i2l, 1) := by decide +kernel
theorem dL_forgetStamp_8 : decode cL_forgetStamp 8 = .ok (.lastore, 1) := by decide +kernel
theorem dL_forgetStamp_9 : decode cL_forgetStamp 9 = .ok (.goto 6, 3) := by decide +kernel
theorem dL_forgetStamp_12 : decode cL_forgetStamp 12 = .ok (.astore_n 3, 1) := by decide +kernel
theorem dL_forgetStamp_13 : decode cL_forgetStamp 13 = .ok (.iconst 1, 1) := by decide +kernel
theorem dL_forgetStamp_14 : decode cL_forgetStamp 14 = .ok (.ireturn, 1) := by decide +kernel
theorem dL_forgetStamp_15 : decode cL_forgetStamp 15 = .ok (.iconst 0, 1) := by decide +kernel
theorem dL_forgetStamp_16 : decode cL_forgetStamp 16 = .ok (.ireturn, 1) := by decide +kernel
theorem dL_accept_0 : decode cL_accept 0 = .ok (.aload_n 2, 1) := by decide +kernel
theorem dL_accept_1 : decode cL_accept 1 = .ok (.iconst 0, 1) := by decide +kernel
theorem dL_accept_2 : decode cL_accept 2 = .ok (.aload_n 0, 1) := by decide +kernel
theorem dL_accept_3 : decode cL_accept 3 = .ok (.iload_n 1, 1) := by decide +kernel
theorem dL_accept_4 : decode cL_accept 4 = .ok (.invokevirtual 173, 3) := by decide +kernel
theorem dL_accept_7 : decode cL_accept 7 = .ok (.i2l, 1) := by decide +kernel
theorem dL_accept_8 : decode cL_accept 8 = .ok (.lastore, 1) := by decide +kernel
theorem dL_accept_9 : decode cL_accept 9 = .ok (.goto 9, 3) := by decide +kernel
theorem dL_accept_12 : decode cL_accept 12 = .ok (.astore_n 3, 1) := by decide +kernel
theorem dL_accept_13 : decode cL_accept 13 = .ok (.iconst 1, 1) := by decide +kernel
theorem dL_accept_14 : decode cL_accept 14 = .ok (.ireturn, 1) := by decide +kernel
theorem dL_accept_15 : decode cL_accept 15 = .ok (.astore_n 3, 1) := by decide +kernel
theorem dL_accept_16 : decode cL_accept 16 = .ok (.iconst 2, 1) := by decide +kernel
theorem dL_accept_17 : decode cL_accept 17 = .ok (.ireturn, 1) := by decide +kernel
theorem dL_accept_18 : decode cL_accept 18 = .ok (.iconst 0, 1) := by decide +kernel
theorem dL_accept_19 : decode cL_accept 19 = .ok (.ireturn, 1) := by decide +kernel
theorem dL_leastNoise_0 : decode cL_leastNoise 0 = .ok (.aload_n 2, 1) := by decide +kernel
theorem dL_leastNoise_1 : decode cL_leastNoise 1 = .ok (.iconst 0, 1) := by decide +kernel
theorem dL_leastNoise_2 : decode cL_leastNoise 2 = .ok (.aload_n 0, 1) := by decide +kernel
theorem dL_leastNoise_3 : decode cL_leastNoise 3 = .ok (.iload_n 1, 1) := by decide +kernel
theorem dL_leastNoise_4 : decode cL_leastNoise 4 = .ok (.invokevirtual 176, 3) := by decide +kernel
theorem dL_leastNoise_7 : decode cL_leastNoise 7 = .ok (.i2l, 1) := by decide +kernel
theorem dL_leastNoise_8 : decode cL_leastNoise 8 = .ok (.lastore, 1) := by decide +kernel
theorem dL_leastNoise_9 : decode cL_leastNoise 9 = .ok (.goto 9, 3) := by decide +kernel
theorem dL_leastNoise_12 : decode cL_leastNoise 12 = .ok (.astore_n 3, 1) := by decide +kernel
theorem dL_leastNoise_13 : decode cL_leastNoise 13 = .ok (.iconst 1, 1) := by decide +kernel
theorem dL_leastNoise_14 : decode cL_leastNoise 14 = .ok (.ireturn, 1) := by decide +kernel
theorem dL_leastNoise_15 : decode cL_leastNoise 15 = .ok (.astore_n 3, 1) := by decide +kernel
theorem dL_leastNoise_16 : decode cL_leastNoise 16 = .ok (.iconst 2, 1) := by decide +kernel
theorem dL_leastNoise_17 : decode cL_leastNoise 17 = .ok (.ireturn, 1) := by decide +kernel
theorem dL_leastNoise_18 : decode cL_leastNoise 18 = .ok (.iconst 0, 1) := by decide +kernel
theorem dL_leastNoise_19 : decode cL_leastNoise 19 = .ok (.ireturn, 1) := by decide +kernel
