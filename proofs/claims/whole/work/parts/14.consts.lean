/-! THE LAW'S START: what the Statement gives of it, in the words of the abstract run (by program, wip/whole/gen14.py) -/
def xBig : Cond := Jvm.Cond.and given_1 narrow_1
/-- the String constants: class and entry -/
def xStl : List (String × Nat) := [("ScanCompare", 404), ("ScanCompare", 406), ("ScanCompare", 408), ("ScanCompare", 133), ("ScanCompare", 142), ("ScanCompare", 413), ("ScanCompare", 171), ("ScanCompare", 190), ("ScanCompare", 197), ("ScanCompare", 202), ("ScanCompare", 220), ("ScanCompare", 227), ("ScanCompare", 243), ("ScanCompare", 248), ("ScanCompare", 250), ("ScanCompare", 376), ("ScanCompare", 294), ("ScanCompare", 312), ("ScanCompare", 320), ("ScanCompare", 421), ("ScanCompare", 426), ("ScanCompare$Comparison", 309), ("ScanCompare$Comparison", 317), ("ScanCompare$Comparison", 323), ("ScanCompare$Comparison", 335), ("ScanCompare$Comparison", 340), ("ScanCompare$Comparison", 342), ("ScanCompare$Part", 67), ("ScanCompare$Part", 79), ("ScanCompare$Part", 81), ("ScanCompare$Part", 87), ("ScanCompare$Part", 89), ("ScanCompare$Part", 91), ("ScanCompare$Part", 93), ("ScanCompare$Part", 95), ("ScanCompare$Part", 97), ("ScanCompare$Part", 102), ("ScanCompare", 383), ("ScanCompare", 390), ("ScanCompare", 399), ("ScanCompare$Setting", 116), ("ScanCompare$Setting", 72), ("ScanCompare$Setting", 119), ("ScanCompare$Setting", 122), ("ScanCompare$Setting", 125), ("ScanCompare$Setting", 127), ("ScanCompare$Setting", 129), ("ScanCompare$Setting", 113), ("ScanCompare$Setting", 104), ("ScanCompare$Setting", 110), ("ScanCompare$Setting", 135), ("ScanCompare$Setting", 137), ("ScanCompare$Setting", 139), ("ScanCompare$Setting", 142), ("ScanCompare$Setting", 145), ("ScanCompare$Setting", 147), ("ScanCompare$Setting", 149)]
def xTmS (i : Nat) : Term := .string (xStl.getD i ("", 0)).1 (xStl.getD i ("", 0)).2
def xSB (i : Nat) : List Int32 := (xBys i).getD []
def xSn : List String := ["BLOCK", "NOISE", "JITTER", "SPECKLE", "SEARCH", "SKEW", "TURN", "ORDER", "PAIR", "STAMPS"]
def xTmE (i : Nat) : Term := .static "ScanCompare$Setting" (xSn.getD i "") "LScanCompare$Setting;"
def xTmA : Term := .static "ScanCompare" "SETTINGS" "[LScanCompare$Setting;"
abbrev xTmV (i : Nat) : Term := .field (xTmS i) "java/lang/String" "value" "[B"
abbrev xBigL : List Cond := flatC xBig
theorem xF_s_0 : xBigL[263]? = some (Cond.exactly (xTmS 0) "java/lang/String") ∧ xBigL[264]? = some (Cond.eq (.field (xTmS 0) "java/lang/String" "coder" "B") (.int 0)) ∧ xBigL[265]? = some (Cond.arrayOf (xTmV 0) .byte) ∧ xBigL[266]? = some (Cond.eq (.length (xTmV 0)) (.int (Int32.ofNat (xSB 0).length))) ∧ ∀ j, j < (xSB 0).length → xBigL[267 + j]? = some (Cond.eq (.elem (xTmV 0) (.int (Int32.ofNat j))) (.int ((xSB 0).getD j 0))) := by decide +kernel
theorem xF_s_1 : xBigL[279]? = some (Cond.exactly (xTmS 1) "java/lang/String") ∧ xBigL[280]? = some (Cond.eq (.field (xTmS 1) "java/lang/String" "coder" "B") (.int 0)) ∧ xBigL[281]? = some (Cond.arrayOf (xTmV 1) .byte) ∧ xBigL[282]? = some (Cond.eq (.length (xTmV 1)) (.int (Int32.ofNat (xSB 1).length))) ∧ ∀ j, j < (xSB 1).length → xBigL[283 + j]? = some (Cond.eq (.elem (xTmV 1) (.int (Int32.ofNat j))) (.int ((xSB 1).getD j 0))) := by decide +kernel
theorem xF_s_2 : xBigL[294]? = some (Cond.exactly (xTmS 2) "java/lang/String") ∧ xBigL[295]? = some (Cond.eq (.field (xTmS 2) "java/lang/String" "coder" "B") (.int 0)) ∧ xBigL[296]? = some (Cond.arrayOf (xTmV 2) .byte) ∧ xBigL[297]? = some (Cond.eq (.length (xTmV 2)) (.int (Int32.ofNat (xSB 2).length))) ∧ ∀ j, j < (xSB 2).length → xBigL[298 + j]? = some (Cond.eq (.elem (xTmV 2) (.int (Int32.ofNat j))) (.int ((xSB 2).getD j 0))) := by decide +kernel
theorem xF_s_3 : xBigL[311]? = some (Cond.exactly (xTmS 3) "java/lang/String") ∧ xBigL[312]? = some (Cond.eq (.field (xTmS 3) "java/lang/String" "coder" "B") (.int 0)) ∧ xBigL[313]? = some (Cond.arrayOf (xTmV 3) .byte) ∧ xBigL[314]? = some (Cond.eq (.length (xTmV 3)) (.int (Int32.ofNat (xSB 3).length))) ∧ ∀ j, j < (xSB 3).length → xBigL[315 + j]? = some (Cond.eq (.elem (xTmV 3) (.int (Int32.ofNat j))) (.int ((xSB 3).getD j 0))) := by decide +kernel
theorem xF_s_4 : xBigL[335]? = some (Cond.exactly (xTmS 4) "java/lang/String") ∧ xBigL[336]? = some (Cond.eq (.field (xTmS 4) "java/lang/String" "coder" "B") (.int 0)) ∧ xBigL[337]? = some (Cond.arrayOf (xTmV 4) .byte) ∧ xBigL[338]? = some (Cond.eq (.length (xTmV 4)) (.int (Int32.ofNat (xSB 4).length))) ∧ ∀ j, j < (xSB 4).length → xBigL[339 + j]? = some (Cond.eq (.elem (xTmV 4) (.int (Int32.ofNat j))) (.int ((xSB 4).getD j 0))) := by decide +kernel
theorem xF_s_5 : xBigL[356]? = some (Cond.exactly (xTmS 5) "java/lang/String") ∧ xBigL[357]? = some (Cond.eq (.field (xTmS 5) "java/lang/String" "coder" "B") (.int 0)) ∧ xBigL[358]? = some (Cond.arrayOf (xTmV 5) .byte) ∧ xBigL[359]? = some (Cond.eq (.length (xTmV 5)) (.int (Int32.ofNat (xSB 5).length))) ∧ ∀ j, j < (xSB 5).length → xBigL[360 + j]? = some (Cond.eq (.elem (xTmV 5) (.int (Int32.ofNat j))) (.int ((xSB 5).getD j 0))) := by decide +kernel
theorem xF_s_6 : xBigL[377]? = some (Cond.exactly (xTmS 6) "java/lang/String") ∧ xBigL[378]? = some (Cond.eq (.field (xTmS 6) "java/lang/String" "coder" "B") (.int 0)) ∧ xBigL[379]? = some (Cond.arrayOf (xTmV 6) .byte) ∧ xBigL[380]? = some (Cond.eq (.length (xTmV 6)) (.int (Int32.ofNat (xSB 6).length))) ∧ ∀ j, j < (xSB 6).length → xBigL[381 + j]? = some (Cond.eq (.elem (xTmV 6) (.int (Int32.ofNat j))) (.int ((xSB 6).getD j 0))) := by decide +kernel
theorem xF_s_7 : xBigL[397]? = some (Cond.exactly (xTmS 7) "java/lang/String") ∧ xBigL[398]? = some (Cond.eq (.field (xTmS 7) "java/lang/String" "coder" "B") (.int 0)) ∧ xBigL[399]? = some (Cond.arrayOf (xTmV 7) .byte) ∧ xBigL[400]? = some (Cond.eq (.length (xTmV 7)) (.int (Int32.ofNat (xSB 7).length))) ∧ ∀ j, j < (xSB 7).length → xBigL[401 + j]? = some (Cond.eq (.elem (xTmV 7) (.int (Int32.ofNat j))) (.int ((xSB 7).getD j 0))) := by decide +kernel
theorem xF_s_8 : xBigL[422]? = some (Cond.exactly (xTmS 8) "java/lang/String") ∧ xBigL[423]? = some (Cond.eq (.field (xTmS 8) "java/lang/String" "coder" "B") (.int 0)) ∧ xBigL[424]? = some (Cond.arrayOf (xTmV 8) .byte) ∧ xBigL[425]? = some (Cond.eq (.length (xTmV 8)) (.int (Int32.ofNat (xSB 8).length))) ∧ ∀ j, j < (xSB 8).length → xBigL[426 + j]? = some (Cond.eq (.elem (xTmV 8) (.int (Int32.ofNat j))) (.int ((xSB 8).getD j 0))) := by decide +kernel
theorem xF_s_9 : xBigL[448]? = some (Cond.exactly (xTmS 9) "java/lang/String") ∧ xBigL[449]? = some (Cond.eq (.field (xTmS 9) "java/lang/String" "coder" "B") (.int 0)) ∧ xBigL[450]? = some (Cond.arrayOf (xTmV 9) .byte) ∧ xBigL[451]? = some (Cond.eq (.length (xTmV 9)) (.int (Int32.ofNat (xSB 9).length))) ∧ ∀ j, j < (xSB 9).length → xBigL[452 + j]? = some (Cond.eq (.elem (xTmV 9) (.int (Int32.ofNat j))) (.int ((xSB 9).getD j 0))) := by decide +kernel
theorem xF_s_10 : xBigL[468]? = some (Cond.exactly (xTmS 10) "java/lang/String") ∧ xBigL[469]? = some (Cond.eq (.field (xTmS 10) "java/lang/String" "coder" "B") (.int 0)) ∧ xBigL[470]? = some (Cond.arrayOf (xTmV 10) .byte) ∧ xBigL[471]? = some (Cond.eq (.length (xTmV 10)) (.int (Int32.ofNat (xSB 10).length))) ∧ ∀ j, j < (xSB 10).length → xBigL[472 + j]? = some (Cond.eq (.elem (xTmV 10) (.int (Int32.ofNat j))) (.int ((xSB 10).getD j 0))) := by decide +kernel
theorem xF_s_11 : xBigL[487]? = some (Cond.exactly (xTmS 11) "java/lang/String") ∧ xBigL[488]? = some (Cond.eq (.field (xTmS 11) "java/lang/String" "coder" "B") (.int 0)) ∧ xBigL[489]? = some (Cond.arrayOf (xTmV 11) .byte) ∧ xBigL[490]? = some (Cond.eq (.length (xTmV 11)) (.int (Int32.ofNat (xSB 11).length))) ∧ ∀ j, j < (xSB 11).length → xBigL[491 + j]? = some (Cond.eq (.elem (xTmV 11) (.int (Int32.ofNat j))) (.int ((xSB 11).getD j 0))) := by decide +kernel
theorem xF_s_12 : xBigL[505]? = some (Cond.exactly (xTmS 12) "java/lang/String") ∧ xBigL[506]? = some (Cond.eq (.field (xTmS 12) "java/lang/String" "coder" "B") (.int 0)) ∧ xBigL[507]? = some (Cond.arrayOf (xTmV 12) .byte) ∧ xBigL[508]? = some (Cond.eq (.length (xTmV 12)) (.int (Int32.ofNat (xSB 12).length))) ∧ ∀ j, j < (xSB 12).length → xBigL[509 + j]? = some (Cond.eq (.elem (xTmV 12) (.int (Int32.ofNat j))) (.int ((xSB 12).getD j 0))) := by decide +kernel
theorem xF_s_13 : xBigL[533]? = some (Cond.exactly (xTmS 13) "java/lang/String") ∧ xBigL[534]? = some (Cond.eq (.field (xTmS 13) "java/lang/String" "coder" "B") (.int 0)) ∧ xBigL[535]? = some (Cond.arrayOf (xTmV 13) .byte) ∧ xBigL[536]? = some (Cond.eq (.length (xTmV 13)) (.int (Int32.ofNat (xSB 13).length))) ∧ ∀ j, j < (xSB 13).length → xBigL[537 + j]? = some (Cond.eq (.elem (xTmV 13) (.int (Int32.ofNat j))) (.int ((xSB 13).getD j 0))) := by decide +kernel
theorem xF_s_14 : xBigL[551]? = some (Cond.exactly (xTmS 14) "java/lang/String") ∧ xBigL[552]? = some (Cond.eq (.field (xTmS 14) "java/lang/String" "coder" "B") (.int 0)) ∧ xBigL[553]? = some (Cond.arrayOf (xTmV 14) .byte) ∧ xBigL[554]? = some (Cond.eq (.length (xTmV 14)) (.int (Int32.ofNat (xSB 14).length))) ∧ ∀ j, j < (xSB 14).length → xBigL[555 + j]? = some (Cond.eq (.elem (xTmV 14) (.int (Int32.ofNat j))) (.int ((xSB 14).getD j 0))) := by decide +kernel
theorem xF_s_15 : xBigL[567]? = some (Cond.exactly (xTmS 15) "java/lang/String") ∧ xBigL[568]? = some (Cond.eq (.field (xTmS 15) "java/lang/String" "coder" "B") (.int 0)) ∧ xBigL[569]? = some (Cond.arrayOf (xTmV 15) .byte) ∧ xBigL[570]? = some (Cond.eq (.length (xTmV 15)) (.int (Int32.ofNat (xSB 15).length))) ∧ ∀ j, j < (xSB 15).length → xBigL[571 + j]? = some (Cond.eq (.elem (xTmV 15) (.int (Int32.ofNat j))) (.int ((xSB 15).getD j 0))) := by decide +kernel
theorem xF_s_16 : xBigL[584]? = some (Cond.exactly (xTmS 16) "java/lang/String") ∧ xBigL[585]? = some (Cond.eq (.field (xTmS 16) "java/lang/String" "coder" "B") (.int 0)) ∧ xBigL[586]? = some (Cond.arrayOf (xTmV 16) .byte) ∧ xBigL[587]? = some (Cond.eq (.length (xTmV 16)) (.int (Int32.ofNat (xSB 16).length))) ∧ ∀ j, j < (xSB 16).length → xBigL[588 + j]? = some (Cond.eq (.elem (xTmV 16) (.int (Int32.ofNat j))) (.int ((xSB 16).getD j 0))) := by decide +kernel
theorem xF_s_17 : xBigL[606]? = some (Cond.exactly (xTmS 17) "java/lang/String") ∧ xBigL[607]? = some (Cond.eq (.field (xTmS 17) "java/lang/String" "coder" "B") (.int 0)) ∧ xBigL[608]? = some (Cond.arrayOf (xTmV 17) .byte) ∧ xBigL[609]? = some (Cond.eq (.length (xTmV 17)) (.int (Int32.ofNat (xSB 17).length))) ∧ ∀ j, j < (xSB 17).length → xBigL[610 + j]? = some (Cond.eq (.elem (xTmV 17) (.int (Int32.ofNat j))) (.int ((xSB 17).getD j 0))) := by decide +kernel
theorem xF_s_18 : xBigL[623]? = some (Cond.exactly (xTmS 18) "java/lang/String") ∧ xBigL[624]? = some (Cond.eq (.field (xTmS 18) "java/lang/String" "coder" "B") (.int 0)) ∧ xBigL[625]? = some (Cond.arrayOf (xTmV 18) .byte) ∧ xBigL[626]? = some (Cond.eq (.length (xTmV 18)) (.int (Int32.ofNat (xSB 18).length))) ∧ ∀ j, j < (xSB 18).length → xBigL[627 + j]? = some (Cond.eq (.elem (xTmV 18) (.int (Int32.ofNat j))) (.int ((xSB 18).getD j 0))) := by decide +kernel
theorem xF_s_19 : xBigL[647]? = some (Cond.exactly (xTmS 19) "java/lang/String") ∧ xBigL[648]? = some (Cond.eq (.field (xTmS 19) "java/lang/String" "coder" "B") (.int 0)) ∧ xBigL[649]? = some (Cond.arrayOf (xTmV 19) .byte) ∧ xBigL[650]? = some (Cond.eq (.length (xTmV 19)) (.int (Int32.ofNat (xSB 19).length))) ∧ ∀ j, j < (xSB 19).length → xBigL[651 + j]? = some (Cond.eq (.elem (xTmV 19) (.int (Int32.ofNat j))) (.int ((xSB 19).getD j 0))) := by decide +kernel
theorem xF_s_20 : xBigL[665]? = some (Cond.exactly (xTmS 20) "java/lang/String") ∧ xBigL[666]? = some (Cond.eq (.field (xTmS 20) "java/lang/String" "coder" "B") (.int 0)) ∧ xBigL[667]? = some (Cond.arrayOf (xTmV 20) .byte) ∧ xBigL[668]? = some (Cond.eq (.length (xTmV 20)) (.int (Int32.ofNat (xSB 20).length))) ∧ ∀ j, j < (xSB 20).length → xBigL[669 + j]? = some (Cond.eq (.elem (xTmV 20) (.int (Int32.ofNat j))) (.int ((xSB 20).getD j 0))) := by decide +kernel
theorem xF_s_21 : xBigL[683]? = some (Cond.exactly (xTmS 21) "java/lang/String") ∧ xBigL[684]? = some (Cond.eq (.field (xTmS 21) "java/lang/String" "coder" "B") (.int 0)) ∧ xBigL[685]? = some (Cond.arrayOf (xTmV 21) .byte) ∧ xBigL[686]? = some (Cond.eq (.length (xTmV 21)) (.int (Int32.ofNat (xSB 21).length))) ∧ ∀ j, j < (xSB 21).length → xBigL[687 + j]? = some (Cond.eq (.elem (xTmV 21) (.int (Int32.ofNat j))) (.int ((xSB 21).getD j 0))) := by decide +kernel
theorem xF_s_22 : xBigL[693]? = some (Cond.exactly (xTmS 22) "java/lang/String") ∧ xBigL[694]? = some (Cond.eq (.field (xTmS 22) "java/lang/String" "coder" "B") (.int 0)) ∧ xBigL[695]? = some (Cond.arrayOf (xTmV 22) .byte) ∧ xBigL[696]? = some (Cond.eq (.length (xTmV 22)) (.int (Int32.ofNat (xSB 22).length))) ∧ ∀ j, j < (xSB 22).length → xBigL[697 + j]? = some (Cond.eq (.elem (xTmV 22) (.int (Int32.ofNat j))) (.int ((xSB 22).getD j 0))) := by decide +kernel
theorem xF_s_23 : xBigL[698]? = some (Cond.exactly (xTmS 23) "java/lang/String") ∧ xBigL[699]? = some (Cond.eq (.field (xTmS 23) "java/lang/String" "coder" "B") (.int 0)) ∧ xBigL[700]? = some (Cond.arrayOf (xTmV 23) .byte) ∧ xBigL[701]? = some (Cond.eq (.length (xTmV 23)) (.int (Int32.ofNat (xSB 23).length))) ∧ ∀ j, j < (xSB 23).length → xBigL[702 + j]? = some (Cond.eq (.elem (xTmV 23) (.int (Int32.ofNat j))) (.int ((xSB 23).getD j 0))) := by decide +kernel
theorem xF_s_24 : xBigL[708]? = some (Cond.exactly (xTmS 24) "java/lang/String") ∧ xBigL[709]? = some (Cond.eq (.field (xTmS 24) "java/lang/String" "coder" "B") (.int 0)) ∧ xBigL[710]? = some (Cond.arrayOf (xTmV 24) .byte) ∧ xBigL[711]? = some (Cond.eq (.length (xTmV 24)) (.int (Int32.ofNat (xSB 24).length))) ∧ ∀ j, j < (xSB 24).length → xBigL[712 + j]? = some (Cond.eq (.elem (xTmV 24) (.int (Int32.ofNat j))) (.int ((xSB 24).getD j 0))) := by decide +kernel
theorem xF_s_25 : xBigL[719]? = some (Cond.exactly (xTmS 25) "java/lang/String") ∧ xBigL[720]? = some (Cond.eq (.field (xTmS 25) "java/lang/String" "coder" "B") (.int 0)) ∧ xBigL[721]? = some (Cond.arrayOf (xTmV 25) .byte) ∧ xBigL[722]? = some (Cond.eq (.length (xTmV 25)) (.int (Int32.ofNat (xSB 25).length))) ∧ ∀ j, j < (xSB 25).length → xBigL[723 + j]? = some (Cond.eq (.elem (xTmV 25) (.int (Int32.ofNat j))) (.int ((xSB 25).getD j 0))) := by decide +kernel
theorem xF_s_26 : xBigL[730]? = some (Cond.exactly (xTmS 26) "java/lang/String") ∧ xBigL[731]? = some (Cond.eq (.field (xTmS 26) "java/lang/String" "coder" "B") (.int 0)) ∧ xBigL[732]? = some (Cond.arrayOf (xTmV 26) .byte) ∧ xBigL[733]? = some (Cond.eq (.length (xTmV 26)) (.int (Int32.ofNat (xSB 26).length))) ∧ ∀ j, j < (xSB 26).length → xBigL[734 + j]? = some (Cond.eq (.elem (xTmV 26) (.int (Int32.ofNat j))) (.int ((xSB 26).getD j 0))) := by decide +kernel
theorem xF_s_27 : xBigL[742]? = some (Cond.exactly (xTmS 27) "java/lang/String") ∧ xBigL[743]? = some (Cond.eq (.field (xTmS 27) "java/lang/String" "coder" "B") (.int 0)) ∧ xBigL[744]? = some (Cond.arrayOf (xTmV 27) .byte) ∧ xBigL[745]? = some (Cond.eq (.length (xTmV 27)) (.int (Int32.ofNat (xSB 27).length))) ∧ ∀ j, j < (xSB 27).length → xBigL[746 + j]? = some (Cond.eq (.elem (xTmV 27) (.int (Int32.ofNat j))) (.int ((xSB 27).getD j 0))) := by decide +kernel
theorem xF_s_28 : xBigL[752]? = some (Cond.exactly (xTmS 28) "java/lang/String") ∧ xBigL[753]? = some (Cond.eq (.field (xTmS 28) "java/lang/String" "coder" "B") (.int 0)) ∧ xBigL[754]? = some (Cond.arrayOf (xTmV 28) .byte) ∧ xBigL[755]? = some (Cond.eq (.length (xTmV 28)) (.int (Int32.ofNat (xSB 28).length))) ∧ ∀ j, j < (xSB 28).length → xBigL[756 + j]? = some (Cond.eq (.elem (xTmV 28) (.int (Int32.ofNat j))) (.int ((xSB 28).getD j 0))) := by decide +kernel
theorem xF_s_29 : xBigL[762]? = some (Cond.exactly (xTmS 29) "java/lang/String") ∧ xBigL[763]? = some (Cond.eq (.field (xTmS 29) "java/lang/String" "coder" "B") (.int 0)) ∧ xBigL[764]? = some (Cond.arrayOf (xTmV 29) .byte) ∧ xBigL[765]? = some (Cond.eq (.length (xTmV 29)) (.int (Int32.ofNat (xSB 29).length))) ∧ ∀ j, j < (xSB 29).length → xBigL[766 + j]? = some (Cond.eq (.elem (xTmV 29) (.int (Int32.ofNat j))) (.int ((xSB 29).getD j 0))) := by decide +kernel
theorem xF_s_30 : xBigL[768]? = some (Cond.exactly (xTmS 30) "java/lang/String") ∧ xBigL[769]? = some (Cond.eq (.field (xTmS 30) "java/lang/String" "coder" "B") (.int 0)) ∧ xBigL[770]? = some (Cond.arrayOf (xTmV 30) .byte) ∧ xBigL[771]? = some (Cond.eq (.length (xTmV 30)) (.int (Int32.ofNat (xSB 30).length))) ∧ ∀ j, j < (xSB 30).length → xBigL[772 + j]? = some (Cond.eq (.elem (xTmV 30) (.int (Int32.ofNat j))) (.int ((xSB 30).getD j 0))) := by decide +kernel
theorem xF_s_31 : xBigL[776]? = some (Cond.exactly (xTmS 31) "java/lang/String") ∧ xBigL[777]? = some (Cond.eq (.field (xTmS 31) "java/lang/String" "coder" "B") (.int 0)) ∧ xBigL[778]? = some (Cond.arrayOf (xTmV 31) .byte) ∧ xBigL[779]? = some (Cond.eq (.length (xTmV 31)) (.int (Int32.ofNat (xSB 31).length))) ∧ ∀ j, j < (xSB 31).length → xBigL[780 + j]? = some (Cond.eq (.elem (xTmV 31) (.int (Int32.ofNat j))) (.int ((xSB 31).getD j 0))) := by decide +kernel
theorem xF_s_32 : xBigL[786]? = some (Cond.exactly (xTmS 32) "java/lang/String") ∧ xBigL[787]? = some (Cond.eq (.field (xTmS 32) "java/lang/String" "coder" "B") (.int 0)) ∧ xBigL[788]? = some (Cond.arrayOf (xTmV 32) .byte) ∧ xBigL[789]? = some (Cond.eq (.length (xTmV 32)) (.int (Int32.ofNat (xSB 32).length))) ∧ ∀ j, j < (xSB 32).length → xBigL[790 + j]? = some (Cond.eq (.elem (xTmV 32) (.int (Int32.ofNat j))) (.int ((xSB 32).getD j 0))) := by decide +kernel
theorem xF_s_33 : xBigL[798]? = some (Cond.exactly (xTmS 33) "java/lang/String") ∧ xBigL[799]? = some (Cond.eq (.field (xTmS 33) "java/lang/String" "coder" "B") (.int 0)) ∧ xBigL[800]? = some (Cond.arrayOf (xTmV 33) .byte) ∧ xBigL[801]? = some (Cond.eq (.length (xTmV 33)) (.int (Int32.ofNat (xSB 33).length))) ∧ ∀ j, j < (xSB 33).length → xBigL[802 + j]? = some (Cond.eq (.elem (xTmV 33) (.int (Int32.ofNat j))) (.int ((xSB 33).getD j 0))) := by decide +kernel
theorem xF_s_34 : xBigL[806]? = some (Cond.exactly (xTmS 34) "java/lang/String") ∧ xBigL[807]? = some (Cond.eq (.field (xTmS 34) "java/lang/String" "coder" "B") (.int 0)) ∧ xBigL[808]? = some (Cond.arrayOf (xTmV 34) .byte) ∧ xBigL[809]? = some (Cond.eq (.length (xTmV 34)) (.int (Int32.ofNat (xSB 34).length))) ∧ ∀ j, j < (xSB 34).length → xBigL[810 + j]? = some (Cond.eq (.elem (xTmV 34) (.int (Int32.ofNat j))) (.int ((xSB 34).getD j 0))) := by decide +kernel
theorem xF_s_35 : xBigL[816]? = some (Cond.exactly (xTmS 35) "java/lang/String") ∧ xBigL[817]? = some (Cond.eq (.field (xTmS 35) "java/lang/String" "coder" "B") (.int 0)) ∧ xBigL[818]? = some (Cond.arrayOf (xTmV 35) .byte) ∧ xBigL[819]? = some (Cond.eq (.length (xTmV 35)) (.int (Int32.ofNat (xSB 35).length))) ∧ ∀ j, j < (xSB 35).length → xBigL[820 + j]? = some (Cond.eq (.elem (xTmV 35) (.int (Int32.ofNat j))) (.int ((xSB 35).getD j 0))) := by decide +kernel
theorem xF_s_36 : xBigL[821]? = some (Cond.exactly (xTmS 36) "java/lang/String") ∧ xBigL[822]? = some (Cond.eq (.field (xTmS 36) "java/lang/String" "coder" "B") (.int 0)) ∧ xBigL[823]? = some (Cond.arrayOf (xTmV 36) .byte) ∧ xBigL[824]? = some (Cond.eq (.length (xTmV 36)) (.int (Int32.ofNat (xSB 36).length))) ∧ ∀ j, j < (xSB 36).length → xBigL[825 + j]? = some (Cond.eq (.elem (xTmV 36) (.int (Int32.ofNat j))) (.int ((xSB 36).getD j 0))) := by decide +kernel
theorem xF_s_37 : xBigL[832]? = some (Cond.exactly (xTmS 37) "java/lang/String") ∧ xBigL[833]? = some (Cond.eq (.field (xTmS 37) "java/lang/String" "coder" "B") (.int 0)) ∧ xBigL[834]? = some (Cond.arrayOf (xTmV 37) .byte) ∧ xBigL[835]? = some (Cond.eq (.length (xTmV 37)) (.int (Int32.ofNat (xSB 37).length))) ∧ ∀ j, j < (xSB 37).length → xBigL[836 + j]? = some (Cond.eq (.elem (xTmV 37) (.int (Int32.ofNat j))) (.int ((xSB 37).getD j 0))) := by decide +kernel
theorem xF_s_38 : xBigL[851]? = some (Cond.exactly (xTmS 38) "java/lang/String") ∧ xBigL[852]? = some (Cond.eq (.field (xTmS 38) "java/lang/String" "coder" "B") (.int 0)) ∧ xBigL[853]? = some (Cond.arrayOf (xTmV 38) .byte) ∧ xBigL[854]? = some (Cond.eq (.length (xTmV 38)) (.int (Int32.ofNat (xSB 38).length))) ∧ ∀ j, j < (xSB 38).length → xBigL[855 + j]? = some (Cond.eq (.elem (xTmV 38) (.int (Int32.ofNat j))) (.int ((xSB 38).getD j 0))) := by decide +kernel
theorem xF_s_39 : xBigL[868]? = some (Cond.exactly (xTmS 39) "java/lang/String") ∧ xBigL[869]? = some (Cond.eq (.field (xTmS 39) "java/lang/String" "coder" "B") (.int 0)) ∧ xBigL[870]? = some (Cond.arrayOf (xTmV 39) .byte) ∧ xBigL[871]? = some (Cond.eq (.length (xTmV 39)) (.int (Int32.ofNat (xSB 39).length))) ∧ ∀ j, j < (xSB 39).length → xBigL[872 + j]? = some (Cond.eq (.elem (xTmV 39) (.int (Int32.ofNat j))) (.int ((xSB 39).getD j 0))) := by decide +kernel
theorem xF_s_40 : xBigL[898]? = some (Cond.exactly (xTmS 40) "java/lang/String") ∧ xBigL[899]? = some (Cond.eq (.field (xTmS 40) "java/lang/String" "coder" "B") (.int 0)) ∧ xBigL[900]? = some (Cond.arrayOf (xTmV 40) .byte) ∧ xBigL[901]? = some (Cond.eq (.length (xTmV 40)) (.int (Int32.ofNat (xSB 40).length))) ∧ ∀ j, j < (xSB 40).length → xBigL[902 + j]? = some (Cond.eq (.elem (xTmV 40) (.int (Int32.ofNat j))) (.int ((xSB 40).getD j 0))) := by decide +kernel
theorem xF_s_41 : xBigL[909]? = some (Cond.exactly (xTmS 41) "java/lang/String") ∧ xBigL[910]? = some (Cond.eq (.field (xTmS 41) "java/lang/String" "coder" "B") (.int 0)) ∧ xBigL[911]? = some (Cond.arrayOf (xTmV 41) .byte) ∧ xBigL[912]? = some (Cond.eq (.length (xTmV 41)) (.int (Int32.ofNat (xSB 41).length))) ∧ ∀ j, j < (xSB 41).length → xBigL[913 + j]? = some (Cond.eq (.elem (xTmV 41) (.int (Int32.ofNat j))) (.int ((xSB 41).getD j 0))) := by decide +kernel
theorem xF_s_42 : xBigL[913]? = some (Cond.exactly (xTmS 42) "java/lang/String") ∧ xBigL[914]? = some (Cond.eq (.field (xTmS 42) "java/lang/String" "coder" "B") (.int 0)) ∧ xBigL[915]? = some (Cond.arrayOf (xTmV 42) .byte) ∧ xBigL[916]? = some (Cond.eq (.length (xTmV 42)) (.int (Int32.ofNat (xSB 42).length))) ∧ ∀ j, j < (xSB 42).length → xBigL[917 + j]? = some (Cond.eq (.elem (xTmV 42) (.int (Int32.ofNat j))) (.int ((xSB 42).getD j 0))) := by decide +kernel
theorem xF_s_43 : xBigL[923]? = some (Cond.exactly (xTmS 43) "java/lang/String") ∧ xBigL[924]? = some (Cond.eq (.field (xTmS 43) "java/lang/String" "coder" "B") (.int 0)) ∧ xBigL[925]? = some (Cond.arrayOf (xTmV 43) .byte) ∧ xBigL[926]? = some (Cond.eq (.length (xTmV 43)) (.int (Int32.ofNat (xSB 43).length))) ∧ ∀ j, j < (xSB 43).length → xBigL[927 + j]? = some (Cond.eq (.elem (xTmV 43) (.int (Int32.ofNat j))) (.int ((xSB 43).getD j 0))) := by decide +kernel
theorem xF_s_44 : xBigL[931]? = some (Cond.exactly (xTmS 44) "java/lang/String") ∧ xBigL[932]? = some (Cond.eq (.field (xTmS 44) "java/lang/String" "coder" "B") (.int 0)) ∧ xBigL[933]? = some (Cond.arrayOf (xTmV 44) .byte) ∧ xBigL[934]? = some (Cond.eq (.length (xTmV 44)) (.int (Int32.ofNat (xSB 44).length))) ∧ ∀ j, j < (xSB 44).length → xBigL[935 + j]? = some (Cond.eq (.elem (xTmV 44) (.int (Int32.ofNat j))) (.int ((xSB 44).getD j 0))) := by decide +kernel
theorem xF_s_45 : xBigL[939]? = some (Cond.exactly (xTmS 45) "java/lang/String") ∧ xBigL[940]? = some (Cond.eq (.field (xTmS 45) "java/lang/String" "coder" "B") (.int 0)) ∧ xBigL[941]? = some (Cond.arrayOf (xTmV 45) .byte) ∧ xBigL[942]? = some (Cond.eq (.length (xTmV 45)) (.int (Int32.ofNat (xSB 45).length))) ∧ ∀ j, j < (xSB 45).length → xBigL[943 + j]? = some (Cond.eq (.elem (xTmV 45) (.int (Int32.ofNat j))) (.int ((xSB 45).getD j 0))) := by decide +kernel
theorem xF_s_46 : xBigL[946]? = some (Cond.exactly (xTmS 46) "java/lang/String") ∧ xBigL[947]? = some (Cond.eq (.field (xTmS 46) "java/lang/String" "coder" "B") (.int 0)) ∧ xBigL[948]? = some (Cond.arrayOf (xTmV 46) .byte) ∧ xBigL[949]? = some (Cond.eq (.length (xTmV 46)) (.int (Int32.ofNat (xSB 46).length))) ∧ ∀ j, j < (xSB 46).length → xBigL[950 + j]? = some (Cond.eq (.elem (xTmV 46) (.int (Int32.ofNat j))) (.int ((xSB 46).getD j 0))) := by decide +kernel
theorem xF_s_47 : xBigL[952]? = some (Cond.exactly (xTmS 47) "java/lang/String") ∧ xBigL[953]? = some (Cond.eq (.field (xTmS 47) "java/lang/String" "coder" "B") (.int 0)) ∧ xBigL[954]? = some (Cond.arrayOf (xTmV 47) .byte) ∧ xBigL[955]? = some (Cond.eq (.length (xTmV 47)) (.int (Int32.ofNat (xSB 47).length))) ∧ ∀ j, j < (xSB 47).length → xBigL[956 + j]? = some (Cond.eq (.elem (xTmV 47) (.int (Int32.ofNat j))) (.int ((xSB 47).getD j 0))) := by decide +kernel
theorem xF_s_48 : xBigL[962]? = some (Cond.exactly (xTmS 48) "java/lang/String") ∧ xBigL[963]? = some (Cond.eq (.field (xTmS 48) "java/lang/String" "coder" "B") (.int 0)) ∧ xBigL[964]? = some (Cond.arrayOf (xTmV 48) .byte) ∧ xBigL[965]? = some (Cond.eq (.length (xTmV 48)) (.int (Int32.ofNat (xSB 48).length))) ∧ ∀ j, j < (xSB 48).length → xBigL[966 + j]? = some (Cond.eq (.elem (xTmV 48) (.int (Int32.ofNat j))) (.int ((xSB 48).getD j 0))) := by decide +kernel
theorem xF_s_49 : xBigL[971]? = some (Cond.exactly (xTmS 49) "java/lang/String") ∧ xBigL[972]? = some (Cond.eq (.field (xTmS 49) "java/lang/String" "coder" "B") (.int 0)) ∧ xBigL[973]? = some (Cond.arrayOf (xTmV 49) .byte) ∧ xBigL[974]? = some (Cond.eq (.length (xTmV 49)) (.int (Int32.ofNat (xSB 49).length))) ∧ ∀ j, j < (xSB 49).length → xBigL[975 + j]? = some (Cond.eq (.elem (xTmV 49) (.int (Int32.ofNat j))) (.int ((xSB 49).getD j 0))) := by decide +kernel
theorem xF_s_50 : xBigL[980]? = some (Cond.exactly (xTmS 50) "java/lang/String") ∧ xBigL[981]? = some (Cond.eq (.field (xTmS 50) "java/lang/String" "coder" "B") (.int 0)) ∧ xBigL[982]? = some (Cond.arrayOf (xTmV 50) .byte) ∧ xBigL[983]? = some (Cond.eq (.length (xTmV 50)) (.int (Int32.ofNat (xSB 50).length))) ∧ ∀ j, j < (xSB 50).length → xBigL[984 + j]? = some (Cond.eq (.elem (xTmV 50) (.int (Int32.ofNat j))) (.int ((xSB 50).getD j 0))) := by decide +kernel
theorem xF_s_51 : xBigL[989]? = some (Cond.exactly (xTmS 51) "java/lang/String") ∧ xBigL[990]? = some (Cond.eq (.field (xTmS 51) "java/lang/String" "coder" "B") (.int 0)) ∧ xBigL[991]? = some (Cond.arrayOf (xTmV 51) .byte) ∧ xBigL[992]? = some (Cond.eq (.length (xTmV 51)) (.int (Int32.ofNat (xSB 51).length))) ∧ ∀ j, j < (xSB 51).length → xBigL[993 + j]? = some (Cond.eq (.elem (xTmV 51) (.int (Int32.ofNat j))) (.int ((xSB 51).getD j 0))) := by decide +kernel
theorem xF_s_52 : xBigL[997]? = some (Cond.exactly (xTmS 52) "java/lang/String") ∧ xBigL[998]? = some (Cond.eq (.field (xTmS 52) "java/lang/String" "coder" "B") (.int 0)) ∧ xBigL[999]? = some (Cond.arrayOf (xTmV 52) .byte) ∧ xBigL[1000]? = some (Cond.eq (.length (xTmV 52)) (.int (Int32.ofNat (xSB 52).length))) ∧ ∀ j, j < (xSB 52).length → xBigL[1001 + j]? = some (Cond.eq (.elem (xTmV 52) (.int (Int32.ofNat j))) (.int ((xSB 52).getD j 0))) := by decide +kernel
theorem xF_s_53 : xBigL[1008]? = some (Cond.exactly (xTmS 53) "java/lang/String") ∧ xBigL[1009]? = some (Cond.eq (.field (xTmS 53) "java/lang/String" "coder" "B") (.int 0)) ∧ xBigL[1010]? = some (Cond.arrayOf (xTmV 53) .byte) ∧ xBigL[1011]? = some (Cond.eq (.length (xTmV 53)) (.int (Int32.ofNat (xSB 53).length))) ∧ ∀ j, j < (xSB 53).length → xBigL[1012 + j]? = some (Cond.eq (.elem (xTmV 53) (.int (Int32.ofNat j))) (.int ((xSB 53).getD j 0))) := by decide +kernel
theorem xF_s_54 : xBigL[1016]? = some (Cond.exactly (xTmS 54) "java/lang/String") ∧ xBigL[1017]? = some (Cond.eq (.field (xTmS 54) "java/lang/String" "coder" "B") (.int 0)) ∧ xBigL[1018]? = some (Cond.arrayOf (xTmV 54) .byte) ∧ xBigL[1019]? = some (Cond.eq (.length (xTmV 54)) (.int (Int32.ofNat (xSB 54).length))) ∧ ∀ j, j < (xSB 54).length → xBigL[1020 + j]? = some (Cond.eq (.elem (xTmV 54) (.int (Int32.ofNat j))) (.int ((xSB 54).getD j 0))) := by decide +kernel
theorem xF_s_55 : xBigL[1026]? = some (Cond.exactly (xTmS 55) "java/lang/String") ∧ xBigL[1027]? = some (Cond.eq (.field (xTmS 55) "java/lang/String" "coder" "B") (.int 0)) ∧ xBigL[1028]? = some (Cond.arrayOf (xTmV 55) .byte) ∧ xBigL[1029]? = some (Cond.eq (.length (xTmV 55)) (.int (Int32.ofNat (xSB 55).length))) ∧ ∀ j, j < (xSB 55).length → xBigL[1030 + j]? = some (Cond.eq (.elem (xTmV 55) (.int (Int32.ofNat j))) (.int ((xSB 55).getD j 0))) := by decide +kernel
theorem xF_s_56 : xBigL[1034]? = some (Cond.exactly (xTmS 56) "java/lang/String") ∧ xBigL[1035]? = some (Cond.eq (.field (xTmS 56) "java/lang/String" "coder" "B") (.int 0)) ∧ xBigL[1036]? = some (Cond.arrayOf (xTmV 56) .byte) ∧ xBigL[1037]? = some (Cond.eq (.length (xTmV 56)) (.int (Int32.ofNat (xSB 56).length))) ∧ ∀ j, j < (xSB 56).length → xBigL[1038 + j]? = some (Cond.eq (.elem (xTmV 56) (.int (Int32.ofNat j))) (.int ((xSB 56).getD j 0))) := by decide +kernel
theorem xF_ex : ∀ i, i < 57 → Cond.exactly (xTmS i) "java/lang/String" ∈ flatC xBig
  | 0, _ => List.mem_of_getElem? xF_s_0.1
  | 1, _ => List.mem_of_getElem? xF_s_1.1
  | 2, _ => List.mem_of_getElem? xF_s_2.1
  | 3, _ => List.mem_of_getElem? xF_s_3.1
  | 4, _ => List.mem_of_getElem? xF_s_4.1
  | 5, _ => List.mem_of_getElem? xF_s_5.1
  | 6, _ => List.mem_of_getElem? xF_s_6.1
  | 7, _ => List.mem_of_getElem? xF_s_7.1
  | 8, _ => List.mem_of_getElem? xF_s_8.1
  | 9, _ => List.mem_of_getElem? xF_s_9.1
  | 10, _ => List.mem_of_getElem? xF_s_10.1
  | 11, _ => List.mem_of_getElem? xF_s_11.1
  | 12, _ => List.mem_of_getElem? xF_s_12.1
  | 13, _ => List.mem_of_getElem? xF_s_13.1
  | 14, _ => List.mem_of_getElem? xF_s_14.1
  | 15, _ => List.mem_of_getElem? xF_s_15.1
  | 16, _ => List.mem_of_getElem? xF_s_16.1
  | 17, _ => List.mem_of_getElem? xF_s_17.1
  | 18, _ => List.mem_of_getElem? xF_s_18.1
  | 19, _ => List.mem_of_getElem? xF_s_19.1
  | 20, _ => List.mem_of_getElem? xF_s_20.1
  | 21, _ => List.mem_of_getElem? xF_s_21.1
  | 22, _ => List.mem_of_getElem? xF_s_22.1
  | 23, _ => List.mem_of_getElem? xF_s_23.1
  | 24, _ => List.mem_of_getElem? xF_s_24.1
  | 25, _ => List.mem_of_getElem? xF_s_25.1
  | 26, _ => List.mem_of_getElem? xF_s_26.1
  | 27, _ => List.mem_of_getElem? xF_s_27.1
  | 28, _ => List.mem_of_getElem? xF_s_28.1
  | 29, _ => List.mem_of_getElem? xF_s_29.1
  | 30, _ => List.mem_of_getElem? xF_s_30.1
  | 31, _ => List.mem_of_getElem? xF_s_31.1
  | 32, _ => List.mem_of_getElem? xF_s_32.1
  | 33, _ => List.mem_of_getElem? xF_s_33.1
  | 34, _ => List.mem_of_getElem? xF_s_34.1
  | 35, _ => List.mem_of_getElem? xF_s_35.1
  | 36, _ => List.mem_of_getElem? xF_s_36.1
  | 37, _ => List.mem_of_getElem? xF_s_37.1
  | 38, _ => List.mem_of_getElem? xF_s_38.1
  | 39, _ => List.mem_of_getElem? xF_s_39.1
  | 40, _ => List.mem_of_getElem? xF_s_40.1
  | 41, _ => List.mem_of_getElem? xF_s_41.1
  | 42, _ => List.mem_of_getElem? xF_s_42.1
  | 43, _ => List.mem_of_getElem? xF_s_43.1
  | 44, _ => List.mem_of_getElem? xF_s_44.1
  | 45, _ => List.mem_of_getElem? xF_s_45.1
  | 46, _ => List.mem_of_getElem? xF_s_46.1
  | 47, _ => List.mem_of_getElem? xF_s_47.1
  | 48, _ => List.mem_of_getElem? xF_s_48.1
  | 49, _ => List.mem_of_getElem? xF_s_49.1
  | 50, _ => List.mem_of_getElem? xF_s_50.1
  | 51, _ => List.mem_of_getElem? xF_s_51.1
  | 52, _ => List.mem_of_getElem? xF_s_52.1
  | 53, _ => List.mem_of_getElem? xF_s_53.1
  | 54, _ => List.mem_of_getElem? xF_s_54.1
  | 55, _ => List.mem_of_getElem? xF_s_55.1
  | 56, _ => List.mem_of_getElem? xF_s_56.1
  | n + 57, h => absurd h (by omega)
theorem xF_co : ∀ i, i < 57 → Cond.eq (.field (xTmS i) "java/lang/String" "coder" "B") (.int 0) ∈ flatC xBig
  | 0, _ => List.mem_of_getElem? xF_s_0.2.1
  | 1, _ => List.mem_of_getElem? xF_s_1.2.1
  | 2, _ => List.mem_of_getElem? xF_s_2.2.1
  | 3, _ => List.mem_of_getElem? xF_s_3.2.1
  | 4, _ => List.mem_of_getElem? xF_s_4.2.1
  | 5, _ => List.mem_of_getElem? xF_s_5.2.1
  | 6, _ => List.mem_of_getElem? xF_s_6.2.1
  | 7, _ => List.mem_of_getElem? xF_s_7.2.1
  | 8, _ => List.mem_of_getElem? xF_s_8.2.1
  | 9, _ => List.mem_of_getElem? xF_s_9.2.1
  | 10, _ => List.mem_of_getElem? xF_s_10.2.1
  | 11, _ => List.mem_of_getElem? xF_s_11.2.1
  | 12, _ => List.mem_of_getElem? xF_s_12.2.1
  | 13, _ => List.mem_of_getElem? xF_s_13.2.1
  | 14, _ => List.mem_of_getElem? xF_s_14.2.1
  | 15, _ => List.mem_of_getElem? xF_s_15.2.1
  | 16, _ => List.mem_of_getElem? xF_s_16.2.1
  | 17, _ => List.mem_of_getElem? xF_s_17.2.1
  | 18, _ => List.mem_of_getElem? xF_s_18.2.1
  | 19, _ => List.mem_of_getElem? xF_s_19.2.1
  | 20, _ => List.mem_of_getElem? xF_s_20.2.1
  | 21, _ => List.mem_of_getElem? xF_s_21.2.1
  | 22, _ => List.mem_of_getElem? xF_s_22.2.1
  | 23, _ => List.mem_of_getElem? xF_s_23.2.1
  | 24, _ => List.mem_of_getElem? xF_s_24.2.1
  | 25, _ => List.mem_of_getElem? xF_s_25.2.1
  | 26, _ => List.mem_of_getElem? xF_s_26.2.1
  | 27, _ => List.mem_of_getElem? xF_s_27.2.1
  | 28, _ => List.mem_of_getElem? xF_s_28.2.1
  | 29, _ => List.mem_of_getElem? xF_s_29.2.1
  | 30, _ => List.mem_of_getElem? xF_s_30.2.1
  | 31, _ => List.mem_of_getElem? xF_s_31.2.1
  | 32, _ => List.mem_of_getElem? xF_s_32.2.1
  | 33, _ => List.mem_of_getElem? xF_s_33.2.1
  | 34, _ => List.mem_of_getElem? xF_s_34.2.1
  | 35, _ => List.mem_of_getElem? xF_s_35.2.1
  | 36, _ => List.mem_of_getElem? xF_s_36.2.1
  | 37, _ => List.mem_of_getElem? xF_s_37.2.1
  | 38, _ => List.mem_of_getElem? xF_s_38.2.1
  | 39, _ => List.mem_of_getElem? xF_s_39.2.1
  | 40, _ => List.mem_of_getElem? xF_s_40.2.1
  | 41, _ => List.mem_of_getElem? xF_s_41.2.1
  | 42, _ => List.mem_of_getElem? xF_s_42.2.1
  | 43, _ => List.mem_of_getElem? xF_s_43.2.1
  | 44, _ => List.mem_of_getElem? xF_s_44.2.1
  | 45, _ => List.mem_of_getElem? xF_s_45.2.1
  | 46, _ => List.mem_of_getElem? xF_s_46.2.1
  | 47, _ => List.mem_of_getElem? xF_s_47.2.1
  | 48, _ => List.mem_of_getElem? xF_s_48.2.1
  | 49, _ => List.mem_of_getElem? xF_s_49.2.1
  | 50, _ => List.mem_of_getElem? xF_s_50.2.1
  | 51, _ => List.mem_of_getElem? xF_s_51.2.1
  | 52, _ => List.mem_of_getElem? xF_s_52.2.1
  | 53, _ => List.mem_of_getElem? xF_s_53.2.1
  | 54, _ => List.mem_of_getElem? xF_s_54.2.1
  | 55, _ => List.mem_of_getElem? xF_s_55.2.1
  | 56, _ => List.mem_of_getElem? xF_s_56.2.1
  | n + 57, h => absurd h (by omega)
theorem xF_ar : ∀ i, i < 57 → Cond.arrayOf (xTmV i) .byte ∈ flatC xBig
  | 0, _ => List.mem_of_getElem? xF_s_0.2.2.1
  | 1, _ => List.mem_of_getElem? xF_s_1.2.2.1
  | 2, _ => List.mem_of_getElem? xF_s_2.2.2.1
  | 3, _ => List.mem_of_getElem? xF_s_3.2.2.1
  | 4, _ => List.mem_of_getElem? xF_s_4.2.2.1
  | 5, _ => List.mem_of_getElem? xF_s_5.2.2.1
  | 6, _ => List.mem_of_getElem? xF_s_6.2.2.1
  | 7, _ => List.mem_of_getElem? xF_s_7.2.2.1
  | 8, _ => List.mem_of_getElem? xF_s_8.2.2.1
  | 9, _ => List.mem_of_getElem? xF_s_9.2.2.1
  | 10, _ => List.mem_of_getElem? xF_s_10.2.2.1
  | 11, _ => List.mem_of_getElem? xF_s_11.2.2.1
  | 12, _ => List.mem_of_getElem? xF_s_12.2.2.1
  | 13, _ => List.mem_of_getElem? xF_s_13.2.2.1
  | 14, _ => List.mem_of_getElem? xF_s_14.2.2.1
  | 15, _ => List.mem_of_getElem? xF_s_15.2.2.1
  | 16, _ => List.mem_of_getElem? xF_s_16.2.2.1
  | 17, _ => List.mem_of_getElem? xF_s_17.2.2.1
  | 18, _ => List.mem_of_getElem? xF_s_18.2.2.1
  | 19, _ => List.mem_of_getElem? xF_s_19.2.2.1
  | 20, _ => List.mem_of_getElem? xF_s_20.2.2.1
  | 21, _ => List.mem_of_getElem? xF_s_21.2.2.1
  | 22, _ => List.mem_of_getElem? xF_s_22.2.2.1
  | 23, _ => List.mem_of_getElem? xF_s_23.2.2.1
  | 24, _ => List.mem_of_getElem? xF_s_24.2.2.1
  | 25, _ => List.mem_of_getElem? xF_s_25.2.2.1
  | 26, _ => List.mem_of_getElem? xF_s_26.2.2.1
  | 27, _ => List.mem_of_getElem? xF_s_27.2.2.1
  | 28, _ => List.mem_of_getElem? xF_s_28.2.2.1
  | 29, _ => List.mem_of_getElem? xF_s_29.2.2.1
  | 30, _ => List.mem_of_getElem? xF_s_30.2.2.1
  | 31, _ => List.mem_of_getElem? xF_s_31.2.2.1
  | 32, _ => List.mem_of_getElem? xF_s_32.2.2.1
  | 33, _ => List.mem_of_getElem? xF_s_33.2.2.1
  | 34, _ => List.mem_of_getElem? xF_s_34.2.2.1
  | 35, _ => List.mem_of_getElem? xF_s_35.2.2.1
  | 36, _ => List.mem_of_getElem? xF_s_36.2.2.1
  | 37, _ => List.mem_of_getElem? xF_s_37.2.2.1
  | 38, _ => List.mem_of_getElem? xF_s_38.2.2.1
  | 39, _ => List.mem_of_getElem? xF_s_39.2.2.1
  | 40, _ => List.mem_of_getElem? xF_s_40.2.2.1
  | 41, _ => List.mem_of_getElem? xF_s_41.2.2.1
  | 42, _ => List.mem_of_getElem? xF_s_42.2.2.1
  | 43, _ => List.mem_of_getElem? xF_s_43.2.2.1
  | 44, _ => List.mem_of_getElem? xF_s_44.2.2.1
  | 45, _ => List.mem_of_getElem? xF_s_45.2.2.1
  | 46, _ => List.mem_of_getElem? xF_s_46.2.2.1
  | 47, _ => List.mem_of_getElem? xF_s_47.2.2.1
  | 48, _ => List.mem_of_getElem? xF_s_48.2.2.1
  | 49, _ => List.mem_of_getElem? xF_s_49.2.2.1
  | 50, _ => List.mem_of_getElem? xF_s_50.2.2.1
  | 51, _ => List.mem_of_getElem? xF_s_51.2.2.1
  | 52, _ => List.mem_of_getElem? xF_s_52.2.2.1
  | 53, _ => List.mem_of_getElem? xF_s_53.2.2.1
  | 54, _ => List.mem_of_getElem? xF_s_54.2.2.1
  | 55, _ => List.mem_of_getElem? xF_s_55.2.2.1
  | 56, _ => List.mem_of_getElem? xF_s_56.2.2.1
  | n + 57, h => absurd h (by omega)
theorem xF_le : ∀ i, i < 57 → Cond.eq (.length (xTmV i)) (.int (Int32.ofNat (xSB i).length)) ∈ flatC xBig
  | 0, _ => List.mem_of_getElem? xF_s_0.2.2.2.1
  | 1, _ => List.mem_of_getElem? xF_s_1.2.2.2.1
  | 2, _ => List.mem_of_getElem? xF_s_2.2.2.2.1
  | 3, _ => List.mem_of_getElem? xF_s_3.2.2.2.1
  | 4, _ => List.mem_of_getElem? xF_s_4.2.2.2.1
  | 5, _ => List.mem_of_getElem? xF_s_5.2.2.2.1
  | 6, _ => List.mem_of_getElem? xF_s_6.2.2.2.1
  | 7, _ => List.mem_of_getElem? xF_s_7.2.2.2.1
  | 8, _ => List.mem_of_getElem? xF_s_8.2.2.2.1
  | 9, _ => List.mem_of_getElem? xF_s_9.2.2.2.1
  | 10, _ => List.mem_of_getElem? xF_s_10.2.2.2.1
  | 11, _ => List.mem_of_getElem? xF_s_11.2.2.2.1
  | 12, _ => List.mem_of_getElem? xF_s_12.2.2.2.1
  | 13, _ => List.mem_of_getElem? xF_s_13.2.2.2.1
  | 14, _ => List.mem_of_getElem? xF_s_14.2.2.2.1
  | 15, _ => List.mem_of_getElem? xF_s_15.2.2.2.1
  | 16, _ => List.mem_of_getElem? xF_s_16.2.2.2.1
  | 17, _ => List.mem_of_getElem? xF_s_17.2.2.2.1
  | 18, _ => List.mem_of_getElem? xF_s_18.2.2.2.1
  | 19, _ => List.mem_of_getElem? xF_s_19.2.2.2.1
  | 20, _ => List.mem_of_getElem? xF_s_20.2.2.2.1
  | 21, _ => List.mem_of_getElem? xF_s_21.2.2.2.1
  | 22, _ => List.mem_of_getElem? xF_s_22.2.2.2.1
  | 23, _ => List.mem_of_getElem? xF_s_23.2.2.2.1
  | 24, _ => List.mem_of_getElem? xF_s_24.2.2.2.1
  | 25, _ => List.mem_of_getElem? xF_s_25.2.2.2.1
  | 26, _ => List.mem_of_getElem? xF_s_26.2.2.2.1
  | 27, _ => List.mem_of_getElem? xF_s_27.2.2.2.1
  | 28, _ => List.mem_of_getElem? xF_s_28.2.2.2.1
  | 29, _ => List.mem_of_getElem? xF_s_29.2.2.2.1
  | 30, _ => List.mem_of_getElem? xF_s_30.2.2.2.1
  | 31, _ => List.mem_of_getElem? xF_s_31.2.2.2.1
  | 32, _ => List.mem_of_getElem? xF_s_32.2.2.2.1
  | 33, _ => List.mem_of_getElem? xF_s_33.2.2.2.1
  | 34, _ => List.mem_of_getElem? xF_s_34.2.2.2.1
  | 35, _ => List.mem_of_getElem? xF_s_35.2.2.2.1
  | 36, _ => List.mem_of_getElem? xF_s_36.2.2.2.1
  | 37, _ => List.mem_of_getElem? xF_s_37.2.2.2.1
  | 38, _ => List.mem_of_getElem? xF_s_38.2.2.2.1
  | 39, _ => List.mem_of_getElem? xF_s_39.2.2.2.1
  | 40, _ => List.mem_of_getElem? xF_s_40.2.2.2.1
  | 41, _ => List.mem_of_getElem? xF_s_41.2.2.2.1
  | 42, _ => List.mem_of_getElem? xF_s_42.2.2.2.1
  | 43, _ => List.mem_of_getElem? xF_s_43.2.2.2.1
  | 44, _ => List.mem_of_getElem? xF_s_44.2.2.2.1
  | 45, _ => List.mem_of_getElem? xF_s_45.2.2.2.1
  | 46, _ => List.mem_of_getElem? xF_s_46.2.2.2.1
  | 47, _ => List.mem_of_getElem? xF_s_47.2.2.2.1
  | 48, _ => List.mem_of_getElem? xF_s_48.2.2.2.1
  | 49, _ => List.mem_of_getElem? xF_s_49.2.2.2.1
  | 50, _ => List.mem_of_getElem? xF_s_50.2.2.2.1
  | 51, _ => List.mem_of_getElem? xF_s_51.2.2.2.1
  | 52, _ => List.mem_of_getElem? xF_s_52.2.2.2.1
  | 53, _ => List.mem_of_getElem? xF_s_53.2.2.2.1
  | 54, _ => List.mem_of_getElem? xF_s_54.2.2.2.1
  | 55, _ => List.mem_of_getElem? xF_s_55.2.2.2.1
  | 56, _ => List.mem_of_getElem? xF_s_56.2.2.2.1
  | n + 57, h => absurd h (by omega)
theorem xF_el : ∀ i, i < 57 → ∀ j, j < (xSB i).length → Cond.eq (.elem (xTmV i) (.int (Int32.ofNat j))) (.int ((xSB i).getD j 0)) ∈ flatC xBig
  | 0, _ => fun j hj => List.mem_of_getElem? (xF_s_0.2.2.2.2 j hj)
  | 1, _ => fun j hj => List.mem_of_getElem? (xF_s_1.2.2.2.2 j hj)
  | 2, _ => fun j hj => List.mem_of_getElem? (xF_s_2.2.2.2.2 j hj)
  | 3, _ => fun j hj => List.mem_of_getElem? (xF_s_3.2.2.2.2 j hj)
  | 4, _ => fun j hj => List.mem_of_getElem? (xF_s_4.2.2.2.2 j hj)
  | 5, _ => fun j hj => List.mem_of_getElem? (xF_s_5.2.2.2.2 j hj)
  | 6, _ => fun j hj => List.mem_of_getElem? (xF_s_6.2.2.2.2 j hj)
  | 7, _ => fun j hj => List.mem_of_getElem? (xF_s_7.2.2.2.2 j hj)
  | 8, _ => fun j hj => List.mem_of_getElem? (xF_s_8.2.2.2.2 j hj)
  | 9, _ => fun j hj => List.mem_of_getElem? (xF_s_9.2.2.2.2 j hj)
  | 10, _ => fun j hj => List.mem_of_getElem? (xF_s_10.2.2.2.2 j hj)
  | 11, _ => fun j hj => List.mem_of_getElem? (xF_s_11.2.2.2.2 j hj)
  | 12, _ => fun j hj => List.mem_of_getElem? (xF_s_12.2.2.2.2 j hj)
  | 13, _ => fun j hj => List.mem_of_getElem? (xF_s_13.2.2.2.2 j hj)
  | 14, _ => fun j hj => List.mem_of_getElem? (xF_s_14.2.2.2.2 j hj)
  | 15, _ => fun j hj => List.mem_of_getElem? (xF_s_15.2.2.2.2 j hj)
  | 16, _ => fun j hj => List.mem_of_getElem? (xF_s_16.2.2.2.2 j hj)
  | 17, _ => fun j hj => List.mem_of_getElem? (xF_s_17.2.2.2.2 j hj)
  | 18, _ => fun j hj => List.mem_of_getElem? (xF_s_18.2.2.2.2 j hj)
  | 19, _ => fun j hj => List.mem_of_getElem? (xF_s_19.2.2.2.2 j hj)
  | 20, _ => fun j hj => List.mem_of_getElem? (xF_s_20.2.2.2.2 j hj)
  | 21, _ => fun j hj => List.mem_of_getElem? (xF_s_21.2.2.2.2 j hj)
  | 22, _ => fun j hj => List.mem_of_getElem? (xF_s_22.2.2.2.2 j hj)
  | 23, _ => fun j hj => List.mem_of_getElem? (xF_s_23.2.2.2.2 j hj)
  | 24, _ => fun j hj => List.mem_of_getElem? (xF_s_24.2.2.2.2 j hj)
  | 25, _ => fun j hj => List.mem_of_getElem? (xF_s_25.2.2.2.2 j hj)
  | 26, _ => fun j hj => List.mem_of_getElem? (xF_s_26.2.2.2.2 j hj)
  | 27, _ => fun j hj => List.mem_of_getElem? (xF_s_27.2.2.2.2 j hj)
  | 28, _ => fun j hj => List.mem_of_getElem? (xF_s_28.2.2.2.2 j hj)
  | 29, _ => fun j hj => List.mem_of_getElem? (xF_s_29.2.2.2.2 j hj)
  | 30, _ => fun j hj => List.mem_of_getElem? (xF_s_30.2.2.2.2 j hj)
  | 31, _ => fun j hj => List.mem_of_getElem? (xF_s_31.2.2.2.2 j hj)
  | 32, _ => fun j hj => List.mem_of_getElem? (xF_s_32.2.2.2.2 j hj)
  | 33, _ => fun j hj => List.mem_of_getElem? (xF_s_33.2.2.2.2 j hj)
  | 34, _ => fun j hj => List.mem_of_getElem? (xF_s_34.2.2.2.2 j hj)
  | 35, _ => fun j hj => List.mem_of_getElem? (xF_s_35.2.2.2.2 j hj)
  | 36, _ => fun j hj => List.mem_of_getElem? (xF_s_36.2.2.2.2 j hj)
  | 37, _ => fun j hj => List.mem_of_getElem? (xF_s_37.2.2.2.2 j hj)
  | 38, _ => fun j hj => List.mem_of_getElem? (xF_s_38.2.2.2.2 j hj)
  | 39, _ => fun j hj => List.mem_of_getElem? (xF_s_39.2.2.2.2 j hj)
  | 40, _ => fun j hj => List.mem_of_getElem? (xF_s_40.2.2.2.2 j hj)
  | 41, _ => fun j hj => List.mem_of_getElem? (xF_s_41.2.2.2.2 j hj)
  | 42, _ => fun j hj => List.mem_of_getElem? (xF_s_42.2.2.2.2 j hj)
  | 43, _ => fun j hj => List.mem_of_getElem? (xF_s_43.2.2.2.2 j hj)
  | 44, _ => fun j hj => List.mem_of_getElem? (xF_s_44.2.2.2.2 j hj)
  | 45, _ => fun j hj => List.mem_of_getElem? (xF_s_45.2.2.2.2 j hj)
  | 46, _ => fun j hj => List.mem_of_getElem? (xF_s_46.2.2.2.2 j hj)
  | 47, _ => fun j hj => List.mem_of_getElem? (xF_s_47.2.2.2.2 j hj)
  | 48, _ => fun j hj => List.mem_of_getElem? (xF_s_48.2.2.2.2 j hj)
  | 49, _ => fun j hj => List.mem_of_getElem? (xF_s_49.2.2.2.2 j hj)
  | 50, _ => fun j hj => List.mem_of_getElem? (xF_s_50.2.2.2.2 j hj)
  | 51, _ => fun j hj => List.mem_of_getElem? (xF_s_51.2.2.2.2 j hj)
  | 52, _ => fun j hj => List.mem_of_getElem? (xF_s_52.2.2.2.2 j hj)
  | 53, _ => fun j hj => List.mem_of_getElem? (xF_s_53.2.2.2.2 j hj)
  | 54, _ => fun j hj => List.mem_of_getElem? (xF_s_54.2.2.2.2 j hj)
  | 55, _ => fun j hj => List.mem_of_getElem? (xF_s_55.2.2.2.2 j hj)
  | 56, _ => fun j hj => List.mem_of_getElem? (xF_s_56.2.2.2.2 j hj)
  | n + 57, h => absurd h (by omega)
theorem xF_sl : ∀ i, i < 57 → (xSB i).length < 100 := by decide +kernel
theorem xF_sr : ∀ i, i < 57 → ∃ tx, Cond.stringRef (xStl.getD i ("", 0)).1 (xStl.getD i ("", 0)).2 tx ∈ tables_1 := by
  intro i hi
  have h : ∀ r ∈ xStl, ∃ tx, Cond.stringRef r.1 r.2 tx ∈ tables_1 := by
    unfold xStl
    exact List.forall_mem_cons.mpr ⟨⟨"no such page", List.mem_of_getElem? (i := 978) (by decide +kernel)⟩, List.forall_mem_cons.mpr ⟨⟨"no such row", List.mem_of_getElem? (i := 1009) (by decide +kernel)⟩, List.forall_mem_cons.mpr ⟨⟨"negative size", List.mem_of_getElem? (i := 1055) (by decide +kernel)⟩, List.forall_mem_cons.mpr ⟨⟨"no such kind of flip", List.mem_of_getElem? (i := 1088) (by decide +kernel)⟩, List.forall_mem_cons.mpr ⟨⟨"size out of range", List.mem_of_getElem? (i := 1097) (by decide +kernel)⟩, List.forall_mem_cons.mpr ⟨⟨"no such text line", List.mem_of_getElem? (i := 1161) (by decide +kernel)⟩, List.forall_mem_cons.mpr ⟨⟨"gap out of range", List.mem_of_getElem? (i := 1180) (by decide +kernel)⟩, List.forall_mem_cons.mpr ⟨⟨"no edit can be undone", List.mem_of_getElem? (i := 1224) (by decide +kernel)⟩, List.forall_mem_cons.mpr ⟨⟨"no printable character", List.mem_of_getElem? (i := 1242) (by decide +kernel)⟩, List.forall_mem_cons.mpr ⟨⟨"the text is full", List.mem_of_getElem? (i := 1247) (by decide +kernel)⟩, List.forall_mem_cons.mpr ⟨⟨"no such setting", List.mem_of_getElem? (i := 1261) (by decide +kernel)⟩, List.forall_mem_cons.mpr ⟨⟨"negative index", List.mem_of_getElem? (i := 1270) (by decide +kernel)⟩, List.forall_mem_cons.mpr ⟨⟨"no rectangle of the page", List.mem_of_getElem? (i := 1316) (by decide +kernel)⟩, List.forall_mem_cons.mpr ⟨⟨"too many masks", List.mem_of_getElem? (i := 1317) (by decide +kernel)⟩, List.forall_mem_cons.mpr ⟨⟨"no such mask", List.mem_of_getElem? (i := 1325) (by decide +kernel)⟩, List.forall_mem_cons.mpr ⟨⟨"no comparison", List.mem_of_getElem? (i := 1342) (by decide +kernel)⟩, List.forall_mem_cons.mpr ⟨⟨"shift out of range", List.mem_of_getElem? (i := 1385) (by decide +kernel)⟩, List.forall_mem_cons.mpr ⟨⟨"no such block", List.mem_of_getElem? (i := 1394) (by decide +kernel)⟩, List.forall_mem_cons.mpr ⟨⟨"no pixel of the page", List.mem_of_getElem? (i := 1413) (by decide +kernel)⟩, List.forall_mem_cons.mpr ⟨⟨"no such region", List.mem_of_getElem? (i := 1433) (by decide +kernel)⟩, List.forall_mem_cons.mpr ⟨⟨"no such change", List.mem_of_getElem? (i := 1491) (by decide +kernel)⟩, List.forall_mem_cons.mpr ⟨⟨"shift ", List.mem_of_getElem? (i := 1549) (by decide +kernel)⟩, List.forall_mem_cons.mpr ⟨⟨",", List.mem_of_getElem? (i := 1551) (by decide +kernel)⟩, List.forall_mem_cons.mpr ⟨⟨" skew ", List.mem_of_getElem? (i := 1558) (by decide +kernel)⟩, List.forall_mem_cons.mpr ⟨⟨" turned", List.mem_of_getElem? (i := 1560) (by decide +kernel)⟩, List.forall_mem_cons.mpr ⟨⟨" change", List.mem_of_getElem? (i := 1562) (by decide +kernel)⟩, List.forall_mem_cons.mpr ⟨⟨" changes", List.mem_of_getElem? (i := 1563) (by decide +kernel)⟩, List.forall_mem_cons.mpr ⟨⟨"moved ", List.mem_of_getElem? (i := 1568) (by decide +kernel)⟩, List.forall_mem_cons.mpr ⟨⟨" from ", List.mem_of_getElem? (i := 1571) (by decide +kernel)⟩, List.forall_mem_cons.mpr ⟨⟨",", List.mem_of_getElem? (i := 1572) (by decide +kernel)⟩, List.forall_mem_cons.mpr ⟨⟨" to ", List.mem_of_getElem? (i := 1574) (by decide +kernel)⟩, List.forall_mem_cons.mpr ⟨⟨"added ", List.mem_of_getElem? (i := 1575) (by decide +kernel)⟩, List.forall_mem_cons.mpr ⟨⟨"removed ", List.mem_of_getElem? (i := 1576) (by decide +kernel)⟩, List.forall_mem_cons.mpr ⟨⟨" at ", List.mem_of_getElem? (i := 1577) (by decide +kernel)⟩, List.forall_mem_cons.mpr ⟨⟨" size ", List.mem_of_getElem? (i := 1578) (by decide +kernel)⟩, List.forall_mem_cons.mpr ⟨⟨"x", List.mem_of_getElem? (i := 1579) (by decide +kernel)⟩, List.forall_mem_cons.mpr ⟨⟨" stamp ", List.mem_of_getElem? (i := 1580) (by decide +kernel)⟩, List.forall_mem_cons.mpr ⟨⟨"too many stamps", List.mem_of_getElem? (i := 1594) (by decide +kernel)⟩, List.forall_mem_cons.mpr ⟨⟨"no such stamp", List.mem_of_getElem? (i := 1619) (by decide +kernel)⟩, List.forall_mem_cons.mpr ⟨⟨"negative number of regions", List.mem_of_getElem? (i := 1643) (by decide +kernel)⟩, List.forall_mem_cons.mpr ⟨⟨"speckle", List.mem_of_getElem? (i := 2412) (by decide +kernel)⟩, List.forall_mem_cons.mpr ⟨⟨"", List.mem_of_getElem? (i := 2413) (by decide +kernel)⟩, List.forall_mem_cons.mpr ⟨⟨"search", List.mem_of_getElem? (i := 2414) (by decide +kernel)⟩, List.forall_mem_cons.mpr ⟨⟨"skew", List.mem_of_getElem? (i := 2415) (by decide +kernel)⟩, List.forall_mem_cons.mpr ⟨⟨"turn", List.mem_of_getElem? (i := 2416) (by decide +kernel)⟩, List.forall_mem_cons.mpr ⟨⟨"off", List.mem_of_getElem? (i := 2417) (by decide +kernel)⟩, List.forall_mem_cons.mpr ⟨⟨"on", List.mem_of_getElem? (i := 2418) (by decide +kernel)⟩, List.forall_mem_cons.mpr ⟨⟨"jitter", List.mem_of_getElem? (i := 2419) (by decide +kernel)⟩, List.forall_mem_cons.mpr ⟨⟨"block", List.mem_of_getElem? (i := 2420) (by decide +kernel)⟩, List.forall_mem_cons.mpr ⟨⟨"noise", List.mem_of_getElem? (i := 2421) (by decide +kernel)⟩, List.forall_mem_cons.mpr ⟨⟨"order", List.mem_of_getElem? (i := 2422) (by decide +kernel)⟩, List.forall_mem_cons.mpr ⟨⟨"rows", List.mem_of_getElem? (i := 2423) (by decide +kernel)⟩, List.forall_mem_cons.mpr ⟨⟨"columns", List.mem_of_getElem? (i := 2424) (by decide +kernel)⟩, List.forall_mem_cons.mpr ⟨⟨"pair", List.mem_of_getElem? (i := 2425) (by decide +kernel)⟩, List.forall_mem_cons.mpr ⟨⟨"stamps", List.mem_of_getElem? (i := 2426) (by decide +kernel)⟩, List.forall_mem_cons.mpr ⟨⟨"keep", List.mem_of_getElem? (i := 2427) (by decide +kernel)⟩, List.forall_mem_cons.mpr ⟨⟨"hide", List.mem_of_getElem? (i := 2428) (by decide +kernel)⟩, fun _ h => absurd h List.not_mem_nil⟩⟩⟩⟩⟩⟩⟩⟩⟩⟩⟩⟩⟩⟩⟩⟩⟩⟩⟩⟩⟩⟩⟩⟩⟩⟩⟩⟩⟩⟩⟩⟩⟩⟩⟩⟩⟩⟩⟩⟩⟩⟩⟩⟩⟩⟩⟩⟩⟩⟩⟩⟩⟩⟩⟩⟩⟩
  have hl : i < xStl.length := hi
  rw [List.getD_eq_getElem?_getD, List.getElem?_eq_getElem hl]
  exact h _ (List.getElem_mem hl)
theorem xF_se : ∀ i, i < 10 → Cond.exactly (xTmE i) "ScanCompare$Setting" ∈ flatC xBig := by decide +kernel
theorem xF_sy : ∀ i, i < 10 → Cond.laysStatic "ScanCompare$Setting" (xSn.getD i "") "LScanCompare$Setting;" ∈ tables_1 := by decide +kernel
/-- the settings' fields: name, descriptor -/
def xSf : List (String × String) := [("number", "I"), ("label", "Ljava/lang/String;"), ("least", "I"), ("greatest", "I"), ("initial", "I"), ("zeroWord", "Ljava/lang/String;"), ("oneWord", "Ljava/lang/String;")]
def xTmF (i j : Nat) : Term := .field (xTmE i) "ScanCompare$Setting" (xSf.getD j ("", "")).1 (xSf.getD j ("", "")).2
/-- what a setting's field is said to be -/
def xSw (j i : Nat) : Cond := match xSv j i with | some (.int v) => .eq (xTmF i j) (.int v) | some (.retAddr a) => .eq (xTmF i j) (xTmS (a - 20)) | _ => .count 0
theorem xF_sf : ∀ j, j < 7 → ∀ i, i < 10 → xSw j i ∈ flatC xBig := by decide +kernel
theorem xF_aa : Cond.arrayOf xTmA (.object "ScanCompare$Setting") ∈ flatC xBig ∧ Cond.eq (.length xTmA) (.int 10) ∈ flatC xBig ∧ ∀ i, i < 10 → Cond.eq (.elem xTmA (.int (Int32.ofNat i))) (xTmE i) ∈ flatC xBig := by decide +kernel
theorem xF_st : Cond.eq (.static "java/lang/String" "COMPACT_STRINGS" "Z") (.int 1) ∈ flatC xBig ∧ Cond.isRef (.static "jdk/internal/util/Preconditions" "SIOOBE_FORMATTER" "Ljava/util/function/BiFunction;") ∈ flatC xBig ∧ Cond.isRef (.static Bundle.tN "UNASSIGNED_STACK" Bundle.steD) ∈ flatC xBig ∧ Cond.isRef (.static Bundle.tN "SUPPRESSED_SENTINEL" Bundle.listD) ∈ flatC xBig := by decide +kernel
theorem xF_ly : Cond.laysStatic "ScanCompare" "SETTINGS" "[LScanCompare$Setting;" ∈ tables_1 ∧ Cond.laysStatic "java/lang/String" "COMPACT_STRINGS" "Z" ∈ tables_1 ∧ Cond.laysStatic "jdk/internal/util/Preconditions" "SIOOBE_FORMATTER" "Ljava/util/function/BiFunction;" ∈ tables_1 ∧ Cond.laysStatic Bundle.tN "UNASSIGNED_STACK" Bundle.steD ∈ tables_1 ∧ Cond.laysStatic Bundle.tN "SUPPRESSED_SENTINEL" Bundle.listD ∈ tables_1 ∧ Cond.initialized "ScanCompare" ∈ tables_1 ∧ Cond.initialized "java/lang/String" ∈ tables_1 ∧ Cond.initialized "jdk/internal/util/Preconditions" ∈ tables_1 ∧ Cond.initialized Bundle.tN ∈ tables_1 ∧ Cond.initialized "ScanCompare$Setting" ∈ tables_1 := by decide +kernel
theorem xF_nc : ∀ E ∈ xE3, ∀ nm ∈ xE3, E ≠ nm → Cond.not (.castable E nm) ∈ flatC xBig := by decide +kernel
def xCok1 (k : Nat) (r : Nat × Nat) : Prop := r.2 < 7 ∧ Cond.fieldLink (xNm k) r.1 "ScanCompare$Setting" (xSf.getD r.2 ("", "")).1 (xSf.getD r.2 ("", "")).2 ∈ xWs
def xCok2 (k : Nat) (r : Nat × Nat) : Prop := (r.2 = 0 ∧ Cond.fieldLink (xNm k) r.1 "java/lang/String" "value" "[B" ∈ xWs) ∨ (r.2 = 1 ∧ Cond.fieldLink (xNm k) r.1 "java/lang/String" "coder" "B" ∈ xWs)
def xCok3 (k : Nat) (r : Nat × Value) : Prop := (∃ i, i < 10 ∧ r.2 = .retAddr i ∧ Cond.fieldLink (xNm k) r.1 "ScanCompare$Setting" (xSn.getD i "") "LScanCompare$Setting;" ∈ xWs) ∨ (r.2 = .retAddr 10 ∧ (Cond.fieldLink (xNm k) r.1 "ScanCompare" "SETTINGS" "[LScanCompare$Setting;" ∈ xWs ∨ Cond.fieldLinkNest (xNm k) r.1 "ScanCompare" "SETTINGS" "[LScanCompare$Setting;" "ScanCompare" ∈ xNw)) ∨ (r.2 = .int 1 ∧ Cond.fieldLink (xNm k) r.1 "java/lang/String" "COMPACT_STRINGS" "Z" ∈ xWs) ∨ (r.2 = .retAddr 998 ∧ Cond.fieldLink (xNm k) r.1 "jdk/internal/util/Preconditions" "SIOOBE_FORMATTER" "Ljava/util/function/BiFunction;" ∈ xWs)
theorem xCfS_ok_2 : ∀ r ∈ xCfS 2, xCok1 2 r := by
  unfold xCfS
  exact List.forall_mem_cons.mpr ⟨⟨by decide, xw 2401 (by decide +kernel) rfl⟩, List.forall_mem_cons.mpr ⟨⟨by decide, xw 2402 (by decide +kernel) rfl⟩, List.forall_mem_cons.mpr ⟨⟨by decide, xw 2409 (by decide +kernel) rfl⟩, List.forall_mem_cons.mpr ⟨⟨by decide, xw 2410 (by decide +kernel) rfl⟩, List.forall_mem_cons.mpr ⟨⟨by decide, xw 2411 (by decide +kernel) rfl⟩, fun _ h => absurd h List.not_mem_nil⟩⟩⟩⟩⟩
theorem xCfS_ok_13 : ∀ r ∈ xCfS 13, xCok1 13 r := by
  unfold xCfS
  exact List.forall_mem_cons.mpr ⟨⟨by decide, xw 2405 (by decide +kernel) rfl⟩, List.forall_mem_cons.mpr ⟨⟨by decide, xw 2406 (by decide +kernel) rfl⟩, List.forall_mem_cons.mpr ⟨⟨by decide, xw 2407 (by decide +kernel) rfl⟩, List.forall_mem_cons.mpr ⟨⟨by decide, xw 2408 (by decide +kernel) rfl⟩, fun _ h => absurd h List.not_mem_nil⟩⟩⟩⟩
theorem xCfS_ok : (k : Nat) → ∀ r, r ∈ xCfS k → xCok1 k r
  | 0 => fun r h => (List.not_mem_nil (show r ∈ [] from h)).elim
  | 1 => fun r h => (List.not_mem_nil (show r ∈ [] from h)).elim
  | 2 => xCfS_ok_2
  | 3 => fun r h => (List.not_mem_nil (show r ∈ [] from h)).elim
  | 4 => fun r h => (List.not_mem_nil (show r ∈ [] from h)).elim
  | 5 => fun r h => (List.not_mem_nil (show r ∈ [] from h)).elim
  | 6 => fun r h => (List.not_mem_nil (show r ∈ [] from h)).elim
  | 7 => fun r h => (List.not_mem_nil (show r ∈ [] from h)).elim
  | 8 => fun r h => (List.not_mem_nil (show r ∈ [] from h)).elim
  | 9 => fun r h => (List.not_mem_nil (show r ∈ [] from h)).elim
  | 10 => fun r h => (List.not_mem_nil (show r ∈ [] from h)).elim
  | 11 => fun r h => (List.not_mem_nil (show r ∈ [] from h)).elim
  | 12 => fun r h => (List.not_mem_nil (show r ∈ [] from h)).elim
  | 13 => xCfS_ok_13
  | 14 => fun r h => (List.not_mem_nil (show r ∈ [] from h)).elim
  | 15 => fun r h => (List.not_mem_nil (show r ∈ [] from h)).elim
  | 16 => fun r h => (List.not_mem_nil (show r ∈ [] from h)).elim
  | 17 => fun r h => (List.not_mem_nil (show r ∈ [] from h)).elim
  | 18 => fun r h => (List.not_mem_nil (show r ∈ [] from h)).elim
  | 19 => fun r h => (List.not_mem_nil (show r ∈ [] from h)).elim
  | n + 20 => fun r h => (List.not_mem_nil (show r ∈ [] from h)).elim
theorem xCfR_ok_17 : ∀ r ∈ xCfR 17, xCok2 17 r := by
  unfold xCfR
  exact List.forall_mem_cons.mpr ⟨.inl ⟨rfl, xw 2403 (by decide +kernel) rfl⟩, List.forall_mem_cons.mpr ⟨.inr ⟨rfl, xw 2404 (by decide +kernel) rfl⟩, fun _ h => absurd h List.not_mem_nil⟩⟩
theorem xCfR_ok : (k : Nat) → ∀ r, r ∈ xCfR k → xCok2 k r
  | 0 => fun r h => (List.not_mem_nil (show r ∈ [] from h)).elim
  | 1 => fun r h => (List.not_mem_nil (show r ∈ [] from h)).elim
  | 2 => fun r h => (List.not_mem_nil (show r ∈ [] from h)).elim
  | 3 => fun r h => (List.not_mem_nil (show r ∈ [] from h)).elim
  | 4 => fun r h => (List.not_mem_nil (show r ∈ [] from h)).elim
  | 5 => fun r h => (List.not_mem_nil (show r ∈ [] from h)).elim
  | 6 => fun r h => (List.not_mem_nil (show r ∈ [] from h)).elim
  | 7 => fun r h => (List.not_mem_nil (show r ∈ [] from h)).elim
  | 8 => fun r h => (List.not_mem_nil (show r ∈ [] from h)).elim
  | 9 => fun r h => (List.not_mem_nil (show r ∈ [] from h)).elim
  | 10 => fun r h => (List.not_mem_nil (show r ∈ [] from h)).elim
  | 11 => fun r h => (List.not_mem_nil (show r ∈ [] from h)).elim
  | 12 => fun r h => (List.not_mem_nil (show r ∈ [] from h)).elim
  | 13 => fun r h => (List.not_mem_nil (show r ∈ [] from h)).elim
  | 14 => fun r h => (List.not_mem_nil (show r ∈ [] from h)).elim
  | 15 => fun r h => (List.not_mem_nil (show r ∈ [] from h)).elim
  | 16 => fun r h => (List.not_mem_nil (show r ∈ [] from h)).elim
  | 17 => xCfR_ok_17
  | 18 => fun r h => (List.not_mem_nil (show r ∈ [] from h)).elim
  | 19 => fun r h => (List.not_mem_nil (show r ∈ [] from h)).elim
  | n + 20 => fun r h => (List.not_mem_nil (show r ∈ [] from h)).elim
theorem xStas_ok_1 : ∀ r ∈ xStas 1, xCok3 1 r := by
  unfold xStas
  exact List.forall_mem_cons.mpr ⟨.inl ⟨3, by decide, rfl, xw 582 (by decide +kernel) rfl⟩, List.forall_mem_cons.mpr ⟨.inl ⟨4, by decide, rfl, xw 645 (by decide +kernel) rfl⟩, List.forall_mem_cons.mpr ⟨.inl ⟨5, by decide, rfl, xw 647 (by decide +kernel) rfl⟩, List.forall_mem_cons.mpr ⟨.inl ⟨6, by decide, rfl, xw 649 (by decide +kernel) rfl⟩, List.forall_mem_cons.mpr ⟨.inl ⟨2, by decide, rfl, xw 729 (by decide +kernel) rfl⟩, List.forall_mem_cons.mpr ⟨.inl ⟨0, by decide, rfl, xw 743 (by decide +kernel) rfl⟩, List.forall_mem_cons.mpr ⟨.inl ⟨1, by decide, rfl, xw 756 (by decide +kernel) rfl⟩, List.forall_mem_cons.mpr ⟨.inl ⟨7, by decide, rfl, xw 862 (by decide +kernel) rfl⟩, List.forall_mem_cons.mpr ⟨.inl ⟨8, by decide, rfl, xw 885 (by decide +kernel) rfl⟩, List.forall_mem_cons.mpr ⟨.inl ⟨9, by decide, rfl, xw 899 (by decide +kernel) rfl⟩, fun _ h => absurd h List.not_mem_nil⟩⟩⟩⟩⟩⟩⟩⟩⟩⟩
theorem xStas_ok_2 : ∀ r ∈ xStas 2, xCok3 2 r := by
  unfold xStas
  exact List.forall_mem_cons.mpr ⟨.inr (.inl ⟨rfl, .inr (by decide +kernel)⟩), fun _ h => absurd h List.not_mem_nil⟩
theorem xStas_ok_11 : ∀ r ∈ xStas 11, xCok3 11 r := by
  unfold xStas
  exact List.forall_mem_cons.mpr ⟨.inr (.inl ⟨rfl, .inl (xw 1260 (by decide +kernel) rfl)⟩), fun _ h => absurd h List.not_mem_nil⟩
theorem xStas_ok_17 : ∀ r ∈ xStas 17, xCok3 17 r := by
  unfold xStas
  exact List.forall_mem_cons.mpr ⟨.inr (.inr (.inl ⟨rfl, xw 478 (by decide +kernel) rfl⟩)), List.forall_mem_cons.mpr ⟨.inr (.inr (.inr ⟨rfl, xw 494 (by decide +kernel) rfl⟩)), fun _ h => absurd h List.not_mem_nil⟩⟩
theorem xStas_ok : (k : Nat) → ∀ r, r ∈ xStas k → xCok3 k r
  | 0 => fun r h => (List.not_mem_nil (show r ∈ [] from h)).elim
  | 1 => xStas_ok_1
  | 2 => xStas_ok_2
  | 3 => fun r h => (List.not_mem_nil (show r ∈ [] from h)).elim
  | 4 => fun r h => (List.not_mem_nil (show r ∈ [] from h)).elim
  | 5 => fun r h => (List.not_mem_nil (show r ∈ [] from h)).elim
  | 6 => fun r h => (List.not_mem_nil (show r ∈ [] from h)).elim
  | 7 => fun r h => (List.not_mem_nil (show r ∈ [] from h)).elim
  | 8 => fun r h => (List.not_mem_nil (show r ∈ [] from h)).elim
  | 9 => fun r h => (List.not_mem_nil (show r ∈ [] from h)).elim
  | 10 => fun r h => (List.not_mem_nil (show r ∈ [] from h)).elim
  | 11 => xStas_ok_11
  | 12 => fun r h => (List.not_mem_nil (show r ∈ [] from h)).elim
  | 13 => fun r h => (List.not_mem_nil (show r ∈ [] from h)).elim
  | 14 => fun r h => (List.not_mem_nil (show r ∈ [] from h)).elim
  | 15 => fun r h => (List.not_mem_nil (show r ∈ [] from h)).elim
  | 16 => fun r h => (List.not_mem_nil (show r ∈ [] from h)).elim
  | 17 => xStas_ok_17
  | 18 => fun r h => (List.not_mem_nil (show r ∈ [] from h)).elim
  | 19 => fun r h => (List.not_mem_nil (show r ∈ [] from h)).elim
  | n + 20 => fun r h => (List.not_mem_nil (show r ∈ [] from h)).elim
def xCok4 (k : Nat) (r : Nat × Value) : Prop := ∀ a, r.2 = .retAddr a → 20 ≤ a ∧ a < 77 ∧ xStl.getD (a - 20) ("", 0) = (xNm k, r.1)
theorem xLdcs_k_1 : ∀ r ∈ xLdcs 1, xCok4 1 r := by
  unfold xLdcs
  exact List.forall_mem_cons.mpr ⟨(fun a h => by cases h; exact ⟨by decide, by decide, by decide +kernel⟩), List.forall_mem_cons.mpr ⟨(fun a h => by cases h; exact ⟨by decide, by decide, by decide +kernel⟩), List.forall_mem_cons.mpr ⟨(fun a h => by cases h; exact ⟨by decide, by decide, by decide +kernel⟩), List.forall_mem_cons.mpr ⟨(fun a h => by cases h; exact ⟨by decide, by decide, by decide +kernel⟩), List.forall_mem_cons.mpr ⟨(fun a h => by cases h; exact ⟨by decide, by decide, by decide +kernel⟩), List.forall_mem_cons.mpr ⟨(fun a h => by cases h; exact ⟨by decide, by decide, by decide +kernel⟩), fun _ h => absurd h List.not_mem_nil⟩⟩⟩⟩⟩⟩
theorem xLdcs_k_5 : ∀ r ∈ xLdcs 5, xCok4 5 r := by
  unfold xLdcs
  exact List.forall_mem_cons.mpr ⟨(fun a h => by cases h; exact ⟨by decide, by decide, by decide +kernel⟩), List.forall_mem_cons.mpr ⟨(fun a h => by cases h; exact ⟨by decide, by decide, by decide +kernel⟩), List.forall_mem_cons.mpr ⟨(fun a h => by cases h; exact ⟨by decide, by decide, by decide +kernel⟩), List.forall_mem_cons.mpr ⟨(fun a h => by cases h; exact ⟨by decide, by decide, by decide +kernel⟩), List.forall_mem_cons.mpr ⟨(fun a h => by cases h; exact ⟨by decide, by decide, by decide +kernel⟩), List.forall_mem_cons.mpr ⟨(fun a h => by cases h; exact ⟨by decide, by decide, by decide +kernel⟩), List.forall_mem_cons.mpr ⟨(fun a h => by cases h; exact ⟨by decide, by decide, by decide +kernel⟩), List.forall_mem_cons.mpr ⟨(fun a h => by cases h; exact ⟨by decide, by decide, by decide +kernel⟩), List.forall_mem_cons.mpr ⟨(fun a h => by cases h; exact ⟨by decide, by decide, by decide +kernel⟩), List.forall_mem_cons.mpr ⟨(fun a h => by cases h; exact ⟨by decide, by decide, by decide +kernel⟩), fun _ h => absurd h List.not_mem_nil⟩⟩⟩⟩⟩⟩⟩⟩⟩⟩
theorem xLdcs_k_6 : ∀ r ∈ xLdcs 6, xCok4 6 r := by
  unfold xLdcs
  exact List.forall_mem_cons.mpr ⟨(fun a h => nomatch h), fun _ h => absurd h List.not_mem_nil⟩
theorem xLdcs_k_8 : ∀ r ∈ xLdcs 8, xCok4 8 r := by
  unfold xLdcs
  exact List.forall_mem_cons.mpr ⟨(fun a h => nomatch h), fun _ h => absurd h List.not_mem_nil⟩
theorem xLdcs_k_11 : ∀ r ∈ xLdcs 11, xCok4 11 r := by
  unfold xLdcs
  exact List.forall_mem_cons.mpr ⟨(fun a h => by cases h; exact ⟨by decide, by decide, by decide +kernel⟩), List.forall_mem_cons.mpr ⟨(fun a h => by cases h; exact ⟨by decide, by decide, by decide +kernel⟩), List.forall_mem_cons.mpr ⟨(fun a h => by cases h; exact ⟨by decide, by decide, by decide +kernel⟩), List.forall_mem_cons.mpr ⟨(fun a h => by cases h; exact ⟨by decide, by decide, by decide +kernel⟩), List.forall_mem_cons.mpr ⟨(fun a h => by cases h; exact ⟨by decide, by decide, by decide +kernel⟩), List.forall_mem_cons.mpr ⟨(fun a h => by cases h; exact ⟨by decide, by decide, by decide +kernel⟩), List.forall_mem_cons.mpr ⟨(fun a h => by cases h; exact ⟨by decide, by decide, by decide +kernel⟩), List.forall_mem_cons.mpr ⟨(fun a h => by cases h; exact ⟨by decide, by decide, by decide +kernel⟩), List.forall_mem_cons.mpr ⟨(fun a h => by cases h; exact ⟨by decide, by decide, by decide +kernel⟩), List.forall_mem_cons.mpr ⟨(fun a h => by cases h; exact ⟨by decide, by decide, by decide +kernel⟩), List.forall_mem_cons.mpr ⟨(fun a h => by cases h; exact ⟨by decide, by decide, by decide +kernel⟩), List.forall_mem_cons.mpr ⟨(fun a h => by cases h; exact ⟨by decide, by decide, by decide +kernel⟩), List.forall_mem_cons.mpr ⟨(fun a h => by cases h; exact ⟨by decide, by decide, by decide +kernel⟩), List.forall_mem_cons.mpr ⟨(fun a h => by cases h; exact ⟨by decide, by decide, by decide +kernel⟩), List.forall_mem_cons.mpr ⟨(fun a h => by cases h; exact ⟨by decide, by decide, by decide +kernel⟩), List.forall_mem_cons.mpr ⟨(fun a h => by cases h; exact ⟨by decide, by decide, by decide +kernel⟩), List.forall_mem_cons.mpr ⟨(fun a h => by cases h; exact ⟨by decide, by decide, by decide +kernel⟩), List.forall_mem_cons.mpr ⟨(fun a h => by cases h; exact ⟨by decide, by decide, by decide +kernel⟩), List.forall_mem_cons.mpr ⟨(fun a h => by cases h; exact ⟨by decide, by decide, by decide +kernel⟩), List.forall_mem_cons.mpr ⟨(fun a h => by cases h; exact ⟨by decide, by decide, by decide +kernel⟩), List.forall_mem_cons.mpr ⟨(fun a h => by cases h; exact ⟨by decide, by decide, by decide +kernel⟩), List.forall_mem_cons.mpr ⟨(fun a h => by cases h; exact ⟨by decide, by decide, by decide +kernel⟩), List.forall_mem_cons.mpr ⟨(fun a h => by cases h; exact ⟨by decide, by decide, by decide +kernel⟩), List.forall_mem_cons.mpr ⟨(fun a h => by cases h; exact ⟨by decide, by decide, by decide +kernel⟩), fun _ h => absurd h List.not_mem_nil⟩⟩⟩⟩⟩⟩⟩⟩⟩⟩⟩⟩⟩⟩⟩⟩⟩⟩⟩⟩⟩⟩⟩⟩
theorem xLdcs_k_12 : ∀ r ∈ xLdcs 12, xCok4 12 r := by
  unfold xLdcs
  exact List.forall_mem_cons.mpr ⟨(fun a h => nomatch h), List.forall_mem_cons.mpr ⟨(fun a h => nomatch h), fun _ h => absurd h List.not_mem_nil⟩⟩
theorem xLdcs_k_13 : ∀ r ∈ xLdcs 13, xCok4 13 r := by
  unfold xLdcs
  exact List.forall_mem_cons.mpr ⟨(fun a h => by cases h; exact ⟨by decide, by decide, by decide +kernel⟩), List.forall_mem_cons.mpr ⟨(fun a h => by cases h; exact ⟨by decide, by decide, by decide +kernel⟩), List.forall_mem_cons.mpr ⟨(fun a h => by cases h; exact ⟨by decide, by decide, by decide +kernel⟩), List.forall_mem_cons.mpr ⟨(fun a h => by cases h; exact ⟨by decide, by decide, by decide +kernel⟩), List.forall_mem_cons.mpr ⟨(fun a h => by cases h; exact ⟨by decide, by decide, by decide +kernel⟩), List.forall_mem_cons.mpr ⟨(fun a h => by cases h; exact ⟨by decide, by decide, by decide +kernel⟩), List.forall_mem_cons.mpr ⟨(fun a h => by cases h; exact ⟨by decide, by decide, by decide +kernel⟩), List.forall_mem_cons.mpr ⟨(fun a h => by cases h; exact ⟨by decide, by decide, by decide +kernel⟩), List.forall_mem_cons.mpr ⟨(fun a h => by cases h; exact ⟨by decide, by decide, by decide +kernel⟩), List.forall_mem_cons.mpr ⟨(fun a h => by cases h; exact ⟨by decide, by decide, by decide +kernel⟩), List.forall_mem_cons.mpr ⟨(fun a h => by cases h; exact ⟨by decide, by decide, by decide +kernel⟩), List.forall_mem_cons.mpr ⟨(fun a h => by cases h; exact ⟨by decide, by decide, by decide +kernel⟩), List.forall_mem_cons.mpr ⟨(fun a h => by cases h; exact ⟨by decide, by decide, by decide +kernel⟩), List.forall_mem_cons.mpr ⟨(fun a h => by cases h; exact ⟨by decide, by decide, by decide +kernel⟩), List.forall_mem_cons.mpr ⟨(fun a h => by cases h; exact ⟨by decide, by decide, by decide +kernel⟩), List.forall_mem_cons.mpr ⟨(fun a h => by cases h; exact ⟨by decide, by decide, by decide +kernel⟩), List.forall_mem_cons.mpr ⟨(fun a h => by cases h; exact ⟨by decide, by decide, by decide +kernel⟩), fun _ h => absurd h List.not_mem_nil⟩⟩⟩⟩⟩⟩⟩⟩⟩⟩⟩⟩⟩⟩⟩⟩⟩
theorem xLdcs_k : (k : Nat) → ∀ r, r ∈ xLdcs k → xCok4 k r
  | 0 => fun r h => (List.not_mem_nil (show r ∈ [] from h)).elim
  | 1 => xLdcs_k_1
  | 2 => fun r h => (List.not_mem_nil (show r ∈ [] from h)).elim
  | 3 => fun r h => (List.not_mem_nil (show r ∈ [] from h)).elim
  | 4 => fun r h => (List.not_mem_nil (show r ∈ [] from h)).elim
  | 5 => xLdcs_k_5
  | 6 => xLdcs_k_6
  | 7 => fun r h => (List.not_mem_nil (show r ∈ [] from h)).elim
  | 8 => xLdcs_k_8
  | 9 => fun r h => (List.not_mem_nil (show r ∈ [] from h)).elim
  | 10 => fun r h => (List.not_mem_nil (show r ∈ [] from h)).elim
  | 11 => xLdcs_k_11
  | 12 => xLdcs_k_12
  | 13 => xLdcs_k_13
  | 14 => fun r h => (List.not_mem_nil (show r ∈ [] from h)).elim
  | 15 => fun r h => (List.not_mem_nil (show r ∈ [] from h)).elim
  | 16 => fun r h => (List.not_mem_nil (show r ∈ [] from h)).elim
  | 17 => fun r h => (List.not_mem_nil (show r ∈ [] from h)).elim
  | 18 => fun r h => (List.not_mem_nil (show r ∈ [] from h)).elim
  | 19 => fun r h => (List.not_mem_nil (show r ∈ [] from h)).elim
  | n + 20 => fun r h => (List.not_mem_nil (show r ∈ [] from h)).elim
theorem xIn_ok {c : Nat} (h : c < 13) : Cond.instantiable (xNm c) (xNf c) ∈ xWs := by
  by_cases e : c = 0
  · subst e; exact xw 91 (by decide +kernel) rfl
  by_cases e : c = 1
  · subst e; exact xw 232 (by decide +kernel) rfl
  by_cases e : c = 2
  · subst e; exact xw 129 (by decide +kernel) rfl
  by_cases e : c = 3
  · subst e; exact xw 69 (by decide +kernel) rfl
  by_cases e : c = 4
  · subst e; exact xw 45 (by decide +kernel) rfl
  by_cases e : c = 5
  · subst e; exact xw 165 (by decide +kernel) rfl
  by_cases e : c = 6
  · subst e; exact xw 371 (by decide +kernel) rfl
  by_cases e : c = 7
  · subst e; exact xw 778 (by decide +kernel) rfl
  by_cases e : c = 8
  · subst e; exact xw 243 (by decide +kernel) rfl
  by_cases e : c = 9
  · subst e; exact xw 158 (by decide +kernel) rfl
  by_cases e : c = 10
  · subst e; exact xw 116 (by decide +kernel) rfl
  by_cases e : c = 11
  · subst e; exact xw 30 (by decide +kernel) rfl
  by_cases e : c = 12
  · subst e; exact xw 1649 (by decide +kernel) rfl
  omega
theorem xF_sv : ∀ j, j < 7 → ∀ i, i < 10 → (match xSv j i with | some (.retAddr c) => decide (20 ≤ c ∧ c < 77) | some (.int _) => true | _ => false) = true := by decide +kernel
theorem xNw_tab : ∀ w ∈ xNw, w ∈ lw_tbl := fun w h => List.mem_append_right _ (xNw_in w h)
