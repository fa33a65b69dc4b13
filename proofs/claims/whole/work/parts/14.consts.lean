/-! THE LAW'S START: what the Statement gives of it, in the words of the abstract run (by program, wip/whole/gen14.py) -/
def xBig : Cond := Jvm.Cond.and given_1 narrow_1
/-- the String constants: class and entry -/
def xStl : List (String × Nat) := [("ScanCompare", 404), ("ScanCompare", 406), ("ScanCompare", 408), ("ScanCompare", 133), ("ScanCompare", 142), ("ScanCompare", 413), ("ScanCompare", 171), ("ScanCompare", 190), ("ScanCompare", 197), ("ScanCompare", 202), ("ScanCompare", 220), ("ScanCompare", 227), ("ScanCompare", 243), ("ScanCompare", 248), ("ScanCompare", 250), ("ScanCompare", 376), ("ScanCompare", 294), ("ScanCompare", 312), ("ScanCompare", 320), ("ScanCompare", 421), ("ScanCompare", 426), ("ScanCompare$Comparison", 309), ("ScanCompare$Comparison", 317), ("ScanCompare$Comparison", 323), ("ScanCompare$Comparison", 335), ("ScanCompare$Comparison", 340), ("ScanCompare$Comparison", 342), ("ScanCompare$Part", 67), ("ScanCompare$Part", 79), ("ScanCompare$Part", 81), ("ScanCompare$Part", 87), ("ScanCompare$Part", 89), ("ScanCompare$Part", 91), ("ScanCompare$Part", 93), ("ScanCompare$Part", 95), ("ScanCompare$Part", 97), ("ScanCompare$Part", 102), ("ScanCompare", 383), ("ScanCompare", 390), ("ScanCompare", 399), ("ScanCompare$Setting", 116), ("ScanCompare$Setting", 72), ("ScanCompare$Setting", 119), ("ScanCompare$Setting", 122), ("ScanCompare$Setting", 125), ("ScanCompare$Setting", 127), ("ScanCompare$Setting", 129), ("ScanCompare$Setting", 113), ("ScanCompare$Setting", 104), ("ScanCompare$Setting", 110), ("ScanCompare$Setting", 135), ("ScanCompare$Setting", 137), ("ScanCompare$Setting", 139), ("ScanCompare$Setting", 142), ("ScanCompare$Setting", 145), ("ScanCompare$Setting", 147), ("ScanCompare$Setting", 149)]
def xTmS (i : Nat) : Term := .string (xStl.getD i ("", 0)).1 (xStl.getD i ("", 0)).2
def xSB (i : Nat) : List Int32 := (xBys i).getD []
def xSn : List String := ["BLOCK", "NOISE", "JITTER", "SPECKLE", "SEARCH", "SKEW", "TURN", "ORDER", "PAIR", "STAMPS"]
def xTmE (i : Nat) : Term := .static "ScanCompare$Setting" (xSn.getD i "") "LScanCompare$Setting;"
def xTmA : Term := .static "ScanCompare" "SETTINGS" "[LScanCompare$Setting;"
abbrev xTmV (i : Nat) : Term := .field (xTmS i) "java/lang/String" "value" "[B"
theorem xF_ex : ∀ i, i < 57 → Cond.exactly (xTmS i) "java/lang/String" ∈ flatC xBig := by decide +kernel
theorem xF_co_0 : Cond.eq (.field (xTmS 0) "java/lang/String" "coder" "B") (.int 0) ∈ flatC xBig := by decide +kernel
theorem xF_co_1 : Cond.eq (.field (xTmS 1) "java/lang/String" "coder" "B") (.int 0) ∈ flatC xBig := by decide +kernel
theorem xF_co_2 : Cond.eq (.field (xTmS 2) "java/lang/String" "coder" "B") (.int 0) ∈ flatC xBig := by decide +kernel
theorem xF_co_3 : Cond.eq (.field (xTmS 3) "java/lang/String" "coder" "B") (.int 0) ∈ flatC xBig := by decide +kernel
theorem xF_co_4 : Cond.eq (.field (xTmS 4) "java/lang/String" "coder" "B") (.int 0) ∈ flatC xBig := by decide +kernel
theorem xF_co_5 : Cond.eq (.field (xTmS 5) "java/lang/String" "coder" "B") (.int 0) ∈ flatC xBig := by decide +kernel
theorem xF_co_6 : Cond.eq (.field (xTmS 6) "java/lang/String" "coder" "B") (.int 0) ∈ flatC xBig := by decide +kernel
theorem xF_co_7 : Cond.eq (.field (xTmS 7) "java/lang/String" "coder" "B") (.int 0) ∈ flatC xBig := by decide +kernel
theorem xF_co_8 : Cond.eq (.field (xTmS 8) "java/lang/String" "coder" "B") (.int 0) ∈ flatC xBig := by decide +kernel
theorem xF_co_9 : Cond.eq (.field (xTmS 9) "java/lang/String" "coder" "B") (.int 0) ∈ flatC xBig := by decide +kernel
theorem xF_co_10 : Cond.eq (.field (xTmS 10) "java/lang/String" "coder" "B") (.int 0) ∈ flatC xBig := by decide +kernel
theorem xF_co_11 : Cond.eq (.field (xTmS 11) "java/lang/String" "coder" "B") (.int 0) ∈ flatC xBig := by decide +kernel
theorem xF_co_12 : Cond.eq (.field (xTmS 12) "java/lang/String" "coder" "B") (.int 0) ∈ flatC xBig := by decide +kernel
theorem xF_co_13 : Cond.eq (.field (xTmS 13) "java/lang/String" "coder" "B") (.int 0) ∈ flatC xBig := by decide +kernel
theorem xF_co_14 : Cond.eq (.field (xTmS 14) "java/lang/String" "coder" "B") (.int 0) ∈ flatC xBig := by decide +kernel
theorem xF_co_15 : Cond.eq (.field (xTmS 15) "java/lang/String" "coder" "B") (.int 0) ∈ flatC xBig := by decide +kernel
theorem xF_co_16 : Cond.eq (.field (xTmS 16) "java/lang/String" "coder" "B") (.int 0) ∈ flatC xBig := by decide +kernel
theorem xF_co_17 : Cond.eq (.field (xTmS 17) "java/lang/String" "coder" "B") (.int 0) ∈ flatC xBig := by decide +kernel
theorem xF_co_18 : Cond.eq (.field (xTmS 18) "java/lang/String" "coder" "B") (.int 0) ∈ flatC xBig := by decide +kernel
theorem xF_co_19 : Cond.eq (.field (xTmS 19) "java/lang/String" "coder" "B") (.int 0) ∈ flatC xBig := by decide +kernel
theorem xF_co_20 : Cond.eq (.field (xTmS 20) "java/lang/String" "coder" "B") (.int 0) ∈ flatC xBig := by decide +kernel
theorem xF_co_21 : Cond.eq (.field (xTmS 21) "java/lang/String" "coder" "B") (.int 0) ∈ flatC xBig := by decide +kernel
theorem xF_co_22 : Cond.eq (.field (xTmS 22) "java/lang/String" "coder" "B") (.int 0) ∈ flatC xBig := by decide +kernel
theorem xF_co_23 : Cond.eq (.field (xTmS 23) "java/lang/String" "coder" "B") (.int 0) ∈ flatC xBig := by decide +kernel
theorem xF_co_24 : Cond.eq (.field (xTmS 24) "java/lang/String" "coder" "B") (.int 0) ∈ flatC xBig := by decide +kernel
theorem xF_co_25 : Cond.eq (.field (xTmS 25) "java/lang/String" "coder" "B") (.int 0) ∈ flatC xBig := by decide +kernel
theorem xF_co_26 : Cond.eq (.field (xTmS 26) "java/lang/String" "coder" "B") (.int 0) ∈ flatC xBig := by decide +kernel
theorem xF_co_27 : Cond.eq (.field (xTmS 27) "java/lang/String" "coder" "B") (.int 0) ∈ flatC xBig := by decide +kernel
theorem xF_co_28 : Cond.eq (.field (xTmS 28) "java/lang/String" "coder" "B") (.int 0) ∈ flatC xBig := by decide +kernel
theorem xF_co_29 : Cond.eq (.field (xTmS 29) "java/lang/String" "coder" "B") (.int 0) ∈ flatC xBig := by decide +kernel
theorem xF_co_30 : Cond.eq (.field (xTmS 30) "java/lang/String" "coder" "B") (.int 0) ∈ flatC xBig := by decide +kernel
theorem xF_co_31 : Cond.eq (.field (xTmS 31) "java/lang/String" "coder" "B") (.int 0) ∈ flatC xBig := by decide +kernel
theorem xF_co_32 : Cond.eq (.field (xTmS 32) "java/lang/String" "coder" "B") (.int 0) ∈ flatC xBig := by decide +kernel
theorem xF_co_33 : Cond.eq (.field (xTmS 33) "java/lang/String" "coder" "B") (.int 0) ∈ flatC xBig := by decide +kernel
theorem xF_co_34 : Cond.eq (.field (xTmS 34) "java/lang/String" "coder" "B") (.int 0) ∈ flatC xBig := by decide +kernel
theorem xF_co_35 : Cond.eq (.field (xTmS 35) "java/lang/String" "coder" "B") (.int 0) ∈ flatC xBig := by decide +kernel
theorem xF_co_36 : Cond.eq (.field (xTmS 36) "java/lang/String" "coder" "B") (.int 0) ∈ flatC xBig := by decide +kernel
theorem xF_co_37 : Cond.eq (.field (xTmS 37) "java/lang/String" "coder" "B") (.int 0) ∈ flatC xBig := by decide +kernel
theorem xF_co_38 : Cond.eq (.field (xTmS 38) "java/lang/String" "coder" "B") (.int 0) ∈ flatC xBig := by decide +kernel
theorem xF_co_39 : Cond.eq (.field (xTmS 39) "java/lang/String" "coder" "B") (.int 0) ∈ flatC xBig := by decide +kernel
theorem xF_co_40 : Cond.eq (.field (xTmS 40) "java/lang/String" "coder" "B") (.int 0) ∈ flatC xBig := by decide +kernel
theorem xF_co_41 : Cond.eq (.field (xTmS 41) "java/lang/String" "coder" "B") (.int 0) ∈ flatC xBig := by decide +kernel
theorem xF_co_42 : Cond.eq (.field (xTmS 42) "java/lang/String" "coder" "B") (.int 0) ∈ flatC xBig := by decide +kernel
theorem xF_co_43 : Cond.eq (.field (xTmS 43) "java/lang/String" "coder" "B") (.int 0) ∈ flatC xBig := by decide +kernel
theorem xF_co_44 : Cond.eq (.field (xTmS 44) "java/lang/String" "coder" "B") (.int 0) ∈ flatC xBig := by decide +kernel
theorem xF_co_45 : Cond.eq (.field (xTmS 45) "java/lang/String" "coder" "B") (.int 0) ∈ flatC xBig := by decide +kernel
theorem xF_co_46 : Cond.eq (.field (xTmS 46) "java/lang/String" "coder" "B") (.int 0) ∈ flatC xBig := by decide +kernel
theorem xF_co_47 : Cond.eq (.field (xTmS 47) "java/lang/String" "coder" "B") (.int 0) ∈ flatC xBig := by decide +kernel
theorem xF_co_48 : Cond.eq (.field (xTmS 48) "java/lang/String" "coder" "B") (.int 0) ∈ flatC xBig := by decide +kernel
theorem xF_co_49 : Cond.eq (.field (xTmS 49) "java/lang/String" "coder" "B") (.int 0) ∈ flatC xBig := by decide +kernel
theorem xF_co_50 : Cond.eq (.field (xTmS 50) "java/lang/String" "coder" "B") (.int 0) ∈ flatC xBig := by decide +kernel
theorem xF_co_51 : Cond.eq (.field (xTmS 51) "java/lang/String" "coder" "B") (.int 0) ∈ flatC xBig := by decide +kernel
theorem xF_co_52 : Cond.eq (.field (xTmS 52) "java/lang/String" "coder" "B") (.int 0) ∈ flatC xBig := by decide +kernel
theorem xF_co_53 : Cond.eq (.field (xTmS 53) "java/lang/String" "coder" "B") (.int 0) ∈ flatC xBig := by decide +kernel
theorem xF_co_54 : Cond.eq (.field (xTmS 54) "java/lang/String" "coder" "B") (.int 0) ∈ flatC xBig := by decide +kernel
theorem xF_co_55 : Cond.eq (.field (xTmS 55) "java/lang/String" "coder" "B") (.int 0) ∈ flatC xBig := by decide +kernel
theorem xF_co_56 : Cond.eq (.field (xTmS 56) "java/lang/String" "coder" "B") (.int 0) ∈ flatC xBig := by decide +kernel
theorem xF_co : ∀ i, i < 57 → Cond.eq (.field (xTmS i) "java/lang/String" "coder" "B") (.int 0) ∈ flatC xBig
  | 0, _ => xF_co_0
  | 1, _ => xF_co_1
  | 2, _ => xF_co_2
  | 3, _ => xF_co_3
  | 4, _ => xF_co_4
  | 5, _ => xF_co_5
  | 6, _ => xF_co_6
  | 7, _ => xF_co_7
  | 8, _ => xF_co_8
  | 9, _ => xF_co_9
  | 10, _ => xF_co_10
  | 11, _ => xF_co_11
  | 12, _ => xF_co_12
  | 13, _ => xF_co_13
  | 14, _ => xF_co_14
  | 15, _ => xF_co_15
  | 16, _ => xF_co_16
  | 17, _ => xF_co_17
  | 18, _ => xF_co_18
  | 19, _ => xF_co_19
  | 20, _ => xF_co_20
  | 21, _ => xF_co_21
  | 22, _ => xF_co_22
  | 23, _ => xF_co_23
  | 24, _ => xF_co_24
  | 25, _ => xF_co_25
  | 26, _ => xF_co_26
  | 27, _ => xF_co_27
  | 28, _ => xF_co_28
  | 29, _ => xF_co_29
  | 30, _ => xF_co_30
  | 31, _ => xF_co_31
  | 32, _ => xF_co_32
  | 33, _ => xF_co_33
  | 34, _ => xF_co_34
  | 35, _ => xF_co_35
  | 36, _ => xF_co_36
  | 37, _ => xF_co_37
  | 38, _ => xF_co_38
  | 39, _ => xF_co_39
  | 40, _ => xF_co_40
  | 41, _ => xF_co_41
  | 42, _ => xF_co_42
  | 43, _ => xF_co_43
  | 44, _ => xF_co_44
  | 45, _ => xF_co_45
  | 46, _ => xF_co_46
  | 47, _ => xF_co_47
  | 48, _ => xF_co_48
  | 49, _ => xF_co_49
  | 50, _ => xF_co_50
  | 51, _ => xF_co_51
  | 52, _ => xF_co_52
  | 53, _ => xF_co_53
  | 54, _ => xF_co_54
  | 55, _ => xF_co_55
  | 56, _ => xF_co_56
  | n + 57, h => absurd h (by omega)
theorem xF_ar : ∀ i, i < 57 → Cond.arrayOf (xTmV i) .byte ∈ flatC xBig := by decide +kernel
theorem xF_le_0 : Cond.eq (.length (xTmV 0)) (.int (Int32.ofNat (xSB 0).length)) ∈ flatC xBig := by decide +kernel
theorem xF_le_1 : Cond.eq (.length (xTmV 1)) (.int (Int32.ofNat (xSB 1).length)) ∈ flatC xBig := by decide +kernel
theorem xF_le_2 : Cond.eq (.length (xTmV 2)) (.int (Int32.ofNat (xSB 2).length)) ∈ flatC xBig := by decide +kernel
theorem xF_le_3 : Cond.eq (.length (xTmV 3)) (.int (Int32.ofNat (xSB 3).length)) ∈ flatC xBig := by decide +kernel
theorem xF_le_4 : Cond.eq (.length (xTmV 4)) (.int (Int32.ofNat (xSB 4).length)) ∈ flatC xBig := by decide +kernel
theorem xF_le_5 : Cond.eq (.length (xTmV 5)) (.int (Int32.ofNat (xSB 5).length)) ∈ flatC xBig := by decide +kernel
theorem xF_le_6 : Cond.eq (.length (xTmV 6)) (.int (Int32.ofNat (xSB 6).length)) ∈ flatC xBig := by decide +kernel
theorem xF_le_7 : Cond.eq (.length (xTmV 7)) (.int (Int32.ofNat (xSB 7).length)) ∈ flatC xBig := by decide +kernel
theorem xF_le_8 : Cond.eq (.length (xTmV 8)) (.int (Int32.ofNat (xSB 8).length)) ∈ flatC xBig := by decide +kernel
theorem xF_le_9 : Cond.eq (.length (xTmV 9)) (.int (Int32.ofNat (xSB 9).length)) ∈ flatC xBig := by decide +kernel
theorem xF_le_10 : Cond.eq (.length (xTmV 10)) (.int (Int32.ofNat (xSB 10).length)) ∈ flatC xBig := by decide +kernel
theorem xF_le_11 : Cond.eq (.length (xTmV 11)) (.int (Int32.ofNat (xSB 11).length)) ∈ flatC xBig := by decide +kernel
theorem xF_le_12 : Cond.eq (.length (xTmV 12)) (.int (Int32.ofNat (xSB 12).length)) ∈ flatC xBig := by decide +kernel
theorem xF_le_13 : Cond.eq (.length (xTmV 13)) (.int (Int32.ofNat (xSB 13).length)) ∈ flatC xBig := by decide +kernel
theorem xF_le_14 : Cond.eq (.length (xTmV 14)) (.int (Int32.ofNat (xSB 14).length)) ∈ flatC xBig := by decide +kernel
theorem xF_le_15 : Cond.eq (.length (xTmV 15)) (.int (Int32.ofNat (xSB 15).length)) ∈ flatC xBig := by decide +kernel
theorem xF_le_16 : Cond.eq (.length (xTmV 16)) (.int (Int32.ofNat (xSB 16).length)) ∈ flatC xBig := by decide +kernel
theorem xF_le_17 : Cond.eq (.length (xTmV 17)) (.int (Int32.ofNat (xSB 17).length)) ∈ flatC xBig := by decide +kernel
theorem xF_le_18 : Cond.eq (.length (xTmV 18)) (.int (Int32.ofNat (xSB 18).length)) ∈ flatC xBig := by decide +kernel
theorem xF_le_19 : Cond.eq (.length (xTmV 19)) (.int (Int32.ofNat (xSB 19).length)) ∈ flatC xBig := by decide +kernel
theorem xF_le_20 : Cond.eq (.length (xTmV 20)) (.int (Int32.ofNat (xSB 20).length)) ∈ flatC xBig := by decide +kernel
theorem xF_le_21 : Cond.eq (.length (xTmV 21)) (.int (Int32.ofNat (xSB 21).length)) ∈ flatC xBig := by decide +kernel
theorem xF_le_22 : Cond.eq (.length (xTmV 22)) (.int (Int32.ofNat (xSB 22).length)) ∈ flatC xBig := by decide +kernel
theorem xF_le_23 : Cond.eq (.length (xTmV 23)) (.int (Int32.ofNat (xSB 23).length)) ∈ flatC xBig := by decide +kernel
theorem xF_le_24 : Cond.eq (.length (xTmV 24)) (.int (Int32.ofNat (xSB 24).length)) ∈ flatC xBig := by decide +kernel
theorem xF_le_25 : Cond.eq (.length (xTmV 25)) (.int (Int32.ofNat (xSB 25).length)) ∈ flatC xBig := by decide +kernel
theorem xF_le_26 : Cond.eq (.length (xTmV 26)) (.int (Int32.ofNat (xSB 26).length)) ∈ flatC xBig := by decide +kernel
theorem xF_le_27 : Cond.eq (.length (xTmV 27)) (.int (Int32.ofNat (xSB 27).length)) ∈ flatC xBig := by decide +kernel
theorem xF_le_28 : Cond.eq (.length (xTmV 28)) (.int (Int32.ofNat (xSB 28).length)) ∈ flatC xBig := by decide +kernel
theorem xF_le_29 : Cond.eq (.length (xTmV 29)) (.int (Int32.ofNat (xSB 29).length)) ∈ flatC xBig := by decide +kernel
theorem xF_le_30 : Cond.eq (.length (xTmV 30)) (.int (Int32.ofNat (xSB 30).length)) ∈ flatC xBig := by decide +kernel
theorem xF_le_31 : Cond.eq (.length (xTmV 31)) (.int (Int32.ofNat (xSB 31).length)) ∈ flatC xBig := by decide +kernel
theorem xF_le_32 : Cond.eq (.length (xTmV 32)) (.int (Int32.ofNat (xSB 32).length)) ∈ flatC xBig := by decide +kernel
theorem xF_le_33 : Cond.eq (.length (xTmV 33)) (.int (Int32.ofNat (xSB 33).length)) ∈ flatC xBig := by decide +kernel
theorem xF_le_34 : Cond.eq (.length (xTmV 34)) (.int (Int32.ofNat (xSB 34).length)) ∈ flatC xBig := by decide +kernel
theorem xF_le_35 : Cond.eq (.length (xTmV 35)) (.int (Int32.ofNat (xSB 35).length)) ∈ flatC xBig := by decide +kernel
theorem xF_le_36 : Cond.eq (.length (xTmV 36)) (.int (Int32.ofNat (xSB 36).length)) ∈ flatC xBig := by decide +kernel
theorem xF_le_37 : Cond.eq (.length (xTmV 37)) (.int (Int32.ofNat (xSB 37).length)) ∈ flatC xBig := by decide +kernel
theorem xF_le_38 : Cond.eq (.length (xTmV 38)) (.int (Int32.ofNat (xSB 38).length)) ∈ flatC xBig := by decide +kernel
theorem xF_le_39 : Cond.eq (.length (xTmV 39)) (.int (Int32.ofNat (xSB 39).length)) ∈ flatC xBig := by decide +kernel
theorem xF_le_40 : Cond.eq (.length (xTmV 40)) (.int (Int32.ofNat (xSB 40).length)) ∈ flatC xBig := by decide +kernel
theorem xF_le_41 : Cond.eq (.length (xTmV 41)) (.int (Int32.ofNat (xSB 41).length)) ∈ flatC xBig := by decide +kernel
theorem xF_le_42 : Cond.eq (.length (xTmV 42)) (.int (Int32.ofNat (xSB 42).length)) ∈ flatC xBig := by decide +kernel
theorem xF_le_43 : Cond.eq (.length (xTmV 43)) (.int (Int32.ofNat (xSB 43).length)) ∈ flatC xBig := by decide +kernel
theorem xF_le_44 : Cond.eq (.length (xTmV 44)) (.int (Int32.ofNat (xSB 44).length)) ∈ flatC xBig := by decide +kernel
theorem xF_le_45 : Cond.eq (.length (xTmV 45)) (.int (Int32.ofNat (xSB 45).length)) ∈ flatC xBig := by decide +kernel
theorem xF_le_46 : Cond.eq (.length (xTmV 46)) (.int (Int32.ofNat (xSB 46).length)) ∈ flatC xBig := by decide +kernel
theorem xF_le_47 : Cond.eq (.length (xTmV 47)) (.int (Int32.ofNat (xSB 47).length)) ∈ flatC xBig := by decide +kernel
theorem xF_le_48 : Cond.eq (.length (xTmV 48)) (.int (Int32.ofNat (xSB 48).length)) ∈ flatC xBig := by decide +kernel
theorem xF_le_49 : Cond.eq (.length (xTmV 49)) (.int (Int32.ofNat (xSB 49).length)) ∈ flatC xBig := by decide +kernel
theorem xF_le_50 : Cond.eq (.length (xTmV 50)) (.int (Int32.ofNat (xSB 50).length)) ∈ flatC xBig := by decide +kernel
theorem xF_le_51 : Cond.eq (.length (xTmV 51)) (.int (Int32.ofNat (xSB 51).length)) ∈ flatC xBig := by decide +kernel
theorem xF_le_52 : Cond.eq (.length (xTmV 52)) (.int (Int32.ofNat (xSB 52).length)) ∈ flatC xBig := by decide +kernel
theorem xF_le_53 : Cond.eq (.length (xTmV 53)) (.int (Int32.ofNat (xSB 53).length)) ∈ flatC xBig := by decide +kernel
theorem xF_le_54 : Cond.eq (.length (xTmV 54)) (.int (Int32.ofNat (xSB 54).length)) ∈ flatC xBig := by decide +kernel
theorem xF_le_55 : Cond.eq (.length (xTmV 55)) (.int (Int32.ofNat (xSB 55).length)) ∈ flatC xBig := by decide +kernel
theorem xF_le_56 : Cond.eq (.length (xTmV 56)) (.int (Int32.ofNat (xSB 56).length)) ∈ flatC xBig := by decide +kernel
theorem xF_le : ∀ i, i < 57 → Cond.eq (.length (xTmV i)) (.int (Int32.ofNat (xSB i).length)) ∈ flatC xBig
  | 0, _ => xF_le_0
  | 1, _ => xF_le_1
  | 2, _ => xF_le_2
  | 3, _ => xF_le_3
  | 4, _ => xF_le_4
  | 5, _ => xF_le_5
  | 6, _ => xF_le_6
  | 7, _ => xF_le_7
  | 8, _ => xF_le_8
  | 9, _ => xF_le_9
  | 10, _ => xF_le_10
  | 11, _ => xF_le_11
  | 12, _ => xF_le_12
  | 13, _ => xF_le_13
  | 14, _ => xF_le_14
  | 15, _ => xF_le_15
  | 16, _ => xF_le_16
  | 17, _ => xF_le_17
  | 18, _ => xF_le_18
  | 19, _ => xF_le_19
  | 20, _ => xF_le_20
  | 21, _ => xF_le_21
  | 22, _ => xF_le_22
  | 23, _ => xF_le_23
  | 24, _ => xF_le_24
  | 25, _ => xF_le_25
  | 26, _ => xF_le_26
  | 27, _ => xF_le_27
  | 28, _ => xF_le_28
  | 29, _ => xF_le_29
  | 30, _ => xF_le_30
  | 31, _ => xF_le_31
  | 32, _ => xF_le_32
  | 33, _ => xF_le_33
  | 34, _ => xF_le_34
  | 35, _ => xF_le_35
  | 36, _ => xF_le_36
  | 37, _ => xF_le_37
  | 38, _ => xF_le_38
  | 39, _ => xF_le_39
  | 40, _ => xF_le_40
  | 41, _ => xF_le_41
  | 42, _ => xF_le_42
  | 43, _ => xF_le_43
  | 44, _ => xF_le_44
  | 45, _ => xF_le_45
  | 46, _ => xF_le_46
  | 47, _ => xF_le_47
  | 48, _ => xF_le_48
  | 49, _ => xF_le_49
  | 50, _ => xF_le_50
  | 51, _ => xF_le_51
  | 52, _ => xF_le_52
  | 53, _ => xF_le_53
  | 54, _ => xF_le_54
  | 55, _ => xF_le_55
  | 56, _ => xF_le_56
  | n + 57, h => absurd h (by omega)
theorem xF_el_0 : ∀ j, j < (xSB 0).length → Cond.eq (.elem (xTmV 0) (.int (Int32.ofNat j))) (.int ((xSB 0).getD j 0)) ∈ flatC xBig := by decide +kernel
theorem xF_el_1 : ∀ j, j < (xSB 1).length → Cond.eq (.elem (xTmV 1) (.int (Int32.ofNat j))) (.int ((xSB 1).getD j 0)) ∈ flatC xBig := by decide +kernel
theorem xF_el_2 : ∀ j, j < (xSB 2).length → Cond.eq (.elem (xTmV 2) (.int (Int32.ofNat j))) (.int ((xSB 2).getD j 0)) ∈ flatC xBig := by decide +kernel
theorem xF_el_3 : ∀ j, j < (xSB 3).length → Cond.eq (.elem (xTmV 3) (.int (Int32.ofNat j))) (.int ((xSB 3).getD j 0)) ∈ flatC xBig := by decide +kernel
theorem xF_el_4 : ∀ j, j < (xSB 4).length → Cond.eq (.elem (xTmV 4) (.int (Int32.ofNat j))) (.int ((xSB 4).getD j 0)) ∈ flatC xBig := by decide +kernel
theorem xF_el_5 : ∀ j, j < (xSB 5).length → Cond.eq (.elem (xTmV 5) (.int (Int32.ofNat j))) (.int ((xSB 5).getD j 0)) ∈ flatC xBig := by decide +kernel
theorem xF_el_6 : ∀ j, j < (xSB 6).length → Cond.eq (.elem (xTmV 6) (.int (Int32.ofNat j))) (.int ((xSB 6).getD j 0)) ∈ flatC xBig := by decide +kernel
theorem xF_el_7 : ∀ j, j < (xSB 7).length → Cond.eq (.elem (xTmV 7) (.int (Int32.ofNat j))) (.int ((xSB 7).getD j 0)) ∈ flatC xBig := by decide +kernel
theorem xF_el_8 : ∀ j, j < (xSB 8).length → Cond.eq (.elem (xTmV 8) (.int (Int32.ofNat j))) (.int ((xSB 8).getD j 0)) ∈ flatC xBig := by decide +kernel
theorem xF_el_9 : ∀ j, j < (xSB 9).length → Cond.eq (.elem (xTmV 9) (.int (Int32.ofNat j))) (.int ((xSB 9).getD j 0)) ∈ flatC xBig := by decide +kernel
theorem xF_el_10 : ∀ j, j < (xSB 10).length → Cond.eq (.elem (xTmV 10) (.int (Int32.ofNat j))) (.int ((xSB 10).getD j 0)) ∈ flatC xBig := by decide +kernel
theorem xF_el_11 : ∀ j, j < (xSB 11).length → Cond.eq (.elem (xTmV 11) (.int (Int32.ofNat j))) (.int ((xSB 11).getD j 0)) ∈ flatC xBig := by decide +kernel
theorem xF_el_12 : ∀ j, j < (xSB 12).length → Cond.eq (.elem (xTmV 12) (.int (Int32.ofNat j))) (.int ((xSB 12).getD j 0)) ∈ flatC xBig := by decide +kernel
theorem xF_el_13 : ∀ j, j < (xSB 13).length → Cond.eq (.elem (xTmV 13) (.int (Int32.ofNat j))) (.int ((xSB 13).getD j 0)) ∈ flatC xBig := by decide +kernel
theorem xF_el_14 : ∀ j, j < (xSB 14).length → Cond.eq (.elem (xTmV 14) (.int (Int32.ofNat j))) (.int ((xSB 14).getD j 0)) ∈ flatC xBig := by decide +kernel
theorem xF_el_15 : ∀ j, j < (xSB 15).length → Cond.eq (.elem (xTmV 15) (.int (Int32.ofNat j))) (.int ((xSB 15).getD j 0)) ∈ flatC xBig := by decide +kernel
theorem xF_el_16 : ∀ j, j < (xSB 16).length → Cond.eq (.elem (xTmV 16) (.int (Int32.ofNat j))) (.int ((xSB 16).getD j 0)) ∈ flatC xBig := by decide +kernel
theorem xF_el_17 : ∀ j, j < (xSB 17).length → Cond.eq (.elem (xTmV 17) (.int (Int32.ofNat j))) (.int ((xSB 17).getD j 0)) ∈ flatC xBig := by decide +kernel
theorem xF_el_18 : ∀ j, j < (xSB 18).length → Cond.eq (.elem (xTmV 18) (.int (Int32.ofNat j))) (.int ((xSB 18).getD j 0)) ∈ flatC xBig := by decide +kernel
theorem xF_el_19 : ∀ j, j < (xSB 19).length → Cond.eq (.elem (xTmV 19) (.int (Int32.ofNat j))) (.int ((xSB 19).getD j 0)) ∈ flatC xBig := by decide +kernel
theorem xF_el_20 : ∀ j, j < (xSB 20).length → Cond.eq (.elem (xTmV 20) (.int (Int32.ofNat j))) (.int ((xSB 20).getD j 0)) ∈ flatC xBig := by decide +kernel
theorem xF_el_21 : ∀ j, j < (xSB 21).length → Cond.eq (.elem (xTmV 21) (.int (Int32.ofNat j))) (.int ((xSB 21).getD j 0)) ∈ flatC xBig := by decide +kernel
theorem xF_el_22 : ∀ j, j < (xSB 22).length → Cond.eq (.elem (xTmV 22) (.int (Int32.ofNat j))) (.int ((xSB 22).getD j 0)) ∈ flatC xBig := by decide +kernel
theorem xF_el_23 : ∀ j, j < (xSB 23).length → Cond.eq (.elem (xTmV 23) (.int (Int32.ofNat j))) (.int ((xSB 23).getD j 0)) ∈ flatC xBig := by decide +kernel
theorem xF_el_24 : ∀ j, j < (xSB 24).length → Cond.eq (.elem (xTmV 24) (.int (Int32.ofNat j))) (.int ((xSB 24).getD j 0)) ∈ flatC xBig := by decide +kernel
theorem xF_el_25 : ∀ j, j < (xSB 25).length → Cond.eq (.elem (xTmV 25) (.int (Int32.ofNat j))) (.int ((xSB 25).getD j 0)) ∈ flatC xBig := by decide +kernel
theorem xF_el_26 : ∀ j, j < (xSB 26).length → Cond.eq (.elem (xTmV 26) (.int (Int32.ofNat j))) (.int ((xSB 26).getD j 0)) ∈ flatC xBig := by decide +kernel
theorem xF_el_27 : ∀ j, j < (xSB 27).length → Cond.eq (.elem (xTmV 27) (.int (Int32.ofNat j))) (.int ((xSB 27).getD j 0)) ∈ flatC xBig := by decide +kernel
theorem xF_el_28 : ∀ j, j < (xSB 28).length → Cond.eq (.elem (xTmV 28) (.int (Int32.ofNat j))) (.int ((xSB 28).getD j 0)) ∈ flatC xBig := by decide +kernel
theorem xF_el_29 : ∀ j, j < (xSB 29).length → Cond.eq (.elem (xTmV 29) (.int (Int32.ofNat j))) (.int ((xSB 29).getD j 0)) ∈ flatC xBig := by decide +kernel
theorem xF_el_30 : ∀ j, j < (xSB 30).length → Cond.eq (.elem (xTmV 30) (.int (Int32.ofNat j))) (.int ((xSB 30).getD j 0)) ∈ flatC xBig := by decide +kernel
theorem xF_el_31 : ∀ j, j < (xSB 31).length → Cond.eq (.elem (xTmV 31) (.int (Int32.ofNat j))) (.int ((xSB 31).getD j 0)) ∈ flatC xBig := by decide +kernel
theorem xF_el_32 : ∀ j, j < (xSB 32).length → Cond.eq (.elem (xTmV 32) (.int (Int32.ofNat j))) (.int ((xSB 32).getD j 0)) ∈ flatC xBig := by decide +kernel
theorem xF_el_33 : ∀ j, j < (xSB 33).length → Cond.eq (.elem (xTmV 33) (.int (Int32.ofNat j))) (.int ((xSB 33).getD j 0)) ∈ flatC xBig := by decide +kernel
theorem xF_el_34 : ∀ j, j < (xSB 34).length → Cond.eq (.elem (xTmV 34) (.int (Int32.ofNat j))) (.int ((xSB 34).getD j 0)) ∈ flatC xBig := by decide +kernel
theorem xF_el_35 : ∀ j, j < (xSB 35).length → Cond.eq (.elem (xTmV 35) (.int (Int32.ofNat j))) (.int ((xSB 35).getD j 0)) ∈ flatC xBig := by decide +kernel
theorem xF_el_36 : ∀ j, j < (xSB 36).length → Cond.eq (.elem (xTmV 36) (.int (Int32.ofNat j))) (.int ((xSB 36).getD j 0)) ∈ flatC xBig := by decide +kernel
theorem xF_el_37 : ∀ j, j < (xSB 37).length → Cond.eq (.elem (xTmV 37) (.int (Int32.ofNat j))) (.int ((xSB 37).getD j 0)) ∈ flatC xBig := by decide +kernel
theorem xF_el_38 : ∀ j, j < (xSB 38).length → Cond.eq (.elem (xTmV 38) (.int (Int32.ofNat j))) (.int ((xSB 38).getD j 0)) ∈ flatC xBig := by decide +kernel
theorem xF_el_39 : ∀ j, j < (xSB 39).length → Cond.eq (.elem (xTmV 39) (.int (Int32.ofNat j))) (.int ((xSB 39).getD j 0)) ∈ flatC xBig := by decide +kernel
theorem xF_el_40 : ∀ j, j < (xSB 40).length → Cond.eq (.elem (xTmV 40) (.int (Int32.ofNat j))) (.int ((xSB 40).getD j 0)) ∈ flatC xBig := by decide +kernel
theorem xF_el_41 : ∀ j, j < (xSB 41).length → Cond.eq (.elem (xTmV 41) (.int (Int32.ofNat j))) (.int ((xSB 41).getD j 0)) ∈ flatC xBig := by decide +kernel
theorem xF_el_42 : ∀ j, j < (xSB 42).length → Cond.eq (.elem (xTmV 42) (.int (Int32.ofNat j))) (.int ((xSB 42).getD j 0)) ∈ flatC xBig := by decide +kernel
theorem xF_el_43 : ∀ j, j < (xSB 43).length → Cond.eq (.elem (xTmV 43) (.int (Int32.ofNat j))) (.int ((xSB 43).getD j 0)) ∈ flatC xBig := by decide +kernel
theorem xF_el_44 : ∀ j, j < (xSB 44).length → Cond.eq (.elem (xTmV 44) (.int (Int32.ofNat j))) (.int ((xSB 44).getD j 0)) ∈ flatC xBig := by decide +kernel
theorem xF_el_45 : ∀ j, j < (xSB 45).length → Cond.eq (.elem (xTmV 45) (.int (Int32.ofNat j))) (.int ((xSB 45).getD j 0)) ∈ flatC xBig := by decide +kernel
theorem xF_el_46 : ∀ j, j < (xSB 46).length → Cond.eq (.elem (xTmV 46) (.int (Int32.ofNat j))) (.int ((xSB 46).getD j 0)) ∈ flatC xBig := by decide +kernel
theorem xF_el_47 : ∀ j, j < (xSB 47).length → Cond.eq (.elem (xTmV 47) (.int (Int32.ofNat j))) (.int ((xSB 47).getD j 0)) ∈ flatC xBig := by decide +kernel
theorem xF_el_48 : ∀ j, j < (xSB 48).length → Cond.eq (.elem (xTmV 48) (.int (Int32.ofNat j))) (.int ((xSB 48).getD j 0)) ∈ flatC xBig := by decide +kernel
theorem xF_el_49 : ∀ j, j < (xSB 49).length → Cond.eq (.elem (xTmV 49) (.int (Int32.ofNat j))) (.int ((xSB 49).getD j 0)) ∈ flatC xBig := by decide +kernel
theorem xF_el_50 : ∀ j, j < (xSB 50).length → Cond.eq (.elem (xTmV 50) (.int (Int32.ofNat j))) (.int ((xSB 50).getD j 0)) ∈ flatC xBig := by decide +kernel
theorem xF_el_51 : ∀ j, j < (xSB 51).length → Cond.eq (.elem (xTmV 51) (.int (Int32.ofNat j))) (.int ((xSB 51).getD j 0)) ∈ flatC xBig := by decide +kernel
theorem xF_el_52 : ∀ j, j < (xSB 52).length → Cond.eq (.elem (xTmV 52) (.int (Int32.ofNat j))) (.int ((xSB 52).getD j 0)) ∈ flatC xBig := by decide +kernel
theorem xF_el_53 : ∀ j, j < (xSB 53).length → Cond.eq (.elem (xTmV 53) (.int (Int32.ofNat j))) (.int ((xSB 53).getD j 0)) ∈ flatC xBig := by decide +kernel
theorem xF_el_54 : ∀ j, j < (xSB 54).length → Cond.eq (.elem (xTmV 54) (.int (Int32.ofNat j))) (.int ((xSB 54).getD j 0)) ∈ flatC xBig := by decide +kernel
theorem xF_el_55 : ∀ j, j < (xSB 55).length → Cond.eq (.elem (xTmV 55) (.int (Int32.ofNat j))) (.int ((xSB 55).getD j 0)) ∈ flatC xBig := by decide +kernel
theorem xF_el_56 : ∀ j, j < (xSB 56).length → Cond.eq (.elem (xTmV 56) (.int (Int32.ofNat j))) (.int ((xSB 56).getD j 0)) ∈ flatC xBig := by decide +kernel
theorem xF_el : ∀ i, i < 57 → ∀ j, j < (xSB i).length → Cond.eq (.elem (xTmV i) (.int (Int32.ofNat j))) (.int ((xSB i).getD j 0)) ∈ flatC xBig
  | 0, _ => xF_el_0
  | 1, _ => xF_el_1
  | 2, _ => xF_el_2
  | 3, _ => xF_el_3
  | 4, _ => xF_el_4
  | 5, _ => xF_el_5
  | 6, _ => xF_el_6
  | 7, _ => xF_el_7
  | 8, _ => xF_el_8
  | 9, _ => xF_el_9
  | 10, _ => xF_el_10
  | 11, _ => xF_el_11
  | 12, _ => xF_el_12
  | 13, _ => xF_el_13
  | 14, _ => xF_el_14
  | 15, _ => xF_el_15
  | 16, _ => xF_el_16
  | 17, _ => xF_el_17
  | 18, _ => xF_el_18
  | 19, _ => xF_el_19
  | 20, _ => xF_el_20
  | 21, _ => xF_el_21
  | 22, _ => xF_el_22
  | 23, _ => xF_el_23
  | 24, _ => xF_el_24
  | 25, _ => xF_el_25
  | 26, _ => xF_el_26
  | 27, _ => xF_el_27
  | 28, _ => xF_el_28
  | 29, _ => xF_el_29
  | 30, _ => xF_el_30
  | 31, _ => xF_el_31
  | 32, _ => xF_el_32
  | 33, _ => xF_el_33
  | 34, _ => xF_el_34
  | 35, _ => xF_el_35
  | 36, _ => xF_el_36
  | 37, _ => xF_el_37
  | 38, _ => xF_el_38
  | 39, _ => xF_el_39
  | 40, _ => xF_el_40
  | 41, _ => xF_el_41
  | 42, _ => xF_el_42
  | 43, _ => xF_el_43
  | 44, _ => xF_el_44
  | 45, _ => xF_el_45
  | 46, _ => xF_el_46
  | 47, _ => xF_el_47
  | 48, _ => xF_el_48
  | 49, _ => xF_el_49
  | 50, _ => xF_el_50
  | 51, _ => xF_el_51
  | 52, _ => xF_el_52
  | 53, _ => xF_el_53
  | 54, _ => xF_el_54
  | 55, _ => xF_el_55
  | 56, _ => xF_el_56
  | n + 57, h => absurd h (by omega)
theorem xF_sl : ∀ i, i < 57 → (xSB i).length < 100 := by decide +kernel
theorem xF_sr : ∀ i, i < 57 → ∃ tx, Cond.stringRef (xStl.getD i ("", 0)).1 (xStl.getD i ("", 0)).2 tx ∈ tables_1 := by
  intro i hi
  have h : ∀ r ∈ xStl, ∃ tx, Cond.stringRef r.1 r.2 tx ∈ tables_1 := by
    unfold xStl
    exact List.forall_mem_cons.mpr ⟨⟨"no such page", List.mem_of_getElem? (i := 978) (by decide +kernel)⟩, List.forall_mem_cons.mpr ⟨⟨"no such row", List.mem_of_getElem? (i := 1009) (by decide +kernel)⟩, List.forall_mem_cons.mpr ⟨⟨"negative size", List.mem_of_getElem? (i := 1055) (by decide +kernel)⟩, List.forall_mem_cons.mpr ⟨⟨"no such kind of flip", List.mem_of_getElem? (i := 1088) (by decide +kernel)⟩, List.forall_mem_cons.mpr ⟨⟨"size out of range", List.mem_of_getElem? (i := 1097) (by decide +kernel)⟩, List.forall_mem_cons.mpr ⟨⟨"no such text line", List.mem_of_getElem? (i := 1161) (by decide +kernel)⟩, List.forall_mem_cons.mpr ⟨⟨"gap out of range", List.mem_of_getElem? (i := 1180) (by decide +kernel)⟩, List.forall_mem_cons.mpr ⟨⟨"no edit can be undone", List.mem_of_getElem? (i := 1224) (by decide +kernel)⟩, List.forall_mem_cons.mpr ⟨⟨"no printable character", List.mem_of_getElem? (i := 1242) (by decide +kernel)⟩, List.forall_mem_cons.mpr ⟨⟨"the text is full", List.mem_of_getElem? (i := 1247) (by decide +kernel)⟩, List.forall_mem_cons.mpr ⟨⟨"no such setting", List.mem_of_getElem? (i := 1261) (by decide +kernel)⟩, List.forall_mem_cons.mpr ⟨⟨"negative index", List.mem_of_getElem? (i := 1270) (by decide +kernel)⟩, List.forall_mem_cons.mpr ⟨⟨"no rectangle of the page", List.mem_of_getElem? (i := 1316) (by decide +kernel)⟩, List.forall_mem_cons.mpr ⟨⟨"too many masks", List.mem_of_getElem? (i := 1317) (by decide +kernel)⟩, List.forall_mem_cons.mpr ⟨⟨"no such mask", List.mem_of_getElem? (i := 1325) (by decide +kernel)⟩, List.forall_mem_cons.mpr ⟨⟨"no comparison", List.mem_of_getElem? (i := 1342) (by decide +kernel)⟩, List.forall_mem_cons.mpr ⟨⟨"shift out of range", List.mem_of_getElem? (i := 1385) (by decide +kernel)⟩, List.forall_mem_cons.mpr ⟨⟨"no such block", List.mem_of_getElem? (i := 1394) (by decide +kernel)⟩, List.forall_mem_cons.mpr ⟨⟨"no pixel of the page", List.mem_of_getElem? (i := 1413) (by decide +kernel)⟩, List.forall_mem_cons.mpr ⟨⟨"no such region", List.mem_of_getElem? (i := 1433) (by decide +kernel)⟩, List.forall_mem_cons.mpr ⟨⟨"no such change", List.mem_of_getElem? (i := 1491) (by decide +kernel)⟩, List.forall_mem_cons.mpr ⟨⟨"shift ", List.mem_of_getElem? (i := 1549) (by decide +kernel)⟩, List.forall_mem_cons.mpr ⟨⟨",", List.mem_of_getElem? (i := 1551) (by decide +kernel)⟩, List.forall_mem_cons.mpr ⟨⟨" skew ", List.mem_of_getElem? (i := 1558) (by decide +kernel)⟩, List.forall_mem_cons.mpr ⟨⟨" turned", List.mem_of_getElem? (i := 1560) (by decide +kernel)⟩, List.forall_mem_cons.mpr ⟨⟨" change", List.mem_of_getElem? (i := 1562) (by decide +kernel)⟩, List.forall_mem_cons.mpr ⟨⟨" changes", List.mem_of_getElem? (i := 1563) (by decide +kernel)⟩, List.forall_mem_cons.mpr ⟨⟨"moved ", List.mem_of_getElem? (i := 1568) (by decide +kernel)⟩, List.forall_mem_cons.mpr ⟨⟨" from ", List.mem_of_getElem? (i := 1571) (by decide +kernel)⟩, List.forall_mem_cons.mpr ⟨⟨",", List.mem_of_getElem? (i := 1572) (by decide +kernel)⟩, List.forall_mem_cons.mpr ⟨⟨" to ", List.mem_of_getElem? (i := 1574) (by decide +kernel)⟩, List.forall_mem_cons.mpr ⟨⟨"added ", List.mem_of_getElem? (i := 1575) (by decide +kernel)⟩, List.forall_mem_cons.mpr ⟨⟨"removed ", List.mem_of_getElem? (i := 1576) (by decide +kernel)⟩, List.forall_mem_cons.mpr ⟨⟨" at ", List.mem_of_getElem? (i := 1577) (by decide +kernel)⟩, List.forall_mem_cons.mpr ⟨⟨" size ", List.mem_of_getElem? (i := 1578) (by decide +kernel)⟩, List.forall_mem_cons.mpr ⟨⟨"x", List.mem_of_getElem? (i := 1579) (by decide +kernel)⟩, List.forall_mem_cons.mpr ⟨⟨" stamp ", List.mem_of_getElem? (i := 1580) (by decide +kernel)⟩, List.forall_mem_cons.mpr ⟨⟨"too many stamps", List.mem_of_getElem? (i := 1594) (by decide +kernel)⟩, List.forall_mem_cons.mpr ⟨⟨"no such stamp", List.mem_of_getElem? (i := 1619) (by decide +kernel)⟩, List.forall_mem_cons.mpr ⟨⟨"negative number of regions", List.mem_of_getElem? (i := 1643) (by decide +kernel)⟩, List.forall_mem_cons.mpr ⟨⟨"speckle", List.mem_of_getElem? (i := 2412) (by decide +kernel)⟩, List.forall_mem_cons.mpr ⟨⟨"", List.mem_of_getElem? (i := 2413) (by decide +kernel)⟩, List.forall_mem_cons.mpr ⟨⟨"search", List.mem_of_getElem? (i := 2414) (by decide +kernel)⟩, List.forall_mem_cons.mpr ⟨⟨"skew", List.mem_of_getElem? (i := 2415) (by decide +kernel)⟩, List.forall_mem_cons.mpr ⟨⟨"turn", List.mem_of_getElem? (i := 2416) (by decide +kernel)⟩, List.forall_mem_cons.mpr ⟨⟨"off", List.mem_of_getElem? (i := 2417) (by decide +kernel)⟩, List.forall_mem_cons.mpr ⟨⟨"on", List.mem_of_getElem? (i := 2418) (by decide +kernel)⟩, List.forall_mem_cons.mpr ⟨⟨"jitter", List.mem_of_getElem? (i := 2419) (by decide +kernel)⟩, List.forall_mem_cons.mpr ⟨⟨"block", List.mem_of_getElem? (i := 2420) (by decide +kernel)⟩, List.forall_mem_cons.mpr ⟨⟨"noise", List.mem_of_getElem? (i := 2421) (by decide +kernel)⟩, List.forall_mem_cons.mpr ⟨⟨"order", List.mem_of_getElem? (i := 2422) (by decide +kernel)⟩, List.forall_mem_cons.mpr ⟨⟨"rows", List.mem_of_getElem? (i := 2423) (by decide +kernel)⟩, List.forall_mem_cons.mpr ⟨⟨"columns", List.mem_of_getElem? (i := 2424) (by decide +kernel)⟩, List.forall_mem_cons.mpr ⟨⟨"pair", List.mem_of_getElem? (i := 2425) (by decide +kernel)⟩, List.forall_mem_cons.mpr ⟨⟨"stamps", List.mem_of_getElem? (i := 2426) (by decide +kernel)⟩, List.forall_mem_cons.mpr ⟨⟨"keep", List.mem_of_getElem? (i := 2427) (by decide +kernel)⟩, List.forall_mem_cons.mpr ⟨⟨"hide", List.mem_of_getElem? (i := 2428) (by decide +kernel)⟩, fun _ h => absurd h List.not_mem_nil⟩⟩⟩⟩⟩⟩⟩⟩⟩⟩⟩⟩⟩⟩⟩⟩⟩⟩⟩⟩⟩⟩⟩⟩⟩⟩⟩⟩⟩⟩⟩⟩⟩⟩⟩⟩⟩⟩⟩⟩⟩⟩⟩⟩⟩⟩⟩⟩⟩⟩⟩⟩⟩⟩⟩⟩⟩
  have hl : i < xStl.length := hi
  rw [List.getD_eq_getElem?_getD, List.getElem?_eq_getElem hl]
  exact h _ (List.getElem_mem hl)
theorem xF_se : ∀ i, i < 10 → Cond.exactly (xTmE i) "ScanCompare$Setting" ∈ flatC xBig := by decide +kernel
theorem xF_sy : ∀ i, i < 10 → Cond.laysStatic "ScanCompare$Setting" (xSn.getD i "") "LScanCompare$Setting;" ∈ tables_1 := by decide +kernel
/-- the settings' fields: name, descriptor -/
def xSf : List (String × String) := [("number", "I"), ("label", "Ljava/lang/String;"), ("least", "I"), ("greatest", "I"), ("initial", "I"), ("zeroWord", "Ljava/lang/String;"), ("oneWord", "Ljava/lang/String;")]
def xTmF (i j : Nat) : Term := .field (xTmE i) "ScanCompare$Setting" (xSf.getD j ("", "")).1 (xSf.getD j ("", "")).2
/-- what a setting's field is said to be -/
def xSw (j i : Nat) : Cond := match xSv j i with | some (.int v) => .eq (xTmF i j) (.int v) | some (.retAddr a) => .eq (xTmF i j) (xTmS (a - 20)) | _ => .count 0
theorem xF_sf : ∀ j, j < 7 → ∀ i, i < 10 → xSw j i ∈ flatC xBig := by decide +kernel
theorem xF_aa : Cond.arrayOf xTmA (.object "ScanCompare$Setting") ∈ flatC xBig ∧ Cond.eq (.length xTmA) (.int 10) ∈ flatC xBig ∧ ∀ i, i < 10 → Cond.eq (.elem xTmA (.int (Int32.ofNat i))) (xTmE i) ∈ flatC xBig := by decide +kernel
theorem xF_st : Cond.eq (.static "java/lang/String" "COMPACT_STRINGS" "Z") (.int 1) ∈ flatC xBig ∧ Cond.isRef (.static "jdk/internal/util/Preconditions" "SIOOBE_FORMATTER" "Ljava/util/function/BiFunction;") ∈ flatC xBig ∧ Cond.isRef (.static Bundle.tN "UNASSIGNED_STACK" Bundle.steD) ∈ flatC xBig ∧ Cond.isRef (.static Bundle.tN "SUPPRESSED_SENTINEL" Bundle.listD) ∈ flatC xBig := by decide +kernel
theorem xF_ly : Cond.laysStatic "ScanCompare" "SETTINGS" "[LScanCompare$Setting;" ∈ tables_1 ∧ Cond.laysStatic "java/lang/String" "COMPACT_STRINGS" "Z" ∈ tables_1 ∧ Cond.laysStatic "jdk/internal/util/Preconditions" "SIOOBE_FORMATTER" "Ljava/util/function/BiFunction;" ∈ tables_1 ∧ Cond.laysStatic Bundle.tN "UNASSIGNED_STACK" Bundle.steD ∈ tables_1 ∧ Cond.laysStatic Bundle.tN "SUPPRESSED_SENTINEL" Bundle.listD ∈ tables_1 ∧ Cond.initialized "ScanCompare" ∈ tables_1 ∧ Cond.initialized "java/lang/String" ∈ tables_1 ∧ Cond.initialized "jdk/internal/util/Preconditions" ∈ tables_1 ∧ Cond.initialized Bundle.tN ∈ tables_1 ∧ Cond.initialized "ScanCompare$Setting" ∈ tables_1 := by decide +kernel
theorem xF_nc : ∀ E ∈ xE3, ∀ nm ∈ xE3, E ≠ nm → Cond.not (.castable E nm) ∈ flatC xBig := by decide +kernel
def xCok1 (k : Nat) (r : Nat × Nat) : Prop := r.2 < 7 ∧ Cond.fieldLink (xNm k) r.1 "ScanCompare$Setting" (xSf.getD r.2 ("", "")).1 (xSf.getD r.2 ("", "")).2 ∈ xWs
def xCok2 (k : Nat) (r : Nat × Nat) : Prop := (r.2 = 0 ∧ Cond.fieldLink (xNm k) r.1 "java/lang/String" "value" "[B" ∈ xWs) ∨ (r.2 = 1 ∧ Cond.fieldLink (xNm k) r.1 "java/lang/String" "coder" "B" ∈ xWs)
def xCok3 (k : Nat) (r : Nat × Value) : Prop := (∃ i, i < 10 ∧ r.2 = .retAddr i ∧ Cond.fieldLink (xNm k) r.1 "ScanCompare$Setting" (xSn.getD i "") "LScanCompare$Setting;" ∈ xWs) ∨ (r.2 = .retAddr 10 ∧ (Cond.fieldLink (xNm k) r.1 "ScanCompare" "SETTINGS" "[LScanCompare$Setting;" ∈ xWs ∨ Cond.fieldLinkNest (xNm k) r.1 "ScanCompare" "SETTINGS" "[LScanCompare$Setting;" "ScanCompare" ∈ xNw)) ∨ (r.2 = .int 1 ∧ Cond.fieldLink (xNm k) r.1 "java/lang/String" "COMPACT_STRINGS" "Z" ∈ xWs) ∨ (r.2 = .retAddr 998 ∧ Cond.fieldLink (xNm k) r.1 "jdk/internal/util/Preconditions" "SIOOBE_FORMATTER" "Ljava/util/function/BiFunction;" ∈ xWs)
theorem xCfS_ok_2 : ∀ r ∈ xCfS 2, xCok1 2 r := by
  unfold xCfS
  exact List.forall_mem_cons.mpr ⟨⟨by decide, xw 2401 (by decide +kernel) rfl⟩, List.forall_mem_cons.mpr ⟨⟨by decide, xw 2402 (by decide +kernel) rfl⟩, List.forall_mem_cons.mpr ⟨⟨by decide, xw 2409 (by decide +kernel) rfl⟩, List.forall_mem_cons.mpr ⟨⟨by decide, xw 2410 (by decide +kernel) rfl⟩, List.forall_mem_cons.mpr ⟨⟨by decide, xw 2411 (by decide +kernel) rfl⟩, fun _ h => absurd h List.not_mem_nil⟩⟩⟩⟩⟩
theorem xCfS_ok_13 : ∀ r ∈ xCfS 13, xCok1 13 r := by
  unfold xCfS
  exact List.forall_mem_cons.mpr ⟨⟨by decide, xw 2405 (by decide +kernel) rfl⟩, List.forall_mem_cons.mpr ⟨⟨by decide, xw 2406 (by decide +kernel) rfl⟩, List.forall_mem_cons.mpr ⟨⟨by decide, xw 2407 (by decide +kernel) rfl⟩, List.forall_mem_cons.mpr ⟨⟨by decide, xw 2408 (by decide +kernel) rfl⟩, fun _ h => absurd h List.not_mem_nil⟩⟩⟩⟩
theorem xCfS_ok : (k : Nat) → ∀ r, r ∈ xCfS k → xCok1 k r
  | 0 => fun r h => (List.not_mem_nil (show r ∈ [] from h)).elim
  | 1 => fun r h => (List.not_mem_nil (show r ∈ [] from h)).elim
  | 2 => xCfS_ok_2
  | 3 => fun r h => (List.not_mem_nil (show r ∈ [] from h)).elim
  | 4 => fun r h => (List.not_mem_nil (show r ∈ [] from h)).elim
  | 5 => fun r h => (List.not_mem_nil (show r ∈ [] from h)).elim
  | 6 => fun r h => (List.not_mem_nil (show r ∈ [] from h)).elim
  | 7 => fun r h => (List.not_mem_nil (show r ∈ [] from h)).elim
  | 8 => fun r h => (List.not_mem_nil (show r ∈ [] from h)).elim
  | 9 => fun r h => (List.not_mem_nil (show r ∈ [] from h)).elim
  | 10 => fun r h => (List.not_mem_nil (show r ∈ [] from h)).elim
  | 11 => fun r h => (List.not_mem_nil (show r ∈ [] from h)).elim
  | 12 => fun r h => (List.not_mem_nil (show r ∈ [] from h)).elim
  | 13 => xCfS_ok_13
  | 14 => fun r h => (List.not_mem_nil (show r ∈ [] from h)).elim
  | 15 => fun r h => (List.not_mem_nil (show r ∈ [] from h)).elim
  | 16 => fun r h => (List.not_mem_nil (show r ∈ [] from h)).elim
  | 17 => fun r h => (List.not_mem_nil (show r ∈ [] from h)).elim
  | 18 => fun r h => (List.not_mem_nil (show r ∈ [] from h)).elim
  | 19 => fun r h => (List.not_mem_nil (show r ∈ [] from h)).elim
  | n + 20 => fun r h => (List.not_mem_nil (show r ∈ [] from h)).elim
theorem xCfR_ok_17 : ∀ r ∈ xCfR 17, xCok2 17 r := by
  unfold xCfR
  exact List.forall_mem_cons.mpr ⟨.inl ⟨rfl, xw 2403 (by decide +kernel) rfl⟩, List.forall_mem_cons.mpr ⟨.inr ⟨rfl, xw 2404 (by decide +kernel) rfl⟩, fun _ h => absurd h List.not_mem_nil⟩⟩
theorem xCfR_ok : (k : Nat) → ∀ r, r ∈ xCfR k → xCok2 k r
  | 0 => fun r h => (List.not_mem_nil (show r ∈ [] from h)).elim
  | 1 => fun r h => (List.not_mem_nil (show r ∈ [] from h)).elim
  | 2 => fun r h => (List.not_mem_nil (show r ∈ [] from h)).elim
  | 3 => fun r h => (List.not_mem_nil (show r ∈ [] from h)).elim
  | 4 => fun r h => (List.not_mem_nil (show r ∈ [] from h)).elim
  | 5 => fun r h => (List.not_mem_nil (show r ∈ [] from h)).elim
  | 6 => fun r h => (List.not_mem_nil (show r ∈ [] from h)).elim
  | 7 => fun r h => (List.not_mem_nil (show r ∈ [] from h)).elim
  | 8 => fun r h => (List.not_mem_nil (show r ∈ [] from h)).elim
  | 9 => fun r h => (List.not_mem_nil (show r ∈ [] from h)).elim
  | 10 => fun r h => (List.not_mem_nil (show r ∈ [] from h)).elim
  | 11 => fun r h => (List.not_mem_nil (show r ∈ [] from h)).elim
  | 12 => fun r h => (List.not_mem_nil (show r ∈ [] from h)).elim
  | 13 => fun r h => (List.not_mem_nil (show r ∈ [] from h)).elim
  | 14 => fun r h => (List.not_mem_nil (show r ∈ [] from h)).elim
  | 15 => fun r h => (List.not_mem_nil (show r ∈ [] from h)).elim
  | 16 => fun r h => (List.not_mem_nil (show r ∈ [] from h)).elim
  | 17 => xCfR_ok_17
  | 18 => fun r h => (List.not_mem_nil (show r ∈ [] from h)).elim
  | 19 => fun r h => (List.not_mem_nil (show r ∈ [] from h)).elim
  | n + 20 => fun r h => (List.not_mem_nil (show r ∈ [] from h)).elim
theorem xStas_ok_1 : ∀ r ∈ xStas 1, xCok3 1 r := by
  unfold xStas
  exact List.forall_mem_cons.mpr ⟨.inl ⟨3, by decide, rfl, xw 582 (by decide +kernel) rfl⟩, List.forall_mem_cons.mpr ⟨.inl ⟨4, by decide, rfl, xw 645 (by decide +kernel) rfl⟩, List.forall_mem_cons.mpr ⟨.inl ⟨5, by decide, rfl, xw 647 (by decide +kernel) rfl⟩, List.forall_mem_cons.mpr ⟨.inl ⟨6, by decide, rfl, xw 649 (by decide +kernel) rfl⟩, List.forall_mem_cons.mpr ⟨.inl ⟨2, by decide, rfl, xw 729 (by decide +kernel) rfl⟩, List.forall_mem_cons.mpr ⟨.inl ⟨0, by decide, rfl, xw 743 (by decide +kernel) rfl⟩, List.forall_mem_cons.mpr ⟨.inl ⟨1, by decide, rfl, xw 756 (by decide +kernel) rfl⟩, List.forall_mem_cons.mpr ⟨.inl ⟨7, by decide, rfl, xw 862 (by decide +kernel) rfl⟩, List.forall_mem_cons.mpr ⟨.inl ⟨8, by decide, rfl, xw 885 (by decide +kernel) rfl⟩, List.forall_mem_cons.mpr ⟨.inl ⟨9, by decide, rfl, xw 899 (by decide +kernel) rfl⟩, fun _ h => absurd h List.not_mem_nil⟩⟩⟩⟩⟩⟩⟩⟩⟩⟩
theorem xStas_ok_2 : ∀ r ∈ xStas 2, xCok3 2 r := by
  unfold xStas
  exact List.forall_mem_cons.mpr ⟨.inr (.inl ⟨rfl, .inr (by decide +kernel)⟩), fun _ h => absurd h List.not_mem_nil⟩
theorem xStas_ok_11 : ∀ r ∈ xStas 11, xCok3 11 r := by
  unfold xStas
  exact List.forall_mem_cons.mpr ⟨.inr (.inl ⟨rfl, .inl (xw 1260 (by decide +kernel) rfl)⟩), fun _ h => absurd h List.not_mem_nil⟩
theorem xStas_ok_17 : ∀ r ∈ xStas 17, xCok3 17 r := by
  unfold xStas
  exact List.forall_mem_cons.mpr ⟨.inr (.inr (.inl ⟨rfl, xw 478 (by decide +kernel) rfl⟩)), List.forall_mem_cons.mpr ⟨.inr (.inr (.inr ⟨rfl, xw 494 (by decide +kernel) rfl⟩)), fun _ h => absurd h List.not_mem_nil⟩⟩
theorem xStas_ok : (k : Nat) → ∀ r, r ∈ xStas k → xCok3 k r
  | 0 => fun r h => (List.not_mem_nil (show r ∈ [] from h)).elim
  | 1 => xStas_ok_1
  | 2 => xStas_ok_2
  | 3 => fun r h => (List.not_mem_nil (show r ∈ [] from h)).elim
  | 4 => fun r h => (List.not_mem_nil (show r ∈ [] from h)).elim
  | 5 => fun r h => (List.not_mem_nil (show r ∈ [] from h)).elim
  | 6 => fun r h => (List.not_mem_nil (show r ∈ [] from h)).elim
  | 7 => fun r h => (List.not_mem_nil (show r ∈ [] from h)).elim
  | 8 => fun r h => (List.not_mem_nil (show r ∈ [] from h)).elim
  | 9 => fun r h => (List.not_mem_nil (show r ∈ [] from h)).elim
  | 10 => fun r h => (List.not_mem_nil (show r ∈ [] from h)).elim
  | 11 => xStas_ok_11
  | 12 => fun r h => (List.not_mem_nil (show r ∈ [] from h)).elim
  | 13 => fun r h => (List.not_mem_nil (show r ∈ [] from h)).elim
  | 14 => fun r h => (List.not_mem_nil (show r ∈ [] from h)).elim
  | 15 => fun r h => (List.not_mem_nil (show r ∈ [] from h)).elim
  | 16 => fun r h => (List.not_mem_nil (show r ∈ [] from h)).elim
  | 17 => xStas_ok_17
  | 18 => fun r h => (List.not_mem_nil (show r ∈ [] from h)).elim
  | 19 => fun r h => (List.not_mem_nil (show r ∈ [] from h)).elim
  | n + 20 => fun r h => (List.not_mem_nil (show r ∈ [] from h)).elim
def xCok4 (k : Nat) (r : Nat × Value) : Prop := ∀ a, r.2 = .retAddr a → 20 ≤ a ∧ a < 77 ∧ xStl.getD (a - 20) ("", 0) = (xNm k, r.1)
theorem xLdcs_k_1 : ∀ r ∈ xLdcs 1, xCok4 1 r := by
  unfold xLdcs
  exact List.forall_mem_cons.mpr ⟨(fun a h => by cases h; exact ⟨by decide, by decide, by decide +kernel⟩), List.forall_mem_cons.mpr ⟨(fun a h => by cases h; exact ⟨by decide, by decide, by decide +kernel⟩), List.forall_mem_cons.mpr ⟨(fun a h => by cases h; exact ⟨by decide, by decide, by decide +kernel⟩), List.forall_mem_cons.mpr ⟨(fun a h => by cases h; exact ⟨by decide, by decide, by decide +kernel⟩), List.forall_mem_cons.mpr ⟨(fun a h => by cases h; exact ⟨by decide, by decide, by decide +kernel⟩), List.forall_mem_cons.mpr ⟨(fun a h => by cases h; exact ⟨by decide, by decide, by decide +kernel⟩), fun _ h => absurd h List.not_mem_nil⟩⟩⟩⟩⟩⟩
theorem xLdcs_k_5 : ∀ r ∈ xLdcs 5, xCok4 5 r := by
  unfold xLdcs
  exact List.forall_mem_cons.mpr ⟨(fun a h => by cases h; exact ⟨by decide, by decide, by decide +kernel⟩), List.forall_mem_cons.mpr ⟨(fun a h => by cases h; exact ⟨by decide, by decide, by decide +kernel⟩), List.forall_mem_cons.mpr ⟨(fun a h => by cases h; exact ⟨by decide, by decide, by decide +kernel⟩), List.forall_mem_cons.mpr ⟨(fun a h => by cases h; exact ⟨by decide, by decide, by decide +kernel⟩), List.forall_mem_cons.mpr ⟨(fun a h => by cases h; exact ⟨by decide, by decide, by decide +kernel⟩), List.forall_mem_cons.mpr ⟨(fun a h => by cases h; exact ⟨by decide, by decide, by decide +kernel⟩), List.forall_mem_cons.mpr ⟨(fun a h => by cases h; exact ⟨by decide, by decide, by decide +kernel⟩), List.forall_mem_cons.mpr ⟨(fun a h => by cases h; exact ⟨by decide, by decide, by decide +kernel⟩), List.forall_mem_cons.mpr ⟨(fun a h => by cases h; exact ⟨by decide, by decide, by decide +kernel⟩), List.forall_mem_cons.mpr ⟨(fun a h => by cases h; exact ⟨by decide, by decide, by decide +kernel⟩), fun _ h => absurd h List.not_mem_nil⟩⟩⟩⟩⟩⟩⟩⟩⟩⟩
theorem xLdcs_k_6 : ∀ r ∈ xLdcs 6, xCok4 6 r := by
  unfold xLdcs
  exact List.forall_mem_cons.mpr ⟨(fun a h => nomatch h), fun _ h => absurd h List.not_mem_nil⟩
theorem xLdcs_k_8 : ∀ r ∈ xLdcs 8, xCok4 8 r := by
  unfold xLdcs
  exact List.forall_mem_cons.mpr ⟨(fun a h => nomatch h), fun _ h => absurd h List.not_mem_nil⟩
theorem xLdcs_k_11 : ∀ r ∈ xLdcs 11, xCok4 11 r := by
  unfold xLdcs
  exact List.forall_mem_cons.mpr ⟨(fun a h => by cases h; exact ⟨by decide, by decide, by decide +kernel⟩), List.forall_mem_cons.mpr ⟨(fun a h => by cases h; exact ⟨by decide, by decide, by decide +kernel⟩), List.forall_mem_cons.mpr ⟨(fun a h => by cases h; exact ⟨by decide, by decide, by decide +kernel⟩), List.forall_mem_cons.mpr ⟨(fun a h => by cases h; exact ⟨by decide, by decide, by decide +kernel⟩), List.forall_mem_cons.mpr ⟨(fun a h => by cases h; exact ⟨by decide, by decide, by decide +kernel⟩), List.forall_mem_cons.mpr ⟨(fun a h => by cases h; exact ⟨by decide, by decide, by decide +kernel⟩), List.forall_mem_cons.mpr ⟨(fun a h => by cases h; exact ⟨by decide, by decide, by decide +kernel⟩), List.forall_mem_cons.mpr ⟨(fun a h => by cases h; exact ⟨by decide, by decide, by decide +kernel⟩), List.forall_mem_cons.mpr ⟨(fun a h => by cases h; exact ⟨by decide, by decide, by decide +kernel⟩), List.forall_mem_cons.mpr ⟨(fun a h => by cases h; exact ⟨by decide, by decide, by decide +kernel⟩), List.forall_mem_cons.mpr ⟨(fun a h => by cases h; exact ⟨by decide, by decide, by decide +kernel⟩), List.forall_mem_cons.mpr ⟨(fun a h => by cases h; exact ⟨by decide, by decide, by decide +kernel⟩), List.forall_mem_cons.mpr ⟨(fun a h => by cases h; exact ⟨by decide, by decide, by decide +kernel⟩), List.forall_mem_cons.mpr ⟨(fun a h => by cases h; exact ⟨by decide, by decide, by decide +kernel⟩), List.forall_mem_cons.mpr ⟨(fun a h => by cases h; exact ⟨by decide, by decide, by decide +kernel⟩), List.forall_mem_cons.mpr ⟨(fun a h => by cases h; exact ⟨by decide, by decide, by decide +kernel⟩), List.forall_mem_cons.mpr ⟨(fun a h => by cases h; exact ⟨by decide, by decide, by decide +kernel⟩), List.forall_mem_cons.mpr ⟨(fun a h => by cases h; exact ⟨by decide, by decide, by decide +kernel⟩), List.forall_mem_cons.mpr ⟨(fun a h => by cases h; exact ⟨by decide, by decide, by decide +kernel⟩), List.forall_mem_cons.mpr ⟨(fun a h => by cases h; exact ⟨by decide, by decide, by decide +kernel⟩), List.forall_mem_cons.mpr ⟨(fun a h => by cases h; exact ⟨by decide, by decide, by decide +kernel⟩), List.forall_mem_cons.mpr ⟨(fun a h => by cases h; exact ⟨by decide, by decide, by decide +kernel⟩), List.forall_mem_cons.mpr ⟨(fun a h => by cases h; exact ⟨by decide, by decide, by decide +kernel⟩), List.forall_mem_cons.mpr ⟨(fun a h => by cases h; exact ⟨by decide, by decide, by decide +kernel⟩), fun _ h => absurd h List.not_mem_nil⟩⟩⟩⟩⟩⟩⟩⟩⟩⟩⟩⟩⟩⟩⟩⟩⟩⟩⟩⟩⟩⟩⟩⟩
theorem xLdcs_k_12 : ∀ r ∈ xLdcs 12, xCok4 12 r := by
  unfold xLdcs
  exact List.forall_mem_cons.mpr ⟨(fun a h => nomatch h), List.forall_mem_cons.mpr ⟨(fun a h => nomatch h), fun _ h => absurd h List.not_mem_nil⟩⟩
theorem xLdcs_k_13 : ∀ r ∈ xLdcs 13, xCok4 13 r := by
  unfold xLdcs
  exact List.forall_mem_cons.mpr ⟨(fun a h => by cases h; exact ⟨by decide, by decide, by decide +kernel⟩), List.forall_mem_cons.mpr ⟨(fun a h => by cases h; exact ⟨by decide, by decide, by decide +kernel⟩), List.forall_mem_cons.mpr ⟨(fun a h => by cases h; exact ⟨by decide, by decide, by decide +kernel⟩), List.forall_mem_cons.mpr ⟨(fun a h => by cases h; exact ⟨by decide, by decide, by decide +kernel⟩), List.forall_mem_cons.mpr ⟨(fun a h => by cases h; exact ⟨by decide, by decide, by decide +kernel⟩), List.forall_mem_cons.mpr ⟨(fun a h => by cases h; exact ⟨by decide, by decide, by decide +kernel⟩), List.forall_mem_cons.mpr ⟨(fun a h => by cases h; exact ⟨by decide, by decide, by decide +kernel⟩), List.forall_mem_cons.mpr ⟨(fun a h => by cases h; exact ⟨by decide, by decide, by decide +kernel⟩), List.forall_mem_cons.mpr ⟨(fun a h => by cases h; exact ⟨by decide, by decide, by decide +kernel⟩), List.forall_mem_cons.mpr ⟨(fun a h => by cases h; exact ⟨by decide, by decide, by decide +kernel⟩), List.forall_mem_cons.mpr ⟨(fun a h => by cases h; exact ⟨by decide, by decide, by decide +kernel⟩), List.forall_mem_cons.mpr ⟨(fun a h => by cases h; exact ⟨by decide, by decide, by decide +kernel⟩), List.forall_mem_cons.mpr ⟨(fun a h => by cases h; exact ⟨by decide, by decide, by decide +kernel⟩), List.forall_mem_cons.mpr ⟨(fun a h => by cases h; exact ⟨by decide, by decide, by decide +kernel⟩), List.forall_mem_cons.mpr ⟨(fun a h => by cases h; exact ⟨by decide, by decide, by decide +kernel⟩), List.forall_mem_cons.mpr ⟨(fun a h => by cases h; exact ⟨by decide, by decide, by decide +kernel⟩), List.forall_mem_cons.mpr ⟨(fun a h => by cases h; exact ⟨by decide, by decide, by decide +kernel⟩), fun _ h => absurd h List.not_mem_nil⟩⟩⟩⟩⟩⟩⟩⟩⟩⟩⟩⟩⟩⟩⟩⟩⟩
theorem xLdcs_k : (k : Nat) → ∀ r, r ∈ xLdcs k → xCok4 k r
  | 0 => fun r h => (List.not_mem_nil (show r ∈ [] from h)).elim
  | 1 => xLdcs_k_1
  | 2 => fun r h => (List.not_mem_nil (show r ∈ [] from h)).elim
  | 3 => fun r h => (List.not_mem_nil (show r ∈ [] from h)).elim
  | 4 => fun r h => (List.not_mem_nil (show r ∈ [] from h)).elim
  | 5 => xLdcs_k_5
  | 6 => xLdcs_k_6
  | 7 => fun r h => (List.not_mem_nil (show r ∈ [] from h)).elim
  | 8 => xLdcs_k_8
  | 9 => fun r h => (List.not_mem_nil (show r ∈ [] from h)).elim
  | 10 => fun r h => (List.not_mem_nil (show r ∈ [] from h)).elim
  | 11 => xLdcs_k_11
  | 12 => xLdcs_k_12
  | 13 => xLdcs_k_13
  | 14 => fun r h => (List.not_mem_nil (show r ∈ [] from h)).elim
  | 15 => fun r h => (List.not_mem_nil (show r ∈ [] from h)).elim
  | 16 => fun r h => (List.not_mem_nil (show r ∈ [] from h)).elim
  | 17 => fun r h => (List.not_mem_nil (show r ∈ [] from h)).elim
  | 18 => fun r h => (List.not_mem_nil (show r ∈ [] from h)).elim
  | 19 => fun r h => (List.not_mem_nil (show r ∈ [] from h)).elim
  | n + 20 => fun r h => (List.not_mem_nil (show r ∈ [] from h)).elim
theorem xIn_ok {c : Nat} (h : c < 13) : Cond.instantiable (xNm c) (xNf c) ∈ xWs := by
  by_cases e : c = 0
  · subst e; exact xw 91 (by decide +kernel) rfl
  by_cases e : c = 1
  · subst e; exact xw 232 (by decide +kernel) rfl
  by_cases e : c = 2
  · subst e; exact xw 129 (by decide +kernel) rfl
  by_cases e : c = 3
  · subst e; exact xw 69 (by decide +kernel) rfl
  by_cases e : c = 4
  · subst e; exact xw 45 (by decide +kernel) rfl
  by_cases e : c = 5
  · subst e; exact xw 165 (by decide +kernel) rfl
  by_cases e : c = 6
  · subst e; exact xw 371 (by decide +kernel) rfl
  by_cases e : c = 7
  · subst e; exact xw 778 (by decide +kernel) rfl
  by_cases e : c = 8
  · subst e; exact xw 243 (by decide +kernel) rfl
  by_cases e : c = 9
  · subst e; exact xw 158 (by decide +kernel) rfl
  by_cases e : c = 10
  · subst e; exact xw 116 (by decide +kernel) rfl
  by_cases e : c = 11
  · subst e; exact xw 30 (by decide +kernel) rfl
  by_cases e : c = 12
  · subst e; exact xw 1649 (by decide +kernel) rfl
  omega
theorem xF_sv : ∀ j, j < 7 → ∀ i, i < 10 → (match xSv j i with | some (.retAddr c) => decide (20 ≤ c ∧ c < 77) | some (.int _) => true | _ => false) = true := by decide +kernel
theorem xNw_tab : ∀ w ∈ xNw, w ∈ lw_tbl := fun w h => List.mem_append_right _ (xNw_in w h)
