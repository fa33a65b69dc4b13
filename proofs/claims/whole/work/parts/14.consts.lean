/-! THE LAW'S START: what the Statement gives of it, in the words of the abstract run (by program, wip/whole/gen14.py) -/
def xBig : Cond := Jvm.Cond.and given_1 narrow_1
/-- the String constants: class and entry -/
def xStl : List (String × Nat) := [("ScanCompare", 404), ("ScanCompare", 406), ("ScanCompare", 408), ("ScanCompare", 133), ("ScanCompare", 142), ("ScanCompare", 413), ("ScanCompare", 171), ("ScanCompare", 190), ("ScanCompare", 197), ("ScanCompare", 202), ("ScanCompare", 220), ("ScanCompare", 227), ("ScanCompare", 243), ("ScanCompare", 248), ("ScanCompare", 250), ("ScanCompare", 376), ("ScanCompare", 294), ("ScanCompare", 312), ("ScanCompare", 320), ("ScanCompare", 421), ("ScanCompare", 426), ("ScanCompare$Comparison", 309), ("ScanCompare$Comparison", 317), ("ScanCompare$Comparison", 323), ("ScanCompare$Comparison", 335), ("ScanCompare$Comparison", 340), ("ScanCompare$Comparison", 342), ("ScanCompare$Part", 67), ("ScanCompare$Part", 79), ("ScanCompare$Part", 81), ("ScanCompare$Part", 87), ("ScanCompare$Part", 89), ("ScanCompare$Part", 91), ("ScanCompare$Part", 93), ("ScanCompare$Part", 95), ("ScanCompare$Part", 97), ("ScanCompare$Part", 102), ("ScanCompare", 383), ("ScanCompare", 390), ("ScanCompare", 399), ("ScanCompare$Setting", 116), ("ScanCompare$Setting", 72), ("ScanCompare$Setting", 119), ("ScanCompare$Setting", 122), ("ScanCompare$Setting", 125), ("ScanCompare$Setting", 127), ("ScanCompare$Setting", 129), ("ScanCompare$Setting", 113), ("ScanCompare$Setting", 104), ("ScanCompare$Setting", 110), ("ScanCompare$Setting", 135), ("ScanCompare$Setting", 137), ("ScanCompare$Setting", 139), ("ScanCompare$Setting", 142), ("ScanCompare$Setting", 145), ("ScanCompare$Setting", 147), ("ScanCompare$Setting", 149)]
def xTmS (i : Nat) : Term := .string (xStl.getD i ("", 0)).1 (xStl.getD i ("", 0)).2
def xSB (i : Nat) : List Int32 := (xBys i).getD []
def xSn : List String := ["BLOCK", "NOISE", "JITTER", "SPECKLE", "SEARCH", "SKEW", "TURN", "ORDER", "PAIR", "STAMPS"]
def xTmE (i : Nat) : Term := .static "ScanCompare$Setting" (xSn.getD i "") "LScanCompare$Setting;"
def xTmA : Term := .static "ScanCompare" "SETTINGS" "[LScanCompare$Setting;"
abbrev xTmV (i : Nat) : Term := .field (xTmS i) "java/lang/String" "value" "[B"
theorem xF_ex : ∀ i, i < 57 → Cond.exactly (xTmS i) "java/lang/String" ∈ flatC xBig := by decide +kernel
theorem xF_co : ∀ i, i < 57 → Cond.eq (.field (xTmS i) "java/lang/String" "coder" "B") (.int 0) ∈ flatC xBig := by decide +kernel
theorem xF_ar : ∀ i, i < 57 → Cond.arrayOf (xTmV i) .byte ∈ flatC xBig := by decide +kernel
theorem xF_le : ∀ i, i < 57 → Cond.eq (.length (xTmV i)) (.int (Int32.ofNat (xSB i).length)) ∈ flatC xBig := by decide +kernel
theorem xF_el : ∀ i, i < 57 → ∀ j, j < (xSB i).length → Cond.eq (.elem (xTmV i) (.int (Int32.ofNat j))) (.int ((xSB i).getD j 0)) ∈ flatC xBig := by decide +kernel
theorem xF_sl : ∀ i, i < 57 → (xSB i).length < 100 := by decide +kernel
theorem xF_sr : ∀ i, i < 57 → ∃ tx, Cond.stringRef (xStl.getD i ("", 0)).1 (xStl.getD i ("", 0)).2 tx ∈ tables_1 := by
  intro i hi
  have h : ∀ r ∈ xStl, ∃ tx, Cond.stringRef r.1 r.2 tx ∈ tables_1 := by
    unfold xStl
    exact List.forall_mem_cons.mpr ⟨⟨"no such page", List.mem_of_getElem? (i := 978) (by decide +kernel)⟩, List.forall_mem_cons.mpr ⟨⟨"no such row", List.mem_of_getElem? (i := 1009) (by decide +kernel)⟩, List.forall_mem_cons.mpr ⟨⟨"negative size", List.mem_of_getElem? (i := 1055) (by decide +kernel)⟩, List.forall_mem_cons.mpr ⟨⟨"no such kind of flip", List.mem_of_getElem? (i := 1088) (by decide +kernel)⟩, List.forall_mem_cons.mpr ⟨⟨"size out of range", List.mem_of_getElem? (i := 1097) (by decide +kernel)⟩, List.forall_mem_cons.mpr ⟨⟨"no such text line", List.mem_of_getElem? (i := 1161) (by decide +kernel)⟩, List.forall_mem_cons.mpr ⟨⟨"gap out of range", List.mem_of_getElem? (i := 1180) (by decide +kernel)⟩, List.forall_mem_cons.mpr ⟨⟨"no edit can be undone", List.mem_of_getElem? (i := 1224) (by decide +kernel)⟩, List.forall_mem_cons.mpr ⟨⟨"no printable character", List.mem_of_getElem? (i := 1242) (by decide +kernel)⟩, List.forall_mem_cons.mpr ⟨⟨"the text is full", List.mem_of_getElem? (i := 1247) (by decide +kernel)⟩, List.forall_mem_cons.mpr ⟨⟨"no such setting", List.mem_of_getElem? (i := 1261) (by decide +kernel)⟩, List.forall_mem_cons.mpr ⟨⟨"negative index", List.mem_of_getElem? (i := 1270) (by decide +kernel)⟩, List.forall_mem_cons.mpr ⟨⟨"no rectangle of the page", List.mem_of_getElem? (i := 1316) (by decide +kernel)⟩, List.forall_mem_cons.mpr ⟨⟨"too many masks", List.mem_of_getElem? (i := 1317) (by decide +kernel)⟩, List.forall_mem_cons.mpr ⟨⟨"no such mask", List.mem_of_getElem? (i := 1325) (by decide +kernel)⟩, List.forall_mem_cons.mpr ⟨⟨"no comparison", List.mem_of_getElem? (i := 1342) (by decide +kernel)⟩, List.forall_mem_cons.mpr ⟨⟨"shift out of range", List.mem_of_getElem? (i := 1385) (by decide +kernel)⟩, List.forall_mem_cons.mpr ⟨⟨"no such block", List.mem_of_getElem? (i := 1394) (by decide +kernel)⟩, List.forall_mem_cons.mpr ⟨⟨"no pixel of the page", List.mem_of_getElem? (i := 1413) (by decide +kernel)⟩, List.forall_mem_cons.mpr ⟨⟨"no such region", List.mem_of_getElem? (i := 1433) (by decide +kernel)⟩, List.forall_mem_cons.mpr ⟨⟨"no such change", List.mem_of_getElem? (i := 1491) (by decide +kernel)⟩, List.forall_mem_cons.mpr ⟨⟨"shift ", List.mem_of_getElem? (i := 1549) (by decide +kernel)⟩, List.forall_mem_cons.mpr ⟨⟨",", List.mem_of_getElem? (i := 1551) (by decide +kernel)⟩, List.forall_mem_cons.mpr ⟨⟨" skew ", List.mem_of_getElem? (i := 1558) (by decide +kernel)⟩, List.forall_mem_cons.mpr ⟨⟨" turned", List.mem_of_getElem? (i := 1560) (by decide +kernel)⟩, List.forall_mem_cons.mpr ⟨⟨" change", List.mem_of_getElem? (i := 1562) (by decide +kernel)⟩, List.forall_mem_cons.mpr ⟨⟨" changes", List.mem_of_getElem? (i := 1563) (by decide +kernel)⟩, List.forall_mem_cons.mpr ⟨⟨"moved ", List.mem_of_getElem? (i := 1568) (by decide +kernel)⟩, List.forall_mem_cons.mpr ⟨⟨" from ", List.mem_of_getElem? (i := 1571) (by decide +kernel)⟩, List.forall_mem_cons.mpr ⟨⟨",", List.mem_of_getElem? (i := 1572) (by decide +kernel)⟩, List.forall_mem_cons.mpr ⟨⟨" to ", List.mem_of_getElem? (i := 1574) (by decide +kernel)⟩, List.forall_mem_cons.mpr ⟨⟨"added ", List.mem_of_getElem? (i := 1575) (by decide +kernel)⟩, List.forall_mem_cons.mpr ⟨⟨"removed ", List.mem_of_getElem? (i := 1576) (by decide +kernel)⟩, List.forall_mem_cons.mpr ⟨⟨" at ", List.mem_of_getElem? (i := 1577) (by decide +kernel)⟩, List.forall_mem_cons.mpr ⟨⟨" size ", List.mem_of_getElem? (i := 1578) (by decide +kernel)⟩, List.forall_mem_cons.mpr ⟨⟨"x", List.mem_of_getElem? (i := 1579) (by decide +kernel)⟩, List.forall_mem_cons.mpr ⟨⟨" stamp ", List.mem_of_getElem? (i := 1580) (by decide +kernel)⟩, List.forall_mem_cons.mpr ⟨⟨"too many stamps", List.mem_of_getElem? (i := 1594) (by decide +kernel)⟩, List.forall_mem_cons.mpr ⟨⟨"no such stamp", List.mem_of_getElem? (i := 1619) (by decide +kernel)⟩, List.forall_mem_cons.mpr ⟨⟨"negative number of regions", List.mem_of_getElem? (i := 1643) (by decide +kernel)⟩, List.forall_mem_cons.mpr ⟨⟨"speckle", List.mem_of_getElem? (i := 2412) (by decide +kernel)⟩, List.forall_mem_cons.mpr ⟨⟨"", List.mem_of_getElem? (i := 2413) (by decide +kernel)⟩, List.forall_mem_cons.mpr ⟨⟨"search", List.mem_of_getElem? (i := 2414) (by decide +kernel)⟩, List.forall_mem_cons.mpr ⟨⟨"skew", List.mem_of_getElem? (i := 2415) (by decide +kernel)⟩, List.forall_mem_cons.mpr ⟨⟨"turn", List.mem_of_getElem? (i := 2416) (by decide +kernel)⟩, List.forall_mem_cons.mpr ⟨⟨"off", List.mem_of_getElem? (i := 2417) (by decide +kernel)⟩, List.forall_mem_cons.mpr ⟨⟨"on", List.mem_of_getElem? (i := 2418) (by decide +kernel)⟩, List.forall_mem_cons.mpr ⟨⟨"jitter", List.mem_of_getElem? (i := 2419) (by decide +kernel)⟩, List.forall_mem_cons.mpr ⟨⟨"block", List.mem_of_getElem? (i := 2420) (by decide +kernel)⟩, List.forall_mem_cons.mpr ⟨⟨"noise", List.mem_of_getElem? (i := 2421) (by decide +kernel)⟩, List.forall_mem_cons.mpr ⟨⟨"order", List.mem_of_getElem? (i := 2422) (by decide +kernel)⟩, List.forall_mem_cons.mpr ⟨⟨"rows", List.mem_of_getElem? (i := 2423) (by decide +kernel)⟩, List.forall_mem_cons.mpr ⟨⟨"columns", List.mem_of_getElem? (i := 2424) (by decide +kernel)⟩, List.forall_mem_cons.mpr ⟨⟨"pair", List.mem_of_getElem? (i := 2425) (by decide +kernel)⟩, List.forall_mem_cons.mpr ⟨⟨"stamps", List.mem_of_getElem? (i := 2426) (by decide +kernel)⟩, List.forall_mem_cons.mpr ⟨⟨"keep", List.mem_of_getElem? (i := 2427) (by decide +kernel)⟩, List.forall_mem_cons.mpr ⟨⟨"hide", List.mem_of_getElem? (i := 2428) (by decide +kernel)⟩, fun _ h => absurd h List.not_mem_nil⟩⟩⟩⟩⟩⟩⟩⟩⟩⟩⟩⟩⟩⟩⟩⟩⟩⟩⟩⟩⟩⟩⟩⟩⟩⟩⟩⟩⟩⟩⟩⟩⟩⟩⟩⟩⟩⟩⟩⟩⟩⟩⟩⟩⟩⟩⟩⟩⟩⟩⟩⟩⟩⟩⟩⟩⟩
  have hl : i < xStl.length := hi
  rw [List.getD_eq_getElem?_getD, List.getElem?_eq_getElem hl]
  exact h _ (List.getElem_mem hl)
theorem xF_se : ∀ i, i < 10 → Cond.exactly (xTmE i) "ScanCompare$Setting" ∈ flatC xBig := by decide +kernel
theorem xF_sy : ∀ i, i < 10 → Cond.laysStatic "ScanCompare$Setting" (xSn.getD i "") "LScanCompare$Setting;" ∈ tables_1 := by decide +kernel
/-- the settings' fields: name, descriptor -/
def xSf : List (String × String) := [("number", "I"), ("label", "Ljava/lang/String;"), ("least", "I"), ("greatest", "I"), ("initial", "I"), ("zeroWord", "Ljava/lang/String;"), ("oneWord", "Ljava/lang/String;")]
def xTmF (i j : Nat) : Term := .field (xTmE i) "ScanCompare$Setting" (xSf.getD j ("", "")).1 (xSf.getD j ("", "")).2
/-- what a setting's field is said to be -/
def xSw (j i : Nat) : Cond := match xSv j i with | some (.int v) => .eq (xTmF i j) (.int v) | some (.retAddr a) => .eq (xTmF i j) (xTmS (a - 20)) | _ => .count 0
theorem xF_sf : ∀ j, j < 7 → ∀ i, i < 10 → xSw j i ∈ flatC xBig := by decide +kernel
theorem xF_aa : Cond.arrayOf xTmA (.object "ScanCompare$Setting") ∈ flatC xBig ∧ Cond.eq (.length xTmA) (.int 10) ∈ flatC xBig ∧ ∀ i, i < 10 → Cond.eq (.elem xTmA (.int (Int32.ofNat i))) (xTmE i) ∈ flatC xBig := by decide +kernel
theorem xF_st : Cond.eq (.static "java/lang/String" "COMPACT_STRINGS" "Z") (.int 1) ∈ flatC xBig ∧ Cond.isRef (.static "jdk/internal/util/Preconditions" "SIOOBE_FORMATTER" "Ljava/util/function/BiFunction;") ∈ flatC xBig ∧ Cond.isRef (.static Bundle.tN "UNASSIGNED_STACK" Bundle.steD) ∈ flatC xBig ∧ Cond.isRef (.static Bundle.tN "SUPPRESSED_SENTINEL" Bundle.listD) ∈ flatC xBig := by decide +kernel
theorem xF_ly : Cond.laysStatic "ScanCompare" "SETTINGS" "[LScanCompare$Setting;" ∈ tables_1 ∧ Cond.laysStatic "java/lang/String" "COMPACT_STRINGS" "Z" ∈ tables_1 ∧ Cond.laysStatic "jdk/internal/util/Preconditions" "SIOOBE_FORMATTER" "Ljava/util/function/BiFunction;" ∈ tables_1 ∧ Cond.laysStatic Bundle.tN "UNASSIGNED_STACK" Bundle.steD ∈ tables_1 ∧ Cond.laysStatic Bundle.tN "SUPPRESSED_SENTINEL" Bundle.listD ∈ tables_1 ∧ Cond.initialized "ScanCompare" ∈ tables_1 ∧ Cond.initialized "java/lang/String" ∈ tables_1 ∧ Cond.initialized "jdk/internal/util/Preconditions" ∈ tables_1 ∧ Cond.initialized Bundle.tN ∈ tables_1 ∧ Cond.initialized "ScanCompare$Setting" ∈ tables_1 := by decide +kernel
theorem xF_nc : ∀ E ∈ xE3, ∀ nm ∈ xE3, E ≠ nm → Cond.not (.castable E nm) ∈ flatC xBig := by decide +kernel
def xCok1 (k : Nat) (r : Nat × Nat) : Prop := r.2 < 7 ∧ Cond.fieldLink (xNm k) r.1 "ScanCompare$Setting" (xSf.getD r.2 ("", "")).1 (xSf.getD r.2 ("", "")).2 ∈ xWs
def xCok2 (k : Nat) (r : Nat × Nat) : Prop := (r.2 = 0 ∧ Cond.fieldLink (xNm k) r.1 "java/lang/String" "value" "[B" ∈ xWs) ∨ (r.2 = 1 ∧ Cond.fieldLink (xNm k) r.1 "java/lang/String" "coder" "B" ∈ xWs)
def xCok3 (k : Nat) (r : Nat × Value) : Prop := (∃ i, i < 10 ∧ r.2 = .retAddr i ∧ Cond.fieldLink (xNm k) r.1 "ScanCompare$Setting" (xSn.getD i "") "LScanCompare$Setting;" ∈ xWs) ∨ (r.2 = .retAddr 10 ∧ (Cond.fieldLink (xNm k) r.1 "ScanCompare" "SETTINGS" "[LScanCompare$Setting;" ∈ xWs ∨ Cond.fieldLinkNest (xNm k) r.1 "ScanCompare" "SETTINGS" "[LScanCompare$Setting;" "ScanCompare" ∈ xNw)) ∨ (r.2 = .int 1 ∧ Cond.fieldLink (xNm k) r.1 "java/lang/String" "COMPACT_STRINGS" "Z" ∈ xWs) ∨ (r.2 = .retAddr 998 ∧ Cond.fieldLink (xNm k) r.1 "jdk/internal/util/Preconditions" "SIOOBE_FORMATTER" "Ljava/util/function/BiFunction;" ∈ xWs)
theorem xCfS_ok_2 : ∀ r ∈ xCfS 2, xCok1 2 r := by
  unfold xCfS
  exact List.forall_mem_cons.mpr ⟨⟨by decide, xw 2401 (by decide +kernel) rfl⟩, List.forall_mem_cons.mpr ⟨⟨by decide, xw 2402 (by decide +kernel) rfl⟩, List.forall_mem_cons.mpr ⟨⟨by decide, xw 2409 (by decide +kernel) rfl⟩, List.forall_mem_cons.mpr ⟨⟨by decide, xw 2410 (by decide +kernel) rfl⟩, List.forall_mem_cons.mpr ⟨⟨by decide, xw 2411 (by decide +kernel) rfl⟩, fun _ h => absurd h List.not_mem_nil⟩⟩⟩⟩⟩
theorem xCfS_ok_13 : ∀ r ∈ xCfS 13, xCok1 13 r := by
  unfold xCfS
  exact List.forall_mem_cons.mpr ⟨⟨by decide, xw 2405 (by decide +kernel) rfl⟩, List.forall_mem_cons.mpr ⟨⟨by decide, xw 2406 (by decide +kernel) rfl⟩, List.forall_mem_cons.mpr ⟨⟨by decide, xw 2407 (by decide +kernel) rfl⟩, List.forall_mem_cons.mpr ⟨⟨by decide, xw 2408 (by decide +kernel) rfl⟩, fun _ h => absurd h List.not_mem_nil⟩⟩⟩⟩
theorem xCfS_ok : (k : Nat) → ∀ r, r ∈ xCfS k → xCok1 k r
  | 0 => fun r h => (List.not_mem_nil (show r ∈ [] from h)).elim
  | 1 => fun r h => (List.not_mem_nil (show r ∈ [] from h)).elim
  | 2 => xCfS_ok_2
  | 3 => fun r h => (List.not_mem_nil (show r ∈ [] from h)).elim
  | 4 => fun r h => (List.not_mem_nil (show r ∈ [] from h)).elim
  | 5 => fun r h => (List.not_mem_nil (show r ∈ [] from h)).elim
  | 6 => fun r h => (List.not_mem_nil (show r ∈ [] from h)).elim
  | 7 => fun r h => (List.not_mem_nil (show r ∈ [] from h)).elim
  | 8 => fun r h => (List.not_mem_nil (show r ∈ [] from h)).elim
  | 9 => fun r h => (List.not_mem_nil (show r ∈ [] from h)).elim
  | 10 => fun r h => (List.not_mem_nil (show r ∈ [] from h)).elim
  | 11 => fun r h => (List.not_mem_nil (show r ∈ [] from h)).elim
  | 12 => fun r h => (List.not_mem_nil (show r ∈ [] from h)).elim
  | 13 => xCfS_ok_13
  | 14 => fun r h => (List.not_mem_nil (show r ∈ [] from h)).elim
  | 15 => fun r h => (List.not_mem_nil (show r ∈ [] from h)).elim
  | 16 => fun r h => (List.not_mem_nil (show r ∈ [] from h)).elim
  | 17 => fun r h => (List.not_mem_nil (show r ∈ [] from h)).elim
  | 18 => fun r h => (List.not_mem_nil (show r ∈ [] from h)).elim
  | 19 => fun r h => (List.not_mem_nil (show r ∈ [] from h)).elim
  | n + 20 => fun r h => (List.not_mem_nil (show r ∈ [] from h)).elim
theorem xCfR_ok_17 : ∀ r ∈ xCfR 17, xCok2 17 r := by
  unfold xCfR
  exact List.forall_mem_cons.mpr ⟨.inl ⟨rfl, xw 2403 (by decide +kernel) rfl⟩, List.forall_mem_cons.mpr ⟨.inr ⟨rfl, xw 2404 (by decide +kernel) rfl⟩, fun _ h => absurd h List.not_mem_nil⟩⟩
theorem xCfR_ok : (k : Nat) → ∀ r, r ∈ xCfR k → xCok2 k r
  | 0 => fun r h => (List.not_mem_nil (show r ∈ [] from h)).elim
  | 1 => fun r h => (List.not_mem_nil (show r ∈ [] from h)).elim
  | 2 => fun r h => (List.not_mem_nil (show r ∈ [] from h)).elim
  | 3 => fun r h => (List.not_mem_nil (show r ∈ [] from h)).elim
  | 4 => fun r h => (List.not_mem_nil (show r ∈ [] from h)).elim
  | 5 => fun r h => (List.not_mem_nil (show r ∈ [] from h)).elim
  | 6 => fun r h => (List.not_mem_nil (show r ∈ [] from h)).elim
  | 7 => fun r h => (List.not_mem_nil (show r ∈ [] from h)).elim
  | 8 => fun r h => (List.not_mem_nil (show r ∈ [] from h)).elim
  | 9 => fun r h => (List.not_mem_nil (show r ∈ [] from h)).elim
  | 10 => fun r h => (List.not_mem_nil (show r ∈ [] from h)).elim
  | 11 => fun r h => (List.not_mem_nil (show r ∈ [] from h)).elim
  | 12 => fun r h => (List.not_mem_nil (show r ∈ [] from h)).elim
  | 13 => fun r h => (List.not_mem_nil (show r ∈ [] from h)).elim
  | 14 => fun r h => (List.not_mem_nil (show r ∈ [] from h)).elim
  | 15 => fun r h => (List.not_mem_nil (show r ∈ [] from h)).elim
  | 16 => fun r h => (List.not_mem_nil (show r ∈ [] from h)).elim
  | 17 => xCfR_ok_17
  | 18 => fun r h => (List.not_mem_nil (show r ∈ [] from h)).elim
  | 19 => fun r h => (List.not_mem_nil (show r ∈ [] from h)).elim
  | n + 20 => fun r h => (List.not_mem_nil (show r ∈ [] from h)).elim
theorem xStas_ok_1 : ∀ r ∈ xStas 1, xCok3 1 r := by
  unfold xStas
  exact List.forall_mem_cons.mpr ⟨.inl ⟨3, by decide, rfl, xw 582 (by decide +kernel) rfl⟩, List.forall_mem_cons.mpr ⟨.inl ⟨4, by decide, rfl, xw 645 (by decide +kernel) rfl⟩, List.forall_mem_cons.mpr ⟨.inl ⟨5, by decide, rfl, xw 647 (by decide +kernel) rfl⟩, List.forall_mem_cons.mpr ⟨.inl ⟨6, by decide, rfl, xw 649 (by decide +kernel) rfl⟩, List.forall_mem_cons.mpr ⟨.inl ⟨2, by decide, rfl, xw 729 (by decide +kernel) rfl⟩, List.forall_mem_cons.mpr ⟨.inl ⟨0, by decide, rfl, xw 743 (by decide +kernel) rfl⟩, List.forall_mem_cons.mpr ⟨.inl ⟨1, by decide, rfl, xw 756 (by decide +kernel) rfl⟩, List.forall_mem_cons.mpr ⟨.inl ⟨7, by decide, rfl, xw 862 (by decide +kernel) rfl⟩, List.forall_mem_cons.mpr ⟨.inl ⟨8, by decide, rfl, xw 885 (by decide +kernel) rfl⟩, List.forall_mem_cons.mpr ⟨.inl ⟨9, by decide, rfl, xw 899 (by decide +kernel) rfl⟩, fun _ h => absurd h List.not_mem_nil⟩⟩⟩⟩⟩⟩⟩⟩⟩⟩
theorem xStas_ok_2 : ∀ r ∈ xStas 2, xCok3 2 r := by
  unfold xStas
  exact List.forall_mem_cons.mpr ⟨.inr (.inl ⟨rfl, .inr (by decide +kernel)⟩), fun _ h => absurd h List.not_mem_nil⟩
theorem xStas_ok_11 : ∀ r ∈ xStas 11, xCok3 11 r := by
  unfold xStas
  exact List.forall_mem_cons.mpr ⟨.inr (.inl ⟨rfl, .inl (xw 1260 (by decide +kernel) rfl)⟩), fun _ h => absurd h List.not_mem_nil⟩
theorem xStas_ok_17 : ∀ r ∈ xStas 17, xCok3 17 r := by
  unfold xStas
  exact List.forall_mem_cons.mpr ⟨.inr (.inr (.inl ⟨rfl, xw 478 (by decide +kernel) rfl⟩)), List.forall_mem_cons.mpr ⟨.inr (.inr (.inr ⟨rfl, xw 494 (by decide +kernel) rfl⟩)), fun _ h => absurd h List.not_mem_nil⟩⟩
theorem xStas_ok : (k : Nat) → ∀ r, r ∈ xStas k → xCok3 k r
  | 0 => fun r h => (List.not_mem_nil (show r ∈ [] from h)).elim
  | 1 => xStas_ok_1
  | 2 => xStas_ok_2
  | 3 => fun r h => (List.not_mem_nil (show r ∈ [] from h)).elim
  | 4 => fun r h => (List.not_mem_nil (show r ∈ [] from h)).elim
  | 5 => fun r h => (List.not_mem_nil (show r ∈ [] from h)).elim
  | 6 => fun r h => (List.not_mem_nil (show r ∈ [] from h)).elim
  | 7 => fun r h => (List.not_mem_nil (show r ∈ [] from h)).elim
  | 8 => fun r h => (List.not_mem_nil (show r ∈ [] from h)).elim
  | 9 => fun r h => (List.not_mem_nil (show r ∈ [] from h)).elim
  | 10 => fun r h => (List.not_mem_nil (show r ∈ [] from h)).elim
  | 11 => xStas_ok_11
  | 12 => fun r h => (List.not_mem_nil (show r ∈ [] from h)).elim
  | 13 => fun r h => (List.not_mem_nil (show r ∈ [] from h)).elim
  | 14 => fun r h => (List.not_mem_nil (show r ∈ [] from h)).elim
  | 15 => fun r h => (List.not_mem_nil (show r ∈ [] from h)).elim
  | 16 => fun r h => (List.not_mem_nil (show r ∈ [] from h)).elim
  | 17 => xStas_ok_17
  | 18 => fun r h => (List.not_mem_nil (show r ∈ [] from h)).elim
  | 19 => fun r h => (List.not_mem_nil (show r ∈ [] from h)).elim
  | n + 20 => fun r h => (List.not_mem_nil (show r ∈ [] from h)).elim
def xCok4 (k : Nat) (r : Nat × Value) : Prop := ∀ a, r.2 = .retAddr a → 20 ≤ a ∧ a < 77 ∧ xStl.getD (a - 20) ("", 0) = (xNm k, r.1)
theorem xLdcs_k_1 : ∀ r ∈ xLdcs 1, xCok4 1 r := by
  unfold xLdcs
  exact List.forall_mem_cons.mpr ⟨(fun a h => by cases h; exact ⟨by decide, by decide, by decide +kernel⟩), List.forall_mem_cons.mpr ⟨(fun a h => by cases h; exact ⟨by decide, by decide, by decide +kernel⟩), List.forall_mem_cons.mpr ⟨(fun a h => by cases h; exact ⟨by decide, by decide, by decide +kernel⟩), List.forall_mem_cons.mpr ⟨(fun a h => by cases h; exact ⟨by decide, by decide, by decide +kernel⟩), List.forall_mem_cons.mpr ⟨(fun a h => by cases h; exact ⟨by decide, by decide, by decide +kernel⟩), List.forall_mem_cons.mpr ⟨(fun a h => by cases h; exact ⟨by decide, by decide, by decide +kernel⟩), fun _ h => absurd h List.not_mem_nil⟩⟩⟩⟩⟩⟩
theorem xLdcs_k_5 : ∀ r ∈ xLdcs 5, xCok4 5 r := by
  unfold xLdcs
  exact List.forall_mem_cons.mpr ⟨(fun a h => by cases h; exact ⟨by decide, by decide, by decide +kernel⟩), List.forall_mem_cons.mpr ⟨(fun a h => by cases h; exact ⟨by decide, by decide, by decide +kernel⟩), List.forall_mem_cons.mpr ⟨(fun a h => by cases h; exact ⟨by decide, by decide, by decide +kernel⟩), List.forall_mem_cons.mpr ⟨(fun a h => by cases h; exact ⟨by decide, by decide, by decide +kernel⟩), List.forall_mem_cons.mpr ⟨(fun a h => by cases h; exact ⟨by decide, by decide, by decide +kernel⟩), List.forall_mem_cons.mpr ⟨(fun a h => by cases h; exact ⟨by decide, by decide, by decide +kernel⟩), List.forall_mem_cons.mpr ⟨(fun a h => by cases h; exact ⟨by decide, by decide, by decide +kernel⟩), List.forall_mem_cons.mpr ⟨(fun a h => by cases h; exact ⟨by decide, by decide, by decide +kernel⟩), List.forall_mem_cons.mpr ⟨(fun a h => by cases h; exact ⟨by decide, by decide, by decide +kernel⟩), List.forall_mem_cons.mpr ⟨(fun a h => by cases h; exact ⟨by decide, by decide, by decide +kernel⟩), fun _ h => absurd h List.not_mem_nil⟩⟩⟩⟩⟩⟩⟩⟩⟩⟩
theorem xLdcs_k_6 : ∀ r ∈ xLdcs 6, xCok4 6 r := by
  unfold xLdcs
  exact List.forall_mem_cons.mpr ⟨(fun a h => nomatch h), fun _ h => absurd h List.not_mem_nil⟩
theorem xLdcs_k_8 : ∀ r ∈ xLdcs 8, xCok4 8 r := by
  unfold xLdcs
  exact List.forall_mem_cons.mpr ⟨(fun a h => nomatch h), fun _ h => absurd h List.not_mem_nil⟩
theorem xLdcs_k_11 : ∀ r ∈ xLdcs 11, xCok4 11 r := by
  unfold xLdcs
  exact List.forall_mem_cons.mpr ⟨(fun a h => by cases h; exact ⟨by decide, by decide, by decide +kernel⟩), List.forall_mem_cons.mpr ⟨(fun a h => by cases h; exact ⟨by decide, by decide, by decide +kernel⟩), List.forall_mem_cons.mpr ⟨(fun a h => by cases h; exact ⟨by decide, by decide, by decide +kernel⟩), List.forall_mem_cons.mpr ⟨(fun a h => by cases h; exact ⟨by decide, by decide, by decide +kernel⟩), List.forall_mem_cons.mpr ⟨(fun a h => by cases h; exact ⟨by decide, by decide, by decide +kernel⟩), List.forall_mem_cons.mpr ⟨(fun a h => by cases h; exact ⟨by decide, by decide, by decide +kernel⟩), List.forall_mem_cons.mpr ⟨(fun a h => by cases h; exact ⟨by decide, by decide, by decide +kernel⟩), List.forall_mem_cons.mpr ⟨(fun a h => by cases h; exact ⟨by decide, by decide, by decide +kernel⟩), List.forall_mem_cons.mpr ⟨(fun a h => by cases h; exact ⟨by decide, by decide, by decide +kernel⟩), List.forall_mem_cons.mpr ⟨(fun a h => by cases h; exact ⟨by decide, by decide, by decide +kernel⟩), List.forall_mem_cons.mpr ⟨(fun a h => by cases h; exact ⟨by decide, by decide, by decide +kernel⟩), List.forall_mem_cons.mpr ⟨(fun a h => by cases h; exact ⟨by decide, by decide, by decide +kernel⟩), List.forall_mem_cons.mpr ⟨(fun a h => by cases h; exact ⟨by decide, by decide, by decide +kernel⟩), List.forall_mem_cons.mpr ⟨(fun a h => by cases h; exact ⟨by decide, by decide, by decide +kernel⟩), List.forall_mem_cons.mpr ⟨(fun a h => by cases h; exact ⟨by decide, by decide, by decide +kernel⟩), List.forall_mem_cons.mpr ⟨(fun a h => by cases h; exact ⟨by decide, by decide, by decide +kernel⟩), List.forall_mem_cons.mpr ⟨(fun a h => by cases h; exact ⟨by decide, by decide, by decide +kernel⟩), List.forall_mem_cons.mpr ⟨(fun a h => by cases h; exact ⟨by decide, by decide, by decide +kernel⟩), List.forall_mem_cons.mpr ⟨(fun a h => by cases h; exact ⟨by decide, by decide, by decide +kernel⟩), List.forall_mem_cons.mpr ⟨(fun a h => by cases h; exact ⟨by decide, by decide, by decide +kernel⟩), List.forall_mem_cons.mpr ⟨(fun a h => by cases h; exact ⟨by decide, by decide, by decide +kernel⟩), List.forall_mem_cons.mpr ⟨(fun a h => by cases h; exact ⟨by decide, by decide, by decide +kernel⟩), List.forall_mem_cons.mpr ⟨(fun a h => by cases h; exact ⟨by decide, by decide, by decide +kernel⟩), List.forall_mem_cons.mpr ⟨(fun a h => by cases h; exact ⟨by decide, by decide, by decide +kernel⟩), fun _ h => absurd h List.not_mem_nil⟩⟩⟩⟩⟩⟩⟩⟩⟩⟩⟩⟩⟩⟩⟩⟩⟩⟩⟩⟩⟩⟩⟩⟩
theorem xLdcs_k_12 : ∀ r ∈ xLdcs 12, xCok4 12 r := by
  unfold xLdcs
  exact List.forall_mem_cons.mpr ⟨(fun a h => nomatch h), List.forall_mem_cons.mpr ⟨(fun a h => nomatch h), fun _ h => absurd h List.not_mem_nil⟩⟩
theorem xLdcs_k_13 : ∀ r ∈ xLdcs 13, xCok4 13 r := by
  unfold xLdcs
  exact List.forall_mem_cons.mpr ⟨(fun a h => by cases h; exact ⟨by decide, by decide, by decide +kernel⟩), List.forall_mem_cons.mpr ⟨(fun a h => by cases h; exact ⟨by decide, by decide, by decide +kernel⟩), List.forall_mem_cons.mpr ⟨(fun a h => by cases h; exact ⟨by decide, by decide, by decide +kernel⟩), List.forall_mem_cons.mpr ⟨(fun a h => by cases h; exact ⟨by decide, by decide, by decide +kernel⟩), List.forall_mem_cons.mpr ⟨(fun a h => by cases h; exact ⟨by decide, by decide, by decide +kernel⟩), List.forall_mem_cons.mpr ⟨(fun a h => by cases h; exact ⟨by decide, by decide, by decide +kernel⟩), List.forall_mem_cons.mpr ⟨(fun a h => by cases h; exact ⟨by decide, by decide, by decide +kernel⟩), List.forall_mem_cons.mpr ⟨(fun a h => by cases h; exact ⟨by decide, by decide, by decide +kernel⟩), List.forall_mem_cons.mpr ⟨(fun a h => by cases h; exact ⟨by decide, by decide, by decide +kernel⟩), List.forall_mem_cons.mpr ⟨(fun a h => by cases h; exact ⟨by decide, by decide, by decide +kernel⟩), List.forall_mem_cons.mpr ⟨(fun a h => by cases h; exact ⟨by decide, by decide, by decide +kernel⟩), List.forall_mem_cons.mpr ⟨(fun a h => by cases h; exact ⟨by decide, by decide, by decide +kernel⟩), List.forall_mem_cons.mpr ⟨(fun a h => by cases h; exact ⟨by decide, by decide, by decide +kernel⟩), List.forall_mem_cons.mpr ⟨(fun a h => by cases h; exact ⟨by decide, by decide, by decide +kernel⟩), List.forall_mem_cons.mpr ⟨(fun a h => by cases h; exact ⟨by decide, by decide, by decide +kernel⟩), List.forall_mem_cons.mpr ⟨(fun a h => by cases h; exact ⟨by decide, by decide, by decide +kernel⟩), List.forall_mem_cons.mpr ⟨(fun a h => by cases h; exact ⟨by decide, by decide, by decide +kernel⟩), fun _ h => absurd h List.not_mem_nil⟩⟩⟩⟩⟩⟩⟩⟩⟩⟩⟩⟩⟩⟩⟩⟩⟩
theorem xLdcs_k : (k : Nat) → ∀ r, r ∈ xLdcs k → xCok4 k r
  | 0 => fun r h => (List.not_mem_nil (show r ∈ [] from h)).elim
  | 1 => xLdcs_k_1
  | 2 => fun r h => (List.not_mem_nil (show r ∈ [] from h)).elim
  | 3 => fun r h => (List.not_mem_nil (show r ∈ [] from h)).elim
  | 4 => fun r h => (List.not_mem_nil (show r ∈ [] from h)).elim
  | 5 => xLdcs_k_5
  | 6 => xLdcs_k_6
  | 7 => fun r h => (List.not_mem_nil (show r ∈ [] from h)).elim
  | 8 => xLdcs_k_8
  | 9 => fun r h => (List.not_mem_nil (show r ∈ [] from h)).elim
  | 10 => fun r h => (List.not_mem_nil (show r ∈ [] from h)).elim
  | 11 => xLdcs_k_11
  | 12 => xLdcs_k_12
  | 13 => xLdcs_k_13
  | 14 => fun r h => (List.not_mem_nil (show r ∈ [] from h)).elim
  | 15 => fun r h => (List.not_mem_nil (show r ∈ [] from h)).elim
  | 16 => fun r h => (List.not_mem_nil (show r ∈ [] from h)).elim
  | 17 => fun r h => (List.not_mem_nil (show r ∈ [] from h)).elim
  | 18 => fun r h => (List.not_mem_nil (show r ∈ [] from h)).elim
  | 19 => fun r h => (List.not_mem_nil (show r ∈ [] from h)).elim
  | n + 20 => fun r h => (List.not_mem_nil (show r ∈ [] from h)).elim
theorem xIn_ok {c : Nat} (h : c < 13) : Cond.instantiable (xNm c) (xNf c) ∈ xWs := by
  by_cases e : c = 0
  · subst e; exact xw 91 (by decide +kernel) rfl
  by_cases e : c = 1
  · subst e; exact xw 232 (by decide +kernel) rfl
  by_cases e : c = 2
  · subst e; exact xw 129 (by decide +kernel) rfl
  by_cases e : c = 3
  · subst e; exact xw 69 (by decide +kernel) rfl
  by_cases e : c = 4
  · subst e; exact xw 45 (by decide +kernel) rfl
  by_cases e : c = 5
  · subst e; exact xw 165 (by decide +kernel) rfl
  by_cases e : c = 6
  · subst e; exact xw 371 (by decide +kernel) rfl
  by_cases e : c = 7
  · subst e; exact xw 778 (by decide +kernel) rfl
  by_cases e : c = 8
  · subst e; exact xw 243 (by decide +kernel) rfl
  by_cases e : c = 9
  · subst e; exact xw 158 (by decide +kernel) rfl
  by_cases e : c = 10
  · subst e; exact xw 116 (by decide +kernel) rfl
  by_cases e : c = 11
  · subst e; exact xw 30 (by decide +kernel) rfl
  by_cases e : c = 12
  · subst e; exact xw 1649 (by decide +kernel) rfl
  omega
theorem xF_sv : ∀ j, j < 7 → ∀ i, i < 10 → (match xSv j i with | some (.retAddr c) => decide (20 ≤ c ∧ c < 77) | some (.int _) => true | _ => false) = true := by decide +kernel
theorem xNw_tab : ∀ w ∈ xNw, w ∈ lw_tbl := fun w h => List.mem_append_right _ (xNw_in w h)
