/-! that the Statement's tables say what the abstract run takes of them; by program (wip/whole/gen03.py) -/
/-- the words that every method is given -/
def xWs : List Cond := lw_tbl.filter goodWord
theorem xWs_good : GoodIn xWs xWs := fun w h => ⟨h, good_of_word (List.mem_filter.mp h).2⟩
theorem xw {w : Cond} (i : Nat) (h : tables_1[i]? = some w) (hg : goodWord w = true) : w ∈ xWs := List.mem_filter.mpr ⟨List.mem_append_right _ (List.mem_of_getElem? h), hg⟩
theorem xws {q : MethodName × Nat} (i : Nat) (h : lw_privs[i]? = some q) : Cond.selects q.1.cls q.1 q.1 ∈ xWs := List.mem_filter.mpr ⟨List.mem_append_left _ (by unfold k2_sels; exact List.mem_map.mpr ⟨q, List.mem_of_getElem? h, rfl⟩), rfl⟩
theorem xlook {α : Type} {l : List (Nat × α)} {x : Nat} {b : α} (h : l.lookup x = some b) : (x, b) ∈ l := by
  induction l with
  | nil => simp at h
  | cons q l ih =>
    rw [List.lookup_cons] at h
    by_cases e : x == q.1
    · rw [e] at h
      have e2 : x = q.1 := by simpa using e
      cases h
      rw [e2]
      exact List.mem_cons_self
    · simp only [Bool.not_eq_true] at e
      rw [e] at h
      exact List.mem_cons_of_mem _ (ih h)
theorem xuw {ws : List Cond} (ps : List Nat) (hp : ws = ps.filterMap (fun i => tables_1[i]?)) (h : ws.all goodWord = true) : ∀ w ∈ ws, w ∈ xWs := by
  intro w hw
  have h1 := List.all_eq_true.mp h w hw
  rw [hp] at hw
  obtain ⟨i, -, hi⟩ := List.mem_filterMap.mp hw
  exact xw i hi h1
def xFok (k : Nat) (r : Nat × Nat × Nat) : Prop := vwCl[r.2.1]? = some (xNm r.2.1, xTT r.2.1, xNf r.2.1) ∧ r.2.2 < xNf r.2.1 ∧ Cond.fieldLink (xNm k) r.1 (xTT r.2.1 r.2.2).1 (xTT r.2.1 r.2.2).2.1 (xTT r.2.1 r.2.2).2.2.1 ∈ xWs
set_option maxRecDepth 100000 in
theorem xFlds_ok_0 : ∀ r ∈ xFlds 0, xFok 0 r := by
  unfold xFlds
  exact List.forall_mem_cons.mpr ⟨⟨rfl, by decide, xw 96 (by decide +kernel) rfl⟩, List.forall_mem_cons.mpr ⟨⟨rfl, by decide, xw 97 (by decide +kernel) rfl⟩, List.forall_mem_cons.mpr ⟨⟨rfl, by decide, xw 98 (by decide +kernel) rfl⟩, List.forall_mem_cons.mpr ⟨⟨rfl, by decide, xw 99 (by decide +kernel) rfl⟩, List.forall_mem_cons.mpr ⟨⟨rfl, by decide, xw 100 (by decide +kernel) rfl⟩, List.forall_mem_cons.mpr ⟨⟨rfl, by decide, xw 101 (by decide +kernel) rfl⟩, fun _ h => absurd h List.not_mem_nil⟩⟩⟩⟩⟩⟩
set_option maxRecDepth 100000 in
theorem xFlds_ok_1 : ∀ r ∈ xFlds 1, xFok 1 r := by
  unfold xFlds
  exact List.forall_mem_cons.mpr ⟨⟨rfl, by decide, xw 180 (by decide +kernel) rfl⟩, List.forall_mem_cons.mpr ⟨⟨rfl, by decide, xw 189 (by decide +kernel) rfl⟩, List.forall_mem_cons.mpr ⟨⟨rfl, by decide, xw 194 (by decide +kernel) rfl⟩, List.forall_mem_cons.mpr ⟨⟨rfl, by decide, xw 196 (by decide +kernel) rfl⟩, List.forall_mem_cons.mpr ⟨⟨rfl, by decide, xw 199 (by decide +kernel) rfl⟩, List.forall_mem_cons.mpr ⟨⟨rfl, by decide, xw 254 (by decide +kernel) rfl⟩, List.forall_mem_cons.mpr ⟨⟨rfl, by decide, xw 258 (by decide +kernel) rfl⟩, List.forall_mem_cons.mpr ⟨⟨rfl, by decide, xw 261 (by decide +kernel) rfl⟩, List.forall_mem_cons.mpr ⟨⟨rfl, by decide, xw 264 (by decide +kernel) rfl⟩, List.forall_mem_cons.mpr ⟨⟨rfl, by decide, xw 267 (by decide +kernel) rfl⟩, List.forall_mem_cons.mpr ⟨⟨rfl, by decide, xw 303 (by decide +kernel) rfl⟩, List.forall_mem_cons.mpr ⟨⟨rfl, by decide, xw 304 (by decide +kernel) rfl⟩, List.forall_mem_cons.mpr ⟨⟨rfl, by decide, xw 305 (by decide +kernel) rfl⟩, List.forall_mem_cons.mpr ⟨⟨rfl, by decide, xw 307 (by decide +kernel) rfl⟩, List.forall_mem_cons.mpr ⟨⟨rfl, by decide, xw 308 (by decide +kernel) rfl⟩, List.forall_mem_cons.mpr ⟨⟨rfl, by decide, xw 309 (by decide +kernel) rfl⟩, List.forall_mem_cons.mpr ⟨⟨rfl, by decide, xw 310 (by decide +kernel) rfl⟩, List.forall_mem_cons.mpr ⟨⟨rfl, by decide, xw 311 (by decide +kernel) rfl⟩, List.forall_mem_cons.mpr ⟨⟨rfl, by decide, xw 313 (by decide +kernel) rfl⟩, List.forall_mem_cons.mpr ⟨⟨rfl, by decide, xw 314 (by decide +kernel) rfl⟩, List.forall_mem_cons.mpr ⟨⟨rfl, by decide, xw 316 (by decide +kernel) rfl⟩, List.forall_mem_cons.mpr ⟨⟨rfl, by decide, xw 318 (by decide +kernel) rfl⟩, List.forall_mem_cons.mpr ⟨⟨rfl, by decide, xw 319 (by decide +kernel) rfl⟩, List.forall_mem_cons.mpr ⟨⟨rfl, by decide, xw 320 (by decide +kernel) rfl⟩, List.forall_mem_cons.mpr ⟨⟨rfl, by decide, xw 321 (by decide +kernel) rfl⟩, List.forall_mem_cons.mpr ⟨⟨rfl, by decide, xw 322 (by decide +kernel) rfl⟩, List.forall_mem_cons.mpr ⟨⟨rfl, by decide, xw 323 (by decide +kernel) rfl⟩, List.forall_mem_cons.mpr ⟨⟨rfl, by decide, xw 324 (by decide +kernel) rfl⟩, List.forall_mem_cons.mpr ⟨⟨rfl, by decide, xw 326 (by decide +kernel) rfl⟩, List.forall_mem_cons.mpr ⟨⟨rfl, by decide, xw 327 (by decide +kernel) rfl⟩, List.forall_mem_cons.mpr ⟨⟨rfl, by decide, xw 786 (by decide +kernel) rfl⟩, List.forall_mem_cons.mpr ⟨⟨rfl, by decide, xw 789 (by decide +kernel) rfl⟩, List.forall_mem_cons.mpr ⟨⟨rfl, by decide, xw 800 (by decide +kernel) rfl⟩, List.forall_mem_cons.mpr ⟨⟨rfl, by decide, xw 801 (by decide +kernel) rfl⟩, fun _ h => absurd h List.not_mem_nil⟩⟩⟩⟩⟩⟩⟩⟩⟩⟩⟩⟩⟩⟩⟩⟩⟩⟩⟩⟩⟩⟩⟩⟩⟩⟩⟩⟩⟩⟩⟩⟩⟩⟩
set_option maxRecDepth 100000 in
theorem xFlds_ok_2 : ∀ r ∈ xFlds 2, xFok 2 r := by
  unfold xFlds
  exact List.forall_mem_cons.mpr ⟨⟨rfl, by decide, xw 136 (by decide +kernel) rfl⟩, List.forall_mem_cons.mpr ⟨⟨rfl, by decide, xw 137 (by decide +kernel) rfl⟩, List.forall_mem_cons.mpr ⟨⟨rfl, by decide, xw 138 (by decide +kernel) rfl⟩, List.forall_mem_cons.mpr ⟨⟨rfl, by decide, xw 139 (by decide +kernel) rfl⟩, List.forall_mem_cons.mpr ⟨⟨rfl, by decide, xw 140 (by decide +kernel) rfl⟩, List.forall_mem_cons.mpr ⟨⟨rfl, by decide, xw 141 (by decide +kernel) rfl⟩, fun _ h => absurd h List.not_mem_nil⟩⟩⟩⟩⟩⟩
set_option maxRecDepth 100000 in
theorem xFlds_ok_3 : ∀ r ∈ xFlds 3, xFok 3 r := by
  unfold xFlds
  exact List.forall_mem_cons.mpr ⟨⟨rfl, by decide, xw 76 (by decide +kernel) rfl⟩, List.forall_mem_cons.mpr ⟨⟨rfl, by decide, xw 77 (by decide +kernel) rfl⟩, List.forall_mem_cons.mpr ⟨⟨rfl, by decide, xw 78 (by decide +kernel) rfl⟩, List.forall_mem_cons.mpr ⟨⟨rfl, by decide, xw 79 (by decide +kernel) rfl⟩, fun _ h => absurd h List.not_mem_nil⟩⟩⟩⟩
set_option maxRecDepth 100000 in
theorem xFlds_ok_4 : ∀ r ∈ xFlds 4, xFok 4 r := by
  unfold xFlds
  exact List.forall_mem_cons.mpr ⟨⟨rfl, by decide, xw 54 (by decide +kernel) rfl⟩, List.forall_mem_cons.mpr ⟨⟨rfl, by decide, xw 55 (by decide +kernel) rfl⟩, List.forall_mem_cons.mpr ⟨⟨rfl, by decide, xw 56 (by decide +kernel) rfl⟩, List.forall_mem_cons.mpr ⟨⟨rfl, by decide, xw 57 (by decide +kernel) rfl⟩, List.forall_mem_cons.mpr ⟨⟨rfl, by decide, xw 171 (by decide +kernel) rfl⟩, List.forall_mem_cons.mpr ⟨⟨rfl, by decide, xw 175 (by decide +kernel) rfl⟩, List.forall_mem_cons.mpr ⟨⟨rfl, by decide, xw 179 (by decide +kernel) rfl⟩, List.forall_mem_cons.mpr ⟨⟨rfl, by decide, xw 186 (by decide +kernel) rfl⟩, fun _ h => absurd h List.not_mem_nil⟩⟩⟩⟩⟩⟩⟩⟩
set_option maxRecDepth 100000 in
theorem xFlds_ok_5 : ∀ r ∈ xFlds 5, xFok 5 r := by
  unfold xFlds
  exact List.forall_mem_cons.mpr ⟨⟨rfl, by decide, xw 170 (by decide +kernel) rfl⟩, List.forall_mem_cons.mpr ⟨⟨rfl, by decide, xw 172 (by decide +kernel) rfl⟩, List.forall_mem_cons.mpr ⟨⟨rfl, by decide, xw 174 (by decide +kernel) rfl⟩, List.forall_mem_cons.mpr ⟨⟨rfl, by decide, xw 178 (by decide +kernel) rfl⟩, List.forall_mem_cons.mpr ⟨⟨rfl, by decide, xw 183 (by decide +kernel) rfl⟩, List.forall_mem_cons.mpr ⟨⟨rfl, by decide, xw 185 (by decide +kernel) rfl⟩, List.forall_mem_cons.mpr ⟨⟨rfl, by decide, xw 188 (by decide +kernel) rfl⟩, List.forall_mem_cons.mpr ⟨⟨rfl, by decide, xw 193 (by decide +kernel) rfl⟩, List.forall_mem_cons.mpr ⟨⟨rfl, by decide, xw 198 (by decide +kernel) rfl⟩, fun _ h => absurd h List.not_mem_nil⟩⟩⟩⟩⟩⟩⟩⟩⟩
set_option maxRecDepth 100000 in
theorem xFlds_ok_6 : ∀ r ∈ xFlds 6, xFok 6 r := by
  unfold xFlds
  exact List.forall_mem_cons.mpr ⟨⟨rfl, by decide, xw 376 (by decide +kernel) rfl⟩, List.forall_mem_cons.mpr ⟨⟨rfl, by decide, xw 377 (by decide +kernel) rfl⟩, List.forall_mem_cons.mpr ⟨⟨rfl, by decide, xw 378 (by decide +kernel) rfl⟩, fun _ h => absurd h List.not_mem_nil⟩⟩⟩
set_option maxRecDepth 100000 in
theorem xFlds_ok_7 : ∀ r ∈ xFlds 7, xFok 7 r := by
  unfold xFlds
  exact List.forall_mem_cons.mpr ⟨⟨rfl, by decide, xw 173 (by decide +kernel) rfl⟩, List.forall_mem_cons.mpr ⟨⟨rfl, by decide, xw 177 (by decide +kernel) rfl⟩, List.forall_mem_cons.mpr ⟨⟨rfl, by decide, xw 182 (by decide +kernel) rfl⟩, List.forall_mem_cons.mpr ⟨⟨rfl, by decide, xw 184 (by decide +kernel) rfl⟩, List.forall_mem_cons.mpr ⟨⟨rfl, by decide, xw 187 (by decide +kernel) rfl⟩, List.forall_mem_cons.mpr ⟨⟨rfl, by decide, xw 191 (by decide +kernel) rfl⟩, List.forall_mem_cons.mpr ⟨⟨rfl, by decide, xw 785 (by decide +kernel) rfl⟩, List.forall_mem_cons.mpr ⟨⟨rfl, by decide, xw 788 (by decide +kernel) rfl⟩, List.forall_mem_cons.mpr ⟨⟨rfl, by decide, xw 791 (by decide +kernel) rfl⟩, List.forall_mem_cons.mpr ⟨⟨rfl, by decide, xw 793 (by decide +kernel) rfl⟩, List.forall_mem_cons.mpr ⟨⟨rfl, by decide, xw 795 (by decide +kernel) rfl⟩, List.forall_mem_cons.mpr ⟨⟨rfl, by decide, xw 797 (by decide +kernel) rfl⟩, List.forall_mem_cons.mpr ⟨⟨rfl, by decide, xw 799 (by decide +kernel) rfl⟩, fun _ h => absurd h List.not_mem_nil⟩⟩⟩⟩⟩⟩⟩⟩⟩⟩⟩⟩⟩
set_option maxRecDepth 100000 in
theorem xFlds_ok_8 : ∀ r ∈ xFlds 8, xFok 8 r := by
  unfold xFlds
  exact List.forall_mem_cons.mpr ⟨⟨rfl, by decide, xw 250 (by decide +kernel) rfl⟩, List.forall_mem_cons.mpr ⟨⟨rfl, by decide, xw 251 (by decide +kernel) rfl⟩, List.forall_mem_cons.mpr ⟨⟨rfl, by decide, xw 252 (by decide +kernel) rfl⟩, List.forall_mem_cons.mpr ⟨⟨rfl, by decide, xw 253 (by decide +kernel) rfl⟩, List.forall_mem_cons.mpr ⟨⟨rfl, by decide, xw 255 (by decide +kernel) rfl⟩, List.forall_mem_cons.mpr ⟨⟨rfl, by decide, xw 256 (by decide +kernel) rfl⟩, List.forall_mem_cons.mpr ⟨⟨rfl, by decide, xw 257 (by decide +kernel) rfl⟩, List.forall_mem_cons.mpr ⟨⟨rfl, by decide, xw 260 (by decide +kernel) rfl⟩, List.forall_mem_cons.mpr ⟨⟨rfl, by decide, xw 263 (by decide +kernel) rfl⟩, List.forall_mem_cons.mpr ⟨⟨rfl, by decide, xw 266 (by decide +kernel) rfl⟩, List.forall_mem_cons.mpr ⟨⟨rfl, by decide, xw 269 (by decide +kernel) rfl⟩, List.forall_mem_cons.mpr ⟨⟨rfl, by decide, xw 271 (by decide +kernel) rfl⟩, List.forall_mem_cons.mpr ⟨⟨rfl, by decide, xw 272 (by decide +kernel) rfl⟩, List.forall_mem_cons.mpr ⟨⟨rfl, by decide, xw 273 (by decide +kernel) rfl⟩, fun _ h => absurd h List.not_mem_nil⟩⟩⟩⟩⟩⟩⟩⟩⟩⟩⟩⟩⟩⟩
set_option maxRecDepth 100000 in
theorem xFlds_ok_9 : ∀ r ∈ xFlds 9, xFok 9 r := by
  unfold xFlds
  exact List.forall_mem_cons.mpr ⟨⟨rfl, by decide, xw 223 (by decide +kernel) rfl⟩, List.forall_mem_cons.mpr ⟨⟨rfl, by decide, xw 224 (by decide +kernel) rfl⟩, fun _ h => absurd h List.not_mem_nil⟩⟩
set_option maxRecDepth 100000 in
theorem xFlds_ok_10 : ∀ r ∈ xFlds 10, xFok 10 r := by
  unfold xFlds
  exact List.forall_mem_cons.mpr ⟨⟨rfl, by decide, xw 121 (by decide +kernel) rfl⟩, List.forall_mem_cons.mpr ⟨⟨rfl, by decide, xw 122 (by decide +kernel) rfl⟩, fun _ h => absurd h List.not_mem_nil⟩⟩
set_option maxRecDepth 100000 in
theorem xFlds_ok_11 : ∀ r ∈ xFlds 11, xFok 11 r := by
  unfold xFlds
  exact List.forall_mem_cons.mpr ⟨⟨rfl, by decide, xw 176 (by decide +kernel) rfl⟩, List.forall_mem_cons.mpr ⟨⟨rfl, by decide, xw 181 (by decide +kernel) rfl⟩, List.forall_mem_cons.mpr ⟨⟨rfl, by decide, xw 190 (by decide +kernel) rfl⟩, List.forall_mem_cons.mpr ⟨⟨rfl, by decide, xw 192 (by decide +kernel) rfl⟩, List.forall_mem_cons.mpr ⟨⟨rfl, by decide, xw 195 (by decide +kernel) rfl⟩, List.forall_mem_cons.mpr ⟨⟨rfl, by decide, xw 197 (by decide +kernel) rfl⟩, List.forall_mem_cons.mpr ⟨⟨rfl, by decide, xw 225 (by decide +kernel) rfl⟩, List.forall_mem_cons.mpr ⟨⟨rfl, by decide, xw 259 (by decide +kernel) rfl⟩, List.forall_mem_cons.mpr ⟨⟨rfl, by decide, xw 262 (by decide +kernel) rfl⟩, List.forall_mem_cons.mpr ⟨⟨rfl, by decide, xw 265 (by decide +kernel) rfl⟩, List.forall_mem_cons.mpr ⟨⟨rfl, by decide, xw 268 (by decide +kernel) rfl⟩, List.forall_mem_cons.mpr ⟨⟨rfl, by decide, xw 270 (by decide +kernel) rfl⟩, List.forall_mem_cons.mpr ⟨⟨rfl, by decide, xw 306 (by decide +kernel) rfl⟩, List.forall_mem_cons.mpr ⟨⟨rfl, by decide, xw 312 (by decide +kernel) rfl⟩, List.forall_mem_cons.mpr ⟨⟨rfl, by decide, xw 315 (by decide +kernel) rfl⟩, List.forall_mem_cons.mpr ⟨⟨rfl, by decide, xw 317 (by decide +kernel) rfl⟩, List.forall_mem_cons.mpr ⟨⟨rfl, by decide, xw 325 (by decide +kernel) rfl⟩, List.forall_mem_cons.mpr ⟨⟨rfl, by decide, xw 328 (by decide +kernel) rfl⟩, List.forall_mem_cons.mpr ⟨⟨rfl, by decide, xw 386 (by decide +kernel) rfl⟩, List.forall_mem_cons.mpr ⟨⟨rfl, by decide, xw 387 (by decide +kernel) rfl⟩, List.forall_mem_cons.mpr ⟨⟨rfl, by decide, xw 388 (by decide +kernel) rfl⟩, List.forall_mem_cons.mpr ⟨⟨rfl, by decide, xw 389 (by decide +kernel) rfl⟩, List.forall_mem_cons.mpr ⟨⟨rfl, by decide, xw 390 (by decide +kernel) rfl⟩, List.forall_mem_cons.mpr ⟨⟨rfl, by decide, xw 391 (by decide +kernel) rfl⟩, List.forall_mem_cons.mpr ⟨⟨rfl, by decide, xw 392 (by decide +kernel) rfl⟩, List.forall_mem_cons.mpr ⟨⟨rfl, by decide, xw 393 (by decide +kernel) rfl⟩, List.forall_mem_cons.mpr ⟨⟨rfl, by decide, xw 394 (by decide +kernel) rfl⟩, List.forall_mem_cons.mpr ⟨⟨rfl, by decide, xw 395 (by decide +kernel) rfl⟩, List.forall_mem_cons.mpr ⟨⟨rfl, by decide, xw 396 (by decide +kernel) rfl⟩, List.forall_mem_cons.mpr ⟨⟨rfl, by decide, xw 397 (by decide +kernel) rfl⟩, List.forall_mem_cons.mpr ⟨⟨rfl, by decide, xw 398 (by decide +kernel) rfl⟩, List.forall_mem_cons.mpr ⟨⟨rfl, by decide, xw 399 (by decide +kernel) rfl⟩, List.forall_mem_cons.mpr ⟨⟨rfl, by decide, xw 787 (by decide +kernel) rfl⟩, List.forall_mem_cons.mpr ⟨⟨rfl, by decide, xw 790 (by decide +kernel) rfl⟩, List.forall_mem_cons.mpr ⟨⟨rfl, by decide, xw 792 (by decide +kernel) rfl⟩, List.forall_mem_cons.mpr ⟨⟨rfl, by decide, xw 794 (by decide +kernel) rfl⟩, List.forall_mem_cons.mpr ⟨⟨rfl, by decide, xw 796 (by decide +kernel) rfl⟩, List.forall_mem_cons.mpr ⟨⟨rfl, by decide, xw 798 (by decide +kernel) rfl⟩, fun _ h => absurd h List.not_mem_nil⟩⟩⟩⟩⟩⟩⟩⟩⟩⟩⟩⟩⟩⟩⟩⟩⟩⟩⟩⟩⟩⟩⟩⟩⟩⟩⟩⟩⟩⟩⟩⟩⟩⟩⟩⟩⟩⟩
set_option maxRecDepth 100000 in
theorem xFlds_ok_12 : ∀ r ∈ xFlds 12, xFok 12 r := by
  unfold xFlds
  exact List.forall_mem_cons.mpr ⟨⟨rfl, by decide, xw 1656 (by decide +kernel) rfl⟩, List.forall_mem_cons.mpr ⟨⟨rfl, by decide, xw 1657 (by decide +kernel) rfl⟩, List.forall_mem_cons.mpr ⟨⟨rfl, by decide, xw 1658 (by decide +kernel) rfl⟩, List.forall_mem_cons.mpr ⟨⟨rfl, by decide, xw 1659 (by decide +kernel) rfl⟩, List.forall_mem_cons.mpr ⟨⟨rfl, by decide, xw 1660 (by decide +kernel) rfl⟩, List.forall_mem_cons.mpr ⟨⟨rfl, by decide, xw 1661 (by decide +kernel) rfl⟩, List.forall_mem_cons.mpr ⟨⟨rfl, by decide, xw 1662 (by decide +kernel) rfl⟩, List.forall_mem_cons.mpr ⟨⟨rfl, by decide, xw 1663 (by decide +kernel) rfl⟩, List.forall_mem_cons.mpr ⟨⟨rfl, by decide, xw 1664 (by decide +kernel) rfl⟩, List.forall_mem_cons.mpr ⟨⟨rfl, by decide, xw 1665 (by decide +kernel) rfl⟩, List.forall_mem_cons.mpr ⟨⟨rfl, by decide, xw 1666 (by decide +kernel) rfl⟩, List.forall_mem_cons.mpr ⟨⟨rfl, by decide, xw 1667 (by decide +kernel) rfl⟩, List.forall_mem_cons.mpr ⟨⟨rfl, by decide, xw 1668 (by decide +kernel) rfl⟩, List.forall_mem_cons.mpr ⟨⟨rfl, by decide, xw 1669 (by decide +kernel) rfl⟩, List.forall_mem_cons.mpr ⟨⟨rfl, by decide, xw 1670 (by decide +kernel) rfl⟩, List.forall_mem_cons.mpr ⟨⟨rfl, by decide, xw 1671 (by decide +kernel) rfl⟩, List.forall_mem_cons.mpr ⟨⟨rfl, by decide, xw 1672 (by decide +kernel) rfl⟩, List.forall_mem_cons.mpr ⟨⟨rfl, by decide, xw 1673 (by decide +kernel) rfl⟩, List.forall_mem_cons.mpr ⟨⟨rfl, by decide, xw 1674 (by decide +kernel) rfl⟩, List.forall_mem_cons.mpr ⟨⟨rfl, by decide, xw 1675 (by decide +kernel) rfl⟩, List.forall_mem_cons.mpr ⟨⟨rfl, by decide, xw 1676 (by decide +kernel) rfl⟩, List.forall_mem_cons.mpr ⟨⟨rfl, by decide, xw 1677 (by decide +kernel) rfl⟩, List.forall_mem_cons.mpr ⟨⟨rfl, by decide, xw 1678 (by decide +kernel) rfl⟩, List.forall_mem_cons.mpr ⟨⟨rfl, by decide, xw 1679 (by decide +kernel) rfl⟩, List.forall_mem_cons.mpr ⟨⟨rfl, by decide, xw 1680 (by decide +kernel) rfl⟩, List.forall_mem_cons.mpr ⟨⟨rfl, by decide, xw 1681 (by decide +kernel) rfl⟩, List.forall_mem_cons.mpr ⟨⟨rfl, by decide, xw 1682 (by decide +kernel) rfl⟩, List.forall_mem_cons.mpr ⟨⟨rfl, by decide, xw 1683 (by decide +kernel) rfl⟩, List.forall_mem_cons.mpr ⟨⟨rfl, by decide, xw 1684 (by decide +kernel) rfl⟩, List.forall_mem_cons.mpr ⟨⟨rfl, by decide, xw 1685 (by decide +kernel) rfl⟩, List.forall_mem_cons.mpr ⟨⟨rfl, by decide, xw 1686 (by decide +kernel) rfl⟩, List.forall_mem_cons.mpr ⟨⟨rfl, by decide, xw 1687 (by decide +kernel) rfl⟩, List.forall_mem_cons.mpr ⟨⟨rfl, by decide, xw 1688 (by decide +kernel) rfl⟩, List.forall_mem_cons.mpr ⟨⟨rfl, by decide, xw 1689 (by decide +kernel) rfl⟩, List.forall_mem_cons.mpr ⟨⟨rfl, by decide, xw 1690 (by decide +kernel) rfl⟩, List.forall_mem_cons.mpr ⟨⟨rfl, by decide, xw 1691 (by decide +kernel) rfl⟩, List.forall_mem_cons.mpr ⟨⟨rfl, by decide, xw 1692 (by decide +kernel) rfl⟩, List.forall_mem_cons.mpr ⟨⟨rfl, by decide, xw 1693 (by decide +kernel) rfl⟩, List.forall_mem_cons.mpr ⟨⟨rfl, by decide, xw 1694 (by decide +kernel) rfl⟩, List.forall_mem_cons.mpr ⟨⟨rfl, by decide, xw 1695 (by decide +kernel) rfl⟩, List.forall_mem_cons.mpr ⟨⟨rfl, by decide, xw 1696 (by decide +kernel) rfl⟩, List.forall_mem_cons.mpr ⟨⟨rfl, by decide, xw 1697 (by decide +kernel) rfl⟩, List.forall_mem_cons.mpr ⟨⟨rfl, by decide, xw 1698 (by decide +kernel) rfl⟩, List.forall_mem_cons.mpr ⟨⟨rfl, by decide, xw 1699 (by decide +kernel) rfl⟩, List.forall_mem_cons.mpr ⟨⟨rfl, by decide, xw 1700 (by decide +kernel) rfl⟩, List.forall_mem_cons.mpr ⟨⟨rfl, by decide, xw 1701 (by decide +kernel) rfl⟩, List.forall_mem_cons.mpr ⟨⟨rfl, by decide, xw 1702 (by decide +kernel) rfl⟩, List.forall_mem_cons.mpr ⟨⟨rfl, by decide, xw 1703 (by decide +kernel) rfl⟩, List.forall_mem_cons.mpr ⟨⟨rfl, by decide, xw 1704 (by decide +kernel) rfl⟩, List.forall_mem_cons.mpr ⟨⟨rfl, by decide, xw 1705 (by decide +kernel) rfl⟩, List.forall_mem_cons.mpr ⟨⟨rfl, by decide, xw 1706 (by decide +kernel) rfl⟩, List.forall_mem_cons.mpr ⟨⟨rfl, by decide, xw 1707 (by decide +kernel) rfl⟩, List.forall_mem_cons.mpr ⟨⟨rfl, by decide, xw 1708 (by decide +kernel) rfl⟩, List.forall_mem_cons.mpr ⟨⟨rfl, by decide, xw 1709 (by decide +kernel) rfl⟩, List.forall_mem_cons.mpr ⟨⟨rfl, by decide, xw 1710 (by decide +kernel) rfl⟩, List.forall_mem_cons.mpr ⟨⟨rfl, by decide, xw 1711 (by decide +kernel) rfl⟩, List.forall_mem_cons.mpr ⟨⟨rfl, by decide, xw 1712 (by decide +kernel) rfl⟩, List.forall_mem_cons.mpr ⟨⟨rfl, by decide, xw 1713 (by decide +kernel) rfl⟩, List.forall_mem_cons.mpr ⟨⟨rfl, by decide, xw 1714 (by decide +kernel) rfl⟩, List.forall_mem_cons.mpr ⟨⟨rfl, by decide, xw 1715 (by decide +kernel) rfl⟩, List.forall_mem_cons.mpr ⟨⟨rfl, by decide, xw 1716 (by decide +kernel) rfl⟩, List.forall_mem_cons.mpr ⟨⟨rfl, by decide, xw 1717 (by decide +kernel) rfl⟩, List.forall_mem_cons.mpr ⟨⟨rfl, by decide, xw 1718 (by decide +kernel) rfl⟩, List.forall_mem_cons.mpr ⟨⟨rfl, by decide, xw 1719 (by decide +kernel) rfl⟩, List.forall_mem_cons.mpr ⟨⟨rfl, by decide, xw 1720 (by decide +kernel) rfl⟩, List.forall_mem_cons.mpr ⟨⟨rfl, by decide, xw 1721 (by decide +kernel) rfl⟩, List.forall_mem_cons.mpr ⟨⟨rfl, by decide, xw 1722 (by decide +kernel) rfl⟩, List.forall_mem_cons.mpr ⟨⟨rfl, by decide, xw 1723 (by decide +kernel) rfl⟩, List.forall_mem_cons.mpr ⟨⟨rfl, by decide, xw 1724 (by decide +kernel) rfl⟩, List.forall_mem_cons.mpr ⟨⟨rfl, by decide, xw 1725 (by decide +kernel) rfl⟩, List.forall_mem_cons.mpr ⟨⟨rfl, by decide, xw 1726 (by decide +kernel) rfl⟩, List.forall_mem_cons.mpr ⟨⟨rfl, by decide, xw 1727 (by decide +kernel) rfl⟩, List.forall_mem_cons.mpr ⟨⟨rfl, by decide, xw 1728 (by decide +kernel) rfl⟩, List.forall_mem_cons.mpr ⟨⟨rfl, by decide, xw 1729 (by decide +kernel) rfl⟩, List.forall_mem_cons.mpr ⟨⟨rfl, by decide, xw 1730 (by decide +kernel) rfl⟩, List.forall_mem_cons.mpr ⟨⟨rfl, by decide, xw 1731 (by decide +kernel) rfl⟩, List.forall_mem_cons.mpr ⟨⟨rfl, by decide, xw 1732 (by decide +kernel) rfl⟩, List.forall_mem_cons.mpr ⟨⟨rfl, by decide, xw 1733 (by decide +kernel) rfl⟩, List.forall_mem_cons.mpr ⟨⟨rfl, by decide, xw 1734 (by decide +kernel) rfl⟩, List.forall_mem_cons.mpr ⟨⟨rfl, by decide, xw 1735 (by decide +kernel) rfl⟩, List.forall_mem_cons.mpr ⟨⟨rfl, by decide, xw 1736 (by decide +kernel) rfl⟩, List.forall_mem_cons.mpr ⟨⟨rfl, by decide, xw 1737 (by decide +kernel) rfl⟩, fun _ h => absurd h List.not_mem_nil⟩⟩⟩⟩⟩⟩⟩⟩⟩⟩⟩⟩⟩⟩⟩⟩⟩⟩⟩⟩⟩⟩⟩⟩⟩⟩⟩⟩⟩⟩⟩⟩⟩⟩⟩⟩⟩⟩⟩⟩⟩⟩⟩⟩⟩⟩⟩⟩⟩⟩⟩⟩⟩⟩⟩⟩⟩⟩⟩⟩⟩⟩⟩⟩⟩⟩⟩⟩⟩⟩⟩⟩⟩⟩⟩⟩⟩⟩⟩⟩⟩⟩
theorem xFlds_ok : (k : Nat) → ∀ r, r ∈ xFlds k → xFok k r
  | 0 => xFlds_ok_0
  | 1 => xFlds_ok_1
  | 2 => xFlds_ok_2
  | 3 => xFlds_ok_3
  | 4 => xFlds_ok_4
  | 5 => xFlds_ok_5
  | 6 => xFlds_ok_6
  | 7 => xFlds_ok_7
  | 8 => xFlds_ok_8
  | 9 => xFlds_ok_9
  | 10 => xFlds_ok_10
  | 11 => xFlds_ok_11
  | 12 => xFlds_ok_12
  | 13 => fun r h => (List.not_mem_nil (show r ∈ [] from h)).elim
  | 14 => fun r h => (List.not_mem_nil (show r ∈ [] from h)).elim
  | 15 => fun r h => (List.not_mem_nil (show r ∈ [] from h)).elim
  | 16 => fun r h => (List.not_mem_nil (show r ∈ [] from h)).elim
  | 17 => fun r h => (List.not_mem_nil (show r ∈ [] from h)).elim
  | 18 => fun r h => (List.not_mem_nil (show r ∈ [] from h)).elim
  | 19 => fun r h => (List.not_mem_nil (show r ∈ [] from h)).elim
  | n + 20 => fun r h => (List.not_mem_nil (show r ∈ [] from h)).elim
theorem xFld_ok {k x ci j : Nat} (h : xFld k x = some (ci, j)) : xFok k (x, ci, j) := xFlds_ok k _ (xlook h)
theorem xUw_0 : ∀ w ∈ u_ws RX0 TX0 6, w ∈ xWs := xuw [102, 104, 106, 108, 110, 112] (by decide +kernel) (by decide +kernel)
theorem xUw_1 : ∀ w ∈ u_ws RX1 TX1 20, w ∈ xWs := xuw [329, 331, 333, 335, 337, 339, 341, 343, 345, 347, 349, 351, 353, 355, 357, 359, 361, 363, 365, 367] (by decide +kernel) (by decide +kernel)
theorem xUw_2 : ∀ w ∈ u_ws RX2 TX2 6, w ∈ xWs := xuw [142, 144, 146, 148, 150, 152] (by decide +kernel) (by decide +kernel)
theorem xUw_3 : ∀ w ∈ u_ws RX3 TX3 4, w ∈ xWs := xuw [80, 82, 84, 86] (by decide +kernel) (by decide +kernel)
theorem xUw_4 : ∀ w ∈ u_ws RX4 TX4 4, w ∈ xWs := xuw [58, 60, 62, 64] (by decide +kernel) (by decide +kernel)
theorem xUw_5 : ∀ w ∈ u_ws RX5 TX5 11, w ∈ xWs := xuw [200, 202, 204, 206, 208, 210, 212, 214, 216, 218, 220] (by decide +kernel) (by decide +kernel)
theorem xUw_6 : ∀ w ∈ u_ws RX6 TX6 3, w ∈ xWs := xuw [379, 381, 383] (by decide +kernel) (by decide +kernel)
theorem xUw_7 : ∀ w ∈ u_ws RX7 TX7 9, w ∈ xWs := xuw [802, 804, 806, 808, 810, 812, 814, 816, 818] (by decide +kernel) (by decide +kernel)
theorem xUw_8 : ∀ w ∈ u_ws RX8 TX8 14, w ∈ xWs := xuw [274, 276, 278, 280, 282, 284, 286, 288, 290, 292, 294, 296, 298, 300] (by decide +kernel) (by decide +kernel)
theorem xUw_9 : ∀ w ∈ u_ws RX10 TX10 2, w ∈ xWs := xuw [226, 228] (by decide +kernel) (by decide +kernel)
theorem xUw_10 : ∀ w ∈ u_ws RX11 TX11 2, w ∈ xWs := xuw [123, 125] (by decide +kernel) (by decide +kernel)
theorem xUw_11 : ∀ w ∈ u_ws RX12 TX12 14, w ∈ xWs := xuw [400, 402, 404, 406, 408, 410, 412, 414, 416, 418, 420, 422, 424, 426] (by decide +kernel) (by decide +kernel)
theorem xUw_12 : ∀ w ∈ u_ws RX13 TX13 82, w ∈ xWs := xuw [1738, 1740, 1742, 1744, 1746, 1748, 1750, 1752, 1754, 1756, 1758, 1760, 1762, 1764, 1766, 1768, 1770, 1772, 1774, 1776, 1778, 1780, 1782, 1784, 1786, 1788, 1790, 1792, 1794, 1796, 1798, 1800, 1802, 1804, 1806, 1808, 1810, 1812, 1814, 1816, 1818, 1820, 1822, 1824, 1826, 1828, 1830, 1832, 1834, 1836, 1838, 1840, 1842, 1844, 1846, 1848, 1850, 1852, 1854, 1856, 1858, 1860, 1862, 1864, 1866, 1868, 1870, 1872, 1874, 1876, 1878, 1880, 1882, 1884, 1886, 1888, 1890, 1892, 1894, 1896, 1898, 1900] (by decide +kernel) (by decide +kernel)
/-- what is known of a class by its number -/
def xCok (c : Nat) : Prop := (∀ w ∈ u_ws (xNm c) (xTT c) (xNf c), w ∈ xWs) ∧ (∀ k, k < xNf c → parseFieldDescriptor (xTT c k).2.2.1 = some (xTy c k)) ∧ (∀ a, a < xNf c → ∀ b, b < xNf c → a ≠ b → (xTT c a).2.1 ≠ (xTT c b).2.1) ∧ (∀ k, k < xNf c → (xTT c k).1 = xNm c)
theorem xCok_of {c : Nat} (h : c < 13) : xCok c := by
  by_cases e : c = 0
  · subst e; exact ⟨xUw_0, tyX0_ok, nmX0, by show ∀ k, k < 6 → (TX0 k).1 = RX0; decide +kernel⟩
  by_cases e : c = 1
  · subst e; exact ⟨xUw_1, tyX1_ok, nmX1, by show ∀ k, k < 20 → (TX1 k).1 = RX1; decide +kernel⟩
  by_cases e : c = 2
  · subst e; exact ⟨xUw_2, tyX2_ok, nmX2, by show ∀ k, k < 6 → (TX2 k).1 = RX2; decide +kernel⟩
  by_cases e : c = 3
  · subst e; exact ⟨xUw_3, tyX3_ok, nmX3, by show ∀ k, k < 4 → (TX3 k).1 = RX3; decide +kernel⟩
  by_cases e : c = 4
  · subst e; exact ⟨xUw_4, tyX4_ok, nmX4, by show ∀ k, k < 4 → (TX4 k).1 = RX4; decide +kernel⟩
  by_cases e : c = 5
  · subst e; exact ⟨xUw_5, tyX5_ok, nmX5, by show ∀ k, k < 11 → (TX5 k).1 = RX5; decide +kernel⟩
  by_cases e : c = 6
  · subst e; exact ⟨xUw_6, tyX6_ok, nmX6, by show ∀ k, k < 3 → (TX6 k).1 = RX6; decide +kernel⟩
  by_cases e : c = 7
  · subst e; exact ⟨xUw_7, tyX7_ok, nmX7, by show ∀ k, k < 9 → (TX7 k).1 = RX7; decide +kernel⟩
  by_cases e : c = 8
  · subst e; exact ⟨xUw_8, tyX8_ok, nmX8, by show ∀ k, k < 14 → (TX8 k).1 = RX8; decide +kernel⟩
  by_cases e : c = 9
  · subst e; exact ⟨xUw_9, tyX10_ok, nmX10, by show ∀ k, k < 2 → (TX10 k).1 = RX10; decide +kernel⟩
  by_cases e : c = 10
  · subst e; exact ⟨xUw_10, tyX11_ok, nmX11, by show ∀ k, k < 2 → (TX11 k).1 = RX11; decide +kernel⟩
  by_cases e : c = 11
  · subst e; exact ⟨xUw_11, tyX12_ok, nmX12, by show ∀ k, k < 14 → (TX12 k).1 = RX12; decide +kernel⟩
  by_cases e : c = 12
  · subst e; exact ⟨xUw_12, tyX13_ok, nmX13, by show ∀ k, k < 82 → (TX13 k).1 = RX13; decide +kernel⟩
  omega
