/-! THE CELLS AS TWO MAPS: fields (xG) and arrays (xB); xU writes a field, xA an array's content -/
abbrev xAr : Type := Nat × vp_A
def xB (h : xH) (b : Nat) : Option xAr := match h[b]? with | some (.inl e) => some e | _ => none
def xU (h : xH) (a j : Nat) (v : Value) : xH := match h[a]? with | some (.inr (ci, fs)) => h.set a (.inr (ci, fs.set j v)) | _ => h
def xA (h : xH) (b : Nat) (e : xAr) : xH := match h[b]? with | some (.inl _) => h.set b (.inl e) | _ => h
section HEAP
variable {h : xH} {a b c j n : Nat}
theorem xB_eq {e : xAr} (hb : xB h b = some e) : h[b]? = some (.inl e) := by
  unfold xB at hb
  split at hb
  · rename_i h1; cases hb; exact h1
  · cases hb
theorem xB_of {e : xAr} (hb : h[b]? = some (.inl e)) : xB h b = some e := by unfold xB; rw [hb]
theorem xG_of {fs : List Value} (ha : h[a]? = some (.inr (c, fs))) : xG h a c j = fs[j]? := by unfold xG; rw [ha]; exact if_pos rfl
theorem xS_len (h : xH) (a j : Nat) (v : Value) : (xU h a j v).length = h.length := by
  unfold xU
  split
  · rw [List.length_set]
  · rfl
theorem xA_len (h : xH) (b : Nat) (e : xAr) : (xA h b e).length = h.length := by
  unfold xA
  split
  · rw [List.length_set]
  · rfl
theorem xget_set (h : xH) (a b : Nat) (e : xE) (hb : h[b]? ≠ none) : (h.set b e)[a]? = if a = b then some e else h[a]? := by
  rw [List.getElem?_set]
  by_cases q : b = a
  · subst q
    rw [if_pos rfl, if_pos rfl, if_pos]
    cases hh : h[b]? with
    | none => exact absurd hh hb
    | some x => exact (List.getElem?_eq_some_iff.mp hh).1
  · rw [if_neg q, if_neg (Ne.symm q)]
theorem xG_S (h : xH) (a j a' c' j' : Nat) (v : Value) : xG (xU h a j v) a' c' j' = if a' = a ∧ j' = j then (xG h a' c' j').map (fun _ => v) else xG h a' c' j' := by
  unfold xU
  split
  · rename_i ci fs ha
    unfold xG
    rw [xget_set _ _ _ _ (by rw [ha]; exact fun q => nomatch q)]
    by_cases q : a' = a
    · subst q
      rw [if_pos rfl, ha]
      dsimp only
      by_cases qc : ci = c'
      · subst qc
        rw [if_pos rfl, if_pos rfl, List.getElem?_set]
        by_cases qj : j' = j
        · subst qj
          by_cases ql : j' < fs.length
          · simp [ql]
          · simp [ql]
        · rw [if_neg (Ne.symm qj), if_neg (fun q => qj q.2)]
      · rw [if_neg qc, if_neg qc]
        split <;> rfl
    · rw [if_neg q, if_neg (fun w => q w.1)]
  · rename_i hna
    by_cases q : a' = a ∧ j' = j
    · rw [if_pos q]
      have : xG h a' c' j' = none := by
        unfold xG
        rw [q.1]
        split
        · rename_i ci fs ha
          exact absurd ha (hna ci fs)
        · rfl
      rw [this]
      rfl
    · rw [if_neg q]
theorem xG_A (h : xH) (b a c j : Nat) (e : xAr) : xG (xA h b e) a c j = xG h a c j := by
  unfold xA
  split
  · rename_i e0 hb
    unfold xG
    rw [xget_set _ _ _ _ (by rw [hb]; exact fun q => nomatch q)]
    by_cases q : a = b
    · subst q
      rw [if_pos rfl, hb]
    · rw [if_neg q]
  · rfl
theorem xB_S (h : xH) (a j b : Nat) (v : Value) : xB (xU h a j v) b = xB h b := by
  unfold xU
  split
  · rename_i ci fs ha
    unfold xB
    rw [xget_set _ _ _ _ (by rw [ha]; exact fun q => nomatch q)]
    by_cases q : b = a
    · subst q
      rw [if_pos rfl, ha]
    · rw [if_neg q]
  · rfl
theorem xB_A (h : xH) (b b' : Nat) (e : xAr) : xB (xA h b e) b' = if b' = b then (xB h b').map (fun _ => e) else xB h b' := by
  unfold xA
  split
  · rename_i e0 hb
    unfold xB
    rw [xget_set _ _ _ _ (by rw [hb]; exact fun q => nomatch q)]
    by_cases q : b' = b
    · subst q
      rw [if_pos rfl, if_pos rfl, hb]
      rfl
    · rw [if_neg q, if_neg q]
  · rename_i hna
    by_cases q : b' = b
    · subst q
      rw [if_pos rfl]
      have : xB h b' = none := by
        unfold xB
        split
        · rename_i e1 h1
          exact absurd h1 (hna e1)
        · rfl
      rw [this]
      rfl
    · rw [if_neg q]
theorem xOb_S (h : xH) (a j a' c : Nat) (v : Value) : xOb (xU h a j v) a' c = xOb h a' c := by
  unfold xU
  split
  · rename_i ci fs ha
    unfold xOb
    rw [xget_set _ _ _ _ (by rw [ha]; exact fun q => nomatch q)]
    by_cases q : a' = a
    · subst q
      rw [if_pos rfl, ha]
    · rw [if_neg q]
  · rfl
theorem xOb_A (h : xH) (b a c : Nat) (e : xAr) : xOb (xA h b e) a c = xOb h a c := by
  unfold xA
  split
  · rename_i e0 hb
    unfold xOb
    rw [xget_set _ _ _ _ (by rw [hb]; exact fun q => nomatch q)]
    by_cases q : a = b
    · subst q
      rw [if_pos rfl, hb]
    · rw [if_neg q]
  · rfl
theorem xOb_of {v : Value} (e : xG h a c j = some v) : xOb h a c = true := by
  obtain ⟨fs, h1, -⟩ := xG_eq e
  unfold xOb
  rw [h1]
  exact beq_self_eq_true c
theorem xS_S (h : xH) (a j : Nat) (v w : Value) : xU (xU h a j v) a j w = xU h a j w := by
  unfold xU
  cases ha : h[a]? with
  | none => simp only [ha]
  | some x =>
    rcases x with e | ⟨ci, fs⟩
    · simp only [ha]
    · have hl := (List.getElem?_eq_some_iff.mp ha).1
      simp only [List.getElem?_set_self hl, List.set_set]
theorem xA_A (h : xH) (b : Nat) (e f : xAr) : xA (xA h b e) b f = xA h b f := by
  unfold xA
  cases ha : h[b]? with
  | none => simp only [ha]
  | some x =>
    rcases x with e | ⟨ci, fs⟩
    · have hl := (List.getElem?_eq_some_iff.mp ha).1
      simp only [List.getElem?_set_self hl, List.set_set]
    · simp only [ha]
theorem xA_same {e : xAr} (hb : xB h b = some e) : xA h b e = h := by
  have h1 := xB_eq hb
  unfold xA
  rw [h1]
  dsimp only
  have hl := (List.getElem?_eq_some_iff.mp h1)
  obtain ⟨hl, he⟩ := hl
  apply List.ext_getElem?
  intro i
  rw [xget_set _ _ _ _ (by rw [h1]; exact fun q => nomatch q)]
  by_cases q : i = b
  · rw [if_pos q, q, h1]
  · rw [if_neg q]
theorem xS_same {v : Value} (hb : xG h a c j = some v) : xU h a j v = h := by
  obtain ⟨fs, h1, h2⟩ := xG_eq hb
  unfold xU
  rw [h1]
  dsimp only
  apply List.ext_getElem?
  intro i
  rw [xget_set _ _ _ _ (by rw [h1]; exact fun q => nomatch q)]
  by_cases q : i = a
  · rw [if_pos q, q, h1]
    obtain ⟨hl, he⟩ := List.getElem?_eq_some_iff.mp h2
    rw [← he, List.set_getElem_self]
  · rw [if_neg q]
theorem xA_comm (h : xH) {b b' : Nat} (e f : xAr) (q : b ≠ b') : xA (xA h b e) b' f = xA (xA h b' f) b e := by
  unfold xA
  cases ha : h[b]? with
  | none =>
    cases hb : h[b']? with
    | none => simp only [ha, hb]
    | some x =>
      rcases x with e1 | ⟨ci, fs⟩
      · simp only [hb, List.getElem?_set_ne (Ne.symm q), ha]
      · simp only [ha, hb]
  | some x =>
    rcases x with e0 | ⟨ci, fs⟩
    · cases hb : h[b']? with
      | none => simp only [hb, List.getElem?_set_ne q, ha]
      | some x =>
        rcases x with e1 | ⟨ci, fs⟩
        · simp only [List.getElem?_set_ne q, List.getElem?_set_ne (Ne.symm q), ha, hb]
          exact List.set_comm _ _ q
        · simp only [List.getElem?_set_ne q, ha, hb]
    · cases hb : h[b']? with
      | none => simp only [ha, hb]
      | some x =>
        rcases x with e1 | ⟨ci2, fs2⟩
        · simp only [hb, List.getElem?_set_ne (Ne.symm q), ha]
        · simp only [ha, hb]
/-! reads and writes at numbers -/
theorem xin_n {k n : Nat} (hk : k < n) (hn : n < 2 ^ 31) : xin (nI k) n = true := xin_nI hk hn
theorem xGi_of {v : Int32} (e : xG h a c j = some (.int v)) : xGi h a c j = some v := by unfold xGi; rw [e]
theorem xGl_of {v : Int64} (e : xG h a c j = some (.long v)) : xGl h a c j = some v := by unfold xGl; rw [e]
theorem xGr_of {v : Nat} (e : xG h a c j = some (.ref v)) : xGr h a c j = some v := by unfold xGr; rw [e]
theorem xGn_of1 {v : Nat} (e : xG h a c j = some (.ref v)) : xGn h a c j = some (some v) := by unfold xGn; rw [e]
theorem xGn_of0 (e : xG h a c j = some .null) : xGn h a c j = some none := by unfold xGn; rw [e]
theorem xRi_of {k n : Nat} {f : Nat → Int32} (e : xB h b = some (k, n, .inl f)) (hn : n < 2 ^ 31) {i : Nat} (hi : i < n) : xRi h k b (nI i) = some (f i) := by
  unfold xRi; rw [xB_eq e]
  dsimp only
  rw [if_pos ⟨rfl, xin_nI hi hn⟩, nI_clamp (by omega)]
theorem xRl_of {n : Nat} {f : Nat → Int64} (e : xB h b = some (1, n, .inr (.inl f))) (hn : n < 2 ^ 31) {i : Nat} (hi : i < n) : xRl h b (nI i) = some (f i) := by
  unfold xRl; rw [xB_eq e]
  dsimp only
  rw [if_pos ⟨rfl, xin_nI hi hn⟩, nI_clamp (by omega)]
theorem xRn_of {t n : Nat} {f : Nat → Option Nat} (e : xB h b = some (t, n, .inr (.inr (.inr (.inr f))))) (ht : 4 ≤ t) (hn : n < 2 ^ 31) {i : Nat} (hi : i < n) : xRn h b (nI i) = some (f i) := by
  unfold xRn; rw [xB_eq e]
  dsimp only
  rw [if_pos ⟨ht, xin_nI hi hn⟩, nI_clamp (by omega)]
theorem xRr_of {t n : Nat} {f : Nat → Option Nat} (e : xB h b = some (t, n, .inr (.inr (.inr (.inr f))))) (ht : 4 ≤ t) (hn : n < 2 ^ 31) {i v : Nat} (hi : i < n) (hv : f i = some v) : xRr h b (nI i) = some v := by
  unfold xRr; rw [xRn_of e ht hn hi, hv]; rfl
theorem xRz_of {e : xAr} (hb : xB h b = some e) : xRz h b = some (nI e.2.1) := by
  unfold xRz; rw [xB_eq hb]; rfl
theorem xWi_of {n : Nat} {f : Nat → Int32} (e : xB h b = some (0, n, .inl f)) (hn : n < 2 ^ 31) {i : Nat} (hi : i < n) (v : Int32) : xWi h b (nI i) v = some (xA h b (0, n, .inl (upd f i v))) := by
  unfold xWi xA; rw [xB_eq e]
  show (if xin (nI i) n = true then some _ else none) = some _
  rw [if_pos (xin_nI hi hn), nI_clamp (by omega)]
theorem xWz_of {n : Nat} {f : Nat → Int32} (e : xB h b = some (2, n, .inl f)) (hn : n < 2 ^ 31) {i : Nat} (hi : i < n) {v : Int32} (hv : v = 0 ∨ v = 1) : xWz h b (nI i) v = some (xA h b (2, n, .inl (upd f i v))) := by
  unfold xWz xA; rw [xB_eq e]
  show (if xin (nI i) n = true ∧ (v = 0 ∨ v = 1) then some _ else none) = some _
  rw [if_pos ⟨xin_nI hi hn, hv⟩, nI_clamp (by omega)]
theorem xWl_of {n : Nat} {f : Nat → Int64} (e : xB h b = some (1, n, .inr (.inl f))) (hn : n < 2 ^ 31) {i : Nat} (hi : i < n) (v : Int64) : xWl h b (nI i) v = some (xA h b (1, n, .inr (.inl (vp_updL f i v)))) := by
  unfold xWl xA; rw [xB_eq e]
  show (if xin (nI i) n = true then some _ else none) = some _
  rw [if_pos (xin_nI hi hn), nI_clamp (by omega)]
theorem xWc_of {n : Nat} {f : Nat → Int32} (e : xB h b = some (3, n, .inl f)) (hn : n < 2 ^ 31) {i : Nat} (hi : i < n) (v : Int32) : xWc h b (nI i) v = some (xA h b (3, n, .inl (upd f i (vp_nar .char v)))) := by
  unfold xWc xA; rw [xB_eq e]
  show (if xin (nI i) n = true then some _ else none) = some _
  rw [if_pos (xin_nI hi hn), nI_clamp (by omega)]
theorem xWr_of {t n ci : Nat} {f : Nat → Option Nat} (e : xB h b = some (t, n, .inr (.inr (.inr (.inr f))))) (hn : n < 2 ^ 31) {i v : Nat} (hi : i < n) (hv : xOb h v ci = true) (ht : xElm t = some ci) : xWr h b (nI i) v = some (xA h b (t, n, .inr (.inr (.inr (.inr (va_up f i (some v))))))) := by
  unfold xOb at hv
  split at hv
  · rename_i c2 fs h2
    have q : c2 = ci := by simpa using hv
    subst q
    unfold xWr xA; rw [xB_eq e, h2]
    dsimp only
    rw [if_pos ⟨xin_nI hi hn, ht⟩, nI_clamp (by omega)]
  · cases hv
theorem xP_of {ini : Bool} {k : Nat} {v v0 : Value} (e : xG h a c j = some v0) (hk : xPok ini k c j v = true) : xP ini k h a c j v = some (xU h a j v) := by
  obtain ⟨fs, h1, h2⟩ := xG_eq e
  unfold xP xU; rw [h1]
  dsimp only
  rw [if_pos ⟨rfl, (List.getElem?_eq_some_iff.mp h2).1, hk⟩]
/-! cells made -/
theorem xG_app (h : xH) (e : List xE) {a : Nat} (ha : a < h.length) (c j : Nat) : xG (h ++ e) a c j = xG h a c j := by unfold xG; rw [List.getElem?_append_left ha]
theorem xB_app (h : xH) (e : List xE) {b : Nat} (hb : b < h.length) : xB (h ++ e) b = xB h b := by unfold xB; rw [List.getElem?_append_left hb]
theorem xOb_app (h : xH) (e : List xE) {a : Nat} (ha : a < h.length) (c : Nat) : xOb (h ++ e) a c = xOb h a c := by unfold xOb; rw [List.getElem?_append_left ha]
theorem xG_lt {v : Value} (e : xG h a c j = some v) : a < h.length := by
  obtain ⟨fs, h1, h2⟩ := xG_eq e
  exact (List.getElem?_eq_some_iff.mp h1).1
theorem xB_lt {e : xAr} (hb : xB h b = some e) : b < h.length := (List.getElem?_eq_some_iff.mp (xB_eq hb)).1
end HEAP
/-! ends of calls -/
theorem xqI_s {x : Int32} {h : xH} {E : String → xH → Option xO} {T : Int32 → xH → Option xO} : xqI (some (.inl (some (.int x)), h, 0, 0)) E T = T x h := xadd_00 _
theorem xqJ_s {x : Int64} {h : xH} {E : String → xH → Option xO} {T : Int64 → xH → Option xO} : xqJ (some (.inl (some (.long x)), h, 0, 0)) E T = T x h := xadd_00 _
theorem xqR_s {x : Nat} {h : xH} {E : String → xH → Option xO} {T : Nat → xH → Option xO} : xqR (some (.inl (some (.ref x)), h, 0, 0)) E T = T x h := xadd_00 _
theorem xqK_s {x : Nat} {h : xH} {E : String → xH → Option xO} {T : Nat → xH → Option xO} : xqK (some (.inl (some (.retAddr x)), h, 0, 0)) E T = T x h := xadd_00 _
theorem xqN_s {x : Nat} {h : xH} {E : String → xH → Option xO} {T0 : xH → Option xO} {T : Nat → xH → Option xO} : xqN (some (.inl (some (.ref x)), h, 0, 0)) E T0 T = T x h := xadd_00 _
theorem xqN_0 {h : xH} {E : String → xH → Option xO} {T0 : xH → Option xO} {T : Nat → xH → Option xO} : xqN (some (.inl (some .null), h, 0, 0)) E T0 T = T0 h := xadd_00 _
theorem xqV_s {h : xH} {E : String → xH → Option xO} {T : xH → Option xO} : xqV (some (.inl none, h, 0, 0)) E T = T h := xadd_00 _
theorem xqC_s {h : xH} {T : xH → Option xO} : xqC (some (.inl none, h, 0, 0)) T = T h := xadd_00 _
theorem xqI_e {e : String} {h : xH} {c s : Nat} {E : String → xH → Option xO} {T : Int32 → xH → Option xO} : xqI (some (.inr e, h, c, s)) E T = xadd c s (E e h) := rfl
theorem xqJ_e {e : String} {h : xH} {c s : Nat} {E : String → xH → Option xO} {T : Int64 → xH → Option xO} : xqJ (some (.inr e, h, c, s)) E T = xadd c s (E e h) := rfl
theorem xqR_e {e : String} {h : xH} {c s : Nat} {E : String → xH → Option xO} {T : Nat → xH → Option xO} : xqR (some (.inr e, h, c, s)) E T = xadd c s (E e h) := rfl
theorem xqV_e {e : String} {h : xH} {c s : Nat} {E : String → xH → Option xO} {T : xH → Option xO} : xqV (some (.inr e, h, c, s)) E T = xadd c s (E e h) := rfl
theorem xadd_th {c s : Nat} {e : String} {h : xH} : xadd c s (xth e h) = some (.inr e, h, c, s) := by unfold xth xadd; simp
/-- counting down to a loop's start -/
theorem x_down {P : Nat → Prop} : ∀ (n : Nat), (∀ k, k < n → P (k + 1) → P k) → P n → ∀ k, k ≤ n → P k := by
  intro n hs hn k hk
  obtain ⟨d, rfl⟩ : ∃ d, n = k + d := ⟨n - k, by omega⟩
  clear hk
  induction d generalizing k with
  | zero => exact hn
  | succ d ih => exact hs k (by omega) (ih (k + 1) (fun j hj => hs j (by omega)) (by rw [show k + 1 + d = k + (d + 1) by omega]; exact hn))
