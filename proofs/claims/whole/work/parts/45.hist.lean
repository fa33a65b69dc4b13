/-! THE HISTORY OF THE CLASS -/
def hsY (h : xH) (W H : Nat) (l : List (Nat × (Nat → Int64))) (c : Nat) (pf : Nat → Int32) : Prop :=
  xG h 10 3 0 = some (.ref 11) ∧ xG h 10 3 1 = some (.ref 12) ∧ (∃ F, xB h 11 = some (4, 8, .inr (.inr (.inr (.inr F)))) ∧ ∀ s, s < 8 → F s = some (13 + 2 * s)) ∧
  c < 8 ∧ xG h 10 3 2 = some (.int (nI c)) ∧ xG h 10 3 3 = some (.int (nI l.length)) ∧ l.length ≤ 8 ∧ xB h 12 = some (0, 8, .inl pf) ∧
  (∀ s, s < 8 → ∃ f, imX h (13 + 2 * s) (14 + 2 * s) W H f ∧ okP W H f) ∧
  ∀ i q, l[i]? = some q → pf ((c + i) % 8) = nI q.1 ∧ q.1 < 4 ∧ imX h (13 + 2 * ((c + i) % 8)) (14 + 2 * ((c + i) % 8)) W H q.2 ∧ okP W H q.2
def hsX (h : xH) (W H : Nat) (l : List (Nat × (Nat → Int64))) : Prop := ∃ c pf, hsY h W H l c pf
/-- a state kept: the oldest of eight goes -/
def hsN (l : List (Nat × (Nat → Int64))) (q : Nat × (Nat → Int64)) : List (Nat × (Nat → Int64)) := (if l.length = 8 then l.tail else l) ++ [q]
section HS
variable {S : xS} {h h' : xH} {W H a b c : Nat} {f : Nat → Int64} {l : List (Nat × (Nat → Int64))} {pf : Nat → Int32}
theorem hsX_fr {Q : Nat → Nat → Prop} {P : Nat → Prop} (F : xfr Q P h h') (X : hsX h W H l) (qQ : ∀ z j, 10 ≤ z → z < 29 → ¬ Q z j) (q : ∀ z, 10 ≤ z → z < 29 → ¬ P z) : hsX h' W H l := by
  obtain ⟨c, pf, h1, h2, ⟨G, h3, h4⟩, h5, h6, h7, h8, h9, h10, h11⟩ := X
  refine ⟨c, pf, xfr_G F h1 (qQ 10 _ (by omega) (by omega)), xfr_G F h2 (qQ 10 _ (by omega) (by omega)), ⟨G, xfr_B F h3 (q 11 (by omega) (by omega)), h4⟩, h5, xfr_G F h6 (qQ 10 _ (by omega) (by omega)), xfr_G F h7 (qQ 10 _ (by omega) (by omega)), h8, xfr_B F h9 (q 12 (by omega) (by omega)), fun s hs => ?_, fun i p hp => ?_⟩
  · obtain ⟨f, I, o⟩ := h10 s hs
    exact ⟨f, imX_fr F I (fun j => qQ _ j (by omega) (by omega)) (q _ (by omega) (by omega)), o⟩
  · obtain ⟨g1, g2, g3, g4⟩ := h11 i p hp
    exact ⟨g1, g2, imX_fr F g3 (fun j => qQ _ j (by omega) (by omega)) (q _ (by omega) (by omega)), g4⟩
theorem hsY_pop (X : hsY h W H l c pf) (hl : l.length = 8) : hsY (xU (xU h 10 2 (.int (nI ((c + 1) % 8)))) 10 3 (.int (nI 7))) W H l.tail ((c + 1) % 8) pf := by
  obtain ⟨h1, h2, ⟨G, h3, h4⟩, h5, h6, h7, h8, h9, h10, h11⟩ := X
  have hlt : l.tail.length = 7 := by rw [List.length_tail, hl]
  have fr : ∀ {a b : Nat} {f : Nat → Int64}, a ≠ 10 → imX h a b W H f → imX (xU (xU h 10 2 (.int (nI ((c + 1) % 8)))) 10 3 (.int (nI 7))) a b W H f := fun q I => imX_S (imX_S I _ q) _ q
  refine ⟨?_, ?_, ⟨G, by rw [xB_S, xB_S]; exact h3, h4⟩, Nat.mod_lt _ (by decide), ?_, ?_, by rw [hlt]; decide, by rw [xB_S, xB_S]; exact h9, fun s hs => ?_, fun i p hp => ?_⟩
  · rw [xG_S, if_neg (by decide), xG_S, if_neg (by decide)]; exact h1
  · rw [xG_S, if_neg (by decide), xG_S, if_neg (by decide)]; exact h2
  · rw [xG_S, if_neg (by decide), xG_S, if_pos (by decide), h6]; rfl
  · rw [xG_S, if_pos (by decide), xG_S, if_neg (by decide), h7, hlt]; rfl
  · obtain ⟨f, I, o⟩ := h10 s hs
    exact ⟨f, fr (by omega) I, o⟩
  · rw [List.getElem?_tail] at hp
    obtain ⟨g1, g2, g3, g4⟩ := h11 (i + 1) p hp
    have e : ((c + 1) % 8 + i) % 8 = (c + (i + 1)) % 8 := by omega
    rw [e]
    exact ⟨g1, g2, fr (by omega) g3, g4⟩
theorem hsY_push (X : hsY h W H l c pf) (hl : l.length < 8) {p : Nat} (hp : p < 4) (o : okP W H f) : hsY (xU (xA (xA h 12 (0, 8, .inl (upd pf ((c + l.length) % 8) (nI p)))) (14 + 2 * ((c + l.length) % 8)) (lA H f)) 10 3 (.int (nI (l.length + 1)))) W H (l ++ [(p, f)]) c (upd pf ((c + l.length) % 8) (nI p)) ∧ imX (xU (xA (xA h 12 (0, 8, .inl (upd pf ((c + l.length) % 8) (nI p)))) (14 + 2 * ((c + l.length) % 8)) (lA H f)) 10 3 (.int (nI (l.length + 1)))) (13 + 2 * ((c + l.length) % 8)) (14 + 2 * ((c + l.length) % 8)) W H f := by
  obtain ⟨h1, h2, ⟨G, h3, h4⟩, h5, h6, h7, h8, h9, h10, h11⟩ := X
  generalize hs0 : (c + l.length) % 8 = s0
  have hs : s0 < 8 := by omega
  have fr : ∀ {s : Nat} {g : Nat → Int64}, s ≠ s0 → imX h (13 + 2 * s) (14 + 2 * s) W H g → imX (xU (xA (xA h 12 (0, 8, .inl (upd pf s0 (nI p)))) (14 + 2 * s0) (lA H f)) 10 3 (.int (nI (l.length + 1)))) (13 + 2 * s) (14 + 2 * s) W H g := fun q I => imX_S (imX_ne (imX_ne I _ (by omega)) _ (by omega)) _ (by omega)
  have own : imX (xU (xA (xA h 12 (0, 8, .inl (upd pf s0 (nI p)))) (14 + 2 * s0) (lA H f)) 10 3 (.int (nI (l.length + 1)))) (13 + 2 * s0) (14 + 2 * s0) W H f := by
    obtain ⟨g, I, -⟩ := h10 s0 hs
    exact imX_S (imX_put (imX_ne I _ (by omega)) f) _ (by omega)
  refine ⟨⟨?_, ?_, ⟨G, ?_, h4⟩, h5, ?_, ?_, by rw [List.length_append]; show l.length + 1 ≤ 8; omega, ?_, fun s hs2 => ?_, fun i q hq => ?_⟩, own⟩
  · rw [xG_S, if_neg (by decide), xG_A, xG_A]; exact h1
  · rw [xG_S, if_neg (by decide), xG_A, xG_A]; exact h2
  · rw [xB_S, xB_A, if_neg (by omega), xB_A, if_neg (by decide)]; exact h3
  · rw [xG_S, if_neg (by decide), xG_A, xG_A]; exact h6
  · rw [xG_S, if_pos (by decide), xG_A, xG_A, h7, List.length_append]; rfl
  · rw [xB_S, xB_A, if_neg (by omega), xB_A, if_pos rfl, h9]; rfl
  · by_cases e : s = s0
    · subst e; exact ⟨f, own, o⟩
    · obtain ⟨g, I, og⟩ := h10 s hs2
      exact ⟨g, fr e I, og⟩
  · by_cases e : i < l.length
    · rw [List.getElem?_append_left e] at hq
      obtain ⟨g1, g2, g3, g4⟩ := h11 i q hq
      have hne : (c + i) % 8 ≠ s0 := by omega
      refine ⟨?_, g2, fr hne g3, g4⟩
      unfold upd
      rw [if_neg hne]
      exact g1
    · have ei : i = l.length := by
        have := (List.getElem?_eq_some_iff.mp hq).1
        rw [List.length_append] at this
        simp only [List.length_cons, List.length_nil] at this
        omega
      subst ei
      rw [List.getElem?_concat_length] at hq
      cases hq
      rw [hs0]
      refine ⟨?_, hp, own, o⟩
      unfold upd
      rw [if_pos rfl]
theorem slotAt_s (X : hsY h W H l c pf) {i : Nat} (hi : i < 100) : xM S mX3_slotAt [.ref 10, .int (nI i)] h = some (.inl (some (.int (nI ((c + i) % 8)))), h, 0, 0) := by
  obtain ⟨h1, h2, h3, h5, h6, h7⟩ := X
  refine w_X3_slotAt S _ _ h _ ?_
  try rw [xGi_of h6]
  try rw [Option.bind_some]
  try rw [nI_add]
  try rw [show (8 : Int32) = nI 8 from rfl]
  try rw [floorMod_s S h (by omega) (by decide) (by decide)]
  try rw [xqI_s]
theorem xPok_3i {j : Nat} (hj : j = 2 ∨ j = 3) (x : Int32) : xPok false 3 3 j (.int x) = true := by
  rcases hj with rfl | rfl
  · exact xPok_int (by decide) rfl
  · exact xPok_int (by decide) rfl
/-- what follows a slot's choice -/
theorem keep_tail (X : hsY h W H l c pf) (hl : l.length < 8) {p : Nat} (hp : p < 4) (I : imX h a b W H f) (o : okP W H f) (hb : ∀ s, s < 8 → b ≠ 14 + 2 * s) (ha : a ≠ 10) (hb12 : b ≠ 12) : ((xGr h 10 3 1).bind fun v6 => (xWi h v6 (nI ((c + l.length) % 8)) (nI p)).bind fun h7 => (xGr h7 10 3 0).bind fun v8 => (xRr h7 v8 (nI ((c + l.length) % 8))).bind fun v9 => if xOb h7 v9 4 = true then xqV (xM S mX4_takeFrom [.ref v9, .ref a] h7) xth fun h11 => (xGi h11 10 3 3).bind fun v13 => (xP false 3 h11 10 3 3 (.int (v13 + (1 : Int32)))).bind fun h14 => (xGr h14 10 3 0).bind fun v15 => (xRr h14 v15 (nI ((c + l.length) % 8))).bind fun v16 => some (.inl (some (.ref v16)), h14, 0, 0) else none) = some (.inl (some (.ref (13 + 2 * ((c + l.length) % 8)))), xU (xA (xA h 12 (0, 8, .inl (upd pf ((c + l.length) % 8) (nI p)))) (14 + 2 * ((c + l.length) % 8)) (lA H f)) 10 3 (.int (nI (l.length + 1))), 0, 0) := by
  obtain ⟨h1, h2, ⟨G, h3, h4⟩, h5, h6, h7, h8, h9, h10, h11⟩ := X
  generalize hs0 : (c + l.length) % 8 = s0
  have hs : s0 < 8 := by omega
  obtain ⟨g, J, og⟩ := h10 s0 hs
  have J1 := imX_ne (b' := 12) J (0, 8, .inl (upd pf s0 (nI p))) (by omega)
  have I1 := imX_ne (b' := 12) I (0, 8, .inl (upd pf s0 (nI p))) hb12
  try rw [xGr_of h2]
  try rw [Option.bind_some]
  try rw [xWi_of h9 (by decide) hs]
  try rw [Option.bind_some]
  try rw [xGr_of (by rw [xG_A]; exact h1)]
  try rw [Option.bind_some]
  try rw [xRr_of (by rw [xB_A, if_neg (by decide)]; exact h3) (by decide) (by decide) hs (h4 s0 hs)]
  try rw [Option.bind_some]
  try rw [if_pos (imX_ob J1)]
  try rw [takeFrom_s J1 I1 (hb s0 hs)]
  try rw [xqV_s]
  try rw [fill_ok o og]
  try rw [xGi_of (by rw [xG_A, xG_A]; exact h7)]
  try rw [Option.bind_some]
  try rw [xP_of (by rw [xG_A, xG_A]; exact h7) (xPok_3i (Or.inr rfl) _)]
  try rw [Option.bind_some]
  try rw [xGr_of (by rw [xG_S, if_neg (by decide), xG_A, xG_A]; exact h1)]
  try rw [Option.bind_some]
  try rw [xRr_of (by rw [xB_S, xB_A, if_neg (by omega), xB_A, if_neg (by decide)]; exact h3) (by decide) (by decide) hs (h4 s0 hs)]
  try rw [Option.bind_some]
  try rw [show (1 : Int32) = nI 1 from rfl]
  try rw [nI_add]
theorem keep_s (X : hsX h W H l) {p : Nat} (hp : p < 4) (I : imX h a b W H f) (o : okP W H f) (hb : ∀ s, s < 8 → b ≠ 14 + 2 * s) (ha : a ≠ 10) (hb12 : b ≠ 12) : ∃ h' s, s < 8 ∧ xM S mX3_keep [.ref 10, .int (nI p), .ref a] h = some (.inl (some (.ref (13 + 2 * s))), h', 0, 0) ∧ hsX h' W H (hsN l (p, f)) ∧ imX h' (13 + 2 * s) (14 + 2 * s) W H f ∧ xfr (fun z _ => z = 10) (fun z => 10 ≤ z ∧ z < 29) h h' := by
  obtain ⟨c, pf, X⟩ := X
  have X0 := X
  obtain ⟨h1, h2, ⟨G, h3, h4⟩, h5, h6, h7, h8, h9, h10, h11⟩ := X0
  have hob : xOb h 10 3 = true := xOb_of h1
  by_cases e8 : l.length = 8
  · have Y := hsY_pop X e8
    have hlt : l.tail.length = 7 := by rw [List.length_tail, e8]
    have I2 : imX (xU (xU h 10 2 (.int (nI ((c + 1) % 8)))) 10 3 (.int (nI 7))) a b W H f := imX_S (imX_S I _ ha) _ ha
    obtain ⟨Z, J⟩ := hsY_push (f := f) Y (by omega) hp o
    refine ⟨_, ((c + 1) % 8 + l.tail.length) % 8, Nat.mod_lt _ (by decide), w_X3_keep S _ _ _ h _ ?_, ?_, J, ?_⟩
    · have h7' : xG h 10 3 3 = some (.int 8) := by rw [h7, e8]; rfl
      try rw [xGi_of h7']
      try rw [Option.bind_some]
      try rw [if_neg (by decide)]
      try rw [if_pos hob]
      try rw [show (1 : Int32) = nI 1 from rfl]
      try rw [slotAt_s X (by decide)]
      try rw [xqI_s]
      try rw [xP_of h6 (xPok_3i (Or.inl rfl) _)]
      try rw [Option.bind_some]
      try rw [xGi_of (v := 8) (by rw [xG_S, if_neg (by decide)]; exact h7')]
      try rw [Option.bind_some]
      try rw [xP_of (v0 := .int 8) (by rw [xG_S, if_neg (by decide)]; exact h7') (xPok_3i (Or.inr rfl) _)]
      try rw [Option.bind_some]
      rw [show (8 : Int32) - nI 1 = nI 7 from by decide]
      have h7b : xG (xU (xU h 10 2 (.int (nI ((c + 1) % 8)))) 10 3 (.int (nI 7))) 10 3 3 = some (.int (nI l.tail.length)) := Y.2.2.2.2.2.1
      try rw [xGi_of h7b]
      try rw [Option.bind_some]
      try rw [if_pos (xOb_of Y.1)]
      try rw [slotAt_s Y (by omega)]
      try rw [xqI_s]
      exact keep_tail Y (by omega) hp I2 o hb ha hb12
    · unfold hsN
      rw [if_pos e8]
      exact ⟨_, _, Z⟩
    · exact xfr_tr (xfr_tr (xfr_tr (xfr_tr (xfr_S (by exact rfl) _) (xfr_S (by exact rfl) _)) (xfr_A (by omega) _)) (xfr_A (by omega) _)) (xfr_S (by exact rfl) _)
  · obtain ⟨Z, J⟩ := hsY_push (f := f) X (by omega) hp o
    refine ⟨_, (c + l.length) % 8, Nat.mod_lt _ (by decide), w_X3_keep S _ _ _ h _ ?_, ?_, J, ?_⟩
    · try rw [xGi_of h7]
      try rw [Option.bind_some]
      try rw [if_pos (show ¬ nI l.length = (8 : Int32) from fun q => e8 ((nI_eq (by omega) (by decide)).mp (show nI l.length = nI 8 from q)))]
      try rw [xGi_of h7]
      try rw [Option.bind_some]
      try rw [if_pos hob]
      try rw [slotAt_s X (by omega)]
      try rw [xqI_s]
      exact keep_tail X (by omega) hp I o hb ha hb12
    · unfold hsN
      rw [if_neg e8]
      exact ⟨_, _, Z⟩
    · exact xfr_tr (xfr_tr (xfr_A (by omega) _) (xfr_A (by omega) _)) (xfr_S (by exact rfl) _)
end HS
