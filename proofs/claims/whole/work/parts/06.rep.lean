/-! WHAT THE ABSTRACT CELLS STAND FOR: ad, the addresses of the cells in order; cad, those of the constants -/
def xVR (cad : Nat → Nat) (ad : List Nat) (v w : Value) : Prop := match v with
  | .ref i => ∃ a, ad[i]? = some a ∧ w = .ref a
  | .retAddr k => if k = 998 then w = .null ∨ ∃ a, w = .ref a else if k = 999 then ∃ a, w = .ref a else w = .ref (cad k)
  | .int x => w = .int x
  | .long x => w = .long x
  | .null => w = .null
  | _ => False
def xSR (V : Value → Value → Prop) : List Value → List Value → Prop
  | [], l => l = []
  | v :: vs, l => ∃ w ws, l = w :: ws ∧ V v w ∧ xSR V vs ws
def xLR (V : Value → Value → Prop) : xL → List (Nat × Value) → Prop
  | [], l => l = []
  | q :: al, l => ∃ w l', l = (q.1, w) :: l' ∧ V q.2 w ∧ xLR V al l'
def xOR (ad : List Nat) (x y : Option Nat) : Prop := match x with
  | none => y = none
  | some i => ∃ a, ad[i]? = some a ∧ y = some a
def xER (cad : Nat → Nat) (TY : List (ClassId × FieldType)) (ad : List Nat) (e : xE) (x : va_E) : Prop := match e with
  | .inl (t, n, .inr (.inr (.inr (.inr f)))) => ∃ cA ty f', x = .inl (cA, n, .inr (.inr (.inr (.inr f')))) ∧ TY[t]? = some (cA, ty) ∧ ∀ k, xOR ad (f k) (f' k)
  | .inl (t, n, c) => ∃ cA ty, x = .inl (cA, n, c) ∧ TY[t]? = some (cA, ty)
  | .inr (ci, fs) => ∃ fs', x = .inr (ci, fs') ∧ xSR (xVR cad ad) fs fs'
def xHR (cad : Nat → Nat) (TY : List (ClassId × FieldType)) (ad : List Nat) (h : xH) (ws : va_W) : Prop :=
  ad.length = h.length ∧ ws.length = h.length ∧ ∀ (i : Nat) (e : xE), h[i]? = some e → ∃ a x, ad[i]? = some a ∧ ws[i]? = some (a, x) ∧ xER cad TY ad e x
theorem xVR_cat {cad : Nat → Nat} {ad : List Nat} {v w : Value} (h : xVR cad ad v w) : w.category = v.category := by
  cases v with
  | ref i => obtain ⟨a, -, rfl⟩ := h; rfl
  | retAddr k =>
    simp only [xVR] at h
    split at h
    · rcases h with rfl | ⟨a, rfl⟩ <;> rfl
    · split at h
      · obtain ⟨a, rfl⟩ := h; rfl
      · subst h; rfl
  | int x => cases h; rfl
  | long x => cases h; rfl
  | null => cases h; rfl
  | float x => exact h.elim
  | double x => exact h.elim
theorem xVR_mono {cad : Nat → Nat} {ad ex : List Nat} {v w : Value} (h : xVR cad ad v w) : xVR cad (ad ++ ex) v w := by
  cases v with
  | ref i =>
    obtain ⟨a, h1, rfl⟩ := h
    exact ⟨a, by rw [List.getElem?_append_left (List.getElem?_eq_some_iff.mp h1).1]; exact h1, rfl⟩
  | retAddr k => exact h
  | int x => exact h
  | long x => exact h
  | null => exact h
  | float x => exact h
  | double x => exact h
theorem xSR_imp {V W : Value → Value → Prop} (hvw : ∀ v w, V v w → W v w) : ∀ (l l' : List Value), xSR V l l' → xSR W l l'
  | [], _, h => h
  | v :: vs, _, ⟨w, ws, e, h1, h2⟩ => ⟨w, ws, e, hvw v w h1, xSR_imp hvw vs ws h2⟩
theorem xLR_imp {V W : Value → Value → Prop} (hvw : ∀ v w, V v w → W v w) : ∀ (l : xL) (l' : List (Nat × Value)), xLR V l l' → xLR W l l'
  | [], _, h => h
  | q :: vs, _, ⟨w, ws, e, h1, h2⟩ => ⟨w, ws, e, hvw q.2 w h1, xLR_imp hvw vs ws h2⟩
theorem xSR_mono {cad : Nat → Nat} {ad ex : List Nat} {l l' : List Value} (h : xSR (xVR cad ad) l l') : xSR (xVR cad (ad ++ ex)) l l' := xSR_imp (fun _ _ => xVR_mono) _ _ h
theorem xLR_mono {cad : Nat → Nat} {ad ex : List Nat} {l : xL} {l' : List (Nat × Value)} (h : xLR (xVR cad ad) l l') : xLR (xVR cad (ad ++ ex)) l l' := xLR_imp (fun _ _ => xVR_mono) _ _ h
theorem xOR_mono {ad ex : List Nat} {x y : Option Nat} (h : xOR ad x y) : xOR (ad ++ ex) x y := by
  cases x with
  | none => exact h
  | some i =>
    obtain ⟨a, h1, rfl⟩ := h
    exact ⟨a, by rw [List.getElem?_append_left (List.getElem?_eq_some_iff.mp h1).1]; exact h1, rfl⟩
theorem xER_mono {cad : Nat → Nat} {TY : List (ClassId × FieldType)} {ad ex : List Nat} {e : xE} {x : va_E} (h : xER cad TY ad e x) : xER cad TY (ad ++ ex) e x := by
  rcases e with ⟨t, n, c⟩ | ⟨ci, fs⟩
  · rcases c with f | f | f | f | f
    · exact h
    · exact h
    · exact h
    · exact h
    · obtain ⟨cA, ty, f', e1, e2, e3⟩ := h
      exact ⟨cA, ty, f', e1, e2, fun k => xOR_mono (e3 k)⟩
  · obtain ⟨fs', e1, e2⟩ := h
    exact ⟨fs', e1, xSR_mono e2⟩
theorem xSR_len {V : Value → Value → Prop} : ∀ (l l' : List Value), xSR V l l' → l'.length = l.length
  | [], _, h => by cases h; rfl
  | v :: vs, _, ⟨w, ws, e, _, h2⟩ => by rw [e, List.length_cons, List.length_cons, xSR_len vs ws h2]
theorem xSR_cats {cad : Nat → Nat} {ad : List Nat} : ∀ (l l' : List Value), xSR (xVR cad ad) l l' → l'.map (fun v => v.category) = l.map (fun v => v.category)
  | [], _, h => by cases h; rfl
  | v :: vs, _, ⟨w, ws, e, h1, h2⟩ => by rw [e, List.map_cons, List.map_cons, xSR_cats vs ws h2, xVR_cat h1]
theorem xSR_get {V : Value → Value → Prop} : ∀ (l l' : List Value) (k : Nat) (v : Value), xSR V l l' → l[k]? = some v → ∃ w, l'[k]? = some w ∧ V v w
  | [], _, k, v, _, h2 => by simp at h2
  | u :: us, _, 0, v, ⟨w, ws, e, h1, h2⟩, h => by
    cases h
    exact ⟨w, by rw [e]; rfl, h1⟩
  | u :: us, _, k + 1, v, ⟨w, ws, e, h1, h2⟩, h => by
    obtain ⟨x, hx, hv⟩ := xSR_get us ws k v h2 h
    exact ⟨x, by rw [e]; exact hx, hv⟩
theorem xSR_set {V : Value → Value → Prop} {v w : Value} (hv : V v w) : ∀ (l l' : List Value) (k : Nat), xSR V l l' → xSR V (l.set k v) (l'.set k w)
  | [], _, k, h => by cases h; exact rfl
  | u :: us, _, 0, ⟨x, ws, e, h1, h2⟩ => ⟨w, ws, by rw [e]; rfl, hv, h2⟩
  | u :: us, _, k + 1, ⟨x, ws, e, h1, h2⟩ => ⟨x, ws.set k w, by rw [e]; rfl, h1, xSR_set hv us ws k h2⟩
theorem xSR_app {V : Value → Value → Prop} : ∀ (l l' m m' : List Value), xSR V l l' → xSR V m m' → xSR V (l ++ m) (l' ++ m')
  | [], _, m, m', h, h2 => by cases h; exact h2
  | u :: us, _, m, m', ⟨x, ws, e, h1, h2⟩, h3 => ⟨x, ws ++ m', by rw [e]; rfl, h1, xSR_app us ws m m' h2 h3⟩
theorem xSR_rev {V : Value → Value → Prop} : ∀ (l l' : List Value), xSR V l l' → xSR V l.reverse l'.reverse
  | [], _, h => by cases h; exact rfl
  | u :: us, _, ⟨x, ws, e, h1, h2⟩ => by
    rw [e, List.reverse_cons, List.reverse_cons]
    exact xSR_app _ _ _ _ (xSR_rev us ws h2) ⟨x, [], rfl, h1, rfl⟩
theorem xSR_take {V : Value → Value → Prop} : ∀ (n : Nat) (l l' : List Value), xSR V l l' → xSR V (l.take n) (l'.take n) ∧ xSR V (l.drop n) (l'.drop n)
  | 0, l, l', h => ⟨by rw [List.take_zero, List.take_zero]; exact rfl, by rw [List.drop_zero, List.drop_zero]; exact h⟩
  | n + 1, [], _, h => by cases h; exact ⟨rfl, rfl⟩
  | n + 1, u :: us, _, ⟨x, ws, e, h1, h2⟩ => by
    subst e
    obtain ⟨a, b⟩ := xSR_take n us ws h2
    exact ⟨⟨x, ws.take n, rfl, h1, a⟩, b⟩
theorem xLR_get {V : Value → Value → Prop} {i : Nat} {v : Value} : ∀ (al : xL) (al' : List (Nat × Value)), xLR V al al' → al.lookup i = some v → ∃ (k : Nat) (w : Value), al'[k]? = some (i, w) ∧ V v w
  | [], _, _, h => by simp at h
  | q :: al, _, ⟨w, l', e, h1, h2⟩, h => by
    rw [List.lookup_cons] at h
    by_cases ei : i == q.1
    · rw [ei] at h
      cases h
      have e2 : i = q.1 := by simpa using ei
      exact ⟨0, w, by rw [e, e2]; rfl, h1⟩
    · simp only [Bool.not_eq_true] at ei
      rw [ei] at h
      obtain ⟨k, x, hx, hv⟩ := xLR_get al l' h2 h
      exact ⟨k + 1, x, by rw [e]; exact hx, hv⟩
theorem xLR_filter {cad : Nat → Nat} {ad : List Nat} {p : Nat × Value → Bool} (hp : ∀ i v w, xVR cad ad v w → p (i, w) = p (i, v)) : ∀ (al : xL) (al' : List (Nat × Value)), xLR (xVR cad ad) al al' → xLR (xVR cad ad) (al.filter p) (al'.filter p)
  | [], _, h => by cases h; exact rfl
  | q :: al, _, ⟨w, l', e, h1, h2⟩ => by
    subst e
    have ih := xLR_filter hp al l' h2
    have hq : p (q.1, w) = p q := hp q.1 q.2 w h1
    rw [List.filter_cons, List.filter_cons, hq]
    by_cases c : p q = true
    · rw [if_pos c, if_pos c]
      exact ⟨w, _, rfl, h1, ih⟩
    · rw [if_neg c, if_neg c]
      exact ih
theorem xLR_st1 {cad : Nat → Nat} {ad : List Nat} {al : xL} {al' : List (Nat × Value)} {i : Nat} {v w : Value} (h : xLR (xVR cad ad) al al') (hv : xVR cad ad v w) : xLR (xVR cad ad) (xst1 al i v) (xst1 al' i w) :=
  ⟨w, _, rfl, hv, xLR_filter (fun j a b hab => by simp only [xVR_cat hab]) _ _ h⟩
theorem xLR_st2 {cad : Nat → Nat} {ad : List Nat} {al : xL} {al' : List (Nat × Value)} {i : Nat} {v w : Value} (h : xLR (xVR cad ad) al al') (hv : xVR cad ad v w) : xLR (xVR cad ad) (xst2 al i v) (xst2 al' i w) :=
  ⟨w, _, rfl, hv, xLR_filter (fun j a b hab => by simp only [xVR_cat hab]) _ _ h⟩
theorem xLR_args {cad : Nat → Nat} {ad : List Nat} : ∀ (i : Nat) (l l' : List Value), xSR (xVR cad ad) l l' → xLR (xVR cad ad) (lv_args i l) (lv_args i l')
  | _, [], _, h => by cases h; exact rfl
  | i, v :: vs, _, ⟨w, ws, e, h1, h2⟩ => by
    subst e
    show xLR _ (_ :: _) (_ :: _)
    rw [xVR_cat h1]
    exact ⟨w, _, rfl, h1, xLR_args _ vs ws h2⟩
theorem xSR_sl {cad : Nat → Nat} {ad : List Nat} : ∀ (l l' : List Value), xSR (xVR cad ad) l l' → (lg_sl l').length = (lg_sl l).length
  | [], _, h => by cases h; rfl
  | v :: vs, _, ⟨w, ws, e, h1, h2⟩ => by
    subst e
    have ih := xSR_sl vs ws h2
    unfold lg_sl at ih ⊢
    rw [List.flatMap_cons, List.flatMap_cons, List.length_append, List.length_append, ih, xVR_cat h1]
    split <;> rfl
theorem xHR_get {cad : Nat → Nat} {TY : List (ClassId × FieldType)} {ad : List Nat} {h : xH} {ws : va_W} (H : xHR cad TY ad h ws) {i : Nat} {e : xE} (he : h[i]? = some e) {a : Nat} (ha : ad[i]? = some a) : ∃ x, ws[i]? = some (a, x) ∧ xER cad TY ad e x := by
  obtain ⟨a', x, h1, h2, h3⟩ := H.2.2 i e he
  cases h1.symm.trans ha
  exact ⟨x, h2, h3⟩
theorem xHR_set {cad : Nat → Nat} {TY : List (ClassId × FieldType)} {ad : List Nat} {h : xH} {ws : va_W} (H : xHR cad TY ad h ws) {i a : Nat} {e : xE} {x : va_E} (ha : ad[i]? = some a) (he : xER cad TY ad e x) : xHR cad TY ad (h.set i e) (ws.set i (a, x)) := by
  obtain ⟨h1, h2, h3⟩ := H
  refine ⟨by rw [List.length_set]; exact h1, by rw [List.length_set, List.length_set]; exact h2, fun j e' hj => ?_⟩
  by_cases c : j = i
  · subst c
    have hl : j < h.length := by rw [← h1]; exact (List.getElem?_eq_some_iff.mp ha).1
    rw [List.getElem?_set_self hl] at hj
    cases hj
    exact ⟨a, x, ha, List.getElem?_set_self (by omega), he⟩
  · rw [List.getElem?_set_ne (Ne.symm c)] at hj
    obtain ⟨a', x', q1, q2, q3⟩ := h3 j e' hj
    exact ⟨a', x', q1, by rw [List.getElem?_set_ne (Ne.symm c)]; exact q2, q3⟩
theorem xHR_push {cad : Nat → Nat} {TY : List (ClassId × FieldType)} {ad : List Nat} {h : xH} {ws : va_W} (H : xHR cad TY ad h ws) {a : Nat} {e : xE} {x : va_E} (he : xER cad TY (ad ++ [a]) e x) : xHR cad TY (ad ++ [a]) (h ++ [e]) (ws ++ [(a, x)]) := by
  obtain ⟨h1, h2, h3⟩ := H
  refine ⟨by simp [h1], by simp [h2], fun j e' hj => ?_⟩
  by_cases c : j < h.length
  · rw [List.getElem?_append_left c] at hj
    obtain ⟨a', x', q1, q2, q3⟩ := h3 j e' hj
    exact ⟨a', x', by rw [List.getElem?_append_left (by omega)]; exact q1, by rw [List.getElem?_append_left (by omega)]; exact q2, xER_mono q3⟩
  · have hj2 := (List.getElem?_eq_some_iff.mp hj).1
    rw [List.length_append] at hj2
    have e0 : j = h.length := by have : [e].length = 1 := rfl; omega
    subst e0
    rw [List.getElem?_append_right (Nat.le_refl _), Nat.sub_self] at hj
    cases hj
    exact ⟨a, x, by rw [← h1, List.getElem?_append_right (Nat.le_refl _), Nat.sub_self]; rfl, by rw [← h2, List.getElem?_append_right (Nat.le_refl _), Nat.sub_self]; rfl, he⟩
theorem xVR_k {cad : Nat → Nat} {ad : List Nat} {k : Nat} {w : Value} (h : xVR cad ad (.retAddr k) w) : w = .null ∨ ∃ a, w = .ref a := by
  simp only [xVR] at h
  split at h
  · exact h
  · split at h
    · exact Or.inr h
    · exact Or.inr ⟨_, h⟩
theorem xVR_kr {cad : Nat → Nat} {ad : List Nat} {k : Nat} {w : Value} (h : xVR cad ad (.retAddr k) w) (hk : k ≠ 998) : ∃ a, w = .ref a := by
  simp only [xVR, if_neg hk] at h
  split at h
  · exact h
  · exact ⟨_, h⟩
theorem xHR_app {cad : Nat → Nat} {TY : List (ClassId × FieldType)} {ad : List Nat} {h : xH} {ws : va_W} (H : xHR cad TY ad h ws) {as : List Nat} {es : xH} {xs : va_W} (e1 : as.length = es.length) (e2 : xs.length = es.length) (e3 : ∀ (i : Nat) (e : xE), es[i]? = some e → ∃ a x, as[i]? = some a ∧ xs[i]? = some (a, x) ∧ xER cad TY (ad ++ as) e x) : xHR cad TY (ad ++ as) (h ++ es) (ws ++ xs) := by
  obtain ⟨h1, h2, h3⟩ := H
  refine ⟨by simp [h1, e1], by simp [h2, e2], fun j e' hj => ?_⟩
  by_cases c : j < h.length
  · rw [List.getElem?_append_left c] at hj
    obtain ⟨a', x', q1, q2, q3⟩ := h3 j e' hj
    exact ⟨a', x', by rw [List.getElem?_append_left (by omega)]; exact q1, by rw [List.getElem?_append_left (by omega)]; exact q2, xER_mono q3⟩
  · rw [List.getElem?_append_right (by omega)] at hj
    obtain ⟨a, x, q1, q2, q3⟩ := e3 _ _ hj
    exact ⟨a, x, by rw [List.getElem?_append_right (by omega), h1]; exact q1, by rw [List.getElem?_append_right (by omega), h2]; exact q2, q3⟩
theorem xHR_rows {cad : Nat → Nat} {TY : List (ClassId × FieldType)} {ad : List Nat} {h : xH} {ws : va_W} (H : xHR cad TY ad h ws) {q N K : Nat} {r : Nat → Nat} {cA cI : ClassId} {f : Nat → va_E} (hA : TY[7]? = some (cA, .array .int)) (hI : TY[0]? = some (cI, .int)) :
    xHR cad TY (ad ++ (q :: (List.range N).map r)) (h ++ [.inl (7, N, .inr (.inr (.inr (.inr (fun j => if j < N then some (h.length + 1 + j) else none)))))] ++ List.replicate N (.inl (0, K, .inl (fun _ => 0))))
      ((ws ++ [(q, .inl (cA, N, .inr (.inr (.inr (.inr (fun i => if i < N then some (r i) else none))))))]) ++ va_pl ([] ++ (List.range N).map r) (vr_up f ((List.range N).map r) (.inl (cI, (K, .inl (fun _ => 0)))))) := by
  rw [List.append_assoc, List.append_assoc, List.nil_append]
  refine xHR_app H (by simp) (by simp [va_pl]) (fun i e hi => ?_)
  cases i with
  | zero =>
    cases hi
    refine ⟨q, _, rfl, rfl, cA, _, _, rfl, hA, fun k => ?_⟩
    dsimp only
    by_cases c : k < N
    · rw [if_pos c, if_pos c]
      refine ⟨r k, ?_, rfl⟩
      rw [List.getElem?_append_right (by rw [H.1]; omega), H.1, show h.length + 1 + k - h.length = k + 1 by omega]
      show ((List.range N).map r)[k]? = _
      rw [List.getElem?_map, List.getElem?_range c]
      rfl
    · rw [if_neg c, if_neg c]
      exact rfl
  | succ j =>
    have hi2 : (List.replicate N (.inl (0, K, .inl (fun _ => 0)) : xE))[j]? = some e := hi
    have hj : j < N := by
      have := (List.getElem?_eq_some_iff.mp hi2).1
      rw [List.length_replicate] at this
      exact this
    rw [List.getElem?_replicate, if_pos hj] at hi2
    cases hi2
    refine ⟨r j, .inl (cI, (K, .inl (fun _ => 0))), ?_, ?_, cI, _, rfl, hI⟩
    · show ((List.range N).map r)[j]? = _
      rw [List.getElem?_map, List.getElem?_range hj]
      rfl
    · show (va_pl _ _)[j]? = _
      unfold va_pl
      rw [List.getElem?_map, List.getElem?_map, List.getElem?_range hj]
      show some (r j, vr_up f _ _ (r j)) = _
      rw [vr_up_in (List.mem_map.mpr ⟨j, List.mem_range.mpr hj, rfl⟩)]
