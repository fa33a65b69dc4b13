/-! THE ABSTRACT RUN IS THE MACHINE'S -/
def xOV (V : Value → Value → Prop) (x y : Option Value) : Prop := match x with
  | none => y = none
  | some v => ∃ w, y = some w ∧ V v w
def xQc (D : va_G) (cad : Nat → Nat) (TY : List (ClassId × FieldType)) (b0 : Nat) (ad : List Nat) (o : xO) : Array Value → State → Outcome → State → Prop := fun _ st oc t => ∃ (v w : Option Value) (ex : List Nat), o.1 = .inl v ∧ oc = .returned w ∧ xOV (xVR cad (ad ++ ex)) v w ∧ xWd D cad TY b0 (ad ++ ex) o.2.1 t.heap ∧ va_F (fun q => b0 ≤ q) st t
def xXc (D : va_G) (cad : Nat → Nat) (TY : List (ClassId × FieldType)) (b0 : Nat) (ad : List Nat) (o : xO) : String → State → State → Prop := fun E st t => ∃ ex, o.1 = .inr E ∧ xWd D cad TY b0 (ad ++ ex) o.2.1 t.heap ∧ va_F (fun q => b0 ≤ q) st t
theorem xWd_lt {D : va_G} {cad : Nat → Nat} {TY : List (ClassId × FieldType)} {b0 : Nat} {ad : List Nat} {h : xH} {H : Heap} (hw : xWd D cad TY b0 ad h H) {i a : Nat} (ha : ad[i]? = some a) : a < H.size := by
  obtain ⟨ws, hP, -, hR⟩ := hw
  have hi : i < h.length := by rw [← hR.1]; exact (List.getElem?_eq_some_iff.mp ha).1
  obtain ⟨x, hx, -⟩ := xHR_get hR (List.getElem?_eq_getElem hi) ha
  exact (hP i _ hx).lt
/-- a world whose cells are as they were -/
theorem xWd_kept {D : va_G} {cad : Nat → Nat} {TY : List (ClassId × FieldType)} {b0 : Nat} {ad : List Nat} {h : xH} {H H1 : Heap} (hw : xWd D cad TY b0 ad h H) (hq : ∀ q : Nat, q < H.size → H1[q]? = H[q]?) : xWd D cad TY b0 ad h H1 := by
  obtain ⟨ws, hP, hD, hR⟩ := hw
  exact ⟨ws, hP.kept (fun k q hk => hq _ ((hP k q hk).lt)), hD, hR⟩
theorem xCpy_room {n lo r : Nat} (h1 : n ≤ 8) (h2 : 26 ≤ lo) (h3 : lo ≤ r) : n + (nativeFrameWords "java/lang/System" "arraycopy" 5 + 11) ≤ r := by
  have h4 : nativeFrameWords "java/lang/System" "arraycopy" 5 = 7 := by decide +kernel
  omega
section XSND
variable {p : Program} {l : Launch} {e : Env} {R : Room} {s : State} {mid : MethodId} {args : Array Value} {below : List Frame} {meth : Method} {c : Code} {H : Heap} {locs : List Loc} {cells slots : Nat} {Q : State → Prop}
variable {pc : Nat} {ls : Array Slot} {D : va_G} {cad : Nat → Nat} {TY : List (ClassId × FieldType)} {b0 : Nat} {S : xS} {m : xMd} {ad : List Nat} {h : xH}
theorem xW_imp {Q' : State → Prop} {g : JFrame} (hQ : ∀ t, Q t → Q' t) (k : W p l e R s mid args below meth c H locs cells slots Q g) : W p l e R s mid args below meth c H locs cells slots Q' g := fun T hT X => by
  obtain ⟨t, a, b⟩ := k T hT X
  exact ⟨t, a, hQ t b⟩
theorem xMQ_imp {Qc Qc' : Array Value → State → Outcome → State → Prop} {XC XC' : String → State → State → Prop} {mc ms mc' ms' : Nat} {free : Addr → Prop} (hq : ∀ a st o t, Qc a st o t → Qc' a st o t) (hx : ∀ E st t, XC E st t → XC' E st t) (e1 : mc = mc') (e2 : ms = ms') (t : State) (k : vx_MQ below Qc XC args s mc ms free t) : vx_MQ below Qc' XC' args s mc' ms' free t := by
  subst e1; subst e2
  obtain ⟨o, h1, h2, h3⟩ := k
  refine ⟨o, h1, h2, ?_⟩
  rcases h3 with ⟨h3, h4⟩ | ⟨q, h3, E, ce, L, h4, h5⟩
  · exact Or.inl ⟨hq _ _ _ _ h3, h4⟩
  · exact Or.inr ⟨q, h3, E, ce, L, hx _ _ _ h4, h5⟩
/-- what comes behind a step, seen from ahead of it -/
theorem xMQ_next {o o' : xO} {ex : List Nat} {dc ds : Nat} (e0 : o = (o'.1, o'.2.1, o'.2.2.1 + dc, o'.2.2.2 + ds)) (t : State) (k : vx_MQ below (xQc D cad TY b0 (ad ++ ex) o') (xXc D cad TY b0 (ad ++ ex) o') args s (cells + dc + o'.2.2.1) (slots + ds + o'.2.2.2) (fun q => b0 ≤ q) t) : vx_MQ below (xQc D cad TY b0 ad o) (xXc D cad TY b0 ad o) args s (cells + o.2.2.1) (slots + o.2.2.2) (fun q => b0 ≤ q) t := by
  subst e0
  refine xMQ_imp (fun a st oc t hk => ?_) (fun E st t hk => ?_) (by show _ = cells + (o'.2.2.1 + dc); omega) (by show _ = slots + (o'.2.2.2 + ds); omega) t k
  · obtain ⟨v, w, ex1, k1, k2, k3, k4, k5⟩ := hk
    exact ⟨v, w, ex ++ ex1, k1, k2, by rw [← List.append_assoc]; exact k3, by rw [← List.append_assoc]; exact k4, k5⟩
  · obtain ⟨ex1, k1, k2, k3⟩ := hk
    exact ⟨ex ++ ex1, k1, by rw [← List.append_assoc]; exact k2, k3⟩
/-- one step that stays in its frame -/
theorem xs_step (Cx : xCx D cad TY b0 S m p l R s mid args meth c) {al al1 : xL} {st st1 stc : List Value} {h1 : xH} {pc1 dc ds : Nat} {al' : List (Nat × Value)} (hp : xstep S m pc al st h = some (.inl ((pc1, al1, st1, h1), dc, ds))) (hl : lv_has ls m.2.2.1 al') (hL : xLR (xVR cad ad) al al') (hs : xSR (xVR cad ad) st stc) (hw : xWd D cad TY b0 ad h H) (hS : va_S (fun q => b0 ≤ q) s.heap H locs)
    (hcells : cells + dc ≤ R.cells) (hslots : slots + ds ≤ R.slots)
    (kk : ∀ ex ls1 al1' stc' H1 locs1, lv_has ls1 m.2.2.1 al1' → xLR (xVR cad (ad ++ ex)) al1 al1' → xSR (xVR cad (ad ++ ex)) st1 stc' → xWd D cad TY b0 (ad ++ ex) h1 H1 → va_S (fun q => b0 ≤ q) s.heap H1 locs1 → W p l e R s mid args below meth c H1 locs1 (cells + dc) (slots + ds) Q (F0 mid pc1 ls1 stc')) : W p l e R s mid args below meth c H locs cells slots Q (F0 mid pc ls stc) := by
  have Cx0 := Cx
  obtain ⟨hexec, hb, hml, hret, hlocks, hname, htab, hown, hts, hnw, hK, hTY, hC, hfl, hrf, hrl, hnm⟩ := Cx
  rw [← hnm] at hown
  have nil : ∀ {l1 l2 : List Value}, xSR (xVR cad ad) l1 l2 → xSR (xVR cad (ad ++ [])) l1 l2 := fun q => xSR_mono q
  have nilL : ∀ {l1 : xL} {l2 : List (Nat × Value)}, xLR (xVR cad ad) l1 l2 → xLR (xVR cad (ad ++ [])) l1 l2 := fun q => xLR_mono q
  have nilW : ∀ {h : xH} {H : Heap}, xWd D cad TY b0 ad h H → xWd D cad TY b0 (ad ++ []) h H := fun q => by rw [List.append_nil]; exact q
  have hA : ∀ q, s.heap.size ≤ q → (fun q => b0 ≤ q) q := fun q hq => Nat.le_trans hC.1.2.2 hq
  unfold xstep at hp
  split at hp
  · cases hp
  · rename_i i n hd
    split at hp
    · obtain ⟨st2, e1, e2⟩ := Option.map_eq_some_iff.mp hp; cases e2
      exact xs_pure hexec hb hd e1 hs (fun stc' g => kk [] _ _ _ _ _ hl (nilL hL) (nil g) (nilW hw) hS)
    · obtain ⟨st2, e1, e2⟩ := Option.map_eq_some_iff.mp hp; cases e2
      exact xs_loc hexec hb hd e1 hs hl hL (fun ls1 al1' stc' g1 g2 g3 => kk [] _ _ _ _ _ g1 (nilL g2) (nil g3) (nilW hw) hS)
    · obtain ⟨st2, e1, e2⟩ := Option.map_eq_some_iff.mp hp; cases e2
      exact xs_br hexec hb hd e1 hs (fun stc' g => kk [] _ _ _ _ _ hl (nilL hL) (nil g) (nilW hw) hS)
    · split at hp
      · rename_i e1; cases hp
        exact xs_rd Cx0 hd e1 hs hw hS (fun stc' g => kk [] _ _ _ _ _ hl (nilL hL) (nil g) (nilW hw) hS)
      · obtain ⟨st2, e1, e2⟩ := Option.map_eq_some_iff.mp hp; cases e2
        exact xs_wr Cx0 hd e1 hs hw hS hcells hslots (fun ex stc' H1 locs1 g1 g2 g3 => kk ex _ _ _ _ _ hl (xLR_mono hL) g1 g2 g3)
    · split at hp
      · -- Object.<init>
        rename_i hob; obtain ⟨hob, hn⟩ := hob; subst hn
        obtain ⟨x, rfl, hlink⟩ := xObI_ok hob
        split at hp
        · split at hp
          · rename_i hq; obtain ⟨q1, q2, q3⟩ := hq
            obtain ⟨e9, -, e2⟩ := Option.map_eq_some_iff.mp hp; cases e2
            obtain ⟨w1, t1, rfl, ⟨a1, ha1, rfl⟩, hs⟩ := hs
            refine W.objInit hexec hb hown (hts _ hlink) (hts _ xObI_w.1) (hts _ xObI_w.2) rfl (by rw [hml]; exact hl.1) rfl hd (by omega) (by show 2 * 0 + _ + 12 ≤ _; rw [xSR_cats _ _ hs]; omega) ?_
            exact kk [] _ _ _ _ _ hl (nilL hL) (nil hs) (nilW hw) hS
          · cases hp
        · cases hp
      · split at hp
        · -- arraycopy
          rename_i hcy; obtain ⟨hcy, hn⟩ := hcy; subst hn
          obtain ⟨x, rfl, hlink⟩ := xCpy_ok hcy
          split at hp
          · obtain ⟨w1, t1, rfl, g1, w2, t2, rfl, g2, w3, t3, rfl, ⟨b1, hb1, rfl⟩, w4, t4, rfl, g4, w5, t5, rfl, ⟨a1, ha1, rfl⟩, hs⟩ := hs
            cases g1; cases g2; cases g4
            obtain ⟨ws, hP, hD, hR⟩ := hw
            split at hp
            · rename_i e1 e2
              split at hp
              · rename_i hq; obtain ⟨q1, q2, q3, q4, q5, q6, q7, q8, q9, q10⟩ := hq; subst q1; subst q2; cases hp
                obtain ⟨x0, hx, cA, ty, rfl, hty⟩ := xHR_get hR e1 ha1
                obtain ⟨y0, hy, cB, tz, rfl, htz⟩ := xHR_get hR e2 hb1
                cases (xTY_ty hTY hty)
                cases (xTY_ty hTY htz)
                exact va_copyi hexec hb (by rw [hml]; exact hl.1.symm) hown (hts _ hlink) (hts _ xCpy_w.1) (hts _ xCpy_w.2.1) (hts _ xCpy_w.2.2) hK hP hD hS _ _ 0 0 hx hy hty htz rfl q3 q4 q5 q6 q7 (fun _ _ => rfl) (by omega) (by rw [xSR_cats _ _ hs]; exact xCpy_room q8 q10 hrl) hd
                  (fun H1 locs1 hP1 hD1 hS1 => kk [] _ _ _ _ _ hl (nilL hL) (nil hs) (xWd_set hR hb1 ⟨_, _, rfl, htz⟩ hP1 hD1) hS1)
              · cases hp
            · rename_i e1 e2
              split at hp
              · rename_i hq; obtain ⟨q1, q2, q3, q4, q5, q6, q7, q8, q9, q10⟩ := hq; subst q1; subst q2; cases hp
                obtain ⟨x0, hx, cA, ty, rfl, hty⟩ := xHR_get hR e1 ha1
                obtain ⟨y0, hy, cB, tz, rfl, htz⟩ := xHR_get hR e2 hb1
                cases (xTY_ty hTY hty)
                cases (xTY_ty hTY htz)
                exact va_copyl hexec hb (by rw [hml]; exact hl.1.symm) hown (hts _ hlink) (hts _ xCpy_w.1) (hts _ xCpy_w.2.1) (hts _ xCpy_w.2.2) hK hP hD hS _ _ 1 1 hx hy hty htz rfl q3 q4 q5 q6 q7 (fun _ _ => rfl) (by omega) (by rw [xSR_cats _ _ hs]; exact xCpy_room q8 q10 hrl) hd
                  (fun H1 locs1 hP1 hD1 hS1 => kk [] _ _ _ _ _ hl (nilL hL) (nil hs) (xWd_set hR hb1 ⟨_, _, rfl, htz⟩ hP1 hD1) hS1)
              · cases hp
            · cases hp
          · cases hp
        · obtain ⟨st2, e1, e2⟩ := Option.map_eq_some_iff.mp hp; cases e2
    · obtain ⟨st2, e1, e2⟩ := Option.map_eq_some_iff.mp hp; cases e2
    · split at hp
      · rename_i x
        split at hp
        · rename_i ci hcls
          split at hp
          · rename_i hn; subst hn; cases hp
            obtain ⟨n1, n2, n3, n4, n5, n6, n7⟩ := xCls_ok hcls
            obtain ⟨ws, hP, hD, hR⟩ := hw
            obtain ⟨k1, k2, k3, k4⟩ := xCok_of (List.getElem?_eq_some_iff.mp n1).1
            have n6' : (xDef ci).length = xNf ci := n6
            rw [n6'] at hslots kk
            refine va_new hexec hb hts k1 (xTy ci) k2 hown (hts _ n2) (hts _ n3) (hts _ n4) hK hP hD hS hA n1 n5 hcells hslots hd (fun q H1 hP1 hD1 hS1 => ?_)
            refine kk [q] _ _ _ _ _ hl (xLR_mono hL) ⟨_, _, rfl, ⟨q, by rw [← hR.1, List.getElem?_append_right (Nat.le_refl _), Nat.sub_self]; rfl, rfl⟩, xSR_mono hs⟩ ⟨_, hP1, hD1, xHR_push hR ⟨_, rfl, ?_⟩⟩ hS1
            have n8 : ∀ (L : List Value), (∀ v ∈ L, v = .int 0 ∨ v = .long 0 ∨ v = .null) → xSR (xVR cad (ad ++ [q])) L L := by
              intro L hL
              induction L with
              | nil => exact rfl
              | cons v L ih =>
                refine ⟨v, L, rfl, ?_, ih (fun w hw => hL w (List.mem_cons_of_mem _ hw))⟩
                rcases hL v List.mem_cons_self with rfl | rfl | rfl <;> exact rfl
            exact n8 _ n7
          · cases hp
        · split at hp
          · obtain ⟨st2, e1, e2⟩ := Option.map_eq_some_iff.mp hp; cases e2
          · cases hp
      · cases hp
    · cases hp
end XSND
