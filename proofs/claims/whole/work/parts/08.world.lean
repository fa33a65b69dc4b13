/-! THE WORLD OF A RUN: the cells, the constants, what a frame knows -/
/-- the cells h lie in H at the addresses ad, all of them from b0 on -/
def xWd (D : va_G) (cad : Nat → Nat) (TY : List (ClassId × FieldType)) (b0 : Nat) (ad : List Nat) (h : xH) (H : Heap) : Prop := ∃ ws, va_P D vwCl ws H ∧ va_D (fun q => b0 ≤ q) ws ∧ xHR cad TY ad h ws
/-- the constants lie in H, below b0 -/
def xCC (cad : Nat → Nat) (b0 : Nat) (S : xS) (U : State) (H : Heap) : Prop :=
  (va_X (cad 11) S.1 S.2 U H ∧ cad 11 < b0 ∧ b0 ≤ H.size) ∧
  (∀ a k x v, xCF a k x = some v → ∃ o n d w, Cond.fieldLink (xNm k) x o n d ∈ xWs ∧ va_OF o n d w (cad a) (fun q => b0 ≤ q) U H ∧ xVR cad [] v w) ∧
  (∀ k x v, xSta k x = some v → ∃ C n d w, (Cond.fieldLink (xNm k) x C n d ∈ xWs ∨ Cond.fieldLinkNest (xNm k) x C n d "ScanCompare" ∈ xNw) ∧ va_Z C n d w (fun q => b0 ≤ q) U H ∧ xVR cad [] v w) ∧
  (∀ a n f, xCB a = some (n, f) → va_T .byte (cad a) n (fun j => .int (f j)) (fun q => b0 ≤ q) U H) ∧
  va_T (.object "ScanCompare$Setting") (cad 10) 10 (fun j => .ref (cad j)) (fun q => b0 ≤ q) U H ∧
  (∀ a k, xCcl a = some k → va_O (xNm k) (cad a) (fun q => b0 ≤ q) U H) ∧
  (∀ k x a, xLdc k x = some (.retAddr a) → ∃ tx, vk_R (xNm k) x tx (cad a) U) ∧
  vx_Zq Bundle.tN "UNASSIGNED_STACK" Bundle.steD (fun q => b0 ≤ q) U H ∧ vx_Zq Bundle.tN "SUPPRESSED_SENTINEL" Bundle.listD (fun q => b0 ≤ q) U H ∧
  ∀ E nm, E ∈ xE3 → nm ∈ xE3 → E ≠ nm → va_Nc E nm U
theorem xCC_moved {cad : Nat → Nat} {b0 : Nat} {S : xS} {u U : State} {H : Heap} (hW : u.WarmedH U.vm) (h : xCC cad b0 S u H) : xCC cad b0 S U H := by
  have hvm := hW.alike
  obtain ⟨⟨a1, a2, a3⟩, h2, h3, h4, h5, h6, h7, h8, h9, h10⟩ := h
  refine ⟨⟨va_X.moved hvm a1, a2, a3⟩, fun a k x v q => ?_, fun k x v q => ?_, fun a n f q => va_T.moved hvm (h4 a n f q), va_T.moved hvm h5, fun a k q => va_O.moved hvm (h6 a k q), fun k x a q => ?_, vx_Zq.moved hvm h8, vx_Zq.moved hvm h9, fun E nm q1 q2 q3 => va_Nc.moved hvm (h10 E nm q1 q2 q3)⟩
  · obtain ⟨o, n, d, w, g1, g2, g3⟩ := h2 a k x v q
    exact ⟨o, n, d, w, g1, va_OF.moved hvm g2, g3⟩
  · obtain ⟨C, n, d, w, g1, g2, g3⟩ := h3 k x v q
    exact ⟨C, n, d, w, g1, va_Z.moved hvm g2, g3⟩
  · obtain ⟨tx, g⟩ := h7 k x a q
    exact ⟨tx, vk_R.warm hW g⟩
theorem xCC_kept {cad : Nat → Nat} {b0 : Nat} {S : xS} {U : State} {H H1 : Heap} (hz : H.size ≤ H1.size) (hq : ∀ a : Nat, a < H.size → ¬ b0 ≤ a → H1[a]? = H[a]?) (h : xCC cad b0 S U H) : xCC cad b0 S U H1 := by
  obtain ⟨⟨a1, a2, a3⟩, h2, h3, h4, h5, h6, h7, h8, h9, h10⟩ := h
  refine ⟨⟨va_X.kept a1 (hq _ (by omega) (by omega)), a2, by omega⟩, fun a k x v q => ?_, fun k x v q => ?_, fun a n f q => va_T.kept (h4 a n f q) hq, va_T.kept h5 hq, fun a k q => va_O.kept (h6 a k q) hq, h7, vx_Zq.kept h8 hq, vx_Zq.kept h9 hq, h10⟩
  · obtain ⟨o, n, d, w, g1, g2, g3⟩ := h2 a k x v q
    exact ⟨o, n, d, w, g1, va_OF.kept g2 hq, g3⟩
  · obtain ⟨C, n, d, w, g1, g2, g3⟩ := h3 k x v q
    exact ⟨C, n, d, w, g1, va_Z.kept g2 hq, g3⟩
/-- what holds all along a frame of the method m, whatever it does -/
def xCx (D : va_G) (cad : Nat → Nat) (TY : List (ClassId × FieldType)) (b0 : Nat) (S : xS) (m : xMd) (p : Program) (l : Launch) (R : Room) (s : State) (mid : MethodId) (args : Array Value) (meth : Method) (c : Code) : Prop :=
  p.tables.exec = Jvm.exec ∧ c.code = m.2.1 ∧ c.maxLocals = m.2.2.1 ∧ meth.sig.returnType = m.2.2.2.1 ∧ meth.locks = false ∧ meth.name = m.1.name ∧ c.exceptionTable.toList = tableOf m.2.2.2.2.1 ∧
  s.vm.findClass m.1.cls = some mid.cls ∧ (∀ w ∈ xWs, w.before args s = true) ∧ (∀ w ∈ xNw, va_Nw w s) ∧ va_K D vwCl TY s ∧ TY.map Prod.snd = xKi ∧ xCC cad b0 S s s.heap ∧ l.stackTraces = false ∧ m.2.2.2.2.2.2.1 ≤ R.frames ∧ m.2.2.2.2.2.2.2.1 ≤ R.locals ∧ xNm m.2.2.2.2.2.1 = m.1.cls
theorem xVR_nil {cad : Nat → Nat} {ad : List Nat} {v w : Value} (h : xVR cad [] v w) : xVR cad ad v w := by
  have := xVR_mono (ex := ad) h
  rwa [List.nil_append] at this
theorem xTY_ty {TY : List (ClassId × FieldType)} (h : TY.map Prod.snd = xKi) {t : Nat} {cA : ClassId} {ty : FieldType} (ht : TY[t]? = some (cA, ty)) : xKi[t]? = some ty := by
  rw [← h, List.getElem?_map, ht]; rfl
theorem xTY_at {TY : List (ClassId × FieldType)} (h : TY.map Prod.snd = xKi) {t : Nat} {ty : FieldType} (ht : xKi[t]? = some ty) : ∃ cA, TY[t]? = some (cA, ty) := by
  rw [← h, List.getElem?_map] at ht
  obtain ⟨q, h1, h2⟩ := Option.map_eq_some_iff.mp ht
  exact ⟨q.1, by rw [h1, ← h2]⟩
theorem xWd_get {D : va_G} {cad : Nat → Nat} {TY : List (ClassId × FieldType)} {b0 : Nat} {ad : List Nat} {h : xH} {ws : va_W} (hR : xHR cad TY ad h ws) {i a : Nat} {e : xE} (he : h[i]? = some e) (ha : ad[i]? = some a) : ∃ x, ws[i]? = some (a, x) ∧ xER cad TY ad e x := xHR_get hR he ha
section XW
variable {p : Program} {l : Launch} {e : Env} {R : Room} {s : State} {mid : MethodId} {args : Array Value} {below : List Frame} {meth : Method} {c : Code} {H : Heap} {locs : List Loc} {cells slots : Nat} {Q : State → Prop}
variable {pc : Nat} {ls : Array Slot} {D : va_G} {cad : Nat → Nat} {TY : List (ClassId × FieldType)} {b0 : Nat} {S : xS} {m : xMd} {ad : List Nat} {h : xH}
/-- an array of references of any kind: a place read -/
theorem xal_ref {ws : va_W} {tys : List (ClassId × FieldType)} {a : Nat} {cc : ByteArray} {rest : List Value} (hexec : p.tables.exec = Jvm.exec) (hb : c.code = cc) (hK : va_K D vwCl tys s) (hP : va_P D vwCl ws H) (q0 t0 : Nat) {cA : ClassId} {ty : FieldType} (hty : ty.isReference = true) {n : Nat} {f : Nat → Option Nat} (ha : ws[q0]? = some (a, .inl (cA, n, .inr (.inr (.inr (.inr f)))))) (ht : tys[t0]? = some (cA, ty)) {i : Int32} (hin : vp_in i n) (hdg : decode cc pc = .ok (.aaload, 1))
    (kk : W p l e R s mid args below meth c H locs cells slots Q (F0 mid (pc + 1) ls (va_rf (f i.toNatClampNeg) :: rest))) : W p l e R s mid args below meth c H locs cells slots Q (F0 mid pc ls (.int i :: .ref a :: rest)) := by
  have hlt : i.toNatClampNeg < n := Nat.not_le.mp fun q => hin (Or.inr q)
  exact W.aald (v := va_rf (f i.toNatClampNeg)) (ty := ty) hexec hb (hP q0 _ ha) ((hK.2 t0 _ ht).1 n (fun j => va_rf (f j))) hty (fun q => by cases q) (by show ¬ (i < 0 ∨ (arrV _ _ _).slots.size ≤ _); rw [arrV_size]; exact hin) (by show (arrV _ _ _).slots[_]? = _; rw [arrV_read _ _ hlt]) rfl rfl hdg kk
theorem xVR_c {w : Value} {a : Nat} (ha : a < 998) (hv : xVR cad ad (.retAddr a) w) : w = .ref (cad a) := by
  simp only [xVR, if_neg (show a ≠ 998 by omega), if_neg (show a ≠ 999 by omega)] at hv
  exact hv
theorem xVR_k2 {a : Nat} (ha : a < 998) : xVR cad ad (.retAddr a) (.ref (cad a)) := by
  simp only [xVR, if_neg (show a ≠ 998 by omega), if_neg (show a ≠ 999 by omega)]
theorem xal_ldcW {cc : ByteArray} {rest : List Value} (hexec : p.tables.exec = Jvm.exec) (hb : c.code = cc) {own tx : String} {index q : Nat} (hown : s.vm.findClass own = some mid.cls) (hZ : vk_R own index tx q s) (hdg : decode cc pc = .ok (.ldc_w index, 3))
    (k : W p l e R s mid args below meth c H locs cells slots Q (F0 mid (pc + 3) ls (.ref q :: rest))) : W p l e R s mid args below meth c H locs cells slots Q (F0 mid pc ls rest) := by
  intro T hT X
  obtain ⟨t, a1, b1⟩ := k T hT X
  exact ⟨t, X.ldcStringW hexec hown (text := tx) (a := q) hZ.1 hZ.2 (g := F0 mid pc ls rest) rfl (by rw [hb]; exact hdg) t a1, b1⟩
theorem xCF_lt {a k x : Nat} {v : Value} (h : xCF a k x = some v) : a < 120 := by
  unfold xCF at h
  split at h
  · omega
  · split at h
    · omega
    · cases h
theorem xVR_rf {x y : Option Nat} (h : xOR ad x y) : xVR cad ad (xrf x) (va_rf y) := by
  cases x with
  | none => cases h; exact rfl
  | some i => obtain ⟨a, h1, rfl⟩ := h; exact ⟨a, h1, rfl⟩
theorem xCB_lt {a : Nat} {q : Nat × (Nat → Int32)} (h : xCB a = some q) : a < 998 := by
  unfold xCB at h
  split at h
  · obtain ⟨l1, h1, -⟩ := Option.map_eq_some_iff.mp h
    unfold xBys at h1
    have h2 := (List.getElem?_eq_some_iff.mp h1).1
    simp only [List.length_cons, List.length_nil] at h2
    omega
  · cases h
/-- reads of cells and constants -/
theorem xs_rd (Cx : xCx D cad TY b0 S m p l R s mid args meth c) {i : Instr} {n : Nat} {st st1 stc : List Value} (hd : decode m.2.1 pc = .ok (i, n)) (hp : xrd S m.2.2.2.2.2.1 i n st h = some st1) (hs : xSR (xVR cad ad) st stc) (hw : xWd D cad TY b0 ad h H) (hS : va_S (fun q => b0 ≤ q) s.heap H locs)
    (kk : ∀ stc', xSR (xVR cad ad) st1 stc' → W p l e R s mid args below meth c H locs cells slots Q (F0 mid (pc + n) ls stc')) : W p l e R s mid args below meth c H locs cells slots Q (F0 mid pc ls stc) := by
  obtain ⟨hexec, hb, hml, hret, hlocks, hname, htab, hown, hts, hnw, hK, hTY, hC, hfl, hrf, hrl, hnm⟩ := Cx
  rw [← hnm] at hown
  obtain ⟨ws, hP, hD, hR⟩ := hw
  obtain ⟨⟨hX, hb11, hbs⟩, hC2, hC3, hC4, hC5, hC6, hC7, hC8, hC9, hC10⟩ := hC
  unfold xrd at hp
  split at hp
  · -- getfield of a cell
    split at hp
    · rename_i h1 h2
      split at hp
      · rename_i hcj; subst hcj
        obtain ⟨v, hv, e0⟩ := Option.map_eq_some_iff.mp hp; cases e0
        obtain ⟨w1, t1, rfl, ⟨a1, ha1, rfl⟩, hs⟩ := hs
        obtain ⟨x0, hx, fs', rfl, hfs⟩ := xHR_get hR h1 ha1
        obtain ⟨w, hw, hvw⟩ := xSR_get _ _ _ _ hfs hv
        obtain ⟨hc, hj, hlink⟩ := xFld_ok h2
        exact va_get hexec hb hts (xCok_of (List.getElem?_eq_some_iff.mp hc).1).1 hown hK hP _ hx hc _ hj (hts _ hlink) (fun _ q => q) hw hd (kk _ ⟨_, _, rfl, hvw, hs⟩)
      · cases hp
    · cases hp
  · -- getfield of a constant
    obtain ⟨v, hv, e0⟩ := Option.map_eq_some_iff.mp hp; cases e0
    obtain ⟨w1, t1, rfl, h1, hs⟩ := hs
    have e1 := xVR_c (by have := xCF_lt hv; omega) h1
    subst e1
    obtain ⟨o, nn, d, w, g1, g2, g3⟩ := hC2 _ _ _ _ hv
    exact vk_getf hexec hb g2 hS hown (hts _ g1) (fun _ q => q) hd (kk _ ⟨_, _, rfl, xVR_nil g3, hs⟩)
  · -- getstatic
    obtain ⟨v, hv, e0⟩ := Option.map_eq_some_iff.mp hp; cases e0
    obtain ⟨C, nn, d, w, g1, g2, g3⟩ := hC3 _ _ _ hv
    rcases g1 with g1 | g1
    · exact va_gets hexec hb g2 hS hown (hts _ g1) (fun _ q => q) hd (kk _ ⟨_, _, rfl, xVR_nil g3, hs⟩)
    · exact va_getsN hexec hb g2 hS hown (va_Nw.use rfl (hnw _ g1)) (fun _ q => q) hd (kk _ ⟨_, _, rfl, xVR_nil g3, hs⟩)
  · split at hp
    · rename_i h1
      split at hp
      · rename_i hin; cases hp
        obtain ⟨w1, t1, rfl, g1, w2, t2, rfl, ⟨a1, ha1, rfl⟩, hs⟩ := hs; cases g1
        obtain ⟨x0, hx, cA, ty, rfl, hty⟩ := xHR_get hR h1 ha1
        cases (xTY_ty hTY hty)
        exact va_iald hexec hb hK hP _ 0 hx hty (xin_vp hin) hd (kk _ ⟨_, _, rfl, rfl, hs⟩)
      · cases hp
    · cases hp
  · split at hp
    · rename_i h1
      split at hp
      · rename_i hin; cases hp
        obtain ⟨w1, t1, rfl, g1, w2, t2, rfl, ⟨a1, ha1, rfl⟩, hs⟩ := hs; cases g1
        obtain ⟨x0, hx, cA, ty, rfl, hty⟩ := xHR_get hR h1 ha1
        cases (xTY_ty hTY hty)
        exact va_zald hexec hb hK hP _ 2 hx hty (xin_vp hin) hd (kk _ ⟨_, _, rfl, rfl, hs⟩)
      · cases hp
    · cases hp
  · split at hp
    · rename_i h1
      split at hp
      · rename_i hin; cases hp
        obtain ⟨w1, t1, rfl, g1, w2, t2, rfl, ⟨a1, ha1, rfl⟩, hs⟩ := hs; cases g1
        obtain ⟨x0, hx, cA, ty, rfl, hty⟩ := xHR_get hR h1 ha1
        cases (xTY_ty hTY hty)
        exact va_cald hexec hb hK hP _ 3 hx hty (xin_vp hin) hd (kk _ ⟨_, _, rfl, rfl, hs⟩)
      · cases hp
    · cases hp
  · split at hp
    · rename_i h1
      split at hp
      · rename_i hin; cases hp
        obtain ⟨w1, t1, rfl, g1, w2, t2, rfl, ⟨a1, ha1, rfl⟩, hs⟩ := hs; cases g1
        obtain ⟨x0, hx, cA, ty, rfl, hty⟩ := xHR_get hR h1 ha1
        cases (xTY_ty hTY hty)
        exact va_lald hexec hb hK hP _ 1 hx hty (xin_vp hin) hd (kk _ ⟨_, _, rfl, rfl, hs⟩)
      · cases hp
    · cases hp
  · split at hp
    · rename_i h1
      split at hp
      · rename_i hin; cases hp
        obtain ⟨w1, t1, rfl, g1, w2, t2, rfl, ⟨a1, ha1, rfl⟩, hs⟩ := hs; cases g1
        obtain ⟨x0, hx, cA, ty, f', rfl, hty, hf⟩ := xHR_get hR h1 ha1
        have hq := xTY_ty hTY hty
        have hrf : ty.isReference = true := by
          have h8 := (List.getElem?_eq_some_iff.mp hq).1
          have h9 : ∀ t : Nat, 4 ≤ t → t < 8 → ∀ ty : FieldType, xKi[t]? = some ty → ty.isReference = true := by
            intro t k1 k2 ty hk
            rcases (show t = 4 ∨ t = 5 ∨ t = 6 ∨ t = 7 by omega) with rfl | rfl | rfl | rfl <;> (cases hk; rfl)
          exact h9 _ hin.1 h8 _ hq
        exact xal_ref hexec hb hK hP _ _ hrf hx hty (xin_vp hin.2) hd (kk _ ⟨_, _, rfl, xVR_rf (hf _), hs⟩)
      · cases hp
    · cases hp
  · -- the script
    split at hp
    · rename_i hin; cases hp
      obtain ⟨w1, t1, rfl, g1, w2, t2, rfl, g2, hs⟩ := hs; cases g1
      cases (xVR_c (by decide) g2)
      exact va_sld hexec hb hX (by omega) (by omega) hS (xin_vp hin) hd (kk _ ⟨_, _, rfl, rfl, hs⟩)
    · cases hp
  · split at hp
    · rename_i h1
      split at hp
      · rename_i hin; cases hp
        obtain ⟨w1, t1, rfl, g1, w2, t2, rfl, g2, hs⟩ := hs; cases g1
        cases (xVR_c (xCB_lt h1) g2)
        exact va_tb hexec hb (hC4 _ _ _ h1) hS (xin_vp hin) rfl hd (kk _ ⟨_, _, rfl, rfl, hs⟩)
      · cases hp
    · cases hp
  · -- the settings' array
    split at hp
    · rename_i hin; cases hp
      obtain ⟨w1, t1, rfl, g1, w2, t2, rfl, g2, hs⟩ := hs; cases g1
      cases (xVR_c (by decide) g2)
      obtain ⟨cell, k1, k2, k3, k4, k5, k6, k7⟩ := hC5
      have hlt : (_ : Int32).toNatClampNeg < 10 := Nat.not_le.mp fun q => (xin_vp hin) (Or.inr q)
      refine W.aald (v := .ref (cad _)) (ty := .object "ScanCompare$Setting") hexec hb (by rw [hS.2.1 _ (Array.getElem?_eq_some_iff.mp k1).1 k7]; exact k1) k2 rfl k3 (fun q => by
        rcases q with q | q
        · exact (xin_vp hin) (Or.inl q)
        · omega) (k6 _ hlt) rfl rfl hd (kk _ ⟨_, _, rfl, xVR_k2 (by omega), hs⟩)
    · cases hp
  · split at hp
    · rename_i h1
      cases hp
      obtain ⟨w1, t1, rfl, ⟨a1, ha1, rfl⟩, hs⟩ := hs
      obtain ⟨x0, hx, hE⟩ := xHR_get hR h1 ha1
      rename_i cc0
      rcases cc0 with f | f | f | f | f
      · obtain ⟨cA, ty, rfl, hty⟩ := hE
        exact va_alen hexec hb hK hP _ _ hx hty rfl hd (kk _ ⟨_, _, rfl, rfl, hs⟩)
      · obtain ⟨cA, ty, rfl, hty⟩ := hE
        exact va_alen hexec hb hK hP _ _ hx hty rfl hd (kk _ ⟨_, _, rfl, rfl, hs⟩)
      · obtain ⟨cA, ty, rfl, hty⟩ := hE
        exact va_alen hexec hb hK hP _ _ hx hty rfl hd (kk _ ⟨_, _, rfl, rfl, hs⟩)
      · obtain ⟨cA, ty, rfl, hty⟩ := hE
        exact va_alen hexec hb hK hP _ _ hx hty rfl hd (kk _ ⟨_, _, rfl, rfl, hs⟩)
      · obtain ⟨cA, ty, f', rfl, hty, -⟩ := hE
        exact va_alen hexec hb hK hP _ _ hx hty rfl hd (kk _ ⟨_, _, rfl, rfl, hs⟩)
    · cases hp
  · cases hp
    obtain ⟨w1, t1, rfl, g2, hs⟩ := hs
    cases (xVR_c (by decide) g2)
    exact va_slen hexec hb hX (by omega) (by omega) hS hd (kk _ ⟨_, _, rfl, rfl, hs⟩)
  · cases hp
    obtain ⟨w1, t1, rfl, g2, hs⟩ := hs
    cases (xVR_c (by decide) g2)
    exact va_tlen hexec hb hC5 hS rfl hd (kk _ ⟨_, _, rfl, rfl, hs⟩)
  · split at hp
    · rename_i h1
      cases hp
      obtain ⟨w1, t1, rfl, g2, hs⟩ := hs
      cases (xVR_c (xCB_lt h1) g2)
      exact va_tlen hexec hb (hC4 _ _ _ h1) hS rfl hd (kk _ ⟨_, _, rfl, rfl, hs⟩)
    · cases hp
  · -- ldc
    obtain ⟨v, hv, e0⟩ := Option.map_eq_some_iff.mp hp; cases e0
    have g := xLdc_ok hv
    cases v with
    | int v => exact lv_ldc hexec hb hown (hts _ g) hd (kk _ ⟨_, _, rfl, rfl, hs⟩)
    | retAddr a =>
      obtain ⟨g1, g2, -⟩ := g
      obtain ⟨tx, g3⟩ := hC7 _ _ _ hv
      exact va_ldcS hexec hb hown g3 hd (kk _ ⟨_, _, rfl, xVR_k2 (by omega), hs⟩)
    | long v => exact g.elim
    | float v => exact g.elim
    | double v => exact g.elim
    | null => exact g.elim
    | ref v => exact g.elim
  · -- ldc_w
    obtain ⟨v, hv, e0⟩ := Option.map_eq_some_iff.mp hp; cases e0
    have g := xLdc_ok hv
    cases v with
    | int v => exact lv_ldcw hexec hb hown (hts _ g) hd (kk _ ⟨_, _, rfl, rfl, hs⟩)
    | retAddr a =>
      obtain ⟨g1, g2, -⟩ := g
      obtain ⟨tx, g3⟩ := hC7 _ _ _ hv
      exact xal_ldcW hexec hb hown g3 hd (kk _ ⟨_, _, rfl, xVR_k2 (by omega), hs⟩)
    | long v => exact g.elim
    | float v => exact g.elim
    | double v => exact g.elim
    | null => exact g.elim
    | ref v => exact g.elim
  · obtain ⟨v, hv, e0⟩ := Option.map_eq_some_iff.mp hp; cases e0
    exact lv_ldc2 hexec hb hown (hts _ (xLd2_ok hv)) hd (kk _ ⟨_, _, rfl, rfl, hs⟩)
  · cases hp
end XW
