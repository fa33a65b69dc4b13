/-! METHODS, CALLS, AND THE RUN BY INDUCTION ON ITS FUEL -/
theorem xx_ofW {l : Launch} {y : MethodName} {ws ws' : List Cond} {rm : Room} {Pc : Array Value → State → Prop} {Qc : Array Value → State → Outcome → State → Prop} {XC : String → State → State → Prop} {mc ms : Nat} {free : Addr → Prop} {cc : ByteArray} {maxL : Nat} {ret : Option FieldType}
    (hy : plainFor y = true) (hw : ws = Cond.code y cc maxL ret :: ws')
    (body : ∀ p e s m args below meth c s₁, BodyLoose p l y (headSpec ws rm) cc maxL ret e s m args below meth c s₁ → c.maxLocals = maxL → c.exceptionTable.toList = [] → Pc args s →
      W p l e (headSpec ws rm).room s m args below meth c s.heap [] 0 0 (vx_MQ below Qc XC args s mc ms free) (entryFrame m args maxL)) : vx_Met l y ws rm Pc Qc XC mc ms free := by
  refine MetFree.of_bodySF (code := cc) (maxLocals := maxL) (ret := ret) hy ?_ ?_
  · intro args s m h hn
    obtain ⟨meth, c, h1, h2, h3, h4, h5, h6, -, -⟩ := Cond.code_spec hn (atoms_spec (ws := ws) h _ (by rw [hw]; exact List.mem_cons_self))
    exact ⟨meth, c, h1, h2, h3, h4, h5, h6⟩
  · intro p e s m args below meth c s₁ B hml hP _
    have hh0 : s₁.heap = s.heap := by rw [B.state]; rfl
    have ht : c.exceptionTable.toList = [] := by
      obtain ⟨meth9, c9, h1, h2, -, -, -, -, h7, -⟩ := Cond.code_spec B.named (atoms_spec (ws := ws) B.pre _ (by rw [hw]; exact List.mem_cons_self))
      cases Option.some.inj (h1.symm.trans B.method)
      cases Option.some.inj (h2.symm.trans (Stand.of_body B).code)
      rw [Array.isEmpty_iff.mp h7]
    obtain ⟨t, a1, o, b1, b2, b3⟩ := body p e s m args below meth c s₁ B hml ht hP s₁ hh0 (Stand.of_body B)
    exact ⟨t, o, a1, b1, b2, b3⟩
theorem xx_ofWH {l : Launch} {y : MethodName} {ws ws' : List Cond} {rm : Room} {Pc : Array Value → State → Prop} {Qc : Array Value → State → Outcome → State → Prop} {XC : String → State → State → Prop} {mc ms : Nat} {free : Addr → Prop} {cc : ByteArray} {maxL : Nat} {ret : Option FieldType} {hh : List (Nat × Nat × Nat × Nat)}
    (hy : plainFor y = true) (hw : ws = Cond.codeWith y cc maxL ret hh :: ws')
    (body : ∀ p e s m args below meth c s₁, BodyLoose p l y (headSpec ws rm) cc maxL ret e s m args below meth c s₁ → c.maxLocals = maxL → c.exceptionTable.toList = tableOf hh → Pc args s →
      W p l e (headSpec ws rm).room s m args below meth c s.heap [] 0 0 (vx_MQ below Qc XC args s mc ms free) (entryFrame m args maxL)) : vx_Met l y ws rm Pc Qc XC mc ms free := by
  refine MetFree.of_bodySF (code := cc) (maxLocals := maxL) (ret := ret) hy ?_ ?_
  · intro args s m h hn
    obtain ⟨m9, meth, c, hn9, h1, h2, h3, h4, -, h5, h6, -⟩ := Cond.codeWith_spec (atoms_spec (ws := ws) h _ (by rw [hw]; exact List.mem_cons_self))
    cases hn.symm.trans hn9
    exact ⟨meth, c, h1, h2, h3, h4, h5, h6⟩
  · intro p e s m args below meth c s₁ B hml hP _
    have hh0 : s₁.heap = s.heap := by rw [B.state]; rfl
    obtain ⟨t, a1, o, b1, b2, b3⟩ := body p e s m args below meth c s₁ B hml (vx_table (x := y) B (atoms_spec (ws := ws) B.pre _ (by rw [hw]; exact List.mem_cons_self))) hP s₁ hh0 (Stand.of_body B)
    exact ⟨t, o, a1, b1, b2, b3⟩
/-- a run of any frame, as the machine's: for all that may be around it -/
def xSnd (S : xS) (f : Nat) : Prop := ∀ (m : xMd) (pc : Nat) (al : xL) (st : List Value) (h : xH) (o : xO), xrun S f m pc al st h = some o →
  ∀ (p : Program) (l : Launch) (e : Env) (R : Room) (s : State) (mid : MethodId) (args : Array Value) (below : List Frame) (meth : Method) (c : Code) (H : Heap) (locs : List Loc) (cells slots : Nat) (D : va_G) (cad : Nat → Nat) (TY : List (ClassId × FieldType)) (b0 : Nat) (ls : Array Slot) (ad : List Nat) (al' : List (Nat × Value)) (stc : List Value),
    xCx D cad TY b0 S m p l R s mid args meth c → lv_has ls m.2.2.1 al' → xLR (xVR cad ad) al al' → xSR (xVR cad ad) st stc → xWd D cad TY b0 ad h H → va_S (fun q => b0 ≤ q) s.heap H locs → cells + o.2.2.1 ≤ R.cells → slots + o.2.2.2 ≤ R.slots →
    W p l e R s mid args below meth c H locs cells slots (vx_MQ below (xQc D cad TY b0 ad o) (xXc D cad TY b0 ad o) args s (cells + o.2.2.1) (slots + o.2.2.2) (fun q => b0 ≤ q)) (F0 mid pc ls stc)
/-- the words of a method: its own code, and those of all -/
def xWm (m : xMd) : List Cond := (if m.2.2.2.2.1.isEmpty = true then Cond.code m.1 m.2.1 m.2.2.1 m.2.2.2.1 else Cond.codeWith m.1 m.2.1 m.2.2.1 m.2.2.2.1 m.2.2.2.2.1) :: xWs
/-- what a call hands on -/
def xPc (D : va_G) (cad : Nat → Nat) (TY : List (ClassId × FieldType)) (b0 : Nat) (S : xS) (ad : List Nat) (h : xH) (as' : List Value) : Array Value → State → Prop := va_Pc as' (fun U => xWd D cad TY b0 ad h U.heap ∧ va_K D vwCl TY U ∧ xCC cad b0 S U U.heap ∧ ∀ w ∈ xNw, va_Nw w U)
theorem xPc_blind {D : va_G} {cad : Nat → Nat} {TY : List (ClassId × FieldType)} {b0 : Nat} {S : xS} {ad : List Nat} {h : xH} {as' : List Value} : FrameBlind (xPc D cad TY b0 S ad h as') := by
  intro a U g mk q
  obtain ⟨q1, q2, q3, q4, q5⟩ := q
  have hW : U.WarmedH (U.calling g mk a).vm := State.WarmedH.refl U
  exact ⟨q1, q2, va_K.moved hW.alike q3, xCC_moved hW q4, xNw_moved hW q5⟩
theorem xMet_of {S : xS} {f : Nat} (ih : xSnd S f) {m : xMd} (hok : xMok m) {as as' : List Value} {h : xH} {o : xO} (hr : xrun S f m 0 (lv_args 0 as) [] h = some o) (hlen : (lg_sl as).length ≤ m.2.2.1) {l : Launch} (hl : l.stackTraces = false) {D : va_G} {cad : Nat → Nat} {TY : List (ClassId × FieldType)} (hTY : TY.map Prod.snd = xKi) {b0 : Nat} {ad : List Nat} (has : xSR (xVR cad ad) as as') :
    vx_Met l m.1 (xWm m) ({ frames := m.2.2.2.2.2.2.1, cells := o.2.2.1, slots := o.2.2.2, locals := m.2.2.2.2.2.2.2.1 }) (xPc D cad TY b0 S ad h as') (xQc D cad TY b0 ad o) (xXc D cad TY b0 ad o) o.2.2.1 o.2.2.2 (fun q => b0 ≤ q) := by
  obtain ⟨hcode, hini, hst, hin, hpl, hmh, hnm, hsel⟩ := hok
  have key : ∀ (p : Program) (e : Env) (s : State) (mid : MethodId) (args : Array Value) (below : List Frame) (meth : Method) (c : Code), p.tables.exec = Jvm.exec → c.code = m.2.1 → meth.sig.returnType = m.2.2.2.1 → (∀ w ∈ xWm m, w.before args s = true) → s.methodNamed? m.1 = some mid → s.vm.method? mid = some meth → meth.locks = false → c.maxLocals = m.2.2.1 → c.exceptionTable.toList = tableOf m.2.2.2.2.1 → xPc D cad TY b0 S ad h as' args s →
      W p l e ({ frames := m.2.2.2.2.2.2.1, cells := o.2.2.1, slots := o.2.2.2, locals := m.2.2.2.2.2.2.2.1 }) s mid args below meth c s.heap [] 0 0 (vx_MQ below (xQc D cad TY b0 ad o) (xXc D cad TY b0 ad o) args s o.2.2.1 o.2.2.2 (fun q => b0 ≤ q)) (entryFrame mid args m.2.2.1) := by
    intro p e s mid args below meth c hx hb hr1 hts hnamed hmeth hlocks hml htab hP
    obtain ⟨rfl, hw, hK, hC, hN⟩ := hP
    have hl2 := lv_entry as' (n := m.2.2.1) (by rw [xSR_sl _ _ has]; exact hlen)
    rw [lg_entry_eq]
    have k := ih m 0 (lv_args 0 as) [] h o hr p l e ({ frames := m.2.2.2.2.2.2.1, cells := o.2.2.1, slots := o.2.2.2, locals := m.2.2.2.2.2.2.2.1 }) s mid as'.toArray below meth c s.heap [] 0 0 D cad TY b0 _ ad (lv_args 0 as') []
      ⟨hx, hb, hml, hr1, hlocks, (name_of_methodNamed hnamed hmeth).1, htab, findClass_of_methodNamed hnamed, fun w hw => hts w (List.mem_cons_of_mem _ hw), hN, hK, hTY, hC, hl, Nat.le_refl _, Nat.le_refl _, hnm⟩ hl2 (xLR_args _ _ _ has) rfl hw va_S.rf (Nat.le_of_eq (Nat.zero_add _)) (Nat.le_of_eq (Nat.zero_add _))
    rw [Nat.zero_add, Nat.zero_add] at k
    exact k
  rcases hcode with ⟨he, hcode⟩ | ⟨he, hcode⟩
  · have hh : m.2.2.2.2.1 = [] := List.isEmpty_iff.mp he
    refine xx_ofW (cc := m.2.1) (maxL := m.2.2.1) (ret := m.2.2.2.1) (ws' := xWs) hpl (by unfold xWm; rw [if_pos he]) (fun p e s mid args below meth c s₁ B hml ht hP => ?_)
    exact key p e s mid args below meth c B.exec B.bytes B.returns (atoms_spec (ws := xWm m) B.pre) B.named B.method B.notSynchronized hml (by rw [ht, hh]; rfl) hP
  · refine xx_ofWH (cc := m.2.1) (maxL := m.2.2.1) (ret := m.2.2.2.1) (hh := m.2.2.2.2.1) (ws' := xWs) hpl (by unfold xWm; rw [if_neg (by rw [he]; decide)]) (fun p e s mid args below meth c s₁ B hml ht hP => ?_)
    exact key p e s mid args below meth c B.exec B.bytes B.returns (atoms_spec (ws := xWm m) B.pre) B.named B.method B.notSynchronized hml ht hP
theorem xMet_plain {l : Launch} {y : MethodName} {ws : List Cond} {rm : Room} {Pc : Array Value → State → Prop} {Qc : Array Value → State → Outcome → State → Prop} {XC : String → State → State → Prop} {mc ms : Nat} {free : Addr → Prop} (hM : vx_Met l y ws rm Pc Qc XC mc ms free) (hx : ∀ E st t, ¬ XC E st t) : Met l y ws rm Pc Qc mc ms free := by
  intro p e h1 h2 h3 s m args below h4 h5 h6 h7
  obtain ⟨n, o, g1, g2, g3, g4⟩ := hM p e h1 h2 h3 s m args below h4 h5 h6 h7
  refine ⟨n, o, g1, g2, g3, ?_⟩
  rcases g4 with g4 | ⟨q, -, E, ce, L, g5, -⟩
  · exact g4
  · exact absurd g5 (hx _ _ _)
theorem xVw {c : Nat} (h : c < 13) : vwCl[c]? = some (xNm c, xTT c, xNf c) := by
  rcases (show c = 0 ∨ c = 1 ∨ c = 2 ∨ c = 3 ∨ c = 4 ∨ c = 5 ∨ c = 6 ∨ c = 7 ∨ c = 8 ∨ c = 9 ∨ c = 10 ∨ c = 11 ∨ c = 12 by omega) with rfl | rfl | rfl | rfl | rfl | rfl | rfl | rfl | rfl | rfl | rfl | rfl | rfl <;> rfl
section XCALL
variable {p : Program} {l : Launch} {e : Env} {R : Room} {s : State} {mid : MethodId} {args : Array Value} {below : List Frame} {meth : Method} {c : Code} {H : Heap} {locs : List Loc} {cells slots : Nat} {Q : State → Prop}
variable {pc : Nat} {ls : Array Slot} {D : va_G} {cad : Nat → Nat} {TY : List (ClassId × FieldType)} {b0 : Nat} {S : xS} {m : xMd} {ad : List Nat} {h : xH}
theorem xs_goes {o : xO} {mc ms : Nat} {st0 rest : List Value} {asr : Array Value} (hr : vx_Run p l e R s mid args below meth c H locs cells slots mc ms (F0 mid pc ls st0) rest (xQc D cad TY b0 ad o asr) (xXc D cad TY b0 ad o) (fun q => b0 ≤ q)) (hS : va_S (fun q => b0 ≤ q) s.heap H locs)
    (kk : ∀ (v w : Option Value) (ex : List Nat) (H1 : Heap) (locs1 : List Loc), o.1 = .inl v → xOV (xVR cad (ad ++ ex)) v w → xWd D cad TY b0 (ad ++ ex) o.2.1 H1 → va_S (fun q => b0 ≤ q) s.heap H1 locs1 → W p l e R s mid args below meth c H1 locs1 (cells + mc) (slots + ms) Q (F0 mid (pc + 3) ls (w.toList ++ rest)))
    (kx : ∀ (E : String) (ce : Cell) (q : Addr) (ex : List Nat) (H1 : Heap) (locs1 : List Loc), o.1 = .inr E → xWd D cad TY b0 (ad ++ ex) o.2.1 H1 → va_S (fun q => b0 ≤ q) s.heap H1 locs1 → H1[q]? = some ce → ce.vm = .none → s.vm.findClass E = some ce.cls → vx_W p l e R s mid args below meth c H1 locs1 (cells + mc) (slots + ms) Q (F0 mid pc ls rest) q) :
    W p l e R s mid args below meth c H locs cells slots Q (F0 mid pc ls st0) := by
  intro T hT X
  rcases hr T hT X with ⟨v, st₀, t, T', L, h0, X', hL, e1, e2, ⟨v1, w, ex, k1, k2, k3, k4, hF⟩, st⟩ | ⟨q, st₀, t, T', L, E, ce, h0, X', hL, e1, e2, ⟨ex, k1, k2, hF⟩, hce, hcv, hcl, st⟩
  · cases k2
    obtain ⟨-, -, g3⟩ := vx_keep h0 e1 hS (fun _ _ z => z) (fun _ z => z) hL hF
    obtain ⟨t2, a1, b1⟩ := kk v1 _ ex T'.heap (locs ++ L) k1 k3 (by rw [e1]; exact k4) g3 T' rfl X'
    exact ⟨t2, st t2 a1, b1⟩
  · obtain ⟨-, -, g3⟩ := vx_keep h0 e1 hS (fun _ _ z => z) (fun _ z => z) hL hF
    obtain ⟨t2, a1, b1⟩ := kx E ce q ex T'.heap (locs ++ L) k1 (by rw [e1]; exact k2) g3 (by rw [e1]; exact hce) hcv hcl T' rfl X'
    exact ⟨t2, st.trans a1, b1⟩
theorem xs_pc (Cx : xCx D cad TY b0 S m p l R s mid args meth c) {as' : List Value} (hw : xWd D cad TY b0 ad h H) (hS : va_S (fun q => b0 ≤ q) s.heap H locs) : ∀ U : State, U.heap = H → s.WarmedH U.vm → xPc D cad TY b0 S ad h as' as'.toArray U := by
  obtain ⟨hexec, hb, hml, hret, hlocks, hname, htab, hown, hts, hnw, hK, hTY, hC, hfl, hrf, hrl, hnm⟩ := Cx
  intro U hU hW
  exact ⟨rfl, by rw [hU]; exact hw, va_K.moved hW.alike hK, by rw [hU]; exact xCC_moved hW (xCC_kept hS.1 hS.2.1 hC), xNw_moved hW hnw⟩
theorem xs_take {stc : List Value} {na n : Nat} (hn : na ≤ n) (hl : stc.length = n) : (stc.take na).reverse.length = na ∧ stc = (stc.take na).reverse.reverse ++ stc.drop na := by
  refine ⟨by rw [List.length_reverse, List.length_take]; omega, ?_⟩
  rw [List.reverse_reverse, List.take_append_drop]
/-- the run of a call -/
theorem xs_run {f : Nat} (ih : xSnd S f) (Cx : xCx D cad TY b0 S m p l R s mid args meth c) {i : Instr} {n : Nat} {st stc as rest : List Value} {y : xMd} {o : xO} (hd : decode m.2.1 pc = .ok (i, n)) (hp : xcall m.2.2.2.2.2.1 i n st h = some (y, as, rest)) (hs : xSR (xVR cad ad) st stc) (hw : xWd D cad TY b0 ad h H) (hS : va_S (fun q => b0 ≤ q) s.heap H locs) (hl : ls.size = m.2.2.1)
    (hlen : (lg_sl as).length ≤ y.2.2.1) (hfr : y.2.2.2.2.2.2.1 + 1 ≤ m.2.2.2.2.2.2.1) (hlo : 8 + (y.2.2.1 + 11) + y.2.2.2.2.2.2.2.1 ≤ m.2.2.2.2.2.2.2.1)
    (hr : xrun S f y 0 (lv_args 0 as) [] h = some o) (hini : y.1.name = "<init>" → ∃ v, o.1 = .inl v) (hcells : cells + o.2.2.1 ≤ R.cells) (hslots : slots + o.2.2.2 ≤ R.slots) :
    ∃ restc asr, xSR (xVR cad ad) rest restc ∧ vx_Run p l e R s mid args below meth c H locs cells slots o.2.2.1 o.2.2.2 (F0 mid pc ls stc) restc (xQc D cad TY b0 ad o asr) (xXc D cad TY b0 ad o) (fun q => b0 ≤ q) := by
  have Cx0 := Cx
  obtain ⟨hexec, hb, hml, hret, hlocks, hname, htab, hown, hts, hnw, hK, hTY, hC, hfl, hrf, hrl, hnm⟩ := Cx
  rw [← hnm] at hown
  have hgood : GoodIn xWs xWs := xWs_good
  have words : ∀ {L : List Cond}, (∀ w ∈ L, w ∈ xWs) → ∀ (z : xMd), xMok z → GoodIn xWs (L ++ xWm z) := by
    intro L hL z hz w hwm
    refine hgood w ?_
    rcases List.mem_append.mp hwm with q | q
    · exact hL w q
    · unfold xWm at q
      rcases List.mem_cons.mp q with q | q
      · rw [q]
        rcases hz.1 with ⟨q1, q2⟩ | ⟨q1, q2⟩
        · rw [if_pos q1]; exact q2
        · rw [if_neg (by rw [q1]; decide)]; exact q2
      · exact q
  have hslen := xSR_len _ _ hs
  have mok : ∀ (z : xMd), z ∈ xMs → z.1 ≠ yL_law → xMok z := fun z hz hne => by
    rcases xMs_ok z hz with q | q
    · exact absurd q hne
    · exact q
  unfold xcall at hp
  split at hp
  · -- static
    rename_i x
    split at hp
    · rename_i y1 na hcal
      split at hp
      · rename_i hq; obtain ⟨q1, q2, q3⟩ := hq; cases hp
        obtain ⟨c1, c2, c3, c4⟩ := xCal_ok hcal
        have hok := mok _ c1 c2
        obtain ⟨hts1, hdrop⟩ := xSR_take na _ _ hs
        have has := xSR_rev _ _ hts1
        have hM := xMet_of ih hok hr hlen hfl hTY (ad := ad) (D := D) (b0 := b0) has
        obtain ⟨t1, t2⟩ := xs_take q2 hslen
        rcases c4 with c4 | c4
        · obtain ⟨hcode, hi, hst, hin, hpl, hmh, hnm1, hsel⟩ := id hok
          rcases hcode with ⟨he, hcode⟩ | ⟨he, hcode⟩
          · refine ⟨stc.drop na, (stc.take na).reverse.toArray, hdrop, ?_⟩
            exact vx_runS ⟨hexec, hb, hml, hown, hts⟩ hM (va_cwS na hts (words (L := [_, _, _]) (fun w hw => by
              rcases List.mem_cons.mp hw with q | hw
              · rw [q]; exact c4
              · rcases List.mem_cons.mp hw with q | hw
                · rw [q]; exact hst q1
                · rw [List.mem_singleton.mp hw]; exact hi) _ hok) (by unfold xWm; rw [if_pos he]) rfl rfl ⟨hmh.1, hmh.2, c3⟩ ⟨Nat.le_trans hfr hrf, Nat.le_trans hlo hrl⟩) ⟨xPc_blind, xs_pc Cx0 hw hS⟩ rfl t1 hl t2 (lv_room (by rw [xSR_cats _ _ hdrop]; exact q3)) hd ⟨hcells, hslots⟩
          · refine ⟨stc.drop na, (stc.take na).reverse.toArray, hdrop, ?_⟩
            exact vx_runSX ⟨hexec, hb, hml, hown, hts⟩ hM (vx_cwSW na hts (words (L := [_, _, _]) (fun w hw => by
              rcases List.mem_cons.mp hw with q | hw
              · rw [q]; exact c4
              · rcases List.mem_cons.mp hw with q | hw
                · rw [q]; exact hst q1
                · rw [List.mem_singleton.mp hw]; exact hi) _ hok) (by unfold xWm; rw [if_neg (by rw [he]; decide)]) rfl rfl ⟨hmh.1, hmh.2, c3⟩ ⟨Nat.le_trans hfr hrf, Nat.le_trans hlo hrl⟩) ⟨xPc_blind, xs_pc Cx0 hw hS⟩ rfl t1 hl t2 (lv_room (by rw [xSR_cats _ _ hdrop]; exact q3)) hd ⟨hcells, hslots⟩
        · exact absurd (c4.2.2.symm.trans q1) (by decide)
      · cases hp
    · cases hp
  · -- virtual
    rename_i x
    split at hp
    · rename_i y1 na hcal
      have virt : ∀ {b : Nat} {restc : List Value}, y1.2.2.2.2.2.2.2.2 = false → y1.1.name ≠ "<init>" → y1.2.2.2.2.1.isEmpty = true → na ≤ stc.length → (restc.map fun v => v.category).sum ≤ 8 → stc.drop na = .ref b :: restc → (∃ cellB : Cell, H[b]? = some cellB ∧ cellB.vm.isStatics = false ∧ s.vm.findClass y1.1.cls = some cellB.cls) →
          y = y1 → xSR (xVR cad ad) as (.ref b :: (stc.take na).reverse) → vx_Run p l e R s mid args below meth c H locs cells slots o.2.2.1 o.2.2.2 (F0 mid pc ls stc) restc (xQc D cad TY b0 ad o (Value.ref b :: (stc.take na).reverse).toArray) (xXc D cad TY b0 ad o) (fun q => b0 ≤ q) := by
        intro b restc q1 q2 q3 q4 q5 q6 q7 q8 q9
        subst q8
        obtain ⟨c1, c2, c3, c4⟩ := xCal_ok hcal
        have hok := mok _ c1 c2
        have hM := xMet_of ih hok hr hlen hfl hTY (ad := ad) (D := D) (b0 := b0) q9
        obtain ⟨t1, t2⟩ := xs_take q4 rfl
        rw [q6] at t2
        obtain ⟨hcode, hi, hst, hin, hpl, hmh, hnm1, hsel⟩ := id hok
        rcases c4 with c4 | c4
        · exact vx_runV ⟨hexec, hb, hml, hown, hts⟩ hM (cwV na hts (words (L := [_, _, _, _]) (fun w hw => by
            rcases List.mem_cons.mp hw with q | hw
            · rw [q]; exact c4
            · rcases List.mem_cons.mp hw with q | hw
              · rw [q]; exact hin q1
              · rcases List.mem_cons.mp hw with q | hw
                · rw [q]; exact hsel q1 q2
                · rw [List.mem_singleton.mp hw]; exact hi) _ hok) (by unfold xWm; rw [if_pos q3]) rfl rfl ⟨rfl, hmh.1, hmh.2, c3⟩ ⟨Nat.le_trans hfr hrf, Nat.le_trans hlo hrl⟩) ⟨xPc_blind, q7, xs_pc Cx0 hw hS⟩ rfl t1 hl t2 (lv_room q5) hd ⟨hcells, hslots⟩
        · exact absurd c4.2.1 q2
      obtain ⟨hts1, hdrop⟩ := xSR_take na _ _ hs
      split at hp
      · rename_i a1 rest1 hst1
        rw [hst1] at hdrop
        obtain ⟨w1, restc, e1, ⟨b, hb1, rfl⟩, hrest⟩ := hdrop
        split at hp
        · rename_i ci fs hcell
          split at hp
          · rename_i hq; obtain ⟨q1, q2, q3, q4, q5, q6⟩ := hq; cases hp
            obtain ⟨ws, hP, hD, hR⟩ := id hw
            obtain ⟨x0, hx, fs', rfl, hfs⟩ := xHR_get hR hcell hb1
            obtain ⟨r, hr0, -⟩ := hP _ _ hx
            have hvw := xVw (List.getElem?_eq_some_iff.mp hr0).1
            have hrc := va_recv hK hP hvw hx
            have hnm1 := (mok _ (xCal_ok hcal).1 (xCal_ok hcal).2.1).2.2.2.2.2.2.1
            refine ⟨restc, _, hrest, virt q1 q2 q3 (by rw [hslen]; exact q5) (by rw [xSR_cats _ _ hrest]; exact q6) e1 ?_ rfl ⟨_, _, rfl, ⟨b, hb1, rfl⟩, xSR_rev _ _ hts1⟩⟩
            rw [← hnm1, ← q4]
            exact hrc
          · cases hp
        · cases hp
      · rename_i a1 rest1 hst1
        rw [hst1] at hdrop
        obtain ⟨w1, restc, e1, hv, hrest⟩ := hdrop
        split at hp
        · rename_i hq; obtain ⟨q1, q2, q3, q4, q5, q6⟩ := hq; cases hp
          have hsm : a1 < 998 := by
            unfold xCcl at q4
            split at q4
            · omega
            · split at q4
              · omega
              · cases q4
          cases (xVR_c hsm hv)
          obtain ⟨cell, k1, k2, k3, -⟩ := va_O.kept (hC.2.2.2.2.2.1 _ _ q4) hS.2.1
          have hnm1 := (mok _ (xCal_ok hcal).1 (xCal_ok hcal).2.1).2.2.2.2.2.2.1
          refine ⟨restc, _, hrest, virt q1 q2 q3 (by rw [hslen]; exact q5) (by rw [xSR_cats _ _ hrest]; exact q6) e1 ⟨cell, k1, k2, by rw [← hnm1]; exact k3⟩ rfl ⟨_, _, rfl, hv, xSR_rev _ _ hts1⟩⟩
        · cases hp
      · cases hp
    · cases hp
  · -- constructors
    rename_i x
    split at hp
    · rename_i y1 na hcal
      split at hp
      · rename_i a1 rest1 hst1
        split at hp
        · rename_i hq; obtain ⟨q1, q2, q3, q4, q5, q6⟩ := hq; cases hp
          obtain ⟨hts1, hdrop⟩ := xSR_take na _ _ hs
          rw [hst1] at hdrop
          obtain ⟨w1, restc, e1, ⟨b, hb1, rfl⟩, hrest⟩ := hdrop
          obtain ⟨c1, c2, c3, c4⟩ := xCal_ok hcal
          have hok := mok _ c1 c2
          have hM := xMet_of ih hok hr hlen hfl hTY (ad := ad) (D := D) (b0 := b0) (as' := .ref b :: (stc.take na).reverse) ⟨_, _, rfl, ⟨b, hb1, rfl⟩, xSR_rev _ _ hts1⟩
          obtain ⟨v0, hv0⟩ := hini q2
          have hM2 := xMet_plain hM (fun E st t hx => by
            obtain ⟨ex, k1, -⟩ := hx
            rw [hv0] at k1
            cases k1)
          obtain ⟨t1, t2⟩ := xs_take q5 hslen
          rw [e1] at t2
          obtain ⟨hcode, hi, hst, hin, hpl, hmh, hnm1, hsel⟩ := id hok
          have hno : y.2.2.2.1 = none := Option.isNone_iff_eq_none.mp q4
          have hwm : xWm y = Cond.code y.1 y.2.1 y.2.2.1 none :: xWs := by unfold xWm; rw [if_pos q3, hno]
          have hG : GoodIn xWs (xWm y) := words (L := []) (fun w hw => nomatch hw) _ hok
          refine ⟨restc, (Value.ref b :: (stc.take na).reverse).toArray, hrest, fun T hT X => Or.inl ?_⟩
          rcases c4 with c4 | c4
          · exact va_runI ⟨hexec, hb, hml, hown, hts⟩ hM2 (cwI na hts hG hwm rfl rfl (hts _ hi) (hts _ c4) (hts _ (hin q1)) q2 ⟨hmh.1, hmh.2, c3⟩ ⟨Nat.le_trans hfr hrf, Nat.le_trans hlo hrl⟩) ⟨xPc_blind, xs_pc Cx0 hw hS⟩ rfl t1 hl t2 (lv_room (by rw [xSR_cats _ _ hrest]; exact q6)) hd ⟨hcells, hslots⟩ T hT X
          · exact va_runIN ⟨hexec, hb, hml, hown, hts⟩ hM2 ⟨va_cnB na hts hG hwm rfl rfl (hnw _ c4.1) (hts _ hi) ⟨hmh.1, hmh.2, c3⟩ ⟨Nat.le_trans hfr hrf, Nat.le_trans hlo hrl⟩, q2, hts _ (hin q1)⟩ ⟨xPc_blind, xs_pc Cx0 hw hS⟩ rfl t1 hl t2 (lv_room (by rw [xSR_cats _ _ hrest]; exact q6)) hd ⟨hcells, hslots⟩ T hT X
        · cases hp
      · cases hp
    · cases hp
  · cases hp
end XCALL
