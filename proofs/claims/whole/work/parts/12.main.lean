/-! THE INDUCTION -/
theorem xcovers {q : Nat × Nat × Nat × Nat} {pc : Nat} : covers ⟨q.1, q.2.1, q.2.2.1, q.2.2.2⟩ pc = true ↔ q.1 ≤ pc ∧ pc < q.2.1 := by
  simp [covers]
/-- what a handler's search says -/
theorem xhan_some {k pc : Nat} {E : String} {t : Nat} : ∀ (hh : List (Nat × Nat × Nat × Nat)), xhan k hh pc E = some (some t) → ∃ pre x suf nm, tableOf hh = pre ++ x :: suf ∧ x.handlerPc = t ∧ covers x pc = true ∧ xHcl x.catchType = some nm ∧ nm = E ∧ k = 14 ∧ E ∈ xE3 ∧ ∀ z ∈ pre, covers z pc = false ∨ ∃ nm, xHcl z.catchType = some nm ∧ nm ≠ E
  | [], h => by simp [xhan] at h
  | q :: hh, h => by
    unfold xhan at h
    split at h
    · rename_i hc
      split at h
      · rename_i hk
        split at h
        · rename_i nm hnm
          split at h
          · rename_i e0
            have e1 := Option.some.inj (Option.some.inj h)
            exact ⟨[], ⟨q.1, q.2.1, q.2.2.1, q.2.2.2⟩, tableOf hh, nm, rfl, e1, xcovers.mpr hc, hnm, e0, hk.1, hk.2, fun z hz => nomatch hz⟩
          · rename_i e0
            obtain ⟨pre, x, suf, nm1, g1, g2, g3, g4, g5, g6, g7, g8⟩ := xhan_some hh h
            refine ⟨⟨q.1, q.2.1, q.2.2.1, q.2.2.2⟩ :: pre, x, suf, nm1, by show _ :: tableOf hh = _; rw [g1]; rfl, g2, g3, g4, g5, g6, g7, fun z hz => ?_⟩
            rcases List.mem_cons.mp hz with rfl | hz
            · exact Or.inr ⟨nm, hnm, e0⟩
            · exact g8 z hz
        · cases h
      · cases h
    · rename_i hc
      obtain ⟨pre, x, suf, nm1, g1, g2, g3, g4, g5, g6, g7, g8⟩ := xhan_some hh h
      refine ⟨⟨q.1, q.2.1, q.2.2.1, q.2.2.2⟩ :: pre, x, suf, nm1, by show _ :: tableOf hh = _; rw [g1]; rfl, g2, g3, g4, g5, g6, g7, fun z hz => ?_⟩
      rcases List.mem_cons.mp hz with rfl | hz
      · exact Or.inl (by
          cases hcv : covers ⟨q.1, q.2.1, q.2.2.1, q.2.2.2⟩ pc
          · rfl
          · exact absurd (xcovers.mp hcv) hc)
      · exact g8 z hz
theorem xhan_none {k pc : Nat} {E : String} : ∀ (hh : List (Nat × Nat × Nat × Nat)), xhan k hh pc E = some none → ∀ z ∈ tableOf hh, covers z pc = false ∨ ∃ nm, xHcl z.catchType = some nm ∧ nm ≠ E ∧ k = 14 ∧ E ∈ xE3
  | [], _, z, hz => nomatch hz
  | q :: hh, h, z, hz => by
    unfold xhan at h
    rcases List.mem_cons.mp (show z ∈ ⟨q.1, q.2.1, q.2.2.1, q.2.2.2⟩ :: tableOf hh from hz) with rfl | hz
    · split at h
      · rename_i hc
        split at h
        · rename_i hk
          split at h
          · rename_i nm hnm
            split at h
            · cases h
            · rename_i e0
              exact Or.inr ⟨nm, hnm, e0, hk.1, hk.2⟩
          · cases h
        · cases h
      · rename_i hc
        exact Or.inl (by
          cases hcv : covers ⟨q.1, q.2.1, q.2.2.1, q.2.2.2⟩ pc
          · rfl
          · exact absurd (xcovers.mp hcv) hc)
    · split at h
      · split at h
        · split at h
          · split at h
            · cases h
            · exact xhan_none hh h z hz
          · cases h
        · cases h
      · exact xhan_none hh h z hz
theorem xRob_spec {rt : Option FieldType} (h : xRob rt = true) : ∃ t, rt = some t ∧ ((∃ n, t = .object n) ∨ ∃ z, t = .array z) := by
  unfold xRob at h
  split at h
  · exact ⟨_, rfl, Or.inl ⟨_, rfl⟩⟩
  · exact ⟨_, rfl, Or.inr ⟨_, rfl⟩⟩
  · cases h
theorem xNw_ot : ∀ w ∈ xNw, (match w with | .arrayOver _ => true | w => w.onTables) = true := by decide +kernel
theorem xNw_use {s : State} {args : Array Value} {w : Cond} (hw : w ∈ xNw) (h : va_Nw w s) : w.before args s = true := by
  have h1 := xNw_ot w hw
  cases w with
  | arrayOver t => exact h
  | _ => exact va_Nw.use h1 h
theorem xstep_call {S : xS} {m : xMd} {pc : Nat} {al : xL} {st : List Value} {h : xH} {q : xMd × List Value × List Value} (hp : xstep S m pc al st h = some (.inr (.inl q))) : ∃ i n, decode m.2.1 pc = .ok (i, n) ∧ xcall m.2.2.2.2.2.1 i n st h = some q := by
  unfold xstep at hp
  split at hp
  · cases hp
  · rename_i i n hd
    split at hp
    · obtain ⟨z9, e1, e2⟩ := Option.map_eq_some_iff.mp hp; cases e2
    · obtain ⟨z9, e1, e2⟩ := Option.map_eq_some_iff.mp hp; cases e2
    · obtain ⟨z9, e1, e2⟩ := Option.map_eq_some_iff.mp hp; cases e2
    · split at hp
      · cases hp
      · obtain ⟨z9, e1, e2⟩ := Option.map_eq_some_iff.mp hp; cases e2
    · split at hp
      · split at hp
        · split at hp
          · obtain ⟨z9, e1, e2⟩ := Option.map_eq_some_iff.mp hp; cases e2
          · cases hp
        · cases hp
      · split at hp
        · split at hp
          · split at hp
            · split at hp
              · cases hp
              · cases hp
            · split at hp
              · cases hp
              · cases hp
            · cases hp
          · cases hp
        · obtain ⟨z9, e1, e2⟩ := Option.map_eq_some_iff.mp hp; cases e2; exact ⟨i, n, hd, e1⟩
    · obtain ⟨z9, e1, e2⟩ := Option.map_eq_some_iff.mp hp; cases e2
    · split at hp
      · split at hp
        · split at hp
          · cases hp
          · cases hp
        · split at hp
          · obtain ⟨z9, e1, e2⟩ := Option.map_eq_some_iff.mp hp; cases e2
          · cases hp
      · cases hp
    · cases hp
theorem xstep_ret {S : xS} {m : xMd} {pc : Nat} {al : xL} {st : List Value} {h : xH} {v : Option Value} (hp : xstep S m pc al st h = some (.inr (.inr (.inl v)))) : ∃ i n, decode m.2.1 pc = .ok (i, n) ∧ xend m.2.2.2.1 i n st = some v := by
  unfold xstep at hp
  split at hp
  · cases hp
  · rename_i i n hd
    split at hp
    · obtain ⟨z9, e1, e2⟩ := Option.map_eq_some_iff.mp hp; cases e2
    · obtain ⟨z9, e1, e2⟩ := Option.map_eq_some_iff.mp hp; cases e2
    · obtain ⟨z9, e1, e2⟩ := Option.map_eq_some_iff.mp hp; cases e2
    · split at hp
      · cases hp
      · obtain ⟨z9, e1, e2⟩ := Option.map_eq_some_iff.mp hp; cases e2
    · split at hp
      · split at hp
        · split at hp
          · obtain ⟨z9, e1, e2⟩ := Option.map_eq_some_iff.mp hp; cases e2
          · cases hp
        · cases hp
      · split at hp
        · split at hp
          · split at hp
            · split at hp
              · cases hp
              · cases hp
            · split at hp
              · cases hp
              · cases hp
            · cases hp
          · cases hp
        · obtain ⟨z9, e1, e2⟩ := Option.map_eq_some_iff.mp hp; cases e2
    · obtain ⟨z9, e1, e2⟩ := Option.map_eq_some_iff.mp hp; cases e2; exact ⟨i, n, hd, e1⟩
    · split at hp
      · split at hp
        · split at hp
          · cases hp
          · cases hp
        · split at hp
          · obtain ⟨z9, e1, e2⟩ := Option.map_eq_some_iff.mp hp; cases e2
          · cases hp
      · cases hp
    · cases hp
theorem xstep_thr {S : xS} {m : xMd} {pc : Nat} {al : xL} {st : List Value} {h : xH} {E : String} (hp : xstep S m pc al st h = some (.inr (.inr (.inr E)))) : xthr m.2.1 m.2.2.2.2.2.1 pc st = some E ∧ 6 ≤ m.2.2.2.2.2.2.1 ∧ 90 ≤ m.2.2.2.2.2.2.2.1 ∧ m.2.2.2.2.1.isEmpty = true := by
  unfold xstep at hp
  split at hp
  · cases hp
  · rename_i i n hd
    split at hp
    · obtain ⟨z9, e1, e2⟩ := Option.map_eq_some_iff.mp hp; cases e2
    · obtain ⟨z9, e1, e2⟩ := Option.map_eq_some_iff.mp hp; cases e2
    · obtain ⟨z9, e1, e2⟩ := Option.map_eq_some_iff.mp hp; cases e2
    · split at hp
      · cases hp
      · obtain ⟨z9, e1, e2⟩ := Option.map_eq_some_iff.mp hp; cases e2
    · split at hp
      · split at hp
        · split at hp
          · obtain ⟨z9, e1, e2⟩ := Option.map_eq_some_iff.mp hp; cases e2
          · cases hp
        · cases hp
      · split at hp
        · split at hp
          · split at hp
            · split at hp
              · cases hp
              · cases hp
            · split at hp
              · cases hp
              · cases hp
            · cases hp
          · cases hp
        · obtain ⟨z9, e1, e2⟩ := Option.map_eq_some_iff.mp hp; cases e2
    · obtain ⟨z9, e1, e2⟩ := Option.map_eq_some_iff.mp hp; cases e2
    · split at hp
      · split at hp
        · split at hp
          · cases hp
          · cases hp
        · split at hp
          · rename_i hq; obtain ⟨z9, e1, e2⟩ := Option.map_eq_some_iff.mp hp; cases e2; exact ⟨e1, hq.1, hq.2.1, hq.2.2⟩
          · cases hp
      · cases hp
    · cases hp
theorem xHcl_ok {x : Nat} {nm : String} (h : xHcl x = some nm) : x ≠ 0 ∧ Cond.classLink (xNm 14) x nm ∈ xWs ∧ nm ∈ xE3 := by
  unfold xHcl at h
  split at h
  · cases h; exact ⟨by decide, xw 928 (by decide +kernel) rfl, by decide⟩
  · cases h; exact ⟨by decide, xw 1038 (by decide +kernel) rfl, by decide⟩
  · cases h; exact ⟨by decide, xw 1206 (by decide +kernel) rfl, by decide⟩
  · cases h
theorem xE3_cast : ∀ E ∈ xE3, Cond.castable E E ∈ xNw := by decide +kernel
section XMAIN
variable {p : Program} {l : Launch} {e : Env} {R : Room} {s : State} {mid : MethodId} {args : Array Value} {below : List Frame} {meth : Method} {c : Code} {H : Heap} {locs : List Loc} {cells slots : Nat} {Q : State → Prop}
variable {pc : Nat} {ls : Array Slot} {D : va_G} {cad : Nat → Nat} {TY : List (ClassId × FieldType)} {b0 : Nat} {S : xS} {m : xMd} {ad : List Nat} {h : xH}
/-- ends of a method -/
theorem xs_end (Cx : xCx D cad TY b0 S m p l R s mid args meth c) {i : Instr} {n : Nat} {st stc : List Value} {v : Option Value} (hd : decode m.2.1 pc = .ok (i, n)) (hp : xend m.2.2.2.1 i n st = some v) (hs : xSR (xVR cad ad) st stc) (hw : xWd D cad TY b0 ad h H) (hS : va_S (fun q => b0 ≤ q) s.heap H locs) :
    W p l e R s mid args below meth c H locs cells slots (vx_MQ below (xQc D cad TY b0 ad (.inl v, h, 0, 0)) (xXc D cad TY b0 ad (.inl v, h, 0, 0)) args s cells slots (fun q => b0 ≤ q)) (F0 mid pc ls stc) := by
  obtain ⟨hexec, hb, hml, hret, hlocks, hname, htab, hown, hts, hnw, hK, hTY, hC, hfl, hrf, hrl, hnm⟩ := Cx
  have hq : ∀ w, xOV (xVR cad ad) v w → ∀ t : State, t.heap = H → s.WarmedH t.vm → xQc D cad TY b0 ad (.inl v, h, 0, 0) args s (.returned w) t := by
    intro w hvw t ht hW
    exact ⟨v, w, [], rfl, rfl, by rw [List.append_nil]; exact hvw, by rw [List.append_nil, ht]; exact hw, hS.F ht⟩
  unfold xend at hp
  split at hp
  · split at hp
    · rename_i t ht
      split at hp
      · rename_i hn; cases hp
        obtain ⟨w1, t1, rfl, h1, rfl⟩ := hs; cases h1
        exact vx_ret (W.zret hexec hb (hret.trans ht) hn (hq _ ⟨_, rfl, rfl⟩) hS.2.2 hd hlocks)
      · cases hp
    · cases hp
  · split at hp
    · rename_i hn; cases hp
      obtain ⟨w1, t1, rfl, h1, rfl⟩ := hs; cases h1
      exact vx_ret (W.lret hexec hb (hret.trans hn) (hq _ ⟨_, rfl, rfl⟩) hS.2.2 hd hlocks)
    · cases hp
  · split at hp
    · rename_i hn; cases hp
      obtain ⟨w1, t1, rfl, h1, rfl⟩ := hs; cases h1
      obtain ⟨rt, hr1, hr2⟩ := xRob_spec hn
      exact vx_ret (W.aret hexec hb (hret.trans hr1) hr2 (Or.inl rfl) (hq _ ⟨_, rfl, rfl⟩) hS.2.2 hd hlocks)
    · cases hp
  · split at hp
    · rename_i hn; cases hp
      obtain ⟨w1, t1, rfl, ⟨a1, ha1, rfl⟩, rfl⟩ := hs
      obtain ⟨rt, hr1, hr2⟩ := xRob_spec hn
      exact vx_ret (W.aret hexec hb (hret.trans hr1) hr2 (Or.inr ⟨_, rfl⟩) (hq _ ⟨_, rfl, ⟨a1, ha1, rfl⟩⟩) hS.2.2 hd hlocks)
    · cases hp
  · split at hp
    · rename_i hn; obtain ⟨hn, hk⟩ := hn; cases hp
      obtain ⟨w1, t1, rfl, hv, rfl⟩ := hs
      obtain ⟨rt, hr1, hr2⟩ := xRob_spec hn
      obtain ⟨a1, rfl⟩ := xVR_kr hv hk
      exact vx_ret (W.aret hexec hb (hret.trans hr1) hr2 (Or.inr ⟨_, rfl⟩) (hq _ ⟨_, rfl, hv⟩) hS.2.2 hd hlocks)
    · cases hp
  · split at hp
    · rename_i hn; cases hp
      cases hs
      exact vx_ret (W.vret hexec hb (hret.trans hn) (hq none rfl) hS.2.2 hd hlocks)
    · cases hp
  · cases hp
/-- a throw -/
theorem xs_thr (Cx : xCx D cad TY b0 S m p l R s mid args meth c) {st stc : List Value} {E : String} (hp : xthr m.2.1 m.2.2.2.2.2.1 pc st = some E) (hq1 : 6 ≤ m.2.2.2.2.2.2.1) (hq2 : 90 ≤ m.2.2.2.2.2.2.2.1) (hq3 : m.2.2.2.2.1.isEmpty = true) (hs : xSR (xVR cad ad) st stc) (hw : xWd D cad TY b0 ad h H) (hS : va_S (fun q => b0 ≤ q) s.heap H locs) (hl : ls.size = m.2.2.1) (hcells : cells + 1 ≤ R.cells) (hslots : slots + 6 ≤ R.slots) :
    W p l e R s mid args below meth c H locs cells slots (vx_MQ below (xQc D cad TY b0 ad (.inr E, h, 1, 6)) (xXc D cad TY b0 ad (.inr E, h, 1, 6)) args s (cells + 1) (slots + 6) (fun q => b0 ≤ q)) (F0 mid pc ls stc) := by
  obtain ⟨hexec, hb, hml, hret, hlocks, hname, htab, hown, hts, hnw, hK, hTY, hC, hfl, hrf, hrl, hnm⟩ := Cx
  rw [← hnm] at hown
  have hC0 := hC
  obtain ⟨⟨hX, hb11, hbs⟩, hC2, hC3, hC4, hC5, hC6, hC7, hC8, hC9, hC10⟩ := hC
  have hout : ∀ z : Nat, ∀ x ∈ c.exceptionTable.toList, covers x z = false := by
    intro z x hx
    rw [htab, List.isEmpty_iff.mp hq3] at hx
    cases hx
  have hxx : ∀ t : State, s.vm.Alike t.vm → H.size ≤ t.heap.size → (∀ q : Nat, q < H.size → t.heap[q]? = H[q]?) → xXc D cad TY b0 ad (.inr E, h, 1, 6) E s t := by
    intro t ht hz hk
    refine ⟨[], rfl, by rw [List.append_nil]; exact xWd_kept hw hk, ⟨Nat.le_trans hS.1 hz, fun q h1 h2 => ?_⟩⟩
    rw [hk q (Nat.lt_of_lt_of_le h1 hS.1)]
    exact hS.2.1 q h1 h2
  unfold xthr at hp
  split at hp
  · rename_i ik sx d0 d3 d4
    split at hp
    · rename_i E1 ic a1 jc t1 t2 d6 d9
      split at hp
      · rename_i hq; obtain ⟨q1, q2⟩ := hq; subst q1; cases hp
        obtain ⟨g1, g2, g3, g4, g5, g6, g7, g8⟩ := xThr_ok t1
        obtain ⟨tx, hst⟩ := hC7 _ _ _ t2
        exact vx_throwS hexec hb hfl hown g6 g7 (hts _ g1) (hts _ g2) hst (vx_hat (B := xNw) (fun w hw => hts _ (g3 w hw)) g4 (fun w hw => xNw_use hw (hnw w hw))) g5 hC8 hC9 hS (by rw [hml]; exact hl) d0 d3 d4 d6 d9 (hout _) (by show 2 + 3 < _; omega) (by rw [xSR_cats _ _ hs]; show _ + (13 * (2 + 1) + 43) ≤ _; omega) hcells hslots hlocks hxx hS.2.2 (Nat.le_refl _) (Nat.le_refl _)
      · cases hp
    · cases hp
  · rename_i ik sx d0 d3 d4
    split at hp
    · rename_i E1 ic a1 jc t1 t2 d6 d9
      split at hp
      · rename_i hq; obtain ⟨q1, q2⟩ := hq; subst q1; cases hp
        obtain ⟨g1, g2, g3, g4, g5, g6, g7, g8⟩ := xThr_ok t1
        obtain ⟨tx, hst⟩ := hC7 _ _ _ t2
        exact vx_throwSW hexec hb hfl hown g6 g7 (hts _ g1) (hts _ g2) hst (vx_hat (B := xNw) (fun w hw => hts _ (g3 w hw)) g4 (fun w hw => xNw_use hw (hnw w hw))) g5 hC8 hC9 hS (by rw [hml]; exact hl) d0 d3 d4 d6 d9 (hout _) (by show 2 + 3 < _; omega) (by rw [xSR_cats _ _ hs]; show _ + (13 * (2 + 1) + 43) ≤ _; omega) hcells hslots hlocks hxx hS.2.2 (Nat.le_refl _) (Nat.le_refl _)
      · cases hp
    · cases hp
  · cases hp
theorem xs_pass (Cx : xCx D cad TY b0 S m p l R s mid args meth c) {E : String} {z : ExceptionTableEntry} (hk : m.2.2.2.2.2.1 = 14) (hE : E ∈ xE3) (h : covers z pc = false ∨ ∃ nm, xHcl z.catchType = some nm ∧ nm ≠ E) : covers z pc = false ∨ (z.catchType ≠ 0 ∧ ∃ nm : String, (Cond.classLink (xNm 14) z.catchType nm).before args s = true ∧ va_Nc E nm s) := by
  obtain ⟨hexec, hb, hml, hret, hlocks, hname, htab, hown, hts, hnw, hK, hTY, hC, hfl, hrf, hrl, hnm⟩ := Cx
  rcases h with h | ⟨nm, h1, h2⟩
  · exact Or.inl h
  · obtain ⟨g1, g2, g3⟩ := xHcl_ok h1
    exact Or.inr ⟨g1, nm, hts _ g2, hC.2.2.2.2.2.2.2.2.2 E nm hE g3 (Ne.symm h2)⟩
end XMAIN
theorem xsound (S : xS) : ∀ f, xSnd S f := by
  intro f
  induction f with
  | zero => intro m pc al st h o hr; simp [xrun] at hr
  | succ f ih =>
    intro m pc al st h o hr p l e R s mid args below meth c H locs cells slots D cad TY b0 ls ad al' stc Cx hl hL hs hw hS hcells hslots
    unfold xrun at hr
    split at hr
    · cases hr
    · rename_i pc1 al1 st1 h1 dc ds hstep
      obtain ⟨o1, ho1, e0⟩ := Option.map_eq_some_iff.mp hr
      subst e0
      dsimp only at hcells hslots
      refine xs_step Cx hstep hl hL hs hw hS (by omega) (by omega) (fun ex ls1 al1' stc' H1 locs1 g1 g2 g3 g4 g5 => ?_)
      exact xW_imp (xMQ_next rfl) (ih m pc1 al1 st1 h1 o1 ho1 p l e R s mid args below meth c H1 locs1 (cells + dc) (slots + ds) D cad TY b0 ls1 (ad ++ ex) al1' stc' Cx g1 g2 g3 g4 g5 (by omega) (by omega))
    · rename_i y as rest hstep
      obtain ⟨i, n, hd, hcall⟩ := xstep_call hstep
      split at hr
      · rename_i hq
        obtain ⟨hq1, hq2, hq3⟩ := hq
        split at hr
        · cases hr
        · rename_i v h' c1 s1 hrun
          obtain ⟨o1, ho1, e0⟩ := Option.map_eq_some_iff.mp hr
          subst e0
          dsimp only at hcells hslots
          obtain ⟨restc, asr, hrest, hrun2⟩ := xs_run ih Cx hd hcall hs hw hS hl.1 hq1 hq2 hq3 hrun (fun _ => ⟨v, rfl⟩) (by show cells + c1 ≤ _; omega) (by show slots + s1 ≤ _; omega)
          refine xs_goes hrun2 hS (fun v1 w ex H1 locs1 k1 k2 k3 k4 => ?_) (fun E ce q ex H1 locs1 k1 _ _ _ _ _ => nomatch k1)
          cases k1
          have hst : xSR (xVR cad (ad ++ ex)) (v.toList ++ rest) (w.toList ++ restc) := by
            cases v with
            | none => cases k2; exact xSR_mono hrest
            | some v => obtain ⟨w1, rfl, k2⟩ := k2; exact ⟨w1, restc, rfl, k2, xSR_mono hrest⟩
          exact xW_imp (xMQ_next rfl) (ih m (pc + 3) al (v.toList ++ rest) h' o1 ho1 p l e R s mid args below meth c H1 locs1 (cells + c1) (slots + s1) D cad TY b0 ls (ad ++ ex) al' _ Cx hl (xLR_mono hL) hst k3 k4 (by omega) (by omega))
        · rename_i E h' c1 s1 hrun
          split at hr
          · cases hr
          · rename_i hni
            split at hr
            · cases hr
            · rename_i t hhan
              obtain ⟨o1, ho1, e0⟩ := Option.map_eq_some_iff.mp hr
              subst e0
              dsimp only at hcells hslots
              obtain ⟨restc, asr, hrest, hrun2⟩ := xs_run ih Cx hd hcall hs hw hS hl.1 hq1 hq2 hq3 hrun (fun z => absurd z hni) (by show cells + c1 ≤ _; omega) (by show slots + s1 ≤ _; omega)
              refine xs_goes hrun2 hS (fun v1 w ex H1 locs1 k1 k2 k3 k4 => nomatch k1) (fun E1 ce q ex H1 locs1 k1 k2 k3 k4 k5 k6 => ?_)
              cases k1
              obtain ⟨pre, x, suf, nm, g1, g2, g3, g4, g5, g6, g7, g8⟩ := xhan_some _ hhan
              subst g5
              obtain ⟨q1, q2, q3⟩ := xHcl_ok g4
              have Cx0 := Cx
              obtain ⟨hexec, hb, hml, hret, hlocks, hname, htab, hown, hts, hnw, hK, hTY, hC, hfl, hrf, hrl, hnm⟩ := Cx
              rw [← hnm, g6] at hown
              refine vx_catch hown pre x suf (htab.trans g1) (fun z hz => xs_pass Cx0 g6 g7 (g8 z hz)) g3 q1 (hts _ q2) (xNw_use (xE3_cast _ g7) (hnw _ (xE3_cast _ g7))) k4 k5 k6 ?_
              rw [g2]
              exact xW_imp (xMQ_next rfl) (ih m t al [.retAddr 999] h' o1 ho1 p l e R s mid args below meth c H1 locs1 (cells + c1) (slots + s1) D cad TY b0 ls (ad ++ ex) al' [.ref q] Cx0 hl (xLR_mono hL) ⟨_, _, rfl, ⟨q, rfl⟩, rfl⟩ k2 k3 (by omega) (by omega))
            · rename_i hhan
              cases hr
              dsimp only at hcells hslots
              obtain ⟨restc, asr, hrest, hrun2⟩ := xs_run ih Cx hd hcall hs hw hS hl.1 hq1 hq2 hq3 hrun (fun z => absurd z hni) (by show cells + c1 ≤ _; omega) (by show slots + s1 ≤ _; omega)
              refine xs_goes hrun2 hS (fun v1 w ex H1 locs1 k1 k2 k3 k4 => nomatch k1) (fun E1 ce q ex H1 locs1 k1 k2 k3 k4 k5 k6 => ?_)
              cases k1
              have Cx0 := Cx
              obtain ⟨hexec, hb, hml, hret, hlocks, hname, htab, hown, hts, hnw, hK, hTY, hC, hfl, hrf, hrl, hnm⟩ := Cx
              rw [← hnm] at hown
              refine vx_outP hown hlocks (fun z hz => ?_) k4 k5 k6 (fun t ht hv => ⟨ex, rfl, by rw [ht]; exact k2, k3.F ht⟩) k3.2.2 (Nat.le_refl _) (Nat.le_refl _)
              rw [htab] at hz
              rcases xhan_none _ hhan z hz with q | ⟨nm, q1, q2, q3, q4⟩
              · exact Or.inl q
              · have := xs_pass (pc := pc) Cx0 q3 q4 (Or.inr ⟨nm, q1, q2⟩)
                rw [← q3] at this
                exact this
      · cases hr
    · rename_i v hstep
      cases hr
      obtain ⟨i, n, hd, he⟩ := xstep_ret hstep
      exact xs_end Cx hd he hs hw hS
    · rename_i E hstep
      cases hr
      obtain ⟨g1, g2, g3, g4⟩ := xstep_thr hstep
      exact xs_thr Cx g1 g2 g3 g4 hs hw hS hl.1 hcells hslots
