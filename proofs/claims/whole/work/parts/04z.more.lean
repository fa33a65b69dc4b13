theorem xAO_idx {u U : State} (hvm : u.vm.Alike U.vm) (comp : ClassId) : (U.vm.classes.findIdx? fun (x : Class) => match x.kind with | .array component _ => component == comp | _ => false) = (u.vm.classes.findIdx? fun (x : Class) => match x.kind with | .array component _ => component == comp | _ => false) := by
  have e1 := va_idx_bare U.vm comp
  have e2 := va_idx_bare u.vm comp
  have e : U.vm.bare = u.vm.bare := by first | exact hvm.bare_eq | exact hvm.bare_eq.symm
  rw [e] at e1
  exact e1.symm.trans e2
theorem xAO_spec {s : State} {t : FieldType} (h : va_Nw (.arrayOver (.array t)) s) :
    ∃ comp c k, s.vm.findClass (FieldType.array t).toString = some comp ∧ (s.vm.classes.findIdx? fun (x : Class) => match x.kind with | .array component _ => component == comp | _ => false) = some c ∧ s.vm.classes[c]? = some k ∧ k.kind = .array comp (.array t) ∧ s.vm.findClass ("[" ++ (FieldType.array t).toString) = some c := by
  have h : (Cond.arrayOver (.array t)).holds #[] s none s [] = true := h
  simp only [Cond.holds, Cond.value, beq_iff_eq] at h
  cases hc : s.vm.findClass (FieldType.array t).toString with
  | none => simp [hc] at h
  | some comp =>
    simp only [hc, Option.bind_some, Option.bind_eq_some_iff, Option.map_eq_some_iff] at h
    obtain ⟨c, hi, k, hk, hb⟩ := h
    obtain ⟨hlt, hp, -⟩ := Array.findIdx?_eq_some_iff_getElem.mp hi
    have hkk : s.vm.classes[c] = k := (Array.getElem?_eq_some_iff.mp hk).2
    rw [hkk] at hp
    cases hkind : k.kind with
    | array component ty =>
      rw [hkind] at hb hp
      simp at hb hp
      exact ⟨comp, c, k, rfl, hi, hk, by rw [hkind, hp, hb.1], hb.2⟩
    | _ => rw [hkind] at hb; simp at hb
theorem xAO_warmA {t : FieldType} {s U : State} (hW : s.WarmedH U.vm) (h : va_Nw (.arrayOver (.array t)) s) : va_Nw (.arrayOver (.array t)) U := by
  have hal := hW.alike
  obtain ⟨comp, c, k, hcomp, hidx, hk, hkind, hname⟩ := xAO_spec h
  obtain ⟨k', hk', hek'⟩ := hal.2.2 _ _ hk
  have hkind' : k'.kind = .array comp (.array t) := by rw [hek']; exact hkind
  have hname' : U.vm.findClass ("[" ++ (FieldType.array t).toString) = some c := by rw [hal.findClass]; exact hname
  have hcomp' : U.vm.findClass (FieldType.array t).toString = some comp := by rw [hal.findClass]; exact hcomp
  show (Cond.arrayOver (.array t)).holds #[] U none U [] = true
  simp only [Cond.holds, Cond.value, hcomp', Option.bind_some, beq_iff_eq]
  rw [Option.bind_eq_some_iff]
  refine ⟨c, (xAO_idx hal comp).trans hidx, ?_⟩
  simp [hk', hkind', hname']
theorem xAO_warm {C : String} {s U : State} (hW : s.WarmedH U.vm) (h : va_Nw (.arrayOver (.object C)) s) : va_Nw (.arrayOver (.object C)) U := va_AO.moved hW.alike h
theorem xNw_moved {s U : State} (hW : s.WarmedH U.vm) (h : ∀ w ∈ xNw, va_Nw w s) : ∀ w ∈ xNw, va_Nw w U := by
  unfold xNw at h ⊢
  refine List.forall_mem_cons.mpr ⟨xAO_warm hW (h _ (List.mem_cons_self)), List.forall_mem_cons.mpr ⟨va_Nw.warmM hW (h _ (List.mem_cons_of_mem _ (List.mem_cons_self))), List.forall_mem_cons.mpr ⟨va_Nw.warmF hW (h _ (List.mem_cons_of_mem _ (List.mem_cons_of_mem _ (List.mem_cons_self)))), List.forall_mem_cons.mpr ⟨xAO_warmA hW (h _ (List.mem_cons_of_mem _ (List.mem_cons_of_mem _ (List.mem_cons_of_mem _ (List.mem_cons_self))))), List.forall_mem_cons.mpr ⟨xAO_warm hW (h _ (List.mem_cons_of_mem _ (List.mem_cons_of_mem _ (List.mem_cons_of_mem _ (List.mem_cons_of_mem _ (List.mem_cons_self)))))), List.forall_mem_cons.mpr ⟨xAO_warm hW (h _ (List.mem_cons_of_mem _ (List.mem_cons_of_mem _ (List.mem_cons_of_mem _ (List.mem_cons_of_mem _ (List.mem_cons_of_mem _ (List.mem_cons_self))))))), List.forall_mem_cons.mpr ⟨va_Nw.warmM hW (h _ (List.mem_cons_of_mem _ (List.mem_cons_of_mem _ (List.mem_cons_of_mem _ (List.mem_cons_of_mem _ (List.mem_cons_of_mem _ (List.mem_cons_of_mem _ (List.mem_cons_self)))))))), List.forall_mem_cons.mpr ⟨va_Nw.warmM hW (h _ (List.mem_cons_of_mem _ (List.mem_cons_of_mem _ (List.mem_cons_of_mem _ (List.mem_cons_of_mem _ (List.mem_cons_of_mem _ (List.mem_cons_of_mem _ (List.mem_cons_of_mem _ (List.mem_cons_self))))))))), List.forall_mem_cons.mpr ⟨va_Nw.warmC hW (h _ (List.mem_cons_of_mem _ (List.mem_cons_of_mem _ (List.mem_cons_of_mem _ (List.mem_cons_of_mem _ (List.mem_cons_of_mem _ (List.mem_cons_of_mem _ (List.mem_cons_of_mem _ (List.mem_cons_of_mem _ (List.mem_cons_self)))))))))), List.forall_mem_cons.mpr ⟨va_Nw.warmD hW (h _ (List.mem_cons_of_mem _ (List.mem_cons_of_mem _ (List.mem_cons_of_mem _ (List.mem_cons_of_mem _ (List.mem_cons_of_mem _ (List.mem_cons_of_mem _ (List.mem_cons_of_mem _ (List.mem_cons_of_mem _ (List.mem_cons_of_mem _ (List.mem_cons_self))))))))))), List.forall_mem_cons.mpr ⟨va_Nw.warmD hW (h _ (List.mem_cons_of_mem _ (List.mem_cons_of_mem _ (List.mem_cons_of_mem _ (List.mem_cons_of_mem _ (List.mem_cons_of_mem _ (List.mem_cons_of_mem _ (List.mem_cons_of_mem _ (List.mem_cons_of_mem _ (List.mem_cons_of_mem _ (List.mem_cons_of_mem _ (List.mem_cons_self)))))))))))), List.forall_mem_cons.mpr ⟨va_Nw.warmD hW (h _ (List.mem_cons_of_mem _ (List.mem_cons_of_mem _ (List.mem_cons_of_mem _ (List.mem_cons_of_mem _ (List.mem_cons_of_mem _ (List.mem_cons_of_mem _ (List.mem_cons_of_mem _ (List.mem_cons_of_mem _ (List.mem_cons_of_mem _ (List.mem_cons_of_mem _ (List.mem_cons_of_mem _ (List.mem_cons_self))))))))))))), List.forall_mem_cons.mpr ⟨va_Nw.warmD hW (h _ (List.mem_cons_of_mem _ (List.mem_cons_of_mem _ (List.mem_cons_of_mem _ (List.mem_cons_of_mem _ (List.mem_cons_of_mem _ (List.mem_cons_of_mem _ (List.mem_cons_of_mem _ (List.mem_cons_of_mem _ (List.mem_cons_of_mem _ (List.mem_cons_of_mem _ (List.mem_cons_of_mem _ (List.mem_cons_of_mem _ (List.mem_cons_self)))))))))))))), List.forall_mem_cons.mpr ⟨va_Nw.warmD hW (h _ (List.mem_cons_of_mem _ (List.mem_cons_of_mem _ (List.mem_cons_of_mem _ (List.mem_cons_of_mem _ (List.mem_cons_of_mem _ (List.mem_cons_of_mem _ (List.mem_cons_of_mem _ (List.mem_cons_of_mem _ (List.mem_cons_of_mem _ (List.mem_cons_of_mem _ (List.mem_cons_of_mem _ (List.mem_cons_of_mem _ (List.mem_cons_of_mem _ (List.mem_cons_self))))))))))))))), List.forall_mem_cons.mpr ⟨va_Nw.warmD hW (h _ (List.mem_cons_of_mem _ (List.mem_cons_of_mem _ (List.mem_cons_of_mem _ (List.mem_cons_of_mem _ (List.mem_cons_of_mem _ (List.mem_cons_of_mem _ (List.mem_cons_of_mem _ (List.mem_cons_of_mem _ (List.mem_cons_of_mem _ (List.mem_cons_of_mem _ (List.mem_cons_of_mem _ (List.mem_cons_of_mem _ (List.mem_cons_of_mem _ (List.mem_cons_of_mem _ (List.mem_cons_self)))))))))))))))), List.forall_mem_cons.mpr ⟨va_Nw.warmC hW (h _ (List.mem_cons_of_mem _ (List.mem_cons_of_mem _ (List.mem_cons_of_mem _ (List.mem_cons_of_mem _ (List.mem_cons_of_mem _ (List.mem_cons_of_mem _ (List.mem_cons_of_mem _ (List.mem_cons_of_mem _ (List.mem_cons_of_mem _ (List.mem_cons_of_mem _ (List.mem_cons_of_mem _ (List.mem_cons_of_mem _ (List.mem_cons_of_mem _ (List.mem_cons_of_mem _ (List.mem_cons_of_mem _ (List.mem_cons_self))))))))))))))))), List.forall_mem_cons.mpr ⟨va_Nw.warmC hW (h _ (List.mem_cons_of_mem _ (List.mem_cons_of_mem _ (List.mem_cons_of_mem _ (List.mem_cons_of_mem _ (List.mem_cons_of_mem _ (List.mem_cons_of_mem _ (List.mem_cons_of_mem _ (List.mem_cons_of_mem _ (List.mem_cons_of_mem _ (List.mem_cons_of_mem _ (List.mem_cons_of_mem _ (List.mem_cons_of_mem _ (List.mem_cons_of_mem _ (List.mem_cons_of_mem _ (List.mem_cons_of_mem _ (List.mem_cons_of_mem _ (List.mem_cons_self)))))))))))))))))), fun _ h => absurd h List.not_mem_nil⟩⟩⟩⟩⟩⟩⟩⟩⟩⟩⟩⟩⟩⟩⟩⟩⟩
def xNok (k : Nat) (r : Nat × Nat) : Prop := vwCl[r.2]? = some (xNm r.2, xTT r.2, xNf r.2) ∧ Cond.classLink (xNm k) r.1 (xNm r.2) ∈ xWs ∧ Cond.instantiable (xNm r.2) (xNf r.2) ∈ xWs ∧ Cond.initialized (xNm r.2) ∈ xWs ∧ (∀ j, j < xNf r.2 → defaultValue (xTy r.2 j) = vp_V (xDef r.2) j) ∧ (xDef r.2).length = xNf r.2 ∧ ∀ v ∈ xDef r.2, v = .int 0 ∨ v = .long 0 ∨ v = .null
theorem xClss_ok_1 : ∀ r ∈ xClss 1, xNok 1 r := by
  unfold xClss
  exact List.forall_mem_cons.mpr ⟨⟨rfl, xw 237 (by decide +kernel) rfl, xw 778 (by decide +kernel) rfl, xw 28 (by decide +kernel) rfl, by decide +kernel, rfl, by decide +kernel⟩, List.forall_mem_cons.mpr ⟨⟨rfl, xw 240 (by decide +kernel) rfl, xw 45 (by decide +kernel) rfl, xw 3 (by decide +kernel) rfl, by decide +kernel, rfl, by decide +kernel⟩, List.forall_mem_cons.mpr ⟨⟨rfl, xw 242 (by decide +kernel) rfl, xw 243 (by decide +kernel) rfl, xw 11 (by decide +kernel) rfl, by decide +kernel, rfl, by decide +kernel⟩, fun _ h => absurd h List.not_mem_nil⟩⟩⟩
theorem xClss_ok_3 : ∀ r ∈ xClss 3, xNok 3 r := by
  unfold xClss
  exact List.forall_mem_cons.mpr ⟨⟨rfl, xw 74 (by decide +kernel) rfl, xw 45 (by decide +kernel) rfl, xw 3 (by decide +kernel) rfl, by decide +kernel, rfl, by decide +kernel⟩, fun _ h => absurd h List.not_mem_nil⟩
theorem xClss_ok_7 : ∀ r ∈ xClss 7, xNok 7 r := by
  unfold xClss
  exact List.forall_mem_cons.mpr ⟨⟨rfl, xw 783 (by decide +kernel) rfl, xw 165 (by decide +kernel) rfl, xw 9 (by decide +kernel) rfl, by decide +kernel, rfl, by decide +kernel⟩, fun _ h => absurd h List.not_mem_nil⟩
theorem xClss_ok_8 : ∀ r ∈ xClss 8, xNok 8 r := by
  unfold xClss
  exact List.forall_mem_cons.mpr ⟨⟨rfl, xw 248 (by decide +kernel) rfl, xw 45 (by decide +kernel) rfl, xw 3 (by decide +kernel) rfl, by decide +kernel, rfl, by decide +kernel⟩, fun _ h => absurd h List.not_mem_nil⟩
theorem xClss_ok_9 : ∀ r ∈ xClss 9, xNok 9 r := by
  unfold xClss
  exact List.forall_mem_cons.mpr ⟨⟨rfl, xw 163 (by decide +kernel) rfl, xw 165 (by decide +kernel) rfl, xw 9 (by decide +kernel) rfl, by decide +kernel, rfl, by decide +kernel⟩, fun _ h => absurd h List.not_mem_nil⟩
theorem xClss_ok_11 : ∀ r ∈ xClss 11, xNok 11 r := by
  unfold xClss
  exact List.forall_mem_cons.mpr ⟨⟨rfl, xw 43 (by decide +kernel) rfl, xw 45 (by decide +kernel) rfl, xw 3 (by decide +kernel) rfl, by decide +kernel, rfl, by decide +kernel⟩, List.forall_mem_cons.mpr ⟨⟨rfl, xw 68 (by decide +kernel) rfl, xw 69 (by decide +kernel) rfl, xw 4 (by decide +kernel) rfl, by decide +kernel, rfl, by decide +kernel⟩, List.forall_mem_cons.mpr ⟨⟨rfl, xw 90 (by decide +kernel) rfl, xw 91 (by decide +kernel) rfl, xw 5 (by decide +kernel) rfl, by decide +kernel, rfl, by decide +kernel⟩, List.forall_mem_cons.mpr ⟨⟨rfl, xw 115 (by decide +kernel) rfl, xw 116 (by decide +kernel) rfl, xw 6 (by decide +kernel) rfl, by decide +kernel, rfl, by decide +kernel⟩, List.forall_mem_cons.mpr ⟨⟨rfl, xw 128 (by decide +kernel) rfl, xw 129 (by decide +kernel) rfl, xw 7 (by decide +kernel) rfl, by decide +kernel, rfl, by decide +kernel⟩, List.forall_mem_cons.mpr ⟨⟨rfl, xw 157 (by decide +kernel) rfl, xw 158 (by decide +kernel) rfl, xw 8 (by decide +kernel) rfl, by decide +kernel, rfl, by decide +kernel⟩, List.forall_mem_cons.mpr ⟨⟨rfl, xw 231 (by decide +kernel) rfl, xw 232 (by decide +kernel) rfl, xw 10 (by decide +kernel) rfl, by decide +kernel, rfl, by decide +kernel⟩, List.forall_mem_cons.mpr ⟨⟨rfl, xw 370 (by decide +kernel) rfl, xw 371 (by decide +kernel) rfl, xw 12 (by decide +kernel) rfl, by decide +kernel, rfl, by decide +kernel⟩, fun _ h => absurd h List.not_mem_nil⟩⟩⟩⟩⟩⟩⟩⟩
theorem xClss_ok_14 : ∀ r ∈ xClss 14, xNok 14 r := by
  unfold xClss
  exact List.forall_mem_cons.mpr ⟨⟨rfl, xw 29 (by decide +kernel) rfl, xw 30 (by decide +kernel) rfl, xw 1 (by decide +kernel) rfl, by decide +kernel, rfl, by decide +kernel⟩, List.forall_mem_cons.mpr ⟨⟨rfl, xw 1648 (by decide +kernel) rfl, xw 1649 (by decide +kernel) rfl, xw 13 (by decide +kernel) rfl, by decide +kernel, rfl, by decide +kernel⟩, fun _ h => absurd h List.not_mem_nil⟩⟩
theorem xClss_ok : (k : Nat) → ∀ r, r ∈ xClss k → xNok k r
  | 0 => fun r h => (List.not_mem_nil (show r ∈ [] from h)).elim
  | 1 => xClss_ok_1
  | 2 => fun r h => (List.not_mem_nil (show r ∈ [] from h)).elim
  | 3 => xClss_ok_3
  | 4 => fun r h => (List.not_mem_nil (show r ∈ [] from h)).elim
  | 5 => fun r h => (List.not_mem_nil (show r ∈ [] from h)).elim
  | 6 => fun r h => (List.not_mem_nil (show r ∈ [] from h)).elim
  | 7 => xClss_ok_7
  | 8 => xClss_ok_8
  | 9 => xClss_ok_9
  | 10 => fun r h => (List.not_mem_nil (show r ∈ [] from h)).elim
  | 11 => xClss_ok_11
  | 12 => fun r h => (List.not_mem_nil (show r ∈ [] from h)).elim
  | 13 => fun r h => (List.not_mem_nil (show r ∈ [] from h)).elim
  | 14 => xClss_ok_14
  | 15 => fun r h => (List.not_mem_nil (show r ∈ [] from h)).elim
  | 16 => fun r h => (List.not_mem_nil (show r ∈ [] from h)).elim
  | 17 => fun r h => (List.not_mem_nil (show r ∈ [] from h)).elim
  | 18 => fun r h => (List.not_mem_nil (show r ∈ [] from h)).elim
  | 19 => fun r h => (List.not_mem_nil (show r ∈ [] from h)).elim
  | n + 20 => fun r h => (List.not_mem_nil (show r ∈ [] from h)).elim
theorem xCls_ok {k x ci : Nat} (h : xCls k x = some ci) : xNok k (x, ci) := xClss_ok k _ (xlook h)
/-- the kinds of arrays, by their numbers -/
def xKi : List FieldType := [.int, .long, .boolean, .char, .object "ScanCompare$Image", .object "ScanCompare$Part", .object "ScanCompare$Region", .array .int]
def xAok (k : Nat) (r : Nat × Nat) : Prop := ∃ C, xKi[r.2]? = some (.object C) ∧ Cond.classLink (xNm k) r.1 C ∈ xWs ∧ Cond.arrayOver (.object C) ∈ xNw
theorem xAnrs_ok_1 : ∀ r ∈ xAnrs 1, xAok 1 r := by
  unfold xAnrs
  exact List.forall_mem_cons.mpr ⟨⟨"ScanCompare$Region", rfl, xw 237 (by decide +kernel) rfl, List.mem_of_getElem? (i := 5) rfl⟩, List.forall_mem_cons.mpr ⟨⟨"ScanCompare$Part", rfl, xw 239 (by decide +kernel) rfl, List.mem_of_getElem? (i := 4) rfl⟩, fun _ h => absurd h List.not_mem_nil⟩⟩
theorem xAnrs_ok_3 : ∀ r ∈ xAnrs 3, xAok 3 r := by
  unfold xAnrs
  exact List.forall_mem_cons.mpr ⟨⟨"ScanCompare$Image", rfl, xw 74 (by decide +kernel) rfl, List.mem_of_getElem? (i := 0) rfl⟩, fun _ h => absurd h List.not_mem_nil⟩
theorem xAnrs_ok_9 : ∀ r ∈ xAnrs 9, xAok 9 r := by
  unfold xAnrs
  exact List.forall_mem_cons.mpr ⟨⟨"ScanCompare$Part", rfl, xw 163 (by decide +kernel) rfl, List.mem_of_getElem? (i := 4) rfl⟩, fun _ h => absurd h List.not_mem_nil⟩
theorem xAnrs_ok_11 : ∀ r ∈ xAnrs 11, xAok 11 r := by
  unfold xAnrs
  exact List.forall_mem_cons.mpr ⟨⟨"ScanCompare$Image", rfl, xw 43 (by decide +kernel) rfl, List.mem_of_getElem? (i := 0) rfl⟩, fun _ h => absurd h List.not_mem_nil⟩
theorem xAnrs_ok : (k : Nat) → ∀ r, r ∈ xAnrs k → xAok k r
  | 0 => fun r h => (List.not_mem_nil (show r ∈ [] from h)).elim
  | 1 => xAnrs_ok_1
  | 2 => fun r h => (List.not_mem_nil (show r ∈ [] from h)).elim
  | 3 => xAnrs_ok_3
  | 4 => fun r h => (List.not_mem_nil (show r ∈ [] from h)).elim
  | 5 => fun r h => (List.not_mem_nil (show r ∈ [] from h)).elim
  | 6 => fun r h => (List.not_mem_nil (show r ∈ [] from h)).elim
  | 7 => fun r h => (List.not_mem_nil (show r ∈ [] from h)).elim
  | 8 => fun r h => (List.not_mem_nil (show r ∈ [] from h)).elim
  | 9 => xAnrs_ok_9
  | 10 => fun r h => (List.not_mem_nil (show r ∈ [] from h)).elim
  | 11 => xAnrs_ok_11
  | 12 => fun r h => (List.not_mem_nil (show r ∈ [] from h)).elim
  | 13 => fun r h => (List.not_mem_nil (show r ∈ [] from h)).elim
  | 14 => fun r h => (List.not_mem_nil (show r ∈ [] from h)).elim
  | 15 => fun r h => (List.not_mem_nil (show r ∈ [] from h)).elim
  | 16 => fun r h => (List.not_mem_nil (show r ∈ [] from h)).elim
  | 17 => fun r h => (List.not_mem_nil (show r ∈ [] from h)).elim
  | 18 => fun r h => (List.not_mem_nil (show r ∈ [] from h)).elim
  | 19 => fun r h => (List.not_mem_nil (show r ∈ [] from h)).elim
  | n + 20 => fun r h => (List.not_mem_nil (show r ∈ [] from h)).elim
theorem xAnr_ok {k x t : Nat} (h : xAnr k x = some t) : xAok k (x, t) := xAnrs_ok k _ (xlook h)
theorem xMna_ok {k x : Nat} (h : xMna k x = true) : Cond.classLink (xNm k) x (FieldType.array (FieldType.array .int)).toString ∈ xWs ∧ Cond.arrayOver (.array .int) ∈ xNw := by
  have h2 : (k, x) ∈ [(11, 62)] := List.contains_iff_mem.mp h
  cases (List.mem_singleton.mp h2)
  exact ⟨xw 155 (by decide +kernel) rfl, List.mem_of_getElem? (i := 3) rfl⟩
def xLok (k : Nat) (r : Nat × Value) : Prop := match r.2 with | .int v => Cond.constant (xNm k) r.1 v ∈ xWs | .retAddr a => 20 ≤ a ∧ a < 120 ∧ ∃ tx, Cond.stringRef (xNm k) r.1 tx ∈ tables_1 | _ => False
theorem xLdcs_ok_1 : ∀ r ∈ xLdcs 1, xLok 1 r := by
  unfold xLdcs
  exact List.forall_mem_cons.mpr ⟨⟨by decide, by decide, "shift ", List.mem_of_getElem? (i := 1549) (by decide +kernel)⟩, List.forall_mem_cons.mpr ⟨⟨by decide, by decide, ",", List.mem_of_getElem? (i := 1551) (by decide +kernel)⟩, List.forall_mem_cons.mpr ⟨⟨by decide, by decide, " skew ", List.mem_of_getElem? (i := 1558) (by decide +kernel)⟩, List.forall_mem_cons.mpr ⟨⟨by decide, by decide, " turned", List.mem_of_getElem? (i := 1560) (by decide +kernel)⟩, List.forall_mem_cons.mpr ⟨⟨by decide, by decide, " change", List.mem_of_getElem? (i := 1562) (by decide +kernel)⟩, List.forall_mem_cons.mpr ⟨⟨by decide, by decide, " changes", List.mem_of_getElem? (i := 1563) (by decide +kernel)⟩, fun _ h => absurd h List.not_mem_nil⟩⟩⟩⟩⟩⟩
theorem xLdcs_ok_5 : ∀ r ∈ xLdcs 5, xLok 5 r := by
  unfold xLdcs
  exact List.forall_mem_cons.mpr ⟨⟨by decide, by decide, "moved ", List.mem_of_getElem? (i := 1568) (by decide +kernel)⟩, List.forall_mem_cons.mpr ⟨⟨by decide, by decide, " from ", List.mem_of_getElem? (i := 1571) (by decide +kernel)⟩, List.forall_mem_cons.mpr ⟨⟨by decide, by decide, ",", List.mem_of_getElem? (i := 1572) (by decide +kernel)⟩, List.forall_mem_cons.mpr ⟨⟨by decide, by decide, " to ", List.mem_of_getElem? (i := 1574) (by decide +kernel)⟩, List.forall_mem_cons.mpr ⟨⟨by decide, by decide, "added ", List.mem_of_getElem? (i := 1575) (by decide +kernel)⟩, List.forall_mem_cons.mpr ⟨⟨by decide, by decide, "removed ", List.mem_of_getElem? (i := 1576) (by decide +kernel)⟩, List.forall_mem_cons.mpr ⟨⟨by decide, by decide, " at ", List.mem_of_getElem? (i := 1577) (by decide +kernel)⟩, List.forall_mem_cons.mpr ⟨⟨by decide, by decide, " size ", List.mem_of_getElem? (i := 1578) (by decide +kernel)⟩, List.forall_mem_cons.mpr ⟨⟨by decide, by decide, "x", List.mem_of_getElem? (i := 1579) (by decide +kernel)⟩, List.forall_mem_cons.mpr ⟨⟨by decide, by decide, " stamp ", List.mem_of_getElem? (i := 1580) (by decide +kernel)⟩, fun _ h => absurd h List.not_mem_nil⟩⟩⟩⟩⟩⟩⟩⟩⟩⟩
theorem xLdcs_ok_6 : ∀ r ∈ xLdcs 6, xLok 6 r := by
  unfold xLdcs
  exact List.forall_mem_cons.mpr ⟨xw 1301 (by decide +kernel) rfl, fun _ h => absurd h List.not_mem_nil⟩
theorem xLdcs_ok_8 : ∀ r ∈ xLdcs 8, xLok 8 r := by
  unfold xLdcs
  exact List.forall_mem_cons.mpr ⟨xw 672 (by decide +kernel) rfl, fun _ h => absurd h List.not_mem_nil⟩
theorem xLdcs_ok_11 : ∀ r ∈ xLdcs 11, xLok 11 r := by
  unfold xLdcs
  exact List.forall_mem_cons.mpr ⟨⟨by decide, by decide, "no such page", List.mem_of_getElem? (i := 978) (by decide +kernel)⟩, List.forall_mem_cons.mpr ⟨⟨by decide, by decide, "no such row", List.mem_of_getElem? (i := 1009) (by decide +kernel)⟩, List.forall_mem_cons.mpr ⟨⟨by decide, by decide, "negative size", List.mem_of_getElem? (i := 1055) (by decide +kernel)⟩, List.forall_mem_cons.mpr ⟨⟨by decide, by decide, "no such kind of flip", List.mem_of_getElem? (i := 1088) (by decide +kernel)⟩, List.forall_mem_cons.mpr ⟨⟨by decide, by decide, "size out of range", List.mem_of_getElem? (i := 1097) (by decide +kernel)⟩, List.forall_mem_cons.mpr ⟨⟨by decide, by decide, "no such text line", List.mem_of_getElem? (i := 1161) (by decide +kernel)⟩, List.forall_mem_cons.mpr ⟨⟨by decide, by decide, "gap out of range", List.mem_of_getElem? (i := 1180) (by decide +kernel)⟩, List.forall_mem_cons.mpr ⟨⟨by decide, by decide, "no edit can be undone", List.mem_of_getElem? (i := 1224) (by decide +kernel)⟩, List.forall_mem_cons.mpr ⟨⟨by decide, by decide, "no printable character", List.mem_of_getElem? (i := 1242) (by decide +kernel)⟩, List.forall_mem_cons.mpr ⟨⟨by decide, by decide, "the text is full", List.mem_of_getElem? (i := 1247) (by decide +kernel)⟩, List.forall_mem_cons.mpr ⟨⟨by decide, by decide, "no such setting", List.mem_of_getElem? (i := 1261) (by decide +kernel)⟩, List.forall_mem_cons.mpr ⟨⟨by decide, by decide, "negative index", List.mem_of_getElem? (i := 1270) (by decide +kernel)⟩, List.forall_mem_cons.mpr ⟨⟨by decide, by decide, "no rectangle of the page", List.mem_of_getElem? (i := 1316) (by decide +kernel)⟩, List.forall_mem_cons.mpr ⟨⟨by decide, by decide, "too many masks", List.mem_of_getElem? (i := 1317) (by decide +kernel)⟩, List.forall_mem_cons.mpr ⟨⟨by decide, by decide, "no such mask", List.mem_of_getElem? (i := 1325) (by decide +kernel)⟩, List.forall_mem_cons.mpr ⟨⟨by decide, by decide, "no comparison", List.mem_of_getElem? (i := 1342) (by decide +kernel)⟩, List.forall_mem_cons.mpr ⟨⟨by decide, by decide, "shift out of range", List.mem_of_getElem? (i := 1385) (by decide +kernel)⟩, List.forall_mem_cons.mpr ⟨⟨by decide, by decide, "no such block", List.mem_of_getElem? (i := 1394) (by decide +kernel)⟩, List.forall_mem_cons.mpr ⟨⟨by decide, by decide, "no pixel of the page", List.mem_of_getElem? (i := 1413) (by decide +kernel)⟩, List.forall_mem_cons.mpr ⟨⟨by decide, by decide, "no such region", List.mem_of_getElem? (i := 1433) (by decide +kernel)⟩, List.forall_mem_cons.mpr ⟨⟨by decide, by decide, "no such change", List.mem_of_getElem? (i := 1491) (by decide +kernel)⟩, List.forall_mem_cons.mpr ⟨⟨by decide, by decide, "too many stamps", List.mem_of_getElem? (i := 1594) (by decide +kernel)⟩, List.forall_mem_cons.mpr ⟨⟨by decide, by decide, "no such stamp", List.mem_of_getElem? (i := 1619) (by decide +kernel)⟩, List.forall_mem_cons.mpr ⟨⟨by decide, by decide, "negative number of regions", List.mem_of_getElem? (i := 1643) (by decide +kernel)⟩, fun _ h => absurd h List.not_mem_nil⟩⟩⟩⟩⟩⟩⟩⟩⟩⟩⟩⟩⟩⟩⟩⟩⟩⟩⟩⟩⟩⟩⟩⟩
theorem xLdcs_ok_12 : ∀ r ∈ xLdcs 12, xLok 12 r := by
  unfold xLdcs
  exact List.forall_mem_cons.mpr ⟨xw 1654 (by decide +kernel) rfl, List.forall_mem_cons.mpr ⟨xw 1655 (by decide +kernel) rfl, fun _ h => absurd h List.not_mem_nil⟩⟩
theorem xLdcs_ok_13 : ∀ r ∈ xLdcs 13, xLok 13 r := by
  unfold xLdcs
  exact List.forall_mem_cons.mpr ⟨⟨by decide, by decide, "speckle", List.mem_of_getElem? (i := 2412) (by decide +kernel)⟩, List.forall_mem_cons.mpr ⟨⟨by decide, by decide, "", List.mem_of_getElem? (i := 2413) (by decide +kernel)⟩, List.forall_mem_cons.mpr ⟨⟨by decide, by decide, "search", List.mem_of_getElem? (i := 2414) (by decide +kernel)⟩, List.forall_mem_cons.mpr ⟨⟨by decide, by decide, "skew", List.mem_of_getElem? (i := 2415) (by decide +kernel)⟩, List.forall_mem_cons.mpr ⟨⟨by decide, by decide, "turn", List.mem_of_getElem? (i := 2416) (by decide +kernel)⟩, List.forall_mem_cons.mpr ⟨⟨by decide, by decide, "off", List.mem_of_getElem? (i := 2417) (by decide +kernel)⟩, List.forall_mem_cons.mpr ⟨⟨by decide, by decide, "on", List.mem_of_getElem? (i := 2418) (by decide +kernel)⟩, List.forall_mem_cons.mpr ⟨⟨by decide, by decide, "jitter", List.mem_of_getElem? (i := 2419) (by decide +kernel)⟩, List.forall_mem_cons.mpr ⟨⟨by decide, by decide, "block", List.mem_of_getElem? (i := 2420) (by decide +kernel)⟩, List.forall_mem_cons.mpr ⟨⟨by decide, by decide, "noise", List.mem_of_getElem? (i := 2421) (by decide +kernel)⟩, List.forall_mem_cons.mpr ⟨⟨by decide, by decide, "order", List.mem_of_getElem? (i := 2422) (by decide +kernel)⟩, List.forall_mem_cons.mpr ⟨⟨by decide, by decide, "rows", List.mem_of_getElem? (i := 2423) (by decide +kernel)⟩, List.forall_mem_cons.mpr ⟨⟨by decide, by decide, "columns", List.mem_of_getElem? (i := 2424) (by decide +kernel)⟩, List.forall_mem_cons.mpr ⟨⟨by decide, by decide, "pair", List.mem_of_getElem? (i := 2425) (by decide +kernel)⟩, List.forall_mem_cons.mpr ⟨⟨by decide, by decide, "stamps", List.mem_of_getElem? (i := 2426) (by decide +kernel)⟩, List.forall_mem_cons.mpr ⟨⟨by decide, by decide, "keep", List.mem_of_getElem? (i := 2427) (by decide +kernel)⟩, List.forall_mem_cons.mpr ⟨⟨by decide, by decide, "hide", List.mem_of_getElem? (i := 2428) (by decide +kernel)⟩, fun _ h => absurd h List.not_mem_nil⟩⟩⟩⟩⟩⟩⟩⟩⟩⟩⟩⟩⟩⟩⟩⟩⟩
theorem xLdcs_ok : (k : Nat) → ∀ r, r ∈ xLdcs k → xLok k r
  | 0 => fun r h => (List.not_mem_nil (show r ∈ [] from h)).elim
  | 1 => xLdcs_ok_1
  | 2 => fun r h => (List.not_mem_nil (show r ∈ [] from h)).elim
  | 3 => fun r h => (List.not_mem_nil (show r ∈ [] from h)).elim
  | 4 => fun r h => (List.not_mem_nil (show r ∈ [] from h)).elim
  | 5 => xLdcs_ok_5
  | 6 => xLdcs_ok_6
  | 7 => fun r h => (List.not_mem_nil (show r ∈ [] from h)).elim
  | 8 => xLdcs_ok_8
  | 9 => fun r h => (List.not_mem_nil (show r ∈ [] from h)).elim
  | 10 => fun r h => (List.not_mem_nil (show r ∈ [] from h)).elim
  | 11 => xLdcs_ok_11
  | 12 => xLdcs_ok_12
  | 13 => xLdcs_ok_13
  | 14 => fun r h => (List.not_mem_nil (show r ∈ [] from h)).elim
  | 15 => fun r h => (List.not_mem_nil (show r ∈ [] from h)).elim
  | 16 => fun r h => (List.not_mem_nil (show r ∈ [] from h)).elim
  | 17 => fun r h => (List.not_mem_nil (show r ∈ [] from h)).elim
  | 18 => fun r h => (List.not_mem_nil (show r ∈ [] from h)).elim
  | 19 => fun r h => (List.not_mem_nil (show r ∈ [] from h)).elim
  | n + 20 => fun r h => (List.not_mem_nil (show r ∈ [] from h)).elim
theorem xLdc_ok {k x : Nat} {v : Value} (h : xLdc k x = some v) : xLok k (x, v) := xLdcs_ok k _ (xlook h)
def xMok2 (k : Nat) (r : Nat × Int64) : Prop := Cond.constantLong (xNm k) r.1 r.2 ∈ xWs
theorem xLd2s_ok_0 : ∀ r ∈ xLd2s 0, xMok2 0 r := by
  unfold xLd2s
  exact List.forall_mem_cons.mpr ⟨xw 625 (by decide +kernel) rfl, fun _ h => absurd h List.not_mem_nil⟩
theorem xLd2s_ok_1 : ∀ r ∈ xLd2s 1, xMok2 1 r := by
  unfold xLd2s
  exact List.forall_mem_cons.mpr ⟨xw 872 (by decide +kernel) rfl, fun _ h => absurd h List.not_mem_nil⟩
theorem xLd2s_ok_4 : ∀ r ∈ xLd2s 4, xMok2 4 r := by
  unfold xLd2s
  exact List.forall_mem_cons.mpr ⟨xw 53 (by decide +kernel) rfl, fun _ h => absurd h List.not_mem_nil⟩
theorem xLd2s_ok_11 : ∀ r ∈ xLd2s 11, xMok2 11 r := by
  unfold xLd2s
  exact List.forall_mem_cons.mpr ⟨xw 1201 (by decide +kernel) rfl, List.forall_mem_cons.mpr ⟨xw 1202 (by decide +kernel) rfl, fun _ h => absurd h List.not_mem_nil⟩⟩
theorem xLd2s_ok_12 : ∀ r ∈ xLd2s 12, xMok2 12 r := by
  unfold xLd2s
  exact List.forall_mem_cons.mpr ⟨xw 1917 (by decide +kernel) rfl, List.forall_mem_cons.mpr ⟨xw 1968 (by decide +kernel) rfl, List.forall_mem_cons.mpr ⟨xw 1973 (by decide +kernel) rfl, List.forall_mem_cons.mpr ⟨xw 2030 (by decide +kernel) rfl, List.forall_mem_cons.mpr ⟨xw 2031 (by decide +kernel) rfl, List.forall_mem_cons.mpr ⟨xw 2040 (by decide +kernel) rfl, List.forall_mem_cons.mpr ⟨xw 2041 (by decide +kernel) rfl, List.forall_mem_cons.mpr ⟨xw 2062 (by decide +kernel) rfl, List.forall_mem_cons.mpr ⟨xw 2063 (by decide +kernel) rfl, List.forall_mem_cons.mpr ⟨xw 2072 (by decide +kernel) rfl, List.forall_mem_cons.mpr ⟨xw 2073 (by decide +kernel) rfl, List.forall_mem_cons.mpr ⟨xw 2089 (by decide +kernel) rfl, fun _ h => absurd h List.not_mem_nil⟩⟩⟩⟩⟩⟩⟩⟩⟩⟩⟩⟩
theorem xLd2s_ok_14 : ∀ r ∈ xLd2s 14, xMok2 14 r := by
  unfold xLd2s
  exact List.forall_mem_cons.mpr ⟨xw 2399 (by decide +kernel) rfl, fun _ h => absurd h List.not_mem_nil⟩
theorem xLd2s_ok_16 : ∀ r ∈ xLd2s 16, xMok2 16 r := by
  unfold xLd2s
  exact List.forall_mem_cons.mpr ⟨xw 633 (by decide +kernel) rfl, List.forall_mem_cons.mpr ⟨xw 634 (by decide +kernel) rfl, List.forall_mem_cons.mpr ⟨xw 635 (by decide +kernel) rfl, fun _ h => absurd h List.not_mem_nil⟩⟩⟩
theorem xLd2s_ok : (k : Nat) → ∀ r, r ∈ xLd2s k → xMok2 k r
  | 0 => xLd2s_ok_0
  | 1 => xLd2s_ok_1
  | 2 => fun r h => (List.not_mem_nil (show r ∈ [] from h)).elim
  | 3 => fun r h => (List.not_mem_nil (show r ∈ [] from h)).elim
  | 4 => xLd2s_ok_4
  | 5 => fun r h => (List.not_mem_nil (show r ∈ [] from h)).elim
  | 6 => fun r h => (List.not_mem_nil (show r ∈ [] from h)).elim
  | 7 => fun r h => (List.not_mem_nil (show r ∈ [] from h)).elim
  | 8 => fun r h => (List.not_mem_nil (show r ∈ [] from h)).elim
  | 9 => fun r h => (List.not_mem_nil (show r ∈ [] from h)).elim
  | 10 => fun r h => (List.not_mem_nil (show r ∈ [] from h)).elim
  | 11 => xLd2s_ok_11
  | 12 => xLd2s_ok_12
  | 13 => fun r h => (List.not_mem_nil (show r ∈ [] from h)).elim
  | 14 => xLd2s_ok_14
  | 15 => fun r h => (List.not_mem_nil (show r ∈ [] from h)).elim
  | 16 => xLd2s_ok_16
  | 17 => fun r h => (List.not_mem_nil (show r ∈ [] from h)).elim
  | 18 => fun r h => (List.not_mem_nil (show r ∈ [] from h)).elim
  | 19 => fun r h => (List.not_mem_nil (show r ∈ [] from h)).elim
  | n + 20 => fun r h => (List.not_mem_nil (show r ∈ [] from h)).elim
theorem xLd2_ok {k x : Nat} {v : Int64} (h : xLd2 k x = some v) : Cond.constantLong (xNm k) x v ∈ xWs := xLd2s_ok k _ (xlook h)
def xNames : List String := ["java/lang/RuntimeException", "java/lang/Exception"]
def xTok (k : Nat) (r : Nat × String × Nat) : Prop := Cond.classLink (xNm k) r.1 r.2.1 ∈ xWs ∧ Cond.initialized r.2.1 ∈ xWs ∧ (∀ w ∈ (vx_atS (xNm k) r.2.2 r.2.1 xNames).filter goodWord, w ∈ xWs) ∧ (∀ w ∈ (vx_atS (xNm k) r.2.2 r.2.1 xNames).filter (fun w => !goodWord w), w ∈ xNw) ∧ (∀ w ∈ Cond.classLink (xNm k) r.1 r.2.1 :: Cond.initialized r.2.1 :: vx_atS (xNm k) r.2.2 r.2.1 xNames, vx_ot w = true) ∧ Bundle.fit r.2.1 = true ∧ (∀ n ∈ xNames, Bundle.fit n = true) ∧ r.2.1 ∈ ["java/lang/IndexOutOfBoundsException", "java/lang/IllegalArgumentException", "java/lang/IllegalStateException"]
theorem xTgood {L : List Cond} (h : ∀ w ∈ L.filter goodWord, w ∈ lw_tbl) : ∀ w ∈ L.filter goodWord, w ∈ xWs := fun w hw => List.mem_filter.mpr ⟨h w hw, (List.mem_filter.mp hw).2⟩
theorem xThrs_ok_11 : ∀ r ∈ xThrs 11, xTok 11 r := by
  unfold xThrs
  exact List.forall_mem_cons.mpr ⟨⟨xw 1046 (by decide +kernel) rfl, xw 19 (by decide +kernel) rfl, xTgood (by decide +kernel), by decide +kernel, by decide +kernel, by decide +kernel, by decide +kernel, by decide +kernel⟩, List.forall_mem_cons.mpr ⟨⟨xw 1215 (by decide +kernel) rfl, xw 20 (by decide +kernel) rfl, xTgood (by decide +kernel), by decide +kernel, by decide +kernel, by decide +kernel, by decide +kernel, by decide +kernel⟩, List.forall_mem_cons.mpr ⟨⟨xw 937 (by decide +kernel) rfl, xw 17 (by decide +kernel) rfl, xTgood (by decide +kernel), by decide +kernel, by decide +kernel, by decide +kernel, by decide +kernel, by decide +kernel⟩, fun _ h => absurd h List.not_mem_nil⟩⟩⟩
theorem xThrs_ok : (k : Nat) → ∀ r, r ∈ xThrs k → xTok k r
  | 0 => fun r h => (List.not_mem_nil (show r ∈ [] from h)).elim
  | 1 => fun r h => (List.not_mem_nil (show r ∈ [] from h)).elim
  | 2 => fun r h => (List.not_mem_nil (show r ∈ [] from h)).elim
  | 3 => fun r h => (List.not_mem_nil (show r ∈ [] from h)).elim
  | 4 => fun r h => (List.not_mem_nil (show r ∈ [] from h)).elim
  | 5 => fun r h => (List.not_mem_nil (show r ∈ [] from h)).elim
  | 6 => fun r h => (List.not_mem_nil (show r ∈ [] from h)).elim
  | 7 => fun r h => (List.not_mem_nil (show r ∈ [] from h)).elim
  | 8 => fun r h => (List.not_mem_nil (show r ∈ [] from h)).elim
  | 9 => fun r h => (List.not_mem_nil (show r ∈ [] from h)).elim
  | 10 => fun r h => (List.not_mem_nil (show r ∈ [] from h)).elim
  | 11 => xThrs_ok_11
  | 12 => fun r h => (List.not_mem_nil (show r ∈ [] from h)).elim
  | 13 => fun r h => (List.not_mem_nil (show r ∈ [] from h)).elim
  | 14 => fun r h => (List.not_mem_nil (show r ∈ [] from h)).elim
  | 15 => fun r h => (List.not_mem_nil (show r ∈ [] from h)).elim
  | 16 => fun r h => (List.not_mem_nil (show r ∈ [] from h)).elim
  | 17 => fun r h => (List.not_mem_nil (show r ∈ [] from h)).elim
  | 18 => fun r h => (List.not_mem_nil (show r ∈ [] from h)).elim
  | 19 => fun r h => (List.not_mem_nil (show r ∈ [] from h)).elim
  | n + 20 => fun r h => (List.not_mem_nil (show r ∈ [] from h)).elim
theorem xThr_ok {k x ic : Nat} {E : String} (h : xThr k x = some (E, ic)) : xTok k (x, E, ic) := xThrs_ok k _ (xlook h)
theorem xObI_ok {k : Nat} {i : Instr} (h : xObI k i = true) : ∃ x, i = .invokespecial x ∧ Cond.methodLink (xNm k) x Lib.objectInit ∈ xWs := by
  unfold xObI at h
  split at h
  · have h2 := List.contains_iff_mem.mp h
    simp only [List.mem_cons, List.not_mem_nil, or_false, Prod.mk.injEq] at h2
    refine ⟨_, rfl, ?_⟩
    rcases h2 with ⟨rfl, rfl⟩ | ⟨rfl, rfl⟩ | ⟨rfl, rfl⟩ | ⟨rfl, rfl⟩ | ⟨rfl, rfl⟩ | ⟨rfl, rfl⟩ | ⟨rfl, rfl⟩ | ⟨rfl, rfl⟩ | ⟨rfl, rfl⟩ | ⟨rfl, rfl⟩ | ⟨rfl, rfl⟩ | ⟨rfl, rfl⟩ | ⟨rfl, rfl⟩
    · exact xw 95 (by decide +kernel) rfl
    · exact xw 236 (by decide +kernel) rfl
    · exact xw 133 (by decide +kernel) rfl
    · exact xw 73 (by decide +kernel) rfl
    · exact xw 49 (by decide +kernel) rfl
    · exact xw 169 (by decide +kernel) rfl
    · exact xw 375 (by decide +kernel) rfl
    · exact xw 782 (by decide +kernel) rfl
    · exact xw 247 (by decide +kernel) rfl
    · exact xw 162 (by decide +kernel) rfl
    · exact xw 120 (by decide +kernel) rfl
    · exact xw 34 (by decide +kernel) rfl
    · exact xw 1653 (by decide +kernel) rfl
  · cases h
theorem xCpy_ok {k : Nat} {i : Instr} (h : xCpy k i = true) : ∃ x, i = .invokestatic x ∧ Cond.methodLink (xNm k) x arraycopyName ∈ xWs := by
  unfold xCpy at h
  split at h
  · have h2 := List.contains_iff_mem.mp h
    simp only [List.mem_cons, List.not_mem_nil, or_false, Prod.mk.injEq] at h2
    refine ⟨_, rfl, ?_⟩
    rcases h2 with ⟨rfl, rfl⟩ | ⟨rfl, rfl⟩ | ⟨rfl, rfl⟩
    · exact xw 445 (by decide +kernel) rfl
    · exact xw 1604 (by decide +kernel) rfl
    · exact xw 1326 (by decide +kernel) rfl
  · cases h
theorem xObI_w : Cond.instanceMethod Lib.objectInit ∈ xWs ∧ Cond.code Lib.objectInit ⟨#[0xb1]⟩ 1 none ∈ xWs := ⟨xw 35 (by decide +kernel) rfl, xw 36 (by decide +kernel) rfl⟩
theorem xCpy_w : Cond.native arraycopyName ∈ xWs ∧ Cond.static arraycopyName ∈ xWs ∧ Cond.initialized "java/lang/System" ∈ xWs := ⟨xw 447 (by decide +kernel) rfl, xw 446 (by decide +kernel) rfl, xw 21 (by decide +kernel) rfl⟩
