/-! WRITES AND MAKINGS -/
theorem xRA_uniq {s : State} {c1 c2 : ClassId} {ty : FieldType} (h1 : va_RA s c1 ty) (h2 : va_RA s c2 ty) : c1 = c2 := by
  cases ty with
  | object C =>
    obtain ⟨_, _, -, -, -, k1⟩ := h1
    obtain ⟨_, _, -, -, -, k2⟩ := h2
    exact Option.some.inj (k1.symm.trans k2)
  | _ => exact Option.some.inj (Eq.trans (Eq.symm h1) h2)
theorem xTY_new {D : va_G} {TY : List (ClassId × FieldType)} {s : State} {cA : ClassId} {ty : FieldType} {t : Nat} (hTY : TY.map Prod.snd = xKi) (hK : va_K D vwCl TY s) (hK1 : va_K D vwCl (TY ++ [(cA, ty)]) s) (ht : xKi[t]? = some ty) : TY[t]? = some (cA, ty) := by
  obtain ⟨cB, hB⟩ := xTY_at hTY ht
  have h1 := (hK.2 t _ hB).2
  have h2 := (hK1.2 TY.length (cA, ty) (by rw [List.getElem?_append_right (Nat.le_refl _), Nat.sub_self]; rfl)).2
  have e : cB = cA := xRA_uniq h1 h2
  rw [hB, e]
theorem xWd_set {D : va_G} {cad : Nat → Nat} {TY : List (ClassId × FieldType)} {b0 : Nat} {ad : List Nat} {h : xH} {ws : va_W} {H1 : Heap} (hR : xHR cad TY ad h ws) {i a : Nat} {e : xE} {x : va_E} (ha : ad[i]? = some a) (he : xER cad TY ad e x) (hP : va_P D vwCl (ws.set i (a, x)) H1) (hD : va_D (fun q => b0 ≤ q) (ws.set i (a, x))) : xWd D cad TY b0 (ad ++ []) (h.set i e) H1 := by
  rw [List.append_nil]
  exact ⟨_, hP, hD, xHR_set hR ha he⟩
theorem xupd_ok {ad : List Nat} {f f' : Nat → Option Nat} {v w : Nat} (j : Nat) (hf : ∀ k, xOR ad (f k) (f' k)) (hv : ad[v]? = some w) : ∀ k, xOR ad (va_up f j (some v) k) (va_up f' j (some w) k) := by
  intro k
  unfold va_up
  by_cases c : k = j
  · rw [if_pos c, if_pos c]; exact ⟨w, hv, rfl⟩
  · rw [if_neg c, if_neg c]; exact hf k
theorem xElm_ok {t ci : Nat} (hel : xElm t = some ci) {ty : FieldType} (hq : xKi[t]? = some ty) : ∃ r : vw_C, vwCl[ci]? = some r ∧ ty = .object r.1 := by
  unfold xElm at hel
  split at hel
  · cases hel; cases hq; exact ⟨_, rfl, rfl⟩
  · cases hel; cases hq; exact ⟨_, rfl, rfl⟩
  · cases hel; cases hq; exact ⟨_, rfl, rfl⟩
  · cases hel
theorem xArr (t : Nat) (ht : t < 4) (ty : FieldType) (h : xKi[t]? = some ty) : Cond.arrayClass ty ∈ xWs := by
  rcases (show t = 0 ∨ t = 1 ∨ t = 2 ∨ t = 3 by omega) with rfl | rfl | rfl | rfl
  · cases h; exact xw 89 (by decide +kernel) rfl
  · cases h; exact xw 67 (by decide +kernel) rfl
  · cases h; exact xw 1903 (by decide +kernel) rfl
  · cases h; exact xw 1904 (by decide +kernel) rfl
section XP
variable {p : Program} {l : Launch} {e : Env} {R : Room} {s : State} {mid : MethodId} {args : Array Value} {below : List Frame} {meth : Method} {c : Code} {H : Heap} {locs : List Loc} {cells slots : Nat} {Q : State → Prop}
variable {pc : Nat} {ls : Array Slot} {D : va_G} {cad : Nat → Nat} {TY : List (ClassId × FieldType)} {b0 : Nat} {S : xS} {m : xMd} {ad : List Nat} {h : xH}
theorem xPok_spec {ini : Bool} {k cn j : Nat} {v w : Value} (hv : xVR cad ad v w) (hp : xPok ini k cn j v = true) : j < xNf cn ∧ ((xTT cn j).2.2.2 = false ∨ ((xTT cn j).2.2.2 = true ∧ ini = true ∧ k = cn)) ∧ narrow (xTy cn j) w = w ∧ fits (xTy cn j) w = true := by
  unfold xPok at hp
  simp only [Bool.and_eq_true, decide_eq_true_eq, Bool.or_eq_true, Bool.not_eq_true', beq_iff_eq] at hp
  obtain ⟨⟨h1, h2⟩, h3⟩ := hp
  refine ⟨h1, ?_, ?_⟩
  · rcases h2 with h2 | h2
    · exact Or.inl h2
    · cases hf : (xTT cn j).2.2.2
      · exact Or.inl rfl
      · exact Or.inr ⟨rfl, h2.1, h2.2⟩
  · cases v with
    | int a =>
      cases hv
      simp only [Bool.and_eq_true, decide_eq_true_eq] at h3
      exact h3
    | long a =>
      cases hv
      simp only [decide_eq_true_eq] at h3
      rw [h3]
      exact ⟨rfl, rfl⟩
    | null =>
      cases hv
      have h3 : xRob (some (xTy cn j)) = true := h3
      generalize xTy cn j = ty at h3 ⊢
      cases ty <;> first | (exact absurd h3 (by decide)) | exact ⟨rfl, rfl⟩
    | ref a =>
      obtain ⟨a1, -, rfl⟩ := hv
      have h3 : xRob (some (xTy cn j)) = true := h3
      generalize xTy cn j = ty at h3 ⊢
      cases ty <;> first | (exact absurd h3 (by decide)) | exact ⟨rfl, rfl⟩
    | retAddr a => exact nomatch (show false = true from h3)
    | float a => exact nomatch (show false = true from h3)
    | double a => exact nomatch (show false = true from h3)
theorem xs_wr (Cx : xCx D cad TY b0 S m p l R s mid args meth c) {i : Instr} {n : Nat} {st st1 stc : List Value} {h1 : xH} {dc ds : Nat} (hd : decode m.2.1 pc = .ok (i, n)) (hp : xwr (decide (m.1.name = "<init>")) m.2.2.2.2.2.1 i n st h = some (st1, h1, dc, ds)) (hs : xSR (xVR cad ad) st stc) (hw : xWd D cad TY b0 ad h H) (hS : va_S (fun q => b0 ≤ q) s.heap H locs)
    (hcells : cells + dc ≤ R.cells) (hslots : slots + ds ≤ R.slots)
    (kk : ∀ ex stc' H1 locs1, xSR (xVR cad (ad ++ ex)) st1 stc' → xWd D cad TY b0 (ad ++ ex) h1 H1 → va_S (fun q => b0 ≤ q) s.heap H1 locs1 → W p l e R s mid args below meth c H1 locs1 (cells + dc) (slots + ds) Q (F0 mid (pc + n) ls stc')) : W p l e R s mid args below meth c H locs cells slots Q (F0 mid pc ls stc) := by
  obtain ⟨hexec, hb, hml, hret, hlocks, hname, htab, hown, hts, hnw, hK, hTY, hC, hfl, hrf, hrl, hnm⟩ := Cx
  rw [← hnm] at hown
  obtain ⟨ws, hP, hD, hR⟩ := hw
  have hA : ∀ q, s.heap.size ≤ q → (fun q => b0 ≤ q) q := fun q hq => Nat.le_trans hC.1.2.2 hq
  have nil : ∀ {l1 l2 : List Value}, xSR (xVR cad ad) l1 l2 → xSR (xVR cad (ad ++ [])) l1 l2 := fun q => xSR_mono q
  unfold xwr at hp
  split at hp
  · -- putfield
    split at hp
    · rename_i e1 e2
      split at hp
      · rename_i hcj; obtain ⟨hcj, hjl, hok⟩ := hcj; subst hcj; cases hp
        obtain ⟨w1, t1, rfl, hv, w2, t2, rfl, ⟨a1, ha1, rfl⟩, hs⟩ := hs
        obtain ⟨x0, hx, fs', rfl, hfs⟩ := xHR_get hR e1 ha1
        obtain ⟨hc, hj, hlink⟩ := xFld_ok e2
        obtain ⟨o1, o2, o3, o4⟩ := xPok_spec hv hok
        obtain ⟨k1, k2, k3, k4⟩ := xCok_of (List.getElem?_eq_some_iff.mp hc).1
        have hjl' := hjl
        rw [← xSR_len _ _ hfs] at hjl'
        rcases o2 with o2 | ⟨o2, o5, o6⟩
        · exact va_put hexec hb hts k1 (xTy _) k2 k3 hown hK hP hD hS _ hx hc _ hj (hts _ hlink) (fun _ q => q) o2 (k2 _ hj) o3 o4 hjl' hd
            (fun H1 locs1 hP hD hS => kk [] _ H1 locs1 (nil hs) (xWd_set hR ha1 ⟨_, rfl, xSR_set hv _ _ _ hfs⟩ hP hD) hS)
        · exact va_putF hexec hb hts k1 (xTy _) k2 k3 hown hK hP hD hS _ hx hc _ hj (hts _ hlink) (fun _ q => q) o2 (by rw [hname]; exact of_decide_eq_true o5) (by rw [k4 _ hj, o6]) (k2 _ hj) o3 o4 hjl' hd
            (fun H1 locs1 hP hD hS => kk [] _ H1 locs1 (nil hs) (xWd_set hR ha1 ⟨_, rfl, xSR_set hv _ _ _ hfs⟩ hP hD) hS)
      · cases hp
    · cases hp
  · split at hp
    · rename_i e1
      split at hp
      · rename_i hin; cases hp
        obtain ⟨w0, t0, rfl, g0, w1, t1, rfl, g1, w2, t2, rfl, ⟨a1, ha1, rfl⟩, hs⟩ := hs; cases g0; cases g1
        obtain ⟨x0, hx, cA, ty, rfl, hty⟩ := xHR_get hR e1 ha1
        cases (xTY_ty hTY hty)
        exact va_iast hexec hb hK hP hD hS _ 0 hx hty (xin_vp hin) hd (fun H1 locs1 hP hD hS => kk [] _ H1 locs1 (nil hs) (xWd_set hR ha1 ⟨cA, _, rfl, hty⟩ hP hD) hS)
      · cases hp
    · cases hp
  · split at hp
    · rename_i e1
      split at hp
      · rename_i hin; obtain ⟨hin, hv01⟩ := hin; cases hp
        obtain ⟨w0, t0, rfl, g0, w1, t1, rfl, g1, w2, t2, rfl, ⟨a1, ha1, rfl⟩, hs⟩ := hs; cases g0; cases g1
        obtain ⟨x0, hx, cA, ty, rfl, hty⟩ := xHR_get hR e1 ha1
        cases (xTY_ty hTY hty)
        refine va_zast hexec hb hK hP hD hS _ 2 hx hty (xin_vp hin) hd (fun H1 locs1 hP hD hS => kk [] _ H1 locs1 (nil hs) (xWd_set hR ha1 ⟨cA, _, rfl, hty⟩ ?_ ?_) hS)
        · rcases hv01 with rfl | rfl <;> exact hP
        · rcases hv01 with rfl | rfl <;> exact hD
      · cases hp
    · cases hp
  · split at hp
    · rename_i e1
      split at hp
      · rename_i hin; cases hp
        obtain ⟨w0, t0, rfl, g0, w1, t1, rfl, g1, w2, t2, rfl, ⟨a1, ha1, rfl⟩, hs⟩ := hs; cases g0; cases g1
        obtain ⟨x0, hx, cA, ty, rfl, hty⟩ := xHR_get hR e1 ha1
        cases (xTY_ty hTY hty)
        exact va_cast hexec hb hK hP hD hS _ 3 hx hty (xin_vp hin) hd (fun H1 locs1 hP hD hS => kk [] _ H1 locs1 (nil hs) (xWd_set hR ha1 ⟨cA, _, rfl, hty⟩ hP hD) hS)
      · cases hp
    · cases hp
  · split at hp
    · rename_i e1
      split at hp
      · rename_i hin; cases hp
        obtain ⟨w0, t0, rfl, g0, w1, t1, rfl, g1, w2, t2, rfl, ⟨a1, ha1, rfl⟩, hs⟩ := hs; cases g0; cases g1
        obtain ⟨x0, hx, cA, ty, rfl, hty⟩ := xHR_get hR e1 ha1
        cases (xTY_ty hTY hty)
        exact va_last hexec hb hK hP hD hS _ 1 hx hty (xin_vp hin) hd (fun H1 locs1 hP hD hS => kk [] _ H1 locs1 (nil hs) (xWd_set hR ha1 ⟨cA, _, rfl, hty⟩ hP hD) hS)
      · cases hp
    · cases hp
  · -- aastore
    split at hp
    · rename_i e1 e2
      split at hp
      · rename_i hin; obtain ⟨hin, hel⟩ := hin; cases hp
        obtain ⟨w0, t0, rfl, ⟨a0, ha0, rfl⟩, w1, t1, rfl, g1, w2, t2, rfl, ⟨a1, ha1, rfl⟩, hs⟩ := hs; cases g1
        obtain ⟨x0, hx, cA, ty, f', rfl, hty, hf⟩ := xHR_get hR e1 ha1
        obtain ⟨y0, hy, fs', rfl, -⟩ := xHR_get hR e2 ha0
        have hq := xTY_ty hTY hty
        have hcl := xElm_ok hel hq
        obtain ⟨r, hr, rfl⟩ := hcl
        exact va_astq hexec hb hK hP hD hS _ _ _ _ hx hty hy hr (xin_vp hin) hd (fun H1 locs1 hP hD hS => kk [] _ H1 locs1 (nil hs) (xWd_set hR ha1 ⟨cA, _, _, rfl, hty, xupd_ok _ hf ha0⟩ hP hD) hS)
      · cases hp
    · cases hp
  · split at hp
    · rename_i hm; obtain ⟨hm, hmx⟩ := hm; cases hp
      obtain ⟨w0, t0, rfl, g0, hs⟩ := hs; cases g0
      refine va_newa (atype := .int) (ty := .int) (N' := _) (a0 := (_, .inl (fun _ => 0))) hexec hb (hts _ (xArr 0 (by decide) .int rfl)) rfl hK hP hD hS hA (fun cA => rfl) hm rfl (Nat.le_trans (Nat.mul_le_mul_right _ hmx) (by decide)) hcells hslots hd (fun q cA H1 hK1 hP1 hD1 hS1 => ?_)
      refine kk [q] _ H1 _ ⟨_, _, rfl, ⟨q, by rw [← hR.1, List.getElem?_append_right (Nat.le_refl _), Nat.sub_self]; rfl, rfl⟩, xSR_mono hs⟩ ⟨_, hP1, hD1, xHR_push hR ⟨cA, _, rfl, xTY_new hTY hK hK1 (t := 0) rfl⟩⟩ hS1
    · cases hp
  · split at hp
    · rename_i hm; obtain ⟨hm, hmx⟩ := hm; cases hp
      obtain ⟨w0, t0, rfl, g0, hs⟩ := hs; cases g0
      refine va_newa (atype := .long) (ty := .long) (N' := _) (a0 := (_, .inr (.inl (fun _ => 0)))) hexec hb (hts _ (xArr 1 (by decide) .long rfl)) rfl hK hP hD hS hA (fun cA => rfl) hm rfl (Nat.le_trans (Nat.mul_le_mul_right _ hmx) (by decide)) hcells hslots hd (fun q cA H1 hK1 hP1 hD1 hS1 => ?_)
      refine kk [q] _ H1 _ ⟨_, _, rfl, ⟨q, by rw [← hR.1, List.getElem?_append_right (Nat.le_refl _), Nat.sub_self]; rfl, rfl⟩, xSR_mono hs⟩ ⟨_, hP1, hD1, xHR_push hR ⟨cA, _, rfl, xTY_new hTY hK hK1 (t := 1) rfl⟩⟩ hS1
    · cases hp
  · split at hp
    · rename_i hm; obtain ⟨hm, hmx⟩ := hm; cases hp
      obtain ⟨w0, t0, rfl, g0, hs⟩ := hs; cases g0
      refine va_newa (atype := .boolean) (ty := .boolean) (N' := _) (a0 := (_, .inl (fun _ => 0))) hexec hb (hts _ (xArr 2 (by decide) .boolean rfl)) rfl hK hP hD hS hA (fun cA => rfl) hm rfl (Nat.le_trans (Nat.mul_le_mul_right _ hmx) (by decide)) hcells hslots hd (fun q cA H1 hK1 hP1 hD1 hS1 => ?_)
      refine kk [q] _ H1 _ ⟨_, _, rfl, ⟨q, by rw [← hR.1, List.getElem?_append_right (Nat.le_refl _), Nat.sub_self]; rfl, rfl⟩, xSR_mono hs⟩ ⟨_, hP1, hD1, xHR_push hR ⟨cA, _, rfl, xTY_new hTY hK hK1 (t := 2) rfl⟩⟩ hS1
    · cases hp
  · split at hp
    · rename_i hm; obtain ⟨hm, hmx⟩ := hm; cases hp
      obtain ⟨w0, t0, rfl, g0, hs⟩ := hs; cases g0
      refine va_newa (atype := .char) (ty := .char) (N' := _) (a0 := (_, .inl (fun _ => 0))) hexec hb (hts _ (xArr 3 (by decide) .char rfl)) rfl hK hP hD hS hA (fun cA => rfl) hm rfl (Nat.le_trans (Nat.mul_le_mul_right _ hmx) (by decide)) hcells hslots hd (fun q cA H1 hK1 hP1 hD1 hS1 => ?_)
      refine kk [q] _ H1 _ ⟨_, _, rfl, ⟨q, by rw [← hR.1, List.getElem?_append_right (Nat.le_refl _), Nat.sub_self]; rfl, rfl⟩, xSR_mono hs⟩ ⟨_, hP1, hD1, xHR_push hR ⟨cA, _, rfl, xTY_new hTY hK hK1 (t := 3) rfl⟩⟩ hS1
    · cases hp
  · -- anewarray
    split at hp
    · rename_i e1
      split at hp
      · rename_i hm; obtain ⟨hm, hmx⟩ := hm; cases hp
        obtain ⟨w0, t0, rfl, g0, hs⟩ := hs; cases g0
        obtain ⟨C, c1, c2, c3⟩ := xAnr_ok e1
        refine va_newq hexec hb hown (hts _ c2) (hnw _ c3) hK hP hD hS hA hm rfl (by omega) hcells hslots hd (fun q cA H1 hK1 hP1 hD1 hS1 => ?_)
        refine kk [q] _ H1 _ ⟨_, _, rfl, ⟨q, by rw [← hR.1, List.getElem?_append_right (Nat.le_refl _), Nat.sub_self]; rfl, rfl⟩, xSR_mono hs⟩ ⟨_, hP1, hD1, xHR_push hR ⟨cA, _, _, rfl, xTY_new hTY hK hK1 c1, fun _ => rfl⟩⟩ hS1
      · cases hp
    · cases hp
  · -- multianewarray
    split at hp
    · rename_i hm; obtain ⟨hm0, hm1, hm2, hm3, hm4⟩ := hm; cases hp
      obtain ⟨w1, t1, rfl, g1, w0, t0, rfl, g0, hs⟩ := hs; cases g0; cases g1
      obtain ⟨c1, c2⟩ := xMna_ok hm0
      obtain ⟨cI, hI⟩ := xTY_at hTY (t := 0) (ty := .int) rfl
      have hcy : s.vm.findClass (FieldType.array .int).toString = some cI := (hK.2 0 _ hI).2
      have hP0 : va_P D vwCl (ws ++ va_pl [] (fun _ => .inr (0, []))) H := by show va_P D vwCl (ws ++ []) H; rw [List.append_nil]; exact hP
      have hD0 : va_D (fun q => b0 ≤ q) (ws ++ va_pl [] (fun _ => .inr (0, []))) := by show va_D _ (ws ++ []); rw [List.append_nil]; exact hD
      refine va_mna (ty := .int) (z := (_, .inl (fun _ => 0))) hexec hb hown (hts _ c1) (hnw _ c2) (hts _ (xArr 0 (by decide) .int rfl)) hcy hK hP0 hD0 hS hA hm1 hm3 rfl rfl (by omega) (by show _ * 4 ≤ _; omega) (by omega) rfl rfl hcells hslots (fun c => by rw [vp_cell_i, ← arrV_new]; rfl) hd (fun q r cA H1 hinj _ hK1 hP1 hD1 hS1 => ?_)
      refine W.cs (by omega) (by omega) (kk _ _ H1 _ ?_ ⟨_, hP1, hD1, xHR_rows hR (xTY_new hTY hK hK1 (t := 7) rfl) hI⟩ hS1)
      exact ⟨_, _, rfl, ⟨q, by rw [← hR.1, List.getElem?_append_right (Nat.le_refl _), Nat.sub_self]; rfl, rfl⟩, xSR_mono hs⟩
    · cases hp
  · cases hp
end XP
