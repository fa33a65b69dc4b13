/-! THE LAW'S START -/
theorem xAll {α : Nat → Type} {P : (c : Nat) → α c → Prop} (h : ∀ c, ∃ q, P c q) : ∃ F : (c : Nat) → α c, ∀ c, P c (F c) := ⟨fun c => Classical.choose (h c), fun c => Classical.choose_spec (h c)⟩
section XLAW
variable {s : State} {args : Array Value}
theorem xK_of (hts : ∀ w ∈ xWs, w.before args s = true) (hnw : ∀ w ∈ xNw, va_Nw w s) : ∃ (D : va_G) (TY : List (ClassId × FieldType)), va_K D vwCl TY s ∧ TY.map Prod.snd = xKi := by
  have h1 : ∀ c : Nat, ∃ q : ClassId × (Nat → Nat), c < 13 → u_Kn s (xNm c) (xTT c) (xNf c) q.1 q.2 := by
    intro c
    by_cases hc : c < 13
    · obtain ⟨cC, iS, h⟩ := u_known hts (xCok_of hc).1 (hts _ (xIn_ok hc))
      exact ⟨(cC, iS), fun _ => h⟩
    · exact ⟨(0, fun _ => 0), fun h => absurd h hc⟩
  obtain ⟨F, hF⟩ := xAll h1
  have hP : ∀ t : Nat, t < 4 → ∀ ty : FieldType, xKi[t]? = some ty → ∃ cA, ArrOfT s cA ty ∧ s.vm.findClass ("[" ++ ty.toString) = some cA := by
    intro t ht ty hty
    obtain ⟨cA, kA, comp, g1, g2, g3⟩ := Cond.arrayClass_spec (hts _ (xArr t ht ty hty))
    exact ⟨cA, fun n z => ⟨(fun k h => by cases h), kA, g2, comp, g3⟩, g1⟩
  have hO : ∀ C : String, Cond.arrayOver (.object C) ∈ xNw → ∃ cA, ArrOfT s cA (.object C) ∧ va_RA s cA (.object C) := by
    intro C hC
    obtain ⟨comp, c, k, g1, g2, g3, g4, g5⟩ := Cond.arrayOver_spec (hnw _ hC)
    exact ⟨c, fun n z => ⟨(fun k h => by cases h), k, g3, comp, g4⟩, k, comp, g3, g4, g1, g5⟩
  obtain ⟨c0, p0, q0⟩ := hP 0 (by decide) .int rfl
  obtain ⟨c1, p1, q1⟩ := hP 1 (by decide) .long rfl
  obtain ⟨c2, p2, q2⟩ := hP 2 (by decide) .boolean rfl
  obtain ⟨c3, p3, q3⟩ := hP 3 (by decide) .char rfl
  obtain ⟨c4, p4, q4⟩ := hO "ScanCompare$Image" (by decide +kernel)
  obtain ⟨c5, p5, q5⟩ := hO "ScanCompare$Part" (by decide +kernel)
  obtain ⟨c6, p6, q6⟩ := hO "ScanCompare$Region" (by decide +kernel)
  obtain ⟨comp, c7, k7, g1, g2, g3, g4, g5⟩ := xAO_spec (hnw (.arrayOver (.array .int)) (by decide +kernel))
  have p7 : ArrOfT s c7 (.array .int) := fun n z => ⟨(fun k h => by cases h), k7, g3, comp, g4⟩
  refine ⟨(fun c => (F c).1, fun c => (F c).2), [(c0, .int), (c1, .long), (c2, .boolean), (c3, .char), (c4, .object "ScanCompare$Image"), (c5, .object "ScanCompare$Part"), (c6, .object "ScanCompare$Region"), (c7, .array .int)], ⟨fun c q hq => ?_, fun k q hq => ?_⟩, rfl⟩
  · have hc := (List.getElem?_eq_some_iff.mp hq).1
    have hv := xVw hc
    rw [hv] at hq
    cases hq
    exact hF c hc
  · match k, hq with
    | 0, hq => cases hq; exact ⟨p0, q0⟩
    | 1, hq => cases hq; exact ⟨p1, q1⟩
    | 2, hq => cases hq; exact ⟨p2, q2⟩
    | 3, hq => cases hq; exact ⟨p3, q3⟩
    | 4, hq => cases hq; exact ⟨p4, q4⟩
    | 5, hq => cases hq; exact ⟨p5, q5⟩
    | 6, hq => cases hq; exact ⟨p6, q6⟩
    | 7, hq => cases hq; exact ⟨p7, g5⟩
    | k + 8, hq => simp at hq
/-- the address that a term of the start stands for -/
def xAd (args : Array Value) (s : State) (t : Term) : Nat := match t.eval args s none [] s with | some (.ref q) => q | _ => 0
def xCad (args : Array Value) (s : State) (b a : Nat) : Nat := if a < 10 then xAd args s (xTmE a) else if a = 10 then xAd args s xTmA else if a = 11 then b else if a < 120 then xAd args s (xTmS (a - 20)) else xAd args s (xTmV (a - 120))
theorem xEx {t : Term} {C : String} (h : (Cond.exactly t C).before args s = true) : t.eval args s none [] s = some (.ref (xAd args s t)) := by
  obtain ⟨a2, c, cA, kA, q1, -⟩ := Cond.exactly_spec (args := args) (first := s) (o := none) (s := s) (idx := []) (t := t) (cls := C) h
  unfold xAd
  rw [q1]
theorem xCC_of (hts : ∀ w ∈ xWs, w.before args s = true) (htb : ∀ w ∈ tables_1, w.before args s = true) (hgv : ∀ w ∈ flatC xBig, w.before args s = true) {b L : Nat} {xs : Nat → Int32} (hX : va_X b L xs s s.heap) (hb : b < s.heap.size) : xCC (xCad args s b) s.heap.size (L, xs) s s.heap := by
  have hA : ∀ a : Nat, a < s.heap.size → ¬ (fun q => s.heap.size ≤ q) a := fun a h q => absurd q (Nat.not_le.mpr h)
  have cE : ∀ i, i < 10 → xCad args s b i = xAd args s (xTmE i) := fun i hi => by unfold xCad; rw [if_pos hi]
  have cA : xCad args s b 10 = xAd args s xTmA := by unfold xCad; rw [if_neg (by decide), if_pos rfl]
  have cX : xCad args s b 11 = b := by unfold xCad; rw [if_neg (by decide), if_neg (by decide), if_pos rfl]
  have cS : ∀ i, i < 57 → xCad args s b (i + 20) = xAd args s (xTmS i) := fun i hi => by unfold xCad; rw [if_neg (by omega), if_neg (by omega), if_neg (by omega), if_pos (by omega), Nat.add_sub_cancel]
  have cV : ∀ i, i < 57 → xCad args s b (i + 120) = xAd args s (xTmV i) := fun i hi => by unfold xCad; rw [if_neg (by omega), if_neg (by omega), if_neg (by omega), if_neg (by omega), Nat.add_sub_cancel]
  -- Strings
  have eS : ∀ i, i < 57 → (xTmS i).eval args s none [] s = some (.ref (xAd args s (xTmS i))) := fun i hi => xEx (hgv _ (xF_ex i hi))
  have tV : ∀ i, i < 57 → (xTmV i).eval args s none [] s = some (.ref (xAd args s (xTmV i))) ∧ va_T .byte (xAd args s (xTmV i)) (xSB i).length (fun j => .int ((xSB i).getD j 0)) (fun q => s.heap.size ≤ q) s s.heap := by
    intro i hi
    have hl := xF_sl i hi
    obtain ⟨t, h1, h2⟩ := va_Tof (A := fun q => s.heap.size ≤ q) (f := fun j => .int ((xSB i).getD j 0)) (by omega) (hgv _ (xF_ar i hi)) (va_eqt (hgv _ (xF_le i hi))) (fun j hj => va_eqt (hgv _ (xF_el i hi j hj))) hA
    have e1 : xAd args s (xTmV i) = t := by unfold xAd; rw [h1]
    rw [e1]
    exact ⟨h1, h2⟩
  have eE : ∀ i, i < 10 → (xTmE i).eval args s none [] s = some (.ref (xAd args s (xTmE i))) := fun i hi => xEx (hgv _ (xF_se i hi))
  have tA : xTmA.eval args s none [] s = some (.ref (xAd args s xTmA)) ∧ va_T (.object "ScanCompare$Setting") (xAd args s xTmA) 10 (fun j => .ref (xCad args s b j)) (fun q => s.heap.size ≤ q) s s.heap := by
    obtain ⟨t, h1, h2⟩ := va_Tof (A := fun q => s.heap.size ≤ q) (N := 10) (f := fun j => .ref (xCad args s b j)) (by decide) (hgv _ xF_aa.1) (va_eqt (hgv _ xF_aa.2.1)) (fun j hj => by
      rw [cE j hj]
      exact va_eqv (hgv _ (xF_aa.2.2 j hj)) (eE j hj)) hA
    have e1 : xAd args s xTmA = t := by unfold xAd; rw [h1]
    rw [e1]
    exact ⟨h1, h2⟩
  refine ⟨⟨by rw [cX]; exact hX, by rw [cX]; exact hb, Nat.le_refl _⟩, fun a k x v h => ?_, fun k x v h => ?_, fun a n f h => ?_, by rw [cA]; exact tA.2, fun a k h => ?_, fun k x a h => ?_, vx_Zqof (htb _ xF_ly.2.2.2.1) (htb _ xF_ly.2.2.2.2.2.2.2.2.1) (hgv _ xF_st.2.2.1) hA, vx_Zqof (htb _ xF_ly.2.2.2.2.1) (htb _ xF_ly.2.2.2.2.2.2.2.2.1) (hgv _ xF_st.2.2.2) hA, fun E nm h1 h2 h3 => va_Nc.of (hgv _ (xF_nc E h1 nm h2 h3))⟩
  · unfold xCF at h
    split at h
    · rename_i ha
      obtain ⟨j, h1, h2⟩ := Option.bind_eq_some_iff.mp h
      obtain ⟨hj, hlink⟩ := xCfS_ok k _ (xlook h1)
      have hw := hgv _ (xF_sf j hj a ha)
      have hv := xF_sv j hj a ha
      unfold xSw at hw
      rw [h2] at hw hv
      cases v with
      | int z =>
        exact ⟨_, _, _, .int z, hlink, by rw [cE a ha]; exact vk_OFof (eE a ha) (va_eqt hw) hA, rfl⟩
      | retAddr z =>
        have hz := of_decide_eq_true hv
        obtain ⟨i, rfl⟩ : ∃ i, z = i + 20 := ⟨z - 20, by omega⟩
        have hi : i < 57 := by omega
        refine ⟨_, _, _, .ref (xAd args s (xTmS i)), hlink, by rw [cE a ha]; exact vk_OFof (eE a ha) (va_eqv hw (by rw [Nat.add_sub_cancel]; exact eS i hi)) hA, ?_⟩
        rw [← cS i hi]
        exact xVR_k2 (by omega)
      | _ => exact nomatch hv
    · split at h
      · rename_i ha
        obtain ⟨j, h1, h2⟩ := Option.map_eq_some_iff.mp h
        obtain ⟨i, rfl⟩ : ∃ i, a = i + 20 := ⟨a - 20, by omega⟩
        have hi : i < 57 := by omega
        rcases xCfR_ok k _ (xlook h1) with ⟨hj, hlink⟩ | ⟨hj, hlink⟩
        · have hj : j = 0 := hj
          subst hj
          rw [if_pos rfl] at h2
          subst h2
          refine ⟨_, _, _, .ref (xAd args s (xTmV i)), hlink, by rw [cS i hi]; exact vk_OFof (eS i hi) (tV i hi).1 hA, ?_⟩
          rw [← cV i hi, show i + 20 + 100 = i + 120 by omega]
          exact xVR_k2 (by omega)
        · have hj : j = 1 := hj
          subst hj
          rw [if_neg (by decide)] at h2
          subst h2
          exact ⟨_, _, _, .int 0, hlink, by rw [cS i hi]; exact vk_OFof (eS i hi) (va_eqt (hgv _ (xF_co i hi))) hA, rfl⟩
      · cases h
  · rcases xStas_ok k _ (xlook h) with ⟨i, hi, h1, hlink⟩ | ⟨h1, hlink⟩ | ⟨h1, hlink⟩ | ⟨h1, hlink⟩
    · have h1 : v = .retAddr i := h1
      subst h1
      refine ⟨_, _, _, .ref (xAd args s (xTmE i)), .inl hlink, va_Zof (htb _ (xF_sy i hi)) (htb _ xF_ly.2.2.2.2.2.2.2.2.2) (eE i hi) hA, ?_⟩
      rw [← cE i hi]
      exact xVR_k2 (by omega)
    · have h1 : v = .retAddr 10 := h1
      subst h1
      refine ⟨_, _, _, .ref (xAd args s xTmA), hlink, va_Zof (htb _ xF_ly.1) (htb _ xF_ly.2.2.2.2.2.1) tA.1 hA, ?_⟩
      rw [← cA]
      exact xVR_k2 (by decide)
    · have h1 : v = .int 1 := h1
      subst h1
      exact ⟨_, _, _, .int 1, .inl hlink, va_Zof (htb _ xF_ly.2.1) (htb _ xF_ly.2.2.2.2.2.2.1) (va_eqt (hgv _ xF_st.1)) hA, rfl⟩
    · have h1 : v = .retAddr 998 := h1
      subst h1
      have hz := va_Zqof (A := fun q => s.heap.size ≤ q) (htb _ xF_ly.2.2.1) (htb _ xF_ly.2.2.2.2.2.2.2.1) (hgv _ xF_st.2.1) hA
      rcases hz with hz | ⟨t, hz⟩
      · exact ⟨_, _, _, .null, .inl hlink, hz, Or.inl rfl⟩
      · exact ⟨_, _, _, .ref t, .inl hlink, hz, Or.inr ⟨t, rfl⟩⟩
  · unfold xCB at h
    split at h
    · rename_i ha
      obtain ⟨l, h1, h2⟩ := Option.map_eq_some_iff.mp h
      obtain ⟨i, rfl⟩ : ∃ i, a = i + 120 := ⟨a - 120, by omega⟩
      rw [Nat.add_sub_cancel] at h1
      have hi : i < 57 := by
        unfold xBys at h1
        have h3 := (List.getElem?_eq_some_iff.mp h1).1
        simp only [List.length_cons, List.length_nil] at h3
        omega
      have hl : xSB i = l := by unfold xSB; rw [h1]; rfl
      cases h2
      rw [cV i hi, ← hl]
      exact (tV i hi).2
    · cases h
  · unfold xCcl at h
    split at h
    · rename_i ha
      cases h
      rw [cE a ha]
      exact va_Oof (hgv _ (xF_se a ha)) (eE a ha) hA
    · split at h
      · rename_i ha
        cases h
        obtain ⟨i, rfl⟩ : ∃ i, a = i + 20 := ⟨a - 20, by omega⟩
        have hi : i < 57 := by omega
        rw [cS i hi]
        exact va_Oof (hgv _ (xF_ex i hi)) (eS i hi) hA
      · cases h
  · obtain ⟨h1, h2, h3⟩ := xLdcs_k k _ (xlook h) a rfl
    obtain ⟨i, rfl⟩ : ∃ i, a = i + 20 := ⟨a - 20, by omega⟩
    have hi : i < 57 := by omega
    rw [Nat.add_sub_cancel] at h3
    have e := eS i hi
    obtain ⟨tx, ht⟩ := xF_sr i hi
    unfold xTmS at e
    rw [h3] at e ht
    refine ⟨tx, vk_R.of (A := args) (htb _ ht) ?_⟩
    rw [cS i hi]
    unfold xTmS
    rw [h3]
    exact e
end XLAW
