/-! COMPARE: how long the report is; what stays -/
theorem nmT_k {v k : Nat} (h : v < 10 ^ k) (h1 : 1 ≤ k) (h7 : k ≤ 7) : (nmT (v : Int)).length ≤ k := by
  unfold nmT
  rw [if_neg (by omega), Int.natAbs_natCast, List.nil_append]
  have e := dgF_up h h1 (7 - k)
  rw [show k + (7 - k) = 7 by omega] at e
  rw [e]
  exact dgF_len v k
theorem bxC_lt {W H : Nat} {F : Nat → Int64} (hH : H ≤ 64) (o : okP W H F) : (bxC F).1 < 64 ∧ (bxC F).2.1 < 64 ∧ (bxC F).2.2.1 < 64 ∧ (bxC F).2.2.2 < 64 := by
  by_cases h : ∃ l t r b, isBox F l t r b
  · obtain ⟨l, t, r, b, h⟩ := h
    obtain ⟨k1, k2⟩ := isBox_le h
    obtain ⟨y, hy⟩ := h.2.2.1
    obtain ⟨x, hx⟩ := h.2.2.2.2
    have := lb_lt hy
    have := (o _ _ hx).2
    rw [bxC_eq h]
    show l < 64 ∧ t < 64 ∧ r < 64 ∧ b < 64
    omega
  · have e : bxC F = (0, 0, 0, 0) := by
      unfold bxC
      exact dif_neg (fun ⟨q, hq⟩ => h ⟨_, _, _, _, hq⟩)
    rw [e]
    show 0 < 64 ∧ 0 < 64 ∧ 0 < 64 ∧ 0 < 64
    omega
theorem rpB_len2 {W H : Nat} {F : Nat → Int64} (hH : H ≤ 64) (o : okP W H F) : (rpB F).length ≤ 5 := by
  obtain ⟨a1, a2, _, _⟩ := bxC_lt hH o
  have h1 := nmT_k (v := (bxC F).1) (k := 2) (by omega) (by omega) (by omega)
  have h2 := nmT_k (v := (bxC F).2.1) (k := 2) (by omega) (by omega) (by omega)
  unfold rpB
  rw [List.length_append, List.length_append]
  show _ + 1 + _ ≤ 5
  omega
theorem rpE_len2 {W H : Nat} {F : Nat → Int64} (hH : H ≤ 64) (o : okP W H F) {st : Int} (s2 : st ≤ 7) : (rpE F st).length ≤ 20 := by
  obtain ⟨_, _, _, _, _, _, _, _, _, _, _, _, _, h34, _, h36⟩ := xSB_len
  obtain ⟨a1, a2, a3, a4⟩ := bxC_lt hH o
  have h1 := nmT_k (v := wd F) (k := 2) (by unfold wd; omega) (by omega) (by omega)
  have h2 := nmT_k (v := ht F) (k := 2) (by unfold ht; omega) (by omega) (by omega)
  unfold rpE
  rw [List.length_append, List.length_append, List.length_append, List.length_append, List.length_append, h34]
  show 6 + (_ + 1 + _) + _ + 1 ≤ 20
  by_cases c : 0 ≤ st
  · have h3 := nmT_k (v := st.toNat) (k := 1) (by omega) (by omega) (by omega)
    rw [Int.toNat_of_nonneg c] at h3
    rw [if_pos c, List.length_append, h36]; omega
  · rw [if_neg c]
    show 6 + _ + 0 + 1 ≤ 20
    omega
section RL
variable {PF : Nat → Nat → Int64} {L : (Nat → Bool) × (Nat → Option Nat)} {hd : Bool} {St : stT} {cnt : Nat}
theorem rpL_len2 {W H : Nat} (hH : H ≤ 64) (o : ∀ p, okP W H (PF p)) (c7 : cnt ≤ 7) (p : Nat) : (rpL PF L St cnt p).length ≤ 50 := by
  obtain ⟨_, _, _, _, _, _, h27, h28, _, h30, h31, h32, h33, _, _, _⟩ := xSB_len
  have rg := stNo_rng St cnt (PF p)
  have e := rpE_len2 hH (o p) (st := stNo St cnt (PF p)) (by omega)
  have b := rpB_len2 hH (o p)
  have c := nmT_k (v := ctP (PF p)) (k := 4) (Nat.lt_of_le_of_lt (ctP_le _) (by decide)) (by omega) (by omega)
  have hh : (rpH PF L p).length ≤ 30 := by
    unfold rpH
    cases tgO L p with
    | none =>
      (try dsimp only)
      rw [List.length_append, List.length_append, List.length_append, h33]
      split
      · rw [h31]; omega
      · rw [h32]; omega
    | some j =>
      have b2 := rpB_len2 hH (o (2 * j + 1))
      (try dsimp only)
      rw [List.length_append, List.length_append, List.length_append, List.length_append, List.length_append, h27, h28, h30]
      omega
  unfold rpL
  rw [List.length_append]
  omega
theorem rpAll_len2 {W H : Nat} (hH : H ≤ 64) (o : ∀ p, okP W H (PF p)) (c7 : cnt ≤ 7) : ∀ p, (rpAll PF L hd St cnt p).length ≤ 50 * p := fun p => by
  induction p with
  | zero => exact Nat.le_refl _
  | succ p ih =>
    unfold rpAll
    rw [List.length_append]
    split
    · have := rpL_len2 (L := L) (St := St) hH o c7 p
      omega
    · show _ + 0 ≤ _
      omega
end RL
section GFR
variable {m m' : mM} {N : Nat} {o : Nat → Nat} {PF : Nat → Nat → Int64} {L : (Nat → Bool) × (Nat → Option Nat)} {hd : Bool} {St : stT} {cnt : Nat} {O A : Nat → Int64} {K : Nat → Nat → Bool}
theorem rgO_g (X : rgO m N o PF) (Q : fr K m m') (h : ∀ a j, a = 70 ∨ 147 ≤ a → K a j = false) : rgO m' N o PF := fun i hi => by
  obtain ⟨x1, x2, x3⟩ := X i hi
  exact ⟨(fr_r Q _ _ (h _ _ (Or.inl rfl))).trans x1, ptX_fr x2 Q (fun j _ _ => h _ _ (Or.inr (by omega))) (fun j => h _ _ (Or.inr (by omega))), ptX_fr x3 Q (fun j _ _ => h _ _ (Or.inr (by omega))) (fun j => h _ _ (Or.inr (by omega)))⟩
theorem paI_g (J : paI m N o L) (Q : fr K m m') (h : ∀ a j, 147 ≤ a → K a j = false) : paI m' N o L := ⟨fun i hi => (fr_r Q _ _ (h _ _ (by omega))).trans (J.1 i hi), fun j hj => by rw [fr_r Q _ _ (h _ _ (by omega))]; exact J.2 j hj⟩
theorem liC_g {z : Nat} (I : liC m o PF L hd St cnt O A z) (Q : fr K m m') (h : ∀ a j, a = 64 ∨ a = 71 ∨ 147 ≤ a → K a j = false) : liC m' o PF L hd St cnt O A z := ⟨(fr_i Q _ _ (h _ _ (Or.inl rfl))).trans I.1, fun q hq y => by
  obtain ⟨w1, w2, w3⟩ := I.2 q hq y
  have g147 : 147 ≤ pcl o q := by unfold pcl; omega
  exact ⟨(fr_r Q _ _ (h _ _ (Or.inr (Or.inl rfl)))).trans w1, (fr_i Q _ _ (h _ _ (Or.inr (Or.inr g147)))).trans w2, (fr_i Q _ _ (h _ _ (Or.inr (Or.inr g147)))).trans w3⟩⟩
theorem liM_g {z : Nat} (I : liM m PF L hd St cnt O A z) (Q : fr K m m') (h : ∀ a j, (141 ≤ a ∧ a ≤ 143) ∨ (a = 90 ∧ j = 79) → K a j = false) : liM m' PF L hd St cnt O A z := ⟨(fr_i Q _ _ (h _ _ (Or.inr ⟨rfl, rfl⟩))).trans I.1, fun q hq y => by
  obtain ⟨w1, w2, w3⟩ := I.2 q hq y
  exact ⟨(fr_i Q _ _ (h _ _ (Or.inl (by omega)))).trans w1, (fr_i Q _ _ (h _ _ (Or.inl (by omega)))).trans w2, (fr_i Q _ _ (h _ _ (Or.inl (by omega)))).trans w3⟩⟩
end GFR
section CFR
variable {m m' : mM} {W H n : Nat} {O T Al Ms Ad : Nat → Int64} {B noise lst : Nat} {od hd : Bool} {St : stT} {cnt : Nat} {dx dy sk : Int} {tu : Bool} {cc : Nat} {K : Nat → Nat → Bool}
theorem cmC_fr (X : cmC m W H n O T Al Ms Ad B noise lst od hd St cnt dx dy sk tu cc) (Q : fr K m m') (h : ∀ a j, (64 ≤ a ∧ a ≤ 66) ∨ a = 70 ∨ a = 71 ∨ a = 73 ∨ a = 82 ∨ a = 88 ∨ 147 ≤ a → K a j = false) : cmC m' W H n O T Al Ms Ad B noise lst od hd St cnt dx dy sk tu cc := by
  obtain ⟨x1, x2, x3, ⟨y1, y2, y3, y4⟩, x5, x6, ⟨z1, z2, z3, z4, z5⟩, x8, x9, x10, x11, x12⟩ := X
  have e64 : ∀ j, m'.1 64 j = m.1 64 j := fun j => fr_i Q _ _ (h _ _ (Or.inl (by omega)))
  have e82 : ∀ j, m'.1 82 j = m.1 82 j := fun j => fr_i Q _ _ (h _ _ (by omega))
  refine ⟨x1, (fr_L Q 73 (fun _ => h _ _ (by omega))).trans x2, (fr_L Q 88 (fun _ => h _ _ (by omega))).trans x3, ⟨(e64 8).trans y1, (e64 9).trans y2, (e64 10).trans y3, fun b hb => (fr_i Q _ _ (h _ _ (by omega))).trans (y4 b hb)⟩, fun b hb => (fr_i Q _ _ (h _ _ (by omega))).trans (x5 b hb), (e64 17).trans x6, ⟨(e82 6).trans z1, (e82 7).trans z2, (e82 8).trans z3, (e82 9).trans z4, (e82 10).trans z5⟩, fun q hq => ?_, fun i hi => ?_, rgO_g x10 Q (fun a j w => h a j (by omega)), paI_g x11 Q (fun a j w => h a j (by omega)), liC_g x12 Q (fun a j w => h a j (by omega))⟩
  · obtain ⟨g1, g2, g3, g4⟩ := x8 q hq
    exact ⟨(fr_i Q _ _ (h _ _ (by omega))).trans g1, (fr_i Q _ _ (h _ _ (by omega))).trans g2, (fr_i Q _ _ (h _ _ (by omega))).trans g3, (fr_i Q _ _ (h _ _ (by omega))).trans g4⟩
  · obtain ⟨g1, g2, g3⟩ := x9 i hi
    exact ⟨(fr_i Q _ _ (h _ _ (by omega))).trans g1, (fr_i Q _ _ (h _ _ (by omega))).trans g2, (fr_i Q _ _ (h _ _ (by omega))).trans g3⟩
theorem cmM_fr (hW : W ≤ 64) (hH : H ≤ 64) (c7 : cnt ≤ 7) (X : cmM m W H O T Al Ms Ad B noise lst od hd St cnt dx dy sk tu cc) (Q : fr K m m') (h : ∀ a j, (a = 106 ∧ j < 20000) ∨ a = 114 ∨ a = 118 ∨ (121 ≤ a ∧ a ≤ 123) ∨ (125 ≤ a ∧ a ≤ 129) ∨ (134 ≤ a ∧ a ≤ 139) ∨ (141 ≤ a ∧ a ≤ 143) ∨ (a = 90 ∧ (j = 25 ∨ (41 ≤ j ∧ j ≤ 45) ∨ (54 ≤ j ∧ j ≤ 56) ∨ j = 59 ∨ j = 79)) → K a j = false) : cmM m' W H O T Al Ms Ad B noise lst od hd St cnt dx dy sk tu cc := by
  obtain ⟨x1, x2, ⟨y1, y2, y3, y4⟩, x4, x5, ⟨z1, z2, z3, z4, z5⟩, x7, x8, x9, x10, x11⟩ := X
  have o90 : ∀ j, (j = 25 ∨ (41 ≤ j ∧ j ≤ 45) ∨ (54 ≤ j ∧ j ≤ 56) ∨ j = 59 ∨ j = 79) → m'.1 90 j = m.1 90 j := fun j w => fr_i Q _ _ (h _ _ (by omega))
  have tl := rpAll_len2 (W := W) (L := qA W H Ms Ad B noise od lst) (hd := hd) (St := St) hH (fun p => PFm_ok hW Ms Ad (qP W H Ms Ad B noise) B (qO W H Ms Ad B noise od) p) c7 (2 * qN W H Ms Ad B noise)
  have N128 := qN_le W H Ms Ad B noise
  have hl := hdT_len dx dy sk tu (fb_ct (liB (qF W H Ms Ad B noise od) (qA W H Ms Ad B noise od lst) hd St cnt) (2 * qN W H Ms Ad B noise))
  refine ⟨fun k hk => (fr_i Q _ _ (h _ _ (by omega))).trans (x1 k hk), fun k hk => (fr_i Q _ _ (h _ _ (by omega))).trans (x2 k hk), ⟨(o90 54 (by omega)).trans y1, (o90 55 (by omega)).trans y2, (o90 56 (by omega)).trans y3, fun j i hj hi => (fr_i Q _ _ (h _ _ (by omega))).trans (y4 j i hj hi)⟩, ofI_fr x4 Q (fun a j w => h a j (by omega)), (o90 59 (by omega)).trans x5, ⟨(o90 41 (by omega)).trans z1, (o90 42 (by omega)).trans z2, (o90 43 (by omega)).trans z3, (o90 44 (by omega)).trans z4, (o90 45 (by omega)).trans z5⟩, fun q hq => ?_, fun i hi => (fr_i Q _ _ (h _ _ (by omega))).trans (x8 i hi), ptK_fr x9 Q (fun a j h1 h2 => h a j (by omega)), liM_g x10 Q (fun a j w => h a j (by omega)), ⟨(o90 25 (by omega)).trans x11.1, fun i hi => (fr_i Q _ _ (h _ _ (Or.inl ⟨rfl, ?_⟩))).trans (x11.2 i hi)⟩⟩
  · obtain ⟨g1, g2, g3, g4⟩ := x7 q hq
    exact ⟨(fr_i Q _ _ (h _ _ (by omega))).trans g1, (fr_i Q _ _ (h _ _ (by omega))).trans g2, (fr_i Q _ _ (h _ _ (by omega))).trans g3, (fr_i Q _ _ (h _ _ (by omega))).trans g4⟩
  · rw [List.length_append] at hi
    have tl' : (rpAll (qF W H Ms Ad B noise od) (qA W H Ms Ad B noise od lst) hd St cnt (2 * qN W H Ms Ad B noise)).length ≤ 50 * (2 * qN W H Ms Ad B noise) := tl
    omega
end CFR
