/-! REP: class and model stand for one state -/
def cmQ (a j : Nat) : Prop := (a = 0 ∧ j = 12) ∨ (64 ≤ a ∧ a ≤ 66) ∨ a = 70 ∨ a = 71 ∨ a = 73 ∨ a = 82 ∨ a = 88 ∨ 147 ≤ a ∨ (a = 106 ∧ j < 20000) ∨ a = 114 ∨ a = 118 ∨ (121 ≤ a ∧ a ≤ 123) ∨ (125 ≤ a ∧ a ≤ 129) ∨ (134 ≤ a ∧ a ≤ 139) ∨ (141 ≤ a ∧ a ≤ 143) ∨ (a = 90 ∧ (j = 25 ∨ j = 35 ∨ (41 ≤ j ∧ j ≤ 45) ∨ (54 ≤ j ∧ j ≤ 56) ∨ j = 59 ∨ j = 79))
/-- of what a comparison is made, apart from the memory -/
def cmK (W H : Nat) (O T Al Ms Ad : Nat → Int64) (B noise lst cnt : Nat) (dx dy sk : Int) : Prop :=
  (4 ≤ B ∧ B ≤ 16) ∧ okP W H O ∧ okP W H T ∧ okP W H Al ∧ okP W H Ms ∧ okP W H Ad ∧ noise ≤ 256 ∧ (1 ≤ lst ∧ lst ≤ 99) ∧ cnt ≤ 7 ∧ (-100 ≤ dx ∧ dx ≤ 100) ∧ (-100 ≤ dy ∧ dy ≤ 100) ∧ (-100 ≤ sk ∧ sk ≤ 100)
def CM (W H n : Nat) (m : mM) : Prop := (m.1 0 12 = 0 ∧ m.1 90 35 = 0 ∧ m.1 90 44 = bz false) ∨ (m.1 0 12 = 1 ∧ m.1 90 35 = 1 ∧ ∃ O T Al Ms Ad B noise lst od hd St cnt dx dy sk tu cc, cmK W H O T Al Ms Ad B noise lst cnt dx dy sk ∧ cmC m W H n O T Al Ms Ad B noise lst od hd St cnt dx dy sk tu cc ∧ cmM m W H O T Al Ms Ad B noise lst od hd St cnt dx dy sk tu cc)
theorem CM_fr {W H n : Nat} (hW : W ≤ 64) (hH : H ≤ 64) {m m' : mM} {K : Nat → Nat → Bool} (X : CM W H n m) (Q : fr K m m') (h : ∀ a j, cmQ a j → K a j = false) : CM W H n m' := by
  rcases X with ⟨x1, x2, x3⟩ | ⟨x1, x2, O, T, Al, Ms, Ad, B, noise, lst, od, hd, St, cnt, dx, dy, sk, tu, cc, k, c, mm⟩
  · exact Or.inl ⟨(fr_i Q 0 12 (h _ _ (by unfold cmQ; omega))).trans x1, (fr_i Q 90 35 (h _ _ (by unfold cmQ; omega))).trans x2, (fr_i Q 90 44 (h _ _ (by unfold cmQ; omega))).trans x3⟩
  · exact Or.inr ⟨(fr_i Q 0 12 (h _ _ (by unfold cmQ; omega))).trans x1, (fr_i Q 90 35 (h _ _ (by unfold cmQ; omega))).trans x2, O, T, Al, Ms, Ad, B, noise, lst, od, hd, St, cnt, dx, dy, sk, tu, cc, k, cmC_fr c Q (fun a j w => h a j (by unfold cmQ; omega)), cmM_fr hW hH k.2.2.2.2.2.2.2.2.1 mm Q (fun a j w => h a j (by unfold cmQ; omega))⟩
/-- the class's part of a state -/
def RC (W H n : Nat) (m : mM) (R : Nat → Nat → Int64) (l : hL) (T : Nat → Nat) (L : Nat) (Z : ((Nat → Nat) × Nat × (Nat → Nat))) (c : Nat) (K : Nat → Nat → Int32) (cnt : Nat) (St : stT) : Prop := pgC m W H R ∧ hsC m W H l ∧ bkO m W H ∧ txC m T L ∧ cfX m 34 2 35 36 Z ∧ mkC m c K ∧ cstM m cnt St ∧ imgC m W H ∧ fdI m n
/-- the model's part -/
def RM (m : mM) (R : Nat → Nat → Int64) (l : hL) (T : Nat → Nat) (L : Nat) (Z : ((Nat → Nat) × Nat × (Nat → Nat))) (c : Nat) (K : Nat → Nat → Int32) (cnt : Nat) (St : stT) : Prop := inkM m R ∧ paM m l ∧ txM m T L ∧ cfM m Z ∧ mkM m c K ∧ mstM m cnt St
def Rep (W H n : Nat) (m : mM) : Prop := ∃ R l T L Z c K cnt St, RC W H n m R l T L Z c K cnt St ∧ RM m R l T L Z c K cnt St ∧ cfO Z ∧ cfR Z ∧ CM W H n m
section RP1
variable {W H n : Nat} {m m' : mM} {R : Nat → Nat → Int64} {l : hL} {T : Nat → Nat} {L : Nat} {Z : ((Nat → Nat) × Nat × (Nat → Nat))} {c : Nat} {K : Nat → Nat → Int32} {cnt : Nat} {St : stT} {P : Nat → Nat → Bool}
theorem pgC_fr (X : pgC m W H R) (Q : fr P m m') (h : ∀ a j, 3 ≤ a → a < 10 → P a j = false) : pgC m' W H R := fun p hp => ⟨(fr_L Q _ (fun y => h _ _ (by omega) (by omega))).trans (X p hp).1, (X p hp).2⟩
theorem hsC_fr (X : hsC m W H l) (Q : fr P m m') (h : ∀ a j, 10 ≤ a → a < 29 → P a j = false) : hsC m' W H l := by
  obtain ⟨c, h1, h2, h3, h4, h5, h6⟩ := X
  refine ⟨c, h1, (fr_i Q _ _ (h _ _ (by omega) (by omega))).trans h2, (fr_i Q _ _ (h _ _ (by omega) (by omega))).trans h3, h4, fun s hs => ?_, fun i q hq => ?_⟩
  · rw [fr_L Q (14 + 2 * s) (fun y => h _ _ (by omega) (by omega))]; exact h5 s hs
  · obtain ⟨g1, g2, g3, g4⟩ := h6 i q hq
    have s8 : (c + i) % 8 < 8 := Nat.mod_lt _ (by omega)
    exact ⟨(fr_i Q _ _ (h _ _ (by omega) (by omega))).trans g1, g2, (fr_L Q _ (fun y => h _ _ (by omega) (by omega))).trans g3, g4⟩
theorem bkO_fr (X : bkO m W H) (Q : fr P m m') (h : ∀ a j, 30 ≤ a → a ≤ 31 → P a j = false) : bkO m' W H := by
  unfold bkO
  rw [fr_L Q 30 (fun y => h _ _ (by omega) (by omega)), fr_L Q 31 (fun y => h _ _ (by omega) (by omega))]
  exact X
theorem txC_fr (X : txC m T L) (Q : fr P m m') (h : ∀ a j, 32 ≤ a → a ≤ 33 → P a j = false) : txC m' T L := ⟨(fr_i Q _ _ (h _ _ (by omega) (by omega))).trans X.1, X.2.1, fun i hi => (fr_i Q _ _ (h _ _ (by omega) (by omega))).trans (X.2.2 i hi)⟩
theorem cfX_fr {o f a b : Nat} (X : cfX m o f a b Z) (Q : fr P m m') (h1 : P o f = false) (h2 : ∀ j, P a j = false) (h3 : ∀ j, P b j = false) : cfX m' o f a b Z := ⟨fun i hi => (fr_i Q _ _ (h2 _)).trans (X.1 i hi), (fr_i Q _ _ h1).trans X.2.1, fun i hi => (fr_i Q _ _ (h3 _)).trans (X.2.2 i hi)⟩
theorem mkC_fr (X : mkC m c K) (Q : fr P m m') (h1 : P 0 8 = false) (h : ∀ a j, 40 ≤ a → a < 46 → P a j = false) : mkC m' c K := ⟨(fr_i Q _ _ h1).trans X.1, X.2.1, fun i hi j hj => (fr_i Q _ _ (h _ _ (by omega) (by have := X.2.1; omega))).trans (X.2.2 i hi j hj)⟩
theorem mkM_fr (X : mkM m c K) (Q : fr P m m') (h1 : P 90 30 = false) (h : ∀ a j, 107 ≤ a → a < 111 → P a j = false) : mkM m' c K := ⟨(fr_i Q _ _ h1).trans X.1, fun i hi => by
  obtain ⟨g1, g2, g3, g4⟩ := X.2 i hi
  exact ⟨(fr_i Q _ _ (h _ _ (by omega) (by omega))).trans g1, (fr_i Q _ _ (h _ _ (by omega) (by omega))).trans g2, (fr_i Q _ _ (h _ _ (by omega) (by omega))).trans g3, (fr_i Q _ _ (h _ _ (by omega) (by omega))).trans g4⟩⟩
theorem imgC_fr (X : imgC m W H) (Q : fr P m m') (h : ∀ a j, a = 47 ∨ (72 ≤ a ∧ a ≤ 88) → P a j = false) : imgC m' W H := by
  unfold imgC
  rw [fr_L Q 47 (fun _ => h _ _ (by omega)), fr_L Q 73 (fun _ => h _ _ (by omega)), fr_L Q 75 (fun _ => h _ _ (by omega)), fr_L Q 77 (fun _ => h _ _ (by omega)), fr_L Q 79 (fun _ => h _ _ (by omega)), fr_L Q 81 (fun _ => h _ _ (by omega)), fr_L Q 86 (fun _ => h _ _ (by omega)), fr_L Q 88 (fun _ => h _ _ (by omega))]
  exact X
theorem fdI_fr (X : fdI m n) (Q : fr P m m') (h : ∀ j, P 69 j = false) : fdI m' n := ⟨X.1, fun r hr => (fr_r Q _ _ (h r)).trans (X.2.1 r hr), fun r h1 h2 => (fr_r Q _ _ (h r)).trans (X.2.2 r h1 h2)⟩
theorem RC_fr (X : RC W H n m R l T L Z c K cnt St) (Q : fr P m m') (h : ∀ a j, a < 90 → P a j = false) : RC W H n m' R l T L Z c K cnt St := by
  obtain ⟨x1, x2, x3, x4, x5, x6, x7, x8, x9⟩ := X
  exact ⟨pgC_fr x1 Q (fun a j _ _ => h a j (by omega)), hsC_fr x2 Q (fun a j _ _ => h a j (by omega)), bkO_fr x3 Q (fun a j _ _ => h a j (by omega)), txC_fr x4 Q (fun a j _ _ => h a j (by omega)), cfX_fr x5 Q (h _ _ (by omega)) (fun j => h _ _ (by omega)) (fun j => h _ _ (by omega)), mkC_fr x6 Q (h _ _ (by omega)) (fun a j _ _ => h a j (by omega)), cstM_fr x7 Q (fun a j _ _ => h a j (by omega)), imgC_fr x8 Q (fun a j _ => h a j (by omega)), fdI_fr x9 Q (fun j => h _ _ (by omega))⟩
theorem RM_fr (X : RM m R l T L Z c K cnt St) (Q : fr P m m') (h : ∀ a j, (91 ≤ a ∧ a ≤ 113) ∨ (a = 90 ∧ (j = 6 ∨ j = 13 ∨ j = 16 ∨ j = 30 ∨ j = 34)) → P a j = false) : RM m' R l T L Z c K cnt St := by
  obtain ⟨x1, x2, x3, x4, x5, x6⟩ := X
  exact ⟨inkM_fr x1 Q (fun j => h _ _ (by omega)), paM_fr x2 Q (fun a j w => h a j (by omega)), txM_fr x3 Q (fun a j w => h a j (by omega)), cfX_fr x4 Q (h _ _ (by omega)) (fun j => h _ _ (by omega)) (fun j => h _ _ (by omega)), mkM_fr x5 Q (h _ _ (by omega)) (fun a j _ _ => h a j (by omega)), mstM_fr x6 Q (fun a j w => h a j (by omega))⟩
end RP1
