/-! A COMPONENT GROWN ROW BY ROW -/
def dl (v : Int64) : Int64 := (v ||| (v <<< ((1 : Int32).toInt64 &&& 63))) ||| ((v.toUInt64 >>> ((1 : Int32).toInt64.toUInt64 &&& Int64.toUInt64 63)).toInt64)
theorem lb_dl (v : Int64) {i : Nat} (hi : i < 64) : lb (dl v) i = true ↔ lb v i = true ∨ (1 ≤ i ∧ lb v (i - 1) = true) ∨ lb v (i + 1) = true := by
  have e1 : lb (v <<< ((1 : Int32).toInt64 &&& 63)) i = (decide (1 ≤ i) && lb v (i - 1)) := lb_shl 1 (by decide) v hi
  have e2 : lb ((v.toUInt64 >>> ((1 : Int32).toInt64.toUInt64 &&& Int64.toUInt64 63)).toInt64) i = lb v (1 + i) := lb_ushr 1 (by decide) v i
  unfold dl
  rw [lb_or, lb_or, e1, e2, Nat.add_comm 1 i]
  simp only [Bool.or_eq_true, Bool.and_eq_true, decide_eq_true_eq]
  constructor
  · rintro ((h | h) | h)
    · exact Or.inl h
    · exact Or.inr (Or.inl h)
    · exact Or.inr (Or.inr h)
  · rintro (h | h | h)
    · exact Or.inl (Or.inl h)
    · exact Or.inl (Or.inr h)
    · exact Or.inr h
def wdP (near free r : Int64) : Prop := (∀ i, lb (dl near &&& free) i = true → lb r i = true) ∧ (∀ i, lb r i = true → lb free i = true) ∧ ∀ C : Nat → Prop, (∀ i, lb (dl near &&& free) i = true → C i) → (∀ i j, C i → i ≤ j + 1 → j ≤ i + 1 → lb free j = true → C j) → ∀ i, lb r i = true → C i
theorem wd_first (near free : Int64) : wdP near free (dl near &&& free) := ⟨fun _ h => h, fun i h => by rw [lb_and, Bool.and_eq_true] at h; exact h.2, fun C h _ i q => h i q⟩
theorem wd_next {near free v : Int64} (h : wdP near free v) : wdP near free (dl v &&& free) := by
  obtain ⟨h1, h2, h3⟩ := h
  refine ⟨fun i q => ?_, fun i q => ?_, fun C c s i q => ?_⟩
  · have := h1 i q
    have hi := lb_lt this
    rw [lb_and, Bool.and_eq_true]
    exact ⟨(lb_dl v hi).mpr (Or.inl this), h2 i this⟩
  · rw [lb_and, Bool.and_eq_true] at q
    exact q.2
  · have hi := lb_lt q
    rw [lb_and, Bool.and_eq_true] at q
    rcases (lb_dl v hi).mp q.1 with w | ⟨w1, w⟩ | w
    · exact h3 C c s i w
    · exact s (i - 1) i (h3 C c s _ w) (by omega) (by omega) q.2
    · exact s (i + 1) i (h3 C c s _ w) (by omega) (by omega) q.2
theorem lg_cmp_0 (x y : Int64) : lg_cmp x y = 0 ↔ x = y := lg_cmp_eq x y
theorem widened_s (S : xS) (h : xH) (near free : Int64) : ∃ r, xM S mX0_widened [.long near, .long free] h = some (.inl (some (.long r)), h, 0, 0) ∧ wdP near free r := by
  have L := x_lp (σ := Int64) (D := fun k v => xden S mX0_widened 6 [(2, .long free), (4, .long v), (6, .int (nI k))] [] h) (Inv := fun k v => k = 0 ∧ v = near ∨ wdP near free v) (Post := fun o => ∃ r, o = (.inl (some (.long r)), h, 0, 0) ∧ wdP near free r) 65
    (fun k hk v hv => ?_) (fun v hv => ?_) near (Or.inl ⟨rfl, rfl⟩)
  · obtain ⟨o, h1, r, h2, h3⟩ := L
    subst h2
    exact ⟨r, w_X0_widened S _ _ _ _ h1, h3⟩
  · (try dsimp only)
    have hn : wdP near free (dl v &&& free) := by
      rcases hv with ⟨_, rfl⟩ | hv
      · exact wd_first _ _
      · exact wd_next hv
    by_cases c : (dl v &&& free) = v
    · right
      refine ⟨_, w_X0_widened_6 S _ _ _ _ _ ?_, v, rfl, by rw [← c]; rw [c] at hn ⊢; exact hn⟩
      refine c_iff (by (first | assumption | omega | (simp (disch := omega) only [n_lit, nI_add, pk_mul, pk_sub, n_div, sub_dm, Int32.toInt_toInt64, nI_toInt, sI_ne, sI_eq, sI_2, sL_1, sL_ne, sL_eq, sL_3, sR_1, sR_2, sR_ne, sR_eq, aI_ne, aI_eq, aI_2, aL_1, aL_ne, aL_eq, aL_3, Nat.add_zero, Nat.zero_add, Nat.reduceAdd, Nat.reduceMul, Nat.reduceSub, Nat.mul_zero, Nat.zero_mul, nI_ltI, nI_leI, nI_eq, bz_0, bz_1, t_0, decide_eq_false_iff_not, decide_eq_true_eq, Bool.and_eq_true, Bool.and_eq_false_imp, Bool.not_eq_true, Bool.not_eq_false]; (try omega); done) | fail)) ?_
      refine c_let ?_
      refine c_iff (fun q => q ((lg_cmp_0 _ _).mpr c)) ?_
      rfl
    · left
      refine ⟨dl v &&& free, Or.inr hn, fun o ho => w_X0_widened_6 S _ _ _ _ _ ?_⟩
      refine c_iff (by (first | assumption | omega | (simp (disch := omega) only [n_lit, nI_add, pk_mul, pk_sub, n_div, sub_dm, Int32.toInt_toInt64, nI_toInt, sI_ne, sI_eq, sI_2, sL_1, sL_ne, sL_eq, sL_3, sR_1, sR_2, sR_ne, sR_eq, aI_ne, aI_eq, aI_2, aL_1, aL_ne, aL_eq, aL_3, Nat.add_zero, Nat.zero_add, Nat.reduceAdd, Nat.reduceMul, Nat.reduceSub, Nat.mul_zero, Nat.zero_mul, nI_ltI, nI_leI, nI_eq, bz_0, bz_1, t_0, decide_eq_false_iff_not, decide_eq_true_eq, Bool.and_eq_true, Bool.and_eq_false_imp, Bool.not_eq_true, Bool.not_eq_false]; (try omega); done) | fail)) ?_
      refine c_let ?_
      refine c_ift (fun q => c ((lg_cmp_0 _ _).mp q)) ?_
      repeat (first | (with_reducible refine c_let ?_) | ((with_reducible refine c_ob ?_ ?_ ?_); (focus (first | omega | assumption)); (focus (first | rfl | assumption))) | ((with_reducible show Option.bind (xGr _ _ _ _) _ = _); (first | refine c_gr (by first | omega | assumption) (by first | rfl | assumption) (by rfl) (by rfl) ?_)) | ((with_reducible show Option.bind (xGi _ _ _ _) _ = _); (first | refine c_gi (by first | omega | assumption) (by first | rfl | assumption) (by rfl) (by rfl) ?_ | refine c_gW (by first | omega | assumption) (by first | rfl | assumption) (by rfl) (by rfl) ?_ | refine c_gH (by first | omega | assumption) (by first | rfl | assumption) (by rfl) (by rfl) ?_ | refine c_gA (by first | omega | assumption) (by first | rfl | assumption) (by rfl) (by rfl) ?_ | refine c_gb (by first | omega | assumption) (by first | rfl | assumption) (by rfl) (by rfl) ?_)) | ((with_reducible show Option.bind (xRi _ _ _ _) _ = _); (first | refine c_ri (by first | omega | assumption) (by first | rfl | assumption) (by first | rfl | assumption) (by with_reducible rfl) (by first | omega | ((conv => rhs; whnf); first | omega | (show _ < OfNat.ofNat (α := Nat) _; omega))) (by first | omega | ((conv => lhs; whnf); first | omega | (show OfNat.ofNat (α := Nat) _ < _; omega))) (by decide) ?_)) | ((with_reducible show Option.bind (xRl _ _ _) _ = _); (first | refine c_rl (by first | omega | assumption) (by first | rfl | assumption) (by with_reducible rfl) (by first | omega | ((conv => rhs; whnf); first | omega | (show _ < OfNat.ofNat (α := Nat) _; omega))) (by first | omega | ((conv => lhs; whnf); first | omega | (show OfNat.ofNat (α := Nat) _ < _; omega))) ?_)) | ((with_reducible show Option.bind (xP _ _ _ _ _ _ (.int _)) _ = _); (first | refine c_pi (by first | omega | assumption) (by first | rfl | assumption) (by rfl) (by rfl) (xPok_int (by decide) (by rfl)) ?_)) | ((with_reducible show Option.bind (xWi _ _ _ _) _ = _); (first | refine c_wi (by first | omega | assumption) (by first | rfl | assumption) (by first | rfl | assumption) (by with_reducible rfl) (by first | omega | ((conv => rhs; whnf); first | omega | (show _ < OfNat.ofNat (α := Nat) _; omega))) (by first | omega | ((conv => lhs; whnf); first | omega | (show OfNat.ofNat (α := Nat) _ < _; omega))) ?_)) | ((with_reducible show Option.bind (xWl _ _ _ _) _ = _); (first | refine c_wl (by first | omega | assumption) (by first | rfl | assumption) (by with_reducible rfl) (by first | omega | ((conv => rhs; whnf); first | omega | (show _ < OfNat.ofNat (α := Nat) _; omega))) (by first | omega | ((conv => lhs; whnf); first | omega | (show OfNat.ofNat (α := Nat) _ < _; omega))) ?_)) | ((with_reducible show Option.bind (xRz _ _) _ = _); (first | refine c_rz (by first | omega | assumption) (by first | rfl | assumption) (by first | assumption | rfl) ?_)) | ((with_reducible show Option.bind (xGl _ _ _ _) _ = _); (first | refine c_gl (by first | omega | assumption) (by first | rfl | assumption) (by rfl) (by rfl) ?_ | refine c_gw (by first | omega | assumption) (by first | rfl | assumption) (by rfl) (by rfl) ?_)) | (with_reducible refine c_nz ?_) | ((with_reducible refine c_ift ?_ ?_); (focus (first | assumption | omega | (simp (disch := omega) only [n_lit, nI_add, pk_mul, pk_sub, n_div, sub_dm, Int32.toInt_toInt64, nI_toInt, sI_ne, sI_eq, sI_2, sL_1, sL_ne, sL_eq, sL_3, sR_1, sR_2, sR_ne, sR_eq, aI_ne, aI_eq, aI_2, aL_1, aL_ne, aL_eq, aL_3, Nat.add_zero, Nat.zero_add, Nat.reduceAdd, Nat.reduceMul, Nat.reduceSub, Nat.mul_zero, Nat.zero_mul, nI_ltI, nI_leI, nI_eq, bz_0, bz_1, t_0, decide_eq_false_iff_not, decide_eq_true_eq, Bool.and_eq_true, Bool.and_eq_false_imp, Bool.not_eq_true, Bool.not_eq_false]; (try omega); done) | fail))) | ((with_reducible refine c_iff ?_ ?_); (focus (first | assumption | omega | (simp (disch := omega) only [n_lit, nI_add, pk_mul, pk_sub, n_div, sub_dm, Int32.toInt_toInt64, nI_toInt, sI_ne, sI_eq, sI_2, sL_1, sL_ne, sL_eq, sL_3, sR_1, sR_2, sR_ne, sR_eq, aI_ne, aI_eq, aI_2, aL_1, aL_ne, aL_eq, aL_3, Nat.add_zero, Nat.zero_add, Nat.reduceAdd, Nat.reduceMul, Nat.reduceSub, Nat.mul_zero, Nat.zero_mul, nI_ltI, nI_leI, nI_eq, bz_0, bz_1, t_0, decide_eq_false_iff_not, decide_eq_true_eq, Bool.and_eq_true, Bool.and_eq_false_imp, Bool.not_eq_true, Bool.not_eq_false]; (try omega); done) | fail))) | simp (disch := omega) only [n_lit, nI_add, pk_mul, pk_sub, n_div, sub_dm, Int32.toInt_toInt64, nI_toInt, sI_ne, sI_eq, sI_2, sL_1, sL_ne, sL_eq, sL_3, sR_1, sR_2, sR_ne, sR_eq, aI_ne, aI_eq, aI_2, aL_1, aL_ne, aL_eq, aL_3, Nat.add_zero, Nat.zero_add, Nat.reduceAdd, Nat.reduceMul, Nat.reduceSub, Nat.mul_zero, Nat.zero_mul])
      exact ho
  · (try dsimp only)
    have hn : wdP near free v := by
      rcases hv with ⟨q, _⟩ | hv
      · exact absurd q (by decide)
      · exact hv
    refine ⟨_, w_X0_widened_6 S _ _ _ _ _ ?_, v, rfl, hn⟩
    refine c_ift (by (first | assumption | omega | (simp (disch := omega) only [n_lit, nI_add, pk_mul, pk_sub, n_div, sub_dm, Int32.toInt_toInt64, nI_toInt, sI_ne, sI_eq, sI_2, sL_1, sL_ne, sL_eq, sL_3, sR_1, sR_2, sR_ne, sR_eq, aI_ne, aI_eq, aI_2, aL_1, aL_ne, aL_eq, aL_3, Nat.add_zero, Nat.zero_add, Nat.reduceAdd, Nat.reduceMul, Nat.reduceSub, Nat.mul_zero, Nat.zero_mul, nI_ltI, nI_leI, nI_eq, bz_0, bz_1, t_0, decide_eq_false_iff_not, decide_eq_true_eq, Bool.and_eq_true, Bool.and_eq_false_imp, Bool.not_eq_true, Bool.not_eq_false]; (try omega); done) | fail)) ?_
    rfl
/-- the rows around one -/
def nr (B : Nat → Int64) (y : Nat) : Int64 := ((if y = 0 then 0 else B (y - 1)) ||| B y) ||| B (y + 1)
theorem lb_nr {B : Nat → Int64} {y i : Nat} : lb (nr B y) i = true ↔ ∃ z, z ≤ y + 1 ∧ y ≤ z + 1 ∧ lb (B z) i = true := by
  unfold nr
  rw [lb_or, lb_or]
  simp only [Bool.or_eq_true]
  constructor
  · rintro ((h | h) | h)
    · by_cases c : y = 0
      · rw [if_pos c, lb_0] at h; cases h
      · rw [if_neg c] at h; exact ⟨y - 1, by omega, by omega, h⟩
    · exact ⟨y, by omega, by omega, h⟩
    · exact ⟨y + 1, by omega, by omega, h⟩
  · rintro ⟨z, h1, h2, h⟩
    rcases (show z + 1 = y ∨ z = y ∨ z = y + 1 by omega) with c | c | c
    · left; left
      rw [if_neg (by omega), show y - 1 = z by omega]; exact h
    · left; right; rw [← c]; exact h
    · right; rw [← c]; exact h
theorem fb_ct_lt {p q : Nat → Bool} {n k : Nat} (h : ∀ i, i < n → p i = true → q i = true) (hk : k < n) (h1 : p k = false) (h2 : q k = true) : fb_ct p n < fb_ct q n := by
  obtain ⟨d, rfl⟩ : ∃ d, n = k + (1 + d) := ⟨n - k - 1, by omega⟩
  rw [fb_ct_split, fb_ct_split, fb_ct_split, fb_ct_split]
  have a : fb_ct p k ≤ fb_ct q k := fb_ct_sub fun i hi => h i (by omega)
  have b : fb_ct (fun i => p (k + (1 + i))) d ≤ fb_ct (fun i => q (k + (1 + i))) d := fb_ct_sub fun i hi => h _ (by omega)
  have c : fb_ct (fun i => p (k + i)) 1 = 0 := by
    show 0 + (if p (k + 0) = true then 1 else 0) = 0
    rw [Nat.add_zero, h1]; rfl
  have e : fb_ct (fun i => q (k + i)) 1 = 1 := by
    show 0 + (if q (k + 0) = true then 1 else 0) = 1
    rw [Nat.add_zero, h2]; rfl
  omega
/-- a part of a component, in rows t to b -/
def bJ (U B : Nat → Int64) (H t b k0 : Nat) : Prop := (∀ y i, lb (B y) i = true → lb (U y) i = true ∧ t ≤ y ∧ y ≤ b) ∧ (∀ j, px B j = true → cn nb (px U) k0 j) ∧ px B k0 = true ∧ t ≤ b ∧ b < H
/-- nothing more is reached in row y -/
def clR (U B : Nat → Int64) (y : Nat) : Prop := ∀ i, lb (dl (nr B y) &&& U y) i = true → lb (B y) i = true
section BJ
variable {U B : Nat → Int64} {H t b k0 y : Nat}
theorem bJ_in (J : bJ U B H t b k0) {r : Int64} (w : wdP (nr B y) (U y) r) : ∀ i, lb (B y) i = true → lb r i = true := fun i q => w.1 i (by
  rw [lb_and, Bool.and_eq_true]
  exact ⟨(lb_dl _ (lb_lt q)).mpr (Or.inl (lb_nr.mpr ⟨y, by omega, by omega, q⟩)), (J.1 y i q).1⟩)
theorem bJ_up (hH : H ≤ 64) (J : bJ U B H t b k0) (hy : y < H) (ht : t ≤ y) {r : Int64} (w : wdP (nr B y) (U y) r) (hr : r ≠ B y) : bJ U (vp_updL B y r) H t (max b y) k0 ∧ fb_ct (px B) 4096 < fb_ct (px (vp_updL B y r)) 4096 := by
  have inB := bJ_in J w
  have hsub : ∀ z i, lb (B z) i = true → lb (vp_updL B y r z) i = true := by
    intro z i q
    unfold vp_updL
    by_cases c : z = y
    · rw [if_pos c]; rw [c] at q; exact inB i q
    · rw [if_neg c]; exact q
  have hpx : ∀ j, px B j = true → px (vp_updL B y r) j = true := fun j q => hsub _ _ q
  have con : ∀ i, lb r i = true → cn nb (px U) k0 (64 * y + i) := by
    intro i q
    refine (w.2.2 (fun i => i < 64 ∧ cn nb (px U) k0 (64 * y + i)) (fun i q => ?_) (fun i j c h1 h2 q => ?_) i q).2
    · have hi := lb_lt q
      refine ⟨hi, ?_⟩
      rw [lb_and, Bool.and_eq_true] at q
      have pU : px U (64 * y + i) = true := by rw [px_xy U y hi]; exact q.2
      have go : ∀ x, x < 64 → x ≤ i + 1 → i ≤ x + 1 → lb (nr B y) x = true → cn nb (px U) k0 (64 * y + i) := by
        intro x hx h1 h2 q3
        obtain ⟨z, g1, g2, g3⟩ := lb_nr.mp q3
        have := J.2.1 (64 * z + x) (by rw [px_xy B z hx]; exact g3)
        refine cn_st this ?_ pU
        unfold nb
        omega
      rcases (lb_dl _ hi).mp q.1 with q3 | ⟨q2, q3⟩ | q3
      · exact go i hi (by omega) (by omega) q3
      · exact go (i - 1) (by omega) (by omega) (by omega) q3
      · exact go (i + 1) (lb_lt q3) (by omega) (by omega) q3
    · have hj := lb_lt q
      have hi := c.1
      refine ⟨hj, cn_st c.2 ?_ (by rw [px_xy U y hj]; exact q)⟩
      unfold nb
      omega
  refine ⟨⟨fun z i q => ?_, fun j q => ?_, hpx _ J.2.2.1, by have := J.2.2.2.1; omega, by have := J.2.2.2.2; omega⟩, ?_⟩
  · unfold vp_updL at q
    by_cases c : z = y
    · rw [if_pos c] at q
      subst c
      exact ⟨w.2.1 i q, ht, by omega⟩
    · rw [if_neg c] at q
      obtain ⟨q1, q2, q3⟩ := J.1 z i q
      exact ⟨q1, q2, by omega⟩
  · unfold px vp_updL at q
    by_cases c : j / 64 = y
    · rw [if_pos c] at q
      have := con _ q
      rwa [show 64 * y + j % 64 = j by omega] at this
    · rw [if_neg c] at q
      exact J.2.1 j q
  · have : ∃ i, i < 64 ∧ lb (B y) i = false ∧ lb r i = true := by
      refine Classical.byContradiction fun hno => hr (lb_ext fun i hi => ?_)
      cases h1 : lb (B y) i
      · cases h2 : lb r i
        · rfl
        · exact absurd ⟨i, hi, h1, h2⟩ hno
      · exact inB i h1
    obtain ⟨i, hi, h1, h2⟩ := this
    refine fb_ct_lt (k := 64 * y + i) (fun j _ q => hpx j q) (by omega) (by rw [px_xy B y hi]; exact h1) ?_
    rw [px_xy _ y hi]
    unfold vp_updL
    rw [if_pos rfl]
    exact h2
theorem bJ_cl {r : Int64} (w : wdP (nr B y) (U y) r) (hr : r = B y) : clR U B y := fun i q => by rw [← hr]; exact w.1 i q
/-- nothing more is reached: the component is whole -/
theorem bJ_end (J : bJ U B H t b k0) (hU : ∀ y x, lb (U y) x = true → t ≤ y ∧ y < H) (cl : ∀ y, t ≤ y → y < H → y ≤ b + 1 → clR U B y) : ∀ j, px B j = true ↔ cn nb (px U) k0 j := by
  intro j
  refine ⟨J.2.1 j, fun c => c (fun i => px B i = true) J.2.2.1 (fun i j pi a pj => ?_)⟩
  have hr := J.1 _ _ pi
  have hu := hU _ _ pj
  refine cl (j / 64) hu.1 hu.2 (by have := a.2.2.2; omega) (j % 64) ?_
  rw [lb_and, Bool.and_eq_true]
  refine ⟨(lb_dl _ (Nat.mod_lt _ (by decide))).mpr ?_, pj⟩
  have hx : i % 64 = j % 64 ∨ i % 64 + 1 = j % 64 ∨ i % 64 = j % 64 + 1 := by have := a.1; have := a.2.1; omega
  have nrx : ∀ x, x = i % 64 → lb (nr B (j / 64)) x = true := fun x e => lb_nr.mpr ⟨i / 64, a.2.2.1, a.2.2.2, by rw [e]; exact pi⟩
  rcases hx with hx | hx | hx
  · exact Or.inl (nrx _ hx.symm)
  · exact Or.inr (Or.inl ⟨by omega, nrx _ (by omega)⟩)
  · exact Or.inr (Or.inr (nrx _ hx.symm))
end BJ
