/-! CONSTRUCTORS: a heap as a function of its cells, with the open objects on top -/
def MF (k : Nat) (F : Nat → xE) : xH := (List.range k).map F
def Fu (F : Nat → xE) (a : Nat) (x : xE) : Nat → xE := fun i => if i = a then x else F i
theorem Fu_e {F : Nat → xE} {a : Nat} {x : xE} : Fu F a x a = x := if_pos rfl
theorem Fu_n {F : Nat → xE} {a b : Nat} {x : xE} (h : b ≠ a) : Fu F a x b = F b := if_neg h
theorem Fu_same {F : Nat → xE} {a : Nat} {x : xE} (h : F a = x) : Fu F a x = F := funext fun i => by
  unfold Fu
  by_cases c : i = a
  · rw [if_pos c, c, h]
  · rw [if_neg c]
theorem Fu_Fu {F : Nat → xE} {a : Nat} {x y : xE} : Fu (Fu F a x) a y = Fu F a y := funext fun i => by
  unfold Fu
  by_cases c : i = a
  · rw [if_pos c, if_pos c]
  · rw [if_neg c, if_neg c, if_neg c]
theorem Fu_sw {F : Nat → xE} {a b : Nat} {x y : xE} (h : a ≠ b) : Fu (Fu F a x) b y = Fu (Fu F b y) a x := funext fun i => by
  unfold Fu
  by_cases c : i = b
  · rw [if_pos c, if_neg (by omega), if_pos c]
  · rw [if_neg c, if_neg c]
theorem MF_len (k : Nat) (F : Nat → xE) : (MF k F).length = k := by unfold MF; rw [List.length_map, List.length_range]
theorem MF_get {k a : Nat} {F : Nat → xE} (h : a < k) : (MF k F)[a]? = some (F a) := by
  unfold MF
  rw [List.getElem?_map, List.getElem?_range h]
  rfl
theorem MF_app (k : Nat) (F : Nat → xE) (x : xE) : MF k F ++ [x] = MF (k + 1) (Fu F k x) := by
  unfold MF
  rw [List.range_succ, List.map_append, List.map_singleton, Fu_e]
  congr 1
  exact List.map_congr_left (fun i hi => (Fu_n (by have := List.mem_range.mp hi; omega)).symm)
theorem MF_set {k a : Nat} {F : Nat → xE} (h : a < k) (x : xE) : (MF k F).set a x = MF k (Fu F a x) := by
  have e := set_map F (Fu F a x) k a h (fun i hi => (Fu_n hi).symm)
  rw [Fu_e] at e
  exact e
section MFs
variable {k : Nat} {F : Nat → xE} {R : Option xO} {v : Option Value ⊕ String} {h2 : xH} {c2 s2 : Nat}
theorem f_na {kk q : Nat} {f : (Nat → Int32) ⊕ (Nat → Int64) ⊕ (Nat → UInt32) ⊕ (Nat → UInt64) ⊕ (Nat → Option Nat)} {mm : Int32} {T : Nat → xH → Option xO} (hm : mm = nI q) (hq : q ≤ 60000) (K : T k (MF (k + 1) (Fu F k (.inl (kk, q, f)))) = some (v, h2, c2, s2)) : xNa kk f mm (MF k F) T = some (v, h2, c2 + 1, s2 + q) := by
  subst hm
  unfold xNa
  rw [if_pos ⟨nI_pos (by omega), by rw [nI_clamp (by omega)]; exact hq⟩, nI_clamp (by omega), MF_len, MF_app, K]
  rfl
theorem f_nx {kk q : Nat} {f : (Nat → Int32) ⊕ (Nat → Int64) ⊕ (Nat → UInt32) ⊕ (Nat → UInt64) ⊕ (Nat → Option Nat)} {mm : Int32} {T : Nat → xH → Option xO} (hm : mm = nI q) (hq : q ≤ 60000) (hx : F k = .inl (kk, q, f)) (K : T k (MF (k + 1) F) = some (v, h2, c2, s2)) : xNa kk f mm (MF k F) T = some (v, h2, c2 + 1, s2 + q) := f_na hm hq (by rw [Fu_same hx]; exact K)
theorem f_no {c : Nat} {T : Nat → xH → Option xO} (K : T k (MF (k + 1) (Fu F k (.inr (c, xDef c)))) = some (v, h2, c2, s2)) : xNo c (MF k F) T = some (v, h2, c2 + 1, s2 + (xDef c).length) := by
  unfold xNo
  rw [MF_len, MF_app, K]
  rfl
theorem f_p0 {G : xH → Option xO} {a ci j kk : Nat} {fs : List Value} {w : Value} (ha : a < k) (hF : F a = .inr (ci, fs)) (hj : Nat.blt j fs.length = true) (hp : xPok true kk ci j w = true) (K : G (MF k (Fu F a (.inr (ci, fs.set j w)))) = R) : (xP true kk (MF k F) a ci j w).bind G = R := by
  have e : xP true kk (MF k F) a ci j w = some (MF k (Fu F a (.inr (ci, fs.set j w)))) := by
    unfold xP
    rw [MF_get ha, hF]
    (try dsimp only)
    rw [if_pos ⟨rfl, by simpa [Nat.blt_eq] using hj, hp⟩, MF_set ha]
  rw [e]
  exact K
theorem f_p {G : xH → Option xO} {a ci j kk : Nat} {fs : List Value} {w : Value} (ha : a < k) (hj : Nat.blt j fs.length = true) (hp : xPok true kk ci j w = true) (K : G (MF k (Fu F a (.inr (ci, fs.set j w)))) = R) : (xP true kk (MF k (Fu F a (.inr (ci, fs)))) a ci j w).bind G = R := f_p0 ha Fu_e hj hp (by rw [Fu_Fu]; exact K)
theorem f_q {G : xH → Option xO} {a b ci j kk : Nat} {fs : List Value} {w : Value} {y : xE} (ha : a < k) (ab : a ≠ b) (hj : Nat.blt j fs.length = true) (hp : xPok true kk ci j w = true) (K : G (MF k (Fu (Fu F a (.inr (ci, fs.set j w))) b y)) = R) : (xP true kk (MF k (Fu (Fu F a (.inr (ci, fs))) b y)) a ci j w).bind G = R := f_p0 ha (by rw [Fu_n ab, Fu_e]) hj hp (by rw [Fu_sw ab.symm, Fu_Fu]; exact K)
theorem f_gi {G : Int32 → Option xO} {a c j : Nat} {fs : List Value} {x : Int32} (ha : a < k) (hF : F a = .inr (c, fs)) (hj : fs[j]? = some (.int x)) (K : G x = R) : (xGi (MF k F) a c j).bind G = R := by
  have e : xGi (MF k F) a c j = some x := by
    unfold xGi xG
    rw [MF_get ha, hF]
    (try dsimp only)
    rw [if_pos rfl, hj]
  rw [e]
  exact K
theorem f_gr {G : Nat → Option xO} {a c j : Nat} {fs : List Value} {x : Nat} (ha : a < k) (hF : F a = .inr (c, fs)) (hj : fs[j]? = some (.ref x)) (K : G x = R) : (xGr (MF k F) a c j).bind G = R := by
  have e : xGr (MF k F) a c j = some x := by
    unfold xGr xG
    rw [MF_get ha, hF]
    (try dsimp only)
    rw [if_pos rfl, hj]
  rw [e]
  exact K
theorem f_wr {G : xH → Option xO} {b t q i w ci : Nat} {f f' : Nat → Option Nat} {gs : List Value} {x : Int32} (hx : x = nI i) (hb : b < k) (hw : w < k) (hF : Fu F b (.inl (t, q, .inr (.inr (.inr (.inr f))))) w = .inr (ci, gs)) (ht : xElm t = some ci) (hi : i < q) (hq : q ≤ 60000) (hf : va_up f i (some w) = f') (K : G (MF k (Fu F b (.inl (t, q, .inr (.inr (.inr (.inr f'))))))) = R) : (xWr (MF k (Fu F b (.inl (t, q, .inr (.inr (.inr (.inr f))))))) b x w).bind G = R := by
  subst hx
  have e : xWr (MF k (Fu F b (.inl (t, q, .inr (.inr (.inr (.inr f))))))) b (nI i) w = some (MF k (Fu F b (.inl (t, q, .inr (.inr (.inr (.inr f'))))))) := by
    unfold xWr
    rw [MF_get hb, MF_get hw, hF, Fu_e]
    (try dsimp only)
    rw [if_pos ⟨xin_nI hi (by omega), ht⟩, MF_set hb, Fu_Fu, nI_clamp (by omega), hf]
  rw [e]
  exact K
theorem f_wi {G : xH → Option xO} {b q i : Nat} {f f' : Nat → Int32} {w x : Int32} (hx : x = nI i) (hb : b < k) (hi : i < q) (hq : q ≤ 60000) (hf : upd f i w = f') (K : G (MF k (Fu F b (.inl (0, q, .inl f')))) = R) : (xWi (MF k (Fu F b (.inl (0, q, .inl f)))) b x w).bind G = R := by
  subst hx
  have e : xWi (MF k (Fu F b (.inl (0, q, .inl f)))) b (nI i) w = some (MF k (Fu F b (.inl (0, q, .inl f')))) := by
    unfold xWi
    rw [MF_get hb, Fu_e]
    exact (if_pos (xin_nI hi (by omega))).trans (by rw [MF_set hb, Fu_Fu, nI_clamp (by omega), hf])
  rw [e]
  exact K
theorem f_wc {G : xH → Option xO} {b q i : Nat} {f f' : Nat → Int32} {w x : Int32} (hx : x = nI i) (hb : b < k) (hi : i < q) (hq : q ≤ 60000) (hf : upd f i (vp_nar .char w) = f') (K : G (MF k (Fu F b (.inl (3, q, .inl f')))) = R) : (xWc (MF k (Fu F b (.inl (3, q, .inl f)))) b x w).bind G = R := by
  subst hx
  have e : xWc (MF k (Fu F b (.inl (3, q, .inl f)))) b (nI i) w = some (MF k (Fu F b (.inl (3, q, .inl f')))) := by
    unfold xWc
    rw [MF_get hb, Fu_e]
    exact (if_pos (xin_nI hi (by omega))).trans (by rw [MF_set hb, Fu_Fu, nI_clamp (by omega), hf])
  rw [e]
  exact K
theorem f_ret {a : Nat} {x : xE} {c s : Nat} (h : F a = x) : (some (.inl none, MF k (Fu F a x), c, s) : Option xO) = some (.inl none, MF k F, c, s) := by rw [Fu_same h]
end MFs
/-- references filled from the first on -/
def rkF (b k : Nat) : Nat → Option Nat := fun j => if j < k then some (b + 2 * j) else none
theorem rkF_0 (b : Nat) : (fun _ => none) = rkF b 0 := funext fun j => (if_neg (Nat.not_lt_zero j)).symm
theorem rkF_s (b k : Nat) : va_up (rkF b k) k (some (b + 2 * k)) = rkF b (k + 1) := funext fun j => by
  unfold va_up rkF
  by_cases c : j = k
  · rw [if_pos c, if_pos (by omega), c]
  · rw [if_neg c]
    by_cases d : j < k
    · rw [if_pos d, if_pos (by omega)]
    · rw [if_neg d, if_neg (by omega)]
/-- ints filled from the first on -/
def tkF (l : List Int32) (k : Nat) : Nat → Int32 := fun j => if j < k then l.getD j 0 else 0
theorem tkF_0 (l : List Int32) : (fun _ => 0) = tkF l 0 := funext fun j => (if_neg (Nat.not_lt_zero j)).symm
theorem tkF_s (l : List Int32) (k : Nat) {w : Int32} (h : w = l.getD k 0) : upd (tkF l k) k w = tkF l (k + 1) := funext fun j => by
  unfold upd tkF
  by_cases c : j = k
  · rw [if_pos c, if_pos (by omega), c, h]
  · rw [if_neg c]
    by_cases d : j < k
    · rw [if_pos d, if_pos (by omega)]
    · rw [if_neg d, if_neg (by omega)]
theorem tkF_e (l : List Int32) {k : Nat} (h : k = l.length) : tkF l k = fun j => l.getD j 0 := funext fun j => by
  unfold tkF
  by_cases c : j < k
  · rw [if_pos c]
  · rw [if_neg c, List.getD_eq_getElem?_getD, List.getElem?_eq_none_iff.mpr (by omega)]; rfl
section INI
variable {S : xS} {W H k : Nat} {F : Nat → xE}
theorem img_init (hW : W ≤ 64) (hH : H ≤ 64) (h0 : F k = .inr (4, [.int (nI W), .int (nI H), .long (wh W), .ref (k + 1)])) (h1 : F (k + 1) = .inl (1, H, .inr (.inl (fun _ => 0)))) : xM S mX4_init [.ref k, .int (nI W), .int (nI H)] (MF (k + 1) (Fu F k (.inr (4, xDef 4)))) = some (.inl none, MF (k + 1 + 1) F, 0 + 1, 0 + H) := by
  refine w_X4_init S _ _ _ _ _ ?_
  refine c_ift (by rw [MF_len]; omega) ?_
  refine f_p (by omega) rfl (xPok_int (by decide) (by rfl)) ?_
  refine f_p (by omega) rfl (xPok_int (by decide) (by rfl)) ?_
  refine c_qJ (below_s _ (by omega)) ?_
  refine f_p (by omega) rfl (xPok_long (by decide) (by rfl)) ?_
  refine f_nx rfl (by omega) (by rw [Fu_n (by omega)]; exact h1) ?_
  refine f_p (by omega) rfl (xPok_ref (by decide) (by rfl)) ?_
  exact f_ret h0
theorem prt_init {x : Int32} (hx : x = 0 ∨ x = 1) (h0 : F k = .inr (5, [.int x, .ref (k + 1), .int 0, .int 0, .int 0, .int 0, .int 0, .int 0, .null, .int 0, .int 0])) (h1 : F (k + 1) = .inl (1, 64, .inr (.inl (fun _ => 0)))) : xM S mX5_init [.ref k, .int x] (MF (k + 1) (Fu F k (.inr (5, xDef 5)))) = some (.inl none, MF (k + 1 + 1) F, 0 + 1, 0 + 64) := by
  refine w_X5_init S _ _ _ _ ?_
  refine c_ift (by rw [MF_len]; omega) ?_
  refine f_nx rfl (by omega) (by rw [Fu_n (by omega)]; exact h1) ?_
  refine f_p (by omega) rfl (xPok_ref (by decide) (by rfl)) ?_
  refine f_p (by omega) rfl (xPok_bool (by decide) (by rfl) hx) ?_
  exact f_ret h0
theorem hist_loop (hW : W ≤ 64) (hH : H ≤ 64) {o : List Value} (ho : o[0]? = some (.ref (k + 1))) (im : ∀ j, j < 8 → F (k + 3 + 2 * j) = .inr (4, [.int (nI W), .int (nI H), .long (wh W), .ref (k + 3 + 2 * j + 1)]) ∧ F (k + 3 + 2 * j + 1) = .inl (1, H, .inr (.inl (fun _ => 0)))) : ∀ i, i ≤ 8 → xden S mX3_init 23 [(0, .ref k), (1, .int (nI W)), (2, .int (nI H)), (3, .int (nI i))] [] (MF (k + 3 + 2 * i) (Fu (Fu F k (.inr (3, o))) (k + 1) (.inl (4, 8, .inr (.inr (.inr (.inr (rkF (k + 3) i)))))))) = some (.inl none, MF (k + 19) (Fu (Fu F k (.inr (3, o))) (k + 1) (.inl (4, 8, .inr (.inr (.inr (.inr (rkF (k + 3) 8))))))), (8 - i) * 2, (8 - i) * (4 + H)) := x_down 8 (fun i hi K => by
  obtain ⟨m0, m1⟩ := im i hi
  refine w_X3_init_23 S _ _ _ _ _ _ ?_
  refine c_iff (fun w => by have := (nI_leI (a := 8) (by omega) (by omega)).mp w; omega) ?_
  refine f_gr (by omega) (by rw [Fu_n (by omega), Fu_e]) ho ?_
  rw [show (8 - i) * 2 = (8 - (i + 1)) * 2 + 1 + 1 by omega, show (8 - i) * (4 + H) = (8 - (i + 1)) * (4 + H) + H + 4 by
    obtain ⟨r, hr⟩ : ∃ r, 8 - i = r + 1 := ⟨8 - i - 1, by omega⟩
    rw [show 8 - (i + 1) = r by omega, hr, Nat.succ_mul]
    omega]
  refine f_no ?_
  have e := img_init (S := S) (k := k + 3 + 2 * i) (F := Fu (Fu F k (.inr (3, o))) (k + 1) (.inl (4, 8, .inr (.inr (.inr (.inr (rkF (k + 3) i))))))) hW hH (by rw [Fu_n (by omega), Fu_n (by omega)]; exact m0) (by rw [Fu_n (by omega), Fu_n (by omega)]; exact m1)
  rw [Nat.zero_add, Nat.zero_add] at e
  refine k_C e ?_
  refine f_wr rfl (by omega) (by omega) (gs := [.int (nI W), .int (nI H), .long (wh W), .ref (k + 3 + 2 * i + 1)]) (by rw [Fu_n (by omega), Fu_n (by omega)]; exact m0) (by rfl) hi (by omega) (rkF_s (k + 3) i) ?_
  refine c_let ?_
  rw [nI_suc]
  exact K) (by
  refine w_X3_init_23 S _ _ _ _ _ _ ?_
  rw [Nat.sub_self, Nat.zero_mul, Nat.zero_mul]
  exact c_ift (by decide) rfl)
theorem hist_init (hW : W ≤ 64) (hH : H ≤ 64) (h0 : F k = .inr (3, [.ref (k + 1), .ref (k + 2), .int 0, .int 0])) (h1 : F (k + 1) = .inl (4, 8, .inr (.inr (.inr (.inr (rkF (k + 3) 8)))))) (hz : F (k + 2) = .inl (0, 8, .inl (fun _ => 0))) (im : ∀ j, j < 8 → F (k + 3 + 2 * j) = .inr (4, [.int (nI W), .int (nI H), .long (wh W), .ref (k + 3 + 2 * j + 1)]) ∧ F (k + 3 + 2 * j + 1) = .inl (1, H, .inr (.inl (fun _ => 0)))) : xM S mX3_init [.ref k, .int (nI W), .int (nI H)] (MF (k + 1) (Fu F k (.inr (3, xDef 3)))) = some (.inl none, MF (k + 19) F, (8 - 0) * 2 + 1 + 1, (8 - 0) * (4 + H) + 8 + 8) := by
  have L := hist_loop (S := S) (W := W) (H := H) (k := k) (F := F) hW hH (o := [.ref (k + 1), .ref (k + 2), .int 0, .int 0]) rfl im 0 (by omega)
  rw [Fu_same h0, Fu_same h1, ← rkF_0] at L
  refine w_X3_init S _ _ _ _ _ ?_
  refine c_ift (by rw [MF_len]; omega) ?_
  refine f_na rfl (by omega) ?_
  refine f_q (by omega) (by omega) rfl (xPok_ref (by decide) (by rfl)) ?_
  refine f_nx rfl (by omega) (by rw [Fu_n (by omega), Fu_n (by omega)]; exact hz) ?_
  refine f_q (by omega) (by omega) rfl (xPok_ref (by decide) (by rfl)) ?_
  have e : Fu F k (.inr (3, ((xDef 3).set 0 (.ref (k + 1))).set 1 (.ref (k + 1 + 1)))) = F := Fu_same h0
  rw [e]
  exact L
end INI
