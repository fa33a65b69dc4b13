/-! CONSTRUCTORS: the model's arrays (made by program) -/
section INM
variable {S : xS} {W H : Nat} {v : Option Value ⊕ String} {h2 : xH} {c2 s2 : Nat} {x y : Int32}
/-- the fields of the model written by its constructor, in their order -/
def flT : List (Nat × Nat) := [(3, 91), (4, 92), (5, 93), (7, 94), (8, 95), (9, 96), (12, 97), (14, 98), (15, 99), (17, 100), (18, 101), (19, 102), (20, 103), (21, 104), (22, 105), (24, 106), (26, 107), (27, 108), (28, 109), (29, 110), (31, 111), (32, 112), (33, 113), (36, 114), (37, 115), (38, 116), (39, 117), (40, 118), (46, 119), (47, 120), (52, 121), (53, 122), (57, 123), (58, 124), (60, 125), (61, 126), (62, 127), (63, 128), (64, 129), (65, 130), (66, 131), (67, 132), (68, 133), (69, 134), (70, 135), (71, 136), (72, 137), (73, 138), (74, 139), (75, 140), (76, 141), (77, 142), (78, 143), (80, 144)]
def fl (q : Nat) : List Value := (flT.take q).foldl (fun l p => l.set p.1 (.ref p.2)) (xDef 12)
theorem fl_len (q : Nat) : (fl q).length = 82 := by
  have key : ∀ (t : List (Nat × Nat)) (l : List Value), l.length = 82 → (t.foldl (fun l p => l.set p.1 (.ref p.2)) l).length = 82 := by
    intro t
    induction t with
    | nil => intro l h; exact h
    | cons a t ih => intro l h; exact ih _ (by rw [List.length_set]; exact h)
  exact key _ _ rfl
theorem fl_s {q j w : Nat} (h : flT[q]? = some (j, w)) : (fl q).set j (.ref w) = fl (q + 1) := by
  unfold fl
  rw [List.take_add_one, h, List.foldl_append]
  rfl
def z98 : xE := .inl (0, 10, .inl (fun _ => 0))
theorem G0_i {a l k : Nat} (hk : eK a = (k + 1, l)) (hl : l ≠ 0) (k4 : k = 0 ∨ k = 2) (hc : eCc a = false) (h1 : a ≠ 35) (h2 : a ≠ 98) (h3 : a ≠ 64) : G0 W H a = .inl (k, l, .inl (fun _ => 0)) := by
  have e1 : eL H a = l := by unfold eL; rw [hk]; exact if_neg hl
  have e2 : m0.1 a = fun _ => 0 := (if_neg h1).trans ((if_neg h2).trans (if_neg h3))
  have e3 : eA m0 a k = .inl (fun _ => 0) := by
    unfold eA
    rw [if_neg (by omega), if_pos (by omega)]
    unfold eC
    rw [if_neg (by rw [hc]; decide), e2]
  show eX W H m0 a = _
  rw [eX_a hk, e1, e3]
section MFm
variable {k : Nat} {F : Nat → xE} {R : Option xO} {v : Option Value ⊕ String} {h2 : xH} {c2 s2 : Nat}
theorem f_m {G : xH → Option xO} {j w q : Nat} (hq : q < 60) (ha : 90 < k) (e : flT[q]? = some (j, w)) (hj : j < 82) (hp : xPok true 12 12 j (.ref w) = true) (K : G (MF k (Fu F 90 (.inr (12, fl (q + 1))))) = R) : (xP true 12 (MF k (Fu F 90 (.inr (12, fl q)))) 90 12 j (.ref w)).bind G = R := f_p ha (by rw [fl_len]; simpa [Nat.blt_eq] using hj) hp (by rw [fl_s e]; exact K)
theorem f_nt {kk q : Nat} {f f' : (Nat → Int32) ⊕ (Nat → Int64) ⊕ (Nat → UInt32) ⊕ (Nat → UInt64) ⊕ (Nat → Option Nat)} {mm : Int32} {T : Nat → xH → Option xO} (hm : mm = nI q) (hq : q ≤ 60000) (hf : f = f') (K : T k (MF (k + 1) (Fu F k (.inl (kk, q, f')))) = some (v, h2, c2, s2)) : xNa kk f mm (MF k F) T = some (v, h2, c2 + 1, s2 + q) := by
  subst hf
  exact f_na hm hq K
theorem f_wix {G : xH → Option xO} {b q i : Nat} {f : Nat → Int32} {w x : Int32} (hx : x = nI i) (hb : b < k) (hi : i < q) (hq : q ≤ 60000) (hf : F b = .inl (0, q, .inl (upd f i w))) (K : G (MF k F) = R) : (xWi (MF k (Fu F b (.inl (0, q, .inl f)))) b x w).bind G = R := f_wi hx hb hi hq rfl (by rw [Fu_same hf]; exact K)
theorem f_wcx {G : xH → Option xO} {b q i : Nat} {f : Nat → Int32} {w x : Int32} (hx : x = nI i) (hb : b < k) (hi : i < q) (hq : q ≤ 60000) (hf : F b = .inl (3, q, .inl (upd f i (vp_nar .char w)))) (K : G (MF k F) = R) : (xWc (MF k (Fu F b (.inl (3, q, .inl f)))) b x w).bind G = R := f_wc hx hb hi hq rfl (by rw [Fu_same hf]; exact K)
end MFm
theorem c100_e : (.inl (3, 62, .inl (upd (tkF c100 61) 61 (vp_nar .char 59))) : xE) = G0 W H 100 := by rw [tkF_s c100 61 (w := vp_nar .char 59) rfl, tkF_e c100 (k := 61 + 1) rfl]; rfl
theorem c101_e : (.inl (3, 30, .inl (upd (tkF c101 29) 29 (vp_nar .char 59))) : xE) = G0 W H 101 := by rw [tkF_s c101 29 (w := vp_nar .char 59) rfl, tkF_e c101 (k := 29 + 1) rfl]; rfl
theorem c102_e : (.inl (0, 10, .inl (upd (tkF c102 9) 9 (0))) : xE) = G0 W H 102 := by rw [tkF_s c102 9 (w := 0) rfl, tkF_e c102 (k := 9 + 1) rfl]; rfl
theorem c103_e : (.inl (0, 10, .inl (upd (tkF c103 9) 9 (1))) : xE) = G0 W H 103 := by rw [tkF_s c103 9 (w := 1) rfl, tkF_e c103 (k := 9 + 1) rfl]; rfl
theorem c145_e : (.inl (3, 85, .inl (upd (tkF c145 84) 84 (vp_nar .char 59))) : xE) = G0 W H 145 := by rw [tkF_s c145 84 (w := vp_nar .char 59) rfl, tkF_e c145 (k := 84 + 1) rfl]; rfl
theorem mi_init (K : xden S mX13_init 47 [(0, .ref 90), (1, .int x), (2, .int y)] [] (MF 96 (Fu (Fu (G0 W H) 98 z98) 90 (.inr (12, fl 5)))) = some (v, h2, c2, s2)) : xM S mX13_init [.ref 90, .int x, .int y] (MF 91 (Fu (Fu (G0 W H) 98 z98) 90 (.inr (12, xDef 12)))) = some (v, h2, c2 + 1 + 1 + 1 + 1 + 1, s2 + 4096 + 4096 + 8 + 32768 + 16384) := by
  refine w_X13_init S _ _ _ _ _ ?_
  refine c_ift (by rw [MF_len]; decide) ?_
  refine f_nx (s2 := s2 + 4096 + 4096 + 8 + 32768) (q := 16384) rfl (by decide) ((Fu_n (by decide)).trans ((Fu_n (by decide)).trans (G0_i (by rfl) (by omega) (by decide) (by rfl) (by decide) (by decide) (by decide)))) ?_
  refine f_m (q := 0) (by decide) (by decide) rfl (by decide) (xPok_ref (by decide) (by rfl)) ?_
  refine f_nx (s2 := s2 + 4096 + 4096 + 8) (q := 32768) rfl (by decide) ((Fu_n (by decide)).trans ((Fu_n (by decide)).trans (G0_i (by rfl) (by omega) (by decide) (by rfl) (by decide) (by decide) (by decide)))) ?_
  refine f_m (q := 1) (by decide) (by decide) rfl (by decide) (xPok_ref (by decide) (by rfl)) ?_
  refine f_nx (s2 := s2 + 4096 + 4096) (q := 8) rfl (by decide) ((Fu_n (by decide)).trans ((Fu_n (by decide)).trans (G0_i (by rfl) (by omega) (by decide) (by rfl) (by decide) (by decide) (by decide)))) ?_
  refine f_m (q := 2) (by decide) (by decide) rfl (by decide) (xPok_ref (by decide) (by rfl)) ?_
  refine f_nx (s2 := s2 + 4096) (q := 4096) rfl (by decide) ((Fu_n (by decide)).trans ((Fu_n (by decide)).trans (G0_i (by rfl) (by omega) (by decide) (by rfl) (by decide) (by decide) (by decide)))) ?_
  refine f_m (q := 3) (by decide) (by decide) rfl (by decide) (xPok_ref (by decide) (by rfl)) ?_
  refine f_nx (s2 := s2) (q := 4096) rfl (by decide) ((Fu_n (by decide)).trans ((Fu_n (by decide)).trans (G0_i (by rfl) (by omega) (by decide) (by rfl) (by decide) (by decide) (by decide)))) ?_
  refine f_m (q := 4) (by decide) (by decide) rfl (by decide) (xPok_ref (by decide) (by rfl)) ?_
  exact K
theorem mi_47 (K : xden S mX13_init 90 [(0, .ref 90), (1, .int x), (2, .int y)] [.ref 100, .ref 90] (MF 101 (Fu (Fu (Fu (G0 W H) 98 z98) 90 (.inr (12, fl 9))) 100 (.inl (3, 62, .inl (tkF c100 1))))) = some (v, h2, c2, s2)) : xden S mX13_init 47 [(0, .ref 90), (1, .int x), (2, .int y)] [] (MF 96 (Fu (Fu (G0 W H) 98 z98) 90 (.inr (12, fl 5)))) = some (v, h2, c2 + 1 + 1 + 1 + 1 + 1, s2 + 62 + 10 + 10 + 80 + 4096) := by
  refine w_X13_init_47 S _ _ _ _ _ ?_
  refine f_nx (s2 := s2 + 62 + 10 + 10 + 80) (q := 4096) rfl (by decide) ((Fu_n (by decide)).trans ((Fu_n (by decide)).trans (G0_i (by rfl) (by omega) (by decide) (by rfl) (by decide) (by decide) (by decide)))) ?_
  refine f_m (q := 5) (by decide) (by decide) rfl (by decide) (xPok_ref (by decide) (by rfl)) ?_
  refine f_nx (s2 := s2 + 62 + 10 + 10) (q := 80) rfl (by decide) ((Fu_n (by decide)).trans ((Fu_n (by decide)).trans (G0_i (by rfl) (by omega) (by decide) (by rfl) (by decide) (by decide) (by decide)))) ?_
  refine f_m (q := 6) (by decide) (by decide) rfl (by decide) (xPok_ref (by decide) (by rfl)) ?_
  refine f_nx (s2 := s2 + 62 + 10) (q := 10) rfl (by decide) ((Fu_n (by decide)).trans Fu_e) ?_
  refine f_m (q := 7) (by decide) (by decide) rfl (by decide) (xPok_ref (by decide) (by rfl)) ?_
  refine f_nx (s2 := s2 + 62) (q := 10) rfl (by decide) ((Fu_n (by decide)).trans ((Fu_n (by decide)).trans (G0_i (by rfl) (by omega) (by decide) (by rfl) (by decide) (by decide) (by decide)))) ?_
  refine f_m (q := 8) (by decide) (by decide) rfl (by decide) (xPok_ref (by decide) (by rfl)) ?_
  refine f_nt (s2 := s2) (q := 62) rfl (by decide) (congrArg Sum.inl (tkF_0 c100)) ?_
  refine f_wc (q := 62) rfl (by decide) (by decide) (by decide) (tkF_s c100 0 rfl) ?_
  exact K
theorem mi_90 (K : xden S mX13_init 115 [(0, .ref 90), (1, .int x), (2, .int y)] [.ref 100, .ref 90] (MF 101 (Fu (Fu (Fu (G0 W H) 98 z98) 90 (.inr (12, fl 9))) 100 (.inl (3, 62, .inl (tkF c100 6))))) = some (v, h2, c2, s2)) : xden S mX13_init 90 [(0, .ref 90), (1, .int x), (2, .int y)] [.ref 100, .ref 90] (MF 101 (Fu (Fu (Fu (G0 W H) 98 z98) 90 (.inr (12, fl 9))) 100 (.inl (3, 62, .inl (tkF c100 1))))) = some (v, h2, c2, s2) := by
  refine w_X13_init_90 S _ _ _ _ _ _ _ ?_
  refine f_wc (q := 62) rfl (by decide) (by decide) (by decide) (tkF_s c100 1 rfl) ?_
  refine f_wc (q := 62) rfl (by decide) (by decide) (by decide) (tkF_s c100 2 rfl) ?_
  refine f_wc (q := 62) rfl (by decide) (by decide) (by decide) (tkF_s c100 3 rfl) ?_
  refine f_wc (q := 62) rfl (by decide) (by decide) (by decide) (tkF_s c100 4 rfl) ?_
  refine f_wc (q := 62) rfl (by decide) (by decide) (by decide) (tkF_s c100 5 rfl) ?_
  exact K
theorem mi_115 (K : xden S mX13_init 145 [(0, .ref 90), (1, .int x), (2, .int y)] [.ref 100, .ref 90] (MF 101 (Fu (Fu (Fu (G0 W H) 98 z98) 90 (.inr (12, fl 9))) 100 (.inl (3, 62, .inl (tkF c100 11))))) = some (v, h2, c2, s2)) : xden S mX13_init 115 [(0, .ref 90), (1, .int x), (2, .int y)] [.ref 100, .ref 90] (MF 101 (Fu (Fu (Fu (G0 W H) 98 z98) 90 (.inr (12, fl 9))) 100 (.inl (3, 62, .inl (tkF c100 6))))) = some (v, h2, c2, s2) := by
  refine w_X13_init_115 S _ _ _ _ _ _ _ ?_
  refine f_wc (q := 62) rfl (by decide) (by decide) (by decide) (tkF_s c100 6 rfl) ?_
  refine f_wc (q := 62) rfl (by decide) (by decide) (by decide) (tkF_s c100 7 rfl) ?_
  refine f_wc (q := 62) rfl (by decide) (by decide) (by decide) (tkF_s c100 8 rfl) ?_
  refine f_wc (q := 62) rfl (by decide) (by decide) (by decide) (tkF_s c100 9 rfl) ?_
  refine f_wc (q := 62) rfl (by decide) (by decide) (by decide) (tkF_s c100 10 rfl) ?_
  exact K
theorem mi_145 (K : xden S mX13_init 175 [(0, .ref 90), (1, .int x), (2, .int y)] [.ref 100, .ref 90] (MF 101 (Fu (Fu (Fu (G0 W H) 98 z98) 90 (.inr (12, fl 9))) 100 (.inl (3, 62, .inl (tkF c100 16))))) = some (v, h2, c2, s2)) : xden S mX13_init 145 [(0, .ref 90), (1, .int x), (2, .int y)] [.ref 100, .ref 90] (MF 101 (Fu (Fu (Fu (G0 W H) 98 z98) 90 (.inr (12, fl 9))) 100 (.inl (3, 62, .inl (tkF c100 11))))) = some (v, h2, c2, s2) := by
  refine w_X13_init_145 S _ _ _ _ _ _ _ ?_
  refine f_wc (q := 62) rfl (by decide) (by decide) (by decide) (tkF_s c100 11 rfl) ?_
  refine f_wc (q := 62) rfl (by decide) (by decide) (by decide) (tkF_s c100 12 rfl) ?_
  refine f_wc (q := 62) rfl (by decide) (by decide) (by decide) (tkF_s c100 13 rfl) ?_
  refine f_wc (q := 62) rfl (by decide) (by decide) (by decide) (tkF_s c100 14 rfl) ?_
  refine f_wc (q := 62) rfl (by decide) (by decide) (by decide) (tkF_s c100 15 rfl) ?_
  exact K
theorem mi_175 (K : xden S mX13_init 205 [(0, .ref 90), (1, .int x), (2, .int y)] [.ref 100, .ref 90] (MF 101 (Fu (Fu (Fu (G0 W H) 98 z98) 90 (.inr (12, fl 9))) 100 (.inl (3, 62, .inl (tkF c100 21))))) = some (v, h2, c2, s2)) : xden S mX13_init 175 [(0, .ref 90), (1, .int x), (2, .int y)] [.ref 100, .ref 90] (MF 101 (Fu (Fu (Fu (G0 W H) 98 z98) 90 (.inr (12, fl 9))) 100 (.inl (3, 62, .inl (tkF c100 16))))) = some (v, h2, c2, s2) := by
  refine w_X13_init_175 S _ _ _ _ _ _ _ ?_
  refine f_wc (q := 62) rfl (by decide) (by decide) (by decide) (tkF_s c100 16 rfl) ?_
  refine f_wc (q := 62) rfl (by decide) (by decide) (by decide) (tkF_s c100 17 rfl) ?_
  refine f_wc (q := 62) rfl (by decide) (by decide) (by decide) (tkF_s c100 18 rfl) ?_
  refine f_wc (q := 62) rfl (by decide) (by decide) (by decide) (tkF_s c100 19 rfl) ?_
  refine f_wc (q := 62) rfl (by decide) (by decide) (by decide) (tkF_s c100 20 rfl) ?_
  exact K
theorem mi_205 (K : xden S mX13_init 235 [(0, .ref 90), (1, .int x), (2, .int y)] [.ref 100, .ref 90] (MF 101 (Fu (Fu (Fu (G0 W H) 98 z98) 90 (.inr (12, fl 9))) 100 (.inl (3, 62, .inl (tkF c100 26))))) = some (v, h2, c2, s2)) : xden S mX13_init 205 [(0, .ref 90), (1, .int x), (2, .int y)] [.ref 100, .ref 90] (MF 101 (Fu (Fu (Fu (G0 W H) 98 z98) 90 (.inr (12, fl 9))) 100 (.inl (3, 62, .inl (tkF c100 21))))) = some (v, h2, c2, s2) := by
  refine w_X13_init_205 S _ _ _ _ _ _ _ ?_
  refine f_wc (q := 62) rfl (by decide) (by decide) (by decide) (tkF_s c100 21 rfl) ?_
  refine f_wc (q := 62) rfl (by decide) (by decide) (by decide) (tkF_s c100 22 rfl) ?_
  refine f_wc (q := 62) rfl (by decide) (by decide) (by decide) (tkF_s c100 23 rfl) ?_
  refine f_wc (q := 62) rfl (by decide) (by decide) (by decide) (tkF_s c100 24 rfl) ?_
  refine f_wc (q := 62) rfl (by decide) (by decide) (by decide) (tkF_s c100 25 rfl) ?_
  exact K
theorem mi_235 (K : xden S mX13_init 265 [(0, .ref 90), (1, .int x), (2, .int y)] [.ref 100, .ref 90] (MF 101 (Fu (Fu (Fu (G0 W H) 98 z98) 90 (.inr (12, fl 9))) 100 (.inl (3, 62, .inl (tkF c100 31))))) = some (v, h2, c2, s2)) : xden S mX13_init 235 [(0, .ref 90), (1, .int x), (2, .int y)] [.ref 100, .ref 90] (MF 101 (Fu (Fu (Fu (G0 W H) 98 z98) 90 (.inr (12, fl 9))) 100 (.inl (3, 62, .inl (tkF c100 26))))) = some (v, h2, c2, s2) := by
  refine w_X13_init_235 S _ _ _ _ _ _ _ ?_
  refine f_wc (q := 62) rfl (by decide) (by decide) (by decide) (tkF_s c100 26 rfl) ?_
  refine f_wc (q := 62) rfl (by decide) (by decide) (by decide) (tkF_s c100 27 rfl) ?_
  refine f_wc (q := 62) rfl (by decide) (by decide) (by decide) (tkF_s c100 28 rfl) ?_
  refine f_wc (q := 62) rfl (by decide) (by decide) (by decide) (tkF_s c100 29 rfl) ?_
  refine f_wc (q := 62) rfl (by decide) (by decide) (by decide) (tkF_s c100 30 rfl) ?_
  exact K
theorem mi_265 (K : xden S mX13_init 295 [(0, .ref 90), (1, .int x), (2, .int y)] [.ref 100, .ref 90] (MF 101 (Fu (Fu (Fu (G0 W H) 98 z98) 90 (.inr (12, fl 9))) 100 (.inl (3, 62, .inl (tkF c100 36))))) = some (v, h2, c2, s2)) : xden S mX13_init 265 [(0, .ref 90), (1, .int x), (2, .int y)] [.ref 100, .ref 90] (MF 101 (Fu (Fu (Fu (G0 W H) 98 z98) 90 (.inr (12, fl 9))) 100 (.inl (3, 62, .inl (tkF c100 31))))) = some (v, h2, c2, s2) := by
  refine w_X13_init_265 S _ _ _ _ _ _ _ ?_
  refine f_wc (q := 62) rfl (by decide) (by decide) (by decide) (tkF_s c100 31 rfl) ?_
  refine f_wc (q := 62) rfl (by decide) (by decide) (by decide) (tkF_s c100 32 rfl) ?_
  refine f_wc (q := 62) rfl (by decide) (by decide) (by decide) (tkF_s c100 33 rfl) ?_
  refine f_wc (q := 62) rfl (by decide) (by decide) (by decide) (tkF_s c100 34 rfl) ?_
  refine f_wc (q := 62) rfl (by decide) (by decide) (by decide) (tkF_s c100 35 rfl) ?_
  exact K
theorem mi_295 (K : xden S mX13_init 325 [(0, .ref 90), (1, .int x), (2, .int y)] [.ref 100, .ref 90] (MF 101 (Fu (Fu (Fu (G0 W H) 98 z98) 90 (.inr (12, fl 9))) 100 (.inl (3, 62, .inl (tkF c100 41))))) = some (v, h2, c2, s2)) : xden S mX13_init 295 [(0, .ref 90), (1, .int x), (2, .int y)] [.ref 100, .ref 90] (MF 101 (Fu (Fu (Fu (G0 W H) 98 z98) 90 (.inr (12, fl 9))) 100 (.inl (3, 62, .inl (tkF c100 36))))) = some (v, h2, c2, s2) := by
  refine w_X13_init_295 S _ _ _ _ _ _ _ ?_
  refine f_wc (q := 62) rfl (by decide) (by decide) (by decide) (tkF_s c100 36 rfl) ?_
  refine f_wc (q := 62) rfl (by decide) (by decide) (by decide) (tkF_s c100 37 rfl) ?_
  refine f_wc (q := 62) rfl (by decide) (by decide) (by decide) (tkF_s c100 38 rfl) ?_
  refine f_wc (q := 62) rfl (by decide) (by decide) (by decide) (tkF_s c100 39 rfl) ?_
  refine f_wc (q := 62) rfl (by decide) (by decide) (by decide) (tkF_s c100 40 rfl) ?_
  exact K
theorem mi_325 (K : xden S mX13_init 355 [(0, .ref 90), (1, .int x), (2, .int y)] [.ref 100, .ref 90] (MF 101 (Fu (Fu (Fu (G0 W H) 98 z98) 90 (.inr (12, fl 9))) 100 (.inl (3, 62, .inl (tkF c100 46))))) = some (v, h2, c2, s2)) : xden S mX13_init 325 [(0, .ref 90), (1, .int x), (2, .int y)] [.ref 100, .ref 90] (MF 101 (Fu (Fu (Fu (G0 W H) 98 z98) 90 (.inr (12, fl 9))) 100 (.inl (3, 62, .inl (tkF c100 41))))) = some (v, h2, c2, s2) := by
  refine w_X13_init_325 S _ _ _ _ _ _ _ ?_
  refine f_wc (q := 62) rfl (by decide) (by decide) (by decide) (tkF_s c100 41 rfl) ?_
  refine f_wc (q := 62) rfl (by decide) (by decide) (by decide) (tkF_s c100 42 rfl) ?_
  refine f_wc (q := 62) rfl (by decide) (by decide) (by decide) (tkF_s c100 43 rfl) ?_
  refine f_wc (q := 62) rfl (by decide) (by decide) (by decide) (tkF_s c100 44 rfl) ?_
  refine f_wc (q := 62) rfl (by decide) (by decide) (by decide) (tkF_s c100 45 rfl) ?_
  exact K
theorem mi_355 (K : xden S mX13_init 385 [(0, .ref 90), (1, .int x), (2, .int y)] [.ref 100, .ref 90] (MF 101 (Fu (Fu (Fu (G0 W H) 98 z98) 90 (.inr (12, fl 9))) 100 (.inl (3, 62, .inl (tkF c100 51))))) = some (v, h2, c2, s2)) : xden S mX13_init 355 [(0, .ref 90), (1, .int x), (2, .int y)] [.ref 100, .ref 90] (MF 101 (Fu (Fu (Fu (G0 W H) 98 z98) 90 (.inr (12, fl 9))) 100 (.inl (3, 62, .inl (tkF c100 46))))) = some (v, h2, c2, s2) := by
  refine w_X13_init_355 S _ _ _ _ _ _ _ ?_
  refine f_wc (q := 62) rfl (by decide) (by decide) (by decide) (tkF_s c100 46 rfl) ?_
  refine f_wc (q := 62) rfl (by decide) (by decide) (by decide) (tkF_s c100 47 rfl) ?_
  refine f_wc (q := 62) rfl (by decide) (by decide) (by decide) (tkF_s c100 48 rfl) ?_
  refine f_wc (q := 62) rfl (by decide) (by decide) (by decide) (tkF_s c100 49 rfl) ?_
  refine f_wc (q := 62) rfl (by decide) (by decide) (by decide) (tkF_s c100 50 rfl) ?_
  exact K
theorem mi_385 (K : xden S mX13_init 415 [(0, .ref 90), (1, .int x), (2, .int y)] [.ref 100, .ref 90] (MF 101 (Fu (Fu (Fu (G0 W H) 98 z98) 90 (.inr (12, fl 9))) 100 (.inl (3, 62, .inl (tkF c100 56))))) = some (v, h2, c2, s2)) : xden S mX13_init 385 [(0, .ref 90), (1, .int x), (2, .int y)] [.ref 100, .ref 90] (MF 101 (Fu (Fu (Fu (G0 W H) 98 z98) 90 (.inr (12, fl 9))) 100 (.inl (3, 62, .inl (tkF c100 51))))) = some (v, h2, c2, s2) := by
  refine w_X13_init_385 S _ _ _ _ _ _ _ ?_
  refine f_wc (q := 62) rfl (by decide) (by decide) (by decide) (tkF_s c100 51 rfl) ?_
  refine f_wc (q := 62) rfl (by decide) (by decide) (by decide) (tkF_s c100 52 rfl) ?_
  refine f_wc (q := 62) rfl (by decide) (by decide) (by decide) (tkF_s c100 53 rfl) ?_
  refine f_wc (q := 62) rfl (by decide) (by decide) (by decide) (tkF_s c100 54 rfl) ?_
  refine f_wc (q := 62) rfl (by decide) (by decide) (by decide) (tkF_s c100 55 rfl) ?_
  exact K
theorem mi_415 (K : xden S mX13_init 445 [(0, .ref 90), (1, .int x), (2, .int y)] [.ref 100, .ref 90] (MF 101 (Fu (Fu (Fu (G0 W H) 98 z98) 90 (.inr (12, fl 9))) 100 (.inl (3, 62, .inl (tkF c100 61))))) = some (v, h2, c2, s2)) : xden S mX13_init 415 [(0, .ref 90), (1, .int x), (2, .int y)] [.ref 100, .ref 90] (MF 101 (Fu (Fu (Fu (G0 W H) 98 z98) 90 (.inr (12, fl 9))) 100 (.inl (3, 62, .inl (tkF c100 56))))) = some (v, h2, c2, s2) := by
  refine w_X13_init_415 S _ _ _ _ _ _ _ ?_
  refine f_wc (q := 62) rfl (by decide) (by decide) (by decide) (tkF_s c100 56 rfl) ?_
  refine f_wc (q := 62) rfl (by decide) (by decide) (by decide) (tkF_s c100 57 rfl) ?_
  refine f_wc (q := 62) rfl (by decide) (by decide) (by decide) (tkF_s c100 58 rfl) ?_
  refine f_wc (q := 62) rfl (by decide) (by decide) (by decide) (tkF_s c100 59 rfl) ?_
  refine f_wc (q := 62) rfl (by decide) (by decide) (by decide) (tkF_s c100 60 rfl) ?_
  exact K
theorem mi_445 (K : xden S mX13_init 474 [(0, .ref 90), (1, .int x), (2, .int y)] [.ref 101, .ref 90] (MF 102 (Fu (Fu (Fu (G0 W H) 98 z98) 90 (.inr (12, fl 10))) 101 (.inl (3, 30, .inl (tkF c101 3))))) = some (v, h2, c2, s2)) : xden S mX13_init 445 [(0, .ref 90), (1, .int x), (2, .int y)] [.ref 100, .ref 90] (MF 101 (Fu (Fu (Fu (G0 W H) 98 z98) 90 (.inr (12, fl 9))) 100 (.inl (3, 62, .inl (tkF c100 61))))) = some (v, h2, c2 + 1, s2 + 30) := by
  refine w_X13_init_445 S _ _ _ _ _ _ _ ?_
  refine f_wcx (q := 62) rfl (by decide) (by decide) (by decide) ((Fu_n (by decide)).trans ((Fu_n (by decide)).trans (c100_e).symm)) ?_
  refine f_m (q := 9) (by decide) (by decide) rfl (by decide) (xPok_ref (by decide) (by rfl)) ?_
  refine f_nt (s2 := s2) (q := 30) rfl (by decide) (congrArg Sum.inl (tkF_0 c101)) ?_
  refine f_wc (q := 30) rfl (by decide) (by decide) (by decide) (tkF_s c101 0 rfl) ?_
  refine f_wc (q := 30) rfl (by decide) (by decide) (by decide) (tkF_s c101 1 rfl) ?_
  refine f_wc (q := 30) rfl (by decide) (by decide) (by decide) (tkF_s c101 2 rfl) ?_
  exact K
theorem mi_474 (K : xden S mX13_init 501 [(0, .ref 90), (1, .int x), (2, .int y)] [.ref 101, .ref 90] (MF 102 (Fu (Fu (Fu (G0 W H) 98 z98) 90 (.inr (12, fl 10))) 101 (.inl (3, 30, .inl (tkF c101 8))))) = some (v, h2, c2, s2)) : xden S mX13_init 474 [(0, .ref 90), (1, .int x), (2, .int y)] [.ref 101, .ref 90] (MF 102 (Fu (Fu (Fu (G0 W H) 98 z98) 90 (.inr (12, fl 10))) 101 (.inl (3, 30, .inl (tkF c101 3))))) = some (v, h2, c2, s2) := by
  refine w_X13_init_474 S _ _ _ _ _ _ _ ?_
  refine f_wc (q := 30) rfl (by decide) (by decide) (by decide) (tkF_s c101 3 rfl) ?_
  refine f_wc (q := 30) rfl (by decide) (by decide) (by decide) (tkF_s c101 4 rfl) ?_
  refine f_wc (q := 30) rfl (by decide) (by decide) (by decide) (tkF_s c101 5 rfl) ?_
  refine f_wc (q := 30) rfl (by decide) (by decide) (by decide) (tkF_s c101 6 rfl) ?_
  refine f_wc (q := 30) rfl (by decide) (by decide) (by decide) (tkF_s c101 7 rfl) ?_
  exact K
theorem mi_501 (K : xden S mX13_init 531 [(0, .ref 90), (1, .int x), (2, .int y)] [.ref 101, .ref 90] (MF 102 (Fu (Fu (Fu (G0 W H) 98 z98) 90 (.inr (12, fl 10))) 101 (.inl (3, 30, .inl (tkF c101 13))))) = some (v, h2, c2, s2)) : xden S mX13_init 501 [(0, .ref 90), (1, .int x), (2, .int y)] [.ref 101, .ref 90] (MF 102 (Fu (Fu (Fu (G0 W H) 98 z98) 90 (.inr (12, fl 10))) 101 (.inl (3, 30, .inl (tkF c101 8))))) = some (v, h2, c2, s2) := by
  refine w_X13_init_501 S _ _ _ _ _ _ _ ?_
  refine f_wc (q := 30) rfl (by decide) (by decide) (by decide) (tkF_s c101 8 rfl) ?_
  refine f_wc (q := 30) rfl (by decide) (by decide) (by decide) (tkF_s c101 9 rfl) ?_
  refine f_wc (q := 30) rfl (by decide) (by decide) (by decide) (tkF_s c101 10 rfl) ?_
  refine f_wc (q := 30) rfl (by decide) (by decide) (by decide) (tkF_s c101 11 rfl) ?_
  refine f_wc (q := 30) rfl (by decide) (by decide) (by decide) (tkF_s c101 12 rfl) ?_
  exact K
theorem mi_531 (K : xden S mX13_init 561 [(0, .ref 90), (1, .int x), (2, .int y)] [.ref 101, .ref 90] (MF 102 (Fu (Fu (Fu (G0 W H) 98 z98) 90 (.inr (12, fl 10))) 101 (.inl (3, 30, .inl (tkF c101 18))))) = some (v, h2, c2, s2)) : xden S mX13_init 531 [(0, .ref 90), (1, .int x), (2, .int y)] [.ref 101, .ref 90] (MF 102 (Fu (Fu (Fu (G0 W H) 98 z98) 90 (.inr (12, fl 10))) 101 (.inl (3, 30, .inl (tkF c101 13))))) = some (v, h2, c2, s2) := by
  refine w_X13_init_531 S _ _ _ _ _ _ _ ?_
  refine f_wc (q := 30) rfl (by decide) (by decide) (by decide) (tkF_s c101 13 rfl) ?_
  refine f_wc (q := 30) rfl (by decide) (by decide) (by decide) (tkF_s c101 14 rfl) ?_
  refine f_wc (q := 30) rfl (by decide) (by decide) (by decide) (tkF_s c101 15 rfl) ?_
  refine f_wc (q := 30) rfl (by decide) (by decide) (by decide) (tkF_s c101 16 rfl) ?_
  refine f_wc (q := 30) rfl (by decide) (by decide) (by decide) (tkF_s c101 17 rfl) ?_
  exact K
theorem mi_561 (K : xden S mX13_init 591 [(0, .ref 90), (1, .int x), (2, .int y)] [.ref 101, .ref 90] (MF 102 (Fu (Fu (Fu (G0 W H) 98 z98) 90 (.inr (12, fl 10))) 101 (.inl (3, 30, .inl (tkF c101 23))))) = some (v, h2, c2, s2)) : xden S mX13_init 561 [(0, .ref 90), (1, .int x), (2, .int y)] [.ref 101, .ref 90] (MF 102 (Fu (Fu (Fu (G0 W H) 98 z98) 90 (.inr (12, fl 10))) 101 (.inl (3, 30, .inl (tkF c101 18))))) = some (v, h2, c2, s2) := by
  refine w_X13_init_561 S _ _ _ _ _ _ _ ?_
  refine f_wc (q := 30) rfl (by decide) (by decide) (by decide) (tkF_s c101 18 rfl) ?_
  refine f_wc (q := 30) rfl (by decide) (by decide) (by decide) (tkF_s c101 19 rfl) ?_
  refine f_wc (q := 30) rfl (by decide) (by decide) (by decide) (tkF_s c101 20 rfl) ?_
  refine f_wc (q := 30) rfl (by decide) (by decide) (by decide) (tkF_s c101 21 rfl) ?_
  refine f_wc (q := 30) rfl (by decide) (by decide) (by decide) (tkF_s c101 22 rfl) ?_
  exact K
theorem mi_591 (K : xden S mX13_init 621 [(0, .ref 90), (1, .int x), (2, .int y)] [.ref 101, .ref 90] (MF 102 (Fu (Fu (Fu (G0 W H) 98 z98) 90 (.inr (12, fl 10))) 101 (.inl (3, 30, .inl (tkF c101 28))))) = some (v, h2, c2, s2)) : xden S mX13_init 591 [(0, .ref 90), (1, .int x), (2, .int y)] [.ref 101, .ref 90] (MF 102 (Fu (Fu (Fu (G0 W H) 98 z98) 90 (.inr (12, fl 10))) 101 (.inl (3, 30, .inl (tkF c101 23))))) = some (v, h2, c2, s2) := by
  refine w_X13_init_591 S _ _ _ _ _ _ _ ?_
  refine f_wc (q := 30) rfl (by decide) (by decide) (by decide) (tkF_s c101 23 rfl) ?_
  refine f_wc (q := 30) rfl (by decide) (by decide) (by decide) (tkF_s c101 24 rfl) ?_
  refine f_wc (q := 30) rfl (by decide) (by decide) (by decide) (tkF_s c101 25 rfl) ?_
  refine f_wc (q := 30) rfl (by decide) (by decide) (by decide) (tkF_s c101 26 rfl) ?_
  refine f_wc (q := 30) rfl (by decide) (by decide) (by decide) (tkF_s c101 27 rfl) ?_
  exact K
theorem mi_621 (K : xden S mX13_init 649 [(0, .ref 90), (1, .int x), (2, .int y)] [.ref 102, .ref 90] (MF 103 (Fu (Fu (Fu (G0 W H) 98 z98) 90 (.inr (12, fl 11))) 102 (.inl (0, 10, .inl (tkF c102 2))))) = some (v, h2, c2, s2)) : xden S mX13_init 621 [(0, .ref 90), (1, .int x), (2, .int y)] [.ref 101, .ref 90] (MF 102 (Fu (Fu (Fu (G0 W H) 98 z98) 90 (.inr (12, fl 10))) 101 (.inl (3, 30, .inl (tkF c101 28))))) = some (v, h2, c2 + 1, s2 + 10) := by
  refine w_X13_init_621 S _ _ _ _ _ _ _ ?_
  refine f_wc (q := 30) rfl (by decide) (by decide) (by decide) (tkF_s c101 28 rfl) ?_
  refine f_wcx (q := 30) rfl (by decide) (by decide) (by decide) ((Fu_n (by decide)).trans ((Fu_n (by decide)).trans (c101_e).symm)) ?_
  refine f_m (q := 10) (by decide) (by decide) rfl (by decide) (xPok_ref (by decide) (by rfl)) ?_
  refine f_nt (s2 := s2) (q := 10) rfl (by decide) (congrArg Sum.inl (tkF_0 c102)) ?_
  refine f_wi (q := 10) rfl (by decide) (by decide) (by decide) (tkF_s c102 0 rfl) ?_
  refine f_wi (q := 10) rfl (by decide) (by decide) (by decide) (tkF_s c102 1 rfl) ?_
  exact K
theorem mi_649 (K : xden S mX13_init 670 [(0, .ref 90), (1, .int x), (2, .int y)] [.ref 102, .ref 90] (MF 103 (Fu (Fu (Fu (G0 W H) 98 z98) 90 (.inr (12, fl 11))) 102 (.inl (0, 10, .inl (tkF c102 7))))) = some (v, h2, c2, s2)) : xden S mX13_init 649 [(0, .ref 90), (1, .int x), (2, .int y)] [.ref 102, .ref 90] (MF 103 (Fu (Fu (Fu (G0 W H) 98 z98) 90 (.inr (12, fl 11))) 102 (.inl (0, 10, .inl (tkF c102 2))))) = some (v, h2, c2, s2) := by
  refine w_X13_init_649 S _ _ _ _ _ _ _ ?_
  refine f_wi (q := 10) rfl (by decide) (by decide) (by decide) (tkF_s c102 2 rfl) ?_
  refine f_wi (q := 10) rfl (by decide) (by decide) (by decide) (tkF_s c102 3 rfl) ?_
  refine f_wi (q := 10) rfl (by decide) (by decide) (by decide) (tkF_s c102 4 rfl) ?_
  refine f_wi (q := 10) rfl (by decide) (by decide) (by decide) (tkF_s c102 5 rfl) ?_
  refine f_wi (q := 10) rfl (by decide) (by decide) (by decide) (tkF_s c102 6 rfl) ?_
  exact K
theorem mi_670 (K : xden S mX13_init 698 [(0, .ref 90), (1, .int x), (2, .int y)] [.ref 103, .ref 90] (MF 104 (Fu (Fu (Fu (G0 W H) 98 z98) 90 (.inr (12, fl 12))) 103 (.inl (0, 10, .inl (tkF c103 1))))) = some (v, h2, c2, s2)) : xden S mX13_init 670 [(0, .ref 90), (1, .int x), (2, .int y)] [.ref 102, .ref 90] (MF 103 (Fu (Fu (Fu (G0 W H) 98 z98) 90 (.inr (12, fl 11))) 102 (.inl (0, 10, .inl (tkF c102 7))))) = some (v, h2, c2 + 1, s2 + 10) := by
  refine w_X13_init_670 S _ _ _ _ _ _ _ ?_
  refine f_wi (q := 10) rfl (by decide) (by decide) (by decide) (tkF_s c102 7 rfl) ?_
  refine f_wi (q := 10) rfl (by decide) (by decide) (by decide) (tkF_s c102 8 rfl) ?_
  refine f_wix (q := 10) rfl (by decide) (by decide) (by decide) ((Fu_n (by decide)).trans ((Fu_n (by decide)).trans (c102_e).symm)) ?_
  refine f_m (q := 11) (by decide) (by decide) rfl (by decide) (xPok_ref (by decide) (by rfl)) ?_
  refine f_nt (s2 := s2) (q := 10) rfl (by decide) (congrArg Sum.inl (tkF_0 c103)) ?_
  refine f_wi (q := 10) rfl (by decide) (by decide) (by decide) (tkF_s c103 0 rfl) ?_
  exact K
theorem mi_698 (K : xden S mX13_init 722 [(0, .ref 90), (1, .int x), (2, .int y)] [.ref 103, .ref 90] (MF 104 (Fu (Fu (Fu (G0 W H) 98 z98) 90 (.inr (12, fl 12))) 103 (.inl (0, 10, .inl (tkF c103 6))))) = some (v, h2, c2, s2)) : xden S mX13_init 698 [(0, .ref 90), (1, .int x), (2, .int y)] [.ref 103, .ref 90] (MF 104 (Fu (Fu (Fu (G0 W H) 98 z98) 90 (.inr (12, fl 12))) 103 (.inl (0, 10, .inl (tkF c103 1))))) = some (v, h2, c2, s2) := by
  refine w_X13_init_698 S _ _ _ _ _ _ _ ?_
  refine f_wi (q := 10) rfl (by decide) (by decide) (by decide) (tkF_s c103 1 rfl) ?_
  refine f_wi (q := 10) rfl (by decide) (by decide) (by decide) (tkF_s c103 2 rfl) ?_
  refine f_wi (q := 10) rfl (by decide) (by decide) (by decide) (tkF_s c103 3 rfl) ?_
  refine f_wi (q := 10) rfl (by decide) (by decide) (by decide) (tkF_s c103 4 rfl) ?_
  refine f_wi (q := 10) rfl (by decide) (by decide) (by decide) (tkF_s c103 5 rfl) ?_
  exact K
theorem mi_722 (K : xden S mX13_init 754 [(0, .ref 90), (1, .int x), (2, .int y)] [] (MF 105 (Fu (Fu (G0 W H) 98 z98) 90 (.inr (12, fl 14)))) = some (v, h2, c2, s2)) : xden S mX13_init 722 [(0, .ref 90), (1, .int x), (2, .int y)] [.ref 103, .ref 90] (MF 104 (Fu (Fu (Fu (G0 W H) 98 z98) 90 (.inr (12, fl 12))) 103 (.inl (0, 10, .inl (tkF c103 6))))) = some (v, h2, c2 + 1, s2 + 80) := by
  refine w_X13_init_722 S _ _ _ _ _ _ _ ?_
  refine f_wi (q := 10) rfl (by decide) (by decide) (by decide) (tkF_s c103 6 rfl) ?_
  refine f_wi (q := 10) rfl (by decide) (by decide) (by decide) (tkF_s c103 7 rfl) ?_
  refine f_wi (q := 10) rfl (by decide) (by decide) (by decide) (tkF_s c103 8 rfl) ?_
  refine f_wix (q := 10) rfl (by decide) (by decide) (by decide) ((Fu_n (by decide)).trans ((Fu_n (by decide)).trans (c103_e).symm)) ?_
  refine f_m (q := 12) (by decide) (by decide) rfl (by decide) (xPok_ref (by decide) (by rfl)) ?_
  refine f_nx (s2 := s2) (q := 80) rfl (by decide) ((Fu_n (by decide)).trans ((Fu_n (by decide)).trans (G0_i (by rfl) (by omega) (by decide) (by rfl) (by decide) (by decide) (by decide)))) ?_
  refine f_m (q := 13) (by decide) (by decide) rfl (by decide) (xPok_ref (by decide) (by rfl)) ?_
  exact K
theorem mi_754 (K : xden S mX13_init 794 [(0, .ref 90), (1, .int x), (2, .int y)] [] (MF 110 (Fu (Fu (G0 W H) 98 z98) 90 (.inr (12, fl 19)))) = some (v, h2, c2, s2)) : xden S mX13_init 754 [(0, .ref 90), (1, .int x), (2, .int y)] [] (MF 105 (Fu (Fu (G0 W H) 98 z98) 90 (.inr (12, fl 14)))) = some (v, h2, c2 + 1 + 1 + 1 + 1 + 1, s2 + 6 + 6 + 6 + 40000 + 80) := by
  refine w_X13_init_754 S _ _ _ _ _ ?_
  refine f_nx (s2 := s2 + 6 + 6 + 6 + 40000) (q := 80) rfl (by decide) ((Fu_n (by decide)).trans ((Fu_n (by decide)).trans (G0_i (by rfl) (by omega) (by decide) (by rfl) (by decide) (by decide) (by decide)))) ?_
  refine f_m (q := 14) (by decide) (by decide) rfl (by decide) (xPok_ref (by decide) (by rfl)) ?_
  refine f_nx (s2 := s2 + 6 + 6 + 6) (q := 40000) rfl (by decide) ((Fu_n (by decide)).trans ((Fu_n (by decide)).trans (G0_i (by rfl) (by omega) (by decide) (by rfl) (by decide) (by decide) (by decide)))) ?_
  refine f_m (q := 15) (by decide) (by decide) rfl (by decide) (xPok_ref (by decide) (by rfl)) ?_
  refine f_nx (s2 := s2 + 6 + 6) (q := 6) rfl (by decide) ((Fu_n (by decide)).trans ((Fu_n (by decide)).trans (G0_i (by rfl) (by omega) (by decide) (by rfl) (by decide) (by decide) (by decide)))) ?_
  refine f_m (q := 16) (by decide) (by decide) rfl (by decide) (xPok_ref (by decide) (by rfl)) ?_
  refine f_nx (s2 := s2 + 6) (q := 6) rfl (by decide) ((Fu_n (by decide)).trans ((Fu_n (by decide)).trans (G0_i (by rfl) (by omega) (by decide) (by rfl) (by decide) (by decide) (by decide)))) ?_
  refine f_m (q := 17) (by decide) (by decide) rfl (by decide) (xPok_ref (by decide) (by rfl)) ?_
  refine f_nx (s2 := s2) (q := 6) rfl (by decide) ((Fu_n (by decide)).trans ((Fu_n (by decide)).trans (G0_i (by rfl) (by omega) (by decide) (by rfl) (by decide) (by decide) (by decide)))) ?_
  refine f_m (q := 18) (by decide) (by decide) rfl (by decide) (xPok_ref (by decide) (by rfl)) ?_
  exact K
theorem mi_794 (K : xden S mX13_init 836 [(0, .ref 90), (1, .int x), (2, .int y)] [] (MF 115 (Fu (Fu (G0 W H) 98 z98) 90 (.inr (12, fl 24)))) = some (v, h2, c2, s2)) : xden S mX13_init 794 [(0, .ref 90), (1, .int x), (2, .int y)] [] (MF 110 (Fu (Fu (G0 W H) 98 z98) 90 (.inr (12, fl 19)))) = some (v, h2, c2 + 1 + 1 + 1 + 1 + 1, s2 + 4096 + 7 + 7 + 28672 + 6) := by
  refine w_X13_init_794 S _ _ _ _ _ ?_
  refine f_nx (s2 := s2 + 4096 + 7 + 7 + 28672) (q := 6) rfl (by decide) ((Fu_n (by decide)).trans ((Fu_n (by decide)).trans (G0_i (by rfl) (by omega) (by decide) (by rfl) (by decide) (by decide) (by decide)))) ?_
  refine f_m (q := 19) (by decide) (by decide) rfl (by decide) (xPok_ref (by decide) (by rfl)) ?_
  refine f_nx (s2 := s2 + 4096 + 7 + 7) (q := 28672) rfl (by decide) ((Fu_n (by decide)).trans ((Fu_n (by decide)).trans (G0_i (by rfl) (by omega) (by decide) (by rfl) (by decide) (by decide) (by decide)))) ?_
  refine f_m (q := 20) (by decide) (by decide) rfl (by decide) (xPok_ref (by decide) (by rfl)) ?_
  refine f_nx (s2 := s2 + 4096 + 7) (q := 7) rfl (by decide) ((Fu_n (by decide)).trans ((Fu_n (by decide)).trans (G0_i (by rfl) (by omega) (by decide) (by rfl) (by decide) (by decide) (by decide)))) ?_
  refine f_m (q := 21) (by decide) (by decide) rfl (by decide) (xPok_ref (by decide) (by rfl)) ?_
  refine f_nx (s2 := s2 + 4096) (q := 7) rfl (by decide) ((Fu_n (by decide)).trans ((Fu_n (by decide)).trans (G0_i (by rfl) (by omega) (by decide) (by rfl) (by decide) (by decide) (by decide)))) ?_
  refine f_m (q := 22) (by decide) (by decide) rfl (by decide) (xPok_ref (by decide) (by rfl)) ?_
  refine f_nx (s2 := s2) (q := 4096) rfl (by decide) ((Fu_n (by decide)).trans ((Fu_n (by decide)).trans (G0_i (by rfl) (by omega) (by decide) (by rfl) (by decide) (by decide) (by decide)))) ?_
  refine f_m (q := 23) (by decide) (by decide) rfl (by decide) (xPok_ref (by decide) (by rfl)) ?_
  exact K
theorem mi_836 (K : xden S mX13_init 881 [(0, .ref 90), (1, .int x), (2, .int y)] [] (MF 120 (Fu (Fu (G0 W H) 98 z98) 90 (.inr (12, fl 29)))) = some (v, h2, c2, s2)) : xden S mX13_init 836 [(0, .ref 90), (1, .int x), (2, .int y)] [] (MF 115 (Fu (Fu (G0 W H) 98 z98) 90 (.inr (12, fl 24)))) = some (v, h2, c2 + 1 + 1 + 1 + 1 + 1, s2 + 256 + 4096 + 4096 + 4096 + 4096) := by
  refine w_X13_init_836 S _ _ _ _ _ ?_
  refine f_nx (s2 := s2 + 256 + 4096 + 4096 + 4096) (q := 4096) rfl (by decide) ((Fu_n (by decide)).trans ((Fu_n (by decide)).trans (G0_i (by rfl) (by omega) (by decide) (by rfl) (by decide) (by decide) (by decide)))) ?_
  refine f_m (q := 24) (by decide) (by decide) rfl (by decide) (xPok_ref (by decide) (by rfl)) ?_
  refine f_nx (s2 := s2 + 256 + 4096 + 4096) (q := 4096) rfl (by decide) ((Fu_n (by decide)).trans ((Fu_n (by decide)).trans (G0_i (by rfl) (by omega) (by decide) (by rfl) (by decide) (by decide) (by decide)))) ?_
  refine f_m (q := 25) (by decide) (by decide) rfl (by decide) (xPok_ref (by decide) (by rfl)) ?_
  refine f_nx (s2 := s2 + 256 + 4096) (q := 4096) rfl (by decide) ((Fu_n (by decide)).trans ((Fu_n (by decide)).trans (G0_i (by rfl) (by omega) (by decide) (by rfl) (by decide) (by decide) (by decide)))) ?_
  refine f_m (q := 26) (by decide) (by decide) rfl (by decide) (xPok_ref (by decide) (by rfl)) ?_
  refine f_nx (s2 := s2 + 256) (q := 4096) rfl (by decide) ((Fu_n (by decide)).trans ((Fu_n (by decide)).trans (G0_i (by rfl) (by omega) (by decide) (by rfl) (by decide) (by decide) (by decide)))) ?_
  refine f_m (q := 27) (by decide) (by decide) rfl (by decide) (xPok_ref (by decide) (by rfl)) ?_
  refine f_nx (s2 := s2) (q := 256) rfl (by decide) ((Fu_n (by decide)).trans ((Fu_n (by decide)).trans (G0_i (by rfl) (by omega) (by decide) (by rfl) (by decide) (by decide) (by decide)))) ?_
  refine f_m (q := 28) (by decide) (by decide) rfl (by decide) (xPok_ref (by decide) (by rfl)) ?_
  exact K
theorem mi_881 (K : xden S mX13_init 926 [(0, .ref 90), (1, .int x), (2, .int y)] [] (MF 125 (Fu (Fu (G0 W H) 98 z98) 90 (.inr (12, fl 34)))) = some (v, h2, c2, s2)) : xden S mX13_init 881 [(0, .ref 90), (1, .int x), (2, .int y)] [] (MF 120 (Fu (Fu (G0 W H) 98 z98) 90 (.inr (12, fl 29)))) = some (v, h2, c2 + 1 + 1 + 1 + 1 + 1, s2 + 256 + 256 + 4096 + 4096 + 256) := by
  refine w_X13_init_881 S _ _ _ _ _ ?_
  refine f_nx (s2 := s2 + 256 + 256 + 4096 + 4096) (q := 256) rfl (by decide) ((Fu_n (by decide)).trans ((Fu_n (by decide)).trans (G0_i (by rfl) (by omega) (by decide) (by rfl) (by decide) (by decide) (by decide)))) ?_
  refine f_m (q := 29) (by decide) (by decide) rfl (by decide) (xPok_ref (by decide) (by rfl)) ?_
  refine f_nx (s2 := s2 + 256 + 256 + 4096) (q := 4096) rfl (by decide) ((Fu_n (by decide)).trans ((Fu_n (by decide)).trans (G0_i (by rfl) (by omega) (by decide) (by rfl) (by decide) (by decide) (by decide)))) ?_
  refine f_m (q := 30) (by decide) (by decide) rfl (by decide) (xPok_ref (by decide) (by rfl)) ?_
  refine f_nx (s2 := s2 + 256 + 256) (q := 4096) rfl (by decide) ((Fu_n (by decide)).trans ((Fu_n (by decide)).trans (G0_i (by rfl) (by omega) (by decide) (by rfl) (by decide) (by decide) (by decide)))) ?_
  refine f_m (q := 31) (by decide) (by decide) rfl (by decide) (xPok_ref (by decide) (by rfl)) ?_
  refine f_nx (s2 := s2 + 256) (q := 256) rfl (by decide) ((Fu_n (by decide)).trans ((Fu_n (by decide)).trans (G0_i (by rfl) (by omega) (by decide) (by rfl) (by decide) (by decide) (by decide)))) ?_
  refine f_m (q := 32) (by decide) (by decide) rfl (by decide) (xPok_ref (by decide) (by rfl)) ?_
  refine f_nx (s2 := s2) (q := 256) rfl (by decide) ((Fu_n (by decide)).trans ((Fu_n (by decide)).trans (G0_i (by rfl) (by omega) (by decide) (by rfl) (by decide) (by decide) (by decide)))) ?_
  refine f_m (q := 33) (by decide) (by decide) rfl (by decide) (xPok_ref (by decide) (by rfl)) ?_
  exact K
theorem mi_926 (K : xden S mX13_init 971 [(0, .ref 90), (1, .int x), (2, .int y)] [] (MF 130 (Fu (Fu (G0 W H) 98 z98) 90 (.inr (12, fl 39)))) = some (v, h2, c2, s2)) : xden S mX13_init 926 [(0, .ref 90), (1, .int x), (2, .int y)] [] (MF 125 (Fu (Fu (G0 W H) 98 z98) 90 (.inr (12, fl 34)))) = some (v, h2, c2 + 1 + 1 + 1 + 1 + 1, s2 + 256 + 256 + 256 + 256 + 256) := by
  refine w_X13_init_926 S _ _ _ _ _ ?_
  refine f_nx (s2 := s2 + 256 + 256 + 256 + 256) (q := 256) rfl (by decide) ((Fu_n (by decide)).trans ((Fu_n (by decide)).trans (G0_i (by rfl) (by omega) (by decide) (by rfl) (by decide) (by decide) (by decide)))) ?_
  refine f_m (q := 34) (by decide) (by decide) rfl (by decide) (xPok_ref (by decide) (by rfl)) ?_
  refine f_nx (s2 := s2 + 256 + 256 + 256) (q := 256) rfl (by decide) ((Fu_n (by decide)).trans ((Fu_n (by decide)).trans (G0_i (by rfl) (by omega) (by decide) (by rfl) (by decide) (by decide) (by decide)))) ?_
  refine f_m (q := 35) (by decide) (by decide) rfl (by decide) (xPok_ref (by decide) (by rfl)) ?_
  refine f_nx (s2 := s2 + 256 + 256) (q := 256) rfl (by decide) ((Fu_n (by decide)).trans ((Fu_n (by decide)).trans (G0_i (by rfl) (by omega) (by decide) (by rfl) (by decide) (by decide) (by decide)))) ?_
  refine f_m (q := 36) (by decide) (by decide) rfl (by decide) (xPok_ref (by decide) (by rfl)) ?_
  refine f_nx (s2 := s2 + 256) (q := 256) rfl (by decide) ((Fu_n (by decide)).trans ((Fu_n (by decide)).trans (G0_i (by rfl) (by omega) (by decide) (by rfl) (by decide) (by decide) (by decide)))) ?_
  refine f_m (q := 37) (by decide) (by decide) rfl (by decide) (xPok_ref (by decide) (by rfl)) ?_
  refine f_nx (s2 := s2) (q := 256) rfl (by decide) ((Fu_n (by decide)).trans ((Fu_n (by decide)).trans (G0_i (by rfl) (by omega) (by decide) (by rfl) (by decide) (by decide) (by decide)))) ?_
  refine f_m (q := 38) (by decide) (by decide) rfl (by decide) (xPok_ref (by decide) (by rfl)) ?_
  exact K
theorem mi_971 (K : xden S mX13_init 1016 [(0, .ref 90), (1, .int x), (2, .int y)] [] (MF 135 (Fu (Fu (G0 W H) 98 z98) 90 (.inr (12, fl 44)))) = some (v, h2, c2, s2)) : xden S mX13_init 971 [(0, .ref 90), (1, .int x), (2, .int y)] [] (MF 130 (Fu (Fu (G0 W H) 98 z98) 90 (.inr (12, fl 39)))) = some (v, h2, c2 + 1 + 1 + 1 + 1 + 1, s2 + 256 + 256 + 256 + 256 + 256) := by
  refine w_X13_init_971 S _ _ _ _ _ ?_
  refine f_nx (s2 := s2 + 256 + 256 + 256 + 256) (q := 256) rfl (by decide) ((Fu_n (by decide)).trans ((Fu_n (by decide)).trans (G0_i (by rfl) (by omega) (by decide) (by rfl) (by decide) (by decide) (by decide)))) ?_
  refine f_m (q := 39) (by decide) (by decide) rfl (by decide) (xPok_ref (by decide) (by rfl)) ?_
  refine f_nx (s2 := s2 + 256 + 256 + 256) (q := 256) rfl (by decide) ((Fu_n (by decide)).trans ((Fu_n (by decide)).trans (G0_i (by rfl) (by omega) (by decide) (by rfl) (by decide) (by decide) (by decide)))) ?_
  refine f_m (q := 40) (by decide) (by decide) rfl (by decide) (xPok_ref (by decide) (by rfl)) ?_
  refine f_nx (s2 := s2 + 256 + 256) (q := 256) rfl (by decide) ((Fu_n (by decide)).trans ((Fu_n (by decide)).trans (G0_i (by rfl) (by omega) (by decide) (by rfl) (by decide) (by decide) (by decide)))) ?_
  refine f_m (q := 41) (by decide) (by decide) rfl (by decide) (xPok_ref (by decide) (by rfl)) ?_
  refine f_nx (s2 := s2 + 256) (q := 256) rfl (by decide) ((Fu_n (by decide)).trans ((Fu_n (by decide)).trans (G0_i (by rfl) (by omega) (by decide) (by rfl) (by decide) (by decide) (by decide)))) ?_
  refine f_m (q := 42) (by decide) (by decide) rfl (by decide) (xPok_ref (by decide) (by rfl)) ?_
  refine f_nx (s2 := s2) (q := 256) rfl (by decide) ((Fu_n (by decide)).trans ((Fu_n (by decide)).trans (G0_i (by rfl) (by omega) (by decide) (by rfl) (by decide) (by decide) (by decide)))) ?_
  refine f_m (q := 43) (by decide) (by decide) rfl (by decide) (xPok_ref (by decide) (by rfl)) ?_
  exact K
theorem mi_1016 (K : xden S mX13_init 1061 [(0, .ref 90), (1, .int x), (2, .int y)] [] (MF 140 (Fu (Fu (G0 W H) 98 z98) 90 (.inr (12, fl 49)))) = some (v, h2, c2, s2)) : xden S mX13_init 1016 [(0, .ref 90), (1, .int x), (2, .int y)] [] (MF 135 (Fu (Fu (G0 W H) 98 z98) 90 (.inr (12, fl 44)))) = some (v, h2, c2 + 1 + 1 + 1 + 1 + 1, s2 + 512 + 512 + 512 + 512 + 512) := by
  refine w_X13_init_1016 S _ _ _ _ _ ?_
  refine f_nx (s2 := s2 + 512 + 512 + 512 + 512) (q := 512) rfl (by decide) ((Fu_n (by decide)).trans ((Fu_n (by decide)).trans (G0_i (by rfl) (by omega) (by decide) (by rfl) (by decide) (by decide) (by decide)))) ?_
  refine f_m (q := 44) (by decide) (by decide) rfl (by decide) (xPok_ref (by decide) (by rfl)) ?_
  refine f_nx (s2 := s2 + 512 + 512 + 512) (q := 512) rfl (by decide) ((Fu_n (by decide)).trans ((Fu_n (by decide)).trans (G0_i (by rfl) (by omega) (by decide) (by rfl) (by decide) (by decide) (by decide)))) ?_
  refine f_m (q := 45) (by decide) (by decide) rfl (by decide) (xPok_ref (by decide) (by rfl)) ?_
  refine f_nx (s2 := s2 + 512 + 512) (q := 512) rfl (by decide) ((Fu_n (by decide)).trans ((Fu_n (by decide)).trans (G0_i (by rfl) (by omega) (by decide) (by rfl) (by decide) (by decide) (by decide)))) ?_
  refine f_m (q := 46) (by decide) (by decide) rfl (by decide) (xPok_ref (by decide) (by rfl)) ?_
  refine f_nx (s2 := s2 + 512) (q := 512) rfl (by decide) ((Fu_n (by decide)).trans ((Fu_n (by decide)).trans (G0_i (by rfl) (by omega) (by decide) (by rfl) (by decide) (by decide) (by decide)))) ?_
  refine f_m (q := 47) (by decide) (by decide) rfl (by decide) (xPok_ref (by decide) (by rfl)) ?_
  refine f_nx (s2 := s2) (q := 512) rfl (by decide) ((Fu_n (by decide)).trans ((Fu_n (by decide)).trans (G0_i (by rfl) (by omega) (by decide) (by rfl) (by decide) (by decide) (by decide)))) ?_
  refine f_m (q := 48) (by decide) (by decide) rfl (by decide) (xPok_ref (by decide) (by rfl)) ?_
  exact K
theorem mi_1061 (K : xden S mX13_init 1106 [(0, .ref 90), (1, .int x), (2, .int y)] [] (MF 145 (Fu (Fu (G0 W H) 98 z98) 90 (.inr (12, fl 54)))) = some (v, h2, c2, s2)) : xden S mX13_init 1061 [(0, .ref 90), (1, .int x), (2, .int y)] [] (MF 140 (Fu (Fu (G0 W H) 98 z98) 90 (.inr (12, fl 49)))) = some (v, h2, c2 + 1 + 1 + 1 + 1 + 1, s2 + 512 + 512 + 512 + 512 + 512) := by
  refine w_X13_init_1061 S _ _ _ _ _ ?_
  refine f_nx (s2 := s2 + 512 + 512 + 512 + 512) (q := 512) rfl (by decide) ((Fu_n (by decide)).trans ((Fu_n (by decide)).trans (G0_i (by rfl) (by omega) (by decide) (by rfl) (by decide) (by decide) (by decide)))) ?_
  refine f_m (q := 49) (by decide) (by decide) rfl (by decide) (xPok_ref (by decide) (by rfl)) ?_
  refine f_nx (s2 := s2 + 512 + 512 + 512) (q := 512) rfl (by decide) ((Fu_n (by decide)).trans ((Fu_n (by decide)).trans (G0_i (by rfl) (by omega) (by decide) (by rfl) (by decide) (by decide) (by decide)))) ?_
  refine f_m (q := 50) (by decide) (by decide) rfl (by decide) (xPok_ref (by decide) (by rfl)) ?_
  refine f_nx (s2 := s2 + 512 + 512) (q := 512) rfl (by decide) ((Fu_n (by decide)).trans ((Fu_n (by decide)).trans (G0_i (by rfl) (by omega) (by decide) (by rfl) (by decide) (by decide) (by decide)))) ?_
  refine f_m (q := 51) (by decide) (by decide) rfl (by decide) (xPok_ref (by decide) (by rfl)) ?_
  refine f_nx (s2 := s2 + 512) (q := 512) rfl (by decide) ((Fu_n (by decide)).trans ((Fu_n (by decide)).trans (G0_i (by rfl) (by omega) (by decide) (by rfl) (by decide) (by decide) (by decide)))) ?_
  refine f_m (q := 52) (by decide) (by decide) rfl (by decide) (xPok_ref (by decide) (by rfl)) ?_
  refine f_nx (s2 := s2) (q := 512) rfl (by decide) ((Fu_n (by decide)).trans ((Fu_n (by decide)).trans (G0_i (by rfl) (by omega) (by decide) (by rfl) (by decide) (by decide) (by decide)))) ?_
  refine f_m (q := 53) (by decide) (by decide) rfl (by decide) (xPok_ref (by decide) (by rfl)) ?_
  exact K
theorem mi_1106 (K : xden S mX13_init 1136 [(0, .ref 90), (1, .int x), (2, .int y)] [.ref 145, .ref 90] (MF 146 (Fu (Fu (Fu (G0 W H) 98 z98) 90 (.inr (12, fl 54))) 145 (.inl (3, 85, .inl (tkF c145 5))))) = some (v, h2, c2, s2)) : xden S mX13_init 1106 [(0, .ref 90), (1, .int x), (2, .int y)] [] (MF 145 (Fu (Fu (G0 W H) 98 z98) 90 (.inr (12, fl 54)))) = some (v, h2, c2 + 1, s2 + 85) := by
  refine w_X13_init_1106 S _ _ _ _ _ ?_
  refine f_nt (s2 := s2) (q := 85) rfl (by decide) (congrArg Sum.inl (tkF_0 c145)) ?_
  refine f_wc (q := 85) rfl (by decide) (by decide) (by decide) (tkF_s c145 0 rfl) ?_
  refine f_wc (q := 85) rfl (by decide) (by decide) (by decide) (tkF_s c145 1 rfl) ?_
  refine f_wc (q := 85) rfl (by decide) (by decide) (by decide) (tkF_s c145 2 rfl) ?_
  refine f_wc (q := 85) rfl (by decide) (by decide) (by decide) (tkF_s c145 3 rfl) ?_
  refine f_wc (q := 85) rfl (by decide) (by decide) (by decide) (tkF_s c145 4 rfl) ?_
  exact K
theorem mi_1136 (K : xden S mX13_init 1165 [(0, .ref 90), (1, .int x), (2, .int y)] [.ref 145, .ref 90] (MF 146 (Fu (Fu (Fu (G0 W H) 98 z98) 90 (.inr (12, fl 54))) 145 (.inl (3, 85, .inl (tkF c145 10))))) = some (v, h2, c2, s2)) : xden S mX13_init 1136 [(0, .ref 90), (1, .int x), (2, .int y)] [.ref 145, .ref 90] (MF 146 (Fu (Fu (Fu (G0 W H) 98 z98) 90 (.inr (12, fl 54))) 145 (.inl (3, 85, .inl (tkF c145 5))))) = some (v, h2, c2, s2) := by
  refine w_X13_init_1136 S _ _ _ _ _ _ _ ?_
  refine f_wc (q := 85) rfl (by decide) (by decide) (by decide) (tkF_s c145 5 rfl) ?_
  refine f_wc (q := 85) rfl (by decide) (by decide) (by decide) (tkF_s c145 6 rfl) ?_
  refine f_wc (q := 85) rfl (by decide) (by decide) (by decide) (tkF_s c145 7 rfl) ?_
  refine f_wc (q := 85) rfl (by decide) (by decide) (by decide) (tkF_s c145 8 rfl) ?_
  refine f_wc (q := 85) rfl (by decide) (by decide) (by decide) (tkF_s c145 9 rfl) ?_
  exact K
theorem mi_1165 (K : xden S mX13_init 1195 [(0, .ref 90), (1, .int x), (2, .int y)] [.ref 145, .ref 90] (MF 146 (Fu (Fu (Fu (G0 W H) 98 z98) 90 (.inr (12, fl 54))) 145 (.inl (3, 85, .inl (tkF c145 15))))) = some (v, h2, c2, s2)) : xden S mX13_init 1165 [(0, .ref 90), (1, .int x), (2, .int y)] [.ref 145, .ref 90] (MF 146 (Fu (Fu (Fu (G0 W H) 98 z98) 90 (.inr (12, fl 54))) 145 (.inl (3, 85, .inl (tkF c145 10))))) = some (v, h2, c2, s2) := by
  refine w_X13_init_1165 S _ _ _ _ _ _ _ ?_
  refine f_wc (q := 85) rfl (by decide) (by decide) (by decide) (tkF_s c145 10 rfl) ?_
  refine f_wc (q := 85) rfl (by decide) (by decide) (by decide) (tkF_s c145 11 rfl) ?_
  refine f_wc (q := 85) rfl (by decide) (by decide) (by decide) (tkF_s c145 12 rfl) ?_
  refine f_wc (q := 85) rfl (by decide) (by decide) (by decide) (tkF_s c145 13 rfl) ?_
  refine f_wc (q := 85) rfl (by decide) (by decide) (by decide) (tkF_s c145 14 rfl) ?_
  exact K
theorem mi_1195 (K : xden S mX13_init 1225 [(0, .ref 90), (1, .int x), (2, .int y)] [.ref 145, .ref 90] (MF 146 (Fu (Fu (Fu (G0 W H) 98 z98) 90 (.inr (12, fl 54))) 145 (.inl (3, 85, .inl (tkF c145 20))))) = some (v, h2, c2, s2)) : xden S mX13_init 1195 [(0, .ref 90), (1, .int x), (2, .int y)] [.ref 145, .ref 90] (MF 146 (Fu (Fu (Fu (G0 W H) 98 z98) 90 (.inr (12, fl 54))) 145 (.inl (3, 85, .inl (tkF c145 15))))) = some (v, h2, c2, s2) := by
  refine w_X13_init_1195 S _ _ _ _ _ _ _ ?_
  refine f_wc (q := 85) rfl (by decide) (by decide) (by decide) (tkF_s c145 15 rfl) ?_
  refine f_wc (q := 85) rfl (by decide) (by decide) (by decide) (tkF_s c145 16 rfl) ?_
  refine f_wc (q := 85) rfl (by decide) (by decide) (by decide) (tkF_s c145 17 rfl) ?_
  refine f_wc (q := 85) rfl (by decide) (by decide) (by decide) (tkF_s c145 18 rfl) ?_
  refine f_wc (q := 85) rfl (by decide) (by decide) (by decide) (tkF_s c145 19 rfl) ?_
  exact K
theorem mi_1225 (K : xden S mX13_init 1255 [(0, .ref 90), (1, .int x), (2, .int y)] [.ref 145, .ref 90] (MF 146 (Fu (Fu (Fu (G0 W H) 98 z98) 90 (.inr (12, fl 54))) 145 (.inl (3, 85, .inl (tkF c145 25))))) = some (v, h2, c2, s2)) : xden S mX13_init 1225 [(0, .ref 90), (1, .int x), (2, .int y)] [.ref 145, .ref 90] (MF 146 (Fu (Fu (Fu (G0 W H) 98 z98) 90 (.inr (12, fl 54))) 145 (.inl (3, 85, .inl (tkF c145 20))))) = some (v, h2, c2, s2) := by
  refine w_X13_init_1225 S _ _ _ _ _ _ _ ?_
  refine f_wc (q := 85) rfl (by decide) (by decide) (by decide) (tkF_s c145 20 rfl) ?_
  refine f_wc (q := 85) rfl (by decide) (by decide) (by decide) (tkF_s c145 21 rfl) ?_
  refine f_wc (q := 85) rfl (by decide) (by decide) (by decide) (tkF_s c145 22 rfl) ?_
  refine f_wc (q := 85) rfl (by decide) (by decide) (by decide) (tkF_s c145 23 rfl) ?_
  refine f_wc (q := 85) rfl (by decide) (by decide) (by decide) (tkF_s c145 24 rfl) ?_
  exact K
theorem mi_1255 (K : xden S mX13_init 1285 [(0, .ref 90), (1, .int x), (2, .int y)] [.ref 145, .ref 90] (MF 146 (Fu (Fu (Fu (G0 W H) 98 z98) 90 (.inr (12, fl 54))) 145 (.inl (3, 85, .inl (tkF c145 30))))) = some (v, h2, c2, s2)) : xden S mX13_init 1255 [(0, .ref 90), (1, .int x), (2, .int y)] [.ref 145, .ref 90] (MF 146 (Fu (Fu (Fu (G0 W H) 98 z98) 90 (.inr (12, fl 54))) 145 (.inl (3, 85, .inl (tkF c145 25))))) = some (v, h2, c2, s2) := by
  refine w_X13_init_1255 S _ _ _ _ _ _ _ ?_
  refine f_wc (q := 85) rfl (by decide) (by decide) (by decide) (tkF_s c145 25 rfl) ?_
  refine f_wc (q := 85) rfl (by decide) (by decide) (by decide) (tkF_s c145 26 rfl) ?_
  refine f_wc (q := 85) rfl (by decide) (by decide) (by decide) (tkF_s c145 27 rfl) ?_
  refine f_wc (q := 85) rfl (by decide) (by decide) (by decide) (tkF_s c145 28 rfl) ?_
  refine f_wc (q := 85) rfl (by decide) (by decide) (by decide) (tkF_s c145 29 rfl) ?_
  exact K
theorem mi_1285 (K : xden S mX13_init 1315 [(0, .ref 90), (1, .int x), (2, .int y)] [.ref 145, .ref 90] (MF 146 (Fu (Fu (Fu (G0 W H) 98 z98) 90 (.inr (12, fl 54))) 145 (.inl (3, 85, .inl (tkF c145 35))))) = some (v, h2, c2, s2)) : xden S mX13_init 1285 [(0, .ref 90), (1, .int x), (2, .int y)] [.ref 145, .ref 90] (MF 146 (Fu (Fu (Fu (G0 W H) 98 z98) 90 (.inr (12, fl 54))) 145 (.inl (3, 85, .inl (tkF c145 30))))) = some (v, h2, c2, s2) := by
  refine w_X13_init_1285 S _ _ _ _ _ _ _ ?_
  refine f_wc (q := 85) rfl (by decide) (by decide) (by decide) (tkF_s c145 30 rfl) ?_
  refine f_wc (q := 85) rfl (by decide) (by decide) (by decide) (tkF_s c145 31 rfl) ?_
  refine f_wc (q := 85) rfl (by decide) (by decide) (by decide) (tkF_s c145 32 rfl) ?_
  refine f_wc (q := 85) rfl (by decide) (by decide) (by decide) (tkF_s c145 33 rfl) ?_
  refine f_wc (q := 85) rfl (by decide) (by decide) (by decide) (tkF_s c145 34 rfl) ?_
  exact K
theorem mi_1315 (K : xden S mX13_init 1345 [(0, .ref 90), (1, .int x), (2, .int y)] [.ref 145, .ref 90] (MF 146 (Fu (Fu (Fu (G0 W H) 98 z98) 90 (.inr (12, fl 54))) 145 (.inl (3, 85, .inl (tkF c145 40))))) = some (v, h2, c2, s2)) : xden S mX13_init 1315 [(0, .ref 90), (1, .int x), (2, .int y)] [.ref 145, .ref 90] (MF 146 (Fu (Fu (Fu (G0 W H) 98 z98) 90 (.inr (12, fl 54))) 145 (.inl (3, 85, .inl (tkF c145 35))))) = some (v, h2, c2, s2) := by
  refine w_X13_init_1315 S _ _ _ _ _ _ _ ?_
  refine f_wc (q := 85) rfl (by decide) (by decide) (by decide) (tkF_s c145 35 rfl) ?_
  refine f_wc (q := 85) rfl (by decide) (by decide) (by decide) (tkF_s c145 36 rfl) ?_
  refine f_wc (q := 85) rfl (by decide) (by decide) (by decide) (tkF_s c145 37 rfl) ?_
  refine f_wc (q := 85) rfl (by decide) (by decide) (by decide) (tkF_s c145 38 rfl) ?_
  refine f_wc (q := 85) rfl (by decide) (by decide) (by decide) (tkF_s c145 39 rfl) ?_
  exact K
theorem mi_1345 (K : xden S mX13_init 1375 [(0, .ref 90), (1, .int x), (2, .int y)] [.ref 145, .ref 90] (MF 146 (Fu (Fu (Fu (G0 W H) 98 z98) 90 (.inr (12, fl 54))) 145 (.inl (3, 85, .inl (tkF c145 45))))) = some (v, h2, c2, s2)) : xden S mX13_init 1345 [(0, .ref 90), (1, .int x), (2, .int y)] [.ref 145, .ref 90] (MF 146 (Fu (Fu (Fu (G0 W H) 98 z98) 90 (.inr (12, fl 54))) 145 (.inl (3, 85, .inl (tkF c145 40))))) = some (v, h2, c2, s2) := by
  refine w_X13_init_1345 S _ _ _ _ _ _ _ ?_
  refine f_wc (q := 85) rfl (by decide) (by decide) (by decide) (tkF_s c145 40 rfl) ?_
  refine f_wc (q := 85) rfl (by decide) (by decide) (by decide) (tkF_s c145 41 rfl) ?_
  refine f_wc (q := 85) rfl (by decide) (by decide) (by decide) (tkF_s c145 42 rfl) ?_
  refine f_wc (q := 85) rfl (by decide) (by decide) (by decide) (tkF_s c145 43 rfl) ?_
  refine f_wc (q := 85) rfl (by decide) (by decide) (by decide) (tkF_s c145 44 rfl) ?_
  exact K
theorem mi_1375 (K : xden S mX13_init 1405 [(0, .ref 90), (1, .int x), (2, .int y)] [.ref 145, .ref 90] (MF 146 (Fu (Fu (Fu (G0 W H) 98 z98) 90 (.inr (12, fl 54))) 145 (.inl (3, 85, .inl (tkF c145 50))))) = some (v, h2, c2, s2)) : xden S mX13_init 1375 [(0, .ref 90), (1, .int x), (2, .int y)] [.ref 145, .ref 90] (MF 146 (Fu (Fu (Fu (G0 W H) 98 z98) 90 (.inr (12, fl 54))) 145 (.inl (3, 85, .inl (tkF c145 45))))) = some (v, h2, c2, s2) := by
  refine w_X13_init_1375 S _ _ _ _ _ _ _ ?_
  refine f_wc (q := 85) rfl (by decide) (by decide) (by decide) (tkF_s c145 45 rfl) ?_
  refine f_wc (q := 85) rfl (by decide) (by decide) (by decide) (tkF_s c145 46 rfl) ?_
  refine f_wc (q := 85) rfl (by decide) (by decide) (by decide) (tkF_s c145 47 rfl) ?_
  refine f_wc (q := 85) rfl (by decide) (by decide) (by decide) (tkF_s c145 48 rfl) ?_
  refine f_wc (q := 85) rfl (by decide) (by decide) (by decide) (tkF_s c145 49 rfl) ?_
  exact K
theorem mi_1405 (K : xden S mX13_init 1435 [(0, .ref 90), (1, .int x), (2, .int y)] [.ref 145, .ref 90] (MF 146 (Fu (Fu (Fu (G0 W H) 98 z98) 90 (.inr (12, fl 54))) 145 (.inl (3, 85, .inl (tkF c145 55))))) = some (v, h2, c2, s2)) : xden S mX13_init 1405 [(0, .ref 90), (1, .int x), (2, .int y)] [.ref 145, .ref 90] (MF 146 (Fu (Fu (Fu (G0 W H) 98 z98) 90 (.inr (12, fl 54))) 145 (.inl (3, 85, .inl (tkF c145 50))))) = some (v, h2, c2, s2) := by
  refine w_X13_init_1405 S _ _ _ _ _ _ _ ?_
  refine f_wc (q := 85) rfl (by decide) (by decide) (by decide) (tkF_s c145 50 rfl) ?_
  refine f_wc (q := 85) rfl (by decide) (by decide) (by decide) (tkF_s c145 51 rfl) ?_
  refine f_wc (q := 85) rfl (by decide) (by decide) (by decide) (tkF_s c145 52 rfl) ?_
  refine f_wc (q := 85) rfl (by decide) (by decide) (by decide) (tkF_s c145 53 rfl) ?_
  refine f_wc (q := 85) rfl (by decide) (by decide) (by decide) (tkF_s c145 54 rfl) ?_
  exact K
theorem mi_1435 (K : xden S mX13_init 1465 [(0, .ref 90), (1, .int x), (2, .int y)] [.ref 145, .ref 90] (MF 146 (Fu (Fu (Fu (G0 W H) 98 z98) 90 (.inr (12, fl 54))) 145 (.inl (3, 85, .inl (tkF c145 60))))) = some (v, h2, c2, s2)) : xden S mX13_init 1435 [(0, .ref 90), (1, .int x), (2, .int y)] [.ref 145, .ref 90] (MF 146 (Fu (Fu (Fu (G0 W H) 98 z98) 90 (.inr (12, fl 54))) 145 (.inl (3, 85, .inl (tkF c145 55))))) = some (v, h2, c2, s2) := by
  refine w_X13_init_1435 S _ _ _ _ _ _ _ ?_
  refine f_wc (q := 85) rfl (by decide) (by decide) (by decide) (tkF_s c145 55 rfl) ?_
  refine f_wc (q := 85) rfl (by decide) (by decide) (by decide) (tkF_s c145 56 rfl) ?_
  refine f_wc (q := 85) rfl (by decide) (by decide) (by decide) (tkF_s c145 57 rfl) ?_
  refine f_wc (q := 85) rfl (by decide) (by decide) (by decide) (tkF_s c145 58 rfl) ?_
  refine f_wc (q := 85) rfl (by decide) (by decide) (by decide) (tkF_s c145 59 rfl) ?_
  exact K
theorem mi_1465 (K : xden S mX13_init 1495 [(0, .ref 90), (1, .int x), (2, .int y)] [.ref 145, .ref 90] (MF 146 (Fu (Fu (Fu (G0 W H) 98 z98) 90 (.inr (12, fl 54))) 145 (.inl (3, 85, .inl (tkF c145 65))))) = some (v, h2, c2, s2)) : xden S mX13_init 1465 [(0, .ref 90), (1, .int x), (2, .int y)] [.ref 145, .ref 90] (MF 146 (Fu (Fu (Fu (G0 W H) 98 z98) 90 (.inr (12, fl 54))) 145 (.inl (3, 85, .inl (tkF c145 60))))) = some (v, h2, c2, s2) := by
  refine w_X13_init_1465 S _ _ _ _ _ _ _ ?_
  refine f_wc (q := 85) rfl (by decide) (by decide) (by decide) (tkF_s c145 60 rfl) ?_
  refine f_wc (q := 85) rfl (by decide) (by decide) (by decide) (tkF_s c145 61 rfl) ?_
  refine f_wc (q := 85) rfl (by decide) (by decide) (by decide) (tkF_s c145 62 rfl) ?_
  refine f_wc (q := 85) rfl (by decide) (by decide) (by decide) (tkF_s c145 63 rfl) ?_
  refine f_wc (q := 85) rfl (by decide) (by decide) (by decide) (tkF_s c145 64 rfl) ?_
  exact K
theorem mi_1495 (K : xden S mX13_init 1525 [(0, .ref 90), (1, .int x), (2, .int y)] [.ref 145, .ref 90] (MF 146 (Fu (Fu (Fu (G0 W H) 98 z98) 90 (.inr (12, fl 54))) 145 (.inl (3, 85, .inl (tkF c145 70))))) = some (v, h2, c2, s2)) : xden S mX13_init 1495 [(0, .ref 90), (1, .int x), (2, .int y)] [.ref 145, .ref 90] (MF 146 (Fu (Fu (Fu (G0 W H) 98 z98) 90 (.inr (12, fl 54))) 145 (.inl (3, 85, .inl (tkF c145 65))))) = some (v, h2, c2, s2) := by
  refine w_X13_init_1495 S _ _ _ _ _ _ _ ?_
  refine f_wc (q := 85) rfl (by decide) (by decide) (by decide) (tkF_s c145 65 rfl) ?_
  refine f_wc (q := 85) rfl (by decide) (by decide) (by decide) (tkF_s c145 66 rfl) ?_
  refine f_wc (q := 85) rfl (by decide) (by decide) (by decide) (tkF_s c145 67 rfl) ?_
  refine f_wc (q := 85) rfl (by decide) (by decide) (by decide) (tkF_s c145 68 rfl) ?_
  refine f_wc (q := 85) rfl (by decide) (by decide) (by decide) (tkF_s c145 69 rfl) ?_
  exact K
theorem mi_1525 (K : xden S mX13_init 1555 [(0, .ref 90), (1, .int x), (2, .int y)] [.ref 145, .ref 90] (MF 146 (Fu (Fu (Fu (G0 W H) 98 z98) 90 (.inr (12, fl 54))) 145 (.inl (3, 85, .inl (tkF c145 75))))) = some (v, h2, c2, s2)) : xden S mX13_init 1525 [(0, .ref 90), (1, .int x), (2, .int y)] [.ref 145, .ref 90] (MF 146 (Fu (Fu (Fu (G0 W H) 98 z98) 90 (.inr (12, fl 54))) 145 (.inl (3, 85, .inl (tkF c145 70))))) = some (v, h2, c2, s2) := by
  refine w_X13_init_1525 S _ _ _ _ _ _ _ ?_
  refine f_wc (q := 85) rfl (by decide) (by decide) (by decide) (tkF_s c145 70 rfl) ?_
  refine f_wc (q := 85) rfl (by decide) (by decide) (by decide) (tkF_s c145 71 rfl) ?_
  refine f_wc (q := 85) rfl (by decide) (by decide) (by decide) (tkF_s c145 72 rfl) ?_
  refine f_wc (q := 85) rfl (by decide) (by decide) (by decide) (tkF_s c145 73 rfl) ?_
  refine f_wc (q := 85) rfl (by decide) (by decide) (by decide) (tkF_s c145 74 rfl) ?_
  exact K
theorem mi_1555 (K : xden S mX13_init 1585 [(0, .ref 90), (1, .int x), (2, .int y)] [.ref 145, .ref 90] (MF 146 (Fu (Fu (Fu (G0 W H) 98 z98) 90 (.inr (12, fl 54))) 145 (.inl (3, 85, .inl (tkF c145 80))))) = some (v, h2, c2, s2)) : xden S mX13_init 1555 [(0, .ref 90), (1, .int x), (2, .int y)] [.ref 145, .ref 90] (MF 146 (Fu (Fu (Fu (G0 W H) 98 z98) 90 (.inr (12, fl 54))) 145 (.inl (3, 85, .inl (tkF c145 75))))) = some (v, h2, c2, s2) := by
  refine w_X13_init_1555 S _ _ _ _ _ _ _ ?_
  refine f_wc (q := 85) rfl (by decide) (by decide) (by decide) (tkF_s c145 75 rfl) ?_
  refine f_wc (q := 85) rfl (by decide) (by decide) (by decide) (tkF_s c145 76 rfl) ?_
  refine f_wc (q := 85) rfl (by decide) (by decide) (by decide) (tkF_s c145 77 rfl) ?_
  refine f_wc (q := 85) rfl (by decide) (by decide) (by decide) (tkF_s c145 78 rfl) ?_
  refine f_wc (q := 85) rfl (by decide) (by decide) (by decide) (tkF_s c145 79 rfl) ?_
  exact K
theorem mi_1585 (K : xden S mX13_init 1615 [(0, .ref 90), (1, .int x), (2, .int y)] [.ref 145, .ref 90] (MF 146 (Fu (Fu (G0 W H) 98 z98) 90 (.inr (12, fl 54)))) = some (v, h2, c2, s2)) : xden S mX13_init 1585 [(0, .ref 90), (1, .int x), (2, .int y)] [.ref 145, .ref 90] (MF 146 (Fu (Fu (Fu (G0 W H) 98 z98) 90 (.inr (12, fl 54))) 145 (.inl (3, 85, .inl (tkF c145 80))))) = some (v, h2, c2, s2) := by
  refine w_X13_init_1585 S _ _ _ _ _ _ _ ?_
  refine f_wc (q := 85) rfl (by decide) (by decide) (by decide) (tkF_s c145 80 rfl) ?_
  refine f_wc (q := 85) rfl (by decide) (by decide) (by decide) (tkF_s c145 81 rfl) ?_
  refine f_wc (q := 85) rfl (by decide) (by decide) (by decide) (tkF_s c145 82 rfl) ?_
  refine f_wc (q := 85) rfl (by decide) (by decide) (by decide) (tkF_s c145 83 rfl) ?_
  refine f_wcx (q := 85) rfl (by decide) (by decide) (by decide) ((Fu_n (by decide)).trans ((Fu_n (by decide)).trans (c145_e).symm)) ?_
  exact K
end INM
