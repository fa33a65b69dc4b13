/-! THE CELLS AS ONE MEMORY, tables by program (wip/whole/gen43.py): what never changes stands in the tables; ints, longs and references that may change stand in the memory -/
/-- cells: (0, c) an object of class c; (k + 1, n) an array of kind k, n long (0: as the page is high) -/
def eT : List (Nat × Nat) := [(0, 11), (5, 4), (0, 4), (2, 0), (0, 4), (2, 0), (0, 4), (2, 0), (0, 4), (2, 0), (0, 3), (5, 8), (1, 8), (0, 4), (2, 0), (0, 4), (2, 0), (0, 4), (2, 0), (0, 4), (2, 0), (0, 4), (2, 0), (0, 4), (2, 0), (0, 4), (2, 0), (0, 4), (2, 0), (0, 0), (2, 0), (2, 0), (0, 10), (1, 80), (0, 2), (1, 10), (1, 10), (1, 10), (1, 10), (8, 6), (1, 4), (1, 4), (1, 4), (1, 4), (1, 4), (1, 4), (0, 4), (2, 0), (0, 9), (6, 7), (0, 5), (2, 64), (0, 5), (2, 64), (0, 5), (2, 64), (0, 5), (2, 64), (0, 5), (2, 64), (0, 5), (2, 64), (0, 5), (2, 64), (0, 1), (1, 256), (1, 256), (1, 256), (1, 256), (7, 256), (7, 256), (6, 512), (0, 4), (2, 0), (0, 4), (2, 0), (0, 4), (2, 0), (0, 4), (2, 0), (0, 4), (2, 0), (0, 8), (1, 256), (1, 256), (0, 4), (2, 0), (0, 4), (2, 0), (0, 6), (0, 12), (3, 16384), (3, 32768), (1, 8), (3, 4096), (3, 4096), (1, 4096), (1, 80), (1, 10), (1, 10), (4, 62), (4, 30), (1, 10), (1, 10), (1, 80), (1, 80), (1, 40000), (1, 6), (1, 6), (1, 6), (1, 6), (3, 28672), (1, 7), (1, 7), (3, 4096), (3, 4096), (3, 4096), (3, 4096), (3, 4096), (1, 256), (1, 256), (3, 4096), (3, 4096), (1, 256), (1, 256), (1, 256), (1, 256), (1, 256), (1, 256), (1, 256), (1, 256), (1, 256), (1, 256), (3, 256), (1, 256), (1, 512), (1, 512), (1, 512), (1, 512), (1, 512), (3, 512), (1, 512), (1, 512), (1, 512), (1, 512), (4, 85), (2, 1)]
/-- fields: 0 int, 1 long, 2 reference in the memory; 3 W, 4 H, 5 W * H, 6 the bits of a row; 7 the cell so far behind; 8 whether a part is an added one -/
def eFt : List (List (Nat × Nat)) := [[(4, 0), (5, 0), (7, 1), (7, 2), (0, 0), (0, 0)], [(3, 0), (4, 0), (7, 8), (7, 10), (7, 12), (7, 14), (7, 16), (7, 18), (0, 0), (0, 0), (0, 0), (7, 1), (7, 2), (7, 3), (7, 4), (7, 5), (7, 6), (0, 0), (7, 7), (0, 0)], [(7, 1), (7, 2), (0, 0), (7, 3), (7, 4), (0, 0)], [(7, 1), (7, 2), (0, 0), (0, 0)], [(3, 0), (4, 0), (6, 0), (7, 1)], [(8, 0), (7, 1), (0, 0), (0, 0), (0, 0), (0, 0), (0, 0), (0, 0), (2, 0), (0, 0), (0, 0)], [(0, 0), (0, 0), (0, 0)], [(7, 1), (7, 3), (0, 0), (0, 0), (0, 0), (0, 0), (0, 0), (0, 0), (1, 0)], [(3, 0), (4, 0), (7, 3), (7, 5), (7, 1), (7, 2), (0, 0), (0, 0), (0, 0), (0, 0), (0, 0), (0, 0), (0, 0), (0, 0)], [(7, 1), (0, 0)], [(7, 1), (0, 0)], [(3, 0), (4, 0), (7, 1), (7, 10), (7, 29), (7, 32), (7, 34), (7, 39), (0, 0), (7, 46), (7, 48), (7, 64), (0, 0), (7, 89)], [(3, 0), (4, 0), (0, 0), (7, 1), (7, 2), (7, 3), (0, 0), (7, 4), (7, 5), (7, 6), (0, 0), (0, 0), (7, 7), (0, 0), (7, 8), (7, 9), (0, 0), (7, 10), (7, 11), (7, 12), (7, 13), (7, 14), (7, 15), (0, 0), (7, 16), (0, 0), (7, 17), (7, 18), (7, 19), (7, 20), (0, 0), (7, 21), (7, 22), (7, 23), (0, 0), (0, 0), (7, 24), (7, 25), (7, 26), (7, 27), (7, 28), (0, 0), (0, 0), (0, 0), (0, 0), (0, 0), (7, 29), (7, 30), (0, 0), (0, 0), (0, 0), (0, 0), (7, 31), (7, 32), (0, 0), (0, 0), (0, 0), (7, 33), (7, 34), (0, 0), (7, 35), (7, 36), (7, 37), (7, 38), (7, 39), (7, 40), (7, 41), (7, 42), (7, 43), (7, 44), (7, 45), (7, 46), (7, 47), (7, 48), (7, 49), (7, 50), (7, 51), (7, 52), (7, 53), (0, 0), (7, 54), (7, 55)]]
def c100 : List Int32 := [98, 108, 111, 99, 107, 59, 110, 111, 105, 115, 101, 59, 106, 105, 116, 116, 101, 114, 59, 115, 112, 101, 99, 107, 108, 101, 59, 115, 101, 97, 114, 99, 104, 59, 115, 107, 101, 119, 59, 116, 117, 114, 110, 59, 111, 114, 100, 101, 114, 59, 112, 97, 105, 114, 59, 115, 116, 97, 109, 112, 115, 59]
def c101 : List Int32 := [111, 102, 102, 59, 111, 110, 59, 114, 111, 119, 115, 59, 99, 111, 108, 117, 109, 110, 115, 59, 107, 101, 101, 112, 59, 104, 105, 100, 101, 59]
def c102 : List Int32 := [4, 0, 0, 0, 0, 0, 0, 0, 1, 0]
def c103 : List Int32 := [16, 256, 2, 9, 16, 2, 1, 1, 99, 1]
def c145 : List Int32 := [115, 104, 105, 102, 116, 32, 59, 32, 115, 107, 101, 119, 32, 59, 32, 116, 117, 114, 110, 101, 100, 59, 32, 99, 104, 97, 110, 103, 101, 59, 114, 101, 109, 111, 118, 101, 100, 32, 59, 97, 100, 100, 101, 100, 32, 59, 109, 111, 118, 101, 100, 32, 59, 32, 97, 116, 32, 59, 32, 115, 105, 122, 101, 32, 59, 32, 102, 114, 111, 109, 32, 59, 32, 116, 111, 32, 59, 32, 115, 116, 97, 109, 112, 32, 59]
abbrev mM : Type := (Nat → Nat → Int32) × (Nat → Nat → Int64) × (Nat → Nat → Option Nat)
def eK (a : Nat) : Nat × Nat := if a < 147 then eT.getD a (0, 0) else match (a - 147) % 5 with | 0 => (0, 7) | 1 => (0, 5) | 2 => (2, 64) | 3 => (0, 5) | _ => (2, 64)
def eF (c j : Nat) : Nat × Nat := (eFt.getD c []).getD j (9, 0)
def eFV (W H : Nat) (m : mM) (a c j : Nat) : Value := match eF c j with
  | (0, _) => .int (m.1 a j)
  | (1, _) => .long (m.2.1 a j)
  | (2, _) => xrf (m.2.2 a j)
  | (3, _) => .int (nI W)
  | (4, _) => .int (nI H)
  | (5, _) => .int (nI (W * H))
  | (6, _) => .long (wh W)
  | (7, o) => .ref (a + o)
  | (_, _) => .int (if (a - 147) % 5 = 3 ∧ 147 ≤ a then 1 else 0)
def eCc (a : Nat) : Bool := a == 100 || (a == 101 || (a == 102 || (a == 103 || a == 145)))
def eCv (a : Nat) : List Int32 := if a = 100 then c100 else if a = 101 then c101 else if a = 102 then c102 else if a = 103 then c103 else c145
def eC (m : mM) (a : Nat) : Nat → Int32 := if eCc a = true then fun i => (eCv a).getD i 0 else m.1 a
def eRc (a : Nat) : Bool := a == 1 || (a == 11 || a == 39)
def eRv (a : Nat) : Nat → Option Nat := if a = 1 then fun i => if i < 4 then some (2 + 2 * i) else none else if a = 11 then fun i => if i < 8 then some (13 + 2 * i) else none else fun i => if i < 6 then some (40 + i) else none
def eR (m : mM) (a : Nat) : Nat → Option Nat := if eRc a = true then eRv a else m.2.2 a
def eL (H a : Nat) : Nat := if (eK a).2 = 0 then H else (eK a).2
def eA (m : mM) (a k : Nat) : (Nat → Int32) ⊕ (Nat → Int64) ⊕ (Nat → UInt32) ⊕ (Nat → UInt64) ⊕ (Nat → Option Nat) := if k = 1 then .inr (.inl (m.2.1 a)) else if k < 4 then .inl (eC m a) else .inr (.inr (.inr (.inr (eR m a))))
def eX (W H : Nat) (m : mM) (a : Nat) : xE := if (eK a).1 = 0 then .inr ((eK a).2, (List.range (xNf (eK a).2)).map (eFV W H m a (eK a).2)) else .inl ((eK a).1 - 1, eL H a, eA m a ((eK a).1 - 1))
/-- the cells: n regions were made so far -/
def E (W H n : Nat) (m : mM) : xH := (List.range (147 + 5 * n)).map (eX W H m)
def sI (m : mM) (a j : Nat) (v : Int32) : mM := (fun x y => if x = a ∧ y = j then v else m.1 x y, m.2)
def sL (m : mM) (a j : Nat) (v : Int64) : mM := (m.1, fun x y => if x = a ∧ y = j then v else m.2.1 x y, m.2.2)
def sR (m : mM) (a j : Nat) (v : Option Nat) : mM := (m.1, m.2.1, fun x y => if x = a ∧ y = j then v else m.2.2 x y)
def aI (m : mM) (a : Nat) (f : Nat → Int32) : mM := (fun x => if x = a then f else m.1 x, m.2)
def aL (m : mM) (a : Nat) (f : Nat → Int64) : mM := (m.1, fun x => if x = a then f else m.2.1 x, m.2.2)
theorem sI_1 (m : mM) (a j : Nat) (v : Int32) (x y : Nat) : (sI m a j v).1 x y = if x = a ∧ y = j then v else m.1 x y := rfl
theorem sI_2 (m : mM) (a j : Nat) (v : Int32) : (sI m a j v).2 = m.2 := Eq.trans rfl rfl
theorem sL_1 (m : mM) (a j : Nat) (v : Int64) : (sL m a j v).1 = m.1 := Eq.trans rfl rfl
theorem sL_2 (m : mM) (a j : Nat) (v : Int64) (x y : Nat) : (sL m a j v).2.1 x y = if x = a ∧ y = j then v else m.2.1 x y := rfl
theorem sL_3 (m : mM) (a j : Nat) (v : Int64) : (sL m a j v).2.2 = m.2.2 := Eq.trans rfl rfl
theorem sR_1 (m : mM) (a j : Nat) (v : Option Nat) : (sR m a j v).1 = m.1 := Eq.trans rfl rfl
theorem sR_2 (m : mM) (a j : Nat) (v : Option Nat) : (sR m a j v).2.1 = m.2.1 := Eq.trans rfl rfl
theorem sR_3 (m : mM) (a j : Nat) (v : Option Nat) (x y : Nat) : (sR m a j v).2.2 x y = if x = a ∧ y = j then v else m.2.2 x y := rfl
theorem aI_1 (m : mM) (a : Nat) (f : Nat → Int32) (x : Nat) : (aI m a f).1 x = if x = a then f else m.1 x := rfl
theorem aI_2 (m : mM) (a : Nat) (f : Nat → Int32) : (aI m a f).2 = m.2 := Eq.trans rfl rfl
theorem aL_1 (m : mM) (a : Nat) (f : Nat → Int64) : (aL m a f).1 = m.1 := Eq.trans rfl rfl
theorem aL_2 (m : mM) (a : Nat) (f : Nat → Int64) (x : Nat) : (aL m a f).2.1 x = if x = a then f else m.2.1 x := rfl
theorem aL_3 (m : mM) (a : Nat) (f : Nat → Int64) : (aL m a f).2.2 = m.2.2 := Eq.trans rfl rfl
theorem sI_ne {m : mM} {a j : Nat} {v : Int32} {x y : Nat} (h : ¬ (x = a ∧ y = j)) : (sI m a j v).1 x y = m.1 x y := if_neg h
theorem sI_eq {m : mM} {a j : Nat} {v : Int32} {x y : Nat} (h : x = a ∧ y = j) : (sI m a j v).1 x y = v := if_pos h
theorem sL_ne {m : mM} {a j : Nat} {v : Int64} {x y : Nat} (h : ¬ (x = a ∧ y = j)) : (sL m a j v).2.1 x y = m.2.1 x y := if_neg h
theorem sL_eq {m : mM} {a j : Nat} {v : Int64} {x y : Nat} (h : x = a ∧ y = j) : (sL m a j v).2.1 x y = v := if_pos h
theorem sR_ne {m : mM} {a j : Nat} {v : Option Nat} {x y : Nat} (h : ¬ (x = a ∧ y = j)) : (sR m a j v).2.2 x y = m.2.2 x y := if_neg h
theorem sR_eq {m : mM} {a j : Nat} {v : Option Nat} {x y : Nat} (h : x = a ∧ y = j) : (sR m a j v).2.2 x y = v := if_pos h
theorem aI_ne {m : mM} {a : Nat} {f : Nat → Int32} {x : Nat} (h : ¬ x = a) : (aI m a f).1 x = m.1 x := if_neg h
theorem aI_eq {m : mM} {a : Nat} {f : Nat → Int32} {x : Nat} (h : x = a) : (aI m a f).1 x = f := if_pos h
theorem aL_ne {m : mM} {a : Nat} {f : Nat → Int64} {x : Nat} (h : ¬ x = a) : (aL m a f).2.1 x = m.2.1 x := if_neg h
theorem aL_eq {m : mM} {a : Nat} {f : Nat → Int64} {x : Nat} (h : x = a) : (aL m a f).2.1 x = f := if_pos h
theorem mM_ext {m m' : mM} (h1 : ∀ a j, m.1 a j = m'.1 a j) (h2 : ∀ a j, m.2.1 a j = m'.2.1 a j) (h3 : ∀ a j, m.2.2 a j = m'.2.2 a j) : m = m' := Prod.ext (funext fun a => funext fun j => h1 a j) (Prod.ext (funext fun a => funext fun j => h2 a j) (funext fun a => funext fun j => h3 a j))
theorem aI_upd (m : mM) (b i : Nat) (v : Int32) : aI m b (upd (m.1 b) i v) = sI m b i v := mM_ext (fun a j => by
  show (if a = b then upd (m.1 b) i v else m.1 a) j = if a = b ∧ j = i then v else m.1 a j
  by_cases c : a = b
  · subst c
    rw [if_pos rfl]
    unfold upd
    by_cases d : j = i
    · rw [if_pos d, if_pos ⟨rfl, d⟩]
    · rw [if_neg d, if_neg (fun q => d q.2)]
  · rw [if_neg c, if_neg (fun q => c q.1)]) (fun _ _ => rfl) (fun _ _ => rfl)
theorem aL_upd (m : mM) (b i : Nat) (v : Int64) : aL m b (vp_updL (m.2.1 b) i v) = sL m b i v := mM_ext (fun _ _ => rfl) (fun a j => by
  show (if a = b then vp_updL (m.2.1 b) i v else m.2.1 a) j = if a = b ∧ j = i then v else m.2.1 a j
  by_cases c : a = b
  · subst c
    rw [if_pos rfl]
    unfold vp_updL
    by_cases d : j = i
    · rw [if_pos d, if_pos ⟨rfl, d⟩]
    · rw [if_neg d, if_neg (fun q => d q.2)]
  · rw [if_neg c, if_neg (fun q => c q.1)]) (fun _ _ => rfl)
theorem aI_aI (m : mM) (b : Nat) (f g : Nat → Int32) : aI (aI m b f) b g = aI m b g := mM_ext (fun a j => by
  show (if a = b then g else if a = b then f else m.1 a) j = (if a = b then g else m.1 a) j
  by_cases c : a = b
  · rw [if_pos c, if_pos c]
  · rw [if_neg c, if_neg c, if_neg c]) (fun _ _ => rfl) (fun _ _ => rfl)
theorem aL_aL (m : mM) (b : Nat) (f g : Nat → Int64) : aL (aL m b f) b g = aL m b g := mM_ext (fun _ _ => rfl) (fun a j => by
  show (if a = b then g else if a = b then f else m.2.1 a) j = (if a = b then g else m.2.1 a) j
  by_cases c : a = b
  · rw [if_pos c, if_pos c]
  · rw [if_neg c, if_neg c, if_neg c]) (fun _ _ => rfl)
theorem aI_self (m : mM) (b : Nat) {f : Nat → Int32} (h : m.1 b = f) : aI m b f = m := mM_ext (fun a j => by
  show (if a = b then f else m.1 a) j = m.1 a j
  by_cases c : a = b
  · rw [if_pos c, ← h, c]
  · rw [if_neg c]) (fun _ _ => rfl) (fun _ _ => rfl)
theorem aL_self (m : mM) (b : Nat) {f : Nat → Int64} (h : m.2.1 b = f) : aL m b f = m := mM_ext (fun _ _ => rfl) (fun a j => by
  show (if a = b then f else m.2.1 a) j = m.2.1 a j
  by_cases c : a = b
  · rw [if_pos c, ← h, c]
  · rw [if_neg c]) (fun _ _ => rfl)
theorem sI_sI (m : mM) (a j : Nat) (v w : Int32) : sI (sI m a j v) a j w = sI m a j w := mM_ext (fun x y => by
  rw [sI_1, sI_1, sI_1]
  by_cases c : x = a ∧ y = j
  · rw [if_pos c, if_pos c]
  · rw [if_neg c, if_neg c, if_neg c]) (fun _ _ => rfl) (fun _ _ => rfl)
section EE
variable {W H n : Nat} {m : mM} {a b c j : Nat}
theorem E_len : (E W H n m).length = 147 + 5 * n := by unfold E; rw [List.length_map, List.length_range]
theorem E_at (ha : a < 147 + 5 * n) : (E W H n m)[a]? = some (eX W H m a) := by unfold E; rw [List.getElem?_map, List.getElem?_range ha]; rfl
theorem E_no (ha : 147 + 5 * n ≤ a) : (E W H n m)[a]? = none := by rw [List.getElem?_eq_none_iff, E_len]; exact ha
theorem eX_o (hk : eK a = (0, c)) : eX W H m a = .inr (c, (List.range (xNf c)).map (eFV W H m a c)) := by unfold eX; rw [hk]; exact if_pos rfl
theorem eX_a {k l : Nat} (hk : eK a = (k + 1, l)) : eX W H m a = .inl (k, eL H a, eA m a k) := by unfold eX; rw [hk]; exact if_neg (Nat.succ_ne_zero k)
theorem E_G (ha : a < 147 + 5 * n) (hk : eK a = (0, c)) (hj : j < xNf c) : xG (E W H n m) a c j = some (eFV W H m a c j) := by
  rw [xG_of (by rw [E_at ha, eX_o hk]), List.getElem?_map, List.getElem?_range hj]
  rfl
theorem E_B {k l : Nat} (ha : b < 147 + 5 * n) (hk : eK b = (k + 1, l)) : xB (E W H n m) b = some (k, eL H b, eA m b k) := xB_of (by rw [E_at ha, eX_a hk])
theorem E_ext {e : xH} (hl : e.length = 147 + 5 * n) (h : ∀ i, i < 147 + 5 * n → e[i]? = some (eX W H m i)) : e = E W H n m := by
  apply List.ext_getElem?
  intro i
  by_cases q : i < 147 + 5 * n
  · rw [h i q, E_at q]
  · rw [E_no (by omega), List.getElem?_eq_none_iff]
    omega
theorem eFV_cong {m m' : mM} (h1 : m.1 a = m'.1 a) (h2 : m.2.1 a = m'.2.1 a) (h3 : m.2.2 a = m'.2.2 a) : eFV W H m a c j = eFV W H m' a c j := by unfold eFV; rw [h1, h2, h3]
theorem eX_cong {m m' : mM} (h1 : m.1 a = m'.1 a) (h2 : m.2.1 a = m'.2.1 a) (h3 : m.2.2 a = m'.2.2 a) : eX W H m a = eX W H m' a := by
  unfold eX eA eC eR
  rw [h1, h2, h3]
  split
  · congr 2
    exact List.map_congr_left fun j _ => eFV_cong h1 h2 h3
  · rfl
theorem E_set (ha : a < 147 + 5 * n) {m' : mM} {e : xE} (hx : e = eX W H m' a) (ho : ∀ i, i ≠ a → m.1 i = m'.1 i ∧ m.2.1 i = m'.2.1 i ∧ m.2.2 i = m'.2.2 i) : (E W H n m).set a e = E W H n m' := by
  refine E_ext (by rw [List.length_set, E_len]) fun i hi => ?_
  rw [xget_set _ _ _ _ (by rw [E_at ha]; exact fun q => nomatch q)]
  by_cases q : i = a
  · rw [if_pos q, hx, q]
  · obtain ⟨h1, h2, h3⟩ := ho i q
    rw [if_neg q, E_at hi, eX_cong h1 h2 h3]
theorem set_map {α : Type} (f g : Nat → α) (N j : Nat) (hj : j < N) (hg : ∀ i, i ≠ j → f i = g i) : ((List.range N).map f).set j (g j) = (List.range N).map g := by
  apply List.ext_getElem?
  intro i
  rw [List.getElem?_set, List.getElem?_map, List.getElem?_map]
  by_cases q : j = i
  · subst q
    rw [if_pos rfl, if_pos (by rw [List.length_map, List.length_range]; exact hj), List.getElem?_range hj]
    rfl
  · rw [if_neg q]
    by_cases r : i < N
    · rw [List.getElem?_range r]
      exact congrArg some (hg i (Ne.symm q))
    · rw [List.getElem?_eq_none_iff.mpr (by rw [List.length_range]; omega)]
      rfl
/-- a field written -/
theorem E_fld (ha : a < 147 + 5 * n) (hk : eK a = (0, c)) (hj : j < xNf c) {m' : mM} (ho : ∀ i, i ≠ a → m.1 i = m'.1 i ∧ m.2.1 i = m'.2.1 i ∧ m.2.2 i = m'.2.2 i) (hf : ∀ i, i ≠ j → eFV W H m a c i = eFV W H m' a c i) {ini : Bool} {k : Nat} {v : Value} (hv : eFV W H m' a c j = v) (hp : xPok ini k c j v = true) : xP ini k (E W H n m) a c j v = some (E W H n m') := by
  unfold xP
  rw [E_at ha, eX_o hk]
  (try dsimp only)
  rw [if_pos ⟨rfl, by rw [List.length_map, List.length_range]; exact hj, hp⟩]
  congr 1
  refine E_set ha ?_ ho
  rw [eX_o hk, ← hv]
  congr 2
  exact set_map _ _ _ _ hj hf
theorem eFV_0 (hf : (eF c j).1 = 0) : eFV W H m a c j = .int (m.1 a j) := by unfold eFV; split <;> simp_all
theorem eFV_1 (hf : (eF c j).1 = 1) : eFV W H m a c j = .long (m.2.1 a j) := by unfold eFV; split <;> simp_all
theorem eFV_2 (hf : (eF c j).1 = 2) : eFV W H m a c j = xrf (m.2.2 a j) := by unfold eFV; split <;> simp_all
theorem eFV_3 (hf : (eF c j).1 = 3) : eFV W H m a c j = .int (nI W) := by unfold eFV; split <;> simp_all
theorem eFV_4 (hf : (eF c j).1 = 4) : eFV W H m a c j = .int (nI H) := by unfold eFV; split <;> simp_all
theorem eFV_5 (hf : (eF c j).1 = 5) : eFV W H m a c j = .int (nI (W * H)) := by unfold eFV; split <;> simp_all
theorem eFV_6 (hf : (eF c j).1 = 6) : eFV W H m a c j = .long (wh W) := by unfold eFV; split <;> simp_all
theorem eFV_7 {o : Nat} (hf : eF c j = (7, o)) : eFV W H m a c j = .ref (a + o) := by unfold eFV; split <;> simp_all
theorem eFV_8 (hf : (eF c j).1 = 8) : eFV W H m a c j = .int (if (a - 147) % 5 = 3 ∧ 147 ≤ a then 1 else 0) := by unfold eFV; split <;> simp_all
theorem eFV_c {m m' : mM} {i : Nat} (h1 : m.1 a i = m'.1 a i) (h2 : m.2.1 a i = m'.2.1 a i) (h3 : m.2.2 a i = m'.2.2 a i) : eFV W H m a c i = eFV W H m' a c i := by unfold eFV; rw [h1, h2, h3]
/-- fields of a memory that differs at one field of ints -/
theorem eFV_sI {v : Int32} {i : Nat} (q : i ≠ j) : eFV W H m a c i = eFV W H (sI m a j v) a c i := eFV_c (by rw [sI_1, if_neg (fun w => q w.2)]) rfl rfl
theorem eFV_sL {v : Int64} {i : Nat} (q : i ≠ j) : eFV W H m a c i = eFV W H (sL m a j v) a c i := eFV_c rfl (by rw [sL_2, if_neg (fun w => q w.2)]) rfl
theorem eFV_sR {v : Option Nat} {i : Nat} (q : i ≠ j) : eFV W H m a c i = eFV W H (sR m a j v) a c i := eFV_c rfl rfl (by rw [sR_3, if_neg (fun w => q w.2)])
theorem sI_o {v : Int32} : ∀ i, i ≠ a → m.1 i = (sI m a j v).1 i ∧ m.2.1 i = (sI m a j v).2.1 i ∧ m.2.2 i = (sI m a j v).2.2 i := fun i q => ⟨funext fun y => by rw [sI_1, if_neg (fun w => q w.1)], rfl, rfl⟩
theorem sL_o {v : Int64} : ∀ i, i ≠ a → m.1 i = (sL m a j v).1 i ∧ m.2.1 i = (sL m a j v).2.1 i ∧ m.2.2 i = (sL m a j v).2.2 i := fun i q => ⟨rfl, funext fun y => by rw [sL_2, if_neg (fun w => q w.1)], rfl⟩
theorem sR_o {v : Option Nat} : ∀ i, i ≠ a → m.1 i = (sR m a j v).1 i ∧ m.2.1 i = (sR m a j v).2.1 i ∧ m.2.2 i = (sR m a j v).2.2 i := fun i q => ⟨rfl, rfl, funext fun y => by rw [sR_3, if_neg (fun w => q w.1)]⟩
theorem aL_o {f : Nat → Int64} : ∀ i, i ≠ a → m.1 i = (aL m a f).1 i ∧ m.2.1 i = (aL m a f).2.1 i ∧ m.2.2 i = (aL m a f).2.2 i := fun i q => ⟨rfl, by rw [aL_2, if_neg q], rfl⟩
theorem aI_o {f : Nat → Int32} : ∀ i, i ≠ a → m.1 i = (aI m a f).1 i ∧ m.2.1 i = (aI m a f).2.1 i ∧ m.2.2 i = (aI m a f).2.2 i := fun i q => ⟨by rw [aI_1, if_neg q], rfl, rfl⟩
/-- an array's content written -/
theorem E_aI {k l : Nat} (ha : a < 147 + 5 * n) (hk : eK a = (k + 1, l)) (h1 : k = 0 ∨ k = 2 ∨ k = 3) (h2 : eCc a = false) (f : Nat → Int32) : (E W H n m).set a (.inl (k, eL H a, .inl f)) = E W H n (aI m a f) := by
  refine E_set ha ?_ aI_o
  rw [eX_a hk]
  congr 3
  unfold eA eC
  rw [if_neg (by omega), if_pos (by omega), h2, aI_1, if_pos rfl]
  rfl
theorem E_aL {l : Nat} (ha : a < 147 + 5 * n) (hk : eK a = (2, l)) (f : Nat → Int64) : (E W H n m).set a (.inl (1, eL H a, .inr (.inl f))) = E W H n (aL m a f) := by
  refine E_set ha ?_ aL_o
  rw [eX_a hk]
  congr 3
  unfold eA
  rw [if_pos rfl, aL_2, if_pos rfl]
theorem E_aR {k l i : Nat} {v : Option Nat} (ha : a < 147 + 5 * n) (hk : eK a = (k + 1, l)) (h1 : 4 ≤ k) (h2 : eRc a = false) : (E W H n m).set a (.inl (k, eL H a, .inr (.inr (.inr (.inr (va_up (eR m a) i v)))))) = E W H n (sR m a i v) := by
  refine E_set ha ?_ sR_o
  rw [eX_a hk]
  congr 3
  unfold eA eR
  rw [if_neg (show ¬ k = 1 by omega), if_neg (show ¬ k < 4 by omega), h2]
  congr 4
  funext x
  show (if x = i then v else m.2.2 a x) = if a = a ∧ x = i then v else m.2.2 a x
  by_cases q : x = i
  · rw [if_pos q, if_pos ⟨rfl, q⟩]
  · rw [if_neg q, if_neg (fun w => q w.2)]
theorem xA_E {l : Nat} (ha : a < 147 + 5 * n) (hk : eK a = (2, l)) {L : Nat} (hl : eL H a = L) (f : Nat → Int64) : xA (E W H n m) a (lA L f) = E W H n (aL m a f) := by
  unfold xA
  rw [E_at ha, eX_a hk]
  subst hl
  exact E_aL ha hk f
theorem eA_1 : eA m a 1 = .inr (.inl (m.2.1 a)) := rfl
theorem eA_i {k : Nat} (h1 : k = 0 ∨ k = 2 ∨ k = 3) (h2 : eCc a = false) : eA m a k = .inl (m.1 a) := by unfold eA eC; rw [if_neg (by omega), if_pos (by omega), h2]; rfl
theorem eA_c {k : Nat} (h1 : k = 0 ∨ k = 2 ∨ k = 3) (h2 : eCc a = true) : eA m a k = .inl (fun i => (eCv a).getD i 0) := by unfold eA eC; rw [if_neg (by omega), if_pos (by omega), if_pos h2]
theorem eA_r {k : Nat} (h1 : 4 ≤ k) : eA m a k = .inr (.inr (.inr (.inr (eR m a)))) := by unfold eA; rw [if_neg (by omega), if_neg (by omega)]
end EE
