/-! REGISTRATION: WHAT IS COMPARED -/
/-- a pixel of the scan, turned and skewed -/
def tbit (W H : Nat) (S : Nat → Int64) (t : Bool) (s : Int) (x y : Nat) : Bool :=
  let fx : Int := (x : Int) + (s * (y : Int)) / 16
  decide (0 ≤ fx ∧ fx < W) && (if t then lb (S (H - 1 - y)) (W - 1 - fx.toNat) else lb (S y) fx.toNat)
def isT (W H : Nat) (S : Nat → Int64) (t : Bool) (s : Int) (Tr : Nat → Int64) : Prop := okP W H Tr ∧ ∀ y x, y < H → x < W → lb (Tr y) x = tbit W H S t s x y
theorem isT_one {W H : Nat} {S : Nat → Int64} {t : Bool} {s : Int} {A B : Nat → Int64} (h : isT W H S t s A) (g : isT W H S t s B) : A = B := by
  funext y
  apply lb_ext
  intro x _
  by_cases c : x < W ∧ y < H
  · rw [h.2 y x c.2 c.1, g.2 y x c.2 c.1]
  · cases ha : lb (A y) x
    · cases hb : lb (B y) x
      · rfl
      · exact absurd (g.1 y x hb) c
    · exact absurd (h.1 y x ha) c
/-- the mismatch of a shift -/
def mmP (W H : Nat) (O T : Nat → Int64) (dx dy : Int) (k : Nat) : Bool := decide (k % 64 < W ∧ k / 64 < H) && (px O k != atP W H T ((k % 64 : Nat) + dx) ((k / 64 : Nat) + dy))
def mm (W H : Nat) (O T : Nat → Int64) (dx dy : Int) : Nat := fb_ct (mmP W H O T dx dy) 4096
/-- the ink of a cell -/
def cc (f : Nat → Int64) (i j : Nat) : Nat := fb_ct (fun k => px f k && decide (k % 64 / 4 = i ∧ k / 64 / 4 = j)) 4096
/-- the ink of a cell, wherever -/
def ccZ (W H : Nat) (f : Nat → Int64) (i j : Int) : Nat := if 0 ≤ i ∧ 4 * i < W ∧ 0 ≤ j ∧ 4 * j < H then cc f i.toNat j.toNat else 0
def coC (W : Nat) : Nat := (W + 3) / 4
def cost (W H : Nat) (O T : Nat → Int64) (a b : Int) : Nat := fb_sm (fun j => fb_sm (fun i => ((cc O i j : Int) - ccZ W H T (i + a) (j + b)).natAbs) (coC W)) (coC H)
/-- what decides between two shifts -/
def key (c : Int → Int → Nat) (a b : Int) : Int := ((((c a b : Int) * 64 + (a.natAbs + b.natAbs : Nat)) * 64 + (b + 32)) * 64) + (a + 32)
/-- key by key -/
theorem key_lt {c : Int → Int → Nat} {a b x y : Int} (ha : -31 ≤ a ∧ a ≤ 31 ∧ -31 ≤ b ∧ b ≤ 31) (hx : -31 ≤ x ∧ x ≤ 31 ∧ -31 ≤ y ∧ y ≤ 31) : key c a b < key c x y ↔ c a b < c x y ∨ c a b = c x y ∧ (a.natAbs + b.natAbs < x.natAbs + y.natAbs ∨ a.natAbs + b.natAbs = x.natAbs + y.natAbs ∧ (b < y ∨ b = y ∧ a < x)) := by
  unfold key
  omega
theorem key_inj {c : Int → Int → Nat} {a b x y : Int} (ha : -31 ≤ a ∧ a ≤ 31 ∧ -31 ≤ b ∧ b ≤ 31) (hx : -31 ≤ x ∧ x ≤ 31 ∧ -31 ≤ y ∧ y ≤ 31) (h : key c a b = key c x y) : a = x ∧ b = y := by
  unfold key at h
  omega
/-- within a reach -/
def inR (r : Int) (a b : Int) : Prop := -r ≤ a ∧ a ≤ r ∧ -r ≤ b ∧ b ≤ r
/-- the fine stage's shifts -/
def inF (r ca cb a b : Int) : Prop := 4 * ca - 3 ≤ a ∧ a ≤ 4 * ca + 3 ∧ 4 * cb - 3 ≤ b ∧ b ≤ 4 * cb + 3 ∧ inR r a b
/-- the best of both stages for one turn and one skew -/
def best1 (W H : Nat) (O T : Nat → Int64) (r : Int) (dx dy : Int) : Prop := ∃ ca cb, bs (key (cost W H O T)) (inR (r / 4)) ca cb ∧ bs (key (mm W H O T)) (inF r ca cb) dx dy
theorem best1_one {W H : Nat} {O T : Nat → Int64} {r dx dy ex ey : Int} (hr : 0 ≤ r ∧ r ≤ 16) (h : best1 W H O T r dx dy) (g : best1 W H O T r ex ey) : dx = ex ∧ dy = ey := by
  obtain ⟨a, b, h1, h2⟩ := h
  obtain ⟨c, d, g1, g2⟩ := g
  obtain ⟨rfl, rfl⟩ := bs_one (fun a b x y p q => key_inj (by unfold inR at p; omega) (by unfold inR at q; omega)) h1 g1
  exact bs_one (fun a b x y p q => key_inj (by unfold inF inR at p; omega) (by unfold inF inR at q; omega)) h2 g2
/-- the skews in the order in which they are tried -/
def skw (k : Nat) : Int := if k % 2 = 1 then -((k : Int) + 1) / 2 else (k : Int) / 2
/-- the choice among all: cost, turn, place of the skew, shift -/
def chT : Type := Nat × Bool × Nat × Int × Int
/-- what one try gives -/
def tryP (W H : Nat) (O S : Nat → Int64) (r : Int) (t : Bool) (k : Nat) (c : Nat) (dx dy : Int) : Prop := ∃ T, isT W H S t (skw k) T ∧ best1 W H O T r dx dy ∧ c = mm W H O T dx dy
theorem tryP_one {W H : Nat} {O S : Nat → Int64} {r : Int} {t : Bool} {k c c' : Nat} {dx dy ex ey : Int} (hr : 0 ≤ r ∧ r ≤ 16) (h : tryP W H O S r t k c dx dy) (g : tryP W H O S r t k c' ex ey) : c = c' ∧ dx = ex ∧ dy = ey := by
  obtain ⟨A, h1, h2, h3⟩ := h
  obtain ⟨B, g1, g2, g3⟩ := g
  have := isT_one h1 g1
  subst this
  obtain ⟨rfl, rfl⟩ := best1_one hr h2 g2
  exact ⟨h3.trans g3.symm, rfl, rfl⟩
