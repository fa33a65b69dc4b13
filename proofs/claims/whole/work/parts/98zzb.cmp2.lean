/-! COMPARE: the data of a comparison -/
noncomputable def qP (W H : Nat) (Ms Ad : Nat → Int64) (B noise : Nat) : Nat → Bool := chB (coB W B) (coB H B) (blN Ms Ad B) noise
noncomputable def qN (W H : Nat) (Ms Ad : Nat → Int64) (B noise : Nat) : Nat := nS ba (qP W H Ms Ad B noise) 256
noncomputable def qX (W H : Nat) (Ms Ad : Nat → Int64) (B noise q : Nat) : Nat × Nat × Nat × Nat := bxC (rgU W H Ms Ad (qP W H Ms Ad B noise) B q)
noncomputable def qL (W H : Nat) (Ms Ad : Nat → Int64) (B noise q : Nat) : Nat := (qX W H Ms Ad B noise q).1
noncomputable def qT (W H : Nat) (Ms Ad : Nat → Int64) (B noise q : Nat) : Nat := (qX W H Ms Ad B noise q).2.1
noncomputable def qR (W H : Nat) (Ms Ad : Nat → Int64) (B noise q : Nat) : Nat := (qX W H Ms Ad B noise q).2.2.1
noncomputable def qB (W H : Nat) (Ms Ad : Nat → Int64) (B noise q : Nat) : Nat := (qX W H Ms Ad B noise q).2.2.2
noncomputable def qG (W H : Nat) (Ms Ad : Nat → Int64) (B noise : Nat) (od : Bool) : Nat → Nat := G2 (kf od (qL W H Ms Ad B noise) (qT W H Ms Ad B noise)) (kf od (qT W H Ms Ad B noise) (qL W H Ms Ad B noise)) (kf od (qR W H Ms Ad B noise) (qB W H Ms Ad B noise)) (qN W H Ms Ad B noise)
noncomputable def qO (W H : Nat) (Ms Ad : Nat → Int64) (B noise : Nat) (od : Bool) : Nat → Nat := oG (qG W H Ms Ad B noise od) (qN W H Ms Ad B noise)
noncomputable def qM (W H : Nat) (Ms Ad : Nat → Int64) (B noise : Nat) (od : Bool) : Nat → Nat := po (qG W H Ms Ad B noise od) (qN W H Ms Ad B noise)
noncomputable def qF (W H : Nat) (Ms Ad : Nat → Int64) (B noise : Nat) (od : Bool) : Nat → Nat → Int64 := PFm W H Ms Ad (qP W H Ms Ad B noise) B (qO W H Ms Ad B noise od)
noncomputable def qA (W H : Nat) (Ms Ad : Nat → Int64) (B noise : Nat) (od : Bool) (lst : Nat) : (Nat → Bool) × (Nat → Option Nat) := prL (qF W H Ms Ad B noise od) (qN W H Ms Ad B noise) lst (qN W H Ms Ad B noise)
theorem qP_lt {W H B noise k : Nat} {Ms Ad : Nat → Int64} (hH8 : 8 ≤ H) (hH : H ≤ 64) (hB : 4 ≤ B) (hB2 : B ≤ 16) (h : qP W H Ms Ad B noise k = true) : k < 256 := by
  have := (coB_le hH8 hH hB hB2).2
  have := (of_decide_eq_true h).2.1
  omega
theorem qN_le (W H : Nat) (Ms Ad : Nat → Int64) (B noise : Nat) : qN W H Ms Ad B noise ≤ 128 := nS_128 _
theorem qG_inj (W H : Nat) (Ms Ad : Nat → Int64) (B noise : Nat) (od : Bool) : ∀ a b, a < qN W H Ms Ad B noise → b < qN W H Ms Ad B noise → qG W H Ms Ad B noise od a = qG W H Ms Ad B noise od b → a = b := G2_inj (Nat.le_trans (qN_le W H Ms Ad B noise) (by decide))
theorem qO_lt (W H : Nat) (Ms Ad : Nat → Int64) (B noise : Nat) (od : Bool) : ∀ i, i < qN W H Ms Ad B noise → qO W H Ms Ad B noise od i < qN W H Ms Ad B noise := (oG_s (qG_inj W H Ms Ad B noise od)).1
theorem qM_O (W H : Nat) (Ms Ad : Nat → Int64) (B noise : Nat) (od : Bool) : ∀ i, i < qN W H Ms Ad B noise → qM W H Ms Ad B noise od (qO W H Ms Ad B noise od i) = i := fun i hi => po_o (qG_inj W H Ms Ad B noise od) hi
theorem qO_M (W H : Nat) (Ms Ad : Nat → Int64) (B noise : Nat) (od : Bool) : ∀ q, q < qN W H Ms Ad B noise → qM W H Ms Ad B noise od q < qN W H Ms Ad B noise ∧ qO W H Ms Ad B noise od (qM W H Ms Ad B noise od q) = q := fun q hq => po_s (qG_inj W H Ms Ad B noise od) hq
theorem qO_inj (W H : Nat) (Ms Ad : Nat → Int64) (B noise : Nat) (od : Bool) : ∀ i j, i < qN W H Ms Ad B noise → j < qN W H Ms Ad B noise → qO W H Ms Ad B noise od i = qO W H Ms Ad B noise od j → i = j := fun i j hi hj e => by
  rw [← qM_O W H Ms Ad B noise od i hi, e, qM_O W H Ms Ad B noise od j hj]
theorem qX_box {W H : Nat} {Ms Ad : Nat → Int64} {B noise q l t r b : Nat} (h : isBox (rgU W H Ms Ad (qP W H Ms Ad B noise) B q) l t r b) : qL W H Ms Ad B noise q = l ∧ qT W H Ms Ad B noise q = t ∧ qR W H Ms Ad B noise q = r ∧ qB W H Ms Ad B noise q = b := by
  unfold qL qT qR qB qX
  rw [bxC_eq h]
  exact ⟨rfl, rfl, rfl, rfl⟩
/-- what a comparison works out of the cleaned pages: the registration, the aligned page, the differences -/
def cmS (W H : Nat) (R : Nat → Nat → Int64) (Z : ((Nat → Nat) × Nat × (Nat → Nat))) (c : Nat) (K : Nat → Nat → Int32) (O C T Al Ms Ad : Nat → Int64) (t : Bool) (k cc : Nat) (dx dy : Int) : Prop :=
  okP W H O ∧ okP W H C ∧ desB (R 0) (Z.1 3 : Nat) O ∧ desB (R 1) (Z.1 3 : Nat) C ∧ chO W H O C (Z.1 4 : Nat) (trP (Z.1 5) (Z.1 6 + 1) 0) t k cc dx dy ∧ isT W H C t (skw k) T ∧ gB W H (algF W H T dx dy) Al ∧ gB W H (msF W H O Al (Z.1 2) c K) Ms ∧ gB W H (msF W H Al O (Z.1 2) c K) Ad
theorem skw_rng {k : Nat} (h : k ≤ 4) : -2 ≤ skw k ∧ skw k ≤ 2 := by
  unfold skw
  by_cases c : k % 2 = 1
  · rw [if_pos c]; omega
  · rw [if_neg c]; omega
theorem cmS_dj {W H : Nat} (hW : W ≤ 64) {O Al Ms Ad : Nat → Int64} {far far2 c : Nat} {K : Nat → Nat → Int32} (oO : okP W H O) (oA : okP W H Al) (h1 : gB W H (msF W H O Al far c K) Ms) (h2 : gB W H (msF W H Al O far2 c K) Ad) : ∀ k, ¬ (px Ms k = true ∧ px Ad k = true) := fun k ⟨g1, g2⟩ => by
  have kk := h1.1 _ _ g1
  rw [gB_on h1 kk] at g1
  rw [gB_on h2 kk] at g2
  unfold msF at g1 g2
  rw [Bool.and_eq_true, Bool.and_eq_true] at g1 g2
  have a1 := g1.1.2
  have a2 := g2.1.1
  have : nrB W H Al far (k / 64) (k % 64) = true := pB_iff.mpr ⟨((k / 64 : Nat) : Int), ((k % 64 : Nat) : Int), by omega, by omega, by omega, by omega, by rw [atP_n kk.1 kk.2]; exact a2⟩
  rw [this] at a1
  cases a1
theorem cmS_ok {W H : Nat} {R : Nat → Nat → Int64} {Z : ((Nat → Nat) × Nat × (Nat → Nat))} {c : Nat} {K : Nat → Nat → Int32} {O C T Al Ms Ad : Nat → Int64} {t : Bool} {k cc : Nat} {dx dy : Int} (X : cmS W H R Z c K O C T Al Ms Ad t k cc dx dy) : okP W H T ∧ okP W H Al ∧ okP W H Ms ∧ okP W H Ad := ⟨X.2.2.2.2.2.1.1, X.2.2.2.2.2.2.1.1, X.2.2.2.2.2.2.2.1.1, X.2.2.2.2.2.2.2.2.1⟩
theorem desB_one {W H : Nat} (hH : H ≤ 64) {f g h : Nat → Int64} {s : Int} (og : okP W H g) (oh : okP W H h) (a : desB f s g) (b : desB f s h) : g = h := px_ext hH og oh (fun k _ => by rw [a k, b k])
theorem cmS_one {W H : Nat} (hH : H ≤ 64) {R : Nat → Nat → Int64} {Z : ((Nat → Nat) × Nat × (Nat → Nat))} (z4 : Z.1 4 ≤ 16) {c : Nat} {K : Nat → Nat → Int32} {O C T Al Ms Ad O' C' T' Al' Ms' Ad' : Nat → Int64} {t t' : Bool} {k cc k' cc' : Nat} {dx dy dx' dy' : Int} (X : cmS W H R Z c K O C T Al Ms Ad t k cc dx dy) (Y : cmS W H R Z c K O' C' T' Al' Ms' Ad' t' k' cc' dx' dy') : O = O' ∧ C = C' ∧ T = T' ∧ Al = Al' ∧ Ms = Ms' ∧ Ad = Ad' ∧ t = t' ∧ k = k' ∧ cc = cc' ∧ dx = dx' ∧ dy = dy' := by
  obtain ⟨x1, x2, x3, x4, x5, x6, x7, x8, x9⟩ := X
  obtain ⟨y1, y2, y3, y4, y5, y6, y7, y8, y9⟩ := Y
  have eO := desB_one hH x1 y1 x3 y3
  have eC := desB_one hH x2 y2 x4 y4
  subst eO
  subst eC
  obtain ⟨r1, r2, r3, r4, r5⟩ := chO_one (by omega) x5 y5
  subst r1 r2 r3 r4 r5
  have eT := isT_one x6 y6
  subst eT
  have eA := gB_one x7 y7
  subst eA
  exact ⟨rfl, rfl, rfl, rfl, gB_one x8 y8, gB_one x9 y9, rfl, rfl, rfl, rfl, rfl⟩
/-- the class's memory after a comparison -/
def cmC (m : mM) (W H n : Nat) (O T Al Ms Ad : Nat → Int64) (B noise lst : Nat) (od hd : Bool) (St : stT) (cnt : Nat) (dx dy sk : Int) (tu : Bool) (cc : Nat) : Prop :=
  qN W H Ms Ad B noise ≤ n ∧ m.2.1 73 = O ∧ m.2.1 88 = T ∧ blC m W H B (blN Ms Ad B) ∧ (∀ b, b < coB W B * coB H B → m.1 66 b = labV (qP W H Ms Ad B noise) (phi (coB W B) b)) ∧ m.1 64 17 = nI (qN W H Ms Ad B noise) ∧ (m.1 82 6 = zI dx ∧ m.1 82 7 = zI dy ∧ m.1 82 8 = zI sk ∧ m.1 82 9 = bz tu ∧ m.1 82 10 = nI cc) ∧ rgZ m (qN W H Ms Ad B noise) (qL W H Ms Ad B noise) (qT W H Ms Ad B noise) (qR W H Ms Ad B noise) (qB W H Ms Ad B noise) ∧ (∀ i, i < qN W H Ms Ad B noise → m.1 (147 + 5 * qO W H Ms Ad B noise od i) 6 = nI i ∧ m.1 (147 + 5 * qO W H Ms Ad B noise od i + 1) 7 = nI i ∧ m.1 (147 + 5 * qO W H Ms Ad B noise od i + 3) 7 = nI i) ∧ rgO m (qN W H Ms Ad B noise) (qO W H Ms Ad B noise od) (qF W H Ms Ad B noise od) ∧ paI m (qN W H Ms Ad B noise) (qO W H Ms Ad B noise od) (qA W H Ms Ad B noise od lst) ∧ liC m (qO W H Ms Ad B noise od) (qF W H Ms Ad B noise od) (qA W H Ms Ad B noise od lst) hd St cnt O Al (2 * qN W H Ms Ad B noise)
/-- the model's memory after a comparison -/
def cmM (m : mM) (W H : Nat) (O T Al Ms Ad : Nat → Int64) (B noise lst : Nat) (od hd : Bool) (St : stT) (cnt : Nat) (dx dy sk : Int) (tu : Bool) (cc : Nat) : Prop :=
  piM m 114 O ∧ piM m 118 T ∧ blM m W H B (blN Ms Ad B) ∧ ofI m B (qP W H Ms Ad B noise) Ms Ad (qM W H Ms Ad B noise od) ∧ m.1 90 59 = nI (qN W H Ms Ad B noise) ∧ (m.1 90 41 = zI dx ∧ m.1 90 42 = zI dy ∧ m.1 90 43 = zI sk ∧ m.1 90 44 = bz tu ∧ m.1 90 45 = nI cc) ∧ mbZ m (qN W H Ms Ad B noise) (qL W H Ms Ad B noise) (qT W H Ms Ad B noise) (qR W H Ms Ad B noise) (qB W H Ms Ad B noise) ∧ (∀ i, i < qN W H Ms Ad B noise → m.1 129 i = nI (qO W H Ms Ad B noise od i)) ∧ ptK m (qN W H Ms Ad B noise) (qF W H Ms Ad B noise od) ∧ liM m (qF W H Ms Ad B noise od) (qA W H Ms Ad B noise od lst) hd St cnt O Al (2 * qN W H Ms Ad B noise) ∧ ouI m 0 (hdT dx dy sk tu (fb_ct (liB (qF W H Ms Ad B noise od) (qA W H Ms Ad B noise od lst) hd St cnt) (2 * qN W H Ms Ad B noise)) ++ rpAll (qF W H Ms Ad B noise od) (qA W H Ms Ad B noise od lst) hd St cnt (2 * qN W H Ms Ad B noise))
