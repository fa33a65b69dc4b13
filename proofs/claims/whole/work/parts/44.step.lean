/-! THE CELLS READ AND WRITTEN, a step at a time: from what follows to the step -/
theorem n_lit (n : Nat) : (OfNat.ofNat n : Int32) = nI (OfNat.ofNat n) := Eq.trans rfl rfl
theorem n_div {a d : Nat} (ha : a < 2 ^ 31) (h0 : 0 < d) (hd : d < 2 ^ 31) : nI a / nI d = nI (a / d) := pk_div ha h0 hd
theorem sub_dm (k d : Nat) : k - k / d * d = k % d := by
  have := Nat.div_add_mod k d
  rw [Nat.mul_comm] at this
  generalize k / d * d = z at *
  omega
def bz (b : Bool) : Int32 := if b then 1 else 0
theorem bz_t : bz true = 1 := rfl
theorem bz_f : bz false = 0 := rfl
theorem bz_01 (b : Bool) : bz b = 0 ∨ bz b = 1 := by cases b; exact Or.inl rfl; exact Or.inr rfl
theorem bz_0 {b : Bool} : bz b = nI 0 ↔ b = false := by cases b <;> decide
theorem bz_1 {b : Bool} : bz b = nI 1 ↔ b = true := by cases b <;> decide
theorem bz_eq0 {b : Bool} : bz b = 0 ↔ b = false := by cases b <;> decide
theorem bz_inj {a b : Bool} : bz a = bz b ↔ a = b := by cases a <;> cases b <;> decide
theorem nar_bz (b : Bool) : narrow .boolean (.int (bz b)) = .int (bz b) := by cases b <;> decide
theorem nar_01 {v : Int32} (h : v = 0 ∨ v = 1) : narrow .boolean (.int v) = .int v := by rcases h with rfl | rfl <;> decide
theorem xPok_int {ini : Bool} {k c j : Nat} {x : Int32} (hs : (decide (j < xNf c) && (!(xTT c j).2.2.2 || (ini && k == c))) = true) (ht : xTy c j = .int) : xPok ini k c j (.int x) = true := by
  unfold xPok
  rw [hs, ht]
  have h1 : narrow .int (.int x) = .int x := rfl
  have h2 : fits .int (.int x) = true := rfl
  show (true && (decide (narrow .int (.int x) = .int x) && fits .int (.int x))) = true
  rw [h1, h2]
  simp
theorem xPok_bool {ini : Bool} {k c j : Nat} {x : Int32} (hs : (decide (j < xNf c) && (!(xTT c j).2.2.2 || (ini && k == c))) = true) (ht : xTy c j = .boolean) (hx : x = 0 ∨ x = 1) : xPok ini k c j (.int x) = true := by
  unfold xPok
  rw [hs, ht]
  rcases hx with rfl | rfl <;> decide
theorem xPok_long {ini : Bool} {k c j : Nat} {x : Int64} (hs : (decide (j < xNf c) && (!(xTT c j).2.2.2 || (ini && k == c))) = true) (ht : xTy c j = .long) : xPok ini k c j (.long x) = true := by
  unfold xPok
  rw [hs, ht]
  rfl
theorem xPok_ref {ini : Bool} {k c j : Nat} {x : Nat} (hs : (decide (j < xNf c) && (!(xTT c j).2.2.2 || (ini && k == c))) = true) (ht : xRob (some (xTy c j)) = true) : xPok ini k c j (.ref x) = true := by
  unfold xPok
  rw [hs]
  exact ht
theorem xPok_null {ini : Bool} {k c j : Nat} (hs : (decide (j < xNf c) && (!(xTT c j).2.2.2 || (ini && k == c))) = true) (ht : xRob (some (xTy c j)) = true) : xPok ini k c j .null = true := by
  unfold xPok
  rw [hs]
  exact ht
section ST
variable {W H n : Nat} {m : mM} {a b c j k l i : Nat} {R : Option xO}
theorem c_let {α : Type} {e : α} {F : α → Option xO} (K : F e = R) : xlet e F = R := K
theorem c_ift {p : Prop} {dp : Decidable p} {A B : Option xO} (h : p) (K : A = R) : (@ite _ p dp A B) = R := by rw [if_pos h]; exact K
theorem c_iff {p : Prop} {dp : Decidable p} {A B : Option xO} (h : ¬ p) (K : B = R) : (@ite _ p dp A B) = R := by rw [if_neg h]; exact K
theorem c_nz {b : Bool} {dp : Decidable (narrow .boolean (.int (bz b)) = .int (bz b))} {A : Option xO} (K : A = R) : (@ite _ (narrow .boolean (.int (bz b)) = .int (bz b)) dp A none) = R := by rw [if_pos (nar_bz b)]; exact K
theorem E_ob (ha : a < 147 + 5 * n) (hk : eK a = (0, c)) : xOb (E W H n m) a c = true := by
  unfold xOb
  rw [E_at ha, eX_o hk]
  exact beq_self_eq_true c
theorem c_ob {A : Option xO} {dp : Decidable (xOb (E W H n m) a c = true)} (ha : a < 147 + 5 * n) (hk : eK a = (0, c)) (K : A = R) : (@ite _ (xOb (E W H n m) a c = true) dp A none) = R := by
  rw [if_pos (E_ob ha hk)]
  exact K
theorem c_gi {F : Int32 → Option xO} (ha : a < 147 + 5 * n) (hk : eK a = (0, c)) (hf : (eF c j).1 = 0) (hj : Nat.blt j (xNf c) = true) (K : F (m.1 a j) = R) : (xGi (E W H n m) a c j).bind F = R := by
  rw [xGi_of ((E_G ha hk (Nat.blt_eq.mp hj)).trans (congrArg some (eFV_0 hf)))]
  exact K
theorem c_gl {F : Int64 → Option xO} (ha : a < 147 + 5 * n) (hk : eK a = (0, c)) (hf : (eF c j).1 = 1) (hj : Nat.blt j (xNf c) = true) (K : F (m.2.1 a j) = R) : (xGl (E W H n m) a c j).bind F = R := by
  rw [xGl_of ((E_G ha hk (Nat.blt_eq.mp hj)).trans (congrArg some (eFV_1 hf)))]
  exact K
theorem c_gW {F : Int32 → Option xO} (ha : a < 147 + 5 * n) (hk : eK a = (0, c)) (hf : (eF c j).1 = 3) (hj : Nat.blt j (xNf c) = true) (K : F (nI W) = R) : (xGi (E W H n m) a c j).bind F = R := by
  rw [xGi_of ((E_G ha hk (Nat.blt_eq.mp hj)).trans (congrArg some (eFV_3 hf)))]
  exact K
theorem c_gH {F : Int32 → Option xO} (ha : a < 147 + 5 * n) (hk : eK a = (0, c)) (hf : (eF c j).1 = 4) (hj : Nat.blt j (xNf c) = true) (K : F (nI H) = R) : (xGi (E W H n m) a c j).bind F = R := by
  rw [xGi_of ((E_G ha hk (Nat.blt_eq.mp hj)).trans (congrArg some (eFV_4 hf)))]
  exact K
theorem c_gA {F : Int32 → Option xO} (ha : a < 147 + 5 * n) (hk : eK a = (0, c)) (hf : (eF c j).1 = 5) (hj : Nat.blt j (xNf c) = true) (K : F (nI (W * H)) = R) : (xGi (E W H n m) a c j).bind F = R := by
  rw [xGi_of ((E_G ha hk (Nat.blt_eq.mp hj)).trans (congrArg some (eFV_5 hf)))]
  exact K
theorem c_gw {F : Int64 → Option xO} (ha : a < 147 + 5 * n) (hk : eK a = (0, c)) (hf : (eF c j).1 = 6) (hj : Nat.blt j (xNf c) = true) (K : F (wh W) = R) : (xGl (E W H n m) a c j).bind F = R := by
  rw [xGl_of ((E_G ha hk (Nat.blt_eq.mp hj)).trans (congrArg some (eFV_6 hf)))]
  exact K
theorem c_gb {F : Int32 → Option xO} (ha : a < 147 + 5 * n) (hk : eK a = (0, c)) (hf : (eF c j).1 = 8) (hj : Nat.blt j (xNf c) = true) (K : F (if (a - 147) % 5 = 3 ∧ 147 ≤ a then 1 else 0) = R) : (xGi (E W H n m) a c j).bind F = R := by
  rw [xGi_of ((E_G ha hk (Nat.blt_eq.mp hj)).trans (congrArg some (eFV_8 hf)))]
  exact K
theorem c_gr {F : Nat → Option xO} {o : Nat} (ha : a < 147 + 5 * n) (hk : eK a = (0, c)) (hf : eF c j = (7, o)) (hj : Nat.blt j (xNf c) = true) (K : F (a + o) = R) : (xGr (E W H n m) a c j).bind F = R := by
  rw [xGr_of ((E_G ha hk (Nat.blt_eq.mp hj)).trans (congrArg some (eFV_7 hf)))]
  exact K
theorem c_gm {F : Nat → Option xO} {r : Nat} (ha : a < 147 + 5 * n) (hk : eK a = (0, c)) (hf : (eF c j).1 = 2) (hj : Nat.blt j (xNf c) = true) (hr : m.2.2 a j = some r) (K : F r = R) : (xGr (E W H n m) a c j).bind F = R := by
  have e := (E_G (W := W) (H := H) (m := m) ha hk (Nat.blt_eq.mp hj)).trans (congrArg some (eFV_2 hf))
  rw [hr] at e
  rw [xGr_of e]
  exact K
theorem c_gn {F : Option Nat → Option xO} (ha : a < 147 + 5 * n) (hk : eK a = (0, c)) (hf : (eF c j).1 = 2) (hj : Nat.blt j (xNf c) = true) (K : F (m.2.2 a j) = R) : (xGn (E W H n m) a c j).bind F = R := by
  have e := (E_G (W := W) (H := H) (m := m) ha hk (Nat.blt_eq.mp hj)).trans (congrArg some (eFV_2 hf))
  cases hr : m.2.2 a j with
  | none => rw [hr] at e K; rw [xGn_of0 e]; exact K
  | some r => rw [hr] at e K; rw [xGn_of1 e]; exact K
theorem c_on0 {T0 : Option xO} {T1 : Nat → Option xO} {q : Option Nat} (hq : q = none) (K : T0 = R) : xon T0 T1 q = R := by rw [hq]; exact K
theorem c_on1 {T0 : Option xO} {T1 : Nat → Option xO} {q : Option Nat} {r : Nat} (hq : q = some r) (K : T1 r = R) : xon T0 T1 q = R := by rw [hq]; exact K
theorem c_ri {F : Int32 → Option xO} {x : Int32} (ha : b < 147 + 5 * n) (hk : eK b = (k + 1, l)) (h2 : eCc b = false) (hx : x = nI i) (hi : i < eL H b) (hL : eL H b < 2 ^ 31) (hk3 : k = 0 ∨ k = 2 ∨ k = 3) (K : F (m.1 b i) = R) : (xRi (E W H n m) k b x).bind F = R := by
  subst hx
  have e := E_B (W := W) (H := H) (m := m) ha hk
  rw [eA_i hk3 h2] at e
  rw [xRi_of e hL hi]
  exact K
theorem c_rc {F : Int32 → Option xO} {x : Int32} (ha : b < 147 + 5 * n) (hk : eK b = (k + 1, l)) (h2 : eCc b = true) (hx : x = nI i) (hi : i < eL H b) (hL : eL H b < 2 ^ 31) (hk3 : k = 0 ∨ k = 2 ∨ k = 3) (K : F ((eCv b).getD i 0) = R) : (xRi (E W H n m) k b x).bind F = R := by
  subst hx
  have e := E_B (W := W) (H := H) (m := m) ha hk
  rw [eA_c hk3 h2] at e
  rw [xRi_of e hL hi]
  exact K
theorem c_rl {F : Int64 → Option xO} {x : Int32} (ha : b < 147 + 5 * n) (hk : eK b = (2, l)) (hx : x = nI i) (hi : i < eL H b) (hL : eL H b < 2 ^ 31) (K : F (m.2.1 b i) = R) : (xRl (E W H n m) b x).bind F = R := by
  subst hx
  have e := E_B (W := W) (H := H) (m := m) (k := 1) ha hk
  rw [eA_1] at e
  rw [xRl_of e hL hi]
  exact K
theorem c_rn {F : Option Nat → Option xO} {x : Int32} (ha : b < 147 + 5 * n) (hk : eK b = (k + 1, l)) (h4 : 4 ≤ k) (hx : x = nI i) (hi : i < eL H b) (hL : eL H b < 2 ^ 31) (K : F (eR m b i) = R) : (xRn (E W H n m) b x).bind F = R := by
  subst hx
  have e := E_B (W := W) (H := H) (m := m) ha hk
  rw [eA_r h4] at e
  rw [xRn_of e h4 hL hi]
  exact K
theorem c_rr {F : Nat → Option xO} {x : Int32} {r : Nat} (ha : b < 147 + 5 * n) (hk : eK b = (k + 1, l)) (h4 : 4 ≤ k) (hx : x = nI i) (hi : i < eL H b) (hL : eL H b < 2 ^ 31) (hr : eR m b i = some r) (K : F r = R) : (xRr (E W H n m) b x).bind F = R := by
  subst hx
  have e := E_B (W := W) (H := H) (m := m) ha hk
  rw [eA_r h4] at e
  rw [xRr_of e h4 hL hi hr]
  exact K
theorem c_rz {F : Int32 → Option xO} (ha : b < 147 + 5 * n) (hk : eK b = (k + 1, l)) {L : Nat} (hl : L = eL H b) (K : F (nI L) = R) : (xRz (E W H n m) b).bind F = R := by
  subst hl
  rw [xRz_of (E_B ha hk)]
  exact K
theorem c_pi {F : xH → Option xO} {ini : Bool} {v : Int32} (ha : a < 147 + 5 * n) (hk : eK a = (0, c)) (hf : (eF c j).1 = 0) (hj : Nat.blt j (xNf c) = true) (hp : xPok ini k c j (.int v) = true) (K : F (E W H n (sI m a j v)) = R) : (xP ini k (E W H n m) a c j (.int v)).bind F = R := by
  rw [E_fld (m' := sI m a j v) ha hk (Nat.blt_eq.mp hj) sI_o (fun i q => eFV_sI q) (by rw [eFV_0 hf, sI_1, if_pos ⟨rfl, rfl⟩]) hp]
  exact K
theorem c_pl {F : xH → Option xO} {ini : Bool} {v : Int64} (ha : a < 147 + 5 * n) (hk : eK a = (0, c)) (hf : (eF c j).1 = 1) (hj : Nat.blt j (xNf c) = true) (hp : xPok ini k c j (.long v) = true) (K : F (E W H n (sL m a j v)) = R) : (xP ini k (E W H n m) a c j (.long v)).bind F = R := by
  rw [E_fld (m' := sL m a j v) ha hk (Nat.blt_eq.mp hj) sL_o (fun i q => eFV_sL q) (by rw [eFV_1 hf, sL_2, if_pos ⟨rfl, rfl⟩]) hp]
  exact K
theorem c_pr {F : xH → Option xO} {ini : Bool} {v : Nat} (ha : a < 147 + 5 * n) (hk : eK a = (0, c)) (hf : (eF c j).1 = 2) (hj : Nat.blt j (xNf c) = true) (hp : xPok ini k c j (.ref v) = true) (K : F (E W H n (sR m a j (some v))) = R) : (xP ini k (E W H n m) a c j (.ref v)).bind F = R := by
  rw [E_fld (m' := sR m a j (some v)) ha hk (Nat.blt_eq.mp hj) sR_o (fun i q => eFV_sR q) (by rw [eFV_2 hf, sR_3, if_pos ⟨rfl, rfl⟩]; rfl) hp]
  exact K
theorem c_pn {F : xH → Option xO} {ini : Bool} (ha : a < 147 + 5 * n) (hk : eK a = (0, c)) (hf : (eF c j).1 = 2) (hj : Nat.blt j (xNf c) = true) (hp : xPok ini k c j .null = true) (K : F (E W H n (sR m a j none)) = R) : (xP ini k (E W H n m) a c j .null).bind F = R := by
  rw [E_fld (m' := sR m a j none) ha hk (Nat.blt_eq.mp hj) sR_o (fun i q => eFV_sR q) (by rw [eFV_2 hf, sR_3, if_pos ⟨rfl, rfl⟩]; rfl) hp]
  exact K
theorem c_wi {F : xH → Option xO} {x v : Int32} (ha : b < 147 + 5 * n) (hk : eK b = (1, l)) (h2 : eCc b = false) (hx : x = nI i) (hi : i < eL H b) (hL : eL H b < 2 ^ 31) (K : F (E W H n (sI m b i v)) = R) : (xWi (E W H n m) b x v).bind F = R := by
  subst hx
  have e := E_B (W := W) (H := H) (m := m) (k := 0) ha hk
  rw [eA_i (Or.inl rfl) h2] at e
  have g := E_aI (W := W) (H := H) (m := m) ha hk (Or.inl rfl) h2 (upd (m.1 b) i v)
  rw [xWi_of e hL hi]
  unfold xA
  rw [E_at ha, eX_a hk]
  show F ((E W H n m).set b _) = R
  rw [g, aI_upd]
  exact K
theorem c_wz {F : xH → Option xO} {x v : Int32} (ha : b < 147 + 5 * n) (hk : eK b = (3, l)) (h2 : eCc b = false) (hx : x = nI i) (hi : i < eL H b) (hL : eL H b < 2 ^ 31) (hv : v = 0 ∨ v = 1) (K : F (E W H n (sI m b i v)) = R) : (xWz (E W H n m) b x v).bind F = R := by
  subst hx
  have e := E_B (W := W) (H := H) (m := m) (k := 2) ha hk
  rw [eA_i (Or.inr (Or.inl rfl)) h2] at e
  have g := E_aI (W := W) (H := H) (m := m) ha hk (Or.inr (Or.inl rfl)) h2 (upd (m.1 b) i v)
  rw [xWz_of e hL hi hv]
  unfold xA
  rw [E_at ha, eX_a hk]
  show F ((E W H n m).set b _) = R
  rw [g, aI_upd]
  exact K
theorem c_wl {F : xH → Option xO} {x : Int32} {v : Int64} (ha : b < 147 + 5 * n) (hk : eK b = (2, l)) (hx : x = nI i) (hi : i < eL H b) (hL : eL H b < 2 ^ 31) (K : F (E W H n (sL m b i v)) = R) : (xWl (E W H n m) b x v).bind F = R := by
  subst hx
  have e := E_B (W := W) (H := H) (m := m) (k := 1) ha hk
  rw [eA_1] at e
  rw [xWl_of e hL hi, Option.bind_some, xA_E ha hk rfl, aL_upd]
  exact K
theorem c_wr {F : xH → Option xO} {x : Int32} {v ci : Nat} (ha : b < 147 + 5 * n) (hk : eK b = (k + 1, l)) (h4 : 4 ≤ k) (h2 : eRc b = false) (hx : x = nI i) (hi : i < eL H b) (hL : eL H b < 2 ^ 31) (hv : v < 147 + 5 * n) (hkv : eK v = (0, ci)) (ht : xElm k = some ci) (K : F (E W H n (sR m b i (some v))) = R) : (xWr (E W H n m) b x v).bind F = R := by
  subst hx
  have e := E_B (W := W) (H := H) (m := m) ha hk
  rw [eA_r h4] at e
  rw [xWr_of e hL hi (E_ob hv hkv) ht]
  unfold xA
  rw [E_at ha, eX_a hk]
  show F ((E W H n m).set b _) = R
  rw [E_aR ha hk h4 h2]
  exact K
theorem c_cp {F : xH → Option xO} {a b la lb sp dp q : Nat} {X D Q : Int32} (ha : a < 147 + 5 * n) (hka : eK a = (1, la)) (hca : eCc a = false) (hb : b < 147 + 5 * n) (hkb : eK b = (1, lb)) (hcb : eCc b = false) (hX : X = nI sp) (hD : D = nI dp) (hQ : Q = nI q) (h1 : sp + q ≤ eL H a) (h2 : dp + q ≤ eL H b) (h3 : eL H a < 2 ^ 31) (h4 : eL H b < 2 ^ 31) (K : F (E W H n (aI m b (va_cpy (m.1 a) (m.1 b) sp dp q))) = R) : (xCp (E W H n m) a X b D Q).bind F = R := by
  subst hX hD hQ
  have ea := eX_a (W := W) (H := H) (m := m) (k := 0) hka
  have eb := eX_a (W := W) (H := H) (m := m) (k := 0) hkb
  rw [eA_i (Or.inl rfl) hca] at ea
  rw [eA_i (Or.inl rfl) hcb] at eb
  unfold xCp
  rw [E_at ha, E_at hb, ea, eb]
  (try dsimp only)
  rw [if_pos ⟨rfl, rfl, nI_pos (by omega), nI_pos (by omega), nI_pos (by omega), by rw [nI_clamp (by omega), nI_clamp (by omega)]; exact h1, by rw [nI_clamp (by omega), nI_clamp (by omega)]; exact h2⟩, Option.bind_some, E_aI hb hkb (Or.inl rfl) hcb, nI_clamp (by omega), nI_clamp (by omega), nI_clamp (by omega)]
  exact K
theorem c_cpL {F : xH → Option xO} {a b la lb sp dp q : Nat} {X D Q : Int32} (ha : a < 147 + 5 * n) (hka : eK a = (2, la)) (hb : b < 147 + 5 * n) (hkb : eK b = (2, lb)) (hX : X = nI sp) (hD : D = nI dp) (hQ : Q = nI q) (h1 : sp + q ≤ eL H a) (h2 : dp + q ≤ eL H b) (h3 : eL H a < 2 ^ 31) (h4 : eL H b < 2 ^ 31) (K : F (E W H n (aL m b (va_cpy (m.2.1 a) (m.2.1 b) sp dp q))) = R) : (xCp (E W H n m) a X b D Q).bind F = R := by
  subst hX hD hQ
  have ea := eX_a (W := W) (H := H) (m := m) (k := 1) hka
  have eb := eX_a (W := W) (H := H) (m := m) (k := 1) hkb
  rw [eA_1] at ea eb
  unfold xCp
  rw [E_at ha, E_at hb, ea, eb]
  (try dsimp only)
  rw [if_pos ⟨rfl, rfl, nI_pos (by omega), nI_pos (by omega), nI_pos (by omega), by rw [nI_clamp (by omega), nI_clamp (by omega)]; exact h1, by rw [nI_clamp (by omega), nI_clamp (by omega)]; exact h2⟩, Option.bind_some, E_aL hb hkb, nI_clamp (by omega), nI_clamp (by omega), nI_clamp (by omega)]
  exact K
end ST
section QS
variable {R o : Option xO} {h' : xH} {X : String → xH → Option xO}
theorem c_qI {x : Int32} {T : Int32 → xH → Option xO} (hc : o = some (.inl (some (.int x)), h', 0, 0)) (K : T x h' = R) : xqI o X T = R := by rw [hc, xqI_s]; exact K
theorem c_qJ {x : Int64} {T : Int64 → xH → Option xO} (hc : o = some (.inl (some (.long x)), h', 0, 0)) (K : T x h' = R) : xqJ o X T = R := by rw [hc, xqJ_s]; exact K
theorem c_qR {x : Nat} {T : Nat → xH → Option xO} (hc : o = some (.inl (some (.ref x)), h', 0, 0)) (K : T x h' = R) : xqR o X T = R := by rw [hc, xqR_s]; exact K
theorem c_qK {x : Nat} {T : Nat → xH → Option xO} (hc : o = some (.inl (some (.retAddr x)), h', 0, 0)) (K : T x h' = R) : xqK o X T = R := by rw [hc, xqK_s]; exact K
theorem c_qN {x : Nat} {T0 : xH → Option xO} {T : Nat → xH → Option xO} (hc : o = some (.inl (some (.ref x)), h', 0, 0)) (K : T x h' = R) : xqN o X T0 T = R := by rw [hc, xqN_s]; exact K
theorem c_qN0 {T0 : xH → Option xO} {T : Nat → xH → Option xO} (hc : o = some (.inl (some .null), h', 0, 0)) (K : T0 h' = R) : xqN o X T0 T = R := by rw [hc, xqN_0]; exact K
theorem c_qM {x : Nat} {T0 : xH → Option xO} {T : Nat → xH → Option xO} (hc : o = some (.inl (some (.retAddr x)), h', 0, 0)) (K : T x h' = R) : xqM o X T0 T = R := by rw [hc]; exact (xadd_00 _).trans K
theorem c_qM0 {T0 : xH → Option xO} {T : Nat → xH → Option xO} (hc : o = some (.inl (some .null), h', 0, 0)) (K : T0 h' = R) : xqM o X T0 T = R := by rw [hc]; exact (xadd_00 _).trans K
theorem c_qV {T : xH → Option xO} (hc : o = some (.inl none, h', 0, 0)) (K : T h' = R) : xqV o X T = R := by rw [hc, xqV_s]; exact K
theorem c_qC {T : xH → Option xO} (hc : o = some (.inl none, h', 0, 0)) (K : T h' = R) : xqC o T = R := by rw [hc, xqC_s]; exact K
/-- a call that throws, where nothing takes it -/
theorem c_xI {e : String} {c s : Nat} {T : Int32 → xH → Option xO} (hc : o = some (.inr e, h', c, s)) : xqI o xth T = some (.inr e, h', c, s) := by rw [hc, xqI_e, xadd_th]
theorem c_xR {e : String} {c s : Nat} {T : Nat → xH → Option xO} (hc : o = some (.inr e, h', c, s)) : xqR o xth T = some (.inr e, h', c, s) := by rw [hc, xqR_e, xadd_th]
theorem c_xV {e : String} {c s : Nat} {T : xH → Option xO} (hc : o = some (.inr e, h', c, s)) : xqV o xth T = some (.inr e, h', c, s) := by rw [hc, xqV_e, xadd_th]
end QS
/-! loops -/
theorem x_loop {σ : Type} {D : Nat → σ → Option xO} {Inv : Nat → σ → Prop} {Post : xO → Prop} (n : Nat) (step : ∀ k, k < n → ∀ s, Inv k s → ∃ s', Inv (k + 1) s' ∧ ∀ o, D (k + 1) s' = some o → D k s = some o) (base : ∀ s, Inv n s → ∃ o, D n s = some o ∧ Post o) : ∀ s, Inv 0 s → ∃ o, D 0 s = some o ∧ Post o := by
  have key : ∀ k, k ≤ n → ∀ s, Inv k s → ∃ o, D k s = some o ∧ Post o := by
    refine x_down n (fun k hk ih s hs => ?_) base
    obtain ⟨s', h1, h2⟩ := step k hk s hs
    obtain ⟨o, h3, h4⟩ := ih s' h1
    exact ⟨o, h2 o h3, h4⟩
  exact key 0 (Nat.zero_le n)
theorem x_while {σ : Type} {D : σ → Option xO} {Inv : σ → Prop} {Post : xO → Prop} (m : σ → Nat) (step : ∀ s, Inv s → (∃ s', Inv s' ∧ m s' < m s ∧ ∀ o, D s' = some o → D s = some o) ∨ ∃ o, D s = some o ∧ Post o) : ∀ s, Inv s → ∃ o, D s = some o ∧ Post o := by
  have key : ∀ n s, m s < n → Inv s → ∃ o, D s = some o ∧ Post o := by
    intro n
    induction n with
    | zero => intro s hs _; omega
    | succ n ih =>
      intro s hs hi
      rcases step s hi with ⟨s', h1, h2, h3⟩ | h
      · obtain ⟨o, h4, h5⟩ := ih s' (by omega) h1
        exact ⟨o, h3 o h4, h5⟩
      · exact h
  exact fun s hs => key (m s + 1) s (Nat.lt_succ_self _) hs
/-- a loop that may end early -/
theorem x_lp {σ : Type} {D : Nat → σ → Option xO} {Inv : Nat → σ → Prop} {Post : xO → Prop} (n : Nat) (step : ∀ k, k < n → ∀ s, Inv k s → (∃ s', Inv (k + 1) s' ∧ ∀ o, D (k + 1) s' = some o → D k s = some o) ∨ ∃ o, D k s = some o ∧ Post o) (base : ∀ s, Inv n s → ∃ o, D n s = some o ∧ Post o) : ∀ s, Inv 0 s → ∃ o, D 0 s = some o ∧ Post o := by
  have key : ∀ k, k ≤ n → ∀ s, Inv k s → ∃ o, D k s = some o ∧ Post o := by
    refine x_down n (fun k hk ih s hs => ?_) base
    rcases step k hk s hs with ⟨s', h1, h2⟩ | h
    · obtain ⟨o, h3, h4⟩ := ih s' h1
      exact ⟨o, h2 o h3, h4⟩
    · exact h
  exact key 0 (Nat.zero_le n)
/-- a stretch of a run: from the loop's start to where it goes on -/
theorem x_sg {σ τ : Type} {D : Nat → σ → Option xO} {Inv : Nat → σ → Prop} {F : τ → Option xO} {Post : τ → Prop} (n : Nat) (step : ∀ k, k < n → ∀ s, Inv k s → (∃ s', Inv (k + 1) s' ∧ xle (D (k + 1) s') (D k s)) ∨ ∃ t, Post t ∧ xle (F t) (D k s)) (base : ∀ s, Inv n s → ∃ t, Post t ∧ xle (F t) (D n s)) : ∀ s, Inv 0 s → ∃ t, Post t ∧ xle (F t) (D 0 s) := by
  have key : ∀ k, k ≤ n → ∀ s, Inv k s → ∃ t, Post t ∧ xle (F t) (D k s) := by
    refine x_down n (fun k hk ih s hs => ?_) base
    rcases step k hk s hs with ⟨s', h1, h2⟩ | h
    · obtain ⟨t, h3, h4⟩ := ih s' h1
      exact ⟨t, h3, fun o ho => h2 o (h4 o ho)⟩
    · exact h
  exact key 0 (Nat.zero_le n)
theorem x_sw {σ τ : Type} {D : σ → Option xO} {Inv : σ → Prop} {F : τ → Option xO} {Post : τ → Prop} (m : σ → Nat) (step : ∀ s, Inv s → (∃ s', Inv s' ∧ m s' < m s ∧ xle (D s') (D s)) ∨ ∃ t, Post t ∧ xle (F t) (D s)) : ∀ s, Inv s → ∃ t, Post t ∧ xle (F t) (D s) := by
  have key : ∀ n s, m s < n → Inv s → ∃ t, Post t ∧ xle (F t) (D s) := by
    intro n
    induction n with
    | zero => intro s hs _; omega
    | succ n ih =>
      intro s hs hi
      rcases step s hi with ⟨s', h1, h2, h3⟩ | h
      · obtain ⟨t, h4, h5⟩ := ih s' (by omega) h1
        exact ⟨t, h4, fun o ho => h3 o (h5 o ho)⟩
      · exact h
  exact fun s hs => key (m s + 1) s (Nat.lt_succ_self _) hs
theorem x_tr {A B C : Option xO} (h : xle A B) (g : xle B C) : xle A C := fun o q => g o (h o q)
/-- a loop of fixed length, by equations -/
theorem x_for {R : Option xO} (n : Nat) {D : Nat → mM → Option xO} {M : Nat → mM} (step : ∀ k, k < n → D (k + 1) (M (k + 1)) = R → D k (M k) = R) (base : D n (M n) = R) : D 0 (M 0) = R := by
  have key : ∀ k, k ≤ n → D k (M k) = R := x_down n (fun k hk ih => step k hk ih) base
  exact key 0 (Nat.zero_le n)
theorem x_fo {o : xO} {m : mM} (n : Nat) (D : Nat → mM → Option xO) (M : Nat → mM) (h0 : M 0 = m) (step : ∀ k, k < n → D (k + 1) (M (k + 1)) = some o → D k (M k) = some o) (base : D n (M n) = some o) : D 0 m = some o := by
  rw [← h0]
  exact x_for n step base
/-- what stays as it was: all but the cells of P -/
def fr (P : Nat → Nat → Bool) (m m' : mM) : Prop := ∀ a j, P a j = false → m'.1 a j = m.1 a j ∧ m'.2.1 a j = m.2.1 a j ∧ m'.2.2 a j = m.2.2 a j
section FR
variable {P Q : Nat → Nat → Bool} {m m' m2 : mM} {a j : Nat}
theorem fr_i (h : fr P m m') (a j : Nat) (q : P a j = false) : m'.1 a j = m.1 a j := (h a j q).1
theorem fr_l (h : fr P m m') (a j : Nat) (q : P a j = false) : m'.2.1 a j = m.2.1 a j := (h a j q).2.1
theorem fr_r (h : fr P m m') (a j : Nat) (q : P a j = false) : m'.2.2 a j = m.2.2 a j := (h a j q).2.2
theorem fr_rf : fr P m m := fun _ _ _ => ⟨rfl, rfl, rfl⟩
theorem fr_tr (h : fr P m m') (g : fr P m' m2) : fr P m m2 := fun a j q => ⟨(g a j q).1.trans (h a j q).1, (g a j q).2.1.trans (h a j q).2.1, (g a j q).2.2.trans (h a j q).2.2⟩
theorem fr_mono (h : fr P m m') (q : ∀ a j, Q a j = false → P a j = false) : fr Q m m' := fun a j w => h a j (q a j w)
theorem fr_sI {v : Int32} (h : fr P m m') (q : P a j = true) : fr P m (sI m' a j v) := fun x y w => by
  obtain ⟨h1, h2, h3⟩ := h x y w
  refine ⟨?_, h2, h3⟩
  rw [sI_1, if_neg, h1]
  rintro ⟨rfl, rfl⟩
  rw [q] at w
  cases w
theorem fr_sL {v : Int64} (h : fr P m m') (q : P a j = true) : fr P m (sL m' a j v) := fun x y w => by
  obtain ⟨h1, h2, h3⟩ := h x y w
  refine ⟨h1, ?_, h3⟩
  rw [sL_2, if_neg, h2]
  rintro ⟨rfl, rfl⟩
  rw [q] at w
  cases w
theorem fr_sR {v : Option Nat} (h : fr P m m') (q : P a j = true) : fr P m (sR m' a j v) := fun x y w => by
  obtain ⟨h1, h2, h3⟩ := h x y w
  refine ⟨h1, h2, ?_⟩
  rw [sR_3, if_neg, h3]
  rintro ⟨rfl, rfl⟩
  rw [q] at w
  cases w
theorem fr_aI {f : Nat → Int32} (h : fr P m m') (q : ∀ y, P a y = true) : fr P m (aI m' a f) := fun x y w => by
  obtain ⟨h1, h2, h3⟩ := h x y w
  refine ⟨?_, h2, h3⟩
  rw [aI_1, if_neg, h1]
  rintro rfl
  rw [q] at w
  cases w
theorem fr_aL {f : Nat → Int64} (h : fr P m m') (q : ∀ y, P a y = true) : fr P m (aL m' a f) := fun x y w => by
  obtain ⟨h1, h2, h3⟩ := h x y w
  refine ⟨h1, ?_, h3⟩
  rw [aL_2, if_neg, h2]
  rintro rfl
  rw [q] at w
  cases w
theorem fr_I (h : fr P m m') (a : Nat) (q : ∀ y, P a y = false) : m'.1 a = m.1 a := funext fun y => fr_i h a y (q y)
theorem fr_L (h : fr P m m') (a : Nat) (q : ∀ y, P a y = false) : m'.2.1 a = m.2.1 a := funext fun y => fr_l h a y (q y)
theorem fr_R (h : fr P m m') (a : Nat) (q : ∀ y, P a y = false) : m'.2.2 a = m.2.2 a := funext fun y => fr_r h a y (q y)
end FR
