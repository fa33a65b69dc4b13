/-! GETTERS: stampOf, reportChar, leastNoise -/
def thP (a j : Nat) : Bool := a == 90 && j == 2
theorem thP_n {a j : Nat} (h : a = 90 → j ≠ 2) : thP a j = false := by
  unfold thP
  by_cases e : a = 90
  · rw [beq_eq_false_iff_ne.mpr (h e), Bool.and_false]
  · rw [beq_eq_false_iff_ne.mpr e]; rfl
theorem th_fr {m : mM} {v : Int32} : fr thP m (sI m 90 2 v) := fr_sI fr_rf (by rfl)
theorem prP_n {a j : Nat} (h : a ≠ 89) : prP a j = false := by unfold prP; exact beq_eq_false_iff_ne.mpr h
section GN
variable {S : xS} {W H n N : Nat} {m : mM} {B : Nat} {P : Nat → Bool} {Ms Ad : Nat → Int64} {o nb : Nat → Nat} {St : stT} {cnt : Nat} {PF : Nat → Nat → Int64} {O A : Nat → Int64} {L : (Nat → Bool) × (Nat → Option Nat)} {hd : Bool}
theorem cstampOf_in (e : m.1 0 12 = 1) {c i p : Nat} (hc : c ≤ 256) (e19 : m.1 64 19 = nI c) (hi : i < c) (er : m.2.2 71 i = some p) (T : cstM m cnt St) (J : ptA p n) {F : Nat → Int64} (X : ptX m p F) (ne : ctP F ≠ 0) : xM S mX12_stampOf [.ref 0, .int (nI i)] (E W H n m) = some (.inl (some (.int (zI (stNo St cnt F)))), E W H n m, 0, 0) := by
  refine w_X12_stampOf S _ _ _ _ ?_
  refine c_gr (by omega) (by rfl) (by rfl) (by rfl) ?_
  refine c_ob (by omega) (by rfl) ?_
  refine c_qR (changeOf_in e hc e19 hi er) ?_
  refine c_ob (by omega) (by rfl) ?_
  exact c_qI (stampNo_s T J X ne) rfl
theorem mstampOf_in (hW8 : 8 ≤ W) (hW : W ≤ 64) (hH8 : 8 ≤ H) (hH : H ≤ 64) (hB : 4 ≤ B) (hB2 : B ≤ 16) (oM : okP W H Ms) (oA : okP W H Ad) (hN : N = nS ba P 256) (ho : ∀ i, i < N → nb (o i) = i) (hnb : ∀ q, q < N → nb q < N ∧ o (nb q) = q) (e : m.1 90 35 = 1) {c i p : Nat} (hc : c ≤ 256) (e79 : m.1 90 79 = nI c) (hi : i < c) (er : m.1 141 i = nI p) (X : ofI m B P Ms Ad nb) (T : mstM m cnt St) (hp : p < 2 * N) (Xp : ptB m p (PFm W H Ms Ad P B o p)) : xM S mX13_stampOf [.ref 90, .int (nI i)] (E W H n m) = some (.inl (some (.int (zI (stNo St cnt (PFm W H Ms Ad P B o p))))), E W H n (sI m 90 2 0), 0, 0) := by
  have Q := th_fr (m := m) (v := 0)
  have k := stampFor_s (S := S) (n := n) hW8 hW hH8 hH hB hB2 oM oA hN ho hnb (ofI_fr X Q (fun a j h => thP_n (by omega))) (mstM_fr T Q (fun a j h => thP_n (by omega))) hp (ptB_fr Xp (fun a h1 h2 => fr_i Q a p (thP_n (by omega))))
  refine w_X13_stampOf S _ _ _ _ ?_
  refine c_gi (by omega) (by rfl) (by rfl) (by rfl) ?_
  rw [e79]
  refine c_ob (by omega) (by rfl) ?_
  refine c_qI (lacks_in e (by omega) (by rw [nI_toInt (by omega)]; omega)) ?_
  refine c_ift rfl ?_
  refine c_gr (by omega) (by rfl) (by rfl) (by rfl) ?_
  refine c_ri (i := i) (by omega) (by rfl) (by rfl) (by rfl) (by first | omega | ((conv => rhs; whnf); first | omega | (show _ < OfNat.ofNat (α := Nat) _; omega))) (by first | omega | ((conv => lhs; whnf); first | omega | (show OfNat.ofNat (α := Nat) _ < _; omega))) (by decide) ?_
  rw [sI_ne (by omega), show m.1 (90 + 51) i = nI p from er]
  refine c_ob (by omega) (by rfl) ?_
  exact c_qI k rfl
theorem rgO_pr {m' : mM} (X : rgO m N o PF) (Q : fr prP m m') : rgO m' N o PF := fun i hi => by
  obtain ⟨x1, x2, x3⟩ := X i hi
  exact ⟨(fr_r Q _ _ (prP_n (by decide))).trans x1, ptX_pr x2 (by omega) (by omega) Q, ptX_pr x3 (by omega) (by omega) Q⟩
theorem paI_pr {m' : mM} (J : paI m N o L) (Q : fr prP m m') : paI m' N o L := ⟨fun i hi => (fr_r Q _ _ (prP_n (by omega))).trans (J.1 i hi), fun j hj => by rw [fr_r Q _ _ (prP_n (by omega))]; exact J.2 j hj⟩
theorem liC_pr {m' : mM} {z : Nat} (I : liC m o PF L hd St cnt O A z) (Q : fr prP m m') : liC m' o PF L hd St cnt O A z := ⟨(fr_i Q _ _ (prP_n (by decide))).trans I.1, fun q hq y => by
  obtain ⟨w1, w2, w3⟩ := I.2 q hq y
  have g147 : 147 ≤ pcl o q := by unfold pcl; omega
  exact ⟨(fr_r Q _ _ (prP_n (by decide))).trans w1, (fr_i Q _ _ (prP_n (by omega))).trans w2, (fr_i Q _ _ (prP_n (by omega))).trans w3⟩⟩
theorem creportChar_in (e : m.1 0 12 = 1) (hN : N ≤ 128) (hn : N ≤ n) (c7 : cnt ≤ 7) (ho : ∀ i, i < N → o i < N) (X : rgO m N o PF) (J : paI m N o L) (hL : ∀ i j, L.2 i = some j → j < N ∧ ctP (PF (2 * j + 1)) = ctP (PF (2 * i))) (I : liC m o PF L hd St cnt O A (2 * N)) {i : Nat} (hi : i < 2147483648) {dx dy sk : Int} {tu : Bool} (d1 : -100 ≤ dx) (d2 : dx ≤ 100) (d3 : -100 ≤ dy) (d4 : dy ≤ 100) (d5 : -100 ≤ sk) (d6 : sk ≤ 100) (e6 : m.1 82 6 = zI dx) (e7 : m.1 82 7 = zI dy) (e8 : m.1 82 8 = zI sk) (e9 : m.1 82 9 = bz tu) : ∃ m', xM S mX12_reportChar [.ref 0, .int (nI i)] (E W H n m) = some (.inl (some (.int ((hdT dx dy sk tu (fb_ct (liB PF L hd St cnt) (2 * N)) ++ rpAll PF L hd St cnt (2 * N)).getD i (-1)))), E W H n m', 0, 0) ∧ fr prP m m' := by
  obtain ⟨m1, k1, k2, k3⟩ := seek_s (S := S) (W := W) (H := H) (n := n) (m := m) i
  obtain ⟨m2, j1, j2, j3⟩ := creport_s (S := S) (W := W) (H := H) hN hn c7 ho (rgO_pr X k3) (paI_pr J k3) hL (liC_pr I k3) hi d1 d2 d3 d4 d5 d6 ((fr_i k3 _ _ (prP_n (by decide))).trans e6) ((fr_i k3 _ _ (prP_n (by decide))).trans e7) ((fr_i k3 _ _ (prP_n (by decide))).trans e8) ((fr_i k3 _ _ (prP_n (by decide))).trans e9) k2
  refine ⟨m2, w_X12_reportChar S _ _ _ _ ?_, fr_tr k3 j3⟩
  refine c_ob (by omega) (by rfl) ?_
  refine c_qV (req_in e) ?_
  refine c_ift ((nI_leI (a := 0) (by omega) (by omega)).mpr (Nat.zero_le _)) ?_
  refine c_gr (by omega) (by rfl) (by rfl) (by rfl) ?_
  refine c_ob (by omega) (by rfl) ?_
  refine c_qV k1 ?_
  refine c_gr (by omega) (by rfl) (by rfl) (by rfl) ?_
  refine c_gr (by omega) (by rfl) (by rfl) (by rfl) ?_
  refine c_ob (by omega) (by rfl) ?_
  refine c_qV j1 ?_
  refine c_gr (by omega) (by rfl) (by rfl) (by rfl) ?_
  refine c_ob (by omega) (by rfl) ?_
  exact c_qI (found_s j2) rfl
theorem creportChar_out (e : m.1 0 12 = 1) {x : Int32} (h : ¬ 0 ≤ x.toInt) : xM S mX12_reportChar [.ref 0, .int x] (E W H n m) = some (.inr sIO, E W H n m, 1, 6) := by
  refine w_X12_reportChar S _ _ _ _ ?_
  refine c_ob (by omega) (by rfl) ?_
  refine c_qV (req_in e) ?_
  exact c_iff (fun w => h ((i_le0 x).mp w)) rfl
theorem creportChar_no (e : m.1 0 12 = 0) (x : Int32) : xM S mX12_reportChar [.ref 0, .int x] (E W H n m) = some (.inr sIS, E W H n m, 1, 6) := by
  refine w_X12_reportChar S _ _ _ _ ?_
  refine c_ob (by omega) (by rfl) ?_
  rw [req_no e]
  rfl
theorem mreportChar_in (e : m.1 90 35 = 1) {l : List Int32} (R : ouI m 0 l) (hl : l.length < 40000) {i : Nat} (hi : i < 2147483648) : xM S mX13_reportChar [.ref 90, .int (nI i)] (E W H n m) = some (.inl (some (.int (l.getD i (-1)))), E W H n (sI m 90 2 0), 0, 0) := by
  obtain ⟨r1, r2⟩ := R
  rw [Nat.zero_add] at r1
  refine w_X13_reportChar S _ _ _ _ ?_
  refine c_pi (by omega) (by rfl) (by rfl) (by rfl) (xPok_int (by decide) (by rfl)) ?_
  refine c_gi (by omega) (by rfl) (by rfl) (by rfl) ?_
  rw [sI_ne (by omega), e]
  refine c_ift (by decide) ?_
  refine c_ift ((nI_leI (a := 0) (by omega) (by omega)).mpr (Nat.zero_le _)) ?_
  refine c_gi (by omega) (by rfl) (by rfl) (by rfl) ?_
  rw [sI_ne (by omega), r1]
  by_cases c : i < l.length
  · refine c_iff (fun w => by have := (nI_leI (by omega) (by omega)).mp w; omega) ?_
    refine c_gr (by omega) (by rfl) (by rfl) (by rfl) ?_
    refine c_ri (i := i) (by omega) (by rfl) (by rfl) (by rfl) (by first | omega | ((conv => rhs; whnf); first | omega | (show _ < OfNat.ofNat (α := Nat) _; omega))) (by first | omega | ((conv => lhs; whnf); first | omega | (show OfNat.ofNat (α := Nat) _ < _; omega))) (by decide) ?_
    have := r2 i c
    rw [Nat.zero_add] at this
    rw [sI_ne (by omega), show m.1 (90 + 16) i = l.getD i 0 from this, getD_in c 0 (-1)]
  · refine c_ift ((nI_leI (by omega) (by omega)).mpr (by omega)) ?_
    rw [show l.getD i (-1) = -1 by rw [List.getD_eq_getElem?_getD, List.getElem?_eq_none_iff.mpr (by omega)]; rfl]
theorem mreportChar_out (e : m.1 90 35 = 1) {x : Int32} (h : ¬ 0 ≤ x.toInt) : xM S mX13_reportChar [.ref 90, .int x] (E W H n m) = some (.inl (some (.int 0)), E W H n (sI m 90 2 2), 0, 0) := by
  have f := fails_s (S := S) (W := W) (H := H) (n := n) (m := sI m 90 2 0) 2
  rw [sI_sI] at f
  refine w_X13_reportChar S _ _ _ _ ?_
  refine c_pi (by omega) (by rfl) (by rfl) (by rfl) (xPok_int (by decide) (by rfl)) ?_
  refine c_gi (by omega) (by rfl) (by rfl) (by rfl) ?_
  rw [sI_ne (by omega), e]
  refine c_ift (by decide) ?_
  refine c_iff (fun w => h ((i_le0 x).mp w)) ?_
  refine c_ob (by omega) (by rfl) ?_
  exact c_qI f rfl
theorem mreportChar_no (e : m.1 90 35 = 0) (x : Int32) : xM S mX13_reportChar [.ref 90, .int x] (E W H n m) = some (.inl (some (.int 0)), E W H n (sI m 90 2 1), 0, 0) := by
  have f := fails_s (S := S) (W := W) (H := H) (n := n) (m := sI m 90 2 0) 1
  rw [sI_sI] at f
  refine w_X13_reportChar S _ _ _ _ ?_
  refine c_pi (by omega) (by rfl) (by rfl) (by rfl) (xPok_int (by decide) (by rfl)) ?_
  refine c_gi (by omega) (by rfl) (by rfl) (by rfl) ?_
  rw [sI_ne (by omega), e]
  refine c_iff (fun w => w rfl) ?_
  refine c_ob (by omega) (by rfl) ?_
  exact c_qI f rfl
-- leastNoise
variable {D : Nat → Nat → Nat}
theorem cleastNoise_in (hW8 : 8 ≤ W) (hW : W ≤ 64) (hH8 : 8 ≤ H) (hH : H ≤ 64) (hB : 4 ≤ B) (hB2 : B ≤ 16) (e : m.1 0 12 = 1) (X : blC m W H B D) (hD : ∀ i j, D i j ≤ 4096) {most : Nat} (hm : most < 2147483648) : ∃ m', xM S mX12_leastNoise [.ref 0, .int (nI most)] (E W H n m) = some (.inl (some (.int (nI (lnN (ngN W H B D) most)))), E W H n m', 0, 0) ∧ fr (mkP 67) m m' := by
  obtain ⟨m', k1, k2⟩ := noiseFor_s (S := S) (n := n) hW8 hW hH8 hH hB hB2 X hD hm
  refine ⟨m', w_X12_leastNoise S _ _ _ _ ?_, k2⟩
  refine c_ob (by omega) (by rfl) ?_
  refine c_qV (req_in e) ?_
  refine c_ift ((nI_leI (a := 0) (by omega) (by omega)).mpr (Nat.zero_le _)) ?_
  refine c_gr (by omega) (by rfl) (by rfl) (by rfl) ?_
  refine c_ob (by omega) (by rfl) ?_
  exact c_qI k1 rfl
theorem cleastNoise_out (e : m.1 0 12 = 1) {x : Int32} (h : ¬ 0 ≤ x.toInt) : xM S mX12_leastNoise [.ref 0, .int x] (E W H n m) = some (.inr sIA, E W H n m, 1, 6) := by
  refine w_X12_leastNoise S _ _ _ _ ?_
  refine c_ob (by omega) (by rfl) ?_
  refine c_qV (req_in e) ?_
  exact c_iff (fun w => h ((i_le0 x).mp w)) rfl
theorem cleastNoise_no (e : m.1 0 12 = 0) (x : Int32) : xM S mX12_leastNoise [.ref 0, .int x] (E W H n m) = some (.inr sIS, E W H n m, 1, 6) := by
  refine w_X12_leastNoise S _ _ _ _ ?_
  refine c_ob (by omega) (by rfl) ?_
  rw [req_no e]
  rfl
def lnP (a j : Nat) : Bool := a == 124 || (a == 131 || (a == 90 && j == 2))
theorem mleastNoise_in (hW8 : 8 ≤ W) (hW : W ≤ 64) (hH8 : 8 ≤ H) (hH : H ≤ 64) (hB : 4 ≤ B) (hB2 : B ≤ 16) (e : m.1 90 35 = 1) (X : blM m W H B D) (hD : ∀ i j, D i j ≤ 4096) {most : Nat} (hm : most < 2147483648) : ∃ m', xM S mX13_leastNoise [.ref 90, .int (nI most)] (E W H n m) = some (.inl (some (.int (nI (lnN (ngN W H B D) most)))), E W H n m', 0, 0) ∧ m'.1 90 2 = 0 ∧ fr lnP m m' := by
  obtain ⟨c1, c2⟩ := coB_le hW8 hW hB hB2
  obtain ⟨r1, r2⟩ := coB_le hH8 hH hB hB2
  obtain ⟨_, e55, e56, e123⟩ := X
  have sp_n : ∀ {a j : Nat}, a ≠ 124 → a ≠ 131 → spP a j = false := fun h1 h2 => by unfold spP; rw [beq_eq_false_iff_ne.mpr h1, beq_eq_false_iff_ne.mpr h2]; rfl
  have L := x_sg (σ := mM) (τ := mM) (D := fun q s => xden S mX13_leastNoise 30 [(0, .ref 90), (1, .int (nI most)), (2, .int (nI q))] [] (E W H n s)) (Inv := fun q s => (∀ q', q' < q → ¬ ngN W H B D q' ≤ most) ∧ fr spP (sI m 90 2 0) s)
    (F := fun s => some (.inl (some (.int (nI (lnN (ngN W H B D) most)))), E W H n s, 0, 0)) (Post := fun s => fr spP (sI m 90 2 0) s) 256 (fun q hq s hs => ?_) (fun s hs => ?_) (sI m 90 2 0) ⟨fun q h => absurd h (Nat.not_lt_zero q), fr_rf⟩
  · obtain ⟨m', k1, k2⟩ := L
    refine ⟨m', w_X13_leastNoise S _ _ _ _ ?_, ?_, fun a j h => ?_⟩
    · refine c_pi (by omega) (by rfl) (by rfl) (by rfl) (xPok_int (by decide) (by rfl)) ?_
      refine c_gi (by omega) (by rfl) (by rfl) (by rfl) ?_
      rw [sI_ne (by omega), e]
      refine c_ift (by decide) ?_
      refine c_ift ((nI_leI (a := 0) (by omega) (by omega)).mpr (Nat.zero_le _)) ?_
      exact k2 _ rfl
    · rw [fr_i k1 90 2 (sp_n (by omega) (by omega)), sI_eq ⟨rfl, rfl⟩]
    · unfold lnP at h
      rw [Bool.or_eq_false_iff, Bool.or_eq_false_iff, Bool.and_eq_false_iff] at h
      obtain ⟨h1, h2, h3⟩ := h
      rw [beq_eq_false_iff_ne] at h1 h2
      obtain ⟨g1, g2, g3⟩ := k1 a j (sp_n h1 h2)
      refine ⟨g1.trans (sI_ne (fun w => ?_)), g2, g3⟩
      rcases h3 with h3 | h3
      · exact beq_eq_false_iff_ne.mp h3 w.1
      · exact beq_eq_false_iff_ne.mp h3 w.2
  · obtain ⟨g1, g2⟩ := hs
    obtain ⟨s1, j1, j2, j3⟩ := joins_s (S := S) (W := W) (H := H) (n := n) (m := s) c1 c2 r1 r2 (by rw [fr_i g2 90 55 (sp_n (by omega) (by omega)), sI_ne (by omega)]; exact e55) (by rw [fr_i g2 90 56 (sp_n (by omega) (by omega)), sI_ne (by omega)]; exact e56) (fun j i hj hi => by rw [fr_i g2 123 _ (sp_n (by omega) (by omega)), sI_ne (by omega)]; exact e123 j i hj hi) hD (noise := q) (by omega)
    have gl : ngN W H B D q ≤ 256 := nS_256 _
    by_cases c : ngN W H B D q ≤ most
    · right
      have e : lnN (ngN W H B D) most = q := by
        unfold lnN
        have le := fa_first_le (fun q => decide (ngN W H B D q ≤ most)) 256
        rcases Nat.lt_trichotomy (fa_first (fun q => decide (ngN W H B D q ≤ most)) 256) q with w | w | w
        · have := fa_first_yes (fun q => decide (ngN W H B D q ≤ most)) 256 (by omega)
          exact absurd (of_decide_eq_true this) (g1 _ w)
        · exact w
        · have := fa_first_no (fun q => decide (ngN W H B D q ≤ most)) 256 q w
          exact absurd c (of_decide_eq_false this)
      refine ⟨s1, fr_tr g2 j3, fun o ho => w_X13_leastNoise_30 S _ _ _ _ _ ?_⟩
      rw [e] at ho
      refine c_iff (fun w => by have := (nI_leI (a := 256) (by omega) (by omega)).mp w; omega) ?_
      refine c_ob (by omega) (by rfl) ?_
      refine c_qI j1 ?_
      refine c_ift ((nI_leI (Nat.lt_of_le_of_lt gl (by decide)) (by omega)).mpr c) ?_
      exact ho
    · left
      refine ⟨s1, ⟨fun q' h => ?_, fr_tr g2 j3⟩, fun o ho => w_X13_leastNoise_30 S _ _ _ _ _ ?_⟩
      · rcases Nat.lt_succ_iff_lt_or_eq.mp h with w | w
        · exact g1 q' w
        · subst w; exact c
      · refine c_iff (fun w => by have := (nI_leI (a := 256) (by omega) (by omega)).mp w; omega) ?_
        refine c_ob (by omega) (by rfl) ?_
        refine c_qI j1 ?_
        refine c_iff (fun w => c ((nI_leI (Nat.lt_of_le_of_lt gl (by decide)) (by omega)).mp w)) ?_
        refine c_let ?_
        rw [show (1 : Int32) = nI 1 from rfl, nI_add]
        exact ho
  · obtain ⟨g1, g2⟩ := hs
    have e : lnN (ngN W H B D) most = 256 := by
      unfold lnN
      have le := fa_first_le (fun q => decide (ngN W H B D q ≤ most)) 256
      rcases Nat.lt_or_ge (fa_first (fun q => decide (ngN W H B D q ≤ most)) 256) 256 with w | w
      · have := fa_first_yes (fun q => decide (ngN W H B D q ≤ most)) 256 w
        exact absurd (of_decide_eq_true this) (g1 _ w)
      · omega
    refine ⟨s, g2, fun o ho => w_X13_leastNoise_30 S _ _ _ _ _ ?_⟩
    rw [e] at ho
    refine c_ift (by decide) ?_
    exact ho
theorem mleastNoise_out (e : m.1 90 35 = 1) {x : Int32} (h : ¬ 0 ≤ x.toInt) : xM S mX13_leastNoise [.ref 90, .int x] (E W H n m) = some (.inl (some (.int 0)), E W H n (sI m 90 2 2), 0, 0) := by
  have f := fails_s (S := S) (W := W) (H := H) (n := n) (m := sI m 90 2 0) 2
  rw [sI_sI] at f
  refine w_X13_leastNoise S _ _ _ _ ?_
  refine c_pi (by omega) (by rfl) (by rfl) (by rfl) (xPok_int (by decide) (by rfl)) ?_
  refine c_gi (by omega) (by rfl) (by rfl) (by rfl) ?_
  rw [sI_ne (by omega), e]
  refine c_ift (by decide) ?_
  refine c_iff (fun w => h ((i_le0 x).mp w)) ?_
  refine c_ob (by omega) (by rfl) ?_
  exact c_qI f rfl
theorem mleastNoise_no (e : m.1 90 35 = 0) (x : Int32) : xM S mX13_leastNoise [.ref 90, .int x] (E W H n m) = some (.inl (some (.int 0)), E W H n (sI m 90 2 1), 0, 0) := by
  have f := fails_s (S := S) (W := W) (H := H) (n := n) (m := sI m 90 2 0) 1
  rw [sI_sI] at f
  refine w_X13_leastNoise S _ _ _ _ ?_
  refine c_pi (by omega) (by rfl) (by rfl) (by rfl) (xPok_int (by decide) (by rfl)) ?_
  refine c_gi (by omega) (by rfl) (by rfl) (by rfl) ?_
  rw [sI_ne (by omega), e]
  refine c_iff (fun w => w rfl) ?_
  refine c_ob (by omega) (by rfl) ?_
  exact c_qI f rfl
end GN
