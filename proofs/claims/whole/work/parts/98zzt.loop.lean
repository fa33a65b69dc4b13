/-! THE LAW: its loop -/
def LwQ (d n : Nat) (o : Option xO) : Prop := ∃ h c s, o = some (.inl (some (.int 1)), h, c, s) ∧ c ≤ d + 5 * (256 - n) ∧ s ≤ d + 159 * (256 - n)
theorem q_row {d n : Nat} {A B : Option xO} (h : xle A B) (k : LwQ d n A) : LwQ d n B := by
  obtain ⟨h', c, s, e, b1, b2⟩ := k
  exact ⟨h', c, s, h _ e, b1, b2⟩
theorem q_ite {d n : Nat} {p : Prop} [Decidable p] {A B : Option xO} (h1 : p → LwQ d n A) (h2 : ¬ p → LwQ d n B) : LwQ d n (if p then A else B) := by
  by_cases c : p
  · rw [if_pos c]; exact h1 c
  · rw [if_neg c]; exact h2 c
theorem q_bind {d n : Nat} {α : Type} {g : Option α} {v : α} {F : α → Option xO} (e : g = some v) (k : LwQ d n (F v)) : LwQ d n (g.bind F) := by
  rw [e]; exact k
theorem q_let {d n : Nat} {α : Type} {e : α} {F : α → Option xO} (k : LwQ d n (F e)) : LwQ d n (xlet e F) := k
section LL
variable {L : Nat} {xs : Nat → Int32} {W H : Nat}
theorem Rep_256 {n : Nat} {m : mM} (X : Rep W H n m) : n ≤ 256 := by
  obtain ⟨R, l, T, Lt, Z, c, K, cnt, St, C, _⟩ := X
  exact C.2.2.2.2.2.2.2.2.1
theorem law_loop (hW8 : 8 ≤ W) (hW : W ≤ 64) (hH8 : 8 ≤ H) (hH : H ≤ 64) (hL : L ≤ 3586) : ∀ d i n m, L ≤ i + d → i ≤ L + 7 → Rep W H n m → LwQ d n (xden (L, xs) mL_law 43 (lwL i) [] (E W H n m)) := fun d => by
  induction d using Nat.strongRecOn with
  | ind d ih =>
    intro i n m h1 h2 X
    have n256 := Rep_256 X
    have step : ∀ pc, i + 6 < L → LwS (L, xs) W H pc i n m → LwQ d n (xden (L, xs) mL_law pc (lwL i) [] (E W H n m)) := fun pc hi S => by
      obtain ⟨m', n', c, s, X', g1, g2, g3, K⟩ := S
      have n256' := Rep_256 X'
      obtain ⟨h', c2, s2, k1, k2, k3⟩ := ih (d - 7) (by omega) (i + 7) n' m' (by omega) (by omega) X'
      have k4 : xden (L, xs) mL_law 3482 (lwL i) [] (E W H n' m') = some (.inl (some (.int 1)), h', c2, s2) := by
        refine w_L_law_3482 (L, xs) _ _ _ _ _ _ ?_
        refine c_let ?_
        rw [show nI i + (7 : Int32) = nI (i + 7) from nI_add i 7]
        exact k1
      exact ⟨h', c2 + c, s2 + s, K k4, by omega, by omega⟩
    refine q_row (w_L_law_43 (L, xs) 0 90 146 (nI i) (E W H n m)) ?_
    refine q_ite (fun _ => ⟨_, 0, 0, rfl, by omega, by omega⟩) (fun hgt => ?_)
    have hi : i + 6 < L := by
      have e : (Int32.ofNat L - (7 : Int32)).toInt = (L : Int) - 7 := by
        rw [show Int32.ofNat L = zI (L : Int) from (zI_n (by omega)).symm, show (7 : Int32) = zI 7 from rfl, zI_sub (by omega) (by omega) (by omega) (by omega), zI_t (by omega) (by omega)]
      have w := hgt
      rw [fa_lt, nI_toInt (by omega)] at w
      have w2 : ¬ ((L : Int) - 7 < (i : Int)) := by rw [← e]; exact w
      omega
    refine q_bind (v := xs i) (by
      unfold xRs
      (try dsimp only)
      rw [if_pos (xin_nI (by omega) (by omega)), nI_clamp (by omega)]) ?_
    refine q_let ?_
    refine q_ite (fun _ => step 292 hi (LS_row hW8 hW hH8 hH hL hi X)) (fun _ => ?_)
    refine q_ite (fun _ => step 359 hi (LS_setRow hW8 hW hH8 hH hL hi X)) (fun _ => ?_)
    refine q_ite (fun _ => step 471 hi (LS_fill hW8 hW hH8 hH hL hi X)) (fun _ => ?_)
    refine q_ite (fun _ => step 605 hi (LS_copy hW8 hW hH8 hH hL hi X)) (fun _ => ?_)
    refine q_ite (fun _ => step 697 hi (LS_merge hW8 hW hH8 hH hL hi X)) (fun _ => ?_)
    refine q_ite (fun _ => step 753 hi (LS_flip hW8 hW hH8 hH hL hi X)) (fun _ => ?_)
    refine q_ite (fun _ => step 821 hi (LS_despeckle hW8 hW hH8 hH hL hi X)) (fun _ => ?_)
    refine q_ite (fun _ => step 889 hi (LS_paste hW8 hW hH8 hH hL hi X)) (fun _ => ?_)
    refine q_ite (fun _ => step 969 hi (LS_components hW8 hW hH8 hH hL hi X)) (fun _ => ?_)
    refine q_ite (fun _ => step 1025 hi (LS_lines hW8 hW hH8 hH hL hi X)) (fun _ => ?_)
    refine q_ite (fun _ => step 1081 hi (LS_lineTop hW8 hW hH8 hH hL hi X)) (fun _ => ?_)
    refine q_ite (fun _ => step 1149 hi (LS_lineBottom hW8 hW hH8 hH hL hi X)) (fun _ => ?_)
    refine q_ite (fun _ => step 1217 hi (LS_words hW8 hW hH8 hH hL hi X)) (fun _ => ?_)
    refine q_ite (fun _ => step 1297 hi (LS_ink hW8 hW hH8 hH hL hi X)) (fun _ => ?_)
    refine q_ite (fun _ => step 1401 hi (LS_fingerprint hW8 hW hH8 hH hL hi X)) (fun _ => ?_)
    refine q_ite (fun _ => step 1456 hi (LS_undo hW8 hW hH8 hH hL hi X)) (fun _ => ?_)
    refine q_ite (fun _ => step 1500 hi (LS_type hW8 hW hH8 hH hL hi X)) (fun _ => ?_)
    refine q_ite (fun _ => step 1556 hi (LS_clearText hW8 hW hH8 hH hL hi X)) (fun _ => ?_)
    refine q_ite (fun _ => step 1569 hi (LS_configure hW8 hW hH8 hH hL hi X)) (fun _ => ?_)
    refine q_ite (fun _ => step 1582 hi (LS_setting hW8 hW hH8 hH hL hi X)) (fun _ => ?_)
    refine q_ite (fun _ => step 1638 hi (LS_configChar hW8 hW hH8 hH hL hi X)) (fun _ => ?_)
    refine q_ite (fun _ => step 1694 hi (LS_addMask hW8 hW hH8 hH hL hi X)) (fun _ => ?_)
    refine q_ite (fun _ => step 1786 hi (LS_removeMask hW8 hW hH8 hH hL hi X)) (fun _ => ?_)
    refine q_ite (fun _ => step 1842 hi (LS_compare hW8 hW hH8 hH hL hi X)) (fun _ => ?_)
    refine q_ite (fun _ => step 1855 hi (LS_shiftX hW8 hW hH8 hH hL hi X)) (fun _ => ?_)
    refine q_ite (fun _ => step 1899 hi (LS_shiftY hW8 hW hH8 hH hL hi X)) (fun _ => ?_)
    refine q_ite (fun _ => step 1943 hi (LS_skew hW8 hW hH8 hH hL hi X)) (fun _ => ?_)
    refine q_ite (fun _ => step 1987 hi (LS_turned hW8 hW hH8 hH hL hi X)) (fun _ => ?_)
    refine q_ite (fun _ => step 2038 hi (LS_mismatch hW8 hW hH8 hH hL hi X)) (fun _ => ?_)
    refine q_ite (fun _ => step 2082 hi (LS_similarity hW8 hW hH8 hH hL hi X)) (fun _ => ?_)
    refine q_ite (fun _ => step 2126 hi (LS_mismatchAt hW8 hW hH8 hH hL hi X)) (fun _ => ?_)
    refine q_ite (fun _ => step 2194 hi (LS_blockDifference hW8 hW hH8 hH hL hi X)) (fun _ => ?_)
    refine q_ite (fun _ => step 2262 hi (LS_regions hW8 hW hH8 hH hL hi X)) (fun _ => ?_)
    refine q_ite (fun _ => step 2306 hi (LS_regionAt hW8 hW hH8 hH hL hi X)) (fun _ => ?_)
    refine q_ite (fun _ => step 2374 hi (LS_regionLeft hW8 hW hH8 hH hL hi X)) (fun _ => ?_)
    refine q_ite (fun _ => step 2430 hi (LS_regionTop hW8 hW hH8 hH hL hi X)) (fun _ => ?_)
    refine q_ite (fun _ => step 2486 hi (LS_regionRight hW8 hW hH8 hH hL hi X)) (fun _ => ?_)
    refine q_ite (fun _ => step 2542 hi (LS_regionBottom hW8 hW hH8 hH hL hi X)) (fun _ => ?_)
    refine q_ite (fun _ => step 2598 hi (LS_missingPixels hW8 hW hH8 hH hL hi X)) (fun _ => ?_)
    refine q_ite (fun _ => step 2654 hi (LS_addedPixels hW8 hW hH8 hH hL hi X)) (fun _ => ?_)
    refine q_ite (fun _ => step 2710 hi (LS_changes hW8 hW hH8 hH hL hi X)) (fun _ => ?_)
    refine q_ite (fun _ => step 2754 hi (LS_changeKind hW8 hW hH8 hH hL hi X)) (fun _ => ?_)
    refine q_ite (fun _ => step 2810 hi (LS_changeRegion hW8 hW hH8 hH hL hi X)) (fun _ => ?_)
    refine q_ite (fun _ => step 2866 hi (LS_changeTarget hW8 hW hH8 hH hL hi X)) (fun _ => ?_)
    refine q_ite (fun _ => step 2922 hi (LS_moveX hW8 hW hH8 hH hL hi X)) (fun _ => ?_)
    refine q_ite (fun _ => step 2978 hi (LS_moveY hW8 hW hH8 hH hL hi X)) (fun _ => ?_)
    refine q_ite (fun _ => step 3034 hi (LS_changePixels hW8 hW hH8 hH hL hi X)) (fun _ => ?_)
    refine q_ite (fun _ => step 3090 hi (LS_changeLine hW8 hW hH8 hH hL hi X)) (fun _ => ?_)
    refine q_ite (fun _ => step 3146 hi (LS_reportChar hW8 hW hH8 hH hL hi X)) (fun _ => ?_)
    refine q_ite (fun _ => step 3202 hi (LS_learn hW8 hW hH8 hH hL hi X)) (fun _ => ?_)
    refine q_ite (fun _ => step 3258 hi (LS_stampOf hW8 hW hH8 hH hL hi X)) (fun _ => ?_)
    refine q_ite (fun _ => step 3314 hi (LS_forgetStamp hW8 hW hH8 hH hL hi X)) (fun _ => ?_)
    refine q_ite (fun _ => step 3370 hi (LS_accept hW8 hW hH8 hH hL hi X)) (fun _ => ?_)
    refine q_ite (fun _ => step 3426 hi (LS_leastNoise hW8 hW hH8 hH hL hi X)) (fun _ => ?_)
    exact step 3482 hi (LS_none X)
end LL
