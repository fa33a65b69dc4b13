/-! FROM THE ABSTRACT STEP TO THE MACHINE: instructions of the stack, of the locals, branches -/
theorem xtg_spec {pc t : Nat} {off : Int} (h : xtg pc off = some t) : (pc : Int) + off = (t : Int) := by
  unfold xtg at h
  split at h
  · cases h; omega
  · cases h
section XS
variable {p : Program} {l : Launch} {e : Env} {R : Room} {s : State} {mid : MethodId} {args : Array Value} {below : List Frame} {meth : Method} {c : Code} {H : Heap} {locs : List Loc} {cells slots : Nat} {Q : State → Prop}
variable {cc : ByteArray} {pc : Nat} {ls : Array Slot} {cad : Nat → Nat} {ad : List Nat}
theorem xs_pure (hexec : p.tables.exec = Jvm.exec) (hb : c.code = cc) {i : Instr} {n : Nat} {st st1 stc : List Value} (hd : decode cc pc = .ok (i, n)) (hp : xpure i n st = some st1) (hs : xSR (xVR cad ad) st stc)
    (kk : ∀ stc', xSR (xVR cad ad) st1 stc' → W p l e R s mid args below meth c H locs cells slots Q (F0 mid (pc + n) ls stc')) : W p l e R s mid args below meth c H locs cells slots Q (F0 mid pc ls stc) := by
  unfold xpure at hp
  split at hp
  · cases hp; exact lv_iconst hexec hb hd rfl (kk _ ⟨_, _, rfl, rfl, hs⟩)
  · cases hp; exact lv_bipush hexec hb hd rfl (kk _ ⟨_, _, rfl, rfl, hs⟩)
  · cases hp; exact lv_sipush hexec hb hd rfl (kk _ ⟨_, _, rfl, rfl, hs⟩)
  · cases hp; exact lv_lconst hexec hb hd rfl (kk _ ⟨_, _, rfl, rfl, hs⟩)
  · cases hp; exact lv_null hexec hb hd (kk _ ⟨_, _, rfl, rfl, hs⟩)
  · cases hp; obtain ⟨w1, t1, rfl, h1, w2, t2, rfl, h2, hs⟩ := hs; cases h1; cases h2; exact lv_iadd hexec hb hd (kk _ ⟨_, _, rfl, rfl, hs⟩)
  · cases hp; obtain ⟨w1, t1, rfl, h1, w2, t2, rfl, h2, hs⟩ := hs; cases h1; cases h2; exact lv_isub hexec hb hd (kk _ ⟨_, _, rfl, rfl, hs⟩)
  · cases hp; obtain ⟨w1, t1, rfl, h1, w2, t2, rfl, h2, hs⟩ := hs; cases h1; cases h2; exact lv_imul hexec hb hd (kk _ ⟨_, _, rfl, rfl, hs⟩)
  · cases hp; obtain ⟨w1, t1, rfl, h1, w2, t2, rfl, h2, hs⟩ := hs; cases h1; cases h2; exact lv_iand hexec hb hd (kk _ ⟨_, _, rfl, rfl, hs⟩)
  · cases hp; obtain ⟨w1, t1, rfl, h1, w2, t2, rfl, h2, hs⟩ := hs; cases h1; cases h2; exact lv_ior hexec hb hd (kk _ ⟨_, _, rfl, rfl, hs⟩)
  · cases hp; obtain ⟨w1, t1, rfl, h1, w2, t2, rfl, h2, hs⟩ := hs; cases h1; cases h2; exact lv_ixor hexec hb hd (kk _ ⟨_, _, rfl, rfl, hs⟩)
  · cases hp; obtain ⟨w1, t1, rfl, h1, w2, t2, rfl, h2, hs⟩ := hs; cases h1; cases h2; exact lv_ishr hexec hb hd (kk _ ⟨_, _, rfl, rfl, hs⟩)
  · split at hp
    · cases hp
    · rename_i hne; cases hp; obtain ⟨w1, t1, rfl, h1, w2, t2, rfl, h2, hs⟩ := hs; cases h1; cases h2; exact lv_idiv hexec hb hd hne (kk _ ⟨_, _, rfl, rfl, hs⟩)
  · split at hp
    · cases hp
    · rename_i hne; cases hp; obtain ⟨w1, t1, rfl, h1, w2, t2, rfl, h2, hs⟩ := hs; cases h1; cases h2; exact lv_irem hexec hb hd hne (kk _ ⟨_, _, rfl, rfl, hs⟩)
  · cases hp; obtain ⟨w1, t1, rfl, h1, hs⟩ := hs; cases h1; exact lv_ineg hexec hb hd (kk _ ⟨_, _, rfl, rfl, hs⟩)
  · cases hp; obtain ⟨w1, t1, rfl, h1, w2, t2, rfl, h2, hs⟩ := hs; cases h1; cases h2; exact lv_ladd hexec hb hd (kk _ ⟨_, _, rfl, rfl, hs⟩)
  · cases hp; obtain ⟨w1, t1, rfl, h1, w2, t2, rfl, h2, hs⟩ := hs; cases h1; cases h2; exact lv_lsub hexec hb hd (kk _ ⟨_, _, rfl, rfl, hs⟩)
  · cases hp; obtain ⟨w1, t1, rfl, h1, w2, t2, rfl, h2, hs⟩ := hs; cases h1; cases h2; exact lv_lmul hexec hb hd (kk _ ⟨_, _, rfl, rfl, hs⟩)
  · cases hp; obtain ⟨w1, t1, rfl, h1, w2, t2, rfl, h2, hs⟩ := hs; cases h1; cases h2; exact lv_land hexec hb hd (kk _ ⟨_, _, rfl, rfl, hs⟩)
  · cases hp; obtain ⟨w1, t1, rfl, h1, w2, t2, rfl, h2, hs⟩ := hs; cases h1; cases h2; exact lv_lor hexec hb hd (kk _ ⟨_, _, rfl, rfl, hs⟩)
  · cases hp; obtain ⟨w1, t1, rfl, h1, w2, t2, rfl, h2, hs⟩ := hs; cases h1; cases h2; exact lv_lxor hexec hb hd (kk _ ⟨_, _, rfl, rfl, hs⟩)
  · cases hp; obtain ⟨w1, t1, rfl, h1, hs⟩ := hs; cases h1; exact lv_lneg hexec hb hd (kk _ ⟨_, _, rfl, rfl, hs⟩)
  · cases hp; obtain ⟨w1, t1, rfl, h1, w2, t2, rfl, h2, hs⟩ := hs; cases h1; cases h2; exact W.lcmp hexec hb hd (kk _ ⟨_, _, rfl, rfl, hs⟩)
  · cases hp; obtain ⟨w1, t1, rfl, h1, w2, t2, rfl, h2, hs⟩ := hs; cases h1; cases h2; exact lv_lshl hexec hb hd rfl (kk _ ⟨_, _, rfl, rfl, hs⟩)
  · cases hp; obtain ⟨w1, t1, rfl, h1, w2, t2, rfl, h2, hs⟩ := hs; cases h1; cases h2; exact lv_lshr hexec hb hd rfl (kk _ ⟨_, _, rfl, rfl, hs⟩)
  · cases hp; obtain ⟨w1, t1, rfl, h1, w2, t2, rfl, h2, hs⟩ := hs; cases h1; cases h2; exact lv_lushr hexec hb hd rfl (kk _ ⟨_, _, rfl, rfl, hs⟩)
  · cases hp; obtain ⟨w1, t1, rfl, h1, hs⟩ := hs; cases h1; exact lv_i2l hexec hb hd rfl (kk _ ⟨_, _, rfl, rfl, hs⟩)
  · cases hp; obtain ⟨w1, t1, rfl, h1, hs⟩ := hs; cases h1; exact lv_l2i hexec hb hd rfl (kk _ ⟨_, _, rfl, rfl, hs⟩)
  · cases hp; obtain ⟨w1, t1, rfl, h1, hs⟩ := hs; cases h1; exact lv_i2c hexec hb hd rfl (kk _ ⟨_, _, rfl, rfl, hs⟩)
  · split at hp
    · rename_i hc; cases hp; obtain ⟨w1, t1, rfl, h1, hs⟩ := hs; exact lv_dup hexec hb hd ((xVR_cat h1).trans hc) (kk _ ⟨_, _, rfl, h1, _, _, rfl, h1, hs⟩)
    · cases hp
  · split at hp
    · rename_i hc; cases hp; obtain ⟨w1, t1, rfl, h1, hs⟩ := hs; exact lv_pop hexec hb hd ((xVR_cat h1).trans hc) (kk _ hs)
    · cases hp
  · split at hp
    · rename_i hc; cases hp; obtain ⟨w1, t1, rfl, h1, w2, t2, rfl, h2, hs⟩ := hs; exact lv_dup2_11 hexec hb hd ((xVR_cat h1).trans hc.1) ((xVR_cat h2).trans hc.2) (kk _ ⟨_, _, rfl, h1, _, _, rfl, h2, _, _, rfl, h1, _, _, rfl, h2, hs⟩)
    · cases hp
  · cases hp
theorem xs_loc (hexec : p.tables.exec = Jvm.exec) (hb : c.code = cc) {i : Instr} {n nL : Nat} {al al1 : xL} {al' : List (Nat × Value)} {st st1 stc : List Value} (hd : decode cc pc = .ok (i, n)) (hp : xloc nL i n al st = some (al1, st1)) (hs : xSR (xVR cad ad) st stc) (hl : lv_has ls nL al') (hL : xLR (xVR cad ad) al al')
    (kk : ∀ ls1 al1' stc', lv_has ls1 nL al1' → xLR (xVR cad ad) al1 al1' → xSR (xVR cad ad) st1 stc' → W p l e R s mid args below meth c H locs cells slots Q (F0 mid (pc + n) ls1 stc')) : W p l e R s mid args below meth c H locs cells slots Q (F0 mid pc ls stc) := by
  unfold xloc at hp
  split at hp
  · split at hp
    · rename_i hlk; cases hp; obtain ⟨j, w, hw, hv⟩ := xLR_get _ _ hL hlk; cases hv; exact lv_iload hexec hb hd (lv_at hl j hw) (kk _ _ _ hl hL ⟨_, _, rfl, rfl, hs⟩)
    · cases hp
  · split at hp
    · rename_i hlk; cases hp; obtain ⟨j, w, hw, hv⟩ := xLR_get _ _ hL hlk; cases hv; exact lv_iload_n hexec hb hd rfl (lv_at hl j hw) (kk _ _ _ hl hL ⟨_, _, rfl, rfl, hs⟩)
    · cases hp
  · split at hp
    · rename_i hlk; cases hp; obtain ⟨j, w, hw, hv⟩ := xLR_get _ _ hL hlk; cases hv; exact lv_lload hexec hb hd (lv_at hl j hw) (kk _ _ _ hl hL ⟨_, _, rfl, rfl, hs⟩)
    · cases hp
  · split at hp
    · rename_i hlk; cases hp; obtain ⟨j, w, hw, hv⟩ := xLR_get _ _ hL hlk; cases hv; exact lv_lload_n hexec hb hd rfl (lv_at hl j hw) (kk _ _ _ hl hL ⟨_, _, rfl, rfl, hs⟩)
    · cases hp
  · split at hp
    · rename_i hlk; cases hp; obtain ⟨j, w, hw, hv⟩ := xLR_get _ _ hL hlk; cases hv; exact lv_aloadN hexec hb hd (lv_at hl j hw) (kk _ _ _ hl hL ⟨_, _, rfl, rfl, hs⟩)
    · rename_i hlk; cases hp; obtain ⟨j, w, hw, hv⟩ := xLR_get _ _ hL hlk; obtain ⟨a1, ha1, rfl⟩ := hv; exact lv_aload hexec hb hd (lv_at hl j hw) (kk _ _ _ hl hL ⟨_, _, rfl, ⟨a1, ha1, rfl⟩, hs⟩)
    · rename_i hlk; cases hp; obtain ⟨j, w, hw, hv⟩ := xLR_get _ _ hL hlk
      rcases xVR_k hv with rfl | ⟨a1, rfl⟩
      · exact lv_aloadN hexec hb hd (lv_at hl j hw) (kk _ _ _ hl hL ⟨_, _, rfl, hv, hs⟩)
      · exact lv_aload hexec hb hd (lv_at hl j hw) (kk _ _ _ hl hL ⟨_, _, rfl, hv, hs⟩)
    · cases hp
  · split at hp
    · rename_i hlk; cases hp; obtain ⟨j, w, hw, hv⟩ := xLR_get _ _ hL hlk; cases hv; exact lv_aload_nN hexec hb hd rfl (lv_at hl j hw) (kk _ _ _ hl hL ⟨_, _, rfl, rfl, hs⟩)
    · rename_i hlk; cases hp; obtain ⟨j, w, hw, hv⟩ := xLR_get _ _ hL hlk; obtain ⟨a1, ha1, rfl⟩ := hv; exact lv_aload_n hexec hb hd rfl (lv_at hl j hw) (kk _ _ _ hl hL ⟨_, _, rfl, ⟨a1, ha1, rfl⟩, hs⟩)
    · rename_i hlk; cases hp; obtain ⟨j, w, hw, hv⟩ := xLR_get _ _ hL hlk
      rcases xVR_k hv with rfl | ⟨a1, rfl⟩
      · exact lv_aload_nN hexec hb hd rfl (lv_at hl j hw) (kk _ _ _ hl hL ⟨_, _, rfl, hv, hs⟩)
      · exact lv_aload_n hexec hb hd rfl (lv_at hl j hw) (kk _ _ _ hl hL ⟨_, _, rfl, hv, hs⟩)
    · cases hp
  · split at hp
    · rename_i hlt; cases hp; obtain ⟨w1, t1, rfl, h1, hs⟩ := hs; cases h1; exact lv_istore hexec hb hd hl hlt rfl (fun ls1 g1 => kk _ _ _ g1 (xLR_st1 hL rfl) hs)
    · cases hp
  · split at hp
    · rename_i hlt; cases hp; obtain ⟨w1, t1, rfl, h1, hs⟩ := hs; cases h1; exact lv_istore_n hexec hb hd rfl hl hlt rfl (fun ls1 g1 => kk _ _ _ g1 (xLR_st1 hL rfl) hs)
    · cases hp
  · split at hp
    · rename_i hlt; cases hp; obtain ⟨w1, t1, rfl, h1, hs⟩ := hs; cases h1; exact lv_lstore hexec hb hd hl hlt rfl (fun ls1 g1 => kk _ _ _ g1 (xLR_st2 hL rfl) hs)
    · cases hp
  · split at hp
    · rename_i hlt; cases hp; obtain ⟨w1, t1, rfl, h1, hs⟩ := hs; cases h1; exact lv_lstore_n hexec hb hd rfl hl hlt rfl (fun ls1 g1 => kk _ _ _ g1 (xLR_st2 hL rfl) hs)
    · cases hp
  · split at hp
    · rename_i hlt; cases hp; obtain ⟨w1, t1, rfl, h1, hs⟩ := hs; cases h1; exact lv_astoreN hexec hb hd hl hlt rfl (fun ls1 g1 => kk _ _ _ g1 (xLR_st1 hL rfl) hs)
    · cases hp
  · split at hp
    · rename_i hlt; cases hp; obtain ⟨w1, t1, rfl, ⟨a1, ha1, rfl⟩, hs⟩ := hs; exact lv_astore hexec hb hd hl hlt rfl (fun ls1 g1 => kk _ _ _ g1 (xLR_st1 hL ⟨a1, ha1, rfl⟩) hs)
    · cases hp
  · split at hp
    · rename_i hlt; cases hp; obtain ⟨w1, t1, rfl, hv, hs⟩ := hs
      rcases xVR_k hv with rfl | ⟨a1, rfl⟩
      · exact lv_astoreN hexec hb hd hl hlt rfl (fun ls1 g1 => kk _ _ _ g1 (xLR_st1 hL hv) hs)
      · exact lv_astore hexec hb hd hl hlt rfl (fun ls1 g1 => kk _ _ _ g1 (xLR_st1 hL hv) hs)
    · cases hp
  · split at hp
    · rename_i hlt; cases hp; obtain ⟨w1, t1, rfl, h1, hs⟩ := hs; cases h1; exact lv_astore_nN hexec hb hd rfl hl hlt rfl (fun ls1 g1 => kk _ _ _ g1 (xLR_st1 hL rfl) hs)
    · cases hp
  · split at hp
    · rename_i hlt; cases hp; obtain ⟨w1, t1, rfl, ⟨a1, ha1, rfl⟩, hs⟩ := hs; exact lv_astore_n hexec hb hd rfl hl hlt rfl (fun ls1 g1 => kk _ _ _ g1 (xLR_st1 hL ⟨a1, ha1, rfl⟩) hs)
    · cases hp
  · split at hp
    · rename_i hlt; cases hp; obtain ⟨w1, t1, rfl, hv, hs⟩ := hs
      rcases xVR_k hv with rfl | ⟨a1, rfl⟩
      · exact lv_astore_nN hexec hb hd rfl hl hlt rfl (fun ls1 g1 => kk _ _ _ g1 (xLR_st1 hL hv) hs)
      · exact lv_astore_n hexec hb hd rfl hl hlt rfl (fun ls1 g1 => kk _ _ _ g1 (xLR_st1 hL hv) hs)
    · cases hp
  · split at hp
    · rename_i hlk
      split at hp
      · rename_i hlt; cases hp; obtain ⟨j, w, hw, hv⟩ := xLR_get _ _ hL hlk; cases hv; exact lv_iinc hexec hb hd hl (k := j) hw rfl hlt rfl (fun ls1 g1 => kk _ _ _ g1 (xLR_st1 hL rfl) hs)
      · cases hp
    · cases hp
  · cases hp
theorem xs_br (hexec : p.tables.exec = Jvm.exec) (hb : c.code = cc) {i : Instr} {n t : Nat} {st st1 stc : List Value} (hd : decode cc pc = .ok (i, n)) (hp : xbr i n pc st = some (t, st1)) (hs : xSR (xVR cad ad) st stc)
    (kk : ∀ stc', xSR (xVR cad ad) st1 stc' → W p l e R s mid args below meth c H locs cells slots Q (F0 mid t ls stc')) : W p l e R s mid args below meth c H locs cells slots Q (F0 mid pc ls stc) := by
  unfold xbr at hp
  split at hp
  · split at hp
    · rename_i hn; subst hn; obtain ⟨t0, ht, e0⟩ := Option.map_eq_some_iff.mp hp; cases e0; exact lv_goto hexec hb hd (xtg_spec ht) (kk _ hs)
    · cases hp
  · split at hp
    · rename_i hn; subst hn; obtain ⟨t0, ht, e0⟩ := Option.bind_eq_some_iff.mp hp; obtain ⟨w1, t1, rfl, h1, hs⟩ := hs; cases h1
      refine lv_if_eq hexec hb hd (xtg_spec ht) (fun q => ?_) (fun q => ?_)
      · rw [if_pos q] at e0; cases e0; exact kk _ hs
      · rw [if_neg q] at e0; cases e0; exact kk _ hs
    · cases hp
  · split at hp
    · rename_i hn; subst hn; obtain ⟨t0, ht, e0⟩ := Option.bind_eq_some_iff.mp hp; obtain ⟨w1, t1, rfl, h1, hs⟩ := hs; cases h1
      refine lv_if_ne hexec hb hd (xtg_spec ht) (fun q => ?_) (fun q => ?_)
      · rw [if_pos q] at e0; cases e0; exact kk _ hs
      · rw [if_neg (fun z => z q)] at e0; cases e0; exact kk _ hs
    · cases hp
  · split at hp
    · rename_i hn; subst hn; obtain ⟨t0, ht, e0⟩ := Option.bind_eq_some_iff.mp hp; obtain ⟨w1, t1, rfl, h1, hs⟩ := hs; cases h1
      refine lv_if_lt hexec hb hd (xtg_spec ht) (fun q => ?_) (fun q => ?_)
      · rw [if_pos q] at e0; cases e0; exact kk _ hs
      · rw [if_neg q] at e0; cases e0; exact kk _ hs
    · cases hp
  · split at hp
    · rename_i hn; subst hn; obtain ⟨t0, ht, e0⟩ := Option.bind_eq_some_iff.mp hp; obtain ⟨w1, t1, rfl, h1, hs⟩ := hs; cases h1
      refine lv_if_ge hexec hb hd (xtg_spec ht) (fun q => ?_) (fun q => ?_)
      · rw [if_pos q] at e0; cases e0; exact kk _ hs
      · rw [if_neg q] at e0; cases e0; exact kk _ hs
    · cases hp
  · split at hp
    · rename_i hn; subst hn; obtain ⟨t0, ht, e0⟩ := Option.bind_eq_some_iff.mp hp; obtain ⟨w1, t1, rfl, h1, hs⟩ := hs; cases h1
      refine lv_if_gt hexec hb hd (xtg_spec ht) (fun q => ?_) (fun q => ?_)
      · rw [if_pos q] at e0; cases e0; exact kk _ hs
      · rw [if_neg q] at e0; cases e0; exact kk _ hs
    · cases hp
  · split at hp
    · rename_i hn; subst hn; obtain ⟨t0, ht, e0⟩ := Option.bind_eq_some_iff.mp hp; obtain ⟨w1, t1, rfl, h1, hs⟩ := hs; cases h1
      refine lv_if_le hexec hb hd (xtg_spec ht) (fun q => ?_) (fun q => ?_)
      · rw [if_pos q] at e0; cases e0; exact kk _ hs
      · rw [if_neg q] at e0; cases e0; exact kk _ hs
    · cases hp
  · split at hp
    · rename_i hn; subst hn; obtain ⟨t0, ht, e0⟩ := Option.bind_eq_some_iff.mp hp; obtain ⟨w1, t1, rfl, h1, w2, t2, rfl, h2, hs⟩ := hs; cases h1; cases h2
      refine lv_icmp_eq hexec hb hd (xtg_spec ht) (fun q => ?_) (fun q => ?_)
      · rw [if_pos q] at e0; cases e0; exact kk _ hs
      · rw [if_neg q] at e0; cases e0; exact kk _ hs
    · cases hp
  · split at hp
    · rename_i hn; subst hn; obtain ⟨t0, ht, e0⟩ := Option.bind_eq_some_iff.mp hp; obtain ⟨w1, t1, rfl, h1, w2, t2, rfl, h2, hs⟩ := hs; cases h1; cases h2
      refine lv_icmp_ne hexec hb hd (xtg_spec ht) (fun q => ?_) (fun q => ?_)
      · rw [if_pos q] at e0; cases e0; exact kk _ hs
      · rw [if_neg (fun z => z q)] at e0; cases e0; exact kk _ hs
    · cases hp
  · split at hp
    · rename_i hn; subst hn; obtain ⟨t0, ht, e0⟩ := Option.bind_eq_some_iff.mp hp; obtain ⟨w1, t1, rfl, h1, w2, t2, rfl, h2, hs⟩ := hs; cases h1; cases h2
      refine lv_icmp_lt hexec hb hd (xtg_spec ht) (fun q => ?_) (fun q => ?_)
      · rw [if_pos q] at e0; cases e0; exact kk _ hs
      · rw [if_neg q] at e0; cases e0; exact kk _ hs
    · cases hp
  · split at hp
    · rename_i hn; subst hn; obtain ⟨t0, ht, e0⟩ := Option.bind_eq_some_iff.mp hp; obtain ⟨w1, t1, rfl, h1, w2, t2, rfl, h2, hs⟩ := hs; cases h1; cases h2
      refine lv_icmp_ge hexec hb hd (xtg_spec ht) (fun q => ?_) (fun q => ?_)
      · rw [if_pos q] at e0; cases e0; exact kk _ hs
      · rw [if_neg q] at e0; cases e0; exact kk _ hs
    · cases hp
  · split at hp
    · rename_i hn; subst hn; obtain ⟨t0, ht, e0⟩ := Option.bind_eq_some_iff.mp hp; obtain ⟨w1, t1, rfl, h1, w2, t2, rfl, h2, hs⟩ := hs; cases h1; cases h2
      refine lv_icmp_gt hexec hb hd (xtg_spec ht) (fun q => ?_) (fun q => ?_)
      · rw [if_pos q] at e0; cases e0; exact kk _ hs
      · rw [if_neg q] at e0; cases e0; exact kk _ hs
    · cases hp
  · split at hp
    · rename_i hn; subst hn; obtain ⟨t0, ht, e0⟩ := Option.bind_eq_some_iff.mp hp; obtain ⟨w1, t1, rfl, h1, w2, t2, rfl, h2, hs⟩ := hs; cases h1; cases h2
      refine lv_icmp_le hexec hb hd (xtg_spec ht) (fun q => ?_) (fun q => ?_)
      · rw [if_pos q] at e0; cases e0; exact kk _ hs
      · rw [if_neg q] at e0; cases e0; exact kk _ hs
    · cases hp
  · split at hp
    · rename_i hn; subst hn; obtain ⟨t0, ht, e0⟩ := Option.map_eq_some_iff.mp hp; cases e0; obtain ⟨w1, t1, rfl, h1, hs⟩ := hs; cases h1; exact lv_ifnullN hexec hb hd (xtg_spec ht) (kk _ hs)
    · cases hp
  · split at hp
    · rename_i hn; subst hn; cases hp; obtain ⟨w1, t1, rfl, ⟨a1, ha1, rfl⟩, hs⟩ := hs; exact lv_ifnull hexec hb hd (kk _ hs)
    · cases hp
  · split at hp
    · rename_i hn; subst hn; cases hp; obtain ⟨w1, t1, rfl, h1, hs⟩ := hs; cases h1; exact lv_ifnonnullN hexec hb hd (kk _ hs)
    · cases hp
  · split at hp
    · rename_i hn; subst hn; obtain ⟨t0, ht, e0⟩ := Option.map_eq_some_iff.mp hp; cases e0; obtain ⟨w1, t1, rfl, ⟨a1, ha1, rfl⟩, hs⟩ := hs; exact lv_ifnonnull hexec hb hd (xtg_spec ht) (kk _ hs)
    · cases hp
  · split at hp
    · rename_i hn; obtain ⟨hn, hk⟩ := hn; subst hn; cases hp; obtain ⟨w1, t1, rfl, hv, hs⟩ := hs; obtain ⟨a1, rfl⟩ := xVR_kr hv hk; exact lv_ifnull hexec hb hd (kk _ hs)
    · cases hp
  · split at hp
    · rename_i hn; obtain ⟨hn, hk⟩ := hn; subst hn; obtain ⟨t0, ht, e0⟩ := Option.map_eq_some_iff.mp hp; cases e0; obtain ⟨w1, t1, rfl, hv, hs⟩ := hs; obtain ⟨a1, rfl⟩ := xVR_kr hv hk; exact lv_ifnonnull hexec hb hd (xtg_spec ht) (kk _ hs)
    · cases hp
  · split at hp
    · rename_i hout; obtain ⟨t0, ht, e0⟩ := Option.map_eq_some_iff.mp hp; cases e0; obtain ⟨w1, t1, rfl, h1, hs⟩ := hs; cases h1; exact lv_tableOut hexec hb hd hout (xtg_spec ht) (kk _ hs)
    · rename_i hout; obtain ⟨o1, ho, hp⟩ := Option.bind_eq_some_iff.mp hp; obtain ⟨t0, ht, e0⟩ := Option.map_eq_some_iff.mp hp; cases e0; obtain ⟨w1, t1, rfl, h1, hs⟩ := hs; cases h1
      exact lv_tableIn hexec hb hd (fun q => hout (Or.inl q)) (fun q => hout (Or.inr q)) ho (xtg_spec ht) (kk _ hs)
  · cases hp
end XS
