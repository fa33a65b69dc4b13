/-! AN ABSTRACT RUN OF THE BYTECODE: a method is run over a list of cells, a reference being a place of that list; fuel bounds the run. Nothing here speaks of the machine. -/
abbrev xE : Type := (Nat × vp_A) ⊕ (Nat × List Value)
abbrev xH : Type := List xE
abbrev xL : Type := List (Nat × Value)
/-- the script: its length, its values -/
abbrev xS : Type := Nat × (Nat → Int32)
/-- a state of one frame: pc, locals, stack, cells -/
abbrev xF : Type := Nat × xL × List Value × xH
/-- an end: a value, or the class that was thrown; the cells; how many cells and slots came -/
abbrev xO : Type := (Option Value ⊕ String) × xH × Nat × Nat
/-- a place within a row of n -/
def xin (j : Int32) (n : Nat) : Bool := decide (¬ j < 0 ∧ j.toNatClampNeg < n)
theorem xin_vp {j : Int32} {n : Nat} (h : xin j n = true) : vp_in j n := by
  have h := of_decide_eq_true h
  exact fun q => q.elim h.1 (fun z => by have := h.2; omega)
theorem xin_nI {k n : Nat} (h : k < n) (hn : n < 2 ^ 31) : xin (nI k) n = true := decide_eq_true ⟨nI_pos (by omega), by rw [nI_clamp (by omega)]; exact h⟩
def xtg (pc : Nat) (off : Int) : Option Nat := if 0 ≤ (pc : Int) + off then some ((pc : Int) + off).toNat else none
def xst1 (al : xL) (i : Nat) (v : Value) : xL := (i, v) :: al.filter (fun q => !(q.1 == i) && !(q.1 + 1 == i && q.2.category == 2))
def xst2 (al : xL) (i : Nat) (v : Value) : xL := (i, v) :: al.filter (fun q => !(q.1 == i) && (!(q.1 == i + 1) && !(q.1 + 1 == i && q.2.category == 2)))
/-- what an instruction is: 0 stack alone, 1 locals, 2 a branch, 3 cells, 4 a call, 5 an end -/
def xcat (i : Instr) : Nat := match i with
  | .iload _ | .iload_n _ | .lload _ | .lload_n _ | .aload _ | .aload_n _ | .istore _ | .istore_n _ | .lstore _ | .lstore_n _ | .astore _ | .astore_n _ | .iinc _ _ => 1
  | .goto _ | .ifCond _ _ | .if_icmp _ _ | .ifnull _ | .ifnonnull _ | .tableswitch _ _ _ _ => 2
  | .getfield _ | .putfield _ | .getstatic _ | .iaload | .laload | .baload | .caload | .aaload | .iastore | .lastore | .bastore | .castore | .aastore | .arraylength | .newarray _ | .anewarray _ | .multianewarray _ _ | .ldc _ | .ldc_w _ | .ldc2_w _ => 3
  | .invokevirtual _ | .invokespecial _ | .invokestatic _ => 4
  | .new _ => 6
  | .ireturn | .lreturn | .areturn | .return_ => 5
  | _ => 0
/-- instructions of the stack alone -/
def xpure (i : Instr) (n : Nat) (st : List Value) : Option (List Value) := match i, n, st with
  | .iconst k, 1, st => some (.int (Int32.ofInt k) :: st)
  | .bipush k, 2, st => some (.int (Int8.ofInt k).toInt32 :: st)
  | .sipush k, 3, st => some (.int (Int16.ofInt k).toInt32 :: st)
  | .lconst k, 1, st => some (.long (Int64.ofNat (k : Nat)) :: st)
  | .aconst_null, 1, st => some (.null :: st)
  | .iadd, 1, .int y :: .int x :: st => some (.int (x + y) :: st)
  | .isub, 1, .int y :: .int x :: st => some (.int (x - y) :: st)
  | .imul, 1, .int y :: .int x :: st => some (.int (x * y) :: st)
  | .iand, 1, .int y :: .int x :: st => some (.int (x &&& y) :: st)
  | .ior, 1, .int y :: .int x :: st => some (.int (x ||| y) :: st)
  | .ixor, 1, .int y :: .int x :: st => some (.int (x ^^^ y) :: st)
  | .ishr, 1, .int y :: .int x :: st => some (.int (x >>> (y &&& 31)) :: st)
  | .idiv, 1, .int y :: .int x :: st => if y = 0 then none else some (.int (x / y) :: st)
  | .irem, 1, .int y :: .int x :: st => if y = 0 then none else some (.int (x - x / y * y) :: st)
  | .ineg, 1, .int x :: st => some (.int (-x) :: st)
  | .ladd, 1, .long y :: .long x :: st => some (.long (x + y) :: st)
  | .lsub, 1, .long y :: .long x :: st => some (.long (x - y) :: st)
  | .lmul, 1, .long y :: .long x :: st => some (.long (x * y) :: st)
  | .land, 1, .long y :: .long x :: st => some (.long (x &&& y) :: st)
  | .lor, 1, .long y :: .long x :: st => some (.long (x ||| y) :: st)
  | .lxor, 1, .long y :: .long x :: st => some (.long (x ^^^ y) :: st)
  | .lneg, 1, .long x :: st => some (.long (-x) :: st)
  | .lcmp, 1, .long y :: .long x :: st => some (.int (lg_cmp x y) :: st)
  | .lshl, 1, .int y :: .long x :: st => some (.long (x <<< (y.toInt64 &&& 63)) :: st)
  | .lshr, 1, .int y :: .long x :: st => some (.long (x >>> (y.toInt64 &&& 63)) :: st)
  | .lushr, 1, .int y :: .long x :: st => some (.long (x.toUInt64 >>> (y.toInt64.toUInt64 &&& Int64.toUInt64 63)).toInt64 :: st)
  | .i2l, 1, .int x :: st => some (.long x.toInt64 :: st)
  | .l2i, 1, .long x :: st => some (.int x.toInt32 :: st)
  | .i2c, 1, .int x :: st => some (.int (x.toUInt32 % 65536).toInt32 :: st)
  | .dup, 1, v :: st => if v.category = 1 then some (v :: v :: st) else none
  | .pop, 1, v :: st => if v.category = 1 then some st else none
  | .dup2, 1, v :: w :: st => if v.category = 1 ∧ w.category = 1 then some (v :: w :: v :: w :: st) else none
  | _, _, _ => none
/-- loads and stores of locals; nL: how many there are -/
def xloc (nL : Nat) (i : Instr) (n : Nat) (al : xL) (st : List Value) : Option (xL × List Value) := match i, n, st with
  | .iload k, 2, st => match al.lookup k with | some (.int x) => some (al, .int x :: st) | _ => none
  | .iload_n k, 1, st => match al.lookup (k : Nat) with | some (.int x) => some (al, .int x :: st) | _ => none
  | .lload k, 2, st => match al.lookup k with | some (.long x) => some (al, .long x :: st) | _ => none
  | .lload_n k, 1, st => match al.lookup (k : Nat) with | some (.long x) => some (al, .long x :: st) | _ => none
  | .aload k, 2, st => match al.lookup k with | some .null => some (al, .null :: st) | some (.ref a) => some (al, .ref a :: st) | some (.retAddr a) => some (al, .retAddr a :: st) | _ => none
  | .aload_n k, 1, st => match al.lookup (k : Nat) with | some .null => some (al, .null :: st) | some (.ref a) => some (al, .ref a :: st) | some (.retAddr a) => some (al, .retAddr a :: st) | _ => none
  | .istore k, 2, .int x :: st => if k < nL then some (xst1 al k (.int x), st) else none
  | .istore_n k, 1, .int x :: st => if (k : Nat) < nL then some (xst1 al k (.int x), st) else none
  | .lstore k, 2, .long x :: st => if k + 1 < nL then some (xst2 al k (.long x), st) else none
  | .lstore_n k, 1, .long x :: st => if (k : Nat) + 1 < nL then some (xst2 al k (.long x), st) else none
  | .astore k, 2, .null :: st => if k < nL then some (xst1 al k .null, st) else none
  | .astore k, 2, .ref a :: st => if k < nL then some (xst1 al k (.ref a), st) else none
  | .astore k, 2, .retAddr a :: st => if k < nL then some (xst1 al k (.retAddr a), st) else none
  | .astore_n k, 1, .null :: st => if (k : Nat) < nL then some (xst1 al k .null, st) else none
  | .astore_n k, 1, .ref a :: st => if (k : Nat) < nL then some (xst1 al k (.ref a), st) else none
  | .astore_n k, 1, .retAddr a :: st => if (k : Nat) < nL then some (xst1 al k (.retAddr a), st) else none
  | .iinc k d, 3, st => match al.lookup k with | some (.int x) => if k < nL then some (xst1 al k (.int (x + Int32.ofInt d)), st) else none | _ => none
  | _, _, _ => none
/-- where a branch goes, and the stack there -/
def xbr (i : Instr) (n pc : Nat) (st : List Value) : Option (Nat × List Value) := match i, st with
  | .goto o, st => if n = 3 then (xtg pc o).map (fun t => (t, st)) else none
  | .ifCond .eq o, .int x :: st => if n = 3 then (xtg pc o).bind (fun t => if x = 0 then some (t, st) else some (pc + 3, st)) else none
  | .ifCond .ne o, .int x :: st => if n = 3 then (xtg pc o).bind (fun t => if ¬ x = 0 then some (t, st) else some (pc + 3, st)) else none
  | .ifCond .lt o, .int x :: st => if n = 3 then (xtg pc o).bind (fun t => if x < 0 then some (t, st) else some (pc + 3, st)) else none
  | .ifCond .ge o, .int x :: st => if n = 3 then (xtg pc o).bind (fun t => if 0 ≤ x then some (t, st) else some (pc + 3, st)) else none
  | .ifCond .gt o, .int x :: st => if n = 3 then (xtg pc o).bind (fun t => if 0 < x then some (t, st) else some (pc + 3, st)) else none
  | .ifCond .le o, .int x :: st => if n = 3 then (xtg pc o).bind (fun t => if x ≤ 0 then some (t, st) else some (pc + 3, st)) else none
  | .if_icmp .eq o, .int y :: .int x :: st => if n = 3 then (xtg pc o).bind (fun t => if x = y then some (t, st) else some (pc + 3, st)) else none
  | .if_icmp .ne o, .int y :: .int x :: st => if n = 3 then (xtg pc o).bind (fun t => if ¬ x = y then some (t, st) else some (pc + 3, st)) else none
  | .if_icmp .lt o, .int y :: .int x :: st => if n = 3 then (xtg pc o).bind (fun t => if x < y then some (t, st) else some (pc + 3, st)) else none
  | .if_icmp .ge o, .int y :: .int x :: st => if n = 3 then (xtg pc o).bind (fun t => if y ≤ x then some (t, st) else some (pc + 3, st)) else none
  | .if_icmp .gt o, .int y :: .int x :: st => if n = 3 then (xtg pc o).bind (fun t => if y < x then some (t, st) else some (pc + 3, st)) else none
  | .if_icmp .le o, .int y :: .int x :: st => if n = 3 then (xtg pc o).bind (fun t => if x ≤ y then some (t, st) else some (pc + 3, st)) else none
  | .ifnull o, .null :: st => if n = 3 then (xtg pc o).map (fun t => (t, st)) else none
  | .ifnull _, .ref _ :: st => if n = 3 then some (pc + 3, st) else none
  | .ifnonnull _, .null :: st => if n = 3 then some (pc + 3, st) else none
  | .ifnonnull o, .ref _ :: st => if n = 3 then (xtg pc o).map (fun t => (t, st)) else none
  | .ifnull _, .retAddr k :: st => if n = 3 ∧ k ≠ 998 then some (pc + 3, st) else none
  | .ifnonnull o, .retAddr k :: st => if n = 3 ∧ k ≠ 998 then (xtg pc o).map (fun t => (t, st)) else none
  | .tableswitch d lo hi offs, .int x :: st => if x.toInt < lo ∨ hi < x.toInt then (xtg pc d).map (fun t => (t, st)) else (offs[(x.toInt - lo).toNat]?).bind (fun o => (xtg pc o).map (fun t => (t, st)))
  | _, _ => none
/-- the cells that an array's content is of -/
def xint (a : vp_A) : Option (Nat → Int32) := match a.2 with | .inl f => some f | _ => none
def xlng (a : vp_A) : Option (Nat → Int64) := match a.2 with | .inr (.inl f) => some f | _ => none
def xref (a : vp_A) : Option (Nat → Option Nat) := match a.2 with | .inr (.inr (.inr (.inr f))) => some f | _ => none
def xrf (r : Option Nat) : Value := match r with | none => .null | some a => .ref a
/-- reads of cells (k: the class whose method runs): what comes for the stack -/
def xrd (S : xS) (k : Nat) (i : Instr) (n : Nat) (st : List Value) (h : xH) : Option (List Value) := match i, n, st with
  | .getfield x, 3, .ref a :: st => match h[a]?, xFld k x with
    | some (.inr (ci, fs)), some (cj, j) => if ci = cj then (fs[j]?).map (fun v => v :: st) else none
    | _, _ => none
  | .getfield x, 3, .retAddr a :: st => (xCF a k x).map (fun v => v :: st)
  | .getstatic x, 3, st => (xSta k x).map (fun v => v :: st)
  | .iaload, 1, .int j :: .ref a :: st => match h[a]? with
    | some (.inl (0, m, .inl f)) => if xin j m = true then some (.int (f j.toNatClampNeg) :: st) else none
    | _ => none
  | .baload, 1, .int j :: .ref a :: st => match h[a]? with
    | some (.inl (2, m, .inl f)) => if xin j m = true then some (.int (f j.toNatClampNeg) :: st) else none
    | _ => none
  | .caload, 1, .int j :: .ref a :: st => match h[a]? with
    | some (.inl (3, m, .inl f)) => if xin j m = true then some (.int (f j.toNatClampNeg) :: st) else none
    | _ => none
  | .laload, 1, .int j :: .ref a :: st => match h[a]? with
    | some (.inl (1, m, .inr (.inl f))) => if xin j m = true then some (.long (f j.toNatClampNeg) :: st) else none
    | _ => none
  | .aaload, 1, .int j :: .ref a :: st => match h[a]? with
    | some (.inl (t, m, .inr (.inr (.inr (.inr f))))) => if 4 ≤ t ∧ xin j m = true then some (xrf (f j.toNatClampNeg) :: st) else none
    | _ => none
  | .iaload, 1, .int j :: .retAddr 11 :: st => if xin j S.1 = true then some (.int (S.2 j.toNatClampNeg) :: st) else none
  | .baload, 1, .int j :: .retAddr a :: st => match xCB a with
    | some (m, f) => if xin j m = true then some (.int (f j.toNatClampNeg) :: st) else none
    | _ => none
  | .aaload, 1, .int j :: .retAddr 10 :: st => if xin j 10 = true then some (.retAddr j.toNatClampNeg :: st) else none
  | .arraylength, 1, .ref a :: st => match h[a]? with
    | some (.inl (_, m, _)) => some (.int (Int32.ofNat m) :: st)
    | _ => none
  | .arraylength, 1, .retAddr 11 :: st => some (.int (Int32.ofNat S.1) :: st)
  | .arraylength, 1, .retAddr 10 :: st => some (.int 10 :: st)
  | .arraylength, 1, .retAddr a :: st => match xCB a with
    | some (m, _) => some (.int (Int32.ofNat m) :: st)
    | _ => none
  | .ldc x, 2, st => (xLdc k x).map (fun v => v :: st)
  | .ldc_w x, 3, st => (xLdc k x).map (fun v => v :: st)
  | .ldc2_w x, 3, st => (xLd2 k x).map (fun v => .long v :: st)
  | _, _, _ => none
/-- writes and makings: the stack, the cells, how many cells and slots came; ini: in a constructor -/
def xwr (ini : Bool) (k : Nat) (i : Instr) (n : Nat) (st : List Value) (h : xH) : Option (List Value × xH × Nat × Nat) := match i, n, st with
  | .putfield x, 3, v :: .ref a :: st => match h[a]?, xFld k x with
    | some (.inr (ci, fs)), some (cj, j) => if ci = cj ∧ j < fs.length ∧ xPok ini k ci j v = true then some (st, h.set a (.inr (ci, fs.set j v)), 0, 0) else none
    | _, _ => none
  | .iastore, 1, .int v :: .int j :: .ref a :: st => match h[a]? with
    | some (.inl (0, m, .inl f)) => if xin j m = true then some (st, h.set a (.inl (0, m, .inl (upd f j.toNatClampNeg v))), 0, 0) else none
    | _ => none
  | .bastore, 1, .int v :: .int j :: .ref a :: st => match h[a]? with
    | some (.inl (2, m, .inl f)) => if xin j m = true ∧ (v = 0 ∨ v = 1) then some (st, h.set a (.inl (2, m, .inl (upd f j.toNatClampNeg v))), 0, 0) else none
    | _ => none
  | .castore, 1, .int v :: .int j :: .ref a :: st => match h[a]? with
    | some (.inl (3, m, .inl f)) => if xin j m = true then some (st, h.set a (.inl (3, m, .inl (upd f j.toNatClampNeg (vp_nar .char v)))), 0, 0) else none
    | _ => none
  | .lastore, 1, .long v :: .int j :: .ref a :: st => match h[a]? with
    | some (.inl (1, m, .inr (.inl f))) => if xin j m = true then some (st, h.set a (.inl (1, m, .inr (.inl (vp_updL f j.toNatClampNeg v)))), 0, 0) else none
    | _ => none
  | .aastore, 1, .ref v :: .int j :: .ref a :: st => match h[a]?, h[v]? with
    | some (.inl (t, m, .inr (.inr (.inr (.inr f))))), some (.inr (ci, _)) => if xin j m = true ∧ xElm t = some ci then some (st, h.set a (.inl (t, m, .inr (.inr (.inr (.inr (va_up f j.toNatClampNeg (some v))))))), 0, 0) else none
    | _, _ => none
  | .newarray .int, 2, .int m :: st => if ¬ m < 0 ∧ m.toNatClampNeg ≤ 60000 then some (.ref h.length :: st, h ++ [.inl (0, m.toNatClampNeg, .inl (fun _ => 0))], 1, m.toNatClampNeg) else none
  | .newarray .long, 2, .int m :: st => if ¬ m < 0 ∧ m.toNatClampNeg ≤ 60000 then some (.ref h.length :: st, h ++ [.inl (1, m.toNatClampNeg, .inr (.inl (fun _ => 0)))], 1, m.toNatClampNeg) else none
  | .newarray .boolean, 2, .int m :: st => if ¬ m < 0 ∧ m.toNatClampNeg ≤ 60000 then some (.ref h.length :: st, h ++ [.inl (2, m.toNatClampNeg, .inl (fun _ => 0))], 1, m.toNatClampNeg) else none
  | .newarray .char, 2, .int m :: st => if ¬ m < 0 ∧ m.toNatClampNeg ≤ 60000 then some (.ref h.length :: st, h ++ [.inl (3, m.toNatClampNeg, .inl (fun _ => 0))], 1, m.toNatClampNeg) else none
  | .anewarray x, 3, .int m :: st => match xAnr k x with
    | some t => if ¬ m < 0 ∧ m.toNatClampNeg ≤ 60000 then some (.ref h.length :: st, h ++ [.inl (t, m.toNatClampNeg, .inr (.inr (.inr (.inr (fun _ => none)))))], 1, m.toNatClampNeg) else none
    | _ => none
  | .multianewarray x 2, 4, .int b :: .int m :: st => if xMna k x = true ∧ ¬ m < 0 ∧ m.toNatClampNeg ≤ 60000 ∧ ¬ b < 0 ∧ b.toNatClampNeg ≤ 60000 then
      some (.ref h.length :: st, h ++ [.inl (7, m.toNatClampNeg, .inr (.inr (.inr (.inr (fun j => if j < m.toNatClampNeg then some (h.length + 1 + j) else none)))))] ++ List.replicate m.toNatClampNeg (.inl (0, b.toNatClampNeg, .inl (fun _ => 0))), 1 + m.toNatClampNeg, m.toNatClampNeg + m.toNatClampNeg * b.toNatClampNeg) else none
  | _, _, _ => none
/-- what an end of a method gives -/
def xend (rt : Option FieldType) (i : Instr) (n : Nat) (st : List Value) : Option (Option Value) := match i, n, st with
  | .ireturn, 1, [.int v] => match rt with | some t => if narrow t (.int v) = .int v then some (some (.int v)) else none | none => none
  | .lreturn, 1, [.long v] => if rt = some .long then some (some (.long v)) else none
  | .areturn, 1, [.null] => if xRob rt = true then some (some .null) else none
  | .areturn, 1, [.ref a] => if xRob rt = true then some (some (.ref a)) else none
  | .areturn, 1, [.retAddr a] => if xRob rt = true ∧ a ≠ 998 then some (some (.retAddr a)) else none
  | .return_, 1, [] => if rt = none then some none else none
  | _, _, _ => none
/-- 'throw new E("text")' at a place: the class -/
def xthr (cc : ByteArray) (k pc : Nat) (st : List Value) : Option String :=
  match decode cc pc, decode cc (pc + 3), decode cc (pc + 4) with
  | .ok (.new ik, 3), .ok (.dup, 1), .ok (.ldc s, 2) => match xThr k ik, xLdc k s, decode cc (pc + 6), decode cc (pc + 9) with
    | some (E, ic), some (.retAddr _), .ok (.invokespecial jc, 3), .ok (.athrow, 1) => if ic = jc ∧ (st.map fun v => v.category).sum ≤ 8 then some E else none
    | _, _, _, _ => none
  | .ok (.new ik, 3), .ok (.dup, 1), .ok (.ldc_w s, 3) => match xThr k ik, xLdc k s, decode cc (pc + 7), decode cc (pc + 10) with
    | some (E, ic), some (.retAddr _), .ok (.invokespecial jc, 3), .ok (.athrow, 1) => if ic = jc ∧ (st.map fun v => v.category).sum ≤ 8 then some E else none
    | _, _, _, _ => none
  | _, _, _ => none
/-- a call: the method, its arguments, the rest of the stack -/
def xcall (k : Nat) (i : Instr) (n : Nat) (st : List Value) (h : xH) : Option (xMd × List Value × List Value) := match i, n with
  | .invokestatic x, 3 => match xCal k x with
    | some (y, na) => if y.2.2.2.2.2.2.2.2 = true ∧ na ≤ st.length ∧ ((st.drop na).map fun v => v.category).sum ≤ 8 then some (y, (st.take na).reverse, st.drop na) else none
    | none => none
  | .invokevirtual x, 3 => match xCal k x, st with
    | some (y, na), st => match st.drop na with
      | .ref a :: rest => match h[a]? with
        | some (.inr (ci, _)) => if y.2.2.2.2.2.2.2.2 = false ∧ y.1.name ≠ "<init>" ∧ y.2.2.2.2.1.isEmpty = true ∧ ci = y.2.2.2.2.2.1 ∧ na ≤ st.length ∧ (rest.map fun v => v.category).sum ≤ 8 then some (y, .ref a :: (st.take na).reverse, rest) else none
        | _ => none
      | .retAddr a :: rest => if y.2.2.2.2.2.2.2.2 = false ∧ y.1.name ≠ "<init>" ∧ y.2.2.2.2.1.isEmpty = true ∧ xCcl a = some y.2.2.2.2.2.1 ∧ na ≤ st.length ∧ (rest.map fun v => v.category).sum ≤ 8 then some (y, .retAddr a :: (st.take na).reverse, rest) else none
      | _ => none
    | _, _ => none
  | .invokespecial x, 3 => match xCal k x, st with
    | some (y, na), st => match st.drop na with
      | .ref a :: rest => if y.2.2.2.2.2.2.2.2 = false ∧ y.1.name = "<init>" ∧ y.2.2.2.2.1.isEmpty = true ∧ y.2.2.2.1.isNone = true ∧ na ≤ st.length ∧ (rest.map fun v => v.category).sum ≤ 8 then some (y, .ref a :: (st.take na).reverse, rest) else none
      | _ => none
    | _, _ => none
  | _, _ => none
/-- the exceptions that a run may meet -/
def xE3 : List String := ["java/lang/IndexOutOfBoundsException", "java/lang/IllegalArgumentException", "java/lang/IllegalStateException"]
/-- the handler that takes an exception of a class thrown at pc (some none: it goes on to the caller; none: not known) -/
def xhan (k : Nat) (hh : List (Nat × Nat × Nat × Nat)) (pc : Nat) (E : String) : Option (Option Nat) := match hh with
  | [] => some none
  | q :: hh => if q.1 ≤ pc ∧ pc < q.2.1 then (if k = 14 ∧ E ∈ xE3 then (match xHcl q.2.2.2 with | some nm => if nm = E then some (some q.2.2.1) else xhan k hh pc E | none => none) else none) else xhan k hh pc E
/-- one step of a frame: on (with how many cells and slots), or a call, or an end -/
def xstep (S : xS) (m : xMd) (pc : Nat) (al : xL) (st : List Value) (h : xH) : Option ((xF × Nat × Nat) ⊕ ((xMd × List Value × List Value) ⊕ (Option Value ⊕ String))) :=
  match decode m.2.1 pc with
  | .error _ => none
  | .ok (i, n) => match xcat i with
    | 0 => (xpure i n st).map fun s => .inl ((pc + n, al, s, h), 0, 0)
    | 1 => (xloc m.2.2.1 i n al st).map fun s => .inl ((pc + n, s.1, s.2, h), 0, 0)
    | 2 => (xbr i n pc st).map fun s => .inl ((s.1, al, s.2, h), 0, 0)
    | 3 => match xrd S m.2.2.2.2.2.1 i n st h with
      | some s => some (.inl ((pc + n, al, s, h), 0, 0))
      | none => (xwr (decide (m.1.name = "<init>")) m.2.2.2.2.2.1 i n st h).map fun s => .inl ((pc + n, al, s.1, s.2.1), s.2.2.1, s.2.2.2)
    | 4 => if xObI m.2.2.2.2.2.1 i = true ∧ n = 3 then match st with
        | .ref a :: rest => if 1 ≤ m.2.2.2.2.2.2.1 ∧ 20 ≤ m.2.2.2.2.2.2.2.1 ∧ (rest.map fun v => v.category).sum ≤ 8 then (h[a]?).map (fun _ => .inl ((pc + 3, al, rest, h), 0, 0)) else none
        | _ => none
      else if xCpy m.2.2.2.2.2.1 i = true ∧ n = 3 then match st with
        | .int q :: .int dp :: .ref b :: .int sp :: .ref a :: rest => match h[a]?, h[b]? with
          | some (.inl (t, m0, .inl f)), some (.inl (u, m1, .inl g)) => if t = 0 ∧ u = 0 ∧ ¬ sp < 0 ∧ ¬ dp < 0 ∧ ¬ q < 0 ∧ sp.toNatClampNeg + q.toNatClampNeg ≤ m0 ∧ dp.toNatClampNeg + q.toNatClampNeg ≤ m1 ∧ (rest.map fun v => v.category).sum ≤ 8 ∧ 1 ≤ m.2.2.2.2.2.2.1 ∧ 26 ≤ m.2.2.2.2.2.2.2.1 then
              some (.inl ((pc + 3, al, rest, h.set b (.inl (0, m1, .inl (va_cpy f g sp.toNatClampNeg dp.toNatClampNeg q.toNatClampNeg)))), 0, 0)) else none
          | some (.inl (t, m0, .inr (.inl f))), some (.inl (u, m1, .inr (.inl g))) => if t = 1 ∧ u = 1 ∧ ¬ sp < 0 ∧ ¬ dp < 0 ∧ ¬ q < 0 ∧ sp.toNatClampNeg + q.toNatClampNeg ≤ m0 ∧ dp.toNatClampNeg + q.toNatClampNeg ≤ m1 ∧ (rest.map fun v => v.category).sum ≤ 8 ∧ 1 ≤ m.2.2.2.2.2.2.1 ∧ 26 ≤ m.2.2.2.2.2.2.2.1 then
              some (.inl ((pc + 3, al, rest, h.set b (.inl (1, m1, .inr (.inl (va_cpy f g sp.toNatClampNeg dp.toNatClampNeg q.toNatClampNeg))))), 0, 0)) else none
          | _, _ => none
        | _ => none
      else (xcall m.2.2.2.2.2.1 i n st h).map fun s => .inr (.inl s)
    | 5 => (xend m.2.2.2.1 i n st).map fun v => .inr (.inr (.inl v))
    | 6 => match i with
      | .new x => match xCls m.2.2.2.2.2.1 x with
        | some ci => if n = 3 then some (.inl ((pc + 3, al, .ref h.length :: st, h ++ [.inr (ci, xDef ci)]), 1, (xDef ci).length)) else none
        | none => if 6 ≤ m.2.2.2.2.2.2.1 ∧ 90 ≤ m.2.2.2.2.2.2.2.1 ∧ m.2.2.2.2.1.isEmpty = true then (xthr m.2.1 m.2.2.2.2.2.1 pc st).map fun E => .inr (.inr (.inr E)) else none
      | _ => none
    | _ => none
/-- the run of a method's frame to its end -/
def xrun (S : xS) : Nat → xMd → Nat → xL → List Value → xH → Option xO
  | 0, _, _, _, _, _ => none
  | f + 1, m, pc, al, st, h => match xstep S m pc al st h with
    | none => none
    | some (.inl ((pc', al', st', h'), dc, ds)) => (xrun S f m pc' al' st' h').map fun o => (o.1, o.2.1, o.2.2.1 + dc, o.2.2.2 + ds)
    | some (.inr (.inl (y, as, rest))) => if (lg_sl as).length ≤ y.2.2.1 ∧ y.2.2.2.2.2.2.1 + 1 ≤ m.2.2.2.2.2.2.1 ∧ 8 + (y.2.2.1 + 11) + y.2.2.2.2.2.2.2.1 ≤ m.2.2.2.2.2.2.2.1 then match xrun S f y 0 (lv_args 0 as) [] h with
        | none => none
        | some (.inl v, h', c1, s1) => (xrun S f m (pc + 3) al (v.toList ++ rest) h').map fun o => (o.1, o.2.1, o.2.2.1 + c1, o.2.2.2 + s1)
        | some (.inr E, h', c1, s1) => if y.1.name = "<init>" then none else match xhan m.2.2.2.2.2.1 m.2.2.2.2.1 pc E with
          | none => none
          | some (some t) => (xrun S f m t al [.retAddr 999] h').map fun o => (o.1, o.2.1, o.2.2.1 + c1, o.2.2.2 + s1)
          | some none => some (.inr E, h', c1, s1)
      else none
    | some (.inr (.inr (.inl v))) => some (.inl v, h, 0, 0)
    | some (.inr (.inr (.inr E))) => some (.inr E, h, 1, 6)
