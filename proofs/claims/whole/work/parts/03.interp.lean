/-! THE PURE MACHINE: frames over a world of places; fd_nx is one instruction, fd_ev runs, fd_EvF is what a frame comes to -/
abbrev fd_Lc : Type := List (Option Value)
abbrev fd_Sh : Type := Nat ⊕ (Bool × Nat)
abbrev fd_Hp : Type := (Nat → Nat → Int32) × (Nat → Int64)
abbrev fd_Sk : Type := (List fd_Sh × (Nat → Nat → Nat)) × (Nat × (Nat → Int32))
abbrev fd_Fr : Type := Nat × Nat × fd_Lc × List Value × (Nat × Nat) × (fd_Sk × fd_Hp)
abbrev fd_Rs : Type := Option Value × (fd_Sk × fd_Hp)
abbrev fd_Act : Type := fd_Rs ⊕ (fd_Fr ⊕ (fd_Fr × (fd_Rs → fd_Fr)))
def fd_code (m : Nat) : ByteArray := fd_codes.getD m ⟨#[]⟩
def fd_name (m : Nat) : MethodName := fd_mnames.getD m ⟨"", "", ""⟩
def fd_ml (m : Nat) : Nat := fd_maxls.getD m 0
def fd_ret (m : Nat) : Option FieldType := fd_rets.getD m none
def fd_own (m : Nat) : Nat := fd_owns.getD m 0
def fd_rk (m : Nat) : Nat := fd_rks.getD m 0
def fd_mc (m : Nat) : Nat := fd_mcs.getD m 0
def fd_ms (m : Nat) : Nat := fd_mss.getD m 0
def fd_cn (c : Nat) : String := fd_cnames.getD c ""
def fd_nf (c : Nat) : Nat := fd_nfs.getD c 0
def fd_kind (c j : Nat) : Nat := (fd_fkinds.getD c []).getD j 0
def fd_isI (m : Nat) : Bool := (fd_name m).name == "<init>"
def fd_fld (c i : Nat) : Option (Nat × Nat × Nat × Nat) := (fd_ftab.getD c []).find? (fun q => q.1 == i)
def fd_lnk (c i : Nat) : Option (Nat × Nat × Nat × Nat × Nat) := (fd_ltab.getD c []).find? (fun q => q.1 == i)
def fd_gst (c i : Nat) : Option (Nat × Nat × Nat) := (fd_gtab.getD c []).find? (fun q => q.1 == i)
def fd_con (c i : Nat) : Option (Nat × Value × Nat) := (fd_ctab.getD c []).find? (fun q => q.1 == i)
def fd_con2 (c i : Nat) : Option (Nat × Int64 × Nat) := (fd_c2tab.getD c []).find? (fun q => q.1 == i)
def fd_ncl (c i : Nat) : Option (Nat × Nat × Nat) := (fd_ntab.getD c []).find? (fun q => q.1 == i)
/-- what a field holds, as the pure machine has it -/
def fd_val (k : fd_Sk) (h : fd_Hp) (c p j : Nat) : Value := match fd_kind c j with
  | 0 => .int (h.1 p j)
  | 1 => (match k.1.2 p j with
    | 0 => .null
    | q + 1 => .ref q)
  | _ => .long (h.2 p)
def fd_w (h : fd_Hp) (p j : Nat) (x : Int32) : fd_Hp := (fun q i => if q = p ∧ i = j then x else h.1 q i, h.2)
def fd_wl (h : fd_Hp) (p : Nat) (x : Int64) : fd_Hp := (h.1, fun q => if q = p then x else h.2 q)
def fd_wa (h : fd_Hp) (p : Nat) (f : Nat → Int32) : fd_Hp := (fun q i => if q = p then f i else h.1 q i, h.2)
def fd_wr (k : fd_Sk) (p j : Nat) (x : Nat) : fd_Sk := ((k.1.1, fun q i => if q = p ∧ i = j then x else k.1.2 q i), k.2)
def fd_put (k : fd_Sk) (h : fd_Hp) (c p j : Nat) (v : Value) : Option (fd_Sk × fd_Hp) := match fd_kind c j, v with
  | 0, .int x => some (k, fd_w h p j x)
  | 1, .ref q => some (fd_wr k p j (q + 1), h)
  | 2, .long x => some (k, fd_wl h p x)
  | _, _ => none
def fd_at (k : fd_Sk) (p : Nat) : Option fd_Sh := k.1.1[p]?
def fd_tab (l : List Int32) : Nat → Int32 := fun j => l.getD j 0
def fd_old (k : fd_Sk) (p : Nat) : Option (Nat × (Nat → Int32)) :=
  if p = 1000 then some (4, fd_tab [7, 3, 100, 16777215]) else if p = 1001 then some (4, fd_tab [1, 0, -1, 0]) else if p = 1002 then some (4, fd_tab [0, 1, 0, -1]) else if p = 1003 then some k.2 else none
/-- the texts of the eight constants, by their places 1010 and on -/
def fd_txt : List (List Int32) := [[111, 119, 101], [118, 111, 105, 99, 101], [99, 97, 114, 114, 121], [112, 97, 114, 100, 111, 110], [97, 108, 108], [98, 117, 116], [102, 114, 111, 109], [116, 111]]
def fd_new (k : fd_Sk) (s : fd_Sh) : fd_Sk := ((k.1.1 ++ [s], fun q i => if q = k.1.1.length then 0 else k.1.2 q i), k.2)
def fd_zero (k : fd_Sk) (h : fd_Hp) : fd_Hp := (fun q i => if q = k.1.1.length then 0 else h.1 q i, fun q => if q = k.1.1.length then 0 else h.2 q)
def fd_jmp (pc : Nat) (off : Int) : Option Nat := if 0 ≤ (pc : Int) + off then some ((pc : Int) + off).toNat else none
def fd_nl (o : Option Value) : Bool := match o with
  | some (.long _) => false
  | some (.double _) => false
  | _ => true
/-- may local i be stored to, and what the locals are then -/
def fd_set (lo : fd_Lc) (i : Nat) (v : Value) : Option fd_Lc := if i < lo.length ∧ (i = 0 ∨ fd_nl (lo.getD (i - 1) none) = true) then some (lo.set i (some v)) else none
def fd_ent (vs : List Value) (n : Nat) : fd_Lc := let l := vs.flatMap (fun v => if v.category = 2 then [some v, none] else [some v]); l ++ List.replicate (n - l.length) none
def fd_icP (c : Jvm.ClassFile.Cond) (x y : Int32) : Bool := match c with
  | .eq => decide (x = y)
  | .ne => !decide (x = y)
  | .lt => decide (x < y)
  | .ge => decide (y ≤ x)
  | .gt => decide (y < x)
  | .le => decide (x ≤ y)
section NX
variable (m pc : Nat) (lo : fd_Lc) (st : List Value) (cn : Nat × Nat) (k : fd_Sk) (h : fd_Hp)
def fd_go (pc' : Nat) (lo' : fd_Lc) (st' : List Value) (k' : fd_Sk) (h' : fd_Hp) : Option fd_Act := some (.inr (.inl (m, pc', lo', st', cn, (k', h'))))
def fd_ii (f : Int32 → Int32 → Option Int32) : Option fd_Act := match st with
  | .int y :: .int x :: r => (f x y).bind (fun z => fd_go m cn (pc + 1) lo (.int z :: r) k h)
  | _ => none
def fd_ll (f : Int64 → Int64 → Int64) : Option fd_Act := match st with
  | .long y :: .long x :: r => fd_go m cn (pc + 1) lo (.long (f x y) :: r) k h
  | _ => none
def fd_li (i : Nat) (len : Nat) : Option fd_Act := match lo[i]? with
  | some (some (.int x)) => fd_go m cn (pc + len) lo (.int x :: st) k h
  | _ => none
def fd_la (i : Nat) (len : Nat) : Option fd_Act := match lo[i]? with
  | some (some (.ref x)) => fd_go m cn (pc + len) lo (.ref x :: st) k h
  | _ => none
def fd_si (i : Nat) (len : Nat) : Option fd_Act := match st with
  | .int x :: r => (fd_set lo i (.int x)).bind (fun lo' => fd_go m cn (pc + len) lo' r k h)
  | _ => none
def fd_sa (i : Nat) (len : Nat) : Option fd_Act := match st with
  | .ref x :: r => (fd_set lo i (.ref x)).bind (fun lo' => fd_go m cn (pc + len) lo' r k h)
  | _ => none
def fd_br (b : Bool) (off : Int) (r : List Value) : Option fd_Act := (fd_jmp pc off).bind (fun t => fd_go m cn (if b then t else pc + 3) lo r k h)
def fd_enter (cal : Nat) (as : List Value) (r : List Value) : Option fd_Act :=
  if r.length ≤ 4 ∧ fd_rk cal < fd_rk m ∧ cn.1 + fd_mc cal ≤ fd_mc m ∧ cn.2 + fd_ms cal ≤ fd_ms m ∧ cal < 201 ∧ (fd_ent as 0).length ≤ fd_ml cal
  then some (.inr (.inr ((cal, 0, fd_ent as (fd_ml cal), [], (0, 0), (k, h)), fun z => (m, pc + 3, lo, z.1.toList ++ r, (cn.1 + fd_mc cal, cn.2 + fd_ms cal), z.2)))) else none
def fd_virt (i : Nat) : Option fd_Act := match fd_lnk (fd_own m) i with
  | some (_, kd, cal, na, _) =>
    if kd = 0 ∨ kd = 3 then (match st.drop na with
      | .ref b :: r => if fd_at k b = some (.inl (fd_own cal)) ∧ (st.take na).length = na then fd_enter m pc lo cn k h cal (.ref b :: (st.take na).reverse) r else none
      | _ => none)
    else if kd = 11 then (match st with
      | .ref b :: r => if 1010 ≤ b ∧ b < 1018 ∧ r.length ≤ 4 ∧ 3 ≤ fd_rk m then fd_go m cn (pc + 3) lo (.int (nI (fd_txt.getD (b - 1010) []).length) :: r) k h else none
      | _ => none)
    else if kd = 12 then (match st with
      | .int x :: .ref b :: r => if 1010 ≤ b ∧ b < 1018 ∧ r.length ≤ 4 ∧ 5 ≤ fd_rk m ∧ ¬ (x < 0 ∨ (fd_txt.getD (b - 1010) []).length ≤ x.toNatClampNeg) then fd_go m cn (pc + 3) lo (.int ((fd_txt.getD (b - 1010) []).getD x.toNatClampNeg 0) :: r) k h else none
      | _ => none)
    else none
  | none => none
def fd_spec (i : Nat) : Option fd_Act := match fd_lnk (fd_own m) i with
  | some (_, kd, cal, na, _) =>
    if kd = 2 ∨ kd = 5 then (match st.drop na with
      | .ref b :: r => if (st.take na).length = na then fd_enter m pc lo cn k h cal (.ref b :: (st.take na).reverse) r else none
      | _ => none)
    else if kd = 6 then (match st with
      | .ref _ :: r => if r.length ≤ 4 ∧ 1 ≤ fd_rk m then fd_go m cn (pc + 3) lo r k h else none
      | _ => none)
    else none
  | none => none
def fd_stat (i : Nat) : Option fd_Act := match fd_lnk (fd_own m) i with
  | some (_, kd, cal, na, _) =>
    if kd = 1 ∨ kd = 4 then (if (st.take na).length = na then fd_enter m pc lo cn k h cal (st.take na).reverse (st.drop na) else none)
    else if kd = 7 then (match st with
      | .int y :: .int x :: r => if r.length ≤ 4 ∧ 1 ≤ fd_rk m then fd_go m cn (pc + 3) lo (.int (if y < x then y else x) :: r) k h else none
      | _ => none)
    else if kd = 8 then (match st with
      | .int y :: .int x :: r => if r.length ≤ 4 ∧ 1 ≤ fd_rk m then fd_go m cn (pc + 3) lo (.int (if x < y then y else x) :: r) k h else none
      | _ => none)
    else if kd = 9 then (match st with
      | .int x :: r => if r.length ≤ 4 ∧ 1 ≤ fd_rk m then fd_go m cn (pc + 3) lo (.int (if 0 ≤ x then x else 0 - x) :: r) k h else none
      | _ => none)
    else if kd = 10 then (match st with
      | .int n :: .int dp :: .ref d :: .int sp :: .ref s :: r => (match fd_at k s, fd_at k d with
        | some (.inr (false, n0)), some (.inr (false, n1)) => if r.length ≤ 4 ∧ 1 ≤ fd_rk m ∧ s ≠ d ∧ ¬ sp < 0 ∧ ¬ dp < 0 ∧ ¬ n < 0 ∧ sp.toNatClampNeg + n.toNatClampNeg ≤ n0 ∧ dp.toNatClampNeg + n.toNatClampNeg ≤ n1 then fd_go m cn (pc + 3) lo r k (fd_wa h d (va_cpy (h.1 s) (h.1 d) sp.toNatClampNeg dp.toNatClampNeg n.toNatClampNeg)) else none
        | _, _ => none)
      | _ => none)
    else none
  | none => none
def fd_get (i : Nat) : Option fd_Act := match fd_fld (fd_own m) i, st with
  | some (_, c, j, _), .ref p :: r => if fd_at k p = some (.inl c) then fd_go m cn (pc + 3) lo (fd_val k h c p j :: r) k h else none
  | _, _ => none
def fd_putf (i : Nat) : Option fd_Act := match fd_fld (fd_own m) i, st with
  | some (_, c, j, _), v :: .ref p :: r => if fd_at k p = some (.inl c) ∧ ((fd_T c j).2.2.2 = false ∨ (fd_isI m = true ∧ c = fd_own m)) then (fd_put k h c p j v).bind (fun q => fd_go m cn (pc + 3) lo r q.1 q.2) else none
  | _, _ => none
def fd_ald : Option fd_Act := match st with
  | .int i :: .ref p :: r => (match fd_at k p with
    | some (.inr (false, n)) => if ¬ (i < 0 ∨ n ≤ i.toNatClampNeg) then fd_go m cn (pc + 1) lo (.int (h.1 p i.toNatClampNeg) :: r) k h else none
    | some _ => none
    | none => (match fd_old k p with
      | some (n, f) => if ¬ (i < 0 ∨ n ≤ i.toNatClampNeg) then fd_go m cn (pc + 1) lo (.int (f i.toNatClampNeg) :: r) k h else none
      | none => none))
  | _ => none
def fd_ast : Option fd_Act := match st with
  | .int x :: .int i :: .ref p :: r => (match fd_at k p with
    | some (.inr (false, n)) => if ¬ (i < 0 ∨ n ≤ i.toNatClampNeg) then fd_go m cn (pc + 1) lo r k (fd_w h p i.toNatClampNeg x) else none
    | _ => none)
  | _ => none
def fd_zld : Option fd_Act := match st with
  | .int i :: .ref p :: r => (match fd_at k p with
    | some (.inr (true, n)) => if ¬ (i < 0 ∨ n ≤ i.toNatClampNeg) then fd_go m cn (pc + 1) lo (.int (h.1 p i.toNatClampNeg) :: r) k h else none
    | _ => none)
  | _ => none
def fd_zst : Option fd_Act := match st with
  | .int x :: .int i :: .ref p :: r => (match fd_at k p with
    | some (.inr (true, n)) => if ¬ (i < 0 ∨ n ≤ i.toNatClampNeg) then fd_go m cn (pc + 1) lo r k (fd_w h p i.toNatClampNeg (vp_nar .boolean x)) else none
    | _ => none)
  | _ => none
def fd_len : Option fd_Act := match st with
  | .ref p :: r => (match fd_at k p with
    | some (.inr (_, n)) => fd_go m cn (pc + 1) lo (.int (nI n) :: r) k h
    | some _ => none
    | none => (match fd_old k p with
      | some (n, _) => fd_go m cn (pc + 1) lo (.int (nI n) :: r) k h
      | none => none))
  | _ => none
def fd_mk (i : Nat) : Option fd_Act := match fd_ncl (fd_own m) i with
  | some (_, c, _) => if cn.1 + 1 ≤ fd_mc m ∧ cn.2 + fd_nf c ≤ fd_ms m ∧ k.1.1.length < 999 then some (.inr (.inl (m, pc + 3, lo, .ref k.1.1.length :: st, (cn.1 + 1, cn.2 + fd_nf c), (fd_new k (.inl c), fd_zero k h)))) else none
  | none => none
def fd_mka (z : Bool) : Option fd_Act := match st with
  | .int x :: r => if ¬ x < 0 ∧ x.toNatClampNeg ≤ 1000 ∧ cn.1 + 1 ≤ fd_mc m ∧ cn.2 + x.toNatClampNeg ≤ fd_ms m ∧ k.1.1.length < 999 then some (.inr (.inl (m, pc + 2, lo, .ref k.1.1.length :: r, (cn.1 + 1, cn.2 + x.toNatClampNeg), (fd_new k (.inr (z, x.toNatClampNeg)), fd_zero k h)))) else none
  | _ => none
def fd_swt (dflt lw hi : Int) (offs : Array Int) : Option fd_Act := match st with
  | .int x :: r => if x.toInt < lw ∨ hi < x.toInt then (fd_jmp pc dflt).bind (fun t => fd_go m cn t lo r k h) else (match offs[(x.toInt - lw).toNat]? with
    | some off => (fd_jmp pc off).bind (fun t => fd_go m cn t lo r k h)
    | none => none)
  | _ => none
def fd_iret : Option fd_Act := match st, fd_ret m with
  | [.int v], some ty => if narrow ty (.int v) = .int v then some (.inl (some (.int v), (k, h))) else none
  | _, _ => none
def fd_aret : Option fd_Act := match st, fd_ret m with
  | [.ref v], some (.object _) => some (.inl (some (.ref v), (k, h)))
  | _, _ => none
def fd_vret : Option fd_Act := match st, fd_ret m with
  | [], none => some (.inl (none, (k, h)))
  | _, _ => none
def fd_nx (i : Instr) (len : Nat) : Option fd_Act := match i with
  | .iconst n => if len = 1 then fd_go m cn (pc + 1) lo (.int (Int32.ofInt n) :: st) k h else none
  | .bipush n => if len = 2 then fd_go m cn (pc + 2) lo (.int (Int8.ofInt n).toInt32 :: st) k h else none
  | .sipush n => if len = 3 then fd_go m cn (pc + 3) lo (.int (Int16.ofInt n).toInt32 :: st) k h else none
  | .lconst n => if len = 1 then fd_go m cn (pc + 1) lo (.long (Int64.ofNat (n : Nat)) :: st) k h else none
  | .ldc i => if len = 2 then (fd_con (fd_own m) i).bind (fun q => fd_go m cn (pc + 2) lo (q.2.1 :: st) k h) else none
  | .ldc_w i => if len = 3 then (match fd_con (fd_own m) i with
    | some (_, .int v, _) => fd_go m cn (pc + 3) lo (.int v :: st) k h
    | _ => none) else none
  | .ldc2_w i => if len = 3 then (fd_con2 (fd_own m) i).bind (fun q => fd_go m cn (pc + 3) lo (.long q.2.1 :: st) k h) else none
  | .iload_n n => if len = 1 then fd_li m pc lo st cn k h (n : Nat) 1 else none
  | .iload n => if len = 2 then fd_li m pc lo st cn k h n 2 else none
  | .aload_n n => if len = 1 then fd_la m pc lo st cn k h (n : Nat) 1 else none
  | .aload n => if len = 2 then fd_la m pc lo st cn k h n 2 else none
  | .lload_n n => if len = 1 then (match lo[(n : Nat)]? with
    | some (some (.long x)) => fd_go m cn (pc + 1) lo (.long x :: st) k h
    | _ => none) else none
  | .istore_n n => if len = 1 then fd_si m pc lo st cn k h (n : Nat) 1 else none
  | .istore n => if len = 2 then fd_si m pc lo st cn k h n 2 else none
  | .astore_n n => if len = 1 then fd_sa m pc lo st cn k h (n : Nat) 1 else none
  | .astore n => if len = 2 then fd_sa m pc lo st cn k h n 2 else none
  | .iinc i n => if len = 3 then (match lo[i]? with
    | some (some (.int x)) => (fd_set lo i (.int (x + Int32.ofInt n))).bind (fun lo' => fd_go m cn (pc + 3) lo' st k h)
    | _ => none) else none
  | .iadd => if len = 1 then fd_ii m pc lo st cn k h (fun x y => some (x + y)) else none
  | .isub => if len = 1 then fd_ii m pc lo st cn k h (fun x y => some (x - y)) else none
  | .imul => if len = 1 then fd_ii m pc lo st cn k h (fun x y => some (x * y)) else none
  | .iand => if len = 1 then fd_ii m pc lo st cn k h (fun x y => some (x &&& y)) else none
  | .ior => if len = 1 then fd_ii m pc lo st cn k h (fun x y => some (x ||| y)) else none
  | .ixor => if len = 1 then fd_ii m pc lo st cn k h (fun x y => some (x ^^^ y)) else none
  | .idiv => if len = 1 then fd_ii m pc lo st cn k h (fun x y => if y = 0 then none else some (x / y)) else none
  | .irem => if len = 1 then fd_ii m pc lo st cn k h (fun x y => if y = 0 then none else some (x - x / y * y)) else none
  | .ishl => if len = 1 then fd_ii m pc lo st cn k h (fun x y => some (x <<< (y &&& 31))) else none
  | .ishr => if len = 1 then fd_ii m pc lo st cn k h (fun x y => some (x >>> (y &&& 31))) else none
  | .iushr => if len = 1 then fd_ii m pc lo st cn k h (fun x y => some (x.toUInt32 >>> (y.toUInt32 &&& Int32.toUInt32 31)).toInt32) else none
  | .ineg => if len = 1 then (match st with
    | .int x :: r => fd_go m cn (pc + 1) lo (.int (-x) :: r) k h
    | _ => none) else none
  | .ladd => if len = 1 then fd_ll m pc lo st cn k h (fun x y => x + y) else none
  | .lsub => if len = 1 then fd_ll m pc lo st cn k h (fun x y => x - y) else none
  | .lmul => if len = 1 then fd_ll m pc lo st cn k h (fun x y => x * y) else none
  | .land => if len = 1 then fd_ll m pc lo st cn k h (fun x y => x &&& y) else none
  | .lor => if len = 1 then fd_ll m pc lo st cn k h (fun x y => x ||| y) else none
  | .lcmp => if len = 1 then (match st with
    | .long y :: .long x :: r => fd_go m cn (pc + 1) lo (.int (lg_cmp x y) :: r) k h
    | _ => none) else none
  | .lshl => if len = 1 then (match st with
    | .int y :: .long x :: r => fd_go m cn (pc + 1) lo (.long (x <<< (y.toInt64 &&& 63)) :: r) k h
    | _ => none) else none
  | .lshr => if len = 1 then (match st with
    | .int y :: .long x :: r => fd_go m cn (pc + 1) lo (.long (x >>> (y.toInt64 &&& 63)) :: r) k h
    | _ => none) else none
  | .i2l => if len = 1 then (match st with
    | .int x :: r => fd_go m cn (pc + 1) lo (.long x.toInt64 :: r) k h
    | _ => none) else none
  | .l2i => if len = 1 then (match st with
    | .long x :: r => fd_go m cn (pc + 1) lo (.int x.toInt32 :: r) k h
    | _ => none) else none
  | .dup => if len = 1 then (match st with
    | v :: r => if v.category = 1 then fd_go m cn (pc + 1) lo (v :: v :: r) k h else none
    | _ => none) else none
  | .pop => if len = 1 then (match st with
    | v :: r => if v.category = 1 then fd_go m cn (pc + 1) lo r k h else none
    | _ => none) else none
  | .dup2 => if len = 1 then (match st with
    | v :: w :: r => if v.category = 1 ∧ w.category = 1 then fd_go m cn (pc + 1) lo (v :: w :: v :: w :: r) k h else none
    | _ => none) else none
  | .dup_x1 => if len = 1 then (match st with
    | v :: w :: r => if v.category = 1 ∧ w.category = 1 then fd_go m cn (pc + 1) lo (v :: w :: v :: r) k h else none
    | _ => none) else none
  | .ifCond c off => if len = 3 then (match st with
    | .int x :: r => fd_br m pc lo cn k h (fd_icP c x 0) off r
    | _ => none) else none
  | .if_icmp c off => if len = 3 then (match st with
    | .int y :: .int x :: r => fd_br m pc lo cn k h (fd_icP c x y) off r
    | _ => none) else none
  | .goto off => if len = 3 then (fd_jmp pc off).bind (fun t => fd_go m cn t lo st k h) else none
  | .tableswitch d a b offs => fd_swt m pc lo st cn k h d a b offs
  | .getfield i => if len = 3 then fd_get m pc lo st cn k h i else none
  | .putfield i => if len = 3 then fd_putf m pc lo st cn k h i else none
  | .getstatic i => if len = 3 then (fd_gst (fd_own m) i).bind (fun q => fd_go m cn (pc + 3) lo (.ref q.2.1 :: st) k h) else none
  | .iaload => if len = 1 then fd_ald m pc lo st cn k h else none
  | .iastore => if len = 1 then fd_ast m pc lo st cn k h else none
  | .baload => if len = 1 then fd_zld m pc lo st cn k h else none
  | .bastore => if len = 1 then fd_zst m pc lo st cn k h else none
  | .arraylength => if len = 1 then fd_len m pc lo st cn k h else none
  | .new i => if len = 3 then fd_mk m pc lo st cn k h i else none
  | .newarray t => if len = 2 then (match t with
    | .int => fd_mka m pc lo st cn k h false
    | .boolean => fd_mka m pc lo st cn k h true
    | _ => none) else none
  | .invokevirtual i => if len = 3 then fd_virt m pc lo st cn k h i else none
  | .invokespecial i => if len = 3 then fd_spec m pc lo st cn k h i else none
  | .invokestatic i => if len = 3 then fd_stat m pc lo st cn k h i else none
  | .ireturn => if len = 1 then fd_iret m st k h else none
  | .areturn => if len = 1 then fd_aret m st k h else none
  | .return_ => if len = 1 then fd_vret m st k h else none
  | _ => none
end NX
def fd_nxt (f : fd_Fr) : Option fd_Act := match f with
  | (m, pc, lo, st, cn, (k, h)) => match decode (fd_code m) pc with
    | .ok (i, len) => fd_nx m pc lo st cn k h i len
    | _ => none
def fd_stp (go : fd_Fr → Option fd_Rs) (f : fd_Fr) : Option fd_Rs := match fd_nxt f with
  | none => none
  | some (.inl r) => some r
  | some (.inr (.inl g)) => go g
  | some (.inr (.inr (g, q))) => match go g with
    | none => none
    | some r => go (q r)
def fd_ev : Nat → fd_Fr → Option fd_Rs
  | 0, _ => none
  | n + 1, f => fd_stp (fd_ev n) f
theorem fd_stp_mono {a b : fd_Fr → Option fd_Rs} (hab : ∀ f r, a f = some r → b f = some r) {f : fd_Fr} {r : fd_Rs} (h : fd_stp a f = some r) : fd_stp b f = some r := by
  unfold fd_stp at h ⊢
  cases hn : fd_nxt f with
  | none => rw [hn] at h; cases h
  | some x =>
    rw [hn] at h
    rcases x with x | x | ⟨g, q⟩
    · exact h
    · exact hab _ _ h
    · dsimp only at h ⊢
      cases hg : a g with
      | none => rw [hg] at h; cases h
      | some y =>
        rw [hg] at h
        rw [hab _ _ hg]
        exact hab _ _ h
theorem fd_ev_mono : ∀ (n : Nat) (f : fd_Fr) (r : fd_Rs), fd_ev n f = some r → fd_ev (n + 1) f = some r := by
  intro n
  induction n with
  | zero => intro f r h; cases h
  | succ n ih => intro f r h; exact fd_stp_mono ih h
theorem fd_ev_le {n k : Nat} (h : n ≤ k) {f : fd_Fr} {r : fd_Rs} (hr : fd_ev n f = some r) : fd_ev k f = some r := by
  induction h with
  | refl => exact hr
  | step _ ih => exact fd_ev_mono _ _ _ ih
noncomputable def fd_EvF (f : fd_Fr) : Option fd_Rs := @dite _ (∃ r n, fd_ev n f = some r) (Classical.propDecidable _) (fun h => some h.choose) (fun _ => none)
theorem fd_EvF_of {f : fd_Fr} {r : fd_Rs} {n : Nat} (h : fd_ev n f = some r) : fd_EvF f = some r := by
  have hx : ∃ r n, fd_ev n f = some r := ⟨r, n, h⟩
  unfold fd_EvF
  rw [dif_pos hx]
  obtain ⟨k, hk⟩ := hx.choose_spec
  have h1 := fd_ev_le (Nat.le_max_left n k) h
  have h2 := fd_ev_le (Nat.le_max_right n k) hk
  rw [h1] at h2
  exact h2.symm
theorem fd_EvF_ex {f : fd_Fr} {r : fd_Rs} (h : fd_EvF f = some r) : ∃ n, fd_ev n f = some r := by
  unfold fd_EvF at h
  by_cases hx : ∃ r n, fd_ev n f = some r
  · rw [dif_pos hx] at h
    obtain ⟨k, hk⟩ := hx.choose_spec
    exact ⟨k, by rw [hk]; exact h⟩
  · rw [dif_neg hx] at h
    cases h
theorem fd_EvF_eq (f : fd_Fr) : fd_EvF f = fd_stp fd_EvF f := by
  apply Option.ext
  intro r
  constructor
  · intro h
    obtain ⟨n, hn⟩ := fd_EvF_ex h
    cases n with
    | zero => cases hn
    | succ n => exact fd_stp_mono (fun g q hg => fd_EvF_of hg) hn
  · intro h
    unfold fd_stp at h
    cases hn : fd_nxt f with
    | none => rw [hn] at h; cases h
    | some x =>
      rw [hn] at h
      rcases x with x | x | ⟨g, q⟩
      · exact fd_EvF_of (n := 1) (by show fd_stp _ f = _; unfold fd_stp; rw [hn]; exact h)
      · obtain ⟨n, e⟩ := fd_EvF_ex h
        exact fd_EvF_of (n := n + 1) (by show fd_stp _ f = _; unfold fd_stp; rw [hn]; exact e)
      · dsimp only at h
        cases hg : fd_EvF g with
        | none => rw [hg] at h; cases h
        | some y =>
          rw [hg] at h
          obtain ⟨n1, e1⟩ := fd_EvF_ex hg
          obtain ⟨n2, e2⟩ := fd_EvF_ex h
          refine fd_EvF_of (n := max n1 n2 + 1) ?_
          show fd_stp _ f = _
          unfold fd_stp
          rw [hn]
          dsimp only
          rw [fd_ev_le (Nat.le_max_left n1 n2) e1]
          exact fd_ev_le (Nat.le_max_right n1 n2) e2
