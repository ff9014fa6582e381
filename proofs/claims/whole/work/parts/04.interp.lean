/-! ===== the interpreter ===== -/
def sw_my (k : Nat) : MethodName := (sw_mi k).1
def sw_mb (k : Nat) : ByteArray := (sw_mi k).2.1
def sw_mx (k : Nat) : Nat := (sw_mi k).2.2.1
def sw_mr (k : Nat) : Option FieldType := (sw_mi k).2.2.2.1
def sw_mf (k : Nat) : Nat := (sw_mi k).2.2.2.2.1.1
def sw_ml (k : Nat) : Nat := (sw_mi k).2.2.2.2.1.2.1
def sw_mc (k : Nat) : Nat := (sw_mi k).2.2.2.2.1.2.2.1
def sw_ms (k : Nat) : Nat := (sw_mi k).2.2.2.2.1.2.2.2
def sw_mh (k : Nat) : Nat := (sw_mi k).2.2.2.2.2.1
def sw_ma (k : Nat) : Nat := (sw_mi k).2.2.2.2.2.2.1
def sw_mk (k : Nat) : Nat := (sw_mi k).2.2.2.2.2.2.2.1
def sw_mn (k : Nat) : Bool := (sw_mi k).2.2.2.2.2.2.2.2.1
def sw_mw (k : Nat) : Nat × Nat × Nat × Nat := (sw_mi k).2.2.2.2.2.2.2.2.2
/-- no value; the second half of a long -/
abbrev sw_J : Value := .retAddr 0
def sw_isJ : Value → Bool
  | .retAddr _ => true
  | _ => false
def sw_up (f : Nat → sw_AC) (r : Nat) (c : sw_AC) : Nat → sw_AC := fun q => if q = r then c else f q
def sw_sC (M : sw_M) (r : Nat) (c : sw_AC) : sw_M := (M.1, M.2.1, M.2.2.1, sw_up M.2.2.2 r c)
/-- what lies there and is only read: the script, the table of kinds, the texts -/
def sw_fr (E : sw_E) (r : Nat) : Option sw_AC :=
  if r = 1000 then some (.inl (.int, E.1, .inl E.2.1))
  else if r = 1001 then some (.inl (.int, 6, .inl (fun j => sw_under.getD j 0)))
  else if 1010 ≤ r ∧ r < 1020 then some (.inr (9, [.ref (r + 20), .int 0]))
  else if 1030 ≤ r ∧ r < 1040 then some (.inl (.byte, sw_tlen.getD (r - 1030) 0, .inl (fun j => (sw_tbyt.getD (r - 1030) []).getD j 0)))
  else none
def sw_rd (E : sw_E) (M : sw_M) (r : Nat) : Option sw_AC := if r < M.2.2.1 then some (M.2.2.2 r) else sw_fr E r
def sw_isC (E : sw_E) (M : sw_M) (r ci : Nat) : Bool := match sw_rd E M r with
  | some (.inr (c, _)) => c == ci
  | _ => false
def sw_gF (E : sw_E) (M : sw_M) (r ci k : Nat) : Option Value := match sw_rd E M r with
  | some (.inr (c, fs)) => if c = ci then fs[k]? else none
  | _ => none
def sw_okv : FieldType → Value → Bool
  | .int, .int _ => true
  | .boolean, .int x => x == 0 || x == 1
  | .object _, .ref _ => true
  | .array _, .ref _ => true
  | _, _ => false
def sw_pF (M : sw_M) (r ci k : Nat) (v : Value) : Option sw_M :=
  if r < M.2.2.1 then match M.2.2.2 r with
    | .inr (c, fs) => if c = ci ∧ k < fs.length ∧ sw_okv (sw_fty ci k) v = true then some (sw_sC M r (.inr (c, fs.set k v))) else none
    | _ => none
  else none
def sw_aI (E : sw_E) (M : sw_M) (r : Nat) (i : Int32) : Option Value := match sw_rd E M r with
  | some (.inl (.int, n, .inl f)) => if i < 0 ∨ n ≤ i.toNatClampNeg then none else some (.int (f i.toNatClampNeg))
  | _ => none
def sw_aL (M : sw_M) (r : Nat) (i : Int32) : Option Value := if r < M.2.2.1 then match M.2.2.2 r with
    | .inl (.long, n, .inr (.inl f)) => if i < 0 ∨ n ≤ i.toNatClampNeg then none else some (.long (f i.toNatClampNeg))
    | _ => none
  else none
def sw_aB (E : sw_E) (M : sw_M) (r : Nat) (i : Int32) : Option Value := if r < M.2.2.1 then match M.2.2.2 r with
    | .inl (.boolean, n, .inl f) => if i < 0 ∨ n ≤ i.toNatClampNeg then none else some (.int (f i.toNatClampNeg))
    | _ => none
  else match sw_fr E r with
    | some (.inl (.byte, n, .inl f)) => if i < 0 ∨ n ≤ i.toNatClampNeg then none else some (.int (f i.toNatClampNeg))
    | _ => none
def sw_aA (M : sw_M) (r : Nat) (i : Int32) : Option Value := if r < M.2.2.1 then match M.2.2.2 r with
    | .inl (.object C, n, .inr (.inr (.inr (.inr f)))) => if C = RX3 then (if i < 0 ∨ n ≤ i.toNatClampNeg then none else some (va_rf (f i.toNatClampNeg))) else none
    | _ => none
  else none
def sw_ln (E : sw_E) (M : sw_M) (r : Nat) : Option Value := if r < M.2.2.1 then none else match sw_fr E r with
  | some (.inl (_, n, _)) => some (.int (Int32.ofNat n))
  | _ => none
def sw_sI (M : sw_M) (r : Nat) (i x : Int32) : Option sw_M := if r < M.2.2.1 then match M.2.2.2 r with
    | .inl (.int, n, .inl f) => if i < 0 ∨ n ≤ i.toNatClampNeg then none else some (sw_sC M r (.inl (.int, n, .inl (upd f i.toNatClampNeg x))))
    | _ => none
  else none
def sw_sL (M : sw_M) (r : Nat) (i : Int32) (x : Int64) : Option sw_M := if r < M.2.2.1 then match M.2.2.2 r with
    | .inl (.long, n, .inr (.inl f)) => if i < 0 ∨ n ≤ i.toNatClampNeg then none else some (sw_sC M r (.inl (.long, n, .inr (.inl (vp_updL f i.toNatClampNeg x)))))
    | _ => none
  else none
def sw_sB (M : sw_M) (r : Nat) (i x : Int32) : Option sw_M := if r < M.2.2.1 then match M.2.2.2 r with
    | .inl (.boolean, n, .inl f) => if i < 0 ∨ n ≤ i.toNatClampNeg then none else some (sw_sC M r (.inl (.boolean, n, .inl (upd f i.toNatClampNeg (vp_nar .boolean x)))))
    | _ => none
  else none
def sw_sA (M : sw_M) (r : Nat) (i : Int32) (v : Nat) : Option sw_M := if r < M.2.2.1 ∧ v < M.2.2.1 then match M.2.2.2 r, M.2.2.2 v with
    | .inl (.object C, n, .inr (.inr (.inr (.inr f)))), .inr (c, _) => if C = RX3 ∧ c = 3 then (if i < 0 ∨ n ≤ i.toNatClampNeg then none else some (sw_sC M r (.inl (.object C, n, .inr (.inr (.inr (.inr (va_up f i.toNatClampNeg (some v))))))))) else none
    | _, _ => none
  else none
/-- System.arraycopy -/
def sw_cp (M : sw_M) (a : Nat) (sp : Int32) (b : Nat) (dp n : Int32) : Option sw_M :=
  if a < M.2.2.1 ∧ b < M.2.2.1 ∧ ¬ sp < 0 ∧ ¬ dp < 0 ∧ ¬ n < 0 then match M.2.2.2 a, M.2.2.2 b with
    | .inl (.int, na, .inl f), .inl (.int, nb, .inl g) => if sp.toNatClampNeg + n.toNatClampNeg ≤ na ∧ dp.toNatClampNeg + n.toNatClampNeg ≤ nb then some (sw_sC M b (.inl (.int, nb, .inl (va_cpy f g sp.toNatClampNeg dp.toNatClampNeg n.toNatClampNeg)))) else none
    | .inl (.boolean, na, .inl f), .inl (.boolean, nb, .inl g) => if (sp.toNatClampNeg + n.toNatClampNeg ≤ na ∧ dp.toNatClampNeg + n.toNatClampNeg ≤ nb) ∧ ∀ i, i < n.toNatClampNeg → fits .boolean (.int (f (sp.toNatClampNeg + i))) = true then some (sw_sC M b (.inl (.boolean, nb, .inl (va_cpy f g sp.toNatClampNeg dp.toNatClampNeg n.toNatClampNeg)))) else none
    | .inl (.long, na, .inr (.inl f)), .inl (.long, nb, .inr (.inl g)) => if sp.toNatClampNeg + n.toNatClampNeg ≤ na ∧ dp.toNatClampNeg + n.toNatClampNeg ≤ nb then some (sw_sC M b (.inl (.long, nb, .inr (.inl (va_cpy f g sp.toNatClampNeg dp.toNatClampNeg n.toNatClampNeg))))) else none
    | _, _ => none
  else none
def sw_st (E : sw_E) (a : Nat) : Option Value := match a with
  | 0 => some (.ref 1001)
  | 1 => some (.int 1)
  | 2 => some E.2.2
  | _ => none
/-- storing into a method's own variables -/
def sw_s1 (k : Nat) (ls : List Value) (i : Nat) (v : Value) : Option (List Value) :=
  if i < ls.length then (if sw_mn k = true then some (ls.set i v) else match i with
    | 0 => some (ls.set 0 v)
    | j + 1 => match ls[j]? with
      | some w => if w.category = 2 then none else some (ls.set (j + 1) v)
      | none => none)
  else none
def sw_s2 (k : Nat) (ls : List Value) (i : Nat) (v : Value) : Option (List Value) :=
  if i + 1 < ls.length ∧ sw_mn k = false then match i with
    | 0 => some ((ls.set 0 v).set 1 sw_J)
    | j + 1 => match ls[j]? with
      | some w => if w.category = 2 then none else some ((ls.set (j + 1) v).set (j + 2) sw_J)
      | none => none
  else none
/-- the variables at a method's entry -/
def sw_eA : List Value → List Value
  | [] => []
  | v :: vs => if v.category = 2 then v :: sw_J :: sw_eA vs else v :: sw_eA vs
def sw_eL (n : Nat) (av : List Value) : List Value := sw_eA av ++ List.replicate (n - (sw_eA av).length) sw_J
def sw_okr (t : Option FieldType) (v : Int32) : Bool := match t with
  | some .int => true
  | some .boolean => v == 0 || v == 1
  | some .char => v.toUInt32.toUInt16.toUInt32.toInt32 == v
  | some .byte => v.toInt8.toInt32 == v
  | _ => false
abbrev sw_Cf : Type := Nat × Nat × List Value × List Value × sw_M
/-- what comes next: an end, a state of the same method, a call and what waits for it -/
abbrev sw_Nx : Type := sw_R ⊕ (sw_Cf ⊕ (sw_Cf × (sw_Cf × Nat × Nat)))
def sw_go (k pc : Nat) (ls st : List Value) (M : sw_M) : Option sw_Nx := some (.inr (.inl (k, pc, ls, st, M)))
def sw_jt (pc : Nat) (off : Int) : Nat := ((pc : Int) + off).toNat
def sw_gm (k pc : Nat) (ls st : List Value) (x : Option sw_M) : Option sw_Nx := match x with
  | some M => sw_go k pc ls st M
  | none => none
def sw_gv (k pc : Nat) (ls st : List Value) (M : sw_M) (x : Option Value) : Option sw_Nx := match x with
  | some v => sw_go k pc ls (v :: st) M
  | none => none
def sw_gl (k pc : Nat) (st : List Value) (M : sw_M) (x : Option (List Value)) : Option sw_Nx := match x with
  | some ls => sw_go k pc ls st M
  | none => none
def sw_cat (st : List Value) : Nat := (st.map fun v => v.category).sum
/-- a call of method j -/
def sw_ca (k pc j : Nat) (ls av rest : List Value) (M : sw_M) : Option sw_Nx :=
  if sw_cat rest ≤ 8 ∧ (sw_mn j = true → ∀ v ∈ av, v.category = 1) ∧ (∀ v ∈ av, sw_isJ v = false) ∧ (sw_eA av).length ≤ sw_mx j ∧ ((sw_mc j = 0 ∧ sw_ms j = 0) ∨ (M.1 + sw_mc j ≤ sw_mc k ∧ M.2.1 + sw_ms j ≤ sw_ms k)) then
    some (.inr (.inr ((j, 0, sw_eL (sw_mx j) av, [], (0, 0, M.2.2)), (k, pc + 3, ls, rest, M), sw_mc j, sw_ms j)))
  else none
def sw_tsw (x : Int32) : Int → List Int → Int → Int
  | _, [], d => d
  | lo, o :: os, d => if x = Int32.ofInt lo then o else sw_tsw x (lo + 1) os d
def sw_nx (E : sw_E) (k pc : Nat) (q : sw_N) (ls st : List Value) (M : sw_M) : Option sw_Nx := match q.1 with
  | .iconst n => sw_go k (pc + 1) ls (.int (Int32.ofInt n) :: st) M
  | .bipush n => sw_go k (pc + 2) ls (.int (Int8.ofInt n).toInt32 :: st) M
  | .sipush n => sw_go k (pc + 3) ls (.int (Int16.ofInt n).toInt32 :: st) M
  | .lconst n => sw_go k (pc + 1) ls (.long (Int64.ofNat n) :: st) M
  | .ldc _ => sw_go k (pc + 2) ls (q.2.2.2.2.1 :: st) M
  | .ldc_w _ => sw_go k (pc + 3) ls (q.2.2.2.2.1 :: st) M
  | .ldc2_w _ => sw_go k (pc + 3) ls (q.2.2.2.2.1 :: st) M
  | .aconst_null => sw_go k (pc + 1) ls (.null :: st) M
  | .iload_n i => (match ls[(i : Nat)]? with | some (.int x) => sw_go k (pc + 1) ls (.int x :: st) M | _ => none)
  | .iload i => (match ls[i]? with | some (.int x) => sw_go k (pc + 2) ls (.int x :: st) M | _ => none)
  | .lload_n i => (match ls[(i : Nat)]? with | some (.long x) => sw_go k (pc + 1) ls (.long x :: st) M | _ => none)
  | .lload i => (match ls[i]? with | some (.long x) => sw_go k (pc + 2) ls (.long x :: st) M | _ => none)
  | .aload_n i => (match ls[(i : Nat)]? with | some (.ref x) => sw_go k (pc + 1) ls (.ref x :: st) M | some .null => sw_go k (pc + 1) ls (.null :: st) M | _ => none)
  | .aload i => (match ls[i]? with | some (.ref x) => sw_go k (pc + 2) ls (.ref x :: st) M | some .null => sw_go k (pc + 2) ls (.null :: st) M | _ => none)
  | .istore_n i => (match st with | .int x :: t => sw_gl k (pc + 1) t M (sw_s1 k ls i (.int x)) | _ => none)
  | .istore i => (match st with | .int x :: t => sw_gl k (pc + 2) t M (sw_s1 k ls i (.int x)) | _ => none)
  | .lstore_n i => (match st with | .long x :: t => sw_gl k (pc + 1) t M (sw_s2 k ls i (.long x)) | _ => none)
  | .lstore i => (match st with | .long x :: t => sw_gl k (pc + 2) t M (sw_s2 k ls i (.long x)) | _ => none)
  | .astore_n i => (match st with | .ref x :: t => sw_gl k (pc + 1) t M (sw_s1 k ls i (.ref x)) | .null :: t => sw_gl k (pc + 1) t M (sw_s1 k ls i .null) | _ => none)
  | .astore i => (match st with | .ref x :: t => sw_gl k (pc + 2) t M (sw_s1 k ls i (.ref x)) | .null :: t => sw_gl k (pc + 2) t M (sw_s1 k ls i .null) | _ => none)
  | .iinc i n => (match ls[i]? with | some (.int x) => sw_gl k (pc + 3) st M (sw_s1 k ls i (.int (x + Int32.ofInt n))) | _ => none)
  | .iadd => (match st with | .int y :: .int x :: t => sw_go k (pc + 1) ls (.int (x + y) :: t) M | _ => none)
  | .isub => (match st with | .int y :: .int x :: t => sw_go k (pc + 1) ls (.int (x - y) :: t) M | _ => none)
  | .imul => (match st with | .int y :: .int x :: t => sw_go k (pc + 1) ls (.int (x * y) :: t) M | _ => none)
  | .iand => (match st with | .int y :: .int x :: t => sw_go k (pc + 1) ls (.int (x &&& y) :: t) M | _ => none)
  | .ior => (match st with | .int y :: .int x :: t => sw_go k (pc + 1) ls (.int (x ||| y) :: t) M | _ => none)
  | .ixor => (match st with | .int y :: .int x :: t => sw_go k (pc + 1) ls (.int (x ^^^ y) :: t) M | _ => none)
  | .ishl => (match st with | .int y :: .int x :: t => sw_go k (pc + 1) ls (.int (x <<< (y &&& 31)) :: t) M | _ => none)
  | .ishr => (match st with | .int y :: .int x :: t => sw_go k (pc + 1) ls (.int (x >>> (y &&& 31)) :: t) M | _ => none)
  | .iushr => (match st with | .int y :: .int x :: t => sw_go k (pc + 1) ls (.int (x.toUInt32 >>> (y.toUInt32 &&& Int32.toUInt32 31)).toInt32 :: t) M | _ => none)
  | .idiv => (match st with | .int y :: .int x :: t => if y = 0 then none else sw_go k (pc + 1) ls (.int (x / y) :: t) M | _ => none)
  | .irem => (match st with | .int y :: .int x :: t => if y = 0 then none else sw_go k (pc + 1) ls (.int (x - x / y * y) :: t) M | _ => none)
  | .ladd => (match st with | .long y :: .long x :: t => sw_go k (pc + 1) ls (.long (x + y) :: t) M | _ => none)
  | .land => (match st with | .long y :: .long x :: t => sw_go k (pc + 1) ls (.long (x &&& y) :: t) M | _ => none)
  | .lor => (match st with | .long y :: .long x :: t => sw_go k (pc + 1) ls (.long (x ||| y) :: t) M | _ => none)
  | .lshl => (match st with | .int y :: .long x :: t => sw_go k (pc + 1) ls (.long (x <<< (y.toInt64 &&& 63)) :: t) M | _ => none)
  | .lcmp => (match st with | .long y :: .long x :: t => sw_go k (pc + 1) ls (.int (lg_cmp x y) :: t) M | _ => none)
  | .i2l => (match st with | .int x :: t => sw_go k (pc + 1) ls (.long x.toInt64 :: t) M | _ => none)
  | .l2i => (match st with | .long x :: t => sw_go k (pc + 1) ls (.int x.toInt32 :: t) M | _ => none)
  | .i2b => (match st with | .int x :: t => sw_go k (pc + 1) ls (.int x.toInt8.toInt32 :: t) M | _ => none)
  | .i2s => (match st with | .int x :: t => sw_go k (pc + 1) ls (.int x.toInt16.toInt32 :: t) M | _ => none)
  | .i2c => (match st with | .int x :: t => sw_go k (pc + 1) ls (.int (x.toUInt32 % 65536).toInt32 :: t) M | _ => none)
  | .dup => (match st with | .int x :: t => sw_go k (pc + 1) ls (.int x :: .int x :: t) M | .ref x :: t => sw_go k (pc + 1) ls (.ref x :: .ref x :: t) M | _ => none)
  | .pop => (match st with | .int _ :: t => sw_go k (pc + 1) ls t M | .ref _ :: t => sw_go k (pc + 1) ls t M | _ => none)
  | .dup2 => (match st with | .int y :: .ref x :: t => sw_go k (pc + 1) ls (.int y :: .ref x :: .int y :: .ref x :: t) M | _ => none)
  | .ifCond .eq off => (match st with | .int x :: t => if x = 0 then sw_go k (sw_jt pc off) ls t M else sw_go k (pc + 3) ls t M | _ => none)
  | .ifCond .ne off => (match st with | .int x :: t => if x = 0 then sw_go k (pc + 3) ls t M else sw_go k (sw_jt pc off) ls t M | _ => none)
  | .ifCond .lt off => (match st with | .int x :: t => if x < 0 then sw_go k (sw_jt pc off) ls t M else sw_go k (pc + 3) ls t M | _ => none)
  | .ifCond .ge off => (match st with | .int x :: t => if x < 0 then sw_go k (pc + 3) ls t M else sw_go k (sw_jt pc off) ls t M | _ => none)
  | .ifCond .gt off => (match st with | .int x :: t => if 0 < x then sw_go k (sw_jt pc off) ls t M else sw_go k (pc + 3) ls t M | _ => none)
  | .ifCond .le off => (match st with | .int x :: t => if 0 < x then sw_go k (pc + 3) ls t M else sw_go k (sw_jt pc off) ls t M | _ => none)
  | .if_icmp .eq off => (match st with | .int y :: .int x :: t => if x = y then sw_go k (sw_jt pc off) ls t M else sw_go k (pc + 3) ls t M | _ => none)
  | .if_icmp .ne off => (match st with | .int y :: .int x :: t => if x = y then sw_go k (pc + 3) ls t M else sw_go k (sw_jt pc off) ls t M | _ => none)
  | .if_icmp .lt off => (match st with | .int y :: .int x :: t => if x < y then sw_go k (sw_jt pc off) ls t M else sw_go k (pc + 3) ls t M | _ => none)
  | .if_icmp .ge off => (match st with | .int y :: .int x :: t => if x < y then sw_go k (pc + 3) ls t M else sw_go k (sw_jt pc off) ls t M | _ => none)
  | .if_icmp .gt off => (match st with | .int y :: .int x :: t => if y < x then sw_go k (sw_jt pc off) ls t M else sw_go k (pc + 3) ls t M | _ => none)
  | .if_icmp .le off => (match st with | .int y :: .int x :: t => if y < x then sw_go k (pc + 3) ls t M else sw_go k (sw_jt pc off) ls t M | _ => none)
  | .ifnull off => (match st with | .null :: t => sw_go k (sw_jt pc off) ls t M | .ref _ :: t => sw_go k (pc + 3) ls t M | _ => none)
  | .ifnonnull off => (match st with | .null :: t => sw_go k (pc + 3) ls t M | .ref _ :: t => sw_go k (sw_jt pc off) ls t M | _ => none)
  | .goto off => sw_go k (sw_jt pc off) ls st M
  | .tableswitch d lo _ offs => (match st with | .int x :: t => sw_go k (sw_jt pc (sw_tsw x lo offs.toList d)) ls t M | _ => none)
  | .lookupswitch d ps => (match st with | .int x :: t => sw_go k (sw_jt pc (Op.lookupswitch.offset ps.toList d x.toInt)) ls t M | _ => none)
  | .getfield _ => (match st with | .ref r :: t => sw_gv k (pc + 3) ls t M (sw_gF E M r q.2.2.1 q.2.2.2.1) | _ => none)
  | .putfield _ => (match st with | v :: .ref r :: t => sw_gm k (pc + 3) ls t (sw_pF M r q.2.2.1 q.2.2.2.1 v) | _ => none)
  | .getstatic _ => sw_gv k (pc + 3) ls st M (sw_st E q.2.2.1)
  | .iaload => (match st with | .int i :: .ref r :: t => sw_gv k (pc + 1) ls t M (sw_aI E M r i) | _ => none)
  | .laload => (match st with | .int i :: .ref r :: t => sw_gv k (pc + 1) ls t M (sw_aL M r i) | _ => none)
  | .baload => (match st with | .int i :: .ref r :: t => sw_gv k (pc + 1) ls t M (sw_aB E M r i) | _ => none)
  | .aaload => (match st with | .int i :: .ref r :: t => sw_gv k (pc + 1) ls t M (sw_aA M r i) | _ => none)
  | .arraylength => (match st with | .ref r :: t => sw_gv k (pc + 1) ls t M (sw_ln E M r) | _ => none)
  | .iastore => (match st with | .int x :: .int i :: .ref r :: t => sw_gm k (pc + 1) ls t (sw_sI M r i x) | _ => none)
  | .lastore => (match st with | .long x :: .int i :: .ref r :: t => sw_gm k (pc + 1) ls t (sw_sL M r i x) | _ => none)
  | .bastore => (match st with | .int x :: .int i :: .ref r :: t => sw_gm k (pc + 1) ls t (sw_sB M r i x) | _ => none)
  | .aastore => (match st with | .ref v :: .int i :: .ref r :: t => sw_gm k (pc + 1) ls t (sw_sA M r i v) | _ => none)
  | .new _ => if M.1 + 1 ≤ sw_mc k ∧ M.2.1 + sw_nf q.2.2.1 ≤ sw_ms k ∧ M.2.2.1 < 999 then sw_go k (pc + 3) ls (.ref M.2.2.1 :: st) (M.1 + 1, M.2.1 + sw_nf q.2.2.1, M.2.2.1 + 1, sw_up M.2.2.2 M.2.2.1 (.inr (q.2.2.1, sw_fd q.2.2.1))) else none
  | .newarray t => (match st with
    | .int n :: st => if ¬ n < 0 ∧ n.toNatClampNeg ≤ 10000 ∧ M.1 + 1 ≤ sw_mc k ∧ M.2.1 + n.toNatClampNeg ≤ sw_ms k ∧ M.2.2.1 < 999 then (match t with
      | .int => sw_go k (pc + 2) ls (.ref M.2.2.1 :: st) (M.1 + 1, M.2.1 + n.toNatClampNeg, M.2.2.1 + 1, sw_up M.2.2.2 M.2.2.1 (.inl (.int, n.toNatClampNeg, .inl (fun _ => 0))))
      | .boolean => sw_go k (pc + 2) ls (.ref M.2.2.1 :: st) (M.1 + 1, M.2.1 + n.toNatClampNeg, M.2.2.1 + 1, sw_up M.2.2.2 M.2.2.1 (.inl (.boolean, n.toNatClampNeg, .inl (fun _ => 0))))
      | .long => sw_go k (pc + 2) ls (.ref M.2.2.1 :: st) (M.1 + 1, M.2.1 + n.toNatClampNeg, M.2.2.1 + 1, sw_up M.2.2.2 M.2.2.1 (.inl (.long, n.toNatClampNeg, .inr (.inl (fun _ => 0)))))
      | _ => none) else none
    | _ => none)
  | .anewarray _ => (match st with
    | .int n :: st => if ¬ n < 0 ∧ n.toNatClampNeg ≤ 10000 ∧ M.1 + 1 ≤ sw_mc k ∧ M.2.1 + n.toNatClampNeg ≤ sw_ms k ∧ M.2.2.1 < 999 ∧ q.2.2.1 = 3 then sw_go k (pc + 3) ls (.ref M.2.2.1 :: st) (M.1 + 1, M.2.1 + n.toNatClampNeg, M.2.2.1 + 1, sw_up M.2.2.2 M.2.2.1 (.inl (.object RX3, n.toNatClampNeg, .inr (.inr (.inr (.inr (fun _ => none)))))))
      else none
    | _ => none)
  | .invokestatic _ => if q.2.2.2.1 = 3 then (match st with
      | .int n :: .int dp :: .ref b :: .int sp :: .ref a :: t => if sw_cat t ≤ 8 then sw_gm k (pc + 3) ls t (sw_cp M a sp b dp n) else none
      | _ => none)
    else if q.2.2.2.1 = 4 then (match st with
      | .int y :: .int x :: t => if sw_cat t ≤ 8 then sw_go k (pc + 3) ls (.int (if x < y then y else x) :: t) M else none
      | _ => none)
    else if q.2.2.2.1 = 5 then (match st with
      | .int y :: .int x :: t => if sw_cat t ≤ 8 then sw_go k (pc + 3) ls (.int (if y < x then y else x) :: t) M else none
      | _ => none)
    else if sw_ma q.2.2.1 ≤ st.length then sw_ca k pc q.2.2.1 ls (st.take (sw_ma q.2.2.1)).reverse (st.drop (sw_ma q.2.2.1)) M else none
  | .invokespecial _ => if q.2.2.2.1 = 2 then (match st with
      | .ref _ :: t => if sw_cat t ≤ 8 then sw_go k (pc + 3) ls t M else none
      | _ => none)
    else if sw_ma q.2.2.1 ≤ st.length then (match (st.take (sw_ma q.2.2.1)).reverse with
      | .ref r :: av => sw_ca k pc q.2.2.1 ls (.ref r :: av) (st.drop (sw_ma q.2.2.1)) M
      | _ => none) else none
  | .invokevirtual _ => if sw_ma q.2.2.1 ≤ st.length then (match (st.take (sw_ma q.2.2.1)).reverse with
      | .ref r :: av => if sw_isC E M r (sw_mh q.2.2.1) = true then sw_ca k pc q.2.2.1 ls (.ref r :: av) (st.drop (sw_ma q.2.2.1)) M else none
      | _ => none) else none
  | .ireturn => (match st with | [.int v] => if sw_okr (sw_mr k) v = true then some (.inl (some (.int v), M)) else none | _ => none)
  | .lreturn => (match st with | [.long v] => some (.inl (some (.long v), M)) | _ => none)
  | .areturn => (match st with | [.ref v] => some (.inl (some (.ref v), M)) | [.null] => some (.inl (some .null, M)) | _ => none)
  | .return_ => (match st with | [] => some (.inl (none, M)) | _ => none)
  | _ => none
/-- behind a call -/
def sw_ba (c : sw_Cf) (a b : Nat) (q : sw_R) : sw_Cf := (c.1, c.2.1, c.2.2.1, q.1.toList ++ c.2.2.2.1, (c.2.2.2.2.1 + a, c.2.2.2.2.2.1 + b, q.2.2.2))
def sw_nxc (E : sw_E) (c : sw_Cf) : Option sw_Nx := match sw_cod c.1 c.2.1 with
  | some q => sw_nx E c.1 c.2.1 q c.2.2.1 c.2.2.2.1 c.2.2.2.2
  | none => none
def sw_stp (F : sw_Cf → Option sw_R) (E : sw_E) (c : sw_Cf) : Option sw_R := match sw_nxc E c with
  | none => none
  | some (.inl r) => some r
  | some (.inr (.inl c1)) => F (c.1, c1.2)
  | some (.inr (.inr (c1, c2, a, b))) => match F c1 with
    | none => none
    | some q => F (sw_ba (c.1, c2.2) a b q)
def sw_run (E : sw_E) : Nat → sw_Cf → Option sw_R
  | 0, _ => none
  | f + 1, c => sw_stp (sw_run E f) E c
theorem sw_mono (E : sw_E) : ∀ (f : Nat) (c : sw_Cf) (r : sw_R), sw_run E f c = some r → sw_run E (f + 1) c = some r := by
  intro f
  induction f with
  | zero => intro c r h; cases h
  | succ f ih =>
    intro c r h
    show sw_stp (sw_run E (f + 1)) E c = some r
    have h : sw_stp (sw_run E f) E c = some r := h
    unfold sw_stp at h ⊢
    split at h
    · cases h
    · next r' e => exact h
    · next c1 e => exact ih _ _ h
    · next c1 c2 a b e =>
      split at h
      · cases h
      · next q e1 =>
        have e2 := ih _ _ e1
        show (match sw_run E (f + 1) c1 with | none => none | some q => sw_run E (f + 1) (sw_ba (c.1, c2.2) a b q)) = some r
        rw [e2]
        exact ih _ _ h
theorem sw_mono_le (E : sw_E) {f g : Nat} (hg : f ≤ g) {c : sw_Cf} {r : sw_R} (h : sw_run E f c = some r) : sw_run E g c = some r := by
  induction hg with
  | refl => exact h
  | step _ ih => exact sw_mono E _ _ _ ih
theorem sw_ex_is (E : sw_E) : ∃ F : sw_Cf → Option sw_R, (∀ c, F c = sw_stp F E c) ∧ ∀ c r, F c = some r → ∃ f, sw_run E f c = some r := by
  have key : ∀ c, ∃ o : Option sw_R, (∀ r, o = some r ↔ ∃ f, sw_run E f c = some r) := by
    intro c
    by_cases h : ∃ r f, sw_run E f c = some r
    · obtain ⟨r, f, h⟩ := h
      refine ⟨some r, fun r' => ⟨fun e => ⟨f, by rw [h]; exact e⟩, fun ⟨g, hg⟩ => ?_⟩⟩
      have h1 := sw_mono_le E (Nat.le_max_left f g) h
      have h2 := sw_mono_le E (Nat.le_max_right f g) hg
      rw [h1] at h2
      exact h2
    · exact ⟨none, fun r => ⟨fun e => (by cases e), fun ⟨f, hf⟩ => absurd ⟨r, f, hf⟩ h⟩⟩
  obtain ⟨F, hF⟩ := Classical.axiomOfChoice key
  have step1 : ∀ c r, F c = some r → sw_stp F E c = some r := by
    intro c r h
    obtain ⟨f, hf⟩ := (hF c r).mp h
    cases f with
    | zero => cases hf
    | succ f =>
      have hf : sw_stp (sw_run E f) E c = some r := hf
      unfold sw_stp at hf ⊢
      split at hf
      · cases hf
      · next r' e => exact hf
      · next c1 e => exact (hF _ _).mpr ⟨f, hf⟩
      · next c1 c2 a b e =>
        split at hf
        · cases hf
        · next q e1 =>
          show (match F c1 with | none => none | some q => F (sw_ba (c.1, c2.2) a b q)) = some r
          rw [(hF _ _).mpr ⟨f, e1⟩]
          exact (hF _ _).mpr ⟨f, hf⟩
  have step2 : ∀ c r, sw_stp F E c = some r → F c = some r := by
    intro c r h
    unfold sw_stp at h
    split at h
    · cases h
    · next r' e => exact (hF _ _).mpr ⟨1, by show sw_stp _ E c = _; unfold sw_stp; rw [e]; exact h⟩
    · next c1 e =>
      obtain ⟨f, hf⟩ := (hF _ _).mp h
      exact (hF _ _).mpr ⟨f + 1, by show sw_stp _ E c = _; unfold sw_stp; rw [e]; exact hf⟩
    · next c1 c2 a b e =>
      split at h
      · cases h
      · next q e1 =>
        obtain ⟨f, hf⟩ := (hF _ _).mp e1
        obtain ⟨g, hg⟩ := (hF _ _).mp h
        refine (hF _ _).mpr ⟨max f g + 1, ?_⟩
        show sw_stp _ E c = _
        unfold sw_stp
        rw [e]
        show (match sw_run E (max f g) c1 with | none => none | some q => sw_run E (max f g) (sw_ba (c.1, c2.2) a b q)) = some r
        rw [sw_mono_le E (Nat.le_max_left f g) hf]
        exact sw_mono_le E (Nat.le_max_right f g) hg
  refine ⟨F, fun c => ?_, fun c r h => (hF c r).mp h⟩
  cases h : F c with
  | some r => exact (step1 c r h).symm
  | none =>
    cases h2 : sw_stp F E c with
    | none => rfl
    | some r => rw [step2 c r h2] at h; cases h
/-- the interpreter without a bound: none where it is stuck or has no end -/
noncomputable def sw_exf (E : sw_E) : sw_Cf → Option sw_R := Classical.choose (sw_ex_is E)
noncomputable def sw_ex (E : sw_E) (k pc : Nat) (ls st : List Value) (M : sw_M) : Option sw_R := sw_exf E (k, pc, ls, st, M)
theorem sw_ex_run {E : sw_E} {k pc : Nat} {ls st : List Value} {M : sw_M} {r : sw_R} (h : sw_ex E k pc ls st M = some r) : ∃ f, sw_run E f (k, pc, ls, st, M) = some r := (Classical.choose_spec (sw_ex_is E)).2 _ _ h
theorem sw_ex_u (E : sw_E) (k pc : Nat) (ls st : List Value) (M : sw_M) : sw_ex E k pc ls st M = sw_stp (sw_exf E) E (k, pc, ls, st, M) := (Classical.choose_spec (sw_ex_is E)).1 _
