/-! a pure machine over the decoded instructions: values with relative references (0: the script; k + 1: the k-th cell made) -/
abbrev g_En : Type := (Instr × Nat) × Nat × Nat × Int
abbrev g_M : Type := String × MethodName × ByteArray × Nat × Option FieldType × (Nat → Option g_En)
abbrev g_Ce : Type := (Nat × Nat × ((Nat → Int32) ⊕ (Nat → Option Nat))) ⊕ (Nat × List Value)
abbrev g_Lc : Type := List (Nat × Value)
def g_i2 (f : Int32 → Int32 → Int32) (st : List Value) : Option (List Value) := match st with
  | .int y :: .int x :: r => some (.int (f x y) :: r)
  | _ => none
def g_d2 (f : Int32 → Int32 → Int32) (st : List Value) : Option (List Value) := match st with
  | .int y :: .int x :: r => if y = 0 then none else some (.int (f x y) :: r)
  | _ => none
def g_i1 (f : Int32 → Value) (st : List Value) : Option (List Value) := match st with
  | .int x :: r => some (f x :: r)
  | _ => none
def g_cm (st : List Value) : Option (List Value) := match st with
  | .long y :: .long x :: r => some (.int (lg_cmp x y) :: r)
  | _ => none
def g_dp (st : List Value) : Option (List Value) := match st with
  | v :: r => if v.category = 1 then some (v :: v :: r) else none
  | _ => none
def g_dd (st : List Value) : Option (List Value) := match st with
  | v :: w :: r => if v.category = 1 ∧ w.category = 1 then some (v :: w :: v :: w :: r) else none
  | _ => none
def g_po (st : List Value) : Option (List Value) := match st with
  | v :: r => if v.category = 1 then some r else none
  | _ => none
/-- instructions of the stack alone -/
def g_stk (ins : Instr) (z : Int) (st : List Value) : Option (List Value) := match ins with
  | .iconst n => some (.int (Int32.ofInt n) :: st)
  | .bipush n => some (.int (Int8.ofInt n).toInt32 :: st)
  | .sipush n => some (.int (Int16.ofInt n).toInt32 :: st)
  | .lconst n => some (.long (Int64.ofNat (n : Nat)) :: st)
  | .ldc _ => some (.int (Int32.ofInt z) :: st)
  | .ldc_w _ => some (.int (Int32.ofInt z) :: st)
  | .ldc2_w _ => some (.long (Int64.ofInt z) :: st)
  | .iadd => g_i2 (fun x y => x + y) st
  | .isub => g_i2 (fun x y => x - y) st
  | .imul => g_i2 (fun x y => x * y) st
  | .iand => g_i2 (fun x y => x &&& y) st
  | .ior => g_i2 (fun x y => x ||| y) st
  | .ixor => g_i2 (fun x y => x ^^^ y) st
  | .ishl => g_i2 (fun x y => x <<< (y &&& 31)) st
  | .ishr => g_i2 (fun x y => x >>> (y &&& 31)) st
  | .iushr => g_i2 (fun x y => (x.toUInt32 >>> (y.toUInt32 &&& Int32.toUInt32 31)).toInt32) st
  | .idiv => g_d2 (fun x y => x / y) st
  | .irem => g_d2 (fun x y => x - x / y * y) st
  | .ineg => g_i1 (fun x => .int (-x)) st
  | .i2l => g_i1 (fun x => .long x.toInt64) st
  | .i2b => g_i1 (fun x => .int x.toInt8.toInt32) st
  | .i2c => g_i1 (fun x => .int (x.toUInt32 % 65536).toInt32) st
  | .lcmp => g_cm st
  | .dup => g_dp st
  | .dup2 => g_dd st
  | .pop => g_po st
  | .aconst_null => some (.null :: st)
  | _ => none
def g_get (ls : g_Lc) (i : Nat) : Option Value := (ls.find? (fun q => q.1 == i)).map (fun q => q.2)
def g_set (ls : g_Lc) (i : Nat) (v : Value) : g_Lc := (i, v) :: ls.filter (fun q => !(q.1 == i) && !(q.1 + 1 == i && q.2.category == 2))
def g_ldi (ls : g_Lc) (i : Nat) (st : List Value) : Option (g_Lc × List Value) := match g_get ls i with
  | some (.int v) => some (ls, .int v :: st)
  | _ => none
def g_lda (ls : g_Lc) (i : Nat) (st : List Value) : Option (g_Lc × List Value) := match g_get ls i with
  | some (.ref v) => some (ls, .ref v :: st)
  | some .null => some (ls, .null :: st)
  | _ => none
def g_ldl (ls : g_Lc) (i : Nat) (st : List Value) : Option (g_Lc × List Value) := match g_get ls i with
  | some (.long v) => some (ls, .long v :: st)
  | _ => none
def g_sti (nL : Nat) (ls : g_Lc) (i : Nat) (st : List Value) : Option (g_Lc × List Value) := match st with
  | .int v :: r => if i < nL then some (g_set ls i (.int v), r) else none
  | _ => none
def g_sta (nL : Nat) (ls : g_Lc) (i : Nat) (st : List Value) : Option (g_Lc × List Value) := match st with
  | .ref v :: r => if i < nL then some (g_set ls i (.ref v), r) else none
  | .null :: r => if i < nL then some (g_set ls i .null, r) else none
  | _ => none
def g_inc (nL : Nat) (ls : g_Lc) (i : Nat) (n : Int) (st : List Value) : Option (g_Lc × List Value) := match g_get ls i with
  | some (.int v) => if i < nL then some (g_set ls i (.int (v + Int32.ofInt n)), st) else none
  | _ => none
/-- instructions of the locals -/
def g_lcl (nL : Nat) (ins : Instr) (ls : g_Lc) (st : List Value) : Option (g_Lc × List Value) := match ins with
  | .iload i => g_ldi ls i st
  | .iload_n k => g_ldi ls k st
  | .aload i => g_lda ls i st
  | .aload_n k => g_lda ls k st
  | .lload i => g_ldl ls i st
  | .lload_n k => g_ldl ls k st
  | .istore i => g_sti nL ls i st
  | .istore_n k => g_sti nL ls k st
  | .astore i => g_sta nL ls i st
  | .astore_n k => g_sta nL ls k st
  | .iinc i n => g_inc nL ls i n st
  | _ => none
def g_b1 (f : Int32 → Bool) (t e : Nat) (st : List Value) : Option (Nat × List Value) := match st with
  | .int x :: r => some (bif f x then t else e, r)
  | _ => none
def g_b2 (f : Int32 → Int32 → Bool) (t e : Nat) (st : List Value) : Option (Nat × List Value) := match st with
  | .int y :: .int x :: r => some (bif f x y then t else e, r)
  | _ => none
def g_bn (t e : Nat) (st : List Value) : Option (Nat × List Value) := match st with
  | .null :: r => some (t, r)
  | .ref _ :: r => some (e, r)
  | _ => none
def g_tg (pc : Nat) (o : Option Int) (r : List Value) : Option (Nat × List Value) := match o with
  | some o => match (pc : Int) + o with
    | .ofNat t => some (t, r)
    | _ => none
  | none => none
/-- jumps -/
def g_jmp (ins : Instr) (pc x : Nat) (st : List Value) : Option (Nat × List Value) := match ins with
  | .goto _ => some (x, st)
  | .ifCond .eq _ => g_b1 (fun a => decide (a = 0)) x (pc + 3) st
  | .ifCond .ne _ => g_b1 (fun a => decide (¬ a = 0)) x (pc + 3) st
  | .ifCond .lt _ => g_b1 (fun a => decide (a < 0)) x (pc + 3) st
  | .ifCond .ge _ => g_b1 (fun a => decide (0 ≤ a)) x (pc + 3) st
  | .ifCond .gt _ => g_b1 (fun a => decide (0 < a)) x (pc + 3) st
  | .ifCond .le _ => g_b1 (fun a => decide (a ≤ 0)) x (pc + 3) st
  | .if_icmp .eq _ => g_b2 (fun a b => decide (a = b)) x (pc + 3) st
  | .if_icmp .ne _ => g_b2 (fun a b => decide (¬ a = b)) x (pc + 3) st
  | .if_icmp .lt _ => g_b2 (fun a b => decide (a < b)) x (pc + 3) st
  | .if_icmp .ge _ => g_b2 (fun a b => decide (b ≤ a)) x (pc + 3) st
  | .if_icmp .gt _ => g_b2 (fun a b => decide (b < a)) x (pc + 3) st
  | .if_icmp .le _ => g_b2 (fun a b => decide (a ≤ b)) x (pc + 3) st
  | .ifnull _ => g_bn x (pc + 3) st
  | .ifnonnull _ => g_bn (pc + 3) x st
  | .tableswitch d lo hi offs => match st with
    | .int a :: r => g_tg pc (if a.toInt < lo ∨ hi < a.toInt then some d else offs[(a.toInt - lo).toNat]?) r
    | _ => none
  | .lookupswitch d ps => match st with
    | .int a :: r => if (ps.toList.zip (ps.toList.drop 1)).all (fun (a, next) => a.1 < next.1) = true then g_tg pc (some (Op.lookupswitch.offset ps.toList d a.toInt)) r else none
    | _ => none
  | _ => none
def g_tt (t : Nat) : FieldType := match t with
  | 0 => .int
  | 1 => .byte
  | 2 => .boolean
  | _ => .object "GustHome$Ward"
def g_out (i : Int32) (n : Nat) : Bool := decide (i < 0 ∨ n ≤ i.toNatClampNeg)
def g_gf (x y : Nat) (st : List Value) (σ : List g_Ce) : Option (List Value × List g_Ce) := match st with
  | .ref (a + 1) :: r => match σ[a]? with
    | some (.inr (ci, fs)) => bif ci == x then (match fs[y]? with
      | some v => some (v :: r, σ)
      | none => none) else none
    | _ => none
  | _ => none
def g_pf (x y : Nat) (st : List Value) (σ : List g_Ce) : Option (List Value × List g_Ce) := match st with
  | v :: .ref (a + 1) :: r => match σ[a]? with
    | some (.inr (ci, fs)) => if ci = x ∧ y < fs.length ∧ narrow (g_ty ci y) v = v ∧ fits (g_ty ci y) v = true then some (r, σ.set a (.inr (ci, fs.set y v))) else none
    | _ => none
  | _ => none
def g_tag (t : ArrayType) : Option Nat := match t with
  | .int => some 0
  | .byte => some 1
  | .boolean => some 2
  | _ => none
def g_na (t : ArrayType) (st : List Value) (σ : List g_Ce) : Option (List Value × List g_Ce) := match st with
  | .int n :: r => match g_tag t with
    | some k => if ¬ n < 0 ∧ n.toNatClampNeg ≤ 100000 then some (.ref (σ.length + 1) :: r, σ ++ [.inl (k, n.toNatClampNeg, .inl (fun _ => 0))]) else none
    | none => none
  | _ => none
def g_an (st : List Value) (σ : List g_Ce) : Option (List Value × List g_Ce) := match st with
  | .int n :: r => if ¬ n < 0 ∧ n.toNatClampNeg ≤ 100000 then some (.ref (σ.length + 1) :: r, σ ++ [.inl (3, n.toNatClampNeg, .inr (fun _ => none))]) else none
  | _ => none
def g_al (L : Nat) (st : List Value) (σ : List g_Ce) : Option (List Value × List g_Ce) := match st with
  | .ref 0 :: r => some (.int (Int32.ofNat L) :: r, σ)
  | .ref (a + 1) :: r => match σ[a]? with
    | some (.inl (t, n, _)) => if t < 4 then some (.int (Int32.ofNat n) :: r, σ) else none
    | _ => none
  | _ => none
def g_ia (L : Nat) (xs : Nat → Int32) (st : List Value) (σ : List g_Ce) : Option (List Value × List g_Ce) := match st with
  | .int i :: .ref 0 :: r => bif g_out i L then none else some (.int (xs i.toNatClampNeg) :: r, σ)
  | .int i :: .ref (a + 1) :: r => match σ[a]? with
    | some (.inl (0, n, .inl f)) => bif g_out i n then none else some (.int (f i.toNatClampNeg) :: r, σ)
    | _ => none
  | _ => none
def g_ba (st : List Value) (σ : List g_Ce) : Option (List Value × List g_Ce) := match st with
  | .int i :: .ref (a + 1) :: r => match σ[a]? with
    | some (.inl (1, n, .inl f)) => bif g_out i n then none else some (.int (f i.toNatClampNeg) :: r, σ)
    | some (.inl (2, n, .inl f)) => bif g_out i n then none else some (.int (f i.toNatClampNeg) :: r, σ)
    | _ => none
  | _ => none
def g_aa (st : List Value) (σ : List g_Ce) : Option (List Value × List g_Ce) := match st with
  | .int i :: .ref (a + 1) :: r => match σ[a]? with
    | some (.inl (3, n, .inr f)) => bif g_out i n then none else some (va_rf (f i.toNatClampNeg) :: r, σ)
    | _ => none
  | _ => none
def g_is (st : List Value) (σ : List g_Ce) : Option (List Value × List g_Ce) := match st with
  | .int v :: .int i :: .ref (a + 1) :: r => match σ[a]? with
    | some (.inl (0, n, .inl f)) => bif g_out i n then none else some (r, σ.set a (.inl (0, n, .inl (upd f i.toNatClampNeg v))))
    | _ => none
  | _ => none
def g_bs (st : List Value) (σ : List g_Ce) : Option (List Value × List g_Ce) := match st with
  | .int v :: .int i :: .ref (a + 1) :: r => match σ[a]? with
    | some (.inl (1, n, .inl f)) => bif g_out i n then none else some (r, σ.set a (.inl (1, n, .inl (upd f i.toNatClampNeg (vp_nar .byte v)))))
    | some (.inl (2, n, .inl f)) => bif g_out i n then none else some (r, σ.set a (.inl (2, n, .inl (upd f i.toNatClampNeg (vp_nar .boolean v)))))
    | _ => none
  | _ => none
def g_as (st : List Value) (σ : List g_Ce) : Option (List Value × List g_Ce) := match st with
  | .ref (v + 1) :: .int i :: .ref (a + 1) :: r => match σ[a]? with
    | some (.inl (3, n, .inr f)) => match σ[v]? with
      | some (.inr (9, _)) => bif g_out i n then none else some (r, σ.set a (.inl (3, n, .inr (va_up f i.toNatClampNeg (some (v + 1))))))
      | _ => none
    | _ => none
  | _ => none
def g_cat (st : List Value) : Nat := (st.map fun v => v.category).sum
/-- System.arraycopy between rows of ints -/
def g_cp (d : Nat) (st : List Value) (σ : List g_Ce) : Option (List Value × List g_Ce) := match st with
  | .int n :: .int dp :: .ref (a + 1) :: .int sp :: .ref (a0 + 1) :: r => match σ[a0]? with
    | some (.inl (0, n0, .inl f)) => match σ[a]? with
      | some (.inl (0, n1, .inl g)) => if ¬ sp < 0 ∧ ¬ dp < 0 ∧ ¬ n < 0 ∧ sp.toNatClampNeg + n.toNatClampNeg ≤ n0 ∧ dp.toNatClampNeg + n.toNatClampNeg ≤ n1 ∧ g_cat r ≤ 8 ∧ 0 < d then some (r, σ.set a (.inl (0, n1, .inl (va_cpy f g sp.toNatClampNeg dp.toNatClampNeg n.toNatClampNeg)))) else none
      | _ => none
    | _ => none
  | _ => none
def g_m2 (d : Nat) (f : Int32 → Int32 → Int32) (st : List Value) (σ : List g_Ce) : Option (List Value × List g_Ce) := match st with
  | .int y :: .int x :: r => if g_cat r ≤ 8 ∧ 0 < d then some (.int (f x y) :: r, σ) else none
  | _ => none
def g_m1 (d : Nat) (f : Int32 → Int32) (st : List Value) (σ : List g_Ce) : Option (List Value × List g_Ce) := match st with
  | .int x :: r => if g_cat r ≤ 8 ∧ 0 < d then some (.int (f x) :: r, σ) else none
  | _ => none
/-- System.arraycopy, Math.max, min, abs -/
def g_nv (d x : Nat) (st : List Value) (σ : List g_Ce) : Option (List Value × List g_Ce) := bif x == 99998 then g_cp d st σ else bif x == 99997 then g_m2 d (fun a b => if a < b then b else a) st σ else bif x == 99996 then g_m2 d (fun a b => if b < a then b else a) st σ else bif x == 99995 then g_m1 d (fun a => if 0 ≤ a then a else 0 - a) st σ else none
/-- instructions of the heap -/
def g_hp (d L : Nat) (xs : Nat → Int32) (ins : Instr) (x y : Nat) (st : List Value) (σ : List g_Ce) : Option (List Value × List g_Ce) := match ins with
  | .getfield _ => g_gf x y st σ
  | .putfield _ => g_pf x y st σ
  | .new _ => some (.ref (σ.length + 1) :: st, σ ++ [.inr (x, g_df x)])
  | .newarray t => g_na t st σ
  | .anewarray _ => g_an st σ
  | .arraylength => g_al L st σ
  | .iaload => g_ia L xs st σ
  | .baload => g_ba st σ
  | .aaload => g_aa st σ
  | .iastore => g_is st σ
  | .bastore => g_bs st σ
  | .aastore => g_as st σ
  | .invokestatic _ => g_nv d x st σ
  | _ => none
def g_step (d nL L : Nat) (xs : Nat → Int32) (en : g_En) (pc : Nat) (ls : g_Lc) (st : List Value) (σ : List g_Ce) : Option (Nat × g_Lc × List Value × List g_Ce) :=
  match g_stk en.1.1 en.2.2.2 st with
  | some st' => some (pc + en.1.2, ls, st', σ)
  | none => match g_lcl nL en.1.1 ls st with
    | some q => some (pc + en.1.2, q.1, q.2, σ)
    | none => match g_jmp en.1.1 pc en.2.1 st with
      | some q => some (q.1, ls, q.2, σ)
      | none => match g_hp d L xs en.1.1 en.2.1 en.2.2.1 st σ with
        | some q => some (pc + en.1.2, ls, q.1, q.2)
        | none => none
/-- a return: the instruction, the type, the stack -/
def g_rt (ins : Instr) (ret : Option FieldType) (st : List Value) : Option (Option Value) := match ins, ret, st with
  | .ireturn, some .int, [.int v] => some (some (.int v))
  | .ireturn, some .boolean, [.int v] => if narrow .boolean (.int v) = .int v then some (some (.int v)) else none
  | .ireturn, some .byte, [.int v] => if narrow .byte (.int v) = .int v then some (some (.int v)) else none
  | .ireturn, some .char, [.int v] => if narrow .char (.int v) = .int v then some (some (.int v)) else none
  | .areturn, some (.object _), [.ref v] => some (some (.ref v))
  | .areturn, some (.object _), [.null] => some (some .null)
  | .return_, none, [] => some none
  | _, _, _ => none
/-- a call: the callee's arguments, what is left below -/
def g_cl (k n : Nat) (ow : String) (st : List Value) (σ : List g_Ce) : Option (List Value × List Value) := match k with
  | 0 => bif n ≤ st.length then some ((st.take n).reverse, st.drop n) else none
  | 1 => match st.drop n with
    | .ref (a + 1) :: rest => match σ[a]? with
      | some (.inr (ci, _)) => match vwCl[ci]? with
        | some q => if q.1 = ow ∧ n ≤ st.length then some (.ref (a + 1) :: (st.take n).reverse, rest) else none
        | none => none
      | _ => none
    | _ => none
  | _ => match st.drop n with
    | .ref a :: rest => bif n ≤ st.length then some (.ref a :: (st.take n).reverse, rest) else none
    | _ => none
/-- Object.<init> -/
def g_oi (k : Nat) (st : List Value) : Option (List Value) := match k, st with
  | 2, .ref _ :: rest => bif g_cat rest ≤ 8 then some rest else none
  | _, _ => none
def g_ki (ins : Instr) : Option Nat := match ins with
  | .invokestatic _ => some 0
  | .invokevirtual _ => some 1
  | .invokespecial _ => some 2
  | _ => none
/-- String.indexOf on the one String constant, at its one place (GustHome$Reader.readFactor, 13 to 20): four instructions as one -/
def g_ixF (c : Int32) : List Int32 → Int32 → Int32
  | [], _ => -1
  | b :: l, k => if b = c then k else g_ixF c l (k + 1)
def g_ixo (v : Int32) : Int32 := g_ixF ((v.toUInt32 % 65536).toInt32) [115, 113, 116, 104, 100, 119, 111, 112, 108, 97, 110, 118, 117, 122, 109] 0
def g_mac (d : Nat) (M : g_M) (pc : Nat) (ls : g_Lc) (st : List Value) : Option (List Value) :=
  if M.1 = RX5 ∧ M.2.1 = yX5_readFactor ∧ M.2.2.1 = cX5_readFactor ∧ pc = 13 ∧ st.isEmpty = true ∧ 8 ≤ d then (match g_get ls 2 with
    | some (.int v) => some [.int (g_ixo v)]
    | _ => none) else none
def g_run (mt : Nat → Option g_M) (L : Nat) (xs : Nat → Int32) : Nat → Nat → g_M → Nat → g_Lc → List Value → List g_Ce → Option (Option Value × List g_Ce)
  | 0, _, _, _, _, _, _ => none
  | n + 1, d, M, pc, ls, st, σ =>
    match M.2.2.2.2.2 pc with
    | none => match g_mac d M pc ls st with
      | some st' => g_run mt L xs n d M 20 ls st' σ
      | none => none
    | some en => match g_step d M.2.2.2.1 L xs en pc ls st σ with
      | some q => g_run mt L xs n d M q.1 q.2.1 q.2.2.1 q.2.2.2
      | none => match g_rt en.1.1 M.2.2.2.2.1 st with
        | some r => some (r, σ)
        | none => match g_ki en.1.1 with
          | none => none
          | some k => match d with
            | 0 => none
            | d' + 1 => bif en.2.1 == 99999 then (match g_oi k st with
              | some rest => g_run mt L xs n (d' + 1) M (pc + 3) ls rest σ
              | none => none) else
              match mt en.2.1 with
              | none => none
              | some M' => match g_cl k en.2.2.1 M'.1 st σ with
                | none => none
                | some q => bif g_cat q.2 ≤ 8 && ((lg_sl q.1).length ≤ M'.2.2.2.1) then
                    (match g_run mt L xs n d' M' 0 (lv_args 0 q.1) [] σ with
                    | none => none
                    | some w => g_run mt L xs n (d' + 1) M (pc + 3) ls (w.1.toList ++ q.2) w.2) else none
