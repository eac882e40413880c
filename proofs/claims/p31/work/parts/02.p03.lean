section Prt03
/-! a pure machine over the decoded instructions: values with relative references (0: the script; k + 1: the k-th cell made) -/
noncomputable abbrev g_En : Type := (Instr × Nat) × Nat × Nat × Int
noncomputable abbrev g_M : Type := String × MethodName × ByteArray × Nat × Option FieldType × (Nat → Option g_En)
noncomputable abbrev g_Ce : Type := (Nat × Nat × ((Nat → Int32) ⊕ (Nat → Option Nat))) ⊕ (Nat × List Value)
noncomputable abbrev g_Lc : Type := List (Nat × Value)
noncomputable def g_i2 (f : Int32 → Int32 → Int32) (st : List Value) : Option (List Value) := match st with
  | .int y :: .int x :: r => some (.int (f x y) :: r)
  | _ => none
noncomputable def g_d2 (f : Int32 → Int32 → Int32) (st : List Value) : Option (List Value) := match st with
  | .int y :: .int x :: r => if y = 0 then none else some (.int (f x y) :: r)
  | _ => none
noncomputable def g_i1 (f : Int32 → Value) (st : List Value) : Option (List Value) := match st with
  | .int x :: r => some (f x :: r)
  | _ => none
noncomputable def g_cm (st : List Value) : Option (List Value) := match st with
  | .long y :: .long x :: r => some (.int (lg_cmp x y) :: r)
  | _ => none
noncomputable def g_dp (st : List Value) : Option (List Value) := match st with
  | v :: r => if v.category = 1 then some (v :: v :: r) else none
  | _ => none
noncomputable def g_dd (st : List Value) : Option (List Value) := match st with
  | v :: w :: r => if v.category = 1 ∧ w.category = 1 then some (v :: w :: v :: w :: r) else none
  | _ => none
noncomputable def g_po (st : List Value) : Option (List Value) := match st with
  | v :: r => if v.category = 1 then some r else none
  | _ => none
/-- instructions of the stack alone -/
noncomputable def g_stk (ins : Instr) (z : Int) (st : List Value) : Option (List Value) := match ins with
  | .iconst n => some (.int (Int32.ofInt n) :: st)
  | .bipush n => some (.int (Int8.ofInt n).toInt32 :: st)
  | .sipush n => some (.int (Int16.ofInt n).toInt32 :: st)
  | .lconst n => some (.long (Int64.ofNat (n : Nat)) :: st)
  | .ldc _ => some (.int (Int32.ofInt z) :: st)
  | .ldc_w _ => some (.int (Int32.ofInt z) :: st)
  | .ldc2_w _ => some (.long (Int64.ofInt z) :: st)
  | .iadd => g_i2 (fun x y => x + y) st
  | .isub => g_i2 (fun x y => x - y) st
  | .imul => g_i2 (fun x y => x * y) st
  | .iand => g_i2 (fun x y => x &&& y) st
  | .ior => g_i2 (fun x y => x ||| y) st
  | .ixor => g_i2 (fun x y => x ^^^ y) st
  | .ishl => g_i2 (fun x y => x <<< (y &&& 31)) st
  | .ishr => g_i2 (fun x y => x >>> (y &&& 31)) st
  | .iushr => g_i2 (fun x y => (x.toUInt32 >>> (y.toUInt32 &&& Int32.toUInt32 31)).toInt32) st
  | .idiv => g_d2 (fun x y => x / y) st
  | .irem => g_d2 (fun x y => x - x / y * y) st
  | .ineg => g_i1 (fun x => .int (-x)) st
  | .i2l => g_i1 (fun x => .long x.toInt64) st
  | .i2b => g_i1 (fun x => .int x.toInt8.toInt32) st
  | .i2c => g_i1 (fun x => .int (x.toUInt32 % 65536).toInt32) st
  | .lcmp => g_cm st
  | .dup => g_dp st
  | .dup2 => g_dd st
  | .pop => g_po st
  | .aconst_null => some (.null :: st)
  | _ => none
noncomputable def g_get (ls : g_Lc) (i : Nat) : Option Value := (ls.find? (fun q => q.1 == i)).map (fun q => q.2)
noncomputable def g_set (ls : g_Lc) (i : Nat) (v : Value) : g_Lc := (i, v) :: ls.filter (fun q => !(q.1 == i) && !(q.1 + 1 == i && q.2.category == 2))
noncomputable def g_ldi (ls : g_Lc) (i : Nat) (st : List Value) : Option (g_Lc × List Value) := match g_get ls i with
  | some (.int v) => some (ls, .int v :: st)
  | _ => none
noncomputable def g_lda (ls : g_Lc) (i : Nat) (st : List Value) : Option (g_Lc × List Value) := match g_get ls i with
  | some (.ref v) => some (ls, .ref v :: st)
  | some .null => some (ls, .null :: st)
  | _ => none
noncomputable def g_ldl (ls : g_Lc) (i : Nat) (st : List Value) : Option (g_Lc × List Value) := match g_get ls i with
  | some (.long v) => some (ls, .long v :: st)
  | _ => none
noncomputable def g_sti (nL : Nat) (ls : g_Lc) (i : Nat) (st : List Value) : Option (g_Lc × List Value) := match st with
  | .int v :: r => if i < nL then some (g_set ls i (.int v), r) else none
  | _ => none
noncomputable def g_sta (nL : Nat) (ls : g_Lc) (i : Nat) (st : List Value) : Option (g_Lc × List Value) := match st with
  | .ref v :: r => if i < nL then some (g_set ls i (.ref v), r) else none
  | .null :: r => if i < nL then some (g_set ls i .null, r) else none
  | _ => none
noncomputable def g_inc (nL : Nat) (ls : g_Lc) (i : Nat) (n : Int) (st : List Value) : Option (g_Lc × List Value) := match g_get ls i with
  | some (.int v) => if i < nL then some (g_set ls i (.int (v + Int32.ofInt n)), st) else none
  | _ => none
/-- instructions of the locals -/
noncomputable def g_lcl (nL : Nat) (ins : Instr) (ls : g_Lc) (st : List Value) : Option (g_Lc × List Value) := match ins with
  | .iload i => g_ldi ls i st
  | .iload_n k => g_ldi ls k st
  | .aload i => g_lda ls i st
  | .aload_n k => g_lda ls k st
  | .lload i => g_ldl ls i st
  | .lload_n k => g_ldl ls k st
  | .istore i => g_sti nL ls i st
  | .istore_n k => g_sti nL ls k st
  | .astore i => g_sta nL ls i st
  | .astore_n k => g_sta nL ls k st
  | .iinc i n => g_inc nL ls i n st
  | _ => none
noncomputable def g_b1 (f : Int32 → Bool) (t e : Nat) (st : List Value) : Option (Nat × List Value) := match st with
  | .int x :: r => some (bif f x then t else e, r)
  | _ => none
noncomputable def g_b2 (f : Int32 → Int32 → Bool) (t e : Nat) (st : List Value) : Option (Nat × List Value) := match st with
  | .int y :: .int x :: r => some (bif f x y then t else e, r)
  | _ => none
noncomputable def g_bn (t e : Nat) (st : List Value) : Option (Nat × List Value) := match st with
  | .null :: r => some (t, r)
  | .ref _ :: r => some (e, r)
  | _ => none
noncomputable def g_tg (pc : Nat) (o : Option Int) (r : List Value) : Option (Nat × List Value) := match o with
  | some o => match (pc : Int) + o with
    | .ofNat t => some (t, r)
    | _ => none
  | none => none
/-- jumps -/
noncomputable def g_jmp (ins : Instr) (pc x : Nat) (st : List Value) : Option (Nat × List Value) := match ins with
  | .goto _ => some (x, st)
  | .ifCond .eq _ => g_b1 (fun a => decide (a = 0)) x (pc + 3) st
  | .ifCond .ne _ => g_b1 (fun a => decide (¬ a = 0)) x (pc + 3) st
  | .ifCond .lt _ => g_b1 (fun a => decide (a < 0)) x (pc + 3) st
  | .ifCond .ge _ => g_b1 (fun a => decide (0 ≤ a)) x (pc + 3) st
  | .ifCond .gt _ => g_b1 (fun a => decide (0 < a)) x (pc + 3) st
  | .ifCond .le _ => g_b1 (fun a => decide (a ≤ 0)) x (pc + 3) st
  | .if_icmp .eq _ => g_b2 (fun a b => decide (a = b)) x (pc + 3) st
  | .if_icmp .ne _ => g_b2 (fun a b => decide (¬ a = b)) x (pc + 3) st
  | .if_icmp .lt _ => g_b2 (fun a b => decide (a < b)) x (pc + 3) st
  | .if_icmp .ge _ => g_b2 (fun a b => decide (b ≤ a)) x (pc + 3) st
  | .if_icmp .gt _ => g_b2 (fun a b => decide (b < a)) x (pc + 3) st
  | .if_icmp .le _ => g_b2 (fun a b => decide (a ≤ b)) x (pc + 3) st
  | .ifnull _ => g_bn x (pc + 3) st
  | .ifnonnull _ => g_bn (pc + 3) x st
  | .tableswitch d lo hi offs => match st with
    | .int a :: r => g_tg pc (if a.toInt < lo ∨ hi < a.toInt then some d else offs[(a.toInt - lo).toNat]?) r
    | _ => none
  | .lookupswitch d ps => match st with
    | .int a :: r => if (ps.toList.zip (ps.toList.drop 1)).all (fun (a, next) => a.1 < next.1) = true then g_tg pc (some (Op.lookupswitch.offset ps.toList d a.toInt)) r else none
    | _ => none
  | _ => none
noncomputable def g_tt (t : Nat) : FieldType := match t with
  | 0 => .int
  | 1 => .byte
  | 2 => .boolean
  | _ => .object "GustHome$Ward"
noncomputable def g_out (i : Int32) (n : Nat) : Bool := decide (i < 0 ∨ n ≤ i.toNatClampNeg)
noncomputable def g_gf (x y : Nat) (st : List Value) (σ : List g_Ce) : Option (List Value × List g_Ce) := match st with
  | .ref (a + 1) :: r => match σ[a]? with
    | some (.inr (ci, fs)) => bif ci == x then (match fs[y]? with
      | some v => some (v :: r, σ)
      | none => none) else none
    | _ => none
  | _ => none
noncomputable def g_pf (x y : Nat) (st : List Value) (σ : List g_Ce) : Option (List Value × List g_Ce) := match st with
  | v :: .ref (a + 1) :: r => match σ[a]? with
    | some (.inr (ci, fs)) => if ci = x ∧ y < fs.length ∧ narrow (g_ty ci y) v = v ∧ fits (g_ty ci y) v = true then some (r, σ.set a (.inr (ci, fs.set y v))) else none
    | _ => none
  | _ => none
noncomputable def g_tag (t : ArrayType) : Option Nat := match t with
  | .int => some 0
  | .byte => some 1
  | .boolean => some 2
  | _ => none
noncomputable def g_na (t : ArrayType) (st : List Value) (σ : List g_Ce) : Option (List Value × List g_Ce) := match st with
  | .int n :: r => match g_tag t with
    | some k => if ¬ n < 0 ∧ n.toNatClampNeg ≤ 100000 then some (.ref (σ.length + 1) :: r, σ ++ [.inl (k, n.toNatClampNeg, .inl (fun _ => 0))]) else none
    | none => none
  | _ => none
noncomputable def g_an (st : List Value) (σ : List g_Ce) : Option (List Value × List g_Ce) := match st with
  | .int n :: r => if ¬ n < 0 ∧ n.toNatClampNeg ≤ 100000 then some (.ref (σ.length + 1) :: r, σ ++ [.inl (3, n.toNatClampNeg, .inr (fun _ => none))]) else none
  | _ => none
noncomputable def g_al (L : Nat) (st : List Value) (σ : List g_Ce) : Option (List Value × List g_Ce) := match st with
  | .ref 0 :: r => some (.int (Int32.ofNat L) :: r, σ)
  | .ref (a + 1) :: r => match σ[a]? with
    | some (.inl (t, n, _)) => if t < 4 then some (.int (Int32.ofNat n) :: r, σ) else none
    | _ => none
  | _ => none
noncomputable def g_ia (L : Nat) (xs : Nat → Int32) (st : List Value) (σ : List g_Ce) : Option (List Value × List g_Ce) := match st with
  | .int i :: .ref 0 :: r => bif g_out i L then none else some (.int (xs i.toNatClampNeg) :: r, σ)
  | .int i :: .ref (a + 1) :: r => match σ[a]? with
    | some (.inl (0, n, .inl f)) => bif g_out i n then none else some (.int (f i.toNatClampNeg) :: r, σ)
    | _ => none
  | _ => none
noncomputable def g_ba (st : List Value) (σ : List g_Ce) : Option (List Value × List g_Ce) := match st with
  | .int i :: .ref (a + 1) :: r => match σ[a]? with
    | some (.inl (1, n, .inl f)) => bif g_out i n then none else some (.int (f i.toNatClampNeg) :: r, σ)
    | some (.inl (2, n, .inl f)) => bif g_out i n then none else some (.int (f i.toNatClampNeg) :: r, σ)
    | _ => none
  | _ => none
noncomputable def g_aa (st : List Value) (σ : List g_Ce) : Option (List Value × List g_Ce) := match st with
  | .int i :: .ref (a + 1) :: r => match σ[a]? with
    | some (.inl (3, n, .inr f)) => bif g_out i n then none else some (va_rf (f i.toNatClampNeg) :: r, σ)
    | _ => none
  | _ => none
noncomputable def g_is (st : List Value) (σ : List g_Ce) : Option (List Value × List g_Ce) := match st with
  | .int v :: .int i :: .ref (a + 1) :: r => match σ[a]? with
    | some (.inl (0, n, .inl f)) => bif g_out i n then none else some (r, σ.set a (.inl (0, n, .inl (upd f i.toNatClampNeg v))))
    | _ => none
  | _ => none
noncomputable def g_bs (st : List Value) (σ : List g_Ce) : Option (List Value × List g_Ce) := match st with
  | .int v :: .int i :: .ref (a + 1) :: r => match σ[a]? with
    | some (.inl (1, n, .inl f)) => bif g_out i n then none else some (r, σ.set a (.inl (1, n, .inl (upd f i.toNatClampNeg (vp_nar .byte v)))))
    | some (.inl (2, n, .inl f)) => bif g_out i n then none else some (r, σ.set a (.inl (2, n, .inl (upd f i.toNatClampNeg (vp_nar .boolean v)))))
    | _ => none
  | _ => none
noncomputable def g_as (st : List Value) (σ : List g_Ce) : Option (List Value × List g_Ce) := match st with
  | .ref (v + 1) :: .int i :: .ref (a + 1) :: r => match σ[a]? with
    | some (.inl (3, n, .inr f)) => match σ[v]? with
      | some (.inr (9, _)) => bif g_out i n then none else some (r, σ.set a (.inl (3, n, .inr (va_up f i.toNatClampNeg (some (v + 1))))))
      | _ => none
    | _ => none
  | _ => none
noncomputable def g_cat (st : List Value) : Nat := (st.map fun v => v.category).sum
/-- System.arraycopy between rows of ints -/
noncomputable def g_cp (d : Nat) (st : List Value) (σ : List g_Ce) : Option (List Value × List g_Ce) := match st with
  | .int n :: .int dp :: .ref (a + 1) :: .int sp :: .ref (a0 + 1) :: r => match σ[a0]? with
    | some (.inl (0, n0, .inl f)) => match σ[a]? with
      | some (.inl (0, n1, .inl g)) => if ¬ sp < 0 ∧ ¬ dp < 0 ∧ ¬ n < 0 ∧ sp.toNatClampNeg + n.toNatClampNeg ≤ n0 ∧ dp.toNatClampNeg + n.toNatClampNeg ≤ n1 ∧ g_cat r ≤ 8 ∧ 0 < d then some (r, σ.set a (.inl (0, n1, .inl (va_cpy f g sp.toNatClampNeg dp.toNatClampNeg n.toNatClampNeg)))) else none
      | _ => none
    | _ => none
  | _ => none
noncomputable def g_m2 (d : Nat) (f : Int32 → Int32 → Int32) (st : List Value) (σ : List g_Ce) : Option (List Value × List g_Ce) := match st with
  | .int y :: .int x :: r => if g_cat r ≤ 8 ∧ 0 < d then some (.int (f x y) :: r, σ) else none
  | _ => none
noncomputable def g_m1 (d : Nat) (f : Int32 → Int32) (st : List Value) (σ : List g_Ce) : Option (List Value × List g_Ce) := match st with
  | .int x :: r => if g_cat r ≤ 8 ∧ 0 < d then some (.int (f x) :: r, σ) else none
  | _ => none
/-- System.arraycopy, Math.max, min, abs -/
noncomputable def g_nv (d x : Nat) (st : List Value) (σ : List g_Ce) : Option (List Value × List g_Ce) := bif x == 99998 then g_cp d st σ else bif x == 99997 then g_m2 d (fun a b => if a < b then b else a) st σ else bif x == 99996 then g_m2 d (fun a b => if b < a then b else a) st σ else bif x == 99995 then g_m1 d (fun a => if 0 ≤ a then a else 0 - a) st σ else none
/-- instructions of the heap -/
noncomputable def g_hp (d L : Nat) (xs : Nat → Int32) (ins : Instr) (x y : Nat) (st : List Value) (σ : List g_Ce) : Option (List Value × List g_Ce) := match ins with
  | .getfield _ => g_gf x y st σ
  | .putfield _ => g_pf x y st σ
  | .new _ => some (.ref (σ.length + 1) :: st, σ ++ [.inr (x, g_df x)])
  | .newarray t => g_na t st σ
  | .anewarray _ => g_an st σ
  | .arraylength => g_al L st σ
  | .iaload => g_ia L xs st σ
  | .baload => g_ba st σ
  | .aaload => g_aa st σ
  | .iastore => g_is st σ
  | .bastore => g_bs st σ
  | .aastore => g_as st σ
  | .invokestatic _ => g_nv d x st σ
  | _ => none
noncomputable def g_step (d nL L : Nat) (xs : Nat → Int32) (en : g_En) (pc : Nat) (ls : g_Lc) (st : List Value) (σ : List g_Ce) : Option (Nat × g_Lc × List Value × List g_Ce) :=
  match g_stk en.1.1 en.2.2.2 st with
  | some st' => some (pc + en.1.2, ls, st', σ)
  | none => match g_lcl nL en.1.1 ls st with
    | some q => some (pc + en.1.2, q.1, q.2, σ)
    | none => match g_jmp en.1.1 pc en.2.1 st with
      | some q => some (q.1, ls, q.2, σ)
      | none => match g_hp d L xs en.1.1 en.2.1 en.2.2.1 st σ with
        | some q => some (pc + en.1.2, ls, q.1, q.2)
        | none => none
/-- a return: the instruction, the type, the stack -/
noncomputable def g_rt (ins : Instr) (ret : Option FieldType) (st : List Value) : Option (Option Value) := match ins, ret, st with
  | .ireturn, some .int, [.int v] => some (some (.int v))
  | .ireturn, some .boolean, [.int v] => if narrow .boolean (.int v) = .int v then some (some (.int v)) else none
  | .ireturn, some .byte, [.int v] => if narrow .byte (.int v) = .int v then some (some (.int v)) else none
  | .ireturn, some .char, [.int v] => if narrow .char (.int v) = .int v then some (some (.int v)) else none
  | .areturn, some (.object _), [.ref v] => some (some (.ref v))
  | .areturn, some (.object _), [.null] => some (some .null)
  | .return_, none, [] => some none
  | _, _, _ => none
/-- a call: the callee's arguments, what is left below -/
noncomputable def g_cl (k n : Nat) (ow : String) (st : List Value) (σ : List g_Ce) : Option (List Value × List Value) := match k with
  | 0 => bif n ≤ st.length then some ((st.take n).reverse, st.drop n) else none
  | 1 => match st.drop n with
    | .ref (a + 1) :: rest => match σ[a]? with
      | some (.inr (ci, _)) => match vwCl[ci]? with
        | some q => if q.1 = ow ∧ n ≤ st.length then some (.ref (a + 1) :: (st.take n).reverse, rest) else none
        | none => none
      | _ => none
    | _ => none
  | _ => match st.drop n with
    | .ref a :: rest => bif n ≤ st.length then some (.ref a :: (st.take n).reverse, rest) else none
    | _ => none
/-- Object.<init> -/
noncomputable def g_oi (k : Nat) (st : List Value) : Option (List Value) := match k, st with
  | 2, .ref _ :: rest => bif g_cat rest ≤ 8 then some rest else none
  | _, _ => none
noncomputable def g_ki (ins : Instr) : Option Nat := match ins with
  | .invokestatic _ => some 0
  | .invokevirtual _ => some 1
  | .invokespecial _ => some 2
  | _ => none
/-- String.indexOf on the one String constant, at its one place (GustHome$Reader.readFactor, 13 to 20): four instructions as one -/
noncomputable def g_ixF (c : Int32) : List Int32 → Int32 → Int32
  | [], _ => -1
  | b :: l, k => if b = c then k else g_ixF c l (k + 1)
noncomputable def g_ixo (v : Int32) : Int32 := g_ixF ((v.toUInt32 % 65536).toInt32) [115, 113, 116, 104, 100, 119, 111, 112, 108, 97, 110, 118, 117, 122, 109] 0
noncomputable def g_mac (d : Nat) (M : g_M) (pc : Nat) (ls : g_Lc) (st : List Value) : Option (List Value) :=
  if M.1 = RX5 ∧ M.2.1 = yX5_readFactor ∧ M.2.2.1 = cX5_readFactor ∧ pc = 13 ∧ st.isEmpty = true ∧ 8 ≤ d then (match g_get ls 2 with
    | some (.int v) => some [.int (g_ixo v)]
    | _ => none) else none
noncomputable def g_run (mt : Nat → Option g_M) (L : Nat) (xs : Nat → Int32) : Nat → Nat → g_M → Nat → g_Lc → List Value → List g_Ce → Option (Option Value × List g_Ce)
  | 0, _, _, _, _, _, _ => none
  | n + 1, d, M, pc, ls, st, σ =>
    match M.2.2.2.2.2 pc with
    | none => match g_mac d M pc ls st with
      | some st' => g_run mt L xs n d M 20 ls st' σ
      | none => none
    | some en => match g_step d M.2.2.2.1 L xs en pc ls st σ with
      | some q => g_run mt L xs n d M q.1 q.2.1 q.2.2.1 q.2.2.2
      | none => match g_rt en.1.1 M.2.2.2.2.1 st with
        | some r => some (r, σ)
        | none => match g_ki en.1.1 with
          | none => none
          | some k => match d with
            | 0 => none
            | d' + 1 => bif en.2.1 == 99999 then (match g_oi k st with
              | some rest => g_run mt L xs n (d' + 1) M (pc + 3) ls rest σ
              | none => none) else
              match mt en.2.1 with
              | none => none
              | some M' => match g_cl k en.2.2.1 M'.1 st σ with
                | none => none
                | some q => bif g_cat q.2 ≤ 8 && ((lg_sl q.1).length ≤ M'.2.2.2.1) then
                    (match g_run mt L xs n d' M' 0 (lv_args 0 q.1) [] σ with
                    | none => none
                    | some w => g_run mt L xs n (d' + 1) M (pc + 3) ls (w.1.toList ++ q.2) w.2) else none
end Prt03
section Prt04
/-! the pure store in the machine's heap -/
noncomputable def g_wk : List Cond := lw_tbl.filter goodWord
noncomputable def g_isN (w : Cond) : Bool := match w with
  | .fieldLinkNest _ _ _ _ _ _ => true
  | .methodLinkNest _ _ _ _ => true
  | _ => false
noncomputable def g_wn : List Cond := lw_tbl.filter g_isN
noncomputable def g_Nw (U : State) : Prop := ∀ w ∈ g_wn, va_Nw w U
theorem g_Nw_warm {s U : State} (hW : s.WarmedH U.vm) (h : g_Nw s) : g_Nw U := by
  intro w hw
  have h1 := h w hw
  have h2 : g_isN w = true := (List.mem_filter.mp hw).2
  cases w <;> first | exact va_Nw.warmF hW h1 | exact va_Nw.warmM hW h1 | (simp [g_isN] at h2)
theorem g_Nw_same {s U : State} (hv : s.vm = U.vm) (h : g_Nw s) : g_Nw U := by
  intro w hw
  have h1 := h w hw
  have h2 : g_isN w = true := (List.mem_filter.mp hw).2
  cases w <;> first | exact va_Nw.same rfl hv h1 | (simp [g_isN] at h2)
noncomputable def g_ad (b sz k : Nat) : Nat := match k with
  | 0 => b
  | k + 1 => sz + k
noncomputable def g_cv (b sz : Nat) (v : Value) : Value := match v with
  | .ref a => .ref (g_ad b sz a)
  | v => v
noncomputable def g_ce (b sz : Nat) (dA : Nat → ClassId) (c : g_Ce) : va_E := match c with
  | .inl (t, n, .inl f) => .inl (dA t, n, .inl f)
  | .inl (t, n, .inr f) => .inl (dA t, n, .inr (.inr (.inr (.inr (fun j => (f j).map (g_ad b sz))))))
  | .inr (ci, fs) => .inr (ci, fs.map (g_cv b sz))
noncomputable def g_ws (b sz : Nat) (dA : Nat → ClassId) (σ : List g_Ce) : va_W := σ.mapIdx (fun k c => (sz + k, g_ce b sz dA c))
noncomputable def g_tys (dA : Nat → ClassId) : List (ClassId × FieldType) := [(dA 0, .int), (dA 1, .byte), (dA 2, .boolean), (dA 3, .object "GustHome$Ward")]
noncomputable def g_A (sz : Nat) : Nat → Prop := fun q => sz ≤ q
noncomputable def g_Hp (D : va_G) (b sz : Nat) (dA : Nat → ClassId) (σ : List g_Ce) (H : Heap) : Prop := va_P D vwCl (g_ws b sz dA σ) H ∧ H.size = sz + σ.length
theorem g_cv_cat (b sz : Nat) (v : Value) : (g_cv b sz v).category = v.category := by cases v <;> rfl
theorem g_ws_at {b sz : Nat} {dA : Nat → ClassId} {σ : List g_Ce} {k : Nat} {c : g_Ce} (h : σ[k]? = some c) : (g_ws b sz dA σ)[k]? = some (sz + k, g_ce b sz dA c) := by
  simp [g_ws, h]
theorem g_ws_D (b sz : Nat) (dA : Nat → ClassId) (σ : List g_Ce) : va_D (g_A sz) (g_ws b sz dA σ) := by
  have key : ∀ (k : Nat) (q : Nat × va_E), (g_ws b sz dA σ)[k]? = some q → q.1 = sz + k := by
    intro k q h
    simp only [g_ws, List.getElem?_mapIdx, Option.map_eq_some_iff] at h
    obtain ⟨c, -, rfl⟩ := h
    rfl
  refine ⟨fun i j x y hi hj hxy => ?_, fun k q h => ?_⟩
  · have h1 := key i x hi
    have h2 := key j y hj
    omega
  · show sz ≤ q.1
    rw [key k q h]
    omega
theorem g_ws_set {b sz : Nat} {dA : Nat → ClassId} {σ : List g_Ce} {k : Nat} {c : g_Ce} : (g_ws b sz dA σ).set k (sz + k, g_ce b sz dA c) = g_ws b sz dA (σ.set k c) := by
  apply List.ext_getElem?
  intro i
  simp only [g_ws, List.getElem?_set, List.getElem?_mapIdx, List.length_mapIdx]
  by_cases hk : k = i
  · subst hk
    by_cases hl : k < σ.length <;> simp [hl]
  · simp [hk]
theorem g_Hp_set {D : va_G} {b sz : Nat} {dA : Nat → ClassId} {σ : List g_Ce} {k : Nat} {c0 c : g_Ce} {H H1 : Heap} (h : g_Hp D b sz dA σ H) (hk : σ[k]? = some c0) (he : va_at D vwCl (sz + k, g_ce b sz dA c) H1) (z : H1.size = H.size) (oq : ∀ q : Nat, q ≠ sz + k → H1[q]? = H[q]?) : g_Hp D b sz dA (σ.set k c) H1 := by
  refine ⟨?_, by rw [z, List.length_set]; exact h.2⟩
  rw [← g_ws_set]
  exact h.1.set (g_ws_D b sz dA σ) (g_ws_at hk) he oq
theorem g_Hp_app {D : va_G} {b sz : Nat} {dA : Nat → ClassId} {σ : List g_Ce} {c : g_Ce} {H H1 : Heap} (h : g_Hp D b sz dA σ H) (he : va_at D vwCl (sz + σ.length, g_ce b sz dA c) H1) (z : H1.size = H.size + 1) (oq : ∀ q : Nat, q < H.size → H1[q]? = H[q]?) : g_Hp D b sz dA (σ ++ [c]) H1 := by
  refine ⟨?_, by rw [z, h.2]; simp; omega⟩
  have e : g_ws b sz dA (σ ++ [c]) = g_ws b sz dA σ ++ [(sz + σ.length, g_ce b sz dA c)] := by simp [g_ws, List.mapIdx_append]
  rw [e]
  refine (h.1.kept (fun k x hx => oq x.1 ((h.1 k x hx).lt))).app (fun k x hx => ?_)
  have hz : k < 1 := (List.getElem?_eq_some_iff.mp hx).1
  rw [show k = 0 by omega] at hx
  cases hx
  exact he
/-- what a frame's method knows of its own start -/
noncomputable def g_St (D : va_G) (dA : Nat → ClassId) (U : State) : Prop := va_K D vwCl (g_tys dA) U ∧ g_Nw U ∧ va_AO "GustHome$Ward" U
theorem g_St_warm {D : va_G} {dA : Nat → ClassId} {s U : State} (hW : s.WarmedH U.vm) (h : g_St D dA s) : g_St D dA U := ⟨va_K.moved hW.alike h.1, g_Nw_warm hW h.2.1, va_AO.moved hW.alike h.2.2⟩
/-- the classes' own facts -/
theorem g_cls_ty : ∀ (ci : Nat) (C : String) (T : u_T) (N : Nat), vwCl[ci]? = some (C, T, N) → (∀ k, k < N → parseFieldDescriptor (T k).2.2.1 = some (g_ty ci k)) ∧ (∀ a, a < N → ∀ b, b < N → a ≠ b → (T a).2.1 ≠ (T b).2.1) ∧ N = g_nf ci := by
  intro ci C T N h
  match ci, h with
  | 0, h => cases h; exact ⟨tyX0_ok, nmX0, rfl⟩
  | 1, h => cases h; exact ⟨tyX1_ok, nmX1, rfl⟩
  | 2, h => cases h; exact ⟨tyX2_ok, nmX2, rfl⟩
  | 3, h => cases h; exact ⟨tyX3_ok, nmX3, rfl⟩
  | 4, h => cases h; exact ⟨tyX4_ok, nmX4, rfl⟩
  | 5, h => cases h; exact ⟨tyX5_ok, nmX5, rfl⟩
  | 6, h => cases h; exact ⟨tyX6_ok, nmX6, rfl⟩
  | 7, h => cases h; exact ⟨tyX7_ok, nmX7, rfl⟩
  | 8, h => cases h; exact ⟨tyX8_ok, nmX8, rfl⟩
  | 9, h => cases h; exact ⟨tyX9_ok, nmX9, rfl⟩
  | 10, h => cases h; exact ⟨tyX10_ok, nmX10, rfl⟩
  | 11, h => cases h; exact ⟨tyX11_ok, nmX11, rfl⟩
  | 12, h => cases h; exact ⟨tyX12_ok, nmX12, rfl⟩
  | n + 13, h => simp [vwCl] at h
end Prt04
section Prt04b
/-! the one String constant, and the flag that the JDK reads with it: old cells that nobody writes -/
noncomputable def j_by : List Int32 := [115, 113, 116, 104, 100, 119, 111, 112, 108, 97, 110, 118, 117, 122, 109]
noncomputable def j_B (sz kA vA : Nat) (U : State) : Prop := va_O "java/lang/String" kA (g_A sz) U U.heap ∧ va_OF "java/lang/String" "coder" "B" (.int 0) kA (g_A sz) U U.heap ∧ va_OF "java/lang/String" "value" "[B" (.ref vA) kA (g_A sz) U U.heap ∧ va_T .byte vA 15 (fun j => .int (j_by.getD j 0)) (g_A sz) U U.heap ∧ va_Z "java/lang/String" "COMPACT_STRINGS" "Z" (.int 1) (g_A sz) U U.heap
theorem j_B_mv {sz kA vA : Nat} {s U : State} {H : Heap} {locs : List Loc} (h : j_B sz kA vA s) (hS : va_S (g_A sz) s.heap H locs) (hU : U.heap = H) (hvm : s.vm.Alike U.vm) : j_B sz kA vA U := by
  obtain ⟨h1, h2, h3, h4, h5⟩ := h
  unfold j_B
  rw [hU]
  exact ⟨va_O.moved hvm (h1.kept hS.2.1), va_OF.moved hvm (h2.kept hS.2.1), va_OF.moved hvm (h3.kept hS.2.1), va_T.moved hvm (h4.kept hS.2.1), va_Z.moved hvm (h5.kept hS.2.1)⟩
noncomputable def g_Str (sz : Nat) (U : State) : Prop := ∃ kA vA : Nat, j_B sz kA vA U ∧ vk_R "GustHome$Reader" 120 "sqthdwoplanvuzm" kA U
theorem g_Str_mv {sz : Nat} {s U : State} {H : Heap} {locs : List Loc} (h : g_Str sz s) (hS : va_S (g_A sz) s.heap H locs) (hU : U.heap = H) (hW : s.WarmedH U.vm) : g_Str sz U := by
  obtain ⟨kA, vA, h1, h2⟩ := h
  exact ⟨kA, vA, j_B_mv h1 hS hU hW.alike, vk_R.warm hW h2⟩
theorem j_B_same {sz kA vA : Nat} {s U : State} (h : j_B sz kA vA s) (hv : U.vm = s.vm) (hU : U.heap = s.heap) : j_B sz kA vA U := j_B_mv h va_S.rf hU (by rw [hv]; exact Vm.Alike.refl s.vm)
theorem g_Str_same {sz : Nat} {s U : State} (h : g_Str sz s) (hv : U.vm = s.vm) (hU : U.heap = s.heap) : g_Str sz U := by
  obtain ⟨kA, vA, h1, h2⟩ := h
  exact ⟨kA, vA, j_B_same h1 hv hU, vk_R.same hv h2⟩
end Prt04b
section Prt05
noncomputable def g_len (ins : Instr) : Nat := match ins with
  | .bipush _ => 2
  | .sipush _ => 3
  | .ldc _ => 2
  | .ldc_w _ => 3
  | .ldc2_w _ => 3
  | .iload _ => 2
  | .aload _ => 2
  | .lload _ => 2
  | .istore _ => 2
  | .astore _ => 2
  | .iinc _ _ => 3
  | .getfield _ => 3
  | .putfield _ => 3
  | .new _ => 3
  | .newarray _ => 2
  | .anewarray _ => 3
  | .goto _ => 3
  | .ifCond _ _ => 3
  | .if_icmp _ _ => 3
  | .ifnull _ => 3
  | .ifnonnull _ => 3
  | .invokestatic _ => 3
  | .invokevirtual _ => 3
  | .invokespecial _ => 3
  | _ => 1
noncomputable def g_off (ins : Instr) : Option Int := match ins with
  | .goto o => some o
  | .ifCond _ o => some o
  | .if_icmp _ o => some o
  | .ifnull o => some o
  | .ifnonnull o => some o
  | _ => none
noncomputable def g_kst (own : String) (z : Int) (ins : Instr) : Prop := match ins with
  | .ldc i => Cond.constant own i (Int32.ofInt z) ∈ g_wk
  | .ldc_w i => Cond.constant own i (Int32.ofInt z) ∈ g_wk
  | .ldc2_w i => Cond.constantLong own i (Int64.ofInt z) ∈ g_wk
  | _ => True
noncomputable def g_cl2 (b sz : Nat) (ls : g_Lc) : g_Lc := ls.map (fun q => (q.1, g_cv b sz q.2))
theorem g_get_at {b sz nL i : Nat} {ls : g_Lc} {lsA : Array Slot} {v : Value} (h : g_get ls i = some v) (hl : lv_has lsA nL (g_cl2 b sz ls)) : ∃ k : Nat, (g_cl2 b sz ls)[k]? = some (i, g_cv b sz v) := by
  unfold g_get at h
  obtain ⟨q, hq, rfl⟩ := Option.map_eq_some_iff.mp h
  have h1 : (q.1 == i) = true := List.find?_some (p := fun q : Nat × Value => q.1 == i) hq
  have h2 := List.mem_of_find?_eq_some hq
  have h3 : q.1 = i := by simpa using h1
  have h4 : (q.1, g_cv b sz q.2) ∈ g_cl2 b sz ls := List.mem_map.mpr ⟨q, h2, rfl⟩
  obtain ⟨k, hk⟩ := List.getElem?_of_mem h4
  exact ⟨k, by rw [hk, h3]⟩
theorem g_set_eq (b sz i : Nat) (ls : g_Lc) (v : Value) : (i, g_cv b sz v) :: (g_cl2 b sz ls).filter (fun q => !(q.1 == i) && !(q.1 + 1 == i && q.2.category == 2)) = g_cl2 b sz (g_set ls i v) := by
  simp only [g_cl2, g_set, List.map_cons, List.filter_map]
  congr 3
  funext q
  simp [Function.comp, g_cv_cat]
section GS
variable {p : Program} {l : Launch} {e : Env} {R : Room} {s : State} {m : MethodId} {args : Array Value} {below : List Frame} {meth : Method} {c : Code} {H : Heap} {locs : List Loc} {cells slots : Nat} {Q : State → Prop}
variable {code : ByteArray} {pc len : Nat} {lsA : Array Slot} {ls ls' : g_Lc} {ins : Instr} {z : Int} {st st' : List Value} {b sz nL : Nat} {own : String}
set_option maxHeartbeats 4000000 in
theorem g_stk_ok (hx : p.tables.exec = Jvm.exec) (hb : c.code = code) (hown : s.vm.findClass own = some m.cls) (hts : ∀ w ∈ g_wk, w.before args s = true) (hdg : decode code pc = .ok (ins, len)) (hlen : len = g_len ins) (hk : g_kst own z ins) (h : g_stk ins z st = some st')
    (kk : W p l e R s m args below meth c H locs cells slots Q (F0 m (pc + len) lsA (st'.map (g_cv b sz)))) : W p l e R s m args below meth c H locs cells slots Q (F0 m pc lsA (st.map (g_cv b sz))) := by
  subst hlen
  unfold g_stk at h
  split at h
  · cases h; exact lv_iconst hx hb hdg rfl kk
  · cases h; exact lv_bipush hx hb hdg rfl kk
  · cases h; exact lv_sipush hx hb hdg rfl kk
  · cases h; exact lv_lconst hx hb hdg rfl kk
  · cases h; exact lv_ldc hx hb hown (hts _ hk) hdg kk
  · cases h; exact lv_ldcw hx hb hown (hts _ hk) hdg kk
  · cases h; exact lv_ldc2 hx hb hown (hts _ hk) hdg kk
  · unfold g_i2 at h
    split at h
    · cases h; exact lv_iadd hx hb hdg kk
    · cases h
  · unfold g_i2 at h
    split at h
    · cases h; exact lv_isub hx hb hdg kk
    · cases h
  · unfold g_i2 at h
    split at h
    · cases h; exact lv_imul hx hb hdg kk
    · cases h
  · unfold g_i2 at h
    split at h
    · cases h; exact lv_iand hx hb hdg kk
    · cases h
  · unfold g_i2 at h
    split at h
    · cases h; exact lv_ior hx hb hdg kk
    · cases h
  · unfold g_i2 at h
    split at h
    · cases h; exact lv_ixor hx hb hdg kk
    · cases h
  · unfold g_i2 at h
    split at h
    · cases h; exact lv_ishl hx hb hdg kk
    · cases h
  · unfold g_i2 at h
    split at h
    · cases h; exact lv_ishr hx hb hdg kk
    · cases h
  · unfold g_i2 at h
    split at h
    · cases h; exact lv_iushr hx hb hdg rfl kk
    · cases h
  · unfold g_d2 at h
    split at h
    · split at h
      · cases h
      · rename_i hne
        cases h; exact lv_idiv hx hb hdg hne kk
    · cases h
  · unfold g_d2 at h
    split at h
    · split at h
      · cases h
      · rename_i hne
        cases h; exact lv_irem hx hb hdg hne kk
    · cases h
  · unfold g_i1 at h
    split at h
    · cases h; exact lv_ineg hx hb hdg kk
    · cases h
  · unfold g_i1 at h
    split at h
    · cases h; exact lv_i2l hx hb hdg rfl kk
    · cases h
  · unfold g_i1 at h
    split at h
    · cases h; exact lv_i2b hx hb hdg rfl kk
    · cases h
  · unfold g_i1 at h
    split at h
    · cases h; exact lv_i2c hx hb hdg rfl kk
    · cases h
  · unfold g_cm at h
    split at h
    · cases h; exact W.lcmp hx hb hdg kk
    · cases h
  · unfold g_dp at h
    split at h
    · split at h
      · rename_i hc
        cases h; exact lv_dup hx hb hdg (by rw [g_cv_cat]; exact hc) kk
      · cases h
    · cases h
  · unfold g_dd at h
    split at h
    · split at h
      · rename_i hc
        cases h; exact lv_dup2_11 hx hb hdg (by rw [g_cv_cat]; exact hc.1) (by rw [g_cv_cat]; exact hc.2) kk
      · cases h
    · cases h
  · unfold g_po at h
    split at h
    · split at h
      · rename_i hc
        cases h; exact lv_pop hx hb hdg (by rw [g_cv_cat]; exact hc) kk
      · cases h
    · cases h
  · cases h; exact lv_null hx hb hdg kk
  · cases h
set_option maxHeartbeats 4000000 in
theorem g_lcl_ok (hx : p.tables.exec = Jvm.exec) (hb : c.code = code) (hdg : decode code pc = .ok (ins, len)) (hlen : len = g_len ins) (hl : lv_has lsA nL (g_cl2 b sz ls)) (h : g_lcl nL ins ls st = some (ls', st'))
    (kk : ∀ lsB : Array Slot, lv_has lsB nL (g_cl2 b sz ls') → W p l e R s m args below meth c H locs cells slots Q (F0 m (pc + len) lsB (st'.map (g_cv b sz)))) : W p l e R s m args below meth c H locs cells slots Q (F0 m pc lsA (st.map (g_cv b sz))) := by
  subst hlen
  unfold g_lcl at h
  split at h
  · unfold g_ldi at h
    split at h
    · rename_i hg
      cases h
      obtain ⟨k, hk⟩ := g_get_at hg hl
      exact lv_iload hx hb hdg (lv_at hl k hk) (kk _ hl)
    · cases h
  · unfold g_ldi at h
    split at h
    · rename_i hg
      cases h
      obtain ⟨k, hk⟩ := g_get_at hg hl
      exact lv_iload_n hx hb hdg rfl (lv_at hl k hk) (kk _ hl)
    · cases h
  · unfold g_lda at h
    split at h
    · rename_i hg
      cases h
      obtain ⟨k, hk⟩ := g_get_at hg hl
      exact lv_aload hx hb hdg (lv_at hl k hk) (kk _ hl)
    · rename_i hg
      cases h
      obtain ⟨k, hk⟩ := g_get_at hg hl
      exact lv_aloadN hx hb hdg (lv_at hl k hk) (kk _ hl)
    · cases h
  · unfold g_lda at h
    split at h
    · rename_i hg
      cases h
      obtain ⟨k, hk⟩ := g_get_at hg hl
      exact lv_aload_n hx hb hdg rfl (lv_at hl k hk) (kk _ hl)
    · rename_i hg
      cases h
      obtain ⟨k, hk⟩ := g_get_at hg hl
      exact lv_aload_nN hx hb hdg rfl (lv_at hl k hk) (kk _ hl)
    · cases h
  · unfold g_ldl at h
    split at h
    · rename_i hg
      cases h
      obtain ⟨k, hk⟩ := g_get_at hg hl
      exact lv_lload hx hb hdg (lv_at hl k hk) (kk _ hl)
    · cases h
  · unfold g_ldl at h
    split at h
    · rename_i hg
      cases h
      obtain ⟨k, hk⟩ := g_get_at hg hl
      exact lv_lload_n hx hb hdg rfl (lv_at hl k hk) (kk _ hl)
    · cases h
  · unfold g_sti at h
    split at h
    · split at h
      · rename_i hn
        cases h
        exact lv_istore hx hb hdg hl hn (g_set_eq b sz _ _ (.int _)) (fun lsB hB => kk lsB hB)
      · cases h
    · cases h
  · unfold g_sti at h
    split at h
    · split at h
      · rename_i hn
        cases h
        exact lv_istore_n hx hb hdg rfl hl hn (g_set_eq b sz _ _ (.int _)) (fun lsB hB => kk lsB hB)
      · cases h
    · cases h
  · unfold g_sta at h
    split at h
    · split at h
      · rename_i hn
        cases h
        exact lv_astore hx hb hdg hl hn (g_set_eq b sz _ _ (.ref _)) (fun lsB hB => kk lsB hB)
      · cases h
    · split at h
      · rename_i hn
        cases h
        exact lv_astoreN hx hb hdg hl hn (g_set_eq b sz _ _ .null) (fun lsB hB => kk lsB hB)
      · cases h
    · cases h
  · unfold g_sta at h
    split at h
    · split at h
      · rename_i hn
        cases h
        exact lv_astore_n hx hb hdg rfl hl hn (g_set_eq b sz _ _ (.ref _)) (fun lsB hB => kk lsB hB)
      · cases h
    · split at h
      · rename_i hn
        cases h
        exact lv_astore_nN hx hb hdg rfl hl hn (g_set_eq b sz _ _ .null) (fun lsB hB => kk lsB hB)
      · cases h
    · cases h
  · unfold g_inc at h
    split at h
    · rename_i hg
      split at h
      · rename_i hn
        cases h
        obtain ⟨k, hk⟩ := g_get_at hg hl
        exact lv_iinc hx hb hdg hl hk rfl hn (g_set_eq b sz _ _ (.int _)) (fun lsB hB => kk lsB hB)
      · cases h
    · cases h
  · cases h
theorem g_tg_ok {o : Option Int} {r : List Value} {q : Nat × List Value} (h : g_tg pc o r = some q) : ∃ (off : Int), o = some off ∧ (pc : Int) + off = (q.1 : Int) ∧ q.2 = r := by
  unfold g_tg at h
  split at h
  · rename_i off
    split at h
    · rename_i t ht
      cases h
      exact ⟨off, rfl, ht, rfl⟩
    · cases h
  · cases h
set_option maxHeartbeats 4000000 in
theorem g_jmp_ok {x : Nat} {q : Nat × List Value} (hx : p.tables.exec = Jvm.exec) (hb : c.code = code) (hdg : decode code pc = .ok (ins, len)) (hlen : ∀ off, g_off ins = some off → len = 3) (hoff : ∀ off, g_off ins = some off → (pc : Int) + off = (x : Int)) (h : g_jmp ins pc x st = some q)
    (kk : W p l e R s m args below meth c H locs cells slots Q (F0 m q.1 lsA (q.2.map (g_cv b sz)))) : W p l e R s m args below meth c H locs cells slots Q (F0 m pc lsA (st.map (g_cv b sz))) := by
  unfold g_jmp at h
  split at h
  · cases hlen _ rfl; cases h; exact lv_goto hx hb hdg (hoff _ rfl) kk
  · cases hlen _ rfl
    unfold g_b1 at h
    split at h
    · cases h
      refine lv_if_eq hx hb hdg (hoff _ rfl) (fun hc => ?_) (fun hc => ?_)
      · simpa [hc] using kk
      · simpa [hc] using kk
    · cases h
  · cases hlen _ rfl
    unfold g_b1 at h
    split at h
    · cases h
      refine lv_if_ne hx hb hdg (hoff _ rfl) (fun hc => ?_) (fun hc => ?_)
      · simpa [hc] using kk
      · simpa [hc] using kk
    · cases h
  · cases hlen _ rfl
    unfold g_b1 at h
    split at h
    · cases h
      refine lv_if_lt hx hb hdg (hoff _ rfl) (fun hc => ?_) (fun hc => ?_)
      · simpa [hc] using kk
      · simpa [hc] using kk
    · cases h
  · cases hlen _ rfl
    unfold g_b1 at h
    split at h
    · cases h
      refine lv_if_ge hx hb hdg (hoff _ rfl) (fun hc => ?_) (fun hc => ?_)
      · simpa [hc] using kk
      · simpa [hc] using kk
    · cases h
  · cases hlen _ rfl
    unfold g_b1 at h
    split at h
    · cases h
      refine lv_if_gt hx hb hdg (hoff _ rfl) (fun hc => ?_) (fun hc => ?_)
      · simpa [hc] using kk
      · simpa [hc] using kk
    · cases h
  · cases hlen _ rfl
    unfold g_b1 at h
    split at h
    · cases h
      refine lv_if_le hx hb hdg (hoff _ rfl) (fun hc => ?_) (fun hc => ?_)
      · simpa [hc] using kk
      · simpa [hc] using kk
    · cases h
  · cases hlen _ rfl
    unfold g_b2 at h
    split at h
    · cases h
      refine lv_icmp_eq hx hb hdg (hoff _ rfl) (fun hc => ?_) (fun hc => ?_)
      · simpa [hc] using kk
      · simpa [hc] using kk
    · cases h
  · cases hlen _ rfl
    unfold g_b2 at h
    split at h
    · cases h
      refine lv_icmp_ne hx hb hdg (hoff _ rfl) (fun hc => ?_) (fun hc => ?_)
      · simpa [hc] using kk
      · simpa [hc] using kk
    · cases h
  · cases hlen _ rfl
    unfold g_b2 at h
    split at h
    · cases h
      refine lv_icmp_lt hx hb hdg (hoff _ rfl) (fun hc => ?_) (fun hc => ?_)
      · simpa [hc] using kk
      · simpa [hc] using kk
    · cases h
  · cases hlen _ rfl
    unfold g_b2 at h
    split at h
    · cases h
      refine lv_icmp_ge hx hb hdg (hoff _ rfl) (fun hc => ?_) (fun hc => ?_)
      · simpa [hc] using kk
      · simpa [hc] using kk
    · cases h
  · cases hlen _ rfl
    unfold g_b2 at h
    split at h
    · cases h
      refine lv_icmp_gt hx hb hdg (hoff _ rfl) (fun hc => ?_) (fun hc => ?_)
      · simpa [hc] using kk
      · simpa [hc] using kk
    · cases h
  · cases hlen _ rfl
    unfold g_b2 at h
    split at h
    · cases h
      refine lv_icmp_le hx hb hdg (hoff _ rfl) (fun hc => ?_) (fun hc => ?_)
      · simpa [hc] using kk
      · simpa [hc] using kk
    · cases h
  · cases hlen _ rfl
    unfold g_bn at h
    split at h
    · cases h; exact lv_ifnullN hx hb hdg (hoff _ rfl) kk
    · cases h; exact lv_ifnull hx hb hdg kk
    · cases h
  · cases hlen _ rfl
    unfold g_bn at h
    split at h
    · cases h; exact lv_ifnonnullN hx hb hdg kk
    · cases h; exact lv_ifnonnull hx hb hdg (hoff _ rfl) kk
    · cases h
  · split at h
    · obtain ⟨off, ho, ht, hr⟩ := g_tg_ok h
      rw [hr] at kk
      split at ho
      · rename_i hc
        cases ho
        exact lv_tableOut hx hb hdg hc ht kk
      · rename_i hc
        exact lv_tableIn hx hb hdg (fun z => hc (Or.inl z)) (fun z => hc (Or.inr z)) ho ht kk
    · cases h
  · split at h
    · split at h
      · rename_i hs
        obtain ⟨off, ho, ht, hr⟩ := g_tg_ok h
        rw [hr] at kk
        cases ho
        exact lv_lookup hx hb hdg hs rfl ht kk
      · cases h
    · cases h
  · cases h
end GS
end Prt05
section Prt06
noncomputable def g_sz (c : g_Ce) : Nat := match c with
  | .inl (_, n, _) => n
  | .inr (ci, _) => g_nf ci
noncomputable def g_sl (σ : List g_Ce) : Nat := (σ.map g_sz).sum
theorem g_sl_app (σ : List g_Ce) (c : g_Ce) : g_sl (σ ++ [c]) = g_sl σ + g_sz c := by simp [g_sl]
theorem g_sl_set : ∀ (σ : List g_Ce) (k : Nat) (c0 c : g_Ce), σ[k]? = some c0 → g_sz c0 = g_sz c → g_sl (σ.set k c) = g_sl σ
  | [], k, c0, c, h, _ => by simp at h
  | a :: r, 0, c0, c, h, hz => by
    simp at h
    subst h
    simp [g_sl, hz]
  | a :: r, k + 1, c0, c, h, hz => by
    have h1 := g_sl_set r k c0 c (by simpa using h) hz
    simp only [g_sl, List.set_cons_succ, List.map_cons, List.sum_cons] at h1 ⊢
    omega
noncomputable def g_lkf (own : String) (i x y : Nat) : Prop := ∃ (C : String) (T : u_T) (N : Nat), vwCl[x]? = some (C, T, N) ∧ y < N ∧ (T y).1 = C ∧ (Cond.fieldLink own i C (T y).2.1 (T y).2.2.1 ∈ g_wk ∨ ∃ h, Cond.fieldLinkNest own i C (T y).2.1 (T y).2.2.1 h ∈ g_wn)
noncomputable def g_lkp (own mn : String) (i x y : Nat) : Prop := ∃ (C : String) (T : u_T) (N : Nat), vwCl[x]? = some (C, T, N) ∧ y < N ∧ (T y).1 = C ∧ (((T y).2.2.2 = false ∧ (Cond.fieldLink own i C (T y).2.1 (T y).2.2.1 ∈ g_wk ∨ ∃ h, Cond.fieldLinkNest own i C (T y).2.1 (T y).2.2.1 h ∈ g_wn)) ∨ ((T y).2.2.2 = true ∧ mn = "<init>" ∧ (T y).1 = own ∧ Cond.fieldLink own i C (T y).2.1 (T y).2.2.1 ∈ g_wk))
noncomputable def g_lkn (own : String) (i x : Nat) : Prop := ∃ (C : String) (T : u_T) (N : Nat), vwCl[x]? = some (C, T, N) ∧ Cond.classLink own i C ∈ g_wk ∧ Cond.instantiable C N ∈ g_wk ∧ Cond.initialized C ∈ g_wk
noncomputable def g_lkh (own mn : String) (x y : Nat) (ins : Instr) : Prop := match ins with
  | .getfield i => g_lkf own i x y
  | .putfield i => g_lkp own mn i x y
  | .new i => g_lkn own i x
  | .newarray t => Cond.arrayClass (newarray.typeOf t) ∈ g_wk
  | .anewarray i => Cond.classLink own i "GustHome$Ward" ∈ g_wk
  | .invokestatic i => (x = 99998 → Cond.methodLink own i arraycopyName ∈ g_wk ∧ Cond.native arraycopyName ∈ g_wk ∧ Cond.static arraycopyName ∈ g_wk ∧ Cond.initialized "java/lang/System" ∈ g_wk) ∧ ((x = 99997 ∨ x = 99996 ∨ x = 99995) → Cond.initialized "java/lang/Math" ∈ g_wk ∧ (x = 99997 → Cond.methodLink own i Lib.Math.max.name ∈ g_wk ∧ Cond.static Lib.Math.max.name ∈ g_wk ∧ Cond.code Lib.Math.max.name Lib.Math.max.code 2 (some .int) ∈ g_wk) ∧ (x = 99996 → Cond.methodLink own i Lib.Math.min.name ∈ g_wk ∧ Cond.static Lib.Math.min.name ∈ g_wk ∧ Cond.code Lib.Math.min.name Lib.Math.min.code 2 (some .int) ∈ g_wk) ∧ (x = 99995 → Cond.methodLink own i Lib.Math.abs.name ∈ g_wk ∧ Cond.static Lib.Math.abs.name ∈ g_wk ∧ Cond.code Lib.Math.abs.name Lib.Math.abs.code 1 (some .int) ∈ g_wk))
  | _ => True
noncomputable def g_clsIn : Prop := ∀ (ci : Nat) (C : String) (T : u_T) (N : Nat), vwCl[ci]? = some (C, T, N) → ∀ w ∈ u_ws C T N, w ∈ g_wk
theorem g_fit (b sz : Nat) (ty : FieldType) (v : Value) (h : fits ty v = true) : fits ty (g_cv b sz v) = true := by
  cases v <;> cases ty <;> first | exact h | rfl
theorem g_nar (b sz : Nat) (ty : FieldType) (v : Value) (h : narrow ty v = v) : narrow ty (g_cv b sz v) = g_cv b sz v := by
  cases v <;> cases ty <;> first | exact h | rfl
theorem g_tys_at {D : va_G} {dA : Nat → ClassId} {s : State} (h : g_St D dA s) {t : Nat} (ht : t < 4) : (g_tys dA)[t]? = some (dA t, g_tt t) := by
  match t, ht with
  | 0, _ => rfl
  | 1, _ => rfl
  | 2, _ => rfl
  | 3, _ => rfl
section GH
variable {p : Program} {l : Launch} {e : Env} {R : Room} {s : State} {m : MethodId} {args : Array Value} {below : List Frame} {meth : Method} {c : Code} {H : Heap} {locs : List Loc} {cells slots : Nat} {Q : State → Prop}
variable {code : ByteArray} {pc : Nat} {lsA : Array Slot} {b sz : Nat} {own : String} {D : va_G} {dA : Nat → ClassId} {σ : List g_Ce} {rest : List Value}
theorem g_aS {H1 : Heap} {a k : Nat} (hS : va_S (g_A sz) s.heap H locs) (z : H1.size = H.size) (oq : ∀ q : Nat, q ≠ sz + a → H1[q]? = H[q]?) : va_S (g_A sz) s.heap H1 (locs ++ [⟨sz + a, k⟩]) := hS.put z oq (Nat.le_add_right sz a)
theorem g_nS {H1 : Heap} (hS : va_S (g_A sz) s.heap H locs) (z : H1.size = H.size + 1) (oq : ∀ q : Nat, q < H.size → H1[q]? = H[q]?) : va_S (g_A sz) s.heap H1 locs := ⟨Nat.le_trans hS.1 (by omega), fun x h1 h2 => (oq x (Nat.lt_of_lt_of_le h1 hS.1)).trans (hS.2.1 x h1 h2), hS.2.2⟩
set_option maxHeartbeats 1000000 in
theorem g_iast_ok (hx : p.tables.exec = Jvm.exec) (hb : c.code = code) (hSt : g_St D dA s) (hH : g_Hp D b sz dA σ H) (hS : va_S (g_A sz) s.heap H locs) {a n : Nat} {f : Nat → Int32} (ha : σ[a]? = some (.inl (0, n, .inl f))) {i v : Int32} (hin : vp_in i n) (hdg : decode code pc = .ok (.iastore, 1))
    (kk : ∀ (H1 : Heap) (locs1 : List Loc), g_Hp D b sz dA (σ.set a (.inl (0, n, .inl (upd f i.toNatClampNeg v)))) H1 → va_S (g_A sz) s.heap H1 locs1 → W p l e R s m args below meth c H1 locs1 cells slots Q (F0 m (pc + 1) lsA rest)) : W p l e R s m args below meth c H locs cells slots Q (F0 m pc lsA (.int v :: .int i :: .ref (sz + a) :: rest)) := by
  have hc := hH.1 a _ (g_ws_at ha)
  refine W.iast hx hb hc ((hSt.1.2 0 _ (g_tys_at hSt (by decide))).1 n (fun j => .int (f j))) (fun q => by cases q) (by show ¬ (i < 0 ∨ (arrV _ _ _).slots.size ≤ _); rw [arrV_size]; exact hin) rfl rfl hdg fun H1 e z oq => ?_
  refine kk H1 _ (g_Hp_set hH ha ?_ z oq) (g_aS hS z oq)
  show H1[sz + a]? = some (vp_cell _ _)
  rw [e, vp_cell_i, vp_cell_i, arrV_store]
  congr 2
  funext q
  by_cases hq : q = i.toNatClampNeg
  · subst hq
    simp [updV, upd]
  · simp [updV, upd, hq]
set_option maxHeartbeats 1000000 in
theorem g_bast_ok (hx : p.tables.exec = Jvm.exec) (hb : c.code = code) (hSt : g_St D dA s) (hH : g_Hp D b sz dA σ H) (hS : va_S (g_A sz) s.heap H locs) {a n : Nat} {f : Nat → Int32} (ha : σ[a]? = some (.inl (1, n, .inl f))) {i v : Int32} (hin : vp_in i n) (hdg : decode code pc = .ok (.bastore, 1))
    (kk : ∀ (H1 : Heap) (locs1 : List Loc), g_Hp D b sz dA (σ.set a (.inl (1, n, .inl (upd f i.toNatClampNeg (vp_nar .byte v))))) H1 → va_S (g_A sz) s.heap H1 locs1 → W p l e R s m args below meth c H1 locs1 cells slots Q (F0 m (pc + 1) lsA rest)) : W p l e R s m args below meth c H locs cells slots Q (F0 m pc lsA (.int v :: .int i :: .ref (sz + a) :: rest)) := by
  have hc := hH.1 a _ (g_ws_at ha)
  refine W.bast hx hb hc ((hSt.1.2 1 _ (g_tys_at hSt (by decide))).1 n (fun j => .int (f j))) (fun q => by cases q) (by show ¬ (i < 0 ∨ (arrV _ _ _).slots.size ≤ _); rw [arrV_size]; exact hin) rfl rfl hdg fun H1 e z oq => ?_
  refine kk H1 _ (g_Hp_set hH ha ?_ z oq) (g_aS hS z oq)
  show H1[sz + a]? = some (vp_cell _ _)
  rw [e, vp_cell_i, vp_cell_i, arrV_store]
  congr 2
  funext q
  by_cases hq : q = i.toNatClampNeg
  · subst hq
    simp [updV, upd, vp_nar]
    try rfl
  · simp [updV, upd, hq]
set_option maxHeartbeats 1000000 in
theorem g_zast_ok (hx : p.tables.exec = Jvm.exec) (hb : c.code = code) (hSt : g_St D dA s) (hH : g_Hp D b sz dA σ H) (hS : va_S (g_A sz) s.heap H locs) {a n : Nat} {f : Nat → Int32} (ha : σ[a]? = some (.inl (2, n, .inl f))) {i v : Int32} (hin : vp_in i n) (hdg : decode code pc = .ok (.bastore, 1))
    (kk : ∀ (H1 : Heap) (locs1 : List Loc), g_Hp D b sz dA (σ.set a (.inl (2, n, .inl (upd f i.toNatClampNeg (vp_nar .boolean v))))) H1 → va_S (g_A sz) s.heap H1 locs1 → W p l e R s m args below meth c H1 locs1 cells slots Q (F0 m (pc + 1) lsA rest)) : W p l e R s m args below meth c H locs cells slots Q (F0 m pc lsA (.int v :: .int i :: .ref (sz + a) :: rest)) := by
  have hc := hH.1 a _ (g_ws_at ha)
  refine W.zast hx hb hc ((hSt.1.2 2 _ (g_tys_at hSt (by decide))).1 n (fun j => .int (f j))) (fun q => by cases q) (by show ¬ (i < 0 ∨ (arrV _ _ _).slots.size ≤ _); rw [arrV_size]; exact hin) rfl rfl hdg fun H1 e z oq => ?_
  refine kk H1 _ (g_Hp_set hH ha ?_ z oq) (g_aS hS z oq)
  show H1[sz + a]? = some (vp_cell _ _)
  rw [e, vp_cell_i, vp_cell_i, arrV_store]
  congr 2
  funext q
  by_cases hq : q = i.toNatClampNeg
  · subst hq
    simp [updV, upd, vp_nar]
    try rfl
  · simp [updV, upd, hq]
set_option maxHeartbeats 1000000 in
theorem g_aast_ok (hx : p.tables.exec = Jvm.exec) (hb : c.code = code) (hSt : g_St D dA s) (hH : g_Hp D b sz dA σ H) (hS : va_S (g_A sz) s.heap H locs) {a v n : Nat} {f : Nat → Option Nat} {vs : List Value} (ha : σ[a]? = some (.inl (3, n, .inr f))) (hv : σ[v]? = some (.inr (9, vs))) {i : Int32} (hin : vp_in i n) (hdg : decode code pc = .ok (.aastore, 1))
    (kk : ∀ (H1 : Heap) (locs1 : List Loc), g_Hp D b sz dA (σ.set a (.inl (3, n, .inr (va_up f i.toNatClampNeg (some (v + 1)))))) H1 → va_S (g_A sz) s.heap H1 locs1 → W p l e R s m args below meth c H1 locs1 cells slots Q (F0 m (pc + 1) lsA rest)) : W p l e R s m args below meth c H locs cells slots Q (F0 m pc lsA (.ref (sz + v) :: .int i :: .ref (sz + a) :: rest)) := by
  have hlt : i.toNatClampNeg < n := Nat.not_le.mp fun q => hin (Or.inr q)
  have h0 : ¬ i < 0 := fun q => hin (Or.inl q)
  have hc := hH.1 a _ (g_ws_at ha)
  obtain ⟨r', hr', cellV, g1, g2, g3, -⟩ := hH.1 v _ (g_ws_at hv)
  have hcls := (hSt.1.1 9 (RX9, TX9, 5) rfl).2
  obtain ⟨kA, comp, k1, k2, k3, -⟩ := (hSt.1.2 3 _ (g_tys_at hSt (by decide))).2
  have hcomp : comp = D.1 9 := Option.some.inj (k3.symm.trans hcls.1)
  subst hcomp
  obtain ⟨kC, hkC, -⟩ := hcls.2
  refine W.aast hx hb hc (fun q h => by cases h) (fun h => by cases h) k1 k2 rfl hkC ⟨h0, by show _ < (arrV _ _ _).slots.size; rw [arrV_size]; exact hlt⟩ g1 (fun q h => by rw [g3] at h; cases h) (by rw [g2]; exact hkC) (by rw [g2]; exact va_assign hcls) rfl rfl hdg fun H1 e z oq => ?_
  refine kk H1 _ (g_Hp_set hH ha ?_ z oq) (g_aS hS z oq)
  show H1[sz + a]? = some (vp_cell _ _)
  rw [e, vp_cell_q, vp_cell_q, arrV_store]
  congr 2
  funext q
  by_cases hq : q = i.toNatClampNeg
  · subst hq
    simp [updV, va_up, va_rf, g_ad]
  · simp [updV, va_up, hq]
set_option maxHeartbeats 1000000 in
theorem g_put_ok (hx : p.tables.exec = Jvm.exec) (hb : c.code = code) (hown : s.vm.findClass own = some m.cls) (hts : ∀ w ∈ g_wk, w.before args s = true) (hcl : g_clsIn) (hSt : g_St D dA s) (hH : g_Hp D b sz dA σ H) (hS0 : va_S (g_A sz) s.heap H locs) {a ci y i : Nat} {fs : List Value} (ha : σ[a]? = some (.inr (ci, fs))) {v : Value} (hl : y < fs.length) (hn : narrow (g_ty ci y) v = v) (hfit : fits (g_ty ci y) v = true) (hdg : decode code pc = .ok (.putfield i, 3)) (hlk : g_lkp own meth.name i ci y)
    (kk : ∀ (H1 : Heap) (locs1 : List Loc), g_Hp D b sz dA (σ.set a (.inr (ci, fs.set y v))) H1 → va_S (g_A sz) s.heap H1 locs1 → W p l e R s m args below meth c H1 locs1 cells slots Q (F0 m (pc + 3) lsA rest)) : W p l e R s m args below meth c H locs cells slots Q (F0 m pc lsA (g_cv b sz v :: .ref (sz + a) :: rest)) := by
  obtain ⟨C, T, N, hc, hk, hdecl, hl2⟩ := hlk
  obtain ⟨hty, hnm, -⟩ := g_cls_ty ci C T N hc
  have hin := hcl ci C T N hc
  have hap := va_apart (own := own) hts hin (g_ty ci) hty hnm hSt.1 hc
  obtain ⟨r, h1, cell, q1, q2, q3, q4⟩ := hH.1 a _ (g_ws_at ha)
  have hr : r = (C, T, N) := Option.some.inj (h1.symm.trans hc)
  subst hr
  obtain ⟨hS, hfc, kC, hkC, hkind⟩ := hSt.1.1 ci _ hc
  obtain ⟨cf, kf, fi, f, hi, hsl⟩ := hS y hk
  have hlay := hts _ (hin _ (u_in_lay hk))
  have hst := (u_facts hfc hkC (u_lays hts hin hk) hi).1
  have hi2 : s.fieldFound? C (T y).2.1 (T y).2.2.1 = some (cf, kf, fi, f) := by rw [← hdecl]; exact hi
  have hl' : y < (fs.map (g_cv b sz)).length := by rw [List.length_map]; exact hl
  have fin : ∀ (H' : Heap), H'[sz + a]? = some (cell.setSlot f.slot (g_cv b sz v)) → va_at D vwCl (sz + a, g_ce b sz dA (.inr (ci, fs.set y v))) H' := by
    intro H' e1
    rw [hsl] at e1
    refine ⟨_, hc, ?_⟩
    have e2 := t_OB.to (V := updV (vp_V (fs.map (g_cv b sz))) y (g_cv b sz v)) (V' := vp_V ((fs.map (g_cv b sz)).set y (g_cv b sz v))) ⟨_, e1, q2, q3, t_set q4 hap hk (g_cv b sz v)⟩ (fun j _ => vp_updV_set hl' (g_cv b sz v) j)
    rw [← List.map_set] at e2
    exact e2
  rcases hl2 with ⟨hfin, hl2⟩ | ⟨hfin, hin2, hdo, hlink⟩
  · unfold u_lay at hlay
    rw [if_neg (by rw [hfin]; decide)] at hlay
    have h6 := u_store hfc hkC hkind hlay hi (hty y hk) (g_nar b sz _ v hn) (g_fit b sz _ v hfit)
    rcases hl2 with hlink | ⟨host, hlink⟩
    · refine W.putK hx hb (f := f) ⟨hown, hts _ hlink, ⟨_, _, _, hi2⟩, hst⟩ (by rw [q2]; exact h6) q1 q3 (by rw [hsl]; exact k2_hasslot (q4 y hk)) rfl rfl hdg fun H' e1 e2 e3 => ?_
      exact kk H' _ (g_Hp_set hH ha (fin H' e1) e2 e3) (g_aS hS0 e2 e3)
    · refine va_WputK hx hb (f := f) hown (va_Nw.use rfl (hSt.2.1 _ hlink)) hi2 hst (by rw [q2]; exact h6) q1 q3 (by rw [hsl]; exact k2_hasslot (q4 y hk)) rfl rfl hdg fun H' e1 e2 e3 => ?_
      exact kk H' _ (g_Hp_set hH ha (fin H' e1) e2 e3) (g_aS hS0 e2 e3)
  · unfold u_lay at hlay
    rw [if_pos hfin] at hlay
    have hcf : m.cls = cf := by
      obtain ⟨_, _, c', _, _, _, -, -, hf', -, -, -, hown2, -⟩ := Cond.laysFinal_spec hlay
      have e1 : c' = cf := by have := hi.symm.trans hf'; simp at this; exact this.1.symm
      rw [hdo] at hown2
      rw [← e1]; exact Option.some.inj (hown.symm.trans hown2)
    have h6 := u_fits hfc hkC hkind (Or.inr hlay) hi (hty y hk) (g_nar b sz _ v hn) (g_fit b sz _ v hfit)
    refine W.putFinK hx hb hown (hts _ hlink) hi2 hst hcf hin2 (by rw [q2]; exact h6) q1 q3 (by rw [hsl]; exact k2_hasslot (q4 y hk)) rfl rfl hdg fun H' e1 e2 e3 => ?_
    exact kk H' _ (g_Hp_set hH ha (fin H' e1) e2 e3) (g_aS hS0 e2 e3)
set_option maxHeartbeats 1000000 in
theorem g_get_ok (hx : p.tables.exec = Jvm.exec) (hb : c.code = code) (hown : s.vm.findClass own = some m.cls) (hts : ∀ w ∈ g_wk, w.before args s = true) (hcl : g_clsIn) (hSt : g_St D dA s) (hH : g_Hp D b sz dA σ H) {a ci y i : Nat} {fs : List Value} (ha : σ[a]? = some (.inr (ci, fs))) {v : Value} (hv : fs[y]? = some v) (hdg : decode code pc = .ok (.getfield i, 3)) (hlk : g_lkf own i ci y)
    (kk : W p l e R s m args below meth c H locs cells slots Q (F0 m (pc + 3) lsA (g_cv b sz v :: rest))) : W p l e R s m args below meth c H locs cells slots Q (F0 m pc lsA (.ref (sz + a) :: rest)) := by
  obtain ⟨C, T, N, hc, hk, hdecl, hl2⟩ := hlk
  have hin := hcl ci C T N hc
  have hv' : (fs.map (g_cv b sz))[y]? = some (g_cv b sz v) := by simp [hv]
  rcases hl2 with hlink | ⟨host, hlink⟩
  · exact va_get hx hb hts hin hown hSt.1 hH.1 a (g_ws_at ha) hc y hk (hts _ hlink) (fun q h => by rw [← hdecl]; exact h) hv' hdg kk
  · exact va_getN hx hb hts hin hown hSt.1 hH.1 a (g_ws_at ha) hc y hk (va_Nw.use rfl (hSt.2.1 _ hlink)) (fun q h => by rw [← hdecl]; exact h) hv' hdg kk
set_option maxHeartbeats 1000000 in
theorem g_new_ok (hx : p.tables.exec = Jvm.exec) (hb : c.code = code) (hown : s.vm.findClass own = some m.cls) (hts : ∀ w ∈ g_wk, w.before args s = true) (hcl : g_clsIn) (hSt : g_St D dA s) (hH : g_Hp D b sz dA σ H) (hS : va_S (g_A sz) s.heap H locs) {ci i : Nat} (hlk : g_lkn own i ci) (hdg : decode code pc = .ok (.new i, 3)) (hcells : cells + 1 ≤ R.cells) (hslots : slots + g_nf ci ≤ R.slots)
    (kk : ∀ (H1 : Heap) (locs1 : List Loc), g_Hp D b sz dA (σ ++ [.inr (ci, g_df ci)]) H1 → va_S (g_A sz) s.heap H1 locs1 → W p l e R s m args below meth c H1 locs1 (cells + 1) (slots + g_nf ci) Q (F0 m (pc + 3) lsA (.ref (sz + σ.length) :: rest))) : W p l e R s m args below meth c H locs cells slots Q (F0 m pc lsA rest) := by
  obtain ⟨C, T, N, hc, h1, h2, h3⟩ := hlk
  obtain ⟨hty, hnm, hN⟩ := g_cls_ty ci C T N hc
  subst hN
  have hin := hcl ci C T _ hc
  have hKn := hSt.1.1 ci _ hc
  refine W.newcK hx hb hown (hts _ h1) (hts _ h2) (hts _ h3) rfl hdg hcells hslots hKn.2.1 rfl fun H1 kC hkC e1 z1 o1 => ?_
  have hz := hH.2
  refine W.eq (g2 := F0 m (pc + 3) lsA (.ref (sz + σ.length) :: rest)) (by rw [← hz]) (kk H1 _ (g_Hp_app hH ?_ z1 o1) (g_nS hS z1 o1))
  rw [hz] at e1
  refine ⟨_, hc, (u_born (g_ty ci) hts hin hKn hkC e1 hty).to (fun j hj => ?_)⟩
  have hj' : j < g_nf ci := hj
  have e9 : ∀ v : Value, g_cv b sz (defaultValue (g_ty ci j)) = defaultValue (g_ty ci j) := fun _ => by cases g_ty ci j <;> rfl
  simp [vp_V, g_df, List.getD, hj', e9 .null]
set_option maxHeartbeats 1000000 in
theorem g_newa_ok (hx : p.tables.exec = Jvm.exec) (hb : c.code = code) (hts : ∀ w ∈ g_wk, w.before args s = true) (hSt : g_St D dA s) (hH : g_Hp D b sz dA σ H) (hS : va_S (g_A sz) s.heap H locs) {t : ArrayType} {k : Nat} (hk : g_tag t = some k) (hlk : Cond.arrayClass (newarray.typeOf t) ∈ g_wk) (hdg : decode code pc = .ok (.newarray t, 2)) {n : Int32} (hn : ¬ n < 0) (hb2 : n.toNatClampNeg ≤ 100000) (hcells : cells + 1 ≤ R.cells) (hslots : slots + n.toNatClampNeg ≤ R.slots)
    (kk : ∀ (H1 : Heap) (locs1 : List Loc), g_Hp D b sz dA (σ ++ [.inl (k, n.toNatClampNeg, .inl (fun _ => 0))]) H1 → va_S (g_A sz) s.heap H1 locs1 → W p l e R s m args below meth c H1 locs1 (cells + 1) (slots + n.toNatClampNeg) Q (F0 m (pc + 2) lsA (.ref (sz + σ.length) :: rest))) : W p l e R s m args below meth c H locs cells slots Q (F0 m pc lsA (.int n :: rest)) := by
  have hz := hH.2
  have hby : n.toNatClampNeg * componentBytes (newarray.typeOf t) ≤ 536870912 := by
    have : componentBytes (newarray.typeOf t) ≤ 8 := by cases t <;> decide
    have := Nat.mul_le_mul hb2 this
    omega
  refine va_newaK hx hb (hts _ hlk) rfl hdg rfl hn rfl hby hcells hslots rfl fun H1 cA e1 z1 o1 hAr hNm => ?_
  refine W.eq (g2 := F0 m (pc + 2) lsA (.ref (sz + σ.length) :: rest)) (by rw [← hz]) (kk H1 _ (g_Hp_app hH ?_ z1 o1) (g_nS hS z1 o1))
  rw [hz] at e1
  show H1[sz + σ.length]? = some (vp_cell _ _)
  rw [e1]
  have f0 := (hSt.1.2 0 _ (g_tys_at hSt (by decide))).2
  have f1 := (hSt.1.2 1 _ (g_tys_at hSt (by decide))).2
  have f2 := (hSt.1.2 2 _ (g_tys_at hSt (by decide))).2
  cases t <;> cases hk
  · have : cA = dA 2 := Option.some.inj (hNm.symm.trans f2)
    rw [this]; rfl
  · have : cA = dA 1 := Option.some.inj (hNm.symm.trans f1)
    rw [this]; rfl
  · have : cA = dA 0 := Option.some.inj (hNm.symm.trans f0)
    rw [this]; rfl
set_option maxHeartbeats 1000000 in
theorem g_newq_ok (hx : p.tables.exec = Jvm.exec) (hb : c.code = code) (hown : s.vm.findClass own = some m.cls) (hts : ∀ w ∈ g_wk, w.before args s = true) (hSt : g_St D dA s) (hH : g_Hp D b sz dA σ H) (hS : va_S (g_A sz) s.heap H locs) {i : Nat} (hlk : Cond.classLink own i "GustHome$Ward" ∈ g_wk) (hdg : decode code pc = .ok (.anewarray i, 3)) {n : Int32} (hn : ¬ n < 0) (hb2 : n.toNatClampNeg ≤ 100000) (hcells : cells + 1 ≤ R.cells) (hslots : slots + n.toNatClampNeg ≤ R.slots)
    (kk : ∀ (H1 : Heap) (locs1 : List Loc), g_Hp D b sz dA (σ ++ [.inl (3, n.toNatClampNeg, .inr (fun _ => none))]) H1 → va_S (g_A sz) s.heap H1 locs1 → W p l e R s m args below meth c H1 locs1 (cells + 1) (slots + n.toNatClampNeg) Q (F0 m (pc + 3) lsA (.ref (sz + σ.length) :: rest))) : W p l e R s m args below meth c H locs cells slots Q (F0 m pc lsA (.int n :: rest)) := by
  have hz := hH.2
  refine W.anew hx hb hown (hts _ hlk) (va_AO.use hSt.2.2) rfl hdg rfl hn (by omega) hcells hslots fun cA kA comp f1 f2 f3 f4 => ?_
  generalize hH1 : H.push ({ cls := cA, slots := Array.replicate n.toNatClampNeg .null, vm := .none } : Cell) = H1
  have z1 : H1.size = H.size + 1 := by rw [← hH1, Array.size_push]
  have e1 : H1[H.size]? = some (arrV cA n.toNatClampNeg (fun _ => .null)) := by rw [← hH1, Array.getElem?_push_size, ← arrV_new]
  have o1 : ∀ q : Nat, q < H.size → H1[q]? = H[q]? := fun q hq => by rw [← hH1, Array.getElem?_push, if_neg (Nat.ne_of_lt hq)]
  refine W.eq (g2 := F0 m (pc + 3) lsA (.ref (sz + σ.length) :: rest)) (by rw [← hz]) (kk H1 _ (g_Hp_app hH ?_ z1 o1) (g_nS hS z1 o1))
  rw [hz] at e1
  show H1[sz + σ.length]? = some (vp_cell _ _)
  rw [e1]
  obtain ⟨kA', comp', k1, k2, k3, k4⟩ := (hSt.1.2 3 _ (g_tys_at hSt (by decide))).2
  have : cA = dA 3 := Option.some.inj (f1.symm.trans k4)
  rw [this]
  rfl
set_option maxHeartbeats 1000000 in
theorem g_copy_ok (hx : p.tables.exec = Jvm.exec) (hb : c.code = code) (hml : c.maxLocals = lsA.size) (hown : s.vm.findClass own = some m.cls) (hts : ∀ w ∈ g_wk, w.before args s = true) (hSt : g_St D dA s) (hH : g_Hp D b sz dA σ H) (hS : va_S (g_A sz) s.heap H locs) {a a0 n0 n1 i : Nat} {f g : Nat → Int32} (ha0 : σ[a0]? = some (.inl (0, n0, .inl f))) (ha1 : σ[a]? = some (.inl (0, n1, .inl g)))
    {sp dp n : Int32} (h1 : ¬ sp < 0) (h2 : ¬ dp < 0) (h3 : ¬ n < 0) (h4 : sp.toNatClampNeg + n.toNatClampNeg ≤ n0) (h5 : dp.toNatClampNeg + n.toNatClampNeg ≤ n1) (hlk : Cond.methodLink own i arraycopyName ∈ g_wk ∧ Cond.native arraycopyName ∈ g_wk ∧ Cond.static arraycopyName ∈ g_wk ∧ Cond.initialized "java/lang/System" ∈ g_wk)
    (hframes : 1 ≤ R.frames) (hlocals : (rest.map fun v => v.category).sum + (nativeFrameWords "java/lang/System" "arraycopy" 5 + 11) ≤ R.locals) (hdg : decode code pc = .ok (.invokestatic i, 3))
    (kk : ∀ (H1 : Heap) (locs1 : List Loc), g_Hp D b sz dA (σ.set a (.inl (0, n1, .inl (va_cpy f g sp.toNatClampNeg dp.toNatClampNeg n.toNatClampNeg)))) H1 → va_S (g_A sz) s.heap H1 locs1 → W p l e R s m args below meth c H1 locs1 cells slots Q (F0 m (pc + 3) lsA rest)) : W p l e R s m args below meth c H locs cells slots Q (F0 m pc lsA (.int n :: .int dp :: .ref (sz + a) :: .int sp :: .ref (sz + a0) :: rest)) := by
  have nn : ∀ z : Int32, ¬ z < 0 → z.toInt = (z.toNatClampNeg : Int) := by
    intro z hz
    have hz0 : (0 : Int) ≤ z.toInt := by
      have := Int32.not_lt.mp hz
      simpa using Int32.le_iff_toInt_le.mp this
    show z.toInt = ((z.toInt.toNat : Nat) : Int)
    omega
  intro T hT X
  have hc0 : H[sz + a0]? = some (vp_cell (dA 0) (n0, .inl f)) := hH.1 a0 _ (g_ws_at ha0)
  have hc1 : H[sz + a]? = some (vp_cell (dA 0) (n1, .inl g)) := hH.1 a _ (g_ws_at ha1)
  have hT0 := (hSt.1.2 0 _ (g_tys_at hSt (by decide))).1
  obtain ⟨-, k0, hk0, cm0, hkk0⟩ := hT0 n0 (fun j => .int (f j))
  obtain ⟨-, k1, hk1, cm1, hkk1⟩ := hT0 n1 (fun j => .int (g j))
  obtain ⟨vm', X', step⟩ := X.arraycopy hx hown (hts _ hlk.1) (hts _ hlk.2.1) (hts _ hlk.2.2.1) (hts _ hlk.2.2.2) (src := sz + a0) (dst := sz + a) (cs := vp_cell (dA 0) (n0, .inl f)) (cd := vp_cell (dA 0) (n1, .inl g)) (srcPos := sp) (destPos := dp) (n := n) (by rw [hT]; exact hc0) (by rw [hT]; exact hc1)
    (fun _ h => by cases h) (fun _ h => by cases h) (fun h => by cases h) (fun h => by cases h) hk0 hk1 hkk0 hkk1 (by rfl) h1 h2 h3
    (by rw [nn sp h1, nn n h3]; show ¬ _ > ((arrV (dA 0) n0 (fun j => .int (f j))).slots.size : Int); rw [arrV_size]; omega)
    (by rw [nn dp h2, nn n h3]; show ¬ _ > ((arrV (dA 0) n1 (fun j => .int (g j))).slots.size : Int); rw [arrV_size]; omega)
    (fun vm₁ _ i hi => by
      have e : (vp_cell (dA 0) (n0, .inl f)).slots.getD (sp.toNatClampNeg + i) .null = .int (f (sp.toNatClampNeg + i)) := by
        show (arrV (dA 0) n0 (fun j => .int (f j))).slots.getD _ _ = _
        rw [Array.getD_eq_getD_getElem?, arrV_read _ _ (by omega)]
        rfl
      refine ⟨?_, ?_⟩
      · rw [e]
        rfl
      · rw [e]
        exact trivial)
    (g := F0 m pc lsA (.int n :: .int dp :: .ref (sz + a) :: .int sp :: .ref (sz + a0) :: rest)) rfl (by rw [hml]) (rest := rest) rfl (by rw [hb]; exact hdg) hframes (by show 2 * 0 + _ + _ ≤ _; omega)
  have e1 : copied (vp_cell (dA 0) (n0, .inl f)) (vp_cell (dA 0) (n1, .inl g)) sp dp n = vp_cell (dA 0) (n1, .inl (va_cpy f g sp.toNatClampNeg dp.toNatClampNeg n.toNatClampNeg)) := va_copied (fun z => .int z) (dA 0) (dA 0) f g h4
  rw [e1] at X' step
  have hl : sz + a < H.size := (Array.getElem?_eq_some_iff.mp hc1).1
  have hheap : ((T.setVm vm').setCell (sz + a) (vp_cell (dA 0) (n1, .inl (va_cpy f g sp.toNatClampNeg dp.toNatClampNeg n.toNatClampNeg)))).heap = H.setIfInBounds (sz + a) (vp_cell (dA 0) (n1, .inl (va_cpy f g sp.toNatClampNeg dp.toNatClampNeg n.toNatClampNeg))) := by rw [← hT]; rfl
  have oq : ∀ q : Nat, q ≠ sz + a → (H.setIfInBounds (sz + a) (vp_cell (dA 0) (n1, .inl (va_cpy f g sp.toNatClampNeg dp.toNatClampNeg n.toNatClampNeg))))[q]? = H[q]? := fun q hq => by simp [Array.getElem?_setIfInBounds, Ne.symm hq]
  obtain ⟨t, a1, b1⟩ := kk _ _ (g_Hp_set hH ha1 (show (H.setIfInBounds (sz + a) _)[sz + a]? = some _ by simp [Array.getElem?_setIfInBounds, hl]) (by simp) oq) ⟨by simp; exact hS.1, fun q g1 g2 => by
      rw [oq q (fun e => g2 (by rw [e]; exact Nat.le_add_right sz a))]
      exact hS.2.1 q g1 g2, fun q hq => by
      rcases List.mem_append.mp hq with h | h
      · exact hS.2.2 q h
      · obtain ⟨z, -, hz⟩ := List.mem_map.mp h
        rw [← hz]
        exact Nat.le_add_right sz a⟩ _ hheap X'
  exact ⟨t, step t a1, b1⟩
end GH
end Prt06
section Prt07
theorem g_out_in {i : Int32} {n : Nat} (h : g_out i n = false) : vp_in i n := by
  unfold g_out at h
  exact of_decide_eq_false h
theorem g_rf_cv (b sz : Nat) (o : Option Nat) : va_rf (o.map (g_ad b sz)) = g_cv b sz (va_rf o) := by cases o <;> rfl
noncomputable def g_sw (ins : Instr) : Bool := match ins with
  | .tableswitch _ _ _ _ => true
  | .lookupswitch _ _ => true
  | _ => false
theorem g_stk_sw {ins : Instr} {z : Int} {st st' : List Value} (h : g_stk ins z st = some st') : g_sw ins = false := by
  unfold g_stk at h
  split at h <;> first | rfl | cases h
theorem g_lcl_sw {nL : Nat} {ins : Instr} {ls : g_Lc} {st : List Value} {q : g_Lc × List Value} (h : g_lcl nL ins ls st = some q) : g_sw ins = false := by
  unfold g_lcl at h
  split at h <;> first | rfl | cases h
theorem g_hp_sw {d L : Nat} {xs : Nat → Int32} {ins : Instr} {x y : Nat} {st : List Value} {σ : List g_Ce} {q : List Value × List g_Ce} (h : g_hp d L xs ins x y st σ = some q) : g_sw ins = false := by
  unfold g_hp at h
  split at h <;> first | rfl | cases h
noncomputable def g_grow (σ σ' : List g_Ce) : Prop := σ.length ≤ σ'.length ∧ g_sl σ ≤ g_sl σ'
theorem g_grow_rf (σ : List g_Ce) : g_grow σ σ := ⟨Nat.le_refl _, Nat.le_refl _⟩
theorem g_grow_tr {a b c : List g_Ce} (h1 : g_grow a b) (h2 : g_grow b c) : g_grow a c := ⟨Nat.le_trans h1.1 h2.1, Nat.le_trans h1.2 h2.2⟩
theorem g_grow_set {σ : List g_Ce} {k : Nat} {c0 c : g_Ce} (h : σ[k]? = some c0) (hz : g_sz c0 = g_sz c) : g_grow σ (σ.set k c) := ⟨by simp, by rw [g_sl_set σ k c0 c h hz]; exact Nat.le_refl _⟩
theorem g_grow_app (σ : List g_Ce) (c : g_Ce) : g_grow σ (σ ++ [c]) := ⟨by simp, by rw [g_sl_app]; omega⟩
section GP
variable {p : Program} {l : Launch} {e : Env} {R : Room} {s : State} {m : MethodId} {args : Array Value} {below : List Frame} {meth : Method} {c : Code} {H : Heap} {locs : List Loc} {cells slots : Nat} {Q : State → Prop}
variable {code : ByteArray} {pc len d nL L : Nat} {xs : Nat → Int32} {lsA : Array Slot} {ls ls' : g_Lc} {ins : Instr} {z : Int} {st st' : List Value} {b sz x y : Nat} {own : String} {D : va_G} {dA : Nat → ClassId} {σ : List g_Ce}
theorem g_same (hH : g_Hp D b sz dA σ H) (hS : va_S (g_A sz) s.heap H locs) {g : JFrame}
    (kk : ∀ (H1 : Heap) (locs1 : List Loc), g_Hp D b sz dA σ H1 → va_S (g_A sz) s.heap H1 locs1 → W p l e R s m args below meth c H1 locs1 (cells + (σ.length - σ.length)) (slots + (g_sl σ - g_sl σ)) Q g) : W p l e R s m args below meth c H locs cells slots Q g := by
  have h := kk H locs hH hS
  rw [Nat.sub_self, Nat.sub_self] at h
  exact h
theorem g_sets {k : Nat} {c0 c1 : g_Ce} (hk : σ[k]? = some c0) (hz : g_sz c0 = g_sz c1) {g : JFrame}
    (kk : ∀ (H1 : Heap) (locs1 : List Loc), g_Hp D b sz dA (σ.set k c1) H1 → va_S (g_A sz) s.heap H1 locs1 → W p l e R s m args below meth c H1 locs1 (cells + ((σ.set k c1).length - σ.length)) (slots + (g_sl (σ.set k c1) - g_sl σ)) Q g) :
    ∀ (H1 : Heap) (locs1 : List Loc), g_Hp D b sz dA (σ.set k c1) H1 → va_S (g_A sz) s.heap H1 locs1 → W p l e R s m args below meth c H1 locs1 cells slots Q g := by
  intro H1 locs1 h1 h2
  have h := kk H1 locs1 h1 h2
  rw [List.length_set, g_sl_set σ k c0 c1 hk hz, Nat.sub_self, Nat.sub_self] at h
  exact h
theorem g_apps {c1 : g_Ce} {g : JFrame}
    (kk : ∀ (H1 : Heap) (locs1 : List Loc), g_Hp D b sz dA (σ ++ [c1]) H1 → va_S (g_A sz) s.heap H1 locs1 → W p l e R s m args below meth c H1 locs1 (cells + ((σ ++ [c1]).length - σ.length)) (slots + (g_sl (σ ++ [c1]) - g_sl σ)) Q g) :
    ∀ (H1 : Heap) (locs1 : List Loc), g_Hp D b sz dA (σ ++ [c1]) H1 → va_S (g_A sz) s.heap H1 locs1 → W p l e R s m args below meth c H1 locs1 (cells + 1) (slots + g_sz c1) Q g := by
  intro H1 locs1 h1 h2
  have h := kk H1 locs1 h1 h2
  rw [g_sl_app, List.length_append, List.length_singleton, Nat.add_sub_cancel_left, Nat.add_sub_cancel_left] at h
  exact h
set_option maxHeartbeats 4000000 in
theorem g_hp_ok {q : List Value × List g_Ce} (hx : p.tables.exec = Jvm.exec) (hb : c.code = code) (hml : c.maxLocals = nL) (hlA : lsA.size = nL) (hown : s.vm.findClass own = some m.cls) (hts : ∀ w ∈ g_wk, w.before args s = true) (hcl : g_clsIn) (hSt : g_St D dA s) (hX : va_X b L xs s s.heap) (hbs : b < sz) (hsz : sz ≤ s.heap.size) (hH : g_Hp D b sz dA σ H) (hS : va_S (g_A sz) s.heap H locs) (hdg : decode code pc = .ok (ins, len)) (hlen : len = g_len ins) (hlk : g_lkh own meth.name x y ins)
    (hd1 : d ≤ R.frames) (hd2 : d * 64 ≤ R.locals) (h : g_hp d L xs ins x y st σ = some q) (hr1 : cells + (q.2.length - σ.length) ≤ R.cells) (hr2 : slots + (g_sl q.2 - g_sl σ) ≤ R.slots)
    (kk : ∀ (H1 : Heap) (locs1 : List Loc), g_Hp D b sz dA q.2 H1 → va_S (g_A sz) s.heap H1 locs1 → W p l e R s m args below meth c H1 locs1 (cells + (q.2.length - σ.length)) (slots + (g_sl q.2 - g_sl σ)) Q (F0 m (pc + len) lsA (q.1.map (g_cv b sz)))) : W p l e R s m args below meth c H locs cells slots Q (F0 m pc lsA (st.map (g_cv b sz))) ∧ g_grow σ q.2 := by
  subst hlen
  unfold g_hp at h
  split at h
  · unfold g_gf at h
    split at h
    · split at h
      · rename_i hσ
        simp only [cond_eq_ite, beq_iff_eq] at h
        split at h
        · rename_i hc
          split at h
          · rename_i hv
            cases h
            subst hc
            exact ⟨g_get_ok hx hb hown hts hcl hSt hH hσ hv hdg hlk (g_same hH hS kk), g_grow_rf σ⟩
          · cases h
        · cases h
      · cases h
    · cases h
  · unfold g_pf at h
    split at h
    · split at h
      · rename_i hσ
        split at h
        · rename_i hc
          cases h
          obtain ⟨rfl, h1, h2, h3⟩ := hc
          exact ⟨g_put_ok hx hb hown hts hcl hSt hH hS hσ h1 h2 h3 hdg hlk (g_sets hσ (by rfl) kk), g_grow_set hσ (by rfl)⟩
        · cases h
      · cases h
    · cases h
  · cases h
    have hr1' : cells + 1 ≤ R.cells := by simpa using hr1
    have hr2' : slots + g_nf x ≤ R.slots := by
      have := hr2
      rw [g_sl_app, Nat.add_sub_cancel_left] at this
      exact this
    exact ⟨g_new_ok hx hb hown hts hcl hSt hH hS hlk hdg hr1' hr2' (g_apps kk), g_grow_app _ _⟩
  · unfold g_na at h
    split at h
    · split at h
      · rename_i hk
        split at h
        · rename_i hc
          cases h
          have hr1' : cells + 1 ≤ R.cells := by simpa using hr1
          have hr2' := hr2
          rw [g_sl_app, Nat.add_sub_cancel_left] at hr2'
          exact ⟨g_newa_ok hx hb hts hSt hH hS hk hlk hdg hc.1 hc.2 hr1' hr2' (g_apps kk), g_grow_app _ _⟩
        · cases h
      · cases h
    · cases h
  · unfold g_an at h
    split at h
    · split at h
      · rename_i hc
        cases h
        have hr1' : cells + 1 ≤ R.cells := by simpa using hr1
        have hr2' := hr2
        rw [g_sl_app, Nat.add_sub_cancel_left] at hr2'
        exact ⟨g_newq_ok hx hb hown hts hSt hH hS hlk hdg hc.1 hc.2 hr1' hr2' (g_apps kk), g_grow_app _ _⟩
      · cases h
    · cases h
  · unfold g_al at h
    split at h
    · cases h
      exact ⟨va_slen (b := b) hx hb hX (Nat.lt_of_lt_of_le hbs hsz) (show ¬ sz ≤ b by omega) hS hdg (g_same hH hS kk), g_grow_rf σ⟩
    · split at h
      · rename_i hσ
        split at h
        · rename_i ht
          cases h
          rename_i fz
          refine ⟨?_, g_grow_rf σ⟩
          cases fz
          · exact va_alen hx hb hSt.1 hH.1 _ _ (g_ws_at hσ) (g_tys_at hSt ht) rfl hdg (g_same hH hS kk)
          · exact va_alen hx hb hSt.1 hH.1 _ _ (g_ws_at hσ) (g_tys_at hSt ht) rfl hdg (g_same hH hS kk)
        · cases h
      · cases h
    · cases h
  · unfold g_ia at h
    split at h
    · rename_i i r
      cases hg : g_out i L <;> simp [hg] at h
      subst h
      exact ⟨va_sld (b := b) hx hb hX (Nat.lt_of_lt_of_le hbs hsz) (show ¬ sz ≤ b by omega) hS (g_out_in hg) hdg (g_same hH hS kk), g_grow_rf σ⟩
    · rename_i i a r
      split at h
      · rename_i n f hσ
        cases hg : g_out i n <;> simp [hg] at h
        subst h
        exact ⟨va_iald hx hb hSt.1 hH.1 _ 0 (g_ws_at hσ) (g_tys_at hSt (by decide)) (g_out_in hg) hdg (g_same hH hS kk), g_grow_rf σ⟩
      · cases h
    · cases h
  · unfold g_ba at h
    split at h
    · rename_i i a r
      split at h
      · rename_i n f hσ
        cases hg : g_out i n <;> simp [hg] at h
        subst h
        exact ⟨va_bald hx hb hSt.1 hH.1 _ 1 (g_ws_at hσ) (g_tys_at hSt (by decide)) (g_out_in hg) hdg (g_same hH hS kk), g_grow_rf σ⟩
      · rename_i n f hσ
        cases hg : g_out i n <;> simp [hg] at h
        subst h
        exact ⟨va_zald hx hb hSt.1 hH.1 _ 2 (g_ws_at hσ) (g_tys_at hSt (by decide)) (g_out_in hg) hdg (g_same hH hS kk), g_grow_rf σ⟩
      · cases h
    · cases h
  · unfold g_aa at h
    split at h
    · rename_i i a r
      split at h
      · rename_i n f hσ
        cases hg : g_out i n <;> simp [hg] at h
        subst h
        refine ⟨va_aldq hx hb hSt.1 hH.1 _ 3 (g_ws_at hσ) (g_tys_at hSt (by decide)) (g_out_in hg) hdg ?_, g_grow_rf σ⟩
        have h9 := g_same hH hS kk
        rw [List.map_cons, ← g_rf_cv] at h9
        exact h9
      · cases h
    · cases h
  · unfold g_is at h
    split at h
    · rename_i v i a r
      split at h
      · rename_i n f hσ
        cases hg : g_out i n <;> simp [hg] at h
        subst h
        exact ⟨g_iast_ok hx hb hSt hH hS hσ (g_out_in hg) hdg (g_sets hσ (by rfl) kk), g_grow_set hσ (by rfl)⟩
      · cases h
    · cases h
  · unfold g_bs at h
    split at h
    · rename_i v i a r
      split at h
      · rename_i n f hσ
        cases hg : g_out i n <;> simp [hg] at h
        subst h
        exact ⟨g_bast_ok hx hb hSt hH hS hσ (g_out_in hg) hdg (g_sets hσ (by rfl) kk), g_grow_set hσ (by rfl)⟩
      · rename_i n f hσ
        cases hg : g_out i n <;> simp [hg] at h
        subst h
        exact ⟨g_zast_ok hx hb hSt hH hS hσ (g_out_in hg) hdg (g_sets hσ (by rfl) kk), g_grow_set hσ (by rfl)⟩
      · cases h
    · cases h
  · unfold g_as at h
    split at h
    · rename_i v i a r
      split at h
      · rename_i n f hσ
        split at h
        · rename_i vs hv
          cases hg : g_out i n <;> simp [hg] at h
          subst h
          exact ⟨g_aast_ok hx hb hSt hH hS hσ hv (g_out_in hg) hdg (g_sets hσ (by rfl) kk), g_grow_set hσ (by rfl)⟩
        · cases h
      · cases h
    · cases h
  · have hct : ∀ r : List Value, ((r.map (g_cv b sz)).map fun v => v.category).sum = g_cat r := by
      intro r
      simp only [g_cat, List.map_map]
      congr 2
      funext v
      exact g_cv_cat b sz v
    unfold g_nv at h
    simp only [cond_eq_ite, beq_iff_eq] at h
    split at h
    · rename_i hc
      unfold g_cp at h
      split at h
      · split at h
        · rename_i hσ0
          split at h
          · rename_i hσ1
            split at h
            · rename_i hq
              obtain ⟨h1, h2, h3, h4, h5, h6, h7⟩ := hq
              cases h
              refine ⟨g_copy_ok hx hb (hml.trans hlA.symm) hown hts hSt hH hS hσ0 hσ1 h1 h2 h3 h4 h5 (hlk.1 hc) (by omega) ?_ hdg (g_sets hσ1 (by rfl) kk), g_grow_set hσ1 (by rfl)⟩
              rw [hct]
              have e2 : nativeFrameWords "java/lang/System" "arraycopy" 5 = 7 := by decide +kernel
              rw [e2]
              have : 64 ≤ d * 64 := by omega
              omega
            · cases h
          · cases h
        · cases h
      · cases h
    · split at h
      · rename_i hc
        unfold g_m2 at h
        split at h
        · split at h
          · rename_i hq
            cases h
            obtain ⟨w1, w2, -, -⟩ := hlk.2 (Or.inl hc)
            obtain ⟨u1, u2, u3⟩ := w2 hc
            have j1 : 64 ≤ d * 64 := by omega
            have j2 : 1 ≤ R.frames := by omega
            have j3 : cells ≤ R.cells := by omega
            have j4 : slots ≤ R.slots := by omega
            refine ⟨va_mmax hx hb (hml.trans hlA.symm) hown (hts _ u1) (hts _ u2) (hts _ w1) (hts _ u3) j2 ?_ j3 j4 hdg (g_same hH hS kk), g_grow_rf σ⟩
            rw [hct]
            omega
          · cases h
        · cases h
      · split at h
        · rename_i hc
          unfold g_m2 at h
          split at h
          · split at h
            · rename_i hq
              cases h
              obtain ⟨w1, -, w2, -⟩ := hlk.2 (Or.inr (Or.inl hc))
              obtain ⟨u1, u2, u3⟩ := w2 hc
              have j1 : 64 ≤ d * 64 := by omega
              have j2 : 1 ≤ R.frames := by omega
              have j3 : cells ≤ R.cells := by omega
              have j4 : slots ≤ R.slots := by omega
              refine ⟨va_mmin hx hb (hml.trans hlA.symm) hown (hts _ u1) (hts _ u2) (hts _ w1) (hts _ u3) j2 ?_ j3 j4 hdg (g_same hH hS kk), g_grow_rf σ⟩
              rw [hct]
              omega
            · cases h
          · cases h
        · split at h
          · rename_i hc
            unfold g_m1 at h
            split at h
            · split at h
              · rename_i hq
                cases h
                obtain ⟨w1, -, -, w2⟩ := hlk.2 (Or.inr (Or.inr hc))
                obtain ⟨u1, u2, u3⟩ := w2 hc
                have j1 : 64 ≤ d * 64 := by omega
                have j2 : 1 ≤ R.frames := by omega
                have j3 : cells ≤ R.cells := by omega
                have j4 : slots ≤ R.slots := by omega
                refine ⟨va_mabs hx hb (hml.trans hlA.symm) hown (hts _ u1) (hts _ u2) (hts _ w1) (hts _ u3) j2 ?_ j3 j4 hdg (g_same hH hS kk), g_grow_rf σ⟩
                rw [hct]
                omega
              · cases h
            · cases h
          · cases h
  · cases h
end GP
end Prt07
section Prt08
set_option maxHeartbeats 2000000 in
theorem g_hp_grow {d L : Nat} {xs : Nat → Int32} {ins : Instr} {x y : Nat} {st : List Value} {σ : List g_Ce} {q : List Value × List g_Ce} (h : g_hp d L xs ins x y st σ = some q) : g_grow σ q.2 := by
  unfold g_hp at h
  split at h
  · unfold g_gf at h
    repeat' split at h
    all_goals first | (cases h; done) | skip
    all_goals (simp only [cond_eq_ite] at h; split at h <;> first | (cases h; done) | (cases h; exact g_grow_rf σ))
  · unfold g_pf at h
    repeat' split at h
    all_goals first | (cases h; done) | skip
    rename_i hσ _
    cases h
    exact g_grow_set hσ (by rfl)
  · cases h; exact g_grow_app _ _
  · unfold g_na at h
    repeat' split at h
    all_goals first | (cases h; done) | (cases h; exact g_grow_app _ _)
  · unfold g_an at h
    repeat' split at h
    all_goals first | (cases h; done) | (cases h; exact g_grow_app _ _)
  · unfold g_al at h
    repeat' split at h
    all_goals first | (cases h; done) | (cases h; exact g_grow_rf _)
  · unfold g_ia at h
    repeat' split at h
    all_goals first | (cases h; done) | (simp only [cond_eq_ite] at h; split at h <;> first | (cases h; done) | (cases h; exact g_grow_rf _))
  · unfold g_ba at h
    repeat' split at h
    all_goals first | (cases h; done) | (simp only [cond_eq_ite] at h; split at h <;> first | (cases h; done) | (cases h; exact g_grow_rf _))
  · unfold g_aa at h
    repeat' split at h
    all_goals first | (cases h; done) | (simp only [cond_eq_ite] at h; split at h <;> first | (cases h; done) | (cases h; exact g_grow_rf _))
  · unfold g_is at h
    repeat' split at h
    all_goals first | (cases h; done) | (simp only [cond_eq_ite] at h; split at h <;> first | (cases h; done) | (cases h; exact g_grow_set (by assumption) (by rfl)))
  · unfold g_bs at h
    repeat' split at h
    all_goals first | (cases h; done) | (simp only [cond_eq_ite] at h; split at h <;> first | (cases h; done) | (cases h; exact g_grow_set (by assumption) (by rfl)))
  · unfold g_as at h
    repeat' split at h
    all_goals first | (cases h; done) | (simp only [cond_eq_ite] at h; split at h <;> first | (cases h; done) | (cases h; exact g_grow_set (by assumption) (by rfl)))
  · unfold g_nv at h
    simp only [cond_eq_ite] at h
    split at h
    · unfold g_cp at h
      repeat' split at h
      all_goals first | (cases h; done) | skip
      cases h
      exact g_grow_set (by assumption) (by rfl)
    · split at h
      · unfold g_m2 at h
        repeat' split at h
        all_goals first | (cases h; done) | (cases h; exact g_grow_rf _)
      · split at h
        · unfold g_m2 at h
          repeat' split at h
          all_goals first | (cases h; done) | (cases h; exact g_grow_rf _)
        · split at h
          · unfold g_m1 at h
            repeat' split at h
            all_goals first | (cases h; done) | (cases h; exact g_grow_rf _)
          · cases h
  · cases h
theorem g_step_grow {d nL L : Nat} {xs : Nat → Int32} {en : g_En} {pc : Nat} {ls : g_Lc} {st : List Value} {σ : List g_Ce} {q : Nat × g_Lc × List Value × List g_Ce} (h : g_step d nL L xs en pc ls st σ = some q) : g_grow σ q.2.2.2 := by
  unfold g_step at h
  split at h
  · cases h; exact g_grow_rf σ
  · split at h
    · cases h; exact g_grow_rf σ
    · split at h
      · cases h; exact g_grow_rf σ
      · split at h
        · rename_i h2
          cases h
          exact g_hp_grow h2
        · cases h
set_option maxHeartbeats 2000000 in
theorem g_run_grow (mt : Nat → Option g_M) (L : Nat) (xs : Nat → Int32) : ∀ (n d : Nat) (M : g_M) (pc : Nat) (ls : g_Lc) (st : List Value) (σ : List g_Ce) (r : Option Value × List g_Ce), g_run mt L xs n d M pc ls st σ = some r → g_grow σ r.2 := by
  intro n
  induction n with
  | zero => intro d M pc ls st σ r h; simp [g_run] at h
  | succ n ih =>
    intro d M pc ls st σ r h
    unfold g_run at h
    split at h
    · split at h
      · exact ih _ _ _ _ _ _ _ h
      · cases h
    · split at h
      · rename_i hs
        exact g_grow_tr (g_step_grow hs) (ih _ _ _ _ _ _ _ h)
      · split at h
        · cases h; exact g_grow_rf σ
        · split at h
          · cases h
          · split at h
            · cases h
            · simp only [cond_eq_ite] at h
              split at h
              · split at h
                · exact ih _ _ _ _ _ _ _ h
                · cases h
              · split at h
                · cases h
                · split at h
                  · cases h
                  · split at h
                    · split at h
                      · cases h
                      · rename_i hw
                        exact g_grow_tr (ih _ _ _ _ _ _ _ hw) (ih _ _ _ _ _ _ _ h)
                    · cases h
noncomputable def g_lkc0 (own : String) (i : Nat) (M' : g_M) (y : Nat) : Prop := (Cond.methodLink own i M'.2.1 ∈ g_wk ∨ ∃ h, Cond.methodLinkNest own i M'.2.1 h ∈ g_wn) ∧ Cond.initialized M'.2.1.cls ∈ g_wk ∧ (M'.2.1.cls ≠ "java/lang/invoke/MethodHandle" ∧ M'.2.1.cls ≠ "java/lang/invoke/VarHandle" ∧ (parseMethodDescriptor M'.2.1.desc).map (fun d => d.parameters.length) = some y)
noncomputable def g_lkc (mt : Nat → Option g_M) (own : String) (x y : Nat) (ins : Instr) : Prop := match ins with
  | .invokestatic i => ∀ M', mt x = some M' → g_lkc0 own i M' y ∧ Cond.static M'.2.1 ∈ g_wk
  | .invokevirtual i => ∀ M', mt x = some M' → g_lkc0 own i M' y ∧ Cond.instanceMethod M'.2.1 ∈ g_wk ∧ Cond.selects M'.2.1.cls M'.2.1 M'.2.1 ∈ g_wk
  | .invokespecial i => (x = 99999 → Cond.methodLink own i objectInit ∈ g_wk ∧ Cond.instanceMethod objectInit ∈ g_wk ∧ Cond.code objectInit ⟨#[0xb1]⟩ 1 none ∈ g_wk) ∧ ∀ M', mt x = some M' → g_lkc0 own i M' y ∧ M'.2.1.name = "<init>" ∧ Cond.instanceMethod M'.2.1 ∈ g_wk ∧ M'.2.2.2.2.1 = none
  | _ => True
noncomputable def g_eOk (mt : Nat → Option g_M) (M : g_M) (pc : Nat) (en : g_En) : Prop := decode M.2.2.1 pc = .ok en.1 ∧ (g_sw en.1.1 = false → en.1.2 = g_len en.1.1) ∧ g_kst M.1 en.2.2.2 en.1.1 ∧ (∀ off, g_off en.1.1 = some off → (pc : Int) + off = (en.2.1 : Int)) ∧ g_lkh M.1 M.2.1.name en.2.1 en.2.2.1 en.1.1 ∧ g_lkc mt M.1 en.2.1 en.2.2.1 en.1.1
noncomputable def g_Mok (mt : Nat → Option g_M) (M : g_M) : Prop := plainName M.2.1.cls = true ∧ M.2.2.2.1 ≤ 45 ∧ Cond.code M.2.1 M.2.2.1 M.2.2.2.1 M.2.2.2.2.1 ∈ g_wk ∧ M.2.1.cls = M.1 ∧ ∀ pc en, M.2.2.2.2.2 pc = some en → g_eOk mt M pc en
noncomputable def g_Fx (M : g_M) (D : va_G) (b sz : Nat) (dA : Nat → ClassId) (L : Nat) (xs : Nat → Int32) (p : Program) (s : State) (m : MethodId) (args : Array Value) (meth : Method) (c : Code) : Prop :=
  p.tables.exec = Jvm.exec ∧ c.code = M.2.2.1 ∧ c.maxLocals = M.2.2.2.1 ∧ s.vm.findClass M.1 = some m.cls ∧ (∀ w ∈ g_wk, w.before args s = true) ∧ g_St D dA s ∧ va_X b L xs s s.heap ∧ b < sz ∧ sz ≤ s.heap.size ∧ ((M.2.1.name = "<init>" → meth.name = "<init>") ∧ g_Str sz s)
theorem g_lkh_mn {own m1 m2 : String} (hm : m1 = "<init>" → m2 = "<init>") {x y : Nat} {ins : Instr} (h : g_lkh own m1 x y ins) : g_lkh own m2 x y ins := by
  unfold g_lkh at h ⊢
  split at h
  · exact h
  · obtain ⟨C, T, N, h1, h2, h3, h4⟩ := h
    exact ⟨C, T, N, h1, h2, h3, h4.imp id (fun ⟨a1, a2, a3, a4⟩ => ⟨a1, hm a2, a3, a4⟩)⟩
  · exact h
  · exact h
  · exact h
  · exact h
  · trivial
theorem g_off_len {ins : Instr} {off : Int} (h : g_off ins = some off) : g_sw ins = false ∧ g_len ins = 3 := by
  unfold g_off at h
  split at h <;> first | exact ⟨rfl, rfl⟩ | cases h
section GB
variable {p : Program} {l : Launch} {e : Env} {R : Room} {s : State} {m : MethodId} {args : Array Value} {below : List Frame} {meth : Method} {c : Code} {H : Heap} {locs : List Loc} {cells slots : Nat} {Q : State → Prop}
variable {mt : Nat → Option g_M} {M : g_M} {pc d L : Nat} {xs : Nat → Int32} {lsA : Array Slot} {ls : g_Lc} {st : List Value} {b sz : Nat} {D : va_G} {dA : Nat → ClassId} {σ : List g_Ce} {en : g_En}
set_option maxHeartbeats 2000000 in
theorem g_step_ok {q : Nat × g_Lc × List Value × List g_Ce} (hcl : g_clsIn) (hF : g_Fx M D b sz dA L xs p s m args meth c) (hE : g_eOk mt M pc en) (hl : lv_has lsA M.2.2.2.1 (g_cl2 b sz ls)) (hH : g_Hp D b sz dA σ H) (hS : va_S (g_A sz) s.heap H locs) (hd1 : d ≤ R.frames) (hd2 : d * 64 ≤ R.locals) (h : g_step d M.2.2.2.1 L xs en pc ls st σ = some q) (hr1 : cells + (q.2.2.2.length - σ.length) ≤ R.cells) (hr2 : slots + (g_sl q.2.2.2 - g_sl σ) ≤ R.slots)
    (kk : ∀ (lsB : Array Slot) (H1 : Heap) (locs1 : List Loc), lv_has lsB M.2.2.2.1 (g_cl2 b sz q.2.1) → g_Hp D b sz dA q.2.2.2 H1 → va_S (g_A sz) s.heap H1 locs1 → W p l e R s m args below meth c H1 locs1 (cells + (q.2.2.2.length - σ.length)) (slots + (g_sl q.2.2.2 - g_sl σ)) Q (F0 m q.1 lsB (q.2.2.1.map (g_cv b sz)))) : W p l e R s m args below meth c H locs cells slots Q (F0 m pc lsA (st.map (g_cv b sz))) := by
  obtain ⟨hx, hb, hml, hown, hts, hSt, hX, hbs, hsz, hnm, -⟩ := hF
  obtain ⟨e1, e2, e3, e4, e5, -⟩ := hE
  obtain ⟨⟨ins, len⟩, x, y, z⟩ := en
  dsimp only at e1 e2 e3 e4 e5
  unfold g_step at h
  dsimp only at h
  split at h
  · rename_i h1
    cases h
    exact g_stk_ok hx hb hown hts e1 (e2 (g_stk_sw h1)) e3 h1 (g_same hH hS (fun H1 locs1 h2 h3 => kk lsA H1 locs1 hl h2 h3))
  · split at h
    · rename_i q1 h1
      cases h
      exact g_lcl_ok hx hb e1 (e2 (g_lcl_sw h1)) hl h1 (fun lsB hB => g_same hH hS (fun H1 locs1 h2 h3 => kk lsB H1 locs1 hB h2 h3))
    · split at h
      · rename_i q1 h1
        cases h
        exact g_jmp_ok hx hb e1 (fun off ho => by rw [e2 (g_off_len ho).1, (g_off_len ho).2]) e4 h1 (g_same hH hS (fun H1 locs1 h2 h3 => kk lsA H1 locs1 hl h2 h3))
      · split at h
        · rename_i q1 h1
          cases h
          exact (g_hp_ok hx hb hml hl.1 hown hts hcl hSt hX hbs hsz hH hS e1 (e2 (g_hp_sw h1)) (g_lkh_mn hnm e5) hd1 hd2 h1 hr1 hr2 (fun H1 locs1 h2 h3 => kk lsA H1 locs1 hl h2 h3)).1
        · cases h
end GB
end Prt08
section Prt09
noncomputable def g_rmd (d mc ms : Nat) : Room := { frames := d, cells := mc, slots := ms, locals := d * 64 }
noncomputable def g_wsM (M : g_M) : List Cond := Cond.code M.2.1 M.2.2.1 M.2.2.2.1 M.2.2.2.2.1 :: g_wk
noncomputable def g_Pc (D : va_G) (b sz : Nat) (dA : Nat → ClassId) (L : Nat) (xs : Nat → Int32) (as : List Value) (σ : List g_Ce) : Array Value → State → Prop := va_Pc (as.map (g_cv b sz)) (fun U => g_Hp D b sz dA σ U.heap ∧ g_St D dA U ∧ va_X b L xs U U.heap ∧ g_Str sz U)
noncomputable def g_Qc (D : va_G) (b sz : Nat) (dA : Nat → ClassId) (r : Option Value) (σ : List g_Ce) : Array Value → State → Outcome → State → Prop := fun _ st oc t => oc = .returned (r.map (g_cv b sz)) ∧ g_Hp D b sz dA σ t.heap ∧ va_F (g_A sz) st t
theorem g_lvargs (b sz : Nat) : ∀ (as : List Value) (i : Nat), lv_args i (as.map (g_cv b sz)) = g_cl2 b sz (lv_args i as)
  | [], _ => rfl
  | v :: vs, i => by
    show (i, g_cv b sz v) :: lv_args (if (g_cv b sz v).category = 2 then i + 2 else i + 1) (vs.map (g_cv b sz)) = (i, g_cv b sz v) :: g_cl2 b sz (lv_args (if v.category = 2 then i + 2 else i + 1) vs)
    rw [g_cv_cat, g_lvargs b sz vs]
theorem g_lgsl (b sz : Nat) : ∀ (as : List Value), (lg_sl (as.map (g_cv b sz))).length = (lg_sl as).length
  | [] => rfl
  | v :: vs => by
    have h := g_lgsl b sz vs
    simp only [lg_sl, List.map_cons, List.flatMap_cons, List.length_append, g_cv_cat] at h ⊢
    rw [h]
    split <;> rfl
theorem g_catcv (b sz : Nat) (r : List Value) : ((r.map (g_cv b sz)).map fun v => v.category).sum = g_cat r := by
  simp only [g_cat, List.map_map]
  congr 2
  funext v
  exact g_cv_cat b sz v
theorem g_good (M : g_M) (h : Cond.code M.2.1 M.2.2.1 M.2.2.2.1 M.2.2.2.2.1 ∈ g_wk) : GoodIn g_wk (g_wsM M) := by
  have k : ∀ w ∈ g_wk, w ∈ g_wk ∧ ((w.onTables && w.keeps) = true ∨ ∃ ty, w = .arrayClass ty) := fun w hw => ⟨hw, good_of_word (List.mem_filter.mp hw).2⟩
  intro w hw
  rcases List.mem_cons.mp hw with rfl | hw
  · exact k _ h
  · exact k w hw
section GC
variable {p : Program} {l : Launch} {e : Env} {R : Room} {s : State} {m : MethodId} {args : Array Value} {below : List Frame} {meth : Method} {c : Code} {H : Heap} {locs : List Loc} {cells slots : Nat} {Q : State → Prop}
variable {mt : Nat → Option g_M} {M : g_M} {pc d L : Nat} {xs : Nat → Int32} {lsA : Array Slot} {b sz : Nat} {D : va_G} {dA : Nat → ClassId} {σ : List g_Ce}
theorem g_callW {r : Option Value} {σ' : List g_Ce} {a : Array Value} {mc ms : Nat} {st0 rest : List Value} (hr : va_Run p l e R s m args below meth c H locs cells slots mc ms (F0 m pc lsA st0) rest (g_Qc D b sz dA r σ' a) (g_A sz)) (hS : va_S (g_A sz) s.heap H locs)
    (kk : ∀ (H1 : Heap) (locs1 : List Loc), g_Hp D b sz dA σ' H1 → va_S (g_A sz) s.heap H1 locs1 → W p l e R s m args below meth c H1 locs1 (cells + mc) (slots + ms) Q (F0 m (pc + 3) lsA ((r.map (g_cv b sz)).toList ++ rest))) : W p l e R s m args below meth c H locs cells slots Q (F0 m pc lsA st0) := by
  intro T hT X
  obtain ⟨v, st₀, t, T', L, h0, X', hL, e1, e2, ⟨hv, hp, hz, hk⟩, st⟩ := hr T hT X
  cases hv
  rw [h0] at hz hk
  obtain ⟨t2, a1, b1⟩ := kk T'.heap (locs ++ L) (by rw [e1]; exact hp)
    ⟨Nat.le_trans hS.1 (by rw [e1]; exact hz), fun q h1 h2 => by rw [e1, hk q (Nat.lt_of_lt_of_le h1 hS.1) h2]; exact hS.2.1 q h1 h2, fun q hq => by
      rcases List.mem_append.mp hq with h | h
      · exact hS.2.2 q h
      · exact hL q h⟩ T' rfl X'
  exact ⟨t2, st t2 a1, b1⟩
theorem g_X_moved {U : State} (hX : va_X b L xs s s.heap) (hbs : b < sz) (hsz : sz ≤ s.heap.size) (hS : va_S (g_A sz) s.heap H locs) (hU : U.heap = H) (hW : s.WarmedH U.vm) : va_X b L xs U U.heap := by
  obtain ⟨scr, h1, h2, h3, h4, h5⟩ := hX
  exact ⟨scr, by rw [hU, hS.2.1 b (Nat.lt_of_lt_of_le hbs hsz) (show ¬ sz ≤ b by omega)]; exact h1, State.isArrayOf_alike hW.alike h2, h3, h4, h5⟩
theorem g_blind (as : List Value) (σ : List g_Ce) : FrameBlind (g_Pc D b sz dA L xs as σ) := by
  intro a U g mk q
  obtain ⟨q0, q1, ⟨q2, q3, q4⟩, q5, q6⟩ := q
  refine ⟨q0, q1, ⟨va_K.moved (u := U) (U := U.calling g mk a) (Vm.Alike.refl U.vm) q2, g_Nw_same (s := U) (U := U.calling g mk a) rfl q3, va_AO.moved (u := U) (U := U.calling g mk a) (Vm.Alike.refl U.vm) q4⟩, ?_, g_Str_same (s := U) (U := U.calling g mk a) q6 rfl rfl⟩
  obtain ⟨scr, h1, h2, h3, h4, h5⟩ := q5
  exact ⟨scr, h1, State.isArrayOf_alike (s := U) (T := U.calling g mk a) (Vm.Alike.refl U.vm) h2, h3, h4, h5⟩
theorem g_preS {as : List Value} (hSt : g_St D dA s) (hX : va_X b L xs s s.heap) (hbs : b < sz) (hsz : sz ≤ s.heap.size) (hStr : g_Str sz s) (hH : g_Hp D b sz dA σ H) (hS : va_S (g_A sz) s.heap H locs) : PreS s H (g_Pc D b sz dA L xs as σ) (as.map (g_cv b sz)) :=
  ⟨g_blind as σ, fun U hU hW => ⟨rfl, by rw [hU]; exact hH, g_St_warm hW hSt, g_X_moved hX hbs hsz hS hU hW, g_Str_mv hStr hS hU hW⟩⟩
end GC
end Prt09
section Prt09b
/-! String.indexOf(I) over the one constant: the JDK's own rows -/
theorem j_in3 {w : Cond} {j : Nat} (h1 : tables_1_3[j]? = some w) (h2 : goodWord w = true) : w ∈ g_wk := List.mem_filter.mpr ⟨by
  unfold lw_tbl tables_1
  exact List.mem_append_right _ (List.mem_append_right _ (List.mem_append_right _ (List.mem_append_left _ (List.mem_of_getElem? h1)))), h2⟩
theorem j_in1 {w : Cond} {j : Nat} (h1 : tables_1_1[j]? = some w) (h2 : goodWord w = true) : w ∈ g_wk := List.mem_filter.mpr ⟨by
  unfold lw_tbl tables_1
  exact List.mem_append_right _ (List.mem_append_left _ (List.mem_of_getElem? h1)), h2⟩
theorem j_in9 {w : Cond} {j : Nat} (h1 : tables_1_9[j]? = some w) (h2 : goodWord w = true) : w ∈ g_wk := List.mem_filter.mpr ⟨by
  unfold lw_tbl tables_1
  exact List.mem_append_right _ (List.mem_append_right _ (List.mem_append_right _ (List.mem_append_right _ (List.mem_append_right _ (List.mem_append_right _ (List.mem_append_right _ (List.mem_append_right _ (List.mem_append_right _ (List.mem_of_getElem? h1))))))))), h2⟩
noncomputable def j_ws (y : MethodName) (cc : ByteArray) (n : Nat) (ret : Option FieldType) : List Cond := Cond.code y cc n ret :: g_wk
theorem j_good {y : MethodName} {cc : ByteArray} {n : Nat} {ret : Option FieldType} (h : Cond.code y cc n ret ∈ g_wk) : GoodIn g_wk (j_ws y cc n ret) := by
  have k : ∀ w ∈ g_wk, w ∈ g_wk ∧ ((w.onTables && w.keeps) = true ∨ ∃ ty, w = .arrayClass ty) := fun w hw => ⟨hw, good_of_word (List.mem_filter.mp hw).2⟩
  intro w hw
  rcases List.mem_cons.mp hw with rfl | hw
  · exact k _ h
  · exact k w hw
noncomputable def j_Pc (sz kA vA : Nat) (as : List Value) : Array Value → State → Prop := va_Pc as (fun U => j_B sz kA vA U)
noncomputable def j_Qc (v : Int32) : Array Value → State → Outcome → State → Prop := fun _ st oc t => oc = .returned (some (.int v)) ∧ t.heap = st.heap
theorem j_blind (sz kA vA : Nat) (as : List Value) : FrameBlind (j_Pc sz kA vA as) := fun a U g mk q => ⟨q.1, j_B_same (s := U) (U := U.calling g mk a) q.2 rfl rfl⟩
section JC
variable {p : Program} {l : Launch} {e : Env} {R : Room} {s : State} {m : MethodId} {args : Array Value} {below : List Frame} {meth : Method} {c : Code} {H : Heap} {locs : List Loc} {cells slots : Nat} {Q : State → Prop}
theorem j_pre {sz kA vA : Nat} {as : List Value} (hJ : j_B sz kA vA s) (hS : va_S (g_A sz) s.heap H locs) : PreS s H (j_Pc sz kA vA as) as := ⟨j_blind sz kA vA as, fun U hU hW => ⟨rfl, j_B_mv hJ hS hU hW.alike⟩⟩
theorem j_preV {sz kA vA : Nat} {as : List Value} (hJ : j_B sz kA vA s) (hS : va_S (g_A sz) s.heap H locs) : PreV s H "java/lang/String" kA (j_Pc sz kA vA (.ref kA :: as)) as := by
  refine ⟨j_blind sz kA vA _, ?_, (j_pre hJ hS).2⟩
  obtain ⟨cell, h1, h2, h3, -⟩ := hJ.1.kept hS.2.1
  exact ⟨cell, h1, h2, h3⟩
theorem j_callW {v : Int32} {a : Array Value} {pc sz : Nat} {lsA : Array Slot} {st0 rest : List Value} (hr : va_Run p l e R s m args below meth c H locs cells slots 0 0 (F0 m pc lsA st0) rest (j_Qc v a) (g_A sz)) (hS : va_S (g_A sz) s.heap H locs)
    (kk : ∀ locs1 : List Loc, va_S (g_A sz) s.heap H locs1 → W p l e R s m args below meth c H locs1 cells slots Q (F0 m (pc + 3) lsA (.int v :: rest))) : W p l e R s m args below meth c H locs cells slots Q (F0 m pc lsA st0) := by
  intro T hT X
  obtain ⟨v', st₀, t, T', L, h0, X', hL, e1, e2, ⟨hv, hp⟩, st⟩ := hr T hT X
  cases hv
  have hH : T'.heap = H := by rw [e1, hp, h0]
  obtain ⟨t2, a1, b1⟩ := kk (locs ++ L) ⟨hS.1, hS.2.1, fun q hq => by
      rcases List.mem_append.mp hq with h | h
      · exact hS.2.2 q h
      · exact hL q h⟩ T' hH X'
  exact ⟨t2, st t2 a1, b1⟩
end JC
set_option maxHeartbeats 1000000 in
theorem j_isLatin1 {l : Launch} {sz kA vA : Nat} : Met l yJ0_isLatin1_aae02 (j_ws yJ0_isLatin1_aae02 cJ0_isLatin1_aae02 1 (some .boolean)) (g_rmd 0 0 0) (j_Pc sz kA vA [.ref kA]) (j_Qc 1) 0 0 (g_A sz) := by
  refine Met.ofW (cc := cJ0_isLatin1_aae02) (maxL := 1) (ret := some .boolean) (by decide) rfl ?_
  intro p e s m args below meth c s₁ B hml hv
  obtain ⟨rfl, hJ⟩ := hv
  have hts0 := atoms_spec (ws := j_ws yJ0_isLatin1_aae02 cJ0_isLatin1_aae02 1 (some .boolean)) B.pre
  have hts : ∀ w ∈ g_wk, w.before ([.ref kA] : List Value).toArray s = true := fun w hw => hts0 w (List.mem_cons_of_mem _ hw)
  have hown : s.vm.findClass RJ0 = some m.cls := findClass_of_methodNamed B.named
  have hl := lv_entry ([.ref kA] : List Value) (n := 1) (Nat.le_of_ble_eq_true rfl)
  rw [lg_entry_eq]
  generalize (lg_sl [.ref kA] ++ List.replicate (1 - (lg_sl [.ref kA]).length) Slot.unset).toArray = ls at hl ⊢
  have hl : lv_has ls 1 (lv_args 0 [.ref kA]) := hl
  have hCF : CallFix p m c cJ0_isLatin1_aae02 1 s ([.ref kA] : List Value).toArray g_wk RJ0 := ⟨B.exec, B.bytes, hml, hown, hts⟩
  have hS : va_S (g_A sz) s.heap s.heap [] := va_S.rf
  refine va_gets B.exec B.bytes hJ.2.2.2.2 hS hown (hts _ (j_in3 (j := 133) rfl rfl)) (fun _ h => h) (show decode cJ0_isLatin1_aae02 0 = .ok (.getstatic 38, 3) by decide +kernel) ?_
  refine lv_if_eq B.exec B.bytes (show decode cJ0_isLatin1_aae02 3 = .ok (.ifCond .eq 14, 3) by decide +kernel) (tgt := 17) rfl (fun h => ?_) (fun h => ?_)
  · exact absurd h (by decide)
  · skip
    refine lv_aload_n B.exec B.bytes (show decode cJ0_isLatin1_aae02 6 = .ok (.aload_n 0, 1) by decide +kernel) rfl (lv_at hl 0 rfl) ?_
    refine vk_getf B.exec B.bytes hJ.2.1 hS hown (hts _ (j_in9 (j := 204) rfl rfl)) (fun _ h => h) (show decode cJ0_isLatin1_aae02 7 = .ok (.getfield 15, 3) by decide +kernel) ?_
    refine lv_if_ne B.exec B.bytes (show decode cJ0_isLatin1_aae02 10 = .ok (.ifCond .ne 7, 3) by decide +kernel) (tgt := 17) rfl (fun h => ?_) (fun h => ?_)
    · exact absurd rfl h
    · skip
      refine lv_iconst B.exec B.bytes (show decode cJ0_isLatin1_aae02 13 = .ok (.iconst 1, 1) by decide +kernel) rfl ?_
      refine lv_goto B.exec B.bytes (show decode cJ0_isLatin1_aae02 14 = .ok (.goto 4, 3) by decide +kernel) (tgt := 18) rfl ?_
      exact W.zret B.exec B.bytes B.returns rfl (fun t ht hW => ⟨rfl, ht⟩) hS.2.2 (show decode cJ0_isLatin1_aae02 18 = .ok (.ireturn, 1) by decide +kernel) B.notSynchronized
set_option maxHeartbeats 1000000 in
theorem j_coder {l : Launch} {sz kA vA : Nat} : Met l yJ0_coder_7d493 (j_ws yJ0_coder_7d493 cJ0_coder_7d493 1 (some .byte)) (g_rmd 0 0 0) (j_Pc sz kA vA [.ref kA]) (j_Qc 0) 0 0 (g_A sz) := by
  refine Met.ofW (cc := cJ0_coder_7d493) (maxL := 1) (ret := some .byte) (by decide) rfl ?_
  intro p e s m args below meth c s₁ B hml hv
  obtain ⟨rfl, hJ⟩ := hv
  have hts0 := atoms_spec (ws := j_ws yJ0_coder_7d493 cJ0_coder_7d493 1 (some .byte)) B.pre
  have hts : ∀ w ∈ g_wk, w.before ([.ref kA] : List Value).toArray s = true := fun w hw => hts0 w (List.mem_cons_of_mem _ hw)
  have hown : s.vm.findClass RJ0 = some m.cls := findClass_of_methodNamed B.named
  have hl := lv_entry ([.ref kA] : List Value) (n := 1) (Nat.le_of_ble_eq_true rfl)
  rw [lg_entry_eq]
  generalize (lg_sl [.ref kA] ++ List.replicate (1 - (lg_sl [.ref kA]).length) Slot.unset).toArray = ls at hl ⊢
  have hl : lv_has ls 1 (lv_args 0 [.ref kA]) := hl
  have hCF : CallFix p m c cJ0_coder_7d493 1 s ([.ref kA] : List Value).toArray g_wk RJ0 := ⟨B.exec, B.bytes, hml, hown, hts⟩
  have hS : va_S (g_A sz) s.heap s.heap [] := va_S.rf
  refine va_gets B.exec B.bytes hJ.2.2.2.2 hS hown (hts _ (j_in3 (j := 133) rfl rfl)) (fun _ h => h) (show decode cJ0_coder_7d493 0 = .ok (.getstatic 38, 3) by decide +kernel) ?_
  refine lv_if_eq B.exec B.bytes (show decode cJ0_coder_7d493 3 = .ok (.ifCond .eq 10, 3) by decide +kernel) (tgt := 13) rfl (fun h => ?_) (fun h => ?_)
  · exact absurd h (by decide)
  · skip
    refine lv_aload_n B.exec B.bytes (show decode cJ0_coder_7d493 6 = .ok (.aload_n 0, 1) by decide +kernel) rfl (lv_at hl 0 rfl) ?_
    refine vk_getf B.exec B.bytes hJ.2.1 hS hown (hts _ (j_in9 (j := 204) rfl rfl)) (fun _ h => h) (show decode cJ0_coder_7d493 7 = .ok (.getfield 15, 3) by decide +kernel) ?_
    refine lv_goto B.exec B.bytes (show decode cJ0_coder_7d493 10 = .ok (.goto 4, 3) by decide +kernel) (tgt := 14) rfl ?_
    exact W.zret B.exec B.bytes B.returns rfl (fun t ht hW => ⟨rfl, ht⟩) hS.2.2 (show decode cJ0_coder_7d493 14 = .ok (.ireturn, 1) by decide +kernel) B.notSynchronized
set_option maxHeartbeats 1000000 in
theorem j_length {l : Launch} {sz kA vA : Nat} : Met l yJ0_length_8abf5 (j_ws yJ0_length_8abf5 cJ0_length_8abf5 1 (some .int)) (g_rmd 1 0 0) (j_Pc sz kA vA [.ref kA]) (j_Qc 15) 0 0 (g_A sz) := by
  refine Met.ofW (cc := cJ0_length_8abf5) (maxL := 1) (ret := some .int) (by decide) rfl ?_
  intro p e s m args below meth c s₁ B hml hv
  obtain ⟨rfl, hJ⟩ := hv
  have hts0 := atoms_spec (ws := j_ws yJ0_length_8abf5 cJ0_length_8abf5 1 (some .int)) B.pre
  have hts : ∀ w ∈ g_wk, w.before ([.ref kA] : List Value).toArray s = true := fun w hw => hts0 w (List.mem_cons_of_mem _ hw)
  have hown : s.vm.findClass RJ0 = some m.cls := findClass_of_methodNamed B.named
  have hl := lv_entry ([.ref kA] : List Value) (n := 1) (Nat.le_of_ble_eq_true rfl)
  rw [lg_entry_eq]
  generalize (lg_sl [.ref kA] ++ List.replicate (1 - (lg_sl [.ref kA]).length) Slot.unset).toArray = ls at hl ⊢
  have hl : lv_has ls 1 (lv_args 0 [.ref kA]) := hl
  have hCF : CallFix p m c cJ0_length_8abf5 1 s ([.ref kA] : List Value).toArray g_wk RJ0 := ⟨B.exec, B.bytes, hml, hown, hts⟩
  have hS : va_S (g_A sz) s.heap s.heap [] := va_S.rf
  refine lv_aload_n B.exec B.bytes (show decode cJ0_length_8abf5 0 = .ok (.aload_n 0, 1) by decide +kernel) rfl (lv_at hl 0 rfl) ?_
  refine vk_getf B.exec B.bytes hJ.2.2.1 hS hown (hts _ (j_in9 (j := 205) rfl rfl)) (fun _ h => h) (show decode cJ0_length_8abf5 1 = .ok (.getfield 9, 3) by decide +kernel) ?_
  refine va_tlen B.exec B.bytes hJ.2.2.2.1 hS (v := 15) rfl (show decode cJ0_length_8abf5 4 = .ok (.arraylength, 1) by decide +kernel) ?_
  refine lv_aload_n B.exec B.bytes (show decode cJ0_length_8abf5 5 = .ok (.aload_n 0, 1) by decide +kernel) rfl (lv_at hl 0 rfl) ?_
  refine j_callW (va_runV (C := "java/lang/String") (b := kA) (As := []) (rest := [.int 15]) hCF (j_coder (l := l) (sz := sz) (kA := kA) (vA := vA)) ⟨callB_of 0 hts (j_good (j_in3 (j := 142) rfl rfl)) rfl rfl rfl (hts _ (j_in1 (j := 15) rfl rfl)) (hts _ (j_in3 (j := 139) rfl rfl)) (by decide) ⟨Nat.le_of_ble_eq_true rfl, Nat.le_of_ble_eq_true rfl⟩, hts _ (j_in3 (j := 140) rfl rfl), hts _ (j_in3 (j := 141) rfl rfl)⟩ (j_preV hJ hS) rfl rfl hl.1 rfl (lv_room (Nat.le_of_ble_eq_true rfl)) (show decode cJ0_length_8abf5 6 = .ok (.invokevirtual 335, 3) by decide +kernel) ⟨Nat.le_of_ble_eq_true rfl, Nat.le_of_ble_eq_true rfl⟩) hS (fun locs6 hS6 => ?_)
  refine lv_ishr B.exec B.bytes (show decode cJ0_length_8abf5 9 = .ok (.ishr, 1) by decide +kernel) ?_
  exact W.iret B.exec B.bytes B.returns (fun t ht hW => ⟨rfl, ht⟩) hS6.2.2 (show decode cJ0_length_8abf5 10 = .ok (.ireturn, 1) by decide +kernel) B.notSynchronized
noncomputable def j_ce (c : Int32) : Int32 := if c < 0 then 0 else if 255 < c then 0 else 1
set_option maxHeartbeats 1000000 in
theorem j_canEncode {l : Launch} {sz kA vA : Nat} (c : Int32) : Met l yJ1_canEncode_9a6ad (j_ws yJ1_canEncode_9a6ad cJ1_canEncode_9a6ad 1 (some .boolean)) (g_rmd 0 0 0) (j_Pc sz kA vA [.int c]) (j_Qc (j_ce c)) 0 0 (g_A sz) := by
  refine Met.ofW (cc := cJ1_canEncode_9a6ad) (maxL := 1) (ret := some .boolean) (by decide) rfl ?_
  intro p e s m args below meth c9 s₁ B hml hv
  obtain ⟨rfl, hJ⟩ := hv
  have hts0 := atoms_spec (ws := j_ws yJ1_canEncode_9a6ad cJ1_canEncode_9a6ad 1 (some .boolean)) B.pre
  have hts : ∀ w ∈ g_wk, w.before ([.int c] : List Value).toArray s = true := fun w hw => hts0 w (List.mem_cons_of_mem _ hw)
  have hown : s.vm.findClass RJ1 = some m.cls := findClass_of_methodNamed B.named
  have hl := lv_entry ([.int c] : List Value) (n := 1) (Nat.le_of_ble_eq_true rfl)
  rw [lg_entry_eq]
  generalize (lg_sl [.int c] ++ List.replicate (1 - (lg_sl [.int c]).length) Slot.unset).toArray = ls at hl ⊢
  have hl : lv_has ls 1 (lv_args 0 [.int c]) := hl
  have hCF : CallFix p m c9 cJ1_canEncode_9a6ad 1 s ([.int c] : List Value).toArray g_wk RJ1 := ⟨B.exec, B.bytes, hml, hown, hts⟩
  have hS : va_S (g_A sz) s.heap s.heap [] := va_S.rf
  refine lv_iload_n B.exec B.bytes (show decode cJ1_canEncode_9a6ad 0 = .ok (.iload_n 0, 1) by decide +kernel) rfl (lv_at hl 0 rfl) ?_
  refine lv_if_lt B.exec B.bytes (show decode cJ1_canEncode_9a6ad 1 = .ok (.ifCond .lt 14, 3) by decide +kernel) (tgt := 15) rfl (fun h1 => ?_) (fun h1 => ?_)
  · have e : j_ce c = 0 := if_pos h1
    rw [e]
    refine lv_iconst B.exec B.bytes (show decode cJ1_canEncode_9a6ad 15 = .ok (.iconst 0, 1) by decide +kernel) rfl ?_
    exact W.zret B.exec B.bytes B.returns rfl (fun t ht hW => ⟨rfl, ht⟩) hS.2.2 (show decode cJ1_canEncode_9a6ad 16 = .ok (.ireturn, 1) by decide +kernel) B.notSynchronized
  · skip
    refine lv_iload_n B.exec B.bytes (show decode cJ1_canEncode_9a6ad 4 = .ok (.iload_n 0, 1) by decide +kernel) rfl (lv_at hl 0 rfl) ?_
    refine lv_sipush B.exec B.bytes (show decode cJ1_canEncode_9a6ad 5 = .ok (.sipush 255, 3) by decide +kernel) (v := 255) rfl ?_
    refine lv_icmp_gt B.exec B.bytes (show decode cJ1_canEncode_9a6ad 8 = .ok (.if_icmp .gt 7, 3) by decide +kernel) (tgt := 15) rfl (fun h2 => ?_) (fun h2 => ?_)
    · have e : j_ce c = 0 := by
        unfold j_ce
        rw [if_neg h1, if_pos h2]
      rw [e]
      refine lv_iconst B.exec B.bytes (show decode cJ1_canEncode_9a6ad 15 = .ok (.iconst 0, 1) by decide +kernel) rfl ?_
      exact W.zret B.exec B.bytes B.returns rfl (fun t ht hW => ⟨rfl, ht⟩) hS.2.2 (show decode cJ1_canEncode_9a6ad 16 = .ok (.ireturn, 1) by decide +kernel) B.notSynchronized
    · have e : j_ce c = 1 := by
        unfold j_ce
        rw [if_neg h1, if_neg h2]
      rw [e]
      refine lv_iconst B.exec B.bytes (show decode cJ1_canEncode_9a6ad 11 = .ok (.iconst 1, 1) by decide +kernel) rfl ?_
      refine lv_goto B.exec B.bytes (show decode cJ1_canEncode_9a6ad 12 = .ok (.goto 4, 3) by decide +kernel) (tgt := 16) rfl ?_
      exact W.zret B.exec B.bytes B.returns rfl (fun t ht hW => ⟨rfl, ht⟩) hS.2.2 (show decode cJ1_canEncode_9a6ad 16 = .ok (.ireturn, 1) by decide +kernel) B.notSynchronized
noncomputable def j_ix (cb : Int32) : List Int32 → Nat → Int32
  | [], _ => -1
  | b :: l, k => if b = cb then Int32.ofNat k else j_ix cb l (k + 1)
set_option maxHeartbeats 1000000 in
theorem j_loop {p : Program} {l : Launch} {e : Env} {R : Room} {s : State} {m : MethodId} {args : Array Value} {below : List Frame} {meth : Method} {c : Code} {H : Heap} {locs : List Loc} {cells slots : Nat} {Qc : Array Value → State → Outcome → State → Prop} {free : Addr → Prop} {sz vA : Nat} (hx : p.tables.exec = Jvm.exec) (hb : c.code = cJ1_indexOfChar_4cfef) (hr : meth.sig.returnType = some .int) (hlocks : meth.locks = false) (hT : va_T .byte vA 15 (fun j => .int (j_by.getD j 0)) (g_A sz) s s.heap) (hS : va_S (g_A sz) s.heap H locs) (hf : ∀ q ∈ locs, free q.base) {x cb z3 : Int32} :
    ∀ (r : List Int32) (k : Nat) (ls : Array Slot), k + r.length = 15 → j_by.drop k = r → lv_has ls 6 [(5, .int (Int32.ofNat k)), (4, .int cb), (0, .ref vA), (1, .int x), (2, .int z3), (3, .int 15)] → (∀ t : State, t.heap = H → s.WarmedH t.vm → Qc args s (.returned (some (.int (j_ix cb r k)))) t) → W p l e R s m args below meth c H locs cells slots (MQ below Qc args s cells slots free) (F0 m 7 ls []) := by
  intro r
  induction r with
  | nil =>
    intro k ls hk hd hl hq
    have hk : k = 15 := by simpa using hk
    subst hk
    refine lv_iload hx hb (show decode cJ1_indexOfChar_4cfef 7 = .ok (.iload 5, 2) by decide +kernel) (lv_at hl 0 rfl) ?_
    refine lv_iload_n hx hb (show decode cJ1_indexOfChar_4cfef 9 = .ok (.iload_n 3, 1) by decide +kernel) rfl (lv_at hl 5 rfl) ?_
    refine lv_icmp_ge hx hb (show decode cJ1_indexOfChar_4cfef 10 = .ok (.if_icmp .ge 21, 3) by decide +kernel) (tgt := 31) rfl (fun h => ?_) (fun h => absurd (by decide) h)
    refine lv_iconst hx hb (show decode cJ1_indexOfChar_4cfef 31 = .ok (.iconst (-1), 1) by decide +kernel) rfl ?_
    exact W.iret hx hb hr hq hf (show decode cJ1_indexOfChar_4cfef 32 = .ok (.ireturn, 1) by decide +kernel) hlocks
  | cons b r ih =>
    intro k ls hk hd hl hq
    have hk15 : k < 15 := by simp at hk; omega
    have hbk : j_by.getD k 0 = b := by
      have h1 : j_by[k]? = some b := by
        have := congrArg List.head? hd
        simpa [List.head?_drop] using this
      simp [List.getD, h1]
    have hd2 : j_by.drop (k + 1) = r := by
      have := congrArg List.tail hd
      simpa [List.tail_drop] using this
    have ek : (Int32.ofNat k).toNatClampNeg = k := by
      show (Int32.ofNat k).toInt.toNat = k
      have : (Int32.ofNat k).toInt = (k : Int) := Int32.toInt_ofNat_of_lt (by omega)
      rw [this]
      omega
    have ekI : (Int32.ofNat k).toInt = (k : Int) := Int32.toInt_ofNat_of_lt (by omega)
    refine lv_iload hx hb (show decode cJ1_indexOfChar_4cfef 7 = .ok (.iload 5, 2) by decide +kernel) (lv_at hl 0 rfl) ?_
    refine lv_iload_n hx hb (show decode cJ1_indexOfChar_4cfef 9 = .ok (.iload_n 3, 1) by decide +kernel) rfl (lv_at hl 5 rfl) ?_
    refine lv_icmp_ge hx hb (show decode cJ1_indexOfChar_4cfef 10 = .ok (.if_icmp .ge 21, 3) by decide +kernel) (tgt := 31) rfl (fun h => ?_) (fun h => ?_)
    · exfalso
      have h := Int32.le_iff_toInt_le.mp h
      rw [ekI] at h
      have e15 : (15 : Int32).toInt = 15 := rfl
      omega
    · refine lv_aload_n hx hb (show decode cJ1_indexOfChar_4cfef 13 = .ok (.aload_n 0, 1) by decide +kernel) rfl (lv_at hl 2 rfl) ?_
      refine lv_iload hx hb (show decode cJ1_indexOfChar_4cfef 14 = .ok (.iload 5, 2) by decide +kernel) (lv_at hl 0 rfl) ?_
      refine va_tb hx hb hT hS (i := Int32.ofNat k) (v := .int b) ?_ ?_ (show decode cJ1_indexOfChar_4cfef 16 = .ok (.baload, 1) by decide +kernel) ?_
      · rintro (h | h)
        · have h := Int32.lt_iff_toInt_lt.mp h
          rw [ekI] at h
          have e0 : (0 : Int32).toInt = 0 := rfl
          omega
        · rw [ek] at h
          omega
      · show Value.int (j_by.getD (Int32.ofNat k).toNatClampNeg 0) = Value.int b
        rw [ek, hbk]
      · refine lv_iload hx hb (show decode cJ1_indexOfChar_4cfef 17 = .ok (.iload 4, 2) by decide +kernel) (lv_at hl 1 rfl) ?_
        refine lv_icmp_ne hx hb (show decode cJ1_indexOfChar_4cfef 19 = .ok (.if_icmp .ne 6, 3) by decide +kernel) (tgt := 25) rfl (fun h => ?_) (fun h => ?_)
        · have h9 : ¬ b = cb := fun e => h e
          refine lv_iinc hx hb (show decode cJ1_indexOfChar_4cfef 25 = .ok (.iinc 5 1, 3) by decide +kernel) hl (k := 0) rfl (v := Int32.ofNat (k + 1)) ?_ (by decide) rfl (fun ls' hl' => ?_)
          · show Int32.ofNat k + Int32.ofInt 1 = Int32.ofNat (k + 1)
            rw [Int32.ofNat_add]
            rfl
          · refine lv_goto hx hb (show decode cJ1_indexOfChar_4cfef 28 = .ok (.goto (-21), 3) by decide +kernel) (tgt := 7) rfl ?_
            refine ih (k + 1) ls' (by simp at hk; omega) hd2 hl' ?_
            have e : j_ix cb (b :: r) k = j_ix cb r (k + 1) := by
              show (if b = cb then Int32.ofNat k else j_ix cb r (k + 1)) = _
              rw [if_neg h9]
            rw [e] at hq
            exact hq
        · have h9 : b = cb := h
          refine lv_iload hx hb (show decode cJ1_indexOfChar_4cfef 22 = .ok (.iload 5, 2) by decide +kernel) (lv_at hl 0 rfl) ?_
          have e : j_ix cb (b :: r) k = Int32.ofNat k := by
            show (if b = cb then Int32.ofNat k else j_ix cb r (k + 1)) = _
            rw [if_pos h9]
          rw [e] at hq
          exact W.iret hx hb hr hq hf (show decode cJ1_indexOfChar_4cfef 24 = .ok (.ireturn, 1) by decide +kernel) hlocks
set_option maxHeartbeats 1000000 in
theorem j_indexOfChar {l : Launch} {sz kA vA : Nat} (x : Int32) : Met l yJ1_indexOfChar_4cfef (j_ws yJ1_indexOfChar_4cfef cJ1_indexOfChar_4cfef 6 (some .int)) (g_rmd 0 0 0) (j_Pc sz kA vA [.ref vA, .int x, .int 0, .int 15]) (j_Qc (j_ix x.toInt8.toInt32 j_by 0)) 0 0 (g_A sz) := by
  refine Met.ofW (cc := cJ1_indexOfChar_4cfef) (maxL := 6) (ret := some .int) (by decide) rfl ?_
  intro p e s m args below meth c s₁ B hml hv
  obtain ⟨rfl, hJ⟩ := hv
  have hts0 := atoms_spec (ws := j_ws yJ1_indexOfChar_4cfef cJ1_indexOfChar_4cfef 6 (some .int)) B.pre
  have hts : ∀ w ∈ g_wk, w.before ([.ref vA, .int x, .int 0, .int 15] : List Value).toArray s = true := fun w hw => hts0 w (List.mem_cons_of_mem _ hw)
  have hown : s.vm.findClass RJ1 = some m.cls := findClass_of_methodNamed B.named
  have hl := lv_entry ([.ref vA, .int x, .int 0, .int 15] : List Value) (n := 6) (Nat.le_of_ble_eq_true rfl)
  rw [lg_entry_eq]
  generalize (lg_sl [.ref vA, .int x, .int 0, .int 15] ++ List.replicate (6 - (lg_sl [.ref vA, .int x, .int 0, .int 15]).length) Slot.unset).toArray = ls at hl ⊢
  have hl : lv_has ls 6 (lv_args 0 [.ref vA, .int x, .int 0, .int 15]) := hl
  have hCF : CallFix p m c cJ1_indexOfChar_4cfef 6 s ([.ref vA, .int x, .int 0, .int 15] : List Value).toArray g_wk RJ1 := ⟨B.exec, B.bytes, hml, hown, hts⟩
  have hS : va_S (g_A sz) s.heap s.heap [] := va_S.rf
  refine lv_iload_n B.exec B.bytes (show decode cJ1_indexOfChar_4cfef 0 = .ok (.iload_n 1, 1) by decide +kernel) rfl (lv_at hl 1 rfl) ?_
  refine lv_i2b B.exec B.bytes (show decode cJ1_indexOfChar_4cfef 1 = .ok (.i2b, 1) by decide +kernel) rfl ?_
  refine lv_istore B.exec B.bytes (show decode cJ1_indexOfChar_4cfef 2 = .ok (.istore 4, 2) by decide +kernel) hl (by decide) rfl (fun ls1 hl1 => ?_)
  refine lv_iload_n B.exec B.bytes (show decode cJ1_indexOfChar_4cfef 4 = .ok (.iload_n 2, 1) by decide +kernel) rfl (lv_at hl1 3 rfl) ?_
  refine lv_istore B.exec B.bytes (show decode cJ1_indexOfChar_4cfef 5 = .ok (.istore 5, 2) by decide +kernel) hl1 (by decide) rfl (fun ls2 hl2 => ?_)
  exact j_loop B.exec B.bytes B.returns B.notSynchronized hJ.2.2.2.1 hS hS.2.2 j_by 0 ls2 rfl rfl hl2 (fun t ht hW => ⟨rfl, ht⟩)
noncomputable def j_lx (x : Int32) : Int32 := if j_ce x = 0 then -1 else j_ix x.toInt8.toInt32 j_by 0
set_option maxHeartbeats 1000000 in
theorem j_lIndexOf {l : Launch} {sz kA vA : Nat} (x : Int32) : Met l yJ1_indexOf_4cfef (j_ws yJ1_indexOf_4cfef cJ1_indexOf_4cfef 4 (some .int)) (g_rmd 1 0 0) (j_Pc sz kA vA [.ref vA, .int x, .int 0, .int 15]) (j_Qc (j_lx x)) 0 0 (g_A sz) := by
  refine Met.ofW (cc := cJ1_indexOf_4cfef) (maxL := 4) (ret := some .int) (by decide) rfl ?_
  intro p e s m args below meth c s₁ B hml hv
  obtain ⟨rfl, hJ⟩ := hv
  have hts0 := atoms_spec (ws := j_ws yJ1_indexOf_4cfef cJ1_indexOf_4cfef 4 (some .int)) B.pre
  have hts : ∀ w ∈ g_wk, w.before ([.ref vA, .int x, .int 0, .int 15] : List Value).toArray s = true := fun w hw => hts0 w (List.mem_cons_of_mem _ hw)
  have hown : s.vm.findClass RJ1 = some m.cls := findClass_of_methodNamed B.named
  have hl := lv_entry ([.ref vA, .int x, .int 0, .int 15] : List Value) (n := 4) (Nat.le_of_ble_eq_true rfl)
  rw [lg_entry_eq]
  generalize (lg_sl [.ref vA, .int x, .int 0, .int 15] ++ List.replicate (4 - (lg_sl [.ref vA, .int x, .int 0, .int 15]).length) Slot.unset).toArray = ls at hl ⊢
  have hl : lv_has ls 4 (lv_args 0 [.ref vA, .int x, .int 0, .int 15]) := hl
  have hCF : CallFix p m c cJ1_indexOf_4cfef 4 s ([.ref vA, .int x, .int 0, .int 15] : List Value).toArray g_wk RJ1 := ⟨B.exec, B.bytes, hml, hown, hts⟩
  have hS : va_S (g_A sz) s.heap s.heap [] := va_S.rf
  refine lv_iload_n B.exec B.bytes (show decode cJ1_indexOf_4cfef 0 = .ok (.iload_n 1, 1) by decide +kernel) rfl (lv_at hl 1 rfl) ?_
  refine j_callW (va_runS (As := [.int x]) (rest := []) hCF (j_canEncode (l := l) (sz := sz) (kA := kA) (vA := vA) x) ⟨callB_of 1 hts (j_good (j_in3 (j := 148) rfl rfl)) rfl rfl rfl (hts _ (j_in1 (j := 16) rfl rfl)) (hts _ (j_in3 (j := 146) rfl rfl)) (by decide) ⟨Nat.le_of_ble_eq_true rfl, Nat.le_of_ble_eq_true rfl⟩, hts _ (j_in3 (j := 147) rfl rfl)⟩ (j_pre hJ hS) rfl rfl hl.1 rfl (lv_room (Nat.le_of_ble_eq_true rfl)) (show decode cJ1_indexOf_4cfef 1 = .ok (.invokestatic 88, 3) by decide +kernel) ⟨Nat.le_of_ble_eq_true rfl, Nat.le_of_ble_eq_true rfl⟩) hS (fun locs1 hS1 => ?_)
  refine lv_if_ne B.exec B.bytes (show decode cJ1_indexOf_4cfef 4 = .ok (.ifCond .ne 5, 3) by decide +kernel) (tgt := 9) rfl (fun h4 => ?_) (fun h4 => ?_)
  · have e9 : j_lx x = j_ix x.toInt8.toInt32 j_by 0 := if_neg h4
    rw [e9]
    refine lv_iload_n B.exec B.bytes (show decode cJ1_indexOf_4cfef 9 = .ok (.iload_n 2, 1) by decide +kernel) rfl (lv_at hl 2 rfl) ?_
    refine lv_iconst B.exec B.bytes (show decode cJ1_indexOf_4cfef 10 = .ok (.iconst 0, 1) by decide +kernel) rfl ?_
    refine va_mmax B.exec B.bytes (hml.trans hl.1.symm) hown (hts _ (j_in3 (j := 149) rfl rfl)) (hts _ (j_in3 (j := 150) rfl rfl)) (hts _ (j_in1 (j := 17) rfl rfl)) (hts _ (j_in3 (j := 151) rfl rfl)) (Nat.le_of_ble_eq_true rfl) (Nat.le_of_ble_eq_true rfl) (Nat.le_of_ble_eq_true rfl) (Nat.le_of_ble_eq_true rfl) (show decode cJ1_indexOf_4cfef 11 = .ok (.invokestatic 92, 3) by decide +kernel) ?_
    refine lv_istore_n B.exec B.bytes (show decode cJ1_indexOf_4cfef 14 = .ok (.istore_n 2, 1) by decide +kernel) rfl hl (by decide) rfl (fun ls1 hl1 => ?_)
    refine lv_iload_n B.exec B.bytes (show decode cJ1_indexOf_4cfef 15 = .ok (.iload_n 3, 1) by decide +kernel) rfl (lv_at hl1 3 rfl) ?_
    refine lv_aload_n B.exec B.bytes (show decode cJ1_indexOf_4cfef 16 = .ok (.aload_n 0, 1) by decide +kernel) rfl (lv_at hl1 1 rfl) ?_
    refine va_tlen B.exec B.bytes hJ.2.2.2.1 hS1 (v := 15) rfl (show decode cJ1_indexOf_4cfef 17 = .ok (.arraylength, 1) by decide +kernel) ?_
    refine va_mmin B.exec B.bytes (hml.trans hl1.1.symm) hown (hts _ (j_in3 (j := 152) rfl rfl)) (hts _ (j_in3 (j := 153) rfl rfl)) (hts _ (j_in1 (j := 17) rfl rfl)) (hts _ (j_in3 (j := 154) rfl rfl)) (Nat.le_of_ble_eq_true rfl) (Nat.le_of_ble_eq_true rfl) (Nat.le_of_ble_eq_true rfl) (Nat.le_of_ble_eq_true rfl) (show decode cJ1_indexOf_4cfef 18 = .ok (.invokestatic 38, 3) by decide +kernel) ?_
    refine lv_istore_n B.exec B.bytes (show decode cJ1_indexOf_4cfef 21 = .ok (.istore_n 3, 1) by decide +kernel) rfl hl1 (by decide) rfl (fun ls2 hl2 => ?_)
    have hl2 : lv_has ls2 4 [(3, .int 15), (2, .int 0), (0, .ref vA), (1, .int x)] := hl2
    refine lv_iload_n B.exec B.bytes (show decode cJ1_indexOf_4cfef 22 = .ok (.iload_n 2, 1) by decide +kernel) rfl (lv_at hl2 1 rfl) ?_
    refine lv_iload_n B.exec B.bytes (show decode cJ1_indexOf_4cfef 23 = .ok (.iload_n 3, 1) by decide +kernel) rfl (lv_at hl2 0 rfl) ?_
    refine lv_icmp_lt B.exec B.bytes (show decode cJ1_indexOf_4cfef 24 = .ok (.if_icmp .lt 5, 3) by decide +kernel) (tgt := 29) rfl (fun h24 => ?_) (fun h24 => ?_)
    · skip
      refine lv_aload_n B.exec B.bytes (show decode cJ1_indexOf_4cfef 29 = .ok (.aload_n 0, 1) by decide +kernel) rfl (lv_at hl2 2 rfl) ?_
      refine lv_iload_n B.exec B.bytes (show decode cJ1_indexOf_4cfef 30 = .ok (.iload_n 1, 1) by decide +kernel) rfl (lv_at hl2 3 rfl) ?_
      refine lv_iload_n B.exec B.bytes (show decode cJ1_indexOf_4cfef 31 = .ok (.iload_n 2, 1) by decide +kernel) rfl (lv_at hl2 1 rfl) ?_
      refine lv_iload_n B.exec B.bytes (show decode cJ1_indexOf_4cfef 32 = .ok (.iload_n 3, 1) by decide +kernel) rfl (lv_at hl2 0 rfl) ?_
      refine j_callW (va_runS (As := [.ref vA, .int x, .int 0, .int 15]) (rest := []) hCF (j_indexOfChar (l := l) (sz := sz) (kA := kA) (vA := vA) x) ⟨callB_of 4 hts (j_good (j_in3 (j := 157) rfl rfl)) rfl rfl rfl (hts _ (j_in1 (j := 16) rfl rfl)) (hts _ (j_in3 (j := 155) rfl rfl)) (by decide) ⟨Nat.le_of_ble_eq_true rfl, Nat.le_of_ble_eq_true rfl⟩, hts _ (j_in3 (j := 156) rfl rfl)⟩ (j_pre hJ hS1) rfl rfl hl2.1 rfl (lv_room (Nat.le_of_ble_eq_true rfl)) (show decode cJ1_indexOf_4cfef 33 = .ok (.invokestatic 95, 3) by decide +kernel) ⟨Nat.le_of_ble_eq_true rfl, Nat.le_of_ble_eq_true rfl⟩) hS1 (fun locs33 hS33 => ?_)
      exact W.iret B.exec B.bytes B.returns (fun t ht hW => ⟨rfl, ht⟩) hS33.2.2 (show decode cJ1_indexOf_4cfef 36 = .ok (.ireturn, 1) by decide +kernel) B.notSynchronized
    · exact absurd (by decide) h24
  · have e9 : j_lx x = -1 := if_pos h4
    rw [e9]
    refine lv_iconst B.exec B.bytes (show decode cJ1_indexOf_4cfef 7 = .ok (.iconst (-1), 1) by decide +kernel) rfl ?_
    exact W.iret B.exec B.bytes B.returns (fun t ht hW => ⟨rfl, ht⟩) hS1.2.2 (show decode cJ1_indexOf_4cfef 8 = .ok (.ireturn, 1) by decide +kernel) B.notSynchronized
set_option maxHeartbeats 1000000 in
theorem j_indexOf2 {l : Launch} {sz kA vA : Nat} (x : Int32) : Met l yJ0_indexOf_7cf53 (j_ws yJ0_indexOf_7cf53 cJ0_indexOf_7cf53 3 (some .int)) (g_rmd 2 0 0) (j_Pc sz kA vA [.ref kA, .int x, .int 0]) (j_Qc (j_lx x)) 0 0 (g_A sz) := by
  refine Met.ofW (cc := cJ0_indexOf_7cf53) (maxL := 3) (ret := some .int) (by decide) rfl ?_
  intro p e s m args below meth c s₁ B hml hv
  obtain ⟨rfl, hJ⟩ := hv
  have hts0 := atoms_spec (ws := j_ws yJ0_indexOf_7cf53 cJ0_indexOf_7cf53 3 (some .int)) B.pre
  have hts : ∀ w ∈ g_wk, w.before ([.ref kA, .int x, .int 0] : List Value).toArray s = true := fun w hw => hts0 w (List.mem_cons_of_mem _ hw)
  have hown : s.vm.findClass RJ0 = some m.cls := findClass_of_methodNamed B.named
  have hl := lv_entry ([.ref kA, .int x, .int 0] : List Value) (n := 3) (Nat.le_of_ble_eq_true rfl)
  rw [lg_entry_eq]
  generalize (lg_sl [.ref kA, .int x, .int 0] ++ List.replicate (3 - (lg_sl [.ref kA, .int x, .int 0]).length) Slot.unset).toArray = ls at hl ⊢
  have hl : lv_has ls 3 (lv_args 0 [.ref kA, .int x, .int 0]) := hl
  have hCF : CallFix p m c cJ0_indexOf_7cf53 3 s ([.ref kA, .int x, .int 0] : List Value).toArray g_wk RJ0 := ⟨B.exec, B.bytes, hml, hown, hts⟩
  have hS : va_S (g_A sz) s.heap s.heap [] := va_S.rf
  refine lv_aload_n B.exec B.bytes (show decode cJ0_indexOf_7cf53 0 = .ok (.aload_n 0, 1) by decide +kernel) rfl (lv_at hl 0 rfl) ?_
  refine j_callW (va_runV (C := "java/lang/String") (b := kA) (As := []) (rest := []) hCF (j_isLatin1 (l := l) (sz := sz) (kA := kA) (vA := vA)) ⟨callB_of 0 hts (j_good (j_in3 (j := 132) rfl rfl)) rfl rfl rfl (hts _ (j_in1 (j := 15) rfl rfl)) (hts _ (j_in3 (j := 129) rfl rfl)) (by decide) ⟨Nat.le_of_ble_eq_true rfl, Nat.le_of_ble_eq_true rfl⟩, hts _ (j_in3 (j := 130) rfl rfl), hts _ (j_in3 (j := 131) rfl rfl)⟩ (j_preV hJ hS) rfl rfl hl.1 rfl (lv_room (Nat.le_of_ble_eq_true rfl)) (show decode cJ0_indexOf_7cf53 1 = .ok (.invokevirtual 492, 3) by decide +kernel) ⟨Nat.le_of_ble_eq_true rfl, Nat.le_of_ble_eq_true rfl⟩) hS (fun locs1 hS1 => ?_)
  refine lv_if_eq B.exec B.bytes (show decode cJ0_indexOf_7cf53 4 = .ok (.ifCond .eq 19, 3) by decide +kernel) (tgt := 23) rfl (fun h4 => ?_) (fun h4 => ?_)
  · exact absurd h4 (by decide)
  · skip
    refine lv_aload_n B.exec B.bytes (show decode cJ0_indexOf_7cf53 7 = .ok (.aload_n 0, 1) by decide +kernel) rfl (lv_at hl 0 rfl) ?_
    refine vk_getf B.exec B.bytes hJ.2.2.1 hS1 hown (hts _ (j_in9 (j := 205) rfl rfl)) (fun _ h => h) (show decode cJ0_indexOf_7cf53 8 = .ok (.getfield 9, 3) by decide +kernel) ?_
    refine lv_iload_n B.exec B.bytes (show decode cJ0_indexOf_7cf53 11 = .ok (.iload_n 1, 1) by decide +kernel) rfl (lv_at hl 1 rfl) ?_
    refine lv_iload_n B.exec B.bytes (show decode cJ0_indexOf_7cf53 12 = .ok (.iload_n 2, 1) by decide +kernel) rfl (lv_at hl 2 rfl) ?_
    refine lv_aload_n B.exec B.bytes (show decode cJ0_indexOf_7cf53 13 = .ok (.aload_n 0, 1) by decide +kernel) rfl (lv_at hl 0 rfl) ?_
    refine j_callW (va_runV (C := "java/lang/String") (b := kA) (As := []) (rest := [.int 0, .int x, .ref vA]) hCF (j_length (l := l) (sz := sz) (kA := kA) (vA := vA)) ⟨callB_of 0 hts (j_good (j_in3 (j := 138) rfl rfl)) rfl rfl rfl (hts _ (j_in1 (j := 15) rfl rfl)) (hts _ (j_in3 (j := 135) rfl rfl)) (by decide) ⟨Nat.le_of_ble_eq_true rfl, Nat.le_of_ble_eq_true rfl⟩, hts _ (j_in3 (j := 136) rfl rfl), hts _ (j_in3 (j := 137) rfl rfl)⟩ (j_preV hJ hS1) rfl rfl hl.1 rfl (lv_room (Nat.le_of_ble_eq_true rfl)) (show decode cJ0_indexOf_7cf53 14 = .ok (.invokevirtual 505, 3) by decide +kernel) ⟨Nat.le_of_ble_eq_true rfl, Nat.le_of_ble_eq_true rfl⟩) hS1 (fun locs14 hS14 => ?_)
    refine j_callW (va_runS (As := [.ref vA, .int x, .int 0, .int 15]) (rest := []) hCF (j_lIndexOf (l := l) (sz := sz) (kA := kA) (vA := vA) x) ⟨callB_of 4 hts (j_good (j_in3 (j := 145) rfl rfl)) rfl rfl rfl (hts _ (j_in1 (j := 16) rfl rfl)) (hts _ (j_in3 (j := 143) rfl rfl)) (by decide) ⟨Nat.le_of_ble_eq_true rfl, Nat.le_of_ble_eq_true rfl⟩, hts _ (j_in3 (j := 144) rfl rfl)⟩ (j_pre hJ hS14) rfl rfl hl.1 rfl (lv_room (Nat.le_of_ble_eq_true rfl)) (show decode cJ0_indexOf_7cf53 17 = .ok (.invokestatic 637, 3) by decide +kernel) ⟨Nat.le_of_ble_eq_true rfl, Nat.le_of_ble_eq_true rfl⟩) hS14 (fun locs17 hS17 => ?_)
    refine lv_goto B.exec B.bytes (show decode cJ0_indexOf_7cf53 20 = .ok (.goto 16, 3) by decide +kernel) (tgt := 36) rfl ?_
    exact W.iret B.exec B.bytes B.returns (fun t ht hW => ⟨rfl, ht⟩) hS17.2.2 (show decode cJ0_indexOf_7cf53 36 = .ok (.ireturn, 1) by decide +kernel) B.notSynchronized
set_option maxHeartbeats 1000000 in
theorem j_indexOf1 {l : Launch} {sz kA vA : Nat} (x : Int32) : Met l yJ0_indexOf_0f7a4 (j_ws yJ0_indexOf_0f7a4 cJ0_indexOf_0f7a4 2 (some .int)) (g_rmd 3 0 0) (j_Pc sz kA vA [.ref kA, .int x]) (j_Qc (j_lx x)) 0 0 (g_A sz) := by
  refine Met.ofW (cc := cJ0_indexOf_0f7a4) (maxL := 2) (ret := some .int) (by decide) rfl ?_
  intro p e s m args below meth c s₁ B hml hv
  obtain ⟨rfl, hJ⟩ := hv
  have hts0 := atoms_spec (ws := j_ws yJ0_indexOf_0f7a4 cJ0_indexOf_0f7a4 2 (some .int)) B.pre
  have hts : ∀ w ∈ g_wk, w.before ([.ref kA, .int x] : List Value).toArray s = true := fun w hw => hts0 w (List.mem_cons_of_mem _ hw)
  have hown : s.vm.findClass RJ0 = some m.cls := findClass_of_methodNamed B.named
  have hl := lv_entry ([.ref kA, .int x] : List Value) (n := 2) (Nat.le_of_ble_eq_true rfl)
  rw [lg_entry_eq]
  generalize (lg_sl [.ref kA, .int x] ++ List.replicate (2 - (lg_sl [.ref kA, .int x]).length) Slot.unset).toArray = ls at hl ⊢
  have hl : lv_has ls 2 (lv_args 0 [.ref kA, .int x]) := hl
  have hCF : CallFix p m c cJ0_indexOf_0f7a4 2 s ([.ref kA, .int x] : List Value).toArray g_wk RJ0 := ⟨B.exec, B.bytes, hml, hown, hts⟩
  have hS : va_S (g_A sz) s.heap s.heap [] := va_S.rf
  refine lv_aload_n B.exec B.bytes (show decode cJ0_indexOf_0f7a4 0 = .ok (.aload_n 0, 1) by decide +kernel) rfl (lv_at hl 0 rfl) ?_
  refine lv_iload_n B.exec B.bytes (show decode cJ0_indexOf_0f7a4 1 = .ok (.iload_n 1, 1) by decide +kernel) rfl (lv_at hl 1 rfl) ?_
  refine lv_iconst B.exec B.bytes (show decode cJ0_indexOf_0f7a4 2 = .ok (.iconst 0, 1) by decide +kernel) rfl ?_
  refine j_callW (va_runV (C := "java/lang/String") (b := kA) (As := [.int x, .int 0]) (rest := []) hCF (j_indexOf2 (l := l) (sz := sz) (kA := kA) (vA := vA) x) ⟨callB_of 2 hts (j_good (j_in3 (j := 128) rfl rfl)) rfl rfl rfl (hts _ (j_in1 (j := 15) rfl rfl)) (hts _ (j_in3 (j := 125) rfl rfl)) (by decide) ⟨Nat.le_of_ble_eq_true rfl, Nat.le_of_ble_eq_true rfl⟩, hts _ (j_in3 (j := 126) rfl rfl), hts _ (j_in3 (j := 127) rfl rfl)⟩ (j_preV hJ hS) rfl rfl hl.1 rfl (lv_room (Nat.le_of_ble_eq_true rfl)) (show decode cJ0_indexOf_0f7a4 3 = .ok (.invokevirtual 633, 3) by decide +kernel) ⟨Nat.le_of_ble_eq_true rfl, Nat.le_of_ble_eq_true rfl⟩) hS (fun locs3 hS3 => ?_)
  exact W.iret B.exec B.bytes B.returns (fun t ht hW => ⟨rfl, ht⟩) hS3.2.2 (show decode cJ0_indexOf_0f7a4 6 = .ok (.ireturn, 1) by decide +kernel) B.notSynchronized
theorem j_lx_eq0 : ∀ i : Fin 256, j_ix (Int32.ofInt ((i : Nat) : Int)).toInt8.toInt32 j_by 0 = g_ixF (Int32.ofInt ((i : Nat) : Int)) j_by 0 := by decide +kernel
theorem j_ixF_out {c : Int32} : ∀ {l : List Int32} {k : Int32}, (∀ b ∈ l, ¬ b = c) → g_ixF c l k = -1
  | [], _, _ => rfl
  | b :: l, k, h => by
    show (if b = c then k else g_ixF c l (k + 1)) = -1
    rw [if_neg (h b List.mem_cons_self)]
    exact j_ixF_out (fun b hb => h b (List.mem_cons_of_mem _ hb))
theorem j_by_b : ∀ b ∈ j_by, 0 ≤ b.toInt ∧ b.toInt ≤ 255 := by decide
theorem j_lx_eq (x : Int32) : j_lx x = g_ixF x j_by 0 := by
  have e0 : (0 : Int32).toInt = 0 := rfl
  have e255 : (255 : Int32).toInt = 255 := rfl
  unfold j_lx j_ce
  by_cases h1 : x < 0
  · rw [if_pos h1, if_pos rfl]
    have h1 := Int32.lt_iff_toInt_lt.mp h1
    exact (j_ixF_out (fun b hb e => by have := j_by_b b hb; rw [e] at this; omega)).symm
  · rw [if_neg h1]
    by_cases h2 : 255 < x
    · rw [if_pos h2, if_pos rfl]
      have h2 := Int32.lt_iff_toInt_lt.mp h2
      exact (j_ixF_out (fun b hb e => by have := j_by_b b hb; rw [e] at this; omega)).symm
    · rw [if_neg h2, if_neg (by decide)]
      have h1 : ¬ x.toInt < 0 := fun h => h1 (Int32.lt_iff_toInt_lt.mpr h)
      have h2 : ¬ (255 : Int) < x.toInt := fun h => h2 (Int32.lt_iff_toInt_lt.mpr h)
      have k := j_lx_eq0 ⟨x.toInt.toNat, by omega⟩
      dsimp only at k
      rw [show ((x.toInt.toNat : Nat) : Int) = x.toInt by omega, Int32.ofInt_toInt] at k
      exact k
end Prt09b
section Prt09c
/-! the String constant at the law's start -/
theorem j_tb3 {w : Cond} {j : Nat} (h1 : tables_1_3[j]? = some w) : w ∈ lw_tbl := by
  unfold lw_tbl tables_1
  exact List.mem_append_right _ (List.mem_append_right _ (List.mem_append_right _ (List.mem_append_left _ (List.mem_of_getElem? h1))))
theorem j_tb1 {w : Cond} {j : Nat} (h1 : tables_1_1[j]? = some w) : w ∈ lw_tbl := by
  unfold lw_tbl tables_1
  exact List.mem_append_right _ (List.mem_append_left _ (List.mem_of_getElem? h1))
set_option maxRecDepth 100000 in
set_option maxHeartbeats 4000000 in
theorem g_Str_start {b : Addr} {s : State} (hts0 : ∀ w ∈ lw_tbl, w.before #[Value.ref b] s = true) (hgv : (Jvm.Cond.and given_1 narrow_1).before #[Value.ref b] s = true) : g_Str s.heap.size s := by
  have hs := flat_of_before _ hgv
  have hA : ∀ a : Nat, a < s.heap.size → ¬ g_A s.heap.size a := fun a h h2 => by
    have h2 : s.heap.size ≤ a := h2
    omega
  obtain ⟨adK, adV, hS, hev⟩ := vk_Sof (args := #[Value.ref b]) (s := s) (N := 1) (tm := fun _ => Term.string "GustHome$Reader" 120) (len := [15]) (byt := [j_by]) (A := g_A s.heap.size)
    (fun i hi => by
      obtain rfl : i = 0 := by omega
      decide)
    (fun i hi => hs _ (by decide +kernel)) (fun i hi => hs _ (by decide +kernel)) (fun i hi => hs _ (by decide +kernel))
    (fun i hi => by
      obtain rfl : i = 0 := by omega
      exact hs _ (by decide +kernel))
    (fun i hi j hj => by
      obtain rfl : i = 0 := by omega
      have hj : j < 15 := hj
      match j, hj with
      | 0, _ => exact hs _ (by decide +kernel)
      | 1, _ => exact hs _ (by decide +kernel)
      | 2, _ => exact hs _ (by decide +kernel)
      | 3, _ => exact hs _ (by decide +kernel)
      | 4, _ => exact hs _ (by decide +kernel)
      | 5, _ => exact hs _ (by decide +kernel)
      | 6, _ => exact hs _ (by decide +kernel)
      | 7, _ => exact hs _ (by decide +kernel)
      | 8, _ => exact hs _ (by decide +kernel)
      | 9, _ => exact hs _ (by decide +kernel)
      | 10, _ => exact hs _ (by decide +kernel)
      | 11, _ => exact hs _ (by decide +kernel)
      | 12, _ => exact hs _ (by decide +kernel)
      | 13, _ => exact hs _ (by decide +kernel)
      | 14, _ => exact hs _ (by decide +kernel)
      | n + 15, h => omega)
    (fun i j hi hj hne => by omega) hA
  have hZ : va_Z "java/lang/String" "COMPACT_STRINGS" "Z" (.int 1) (g_A s.heap.size) s s.heap := va_Zof (hts0 _ (j_tb3 (j := 134) rfl)) (hts0 _ (j_tb1 (j := 15) rfl)) (va_eqi (hs _ (by decide +kernel))) hA
  obtain ⟨h1, h2, h3, h4⟩ := hS.1 0 (by omega)
  exact ⟨adK 0, adV 0, ⟨h1, h2, h3, h4, hZ⟩, vk_R.of (hts0 _ (j_tb3 (j := 120) rfl)) (hev 0 (by omega))⟩
end Prt09c
section Prt10
noncomputable def g_Tok (mt : Nat → Option g_M) (M : g_M) : Prop := ∀ pc en, M.2.2.2.2.2 pc = some en → g_eOk mt M pc en
/-- a run of the pure machine is a run of the machine: a frame's body -/
noncomputable def g_Body (mt : Nat → Option g_M) (l : Launch) (D : va_G) (b sz : Nat) (dA : Nat → ClassId) (L : Nat) (xs : Nat → Int32) (n : Nat) : Prop :=
  ∀ (d : Nat) (M : g_M) (pc : Nat) (ls : g_Lc) (st : List Value) (σ : List g_Ce) (r : Option Value × List g_Ce), g_run mt L xs n d M pc ls st σ = some r → g_Tok mt M →
    ∀ (p : Program) (e : Env) (R : Room) (s : State) (m : MethodId) (args : Array Value) (below : List Frame) (meth : Method) (c : Code) (H : Heap) (locs : List Loc) (cells slots : Nat) (Q : State → Prop) (lsA : Array Slot),
      g_Fx M D b sz dA L xs p s m args meth c → lv_has lsA M.2.2.2.1 (g_cl2 b sz ls) → g_Hp D b sz dA σ H → va_S (g_A sz) s.heap H locs → d ≤ R.frames → d * 64 ≤ R.locals → cells + (r.2.length - σ.length) ≤ R.cells → slots + (g_sl r.2 - g_sl σ) ≤ R.slots →
      (∀ (pc' : Nat) (en : g_En) (st1 : List Value) (lsB : Array Slot) (H1 : Heap) (locs1 : List Loc), g_eOk mt M pc' en → g_rt en.1.1 M.2.2.2.2.1 st1 = some r.1 → g_Hp D b sz dA r.2 H1 → va_S (g_A sz) s.heap H1 locs1 → W p l e R s m args below meth c H1 locs1 (cells + (r.2.length - σ.length)) (slots + (g_sl r.2 - g_sl σ)) Q (F0 m pc' lsB (st1.map (g_cv b sz)))) →
      W p l e R s m args below meth c H locs cells slots Q (F0 m pc lsA (st.map (g_cv b sz)))
theorem g_rt_sw {ins : Instr} {ret : Option FieldType} {st : List Value} {r : Option Value} (h : g_rt ins ret st = some r) : g_sw ins = false := by
  unfold g_rt at h
  split at h <;> first | rfl | cases h
section GR
variable {p : Program} {l : Launch} {e : Env} {R : Room} {s : State} {m : MethodId} {args : Array Value} {below : List Frame} {meth : Method} {c : Code} {H : Heap} {locs : List Loc} {cells slots : Nat} {Q : State → Prop}
variable {pc : Nat} {lsA : Array Slot} {b sz : Nat} {D : va_G} {dA : Nat → ClassId} {σ : List g_Ce} {code : ByteArray} {ins : Instr} {len : Nat} {ret : Option FieldType} {st : List Value} {r : Option Value}
set_option maxHeartbeats 1000000 in
theorem g_ret_ok (hx : p.tables.exec = Jvm.exec) (hb : c.code = code) (hr : meth.sig.returnType = ret) (hlocks : meth.locks = false) (hdg : decode code pc = .ok (ins, len)) (hlen : len = g_len ins) (h : g_rt ins ret st = some r) (hH : g_Hp D b sz dA σ H) (hS : va_S (g_A sz) s.heap H locs) :
    W p l e R s m args below meth c H locs cells slots (MQ below (g_Qc D b sz dA r σ) args s cells slots (g_A sz)) (F0 m pc lsA (st.map (g_cv b sz))) := by
  subst hlen
  unfold g_rt at h
  split at h
  · cases h
    exact W.iret hx hb hr (fun t ht hW => ⟨rfl, by rw [ht]; exact hH, hS.F ht⟩) hS.2.2 hdg hlocks
  · split at h
    · rename_i hn
      cases h
      exact W.zret hx hb hr hn (fun t ht hW => ⟨rfl, by rw [ht]; exact hH, hS.F ht⟩) hS.2.2 hdg hlocks
    · cases h
  · split at h
    · rename_i hn
      cases h
      exact W.zret hx hb hr hn (fun t ht hW => ⟨rfl, by rw [ht]; exact hH, hS.F ht⟩) hS.2.2 hdg hlocks
    · cases h
  · split at h
    · rename_i hn
      cases h
      exact W.zret hx hb hr hn (fun t ht hW => ⟨rfl, by rw [ht]; exact hH, hS.F ht⟩) hS.2.2 hdg hlocks
    · cases h
  · cases h
    exact W.aret hx hb hr (Or.inl ⟨_, rfl⟩) (Or.inr ⟨_, rfl⟩) (fun t ht hW => ⟨rfl, by rw [ht]; exact hH, hS.F ht⟩) hS.2.2 hdg hlocks
  · cases h
    exact W.aret hx hb hr (Or.inl ⟨_, rfl⟩) (Or.inl rfl) (fun t ht hW => ⟨rfl, by rw [ht]; exact hH, hS.F ht⟩) hS.2.2 hdg hlocks
  · cases h
    exact W.vret hx hb hr (fun t ht hW => ⟨rfl, by rw [ht]; exact hH, hS.F ht⟩) hS.2.2 hdg hlocks
  · cases h
end GR
set_option maxHeartbeats 1000000 in
theorem g_met {mt : Nat → Option g_M} {l : Launch} {D : va_G} {b sz : Nat} {dA : Nat → ClassId} {L : Nat} {xs : Nat → Int32} {n : Nat} (hB : g_Body mt l D b sz dA L xs n) {d : Nat} {M : g_M} (hM : g_Mok mt M) {as : List Value} (hlen : (lg_sl as).length ≤ M.2.2.2.1) {σ : List g_Ce} {r : Option Value × List g_Ce} (h : g_run mt L xs n d M 0 (lv_args 0 as) [] σ = some r) (hbs : b < sz) :
    Met l M.2.1 (g_wsM M) (g_rmd d (r.2.length - σ.length) (g_sl r.2 - g_sl σ)) (g_Pc D b sz dA L xs as σ) (g_Qc D b sz dA r.1 r.2) (r.2.length - σ.length) (g_sl r.2 - g_sl σ) (g_A sz) := by
  refine Met.ofW (cc := M.2.2.1) (maxL := M.2.2.2.1) (ret := M.2.2.2.2.1) hM.1 rfl ?_
  intro p e s m args below meth c s₁ B hml hv
  obtain ⟨rfl, hH, hSt, hX, hStr⟩ := hv
  have hts := atoms_spec (ws := g_wsM M) B.pre
  have hown : s.vm.findClass M.1 = some m.cls := by rw [← hM.2.2.2.1]; exact findClass_of_methodNamed B.named
  have hnm := (name_of_methodNamed B.named B.method).1
  have hl := lv_entry (as.map (g_cv b sz)) (n := M.2.2.2.1) (by rw [g_lgsl]; exact hlen)
  rw [lg_entry_eq]
  generalize (lg_sl (as.map (g_cv b sz)) ++ List.replicate (M.2.2.2.1 - (lg_sl (as.map (g_cv b sz))).length) Slot.unset).toArray = ls at hl ⊢
  rw [g_lvargs] at hl
  refine hB d M 0 (lv_args 0 as) [] σ r h hM.2.2.2.2 p e _ s m _ below meth c s.heap [] 0 0 _ ls ⟨B.exec, B.bytes, hml, hown, fun w hw => hts w (List.mem_cons_of_mem _ hw), hSt, hX, hbs, by rw [hH.2]; exact Nat.le_add_right _ _, ⟨fun h => by rw [hnm]; exact h, hStr⟩⟩ hl hH va_S.rf (Nat.le_refl _) (Nat.le_refl _) (by rw [Nat.zero_add]; exact Nat.le_refl _) (by rw [Nat.zero_add]; exact Nat.le_refl _) ?_
  intro pc' en st1 lsB H1 locs1 hE hrt hH1 hS1
  rw [Nat.zero_add, Nat.zero_add]
  exact g_ret_ok B.exec B.bytes B.returns B.notSynchronized hE.1 (hE.2.1 (g_rt_sw hrt)) hrt hH1 hS1
theorem g_oi_ok {k : Nat} {st rest : List Value} (h : g_oi k st = some rest) : k = 2 ∧ g_cat rest ≤ 8 ∧ ∃ a, st = .ref a :: rest := by
  unfold g_oi at h
  split at h
  · simp only [cond_eq_ite] at h
    split at h
    · rename_i hc
      cases h
      exact ⟨rfl, by simpa using hc, _, rfl⟩
    · cases h
  · cases h
theorem g_ki_ok {ins : Instr} {k : Nat} (h : g_ki ins = some k) : g_sw ins = false ∧ g_len ins = 3 := by
  unfold g_ki at h
  split at h <;> first | exact ⟨rfl, rfl⟩ | cases h
theorem g_ki_2 {ins : Instr} (h : g_ki ins = some 2) : ∃ i, ins = .invokespecial i := by
  unfold g_ki at h
  split at h <;> first | (cases h; done) | exact ⟨_, rfl⟩
theorem g_stkeq (b sz y : Nat) (st : List Value) : st.map (g_cv b sz) = (((st.take y).reverse).map (g_cv b sz)).reverse ++ (st.drop y).map (g_cv b sz) := by
  rw [← List.map_reverse, List.reverse_reverse, ← List.map_append, List.take_append_drop]
theorem g_asl (b sz y : Nat) (st : List Value) (h : y ≤ st.length) : (((st.take y).reverse).map (g_cv b sz)).length = y := by
  rw [List.length_map, List.length_reverse, List.length_take]
  omega
section GV
variable {p : Program} {l : Launch} {e : Env} {R : Room} {s : State} {m : MethodId} {args : Array Value} {below : List Frame} {meth : Method} {c : Code} {H : Heap} {locs : List Loc} {cells slots : Nat} {Q : State → Prop}
variable {mt : Nat → Option g_M} {M M' : g_M} {pc L x y k mc ms : Nat} {xs : Nat → Int32} {lsA : Array Slot} {b sz : Nat} {D : va_G} {dA : Nat → ClassId} {σ : List g_Ce} {ins : Instr} {st : List Value} {q : List Value × List Value} {rm : Room} {Qc : Array Value → State → Outcome → State → Prop}
set_option maxHeartbeats 1000000 in
theorem g_calls (hF : g_Fx M D b sz dA L xs p s m args meth c) (hMk : g_Mok mt M') (hM' : mt x = some M') (hl : lsA.size = M.2.2.2.1) (e1 : decode M.2.2.1 pc = .ok (ins, 3)) (e6 : g_lkc mt M.1 x y ins) (hk : g_ki ins = some k) (hq : g_cl k y M'.1 st σ = some q) (hcat : g_cat q.2 ≤ 8)
    (hH : g_Hp D b sz dA σ H) (hpre : PreS s H (g_Pc D b sz dA L xs q.1 σ) (q.1.map (g_cv b sz))) (hmet : Met l M'.2.1 (g_wsM M') rm (g_Pc D b sz dA L xs q.1 σ) Qc mc ms (g_A sz)) (hrc : rm.cells = mc) (hrs : rm.slots = ms) (hRR : rm.frames + 1 ≤ R.frames ∧ 8 + (M'.2.2.2.1 + 11) + rm.locals ≤ R.locals) (hfit : cells + mc ≤ R.cells ∧ slots + ms ≤ R.slots) :
    va_Run p l e R s m args below meth c H locs cells slots mc ms (F0 m pc lsA (st.map (g_cv b sz))) (q.2.map (g_cv b sz)) (Qc (q.1.map (g_cv b sz)).toArray) (g_A sz) := by
  obtain ⟨hx, hb, hml, hown, hts, hSt, -, -, -, -⟩ := hF
  have hCF : CallFix p m c M.2.2.1 M.2.2.2.1 s args g_wk M.1 := ⟨hx, hb, hml, hown, hts⟩
  have hroomW : 2 * (F0 m pc lsA (st.map (g_cv b sz))).monitorRoom + ((q.2.map (g_cv b sz)).map fun v => v.category).sum ≤ 8 := lv_room (by rw [g_catcv]; exact hcat)
  have hgw := g_good M' hMk.2.2.1
  unfold g_ki at hk
  split at hk
  · cases hk
    obtain ⟨⟨lk, hini, hd⟩, hst⟩ := e6 M' hM'
    simp only [g_cl] at hq
    simp only [cond_eq_ite] at hq
    split at hq
    · rename_i hyl
      have hyl : y ≤ st.length := by simpa using hyl
      cases hq
      rcases lk with lk | ⟨host, lk⟩
      · exact va_runS hCF hmet ⟨callB_of y hts hgw rfl hrc hrs (hts _ hini) (hts _ lk) hd hRR, hts _ hst⟩ hpre rfl (g_asl b sz y st hyl) hl (g_stkeq b sz y st) hroomW e1 hfit
      · exact va_runSN hCF hmet ⟨va_cnB y hts hgw rfl hrc hrs (hSt.2.1 _ lk) (hts _ hini) hd hRR, hts _ hst, trivial⟩ hpre rfl (g_asl b sz y st hyl) hl (g_stkeq b sz y st) hroomW e1 hfit
    · cases hq
  · cases hk
    obtain ⟨⟨lk, hini, hd⟩, hin, hsel⟩ := e6 M' hM'
    simp only [g_cl] at hq
    split at hq
    · rename_i a rest hdr
      split at hq
      · rename_i ci fs hσ
        split at hq
        · rename_i qc hqc
          split at hq
          · rename_i hcc
            obtain ⟨hco, hyl⟩ := hcc
            cases hq
            have hstk : st.map (g_cv b sz) = (((st.take y).reverse).map (g_cv b sz)).reverse ++ (.ref (sz + a) :: rest.map (g_cv b sz)) := by
              have e7 : (st.drop y).map (g_cv b sz) = .ref (sz + a) :: rest.map (g_cv b sz) := by rw [hdr]; rfl
              rw [← e7]
              exact g_stkeq b sz y st
            have hrecv : ∃ cellB : Cell, H[sz + a]? = some cellB ∧ cellB.vm.isStatics = false ∧ s.vm.findClass M'.2.1.cls = some cellB.cls := by
              obtain ⟨r', hr', cellV, k1, k2, k3, -⟩ := hH.1 a _ (g_ws_at hσ)
              have hcls := (hSt.1.1 ci qc hqc).2
              refine ⟨cellV, k1, by rw [k3]; rfl, ?_⟩
              rw [hMk.2.2.2.1, ← hco, k2]
              exact hcls.1
            have hpreV : PreV s H M'.2.1.cls (sz + a) (g_Pc D b sz dA L xs (.ref (a + 1) :: (st.take y).reverse) σ) (((st.take y).reverse).map (g_cv b sz)) := ⟨hpre.1, hrecv, hpre.2⟩
            rcases lk with lk | ⟨host, lk⟩
            · exact va_runV (C := M'.2.1.cls) (b := sz + a) hCF hmet ⟨callB_of y hts hgw rfl hrc hrs (hts _ hini) (hts _ lk) hd hRR, hts _ hin, hts _ hsel⟩ hpreV rfl (g_asl b sz y st hyl) hl hstk hroomW e1 hfit
            · exact va_runVN (C := M'.2.1.cls) (b := sz + a) hCF hmet ⟨va_cnB y hts hgw rfl hrc hrs (hSt.2.1 _ lk) (hts _ hini) hd hRR, hts _ hin, hts _ hsel⟩ hpreV rfl (g_asl b sz y st hyl) hl hstk hroomW e1 hfit
          · cases hq
        · cases hq
      · cases hq
    · cases hq
  · cases hk
    obtain ⟨⟨lk, hini, hd⟩, hin1, hin, hrn⟩ := e6.2 M' hM'
    simp only [g_cl] at hq
    split at hq
    · rename_i a rest hdr
      simp only [cond_eq_ite] at hq
      split at hq
      · rename_i hyl
        have hyl : y ≤ st.length := by simpa using hyl
        cases hq
        have hstk : st.map (g_cv b sz) = (((st.take y).reverse).map (g_cv b sz)).reverse ++ (.ref (g_ad b sz a) :: rest.map (g_cv b sz)) := by
          have e7 : (st.drop y).map (g_cv b sz) = .ref (g_ad b sz a) :: rest.map (g_cv b sz) := by rw [hdr]; rfl
          rw [← e7]
          exact g_stkeq b sz y st
        have hwE : g_wsM M' = Cond.code M'.2.1 M'.2.2.1 M'.2.2.2.1 none :: g_wk := by rw [g_wsM, hrn]
        rcases lk with lk | ⟨host, lk⟩
        · exact va_runI (b := g_ad b sz a) hCF hmet ⟨callB_of y hts hgw hwE hrc hrs (hts _ hini) (hts _ lk) hd hRR, hin1, hts _ hin⟩ hpre rfl (g_asl b sz y st hyl) hl hstk hroomW e1 hfit
        · exact va_runIN (b := g_ad b sz a) hCF hmet ⟨va_cnB y hts hgw hwE hrc hrs (hSt.2.1 _ lk) (hts _ hini) hd hRR, hin1, hts _ hin⟩ hpre rfl (g_asl b sz y st hyl) hl hstk hroomW e1 hfit
      · cases hq
    · cases hq
  · cases hk
end GV
set_option maxHeartbeats 1000000 in
theorem g_mac_ok {M : g_M} {D : va_G} {b sz : Nat} {dA : Nat → ClassId} {L : Nat} {xs : Nat → Int32} {p : Program} {l : Launch} {e : Env} {R : Room} {s : State} {m : MethodId} {args : Array Value} {below : List Frame} {meth : Method} {c : Code} {H : Heap} {locs : List Loc} {cells slots : Nat} {Q : State → Prop} {d pc : Nat} {ls : g_Lc} {st st' : List Value} {lsA : Array Slot} (hF : g_Fx M D b sz dA L xs p s m args meth c) (hm : g_mac d M pc ls st = some st') (hl : lv_has lsA M.2.2.2.1 (g_cl2 b sz ls)) (hS : va_S (g_A sz) s.heap H locs) (hd1 : d ≤ R.frames) (hd2 : d * 64 ≤ R.locals) (hc1 : cells ≤ R.cells) (hc2 : slots ≤ R.slots) (k : ∀ locs1 : List Loc, va_S (g_A sz) s.heap H locs1 → W p l e R s m args below meth c H locs1 cells slots Q (F0 m 20 lsA (st'.map (g_cv b sz)))) : W p l e R s m args below meth c H locs cells slots Q (F0 m pc lsA (st.map (g_cv b sz))) := by
  unfold g_mac at hm
  split at hm
  · rename_i hc9
    obtain ⟨m1, m2, m3, rfl, m5, m6⟩ := hc9
    split at hm
    · rename_i v hv
      cases hm
      have hst : st = [] := List.isEmpty_iff.mp m5
      subst hst
      obtain ⟨hx, hb, hml, hown, hts, hSt, hX, hbs, hsz, hnm, kA, vA, hJ, hR⟩ := hF
      rw [m3] at hb
      rw [m1] at hown
      have hCF : CallFix p m c cX5_readFactor M.2.2.2.1 s args g_wk RX5 := ⟨hx, hb, hml, hown, hts⟩
      obtain ⟨k9, hk9⟩ := g_get_at hv hl
      have hat : lsA[2]? = some (.val (.int v)) := lv_at hl k9 hk9
      refine va_ldcS hx hb hown hR (show decode cX5_readFactor 13 = .ok (.ldc 120, 2) by decide +kernel) ?_
      refine lv_iload_n hx hb (show decode cX5_readFactor 15 = .ok (.iload_n 2, 1) by decide +kernel) rfl hat ?_
      refine lv_i2c hx hb (show decode cX5_readFactor 16 = .ok (.i2c, 1) by decide +kernel) rfl ?_
      refine j_callW (va_runV (C := "java/lang/String") (b := kA) (As := [.int ((v.toUInt32 % 65536).toInt32)]) (rest := []) hCF (j_indexOf1 (l := l) (sz := sz) (kA := kA) (vA := vA) ((v.toUInt32 % 65536).toInt32)) ⟨callB_of 1 hts (j_good (j_in3 (j := 124) rfl rfl)) rfl rfl rfl (hts _ (j_in1 (j := 15) rfl rfl)) (hts _ (j_in3 (j := 121) rfl rfl)) (by decide) ⟨by show 3 + 1 ≤ R.frames; omega, by show 8 + (2 + 11) + 3 * 64 ≤ R.locals; omega⟩, hts _ (j_in3 (j := 122) rfl rfl), hts _ (j_in3 (j := 123) rfl rfl)⟩ (j_preV hJ hS) rfl rfl hl.1 rfl (lv_room (Nat.le_of_ble_eq_true rfl)) (show decode cX5_readFactor 17 = .ok (.invokevirtual 122, 3) by decide +kernel) ⟨hc1, hc2⟩) hS (fun locs1 hS1 => ?_)
      rw [j_lx_eq]
      exact k locs1 hS1
    · cases hm
  · cases hm
set_option maxHeartbeats 4000000 in
theorem g_body {mt : Nat → Option g_M} (hmt : ∀ μ M, mt μ = some M → g_Mok mt M) (hcl : g_clsIn) (l : Launch) (D : va_G) (b sz : Nat) (dA : Nat → ClassId) (L : Nat) (xs : Nat → Int32) : ∀ n, g_Body mt l D b sz dA L xs n := by
  intro n
  induction n with
  | zero =>
    intro d M pc ls st σ r h
    simp [g_run] at h
  | succ n ih =>
    intro d M pc ls st σ r h hM p e R s m args below meth c H locs cells slots Q lsA hF hl hH hS hd1 hd2 hr1 hr2 hret
    unfold g_run at h
    split at h
    · split at h
      · rename_i st' hmac
        exact g_mac_ok hF hmac hl hS hd1 hd2 (by omega) (by omega) (fun locs1 hS1 => ih _ _ _ _ _ _ _ h hM p e R s m args below meth c H locs1 cells slots Q lsA hF hl hH hS1 hd1 hd2 hr1 hr2 hret)
      · cases h
    · rename_i en hen
      have hE := hM pc en hen
      split at h
      · rename_i q hs
        obtain ⟨g11, g12⟩ := g_step_grow hs
        obtain ⟨g21, g22⟩ := g_run_grow _ _ _ _ _ _ _ _ _ _ _ h
        have ec : cells + (q.2.2.2.length - σ.length) + (r.2.length - q.2.2.2.length) = cells + (r.2.length - σ.length) := by omega
        have es : slots + (g_sl q.2.2.2 - g_sl σ) + (g_sl r.2 - g_sl q.2.2.2) = slots + (g_sl r.2 - g_sl σ) := by omega
        refine g_step_ok hcl hF hE hl hH hS hd1 hd2 hs (by omega) (by omega) (fun lsB H1 locs1 hlB hH1 hS1 => ?_)
        refine ih _ _ _ _ _ _ _ h hM p e R s m args below meth c H1 locs1 _ _ Q lsB hF hlB hH1 hS1 hd1 hd2 (by omega) (by omega) ?_
        rw [ec, es]
        exact hret
      · split at h
        · rename_i r0 hrt
          cases h
          have h9 := hret pc en st lsA H locs hE hrt hH hS
          rw [Nat.sub_self, Nat.sub_self] at h9
          exact h9
        · split at h
          · cases h
          · rename_i k hk
            obtain _ | d' := d
            · cases h
            · dsimp only at h
              have hki := g_ki_ok hk
              obtain ⟨⟨ins, len⟩, x, y, z⟩ := en
              have hl3 : len = 3 := (hE.2.1 hki.1).trans hki.2
              subst hl3
              dsimp only at h hk
              cases hxe : (x == 99999) with
              | true =>
                rw [hxe] at h
                dsimp only [cond_true] at h
                split at h
                · rename_i rest hoi
                  obtain ⟨rfl, hcat, a, rfl⟩ := g_oi_ok hoi
                  obtain ⟨i, rfl⟩ := g_ki_2 hk
                  obtain ⟨w1, w2, w3⟩ := hE.2.2.2.2.2.1 (by simpa using hxe)
                  have hF2 := hF
                  obtain ⟨hx, hb, hml, hown, hts, -⟩ := hF2
                  refine W.objInit hx hb hown (hts _ w1) (hts _ w2) (hts _ w3) rfl (by rw [hml]; exact hl.1) rfl hE.1 (by omega) (by
                    show 2 * 0 + ((rest.map (g_cv b sz)).map fun v => v.category).sum + 12 ≤ _
                    rw [g_catcv]
                    omega) ?_
                  exact ih _ _ _ _ _ _ _ h hM p e R s m args below meth c H locs cells slots Q lsA hF hl hH hS hd1 hd2 hr1 hr2 hret
                · cases h
              | false =>
                rw [hxe] at h
                dsimp only [cond_false] at h
                split at h
                · cases h
                · rename_i M' hM'
                  have hMk := hmt _ _ hM'
                  split at h
                  · cases h
                  · rename_i q hq
                    cases hcond : (decide (g_cat q.2 ≤ 8) && decide ((lg_sl q.1).length ≤ M'.2.2.2.1)) with
                    | false => rw [hcond] at h; cases h
                    | true =>
                      rw [hcond] at h
                      dsimp only [cond_true] at h
                      rw [Bool.and_eq_true, decide_eq_true_eq, decide_eq_true_eq] at hcond
                      obtain ⟨hcat, hlgs⟩ := hcond
                      split at h
                      · cases h
                      · rename_i w hw
                        obtain ⟨g11, g12⟩ := g_run_grow _ _ _ _ _ _ _ _ _ _ _ hw
                        obtain ⟨g21, g22⟩ := g_run_grow _ _ _ _ _ _ _ _ _ _ _ h
                        have ec : cells + (w.2.length - σ.length) + (r.2.length - w.2.length) = cells + (r.2.length - σ.length) := by omega
                        have es : slots + (g_sl w.2 - g_sl σ) + (g_sl r.2 - g_sl w.2) = slots + (g_sl r.2 - g_sl σ) := by omega
                        have hF2 := hF
                        obtain ⟨hx, hb, hml, hown, hts, hSt, hX, hbs, hsz, hnm, hStr⟩ := hF2
                        have hmet := g_met (l := l) ih hMk hlgs hw hbs
                        have hz45 := hMk.2.1
                        refine g_callW (g_calls hF hMk hM' hl.1 hE.1 hE.2.2.2.2.2 hk hq hcat hH (g_preS hSt hX hbs hsz hStr hH hS) hmet rfl rfl ⟨hd1, ?_⟩ ⟨by omega, by omega⟩) hS (fun H1 locs1 hH1 hS1 => ?_)
                        · show 8 + (M'.2.2.2.1 + 11) + d' * 64 ≤ R.locals
                          omega
                        · have e9 : (Option.map (g_cv b sz) w.1).toList ++ q.2.map (g_cv b sz) = (w.1.toList ++ q.2).map (g_cv b sz) := by
                            rw [List.map_append]
                            cases w.1 <;> rfl
                          rw [e9]
                          refine ih _ _ _ _ _ _ _ h hM p e R s m args below meth c H1 locs1 _ _ Q lsA hF hl hH1 hS1 hd1 hd2 (by omega) (by omega) ?_
                          rw [ec, es]
                          exact hret
end Prt10
