/-! an abstract machine over the same tables: ints are constants or symbols with bounds; every road is gone -/
abbrev q_N : Type := Int ⊕ Nat
abbrev q_V : Type := q_N ⊕ q_N ⊕ Option Nat
abbrev q_C : Type := (Nat × Nat × List (Nat × q_N)) ⊕ (Nat × List (Nat × Option Nat)) ⊕ (Nat × List q_V)
abbrev q_E : Type := Int × Int × Nat × q_N × q_N
abbrev q_S : Type := List q_E
abbrev q_H : Type := List (List q_C)
abbrev q_A : Type := q_S × Nat × q_H
abbrev q_L : Type := List (Nat × q_V)
noncomputable def q_nth {α : Type} (l : List α) (i : Nat) : Option α := List.rec (motive := fun _ => Nat → Option α) (fun _ => none) (fun h _ ih i => Nat.casesOn i (some h) (fun j => ih j)) l i
noncomputable def q_put {α : Type} (l : List α) (i : Nat) (v : α) : List α := List.rec (motive := fun _ => Nat → List α) (fun _ => []) (fun h t ih i => Nat.casesOn i (v :: t) (fun j => h :: ih j)) l i
noncomputable def q_len {α : Type} (l : List α) : Nat := List.rec (motive := fun _ => Nat) 0 (fun _ _ ih => Nat.succ ih) l
noncomputable def q_app {α : Type} (l : List α) (v : α) : List α := List.rec (motive := fun _ => List α) [v] (fun h _ ih => h :: ih) l
noncomputable def q_at {α : Type} (d : α) (l : List (Nat × α)) (j : Nat) : α := List.rec (motive := fun _ => α) d (fun h _ ih => bif Nat.beq h.1 j then h.2 else ih) l
noncomputable def q_ins {α : Type} (l : List (Nat × α)) (j : Nat) (v : α) : List (Nat × α) := List.rec (motive := fun _ => List (Nat × α)) [(j, v)] (fun h t ih => bif Nat.beq h.1 j then (j, v) :: t else h :: ih) l
/-- the store: rows of sixteen cells -/
noncomputable def q_get (rows : q_H) (a : Nat) : Option q_C := match q_nth rows (a / 16) with
  | some r => q_nth r (a % 16)
  | none => none
noncomputable def q_wr (rows : q_H) (a : Nat) (c : q_C) : q_H := match q_nth rows (a / 16) with
  | some r => q_put rows (a / 16) (q_put r (a % 16) c)
  | none => rows
noncomputable def q_push (rows : q_H) (n : Nat) (c : q_C) (k : q_H → Bool) : Bool := bif Nat.beq (n % 16) 0 then (bif Nat.beq (q_len rows) (n / 16) then k (q_app rows [c]) else false) else match q_nth rows (n / 16) with
  | some r => bif Nat.beq (q_len r) (n % 16) then k (q_put rows (n / 16) (q_app r c)) else false
  | none => false
def q_ilt (a b : Int) : Bool := match a, b with
  | .ofNat m, .ofNat n => Nat.blt m n
  | .negSucc _, .ofNat _ => true
  | .ofNat _, .negSucc _ => false
  | .negSucc m, .negSucc n => Nat.blt n m
def q_ile (a b : Int) : Bool := match a, b with
  | .ofNat m, .ofNat n => Nat.ble m n
  | .negSucc _, .ofNat _ => true
  | .ofNat _, .negSucc _ => false
  | .negSucc m, .negSucc n => Nat.ble n m
def q_ieq (a b : Int) : Bool := match a, b with
  | .ofNat m, .ofNat n => Nat.beq m n
  | .negSucc m, .negSucc n => Nat.beq m n
  | _, _ => false
def q_F (op : Nat) (x y : Int32) : Int32 := match op with
  | 1 => x + y
  | 2 => x - y
  | 3 => x * y
  | 4 => x &&& y
  | 5 => x ||| y
  | 6 => x ^^^ y
  | 7 => x <<< (y &&& 31)
  | 8 => x >>> (y &&& 31)
  | 9 => (x.toUInt32 >>> (y.toUInt32 &&& Int32.toUInt32 31)).toInt32
  | 10 => x / y
  | _ => x - x / y * y
noncomputable def q_iv (env : q_S) (a : q_N) : Int × Int := match a with
  | .inl c => (c, c)
  | .inr k => match q_nth env k with
    | some e => (e.1, e.2.1)
    | none => (0, 0)
noncomputable def q_c (env : q_S) (a : q_N) : Option Int := match a with
  | .inl c => some c
  | .inr k => match q_nth env k with
    | some e => bif (q_ieq e.1 e.2.1) then some e.1 else none
    | none => none
noncomputable def q_bd (env : q_S) (k : Nat) (lo hi : Int) : q_S := match q_nth env k with
  | some e => q_put env k (lo, hi, e.2.2)
  | none => env
def q_ivop (op : Nat) (p q : Int × Int) : Int × Int := match op with
  | 1 => bif (q_ile (-2147483648) (p.1 + q.1)) && (q_ile (p.2 + q.2) 2147483647) then (p.1 + q.1, p.2 + q.2) else (-2147483648, 2147483647)
  | 2 => bif (q_ile (-2147483648) (p.1 - q.2)) && (q_ile (p.2 - q.1) 2147483647) then (p.1 - q.2, p.2 - q.1) else (-2147483648, 2147483647)
  | 3 => bif (q_ile 0 p.1) && ((q_ile 0 q.1) && (q_ile (p.2 * q.2) 2147483647)) then (p.1 * q.1, p.2 * q.2) else (-2147483648, 2147483647)
  | 4 => bif (q_ile 0 q.1) then (0, q.2) else bif (q_ile 0 p.1) then (0, p.2) else (-2147483648, 2147483647)
  | _ => (-2147483648, 2147483647)
def q_nb (a b : q_N) : Bool := match a, b with
  | .inl x, .inl y => (q_ieq x y)
  | .inr x, .inr y => Nat.beq x y
  | _, _ => false
/-- a symbol that was made by the same operation -/
noncomputable def q_cse (env : q_S) (op : Nat) (a b : q_N) : Option Nat := List.rec (motive := fun _ => Nat → Option Nat) (fun _ => none) (fun h _ ih k => bif Nat.beq h.2.2.1 op && (q_nb h.2.2.2.1 a && q_nb h.2.2.2.2 b) then some k else ih (Nat.succ k)) env 0
noncomputable def q_new (env : q_S) (e : q_E) (k : q_N → q_S → Bool) : Bool := k (.inr (q_len env)) (q_app env e)
def q_nrm (z : Int) : Int := bif (q_ile (-2147483648) z) && (q_ile z 2147483647) then z else (Int32.ofInt z).toInt
def q_fold (op : Nat) (x y : Int) : Int := bif Nat.beq op 1 then q_nrm (x + y) else bif Nat.beq op 2 then q_nrm (x - y) else (q_F op (Int32.ofInt x) (Int32.ofInt y)).toInt
noncomputable def q_bin3 (op : Nat) (a b : q_N) (env : q_S) (k : q_N → q_S → Bool) : Bool := match q_cse env op a b with
  | some s => k (.inr s) env
  | none => q_new env ((q_ivop op (q_iv env a) (q_iv env b)).1, (q_ivop op (q_iv env a) (q_iv env b)).2, op, a, b) k
def q_is (o : Option Int) (c : Int) : Bool := match o with
  | some x => (q_ieq x c)
  | none => false
noncomputable def q_bin2 (op : Nat) (a b : q_N) (env : q_S) (k : q_N → q_S → Bool) : Bool := match q_c env a with
  | some x => (match q_c env b with
    | some y => k (.inl (q_fold op x y)) env
    | none => bif Nat.beq op 4 && (q_ieq x 0) then k (.inl 0) env else bif Nat.beq op 4 && (q_ieq x (-1)) then k b env else q_bin3 op a b env k)
  | none => (match q_c env b with
    | some y => bif Nat.beq op 4 && (q_ieq y 0) then k (.inl 0) env else bif Nat.beq op 4 && (q_ieq y (-1)) then k a env else q_bin3 op a b env k
    | none => q_bin3 op a b env k)
/-- a number that must be known: each of its values is a road -/
noncomputable def q_en (s : Nat) (hi : Int) (env : q_S) (k : Int → q_S → Bool) (fuel : Nat) : Int → Bool := Nat.rec (motive := fun _ => Int → Bool) (fun _ => false) (fun _ ih lo => k lo (q_bd env s lo lo) && (bif (q_ile hi lo) then true else ih (lo + 1))) fuel
noncomputable def q_need (a : q_N) (env : q_S) (k : Int → q_S → Bool) : Bool := match a with
  | .inl c => k c env
  | .inr s => q_en s (q_iv env a).2 env k 64 (q_iv env a).1
def q_shift (op : Nat) : Bool := Nat.beq op 7 || (Nat.beq op 8 || Nat.beq op 9)
noncomputable def q_bin (op : Nat) (a b : q_N) (env : q_S) (k : q_N → q_S → Bool) : Bool := bif q_shift op then (bif q_is (q_c env a) 0 then k (.inl 0) env else q_need b env (fun y env' => q_bin2 op a (.inl y) env' k)) else q_bin2 op a b env k
noncomputable def q_lt (a b : q_N) (env : q_S) (kt kf : q_S → Bool) : Bool :=
  bif (q_ilt ((q_iv env a).2) ((q_iv env b).1)) then kt env else bif (q_ile ((q_iv env b).2) ((q_iv env a).1)) then kf env else
  match a, b with
  | .inr s, .inl c => kt (q_bd env s (q_iv env a).1 (c - 1)) && kf (q_bd env s c (q_iv env a).2)
  | .inl c, .inr s => kt (q_bd env s (c + 1) (q_iv env b).2) && kf (q_bd env s (q_iv env b).1 c)
  | .inr s, .inr _ => kt (q_bd env s (q_iv env a).1 (bif (q_ilt ((q_iv env b).2 - 1) (q_iv env a).2) then (q_iv env b).2 - 1 else (q_iv env a).2)) && kf env
  | _, _ => kt env && kf env
noncomputable def q_eq3 (s : Nat) (lo hi c : Int) (env : q_S) (kt kf : q_S → Bool) : Bool :=
  kt (q_bd env s c c) && ((bif (q_ilt lo c) then kf (q_bd env s lo (c - 1)) else true) && (bif (q_ilt c hi) then kf (q_bd env s (c + 1) hi) else true))
noncomputable def q_eq (a b : q_N) (env : q_S) (kt kf : q_S → Bool) : Bool :=
  bif q_nb a b then kt env else
  bif (q_ilt ((q_iv env a).2) ((q_iv env b).1)) then kf env else bif (q_ilt ((q_iv env b).2) ((q_iv env a).1)) then kf env else
  match q_c env a, q_c env b with
  | some x, some y => bif (q_ieq x y) then kt env else kf env
  | none, some y => (match a with
    | .inr s => q_eq3 s (q_iv env a).1 (q_iv env a).2 y env kt kf
    | .inl _ => false)
  | some x, none => (match b with
    | .inr s => q_eq3 s (q_iv env b).1 (q_iv env b).2 x env kt kf
    | .inl _ => false)
  | none, none => kt env && kf env
noncomputable def q_idx (a : q_N) (n : Nat) (env : q_S) (k : Nat → q_S → Bool) : Bool := bif (q_ile 0 ((q_iv env a).1)) && (q_ilt ((q_iv env a).2) ((n : Int))) then q_need a env (fun c env' => k c.toNat env') else false
noncomputable def q_gl (ls : q_L) (i : Nat) : Option q_V := List.rec (motive := fun _ => Option q_V) none (fun h _ ih => bif Nat.beq h.1 i then some h.2 else ih) ls
def q_ct (v : q_V) : Nat := match v with
  | .inr (.inl _) => 2
  | _ => 1
noncomputable def q_fl (ls : q_L) (i : Nat) : q_L := List.rec (motive := fun _ => q_L) [] (fun h _ ih => bif Nat.beq h.1 i || (Nat.beq (h.1 + 1) i && Nat.beq (q_ct h.2) 2) then ih else h :: ih) ls
noncomputable def q_sl (ls : q_L) (i : Nat) (v : q_V) : q_L := (i, v) :: q_fl ls i
def q_fits (ty : FieldType) (v : q_V) (env : q_S) (iv : q_S → q_N → Int × Int) : Bool := match ty, v with
  | .int, .inl _ => true
  | .boolean, .inl a => (q_ile 0 ((iv env a).1)) && (q_ile ((iv env a).2) 1)
  | .object _, .inr (.inr _) => true
  | .array _, .inr (.inr _) => true
  | _, _ => false
def q_dv (ty : FieldType) : q_V := match ty with
  | .long => .inr (.inl (.inl 0))
  | .object _ => .inr (.inr none)
  | .array _ => .inr (.inr none)
  | _ => .inl (.inl 0)
def q_df (ci : Nat) : List q_V := (List.range (g_nf ci)).map (fun j => q_dv (g_ty ci j))
noncomputable def q_cpy (n : Nat) (sp dp : Nat) (f : List (Nat × q_N)) (g : List (Nat × q_N)) : List (Nat × q_N) := Nat.rec (motive := fun _ => List (Nat × q_N)) g (fun k ih => q_ins ih (dp + k) (q_at (.inl 0) f (sp + k))) n
noncomputable def q_lsl (l : List q_V) : Nat := List.rec (motive := fun _ => Nat) 0 (fun h _ ih => q_ct h + ih) l
noncomputable def q_args (i : Nat) (l : List q_V) : q_L := List.rec (motive := fun _ => Nat → q_L) (fun _ => []) (fun h _ ih i => (i, h) :: ih (i + q_ct h)) l i
/-- the first n of a stack, the last of them first; and the rest -/
noncomputable def q_tk (n : Nat) (l : List q_V) (k : List q_V → List q_V → Bool) : Bool := Nat.rec (motive := fun _ => List q_V → List q_V → Bool) (fun acc r => k acc r) (fun _ ih acc r => match r with
  | [] => false
  | h :: t => ih (h :: acc) t) n [] l
abbrev q_K : Type := Option q_V → q_A → Bool
abbrev q_Ih : Type := Nat → g_M → Nat → q_L → List q_V → q_A → q_K → Bool
abbrev q_Hk : Type := Nat → Nat → List q_V → q_A → q_K → Option Bool
noncomputable def q_b1 (cmp : q_N → q_N → q_S → (q_S → Bool) → (q_S → Bool) → Bool) (st : List q_V) (A : q_A) (kt kf : List q_V → q_A → Bool) : Bool := match st with
  | .inl a :: r => cmp a (.inl 0) A.1 (fun e => kt r (e, A.2)) (fun e => kf r (e, A.2))
  | _ => false
noncomputable def q_b2 (cmp : q_N → q_N → q_S → (q_S → Bool) → (q_S → Bool) → Bool) (st : List q_V) (A : q_A) (kt kf : List q_V → q_A → Bool) : Bool := match st with
  | .inl b :: .inl a :: r => cmp a b A.1 (fun e => kt r (e, A.2)) (fun e => kf r (e, A.2))
  | _ => false
noncomputable def q_i2 (op : Nat) (st : List q_V) (A : q_A) (k : List q_V → q_A → Bool) : Bool := match st with
  | .inl b :: .inl a :: r => q_bin op a b A.1 (fun v e => k (.inl v :: r) (e, A.2))
  | _ => false
noncomputable def q_d2 (op : Nat) (st : List q_V) (A : q_A) (k : List q_V → q_A → Bool) : Bool := match st with
  | .inl b :: .inl a :: r => q_eq b (.inl 0) A.1 (fun _ => false) (fun e => q_bin op a b e (fun v e => k (.inl v :: r) (e, A.2)))
  | _ => false
noncomputable def q_u1 (lo hi : Int) (f : Int32 → Int32) (st : List q_V) (A : q_A) (k : List q_V → q_A → Bool) : Bool := match st with
  | .inl a :: r => (match q_c A.1 a with
    | some x => k (.inl (.inl (f (Int32.ofInt x)).toInt) :: r) A
    | none => q_new A.1 (lo, hi, 0, .inl 0, .inl 0) (fun v e => k (.inl v :: r) (e, A.2)))
  | _ => false
noncomputable def q_gf (x y : Nat) (st : List q_V) (A : q_A) (k : List q_V → q_A → Bool) : Bool := match st with
  | .inr (.inr (some (Nat.succ a))) :: r => (bif Nat.blt a A.2.1 then (match q_get A.2.2 a with
    | some (.inr (.inr (ci, fs))) => bif Nat.beq ci x then (match q_nth fs y with
      | some v => k (v :: r) A
      | none => false) else false
    | _ => false) else false)
  | _ => false
noncomputable def q_pf (x y : Nat) (st : List q_V) (A : q_A) (k : List q_V → q_A → Bool) : Bool := match st with
  | v :: .inr (.inr (some (Nat.succ a))) :: r => (bif Nat.blt a A.2.1 then (match q_get A.2.2 a with
    | some (.inr (.inr (ci, fs))) => bif Nat.beq ci x && (Nat.blt y (q_len fs) && q_fits (g_ty x y) v A.1 q_iv) then k r (A.1, A.2.1, q_wr A.2.2 a (.inr (.inr (ci, q_put fs y v)))) else false
    | _ => false) else false)
  | _ => false
noncomputable def q_al (L : Nat) (st : List q_V) (A : q_A) (k : List q_V → q_A → Bool) : Bool := match st with
  | .inr (.inr (some 0)) :: r => k (.inl (.inl (L : Int)) :: r) A
  | .inr (.inr (some (Nat.succ a))) :: r => (bif Nat.blt a A.2.1 then (match q_get A.2.2 a with
    | some (.inl (t, n, _)) => bif Nat.blt t 4 && Nat.blt n 100001 then k (.inl (.inl (n : Int)) :: r) A else false
    | some (.inr (.inl (n, _))) => bif Nat.blt n 100001 then k (.inl (.inl (n : Int)) :: r) A else false
    | _ => false) else false)
  | _ => false
noncomputable def q_ia (scr : List q_N) (st : List q_V) (A : q_A) (k : List q_V → q_A → Bool) : Bool := match st with
  | .inl i :: .inr (.inr (some 0)) :: r => q_idx i (q_len scr) A.1 (fun j e => match q_nth scr j with
    | some v => k (.inl v :: r) (e, A.2)
    | none => false)
  | .inl i :: .inr (.inr (some (Nat.succ a))) :: r => (bif Nat.blt a A.2.1 then (match q_get A.2.2 a with
    | some (.inl (0, n, ups)) => q_idx i n A.1 (fun j e => k (.inl (q_at (.inl 0) ups j) :: r) (e, A.2))
    | _ => false) else false)
  | _ => false
noncomputable def q_ba (st : List q_V) (A : q_A) (k : List q_V → q_A → Bool) : Bool := match st with
  | .inl i :: .inr (.inr (some (Nat.succ a))) :: r => (bif Nat.blt a A.2.1 then (match q_get A.2.2 a with
    | some (.inl (1, n, ups)) => q_idx i n A.1 (fun j e => k (.inl (q_at (.inl 0) ups j) :: r) (e, A.2))
    | some (.inl (2, n, ups)) => q_idx i n A.1 (fun j e => k (.inl (q_at (.inl 0) ups j) :: r) (e, A.2))
    | _ => false) else false)
  | _ => false
noncomputable def q_aa (st : List q_V) (A : q_A) (k : List q_V → q_A → Bool) : Bool := match st with
  | .inl i :: .inr (.inr (some (Nat.succ a))) :: r => (bif Nat.blt a A.2.1 then (match q_get A.2.2 a with
    | some (.inr (.inl (n, ups))) => q_idx i n A.1 (fun j e => k (.inr (.inr (q_at none ups j)) :: r) (e, A.2))
    | _ => false) else false)
  | _ => false
noncomputable def q_ist (st : List q_V) (A : q_A) (k : List q_V → q_A → Bool) : Bool := match st with
  | .inl v :: .inl i :: .inr (.inr (some (Nat.succ a))) :: r => (bif Nat.blt a A.2.1 then (match q_get A.2.2 a with
    | some (.inl (0, n, ups)) => q_idx i n A.1 (fun j e => k r (e, A.2.1, q_wr A.2.2 a (.inl (0, n, q_ins ups j v))))
    | _ => false) else false)
  | _ => false
noncomputable def q_bst (st : List q_V) (A : q_A) (k : List q_V → q_A → Bool) : Bool := match st with
  | .inl v :: .inl i :: .inr (.inr (some (Nat.succ a))) :: r => (bif Nat.blt a A.2.1 then (match q_get A.2.2 a with
    | some (.inl (1, n, ups)) => bif (q_ile (-128) ((q_iv A.1 v).1)) && (q_ile ((q_iv A.1 v).2) 127) then q_idx i n A.1 (fun j e => k r (e, A.2.1, q_wr A.2.2 a (.inl (1, n, q_ins ups j v)))) else false
    | some (.inl (2, n, ups)) => bif (q_ile 0 ((q_iv A.1 v).1)) && (q_ile ((q_iv A.1 v).2) 1) then q_idx i n A.1 (fun j e => k r (e, A.2.1, q_wr A.2.2 a (.inl (2, n, q_ins ups j v)))) else false
    | _ => false) else false)
  | _ => false
noncomputable def q_ast (st : List q_V) (A : q_A) (k : List q_V → q_A → Bool) : Bool := match st with
  | .inr (.inr (some (Nat.succ v))) :: .inl i :: .inr (.inr (some (Nat.succ a))) :: r => (bif Nat.blt a A.2.1 && Nat.blt v A.2.1 then (match q_get A.2.2 a with
    | some (.inr (.inl (n, ups))) => (match q_get A.2.2 v with
      | some (.inr (.inr (9, _))) => q_idx i n A.1 (fun j e => k r (e, A.2.1, q_wr A.2.2 a (.inr (.inl (n, q_ins ups j (some (v + 1)))))))
      | _ => false)
    | _ => false) else false)
  | _ => false
noncomputable def q_cp (d : Nat) (st : List q_V) (A : q_A) (k : List q_V → q_A → Bool) : Bool := match st with
  | .inl (.inl n) :: .inl (.inl dp) :: .inr (.inr (some (Nat.succ a))) :: .inl (.inl sp) :: .inr (.inr (some (Nat.succ a0))) :: r => (bif Nat.blt a A.2.1 && (Nat.blt a0 A.2.1 && Nat.blt 0 d) then (match q_get A.2.2 a0 with
    | some (.inl (0, n0, f)) => (match q_get A.2.2 a with
      | some (.inl (0, n1, g)) => bif ((q_ile 0 sp) && ((q_ile 0 dp) && (q_ile 0 n))) && ((Nat.ble (sp.toNat + n.toNat) n0 && Nat.ble (dp.toNat + n.toNat) n1) && Nat.ble (q_lsl r) 8) then k r (A.1, A.2.1, q_wr A.2.2 a (.inl (0, n1, q_cpy n.toNat sp.toNat dp.toNat f g))) else false
      | _ => false)
    | _ => false) else false)
  | _ => false
noncomputable def q_mx (d : Nat) (st : List q_V) (A : q_A) (k : List q_V → q_A → Bool) : Bool := match st with
  | .inl b :: .inl a :: r => bif Nat.ble (q_lsl r) 8 && Nat.blt 0 d then q_lt a b A.1 (fun e => k (.inl b :: r) (e, A.2)) (fun e => k (.inl a :: r) (e, A.2)) else false
  | _ => false
noncomputable def q_na (t : ArrayType) (st : List q_V) (A : q_A) (k : List q_V → q_A → Bool) : Bool := match st with
  | .inl (.inl n) :: r => (match g_tag t with
    | some g => bif (q_ile 0 n) && (q_ile n 100000) then q_push A.2.2 A.2.1 (.inl (g, n.toNat, [])) (fun rows => k (.inr (.inr (some (Nat.succ A.2.1))) :: r) (A.1, Nat.succ A.2.1, rows)) else false
    | none => false)
  | _ => false
noncomputable def q_an (st : List q_V) (A : q_A) (k : List q_V → q_A → Bool) : Bool := match st with
  | .inl (.inl n) :: r => bif (q_ile 0 n) && (q_ile n 100000) then q_push A.2.2 A.2.1 (.inr (.inl (n.toNat, []))) (fun rows => k (.inr (.inr (some (Nat.succ A.2.1))) :: r) (A.1, Nat.succ A.2.1, rows)) else false
  | _ => false
noncomputable def q_cm (st : List q_V) (A : q_A) (k : List q_V → q_A → Bool) : Bool := match st with
  | .inr (.inl y) :: .inr (.inl x) :: r => q_lt y x A.1 (fun e => k (.inl (.inl 1) :: r) (e, A.2)) (fun e => q_eq x y e (fun e => k (.inl (.inl 0) :: r) (e, A.2)) (fun e => k (.inl (.inl (-1)) :: r) (e, A.2)))
  | _ => false
noncomputable def q_ld (kd : Nat) (ls : q_L) (i : Nat) (st : List q_V) (k : List q_V → Bool) : Bool := match q_gl ls i with
  | some (.inl v) => bif Nat.beq kd 0 then k (.inl v :: st) else false
  | some (.inr (.inl v)) => bif Nat.beq kd 2 then k (.inr (.inl v) :: st) else false
  | some (.inr (.inr v)) => bif Nat.beq kd 1 then k (.inr (.inr v) :: st) else false
  | _ => false
noncomputable def q_st (kd nL : Nat) (ls : q_L) (i : Nat) (st : List q_V) (k : q_L → List q_V → Bool) : Bool := match st with
  | .inl v :: r => bif Nat.beq kd 0 && Nat.blt i nL then k (q_sl ls i (.inl v)) r else false
  | .inr (.inr v) :: r => bif Nat.beq kd 1 && Nat.blt i nL then k (q_sl ls i (.inr (.inr v))) r else false
  | _ => false
noncomputable def q_inc (nL : Nat) (ls : q_L) (i : Nat) (n : Int) (A : q_A) (k : q_L → q_A → Bool) : Bool := match q_gl ls i with
  | some (.inl v) => bif Nat.blt i nL && Nat.blt n.natAbs 32768 then q_bin 1 v (.inl n) A.1 (fun w e => k (q_sl ls i (.inl w)) (e, A.2)) else false
  | _ => false
noncomputable def q_ts (pc : Nat) (a : q_N) (r : List q_V) (lo : Int) (offs : List Int) (d : Int) (A : q_A) (k : Nat → List q_V → q_A → Bool) : Bool :=
  List.rec (motive := fun _ => Int → q_S → Bool) (fun _ e => k ((pc : Int) + d).toNat r (e, A.2)) (fun o _ ih c e => q_eq a (.inl c) e (fun e => k ((pc : Int) + o).toNat r (e, A.2)) (fun e => ih (c + 1) e)) offs lo A.1
/-- the answer of a method -/
noncomputable def q_rt (ins : Instr) (ret : Option FieldType) (st : List q_V) (A : q_A) (K : q_K) : Bool := match ins, ret, st with
  | .ireturn, some .int, [.inl v] => K (some (.inl v)) A
  | .ireturn, some .boolean, [.inl v] => bif (q_ile 0 ((q_iv A.1 v).1)) && (q_ile ((q_iv A.1 v).2) 1) then K (some (.inl v)) A else false
  | .areturn, some (.object _), [.inr (.inr v)] => K (some (.inr (.inr v))) A
  | .return_, none, [] => K none A
  | _, _, _ => false
def q_pr (v : Option q_V) (r : List q_V) : List q_V := match v with
  | some v => v :: r
  | none => r
noncomputable def q_rcv (A : q_A) (a x : Nat) : Bool := match q_get A.2.2 a with
  | some (.inr (.inr (ci, _))) => (match q_nth g_oc x with
    | some o => Nat.beq ci o && Nat.blt ci 13
    | none => false)
  | _ => false
/-- a callee's road: by a hook, or gone -/
noncomputable def q_ivc (hk : q_Hk) (ih : q_Ih) (d' x : Nat) (M' : g_M) (A : q_A) (as : List q_V) (k : q_K) : Bool := match hk d' x as A k with
  | some b => b
  | none => ih d' M' 0 (q_args 0 as) [] A k
noncomputable def q_ivs (hk : q_Hk) (ih : q_Ih) (d' : Nat) (M M' : g_M) (pc : Nat) (ls : q_L) (x : Nat) (A : q_A) (K : q_K) (as r : List q_V) : Bool := bif Nat.ble (q_lsl r) 8 && Nat.ble (q_lsl as) M'.2.2.2.1 then q_ivc hk ih d' x M' A as (fun v A' => ih (Nat.succ d') M (pc + 3) ls (q_pr v r) A' K) else false
noncomputable def q_ivr (hk : q_Hk) (ih : q_Ih) (kd d' : Nat) (M M' : g_M) (pc : Nat) (ls : q_L) (x : Nat) (A : q_A) (K : q_K) (as r : List q_V) : Bool := match r with
  | .inr (.inr (some (Nat.succ a))) :: r2 => bif (bif Nat.beq kd 1 then Nat.blt a A.2.1 && q_rcv A a x else true) then q_ivs hk ih d' M M' pc ls x A K (.inr (.inr (some (Nat.succ a))) :: as) r2 else false
  | _ => false
noncomputable def q_ivk (hk : q_Hk) (ih : q_Ih) (kd d : Nat) (M : g_M) (pc : Nat) (ls : q_L) (x y : Nat) (st : List q_V) (A : q_A) (K : q_K) : Bool :=
  match g_mt x with
  | none => false
  | some M' => match d with
    | 0 => false
    | Nat.succ d' => q_tk y st (bif Nat.beq kd 0 then q_ivs hk ih d' M M' pc ls x A K else q_ivr hk ih kd d' M M' pc ls x A K)
abbrev q_Hd : Type := Nat → List q_N → q_Hk → q_Ih → Nat → g_M → Nat → Nat → Nat → Nat → Int → q_L → List q_V → q_A → q_K → Bool
noncomputable def q_h_iconst (n : Int) : q_Hd := fun L scr hk ih d M pc len x y z ls st A K =>
    bif Nat.blt n.natAbs 128 then ih d M (pc + len) ls (.inl (.inl n) :: st) A K else false
noncomputable def q_h_bipush (n : Int) : q_Hd := fun L scr hk ih d M pc len x y z ls st A K =>
    bif Nat.blt n.natAbs 128 then ih d M (pc + len) ls (.inl (.inl n) :: st) A K else false
noncomputable def q_h_sipush (n : Int) : q_Hd := fun L scr hk ih d M pc len x y z ls st A K =>
    bif Nat.blt n.natAbs 32768 then ih d M (pc + len) ls (.inl (.inl n) :: st) A K else false
noncomputable def q_h_ldc : q_Hd := fun L scr hk ih d M pc len x y z ls st A K =>
    bif Nat.blt z.natAbs 2147483648 then ih d M (pc + len) ls (.inl (.inl z) :: st) A K else false
noncomputable def q_h_ldc_w : q_Hd := fun L scr hk ih d M pc len x y z ls st A K =>
    bif Nat.blt z.natAbs 2147483648 then ih d M (pc + len) ls (.inl (.inl z) :: st) A K else false
noncomputable def q_h_ldc2_w : q_Hd := fun L scr hk ih d M pc len x y z ls st A K =>
    bif Nat.blt z.natAbs 2147483648 then ih d M (pc + len) ls (.inr (.inl (.inl z)) :: st) A K else false
noncomputable def q_h_lconst (n : Fin 2) : q_Hd := fun L scr hk ih d M pc len x y z ls st A K =>
    ih d M (pc + len) ls (.inr (.inl (.inl ((n : Nat) : Int))) :: st) A K
noncomputable def q_h_iload (i : Nat) : q_Hd := fun L scr hk ih d M pc len x y z ls st A K =>
    q_ld 0 ls i st (fun st => ih d M (pc + len) ls st A K)
noncomputable def q_h_iload_n (i : Fin 4) : q_Hd := fun L scr hk ih d M pc len x y z ls st A K =>
    q_ld 0 ls i st (fun st => ih d M (pc + len) ls st A K)
noncomputable def q_h_aload (i : Nat) : q_Hd := fun L scr hk ih d M pc len x y z ls st A K =>
    q_ld 1 ls i st (fun st => ih d M (pc + len) ls st A K)
noncomputable def q_h_aload_n (i : Fin 4) : q_Hd := fun L scr hk ih d M pc len x y z ls st A K =>
    q_ld 1 ls i st (fun st => ih d M (pc + len) ls st A K)
noncomputable def q_h_lload (i : Nat) : q_Hd := fun L scr hk ih d M pc len x y z ls st A K =>
    q_ld 2 ls i st (fun st => ih d M (pc + len) ls st A K)
noncomputable def q_h_lload_n (i : Fin 4) : q_Hd := fun L scr hk ih d M pc len x y z ls st A K =>
    q_ld 2 ls i st (fun st => ih d M (pc + len) ls st A K)
noncomputable def q_h_istore (i : Nat) : q_Hd := fun L scr hk ih d M pc len x y z ls st A K =>
    q_st 0 M.2.2.2.1 ls i st (fun ls st => ih d M (pc + len) ls st A K)
noncomputable def q_h_istore_n (i : Fin 4) : q_Hd := fun L scr hk ih d M pc len x y z ls st A K =>
    q_st 0 M.2.2.2.1 ls i st (fun ls st => ih d M (pc + len) ls st A K)
noncomputable def q_h_astore (i : Nat) : q_Hd := fun L scr hk ih d M pc len x y z ls st A K =>
    q_st 1 M.2.2.2.1 ls i st (fun ls st => ih d M (pc + len) ls st A K)
noncomputable def q_h_astore_n (i : Fin 4) : q_Hd := fun L scr hk ih d M pc len x y z ls st A K =>
    q_st 1 M.2.2.2.1 ls i st (fun ls st => ih d M (pc + len) ls st A K)
noncomputable def q_h_iinc (i : Nat) (n : Int) : q_Hd := fun L scr hk ih d M pc len x y z ls st A K =>
    q_inc M.2.2.2.1 ls i n A (fun ls A => ih d M (pc + len) ls st A K)
noncomputable def q_h_iadd : q_Hd := fun L scr hk ih d M pc len x y z ls st A K =>
    q_i2 1 st A (fun st A => ih d M (pc + len) ls st A K)
noncomputable def q_h_isub : q_Hd := fun L scr hk ih d M pc len x y z ls st A K =>
    q_i2 2 st A (fun st A => ih d M (pc + len) ls st A K)
noncomputable def q_h_imul : q_Hd := fun L scr hk ih d M pc len x y z ls st A K =>
    q_i2 3 st A (fun st A => ih d M (pc + len) ls st A K)
noncomputable def q_h_iand : q_Hd := fun L scr hk ih d M pc len x y z ls st A K =>
    q_i2 4 st A (fun st A => ih d M (pc + len) ls st A K)
noncomputable def q_h_ior : q_Hd := fun L scr hk ih d M pc len x y z ls st A K =>
    q_i2 5 st A (fun st A => ih d M (pc + len) ls st A K)
noncomputable def q_h_ixor : q_Hd := fun L scr hk ih d M pc len x y z ls st A K =>
    q_i2 6 st A (fun st A => ih d M (pc + len) ls st A K)
noncomputable def q_h_ishl : q_Hd := fun L scr hk ih d M pc len x y z ls st A K =>
    q_i2 7 st A (fun st A => ih d M (pc + len) ls st A K)
noncomputable def q_h_ishr : q_Hd := fun L scr hk ih d M pc len x y z ls st A K =>
    q_i2 8 st A (fun st A => ih d M (pc + len) ls st A K)
noncomputable def q_h_iushr : q_Hd := fun L scr hk ih d M pc len x y z ls st A K =>
    q_i2 9 st A (fun st A => ih d M (pc + len) ls st A K)
noncomputable def q_h_idiv : q_Hd := fun L scr hk ih d M pc len x y z ls st A K =>
    q_d2 10 st A (fun st A => ih d M (pc + len) ls st A K)
noncomputable def q_h_irem : q_Hd := fun L scr hk ih d M pc len x y z ls st A K =>
    q_d2 11 st A (fun st A => ih d M (pc + len) ls st A K)
noncomputable def q_h_ineg : q_Hd := fun L scr hk ih d M pc len x y z ls st A K =>
    q_u1 (-2147483648) 2147483647 (fun x => -x) st A (fun st A => ih d M (pc + len) ls st A K)
noncomputable def q_h_i2b : q_Hd := fun L scr hk ih d M pc len x y z ls st A K =>
    q_u1 (-128) 127 (fun x => x.toInt8.toInt32) st A (fun st A => ih d M (pc + len) ls st A K)
noncomputable def q_h_i2c : q_Hd := fun L scr hk ih d M pc len x y z ls st A K =>
    q_u1 0 65535 (fun x => (x.toUInt32 % 65536).toInt32) st A (fun st A => ih d M (pc + len) ls st A K)
noncomputable def q_h_i2l : q_Hd := fun L scr hk ih d M pc len x y z ls st A K =>
    (match st with
    | .inl a :: r => ih d M (pc + len) ls (.inr (.inl a) :: r) A K
    | _ => false)
noncomputable def q_h_lcmp : q_Hd := fun L scr hk ih d M pc len x y z ls st A K =>
    q_cm st A (fun st A => ih d M (pc + len) ls st A K)
noncomputable def q_h_dup : q_Hd := fun L scr hk ih d M pc len x y z ls st A K =>
    (match st with
    | v :: r => bif Nat.beq (q_ct v) 1 then ih d M (pc + len) ls (v :: v :: r) A K else false
    | _ => false)
noncomputable def q_h_dup2 : q_Hd := fun L scr hk ih d M pc len x y z ls st A K =>
    (match st with
    | v :: w :: r => bif Nat.beq (q_ct v) 1 && Nat.beq (q_ct w) 1 then ih d M (pc + len) ls (v :: w :: v :: w :: r) A K else false
    | _ => false)
noncomputable def q_h_pop : q_Hd := fun L scr hk ih d M pc len x y z ls st A K =>
    (match st with
    | v :: r => bif Nat.beq (q_ct v) 1 then ih d M (pc + len) ls r A K else false
    | _ => false)
noncomputable def q_h_aconst_null : q_Hd := fun L scr hk ih d M pc len x y z ls st A K =>
    ih d M (pc + len) ls (.inr (.inr none) :: st) A K
noncomputable def q_h_goto : q_Hd := fun L scr hk ih d M pc len x y z ls st A K =>
    ih d M x ls st A K
noncomputable def q_h_ifCond_eq : q_Hd := fun L scr hk ih d M pc len x y z ls st A K =>
    q_b1 q_eq st A (fun st A => ih d M x ls st A K) (fun st A => ih d M (pc + 3) ls st A K)
noncomputable def q_h_ifCond_ne : q_Hd := fun L scr hk ih d M pc len x y z ls st A K =>
    q_b1 q_eq st A (fun st A => ih d M (pc + 3) ls st A K) (fun st A => ih d M x ls st A K)
noncomputable def q_h_ifCond_lt : q_Hd := fun L scr hk ih d M pc len x y z ls st A K =>
    q_b1 q_lt st A (fun st A => ih d M x ls st A K) (fun st A => ih d M (pc + 3) ls st A K)
noncomputable def q_h_ifCond_ge : q_Hd := fun L scr hk ih d M pc len x y z ls st A K =>
    q_b1 q_lt st A (fun st A => ih d M (pc + 3) ls st A K) (fun st A => ih d M x ls st A K)
noncomputable def q_h_ifCond_gt : q_Hd := fun L scr hk ih d M pc len x y z ls st A K =>
    q_b1 (fun a b => q_lt b a) st A (fun st A => ih d M x ls st A K) (fun st A => ih d M (pc + 3) ls st A K)
noncomputable def q_h_ifCond_le : q_Hd := fun L scr hk ih d M pc len x y z ls st A K =>
    q_b1 (fun a b => q_lt b a) st A (fun st A => ih d M (pc + 3) ls st A K) (fun st A => ih d M x ls st A K)
noncomputable def q_h_if_icmp_eq : q_Hd := fun L scr hk ih d M pc len x y z ls st A K =>
    q_b2 q_eq st A (fun st A => ih d M x ls st A K) (fun st A => ih d M (pc + 3) ls st A K)
noncomputable def q_h_if_icmp_ne : q_Hd := fun L scr hk ih d M pc len x y z ls st A K =>
    q_b2 q_eq st A (fun st A => ih d M (pc + 3) ls st A K) (fun st A => ih d M x ls st A K)
noncomputable def q_h_if_icmp_lt : q_Hd := fun L scr hk ih d M pc len x y z ls st A K =>
    q_b2 q_lt st A (fun st A => ih d M x ls st A K) (fun st A => ih d M (pc + 3) ls st A K)
noncomputable def q_h_if_icmp_ge : q_Hd := fun L scr hk ih d M pc len x y z ls st A K =>
    q_b2 q_lt st A (fun st A => ih d M (pc + 3) ls st A K) (fun st A => ih d M x ls st A K)
noncomputable def q_h_if_icmp_gt : q_Hd := fun L scr hk ih d M pc len x y z ls st A K =>
    q_b2 (fun a b => q_lt b a) st A (fun st A => ih d M x ls st A K) (fun st A => ih d M (pc + 3) ls st A K)
noncomputable def q_h_if_icmp_le : q_Hd := fun L scr hk ih d M pc len x y z ls st A K =>
    q_b2 (fun a b => q_lt b a) st A (fun st A => ih d M (pc + 3) ls st A K) (fun st A => ih d M x ls st A K)
noncomputable def q_h_ifnull : q_Hd := fun L scr hk ih d M pc len x y z ls st A K =>
    (match st with
    | .inr (.inr none) :: r => ih d M x ls r A K
    | .inr (.inr (some _)) :: r => ih d M (pc + 3) ls r A K
    | _ => false)
noncomputable def q_h_ifnonnull : q_Hd := fun L scr hk ih d M pc len x y z ls st A K =>
    (match st with
    | .inr (.inr none) :: r => ih d M (pc + 3) ls r A K
    | .inr (.inr (some _)) :: r => ih d M x ls r A K
    | _ => false)
noncomputable def q_h_tableswitch (df : Int) (lo : Int) (hi : Int) (offs : Array Int) : q_Hd := fun L scr hk ih d M pc len x y z ls st A K =>
    (match st with
    | .inl a :: r => bif (q_ieq hi (lo + (q_len offs.toList : Int) - 1)) && ((offs.toList).all (fun o => (q_ile 0 ((pc : Int) + o))) && (q_ile 0 ((pc : Int) + df))) then q_ts pc a r lo offs.toList df A (fun pc r A => ih d M pc ls r A K) else false
    | _ => false)
noncomputable def q_h_getfield : q_Hd := fun L scr hk ih d M pc len x y z ls st A K =>
    q_gf x y st A (fun st A => ih d M (pc + len) ls st A K)
noncomputable def q_h_putfield : q_Hd := fun L scr hk ih d M pc len x y z ls st A K =>
    q_pf x y st A (fun st A => ih d M (pc + len) ls st A K)
noncomputable def q_h_new : q_Hd := fun L scr hk ih d M pc len x y z ls st A K =>
    q_push A.2.2 A.2.1 (.inr (.inr (x, q_df x))) (fun rows => ih d M (pc + len) ls (.inr (.inr (some (Nat.succ A.2.1))) :: st) (A.1, Nat.succ A.2.1, rows) K)
noncomputable def q_h_newarray (t : ArrayType) : q_Hd := fun L scr hk ih d M pc len x y z ls st A K =>
    q_na t st A (fun st A => ih d M (pc + len) ls st A K)
noncomputable def q_h_anewarray : q_Hd := fun L scr hk ih d M pc len x y z ls st A K =>
    q_an st A (fun st A => ih d M (pc + len) ls st A K)
noncomputable def q_h_arraylength : q_Hd := fun L scr hk ih d M pc len x y z ls st A K =>
    q_al L st A (fun st A => ih d M (pc + len) ls st A K)
noncomputable def q_h_iaload : q_Hd := fun L scr hk ih d M pc len x y z ls st A K =>
    q_ia scr st A (fun st A => ih d M (pc + len) ls st A K)
noncomputable def q_h_baload : q_Hd := fun L scr hk ih d M pc len x y z ls st A K =>
    q_ba st A (fun st A => ih d M (pc + len) ls st A K)
noncomputable def q_h_aaload : q_Hd := fun L scr hk ih d M pc len x y z ls st A K =>
    q_aa st A (fun st A => ih d M (pc + len) ls st A K)
noncomputable def q_h_iastore : q_Hd := fun L scr hk ih d M pc len x y z ls st A K =>
    q_ist st A (fun st A => ih d M (pc + len) ls st A K)
noncomputable def q_h_bastore : q_Hd := fun L scr hk ih d M pc len x y z ls st A K =>
    q_bst st A (fun st A => ih d M (pc + len) ls st A K)
noncomputable def q_h_aastore : q_Hd := fun L scr hk ih d M pc len x y z ls st A K =>
    q_ast st A (fun st A => ih d M (pc + len) ls st A K)
noncomputable def q_h_invokestatic : q_Hd := fun L scr hk ih d M pc len x y z ls st A K =>
    bif Nat.blt x 77777 then q_ivk hk ih 0 d M pc ls x y st A K else bif Nat.beq x 99998 then q_cp d st A (fun st A => ih d M (pc + len) ls st A K) else bif Nat.beq x 99997 then q_mx d st A (fun st A => ih d M (pc + len) ls st A K) else false
noncomputable def q_h_invokevirtual : q_Hd := fun L scr hk ih d M pc len x y z ls st A K =>
    bif Nat.blt x 77777 then q_ivk hk ih 1 d M pc ls x y st A K else false
noncomputable def q_h_invokespecial : q_Hd := fun L scr hk ih d M pc len x y z ls st A K =>
    bif Nat.blt x 77777 then q_ivk hk ih 2 d M pc ls x y st A K else bif Nat.beq x 99999 then (match st with
    | .inr (.inr (some _)) :: r => bif Nat.ble (q_lsl r) 8 && Nat.blt 0 d then ih d M (pc + 3) ls r A K else false
    | _ => false) else false
noncomputable def q_h_ireturn : q_Hd := fun L scr hk ih d M pc len x y z ls st A K =>
    q_rt .ireturn M.2.2.2.2.1 st A K
noncomputable def q_h_areturn : q_Hd := fun L scr hk ih d M pc len x y z ls st A K =>
    q_rt .areturn M.2.2.2.2.1 st A K
noncomputable def q_h_return_ : q_Hd := fun L scr hk ih d M pc len x y z ls st A K =>
    q_rt .return_ M.2.2.2.2.1 st A K
noncomputable def q_disp (ins : Instr) : q_Hd := match ins with
  | .iconst n => q_h_iconst n
  | .bipush n => q_h_bipush n
  | .sipush n => q_h_sipush n
  | .ldc _ => q_h_ldc
  | .ldc_w _ => q_h_ldc_w
  | .ldc2_w _ => q_h_ldc2_w
  | .lconst n => q_h_lconst n
  | .iload i => q_h_iload i
  | .iload_n i => q_h_iload_n i
  | .aload i => q_h_aload i
  | .aload_n i => q_h_aload_n i
  | .lload i => q_h_lload i
  | .lload_n i => q_h_lload_n i
  | .istore i => q_h_istore i
  | .istore_n i => q_h_istore_n i
  | .astore i => q_h_astore i
  | .astore_n i => q_h_astore_n i
  | .iinc i n => q_h_iinc i n
  | .iadd => q_h_iadd
  | .isub => q_h_isub
  | .imul => q_h_imul
  | .iand => q_h_iand
  | .ior => q_h_ior
  | .ixor => q_h_ixor
  | .ishl => q_h_ishl
  | .ishr => q_h_ishr
  | .iushr => q_h_iushr
  | .idiv => q_h_idiv
  | .irem => q_h_irem
  | .ineg => q_h_ineg
  | .i2b => q_h_i2b
  | .i2c => q_h_i2c
  | .i2l => q_h_i2l
  | .lcmp => q_h_lcmp
  | .dup => q_h_dup
  | .dup2 => q_h_dup2
  | .pop => q_h_pop
  | .aconst_null => q_h_aconst_null
  | .goto _ => q_h_goto
  | .ifCond .eq _ => q_h_ifCond_eq
  | .ifCond .ne _ => q_h_ifCond_ne
  | .ifCond .lt _ => q_h_ifCond_lt
  | .ifCond .ge _ => q_h_ifCond_ge
  | .ifCond .gt _ => q_h_ifCond_gt
  | .ifCond .le _ => q_h_ifCond_le
  | .if_icmp .eq _ => q_h_if_icmp_eq
  | .if_icmp .ne _ => q_h_if_icmp_ne
  | .if_icmp .lt _ => q_h_if_icmp_lt
  | .if_icmp .ge _ => q_h_if_icmp_ge
  | .if_icmp .gt _ => q_h_if_icmp_gt
  | .if_icmp .le _ => q_h_if_icmp_le
  | .ifnull _ => q_h_ifnull
  | .ifnonnull _ => q_h_ifnonnull
  | .tableswitch df lo hi offs => q_h_tableswitch df lo hi offs
  | .getfield _ => q_h_getfield
  | .putfield _ => q_h_putfield
  | .new _ => q_h_new
  | .newarray t => q_h_newarray t
  | .anewarray _ => q_h_anewarray
  | .arraylength => q_h_arraylength
  | .iaload => q_h_iaload
  | .baload => q_h_baload
  | .aaload => q_h_aaload
  | .iastore => q_h_iastore
  | .bastore => q_h_bastore
  | .aastore => q_h_aastore
  | .invokestatic _ => q_h_invokestatic
  | .invokevirtual _ => q_h_invokevirtual
  | .invokespecial _ => q_h_invokespecial
  | .ireturn => q_h_ireturn
  | .areturn => q_h_areturn
  | .return_ => q_h_return_
  | _ => fun _ _ _ _ _ _ _ _ _ _ _ _ _ _ _ => false
noncomputable def q_one (L : Nat) (scr : List q_N) (hk : q_Hk) (ih : q_Ih) (d : Nat) (M : g_M) (pc : Nat) (ls : q_L) (st : List q_V) (A : q_A) (K : q_K) : Bool :=
  match M.2.2.2.2.2 pc with
  | none => false
  | some en => q_disp en.1.1 L scr hk ih d M pc en.1.2 en.2.1 en.2.2.1 en.2.2.2 ls st A K
abbrev q_T : Type := Nat × Nat × (q_L → List q_V → q_A → Bool)
/-- the abstract machine; it stops where the frame of depth T.2.1 comes to T.1 -/
noncomputable def q_run (T : q_T) (L : Nat) (scr : List q_N) (hk : q_Hk) (fuel : Nat) : q_Ih := Nat.rec (motive := fun _ => q_Ih) (fun _ _ _ _ _ _ _ => false) (fun _ ih d M pc ls st A K => bif Nat.beq d T.2.1 && Nat.beq pc T.1 then T.2.2 ls st A else q_one L scr hk ih d M pc ls st A K) fuel
