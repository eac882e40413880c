/-! the store by its contents: every cell has a kind that stays; what changes are the numbers in it, and a few references -/
abbrev v_Sf : Type := Nat → Nat → Int32
abbrev v_Rf : Type := Nat → Nat → Option Nat
abbrev v_Ft : Type := (Int × Int) ⊕ (Nat ⊕ List Nat)
abbrev v_Ct : Type := (Nat × Nat × Int × Int) ⊕ (List Nat ⊕ (Nat × List v_Ft))
def v_fv (S : v_Sf) (R : v_Rf) (a j : Nat) (ft : v_Ft) : Value := match ft with
  | .inl _ => .int (S a j)
  | .inr (.inl k) => .ref k
  | .inr (.inr _) => va_rf (R a j)
def v_cell (S : v_Sf) (R : v_Rf) (a : Nat) (t : Option v_Ct) : g_Ce := match t with
  | some (.inl (tg, n, _)) => .inl (tg, n, .inl (S a))
  | some (.inr (.inl l)) => .inl (3, l.length, .inr (R a))
  | some (.inr (.inr (ci, fs))) => .inr (ci, fs.mapIdx (fun j ft => v_fv S R a j ft))
  | none => .inl (9, 0, .inl (fun _ => 0))
def v_N : Nat := 173
def v_mk (ty : Nat → Option v_Ct) (S : v_Sf) (R : v_Rf) : List g_Ce := (List.range v_N).map (fun a => v_cell S R a (ty a))
abbrev v_A : Type := q_S × List (Nat × q_N × q_N) × List (Nat × Nat × Nat)
abbrev v_K : Type := Option q_V → v_A → Bool
abbrev v_Pat : Type := List (Nat × Option (Int × Int))
/-- an open head: its place, how many symbols there were, its pattern, the locals as it was opened, the counter's local, its place among the fresh symbols, whether it rises -/
abbrev v_Oe : Type := Nat × Nat × v_Pat × q_L × Nat × Nat × Bool
abbrev v_Hp : Type := v_Pat × Nat × Nat × Bool
abbrev v_Hk : Type := Nat → Nat → List q_V → v_A → v_K → Option Bool
abbrev v_Cx : Type := (Nat → Option v_Ct) × List (Nat × Nat × Nat) × (Nat → Nat → Nat → Bool) × (Nat → Nat → Option v_Hp) × v_Hk
abbrev v_Ih : Type := List v_Oe → Nat → Nat → g_M → Nat → q_L → List q_V → v_A → v_K → Bool
/-- whether a place may be written -/
noncomputable def v_md (m : List (Nat × Nat × Nat)) (a lo hi : Nat) : Bool := List.rec (motive := fun _ => Bool) false (fun h _ ih => bif Nat.beq h.1 a && (Nat.ble h.2.1 lo && Nat.ble hi h.2.2) then true else ih) m
/-- whether a place may be hit -/
noncomputable def v_hit (m : List (Nat × Nat × Nat)) (a lo hi : Nat) : Bool := List.rec (motive := fun _ => Bool) false (fun h _ ih => bif Nat.beq h.1 a && (Nat.ble h.2.1 hi && Nat.ble lo h.2.2) then true else ih) m
noncomputable def v_of (ov : List (Nat × q_N × q_N)) (a : Nat) (i : q_N) : Option q_N := List.rec (motive := fun _ => Option q_N) none (fun h _ ih => bif Nat.beq h.1 a && q_nb h.2.1 i then some h.2.2 else ih) ov
noncomputable def v_rof (ov : List (Nat × Nat × Nat)) (a j : Nat) : Option Nat := List.rec (motive := fun _ => Option Nat) none (fun h _ ih => bif Nat.beq h.1 a && Nat.beq h.2.1 j then some h.2.2 else ih) ov
def v_df (i j : q_N) : Bool := match i, j with
  | .inl x, .inl y => bif q_ieq x y then false else true
  | _, _ => false
/-- a write: what else is known of that cell goes, but at other known places -/
noncomputable def v_ow (ov : List (Nat × q_N × q_N)) (a : Nat) (i v : q_N) : List (Nat × q_N × q_N) := (a, i, v) :: List.rec (motive := fun _ => List (Nat × q_N × q_N)) [] (fun h _ ih => bif Nat.beq h.1 a then (bif v_df h.2.1 i then h :: ih else ih) else h :: ih) ov
noncomputable def v_row (ov : List (Nat × Nat × Nat)) (a j r : Nat) : List (Nat × Nat × Nat) := (a, j, r) :: List.rec (motive := fun _ => List (Nat × Nat × Nat)) [] (fun h _ ih => bif Nat.beq h.1 a && Nat.beq h.2.1 j then ih else h :: ih) ov
/-- what stays known over what may write at m -/
noncomputable def v_ok (env : q_S) (m : List (Nat × Nat × Nat)) (ov : List (Nat × q_N × q_N)) : List (Nat × q_N × q_N) := List.rec (motive := fun _ => List (Nat × q_N × q_N)) [] (fun h _ ih => bif v_hit m h.1 (q_iv env h.2.1).1.toNat (q_iv env h.2.1).2.toNat then ih else h :: ih) ov
noncomputable def v_rk (m : List (Nat × Nat × Nat)) (ov : List (Nat × Nat × Nat)) : List (Nat × Nat × Nat) := List.rec (motive := fun _ => List (Nat × Nat × Nat)) [] (fun h _ ih => bif v_hit m h.1 h.2.1 h.2.1 then ih else h :: ih) ov
noncomputable def v_rd (a : Nat) (i : q_N) (lo hi : Int) (A : v_A) (k : q_N → v_A → Bool) : Bool := match v_of A.2.1 a i with
  | some v => k v A
  | none => q_new A.1 (lo, hi, 0, .inl 0, .inl 0) (fun v e => k v (e, (a, i, v) :: A.2.1, A.2.2))
noncomputable def v_rr (a j : Nat) (l : List Nat) (A : v_A) (k : Nat → v_A → Bool) : Bool := match v_rof A.2.2 a j with
  | some r => k r A
  | none => List.rec (motive := fun _ => Bool) true (fun h _ ih => k h (A.1, A.2.1, (a, j, h) :: A.2.2) && ih) l
def v_in (p : Int × Int) (lo hi : Int) : Bool := q_ile lo p.1 && q_ile p.2 hi
noncomputable def v_wr (C : v_Cx) (a : Nat) (i v : q_N) (lo hi : Int) (A : v_A) (k : v_A → Bool) : Bool := bif v_in (q_iv A.1 v) lo hi && (v_md C.2.1 a (q_iv A.1 i).1.toNat (q_iv A.1 i).2.toNat && (bif C.2.2.1 a (q_iv A.1 i).1.toNat (q_iv A.1 i).2.toNat then false else true)) then k (A.1, v_ow A.2.1 a i v, A.2.2) else false
noncomputable def v_gf (C : v_Cx) (x y : Nat) (st : List q_V) (A : v_A) (k : List q_V → v_A → Bool) : Bool := match st with
  | .inr (.inr (some (Nat.succ a))) :: r => (match C.1 a with
    | some (.inr (.inr (ci, fs))) => bif Nat.beq ci x then (match q_nth fs y with
      | some (.inl b) => v_rd a (.inl (Int.ofNat y)) b.1 b.2 A (fun v A => k (.inl v :: r) A)
      | some (.inr (.inl c)) => k (.inr (.inr (some c)) :: r) A
      | some (.inr (.inr l)) => v_rr a y l A (fun c A => k (.inr (.inr (some c)) :: r) A)
      | none => false) else false
    | _ => false)
  | _ => false
noncomputable def v_mem (l : List Nat) (c : Nat) : Bool := List.rec (motive := fun _ => Bool) false (fun h _ ih => bif Nat.beq h c then true else ih) l
noncomputable def v_pf (C : v_Cx) (x y : Nat) (st : List q_V) (A : v_A) (k : List q_V → v_A → Bool) : Bool := match st with
  | v :: .inr (.inr (some (Nat.succ a))) :: r => (match C.1 a with
    | some (.inr (.inr (ci, fs))) => bif Nat.beq ci x && q_fits (g_ty x y) v A.1 q_iv then (match q_nth fs y, v with
      | some (.inl b), .inl n => v_wr C a (.inl (Int.ofNat y)) n b.1 b.2 A (fun A => k r A)
      | some (.inr (.inr l)), .inr (.inr (some c)) => bif v_mem l c && v_md C.2.1 a y y then k r (A.1, A.2.1, v_row A.2.2 a y c) else false
      | _, _ => false) else false
    | _ => false)
  | _ => false
noncomputable def v_al (C : v_Cx) (st : List q_V) (A : v_A) (k : List q_V → v_A → Bool) : Bool := match st with
  | .inr (.inr (some (Nat.succ a))) :: r => (match C.1 a with
    | some (.inl (t, n, _)) => bif Nat.blt t 4 && Nat.blt n 100001 then k (.inl (.inl (n : Int)) :: r) A else false
    | some (.inr (.inl l)) => bif Nat.blt (q_len l) 100001 then k (.inl (.inl (q_len l : Int)) :: r) A else false
    | _ => false)
  | _ => false
noncomputable def v_ia (C : v_Cx) (b : Bool) (st : List q_V) (A : v_A) (k : List q_V → v_A → Bool) : Bool := match st with
  | .inl i :: .inr (.inr (some (Nat.succ a))) :: r => (match C.1 a with
    | some (.inl (t, n, lo, hi)) => bif (bif b then Nat.beq t 1 || Nat.beq t 2 else Nat.beq t 0) && (q_ile 0 (q_iv A.1 i).1 && q_ilt (q_iv A.1 i).2 (n : Int)) then v_rd a i lo hi A (fun v A => k (.inl v :: r) A) else false
    | _ => false)
  | _ => false
noncomputable def v_is (C : v_Cx) (b : Bool) (st : List q_V) (A : v_A) (k : List q_V → v_A → Bool) : Bool := match st with
  | .inl v :: .inl i :: .inr (.inr (some (Nat.succ a))) :: r => (match C.1 a with
    | some (.inl (t, n, lo, hi)) => bif (bif b then (Nat.beq t 1 && v_in (q_iv A.1 v) (-128) 127) || (Nat.beq t 2 && v_in (q_iv A.1 v) 0 1) else Nat.beq t 0) && (q_ile 0 (q_iv A.1 i).1 && q_ilt (q_iv A.1 i).2 (n : Int)) then v_wr C a i v lo hi A (fun A => k r A) else false
    | _ => false)
  | _ => false
noncomputable def v_aa (C : v_Cx) (st : List q_V) (A : v_A) (k : List q_V → v_A → Bool) : Bool := match st with
  | .inl i :: .inr (.inr (some (Nat.succ a))) :: r => (match C.1 a with
    | some (.inr (.inl l)) => bif q_ile 0 (q_iv A.1 i).1 && q_ilt (q_iv A.1 i).2 (q_len l : Int) then v_need i A.1 (fun c e => match q_nth l c.toNat with
      | some r1 => k (.inr (.inr (some r1)) :: r) (e, A.2)
      | none => false) else false
    | _ => false)
  | _ => false
/-- System.arraycopy: from the row's own first places on -/
noncomputable def v_cp (C : v_Cx) (d : Nat) (st : List q_V) (A : v_A) (k : List q_V → v_A → Bool) : Bool := match st with
  | .inl n :: .inl (.inl 0) :: .inr (.inr (some (Nat.succ a))) :: .inl (.inl 0) :: .inr (.inr (some (Nat.succ a0))) :: r => (match C.1 a0, C.1 a with
    | some (.inl (0, n0, lo0, hi0)), some (.inl (0, n1, lo1, hi1)) => bif ((q_ile 0 (q_iv A.1 n).1 && q_ile (q_iv A.1 n).2 (n0 : Int)) && (q_ile (q_iv A.1 n).2 (n1 : Int) && (q_ile lo1 lo0 && q_ile hi0 hi1))) && ((v_md C.2.1 a 0 n1 && (bif C.2.2.1 a 0 n1 then false else true)) && (Nat.ble (q_lsl r) 8 && Nat.blt 0 d)) then k r (A.1, v_ok A.1 [(a, 0, n1)] A.2.1, A.2.2) else false
    | _, _ => false)
  | _ => false
noncomputable def v_m2 (d op : Nat) (st : List q_V) (A : v_A) (k : List q_V → v_A → Bool) : Bool := match st with
  | .inl b :: .inl a :: r => bif Nat.ble (q_lsl r) 8 && Nat.blt 0 d then v_bin op a b A.1 (fun v e => k (.inl v :: r) (e, A.2)) else false
  | _ => false
noncomputable def v_m1 (d : Nat) (st : List q_V) (A : v_A) (k : List q_V → v_A → Bool) : Bool := match st with
  | .inl _ :: r => bif Nat.ble (q_lsl r) 8 && Nat.blt 0 d then q_new A.1 (-2147483648, 2147483647, 0, .inl 0, .inl 0) (fun v e => k (.inl v :: r) (e, A.2)) else false
  | _ => false
noncomputable def v_fk (ls : q_L) (i : Nat) : q_L := List.rec (motive := fun _ => q_L) [] (fun h _ ih => bif Nat.beq h.1 i then ih else h :: ih) ls
noncomputable def v_k2 (ls : q_L) (i : Nat) : Nat := match q_gl ls (Nat.pred i) with
  | some u => bif Nat.beq (q_ct u) 2 then Nat.pred i else i
  | none => i
noncomputable def v_sl (ls : q_L) (i : Nat) (v : q_V) : q_L := (i, v) :: v_fk (v_fk ls i) (v_k2 ls i)
noncomputable def v_cm (md : Nat) (st : List q_V) (A : v_A) (k : List q_V → v_A → Bool) : Bool := match st with
  | .inr (.inl y) :: .inr (.inl x) :: r => bif Nat.beq md 1 then v_lt x y A.1 (fun e => k (.inl (.inl (-1)) :: r) (e, A.2)) (fun e => q_new e (0, 1, 0, .inl 0, .inl 0) (fun v e => k (.inl v :: r) (e, A.2))) else bif Nat.beq md 2 then v_lt y x A.1 (fun e => k (.inl (.inl 1) :: r) (e, A.2)) (fun e => q_new e (-1, 0, 0, .inl 0, .inl 0) (fun v e => k (.inl v :: r) (e, A.2))) else v_lt y x A.1 (fun e => k (.inl (.inl 1) :: r) (e, A.2)) (fun e => v_eq x y e (fun e => k (.inl (.inl 0) :: r) (e, A.2)) (fun e => k (.inl (.inl (-1)) :: r) (e, A.2)))
  | _ => false
noncomputable def v_nx (M : g_M) (pc : Nat) : Nat := match M.2.2.2.2.2 pc with
  | some en => (match en.1.1 with
    | .ifCond .lt _ => 1
    | .ifCond .gt _ => 2
    | _ => 0)
  | none => 0
noncomputable def v_b1 (cmp : q_N → q_N → q_S → (q_S → Bool) → (q_S → Bool) → Bool) (st : List q_V) (A : v_A) (kt kf : List q_V → v_A → Bool) : Bool := match st with
  | .inl a :: r => cmp a (.inl 0) A.1 (fun e => kt r (e, A.2)) (fun e => kf r (e, A.2))
  | _ => false
noncomputable def v_b2 (cmp : q_N → q_N → q_S → (q_S → Bool) → (q_S → Bool) → Bool) (st : List q_V) (A : v_A) (kt kf : List q_V → v_A → Bool) : Bool := match st with
  | .inl b :: .inl a :: r => cmp a b A.1 (fun e => kt r (e, A.2)) (fun e => kf r (e, A.2))
  | _ => false
noncomputable def v_i2 (op : Nat) (st : List q_V) (A : v_A) (k : List q_V → v_A → Bool) : Bool := match st with
  | .inl b :: .inl a :: r => v_bin op a b A.1 (fun v e => k (.inl v :: r) (e, A.2))
  | _ => false
noncomputable def v_d2 (op : Nat) (st : List q_V) (A : v_A) (k : List q_V → v_A → Bool) : Bool := match st with
  | .inl b :: .inl a :: r => v_eq b (.inl 0) A.1 (fun _ => false) (fun e => v_bin op a b e (fun v e => k (.inl v :: r) (e, A.2)))
  | _ => false
noncomputable def v_u1 (lo hi : Int) (f : Int32 → Int32) (st : List q_V) (A : v_A) (k : List q_V → v_A → Bool) : Bool := match st with
  | .inl a :: r => (match q_c A.1 a with
    | some x => k (.inl (.inl (f (Int32.ofInt x)).toInt) :: r) A
    | none => q_new A.1 (lo, hi, 0, .inl 0, .inl 0) (fun v e => k (.inl v :: r) (e, A.2)))
  | _ => false
noncomputable def q_ld (kd : Nat) (ls : q_L) (i : Nat) (st : List q_V) (k : List q_V → Bool) : Bool := match q_gl ls i with
  | some (.inl v) => bif Nat.beq kd 0 then k (.inl v :: st) else false
  | some (.inr (.inl v)) => bif Nat.beq kd 2 then k (.inr (.inl v) :: st) else false
  | some (.inr (.inr v)) => bif Nat.beq kd 1 then k (.inr (.inr v) :: st) else false
  | _ => false
noncomputable def v_st (kd nL : Nat) (ls : q_L) (i : Nat) (st : List q_V) (k : q_L → List q_V → Bool) : Bool := match st with
  | .inl v :: r => bif Nat.beq kd 0 && Nat.blt i nL then k (v_sl ls i (.inl v)) r else false
  | .inr (.inr v) :: r => bif Nat.beq kd 1 && Nat.blt i nL then k (v_sl ls i (.inr (.inr v))) r else false
  | _ => false
noncomputable def v_inc (nL : Nat) (ls : q_L) (i : Nat) (n : Int) (A : v_A) (k : q_L → v_A → Bool) : Bool := match q_gl ls i with
  | some (.inl v) => bif Nat.blt i nL && Nat.blt n.natAbs 32768 then v_bin 1 v (.inl n) A.1 (fun w e => k (v_sl ls i (.inl w)) (e, A.2)) else false
  | _ => false
noncomputable def v_ts (pc : Nat) (a : q_N) (r : List q_V) (lo : Int) (offs : List Int) (d : Int) (A : v_A) (k : Nat → List q_V → v_A → Bool) : Bool :=
  List.rec (motive := fun _ => Int → q_S → Bool) (fun _ e => k ((pc : Int) + d).toNat r (e, A.2)) (fun o _ ih c e => v_eq a (.inl c) e (fun e => k ((pc : Int) + o).toNat r (e, A.2)) (fun e => ih (c + 1) e)) offs lo A.1
/-- the answer of a method -/
noncomputable def v_rt (ins : Instr) (ret : Option FieldType) (st : List q_V) (A : v_A) (K : v_K) : Bool := match ins, ret, st with
  | .ireturn, some .int, [.inl v] => K (some (.inl v)) A
  | .ireturn, some .boolean, [.inl v] => bif (q_ile 0 ((q_iv A.1 v).1)) && (q_ile ((q_iv A.1 v).2) 1) then K (some (.inl v)) A else false
  | .areturn, some (.object _), [.inr (.inr v)] => K (some (.inr (.inr v))) A
  | .return_, none, [] => K none A
  | _, _, _ => false
def q_pr (v : Option q_V) (r : List q_V) : List q_V := match v with
  | some v => v :: r
  | none => r
noncomputable def v_lk (pc : Nat) (a : q_N) (r : List q_V) (ps : List (Int × Int)) (d : Int) (A : v_A) (k : Nat → List q_V → v_A → Bool) : Bool :=
  List.rec (motive := fun _ => q_S → Bool) (fun e => k ((pc : Int) + d).toNat r (e, A.2)) (fun o _ ih e => v_eq a (.inl o.1) e (fun e => k ((pc : Int) + o.2).toNat r (e, A.2)) (fun e => ih e)) ps A.1
noncomputable def v_rcv (C : v_Cx) (a x : Nat) : Bool := match C.1 a with
  | some (.inr (.inr (ci, _))) => (match q_nth g_oc x with
    | some o => Nat.beq ci o && Nat.blt ci 13
    | none => false)
  | _ => false
/-- a callee's road: by a hook, or gone -/
noncomputable def v_ivc (C : v_Cx) (ih : v_Ih) (d' x : Nat) (M' : g_M) (A : v_A) (as : List q_V) (k : v_K) : Bool := match C.2.2.2.2 d' x as A k with
  | some b => b
  | none => ih [] d' x M' 0 (q_args 0 as) [] A k
noncomputable def v_ivs (C : v_Cx) (ih : v_Ih) (O : List v_Oe) (d' μ : Nat) (M M' : g_M) (pc : Nat) (ls : q_L) (x : Nat) (A : v_A) (K : v_K) (as r : List q_V) : Bool := bif Nat.ble (q_lsl r) 8 && Nat.ble (q_lsl as) M'.2.2.2.1 then v_ivc C ih d' x M' A as (fun v A' => ih O (Nat.succ d') μ M (pc + 3) ls (q_pr v r) A' K) else false
noncomputable def v_ivr (C : v_Cx) (ih : v_Ih) (O : List v_Oe) (d' μ : Nat) (M M' : g_M) (pc : Nat) (ls : q_L) (x : Nat) (A : v_A) (K : v_K) (as r : List q_V) : Bool := match r with
  | .inr (.inr (some (Nat.succ a))) :: r2 => bif v_rcv C a x then v_ivs C ih O d' μ M M' pc ls x A K (.inr (.inr (some (Nat.succ a))) :: as) r2 else false
  | _ => false
noncomputable def v_ivk (C : v_Cx) (ih : v_Ih) (kd : Nat) (O : List v_Oe) (d μ : Nat) (M : g_M) (pc : Nat) (ls : q_L) (x y : Nat) (st : List q_V) (A : v_A) (K : v_K) : Bool :=
  match g_mt x with
  | none => false
  | some M' => match d with
    | 0 => false
    | Nat.succ d' => q_tk y st (bif Nat.beq kd 0 then v_ivs C ih O d' μ M M' pc ls x A K else v_ivr C ih O d' μ M M' pc ls x A K)
abbrev v_Hd : Type := v_Cx → v_Ih → List v_Oe → Nat → Nat → g_M → Nat → Nat → Nat → Nat → Int → q_L → List q_V → v_A → v_K → Bool
noncomputable def v_h_iconst (n : Int) : v_Hd := fun C ih O d μ M pc len x y z ls st A K =>
    bif Nat.blt n.natAbs 128 then ih O d μ M (pc + len) ls (.inl (.inl n) :: st) A K else false
noncomputable def v_h_bipush (n : Int) : v_Hd := fun C ih O d μ M pc len x y z ls st A K =>
    bif Nat.blt n.natAbs 128 then ih O d μ M (pc + len) ls (.inl (.inl n) :: st) A K else false
noncomputable def v_h_sipush (n : Int) : v_Hd := fun C ih O d μ M pc len x y z ls st A K =>
    bif Nat.blt n.natAbs 32768 then ih O d μ M (pc + len) ls (.inl (.inl n) :: st) A K else false
noncomputable def v_h_ldc : v_Hd := fun C ih O d μ M pc len x y z ls st A K =>
    bif Nat.blt z.natAbs 2147483648 then ih O d μ M (pc + len) ls (.inl (.inl z) :: st) A K else false
noncomputable def v_h_ldc_w : v_Hd := fun C ih O d μ M pc len x y z ls st A K =>
    bif Nat.blt z.natAbs 2147483648 then ih O d μ M (pc + len) ls (.inl (.inl z) :: st) A K else false
noncomputable def v_h_ldc2_w : v_Hd := fun C ih O d μ M pc len x y z ls st A K =>
    bif Nat.blt z.natAbs 2147483648 then ih O d μ M (pc + len) ls (.inr (.inl (.inl z)) :: st) A K else false
noncomputable def v_h_lconst (n : Fin 2) : v_Hd := fun C ih O d μ M pc len x y z ls st A K =>
    ih O d μ M (pc + len) ls (.inr (.inl (.inl ((n : Nat) : Int))) :: st) A K
noncomputable def v_h_iload (i : Nat) : v_Hd := fun C ih O d μ M pc len x y z ls st A K =>
    q_ld 0 ls i st (fun st => ih O d μ M (pc + len) ls st A K)
noncomputable def v_h_iload_n (i : Fin 4) : v_Hd := fun C ih O d μ M pc len x y z ls st A K =>
    q_ld 0 ls i st (fun st => ih O d μ M (pc + len) ls st A K)
noncomputable def v_h_aload (i : Nat) : v_Hd := fun C ih O d μ M pc len x y z ls st A K =>
    q_ld 1 ls i st (fun st => ih O d μ M (pc + len) ls st A K)
noncomputable def v_h_aload_n (i : Fin 4) : v_Hd := fun C ih O d μ M pc len x y z ls st A K =>
    q_ld 1 ls i st (fun st => ih O d μ M (pc + len) ls st A K)
noncomputable def v_h_lload (i : Nat) : v_Hd := fun C ih O d μ M pc len x y z ls st A K =>
    q_ld 2 ls i st (fun st => ih O d μ M (pc + len) ls st A K)
noncomputable def v_h_lload_n (i : Fin 4) : v_Hd := fun C ih O d μ M pc len x y z ls st A K =>
    q_ld 2 ls i st (fun st => ih O d μ M (pc + len) ls st A K)
noncomputable def v_h_istore (i : Nat) : v_Hd := fun C ih O d μ M pc len x y z ls st A K =>
    v_st 0 M.2.2.2.1 ls i st (fun ls st => ih O d μ M (pc + len) ls st A K)
noncomputable def v_h_istore_n (i : Fin 4) : v_Hd := fun C ih O d μ M pc len x y z ls st A K =>
    v_st 0 M.2.2.2.1 ls i st (fun ls st => ih O d μ M (pc + len) ls st A K)
noncomputable def v_h_astore (i : Nat) : v_Hd := fun C ih O d μ M pc len x y z ls st A K =>
    v_st 1 M.2.2.2.1 ls i st (fun ls st => ih O d μ M (pc + len) ls st A K)
noncomputable def v_h_astore_n (i : Fin 4) : v_Hd := fun C ih O d μ M pc len x y z ls st A K =>
    v_st 1 M.2.2.2.1 ls i st (fun ls st => ih O d μ M (pc + len) ls st A K)
noncomputable def v_h_iinc (i : Nat) (n : Int) : v_Hd := fun C ih O d μ M pc len x y z ls st A K =>
    v_inc M.2.2.2.1 ls i n A (fun ls A => ih O d μ M (pc + len) ls st A K)
noncomputable def v_h_iadd : v_Hd := fun C ih O d μ M pc len x y z ls st A K =>
    v_i2 1 st A (fun st A => ih O d μ M (pc + len) ls st A K)
noncomputable def v_h_isub : v_Hd := fun C ih O d μ M pc len x y z ls st A K =>
    v_i2 2 st A (fun st A => ih O d μ M (pc + len) ls st A K)
noncomputable def v_h_imul : v_Hd := fun C ih O d μ M pc len x y z ls st A K =>
    v_i2 3 st A (fun st A => ih O d μ M (pc + len) ls st A K)
noncomputable def v_h_iand : v_Hd := fun C ih O d μ M pc len x y z ls st A K =>
    v_i2 4 st A (fun st A => ih O d μ M (pc + len) ls st A K)
noncomputable def v_h_ior : v_Hd := fun C ih O d μ M pc len x y z ls st A K =>
    v_i2 5 st A (fun st A => ih O d μ M (pc + len) ls st A K)
noncomputable def v_h_ixor : v_Hd := fun C ih O d μ M pc len x y z ls st A K =>
    v_i2 6 st A (fun st A => ih O d μ M (pc + len) ls st A K)
noncomputable def v_h_ishl : v_Hd := fun C ih O d μ M pc len x y z ls st A K =>
    v_i2 7 st A (fun st A => ih O d μ M (pc + len) ls st A K)
noncomputable def v_h_ishr : v_Hd := fun C ih O d μ M pc len x y z ls st A K =>
    v_i2 8 st A (fun st A => ih O d μ M (pc + len) ls st A K)
noncomputable def v_h_iushr : v_Hd := fun C ih O d μ M pc len x y z ls st A K =>
    v_i2 9 st A (fun st A => ih O d μ M (pc + len) ls st A K)
noncomputable def v_h_idiv : v_Hd := fun C ih O d μ M pc len x y z ls st A K =>
    v_d2 10 st A (fun st A => ih O d μ M (pc + len) ls st A K)
noncomputable def v_h_irem : v_Hd := fun C ih O d μ M pc len x y z ls st A K =>
    v_d2 11 st A (fun st A => ih O d μ M (pc + len) ls st A K)
noncomputable def v_h_ineg : v_Hd := fun C ih O d μ M pc len x y z ls st A K =>
    v_u1 (-2147483648) 2147483647 (fun x => -x) st A (fun st A => ih O d μ M (pc + len) ls st A K)
noncomputable def v_h_i2b : v_Hd := fun C ih O d μ M pc len x y z ls st A K =>
    v_u1 (-128) 127 (fun x => x.toInt8.toInt32) st A (fun st A => ih O d μ M (pc + len) ls st A K)
noncomputable def v_h_i2c : v_Hd := fun C ih O d μ M pc len x y z ls st A K =>
    v_u1 0 65535 (fun x => (x.toUInt32 % 65536).toInt32) st A (fun st A => ih O d μ M (pc + len) ls st A K)
noncomputable def v_h_i2l : v_Hd := fun C ih O d μ M pc len x y z ls st A K =>
    (match st with
    | .inl a :: r => ih O d μ M (pc + len) ls (.inr (.inl a) :: r) A K
    | _ => false)
noncomputable def v_h_lcmp : v_Hd := fun C ih O d μ M pc len x y z ls st A K =>
    v_cm (v_nx M (pc + len)) st A (fun st A => ih O d μ M (pc + len) ls st A K)
noncomputable def v_h_dup : v_Hd := fun C ih O d μ M pc len x y z ls st A K =>
    (match st with
    | v :: r => bif Nat.beq (q_ct v) 1 then ih O d μ M (pc + len) ls (v :: v :: r) A K else false
    | _ => false)
noncomputable def v_h_dup2 : v_Hd := fun C ih O d μ M pc len x y z ls st A K =>
    (match st with
    | v :: w :: r => bif Nat.beq (q_ct v) 1 && Nat.beq (q_ct w) 1 then ih O d μ M (pc + len) ls (v :: w :: v :: w :: r) A K else false
    | _ => false)
noncomputable def v_h_pop : v_Hd := fun C ih O d μ M pc len x y z ls st A K =>
    (match st with
    | v :: r => bif Nat.beq (q_ct v) 1 then ih O d μ M (pc + len) ls r A K else false
    | _ => false)
noncomputable def v_h_aconst_null : v_Hd := fun C ih O d μ M pc len x y z ls st A K =>
    ih O d μ M (pc + len) ls (.inr (.inr none) :: st) A K
noncomputable def v_h_goto : v_Hd := fun C ih O d μ M pc len x y z ls st A K =>
    ih O d μ M x ls st A K
noncomputable def v_h_ifCond_eq : v_Hd := fun C ih O d μ M pc len x y z ls st A K =>
    v_b1 v_eq st A (fun st A => ih O d μ M x ls st A K) (fun st A => ih O d μ M (pc + 3) ls st A K)
noncomputable def v_h_ifCond_ne : v_Hd := fun C ih O d μ M pc len x y z ls st A K =>
    v_b1 v_eq st A (fun st A => ih O d μ M (pc + 3) ls st A K) (fun st A => ih O d μ M x ls st A K)
noncomputable def v_h_ifCond_lt : v_Hd := fun C ih O d μ M pc len x y z ls st A K =>
    v_b1 v_lt st A (fun st A => ih O d μ M x ls st A K) (fun st A => ih O d μ M (pc + 3) ls st A K)
noncomputable def v_h_ifCond_ge : v_Hd := fun C ih O d μ M pc len x y z ls st A K =>
    v_b1 v_lt st A (fun st A => ih O d μ M (pc + 3) ls st A K) (fun st A => ih O d μ M x ls st A K)
noncomputable def v_h_ifCond_gt : v_Hd := fun C ih O d μ M pc len x y z ls st A K =>
    v_b1 (fun a b => v_lt b a) st A (fun st A => ih O d μ M x ls st A K) (fun st A => ih O d μ M (pc + 3) ls st A K)
noncomputable def v_h_ifCond_le : v_Hd := fun C ih O d μ M pc len x y z ls st A K =>
    v_b1 (fun a b => v_lt b a) st A (fun st A => ih O d μ M (pc + 3) ls st A K) (fun st A => ih O d μ M x ls st A K)
noncomputable def v_h_if_icmp_eq : v_Hd := fun C ih O d μ M pc len x y z ls st A K =>
    v_b2 v_eq st A (fun st A => ih O d μ M x ls st A K) (fun st A => ih O d μ M (pc + 3) ls st A K)
noncomputable def v_h_if_icmp_ne : v_Hd := fun C ih O d μ M pc len x y z ls st A K =>
    v_b2 v_eq st A (fun st A => ih O d μ M (pc + 3) ls st A K) (fun st A => ih O d μ M x ls st A K)
noncomputable def v_h_if_icmp_lt : v_Hd := fun C ih O d μ M pc len x y z ls st A K =>
    v_b2 v_lt st A (fun st A => ih O d μ M x ls st A K) (fun st A => ih O d μ M (pc + 3) ls st A K)
noncomputable def v_h_if_icmp_ge : v_Hd := fun C ih O d μ M pc len x y z ls st A K =>
    v_b2 v_lt st A (fun st A => ih O d μ M (pc + 3) ls st A K) (fun st A => ih O d μ M x ls st A K)
noncomputable def v_h_if_icmp_gt : v_Hd := fun C ih O d μ M pc len x y z ls st A K =>
    v_b2 (fun a b => v_lt b a) st A (fun st A => ih O d μ M x ls st A K) (fun st A => ih O d μ M (pc + 3) ls st A K)
noncomputable def v_h_if_icmp_le : v_Hd := fun C ih O d μ M pc len x y z ls st A K =>
    v_b2 (fun a b => v_lt b a) st A (fun st A => ih O d μ M (pc + 3) ls st A K) (fun st A => ih O d μ M x ls st A K)
noncomputable def v_h_ifnull : v_Hd := fun C ih O d μ M pc len x y z ls st A K =>
    (match st with
    | .inr (.inr none) :: r => ih O d μ M x ls r A K
    | .inr (.inr (some _)) :: r => ih O d μ M (pc + 3) ls r A K
    | _ => false)
noncomputable def v_h_ifnonnull : v_Hd := fun C ih O d μ M pc len x y z ls st A K =>
    (match st with
    | .inr (.inr none) :: r => ih O d μ M (pc + 3) ls r A K
    | .inr (.inr (some _)) :: r => ih O d μ M x ls r A K
    | _ => false)
noncomputable def v_h_tableswitch (df : Int) (lo : Int) (hi : Int) (offs : Array Int) : v_Hd := fun C ih O d μ M pc len x y z ls st A K =>
    (match st with
    | .inl a :: r => bif (q_ieq hi (lo + (q_len offs.toList : Int) - 1)) && ((offs.toList).all (fun o => (q_ile 0 ((pc : Int) + o))) && (q_ile 0 ((pc : Int) + df))) then v_ts pc a r lo offs.toList df A (fun pc r A => ih O d μ M pc ls r A K) else false
    | _ => false)
noncomputable def v_h_ireturn : v_Hd := fun C ih O d μ M pc len x y z ls st A K =>
    v_rt .ireturn M.2.2.2.2.1 st A K
noncomputable def v_h_areturn : v_Hd := fun C ih O d μ M pc len x y z ls st A K =>
    v_rt .areturn M.2.2.2.2.1 st A K
noncomputable def v_h_return_ : v_Hd := fun C ih O d μ M pc len x y z ls st A K =>
    v_rt .return_ M.2.2.2.2.1 st A K
noncomputable def v_h_lookupswitch (df : Int) (ps : Array (Int × Int)) : v_Hd := fun C ih O d μ M pc len x y z ls st A K =>
    (match st with
    | .inl a :: r => bif ((ps.toList.zip (ps.toList.drop 1)).all (fun (a, next) => a.1 < next.1)) && ((ps.toList).all (fun o => (q_ile 0 ((pc : Int) + o.2))) && (q_ile 0 ((pc : Int) + df))) then v_lk pc a r ps.toList df A (fun pc r A => ih O d μ M pc ls r A K) else false
    | _ => false)
noncomputable def v_h_getfield : v_Hd := fun C ih O d μ M pc len x y z ls st A K =>
    v_gf C x y st A (fun st A => ih O d μ M (pc + len) ls st A K)
noncomputable def v_h_putfield : v_Hd := fun C ih O d μ M pc len x y z ls st A K =>
    v_pf C x y st A (fun st A => ih O d μ M (pc + len) ls st A K)
noncomputable def v_h_arraylength : v_Hd := fun C ih O d μ M pc len x y z ls st A K =>
    v_al C st A (fun st A => ih O d μ M (pc + len) ls st A K)
noncomputable def v_h_iaload : v_Hd := fun C ih O d μ M pc len x y z ls st A K =>
    v_ia C false st A (fun st A => ih O d μ M (pc + len) ls st A K)
noncomputable def v_h_baload : v_Hd := fun C ih O d μ M pc len x y z ls st A K =>
    v_ia C true st A (fun st A => ih O d μ M (pc + len) ls st A K)
noncomputable def v_h_aaload : v_Hd := fun C ih O d μ M pc len x y z ls st A K =>
    v_aa C st A (fun st A => ih O d μ M (pc + len) ls st A K)
noncomputable def v_h_iastore : v_Hd := fun C ih O d μ M pc len x y z ls st A K =>
    v_is C false st A (fun st A => ih O d μ M (pc + len) ls st A K)
noncomputable def v_h_bastore : v_Hd := fun C ih O d μ M pc len x y z ls st A K =>
    v_is C true st A (fun st A => ih O d μ M (pc + len) ls st A K)
noncomputable def v_h_invokestatic : v_Hd := fun C ih O d μ M pc len x y z ls st A K =>
    bif Nat.blt x 77777 then v_ivk C ih 0 O d μ M pc ls x y st A K else bif Nat.beq x 99998 then v_cp C d st A (fun st A => ih O d μ M (pc + len) ls st A K) else bif Nat.beq x 99997 then v_m2 d 12 st A (fun st A => ih O d μ M (pc + len) ls st A K) else bif Nat.beq x 99996 then v_m2 d 13 st A (fun st A => ih O d μ M (pc + len) ls st A K) else bif Nat.beq x 99995 then v_m1 d st A (fun st A => ih O d μ M (pc + len) ls st A K) else false
noncomputable def v_h_invokevirtual : v_Hd := fun C ih O d μ M pc len x y z ls st A K =>
    bif Nat.blt x 77777 then v_ivk C ih 1 O d μ M pc ls x y st A K else false
noncomputable def v_disp (ins : Instr) : v_Hd := match ins with
  | .iconst n => v_h_iconst n
  | .bipush n => v_h_bipush n
  | .sipush n => v_h_sipush n
  | .ldc _ => v_h_ldc
  | .ldc_w _ => v_h_ldc_w
  | .ldc2_w _ => v_h_ldc2_w
  | .lconst n => v_h_lconst n
  | .iload i => v_h_iload i
  | .iload_n i => v_h_iload_n i
  | .aload i => v_h_aload i
  | .aload_n i => v_h_aload_n i
  | .lload i => v_h_lload i
  | .lload_n i => v_h_lload_n i
  | .istore i => v_h_istore i
  | .istore_n i => v_h_istore_n i
  | .astore i => v_h_astore i
  | .astore_n i => v_h_astore_n i
  | .iinc i n => v_h_iinc i n
  | .iadd => v_h_iadd
  | .isub => v_h_isub
  | .imul => v_h_imul
  | .iand => v_h_iand
  | .ior => v_h_ior
  | .ixor => v_h_ixor
  | .ishl => v_h_ishl
  | .ishr => v_h_ishr
  | .iushr => v_h_iushr
  | .idiv => v_h_idiv
  | .irem => v_h_irem
  | .ineg => v_h_ineg
  | .i2b => v_h_i2b
  | .i2c => v_h_i2c
  | .i2l => v_h_i2l
  | .lcmp => v_h_lcmp
  | .dup => v_h_dup
  | .dup2 => v_h_dup2
  | .pop => v_h_pop
  | .aconst_null => v_h_aconst_null
  | .goto _ => v_h_goto
  | .ifCond .eq _ => v_h_ifCond_eq
  | .ifCond .ne _ => v_h_ifCond_ne
  | .ifCond .lt _ => v_h_ifCond_lt
  | .ifCond .ge _ => v_h_ifCond_ge
  | .ifCond .gt _ => v_h_ifCond_gt
  | .ifCond .le _ => v_h_ifCond_le
  | .if_icmp .eq _ => v_h_if_icmp_eq
  | .if_icmp .ne _ => v_h_if_icmp_ne
  | .if_icmp .lt _ => v_h_if_icmp_lt
  | .if_icmp .ge _ => v_h_if_icmp_ge
  | .if_icmp .gt _ => v_h_if_icmp_gt
  | .if_icmp .le _ => v_h_if_icmp_le
  | .ifnull _ => v_h_ifnull
  | .ifnonnull _ => v_h_ifnonnull
  | .tableswitch df lo hi offs => v_h_tableswitch df lo hi offs
  | .lookupswitch df ps => v_h_lookupswitch df ps
  | .getfield _ => v_h_getfield
  | .putfield _ => v_h_putfield
  | .arraylength => v_h_arraylength
  | .iaload => v_h_iaload
  | .baload => v_h_baload
  | .aaload => v_h_aaload
  | .iastore => v_h_iastore
  | .bastore => v_h_bastore
  | .invokestatic _ => v_h_invokestatic
  | .invokevirtual _ => v_h_invokevirtual
  | .ireturn => v_h_ireturn
  | .areturn => v_h_areturn
  | .return_ => v_h_return_
  | _ => fun _ _ _ _ _ _ _ _ _ _ _ _ _ _ _ => false
/-- the String constant's indexOf, at its one place -/
noncomputable def v_mac (ih : v_Ih) (O : List v_Oe) (d μ : Nat) (M : g_M) (pc : Nat) (ls : q_L) (st : List q_V) (A : v_A) (K : v_K) : Bool := match st, q_gl ls 2 with
  | [], some (.inl _) => bif Nat.beq pc 13 && (Nat.ble 8 d && decide (M.1 = RX5 ∧ M.2.1 = yX5_readFactor ∧ M.2.2.1 = cX5_readFactor)) then q_new A.1 (-1, 14, 0, .inl 0, .inl 0) (fun v e => ih O d μ M 20 ls [.inl v] (e, A.2) K) else false
  | _, _ => false
noncomputable def v_one (C : v_Cx) (ih : v_Ih) (O : List v_Oe) (d μ : Nat) (M : g_M) (pc : Nat) (ls : q_L) (st : List q_V) (A : v_A) (K : v_K) : Bool :=
  match M.2.2.2.2.2 pc with
  | none => v_mac ih O d μ M pc ls st A K
  | some en => v_disp en.1.1 C ih O d μ M pc en.1.2 en.2.1 en.2.2.1 en.2.2.2 ls st A K
def v_veq (v w : q_V) : Bool := match v, w with
  | .inl a, .inl b => q_nb a b
  | .inr (.inl a), .inr (.inl b) => q_nb a b
  | .inr (.inr none), .inr (.inr none) => true
  | .inr (.inr (some a)), .inr (.inr (some b)) => Nat.beq a b
  | _, _ => false
/-- the locals at a head, opened: kept ones and fresh symbols from n on -/
noncomputable def v_mkl (ls : q_L) (p : v_Pat) : Nat → q_L := List.rec (motive := fun _ => Nat → q_L) (fun _ => []) (fun h _ ih n => match h.2 with
  | none => (match q_gl ls h.1 with
    | some v => (h.1, v) :: ih n
    | none => ih n)
  | some _ => (h.1, .inl (.inr n)) :: ih (Nat.succ n)) p
noncomputable def v_gen (p : v_Pat) : q_S := List.rec (motive := fun _ => q_S) [] (fun h _ ih => match h.2 with
  | none => ih
  | some b => (b.1, b.2, 0, .inl 0, .inl 0) :: ih) p
/-- what comes to a head for the first time -/
noncomputable def v_chk0 (env : q_S) (ls : q_L) (p : v_Pat) : Bool := List.rec (motive := fun _ => Bool) true (fun h _ ih => match h.2 with
  | none => ih
  | some b => (match q_gl ls h.1 with
    | some (.inl a) => v_in (q_iv env a) b.1 b.2 && ih
    | _ => false)) p
/-- what comes to it again -/
noncomputable def v_chk1 (env : q_S) (ls0 ls : q_L) (p : v_Pat) : Bool := List.rec (motive := fun _ => Bool) true (fun h _ ih => match h.2 with
  | none => (match q_gl ls0 h.1, q_gl ls h.1 with
    | some v, some w => v_veq v w && ih
    | none, _ => ih
    | _, _ => false)
  | some b => (match q_gl ls h.1 with
    | some (.inl a) => v_in (q_iv env a) b.1 b.2 && ih
    | _ => false)) p
/-- the counter goes on -/
noncomputable def v_prog (env : q_S) (s : Nat) (up : Bool) (w : q_N) : Bool := (bif up then q_ilt (q_iv env (.inr s)).2 (q_iv env w).1 else q_ilt (q_iv env w).2 (q_iv env (.inr s)).1) || (match w with
  | .inr t => (match q_nth env t with
    | some e => (match e.2.2.1, e.2.2.2.1, e.2.2.2.2 with
      | 1, .inr s', .inl c => Nat.beq s s' && ((bif up then q_ilt 0 c else q_ilt c 0) && (q_ile (-2147483648) ((q_iv env (.inr s)).1 + c) && q_ile ((q_iv env (.inr s)).2 + c) 2147483647))
      | _, _, _ => false)
    | none => false)
  | .inl _ => false)
noncomputable def v_gp (p : v_Pat) (ci : Nat) : Nat → Option Nat := List.rec (motive := fun _ => Nat → Option Nat) (fun _ => none) (fun h _ ih n => match h.2 with
  | none => ih n
  | some _ => bif Nat.beq h.1 ci then some n else ih (Nat.succ n)) p
noncomputable def v_fo (O : List v_Oe) (pc : Nat) : Option v_Oe := List.rec (motive := fun _ => Option v_Oe) none (fun h _ ih => bif Nat.beq h.1 pc then some h else ih) O
noncomputable def v_head (C : v_Cx) (ih : v_Ih) (O : List v_Oe) (d μ : Nat) (M : g_M) (pc : Nat) (hp : v_Hp) (ls : q_L) (st : List q_V) (A : v_A) (K : v_K) : Bool := match st with
  | [] => (match v_fo O pc with
    | some h => v_chk1 A.1 h.2.2.2.1 ls h.2.2.1 && (match q_gl ls h.2.2.2.2.1 with
      | some (.inl w) => v_prog A.1 (h.2.1 + h.2.2.2.2.2.1) h.2.2.2.2.2.2 w
      | _ => false)
    | none => (match v_gp hp.1 hp.2.1 0 with
      | some g => v_chk0 A.1 ls hp.1 && v_one C ih ((pc, q_len A.1, hp.1, ls, hp.2.1, g, hp.2.2.2) :: O) d μ M pc (v_mkl ls hp.1 (q_len A.1)) [] (A.1 ++ v_gen hp.1, v_ok A.1 C.2.1 A.2.1, v_rk C.2.1 A.2.2) K
      | none => false))
  | _ => false
noncomputable def v_run (C : v_Cx) (fuel : Nat) : v_Ih := Nat.rec (motive := fun _ => v_Ih) (fun _ _ _ _ _ _ _ _ _ => false) (fun _ ih O d μ M pc ls st A K => match C.2.2.2.1 μ pc with
  | none => v_one C ih O d μ M pc ls st A K
  | some hp => v_head C ih O d μ M pc hp ls st A K) fuel
