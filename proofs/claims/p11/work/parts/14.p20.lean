section Prt20
/-! the store by its contents: every cell has a kind that stays; what changes are the numbers in it, and a few references -/
noncomputable abbrev v_Sf : Type := Nat → Nat → Int32
noncomputable abbrev v_Rf : Type := Nat → Nat → Option Nat
noncomputable abbrev v_Ft : Type := (Int × Int) ⊕ (Nat ⊕ List Nat)
noncomputable abbrev v_Ct : Type := (Nat × Nat × Int × Int) ⊕ (List Nat ⊕ (Nat × List v_Ft))
noncomputable def v_fv (S : v_Sf) (R : v_Rf) (a j : Nat) (ft : v_Ft) : Value := match ft with
  | .inl _ => .int (S a j)
  | .inr (.inl k) => .ref k
  | .inr (.inr _) => va_rf (R a j)
noncomputable def v_cell (S : v_Sf) (R : v_Rf) (a : Nat) (t : Option v_Ct) : g_Ce := match t with
  | some (.inl (tg, n, _)) => .inl (tg, n, .inl (S a))
  | some (.inr (.inl l)) => .inl (3, l.length, .inr (R a))
  | some (.inr (.inr (ci, fs))) => .inr (ci, fs.mapIdx (fun j ft => v_fv S R a j ft))
  | none => .inl (9, 0, .inl (fun _ => 0))
noncomputable def v_N : Nat := 173
noncomputable def v_mk (ty : Nat → Option v_Ct) (S : v_Sf) (R : v_Rf) : List g_Ce := (List.range v_N).map (fun a => v_cell S R a (ty a))
noncomputable abbrev v_A : Type := q_S × List (Nat × q_N × q_N) × List (Nat × Nat × Nat)
noncomputable abbrev v_K : Type := Option q_V → v_A → Bool
noncomputable abbrev v_Pat : Type := List (Nat × Option (Int × Int))
/-- an open head: its place, how many symbols there were, its pattern, the locals as it was opened, the counter's local, its place among the fresh symbols, whether it rises -/
noncomputable abbrev v_Oe : Type := Nat × Nat × v_Pat × q_L × Nat × Nat × Bool
noncomputable abbrev v_Hp : Type := v_Pat × Nat × Nat × Bool
noncomputable abbrev v_Hk : Type := Nat → Nat → List q_V → v_A → v_K → Option Bool
noncomputable abbrev v_Cx : Type := (Nat → Option v_Ct) × List (Nat × Nat × Nat) × (Nat → Nat → Nat → Bool) × (Nat → Nat → Option v_Hp) × v_Hk
noncomputable abbrev v_Ih : Type := List v_Oe → Nat → Nat → g_M → Nat → q_L → List q_V → v_A → v_K → Bool
/-- whether a place may be written -/
noncomputable def v_md (m : List (Nat × Nat × Nat)) (a lo hi : Nat) : Bool := List.rec (motive := fun _ => Bool) false (fun h _ ih => bif Nat.beq h.1 a && (Nat.ble h.2.1 lo && Nat.ble hi h.2.2) then true else ih) m
/-- whether a place may be hit -/
noncomputable def v_hit (m : List (Nat × Nat × Nat)) (a lo hi : Nat) : Bool := List.rec (motive := fun _ => Bool) false (fun h _ ih => bif Nat.beq h.1 a && (Nat.ble h.2.1 hi && Nat.ble lo h.2.2) then true else ih) m
noncomputable def v_of (ov : List (Nat × q_N × q_N)) (a : Nat) (i : q_N) : Option q_N := List.rec (motive := fun _ => Option q_N) none (fun h _ ih => bif Nat.beq h.1 a && q_nb h.2.1 i then some h.2.2 else ih) ov
noncomputable def v_rof (ov : List (Nat × Nat × Nat)) (a j : Nat) : Option Nat := List.rec (motive := fun _ => Option Nat) none (fun h _ ih => bif Nat.beq h.1 a && Nat.beq h.2.1 j then some h.2.2 else ih) ov
noncomputable def v_df (i j : q_N) : Bool := match i, j with
  | .inl x, .inl y => bif q_ieq x y then false else true
  | _, _ => false
/-- a write: what else is known of that cell goes, but at other known places -/
noncomputable def v_ow (ov : List (Nat × q_N × q_N)) (a : Nat) (i v : q_N) : List (Nat × q_N × q_N) := (a, i, v) :: List.rec (motive := fun _ => List (Nat × q_N × q_N)) [] (fun h _ ih => bif Nat.beq h.1 a then (bif v_df h.2.1 i then h :: ih else ih) else h :: ih) ov
noncomputable def v_row (ov : List (Nat × Nat × Nat)) (a j r : Nat) : List (Nat × Nat × Nat) := (a, j, r) :: List.rec (motive := fun _ => List (Nat × Nat × Nat)) [] (fun h _ ih => bif Nat.beq h.1 a && Nat.beq h.2.1 j then ih else h :: ih) ov
/-- what stays known over what may write at m -/
noncomputable def v_ok (env : q_S) (m : List (Nat × Nat × Nat)) (ov : List (Nat × q_N × q_N)) : List (Nat × q_N × q_N) := List.rec (motive := fun _ => List (Nat × q_N × q_N)) [] (fun h _ ih => bif v_hit m h.1 (q_iv env h.2.1).1.toNat (q_iv env h.2.1).2.toNat then ih else h :: ih) ov
noncomputable def v_rk (m : List (Nat × Nat × Nat)) (ov : List (Nat × Nat × Nat)) : List (Nat × Nat × Nat) := List.rec (motive := fun _ => List (Nat × Nat × Nat)) [] (fun h _ ih => bif v_hit m h.1 h.2.1 h.2.1 then ih else h :: ih) ov
noncomputable def v_rd (a : Nat) (i : q_N) (lo hi : Int) (A : v_A) (k : q_N → v_A → Bool) : Bool := match v_of A.2.1 a i with
  | some v => k v A
  | none => q_new A.1 (lo, hi, 0, .inl 0, .inl 0) (fun v e => k v (e, (a, i, v) :: A.2.1, A.2.2))
noncomputable def v_rr (a j : Nat) (l : List Nat) (A : v_A) (k : Nat → v_A → Bool) : Bool := match v_rof A.2.2 a j with
  | some r => k r A
  | none => List.rec (motive := fun _ => Bool) true (fun h _ ih => k h (A.1, A.2.1, (a, j, h) :: A.2.2) && ih) l
noncomputable def v_in (p : Int × Int) (lo hi : Int) : Bool := q_ile lo p.1 && q_ile p.2 hi
noncomputable def v_wr (C : v_Cx) (a : Nat) (i v : q_N) (lo hi : Int) (A : v_A) (k : v_A → Bool) : Bool := bif v_in (q_iv A.1 v) lo hi && (v_md C.2.1 a (q_iv A.1 i).1.toNat (q_iv A.1 i).2.toNat && (bif C.2.2.1 a (q_iv A.1 i).1.toNat (q_iv A.1 i).2.toNat then false else true)) then k (A.1, v_ow A.2.1 a i v, A.2.2) else false
noncomputable def v_gf (C : v_Cx) (x y : Nat) (st : List q_V) (A : v_A) (k : List q_V → v_A → Bool) : Bool := match st with
  | .inr (.inr (some (Nat.succ a))) :: r => (match C.1 a with
    | some (.inr (.inr (ci, fs))) => bif Nat.beq ci x then (match q_nth fs y with
      | some (.inl b) => v_rd a (.inl (Int.ofNat y)) b.1 b.2 A (fun v A => k (.inl v :: r) A)
      | some (.inr (.inl c)) => k (.inr (.inr (some c)) :: r) A
      | some (.inr (.inr l)) => v_rr a y l A (fun c A => k (.inr (.inr (some c)) :: r) A)
      | none => false) else false
    | _ => false)
  | _ => false
noncomputable def v_mem (l : List Nat) (c : Nat) : Bool := List.rec (motive := fun _ => Bool) false (fun h _ ih => bif Nat.beq h c then true else ih) l
noncomputable def v_pf (C : v_Cx) (x y : Nat) (st : List q_V) (A : v_A) (k : List q_V → v_A → Bool) : Bool := match st with
  | v :: .inr (.inr (some (Nat.succ a))) :: r => (match C.1 a with
    | some (.inr (.inr (ci, fs))) => bif Nat.beq ci x && q_fits (g_ty x y) v A.1 q_iv then (match q_nth fs y, v with
      | some (.inl b), .inl n => v_wr C a (.inl (Int.ofNat y)) n b.1 b.2 A (fun A => k r A)
      | some (.inr (.inr l)), .inr (.inr (some c)) => bif v_mem l c && v_md C.2.1 a y y then k r (A.1, A.2.1, v_row A.2.2 a y c) else false
      | _, _ => false) else false
    | _ => false)
  | _ => false
noncomputable def v_al (C : v_Cx) (st : List q_V) (A : v_A) (k : List q_V → v_A → Bool) : Bool := match st with
  | .inr (.inr (some (Nat.succ a))) :: r => (match C.1 a with
    | some (.inl (t, n, _)) => bif Nat.blt t 4 && Nat.blt n 100001 then k (.inl (.inl (n : Int)) :: r) A else false
    | some (.inr (.inl l)) => bif Nat.blt (q_len l) 100001 then k (.inl (.inl (q_len l : Int)) :: r) A else false
    | _ => false)
  | _ => false
noncomputable def v_ia (C : v_Cx) (b : Bool) (st : List q_V) (A : v_A) (k : List q_V → v_A → Bool) : Bool := match st with
  | .inl i :: .inr (.inr (some (Nat.succ a))) :: r => (match C.1 a with
    | some (.inl (t, n, lo, hi)) => bif (bif b then Nat.beq t 1 || Nat.beq t 2 else Nat.beq t 0) && (q_ile 0 (q_iv A.1 i).1 && q_ilt (q_iv A.1 i).2 (n : Int)) then v_rd a i lo hi A (fun v A => k (.inl v :: r) A) else false
    | _ => false)
  | _ => false
noncomputable def v_is (C : v_Cx) (b : Bool) (st : List q_V) (A : v_A) (k : List q_V → v_A → Bool) : Bool := match st with
  | .inl v :: .inl i :: .inr (.inr (some (Nat.succ a))) :: r => (match C.1 a with
    | some (.inl (t, n, lo, hi)) => bif (bif b then (Nat.beq t 1 && v_in (q_iv A.1 v) (-128) 127) || (Nat.beq t 2 && v_in (q_iv A.1 v) 0 1) else Nat.beq t 0) && (q_ile 0 (q_iv A.1 i).1 && q_ilt (q_iv A.1 i).2 (n : Int)) then v_wr C a i v lo hi A (fun A => k r A) else false
    | _ => false)
  | _ => false
noncomputable def v_aa (C : v_Cx) (st : List q_V) (A : v_A) (k : List q_V → v_A → Bool) : Bool := match st with
  | .inl i :: .inr (.inr (some (Nat.succ a))) :: r => (match C.1 a with
    | some (.inr (.inl l)) => bif q_ile 0 (q_iv A.1 i).1 && q_ilt (q_iv A.1 i).2 (q_len l : Int) then v_need i A.1 (fun c e => match q_nth l c.toNat with
      | some r1 => k (.inr (.inr (some r1)) :: r) (e, A.2)
      | none => false) else false
    | _ => false)
  | _ => false
/-- System.arraycopy: from the row's own first places on -/
noncomputable def v_cp (C : v_Cx) (d : Nat) (st : List q_V) (A : v_A) (k : List q_V → v_A → Bool) : Bool := match st with
  | .inl n :: .inl (.inl 0) :: .inr (.inr (some (Nat.succ a))) :: .inl (.inl 0) :: .inr (.inr (some (Nat.succ a0))) :: r => (match C.1 a0, C.1 a with
    | some (.inl (0, n0, lo0, hi0)), some (.inl (0, n1, lo1, hi1)) => bif ((q_ile 0 (q_iv A.1 n).1 && q_ile (q_iv A.1 n).2 (n0 : Int)) && (q_ile (q_iv A.1 n).2 (n1 : Int) && (q_ile lo1 lo0 && q_ile hi0 hi1))) && ((v_md C.2.1 a 0 n1 && (bif C.2.2.1 a 0 n1 then false else true)) && (Nat.ble (q_lsl r) 8 && Nat.blt 0 d)) then k r (A.1, v_ok A.1 [(a, 0, n1)] A.2.1, A.2.2) else false
    | _, _ => false)
  | _ => false
noncomputable def v_m2 (d op : Nat) (st : List q_V) (A : v_A) (k : List q_V → v_A → Bool) : Bool := match st with
  | .inl b :: .inl a :: r => bif Nat.ble (q_lsl r) 8 && Nat.blt 0 d then v_bin op a b A.1 (fun v e => k (.inl v :: r) (e, A.2)) else false
  | _ => false
noncomputable def v_m1 (d : Nat) (st : List q_V) (A : v_A) (k : List q_V → v_A → Bool) : Bool := match st with
  | .inl _ :: r => bif Nat.ble (q_lsl r) 8 && Nat.blt 0 d then q_new A.1 (-2147483648, 2147483647, 0, .inl 0, .inl 0) (fun v e => k (.inl v :: r) (e, A.2)) else false
  | _ => false
noncomputable def v_fk (ls : q_L) (i : Nat) : q_L := List.rec (motive := fun _ => q_L) [] (fun h _ ih => bif Nat.beq h.1 i then ih else h :: ih) ls
noncomputable def v_k2 (ls : q_L) (i : Nat) : Nat := match q_gl ls (Nat.pred i) with
  | some u => bif Nat.beq (q_ct u) 2 then Nat.pred i else i
  | none => i
noncomputable def v_sl (ls : q_L) (i : Nat) (v : q_V) : q_L := (i, v) :: v_fk (v_fk ls i) (v_k2 ls i)
noncomputable def v_cm (md : Nat) (st : List q_V) (A : v_A) (k : List q_V → v_A → Bool) : Bool := match st with
  | .inr (.inl y) :: .inr (.inl x) :: r => bif Nat.beq md 1 then v_lt x y A.1 (fun e => k (.inl (.inl (-1)) :: r) (e, A.2)) (fun e => q_new e (0, 1, 0, .inl 0, .inl 0) (fun v e => k (.inl v :: r) (e, A.2))) else bif Nat.beq md 2 then v_lt y x A.1 (fun e => k (.inl (.inl 1) :: r) (e, A.2)) (fun e => q_new e (-1, 0, 0, .inl 0, .inl 0) (fun v e => k (.inl v :: r) (e, A.2))) else v_lt y x A.1 (fun e => k (.inl (.inl 1) :: r) (e, A.2)) (fun e => v_eq x y e (fun e => k (.inl (.inl 0) :: r) (e, A.2)) (fun e => k (.inl (.inl (-1)) :: r) (e, A.2)))
  | _ => false
noncomputable def v_nx (M : g_M) (pc : Nat) : Nat := match M.2.2.2.2.2 pc with
  | some en => (match en.1.1 with
    | .ifCond .lt _ => 1
    | .ifCond .gt _ => 2
    | _ => 0)
  | none => 0
noncomputable def v_b1 (cmp : q_N → q_N → q_S → (q_S → Bool) → (q_S → Bool) → Bool) (st : List q_V) (A : v_A) (kt kf : List q_V → v_A → Bool) : Bool := match st with
  | .inl a :: r => cmp a (.inl 0) A.1 (fun e => kt r (e, A.2)) (fun e => kf r (e, A.2))
  | _ => false
noncomputable def v_b2 (cmp : q_N → q_N → q_S → (q_S → Bool) → (q_S → Bool) → Bool) (st : List q_V) (A : v_A) (kt kf : List q_V → v_A → Bool) : Bool := match st with
  | .inl b :: .inl a :: r => cmp a b A.1 (fun e => kt r (e, A.2)) (fun e => kf r (e, A.2))
  | _ => false
noncomputable def v_i2 (op : Nat) (st : List q_V) (A : v_A) (k : List q_V → v_A → Bool) : Bool := match st with
  | .inl b :: .inl a :: r => v_bin op a b A.1 (fun v e => k (.inl v :: r) (e, A.2))
  | _ => false
noncomputable def v_d2 (op : Nat) (st : List q_V) (A : v_A) (k : List q_V → v_A → Bool) : Bool := match st with
  | .inl b :: .inl a :: r => v_eq b (.inl 0) A.1 (fun _ => false) (fun e => v_bin op a b e (fun v e => k (.inl v :: r) (e, A.2)))
  | _ => false
noncomputable def v_u1 (lo hi : Int) (f : Int32 → Int32) (st : List q_V) (A : v_A) (k : List q_V → v_A → Bool) : Bool := match st with
  | .inl a :: r => (match q_c A.1 a with
    | some x => k (.inl (.inl (f (Int32.ofInt x)).toInt) :: r) A
    | none => q_new A.1 (lo, hi, 0, .inl 0, .inl 0) (fun v e => k (.inl v :: r) (e, A.2)))
  | _ => false
noncomputable def q_ld (kd : Nat) (ls : q_L) (i : Nat) (st : List q_V) (k : List q_V → Bool) : Bool := match q_gl ls i with
  | some (.inl v) => bif Nat.beq kd 0 then k (.inl v :: st) else false
  | some (.inr (.inl v)) => bif Nat.beq kd 2 then k (.inr (.inl v) :: st) else false
  | some (.inr (.inr v)) => bif Nat.beq kd 1 then k (.inr (.inr v) :: st) else false
  | _ => false
noncomputable def v_st (kd nL : Nat) (ls : q_L) (i : Nat) (st : List q_V) (k : q_L → List q_V → Bool) : Bool := match st with
  | .inl v :: r => bif Nat.beq kd 0 && Nat.blt i nL then k (v_sl ls i (.inl v)) r else false
  | .inr (.inr v) :: r => bif Nat.beq kd 1 && Nat.blt i nL then k (v_sl ls i (.inr (.inr v))) r else false
  | _ => false
noncomputable def v_inc (nL : Nat) (ls : q_L) (i : Nat) (n : Int) (A : v_A) (k : q_L → v_A → Bool) : Bool := match q_gl ls i with
  | some (.inl v) => bif Nat.blt i nL && Nat.blt n.natAbs 32768 then v_bin 1 v (.inl n) A.1 (fun w e => k (v_sl ls i (.inl w)) (e, A.2)) else false
  | _ => false
noncomputable def v_ts (pc : Nat) (a : q_N) (r : List q_V) (lo : Int) (offs : List Int) (d : Int) (A : v_A) (k : Nat → List q_V → v_A → Bool) : Bool :=
  List.rec (motive := fun _ => Int → q_S → Bool) (fun _ e => k ((pc : Int) + d).toNat r (e, A.2)) (fun o _ ih c e => v_eq a (.inl c) e (fun e => k ((pc : Int) + o).toNat r (e, A.2)) (fun e => ih (c + 1) e)) offs lo A.1
/-- the answer of a method -/
noncomputable def v_rt (ins : Instr) (ret : Option FieldType) (st : List q_V) (A : v_A) (K : v_K) : Bool := match ins, ret, st with
  | .ireturn, some .int, [.inl v] => K (some (.inl v)) A
  | .ireturn, some .boolean, [.inl v] => bif (q_ile 0 ((q_iv A.1 v).1)) && (q_ile ((q_iv A.1 v).2) 1) then K (some (.inl v)) A else false
  | .areturn, some (.object _), [.inr (.inr v)] => K (some (.inr (.inr v))) A
  | .return_, none, [] => K none A
  | _, _, _ => false
noncomputable def q_pr (v : Option q_V) (r : List q_V) : List q_V := match v with
  | some v => v :: r
  | none => r
noncomputable def v_lk (pc : Nat) (a : q_N) (r : List q_V) (ps : List (Int × Int)) (d : Int) (A : v_A) (k : Nat → List q_V → v_A → Bool) : Bool :=
  List.rec (motive := fun _ => q_S → Bool) (fun e => k ((pc : Int) + d).toNat r (e, A.2)) (fun o _ ih e => v_eq a (.inl o.1) e (fun e => k ((pc : Int) + o.2).toNat r (e, A.2)) (fun e => ih e)) ps A.1
noncomputable def v_rcv (C : v_Cx) (a x : Nat) : Bool := match C.1 a with
  | some (.inr (.inr (ci, _))) => (match q_nth g_oc x with
    | some o => Nat.beq ci o && Nat.blt ci 13
    | none => false)
  | _ => false
/-- a callee's road: by a hook, or gone -/
noncomputable def v_ivc (C : v_Cx) (ih : v_Ih) (d' x : Nat) (M' : g_M) (A : v_A) (as : List q_V) (k : v_K) : Bool := match C.2.2.2.2 d' x as A k with
  | some b => b
  | none => ih [] d' x M' 0 (q_args 0 as) [] A k
noncomputable def v_ivs (C : v_Cx) (ih : v_Ih) (O : List v_Oe) (d' μ : Nat) (M M' : g_M) (pc : Nat) (ls : q_L) (x : Nat) (A : v_A) (K : v_K) (as r : List q_V) : Bool := bif Nat.ble (q_lsl r) 8 && Nat.ble (q_lsl as) M'.2.2.2.1 then v_ivc C ih d' x M' A as (fun v A' => ih O (Nat.succ d') μ M (pc + 3) ls (q_pr v r) A' K) else false
noncomputable def v_ivr (C : v_Cx) (ih : v_Ih) (O : List v_Oe) (d' μ : Nat) (M M' : g_M) (pc : Nat) (ls : q_L) (x : Nat) (A : v_A) (K : v_K) (as r : List q_V) : Bool := match r with
  | .inr (.inr (some (Nat.succ a))) :: r2 => bif v_rcv C a x then v_ivs C ih O d' μ M M' pc ls x A K (.inr (.inr (some (Nat.succ a))) :: as) r2 else false
  | _ => false
noncomputable def v_ivk (C : v_Cx) (ih : v_Ih) (kd : Nat) (O : List v_Oe) (d μ : Nat) (M : g_M) (pc : Nat) (ls : q_L) (x y : Nat) (st : List q_V) (A : v_A) (K : v_K) : Bool :=
  match g_mt x with
  | none => false
  | some M' => match d with
    | 0 => false
    | Nat.succ d' => q_tk y st (bif Nat.beq kd 0 then v_ivs C ih O d' μ M M' pc ls x A K else v_ivr C ih O d' μ M M' pc ls x A K)
noncomputable abbrev v_Hd : Type := v_Cx → v_Ih → List v_Oe → Nat → Nat → g_M → Nat → Nat → Nat → Nat → Int → q_L → List q_V → v_A → v_K → Bool
noncomputable def v_h_iconst (n : Int) : v_Hd := fun C ih O d μ M pc len x y z ls st A K =>
    bif Nat.blt n.natAbs 128 then ih O d μ M (pc + len) ls (.inl (.inl n) :: st) A K else false
noncomputable def v_h_bipush (n : Int) : v_Hd := fun C ih O d μ M pc len x y z ls st A K =>
    bif Nat.blt n.natAbs 128 then ih O d μ M (pc + len) ls (.inl (.inl n) :: st) A K else false
noncomputable def v_h_sipush (n : Int) : v_Hd := fun C ih O d μ M pc len x y z ls st A K =>
    bif Nat.blt n.natAbs 32768 then ih O d μ M (pc + len) ls (.inl (.inl n) :: st) A K else false
noncomputable def v_h_ldc : v_Hd := fun C ih O d μ M pc len x y z ls st A K =>
    bif Nat.blt z.natAbs 2147483648 then ih O d μ M (pc + len) ls (.inl (.inl z) :: st) A K else false
noncomputable def v_h_ldc_w : v_Hd := fun C ih O d μ M pc len x y z ls st A K =>
    bif Nat.blt z.natAbs 2147483648 then ih O d μ M (pc + len) ls (.inl (.inl z) :: st) A K else false
noncomputable def v_h_ldc2_w : v_Hd := fun C ih O d μ M pc len x y z ls st A K =>
    bif Nat.blt z.natAbs 2147483648 then ih O d μ M (pc + len) ls (.inr (.inl (.inl z)) :: st) A K else false
noncomputable def v_h_lconst (n : Fin 2) : v_Hd := fun C ih O d μ M pc len x y z ls st A K =>
    ih O d μ M (pc + len) ls (.inr (.inl (.inl ((n : Nat) : Int))) :: st) A K
noncomputable def v_h_iload (i : Nat) : v_Hd := fun C ih O d μ M pc len x y z ls st A K =>
    q_ld 0 ls i st (fun st => ih O d μ M (pc + len) ls st A K)
noncomputable def v_h_iload_n (i : Fin 4) : v_Hd := fun C ih O d μ M pc len x y z ls st A K =>
    q_ld 0 ls i st (fun st => ih O d μ M (pc + len) ls st A K)
noncomputable def v_h_aload (i : Nat) : v_Hd := fun C ih O d μ M pc len x y z ls st A K =>
    q_ld 1 ls i st (fun st => ih O d μ M (pc + len) ls st A K)
noncomputable def v_h_aload_n (i : Fin 4) : v_Hd := fun C ih O d μ M pc len x y z ls st A K =>
    q_ld 1 ls i st (fun st => ih O d μ M (pc + len) ls st A K)
noncomputable def v_h_lload (i : Nat) : v_Hd := fun C ih O d μ M pc len x y z ls st A K =>
    q_ld 2 ls i st (fun st => ih O d μ M (pc + len) ls st A K)
noncomputable def v_h_lload_n (i : Fin 4) : v_Hd := fun C ih O d μ M pc len x y z ls st A K =>
    q_ld 2 ls i st (fun st => ih O d μ M (pc + len) ls st A K)
noncomputable def v_h_istore (i : Nat) : v_Hd := fun C ih O d μ M pc len x y z ls st A K =>
    v_st 0 M.2.2.2.1 ls i st (fun ls st => ih O d μ M (pc + len) ls st A K)
noncomputable def v_h_istore_n (i : Fin 4) : v_Hd := fun C ih O d μ M pc len x y z ls st A K =>
    v_st 0 M.2.2.2.1 ls i st (fun ls st => ih O d μ M (pc + len) ls st A K)
noncomputable def v_h_astore (i : Nat) : v_Hd := fun C ih O d μ M pc len x y z ls st A K =>
    v_st 1 M.2.2.2.1 ls i st (fun ls st => ih O d μ M (pc + len) ls st A K)
noncomputable def v_h_astore_n (i : Fin 4) : v_Hd := fun C ih O d μ M pc len x y z ls st A K =>
    v_st 1 M.2.2.2.1 ls i st (fun ls st => ih O d μ M (pc + len) ls st A K)
noncomputable def v_h_iinc (i : Nat) (n : Int) : v_Hd := fun C ih O d μ M pc len x y z ls st A K =>
    v_inc M.2.2.2.1 ls i n A (fun ls A => ih O d μ M (pc + len) ls st A K)
noncomputable def v_h_iadd : v_Hd := fun C ih O d μ M pc len x y z ls st A K =>
    v_i2 1 st A (fun st A => ih O d μ M (pc + len) ls st A K)
noncomputable def v_h_isub : v_Hd := fun C ih O d μ M pc len x y z ls st A K =>
    v_i2 2 st A (fun st A => ih O d μ M (pc + len) ls st A K)
noncomputable def v_h_imul : v_Hd := fun C ih O d μ M pc len x y z ls st A K =>
    v_i2 3 st A (fun st A => ih O d μ M (pc + len) ls st A K)
noncomputable def v_h_iand : v_Hd := fun C ih O d μ M pc len x y z ls st A K =>
    v_i2 4 st A (fun st A => ih O d μ M (pc + len) ls st A K)
noncomputable def v_h_ior : v_Hd := fun C ih O d μ M pc len x y z ls st A K =>
    v_i2 5 st A (fun st A => ih O d μ M (pc + len) ls st A K)
noncomputable def v_h_ixor : v_Hd := fun C ih O d μ M pc len x y z ls st A K =>
    v_i2 6 st A (fun st A => ih O d μ M (pc + len) ls st A K)
noncomputable def v_h_ishl : v_Hd := fun C ih O d μ M pc len x y z ls st A K =>
    v_i2 7 st A (fun st A => ih O d μ M (pc + len) ls st A K)
noncomputable def v_h_ishr : v_Hd := fun C ih O d μ M pc len x y z ls st A K =>
    v_i2 8 st A (fun st A => ih O d μ M (pc + len) ls st A K)
noncomputable def v_h_iushr : v_Hd := fun C ih O d μ M pc len x y z ls st A K =>
    v_i2 9 st A (fun st A => ih O d μ M (pc + len) ls st A K)
noncomputable def v_h_idiv : v_Hd := fun C ih O d μ M pc len x y z ls st A K =>
    v_d2 10 st A (fun st A => ih O d μ M (pc + len) ls st A K)
noncomputable def v_h_irem : v_Hd := fun C ih O d μ M pc len x y z ls st A K =>
    v_d2 11 st A (fun st A => ih O d μ M (pc + len) ls st A K)
noncomputable def v_h_ineg : v_Hd := fun C ih O d μ M pc len x y z ls st A K =>
    v_u1 (-2147483648) 2147483647 (fun x => -x) st A (fun st A => ih O d μ M (pc + len) ls st A K)
noncomputable def v_h_i2b : v_Hd := fun C ih O d μ M pc len x y z ls st A K =>
    v_u1 (-128) 127 (fun x => x.toInt8.toInt32) st A (fun st A => ih O d μ M (pc + len) ls st A K)
noncomputable def v_h_i2c : v_Hd := fun C ih O d μ M pc len x y z ls st A K =>
    v_u1 0 65535 (fun x => (x.toUInt32 % 65536).toInt32) st A (fun st A => ih O d μ M (pc + len) ls st A K)
noncomputable def v_h_i2l : v_Hd := fun C ih O d μ M pc len x y z ls st A K =>
    (match st with
    | .inl a :: r => ih O d μ M (pc + len) ls (.inr (.inl a) :: r) A K
    | _ => false)
noncomputable def v_h_lcmp : v_Hd := fun C ih O d μ M pc len x y z ls st A K =>
    v_cm (v_nx M (pc + len)) st A (fun st A => ih O d μ M (pc + len) ls st A K)
noncomputable def v_h_dup : v_Hd := fun C ih O d μ M pc len x y z ls st A K =>
    (match st with
    | v :: r => bif Nat.beq (q_ct v) 1 then ih O d μ M (pc + len) ls (v :: v :: r) A K else false
    | _ => false)
noncomputable def v_h_dup2 : v_Hd := fun C ih O d μ M pc len x y z ls st A K =>
    (match st with
    | v :: w :: r => bif Nat.beq (q_ct v) 1 && Nat.beq (q_ct w) 1 then ih O d μ M (pc + len) ls (v :: w :: v :: w :: r) A K else false
    | _ => false)
noncomputable def v_h_pop : v_Hd := fun C ih O d μ M pc len x y z ls st A K =>
    (match st with
    | v :: r => bif Nat.beq (q_ct v) 1 then ih O d μ M (pc + len) ls r A K else false
    | _ => false)
noncomputable def v_h_aconst_null : v_Hd := fun C ih O d μ M pc len x y z ls st A K =>
    ih O d μ M (pc + len) ls (.inr (.inr none) :: st) A K
noncomputable def v_h_goto : v_Hd := fun C ih O d μ M pc len x y z ls st A K =>
    ih O d μ M x ls st A K
noncomputable def v_h_ifCond_eq : v_Hd := fun C ih O d μ M pc len x y z ls st A K =>
    v_b1 v_eq st A (fun st A => ih O d μ M x ls st A K) (fun st A => ih O d μ M (pc + 3) ls st A K)
noncomputable def v_h_ifCond_ne : v_Hd := fun C ih O d μ M pc len x y z ls st A K =>
    v_b1 v_eq st A (fun st A => ih O d μ M (pc + 3) ls st A K) (fun st A => ih O d μ M x ls st A K)
noncomputable def v_h_ifCond_lt : v_Hd := fun C ih O d μ M pc len x y z ls st A K =>
    v_b1 v_lt st A (fun st A => ih O d μ M x ls st A K) (fun st A => ih O d μ M (pc + 3) ls st A K)
noncomputable def v_h_ifCond_ge : v_Hd := fun C ih O d μ M pc len x y z ls st A K =>
    v_b1 v_lt st A (fun st A => ih O d μ M (pc + 3) ls st A K) (fun st A => ih O d μ M x ls st A K)
noncomputable def v_h_ifCond_gt : v_Hd := fun C ih O d μ M pc len x y z ls st A K =>
    v_b1 (fun a b => v_lt b a) st A (fun st A => ih O d μ M x ls st A K) (fun st A => ih O d μ M (pc + 3) ls st A K)
noncomputable def v_h_ifCond_le : v_Hd := fun C ih O d μ M pc len x y z ls st A K =>
    v_b1 (fun a b => v_lt b a) st A (fun st A => ih O d μ M (pc + 3) ls st A K) (fun st A => ih O d μ M x ls st A K)
noncomputable def v_h_if_icmp_eq : v_Hd := fun C ih O d μ M pc len x y z ls st A K =>
    v_b2 v_eq st A (fun st A => ih O d μ M x ls st A K) (fun st A => ih O d μ M (pc + 3) ls st A K)
noncomputable def v_h_if_icmp_ne : v_Hd := fun C ih O d μ M pc len x y z ls st A K =>
    v_b2 v_eq st A (fun st A => ih O d μ M (pc + 3) ls st A K) (fun st A => ih O d μ M x ls st A K)
noncomputable def v_h_if_icmp_lt : v_Hd := fun C ih O d μ M pc len x y z ls st A K =>
    v_b2 v_lt st A (fun st A => ih O d μ M x ls st A K) (fun st A => ih O d μ M (pc + 3) ls st A K)
noncomputable def v_h_if_icmp_ge : v_Hd := fun C ih O d μ M pc len x y z ls st A K =>
    v_b2 v_lt st A (fun st A => ih O d μ M (pc + 3) ls st A K) (fun st A => ih O d μ M x ls st A K)
noncomputable def v_h_if_icmp_gt : v_Hd := fun C ih O d μ M pc len x y z ls st A K =>
    v_b2 (fun a b => v_lt b a) st A (fun st A => ih O d μ M x ls st A K) (fun st A => ih O d μ M (pc + 3) ls st A K)
noncomputable def v_h_if_icmp_le : v_Hd := fun C ih O d μ M pc len x y z ls st A K =>
    v_b2 (fun a b => v_lt b a) st A (fun st A => ih O d μ M (pc + 3) ls st A K) (fun st A => ih O d μ M x ls st A K)
noncomputable def v_h_ifnull : v_Hd := fun C ih O d μ M pc len x y z ls st A K =>
    (match st with
    | .inr (.inr none) :: r => ih O d μ M x ls r A K
    | .inr (.inr (some _)) :: r => ih O d μ M (pc + 3) ls r A K
    | _ => false)
noncomputable def v_h_ifnonnull : v_Hd := fun C ih O d μ M pc len x y z ls st A K =>
    (match st with
    | .inr (.inr none) :: r => ih O d μ M (pc + 3) ls r A K
    | .inr (.inr (some _)) :: r => ih O d μ M x ls r A K
    | _ => false)
noncomputable def v_h_tableswitch (df : Int) (lo : Int) (hi : Int) (offs : Array Int) : v_Hd := fun C ih O d μ M pc len x y z ls st A K =>
    (match st with
    | .inl a :: r => bif (q_ieq hi (lo + (q_len offs.toList : Int) - 1)) && ((offs.toList).all (fun o => (q_ile 0 ((pc : Int) + o))) && (q_ile 0 ((pc : Int) + df))) then v_ts pc a r lo offs.toList df A (fun pc r A => ih O d μ M pc ls r A K) else false
    | _ => false)
noncomputable def v_h_ireturn : v_Hd := fun C ih O d μ M pc len x y z ls st A K =>
    v_rt .ireturn M.2.2.2.2.1 st A K
noncomputable def v_h_areturn : v_Hd := fun C ih O d μ M pc len x y z ls st A K =>
    v_rt .areturn M.2.2.2.2.1 st A K
noncomputable def v_h_return_ : v_Hd := fun C ih O d μ M pc len x y z ls st A K =>
    v_rt .return_ M.2.2.2.2.1 st A K
noncomputable def v_h_lookupswitch (df : Int) (ps : Array (Int × Int)) : v_Hd := fun C ih O d μ M pc len x y z ls st A K =>
    (match st with
    | .inl a :: r => bif ((ps.toList.zip (ps.toList.drop 1)).all (fun (a, next) => a.1 < next.1)) && ((ps.toList).all (fun o => (q_ile 0 ((pc : Int) + o.2))) && (q_ile 0 ((pc : Int) + df))) then v_lk pc a r ps.toList df A (fun pc r A => ih O d μ M pc ls r A K) else false
    | _ => false)
noncomputable def v_h_getfield : v_Hd := fun C ih O d μ M pc len x y z ls st A K =>
    v_gf C x y st A (fun st A => ih O d μ M (pc + len) ls st A K)
noncomputable def v_h_putfield : v_Hd := fun C ih O d μ M pc len x y z ls st A K =>
    v_pf C x y st A (fun st A => ih O d μ M (pc + len) ls st A K)
noncomputable def v_h_arraylength : v_Hd := fun C ih O d μ M pc len x y z ls st A K =>
    v_al C st A (fun st A => ih O d μ M (pc + len) ls st A K)
noncomputable def v_h_iaload : v_Hd := fun C ih O d μ M pc len x y z ls st A K =>
    v_ia C false st A (fun st A => ih O d μ M (pc + len) ls st A K)
noncomputable def v_h_baload : v_Hd := fun C ih O d μ M pc len x y z ls st A K =>
    v_ia C true st A (fun st A => ih O d μ M (pc + len) ls st A K)
noncomputable def v_h_aaload : v_Hd := fun C ih O d μ M pc len x y z ls st A K =>
    v_aa C st A (fun st A => ih O d μ M (pc + len) ls st A K)
noncomputable def v_h_iastore : v_Hd := fun C ih O d μ M pc len x y z ls st A K =>
    v_is C false st A (fun st A => ih O d μ M (pc + len) ls st A K)
noncomputable def v_h_bastore : v_Hd := fun C ih O d μ M pc len x y z ls st A K =>
    v_is C true st A (fun st A => ih O d μ M (pc + len) ls st A K)
noncomputable def v_h_invokestatic : v_Hd := fun C ih O d μ M pc len x y z ls st A K =>
    bif Nat.blt x 77777 then v_ivk C ih 0 O d μ M pc ls x y st A K else bif Nat.beq x 99998 then v_cp C d st A (fun st A => ih O d μ M (pc + len) ls st A K) else bif Nat.beq x 99997 then v_m2 d 12 st A (fun st A => ih O d μ M (pc + len) ls st A K) else bif Nat.beq x 99996 then v_m2 d 13 st A (fun st A => ih O d μ M (pc + len) ls st A K) else bif Nat.beq x 99995 then v_m1 d st A (fun st A => ih O d μ M (pc + len) ls st A K) else false
noncomputable def v_h_invokevirtual : v_Hd := fun C ih O d μ M pc len x y z ls st A K =>
    bif Nat.blt x 77777 then v_ivk C ih 1 O d μ M pc ls x y st A K else false
noncomputable def v_disp (ins : Instr) : v_Hd := match ins with
  | .iconst n => v_h_iconst n
  | .bipush n => v_h_bipush n
  | .sipush n => v_h_sipush n
  | .ldc _ => v_h_ldc
  | .ldc_w _ => v_h_ldc_w
  | .ldc2_w _ => v_h_ldc2_w
  | .lconst n => v_h_lconst n
  | .iload i => v_h_iload i
  | .iload_n i => v_h_iload_n i
  | .aload i => v_h_aload i
  | .aload_n i => v_h_aload_n i
  | .lload i => v_h_lload i
  | .lload_n i => v_h_lload_n i
  | .istore i => v_h_istore i
  | .istore_n i => v_h_istore_n i
  | .astore i => v_h_astore i
  | .astore_n i => v_h_astore_n i
  | .iinc i n => v_h_iinc i n
  | .iadd => v_h_iadd
  | .isub => v_h_isub
  | .imul => v_h_imul
  | .iand => v_h_iand
  | .ior => v_h_ior
  | .ixor => v_h_ixor
  | .ishl => v_h_ishl
  | .ishr => v_h_ishr
  | .iushr => v_h_iushr
  | .idiv => v_h_idiv
  | .irem => v_h_irem
  | .ineg => v_h_ineg
  | .i2b => v_h_i2b
  | .i2c => v_h_i2c
  | .i2l => v_h_i2l
  | .lcmp => v_h_lcmp
  | .dup => v_h_dup
  | .dup2 => v_h_dup2
  | .pop => v_h_pop
  | .aconst_null => v_h_aconst_null
  | .goto _ => v_h_goto
  | .ifCond .eq _ => v_h_ifCond_eq
  | .ifCond .ne _ => v_h_ifCond_ne
  | .ifCond .lt _ => v_h_ifCond_lt
  | .ifCond .ge _ => v_h_ifCond_ge
  | .ifCond .gt _ => v_h_ifCond_gt
  | .ifCond .le _ => v_h_ifCond_le
  | .if_icmp .eq _ => v_h_if_icmp_eq
  | .if_icmp .ne _ => v_h_if_icmp_ne
  | .if_icmp .lt _ => v_h_if_icmp_lt
  | .if_icmp .ge _ => v_h_if_icmp_ge
  | .if_icmp .gt _ => v_h_if_icmp_gt
  | .if_icmp .le _ => v_h_if_icmp_le
  | .ifnull _ => v_h_ifnull
  | .ifnonnull _ => v_h_ifnonnull
  | .tableswitch df lo hi offs => v_h_tableswitch df lo hi offs
  | .lookupswitch df ps => v_h_lookupswitch df ps
  | .getfield _ => v_h_getfield
  | .putfield _ => v_h_putfield
  | .arraylength => v_h_arraylength
  | .iaload => v_h_iaload
  | .baload => v_h_baload
  | .aaload => v_h_aaload
  | .iastore => v_h_iastore
  | .bastore => v_h_bastore
  | .invokestatic _ => v_h_invokestatic
  | .invokevirtual _ => v_h_invokevirtual
  | .ireturn => v_h_ireturn
  | .areturn => v_h_areturn
  | .return_ => v_h_return_
  | _ => fun _ _ _ _ _ _ _ _ _ _ _ _ _ _ _ => false
/-- the String constant's indexOf, at its one place -/
noncomputable def v_mac (ih : v_Ih) (O : List v_Oe) (d μ : Nat) (M : g_M) (pc : Nat) (ls : q_L) (st : List q_V) (A : v_A) (K : v_K) : Bool := match st, q_gl ls 2 with
  | [], some (.inl _) => bif Nat.beq pc 13 && (Nat.ble 8 d && decide (M.1 = RX5 ∧ M.2.1 = yX5_readFactor ∧ M.2.2.1 = cX5_readFactor)) then q_new A.1 (-1, 14, 0, .inl 0, .inl 0) (fun v e => ih O d μ M 20 ls [.inl v] (e, A.2) K) else false
  | _, _ => false
noncomputable def v_one (C : v_Cx) (ih : v_Ih) (O : List v_Oe) (d μ : Nat) (M : g_M) (pc : Nat) (ls : q_L) (st : List q_V) (A : v_A) (K : v_K) : Bool :=
  match M.2.2.2.2.2 pc with
  | none => v_mac ih O d μ M pc ls st A K
  | some en => v_disp en.1.1 C ih O d μ M pc en.1.2 en.2.1 en.2.2.1 en.2.2.2 ls st A K
noncomputable def v_veq (v w : q_V) : Bool := match v, w with
  | .inl a, .inl b => q_nb a b
  | .inr (.inl a), .inr (.inl b) => q_nb a b
  | .inr (.inr none), .inr (.inr none) => true
  | .inr (.inr (some a)), .inr (.inr (some b)) => Nat.beq a b
  | _, _ => false
/-- the locals at a head, opened: kept ones and fresh symbols from n on -/
noncomputable def v_mkl (ls : q_L) (p : v_Pat) : Nat → q_L := List.rec (motive := fun _ => Nat → q_L) (fun _ => []) (fun h _ ih n => match h.2 with
  | none => (match q_gl ls h.1 with
    | some v => (h.1, v) :: ih n
    | none => ih n)
  | some _ => (h.1, .inl (.inr n)) :: ih (Nat.succ n)) p
noncomputable def v_gen (p : v_Pat) : q_S := List.rec (motive := fun _ => q_S) [] (fun h _ ih => match h.2 with
  | none => ih
  | some b => (b.1, b.2, 0, .inl 0, .inl 0) :: ih) p
/-- what comes to a head for the first time -/
noncomputable def v_chk0 (env : q_S) (ls : q_L) (p : v_Pat) : Bool := List.rec (motive := fun _ => Bool) true (fun h _ ih => match h.2 with
  | none => ih
  | some b => (match q_gl ls h.1 with
    | some (.inl a) => v_in (q_iv env a) b.1 b.2 && ih
    | _ => false)) p
/-- what comes to it again -/
noncomputable def v_chk1 (env : q_S) (ls0 ls : q_L) (p : v_Pat) : Bool := List.rec (motive := fun _ => Bool) true (fun h _ ih => match h.2 with
  | none => (match q_gl ls0 h.1, q_gl ls h.1 with
    | some v, some w => v_veq v w && ih
    | none, _ => ih
    | _, _ => false)
  | some b => (match q_gl ls h.1 with
    | some (.inl a) => v_in (q_iv env a) b.1 b.2 && ih
    | _ => false)) p
/-- the counter goes on -/
noncomputable def v_prog (env : q_S) (s : Nat) (up : Bool) (w : q_N) : Bool := (bif up then q_ilt (q_iv env (.inr s)).2 (q_iv env w).1 else q_ilt (q_iv env w).2 (q_iv env (.inr s)).1) || (match w with
  | .inr t => (match q_nth env t with
    | some e => (match e.2.2.1, e.2.2.2.1, e.2.2.2.2 with
      | 1, .inr s', .inl c => Nat.beq s s' && ((bif up then q_ilt 0 c else q_ilt c 0) && (q_ile (-2147483648) ((q_iv env (.inr s)).1 + c) && q_ile ((q_iv env (.inr s)).2 + c) 2147483647))
      | _, _, _ => false)
    | none => false)
  | .inl _ => false)
noncomputable def v_gp (p : v_Pat) (ci : Nat) : Nat → Option Nat := List.rec (motive := fun _ => Nat → Option Nat) (fun _ => none) (fun h _ ih n => match h.2 with
  | none => ih n
  | some _ => bif Nat.beq h.1 ci then some n else ih (Nat.succ n)) p
noncomputable def v_fo (O : List v_Oe) (pc : Nat) : Option v_Oe := List.rec (motive := fun _ => Option v_Oe) none (fun h _ ih => bif Nat.beq h.1 pc then some h else ih) O
noncomputable def v_head (C : v_Cx) (ih : v_Ih) (O : List v_Oe) (d μ : Nat) (M : g_M) (pc : Nat) (hp : v_Hp) (ls : q_L) (st : List q_V) (A : v_A) (K : v_K) : Bool := match st with
  | [] => (match v_fo O pc with
    | some h => v_chk1 A.1 h.2.2.2.1 ls h.2.2.1 && (match q_gl ls h.2.2.2.2.1 with
      | some (.inl w) => v_prog A.1 (h.2.1 + h.2.2.2.2.2.1) h.2.2.2.2.2.2 w
      | _ => false)
    | none => (match v_gp hp.1 hp.2.1 0 with
      | some g => v_chk0 A.1 ls hp.1 && v_one C ih ((pc, q_len A.1, hp.1, ls, hp.2.1, g, hp.2.2.2) :: O) d μ M pc (v_mkl ls hp.1 (q_len A.1)) [] (A.1 ++ v_gen hp.1, v_ok A.1 C.2.1 A.2.1, v_rk C.2.1 A.2.2) K
      | none => false))
  | _ => false
noncomputable def v_run (C : v_Cx) (fuel : Nat) : v_Ih := Nat.rec (motive := fun _ => v_Ih) (fun _ _ _ _ _ _ _ _ _ => false) (fun _ ih O d μ M pc ls st A K => match C.2.2.2.1 μ pc with
  | none => v_one C ih O d μ M pc ls st A K
  | some hp => v_head C ih O d μ M pc hp ls st A K) fuel
end Prt20
section Prt21
/-! the machine by bounds tells the truth: what its words mean -/
noncomputable abbrev v_X : Type := Nat × (Nat → Int32) × v_Cx × (v_Sf → Prop) × v_Sf × v_Rf
noncomputable def v_rl (ρ : List Int) (ls : q_L) (lc : g_Lc) : Prop := ∀ (i : Nat) (v : q_V), q_gl ls i = some v → ∃ w, g_get lc i = some w ∧ q_rv ρ v w
noncomputable def v_TbF (S : v_Sf) (R : v_Rf) (a j : Nat) (ft : v_Ft) : Prop := match ft with
  | .inl b => b.1 ≤ (S a j).toInt ∧ (S a j).toInt ≤ b.2
  | .inr (.inl _) => True
  | .inr (.inr l) => ∃ r ∈ l, R a j = some r
noncomputable def v_TbC (S : v_Sf) (R : v_Rf) (a : Nat) (t : v_Ct) : Prop := match t with
  | .inl (_, n, lo, hi) => ∀ j, j < n → lo ≤ (S a j).toInt ∧ (S a j).toInt ≤ hi
  | .inr (.inl l) => ∀ (j r : Nat), l[j]? = some r → R a j = some r
  | .inr (.inr (_, fs)) => ∀ (j : Nat) (ft : v_Ft), fs[j]? = some ft → v_TbF S R a j ft
noncomputable def v_Tb (ty : Nat → Option v_Ct) (S : v_Sf) (R : v_Rf) : Prop := ∀ (a : Nat) (t : v_Ct), ty a = some t → v_TbC S R a t
noncomputable def v_Fr (m : List (Nat × Nat × Nat)) (S0 : v_Sf) (R0 : v_Rf) (S : v_Sf) (R : v_Rf) : Prop := ∀ a j, v_md m a j j = false → S a j = S0 a j ∧ R a j = R0 a j
noncomputable def v_In (X : v_X) (S : v_Sf) (R : v_Rf) : Prop := v_Tb X.2.2.1.1 S R ∧ X.2.2.2.1 S ∧ v_Fr X.2.2.1.2.1 X.2.2.2.2.1 X.2.2.2.2.2 S R
noncomputable def v_ra (X : v_X) (ρ : List Int) (A : v_A) (S : v_Sf) (R : v_Rf) : Prop := q_re ρ A.1 ∧ (∀ q ∈ A.2.1, ∃ j : Nat, q_r ρ q.2.1 (j : Int) ∧ q_r ρ q.2.2 (S q.1 j).toInt) ∧ (∀ q ∈ A.2.2, R q.1 q.2.1 = some q.2.2) ∧ v_In X S R
/-- what the context must give: the told predicate hangs on the frozen places alone -/
noncomputable def v_XOk (X : v_X) : Prop := (∀ S S' : v_Sf, (∀ a j, X.2.2.1.2.2.1 a j j = true → S' a j = S a j) → X.2.2.2.1 S → X.2.2.2.1 S') ∧ (∀ a lo hi j, X.2.2.1.2.2.1 a lo hi = false → lo ≤ j → j ≤ hi → X.2.2.1.2.2.1 a j j = false) ∧ (∀ a t, X.2.2.1.1 a = some t → a < v_N)
noncomputable def v_Tm (X : v_X) (d : Nat) (M : g_M) (pc : Nat) (lc : g_Lc) (sc : List Value) (S : v_Sf) (R : v_Rf) (Q : Option Value → v_Sf → v_Rf → Prop) : Prop := ∃ n r S' R', (∀ e, g_run g_mt X.1 X.2.1 (n + e) d M pc lc sc (v_mk X.2.2.1.1 S R) = some (r, v_mk X.2.2.1.1 S' R')) ∧ Q r S' R'
noncomputable def v_KOk (X : v_X) (ρ : List Int) (K : v_K) (Q : Option Value → v_Sf → v_Rf → Prop) : Prop := ∀ (ρ' : List Int) (v : Option q_V) (A' : v_A) (r : Option Value) (S' : v_Sf) (R' : v_Rf), q_px ρ ρ' → K v A' = true → q_ro ρ' v r → v_ra X ρ' A' S' R' → Q r S' R'
noncomputable def v_alg : v_Pat → g_Lc → List Int → Prop
  | [], _, [] => True
  | [], _, _ :: _ => False
  | (_, none) :: p, lc, gv => v_alg p lc gv
  | (_, some _) :: _, _, [] => False
  | (i, some b) :: p, lc, g :: gs => (∃ x : Int32, g_get lc i = some (.int x) ∧ x.toInt = g) ∧ b.1 ≤ g ∧ g ≤ b.2 ∧ v_alg p lc gs
noncomputable def v_sm (p : v_Pat) (ls : q_L) (ρ : List Int) (lc : g_Lc) : Prop := ∀ (i : Nat) (v : q_V), (i, none) ∈ p → q_gl ls i = some v → ∃ w, g_get lc i = some w ∧ q_rv ρ v w
noncomputable def v_OOk (X : v_X) (O : List v_Oe) (d : Nat) (M : g_M) (ρ : List Int) (Q : Option Value → v_Sf → v_Rf → Prop) : Prop :=
  ∀ h ∈ O, h.2.1 + (v_gen h.2.2.1).length ≤ ρ.length ∧ v_gp h.2.2.1 h.2.2.2.2.1 0 = some h.2.2.2.2.2.1 ∧ (∀ (i : Nat) (v : q_V), (i, none) ∈ h.2.2.1 → q_gl h.2.2.2.1 i = some v → ∃ w, q_rv (ρ.take h.2.1) v w) ∧ ∀ (gv : List Int) (lc : g_Lc) (S : v_Sf) (R : v_Rf) (old new : Int), v_alg h.2.2.1 lc gv → v_sm h.2.2.1 h.2.2.2.1 (ρ.take h.2.1) lc → ρ[h.2.1 + h.2.2.2.2.2.1]? = some old → gv[h.2.2.2.2.2.1]? = some new → (bif h.2.2.2.2.2.2 then decide (old < new) else decide (new < old)) = true → v_In X S R → v_Tm X d M h.1 lc [] S R Q
noncomputable def v_Out (X : v_X) (O : List v_Oe) (d : Nat) (M : g_M) (pc : Nat) (lc : g_Lc) (sc : List Value) (S : v_Sf) (R : v_Rf) (ρ : List Int) (K : v_K) : Prop := ∀ Q, v_KOk X ρ K Q → v_OOk X O d M ρ Q → v_Tm X d M pc lc sc S R Q
noncomputable def v_Snd (X : v_X) (ih : v_Ih) : Prop := ∀ (O : List v_Oe) (d μ : Nat) (M : g_M) (pc : Nat) (ls : q_L) (st : List q_V) (A : v_A) (K : v_K), ih O d μ M pc ls st A K = true → ∀ (ρ : List Int) (lc : g_Lc) (sc : List Value) (S : v_Sf) (R : v_Rf), v_rl ρ ls lc → q_al2 (q_rv ρ) st sc → v_ra X ρ A S R → v_Out X O d M pc lc sc S R ρ K
noncomputable def v_HkOk (X : v_X) : Prop := ∀ (d' x : Nat) (as : List q_V) (A : v_A) (k : v_K), X.2.2.1.2.2.2.2 d' x as A k = some true → ∀ (M' : g_M) (ρ : List Int) (ac : List Value) (S : v_Sf) (R : v_Rf) (Q : Option Value → v_Sf → v_Rf → Prop), g_mt x = some M' → q_al2 (q_rv ρ) as ac → v_ra X ρ A S R → v_KOk X ρ k Q → v_Tm X d' M' 0 (lv_args 0 ac) [] S R Q
theorem v_rl_px {ρ ρ' : List Int} (h : q_px ρ ρ') {ls : q_L} {lc : g_Lc} (hr : v_rl ρ ls lc) : v_rl ρ' ls lc := fun i v hi => by
  obtain ⟨w, h1, h2⟩ := hr i v hi
  exact ⟨w, h1, q_rv_px h h2⟩
theorem v_KOk_px {X : v_X} {ρ ρ1 : List Int} (hp : q_px ρ ρ1) {K : v_K} {Q : Option Value → v_Sf → v_Rf → Prop} (h : v_KOk X ρ K Q) : v_KOk X ρ1 K Q := fun ρ' v A' r S' R' h1 => h ρ' v A' r S' R' (q_px_tr hp h1)
theorem v_alg_len : ∀ {p : v_Pat} {lc : g_Lc} {gv : List Int}, v_alg p lc gv → gv.length = (v_gen p).length
  | [], _, [], _ => rfl
  | [], _, _ :: _, h => h.elim
  | (_, none) :: p, lc, gv, h => v_alg_len (p := p) h
  | (_, some _) :: _, _, [], h => h.elim
  | (i, some b) :: p, lc, g :: gs, h => by
    have := v_alg_len (p := p) h.2.2.2
    show gs.length + 1 = (v_gen p).length + 1
    omega
theorem v_OOk_px {X : v_X} {O : List v_Oe} {d : Nat} {M : g_M} {ρ ρ1 : List Int} (hp : q_px ρ ρ1) {Q : Option Value → v_Sf → v_Rf → Prop} (h : v_OOk X O d M ρ Q) : v_OOk X O d M ρ1 Q := by
  obtain ⟨t, rfl⟩ := hp
  intro o ho
  obtain ⟨h1, h2, h3, h4⟩ := h o ho
  have et : (ρ ++ t).take o.2.1 = ρ.take o.2.1 := List.take_append_of_le_length (by omega)
  refine ⟨by rw [List.length_append]; omega, h2, by rw [et]; exact h3, fun gv lc S R old new g1 g2 g3 g4 g5 g6 => ?_⟩
  rw [et] at g2
  have hl := v_alg_len g1
  have hg := (List.getElem?_eq_some_iff.mp g4).1
  rw [List.getElem?_append_left (by omega)] at g3
  exact h4 gv lc S R old new g1 g2 g3 g4 g5 g6
theorem v_pre {X : v_X} {d : Nat} {M : g_M} {pc pc1 : Nat} {lc lc1 : g_Lc} {sc sc1 : List Value} {S S1 : v_Sf} {R R1 : v_Rf} {Q : Option Value → v_Sf → v_Rf → Prop} (m : Nat) (hs : ∀ e, g_run g_mt X.1 X.2.1 (m + 1 + e) d M pc lc sc (v_mk X.2.2.1.1 S R) = g_run g_mt X.1 X.2.1 (m + e) d M pc1 lc1 sc1 (v_mk X.2.2.1.1 S1 R1)) (h : v_Tm X d M pc1 lc1 sc1 S1 R1 Q) : v_Tm X d M pc lc sc S R Q := by
  obtain ⟨n, r, S', R', h1, h2⟩ := h
  refine ⟨m + 1 + n, r, S', R', fun e => ?_, h2⟩
  rw [show m + 1 + n + e = m + 1 + (n + e) by omega, hs, show m + (n + e) = n + (m + e) by omega]
  exact h1 _
theorem g_run_step {L : Nat} {xs : Nat → Int32} {n d : Nat} {M : g_M} {pc : Nat} {lc : g_Lc} {sc : List Value} {σ : List g_Ce} {en : g_En} {q : Nat × g_Lc × List Value × List g_Ce} (hen : M.2.2.2.2.2 pc = some en) (hs : g_step d M.2.2.2.1 L xs en pc lc sc σ = some q) : g_run g_mt L xs (n + 1) d M pc lc sc σ = g_run g_mt L xs n d M q.1 q.2.1 q.2.2.1 q.2.2.2 := by
  rw [g_run]
  simp only [hen, hs]
theorem g_st_stk {d nL L : Nat} {xs : Nat → Int32} {en : g_En} {pc : Nat} {lc : g_Lc} {sc sc' : List Value} {σ : List g_Ce} (h : g_stk en.1.1 en.2.2.2 sc = some sc') : g_step d nL L xs en pc lc sc σ = some (pc + en.1.2, lc, sc', σ) := by
  simp only [g_step, h]
theorem g_st_lcl {d nL L : Nat} {xs : Nat → Int32} {en : g_En} {pc : Nat} {lc : g_Lc} {sc : List Value} {σ : List g_Ce} {q : g_Lc × List Value} (h0 : g_stk en.1.1 en.2.2.2 sc = none) (h : g_lcl nL en.1.1 lc sc = some q) : g_step d nL L xs en pc lc sc σ = some (pc + en.1.2, q.1, q.2, σ) := by
  simp only [g_step, h0, h]
theorem g_st_jmp {d nL L : Nat} {xs : Nat → Int32} {en : g_En} {pc : Nat} {lc : g_Lc} {sc : List Value} {σ : List g_Ce} {q : Nat × List Value} (h0 : g_stk en.1.1 en.2.2.2 sc = none) (h1 : g_lcl nL en.1.1 lc sc = none) (h : g_jmp en.1.1 pc en.2.1 sc = some q) : g_step d nL L xs en pc lc sc σ = some (q.1, lc, q.2, σ) := by
  simp only [g_step, h0, h1, h]
theorem g_st_hp {d nL L : Nat} {xs : Nat → Int32} {en : g_En} {pc : Nat} {lc : g_Lc} {sc : List Value} {σ : List g_Ce} {q : List Value × List g_Ce} (h0 : g_stk en.1.1 en.2.2.2 sc = none) (h1 : g_lcl nL en.1.1 lc sc = none) (h2 : g_jmp en.1.1 pc en.2.1 sc = none) (h : g_hp d L xs en.1.1 en.2.1 en.2.2.1 sc σ = some q) : g_step d nL L xs en pc lc sc σ = some (pc + en.1.2, lc, q.1, q.2) := by
  simp only [g_step, h0, h1, h2, h]
theorem q_cons {ρ : List Int} {v : q_V} {r : List q_V} {sc : List Value} (h : q_al2 (q_rv ρ) (v :: r) sc) : ∃ w t, sc = w :: t ∧ q_rv ρ v w ∧ q_al2 (q_rv ρ) r t := by
  cases sc with
  | nil => exact h.elim
  | cons w t => exact ⟨w, t, rfl, h.1, h.2⟩
theorem q_int {ρ : List Int} {a : q_N} {w : Value} (h : q_rv ρ (.inl a) w) : ∃ x : Int32, w = .int x ∧ q_r ρ a x.toInt := h
theorem q_cons_i {ρ : List Int} {a : q_N} {r : List q_V} {sc : List Value} (h : q_al2 (q_rv ρ) (.inl a :: r) sc) : ∃ (x : Int32) (t : List Value), sc = .int x :: t ∧ q_r ρ a x.toInt ∧ q_al2 (q_rv ρ) r t := by
  obtain ⟨w, t, rfl, h1, h2⟩ := q_cons h
  obtain ⟨x, rfl, h3⟩ := h1
  exact ⟨x, t, rfl, h3, h2⟩
theorem q_cons_l {ρ : List Int} {a : q_N} {r : List q_V} {sc : List Value} (h : q_al2 (q_rv ρ) (.inr (.inl a) :: r) sc) : ∃ (x : Int64) (t : List Value), sc = .long x :: t ∧ q_r ρ a x.toInt ∧ q_al2 (q_rv ρ) r t := by
  obtain ⟨w, t, rfl, h1, h2⟩ := q_cons h
  obtain ⟨x, rfl, h3⟩ := h1
  exact ⟨x, t, rfl, h3, h2⟩
theorem q_cons_r {ρ : List Int} {o : Option Nat} {r : List q_V} {sc : List Value} (h : q_al2 (q_rv ρ) (.inr (.inr o) :: r) sc) : ∃ (t : List Value), sc = va_rf o :: t ∧ q_al2 (q_rv ρ) r t := by
  obtain ⟨w, t, rfl, h1, h2⟩ := q_cons h
  have h1 : w = va_rf o := h1
  subst h1
  exact ⟨t, rfl, h2⟩
theorem q_cat {ρ : List Int} {v : q_V} {w : Value} (h : q_rv ρ v w) : w.category = q_ct v := by
  match v, h with
  | .inl a, ⟨x, h1, _⟩ => subst h1; rfl
  | .inr (.inl a), ⟨x, h1, _⟩ => subst h1; rfl
  | .inr (.inr none), h => have h : w = .null := h; subst h; rfl
  | .inr (.inr (some a)), h => have h : w = .ref a := h; subst h; rfl
theorem q_lsl_ok {ρ : List Int} : ∀ {r : List q_V} {t : List Value}, q_al2 (q_rv ρ) r t → g_cat t = q_lsl r
  | [], [], _ => rfl
  | v :: r, w :: t, ⟨h1, h2⟩ => by
    have e : g_cat (w :: t) = w.category + g_cat t := by simp [g_cat]
    rw [e, q_cat h1, q_lsl_ok h2]
    rfl
  | [], _ :: _, h => h.elim
  | _ :: _, [], h => h.elim
theorem q_lgsl_ok : ∀ (t : List Value), (lg_sl t).length = g_cat t
  | [] => rfl
  | w :: t => by
    have e : g_cat (w :: t) = w.category + g_cat t := by simp [g_cat]
    have e2 : (lg_sl (w :: t)).length = (if w.category = 2 then 2 else 1) + (lg_sl t).length := by
      simp only [lg_sl, List.flatMap_cons, List.length_append]
      split <;> simp
    rw [e, e2, q_lgsl_ok t]
    cases w <;> rfl
theorem v_go {X : v_X} {ih : v_Ih} (hS : v_Snd X ih) {O : List v_Oe} {d μ : Nat} {M : g_M} {pc pc1 : Nat} {lc lc1 : g_Lc} {sc sc1 : List Value} {S S1 : v_Sf} {R R1 : v_Rf} {ρ : List Int} {K : v_K} {en : g_En} (hen : M.2.2.2.2.2 pc = some en) (hs : g_step d M.2.2.2.1 X.1 X.2.1 en pc lc sc (v_mk X.2.2.1.1 S R) = some (pc1, lc1, sc1, v_mk X.2.2.1.1 S1 R1)) {ρ1 : List Int} (hp : q_px ρ ρ1) {ls : q_L} {st : List q_V} {A : v_A} (r1 : v_rl ρ1 ls lc1) (r2 : q_al2 (q_rv ρ1) st sc1) (r3 : v_ra X ρ1 A S1 R1) (hk : ih O d μ M pc1 ls st A K = true) : v_Out X O d M pc lc sc S R ρ K := by
  intro Q hK hO
  refine v_pre 0 (fun e => ?_) (hS O d μ M pc1 ls st A K hk ρ1 lc1 sc1 S1 R1 r1 r2 r3 Q (v_KOk_px hp hK) (v_OOk_px hp hO))
  rw [show 0 + 1 + e = e + 1 by omega, show 0 + e = e by omega]
  exact g_run_step hen hs
theorem v_ra_env {X : v_X} {ρ ρ1 : List Int} {A : v_A} {S : v_Sf} {R : v_Rf} (h : v_ra X ρ A S R) (hp : q_px ρ ρ1) {e : q_S} (he : q_re ρ1 e) : v_ra X ρ1 (e, A.2) S R := ⟨he, fun q hq => by
  obtain ⟨j, h1, h2⟩ := h.2.1 q hq
  exact ⟨j, q_r_px hp h1, q_r_px hp h2⟩, h.2.2.1, h.2.2.2⟩
theorem q_blt {a b : Nat} (h : Nat.blt a b = true) : a < b := by rw [Nat.blt_eq] at h; exact h
theorem q_beq {a b : Nat} (h : Nat.beq a b = true) : a = b := Nat.eq_of_beq_eq_true h
theorem q_bifc {b : Bool} {p : Bool} (h : (bif b then p else false) = true) : b = true ∧ p = true := by
  cases b with
  | true => exact ⟨rfl, h⟩
  | false => cases h
-- locals
theorem v_gset {lc : g_Lc} {i j : Nat} {w : Value} : g_get (g_set lc i w) j = if j = i then some w else if (j + 1 = i ∧ ∃ u, g_get lc j = some u ∧ u.category = 2) then g_get (g_set lc i w) j else g_get lc j := by
  by_cases h : j = i
  · subst h
    simp [g_get, g_set]
  · rw [if_neg h]
    split
    · rfl
    · rename_i hn
      have key : ∀ lc : g_Lc, ¬ (j + 1 = i ∧ ∃ u, g_get lc j = some u ∧ u.category = 2) → (lc.filter (fun q => !(q.1 == i) && !(q.1 + 1 == i && q.2.category == 2))).find? (fun q => q.1 == j) = lc.find? (fun q => q.1 == j) := by
        intro lc
        induction lc with
        | nil => intro _; rfl
        | cons q t iht =>
          intro hn
          by_cases hq : q.1 = j
          · have hc : ¬ (j + 1 = i ∧ q.2.category = 2) := fun hc => hn ⟨hc.1, q.2, by simp [g_get, hq], hc.2⟩
            have e1 : (!(q.1 == i) && !(q.1 + 1 == i && q.2.category == 2)) = true := by
              rw [hq]
              by_cases h3 : j + 1 = i
              · have h4 : ¬ q.2.category = 2 := fun h4 => hc ⟨h3, h4⟩
                simp [h, h4]
              · simp [h, h3]
            rw [List.filter_cons, e1]
            simp [hq]
          · have hn2 : ¬ (j + 1 = i ∧ ∃ u, g_get t j = some u ∧ u.category = 2) := by
              intro hc
              apply hn
              obtain ⟨c1, u, c2, c3⟩ := hc
              refine ⟨c1, u, ?_, c3⟩
              unfold g_get at c2 ⊢
              simp only [List.find?_cons]
              have : (q.1 == j) = false := by simpa using hq
              rw [this]
              exact c2
            have iht2 := iht hn2
            rw [List.filter_cons]
            have e2 : (q.1 == j) = false := by simpa using hq
            split
            · simp only [List.find?_cons, e2]
              exact iht2
            · simp only [List.find?_cons, e2]
              exact iht2
      unfold g_get g_set
      simp only [List.find?_cons]
      have e3 : (i == j) = false := by simpa using fun e => h (Eq.symm e)
      rw [e3, key lc hn]
theorem v_gl_cons (p : Nat × q_V) (s : q_L) (j : Nat) : q_gl (p :: s) j = bif Nat.beq p.1 j then some p.2 else q_gl s j := rfl
theorem v_gl_fk {i : Nat} : ∀ {ls : q_L} {j : Nat} {v : q_V}, q_gl (v_fk ls i) j = some v → j ≠ i ∧ q_gl ls j = some v
  | [], j, v, h => by cases h
  | p :: s, j, v, h => by
    have e : v_fk (p :: s) i = bif Nat.beq p.1 i then v_fk s i else p :: v_fk s i := rfl
    rw [e] at h
    rw [v_gl_cons]
    cases hb : Nat.beq p.1 i with
    | true =>
      rw [hb] at h
      obtain ⟨h1, h2⟩ := v_gl_fk (ls := s) h
      refine ⟨h1, ?_⟩
      cases hc : Nat.beq p.1 j with
      | true => exact absurd ((q_beq hc).symm.trans (q_beq hb)) h1
      | false => exact h2
    | false =>
      rw [hb] at h
      have h : q_gl (p :: v_fk s i) j = some v := h
      rw [v_gl_cons] at h
      cases hc : Nat.beq p.1 j with
      | true =>
        rw [hc] at h
        refine ⟨fun e2 => ?_, h⟩
        rw [← e2, hc] at hb
        cases hb
      | false =>
        rw [hc] at h
        exact v_gl_fk (ls := s) h
theorem v_sl_ok {ρ : List Int} {ls : q_L} {lc : g_Lc} (h : v_rl ρ ls lc) (i : Nat) {v : q_V} {w : Value} (hv : q_rv ρ v w) : v_rl ρ (v_sl ls i v) (g_set lc i w) := by
  intro j u hj
  unfold v_sl at hj
  rw [v_gl_cons] at hj
  rw [v_gset]
  cases hc : Nat.beq i j with
  | true =>
    rw [hc] at hj
    cases hj
    rw [if_pos (q_beq hc).symm]
    exact ⟨w, rfl, hv⟩
  | false =>
    rw [hc] at hj
    have hj : q_gl (v_fk (v_fk ls i) (v_k2 ls i)) j = some u := hj
    obtain ⟨h1, h2⟩ := v_gl_fk hj
    obtain ⟨h3, h4⟩ := v_gl_fk h2
    obtain ⟨w2, g1, g2⟩ := h j u h4
    rw [if_neg h3, if_neg ?_]
    · exact ⟨w2, g1, g2⟩
    · rintro ⟨e1, u2, e2, e3⟩
      have : u2 = w2 := Option.some.inj (e2.symm.trans g1)
      subst this
      rw [q_cat g2] at e3
      apply h1
      unfold v_k2
      have e4 : Nat.pred i = j := by subst e1; rfl
      rw [e4, h4]
      dsimp only
      rw [e3]
      rfl
end Prt21
section Prt22
section VH
variable {X : v_X} {ih : v_Ih} {O : List v_Oe} {d μ : Nat} {M : g_M} {pc : Nat} {ls : q_L} {st : List q_V} {A : v_A} {K : v_K} {ρ : List Int} {lc : g_Lc} {sc : List Value} {S : v_Sf} {R : v_Rf} {ins : Instr} {len x y : Nat} {z : Int}
theorem v_stk {st' : List q_V} {A' : v_A} {sc' : List Value} {ρ1 : List Int} (hS : v_Snd X ih) (hen : M.2.2.2.2.2 pc = some ((ins, len), x, y, z)) (r1 : v_rl ρ ls lc) (hp : q_px ρ ρ1) (r2 : q_al2 (q_rv ρ1) st' sc') (r3 : v_ra X ρ1 A' S R) (hs : g_stk ins z sc = some sc') (hk : ih O d μ M (pc + len) ls st' A' K = true) : v_Out X O d M pc lc sc S R ρ K :=
  v_go hS hen (g_st_stk (en := ((ins, len), x, y, z)) hs) hp (v_rl_px hp r1) r2 r3 hk
theorem v_i2_ok {op : Nat} (hop : op ≠ 0) (hS : v_Snd X ih) (hen : M.2.2.2.2.2 pc = some ((ins, len), x, y, z)) (r1 : v_rl ρ ls lc) (r2 : q_al2 (q_rv ρ) st sc) (r3 : v_ra X ρ A S R) (hs : ∀ sc, g_stk ins z sc = g_i2 (q_F op) sc) (h : v_i2 op st A (fun st A => ih O d μ M (pc + len) ls st A K) = true) : v_Out X O d M pc lc sc S R ρ K := by
  unfold v_i2 at h
  split at h
  · rename_i b a r
    obtain ⟨yv, t, rfl, hb, r4⟩ := q_cons_i r2
    obtain ⟨xv, t, rfl, ha, r5⟩ := q_cons_i r4
    obtain ⟨ρ1, e1, v, p1, p2, p3, p4⟩ := v_bin_ok r3.1 hop ha hb h
    exact v_stk hS hen r1 p1 (st' := .inl v :: r) (A' := (e1, A.2)) (sc' := .int (q_F op xv yv) :: t) ⟨⟨_, rfl, p3⟩, q_st_px p1 r5⟩ (v_ra_env r3 p1 p2) (by rw [hs]; rfl) p4
  · cases h
theorem v_u1_ok {lo hi : Int} {f : Int32 → Int32} (hf : ∀ w : Int32, lo ≤ (f w).toInt ∧ (f w).toInt ≤ hi) (hS : v_Snd X ih) (hen : M.2.2.2.2.2 pc = some ((ins, len), x, y, z)) (r1 : v_rl ρ ls lc) (r2 : q_al2 (q_rv ρ) st sc) (r3 : v_ra X ρ A S R) (hs : ∀ sc, g_stk ins z sc = g_i1 (fun w => .int (f w)) sc) (h : v_u1 lo hi f st A (fun st A => ih O d μ M (pc + len) ls st A K) = true) : v_Out X O d M pc lc sc S R ρ K := by
  unfold v_u1 at h
  split at h
  · rename_i a r
    obtain ⟨xv, t, rfl, ha, r4⟩ := q_cons_i r2
    split at h
    · rename_i c hc
      have e := q_c_ok r3.1 ha hc
      refine v_stk hS hen r1 (q_px_rf ρ) (st' := .inl (.inl (f (Int32.ofInt c)).toInt) :: r) (A' := A) (sc' := .int (f xv) :: t) ⟨⟨_, rfl, ?_⟩, r4⟩ r3 (by rw [hs]; rfl) h
      show (f xv).toInt = _
      rw [← e, q_of]
    · obtain ⟨n1, n2, n3⟩ := q_new_ok r3.1 (e := (lo, hi, 0, .inl 0, .inl 0)) (hf xv).1 (hf xv).2 (Or.inl rfl)
      exact v_stk hS hen r1 n1 (st' := .inl _ :: r) (A' := (_, A.2)) (sc' := .int (f xv) :: t) ⟨⟨_, rfl, n3⟩, q_st_px n1 r4⟩ (v_ra_env r3 n1 n2) (by rw [hs]; rfl) h
  · cases h
theorem v_const_ok {v : q_V} {w : Value} (hv : q_rv ρ v w) (hS : v_Snd X ih) (hen : M.2.2.2.2.2 pc = some ((ins, len), x, y, z)) (r1 : v_rl ρ ls lc) (r2 : q_al2 (q_rv ρ) st sc) (r3 : v_ra X ρ A S R) (hs : g_stk ins z sc = some (w :: sc)) (h : ih O d μ M (pc + len) ls (v :: st) A K = true) : v_Out X O d M pc lc sc S R ρ K :=
  v_stk hS hen r1 (q_px_rf ρ) (st' := v :: st) (A' := A) (sc' := w :: sc) ⟨hv, r2⟩ r3 hs h
theorem v_d2_ok {op : Nat} (hop : op ≠ 0) (hS : v_Snd X ih) (hen : M.2.2.2.2.2 pc = some ((ins, len), x, y, z)) (r1 : v_rl ρ ls lc) (r2 : q_al2 (q_rv ρ) st sc) (r3 : v_ra X ρ A S R) (hs : ∀ sc, g_stk ins z sc = g_d2 (q_F op) sc) (h : v_d2 op st A (fun st A => ih O d μ M (pc + len) ls st A K) = true) : v_Out X O d M pc lc sc S R ρ K := by
  unfold v_d2 at h
  split at h
  · rename_i b a r
    obtain ⟨yv, t, rfl, hb, r4⟩ := q_cons_i r2
    obtain ⟨xv, t, rfl, ha, r5⟩ := q_cons_i r4
    rcases v_eq_ok r3.1 hb (b := .inl 0) (y := 0) rfl h with ⟨-, e1, -, h2⟩ | ⟨hne, e1, he1, h2⟩
    · cases h2
    · obtain ⟨ρ1, e2, v, p1, p2, p3, p4⟩ := v_bin_ok he1 hop ha hb h2
      have hy : ¬ yv = 0 := fun e => hne (by rw [e]; rfl)
      exact v_stk hS hen r1 p1 (st' := .inl v :: r) (A' := (e2, A.2)) (sc' := .int (q_F op xv yv) :: t) ⟨⟨_, rfl, p3⟩, q_st_px p1 r5⟩ (v_ra_env r3 p1 p2) (by rw [hs]; simp only [g_d2, if_neg hy]) p4
  · cases h
theorem v_cm_ok {md : Nat} (hS : v_Snd X ih) (hen : M.2.2.2.2.2 pc = some ((.lcmp, len), x, y, z)) (r1 : v_rl ρ ls lc) (r2 : q_al2 (q_rv ρ) st sc) (r3 : v_ra X ρ A S R) (h : v_cm md st A (fun st A => ih O d μ M (pc + len) ls st A K) = true) : v_Out X O d M pc lc sc S R ρ K := by
  unfold v_cm at h
  split at h
  · rename_i b a r
    obtain ⟨yv, t, rfl, hb, r4⟩ := q_cons_l r2
    obtain ⟨xv, t, rfl, ha, r5⟩ := q_cons_l r4
    have key : ∀ (c : Int) (ρ1 : List Int) (e : q_S), q_px ρ ρ1 → q_re ρ1 e → ih O d μ M (pc + len) ls (.inl (.inl c) :: r) (e, A.2) K = true → c = (lg_cmp xv yv).toInt → v_Out X O d M pc lc (.long yv :: .long xv :: t) S R ρ K := by
      intro c ρ1 e hp he hk hc
      exact v_stk hS hen r1 hp (st' := .inl (.inl c) :: r) (A' := (e, A.2)) (sc' := .int (lg_cmp xv yv) :: t) ⟨⟨_, rfl, hc.symm⟩, q_st_px hp r5⟩ (v_ra_env r3 hp he) rfl hk
    have key2 : ∀ (lo hi : Int) (ρ1 : List Int) (e : q_S), q_px ρ ρ1 → q_re ρ1 e → lo ≤ (lg_cmp xv yv).toInt → (lg_cmp xv yv).toInt ≤ hi → q_new e (lo, hi, 0, .inl 0, .inl 0) (fun v e => ih O d μ M (pc + len) ls (.inl v :: r) (e, A.2) K) = true → v_Out X O d M pc lc (.long yv :: .long xv :: t) S R ρ K := by
      intro lo hi ρ1 e hp he b1 b2 hk
      obtain ⟨n1, n2, n3⟩ := q_new_ok he (e := (lo, hi, 0, .inl 0, .inl 0)) b1 b2 (Or.inl rfl)
      have hp2 := q_px_tr hp n1
      exact v_stk hS hen r1 hp2 (st' := .inl (.inr (q_len e)) :: r) (A' := (_, A.2)) (sc' := .int (lg_cmp xv yv) :: t) ⟨⟨_, rfl, n3⟩, q_st_px hp2 r5⟩ (v_ra_env r3 hp2 n2) rfl hk
    have f1 : xv.toInt < yv.toInt → (lg_cmp xv yv).toInt = -1 := by
      intro h1
      have hn : ¬ xv > yv := fun hh => by have := Int64.lt_iff_toInt_lt.mp hh; omega
      have hne : ¬ xv = yv := fun hh => by rw [hh] at h1; omega
      simp [lg_cmp, hn, hne]
    have f2 : yv.toInt < xv.toInt → (lg_cmp xv yv).toInt = 1 := by
      intro h1
      have : xv > yv := Int64.lt_iff_toInt_lt.mpr h1
      simp [lg_cmp, this]
    have f3 : xv.toInt = yv.toInt → (lg_cmp xv yv).toInt = 0 := by
      intro h3
      have : xv = yv := Int64.toInt_inj.mp h3
      subst this
      simp [lg_cmp]
    cases m1 : Nat.beq md 1 with
    | true =>
      rw [m1] at h
      dsimp only [cond_true] at h
      rcases v_lt_ok r3.1 ha hb h with ⟨h1, ρ1, e1, hp, he1, h2⟩ | ⟨h1, ρ1, e1, hp, he1, h2⟩
      · exact key (-1) ρ1 e1 hp he1 h2 (f1 h1).symm
      · have f : (lg_cmp xv yv).toInt = 0 ∨ (lg_cmp xv yv).toInt = 1 := by
          rcases Int.lt_or_eq_of_le h1 with hh | hh
          · exact Or.inr (f2 hh)
          · exact Or.inl (f3 hh.symm)
        exact key2 0 1 ρ1 e1 hp he1 (by omega) (by omega) h2
    | false =>
      rw [m1] at h
      cases m2 : Nat.beq md 2 with
      | true =>
        rw [m2] at h
        dsimp only [cond_true, cond_false] at h
        rcases v_lt_ok r3.1 hb ha h with ⟨h1, ρ1, e1, hp, he1, h2⟩ | ⟨h1, ρ1, e1, hp, he1, h2⟩
        · exact key 1 ρ1 e1 hp he1 h2 (f2 h1).symm
        · have f : (lg_cmp xv yv).toInt = 0 ∨ (lg_cmp xv yv).toInt = -1 := by
            rcases Int.lt_or_eq_of_le h1 with hh | hh
            · exact Or.inr (f1 hh)
            · exact Or.inl (f3 hh)
          exact key2 (-1) 0 ρ1 e1 hp he1 (by omega) (by omega) h2
      | false =>
        rw [m2] at h
        dsimp only [cond_true, cond_false] at h
        rcases v_lt_ok r3.1 hb ha h with ⟨h1, ρ1, e1, hp, he1, h2⟩ | ⟨h1, ρ1, e1, hp, he1, h2⟩
        · exact key 1 ρ1 e1 hp he1 h2 (f2 h1).symm
        · rcases v_eq_ok he1 (q_r_px hp ha) (q_r_px hp hb) h2 with ⟨h3, e2, he2, h4⟩ | ⟨h3, e2, he2, h4⟩
          · exact key 0 ρ1 e2 hp he2 h4 (f3 h3).symm
          · exact key (-1) ρ1 e2 hp he2 h4 (f1 (by omega)).symm
  · cases h
theorem v_ld_ok {kd i : Nat} (hS : v_Snd X ih) (hen : M.2.2.2.2.2 pc = some ((ins, len), x, y, z)) (r1 : v_rl ρ ls lc) (r2 : q_al2 (q_rv ρ) st sc) (r3 : v_ra X ρ A S R) (h0 : g_stk ins z sc = none) (hl : ∀ w, g_get lc i = some w → ((kd = 0 ∧ ∃ v, w = .int v) ∨ (kd = 1 ∧ ∃ o, w = va_rf o) ∨ (kd = 2 ∧ ∃ v, w = .long v)) → g_lcl M.2.2.2.1 ins lc sc = some (lc, w :: sc)) (h : q_ld kd ls i st (fun st => ih O d μ M (pc + len) ls st A K) = true) : v_Out X O d M pc lc sc S R ρ K := by
  unfold q_ld at h
  split at h
  · rename_i v hv
    obtain ⟨w, g1, g2⟩ := r1 _ _ hv
    cases hk : Nat.beq kd 0 with
    | false => rw [hk] at h; cases h
    | true =>
      rw [hk] at h
      obtain ⟨u, rfl, -⟩ := id g2
      exact v_go hS hen (g_st_lcl (en := ((ins, len), x, y, z)) h0 (hl _ g1 (Or.inl ⟨q_beq hk, _, rfl⟩))) (q_px_rf ρ) r1 (st := _ :: st) (And.intro g2 r2) r3 h
  · rename_i v hv
    obtain ⟨w, g1, g2⟩ := r1 _ _ hv
    cases hk : Nat.beq kd 2 with
    | false => rw [hk] at h; cases h
    | true =>
      rw [hk] at h
      obtain ⟨u, rfl, -⟩ := id g2
      exact v_go hS hen (g_st_lcl (en := ((ins, len), x, y, z)) h0 (hl _ g1 (Or.inr (Or.inr ⟨q_beq hk, _, rfl⟩)))) (q_px_rf ρ) r1 (st := _ :: st) (And.intro g2 r2) r3 h
  · rename_i v hv
    obtain ⟨w, g1, g2⟩ := r1 _ _ hv
    cases hk : Nat.beq kd 1 with
    | false => rw [hk] at h; cases h
    | true =>
      rw [hk] at h
      have e : w = va_rf v := g2
      subst e
      exact v_go hS hen (g_st_lcl (en := ((ins, len), x, y, z)) h0 (hl _ g1 (Or.inr (Or.inl ⟨q_beq hk, _, rfl⟩)))) (q_px_rf ρ) r1 (st := _ :: st) (And.intro g2 r2) r3 h
  · cases h
theorem q_ldi_l {i : Nat} {w : Value} (h : g_get lc i = some w) (hk : (0 = 0 ∧ ∃ v, w = .int v) ∨ (0 = 1 ∧ ∃ o, w = va_rf o) ∨ (0 = 2 ∧ ∃ v, w = .long v)) : g_ldi lc i sc = some (lc, w :: sc) := by
  rcases hk with ⟨-, v, rfl⟩ | ⟨h2, -⟩ | ⟨h2, -⟩
  · simp only [g_ldi, h]
  · omega
  · omega
theorem q_lda_l {i : Nat} {w : Value} (h : g_get lc i = some w) (hk : (1 = 0 ∧ ∃ v, w = .int v) ∨ (1 = 1 ∧ ∃ o, w = va_rf o) ∨ (1 = 2 ∧ ∃ v, w = .long v)) : g_lda lc i sc = some (lc, w :: sc) := by
  rcases hk with ⟨h2, -⟩ | ⟨-, o, rfl⟩ | ⟨h2, -⟩
  · omega
  · cases o with
    | none => have h : g_get lc i = some .null := h; simp only [g_lda, h]; rfl
    | some a => have h : g_get lc i = some (.ref a) := h; simp only [g_lda, h]; rfl
  · omega
theorem q_ldl_l {i : Nat} {w : Value} (h : g_get lc i = some w) (hk : (2 = 0 ∧ ∃ v, w = .int v) ∨ (2 = 1 ∧ ∃ o, w = va_rf o) ∨ (2 = 2 ∧ ∃ v, w = .long v)) : g_ldl lc i sc = some (lc, w :: sc) := by
  rcases hk with ⟨h2, -⟩ | ⟨h2, -⟩ | ⟨-, v, rfl⟩
  · omega
  · omega
  · simp only [g_ldl, h]
theorem v_st_ok {kd i : Nat} (hS : v_Snd X ih) (hen : M.2.2.2.2.2 pc = some ((ins, len), x, y, z)) (r1 : v_rl ρ ls lc) (r2 : q_al2 (q_rv ρ) st sc) (r3 : v_ra X ρ A S R) (h0 : g_stk ins z sc = none) (hl : ∀ w t, sc = w :: t → ((kd = 0 ∧ ∃ v, w = .int v) ∨ (kd = 1 ∧ ∃ o, w = va_rf o)) → i < M.2.2.2.1 → g_lcl M.2.2.2.1 ins lc sc = some (g_set lc i w, t)) (h : v_st kd M.2.2.2.1 ls i st (fun ls st => ih O d μ M (pc + len) ls st A K) = true) : v_Out X O d M pc lc sc S R ρ K := by
  unfold v_st at h
  split at h
  · rename_i v r
    obtain ⟨w, t, rfl, h1, r4⟩ := q_cons r2
    cases hk : (Nat.beq kd 0 && Nat.blt i M.2.2.2.1) with
    | false => rw [hk] at h; cases h
    | true =>
      rw [hk] at h
      rw [Bool.and_eq_true] at hk
      obtain ⟨u, rfl, -⟩ := id h1
      exact v_go hS hen (g_st_lcl (en := ((ins, len), x, y, z)) h0 (hl _ _ rfl (Or.inl ⟨q_beq hk.1, _, rfl⟩) (q_blt hk.2))) (q_px_rf ρ) (v_sl_ok r1 i h1) r4 r3 h
  · rename_i v r
    obtain ⟨w, t, rfl, h1, r4⟩ := q_cons r2
    cases hk : (Nat.beq kd 1 && Nat.blt i M.2.2.2.1) with
    | false => rw [hk] at h; cases h
    | true =>
      rw [hk] at h
      rw [Bool.and_eq_true] at hk
      have e : w = va_rf v := h1
      subst e
      exact v_go hS hen (g_st_lcl (en := ((ins, len), x, y, z)) h0 (hl _ _ rfl (Or.inr ⟨q_beq hk.1, _, rfl⟩) (q_blt hk.2))) (q_px_rf ρ) (v_sl_ok r1 i h1) r4 r3 h
  · cases h
theorem q_sti_l {i nL : Nat} {w : Value} {t : List Value} (hk : (0 = 0 ∧ ∃ v, w = .int v) ∨ (0 = 1 ∧ ∃ o, w = va_rf o)) (hi : i < nL) : g_sti nL lc i (w :: t) = some (g_set lc i w, t) := by
  rcases hk with ⟨-, v, rfl⟩ | ⟨h2, -⟩
  · simp only [g_sti, if_pos hi]
  · omega
theorem q_sta_l {i nL : Nat} {w : Value} {t : List Value} (hk : (1 = 0 ∧ ∃ v, w = .int v) ∨ (1 = 1 ∧ ∃ o, w = va_rf o)) (hi : i < nL) : g_sta nL lc i (w :: t) = some (g_set lc i w, t) := by
  rcases hk with ⟨h2, -⟩ | ⟨-, o, rfl⟩
  · omega
  · cases o with
    | none => simp only [va_rf, g_sta, if_pos hi]
    | some a => simp only [va_rf, g_sta, if_pos hi]
theorem v_inc_ok {i : Nat} {c : Int} (hS : v_Snd X ih) (hen : M.2.2.2.2.2 pc = some ((.iinc i c, len), x, y, z)) (r1 : v_rl ρ ls lc) (r2 : q_al2 (q_rv ρ) st sc) (r3 : v_ra X ρ A S R) (h : v_inc M.2.2.2.1 ls i c A (fun ls A => ih O d μ M (pc + len) ls st A K) = true) : v_Out X O d M pc lc sc S R ρ K := by
  unfold v_inc at h
  split at h
  · rename_i v hv
    obtain ⟨w, g1, g2⟩ := r1 _ _ hv
    obtain ⟨u, rfl, g3⟩ := g2
    cases hk : (Nat.blt i M.2.2.2.1 && Nat.blt c.natAbs 32768) with
    | false => rw [hk] at h; cases h
    | true =>
      rw [hk] at h
      dsimp only [cond_true] at h
      rw [Bool.and_eq_true] at hk
      have hi := q_blt hk.1
      have hc := q_blt hk.2
      have e : (Int32.ofInt c).toInt = c := q_ofr (by omega) (by omega)
      obtain ⟨ρ1, e1, v1, p1, p2, p3, p4⟩ := v_bin_ok r3.1 (op := 1) (by decide) g3 (b := .inl c) (y := Int32.ofInt c) e h
      refine v_go hS hen (g_st_lcl (en := ((.iinc i c, len), x, y, z)) (q := (g_set lc i (.int (u + Int32.ofInt c)), sc)) rfl ?_) p1 (v_sl_ok (v_rl_px p1 r1) i (v := .inl v1) ⟨_, rfl, p3⟩) (q_st_px p1 r2) (v_ra_env r3 p1 p2) p4
      simp only [g_lcl, g_inc, g1, if_pos hi]
  · cases h
/-- jumps -/
theorem v_b1_ok {cmp : q_N → q_N → q_S → (q_S → Bool) → (q_S → Bool) → Bool} {P : Int32 → Prop} {tt ff : Nat} (hcmp : ∀ (a : q_N) (v : Int32) (env : q_S) (kt kf : q_S → Bool), q_re ρ env → q_r ρ a v.toInt → cmp a (.inl 0) env kt kf = true → (P v ∧ ∃ ρ' env', q_px ρ ρ' ∧ q_re ρ' env' ∧ kt env' = true) ∨ (¬ P v ∧ ∃ ρ' env', q_px ρ ρ' ∧ q_re ρ' env' ∧ kf env' = true)) (hS : v_Snd X ih) (hen : M.2.2.2.2.2 pc = some ((ins, len), x, y, z)) (r1 : v_rl ρ ls lc) (r2 : q_al2 (q_rv ρ) st sc) (r3 : v_ra X ρ A S R) (h0 : g_stk ins z sc = none) (h1 : g_lcl M.2.2.2.1 ins lc sc = none) (hj1 : ∀ v t, sc = .int v :: t → P v → g_jmp ins pc x sc = some (tt, t)) (hj2 : ∀ v t, sc = .int v :: t → ¬ P v → g_jmp ins pc x sc = some (ff, t)) (h : v_b1 cmp st A (fun st A => ih O d μ M tt ls st A K) (fun st A => ih O d μ M ff ls st A K) = true) : v_Out X O d M pc lc sc S R ρ K := by
  unfold v_b1 at h
  split at h
  · obtain ⟨v, t, rfl, ha, r4⟩ := q_cons_i r2
    rcases hcmp _ v _ _ _ r3.1 ha h with ⟨hp, ρ1, e, px, he, hk⟩ | ⟨hp, ρ1, e, px, he, hk⟩
    · exact v_go hS hen (g_st_jmp (en := ((ins, len), x, y, z)) h0 h1 (hj1 v t rfl hp)) px (v_rl_px px r1) (q_st_px px r4) (v_ra_env r3 px he) hk
    · exact v_go hS hen (g_st_jmp (en := ((ins, len), x, y, z)) h0 h1 (hj2 v t rfl hp)) px (v_rl_px px r1) (q_st_px px r4) (v_ra_env r3 px he) hk
  · cases h
theorem v_b2_ok {cmp : q_N → q_N → q_S → (q_S → Bool) → (q_S → Bool) → Bool} {P : Int32 → Int32 → Prop} {tt ff : Nat} (hcmp : ∀ (a b : q_N) (v w : Int32) (env : q_S) (kt kf : q_S → Bool), q_re ρ env → q_r ρ a v.toInt → q_r ρ b w.toInt → cmp a b env kt kf = true → (P v w ∧ ∃ ρ' env', q_px ρ ρ' ∧ q_re ρ' env' ∧ kt env' = true) ∨ (¬ P v w ∧ ∃ ρ' env', q_px ρ ρ' ∧ q_re ρ' env' ∧ kf env' = true)) (hS : v_Snd X ih) (hen : M.2.2.2.2.2 pc = some ((ins, len), x, y, z)) (r1 : v_rl ρ ls lc) (r2 : q_al2 (q_rv ρ) st sc) (r3 : v_ra X ρ A S R) (h0 : g_stk ins z sc = none) (h1 : g_lcl M.2.2.2.1 ins lc sc = none) (hj1 : ∀ v w t, sc = .int w :: .int v :: t → P v w → g_jmp ins pc x sc = some (tt, t)) (hj2 : ∀ v w t, sc = .int w :: .int v :: t → ¬ P v w → g_jmp ins pc x sc = some (ff, t)) (h : v_b2 cmp st A (fun st A => ih O d μ M tt ls st A K) (fun st A => ih O d μ M ff ls st A K) = true) : v_Out X O d M pc lc sc S R ρ K := by
  unfold v_b2 at h
  split at h
  · obtain ⟨w, t, rfl, hb, r4⟩ := q_cons_i r2
    obtain ⟨v, t, rfl, ha, r5⟩ := q_cons_i r4
    rcases hcmp _ _ v w _ _ _ r3.1 ha hb h with ⟨hp, ρ1, e, px, he, hk⟩ | ⟨hp, ρ1, e, px, he, hk⟩
    · exact v_go hS hen (g_st_jmp (en := ((ins, len), x, y, z)) h0 h1 (hj1 v w t rfl hp)) px (v_rl_px px r1) (q_st_px px r5) (v_ra_env r3 px he) hk
    · exact v_go hS hen (g_st_jmp (en := ((ins, len), x, y, z)) h0 h1 (hj2 v w t rfl hp)) px (v_rl_px px r1) (q_st_px px r5) (v_ra_env r3 px he) hk
  · cases h
end VH
theorem q_lt32 (v w : Int32) : v < w ↔ v.toInt < w.toInt := Int32.lt_iff_toInt_lt
theorem q_le32 (v w : Int32) : v ≤ w ↔ v.toInt ≤ w.toInt := Int32.le_iff_toInt_le
theorem q_eq32 (v w : Int32) : v = w ↔ v.toInt = w.toInt := ⟨fun h => by rw [h], q_inj⟩
section VC
variable {ρ : List Int}
theorem v_ceq (a b : q_N) (v w : Int32) (env : q_S) (kt kf : q_S → Bool) (he : q_re ρ env) (ha : q_r ρ a v.toInt) (hb : q_r ρ b w.toInt) (h : v_eq a b env kt kf = true) : (v = w ∧ ∃ ρ' env', q_px ρ ρ' ∧ q_re ρ' env' ∧ kt env' = true) ∨ (¬ v = w ∧ ∃ ρ' env', q_px ρ ρ' ∧ q_re ρ' env' ∧ kf env' = true) := by
  rw [q_eq32]
  rcases v_eq_ok he ha hb h with ⟨g1, g2, g3, g4⟩ | ⟨g1, g2, g3, g4⟩
  · exact Or.inl ⟨g1, ρ, g2, q_px_rf ρ, g3, g4⟩
  · exact Or.inr ⟨g1, ρ, g2, q_px_rf ρ, g3, g4⟩
theorem v_clt (a b : q_N) (v w : Int32) (env : q_S) (kt kf : q_S → Bool) (he : q_re ρ env) (ha : q_r ρ a v.toInt) (hb : q_r ρ b w.toInt) (h : v_lt a b env kt kf = true) : (v < w ∧ ∃ ρ' env', q_px ρ ρ' ∧ q_re ρ' env' ∧ kt env' = true) ∨ (¬ v < w ∧ ∃ ρ' env', q_px ρ ρ' ∧ q_re ρ' env' ∧ kf env' = true) := by
  rw [q_lt32]
  rcases v_lt_ok he ha hb h with ⟨g1, g2⟩ | ⟨g1, g2⟩
  · exact Or.inl ⟨g1, g2⟩
  · exact Or.inr ⟨by omega, g2⟩
theorem v_cgt (a b : q_N) (v w : Int32) (env : q_S) (kt kf : q_S → Bool) (he : q_re ρ env) (ha : q_r ρ a v.toInt) (hb : q_r ρ b w.toInt) (h : v_lt b a env kt kf = true) : (w < v ∧ ∃ ρ' env', q_px ρ ρ' ∧ q_re ρ' env' ∧ kt env' = true) ∨ (¬ w < v ∧ ∃ ρ' env', q_px ρ ρ' ∧ q_re ρ' env' ∧ kf env' = true) := v_clt b a w v env kt kf he hb ha h
end VC
end Prt22
