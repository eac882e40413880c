section Prt20
/-! the store by its contents: every cell has a kind that stays; what changes are the numbers in it, and a few references -/
noncomputable abbrev v_Sf : Type := Nat → Nat → Int32
noncomputable abbrev v_Rf : Type := Nat → Nat → Option Nat
noncomputable abbrev v_Ft : Type := (Int × Int) ⊕ (Nat ⊕ List Nat)
noncomputable abbrev v_Ct : Type := (Nat × Nat × Int × Int) ⊕ (List Nat ⊕ (Nat × List v_Ft))
noncomputable def v_fv (S : v_Sf) (R : v_Rf) (a j : Nat) (ft : v_Ft) : Value := match ft with
  | .inl _ => .int (S a j)
  | .inr (.inl k) => .ref k
  | .inr (.inr _) => va_rf (R a j)
noncomputable def v_cell (S : v_Sf) (R : v_Rf) (a : Nat) (t : Option v_Ct) : g_Ce := match t with
  | some (.inl (tg, n, _)) => .inl (tg, n, .inl (S a))
  | some (.inr (.inl l)) => .inl (3, l.length, .inr (R a))
  | some (.inr (.inr (ci, fs))) => .inr (ci, fs.mapIdx (fun j ft => v_fv S R a j ft))
  | none => .inl (9, 0, .inl (fun _ => 0))
noncomputable def v_N : Nat := 173
noncomputable def v_mk (ty : Nat → Option v_Ct) (S : v_Sf) (R : v_Rf) : List g_Ce := (List.range v_N).map (fun a => v_cell S R a (ty a))
noncomputable abbrev v_A : Type := q_S × List (Nat × q_N × q_N) × List (Nat × Nat × Nat)
noncomputable abbrev v_K : Type := Option q_V → v_A → Bool
noncomputable abbrev v_Pat : Type := List (Nat × Option (Int × Int))
/-- an open head: its place, how many symbols there were, its pattern, the locals as it was opened, the counter's local, its place among the fresh symbols, whether it rises -/
noncomputable abbrev v_Oe : Type := Nat × Nat × v_Pat × q_L × Nat × Nat × Bool
noncomputable abbrev v_Hp : Type := v_Pat × Nat × Nat × Bool
noncomputable abbrev v_Hk : Type := Nat → Nat → List q_V → v_A → v_K → Option Bool
noncomputable abbrev v_Cx : Type := (Nat → Option v_Ct) × List (Nat × Nat × Nat) × (Nat → Nat → Nat → Bool) × (Nat → Nat → Option v_Hp) × v_Hk
noncomputable abbrev v_Ih : Type := List v_Oe → Nat → Nat → g_M → Nat → q_L → List q_V → v_A → v_K → Bool
/-- whether a place may be written -/
noncomputable def v_md (m : List (Nat × Nat × Nat)) (a lo hi : Nat) : Bool := List.rec (motive := fun _ => Bool) false (fun h _ ih => bif Nat.beq h.1 a && (Nat.ble h.2.1 lo && Nat.ble hi h.2.2) then true else ih) m
/-- whether a place may be hit -/
noncomputable def v_hit (m : List (Nat × Nat × Nat)) (a lo hi : Nat) : Bool := List.rec (motive := fun _ => Bool) false (fun h _ ih => bif Nat.beq h.1 a && (Nat.ble h.2.1 hi && Nat.ble lo h.2.2) then true else ih) m
noncomputable def v_of (ov : List (Nat × q_N × q_N)) (a : Nat) (i : q_N) : Option q_N := List.rec (motive := fun _ => Option q_N) none (fun h _ ih => bif Nat.beq h.1 a && q_nb h.2.1 i then some h.2.2 else ih) ov
noncomputable def v_rof (ov : List (Nat × Nat × Nat)) (a j : Nat) : Option Nat := List.rec (motive := fun _ => Option Nat) none (fun h _ ih => bif Nat.beq h.1 a && Nat.beq h.2.1 j then some h.2.2 else ih) ov
noncomputable def v_df (i j : q_N) : Bool := match i, j with
  | .inl x, .inl y => bif q_ieq x y then false else true
  | _, _ => false
/-- a write: what else is known of that cell goes, but at other known places -/
noncomputable def v_ow (ov : List (Nat × q_N × q_N)) (a : Nat) (i v : q_N) : List (Nat × q_N × q_N) := (a, i, v) :: List.rec (motive := fun _ => List (Nat × q_N × q_N)) [] (fun h _ ih => bif Nat.beq h.1 a then (bif v_df h.2.1 i then h :: ih else ih) else h :: ih) ov
noncomputable def v_row (ov : List (Nat × Nat × Nat)) (a j r : Nat) : List (Nat × Nat × Nat) := (a, j, r) :: List.rec (motive := fun _ => List (Nat × Nat × Nat)) [] (fun h _ ih => bif Nat.beq h.1 a && Nat.beq h.2.1 j then ih else h :: ih) ov
/-- what stays known over what may write at m -/
noncomputable def v_ok (env : q_S) (m : List (Nat × Nat × Nat)) (ov : List (Nat × q_N × q_N)) : List (Nat × q_N × q_N) := List.rec (motive := fun _ => List (Nat × q_N × q_N)) [] (fun h _ ih => bif v_hit m h.1 (q_iv env h.2.1).1.toNat (q_iv env h.2.1).2.toNat then ih else h :: ih) ov
noncomputable def v_rk (m : List (Nat × Nat × Nat)) (ov : List (Nat × Nat × Nat)) : List (Nat × Nat × Nat) := List.rec (motive := fun _ => List (Nat × Nat × Nat)) [] (fun h _ ih => bif v_hit m h.1 h.2.1 h.2.1 then ih else h :: ih) ov
noncomputable def v_rd (a : Nat) (i : q_N) (lo hi : Int) (A : v_A) (k : q_N → v_A → Bool) : Bool := match v_of A.2.1 a i with
  | some v => k v A
  | none => q_new A.1 (lo, hi, 0, .inl 0, .inl 0) (fun v e => k v (e, (a, i, v) :: A.2.1, A.2.2))
noncomputable def v_rr (a j : Nat) (l : List Nat) (A : v_A) (k : Nat → v_A → Bool) : Bool := match v_rof A.2.2 a j with
  | some r => k r A
  | none => List.rec (motive := fun _ => Bool) true (fun h _ ih => k h (A.1, A.2.1, (a, j, h) :: A.2.2) && ih) l
noncomputable def v_in (p : Int × Int) (lo hi : Int) : Bool := q_ile lo p.1 && q_ile p.2 hi
noncomputable def v_wr (C : v_Cx) (a : Nat) (i v : q_N) (lo hi : Int) (A : v_A) (k : v_A → Bool) : Bool := bif v_in (q_iv A.1 v) lo hi && (v_md C.2.1 a (q_iv A.1 i).1.toNat (q_iv A.1 i).2.toNat && (bif C.2.2.1 a (q_iv A.1 i).1.toNat (q_iv A.1 i).2.toNat then false else true)) then k (A.1, v_ow A.2.1 a i v, A.2.2) else false
noncomputable def v_gf (C : v_Cx) (x y : Nat) (st : List q_V) (A : v_A) (k : List q_V → v_A → Bool) : Bool := match st with
  | .inr (.inr (some (Nat.succ a))) :: r => (match C.1 a with
    | some (.inr (.inr (ci, fs))) => bif Nat.beq ci x then (match q_nth fs y with
      | some (.inl b) => v_rd a (.inl (Int.ofNat y)) b.1 b.2 A (fun v A => k (.inl v :: r) A)
      | some (.inr (.inl c)) => k (.inr (.inr (some c)) :: r) A
      | some (.inr (.inr l)) => v_rr a y l A (fun c A => k (.inr (.inr (some c)) :: r) A)
      | none => false) else false
    | _ => false)
  | _ => false
noncomputable def v_mem (l : List Nat) (c : Nat) : Bool := List.rec (motive := fun _ => Bool) false (fun h _ ih => bif Nat.beq h c then true else ih) l
noncomputable def v_pf (C : v_Cx) (x y : Nat) (st : List q_V) (A : v_A) (k : List q_V → v_A → Bool) : Bool := match st with
  | v :: .inr (.inr (some (Nat.succ a))) :: r => (match C.1 a with
    | some (.inr (.inr (ci, fs))) => bif Nat.beq ci x && q_fits (g_ty x y) v A.1 q_iv then (match q_nth fs y, v with
      | some (.inl b), .inl n => v_wr C a (.inl (Int.ofNat y)) n b.1 b.2 A (fun A => k r A)
      | some (.inr (.inr l)), .inr (.inr (some c)) => bif v_mem l c && v_md C.2.1 a y y then k r (A.1, A.2.1, v_row A.2.2 a y c) else false
      | _, _ => false) else false
    | _ => false)
  | _ => false
noncomputable def v_al (C : v_Cx) (st : List q_V) (A : v_A) (k : List q_V → v_A → Bool) : Bool := match st with
  | .inr (.inr (some (Nat.succ a))) :: r => (match C.1 a with
    | some (.inl (t, n, _)) => bif Nat.blt t 4 && Nat.blt n 100001 then k (.inl (.inl (n : Int)) :: r) A else false
    | some (.inr (.inl l)) => bif Nat.blt (q_len l) 100001 then k (.inl (.inl (q_len l : Int)) :: r) A else false
    | _ => false)
  | _ => false
noncomputable def v_ia (C : v_Cx) (b : Bool) (st : List q_V) (A : v_A) (k : List q_V → v_A → Bool) : Bool := match st with
  | .inl i :: .inr (.inr (some (Nat.succ a))) :: r => (match C.1 a with
    | some (.inl (t, n, lo, hi)) => bif (bif b then Nat.beq t 1 || Nat.beq t 2 else Nat.beq t 0) && (q_ile 0 (q_iv A.1 i).1 && q_ilt (q_iv A.1 i).2 (n : Int)) then v_rd a i lo hi A (fun v A => k (.inl v :: r) A) else false
    | _ => false)
  | _ => false
noncomputable def v_is (C : v_Cx) (b : Bool) (st : List q_V) (A : v_A) (k : List q_V → v_A → Bool) : Bool := match st with
  | .inl v :: .inl i :: .inr (.inr (some (Nat.succ a))) :: r => (match C.1 a with
    | some (.inl (t, n, lo, hi)) => bif (bif b then (Nat.beq t 1 && v_in (q_iv A.1 v) (-128) 127) || (Nat.beq t 2 && v_in (q_iv A.1 v) 0 1) else Nat.beq t 0) && (q_ile 0 (q_iv A.1 i).1 && q_ilt (q_iv A.1 i).2 (n : Int)) then v_wr C a i v lo hi A (fun A => k r A) else false
    | _ => false)
  | _ => false
noncomputable def v_aa (C : v_Cx) (st : List q_V) (A : v_A) (k : List q_V → v_A → Bool) : Bool := match st with
  | .inl i :: .inr (.inr (some (Nat.succ a))) :: r => (match C.1 a with
    | some (.inr (.inl l)) => bif q_ile 0 (q_iv A.1 i).1 && q_ilt (q_iv A.1 i).2 (q_len l : Int) then v_need i A.1 (fun c e => match q_nth l c.toNat with
      | some r1 => k (.inr (.inr (some r1)) :: r) (e, A.2)
      | none => false) else false
    | _ => false)
  | _ => false
/-- System.arraycopy: from the row's own first places on -/
noncomputable def v_cp (C : v_Cx) (d : Nat) (st : List q_V) (A : v_A) (k : List q_V → v_A → Bool) : Bool := match st with
  | .inl n :: .inl (.inl 0) :: .inr (.inr (some (Nat.succ a))) :: .inl (.inl 0) :: .inr (.inr (some (Nat.succ a0))) :: r => (match C.1 a0, C.1 a with
    | some (.inl (0, n0, lo0, hi0)), some (.inl (0, n1, lo1, hi1)) => bif ((q_ile 0 (q_iv A.1 n).1 && q_ile (q_iv A.1 n).2 (n0 : Int)) && (q_ile (q_iv A.1 n).2 (n1 : Int) && (q_ile lo1 lo0 && q_ile hi0 hi1))) && ((v_md C.2.1 a 0 n1 && (bif C.2.2.1 a 0 n1 then false else true)) && (Nat.ble (q_lsl r) 8 && Nat.blt 0 d)) then k r (A.1, v_ok A.1 [(a, 0, n1)] A.2.1, A.2.2) else false
    | _, _ => false)
  | _ => false
noncomputable def v_m2 (d op : Nat) (st : List q_V) (A : v_A) (k : List q_V → v_A → Bool) : Bool := match st with
  | .inl b :: .inl a :: r => bif Nat.ble (q_lsl r) 8 && Nat.blt 0 d then v_bin op a b A.1 (fun v e => k (.inl v :: r) (e, A.2)) else false
  | _ => false
noncomputable def v_m1 (d : Nat) (st : List q_V) (A : v_A) (k : List q_V → v_A → Bool) : Bool := match st with
  | .inl _ :: r => bif Nat.ble (q_lsl r) 8 && Nat.blt 0 d then q_new A.1 (-2147483648, 2147483647, 0, .inl 0, .inl 0) (fun v e => k (.inl v :: r) (e, A.2)) else false
  | _ => false
noncomputable def v_fk (ls : q_L) (i : Nat) : q_L := List.rec (motive := fun _ => q_L) [] (fun h _ ih => bif Nat.beq h.1 i then ih else h :: ih) ls
noncomputable def v_k2 (ls : q_L) (i : Nat) : Nat := match q_gl ls (Nat.pred i) with
  | some u => bif Nat.beq (q_ct u) 2 then Nat.pred i else i
  | none => i
noncomputable def v_sl (ls : q_L) (i : Nat) (v : q_V) : q_L := (i, v) :: v_fk (v_fk ls i) (v_k2 ls i)
noncomputable def v_cm (md : Nat) (st : List q_V) (A : v_A) (k : List q_V → v_A → Bool) : Bool := match st with
  | .inr (.inl y) :: .inr (.inl x) :: r => bif Nat.beq md 1 then v_lt x y A.1 (fun e => k (.inl (.inl (-1)) :: r) (e, A.2)) (fun e => q_new e (0, 1, 0, .inl 0, .inl 0) (fun v e => k (.inl v :: r) (e, A.2))) else bif Nat.beq md 2 then v_lt y x A.1 (fun e => k (.inl (.inl 1) :: r) (e, A.2)) (fun e => q_new e (-1, 0, 0, .inl 0, .inl 0) (fun v e => k (.inl v :: r) (e, A.2))) else v_lt y x A.1 (fun e => k (.inl (.inl 1) :: r) (e, A.2)) (fun e => v_eq x y e (fun e => k (.inl (.inl 0) :: r) (e, A.2)) (fun e => k (.inl (.inl (-1)) :: r) (e, A.2)))
  | _ => false
noncomputable def v_nx (M : g_M) (pc : Nat) : Nat := match M.2.2.2.2.2 pc with
  | some en => (match en.1.1 with
    | .ifCond .lt _ => 1
    | .ifCond .gt _ => 2
    | _ => 0)
  | none => 0
noncomputable def v_b1 (cmp : q_N → q_N → q_S → (q_S → Bool) → (q_S → Bool) → Bool) (st : List q_V) (A : v_A) (kt kf : List q_V → v_A → Bool) : Bool := match st with
  | .inl a :: r => cmp a (.inl 0) A.1 (fun e => kt r (e, A.2)) (fun e => kf r (e, A.2))
  | _ => false
noncomputable def v_b2 (cmp : q_N → q_N → q_S → (q_S → Bool) → (q_S → Bool) → Bool) (st : List q_V) (A : v_A) (kt kf : List q_V → v_A → Bool) : Bool := match st with
  | .inl b :: .inl a :: r => cmp a b A.1 (fun e => kt r (e, A.2)) (fun e => kf r (e, A.2))
  | _ => false
noncomputable def v_i2 (op : Nat) (st : List q_V) (A : v_A) (k : List q_V → v_A → Bool) : Bool := match st with
  | .inl b :: .inl a :: r => v_bin op a b A.1 (fun v e => k (.inl v :: r) (e, A.2))
  | _ => false
noncomputable def v_d2 (op : Nat) (st : List q_V) (A : v_A) (k : List q_V → v_A → Bool) : Bool := match st with
  | .inl b :: .inl a :: r => v_eq b (.inl 0) A.1 (fun _ => false) (fun e => v_bin op a b e (fun v e => k (.inl v :: r) (e, A.2)))
  | _ => false
noncomputable def v_u1 (lo hi : Int) (f : Int32 → Int32) (st : List q_V) (A : v_A) (k : List q_V → v_A → Bool) : Bool := match st with
  | .inl a :: r => (match q_c A.1 a with
    | some x => k (.inl (.inl (f (Int32.ofInt x)).toInt) :: r) A
    | none => q_new A.1 (lo, hi, 0, .inl 0, .inl 0) (fun v e => k (.inl v :: r) (e, A.2)))
  | _ => false
noncomputable def q_ld (kd : Nat) (ls : q_L) (i : Nat) (st : List q_V) (k : List q_V → Bool) : Bool := match q_gl ls i with
  | some (.inl v) => bif Nat.beq kd 0 then k (.inl v :: st) else false
  | some (.inr (.inl v)) => bif Nat.beq kd 2 then k (.inr (.inl v) :: st) else false
  | some (.inr (.inr v)) => bif Nat.beq kd 1 then k (.inr (.inr v) :: st) else false
  | _ => false
noncomputable def v_st (kd nL : Nat) (ls : q_L) (i : Nat) (st : List q_V) (k : q_L → List q_V → Bool) : Bool := match st with
  | .inl v :: r => bif Nat.beq kd 0 && Nat.blt i nL then k (v_sl ls i (.inl v)) r else false
  | .inr (.inr v) :: r => bif Nat.beq kd 1 && Nat.blt i nL then k (v_sl ls i (.inr (.inr v))) r else false
  | _ => false
noncomputable def v_inc (nL : Nat) (ls : q_L) (i : Nat) (n : Int) (A : v_A) (k : q_L → v_A → Bool) : Bool := match q_gl ls i with
  | some (.inl v) => bif Nat.blt i nL && Nat.blt n.natAbs 32768 then v_bin 1 v (.inl n) A.1 (fun w e => k (v_sl ls i (.inl w)) (e, A.2)) else false
  | _ => false
noncomputable def v_ts (pc : Nat) (a : q_N) (r : List q_V) (lo : Int) (offs : List Int) (d : Int) (A : v_A) (k : Nat → List q_V → v_A → Bool) : Bool :=
  List.rec (motive := fun _ => Int → q_S → Bool) (fun _ e => k ((pc : Int) + d).toNat r (e, A.2)) (fun o _ ih c e => v_eq a (.inl c) e (fun e => k ((pc : Int) + o).toNat r (e, A.2)) (fun e => ih (c + 1) e)) offs lo A.1
/-- the answer of a method -/
noncomputable def v_rt (ins : Instr) (ret : Option FieldType) (st : List q_V) (A : v_A) (K : v_K) : Bool := match ins, ret, st with
  | .ireturn, some .int, [.inl v] => K (some (.inl v)) A
  | .ireturn, some .boolean, [.inl v] => bif (q_ile 0 ((q_iv A.1 v).1)) && (q_ile ((q_iv A.1 v).2) 1) then K (some (.inl v)) A else false
  | .areturn, some (.object _), [.inr (.inr v)] => K (some (.inr (.inr v))) A
  | .return_, none, [] => K none A
  | _, _, _ => false
noncomputable def q_pr (v : Option q_V) (r : List q_V) : List q_V := match v with
  | some v => v :: r
  | none => r
noncomputable def v_lk (pc : Nat) (a : q_N) (r : List q_V) (ps : List (Int × Int)) (d : Int) (A : v_A) (k : Nat → List q_V → v_A → Bool) : Bool :=
  List.rec (motive := fun _ => q_S → Bool) (fun e => k ((pc : Int) + d).toNat r (e, A.2)) (fun o _ ih e => v_eq a (.inl o.1) e (fun e => k ((pc : Int) + o.2).toNat r (e, A.2)) (fun e => ih e)) ps A.1
noncomputable def v_rcv (C : v_Cx) (a x : Nat) : Bool := match C.1 a with
  | some (.inr (.inr (ci, _))) => (match q_nth g_oc x with
    | some o => Nat.beq ci o && Nat.blt ci 13
    | none => false)
  | _ => false
/-- a callee's road: by a hook, or gone -/
noncomputable def v_ivc (C : v_Cx) (ih : v_Ih) (d' x : Nat) (M' : g_M) (A : v_A) (as : List q_V) (k : v_K) : Bool := match C.2.2.2.2 d' x as A k with
  | some b => b
  | none => ih [] d' x M' 0 (q_args 0 as) [] A k
noncomputable def v_ivs (C : v_Cx) (ih : v_Ih) (O : List v_Oe) (d' μ : Nat) (M M' : g_M) (pc : Nat) (ls : q_L) (x : Nat) (A : v_A) (K : v_K) (as r : List q_V) : Bool := bif Nat.ble (q_lsl r) 8 && Nat.ble (q_lsl as) M'.2.2.2.1 then v_ivc C ih d' x M' A as (fun v A' => ih O (Nat.succ d') μ M (pc + 3) ls (q_pr v r) A' K) else false
noncomputable def v_ivr (C : v_Cx) (ih : v_Ih) (O : List v_Oe) (d' μ : Nat) (M M' : g_M) (pc : Nat) (ls : q_L) (x : Nat) (A : v_A) (K : v_K) (as r : List q_V) : Bool := match r with
  | .inr (.inr (some (Nat.succ a))) :: r2 => bif v_rcv C a x then v_ivs C ih O d' μ M M' pc ls x A K (.inr (.inr (some (Nat.succ a))) :: as) r2 else false
  | _ => false
noncomputable def v_ivk (C : v_Cx) (ih : v_Ih) (kd : Nat) (O : List v_Oe) (d μ : Nat) (M : g_M) (pc : Nat) (ls : q_L) (x y : Nat) (st : List q_V) (A : v_A) (K : v_K) : Bool :=
  match g_mt x with
  | none => false
  | some M' => match d with
    | 0 => false
    | Nat.succ d' => q_tk y st (bif Nat.beq kd 0 then v_ivs C ih O d' μ M M' pc ls x A K else v_ivr C ih O d' μ M M' pc ls x A K)
noncomputable abbrev v_Hd : Type := v_Cx → v_Ih → List v_Oe → Nat → Nat → g_M → Nat → Nat → Nat → Nat → Int → q_L → List q_V → v_A → v_K → Bool
noncomputable def v_h_iconst (n : Int) : v_Hd := fun C ih O d μ M pc len x y z ls st A K =>
    bif Nat.blt n.natAbs 128 then ih O d μ M (pc + len) ls (.inl (.inl n) :: st) A K else false
noncomputable def v_h_bipush (n : Int) : v_Hd := fun C ih O d μ M pc len x y z ls st A K =>
    bif Nat.blt n.natAbs 128 then ih O d μ M (pc + len) ls (.inl (.inl n) :: st) A K else false
noncomputable def v_h_sipush (n : Int) : v_Hd := fun C ih O d μ M pc len x y z ls st A K =>
    bif Nat.blt n.natAbs 32768 then ih O d μ M (pc + len) ls (.inl (.inl n) :: st) A K else false
noncomputable def v_h_ldc : v_Hd := fun C ih O d μ M pc len x y z ls st A K =>
    bif Nat.blt z.natAbs 2147483648 then ih O d μ M (pc + len) ls (.inl (.inl z) :: st) A K else false
noncomputable def v_h_ldc_w : v_Hd := fun C ih O d μ M pc len x y z ls st A K =>
    bif Nat.blt z.natAbs 2147483648 then ih O d μ M (pc + len) ls (.inl (.inl z) :: st) A K else false
noncomputable def v_h_ldc2_w : v_Hd := fun C ih O d μ M pc len x y z ls st A K =>
    bif Nat.blt z.natAbs 2147483648 then ih O d μ M (pc + len) ls (.inr (.inl (.inl z)) :: st) A K else false
noncomputable def v_h_lconst (n : Fin 2) : v_Hd := fun C ih O d μ M pc len x y z ls st A K =>
    ih O d μ M (pc + len) ls (.inr (.inl (.inl ((n : Nat) : Int))) :: st) A K
noncomputable def v_h_iload (i : Nat) : v_Hd := fun C ih O d μ M pc len x y z ls st A K =>
    q_ld 0 ls i st (fun st => ih O d μ M (pc + len) ls st A K)
noncomputable def v_h_iload_n (i : Fin 4) : v_Hd := fun C ih O d μ M pc len x y z ls st A K =>
    q_ld 0 ls i st (fun st => ih O d μ M (pc + len) ls st A K)
noncomputable def v_h_aload (i : Nat) : v_Hd := fun C ih O d μ M pc len x y z ls st A K =>
    q_ld 1 ls i st (fun st => ih O d μ M (pc + len) ls st A K)
noncomputable def v_h_aload_n (i : Fin 4) : v_Hd := fun C ih O d μ M pc len x y z ls st A K =>
    q_ld 1 ls i st (fun st => ih O d μ M (pc + len) ls st A K)
noncomputable def v_h_lload (i : Nat) : v_Hd := fun C ih O d μ M pc len x y z ls st A K =>
    q_ld 2 ls i st (fun st => ih O d μ M (pc + len) ls st A K)
noncomputable def v_h_lload_n (i : Fin 4) : v_Hd := fun C ih O d μ M pc len x y z ls st A K =>
    q_ld 2 ls i st (fun st => ih O d μ M (pc + len) ls st A K)
noncomputable def v_h_istore (i : Nat) : v_Hd := fun C ih O d μ M pc len x y z ls st A K =>
    v_st 0 M.2.2.2.1 ls i st (fun ls st => ih O d μ M (pc + len) ls st A K)
noncomputable def v_h_istore_n (i : Fin 4) : v_Hd := fun C ih O d μ M pc len x y z ls st A K =>
    v_st 0 M.2.2.2.1 ls i st (fun ls st => ih O d μ M (pc + len) ls st A K)
noncomputable def v_h_astore (i : Nat) : v_Hd := fun C ih O d μ M pc len x y z ls st A K =>
    v_st 1 M.2.2.2.1 ls i st (fun ls st => ih O d μ M (pc + len) ls st A K)
noncomputable def v_h_astore_n (i : Fin 4) : v_Hd := fun C ih O d μ M pc len x y z ls st A K =>
    v_st 1 M.2.2.2.1 ls i st (fun ls st => ih O d μ M (pc + len) ls st A K)
noncomputable def v_h_iinc (i : Nat) (n : Int) : v_Hd := fun C ih O d μ M pc len x y z ls st A K =>
    v_inc M.2.2.2.1 ls i n A (fun ls A => ih O d μ M (pc + len) ls st A K)
noncomputable def v_h_iadd : v_Hd := fun C ih O d μ M pc len x y z ls st A K =>
    v_i2 1 st A (fun st A => ih O d μ M (pc + len) ls st A K)
noncomputable def v_h_isub : v_Hd := fun C ih O d μ M pc len x y z ls st A K =>
    v_i2 2 st A (fun st A => ih O d μ M (pc + len) ls st A K)
noncomputable def v_h_imul : v_Hd := fun C ih O d μ M pc len x y z ls st A K =>
    v_i2 3 st A (fun st A => ih O d μ M (pc + len) ls st A K)
noncomputable def v_h_iand : v_Hd := fun C ih O d μ M pc len x y z ls st A K =>
    v_i2 4 st A (fun st A => ih O d μ M (pc + len) ls st A K)
noncomputable def v_h_ior : v_Hd := fun C ih O d μ M pc len x y z ls st A K =>
    v_i2 5 st A (fun st A => ih O d μ M (pc + len) ls st A K)
noncomputable def v_h_ixor : v_Hd := fun C ih O d μ M pc len x y z ls st A K =>
    v_i2 6 st A (fun st A => ih O d μ M (pc + len) ls st A K)
noncomputable def v_h_ishl : v_Hd := fun C ih O d μ M pc len x y z ls st A K =>
    v_i2 7 st A (fun st A => ih O d μ M (pc + len) ls st A K)
noncomputable def v_h_ishr : v_Hd := fun C ih O d μ M pc len x y z ls st A K =>
    v_i2 8 st A (fun st A => ih O d μ M (pc + len) ls st A K)
noncomputable def v_h_iushr : v_Hd := fun C ih O d μ M pc len x y z ls st A K =>
    v_i2 9 st A (fun st A => ih O d μ M (pc + len) ls st A K)
noncomputable def v_h_idiv : v_Hd := fun C ih O d μ M pc len x y z ls st A K =>
    v_d2 10 st A (fun st A => ih O d μ M (pc + len) ls st A K)
noncomputable def v_h_irem : v_Hd := fun C ih O d μ M pc len x y z ls st A K =>
    v_d2 11 st A (fun st A => ih O d μ M (pc + len) ls st A K)
noncomputable def v_h_ineg : v_Hd := fun C ih O d μ M pc len x y z ls st A K =>
    v_u1 (-2147483648) 2147483647 (fun x => -x) st A (fun st A => ih O d μ M (pc + len) ls st A K)
noncomputable def v_h_i2b : v_Hd := fun C ih O d μ M pc len x y z ls st A K =>
    v_u1 (-128) 127 (fun x => x.toInt8.toInt32) st A (fun st A => ih O d μ M (pc + len) ls st A K)
noncomputable def v_h_i2c : v_Hd := fun C ih O d μ M pc len x y z ls st A K =>
    v_u1 0 65535 (fun x => (x.toUInt32 % 65536).toInt32) st A (fun st A => ih O d μ M (pc + len) ls st A K)
noncomputable def v_h_i2l : v_Hd := fun C ih O d μ M pc len x y z ls st A K =>
    (match st with
    | .inl a :: r => ih O d μ M (pc + len) ls (.inr (.inl a) :: r) A K
    | _ => false)
noncomputable def v_h_lcmp : v_Hd := fun C ih O d μ M pc len x y z ls st A K =>
    v_cm (v_nx M (pc + len)) st A (fun st A => ih O d μ M (pc + len) ls st A K)
noncomputable def v_h_dup : v_Hd := fun C ih O d μ M pc len x y z ls st A K =>
    (match st with
    | v :: r => bif Nat.beq (q_ct v) 1 then ih O d μ M (pc + len) ls (v :: v :: r) A K else false
    | _ => false)
noncomputable def v_h_dup2 : v_Hd := fun C ih O d μ M pc len x y z ls st A K =>
    (match st with
    | v :: w :: r => bif Nat.beq (q_ct v) 1 && Nat.beq (q_ct w) 1 then ih O d μ M (pc + len) ls (v :: w :: v :: w :: r) A K else false
    | _ => false)
noncomputable def v_h_pop : v_Hd := fun C ih O d μ M pc len x y z ls st A K =>
    (match st with
    | v :: r => bif Nat.beq (q_ct v) 1 then ih O d μ M (pc + len) ls r A K else false
    | _ => false)
noncomputable def v_h_aconst_null : v_Hd := fun C ih O d μ M pc len x y z ls st A K =>
    ih O d μ M (pc + len) ls (.inr (.inr none) :: st) A K
noncomputable def v_h_goto : v_Hd := fun C ih O d μ M pc len x y z ls st A K =>
    ih O d μ M x ls st A K
noncomputable def v_h_ifCond_eq : v_Hd := fun C ih O d μ M pc len x y z ls st A K =>
    v_b1 v_eq st A (fun st A => ih O d μ M x ls st A K) (fun st A => ih O d μ M (pc + 3) ls st A K)
noncomputable def v_h_ifCond_ne : v_Hd := fun C ih O d μ M pc len x y z ls st A K =>
    v_b1 v_eq st A (fun st A => ih O d μ M (pc + 3) ls st A K) (fun st A => ih O d μ M x ls st A K)
noncomputable def v_h_ifCond_lt : v_Hd := fun C ih O d μ M pc len x y z ls st A K =>
    v_b1 v_lt st A (fun st A => ih O d μ M x ls st A K) (fun st A => ih O d μ M (pc + 3) ls st A K)
noncomputable def v_h_ifCond_ge : v_Hd := fun C ih O d μ M pc len x y z ls st A K =>
    v_b1 v_lt st A (fun st A => ih O d μ M (pc + 3) ls st A K) (fun st A => ih O d μ M x ls st A K)
noncomputable def v_h_ifCond_gt : v_Hd := fun C ih O d μ M pc len x y z ls st A K =>
    v_b1 (fun a b => v_lt b a) st A (fun st A => ih O d μ M x ls st A K) (fun st A => ih O d μ M (pc + 3) ls st A K)
noncomputable def v_h_ifCond_le : v_Hd := fun C ih O d μ M pc len x y z ls st A K =>
    v_b1 (fun a b => v_lt b a) st A (fun st A => ih O d μ M (pc + 3) ls st A K) (fun st A => ih O d μ M x ls st A K)
noncomputable def v_h_if_icmp_eq : v_Hd := fun C ih O d μ M pc len x y z ls st A K =>
    v_b2 v_eq st A (fun st A => ih O d μ M x ls st A K) (fun st A => ih O d μ M (pc + 3) ls st A K)
noncomputable def v_h_if_icmp_ne : v_Hd := fun C ih O d μ M pc len x y z ls st A K =>
    v_b2 v_eq st A (fun st A => ih O d μ M (pc + 3) ls st A K) (fun st A => ih O d μ M x ls st A K)
noncomputable def v_h_if_icmp_lt : v_Hd := fun C ih O d μ M pc len x y z ls st A K =>
    v_b2 v_lt st A (fun st A => ih O d μ M x ls st A K) (fun st A => ih O d μ M (pc + 3) ls st A K)
noncomputable def v_h_if_icmp_ge : v_Hd := fun C ih O d μ M pc len x y z ls st A K =>
    v_b2 v_lt st A (fun st A => ih O d μ M (pc + 3) ls st A K) (fun st A => ih O d μ M x ls st A K)
noncomputable def v_h_if_icmp_gt : v_Hd := fun C ih O d μ M pc len x y z ls st A K =>
    v_b2 (fun a b => v_lt b a) st A (fun st A => ih O d μ M x ls st A K) (fun st A => ih O d μ M (pc + 3) ls st A K)
noncomputable def v_h_if_icmp_le : v_Hd := fun C ih O d μ M pc len x y z ls st A K =>
    v_b2 (fun a b => v_lt b a) st A (fun st A => ih O d μ M (pc + 3) ls st A K) (fun st A => ih O d μ M x ls st A K)
noncomputable def v_h_ifnull : v_Hd := fun C ih O d μ M pc len x y z ls st A K =>
    (match st with
    | .inr (.inr none) :: r => ih O d μ M x ls r A K
    | .inr (.inr (some _)) :: r => ih O d μ M (pc + 3) ls r A K
    | _ => false)
noncomputable def v_h_ifnonnull : v_Hd := fun C ih O d μ M pc len x y z ls st A K =>
    (match st with
    | .inr (.inr none) :: r => ih O d μ M (pc + 3) ls r A K
    | .inr (.inr (some _)) :: r => ih O d μ M x ls r A K
    | _ => false)
noncomputable def v_h_tableswitch (df : Int) (lo : Int) (hi : Int) (offs : Array Int) : v_Hd := fun C ih O d μ M pc len x y z ls st A K =>
    (match st with
    | .inl a :: r => bif (q_ieq hi (lo + (q_len offs.toList : Int) - 1)) && ((offs.toList).all (fun o => (q_ile 0 ((pc : Int) + o))) && (q_ile 0 ((pc : Int) + df))) then v_ts pc a r lo offs.toList df A (fun pc r A => ih O d μ M pc ls r A K) else false
    | _ => false)
noncomputable def v_h_ireturn : v_Hd := fun C ih O d μ M pc len x y z ls st A K =>
    v_rt .ireturn M.2.2.2.2.1 st A K
noncomputable def v_h_areturn : v_Hd := fun C ih O d μ M pc len x y z ls st A K =>
    v_rt .areturn M.2.2.2.2.1 st A K
noncomputable def v_h_return_ : v_Hd := fun C ih O d μ M pc len x y z ls st A K =>
    v_rt .return_ M.2.2.2.2.1 st A K
noncomputable def v_h_lookupswitch (df : Int) (ps : Array (Int × Int)) : v_Hd := fun C ih O d μ M pc len x y z ls st A K =>
    (match st with
    | .inl a :: r => bif ((ps.toList.zip (ps.toList.drop 1)).all (fun (a, next) => a.1 < next.1)) && ((ps.toList).all (fun o => (q_ile 0 ((pc : Int) + o.2))) && (q_ile 0 ((pc : Int) + df))) then v_lk pc a r ps.toList df A (fun pc r A => ih O d μ M pc ls r A K) else false
    | _ => false)
noncomputable def v_h_getfield : v_Hd := fun C ih O d μ M pc len x y z ls st A K =>
    v_gf C x y st A (fun st A => ih O d μ M (pc + len) ls st A K)
noncomputable def v_h_putfield : v_Hd := fun C ih O d μ M pc len x y z ls st A K =>
    v_pf C x y st A (fun st A => ih O d μ M (pc + len) ls st A K)
noncomputable def v_h_arraylength : v_Hd := fun C ih O d μ M pc len x y z ls st A K =>
    v_al C st A (fun st A => ih O d μ M (pc + len) ls st A K)
noncomputable def v_h_iaload : v_Hd := fun C ih O d μ M pc len x y z ls st A K =>
    v_ia C false st A (fun st A => ih O d μ M (pc + len) ls st A K)
noncomputable def v_h_baload : v_Hd := fun C ih O d μ M pc len x y z ls st A K =>
    v_ia C true st A (fun st A => ih O d μ M (pc + len) ls st A K)
noncomputable def v_h_aaload : v_Hd := fun C ih O d μ M pc len x y z ls st A K =>
    v_aa C st A (fun st A => ih O d μ M (pc + len) ls st A K)
noncomputable def v_h_iastore : v_Hd := fun C ih O d μ M pc len x y z ls st A K =>
    v_is C false st A (fun st A => ih O d μ M (pc + len) ls st A K)
noncomputable def v_h_bastore : v_Hd := fun C ih O d μ M pc len x y z ls st A K =>
    v_is C true st A (fun st A => ih O d μ M (pc + len) ls st A K)
noncomputable def v_h_invokestatic : v_Hd := fun C ih O d μ M pc len x y z ls st A K =>
    bif Nat.blt x 77777 then v_ivk C ih 0 O d μ M pc ls x y st A K else bif Nat.beq x 99998 then v_cp C d st A (fun st A => ih O d μ M (pc + len) ls st A K) else bif Nat.beq x 99997 then v_m2 d 12 st A (fun st A => ih O d μ M (pc + len) ls st A K) else bif Nat.beq x 99996 then v_m2 d 13 st A (fun st A => ih O d μ M (pc + len) ls st A K) else bif Nat.beq x 99995 then v_m1 d st A (fun st A => ih O d μ M (pc + len) ls st A K) else false
noncomputable def v_h_invokevirtual : v_Hd := fun C ih O d μ M pc len x y z ls st A K =>
    bif Nat.blt x 77777 then v_ivk C ih 1 O d μ M pc ls x y st A K else false
noncomputable def v_disp (ins : Instr) : v_Hd := match ins with
  | .iconst n => v_h_iconst n
  | .bipush n => v_h_bipush n
  | .sipush n => v_h_sipush n
  | .ldc _ => v_h_ldc
  | .ldc_w _ => v_h_ldc_w
  | .ldc2_w _ => v_h_ldc2_w
  | .lconst n => v_h_lconst n
  | .iload i => v_h_iload i
  | .iload_n i => v_h_iload_n i
  | .aload i => v_h_aload i
  | .aload_n i => v_h_aload_n i
  | .lload i => v_h_lload i
  | .lload_n i => v_h_lload_n i
  | .istore i => v_h_istore i
  | .istore_n i => v_h_istore_n i
  | .astore i => v_h_astore i
  | .astore_n i => v_h_astore_n i
  | .iinc i n => v_h_iinc i n
  | .iadd => v_h_iadd
  | .isub => v_h_isub
  | .imul => v_h_imul
  | .iand => v_h_iand
  | .ior => v_h_ior
  | .ixor => v_h_ixor
  | .ishl => v_h_ishl
  | .ishr => v_h_ishr
  | .iushr => v_h_iushr
  | .idiv => v_h_idiv
  | .irem => v_h_irem
  | .ineg => v_h_ineg
  | .i2b => v_h_i2b
  | .i2c => v_h_i2c
  | .i2l => v_h_i2l
  | .lcmp => v_h_lcmp
  | .dup => v_h_dup
  | .dup2 => v_h_dup2
  | .pop => v_h_pop
  | .aconst_null => v_h_aconst_null
  | .goto _ => v_h_goto
  | .ifCond .eq _ => v_h_ifCond_eq
  | .ifCond .ne _ => v_h_ifCond_ne
  | .ifCond .lt _ => v_h_ifCond_lt
  | .ifCond .ge _ => v_h_ifCond_ge
  | .ifCond .gt _ => v_h_ifCond_gt
  | .ifCond .le _ => v_h_ifCond_le
  | .if_icmp .eq _ => v_h_if_icmp_eq
  | .if_icmp .ne _ => v_h_if_icmp_ne
  | .if_icmp .lt _ => v_h_if_icmp_lt
  | .if_icmp .ge _ => v_h_if_icmp_ge
  | .if_icmp .gt _ => v_h_if_icmp_gt
  | .if_icmp .le _ => v_h_if_icmp_le
  | .ifnull _ => v_h_ifnull
  | .ifnonnull _ => v_h_ifnonnull
  | .tableswitch df lo hi offs => v_h_tableswitch df lo hi offs
  | .lookupswitch df ps => v_h_lookupswitch df ps
  | .getfield _ => v_h_getfield
  | .putfield _ => v_h_putfield
  | .arraylength => v_h_arraylength
  | .iaload => v_h_iaload
  | .baload => v_h_baload
  | .aaload => v_h_aaload
  | .iastore => v_h_iastore
  | .bastore => v_h_bastore
  | .invokestatic _ => v_h_invokestatic
  | .invokevirtual _ => v_h_invokevirtual
  | .ireturn => v_h_ireturn
  | .areturn => v_h_areturn
  | .return_ => v_h_return_
  | _ => fun _ _ _ _ _ _ _ _ _ _ _ _ _ _ _ => false
/-- the String constant's indexOf, at its one place -/
noncomputable def v_mac (ih : v_Ih) (O : List v_Oe) (d μ : Nat) (M : g_M) (pc : Nat) (ls : q_L) (st : List q_V) (A : v_A) (K : v_K) : Bool := match st, q_gl ls 2 with
  | [], some (.inl _) => bif Nat.beq pc 13 && (Nat.ble 8 d && decide (M.1 = RX5 ∧ M.2.1 = yX5_readFactor ∧ M.2.2.1 = cX5_readFactor)) then q_new A.1 (-1, 14, 0, .inl 0, .inl 0) (fun v e => ih O d μ M 20 ls [.inl v] (e, A.2) K) else false
  | _, _ => false
noncomputable def v_one (C : v_Cx) (ih : v_Ih) (O : List v_Oe) (d μ : Nat) (M : g_M) (pc : Nat) (ls : q_L) (st : List q_V) (A : v_A) (K : v_K) : Bool :=
  match M.2.2.2.2.2 pc with
  | none => v_mac ih O d μ M pc ls st A K
  | some en => v_disp en.1.1 C ih O d μ M pc en.1.2 en.2.1 en.2.2.1 en.2.2.2 ls st A K
noncomputable def v_veq (v w : q_V) : Bool := match v, w with
  | .inl a, .inl b => q_nb a b
  | .inr (.inl a), .inr (.inl b) => q_nb a b
  | .inr (.inr none), .inr (.inr none) => true
  | .inr (.inr (some a)), .inr (.inr (some b)) => Nat.beq a b
  | _, _ => false
/-- the locals at a head, opened: kept ones and fresh symbols from n on -/
noncomputable def v_mkl (ls : q_L) (p : v_Pat) : Nat → q_L := List.rec (motive := fun _ => Nat → q_L) (fun _ => []) (fun h _ ih n => match h.2 with
  | none => (match q_gl ls h.1 with
    | some v => (h.1, v) :: ih n
    | none => ih n)
  | some _ => (h.1, .inl (.inr n)) :: ih (Nat.succ n)) p
noncomputable def v_gen (p : v_Pat) : q_S := List.rec (motive := fun _ => q_S) [] (fun h _ ih => match h.2 with
  | none => ih
  | some b => (b.1, b.2, 0, .inl 0, .inl 0) :: ih) p
/-- what comes to a head for the first time -/
noncomputable def v_chk0 (env : q_S) (ls : q_L) (p : v_Pat) : Bool := List.rec (motive := fun _ => Bool) true (fun h _ ih => match h.2 with
  | none => ih
  | some b => (match q_gl ls h.1 with
    | some (.inl a) => v_in (q_iv env a) b.1 b.2 && ih
    | _ => false)) p
/-- what comes to it again -/
noncomputable def v_chk1 (env : q_S) (ls0 ls : q_L) (p : v_Pat) : Bool := List.rec (motive := fun _ => Bool) true (fun h _ ih => match h.2 with
  | none => (match q_gl ls0 h.1, q_gl ls h.1 with
    | some v, some w => v_veq v w && ih
    | none, _ => ih
    | _, _ => false)
  | some b => (match q_gl ls h.1 with
    | some (.inl a) => v_in (q_iv env a) b.1 b.2 && ih
    | _ => false)) p
/-- the counter goes on -/
noncomputable def v_prog (env : q_S) (s : Nat) (up : Bool) (w : q_N) : Bool := (bif up then q_ilt (q_iv env (.inr s)).2 (q_iv env w).1 else q_ilt (q_iv env w).2 (q_iv env (.inr s)).1) || (match w with
  | .inr t => (match q_nth env t with
    | some e => (match e.2.2.1, e.2.2.2.1, e.2.2.2.2 with
      | 1, .inr s', .inl c => Nat.beq s s' && ((bif up then q_ilt 0 c else q_ilt c 0) && (q_ile (-2147483648) ((q_iv env (.inr s)).1 + c) && q_ile ((q_iv env (.inr s)).2 + c) 2147483647))
      | _, _, _ => false)
    | none => false)
  | .inl _ => false)
noncomputable def v_gp (p : v_Pat) (ci : Nat) : Nat → Option Nat := List.rec (motive := fun _ => Nat → Option Nat) (fun _ => none) (fun h _ ih n => match h.2 with
  | none => ih n
  | some _ => bif Nat.beq h.1 ci then some n else ih (Nat.succ n)) p
noncomputable def v_fo (O : List v_Oe) (pc : Nat) : Option v_Oe := List.rec (motive := fun _ => Option v_Oe) none (fun h _ ih => bif Nat.beq h.1 pc then some h else ih) O
noncomputable def v_head (C : v_Cx) (ih : v_Ih) (O : List v_Oe) (d μ : Nat) (M : g_M) (pc : Nat) (hp : v_Hp) (ls : q_L) (st : List q_V) (A : v_A) (K : v_K) : Bool := match st with
  | [] => (match v_fo O pc with
    | some h => v_chk1 A.1 h.2.2.2.1 ls h.2.2.1 && (match q_gl ls h.2.2.2.2.1 with
      | some (.inl w) => v_prog A.1 (h.2.1 + h.2.2.2.2.2.1) h.2.2.2.2.2.2 w
      | _ => false)
    | none => (match v_gp hp.1 hp.2.1 0 with
      | some g => v_chk0 A.1 ls hp.1 && v_one C ih ((pc, q_len A.1, hp.1, ls, hp.2.1, g, hp.2.2.2) :: O) d μ M pc (v_mkl ls hp.1 (q_len A.1)) [] (A.1 ++ v_gen hp.1, v_ok A.1 C.2.1 A.2.1, v_rk C.2.1 A.2.2) K
      | none => false))
  | _ => false
noncomputable def v_run (C : v_Cx) (fuel : Nat) : v_Ih := Nat.rec (motive := fun _ => v_Ih) (fun _ _ _ _ _ _ _ _ _ => false) (fun _ ih O d μ M pc ls st A K => match C.2.2.2.1 μ pc with
  | none => v_one C ih O d μ M pc ls st A K
  | some hp => v_head C ih O d μ M pc hp ls st A K) fuel
end Prt20
section Prt21
/-! the machine by bounds tells the truth: what its words mean -/
noncomputable abbrev v_X : Type := Nat × (Nat → Int32) × v_Cx × (v_Sf → Prop) × v_Sf × v_Rf
noncomputable def v_rl (ρ : List Int) (ls : q_L) (lc : g_Lc) : Prop := ∀ (i : Nat) (v : q_V), q_gl ls i = some v → ∃ w, g_get lc i = some w ∧ q_rv ρ v w
noncomputable def v_TbF (S : v_Sf) (R : v_Rf) (a j : Nat) (ft : v_Ft) : Prop := match ft with
  | .inl b => b.1 ≤ (S a j).toInt ∧ (S a j).toInt ≤ b.2
  | .inr (.inl _) => True
  | .inr (.inr l) => ∃ r ∈ l, R a j = some r
noncomputable def v_TbC (S : v_Sf) (R : v_Rf) (a : Nat) (t : v_Ct) : Prop := match t with
  | .inl (_, n, lo, hi) => ∀ j, j < n → lo ≤ (S a j).toInt ∧ (S a j).toInt ≤ hi
  | .inr (.inl l) => ∀ (j r : Nat), l[j]? = some r → R a j = some r
  | .inr (.inr (_, fs)) => ∀ (j : Nat) (ft : v_Ft), fs[j]? = some ft → v_TbF S R a j ft
noncomputable def v_Tb (ty : Nat → Option v_Ct) (S : v_Sf) (R : v_Rf) : Prop := ∀ (a : Nat) (t : v_Ct), ty a = some t → v_TbC S R a t
noncomputable def v_Fr (m : List (Nat × Nat × Nat)) (S0 : v_Sf) (R0 : v_Rf) (S : v_Sf) (R : v_Rf) : Prop := ∀ a j, v_md m a j j = false → S a j = S0 a j ∧ R a j = R0 a j
noncomputable def v_In (X : v_X) (S : v_Sf) (R : v_Rf) : Prop := v_Tb X.2.2.1.1 S R ∧ X.2.2.2.1 S ∧ v_Fr X.2.2.1.2.1 X.2.2.2.2.1 X.2.2.2.2.2 S R
noncomputable def v_ra (X : v_X) (ρ : List Int) (A : v_A) (S : v_Sf) (R : v_Rf) : Prop := q_re ρ A.1 ∧ (∀ q ∈ A.2.1, ∃ j : Nat, q_r ρ q.2.1 (j : Int) ∧ q_r ρ q.2.2 (S q.1 j).toInt) ∧ (∀ q ∈ A.2.2, R q.1 q.2.1 = some q.2.2) ∧ v_In X S R
/-- what the context must give: the told predicate hangs on the frozen places alone -/
noncomputable def v_XOk (X : v_X) : Prop := (∀ S S' : v_Sf, (∀ a j, X.2.2.1.2.2.1 a j j = true → S' a j = S a j) → X.2.2.2.1 S → X.2.2.2.1 S') ∧ (∀ a lo hi j, X.2.2.1.2.2.1 a lo hi = false → lo ≤ j → j ≤ hi → X.2.2.1.2.2.1 a j j = false) ∧ (∀ a t, X.2.2.1.1 a = some t → a < v_N)
noncomputable def v_Tm (X : v_X) (d : Nat) (M : g_M) (pc : Nat) (lc : g_Lc) (sc : List Value) (S : v_Sf) (R : v_Rf) (Q : Option Value → v_Sf → v_Rf → Prop) : Prop := ∃ n r S' R', (∀ e, g_run g_mt X.1 X.2.1 (n + e) d M pc lc sc (v_mk X.2.2.1.1 S R) = some (r, v_mk X.2.2.1.1 S' R')) ∧ Q r S' R'
noncomputable def v_KOk (X : v_X) (ρ : List Int) (K : v_K) (Q : Option Value → v_Sf → v_Rf → Prop) : Prop := ∀ (ρ' : List Int) (v : Option q_V) (A' : v_A) (r : Option Value) (S' : v_Sf) (R' : v_Rf), q_px ρ ρ' → K v A' = true → q_ro ρ' v r → v_ra X ρ' A' S' R' → Q r S' R'
noncomputable def v_alg : v_Pat → g_Lc → List Int → Prop
  | [], _, [] => True
  | [], _, _ :: _ => False
  | (_, none) :: p, lc, gv => v_alg p lc gv
  | (_, some _) :: _, _, [] => False
  | (i, some b) :: p, lc, g :: gs => (∃ x : Int32, g_get lc i = some (.int x) ∧ x.toInt = g) ∧ b.1 ≤ g ∧ g ≤ b.2 ∧ v_alg p lc gs
noncomputable def v_sm (p : v_Pat) (ls : q_L) (ρ : List Int) (lc : g_Lc) : Prop := ∀ (i : Nat) (v : q_V), (i, none) ∈ p → q_gl ls i = some v → ∃ w, g_get lc i = some w ∧ q_rv ρ v w
noncomputable def v_OOk (X : v_X) (O : List v_Oe) (d : Nat) (M : g_M) (ρ : List Int) (Q : Option Value → v_Sf → v_Rf → Prop) : Prop :=
  ∀ h ∈ O, h.2.1 + (v_gen h.2.2.1).length ≤ ρ.length ∧ v_gp h.2.2.1 h.2.2.2.2.1 0 = some h.2.2.2.2.2.1 ∧ (∀ (i : Nat) (v : q_V), (i, none) ∈ h.2.2.1 → q_gl h.2.2.2.1 i = some v → ∃ w, q_rv (ρ.take h.2.1) v w) ∧ ∀ (gv : List Int) (lc : g_Lc) (S : v_Sf) (R : v_Rf) (old new : Int), v_alg h.2.2.1 lc gv → v_sm h.2.2.1 h.2.2.2.1 (ρ.take h.2.1) lc → ρ[h.2.1 + h.2.2.2.2.2.1]? = some old → gv[h.2.2.2.2.2.1]? = some new → (bif h.2.2.2.2.2.2 then decide (old < new) else decide (new < old)) = true → v_In X S R → v_Tm X d M h.1 lc [] S R Q
noncomputable def v_Out (X : v_X) (O : List v_Oe) (d : Nat) (M : g_M) (pc : Nat) (lc : g_Lc) (sc : List Value) (S : v_Sf) (R : v_Rf) (ρ : List Int) (K : v_K) : Prop := ∀ Q, v_KOk X ρ K Q → v_OOk X O d M ρ Q → v_Tm X d M pc lc sc S R Q
noncomputable def v_Snd (X : v_X) (ih : v_Ih) : Prop := ∀ (O : List v_Oe) (d μ : Nat) (M : g_M) (pc : Nat) (ls : q_L) (st : List q_V) (A : v_A) (K : v_K), ih O d μ M pc ls st A K = true → ∀ (ρ : List Int) (lc : g_Lc) (sc : List Value) (S : v_Sf) (R : v_Rf), v_rl ρ ls lc → q_al2 (q_rv ρ) st sc → v_ra X ρ A S R → v_Out X O d M pc lc sc S R ρ K
noncomputable def v_HkOk (X : v_X) : Prop := ∀ (d' x : Nat) (as : List q_V) (A : v_A) (k : v_K), X.2.2.1.2.2.2.2 d' x as A k = some true → ∀ (M' : g_M) (ρ : List Int) (ac : List Value) (S : v_Sf) (R : v_Rf) (Q : Option Value → v_Sf → v_Rf → Prop), g_mt x = some M' → q_al2 (q_rv ρ) as ac → v_ra X ρ A S R → v_KOk X ρ k Q → v_Tm X d' M' 0 (lv_args 0 ac) [] S R Q
theorem v_rl_px {ρ ρ' : List Int} (h : q_px ρ ρ') {ls : q_L} {lc : g_Lc} (hr : v_rl ρ ls lc) : v_rl ρ' ls lc := fun i v hi => by
  obtain ⟨w, h1, h2⟩ := hr i v hi
  exact ⟨w, h1, q_rv_px h h2⟩
theorem v_KOk_px {X : v_X} {ρ ρ1 : List Int} (hp : q_px ρ ρ1) {K : v_K} {Q : Option Value → v_Sf → v_Rf → Prop} (h : v_KOk X ρ K Q) : v_KOk X ρ1 K Q := fun ρ' v A' r S' R' h1 => h ρ' v A' r S' R' (q_px_tr hp h1)
theorem v_alg_len : ∀ {p : v_Pat} {lc : g_Lc} {gv : List Int}, v_alg p lc gv → gv.length = (v_gen p).length
  | [], _, [], _ => rfl
  | [], _, _ :: _, h => h.elim
  | (_, none) :: p, lc, gv, h => v_alg_len (p := p) h
  | (_, some _) :: _, _, [], h => h.elim
  | (i, some b) :: p, lc, g :: gs, h => by
    have := v_alg_len (p := p) h.2.2.2
    show gs.length + 1 = (v_gen p).length + 1
    omega
theorem v_OOk_px {X : v_X} {O : List v_Oe} {d : Nat} {M : g_M} {ρ ρ1 : List Int} (hp : q_px ρ ρ1) {Q : Option Value → v_Sf → v_Rf → Prop} (h : v_OOk X O d M ρ Q) : v_OOk X O d M ρ1 Q := by
  obtain ⟨t, rfl⟩ := hp
  intro o ho
  obtain ⟨h1, h2, h3, h4⟩ := h o ho
  have et : (ρ ++ t).take o.2.1 = ρ.take o.2.1 := List.take_append_of_le_length (by omega)
  refine ⟨by rw [List.length_append]; omega, h2, by rw [et]; exact h3, fun gv lc S R old new g1 g2 g3 g4 g5 g6 => ?_⟩
  rw [et] at g2
  have hl := v_alg_len g1
  have hg := (List.getElem?_eq_some_iff.mp g4).1
  rw [List.getElem?_append_left (by omega)] at g3
  exact h4 gv lc S R old new g1 g2 g3 g4 g5 g6
theorem v_pre {X : v_X} {d : Nat} {M : g_M} {pc pc1 : Nat} {lc lc1 : g_Lc} {sc sc1 : List Value} {S S1 : v_Sf} {R R1 : v_Rf} {Q : Option Value → v_Sf → v_Rf → Prop} (m : Nat) (hs : ∀ e, g_run g_mt X.1 X.2.1 (m + 1 + e) d M pc lc sc (v_mk X.2.2.1.1 S R) = g_run g_mt X.1 X.2.1 (m + e) d M pc1 lc1 sc1 (v_mk X.2.2.1.1 S1 R1)) (h : v_Tm X d M pc1 lc1 sc1 S1 R1 Q) : v_Tm X d M pc lc sc S R Q := by
  obtain ⟨n, r, S', R', h1, h2⟩ := h
  refine ⟨m + 1 + n, r, S', R', fun e => ?_, h2⟩
  rw [show m + 1 + n + e = m + 1 + (n + e) by omega, hs, show m + (n + e) = n + (m + e) by omega]
  exact h1 _
theorem g_run_step {L : Nat} {xs : Nat → Int32} {n d : Nat} {M : g_M} {pc : Nat} {lc : g_Lc} {sc : List Value} {σ : List g_Ce} {en : g_En} {q : Nat × g_Lc × List Value × List g_Ce} (hen : M.2.2.2.2.2 pc = some en) (hs : g_step d M.2.2.2.1 L xs en pc lc sc σ = some q) : g_run g_mt L xs (n + 1) d M pc lc sc σ = g_run g_mt L xs n d M q.1 q.2.1 q.2.2.1 q.2.2.2 := by
  rw [g_run]
  simp only [hen, hs]
theorem g_st_stk {d nL L : Nat} {xs : Nat → Int32} {en : g_En} {pc : Nat} {lc : g_Lc} {sc sc' : List Value} {σ : List g_Ce} (h : g_stk en.1.1 en.2.2.2 sc = some sc') : g_step d nL L xs en pc lc sc σ = some (pc + en.1.2, lc, sc', σ) := by
  simp only [g_step, h]
theorem g_st_lcl {d nL L : Nat} {xs : Nat → Int32} {en : g_En} {pc : Nat} {lc : g_Lc} {sc : List Value} {σ : List g_Ce} {q : g_Lc × List Value} (h0 : g_stk en.1.1 en.2.2.2 sc = none) (h : g_lcl nL en.1.1 lc sc = some q) : g_step d nL L xs en pc lc sc σ = some (pc + en.1.2, q.1, q.2, σ) := by
  simp only [g_step, h0, h]
theorem g_st_jmp {d nL L : Nat} {xs : Nat → Int32} {en : g_En} {pc : Nat} {lc : g_Lc} {sc : List Value} {σ : List g_Ce} {q : Nat × List Value} (h0 : g_stk en.1.1 en.2.2.2 sc = none) (h1 : g_lcl nL en.1.1 lc sc = none) (h : g_jmp en.1.1 pc en.2.1 sc = some q) : g_step d nL L xs en pc lc sc σ = some (q.1, lc, q.2, σ) := by
  simp only [g_step, h0, h1, h]
theorem g_st_hp {d nL L : Nat} {xs : Nat → Int32} {en : g_En} {pc : Nat} {lc : g_Lc} {sc : List Value} {σ : List g_Ce} {q : List Value × List g_Ce} (h0 : g_stk en.1.1 en.2.2.2 sc = none) (h1 : g_lcl nL en.1.1 lc sc = none) (h2 : g_jmp en.1.1 pc en.2.1 sc = none) (h : g_hp d L xs en.1.1 en.2.1 en.2.2.1 sc σ = some q) : g_step d nL L xs en pc lc sc σ = some (pc + en.1.2, lc, q.1, q.2) := by
  simp only [g_step, h0, h1, h2, h]
theorem q_cons {ρ : List Int} {v : q_V} {r : List q_V} {sc : List Value} (h : q_al2 (q_rv ρ) (v :: r) sc) : ∃ w t, sc = w :: t ∧ q_rv ρ v w ∧ q_al2 (q_rv ρ) r t := by
  cases sc with
  | nil => exact h.elim
  | cons w t => exact ⟨w, t, rfl, h.1, h.2⟩
theorem q_cons_i {ρ : List Int} {a : q_N} {r : List q_V} {sc : List Value} (h : q_al2 (q_rv ρ) (.inl a :: r) sc) : ∃ (x : Int32) (t : List Value), sc = .int x :: t ∧ q_r ρ a x.toInt ∧ q_al2 (q_rv ρ) r t := by
  obtain ⟨w, t, rfl, h1, h2⟩ := q_cons h
  obtain ⟨x, rfl, h3⟩ := h1
  exact ⟨x, t, rfl, h3, h2⟩
theorem q_cons_l {ρ : List Int} {a : q_N} {r : List q_V} {sc : List Value} (h : q_al2 (q_rv ρ) (.inr (.inl a) :: r) sc) : ∃ (x : Int64) (t : List Value), sc = .long x :: t ∧ q_r ρ a x.toInt ∧ q_al2 (q_rv ρ) r t := by
  obtain ⟨w, t, rfl, h1, h2⟩ := q_cons h
  obtain ⟨x, rfl, h3⟩ := h1
  exact ⟨x, t, rfl, h3, h2⟩
theorem q_cons_r {ρ : List Int} {o : Option Nat} {r : List q_V} {sc : List Value} (h : q_al2 (q_rv ρ) (.inr (.inr o) :: r) sc) : ∃ (t : List Value), sc = va_rf o :: t ∧ q_al2 (q_rv ρ) r t := by
  obtain ⟨w, t, rfl, h1, h2⟩ := q_cons h
  have h1 : w = va_rf o := h1
  subst h1
  exact ⟨t, rfl, h2⟩
theorem q_cat {ρ : List Int} {v : q_V} {w : Value} (h : q_rv ρ v w) : w.category = q_ct v := by
  match v, h with
  | .inl a, ⟨x, h1, _⟩ => subst h1; rfl
  | .inr (.inl a), ⟨x, h1, _⟩ => subst h1; rfl
  | .inr (.inr none), h => have h : w = .null := h; subst h; rfl
  | .inr (.inr (some a)), h => have h : w = .ref a := h; subst h; rfl
theorem q_lsl_ok {ρ : List Int} : ∀ {r : List q_V} {t : List Value}, q_al2 (q_rv ρ) r t → g_cat t = q_lsl r
  | [], [], _ => rfl
  | v :: r, w :: t, ⟨h1, h2⟩ => by
    have e : g_cat (w :: t) = w.category + g_cat t := by simp [g_cat]
    rw [e, q_cat h1, q_lsl_ok h2]
    rfl
  | [], _ :: _, h => h.elim
  | _ :: _, [], h => h.elim
theorem q_lgsl_ok : ∀ (t : List Value), (lg_sl t).length = g_cat t
  | [] => rfl
  | w :: t => by
    have e : g_cat (w :: t) = w.category + g_cat t := by simp [g_cat]
    have e2 : (lg_sl (w :: t)).length = (if w.category = 2 then 2 else 1) + (lg_sl t).length := by
      simp only [lg_sl, List.flatMap_cons, List.length_append]
      split <;> simp
    rw [e, e2, q_lgsl_ok t]
    cases w <;> rfl
theorem v_go {X : v_X} {ih : v_Ih} (hS : v_Snd X ih) {O : List v_Oe} {d μ : Nat} {M : g_M} {pc pc1 : Nat} {lc lc1 : g_Lc} {sc sc1 : List Value} {S S1 : v_Sf} {R R1 : v_Rf} {ρ : List Int} {K : v_K} {en : g_En} (hen : M.2.2.2.2.2 pc = some en) (hs : g_step d M.2.2.2.1 X.1 X.2.1 en pc lc sc (v_mk X.2.2.1.1 S R) = some (pc1, lc1, sc1, v_mk X.2.2.1.1 S1 R1)) {ρ1 : List Int} (hp : q_px ρ ρ1) {ls : q_L} {st : List q_V} {A : v_A} (r1 : v_rl ρ1 ls lc1) (r2 : q_al2 (q_rv ρ1) st sc1) (r3 : v_ra X ρ1 A S1 R1) (hk : ih O d μ M pc1 ls st A K = true) : v_Out X O d M pc lc sc S R ρ K := by
  intro Q hK hO
  refine v_pre 0 (fun e => ?_) (hS O d μ M pc1 ls st A K hk ρ1 lc1 sc1 S1 R1 r1 r2 r3 Q (v_KOk_px hp hK) (v_OOk_px hp hO))
  rw [show 0 + 1 + e = e + 1 by omega, show 0 + e = e by omega]
  exact g_run_step hen hs
theorem v_ra_env {X : v_X} {ρ ρ1 : List Int} {A : v_A} {S : v_Sf} {R : v_Rf} (h : v_ra X ρ A S R) (hp : q_px ρ ρ1) {e : q_S} (he : q_re ρ1 e) : v_ra X ρ1 (e, A.2) S R := ⟨he, fun q hq => by
  obtain ⟨j, h1, h2⟩ := h.2.1 q hq
  exact ⟨j, q_r_px hp h1, q_r_px hp h2⟩, h.2.2.1, h.2.2.2⟩
theorem q_blt {a b : Nat} (h : Nat.blt a b = true) : a < b := by rw [Nat.blt_eq] at h; exact h
theorem q_beq {a b : Nat} (h : Nat.beq a b = true) : a = b := Nat.eq_of_beq_eq_true h
theorem q_bifc {b : Bool} {p : Bool} (h : (bif b then p else false) = true) : b = true ∧ p = true := by
  cases b with
  | true => exact ⟨rfl, h⟩
  | false => cases h
-- locals
theorem v_gset {lc : g_Lc} {i j : Nat} {w : Value} : g_get (g_set lc i w) j = if j = i then some w else if (j + 1 = i ∧ ∃ u, g_get lc j = some u ∧ u.category = 2) then g_get (g_set lc i w) j else g_get lc j := by
  by_cases h : j = i
  · subst h
    simp [g_get, g_set]
  · rw [if_neg h]
    split
    · rfl
    · rename_i hn
      have key : ∀ lc : g_Lc, ¬ (j + 1 = i ∧ ∃ u, g_get lc j = some u ∧ u.category = 2) → (lc.filter (fun q => !(q.1 == i) && !(q.1 + 1 == i && q.2.category == 2))).find? (fun q => q.1 == j) = lc.find? (fun q => q.1 == j) := by
        intro lc
        induction lc with
        | nil => intro _; rfl
        | cons q t iht =>
          intro hn
          by_cases hq : q.1 = j
          · have hc : ¬ (j + 1 = i ∧ q.2.category = 2) := fun hc => hn ⟨hc.1, q.2, by simp [g_get, hq], hc.2⟩
            have e1 : (!(q.1 == i) && !(q.1 + 1 == i && q.2.category == 2)) = true := by
              rw [hq]
              by_cases h3 : j + 1 = i
              · have h4 : ¬ q.2.category = 2 := fun h4 => hc ⟨h3, h4⟩
                simp [h, h4]
              · simp [h, h3]
            rw [List.filter_cons, e1]
            simp [hq]
          · have hn2 : ¬ (j + 1 = i ∧ ∃ u, g_get t j = some u ∧ u.category = 2) := by
              intro hc
              apply hn
              obtain ⟨c1, u, c2, c3⟩ := hc
              refine ⟨c1, u, ?_, c3⟩
              unfold g_get at c2 ⊢
              simp only [List.find?_cons]
              have : (q.1 == j) = false := by simpa using hq
              rw [this]
              exact c2
            have iht2 := iht hn2
            rw [List.filter_cons]
            have e2 : (q.1 == j) = false := by simpa using hq
            split
            · simp only [List.find?_cons, e2]
              exact iht2
            · simp only [List.find?_cons, e2]
              exact iht2
      unfold g_get g_set
      simp only [List.find?_cons]
      have e3 : (i == j) = false := by simpa using fun e => h (Eq.symm e)
      rw [e3, key lc hn]
theorem v_gl_cons (p : Nat × q_V) (s : q_L) (j : Nat) : q_gl (p :: s) j = bif Nat.beq p.1 j then some p.2 else q_gl s j := rfl
theorem v_gl_fk {i : Nat} : ∀ {ls : q_L} {j : Nat} {v : q_V}, q_gl (v_fk ls i) j = some v → j ≠ i ∧ q_gl ls j = some v
  | [], j, v, h => by cases h
  | p :: s, j, v, h => by
    have e : v_fk (p :: s) i = bif Nat.beq p.1 i then v_fk s i else p :: v_fk s i := rfl
    rw [e] at h
    rw [v_gl_cons]
    cases hb : Nat.beq p.1 i with
    | true =>
      rw [hb] at h
      obtain ⟨h1, h2⟩ := v_gl_fk (ls := s) h
      refine ⟨h1, ?_⟩
      cases hc : Nat.beq p.1 j with
      | true => exact absurd ((q_beq hc).symm.trans (q_beq hb)) h1
      | false => exact h2
    | false =>
      rw [hb] at h
      have h : q_gl (p :: v_fk s i) j = some v := h
      rw [v_gl_cons] at h
      cases hc : Nat.beq p.1 j with
      | true =>
        rw [hc] at h
        refine ⟨fun e2 => ?_, h⟩
        rw [← e2, hc] at hb
        cases hb
      | false =>
        rw [hc] at h
        exact v_gl_fk (ls := s) h
theorem v_sl_ok {ρ : List Int} {ls : q_L} {lc : g_Lc} (h : v_rl ρ ls lc) (i : Nat) {v : q_V} {w : Value} (hv : q_rv ρ v w) : v_rl ρ (v_sl ls i v) (g_set lc i w) := by
  intro j u hj
  unfold v_sl at hj
  rw [v_gl_cons] at hj
  rw [v_gset]
  cases hc : Nat.beq i j with
  | true =>
    rw [hc] at hj
    cases hj
    rw [if_pos (q_beq hc).symm]
    exact ⟨w, rfl, hv⟩
  | false =>
    rw [hc] at hj
    have hj : q_gl (v_fk (v_fk ls i) (v_k2 ls i)) j = some u := hj
    obtain ⟨h1, h2⟩ := v_gl_fk hj
    obtain ⟨h3, h4⟩ := v_gl_fk h2
    obtain ⟨w2, g1, g2⟩ := h j u h4
    rw [if_neg h3, if_neg ?_]
    · exact ⟨w2, g1, g2⟩
    · rintro ⟨e1, u2, e2, e3⟩
      have : u2 = w2 := Option.some.inj (e2.symm.trans g1)
      subst this
      rw [q_cat g2] at e3
      apply h1
      unfold v_k2
      have e4 : Nat.pred i = j := by subst e1; rfl
      rw [e4, h4]
      dsimp only
      rw [e3]
      rfl
end Prt21
section Prt22
section VH
variable {X : v_X} {ih : v_Ih} {O : List v_Oe} {d μ : Nat} {M : g_M} {pc : Nat} {ls : q_L} {st : List q_V} {A : v_A} {K : v_K} {ρ : List Int} {lc : g_Lc} {sc : List Value} {S : v_Sf} {R : v_Rf} {ins : Instr} {len x y : Nat} {z : Int}
theorem v_stk {st' : List q_V} {A' : v_A} {sc' : List Value} {ρ1 : List Int} (hS : v_Snd X ih) (hen : M.2.2.2.2.2 pc = some ((ins, len), x, y, z)) (r1 : v_rl ρ ls lc) (hp : q_px ρ ρ1) (r2 : q_al2 (q_rv ρ1) st' sc') (r3 : v_ra X ρ1 A' S R) (hs : g_stk ins z sc = some sc') (hk : ih O d μ M (pc + len) ls st' A' K = true) : v_Out X O d M pc lc sc S R ρ K :=
  v_go hS hen (g_st_stk (en := ((ins, len), x, y, z)) hs) hp (v_rl_px hp r1) r2 r3 hk
theorem v_i2_ok {op : Nat} (hop : op ≠ 0) (hS : v_Snd X ih) (hen : M.2.2.2.2.2 pc = some ((ins, len), x, y, z)) (r1 : v_rl ρ ls lc) (r2 : q_al2 (q_rv ρ) st sc) (r3 : v_ra X ρ A S R) (hs : ∀ sc, g_stk ins z sc = g_i2 (q_F op) sc) (h : v_i2 op st A (fun st A => ih O d μ M (pc + len) ls st A K) = true) : v_Out X O d M pc lc sc S R ρ K := by
  unfold v_i2 at h
  split at h
  · rename_i b a r
    obtain ⟨yv, t, rfl, hb, r4⟩ := q_cons_i r2
    obtain ⟨xv, t, rfl, ha, r5⟩ := q_cons_i r4
    obtain ⟨ρ1, e1, v, p1, p2, p3, p4⟩ := v_bin_ok r3.1 hop ha hb h
    exact v_stk hS hen r1 p1 (st' := .inl v :: r) (A' := (e1, A.2)) (sc' := .int (q_F op xv yv) :: t) ⟨⟨_, rfl, p3⟩, q_st_px p1 r5⟩ (v_ra_env r3 p1 p2) (by rw [hs]; rfl) p4
  · cases h
theorem v_u1_ok {lo hi : Int} {f : Int32 → Int32} (hf : ∀ w : Int32, lo ≤ (f w).toInt ∧ (f w).toInt ≤ hi) (hS : v_Snd X ih) (hen : M.2.2.2.2.2 pc = some ((ins, len), x, y, z)) (r1 : v_rl ρ ls lc) (r2 : q_al2 (q_rv ρ) st sc) (r3 : v_ra X ρ A S R) (hs : ∀ sc, g_stk ins z sc = g_i1 (fun w => .int (f w)) sc) (h : v_u1 lo hi f st A (fun st A => ih O d μ M (pc + len) ls st A K) = true) : v_Out X O d M pc lc sc S R ρ K := by
  unfold v_u1 at h
  split at h
  · rename_i a r
    obtain ⟨xv, t, rfl, ha, r4⟩ := q_cons_i r2
    split at h
    · rename_i c hc
      have e := q_c_ok r3.1 ha hc
      refine v_stk hS hen r1 (q_px_rf ρ) (st' := .inl (.inl (f (Int32.ofInt c)).toInt) :: r) (A' := A) (sc' := .int (f xv) :: t) ⟨⟨_, rfl, ?_⟩, r4⟩ r3 (by rw [hs]; rfl) h
      show (f xv).toInt = _
      rw [← e, q_of]
    · obtain ⟨n1, n2, n3⟩ := q_new_ok r3.1 (e := (lo, hi, 0, .inl 0, .inl 0)) (hf xv).1 (hf xv).2 (Or.inl rfl)
      exact v_stk hS hen r1 n1 (st' := .inl _ :: r) (A' := (_, A.2)) (sc' := .int (f xv) :: t) ⟨⟨_, rfl, n3⟩, q_st_px n1 r4⟩ (v_ra_env r3 n1 n2) (by rw [hs]; rfl) h
  · cases h
theorem v_const_ok {v : q_V} {w : Value} (hv : q_rv ρ v w) (hS : v_Snd X ih) (hen : M.2.2.2.2.2 pc = some ((ins, len), x, y, z)) (r1 : v_rl ρ ls lc) (r2 : q_al2 (q_rv ρ) st sc) (r3 : v_ra X ρ A S R) (hs : g_stk ins z sc = some (w :: sc)) (h : ih O d μ M (pc + len) ls (v :: st) A K = true) : v_Out X O d M pc lc sc S R ρ K :=
  v_stk hS hen r1 (q_px_rf ρ) (st' := v :: st) (A' := A) (sc' := w :: sc) ⟨hv, r2⟩ r3 hs h
theorem v_d2_ok {op : Nat} (hop : op ≠ 0) (hS : v_Snd X ih) (hen : M.2.2.2.2.2 pc = some ((ins, len), x, y, z)) (r1 : v_rl ρ ls lc) (r2 : q_al2 (q_rv ρ) st sc) (r3 : v_ra X ρ A S R) (hs : ∀ sc, g_stk ins z sc = g_d2 (q_F op) sc) (h : v_d2 op st A (fun st A => ih O d μ M (pc + len) ls st A K) = true) : v_Out X O d M pc lc sc S R ρ K := by
  unfold v_d2 at h
  split at h
  · rename_i b a r
    obtain ⟨yv, t, rfl, hb, r4⟩ := q_cons_i r2
    obtain ⟨xv, t, rfl, ha, r5⟩ := q_cons_i r4
    rcases v_eq_ok r3.1 hb (b := .inl 0) (y := 0) rfl h with ⟨-, e1, -, h2⟩ | ⟨hne, e1, he1, h2⟩
    · cases h2
    · obtain ⟨ρ1, e2, v, p1, p2, p3, p4⟩ := v_bin_ok he1 hop ha hb h2
      have hy : ¬ yv = 0 := fun e => hne (by rw [e]; rfl)
      exact v_stk hS hen r1 p1 (st' := .inl v :: r) (A' := (e2, A.2)) (sc' := .int (q_F op xv yv) :: t) ⟨⟨_, rfl, p3⟩, q_st_px p1 r5⟩ (v_ra_env r3 p1 p2) (by rw [hs]; simp only [g_d2, if_neg hy]) p4
  · cases h
theorem v_cm_ok {md : Nat} (hS : v_Snd X ih) (hen : M.2.2.2.2.2 pc = some ((.lcmp, len), x, y, z)) (r1 : v_rl ρ ls lc) (r2 : q_al2 (q_rv ρ) st sc) (r3 : v_ra X ρ A S R) (h : v_cm md st A (fun st A => ih O d μ M (pc + len) ls st A K) = true) : v_Out X O d M pc lc sc S R ρ K := by
  unfold v_cm at h
  split at h
  · rename_i b a r
    obtain ⟨yv, t, rfl, hb, r4⟩ := q_cons_l r2
    obtain ⟨xv, t, rfl, ha, r5⟩ := q_cons_l r4
    have key : ∀ (c : Int) (ρ1 : List Int) (e : q_S), q_px ρ ρ1 → q_re ρ1 e → ih O d μ M (pc + len) ls (.inl (.inl c) :: r) (e, A.2) K = true → c = (lg_cmp xv yv).toInt → v_Out X O d M pc lc (.long yv :: .long xv :: t) S R ρ K := by
      intro c ρ1 e hp he hk hc
      exact v_stk hS hen r1 hp (st' := .inl (.inl c) :: r) (A' := (e, A.2)) (sc' := .int (lg_cmp xv yv) :: t) ⟨⟨_, rfl, hc.symm⟩, q_st_px hp r5⟩ (v_ra_env r3 hp he) rfl hk
    have key2 : ∀ (lo hi : Int) (ρ1 : List Int) (e : q_S), q_px ρ ρ1 → q_re ρ1 e → lo ≤ (lg_cmp xv yv).toInt → (lg_cmp xv yv).toInt ≤ hi → q_new e (lo, hi, 0, .inl 0, .inl 0) (fun v e => ih O d μ M (pc + len) ls (.inl v :: r) (e, A.2) K) = true → v_Out X O d M pc lc (.long yv :: .long xv :: t) S R ρ K := by
      intro lo hi ρ1 e hp he b1 b2 hk
      obtain ⟨n1, n2, n3⟩ := q_new_ok he (e := (lo, hi, 0, .inl 0, .inl 0)) b1 b2 (Or.inl rfl)
      have hp2 := q_px_tr hp n1
      exact v_stk hS hen r1 hp2 (st' := .inl (.inr (q_len e)) :: r) (A' := (_, A.2)) (sc' := .int (lg_cmp xv yv) :: t) ⟨⟨_, rfl, n3⟩, q_st_px hp2 r5⟩ (v_ra_env r3 hp2 n2) rfl hk
    have f1 : xv.toInt < yv.toInt → (lg_cmp xv yv).toInt = -1 := by
      intro h1
      have hn : ¬ xv > yv := fun hh => by have := Int64.lt_iff_toInt_lt.mp hh; omega
      have hne : ¬ xv = yv := fun hh => by rw [hh] at h1; omega
      simp [lg_cmp, hn, hne]
    have f2 : yv.toInt < xv.toInt → (lg_cmp xv yv).toInt = 1 := by
      intro h1
      have : xv > yv := Int64.lt_iff_toInt_lt.mpr h1
      simp [lg_cmp, this]
    have f3 : xv.toInt = yv.toInt → (lg_cmp xv yv).toInt = 0 := by
      intro h3
      have : xv = yv := Int64.toInt_inj.mp h3
      subst this
      simp [lg_cmp]
    cases m1 : Nat.beq md 1 with
    | true =>
      rw [m1] at h
      dsimp only [cond_true] at h
      rcases v_lt_ok r3.1 ha hb h with ⟨h1, ρ1, e1, hp, he1, h2⟩ | ⟨h1, ρ1, e1, hp, he1, h2⟩
      · exact key (-1) ρ1 e1 hp he1 h2 (f1 h1).symm
      · have f : (lg_cmp xv yv).toInt = 0 ∨ (lg_cmp xv yv).toInt = 1 := by
          rcases Int.lt_or_eq_of_le h1 with hh | hh
          · exact Or.inr (f2 hh)
          · exact Or.inl (f3 hh.symm)
        exact key2 0 1 ρ1 e1 hp he1 (by omega) (by omega) h2
    | false =>
      rw [m1] at h
      cases m2 : Nat.beq md 2 with
      | true =>
        rw [m2] at h
        dsimp only [cond_true, cond_false] at h
        rcases v_lt_ok r3.1 hb ha h with ⟨h1, ρ1, e1, hp, he1, h2⟩ | ⟨h1, ρ1, e1, hp, he1, h2⟩
        · exact key 1 ρ1 e1 hp he1 h2 (f2 h1).symm
        · have f : (lg_cmp xv yv).toInt = 0 ∨ (lg_cmp xv yv).toInt = -1 := by
            rcases Int.lt_or_eq_of_le h1 with hh | hh
            · exact Or.inr (f1 hh)
            · exact Or.inl (f3 hh)
          exact key2 (-1) 0 ρ1 e1 hp he1 (by omega) (by omega) h2
      | false =>
        rw [m2] at h
        dsimp only [cond_true, cond_false] at h
        rcases v_lt_ok r3.1 hb ha h with ⟨h1, ρ1, e1, hp, he1, h2⟩ | ⟨h1, ρ1, e1, hp, he1, h2⟩
        · exact key 1 ρ1 e1 hp he1 h2 (f2 h1).symm
        · rcases v_eq_ok he1 (q_r_px hp ha) (q_r_px hp hb) h2 with ⟨h3, e2, he2, h4⟩ | ⟨h3, e2, he2, h4⟩
          · exact key 0 ρ1 e2 hp he2 h4 (f3 h3).symm
          · exact key (-1) ρ1 e2 hp he2 h4 (f1 (by omega)).symm
  · cases h
theorem v_ld_ok {kd i : Nat} (hS : v_Snd X ih) (hen : M.2.2.2.2.2 pc = some ((ins, len), x, y, z)) (r1 : v_rl ρ ls lc) (r2 : q_al2 (q_rv ρ) st sc) (r3 : v_ra X ρ A S R) (h0 : g_stk ins z sc = none) (hl : ∀ w, g_get lc i = some w → ((kd = 0 ∧ ∃ v, w = .int v) ∨ (kd = 1 ∧ ∃ o, w = va_rf o) ∨ (kd = 2 ∧ ∃ v, w = .long v)) → g_lcl M.2.2.2.1 ins lc sc = some (lc, w :: sc)) (h : q_ld kd ls i st (fun st => ih O d μ M (pc + len) ls st A K) = true) : v_Out X O d M pc lc sc S R ρ K := by
  unfold q_ld at h
  split at h
  · rename_i v hv
    obtain ⟨w, g1, g2⟩ := r1 _ _ hv
    cases hk : Nat.beq kd 0 with
    | false => rw [hk] at h; cases h
    | true =>
      rw [hk] at h
      obtain ⟨u, rfl, -⟩ := id g2
      exact v_go hS hen (g_st_lcl (en := ((ins, len), x, y, z)) h0 (hl _ g1 (Or.inl ⟨q_beq hk, _, rfl⟩))) (q_px_rf ρ) r1 (st := _ :: st) (And.intro g2 r2) r3 h
  · rename_i v hv
    obtain ⟨w, g1, g2⟩ := r1 _ _ hv
    cases hk : Nat.beq kd 2 with
    | false => rw [hk] at h; cases h
    | true =>
      rw [hk] at h
      obtain ⟨u, rfl, -⟩ := id g2
      exact v_go hS hen (g_st_lcl (en := ((ins, len), x, y, z)) h0 (hl _ g1 (Or.inr (Or.inr ⟨q_beq hk, _, rfl⟩)))) (q_px_rf ρ) r1 (st := _ :: st) (And.intro g2 r2) r3 h
  · rename_i v hv
    obtain ⟨w, g1, g2⟩ := r1 _ _ hv
    cases hk : Nat.beq kd 1 with
    | false => rw [hk] at h; cases h
    | true =>
      rw [hk] at h
      have e : w = va_rf v := g2
      subst e
      exact v_go hS hen (g_st_lcl (en := ((ins, len), x, y, z)) h0 (hl _ g1 (Or.inr (Or.inl ⟨q_beq hk, _, rfl⟩)))) (q_px_rf ρ) r1 (st := _ :: st) (And.intro g2 r2) r3 h
  · cases h
theorem q_ldi_l {i : Nat} {w : Value} (h : g_get lc i = some w) (hk : (0 = 0 ∧ ∃ v, w = .int v) ∨ (0 = 1 ∧ ∃ o, w = va_rf o) ∨ (0 = 2 ∧ ∃ v, w = .long v)) : g_ldi lc i sc = some (lc, w :: sc) := by
  rcases hk with ⟨-, v, rfl⟩ | ⟨h2, -⟩ | ⟨h2, -⟩
  · simp only [g_ldi, h]
  · omega
  · omega
theorem q_lda_l {i : Nat} {w : Value} (h : g_get lc i = some w) (hk : (1 = 0 ∧ ∃ v, w = .int v) ∨ (1 = 1 ∧ ∃ o, w = va_rf o) ∨ (1 = 2 ∧ ∃ v, w = .long v)) : g_lda lc i sc = some (lc, w :: sc) := by
  rcases hk with ⟨h2, -⟩ | ⟨-, o, rfl⟩ | ⟨h2, -⟩
  · omega
  · cases o with
    | none => have h : g_get lc i = some .null := h; simp only [g_lda, h]; rfl
    | some a => have h : g_get lc i = some (.ref a) := h; simp only [g_lda, h]; rfl
  · omega
theorem q_ldl_l {i : Nat} {w : Value} (h : g_get lc i = some w) (hk : (2 = 0 ∧ ∃ v, w = .int v) ∨ (2 = 1 ∧ ∃ o, w = va_rf o) ∨ (2 = 2 ∧ ∃ v, w = .long v)) : g_ldl lc i sc = some (lc, w :: sc) := by
  rcases hk with ⟨h2, -⟩ | ⟨h2, -⟩ | ⟨-, v, rfl⟩
  · omega
  · omega
  · simp only [g_ldl, h]
theorem v_st_ok {kd i : Nat} (hS : v_Snd X ih) (hen : M.2.2.2.2.2 pc = some ((ins, len), x, y, z)) (r1 : v_rl ρ ls lc) (r2 : q_al2 (q_rv ρ) st sc) (r3 : v_ra X ρ A S R) (h0 : g_stk ins z sc = none) (hl : ∀ w t, sc = w :: t → ((kd = 0 ∧ ∃ v, w = .int v) ∨ (kd = 1 ∧ ∃ o, w = va_rf o)) → i < M.2.2.2.1 → g_lcl M.2.2.2.1 ins lc sc = some (g_set lc i w, t)) (h : v_st kd M.2.2.2.1 ls i st (fun ls st => ih O d μ M (pc + len) ls st A K) = true) : v_Out X O d M pc lc sc S R ρ K := by
  unfold v_st at h
  split at h
  · rename_i v r
    obtain ⟨w, t, rfl, h1, r4⟩ := q_cons r2
    cases hk : (Nat.beq kd 0 && Nat.blt i M.2.2.2.1) with
    | false => rw [hk] at h; cases h
    | true =>
      rw [hk] at h
      rw [Bool.and_eq_true] at hk
      obtain ⟨u, rfl, -⟩ := id h1
      exact v_go hS hen (g_st_lcl (en := ((ins, len), x, y, z)) h0 (hl _ _ rfl (Or.inl ⟨q_beq hk.1, _, rfl⟩) (q_blt hk.2))) (q_px_rf ρ) (v_sl_ok r1 i h1) r4 r3 h
  · rename_i v r
    obtain ⟨w, t, rfl, h1, r4⟩ := q_cons r2
    cases hk : (Nat.beq kd 1 && Nat.blt i M.2.2.2.1) with
    | false => rw [hk] at h; cases h
    | true =>
      rw [hk] at h
      rw [Bool.and_eq_true] at hk
      have e : w = va_rf v := h1
      subst e
      exact v_go hS hen (g_st_lcl (en := ((ins, len), x, y, z)) h0 (hl _ _ rfl (Or.inr ⟨q_beq hk.1, _, rfl⟩) (q_blt hk.2))) (q_px_rf ρ) (v_sl_ok r1 i h1) r4 r3 h
  · cases h
theorem q_sti_l {i nL : Nat} {w : Value} {t : List Value} (hk : (0 = 0 ∧ ∃ v, w = .int v) ∨ (0 = 1 ∧ ∃ o, w = va_rf o)) (hi : i < nL) : g_sti nL lc i (w :: t) = some (g_set lc i w, t) := by
  rcases hk with ⟨-, v, rfl⟩ | ⟨h2, -⟩
  · simp only [g_sti, if_pos hi]
  · omega
theorem q_sta_l {i nL : Nat} {w : Value} {t : List Value} (hk : (1 = 0 ∧ ∃ v, w = .int v) ∨ (1 = 1 ∧ ∃ o, w = va_rf o)) (hi : i < nL) : g_sta nL lc i (w :: t) = some (g_set lc i w, t) := by
  rcases hk with ⟨h2, -⟩ | ⟨-, o, rfl⟩
  · omega
  · cases o with
    | none => simp only [va_rf, g_sta, if_pos hi]
    | some a => simp only [va_rf, g_sta, if_pos hi]
theorem v_inc_ok {i : Nat} {c : Int} (hS : v_Snd X ih) (hen : M.2.2.2.2.2 pc = some ((.iinc i c, len), x, y, z)) (r1 : v_rl ρ ls lc) (r2 : q_al2 (q_rv ρ) st sc) (r3 : v_ra X ρ A S R) (h : v_inc M.2.2.2.1 ls i c A (fun ls A => ih O d μ M (pc + len) ls st A K) = true) : v_Out X O d M pc lc sc S R ρ K := by
  unfold v_inc at h
  split at h
  · rename_i v hv
    obtain ⟨w, g1, g2⟩ := r1 _ _ hv
    obtain ⟨u, rfl, g3⟩ := g2
    cases hk : (Nat.blt i M.2.2.2.1 && Nat.blt c.natAbs 32768) with
    | false => rw [hk] at h; cases h
    | true =>
      rw [hk] at h
      dsimp only [cond_true] at h
      rw [Bool.and_eq_true] at hk
      have hi := q_blt hk.1
      have hc := q_blt hk.2
      have e : (Int32.ofInt c).toInt = c := q_ofr (by omega) (by omega)
      obtain ⟨ρ1, e1, v1, p1, p2, p3, p4⟩ := v_bin_ok r3.1 (op := 1) (by decide) g3 (b := .inl c) (y := Int32.ofInt c) e h
      refine v_go hS hen (g_st_lcl (en := ((.iinc i c, len), x, y, z)) (q := (g_set lc i (.int (u + Int32.ofInt c)), sc)) rfl ?_) p1 (v_sl_ok (v_rl_px p1 r1) i (v := .inl v1) ⟨_, rfl, p3⟩) (q_st_px p1 r2) (v_ra_env r3 p1 p2) p4
      simp only [g_lcl, g_inc, g1, if_pos hi]
  · cases h
/-- jumps -/
theorem v_b1_ok {cmp : q_N → q_N → q_S → (q_S → Bool) → (q_S → Bool) → Bool} {P : Int32 → Prop} {tt ff : Nat} (hcmp : ∀ (a : q_N) (v : Int32) (env : q_S) (kt kf : q_S → Bool), q_re ρ env → q_r ρ a v.toInt → cmp a (.inl 0) env kt kf = true → (P v ∧ ∃ ρ' env', q_px ρ ρ' ∧ q_re ρ' env' ∧ kt env' = true) ∨ (¬ P v ∧ ∃ ρ' env', q_px ρ ρ' ∧ q_re ρ' env' ∧ kf env' = true)) (hS : v_Snd X ih) (hen : M.2.2.2.2.2 pc = some ((ins, len), x, y, z)) (r1 : v_rl ρ ls lc) (r2 : q_al2 (q_rv ρ) st sc) (r3 : v_ra X ρ A S R) (h0 : g_stk ins z sc = none) (h1 : g_lcl M.2.2.2.1 ins lc sc = none) (hj1 : ∀ v t, sc = .int v :: t → P v → g_jmp ins pc x sc = some (tt, t)) (hj2 : ∀ v t, sc = .int v :: t → ¬ P v → g_jmp ins pc x sc = some (ff, t)) (h : v_b1 cmp st A (fun st A => ih O d μ M tt ls st A K) (fun st A => ih O d μ M ff ls st A K) = true) : v_Out X O d M pc lc sc S R ρ K := by
  unfold v_b1 at h
  split at h
  · obtain ⟨v, t, rfl, ha, r4⟩ := q_cons_i r2
    rcases hcmp _ v _ _ _ r3.1 ha h with ⟨hp, ρ1, e, px, he, hk⟩ | ⟨hp, ρ1, e, px, he, hk⟩
    · exact v_go hS hen (g_st_jmp (en := ((ins, len), x, y, z)) h0 h1 (hj1 v t rfl hp)) px (v_rl_px px r1) (q_st_px px r4) (v_ra_env r3 px he) hk
    · exact v_go hS hen (g_st_jmp (en := ((ins, len), x, y, z)) h0 h1 (hj2 v t rfl hp)) px (v_rl_px px r1) (q_st_px px r4) (v_ra_env r3 px he) hk
  · cases h
theorem v_b2_ok {cmp : q_N → q_N → q_S → (q_S → Bool) → (q_S → Bool) → Bool} {P : Int32 → Int32 → Prop} {tt ff : Nat} (hcmp : ∀ (a b : q_N) (v w : Int32) (env : q_S) (kt kf : q_S → Bool), q_re ρ env → q_r ρ a v.toInt → q_r ρ b w.toInt → cmp a b env kt kf = true → (P v w ∧ ∃ ρ' env', q_px ρ ρ' ∧ q_re ρ' env' ∧ kt env' = true) ∨ (¬ P v w ∧ ∃ ρ' env', q_px ρ ρ' ∧ q_re ρ' env' ∧ kf env' = true)) (hS : v_Snd X ih) (hen : M.2.2.2.2.2 pc = some ((ins, len), x, y, z)) (r1 : v_rl ρ ls lc) (r2 : q_al2 (q_rv ρ) st sc) (r3 : v_ra X ρ A S R) (h0 : g_stk ins z sc = none) (h1 : g_lcl M.2.2.2.1 ins lc sc = none) (hj1 : ∀ v w t, sc = .int w :: .int v :: t → P v w → g_jmp ins pc x sc = some (tt, t)) (hj2 : ∀ v w t, sc = .int w :: .int v :: t → ¬ P v w → g_jmp ins pc x sc = some (ff, t)) (h : v_b2 cmp st A (fun st A => ih O d μ M tt ls st A K) (fun st A => ih O d μ M ff ls st A K) = true) : v_Out X O d M pc lc sc S R ρ K := by
  unfold v_b2 at h
  split at h
  · obtain ⟨w, t, rfl, hb, r4⟩ := q_cons_i r2
    obtain ⟨v, t, rfl, ha, r5⟩ := q_cons_i r4
    rcases hcmp _ _ v w _ _ _ r3.1 ha hb h with ⟨hp, ρ1, e, px, he, hk⟩ | ⟨hp, ρ1, e, px, he, hk⟩
    · exact v_go hS hen (g_st_jmp (en := ((ins, len), x, y, z)) h0 h1 (hj1 v w t rfl hp)) px (v_rl_px px r1) (q_st_px px r5) (v_ra_env r3 px he) hk
    · exact v_go hS hen (g_st_jmp (en := ((ins, len), x, y, z)) h0 h1 (hj2 v w t rfl hp)) px (v_rl_px px r1) (q_st_px px r5) (v_ra_env r3 px he) hk
  · cases h
end VH
theorem q_lt32 (v w : Int32) : v < w ↔ v.toInt < w.toInt := Int32.lt_iff_toInt_lt
theorem q_le32 (v w : Int32) : v ≤ w ↔ v.toInt ≤ w.toInt := Int32.le_iff_toInt_le
theorem q_eq32 (v w : Int32) : v = w ↔ v.toInt = w.toInt := ⟨fun h => by rw [h], q_inj⟩
section VC
variable {ρ : List Int}
theorem v_ceq (a b : q_N) (v w : Int32) (env : q_S) (kt kf : q_S → Bool) (he : q_re ρ env) (ha : q_r ρ a v.toInt) (hb : q_r ρ b w.toInt) (h : v_eq a b env kt kf = true) : (v = w ∧ ∃ ρ' env', q_px ρ ρ' ∧ q_re ρ' env' ∧ kt env' = true) ∨ (¬ v = w ∧ ∃ ρ' env', q_px ρ ρ' ∧ q_re ρ' env' ∧ kf env' = true) := by
  rw [q_eq32]
  rcases v_eq_ok he ha hb h with ⟨g1, g2, g3, g4⟩ | ⟨g1, g2, g3, g4⟩
  · exact Or.inl ⟨g1, ρ, g2, q_px_rf ρ, g3, g4⟩
  · exact Or.inr ⟨g1, ρ, g2, q_px_rf ρ, g3, g4⟩
theorem v_clt (a b : q_N) (v w : Int32) (env : q_S) (kt kf : q_S → Bool) (he : q_re ρ env) (ha : q_r ρ a v.toInt) (hb : q_r ρ b w.toInt) (h : v_lt a b env kt kf = true) : (v < w ∧ ∃ ρ' env', q_px ρ ρ' ∧ q_re ρ' env' ∧ kt env' = true) ∨ (¬ v < w ∧ ∃ ρ' env', q_px ρ ρ' ∧ q_re ρ' env' ∧ kf env' = true) := by
  rw [q_lt32]
  rcases v_lt_ok he ha hb h with ⟨g1, g2⟩ | ⟨g1, g2⟩
  · exact Or.inl ⟨g1, g2⟩
  · exact Or.inr ⟨by omega, g2⟩
theorem v_cgt (a b : q_N) (v w : Int32) (env : q_S) (kt kf : q_S → Bool) (he : q_re ρ env) (ha : q_r ρ a v.toInt) (hb : q_r ρ b w.toInt) (h : v_lt b a env kt kf = true) : (w < v ∧ ∃ ρ' env', q_px ρ ρ' ∧ q_re ρ' env' ∧ kt env' = true) ∨ (¬ w < v ∧ ∃ ρ' env', q_px ρ ρ' ∧ q_re ρ' env' ∧ kf env' = true) := v_clt b a w v env kt kf he hb ha h
end VC
end Prt22
section Prt23
/-! the store by its contents: reads and writes -/
noncomputable def v_ur (S : v_Sf) (a : Nat) (f : Nat → Int32) : v_Sf := fun a' => if a' = a then f else S a'
noncomputable def v_urr (R : v_Rf) (a y r : Nat) : v_Rf := fun a' j => if a' = a ∧ j = y then some r else R a' j
theorem v_ur_s (S : v_Sf) (a : Nat) (f : Nat → Int32) : v_ur S a f a = f := by simp [v_ur]
theorem v_ur_n (S : v_Sf) {a a' : Nat} (f : Nat → Int32) (h : a' ≠ a) : v_ur S a f a' = S a' := by simp [v_ur, h]
theorem v_mk_get (ty : Nat → Option v_Ct) (S : v_Sf) (R : v_Rf) (a : Nat) : (v_mk ty S R)[a]? = if a < v_N then some (v_cell S R a (ty a)) else none := by
  unfold v_mk
  rw [List.getElem?_map]
  by_cases h : a < v_N
  · rw [if_pos h, List.getElem?_range h]
    rfl
  · rw [if_neg h, List.getElem?_eq_none (by simpa using h)]
    rfl
theorem v_mk_at {X : v_X} (hX : v_XOk X) {a : Nat} {t : v_Ct} (h : X.2.2.1.1 a = some t) (S : v_Sf) (R : v_Rf) : (v_mk X.2.2.1.1 S R)[a]? = some (v_cell S R a (some t)) := by
  rw [v_mk_get, if_pos (hX.2.2 a t h), h]
theorem v_mk_set {X : v_X} {a : Nat} {S S1 : v_Sf} {R R1 : v_Rf} {c : g_Ce} (h1 : v_cell S1 R1 a (X.2.2.1.1 a) = c) (h2 : ∀ a', a' ≠ a → v_cell S1 R1 a' (X.2.2.1.1 a') = v_cell S R a' (X.2.2.1.1 a')) : (v_mk X.2.2.1.1 S R).set a c = v_mk X.2.2.1.1 S1 R1 := by
  apply List.ext_getElem?
  intro k
  rw [List.getElem?_set, v_mk_get, v_mk_get]
  by_cases hk : a = k
  · subst hk
    rw [if_pos rfl]
    by_cases hl : a < v_N
    · rw [if_pos (by simpa [v_mk] using hl), if_pos hl, h1]
    · rw [if_neg (by simpa [v_mk] using hl), if_neg hl]
  · rw [if_neg hk]
    by_cases hl : k < v_N
    · rw [if_pos hl, if_pos hl, h2 k (fun e => hk e.symm)]
    · rw [if_neg hl, if_neg hl]
theorem v_cell_n {S S1 : v_Sf} {R R1 : v_Rf} {a : Nat} {t : Option v_Ct} (h1 : S1 a = S a) (h2 : R1 a = R a) : v_cell S1 R1 a t = v_cell S R a t := by
  unfold v_cell
  split
  · rw [h1]
  · rw [h2]
  · congr 2
    congr 1
    funext j ft
    unfold v_fv
    split
    · rw [h1]
    · rfl
    · rw [h2]
  · rfl
theorem v_mk_row {X : v_X} {a tg n : Nat} {b : Int × Int} (h : X.2.2.1.1 a = some (.inl (tg, n, b))) (S : v_Sf) (R : v_Rf) (f : Nat → Int32) : (v_mk X.2.2.1.1 S R).set a (.inl (tg, n, .inl f)) = v_mk X.2.2.1.1 (v_ur S a f) R := by
  refine v_mk_set ?_ (fun a' ha => v_cell_n (v_ur_n S f ha) rfl)
  rw [h]
  simp only [v_cell, v_ur_s]
theorem v_mk_fld {X : v_X} {a ci y : Nat} {fs : List v_Ft} {b : Int × Int} (h : X.2.2.1.1 a = some (.inr (.inr (ci, fs)))) (hy : fs[y]? = some (.inl b)) (S : v_Sf) (R : v_Rf) (v : Int32) : (v_mk X.2.2.1.1 S R).set a (.inr (ci, (fs.mapIdx (fun j ft => v_fv S R a j ft)).set y (.int v))) = v_mk X.2.2.1.1 (v_ur S a (upd (S a) y v)) R := by
  refine v_mk_set ?_ (fun a' ha => v_cell_n (v_ur_n S _ ha) rfl)
  rw [h]
  simp only [v_cell]
  congr 2
  apply List.ext_getElem?
  intro k
  rw [List.getElem?_set, List.getElem?_mapIdx, List.getElem?_mapIdx]
  by_cases hk : y = k
  · subst hk
    rw [if_pos rfl, hy]
    have hl := (List.getElem?_eq_some_iff.mp hy).1
    rw [if_pos (by simpa using hl)]
    simp [v_fv, v_ur_s, upd]
  · rw [if_neg hk]
    cases hf : fs[k]? with
    | none => rfl
    | some ft =>
      simp only [Option.map_some]
      congr 1
      unfold v_fv
      split
      · rw [v_ur_s]
        simp [upd, Ne.symm hk]
      · rfl
      · rfl
theorem v_mk_ref {X : v_X} {a ci y : Nat} {fs : List v_Ft} {l : List Nat} (h : X.2.2.1.1 a = some (.inr (.inr (ci, fs)))) (hy : fs[y]? = some (.inr (.inr l))) (S : v_Sf) (R : v_Rf) (r : Nat) : (v_mk X.2.2.1.1 S R).set a (.inr (ci, (fs.mapIdx (fun j ft => v_fv S R a j ft)).set y (.ref r))) = v_mk X.2.2.1.1 S (v_urr R a y r) := by
  refine v_mk_set ?_ (fun a' ha => v_cell_n rfl (by funext j; simp [v_urr, ha]))
  rw [h]
  simp only [v_cell]
  congr 2
  apply List.ext_getElem?
  intro k
  rw [List.getElem?_set, List.getElem?_mapIdx, List.getElem?_mapIdx]
  by_cases hk : y = k
  · subst hk
    rw [if_pos rfl, hy]
    have hl := (List.getElem?_eq_some_iff.mp hy).1
    rw [if_pos (by simpa using hl)]
    simp [v_fv, v_urr, va_rf]
  · rw [if_neg hk]
    cases hf : fs[k]? with
    | none => rfl
    | some ft =>
      simp only [Option.map_some]
      congr 1
      unfold v_fv
      split
      · rfl
      · rfl
      · simp [v_urr, Ne.symm hk]
-- places that may be written
theorem v_md_mono : ∀ {m : List (Nat × Nat × Nat)} {a lo hi j : Nat}, v_md m a lo hi = true → lo ≤ j → j ≤ hi → v_md m a j j = true
  | [], _, _, _, _, h, _, _ => by cases h
  | q :: m, a, lo, hi, j, h, h1, h2 => by
    have h : (bif Nat.beq q.1 a && (Nat.ble q.2.1 lo && Nat.ble hi q.2.2) then true else v_md m a lo hi) = true := h
    show (bif Nat.beq q.1 a && (Nat.ble q.2.1 j && Nat.ble j q.2.2) then true else v_md m a j j) = true
    cases hb : (Nat.beq q.1 a && (Nat.ble q.2.1 lo && Nat.ble hi q.2.2)) with
    | true =>
      simp only [Bool.and_eq_true, Nat.ble_eq] at hb
      have e : (Nat.beq q.1 a && (Nat.ble q.2.1 j && Nat.ble j q.2.2)) = true := by
        simp only [Bool.and_eq_true, Nat.ble_eq]
        exact ⟨hb.1, by omega, by omega⟩
      rw [e]
      rfl
    | false =>
      rw [hb] at h
      have := v_md_mono (m := m) h h1 h2
      rw [this]
      cases (Nat.beq q.1 a && (Nat.ble q.2.1 j && Nat.ble j q.2.2)) <;> rfl
theorem v_hit_md : ∀ {m : List (Nat × Nat × Nat)} {a lo hi j : Nat}, v_hit m a lo hi = false → lo ≤ j → j ≤ hi → v_md m a j j = false
  | [], _, _, _, _, _, _, _ => rfl
  | q :: m, a, lo, hi, j, h, h1, h2 => by
    have h : (bif Nat.beq q.1 a && (Nat.ble q.2.1 hi && Nat.ble lo q.2.2) then true else v_hit m a lo hi) = false := h
    show (bif Nat.beq q.1 a && (Nat.ble q.2.1 j && Nat.ble j q.2.2) then true else v_md m a j j) = false
    cases hb : (Nat.beq q.1 a && (Nat.ble q.2.1 hi && Nat.ble lo q.2.2)) with
    | true => rw [hb] at h; cases h
    | false =>
      rw [hb] at h
      have e : (Nat.beq q.1 a && (Nat.ble q.2.1 j && Nat.ble j q.2.2)) = false := by
        cases hc : (Nat.beq q.1 a && (Nat.ble q.2.1 j && Nat.ble j q.2.2)) with
        | false => rfl
        | true =>
          simp only [Bool.and_eq_true, Nat.ble_eq] at hc
          have : (Nat.beq q.1 a && (Nat.ble q.2.1 hi && Nat.ble lo q.2.2)) = true := by
            simp only [Bool.and_eq_true, Nat.ble_eq]
            exact ⟨hc.1, by omega, by omega⟩
          rw [this] at hb
          cases hb
      rw [e]
      exact v_hit_md (m := m) h h1 h2
theorem v_of_ok : ∀ {ov : List (Nat × q_N × q_N)} {a : Nat} {i v : q_N}, v_of ov a i = some v → (a, i, v) ∈ ov
  | [], _, _, _, h => by cases h
  | q :: ov, a, i, v, h => by
    have h : (bif Nat.beq q.1 a && q_nb q.2.1 i then some q.2.2 else v_of ov a i) = some v := h
    cases hb : (Nat.beq q.1 a && q_nb q.2.1 i) with
    | true =>
      rw [hb] at h
      cases h
      rw [Bool.and_eq_true] at hb
      have e1 := q_beq hb.1
      have e2 := q_nb_ok hb.2
      subst e1 e2
      exact List.mem_cons_self
    | false =>
      rw [hb] at h
      exact List.mem_cons_of_mem _ (v_of_ok h)
theorem v_rof_ok : ∀ {ov : List (Nat × Nat × Nat)} {a j r : Nat}, v_rof ov a j = some r → (a, j, r) ∈ ov
  | [], _, _, _, h => by cases h
  | q :: ov, a, j, r, h => by
    have h : (bif Nat.beq q.1 a && Nat.beq q.2.1 j then some q.2.2 else v_rof ov a j) = some r := h
    cases hb : (Nat.beq q.1 a && Nat.beq q.2.1 j) with
    | true =>
      rw [hb] at h
      cases h
      rw [Bool.and_eq_true] at hb
      have e1 := q_beq hb.1
      have e2 := q_beq hb.2
      subst e1 e2
      exact List.mem_cons_self
    | false =>
      rw [hb] at h
      exact List.mem_cons_of_mem _ (v_rof_ok h)
theorem v_ow_in : ∀ {ov : List (Nat × q_N × q_N)} {a : Nat} {i : q_N} {q : Nat × q_N × q_N}, q ∈ (List.rec (motive := fun _ => List (Nat × q_N × q_N)) [] (fun h _ ih => bif Nat.beq h.1 a then (bif v_df h.2.1 i then h :: ih else ih) else h :: ih) ov : List (Nat × q_N × q_N)) → q ∈ ov ∧ (q.1 = a → v_df q.2.1 i = true)
  | [], _, _, _, h => by cases h
  | p :: ov, a, i, q, h => by
    have h : q ∈ (bif Nat.beq p.1 a then (bif v_df p.2.1 i then p :: (List.rec (motive := fun _ => List (Nat × q_N × q_N)) [] (fun h _ ih => bif Nat.beq h.1 a then (bif v_df h.2.1 i then h :: ih else ih) else h :: ih) ov) else (List.rec (motive := fun _ => List (Nat × q_N × q_N)) [] (fun h _ ih => bif Nat.beq h.1 a then (bif v_df h.2.1 i then h :: ih else ih) else h :: ih) ov)) else p :: (List.rec (motive := fun _ => List (Nat × q_N × q_N)) [] (fun h _ ih => bif Nat.beq h.1 a then (bif v_df h.2.1 i then h :: ih else ih) else h :: ih) ov)) := h
    have rec1 : q ∈ (List.rec (motive := fun _ => List (Nat × q_N × q_N)) [] (fun h _ ih => bif Nat.beq h.1 a then (bif v_df h.2.1 i then h :: ih else ih) else h :: ih) ov : List (Nat × q_N × q_N)) → q ∈ p :: ov ∧ (q.1 = a → v_df q.2.1 i = true) := fun h2 => ⟨List.mem_cons_of_mem _ (v_ow_in h2).1, (v_ow_in h2).2⟩
    cases hb : Nat.beq p.1 a with
    | true =>
      rw [hb] at h
      cases hc : v_df p.2.1 i with
      | true =>
        rw [hc] at h
        rcases List.mem_cons.mp h with h | h
        · subst h
          exact ⟨List.mem_cons_self, fun _ => hc⟩
        · exact rec1 h
      | false => rw [hc] at h; exact rec1 h
    | false =>
      rw [hb] at h
      rcases List.mem_cons.mp h with h | h
      · subst h
        exact ⟨List.mem_cons_self, fun e => by rw [e] at hb; simp at hb⟩
      · exact rec1 h
theorem v_row_in : ∀ {ov : List (Nat × Nat × Nat)} {a j : Nat} {q : Nat × Nat × Nat}, q ∈ (List.rec (motive := fun _ => List (Nat × Nat × Nat)) [] (fun h _ ih => bif Nat.beq h.1 a && Nat.beq h.2.1 j then ih else h :: ih) ov : List (Nat × Nat × Nat)) → q ∈ ov ∧ ¬ (q.1 = a ∧ q.2.1 = j)
  | [], _, _, _, h => by cases h
  | p :: ov, a, j, q, h => by
    have h : q ∈ (bif Nat.beq p.1 a && Nat.beq p.2.1 j then (List.rec (motive := fun _ => List (Nat × Nat × Nat)) [] (fun h _ ih => bif Nat.beq h.1 a && Nat.beq h.2.1 j then ih else h :: ih) ov) else p :: (List.rec (motive := fun _ => List (Nat × Nat × Nat)) [] (fun h _ ih => bif Nat.beq h.1 a && Nat.beq h.2.1 j then ih else h :: ih) ov)) := h
    cases hb : (Nat.beq p.1 a && Nat.beq p.2.1 j) with
    | true =>
      rw [hb] at h
      exact ⟨List.mem_cons_of_mem _ (v_row_in h).1, (v_row_in h).2⟩
    | false =>
      rw [hb] at h
      rcases List.mem_cons.mp h with h | h
      · subst h
        refine ⟨List.mem_cons_self, fun e => ?_⟩
        rw [e.1, e.2] at hb
        simp at hb
      · exact ⟨List.mem_cons_of_mem _ (v_row_in h).1, (v_row_in h).2⟩
theorem v_ok_in {env : q_S} {m : List (Nat × Nat × Nat)} : ∀ {ov : List (Nat × q_N × q_N)} {q : Nat × q_N × q_N}, q ∈ v_ok env m ov → q ∈ ov ∧ v_hit m q.1 (q_iv env q.2.1).1.toNat (q_iv env q.2.1).2.toNat = false
  | [], _, h => by cases h
  | p :: ov, q, h => by
    have h : q ∈ (bif v_hit m p.1 (q_iv env p.2.1).1.toNat (q_iv env p.2.1).2.toNat then v_ok env m ov else p :: v_ok env m ov) := h
    cases hb : v_hit m p.1 (q_iv env p.2.1).1.toNat (q_iv env p.2.1).2.toNat with
    | true =>
      rw [hb] at h
      exact ⟨List.mem_cons_of_mem _ (v_ok_in h).1, (v_ok_in h).2⟩
    | false =>
      rw [hb] at h
      rcases List.mem_cons.mp h with h | h
      · subst h
        exact ⟨List.mem_cons_self, hb⟩
      · exact ⟨List.mem_cons_of_mem _ (v_ok_in h).1, (v_ok_in h).2⟩
theorem v_rk_in {m : List (Nat × Nat × Nat)} : ∀ {ov : List (Nat × Nat × Nat)} {q : Nat × Nat × Nat}, q ∈ v_rk m ov → q ∈ ov ∧ v_hit m q.1 q.2.1 q.2.1 = false
  | [], _, h => by cases h
  | p :: ov, q, h => by
    have h : q ∈ (bif v_hit m p.1 p.2.1 p.2.1 then v_rk m ov else p :: v_rk m ov) := h
    cases hb : v_hit m p.1 p.2.1 p.2.1 with
    | true =>
      rw [hb] at h
      exact ⟨List.mem_cons_of_mem _ (v_rk_in h).1, (v_rk_in h).2⟩
    | false =>
      rw [hb] at h
      rcases List.mem_cons.mp h with h | h
      · subst h
        exact ⟨List.mem_cons_self, hb⟩
      · exact ⟨List.mem_cons_of_mem _ (v_rk_in h).1, (v_rk_in h).2⟩
/-- what is kept over writes at m -/
theorem v_keep {m : List (Nat × Nat × Nat)} {ρ : List Int} {env : q_S} (he : q_re ρ env) {ov : List (Nat × q_N × q_N)} {S S1 : v_Sf} (h1 : ∀ q ∈ ov, ∃ j : Nat, q_r ρ q.2.1 (j : Int) ∧ q_r ρ q.2.2 (S q.1 j).toInt) (h2 : ∀ a j, v_md m a j j = false → S1 a j = S a j) : ∀ q ∈ v_ok env m ov, ∃ j : Nat, q_r ρ q.2.1 (j : Int) ∧ q_r ρ q.2.2 (S1 q.1 j).toInt := by
  intro q hq
  obtain ⟨g1, g2⟩ := v_ok_in hq
  obtain ⟨j, g3, g4⟩ := h1 q g1
  have iv := q_iv_ok he g3
  refine ⟨j, g3, ?_⟩
  rw [h2 q.1 j (v_hit_md g2 (by omega) (by omega))]
  exact g4
theorem v_df_ok {ρ : List Int} {i1 i2 : q_N} {z : Int} (hd : v_df i1 i2 = true) (t1 : q_r ρ i1 z) (t2 : q_r ρ i2 z) : False := by
  unfold v_df at hd
  split at hd
  · rename_i x1 y1
    have t1 : z = x1 := t1
    have t2 : z = y1 := t2
    have : q_ieq x1 y1 = true := by rw [q_ieq_ok]; omega
    rw [this] at hd
    cases hd
  · cases hd
section VS
variable {X : v_X} {ρ : List Int} {A : v_A} {S : v_Sf} {R : v_Rf}
theorem v_rd_ok (r3 : v_ra X ρ A S R) {a j : Nat} {i : q_N} (hi : q_r ρ i (j : Int)) {lo hi' : Int} (b1 : lo ≤ (S a j).toInt) (b2 : (S a j).toInt ≤ hi') {k : q_N → v_A → Bool} (h : v_rd a i lo hi' A k = true) : ∃ ρ' v A', q_px ρ ρ' ∧ q_r ρ' v (S a j).toInt ∧ v_ra X ρ' A' S R ∧ k v A' = true := by
  unfold v_rd at h
  split at h
  · rename_i v hv
    obtain ⟨j', g1, g2⟩ := r3.2.1 _ (v_of_ok hv)
    have e : (j : Int) = (j' : Int) := q_r_inj hi g1
    have e : j = j' := by omega
    subst e
    exact ⟨ρ, v, A, q_px_rf ρ, g2, r3, h⟩
  · obtain ⟨n1, n2, n3⟩ := q_new_ok r3.1 (e := (lo, hi', 0, .inl 0, .inl 0)) b1 b2 (Or.inl rfl)
    have r4 := v_ra_env r3 n1 n2
    refine ⟨_, _, (q_app A.1 (lo, hi', 0, .inl 0, .inl 0), (a, i, .inr (q_len A.1)) :: A.2.1, A.2.2), n1, n3, ⟨n2, fun q hq => ?_, r4.2.2⟩, h⟩
    rcases List.mem_cons.mp hq with hq | hq
    · subst hq
      exact ⟨j, q_r_px n1 hi, n3⟩
    · exact r4.2.1 q hq
theorem v_rr_ok (r3 : v_ra X ρ A S R) {a j : Nat} {l : List Nat} (hm : ∃ r ∈ l, R a j = some r) {k : Nat → v_A → Bool} (h : v_rr a j l A k = true) : ∃ A' r, R a j = some r ∧ v_ra X ρ A' S R ∧ k r A' = true := by
  obtain ⟨r0, hm, hr0⟩ := hm
  unfold v_rr at h
  split at h
  · rename_i r hr
    have e : R a j = some r := r3.2.2.1 _ (v_rof_ok hr)
    exact ⟨A, r, e, r3, h⟩
  · have key : ∀ l : List Nat, r0 ∈ l → (List.rec (motive := fun _ => Bool) true (fun h _ ih => k h (A.1, A.2.1, (a, j, h) :: A.2.2) && ih) l : Bool) = true → k r0 (A.1, A.2.1, (a, j, r0) :: A.2.2) = true := by
      intro l
      induction l with
      | nil => intro h1; cases h1
      | cons c l ihl =>
        intro h1 h2
        have h2 : (k c (A.1, A.2.1, (a, j, c) :: A.2.2) && (List.rec (motive := fun _ => Bool) true (fun h _ ih => k h (A.1, A.2.1, (a, j, h) :: A.2.2) && ih) l : Bool)) = true := h2
        rw [Bool.and_eq_true] at h2
        rcases List.mem_cons.mp h1 with h1 | h1
        · rw [h1]; exact h2.1
        · exact ihl h1 h2.2
    refine ⟨(A.1, A.2.1, (a, j, r0) :: A.2.2), r0, hr0, ⟨r3.1, r3.2.1, fun q hq => ?_, r3.2.2.2⟩, key l hm h⟩
    rcases List.mem_cons.mp hq with hq | hq
    · subst hq; exact hr0
    · exact r3.2.2.1 q hq
theorem v_in_ok {p : Int × Int} {lo hi x : Int} (h : v_in p lo hi = true) (h1 : p.1 ≤ x ∧ x ≤ p.2) : lo ≤ x ∧ x ≤ hi := by
  unfold v_in at h
  rw [Bool.and_eq_true, q_ile_ok, q_ile_ok] at h
  omega
theorem v_wr_ok (hX : v_XOk X) (r3 : v_ra X ρ A S R) {a j : Nat} {i v : q_N} {w : Int32} (hi : q_r ρ i (j : Int)) (hv : q_r ρ v w.toInt) {lo hi' : Int} (hT : lo ≤ w.toInt → w.toInt ≤ hi' → v_Tb X.2.2.1.1 (v_ur S a (upd (S a) j w)) R) {k : v_A → Bool} (h : v_wr X.2.2.1 a i v lo hi' A k = true) : ∃ A', v_ra X ρ A' (v_ur S a (upd (S a) j w)) R ∧ k A' = true := by
  unfold v_wr at h
  obtain ⟨h1, h2⟩ := q_bifc h
  rw [Bool.and_eq_true, Bool.and_eq_true] at h1
  obtain ⟨c1, c2, c3⟩ := h1
  have iv := q_iv_ok r3.1 hi
  obtain ⟨b1, b2⟩ := v_in_ok c1 (q_iv_ok r3.1 hv)
  have m1 := v_md_mono c2 (j := j) (by omega) (by omega)
  have c4 : X.2.2.1.2.2.1 a (q_iv A.1 i).1.toNat (q_iv A.1 i).2.toNat = false := by
    cases hc : X.2.2.1.2.2.1 a (q_iv A.1 i).1.toNat (q_iv A.1 i).2.toNat with
    | false => rfl
    | true => rw [hc] at c3; cases c3
  have m2 := hX.2.1 a _ _ j c4 (by omega) (by omega)
  have hne : ∀ a' j', ¬ (a' = a ∧ j' = j) → v_ur S a (upd (S a) j w) a' j' = S a' j' := by
    intro a' j' hn
    by_cases ha : a' = a
    · subst ha
      rw [v_ur_s]
      have : j' ≠ j := fun e => hn ⟨rfl, e⟩
      simp [upd, this]
    · rw [v_ur_n _ _ ha]
  refine ⟨(A.1, v_ow A.2.1 a i v, A.2.2), ⟨r3.1, fun q hq => ?_, r3.2.2.1, hT b1 b2, ?_, ?_⟩, h2⟩
  · rcases List.mem_cons.mp hq with hq | hq
    · subst hq
      refine ⟨j, hi, ?_⟩
      show q_r ρ v (v_ur S a (upd (S a) j w) a j).toInt
      rw [v_ur_s]
      simpa [upd] using hv
    · obtain ⟨g1, g2⟩ := v_ow_in hq
      obtain ⟨j', g3, g4⟩ := r3.2.1 q g1
      refine ⟨j', g3, ?_⟩
      rw [hne q.1 j' ?_]
      · exact g4
      · rintro ⟨e1, e2⟩
        subst e2
        exact v_df_ok (g2 e1) g3 hi
  · refine hX.1 S _ (fun a' j' hf => hne a' j' ?_) r3.2.2.2.2.1
    rintro ⟨rfl, rfl⟩
    rw [m2] at hf
    cases hf
  · intro a' j' hm
    rw [hne a' j' ?_]
    · exact r3.2.2.2.2.2 a' j' hm
    · rintro ⟨rfl, rfl⟩
      rw [m1] at hm
      cases hm
end VS
end Prt23
section Prt24
theorem q_in32 {w : Int32} {n : Nat} (h1 : 0 ≤ w.toInt) (h2 : w.toInt < (n : Int)) : g_out w n = false ∧ w.toNatClampNeg = w.toInt.toNat := by
  refine ⟨?_, rfl⟩
  unfold g_out
  rw [decide_eq_false_iff_not]
  intro h
  rcases h with h | h
  · rw [q_lt32] at h
    have : (0 : Int32).toInt = 0 := rfl
    omega
  · have e : w.toNatClampNeg = w.toInt.toNat := rfl
    omega
section VG
variable {X : v_X} {ih : v_Ih} {O : List v_Oe} {d μ : Nat} {M : g_M} {pc : Nat} {ls : q_L} {st : List q_V} {A : v_A} {K : v_K} {ρ : List Int} {lc : g_Lc} {sc : List Value} {S : v_Sf} {R : v_Rf} {ins : Instr} {len x y : Nat} {z : Int}
theorem q_fits_ok {ty : FieldType} {A : v_A} {v : q_V} {w : Value} (he : q_re ρ A.1) (hv : q_rv ρ v w) (h : q_fits ty v A.1 q_iv = true) : narrow ty w = w ∧ fits ty w = true := by
  unfold q_fits at h
  split at h
  · obtain ⟨u, rfl, -⟩ := hv
    exact ⟨rfl, rfl⟩
  · rename_i a
    obtain ⟨u, rfl, hu⟩ := hv
    have hi := q_iv_ok he hu
    rw [Bool.and_eq_true, q_ile_ok, q_ile_ok] at h
    have : u.toInt = 0 ∨ u.toInt = 1 := by omega
    rcases this with e | e
    · have : u = 0 := q_inj (by rw [e]; rfl)
      subst this
      exact ⟨by rfl, by decide⟩
    · have : u = 1 := q_inj (by rw [e]; rfl)
      subst this
      exact ⟨by rfl, by decide⟩
  · rename_i o
    have hv : w = va_rf o := hv
    subst hv
    cases o <;> exact ⟨rfl, rfl⟩
  · rename_i o
    have hv : w = va_rf o := hv
    subst hv
    cases o <;> exact ⟨rfl, rfl⟩
  · cases h
theorem v_hp {st' : List q_V} {A' : v_A} {sc' : List Value} {S1 : v_Sf} {R1 : v_Rf} {ρ1 : List Int} (hS : v_Snd X ih) (hen : M.2.2.2.2.2 pc = some ((ins, len), x, y, z)) (r1 : v_rl ρ ls lc) (hp : q_px ρ ρ1) (h0 : g_stk ins z sc = none) (h1 : g_lcl M.2.2.2.1 ins lc sc = none) (h2 : g_jmp ins pc x sc = none) (hs : g_hp d X.1 X.2.1 ins x y sc (v_mk X.2.2.1.1 S R) = some (sc', v_mk X.2.2.1.1 S1 R1)) (r2 : q_al2 (q_rv ρ1) st' sc') (r3 : v_ra X ρ1 A' S1 R1) (hk : ih O d μ M (pc + len) ls st' A' K = true) : v_Out X O d M pc lc sc S R ρ K :=
  v_go hS hen (g_st_hp (en := ((ins, len), x, y, z)) h0 h1 h2 hs) hp (v_rl_px hp r1) r2 r3 hk
theorem v_fs_at {fs : List v_Ft} {a y : Nat} {ft : v_Ft} (h : fs[y]? = some ft) : (fs.mapIdx (fun j ft => v_fv S R a j ft))[y]? = some (v_fv S R a y ft) := by
  rw [List.getElem?_mapIdx, h]
  rfl
theorem v_gf_ok (hX : v_XOk X) {i : Nat} (hS : v_Snd X ih) (hen : M.2.2.2.2.2 pc = some ((.getfield i, len), x, y, z)) (r1 : v_rl ρ ls lc) (r2 : q_al2 (q_rv ρ) st sc) (r3 : v_ra X ρ A S R) (h : v_gf X.2.2.1 x y st A (fun st A => ih O d μ M (pc + len) ls st A K) = true) : v_Out X O d M pc lc sc S R ρ K := by
  unfold v_gf at h
  split at h
  · rename_i a r
    obtain ⟨t, rfl, r4⟩ := q_cons_r r2
    split at h
    · rename_i ci fs hg
      have g1 := v_mk_at hX hg S R
      replace h := q_bifc h
      obtain ⟨hx, h⟩ := h
      have e : ci = x := q_beq hx
      subst e
      have hT := r3.2.2.2.1 a _ hg
      have step : ∀ ft, fs[y]? = some ft → g_hp d X.1 X.2.1 (.getfield i) ci y (va_rf (some (a + 1)) :: t) (v_mk X.2.2.1.1 S R) = some (v_fv S R a y ft :: t, v_mk X.2.2.1.1 S R) := by
        intro ft hf
        have g2 := v_fs_at (S := S) (R := R) (a := a) hf
        simp only [g_hp, va_rf, g_gf, g1, v_cell, beq_self_eq_true, cond_true, g2]
      rw [q_nth_eq] at h
      split at h
      · rename_i b hf
        have hb : v_TbF S R a y (.inl b) := hT y _ hf
        obtain ⟨ρ1, v, A1, p1, p2, p3, p4⟩ := v_rd_ok r3 (a := a) (j := y) (i := .inl (Int.ofNat y)) rfl hb.1 hb.2 h
        exact v_hp hS hen r1 p1 rfl rfl rfl (step _ hf) (st' := .inl v :: r) ⟨⟨_, rfl, p2⟩, q_st_px p1 r4⟩ p3 p4
      · rename_i c hf
        exact v_hp hS hen r1 (q_px_rf ρ) rfl rfl rfl (step _ hf) (st' := .inr (.inr (some c)) :: r) ⟨rfl, r4⟩ r3 h
      · rename_i l hf
        have hb : v_TbF S R a y (.inr (.inr l)) := hT y _ hf
        obtain ⟨A1, rr, hrr, p3, p4⟩ := v_rr_ok r3 (a := a) (j := y) hb h
        have hs := step _ hf
        have e9 : v_fv S R a y (.inr (.inr l)) = va_rf (some rr) := by
          show va_rf (R a y) = _
          rw [hrr]
        rw [e9] at hs
        exact v_hp hS hen r1 (q_px_rf ρ) rfl rfl rfl hs (st' := .inr (.inr (some rr)) :: r) ⟨rfl, r4⟩ p3 p4
      · cases h
    · cases h
  · cases h
theorem v_Tb_row (hT : v_Tb X.2.2.1.1 S R) {a tg n : Nat} {lo hi : Int} (hg : X.2.2.1.1 a = some (.inl (tg, n, lo, hi))) {f : Nat → Int32} (hf : ∀ j, j < n → lo ≤ (f j).toInt ∧ (f j).toInt ≤ hi) : v_Tb X.2.2.1.1 (v_ur S a f) R := by
  intro a' t ht
  by_cases ha : a' = a
  · subst ha
    rw [hg] at ht
    cases ht
    show ∀ j, j < n → lo ≤ (v_ur S a' f a' j).toInt ∧ (v_ur S a' f a' j).toInt ≤ hi
    rw [v_ur_s]
    exact hf
  · have h1 := hT a' t ht
    unfold v_TbC at h1 ⊢
    unfold v_TbF at h1 ⊢
    rw [v_ur_n S f ha]
    exact h1
theorem v_Tb_fld (hT : v_Tb X.2.2.1.1 S R) {a ci y : Nat} {fs : List v_Ft} {b : Int × Int} (hg : X.2.2.1.1 a = some (.inr (.inr (ci, fs)))) (hy : fs[y]? = some (.inl b)) {w : Int32} (h1 : b.1 ≤ w.toInt) (h2 : w.toInt ≤ b.2) : v_Tb X.2.2.1.1 (v_ur S a (upd (S a) y w)) R := by
  intro a' t ht
  have h3 := hT a' t ht
  by_cases ha : a' = a
  · subst ha
    rw [hg] at ht
    cases ht
    intro j ft hj
    have h4 : v_TbF S R a' j ft := h3 j ft hj
    unfold v_TbF at h4 ⊢
    rw [v_ur_s]
    by_cases hjy : j = y
    · subst hjy
      have : ft = .inl b := Option.some.inj (hj.symm.trans hy)
      subst this
      simpa [upd] using And.intro h1 h2
    · simpa [upd, hjy] using h4
  · unfold v_TbC at h3 ⊢
    unfold v_TbF at h3 ⊢
    rw [v_ur_n S _ ha]
    exact h3
theorem v_mem_ok : ∀ {l : List Nat} {c : Nat}, v_mem l c = true → c ∈ l
  | [], _, h => by cases h
  | q :: l, c, h => by
    have h : (bif Nat.beq q c then true else v_mem l c) = true := h
    cases hb : Nat.beq q c with
    | true => rw [q_beq hb]; exact List.mem_cons_self
    | false => rw [hb] at h; exact List.mem_cons_of_mem _ (v_mem_ok h)
theorem v_pf_ok (hX : v_XOk X) {i : Nat} (hS : v_Snd X ih) (hen : M.2.2.2.2.2 pc = some ((.putfield i, len), x, y, z)) (r1 : v_rl ρ ls lc) (r2 : q_al2 (q_rv ρ) st sc) (r3 : v_ra X ρ A S R) (h : v_pf X.2.2.1 x y st A (fun st A => ih O d μ M (pc + len) ls st A K) = true) : v_Out X O d M pc lc sc S R ρ K := by
  unfold v_pf at h
  split at h
  · rename_i v a r
    obtain ⟨w, t, rfl, hv, r4⟩ := q_cons r2
    obtain ⟨t, rfl, r5⟩ := q_cons_r r4
    split at h
    · rename_i ci fs hg
      have g1 := v_mk_at hX hg S R
      replace h := q_bifc h
      obtain ⟨hx, h⟩ := h
      rw [Bool.and_eq_true] at hx
      have e : ci = x := q_beq hx.1
      subst e
      obtain ⟨f1, f2⟩ := q_fits_ok r3.1 hv hx.2
      rw [q_nth_eq] at h
      have step : ∀ ft, fs[y]? = some ft → g_hp d X.1 X.2.1 (.putfield i) ci y (w :: va_rf (some (a + 1)) :: t) (v_mk X.2.2.1.1 S R) = some (t, (v_mk X.2.2.1.1 S R).set a (.inr (ci, (fs.mapIdx (fun j ft => v_fv S R a j ft)).set y w))) := by
        intro ft hf
        have hl : y < (fs.mapIdx (fun j ft => v_fv S R a j ft)).length := by simpa using (List.getElem?_eq_some_iff.mp hf).1
        simp only [g_hp, va_rf, g_pf, g1, v_cell]
        rw [if_pos ⟨trivial, hl, f1, f2⟩]
      split at h
      · rename_i b n hf
        obtain ⟨u, rfl, hu⟩ := hv
        obtain ⟨A1, p3, p4⟩ := v_wr_ok hX r3 (a := a) (j := y) (i := .inl (Int.ofNat y)) rfl hu (fun c1 c2 => v_Tb_fld r3.2.2.2.1 hg hf c1 c2) h
        have hs := step _ hf
        rw [v_mk_fld hg hf] at hs
        exact v_hp hS hen r1 (q_px_rf ρ) rfl rfl rfl hs r5 p3 p4
      · rename_i l c hf
        obtain ⟨c1, c2⟩ := q_bifc h
        rw [Bool.and_eq_true] at c1
        have hs := step _ hf
        have hw : w = .ref c := hv
        subst hw
        rw [v_mk_ref hg hf] at hs
        have hne : ∀ a' j', ¬ (a' = a ∧ j' = y) → v_urr R a y c a' j' = R a' j' := fun a' j' hn => by simp [v_urr, hn]
        refine v_hp hS hen r1 (q_px_rf ρ) rfl rfl rfl hs r5 (A' := (A.1, A.2.1, v_row A.2.2 a y c)) ⟨r3.1, r3.2.1, fun q hq => ?_, ?_, r3.2.2.2.2.1, fun a' j' hm => ?_⟩ c2
        · rcases List.mem_cons.mp hq with hq | hq
          · subst hq
            simp [v_urr]
          · obtain ⟨g2, g3⟩ := v_row_in hq
            rw [hne _ _ g3]
            exact r3.2.2.1 q g2
        · intro a' t' ht
          have h3 := r3.2.2.2.1 a' t' ht
          unfold v_TbC at h3 ⊢
          split
          · exact h3
          · rename_i l2
            intro j r2 hj2
            have h5 := h3 j r2 hj2
            rw [hne]
            · exact h5
            · rintro ⟨rfl, rfl⟩
              rw [hg] at ht
              cases ht
          · intro j ft hj
            have h4 : v_TbF S R a' j ft := h3 j ft hj
            unfold v_TbF at h4 ⊢
            split
            · exact h4
            · trivial
            · rename_i l'
              by_cases hh : a' = a ∧ j = y
              · obtain ⟨rfl, rfl⟩ := hh
                rw [hg] at ht
                cases ht
                have : (Sum.inr (Sum.inr l') : v_Ft) = .inr (.inr l) := Option.some.inj (hj.symm.trans hf)
                cases this
                have e9 : v_urr R a' j c a' j = some c := by simp [v_urr]
                exact ⟨c, v_mem_ok c1.1, e9⟩
              · rw [hne _ _ hh]
                exact h4
        · have hh : ¬ (a' = a ∧ j' = y) := by
            rintro ⟨rfl, rfl⟩
            rw [c1.2] at hm
            cases hm
          rw [hne _ _ hh]
          exact r3.2.2.2.2.2 a' j' hm
      · cases h
    · cases h
  · cases h
theorem v_al_ok (hX : v_XOk X) (hS : v_Snd X ih) (hen : M.2.2.2.2.2 pc = some ((.arraylength, len), x, y, z)) (r1 : v_rl ρ ls lc) (r2 : q_al2 (q_rv ρ) st sc) (r3 : v_ra X ρ A S R) (h : v_al X.2.2.1 st A (fun st A => ih O d μ M (pc + len) ls st A K) = true) : v_Out X O d M pc lc sc S R ρ K := by
  unfold v_al at h
  split at h
  · rename_i a r
    obtain ⟨t, rfl, r4⟩ := q_cons_r r2
    have hn : ∀ n : Nat, n < 100001 → (Int32.ofNat n).toInt = (n : Int) := fun n hn => by
      show (Int32.ofInt (n : Int)).toInt = _
      exact q_ofr (by omega) (by omega)
    split at h
    · rename_i tg n b hg
      have g1 := v_mk_at hX hg S R
      replace h := q_bifc h
      obtain ⟨hx, h⟩ := h
      rw [Bool.and_eq_true] at hx
      have ht := q_blt hx.1
      refine v_hp hS hen r1 (q_px_rf ρ) rfl rfl rfl (sc' := .int (Int32.ofNat n) :: t) (S1 := S) (R1 := R) ?_ (st' := .inl (.inl (n : Int)) :: r) ⟨⟨_, rfl, hn n (q_blt hx.2)⟩, r4⟩ r3 h
      simp only [g_hp, va_rf, g_al, g1, v_cell]
      rw [if_pos ht]
    · rename_i l hg
      have g1 := v_mk_at hX hg S R
      replace h := q_bifc h
      obtain ⟨hx, h⟩ := h
      rw [q_len_eq] at hx h
      refine v_hp hS hen r1 (q_px_rf ρ) rfl rfl rfl (sc' := .int (Int32.ofNat l.length) :: t) (S1 := S) (R1 := R) ?_ (st' := .inl (.inl (l.length : Int)) :: r) ⟨⟨_, rfl, hn _ (q_blt hx)⟩, r4⟩ r3 h
      simp only [g_hp, va_rf, g_al, g1, v_cell]
      rw [if_pos (by decide)]
    · cases h
  · cases h
theorem v_ia_ok (hX : v_XOk X) {b : Bool} (hS : v_Snd X ih) (hen : M.2.2.2.2.2 pc = some ((ins, len), x, y, z)) (r1 : v_rl ρ ls lc) (r2 : q_al2 (q_rv ρ) st sc) (r3 : v_ra X ρ A S R) (h0 : ins = (bif b then Instr.baload else Instr.iaload)) (h : v_ia X.2.2.1 b st A (fun st A => ih O d μ M (pc + len) ls st A K) = true) : v_Out X O d M pc lc sc S R ρ K := by
  unfold v_ia at h
  split at h
  · rename_i i a r
    obtain ⟨iw, t, rfl, hi, r4⟩ := q_cons_i r2
    obtain ⟨t, rfl, r5⟩ := q_cons_r r4
    split at h
    · rename_i tg n lo hi' hg
      have g1 := v_mk_at hX hg S R
      replace h := q_bifc h
      obtain ⟨hx, h⟩ := h
      rw [Bool.and_eq_true, Bool.and_eq_true, q_ile_ok, q_ilt_ok] at hx
      obtain ⟨x1, x2, x3⟩ := hx
      have iv := q_iv_ok r3.1 hi
      obtain ⟨o1, o2⟩ := q_in32 (w := iw) (n := n) (by omega) (by omega)
      have hT : v_TbC S R a _ := r3.2.2.2.1 a _ hg
      have hb := hT iw.toInt.toNat (by omega)
      have hi2 : q_r ρ i ((iw.toInt.toNat : Nat) : Int) := by
        rw [show ((iw.toInt.toNat : Nat) : Int) = iw.toInt by omega]
        exact hi
      obtain ⟨ρ1, v, A1, p1, p2, p3, p4⟩ := v_rd_ok r3 hi2 hb.1 hb.2 h
      refine v_hp hS hen r1 p1 ?_ ?_ ?_ (sc' := .int (S a iw.toNatClampNeg) :: t) (S1 := S) (R1 := R) ?_ (st' := .inl v :: r) ⟨⟨_, rfl, by rw [o2]; exact p2⟩, q_st_px p1 r5⟩ p3 p4
      · subst h0; cases b <;> rfl
      · subst h0; cases b <;> rfl
      · subst h0; cases b <;> rfl
      · subst h0
        cases b with
        | false =>
          have e := q_beq x1
          subst e
          simp only [cond_false, g_hp, va_rf, g_ia, g1, v_cell, o1]
        | true =>
          have x1 : (Nat.beq tg 1 || Nat.beq tg 2) = true := x1
          rw [Bool.or_eq_true] at x1
          rcases x1 with x1 | x1
          · have e := q_beq x1
            subst e
            simp only [cond_true, g_hp, va_rf, g_ba, g1, v_cell, o1, cond_false]
          · have e := q_beq x1
            subst e
            simp only [cond_true, g_hp, va_rf, g_ba, g1, v_cell, o1, cond_false]
    · cases h
  · cases h
theorem v_is_ok (hX : v_XOk X) {b : Bool} (hS : v_Snd X ih) (hen : M.2.2.2.2.2 pc = some ((ins, len), x, y, z)) (r1 : v_rl ρ ls lc) (r2 : q_al2 (q_rv ρ) st sc) (r3 : v_ra X ρ A S R) (h0 : ins = (bif b then Instr.bastore else Instr.iastore)) (h : v_is X.2.2.1 b st A (fun st A => ih O d μ M (pc + len) ls st A K) = true) : v_Out X O d M pc lc sc S R ρ K := by
  unfold v_is at h
  split at h
  · rename_i v i a r
    obtain ⟨w, t, rfl, hv, r4⟩ := q_cons_i r2
    obtain ⟨iw, t, rfl, hi, r5⟩ := q_cons_i r4
    obtain ⟨t, rfl, r6⟩ := q_cons_r r5
    split at h
    · rename_i tg n lo hi' hg
      have g1 := v_mk_at hX hg S R
      replace h := q_bifc h
      obtain ⟨hx, h⟩ := h
      rw [Bool.and_eq_true, Bool.and_eq_true, q_ile_ok, q_ilt_ok] at hx
      obtain ⟨x1, x2, x3⟩ := hx
      have iv := q_iv_ok r3.1 hi
      have hvi := q_iv_ok r3.1 hv
      obtain ⟨o1, o2⟩ := q_in32 (w := iw) (n := n) (by omega) (by omega)
      have hT : v_TbC S R a _ := r3.2.2.2.1 a _ hg
      have hi2 : q_r ρ i ((iw.toInt.toNat : Nat) : Int) := by
        rw [show ((iw.toInt.toNat : Nat) : Int) = iw.toInt by omega]
        exact hi
      obtain ⟨A1, p3, p4⟩ := v_wr_ok hX r3 (a := a) hi2 hv (fun c1 c2 => v_Tb_row r3.2.2.2.1 hg (fun j hjn => by
        by_cases hj : j = iw.toInt.toNat
        · have e : upd (S a) iw.toInt.toNat w j = w := by rw [upd, if_pos hj]
          rw [e]; exact And.intro c1 c2
        · have e : upd (S a) iw.toInt.toNat w j = S a j := by rw [upd, if_neg hj]
          rw [e]; exact hT j hjn)) h
      refine v_hp hS hen r1 (q_px_rf ρ) ?_ ?_ ?_ (sc' := t) (S1 := v_ur S a (upd (S a) iw.toInt.toNat w)) (R1 := R) ?_ r6 p3 p4
      · subst h0; cases b <;> rfl
      · subst h0; cases b <;> rfl
      · subst h0; cases b <;> rfl
      · subst h0
        cases b with
        | false =>
          have e := q_beq x1
          subst e
          simp only [cond_false, g_hp, va_rf, g_is, g1, v_cell, o1, o2]
          rw [v_mk_row hg]
        | true =>
          have x1 : ((Nat.beq tg 1 && v_in (q_iv A.1 v) (-128) 127) || (Nat.beq tg 2 && v_in (q_iv A.1 v) 0 1)) = true := x1
          rw [Bool.or_eq_true, Bool.and_eq_true, Bool.and_eq_true] at x1
          rcases x1 with x1 | x1
          · have e := q_beq x1.1
            subst e
            have hb := v_in_ok x1.2 hvi
            have hn : vp_nar .byte w = w := by
              rw [vp_nar_byte]
              apply q_inj
              rw [Int8.toInt_toInt32, Int32.toInt_toInt8]
              exact Int.bmod_eq_of_le (by omega) (by omega)
            simp only [cond_true, g_hp, va_rf, g_bs, g1, v_cell, o1, o2, cond_false, hn]
            rw [v_mk_row hg]
          · have e := q_beq x1.1
            subst e
            have hb := v_in_ok x1.2 hvi
            have hn : vp_nar .boolean w = w := by
              have : w.toInt = 0 ∨ w.toInt = 1 := by omega
              rcases this with e | e
              · have : w = 0 := q_inj (by rw [e]; rfl)
                subst this
                rfl
              · have : w = 1 := q_inj (by rw [e]; rfl)
                subst this
                rfl
            simp only [cond_true, g_hp, va_rf, g_bs, g1, v_cell, o1, o2, cond_false, hn]
            rw [v_mk_row hg]
    · cases h
  · cases h
theorem v_aa_ok (hX : v_XOk X) (hS : v_Snd X ih) (hen : M.2.2.2.2.2 pc = some ((.aaload, len), x, y, z)) (r1 : v_rl ρ ls lc) (r2 : q_al2 (q_rv ρ) st sc) (r3 : v_ra X ρ A S R) (h : v_aa X.2.2.1 st A (fun st A => ih O d μ M (pc + len) ls st A K) = true) : v_Out X O d M pc lc sc S R ρ K := by
  unfold v_aa at h
  split at h
  · rename_i i a r
    obtain ⟨iw, t, rfl, hi, r4⟩ := q_cons_i r2
    obtain ⟨t, rfl, r5⟩ := q_cons_r r4
    split at h
    · rename_i l hg
      have g1 := v_mk_at hX hg S R
      replace h := q_bifc h
      obtain ⟨hx, h⟩ := h
      rw [Bool.and_eq_true, q_ile_ok, q_ilt_ok, q_len_eq] at hx
      have iv := q_iv_ok r3.1 hi
      obtain ⟨o1, o2⟩ := q_in32 (w := iw) (n := l.length) (by omega) (by omega)
      obtain ⟨e, he, h2⟩ := v_need_ok r3.1 hi h
      rw [q_nth_eq] at h2
      split at h2
      · rename_i rr hr
        refine v_hp hS hen r1 (q_px_rf ρ) rfl rfl rfl (sc' := va_rf (some rr) :: t) (S1 := S) (R1 := R) ?_ (st' := .inr (.inr (some rr)) :: r) (And.intro rfl r5) (v_ra_env r3 (q_px_rf ρ) he) h2
        have hRR : R a iw.toInt.toNat = some rr := (show v_TbC S R a _ from r3.2.2.2.1 a _ hg) _ _ hr
        simp only [g_hp, va_rf, g_aa, g1, v_cell, o1, cond_false, o2, hRR]
      · cases h2
    · cases h
  · cases h
theorem v_cp_ok (hX : v_XOk X) {i : Nat} (hS : v_Snd X ih) (hen : M.2.2.2.2.2 pc = some ((.invokestatic i, len), x, y, z)) (r1 : v_rl ρ ls lc) (r2 : q_al2 (q_rv ρ) st sc) (r3 : v_ra X ρ A S R) (hx : x = 99998) (h : v_cp X.2.2.1 d st A (fun st A => ih O d μ M (pc + len) ls st A K) = true) : v_Out X O d M pc lc sc S R ρ K := by
  unfold v_cp at h
  split at h
  · rename_i n a a0 r
    obtain ⟨nw, t, rfl, hn, r4⟩ := q_cons_i r2
    obtain ⟨dw, t, rfl, hdp, r5⟩ := q_cons_i r4
    obtain ⟨t, rfl, r6⟩ := q_cons_r r5
    obtain ⟨sw, t, rfl, hs, r7⟩ := q_cons_i r6
    obtain ⟨t, rfl, r8⟩ := q_cons_r r7
    have hdp : dw = 0 := q_inj hdp
    have hs : sw = 0 := q_inj hs
    subst hdp hs
    split at h
    · rename_i n0 lo0 hi0 n1 lo1 hi1 hg0 hg1
      have g0 := v_mk_at hX hg0 S R
      have g1 := v_mk_at hX hg1 S R
      replace h := q_bifc h
      obtain ⟨hc, h⟩ := h
      simp only [Bool.and_eq_true, q_ile_ok, Nat.ble_eq] at hc
      obtain ⟨⟨⟨c1, c2⟩, c3, c4, c5⟩, ⟨c6, c7⟩, c8, c9⟩ := hc
      have iv := q_iv_ok r3.1 hn
      have q6 : g_cat t ≤ 8 := by rw [q_lsl_ok r8]; exact c8
      have c7 : X.2.2.1.2.2.1 a 0 n1 = false := by
        cases hc : X.2.2.1.2.2.1 a 0 n1 with
        | false => rfl
        | true => rw [hc] at c7; cases c7
      have z0 : (0 : Int32).toNatClampNeg = 0 := rfl
      have z1 : ¬ (0 : Int32) < 0 := by decide
      have zn : ¬ nw < 0 := fun hh => by rw [q_lt32] at hh; have : (0 : Int32).toInt = 0 := rfl; omega
      have ez : nw.toNatClampNeg = nw.toInt.toNat := rfl
      have hne : ∀ a' j', ¬ (a' = a ∧ j' ≤ n1) → v_ur S a (va_cpy (S a0) (S a) 0 0 nw.toInt.toNat) a' j' = S a' j' := by
        intro a' j' hn
        by_cases ha : a' = a
        · subst ha
          rw [v_ur_s]
          have : ¬ j' ≤ n1 := fun e => hn ⟨rfl, e⟩
          simp only [va_cpy]
          rw [if_neg (by omega)]
        · rw [v_ur_n _ _ ha]
      have hT0 : v_TbC S R a0 _ := r3.2.2.2.1 a0 _ hg0
      have hT1 : v_TbC S R a _ := r3.2.2.2.1 a _ hg1
      refine v_hp hS hen r1 (q_px_rf ρ) rfl rfl rfl (sc' := t) (S1 := v_ur S a (va_cpy (S a0) (S a) 0 0 nw.toInt.toNat)) (R1 := R) ?_ r8 (A' := (A.1, v_ok A.1 [(a, 0, n1)] A.2.1, A.2.2)) ⟨r3.1, v_keep r3.1 r3.2.1 (fun a' j' hm => hne a' j' ?_), r3.2.2.1, v_Tb_row r3.2.2.2.1 hg1 (fun j hjn => ?_), hX.1 S _ (fun a' j' hf => hne a' j' ?_) r3.2.2.2.2.1, fun a' j' hm => ?_⟩ h
      · subst hx
        simp only [g_hp, g_nv, beq_self_eq_true, cond_true, va_rf, g_cp, g0, g1, v_cell, z0, ez]
        rw [if_pos ⟨z1, z1, zn, by omega, by omega, q6, q_blt c9⟩, v_mk_row hg1]
      · rintro ⟨rfl, hj⟩
        have : v_md [(a', 0, n1)] a' j' j' = true := by
          show (bif Nat.beq a' a' && (Nat.ble 0 j' && Nat.ble j' n1) then true else false) = true
          have e : (Nat.beq a' a' && (Nat.ble 0 j' && Nat.ble j' n1)) = true := by simp [hj]
          rw [e]
          rfl
        rw [this] at hm
        cases hm
      · simp only [va_cpy]
        split
        · have := hT0 (0 + (j - 0)) (by omega)
          omega
        · exact hT1 j hjn
      · rintro ⟨rfl, hj⟩
        rw [hX.2.1 a' 0 n1 j' c7 (by omega) hj] at hf
        cases hf
      · rw [hne a' j' ?_]
        · exact r3.2.2.2.2.2 a' j' hm
        · rintro ⟨rfl, hj⟩
          rw [v_md_mono c6 (j := j') (by omega) hj] at hm
          cases hm
    · cases h
  · cases h
theorem v_m2_ok {i op k : Nat} {f : Int32 → Int32 → Int32} (hop : op ≠ 0) (hF : ∀ a b, q_F op a b = f a b) (hnv : ∀ st σ, g_nv d k st σ = g_m2 d f st σ) (hS : v_Snd X ih) (hen : M.2.2.2.2.2 pc = some ((.invokestatic i, len), x, y, z)) (r1 : v_rl ρ ls lc) (r2 : q_al2 (q_rv ρ) st sc) (r3 : v_ra X ρ A S R) (hx : x = k) (h : v_m2 d op st A (fun st A => ih O d μ M (pc + len) ls st A K) = true) : v_Out X O d M pc lc sc S R ρ K := by
  unfold v_m2 at h
  split at h
  · rename_i b a r
    obtain ⟨yv, t, rfl, hb, r4⟩ := q_cons_i r2
    obtain ⟨xv, t, rfl, ha, r5⟩ := q_cons_i r4
    replace h := q_bifc h
    obtain ⟨hc, h⟩ := h
    rw [Bool.and_eq_true, Nat.ble_eq] at hc
    have q6 : g_cat t ≤ 8 := by rw [q_lsl_ok r5]; exact hc.1
    obtain ⟨ρ1, e1, v, p1, p2, p3, p4⟩ := v_bin_ok r3.1 hop ha hb h
    refine v_hp hS hen r1 p1 rfl rfl rfl (sc' := .int (f xv yv) :: t) (S1 := S) (R1 := R) ?_ (st' := .inl v :: r) ⟨⟨_, rfl, by rw [← hF]; exact p3⟩, q_st_px p1 r5⟩ (v_ra_env r3 p1 p2) p4
    subst hx
    simp only [g_hp, hnv, g_m2]
    rw [if_pos ⟨q6, q_blt hc.2⟩]
  · cases h
theorem v_m1_ok {i k : Nat} {f : Int32 → Int32} (hnv : ∀ st σ, g_nv d k st σ = g_m1 d f st σ) (hS : v_Snd X ih) (hen : M.2.2.2.2.2 pc = some ((.invokestatic i, len), x, y, z)) (r1 : v_rl ρ ls lc) (r2 : q_al2 (q_rv ρ) st sc) (r3 : v_ra X ρ A S R) (hx : x = k) (h : v_m1 d st A (fun st A => ih O d μ M (pc + len) ls st A K) = true) : v_Out X O d M pc lc sc S R ρ K := by
  unfold v_m1 at h
  split at h
  · rename_i a r
    obtain ⟨xv, t, rfl, ha, r5⟩ := q_cons_i r2
    replace h := q_bifc h
    obtain ⟨hc, h⟩ := h
    rw [Bool.and_eq_true, Nat.ble_eq] at hc
    have q6 : g_cat t ≤ 8 := by rw [q_lsl_ok r5]; exact hc.1
    obtain ⟨n1, n2, n3⟩ := q_new_ok r3.1 (e := (-2147483648, 2147483647, 0, .inl 0, .inl 0)) (q_rng (f xv)).1 (q_rng (f xv)).2 (Or.inl rfl)
    refine v_hp hS hen r1 n1 rfl rfl rfl (sc' := .int (f xv) :: t) (S1 := S) (R1 := R) ?_ (st' := .inl _ :: r) ⟨⟨_, rfl, n3⟩, q_st_px n1 r5⟩ (v_ra_env r3 n1 n2) h
    subst hx
    simp only [g_hp, hnv, g_m1]
    rw [if_pos ⟨q6, q_blt hc.2⟩]
  · cases h
end VG
end Prt24
section Prt25
theorem q_tk_ok {ρ : List Int} {k : List q_V → List q_V → Bool} : ∀ (m : Nat) (acc r : List q_V) (accc rc : List Value), q_al2 (q_rv ρ) acc accc → q_al2 (q_rv ρ) r rc → Nat.rec (motive := fun _ => List q_V → List q_V → Bool) (fun acc r => k acc r) (fun _ ih acc r => match r with
  | [] => false
  | h :: t => ih (h :: acc) t) m acc r = true → ∃ as r', m ≤ rc.length ∧ q_al2 (q_rv ρ) as ((rc.take m).reverse ++ accc) ∧ q_al2 (q_rv ρ) r' (rc.drop m) ∧ k as r' = true
  | 0, acc, r, accc, rc, h1, h2, h => ⟨acc, r, Nat.zero_le _, by simpa using h1, by simpa using h2, h⟩
  | m + 1, acc, r, accc, rc, h1, h2, h => by
    cases r with
    | nil => cases h
    | cons v r =>
      cases rc with
      | nil => exact h2.elim
      | cons w rc =>
        obtain ⟨as, r', g1, g2, g3, g4⟩ := q_tk_ok m (v :: acc) r (w :: accc) rc ⟨h2.1, h1⟩ h2.2 h
        refine ⟨as, r', by simp; omega, ?_, by simpa using g3, g4⟩
        simpa using g2
theorem g_run_call {L : Nat} {xs : Nat → Int32} {n d' : Nat} {M M' : g_M} {pc : Nat} {lc : g_Lc} {sc : List Value} {σ : List g_Ce} {ins : Instr} {len x y k : Nat} {z : Int} {q : List Value × List Value} {w : Option Value × List g_Ce} (hen : M.2.2.2.2.2 pc = some ((ins, len), x, y, z)) (h0 : g_step (d' + 1) M.2.2.2.1 L xs ((ins, len), x, y, z) pc lc sc σ = none) (h1 : g_rt ins M.2.2.2.2.1 sc = none) (h2 : g_ki ins = some k) (h3 : (x == 99999) = false) (h4 : g_mt x = some M') (h5 : g_cl k y M'.1 sc σ = some q) (h6 : g_cat q.2 ≤ 8) (h7 : (lg_sl q.1).length ≤ M'.2.2.2.1) (h8 : g_run g_mt L xs n d' M' 0 (lv_args 0 q.1) [] σ = some w) : g_run g_mt L xs (n + 1) (d' + 1) M pc lc sc σ = g_run g_mt L xs n (d' + 1) M (pc + 3) lc (w.1.toList ++ q.2) w.2 := by
  rw [g_run]
  have e6 : decide (g_cat q.2 ≤ 8) = true := by simpa using h6
  have e7 : decide ((lg_sl q.1).length ≤ M'.2.2.2.1) = true := by simpa using h7
  simp only [hen, h0, h1, h2, h3, h4, h5, e6, e7, h8, cond_false, cond_true, Bool.and_self]
theorem g_run_ret {L : Nat} {xs : Nat → Int32} {n d : Nat} {M : g_M} {pc : Nat} {lc : g_Lc} {sc : List Value} {σ : List g_Ce} {en : g_En} {r : Option Value} (hen : M.2.2.2.2.2 pc = some en) (h0 : g_step d M.2.2.2.1 L xs en pc lc sc σ = none) (h1 : g_rt en.1.1 M.2.2.2.2.1 sc = some r) : g_run g_mt L xs (n + 1) d M pc lc sc σ = some (r, σ) := by
  rw [g_run]
  simp only [hen, h0, h1]
theorem g_nv_none {d x : Nat} {st : List Value} {σ : List g_Ce} (h : x < 77777) : g_nv d x st σ = none := by
  have b1 : (x == 99998) = false := by simp; omega
  have b2 : (x == 99997) = false := by simp; omega
  have b3 : (x == 99996) = false := by simp; omega
  have b4 : (x == 99995) = false := by simp; omega
  simp only [g_nv, b1, b2, b3, b4, cond_false]
theorem q_cn (k : Nat) (q : vw_C) (hk : k < 13) (h : vwCl[k]? = some q) : q.1 = g_cn k := by
  match k, h with
  | 0, h => cases h; rfl
  | 1, h => cases h; rfl
  | 2, h => cases h; rfl
  | 3, h => cases h; rfl
  | 4, h => cases h; rfl
  | 5, h => cases h; rfl
  | 6, h => cases h; rfl
  | 7, h => cases h; rfl
  | 8, h => cases h; rfl
  | 9, h => cases h; rfl
  | 10, h => cases h; rfl
  | 11, h => cases h; rfl
  | 12, h => cases h; rfl
  | m + 13, h => omega
theorem q_vw (k : Nat) (hk : k < 13) : ∃ q, vwCl[k]? = some q := by
  match k, hk with
  | 0, _ => exact ⟨_, rfl⟩
  | 1, _ => exact ⟨_, rfl⟩
  | 2, _ => exact ⟨_, rfl⟩
  | 3, _ => exact ⟨_, rfl⟩
  | 4, _ => exact ⟨_, rfl⟩
  | 5, _ => exact ⟨_, rfl⟩
  | 6, _ => exact ⟨_, rfl⟩
  | 7, _ => exact ⟨_, rfl⟩
  | 8, _ => exact ⟨_, rfl⟩
  | 9, _ => exact ⟨_, rfl⟩
  | 10, _ => exact ⟨_, rfl⟩
  | 11, _ => exact ⟨_, rfl⟩
  | 12, _ => exact ⟨_, rfl⟩
  | m + 13, h => omega
theorem v_args_ok {ρ : List Int} : ∀ {as : List q_V} {ac : List Value} (_ : q_al2 (q_rv ρ) as ac) (i : Nat), v_rl ρ (q_args i as) (lv_args i ac)
  | [], [], _, _ => fun j v h => by cases h
  | v :: s, w :: t, ⟨h1, h2⟩, i => by
    intro j u hj
    have hj : (bif Nat.beq i j then some v else q_gl (q_args (i + q_ct v) s) j) = some u := hj
    have e : (if w.category = 2 then i + 2 else i + 1) = i + q_ct v := by
      rw [q_cat h1]
      match v with
      | .inl _ => rfl
      | .inr (.inl _) => rfl
      | .inr (.inr _) => rfl
    have e2 : lv_args i (w :: t) = (i, w) :: lv_args (i + q_ct v) t := by
      show (i, w) :: lv_args (if w.category = 2 then i + 2 else i + 1) t = _
      rw [e]
    rw [e2]
    have eg : g_get ((i, w) :: lv_args (i + q_ct v) t) j = if i = j then some w else g_get (lv_args (i + q_ct v) t) j := by
      unfold g_get
      by_cases hq : i = j
      · simp [hq]
      · simp [hq]
    rw [eg]
    cases hb : Nat.beq i j with
    | true =>
      rw [hb] at hj
      cases hj
      rw [if_pos (q_beq hb)]
      exact ⟨_, rfl, h1⟩
    | false =>
      rw [hb] at hj
      rw [if_neg (fun e => by rw [e] at hb; simp at hb)]
      exact v_args_ok h2 _ j u hj
  | [], _ :: _, h, _ => h.elim
  | _ :: _, [], h, _ => h.elim
section VQ
variable {X : v_X} {ih : v_Ih} {O : List v_Oe} {d μ : Nat} {M : g_M} {pc : Nat} {ls : q_L} {st : List q_V} {A : v_A} {K : v_K} {ρ : List Int} {lc : g_Lc} {sc : List Value} {S : v_Sf} {R : v_Rf} {ins : Instr} {len x y : Nat} {z : Int}
theorem v_ts_ok {a : q_N} {r : List q_V} {v : Int32} {t : List Value} (ha : q_r ρ a v.toInt) (r4 : q_al2 (q_rv ρ) r t) (r3 : v_ra X ρ A S R) {df : Int} {k : Nat → List q_V → v_A → Bool} : ∀ (offs : List Int) (c : Int) (e : q_S), q_re ρ e → List.rec (motive := fun _ => Int → q_S → Bool) (fun _ e => k ((pc : Int) + df).toNat r (e, A.2)) (fun o _ ih c e => v_eq a (.inl c) e (fun e => k ((pc : Int) + o).toNat r (e, A.2)) (fun e => ih (c + 1) e)) offs c e = true → (∃ o e', q_re ρ e' ∧ c ≤ v.toInt ∧ offs[(v.toInt - c).toNat]? = some o ∧ k ((pc : Int) + o).toNat r (e', A.2) = true) ∨ ((v.toInt < c ∨ c + offs.length ≤ v.toInt) ∧ ∃ e', q_re ρ e' ∧ k ((pc : Int) + df).toNat r (e', A.2) = true)
  | [], c, e, he, h => Or.inr ⟨by simp; omega, e, he, h⟩
  | o :: offs, c, e, he, h => by
    have h : v_eq a (.inl c) e (fun e => k ((pc : Int) + o).toNat r (e, A.2)) (fun e => List.rec (motive := fun _ => Int → q_S → Bool) (fun _ e => k ((pc : Int) + df).toNat r (e, A.2)) (fun o _ ih c e => v_eq a (.inl c) e (fun e => k ((pc : Int) + o).toNat r (e, A.2)) (fun e => ih (c + 1) e)) offs (c + 1) e) = true := h
    rcases v_eq_ok he ha (b := .inl c) (y := c) rfl h with ⟨h1, e1, he1, h2⟩ | ⟨h1, e1, he1, h2⟩
    · refine Or.inl ⟨o, e1, he1, by omega, ?_, h2⟩
      have : (v.toInt - c).toNat = 0 := by omega
      rw [this]
      rfl
    · rcases v_ts_ok ha r4 r3 offs (c + 1) e1 he1 h2 with ⟨o2, e2, he2, g1, g2, g3⟩ | ⟨g1, e2, he2, g3⟩
      · refine Or.inl ⟨o2, e2, he2, by omega, ?_, g3⟩
        have : (v.toInt - c).toNat = (v.toInt - (c + 1)).toNat + 1 := by omega
        rw [this]
        simpa using g2
      · refine Or.inr ⟨?_, e2, he2, g3⟩
        simp only [List.length_cons]
        omega
theorem v_tsw_ok {df lo hi : Int} {offs : Array Int} (hS : v_Snd X ih) (hen : M.2.2.2.2.2 pc = some ((.tableswitch df lo hi offs, len), x, y, z)) (r1 : v_rl ρ ls lc) (r2 : q_al2 (q_rv ρ) st sc) (r3 : v_ra X ρ A S R) {C : v_Cx} (h : v_h_tableswitch df lo hi offs C ih O d μ M pc len x y z ls st A K = true) : v_Out X O d M pc lc sc S R ρ K := by
  unfold v_h_tableswitch at h
  split at h
  · rename_i a r
    obtain ⟨v, t, rfl, ha, r4⟩ := q_cons_i r2
    cases hc : (q_ieq hi (lo + (q_len offs.toList : Int) - 1) && ((offs.toList).all (fun o => q_ile 0 ((pc : Int) + o)) && q_ile 0 ((pc : Int) + df))) with
    | false => rw [hc] at h; cases h
    | true =>
      rw [hc] at h
      rw [Bool.and_eq_true, Bool.and_eq_true, q_ieq_ok, q_ile_ok, q_len_eq] at hc
      obtain ⟨c1, c2, c3⟩ := hc
      have tg : ∀ o : Int, 0 ≤ (pc : Int) + o → ∀ rr, g_tg pc (some o) rr = some (((pc : Int) + o).toNat, rr) := by
        intro o ho rr
        unfold g_tg
        dsimp only
        generalize (pc : Int) + o = w at ho
        cases w with
        | ofNat m => rfl
        | negSucc m => omega
      dsimp only [cond_true] at h
      rcases v_ts_ok (pc := pc) (df := df) (k := fun pc r A => ih O d μ M pc ls r A K) ha r4 r3 offs.toList lo A.1 r3.1 h with ⟨o, e, he, g1, g2, g3⟩ | ⟨g1, e, he, g3⟩
      · have hlt := (List.getElem?_eq_some_iff.mp g2).1
        have ho : 0 ≤ (pc : Int) + o := by
          have := List.all_eq_true.mp c2 o (List.mem_of_getElem? g2)
          rwa [q_ile_ok] at this
        refine v_go hS hen (g_st_jmp (en := ((.tableswitch df lo hi offs, len), x, y, z)) (q := (((pc : Int) + o).toNat, t)) rfl rfl ?_) (q_px_rf ρ) r1 r4 (v_ra_env r3 (q_px_rf ρ) he) g3
        have hn : ¬ (v.toInt < lo ∨ hi < v.toInt) := by omega
        have g2' : offs[(v.toInt - lo).toNat]? = some o := by rw [← Array.getElem?_toList]; exact g2
        simp only [g_jmp, if_neg hn, g2']
        exact tg o ho t
      · refine v_go hS hen (g_st_jmp (en := ((.tableswitch df lo hi offs, len), x, y, z)) (q := (((pc : Int) + df).toNat, t)) rfl rfl ?_) (q_px_rf ρ) r1 r4 (v_ra_env r3 (q_px_rf ρ) he) g3
        have hn : v.toInt < lo ∨ hi < v.toInt := by omega
        simp only [g_jmp, if_pos hn]
        exact tg df c3 t
  · cases h
theorem v_lk_ok {a : q_N} {r : List q_V} {v : Int32} (ha : q_r ρ a v.toInt) {df : Int} {k : Nat → List q_V → v_A → Bool} : ∀ (ps : List (Int × Int)) (e : q_S), q_re ρ e → List.rec (motive := fun _ => q_S → Bool) (fun e => k ((pc : Int) + df).toNat r (e, A.2)) (fun o _ ih e => v_eq a (.inl o.1) e (fun e => k ((pc : Int) + o.2).toNat r (e, A.2)) (fun e => ih e)) ps e = true → ∃ e', q_re ρ e' ∧ ((Op.lookupswitch.offset ps df v.toInt = df) ∨ ∃ q ∈ ps, Op.lookupswitch.offset ps df v.toInt = q.2) ∧ k ((pc : Int) + Op.lookupswitch.offset ps df v.toInt).toNat r (e', A.2) = true
  | [], e, he, h => ⟨e, he, Or.inl rfl, h⟩
  | o :: ps, e, he, h => by
    have h : v_eq a (.inl o.1) e (fun e => k ((pc : Int) + o.2).toNat r (e, A.2)) (fun e => List.rec (motive := fun _ => q_S → Bool) (fun e => k ((pc : Int) + df).toNat r (e, A.2)) (fun o _ ih e => v_eq a (.inl o.1) e (fun e => k ((pc : Int) + o.2).toNat r (e, A.2)) (fun e => ih e)) ps e) = true := h
    have eo : Op.lookupswitch.offset (o :: ps) df v.toInt = if o.1 = v.toInt then o.2 else Op.lookupswitch.offset ps df v.toInt := rfl
    rw [eo]
    rcases v_eq_ok he ha (b := .inl o.1) (y := o.1) rfl h with ⟨h1, e1, he1, h2⟩ | ⟨h1, e1, he1, h2⟩
    · rw [if_pos h1.symm]
      exact ⟨e1, he1, Or.inr ⟨o, List.mem_cons_self, rfl⟩, h2⟩
    · rw [if_neg (fun hh => h1 hh.symm)]
      obtain ⟨e2, he2, g1, g2⟩ := v_lk_ok ha ps e1 he1 h2
      refine ⟨e2, he2, ?_, g2⟩
      rcases g1 with g1 | ⟨q, g1, g3⟩
      · exact Or.inl g1
      · exact Or.inr ⟨q, List.mem_cons_of_mem _ g1, g3⟩
theorem v_lsw_ok {df : Int} {ps : Array (Int × Int)} {C : v_Cx} (hS : v_Snd X ih) (hen : M.2.2.2.2.2 pc = some ((.lookupswitch df ps, len), x, y, z)) (r1 : v_rl ρ ls lc) (r2 : q_al2 (q_rv ρ) st sc) (r3 : v_ra X ρ A S R) (h : v_h_lookupswitch df ps C ih O d μ M pc len x y z ls st A K = true) : v_Out X O d M pc lc sc S R ρ K := by
  unfold v_h_lookupswitch at h
  split at h
  · rename_i a r
    obtain ⟨v, t, rfl, ha, r4⟩ := q_cons_i r2
    replace h := q_bifc h
    obtain ⟨hc, h⟩ := h
    rw [Bool.and_eq_true, Bool.and_eq_true, q_ile_ok] at hc
    obtain ⟨c1, c2, c3⟩ := hc
    have tg : ∀ o : Int, 0 ≤ (pc : Int) + o → ∀ rr, g_tg pc (some o) rr = some (((pc : Int) + o).toNat, rr) := by
      intro o ho rr
      unfold g_tg
      dsimp only
      generalize (pc : Int) + o = w at ho
      cases w with
      | ofNat m => rfl
      | negSucc m => omega
    obtain ⟨e, he, g1, g2⟩ := v_lk_ok (pc := pc) (df := df) (k := fun pc r A => ih O d μ M pc ls r A K) ha ps.toList A.1 r3.1 h
    have ho : 0 ≤ (pc : Int) + Op.lookupswitch.offset ps.toList df v.toInt := by
      rcases g1 with g1 | ⟨q, g1, g3⟩
      · rw [g1]; exact c3
      · rw [g3]
        have := List.all_eq_true.mp c2 q g1
        rwa [q_ile_ok] at this
    refine v_go hS hen (g_st_jmp (en := ((.lookupswitch df ps, len), x, y, z)) (q := (((pc : Int) + Op.lookupswitch.offset ps.toList df v.toInt).toNat, t)) rfl rfl ?_) (q_px_rf ρ) r1 r4 (v_ra_env r3 (q_px_rf ρ) he) g2
    simp only [g_jmp]
    rw [if_pos c1]
    exact tg _ ho t
  · cases h
theorem v_rt_ok (hS : v_Snd X ih) (hen : M.2.2.2.2.2 pc = some ((ins, len), x, y, z)) (r1 : v_rl ρ ls lc) (r2 : q_al2 (q_rv ρ) st sc) (r3 : v_ra X ρ A S R) (h0 : g_step d M.2.2.2.1 X.1 X.2.1 ((ins, len), x, y, z) pc lc sc (v_mk X.2.2.1.1 S R) = none) (h : v_rt ins M.2.2.2.2.1 st A K = true) : v_Out X O d M pc lc sc S R ρ K := by
  have fin : ∀ (v : Option q_V) (r : Option Value), g_rt ins M.2.2.2.2.1 sc = some r → q_ro ρ v r → K v A = true → v_Out X O d M pc lc sc S R ρ K := fun v r hr ho hk Q hK hO => ⟨1, r, S, R, fun e => by rw [show 1 + e = e + 1 by omega]; exact g_run_ret hen h0 hr, hK ρ v A r S R (q_px_rf ρ) hk ho r3⟩
  unfold v_rt at h
  generalize M.2.2.2.2.1 = ret at h fin
  split at h
  · rename_i v
    obtain ⟨w, t, rfl, hw, r4⟩ := q_cons_i r2
    cases t with
    | cons _ _ => exact r4.elim
    | nil => exact fin (some (.inl v)) (some (.int w)) rfl ⟨_, rfl, hw⟩ h
  · rename_i v
    obtain ⟨w, t, rfl, hw, r4⟩ := q_cons_i r2
    cases t with
    | cons _ _ => exact r4.elim
    | nil =>
      have hi := q_iv_ok r3.1 hw
      cases hx : (q_ile 0 (q_iv A.1 v).1 && q_ile (q_iv A.1 v).2 1) with
      | false => rw [hx] at h; cases h
      | true =>
        rw [hx] at h
        rw [Bool.and_eq_true, q_ile_ok, q_ile_ok] at hx
        have hn : narrow .boolean (.int w) = .int w := by
          have : w.toInt = 0 ∨ w.toInt = 1 := by omega
          rcases this with e | e
          · have : w = 0 := q_inj (by rw [e]; rfl)
            subst this
            rfl
          · have : w = 1 := q_inj (by rw [e]; rfl)
            subst this
            rfl
        refine fin (some (.inl v)) (some (.int w)) ?_ ⟨_, rfl, hw⟩ h
        simp only [g_rt]
        rw [if_pos hn]
  · rename_i v
    obtain ⟨t, rfl, r4⟩ := q_cons_r r2
    cases t with
    | cons _ _ => exact r4.elim
    | nil =>
      cases v with
      | none => exact fin (some (.inr (.inr none))) (some .null) rfl rfl h
      | some a => exact fin (some (.inr (.inr (some a)))) (some (.ref a)) rfl rfl h
  · cases sc with
    | cons _ _ => exact r2.elim
    | nil => exact fin none none rfl trivial h
  · cases h
/-- a call: the callee's road, then the caller's -/
theorem v_call (hH : v_HkOk X) {kd d' : Nat} {M' : g_M} {as r : List q_V} {q : List Value × List Value} (hS : v_Snd X ih) (hen : M.2.2.2.2.2 pc = some ((ins, len), x, y, z)) (r1 : v_rl ρ ls lc) (r3 : v_ra X ρ A S R) (h0 : g_step (d' + 1) M.2.2.2.1 X.1 X.2.1 ((ins, len), x, y, z) pc lc sc (v_mk X.2.2.1.1 S R) = none) (h1 : g_rt ins M.2.2.2.2.1 sc = none) (h2 : g_ki ins = some kd) (hx : x < 77777) (hM' : g_mt x = some M') (h5 : g_cl kd y M'.1 sc (v_mk X.2.2.1.1 S R) = some q) (ra : q_al2 (q_rv ρ) as q.1) (rr : q_al2 (q_rv ρ) r q.2) (hc1 : q_lsl r ≤ 8) (hc2 : q_lsl as ≤ M'.2.2.2.1)
    (h : v_ivc X.2.2.1 ih d' x M' A as (fun v A' => ih O (Nat.succ d') μ M (pc + 3) ls (q_pr v r) A' K) = true) : v_Out X O (d' + 1) M pc lc sc S R ρ K := by
  intro Q hK hO
  have hKc : v_KOk X ρ (fun v A' => ih O (Nat.succ d') μ M (pc + 3) ls (q_pr v r) A' K) (fun rv S1 R1 => v_Tm X (d' + 1) M (pc + 3) lc (rv.toList ++ q.2) S1 R1 Q) := by
    intro ρ1 v A1 rv S1 R1 a2 a5 a3 a4
    have rr2 : q_al2 (q_rv ρ1) (q_pr v r) (rv.toList ++ q.2) := by
      match v, rv, a3 with
      | none, none, _ => exact q_st_px a2 rr
      | some v, some w, a3 => exact And.intro a3 (q_st_px a2 rr)
      | none, some w, a3 => exact a3.elim
      | some v, none, a3 => exact a3.elim
    exact hS O (d' + 1) μ M (pc + 3) ls _ A1 K a5 ρ1 lc _ S1 R1 (v_rl_px a2 r1) rr2 a4 Q (v_KOk_px a2 hK) (v_OOk_px a2 hO)
  have key : v_Tm X d' M' 0 (lv_args 0 q.1) [] S R (fun rv S1 R1 => v_Tm X (d' + 1) M (pc + 3) lc (rv.toList ++ q.2) S1 R1 Q) := by
    unfold v_ivc at h
    split at h
    · rename_i bb hb
      subst h
      exact hH d' x as A _ hb M' ρ q.1 S R _ hM' ra r3 hKc
    · exact hS [] d' x M' 0 (q_args 0 as) [] A _ h ρ (lv_args 0 q.1) [] S R (v_args_ok ra 0) trivial r3 _ hKc (fun h hh => by cases hh)
  obtain ⟨n0, rv, S1, R1, a1, n1, rw1, S2, R2, b1, b2⟩ := key
  have hx9 : (x == 99999) = false := by simp; omega
  refine ⟨n0 + n1 + 1, rw1, S2, R2, fun e => ?_, b2⟩
  rw [show n0 + n1 + 1 + e = n0 + (n1 + e) + 1 by omega]
  rw [g_run_call hen h0 h1 h2 hx9 hM' h5 (by rw [q_lsl_ok rr]; exact hc1) (by rw [q_lgsl_ok, q_lsl_ok ra]; exact hc2) (a1 (n1 + e)), show n0 + (n1 + e) = n1 + (n0 + e) by omega]
  exact b1 _
theorem v_ivk_ok (hX : v_XOk X) (hH : v_HkOk X) {kd : Nat} (hS : v_Snd X ih) (hen : M.2.2.2.2.2 pc = some ((ins, len), x, y, z)) (r1 : v_rl ρ ls lc) (r2 : q_al2 (q_rv ρ) st sc) (r3 : v_ra X ρ A S R) (h0 : ∀ d', g_step (d' + 1) M.2.2.2.1 X.1 X.2.1 ((ins, len), x, y, z) pc lc sc (v_mk X.2.2.1.1 S R) = none) (h1 : g_rt ins M.2.2.2.2.1 sc = none) (h2 : g_ki ins = some kd) (hx : x < 77777) (h : v_ivk X.2.2.1 ih kd O d μ M pc ls x y st A K = true) : v_Out X O d M pc lc sc S R ρ K := by
  unfold v_ivk at h
  split at h
  · cases h
  · rename_i M' hM'
    split at h
    · cases h
    · rename_i d'
      obtain ⟨as, r, g1, g2, g3, g4⟩ := q_tk_ok (k := _) y [] st [] sc trivial r2 h
      rw [List.append_nil] at g2
      have hy : decide (y ≤ sc.length) = true := by simpa using g1
      cases hk0 : Nat.beq kd 0 with
      | true =>
        rw [hk0] at g4
        have e0 := q_beq hk0
        subst e0
        dsimp only [cond_true] at g4
        unfold v_ivs at g4
        cases hc : (Nat.ble (q_lsl r) 8 && Nat.ble (q_lsl as) M'.2.2.2.1) with
        | false => rw [hc] at g4; cases g4
        | true =>
          rw [hc] at g4
          rw [Bool.and_eq_true, Nat.ble_eq, Nat.ble_eq] at hc
          have e5 : g_cl 0 y M'.1 sc (v_mk X.2.2.1.1 S R) = some ((sc.take y).reverse, sc.drop y) := by
            simp only [g_cl, hy, cond_true]
          exact v_call hH hS hen r1 r3 (h0 d') h1 h2 hx hM' e5 g2 g3 hc.1 hc.2 g4
      | false =>
        rw [hk0] at g4
        dsimp only [cond_false] at g4
        unfold v_ivr at g4
        split at g4
        · rename_i a r2'
          obtain ⟨t, ht, r5⟩ := q_cons_r g3
          cases hr : v_rcv X.2.2.1 a x with
          | false => rw [hr] at g4; cases g4
          | true =>
            rw [hr] at g4
            dsimp only [cond_true] at g4
            unfold v_ivs at g4
            cases hc : (Nat.ble (q_lsl r2') 8 && Nat.ble (q_lsl (.inr (.inr (some (Nat.succ a))) :: as)) M'.2.2.2.1) with
            | false => rw [hc] at g4; cases g4
            | true =>
              rw [hc] at g4
              rw [Bool.and_eq_true, Nat.ble_eq, Nat.ble_eq] at hc
              have ra : q_al2 (q_rv ρ) (.inr (.inr (some (Nat.succ a))) :: as) (.ref (a + 1) :: (sc.take y).reverse) := And.intro rfl g2
              have e5 : g_cl kd y M'.1 sc (v_mk X.2.2.1.1 S R) = some (.ref (a + 1) :: (sc.take y).reverse, t) := by
                have hd : sc.drop y = .ref (a + 1) :: t := ht
                match kd, hk0, hr with
                | 0, hk0, _ => cases hk0
                | 1, _, hr =>
                  have c5 : v_rcv X.2.2.1 a x = true := hr
                  unfold v_rcv at c5
                  split at c5
                  · rename_i ci fs hg
                    have k1 := v_mk_at hX hg S R
                    split at c5
                    · rename_i o ho
                      rw [Bool.and_eq_true] at c5
                      have hci := q_blt c5.2
                      obtain ⟨qc, hqc⟩ := q_vw ci hci
                      rw [q_nth_eq] at ho
                      have hcn : qc.1 = M'.1 := by
                        rw [q_cn ci qc hci hqc, g_oc_ok x o M' hM' ho, q_beq c5.1]
                      simp only [g_cl, hd, k1, v_cell, hqc]
                      rw [if_pos ⟨hcn, g1⟩]
                    · cases c5
                  · cases c5
                | m + 2, _, _ => simp only [g_cl, hd, hy, cond_true]
              exact v_call hH hS hen r1 r3 (h0 d') h1 h2 hx hM' e5 ra r5 hc.1 hc.2 g4
        · cases g4
end VQ
theorem q_bip {c : Int} (h : Nat.blt c.natAbs 128 = true) : (Int8.ofInt c).toInt32.toInt = c := by
  have h := q_blt h
  rw [Int8.toInt_toInt32, Int8.toInt_ofInt]
  have e : (Int8.size : Int) = 256 := rfl
  exact Int.bmod_eq_of_le (by omega) (by omega)
theorem q_sip {c : Int} (h : Nat.blt c.natAbs 32768 = true) : (Int16.ofInt c).toInt32.toInt = c := by
  have h := q_blt h
  rw [Int16.toInt_toInt32, Int16.toInt_ofInt]
  have e : (Int16.size : Int) = 65536 := rfl
  exact Int.bmod_eq_of_le (by omega) (by omega)
theorem q_ldk {c : Int} (h : Nat.blt c.natAbs 2147483648 = true) : (Int32.ofInt c).toInt = c := by
  have h := q_blt h
  exact q_ofr (by omega) (by omega)
theorem q_ldk2 {c : Int} (h : Nat.blt c.natAbs 2147483648 = true) : (Int64.ofInt c).toInt = c := by
  have h := q_blt h
  rw [Int64.toInt_ofInt]
  have e : (Int64.size : Int) = 18446744073709551616 := rfl
  exact Int.bmod_eq_of_le (by omega) (by omega)
theorem q_i2l (v : Int32) : v.toInt64.toInt = v.toInt := by simp
theorem q_dec_t {P : Prop} [Decidable P] (h : P) : (decide P) = true := by simpa using h
theorem q_dec_f {P : Prop} [Decidable P] (h : ¬ P) : (decide P) = false := by simpa using h
theorem g_ixF_b (c : Int32) : ∀ (l : List Int32) (k : Nat), k + l.length ≤ 100 → -1 ≤ (g_ixF c l (Int32.ofInt (k : Int))).toInt ∧ (g_ixF c l (Int32.ofInt (k : Int))).toInt ≤ (k : Int) + l.length - 1
  | [], k, h => by
    show -1 ≤ (-1 : Int32).toInt ∧ (-1 : Int32).toInt ≤ _
    have e : (-1 : Int32).toInt = -1 := rfl
    rw [e]
    simp
    omega
  | b :: l, k, h => by
    have e1 : (Int32.ofInt (k : Int)).toInt = (k : Int) := q_ofr (by omega) (by simp at h; omega)
    have e2 : Int32.ofInt (k : Int) + 1 = Int32.ofInt ((k + 1 : Nat) : Int) := by
      have : (1 : Int32) = Int32.ofInt 1 := rfl
      rw [this, ← Int32.ofInt_add]
      rfl
    have ih := g_ixF_b c l (k + 1) (by simp at h; omega)
    simp only [List.length_cons] at h ⊢
    rw [g_ixF]
    split
    · rw [e1]; omega
    · rw [e2]; omega
theorem g_ixo_b (v : Int32) : -1 ≤ (g_ixo v).toInt ∧ (g_ixo v).toInt ≤ 14 := by
  have h := g_ixF_b ((v.toUInt32 % 65536).toInt32) [115, 113, 116, 104, 100, 119, 111, 112, 108, 97, 110, 118, 117, 122, 109] 0 (by decide)
  exact h
theorem v_mac_ok {X : v_X} {ih : v_Ih} {O : List v_Oe} {d μ : Nat} {M : g_M} {pc : Nat} {ls : q_L} {st : List q_V} {A : v_A} {K : v_K} {ρ : List Int} {lc : g_Lc} {sc : List Value} {S : v_Sf} {R : v_Rf} (hS : v_Snd X ih) (hen : M.2.2.2.2.2 pc = none) (r1 : v_rl ρ ls lc) (r2 : q_al2 (q_rv ρ) st sc) (r3 : v_ra X ρ A S R) (h : v_mac ih O d μ M pc ls st A K = true) : v_Out X O d M pc lc sc S R ρ K := by
  unfold v_mac at h
  split at h
  · rename_i a0 hg
    obtain ⟨w, g1, u, rfl, g2⟩ := r1 2 _ hg
    cases sc with
    | cons _ _ => exact r2.elim
    | nil =>
      replace h := q_bifc h
      obtain ⟨hc, h⟩ := h
      rw [Bool.and_eq_true, Bool.and_eq_true, Nat.ble_eq, decide_eq_true_eq] at hc
      obtain ⟨c1, c2, c3⟩ := hc
      have e := q_beq c1
      subst e
      obtain ⟨n1, n2, n3⟩ := q_new_ok r3.1 (e := (-1, 14, 0, .inl 0, .inl 0)) (g_ixo_b u).1 (g_ixo_b u).2 (Or.inl rfl)
      intro Q hK hO
      refine v_pre 0 (fun e => ?_) (hS O d μ M 20 ls [.inl (.inr (q_len A.1))] (_, A.2) K h _ lc [.int (g_ixo u)] S R (v_rl_px n1 r1) ⟨⟨_, rfl, n3⟩, trivial⟩ (v_ra_env r3 n1 n2) Q (v_KOk_px n1 hK) (v_OOk_px n1 hO))
      rw [show 0 + 1 + e = e + 1 by omega, show 0 + e = e by omega, g_run]
      have hm : g_mac d M 13 lc [] = some [.int (g_ixo u)] := by
        unfold g_mac
        rw [if_pos ⟨c3.1, c3.2.1, c3.2.2, rfl, rfl, c2⟩]
        simp only [g1]
      simp only [hen, hm]
  · cases h
set_option maxHeartbeats 4000000 in
theorem v_one_ok {X : v_X} {ih : v_Ih} (hX : v_XOk X) (hH : v_HkOk X) (hS : v_Snd X ih) : v_Snd X (v_one X.2.2.1 ih) := by
  intro O d μ M pc ls st A K h ρ lc sc S R r1 r2 r3
  unfold v_one at h
  split at h
  · rename_i hen
    exact v_mac_ok hS hen r1 r2 r3 h
  · rename_i en hen
    obtain ⟨⟨ins, len⟩, x, y, z⟩ := en
    dsimp only at h
    unfold v_disp at h
    split at h
    · unfold v_h_iconst at h
      obtain ⟨h1, h2⟩ := q_bifc h
      exact v_const_ok (v := .inl (.inl _)) ⟨_, rfl, q_ldk (by rw [Nat.blt_eq] at h1 ⊢; omega)⟩ hS hen r1 r2 r3 rfl h2
    · unfold v_h_bipush at h
      obtain ⟨h1, h2⟩ := q_bifc h
      exact v_const_ok (v := .inl (.inl _)) ⟨_, rfl, q_bip h1⟩ hS hen r1 r2 r3 rfl h2
    · unfold v_h_sipush at h
      obtain ⟨h1, h2⟩ := q_bifc h
      exact v_const_ok (v := .inl (.inl _)) ⟨_, rfl, q_sip h1⟩ hS hen r1 r2 r3 rfl h2
    · unfold v_h_ldc at h
      obtain ⟨h1, h2⟩ := q_bifc h
      exact v_const_ok (v := .inl (.inl z)) ⟨_, rfl, q_ldk h1⟩ hS hen r1 r2 r3 rfl h2
    · unfold v_h_ldc_w at h
      obtain ⟨h1, h2⟩ := q_bifc h
      exact v_const_ok (v := .inl (.inl z)) ⟨_, rfl, q_ldk h1⟩ hS hen r1 r2 r3 rfl h2
    · unfold v_h_ldc2_w at h
      obtain ⟨h1, h2⟩ := q_bifc h
      exact v_const_ok (v := .inr (.inl (.inl z))) ⟨_, rfl, q_ldk2 h1⟩ hS hen r1 r2 r3 rfl h2
    · rename_i k
      refine v_const_ok (v := .inr (.inl (.inl ((k : Nat) : Int)))) ⟨_, rfl, ?_⟩ hS hen r1 r2 r3 rfl h
      show (Int64.ofNat (k : Nat)).toInt = ((k : Nat) : Int)
      exact pk_lT (by omega)
    · exact v_ld_ok hS hen r1 r2 r3 rfl (fun v h1 h2 => q_ldi_l h1 h2) h
    · exact v_ld_ok hS hen r1 r2 r3 rfl (fun v h1 h2 => q_ldi_l h1 h2) h
    · exact v_ld_ok hS hen r1 r2 r3 rfl (fun v h1 h2 => q_lda_l h1 h2) h
    · exact v_ld_ok hS hen r1 r2 r3 rfl (fun v h1 h2 => q_lda_l h1 h2) h
    · exact v_ld_ok hS hen r1 r2 r3 rfl (fun v h1 h2 => q_ldl_l h1 h2) h
    · exact v_ld_ok hS hen r1 r2 r3 rfl (fun v h1 h2 => q_ldl_l h1 h2) h
    · exact v_st_ok hS hen r1 r2 r3 rfl (fun v t h1 h2 h3 => by subst h1; exact q_sti_l h2 h3) h
    · exact v_st_ok hS hen r1 r2 r3 rfl (fun v t h1 h2 h3 => by subst h1; exact q_sti_l h2 h3) h
    · exact v_st_ok hS hen r1 r2 r3 rfl (fun v t h1 h2 h3 => by subst h1; exact q_sta_l h2 h3) h
    · exact v_st_ok hS hen r1 r2 r3 rfl (fun v t h1 h2 h3 => by subst h1; exact q_sta_l h2 h3) h
    · exact v_inc_ok hS hen r1 r2 r3 h
    · exact v_i2_ok (op := 1) (by decide) hS hen r1 r2 r3 (fun _ => rfl) h
    · exact v_i2_ok (op := 2) (by decide) hS hen r1 r2 r3 (fun _ => rfl) h
    · exact v_i2_ok (op := 3) (by decide) hS hen r1 r2 r3 (fun _ => rfl) h
    · exact v_i2_ok (op := 4) (by decide) hS hen r1 r2 r3 (fun _ => rfl) h
    · exact v_i2_ok (op := 5) (by decide) hS hen r1 r2 r3 (fun _ => rfl) h
    · exact v_i2_ok (op := 6) (by decide) hS hen r1 r2 r3 (fun _ => rfl) h
    · exact v_i2_ok (op := 7) (by decide) hS hen r1 r2 r3 (fun _ => rfl) h
    · exact v_i2_ok (op := 8) (by decide) hS hen r1 r2 r3 (fun _ => rfl) h
    · exact v_i2_ok (op := 9) (by decide) hS hen r1 r2 r3 (fun _ => rfl) h
    · exact v_d2_ok (op := 10) (by decide) hS hen r1 r2 r3 (fun _ => rfl) h
    · exact v_d2_ok (op := 11) (by decide) hS hen r1 r2 r3 (fun _ => rfl) h
    · exact v_u1_ok (f := fun v => -v) (fun v => q_rng _) hS hen r1 r2 r3 (fun _ => rfl) h
    · refine v_u1_ok (f := fun v => v.toInt8.toInt32) (fun v => ?_) hS hen r1 r2 r3 (fun _ => rfl) h
      rw [Int8.toInt_toInt32]
      have h1 := BitVec.le_toInt v.toInt8.toBitVec
      have h2 := BitVec.toInt_lt (x := v.toInt8.toBitVec)
      have e : v.toInt8.toInt = v.toInt8.toBitVec.toInt := rfl
      rw [e]
      constructor <;> omega
    · refine v_u1_ok (f := fun v => (v.toUInt32 % 65536).toInt32) (fun v => ?_) hS hen r1 r2 r3 (fun _ => rfl) h
      have e := pk_char v
      have hm : v.toBitVec.toNat % 65536 < 65536 := Nat.mod_lt _ (by decide)
      show 0 ≤ ((v.toUInt32 % 65536).toInt32).toInt ∧ ((v.toUInt32 % 65536).toInt32).toInt ≤ 65535
      rw [e, nI_toInt (by omega)]
      constructor <;> omega
    · unfold v_h_i2l at h
      split at h
      · rename_i a0 r0
        obtain ⟨v, t, rfl, ha, r4⟩ := q_cons_i r2
        exact v_stk hS hen r1 (q_px_rf ρ) (st' := .inr (.inl a0) :: r0) (sc' := .long v.toInt64 :: t) (And.intro ⟨_, rfl, by rw [q_i2l]; exact ha⟩ r4) r3 rfl h
      · cases h
    · exact v_cm_ok hS hen r1 r2 r3 h
    · unfold v_h_dup at h
      split at h
      · rename_i v0 r0
        obtain ⟨h1, h2⟩ := q_bifc h
        obtain ⟨w, t, rfl, hw, r4⟩ := q_cons r2
        have hc : w.category = 1 := by rw [q_cat hw]; exact q_beq h1
        exact v_stk hS hen r1 (q_px_rf ρ) (st' := v0 :: v0 :: r0) (sc' := w :: w :: t) (And.intro hw (And.intro hw r4)) r3 (by simp only [g_stk, g_dp, if_pos hc]) h2
      · cases h
    · unfold v_h_dup2 at h
      split at h
      · rename_i v0 w0 r0
        obtain ⟨h1, h2⟩ := q_bifc h
        rw [Bool.and_eq_true] at h1
        obtain ⟨w, t, rfl, hw, r4⟩ := q_cons r2
        obtain ⟨u, t, rfl, hu, r5⟩ := q_cons r4
        have hc : w.category = 1 ∧ u.category = 1 := ⟨by rw [q_cat hw]; exact q_beq h1.1, by rw [q_cat hu]; exact q_beq h1.2⟩
        exact v_stk hS hen r1 (q_px_rf ρ) (st' := v0 :: w0 :: v0 :: w0 :: r0) (sc' := w :: u :: w :: u :: t) (And.intro hw (And.intro hu (And.intro hw (And.intro hu r5)))) r3 (by simp only [g_stk, g_dd]; rw [if_pos hc]) h2
      · cases h
    · unfold v_h_pop at h
      split at h
      · obtain ⟨h1, h2⟩ := q_bifc h
        obtain ⟨w, t, rfl, hw, r4⟩ := q_cons r2
        have hc : w.category = 1 := by rw [q_cat hw]; exact q_beq h1
        exact v_stk hS hen r1 (q_px_rf ρ) (sc' := t) r4 r3 (by simp only [g_stk, g_po, if_pos hc]) h2
      · cases h
    · exact v_const_ok (v := .inr (.inr none)) (w := .null) rfl hS hen r1 r2 r3 rfl h
    · exact v_go hS hen (g_st_jmp (en := ((.goto _, len), x, y, z)) (q := (x, sc)) rfl rfl rfl) (q_px_rf ρ) r1 r2 r3 h
    · exact v_b1_ok (P := fun v => v = 0) (tt := x) (ff := (pc + 3)) (fun a v env kt kf he ha hh => v_ceq a (.inl 0) v 0 env kt kf he ha rfl hh) hS hen r1 r2 r3 rfl rfl (fun v t e hp => by subst e; show some (bif decide (v = 0) then x else pc + 3, t) = _; rw [q_dec_t hp]; rfl) (fun v t e hp => by subst e; show some (bif decide (v = 0) then x else pc + 3, t) = _; rw [q_dec_f hp]; rfl) h
    · exact v_b1_ok (P := fun v => v = 0) (tt := (pc + 3)) (ff := x) (fun a v env kt kf he ha hh => v_ceq a (.inl 0) v 0 env kt kf he ha rfl hh) hS hen r1 r2 r3 rfl rfl (fun v t e hp => by subst e; show some (bif decide (¬ v = 0) then x else pc + 3, t) = _; rw [q_dec_f (fun hh => hh hp)]; rfl) (fun v t e hp => by subst e; show some (bif decide (¬ v = 0) then x else pc + 3, t) = _; rw [q_dec_t hp]; rfl) h
    · exact v_b1_ok (P := fun v => v < 0) (tt := x) (ff := (pc + 3)) (fun a v env kt kf he ha hh => v_clt a (.inl 0) v 0 env kt kf he ha rfl hh) hS hen r1 r2 r3 rfl rfl (fun v t e hp => by subst e; show some (bif decide (v < 0) then x else pc + 3, t) = _; rw [q_dec_t hp]; rfl) (fun v t e hp => by subst e; show some (bif decide (v < 0) then x else pc + 3, t) = _; rw [q_dec_f hp]; rfl) h
    · exact v_b1_ok (P := fun v => v < 0) (tt := (pc + 3)) (ff := x) (fun a v env kt kf he ha hh => v_clt a (.inl 0) v 0 env kt kf he ha rfl hh) hS hen r1 r2 r3 rfl rfl (fun v t e hp => by subst e; show some (bif decide (0 ≤ v) then x else pc + 3, t) = _; rw [q_dec_f (fun hh => by rw [q_le32] at hh; rw [q_lt32] at hp; omega)]; rfl) (fun v t e hp => by subst e; show some (bif decide (0 ≤ v) then x else pc + 3, t) = _; rw [q_dec_t (by rw [q_lt32] at hp; rw [q_le32]; omega)]; rfl) h
    · exact v_b1_ok (P := fun v => 0 < v) (tt := x) (ff := (pc + 3)) (fun a v env kt kf he ha hh => v_cgt a (.inl 0) v 0 env kt kf he ha rfl hh) hS hen r1 r2 r3 rfl rfl (fun v t e hp => by subst e; show some (bif decide (0 < v) then x else pc + 3, t) = _; rw [q_dec_t hp]; rfl) (fun v t e hp => by subst e; show some (bif decide (0 < v) then x else pc + 3, t) = _; rw [q_dec_f hp]; rfl) h
    · exact v_b1_ok (P := fun v => 0 < v) (tt := (pc + 3)) (ff := x) (fun a v env kt kf he ha hh => v_cgt a (.inl 0) v 0 env kt kf he ha rfl hh) hS hen r1 r2 r3 rfl rfl (fun v t e hp => by subst e; show some (bif decide (v ≤ 0) then x else pc + 3, t) = _; rw [q_dec_f (fun hh => by rw [q_le32] at hh; rw [q_lt32] at hp; omega)]; rfl) (fun v t e hp => by subst e; show some (bif decide (v ≤ 0) then x else pc + 3, t) = _; rw [q_dec_t (by rw [q_lt32] at hp; rw [q_le32]; omega)]; rfl) h
    · exact v_b2_ok (P := fun v w => v = w) (tt := x) (ff := (pc + 3)) (fun a b v w env kt kf he ha hb hh => v_ceq a b v w env kt kf he ha hb hh) hS hen r1 r2 r3 rfl rfl (fun v w t e hp => by subst e; show some (bif decide (v = w) then x else pc + 3, t) = _; rw [q_dec_t hp]; rfl) (fun v w t e hp => by subst e; show some (bif decide (v = w) then x else pc + 3, t) = _; rw [q_dec_f hp]; rfl) h
    · exact v_b2_ok (P := fun v w => v = w) (tt := (pc + 3)) (ff := x) (fun a b v w env kt kf he ha hb hh => v_ceq a b v w env kt kf he ha hb hh) hS hen r1 r2 r3 rfl rfl (fun v w t e hp => by subst e; show some (bif decide (¬ v = w) then x else pc + 3, t) = _; rw [q_dec_f (fun hh => hh hp)]; rfl) (fun v w t e hp => by subst e; show some (bif decide (¬ v = w) then x else pc + 3, t) = _; rw [q_dec_t hp]; rfl) h
    · exact v_b2_ok (P := fun v w => v < w) (tt := x) (ff := (pc + 3)) (fun a b v w env kt kf he ha hb hh => v_clt a b v w env kt kf he ha hb hh) hS hen r1 r2 r3 rfl rfl (fun v w t e hp => by subst e; show some (bif decide (v < w) then x else pc + 3, t) = _; rw [q_dec_t hp]; rfl) (fun v w t e hp => by subst e; show some (bif decide (v < w) then x else pc + 3, t) = _; rw [q_dec_f hp]; rfl) h
    · exact v_b2_ok (P := fun v w => v < w) (tt := (pc + 3)) (ff := x) (fun a b v w env kt kf he ha hb hh => v_clt a b v w env kt kf he ha hb hh) hS hen r1 r2 r3 rfl rfl (fun v w t e hp => by subst e; show some (bif decide (w ≤ v) then x else pc + 3, t) = _; rw [q_dec_f (fun hh => by rw [q_le32] at hh; rw [q_lt32] at hp; omega)]; rfl) (fun v w t e hp => by subst e; show some (bif decide (w ≤ v) then x else pc + 3, t) = _; rw [q_dec_t (by rw [q_lt32] at hp; rw [q_le32]; omega)]; rfl) h
    · exact v_b2_ok (P := fun v w => w < v) (tt := x) (ff := (pc + 3)) (fun a b v w env kt kf he ha hb hh => v_cgt a b v w env kt kf he ha hb hh) hS hen r1 r2 r3 rfl rfl (fun v w t e hp => by subst e; show some (bif decide (w < v) then x else pc + 3, t) = _; rw [q_dec_t hp]; rfl) (fun v w t e hp => by subst e; show some (bif decide (w < v) then x else pc + 3, t) = _; rw [q_dec_f hp]; rfl) h
    · exact v_b2_ok (P := fun v w => w < v) (tt := (pc + 3)) (ff := x) (fun a b v w env kt kf he ha hb hh => v_cgt a b v w env kt kf he ha hb hh) hS hen r1 r2 r3 rfl rfl (fun v w t e hp => by subst e; show some (bif decide (v ≤ w) then x else pc + 3, t) = _; rw [q_dec_f (fun hh => by rw [q_le32] at hh; rw [q_lt32] at hp; omega)]; rfl) (fun v w t e hp => by subst e; show some (bif decide (v ≤ w) then x else pc + 3, t) = _; rw [q_dec_t (by rw [q_lt32] at hp; rw [q_le32]; omega)]; rfl) h
    · unfold v_h_ifnull at h
      split at h
      · obtain ⟨t, rfl, r4⟩ := q_cons_r r2
        exact v_go hS hen (g_st_jmp (en := ((.ifnull _, len), x, y, z)) (q := (x, t)) rfl rfl rfl) (q_px_rf ρ) r1 r4 r3 h
      · obtain ⟨t, rfl, r4⟩ := q_cons_r r2
        exact v_go hS hen (g_st_jmp (en := ((.ifnull _, len), x, y, z)) (q := (pc + 3, t)) rfl rfl rfl) (q_px_rf ρ) r1 r4 r3 h
      · cases h
    · unfold v_h_ifnonnull at h
      split at h
      · obtain ⟨t, rfl, r4⟩ := q_cons_r r2
        exact v_go hS hen (g_st_jmp (en := ((.ifnonnull _, len), x, y, z)) (q := (pc + 3, t)) rfl rfl rfl) (q_px_rf ρ) r1 r4 r3 h
      · obtain ⟨t, rfl, r4⟩ := q_cons_r r2
        exact v_go hS hen (g_st_jmp (en := ((.ifnonnull _, len), x, y, z)) (q := (x, t)) rfl rfl rfl) (q_px_rf ρ) r1 r4 r3 h
      · cases h
    · exact v_tsw_ok hS hen r1 r2 r3 h
    · exact v_lsw_ok hS hen r1 r2 r3 h
    · exact v_gf_ok hX hS hen r1 r2 r3 h
    · exact v_pf_ok hX hS hen r1 r2 r3 h
    · exact v_al_ok hX hS hen r1 r2 r3 h
    · exact v_ia_ok hX (b := false) hS hen r1 r2 r3 rfl h
    · exact v_ia_ok hX (b := true) hS hen r1 r2 r3 rfl h
    · exact v_aa_ok hX hS hen r1 r2 r3 h
    · exact v_is_ok hX (b := false) hS hen r1 r2 r3 rfl h
    · exact v_is_ok hX (b := true) hS hen r1 r2 r3 rfl h
    · unfold v_h_invokestatic at h
      cases h1 : Nat.blt x 77777 with
      | true =>
        rw [h1] at h
        refine v_ivk_ok hX hH hS hen r1 r2 r3 (fun d' => ?_) rfl rfl (q_blt h1) h
        show (match g_nv (d' + 1) x sc (v_mk X.2.2.1.1 S R) with
          | some q => _
          | none => none) = none
        rw [g_nv_none (q_blt h1)]
      | false =>
        rw [h1] at h
        dsimp only [cond_false] at h
        cases h2 : Nat.beq x 99998 with
        | true => rw [h2] at h; exact v_cp_ok hX hS hen r1 r2 r3 (q_beq h2) h
        | false =>
          rw [h2] at h
          dsimp only [cond_false] at h
          cases h3 : Nat.beq x 99997 with
          | true => rw [h3] at h; exact v_m2_ok (op := 12) (f := fun a b => if a < b then b else a) (by decide) (fun a b => rfl) (fun st σ => rfl) hS hen r1 r2 r3 (q_beq h3) h
          | false =>
            rw [h3] at h
            dsimp only [cond_false] at h
            cases h4 : Nat.beq x 99996 with
            | true => rw [h4] at h; exact v_m2_ok (op := 13) (f := fun a b => if b < a then b else a) (by decide) (fun a b => rfl) (fun st σ => rfl) hS hen r1 r2 r3 (q_beq h4) h
            | false =>
              rw [h4] at h
              dsimp only [cond_false] at h
              obtain ⟨h5, h6⟩ := q_bifc h
              exact v_m1_ok (f := fun a => if 0 ≤ a then a else 0 - a) (fun st σ => rfl) hS hen r1 r2 r3 (q_beq h5) h6
    · unfold v_h_invokevirtual at h
      obtain ⟨h1, h2⟩ := q_bifc h
      exact v_ivk_ok hX hH hS hen r1 r2 r3 (fun d' => rfl) rfl rfl (q_blt h1) h2
    · exact v_rt_ok hS hen r1 r2 r3 rfl h
    · exact v_rt_ok hS hen r1 r2 r3 rfl h
    · exact v_rt_ok hS hen r1 r2 r3 rfl h
    · cases h
end Prt25
section Prt26
/-! heads of loops; the machine is sound -/
theorem v_veq_ok {v w : q_V} (h : v_veq v w = true) : v = w := by
  unfold v_veq at h
  split at h
  · rw [q_nb_ok h]
  · rw [q_nb_ok h]
  · rfl
  · rw [q_beq h]
  · cases h
theorem v_rv_take {ρ : List Int} {n : Nat} {v : q_V} {w0 w : Value} (h1 : q_rv (ρ.take n) v w0) (h2 : q_rv ρ v w) : q_rv (ρ.take n) v w := by
  have key : ∀ (a : q_N) (x y : Int), q_r (ρ.take n) a x → q_r ρ a y → q_r (ρ.take n) a y := by
    intro a x y g1 g2
    cases a with
    | inl c => exact g2
    | inr k =>
      have g1 : (ρ.take n)[k]? = some x := g1
      have g2 : ρ[k]? = some y := g2
      have hk := (List.getElem?_eq_some_iff.mp g1).1
      show (ρ.take n)[k]? = some y
      rw [List.getElem?_take_of_lt (by simp at hk; omega)]
      exact g2
  match v, h1, h2 with
  | .inl a, ⟨x, _, g1⟩, ⟨y, h3, g2⟩ => exact ⟨y, h3, key a _ _ g1 g2⟩
  | .inr (.inl a), ⟨x, _, g1⟩, ⟨y, h3, g2⟩ => exact ⟨y, h3, key a _ _ g1 g2⟩
  | .inr (.inr o), _, h2 => exact h2
theorem v_chk0_ok {ρ : List Int} {env : q_S} (he : q_re ρ env) {ls : q_L} {lc : g_Lc} (r1 : v_rl ρ ls lc) : ∀ {p : v_Pat}, v_chk0 env ls p = true → ∃ gv, v_alg p lc gv
  | [], _ => ⟨[], trivial⟩
  | (i, none) :: p, h => v_chk0_ok he r1 (p := p) h
  | (i, some b) :: p, h => by
    have h : (match q_gl ls i with
      | some (.inl a) => v_in (q_iv env a) b.1 b.2 && v_chk0 env ls p
      | _ => false) = true := h
    split at h
    · rename_i a ha
      rw [Bool.and_eq_true] at h
      obtain ⟨gs, hg⟩ := v_chk0_ok he r1 h.2
      obtain ⟨w, g1, u, rfl, g2⟩ := r1 i _ ha
      have := v_in_ok h.1 (q_iv_ok he g2)
      exact ⟨u.toInt :: gs, ⟨u, g1, rfl⟩, this.1, this.2, hg⟩
    · cases h
theorem v_chk1_ok {ρ : List Int} {n : Nat} {env : q_S} (he : q_re ρ env) {ls0 ls : q_L} {lc : g_Lc} (r1 : v_rl ρ ls lc) : ∀ {p : v_Pat}, (∀ (i : Nat) (v : q_V), (i, none) ∈ p → q_gl ls0 i = some v → ∃ w, q_rv (ρ.take n) v w) → v_chk1 env ls0 ls p = true → (∃ gv, v_alg p lc gv) ∧ v_sm p ls0 (ρ.take n) lc
  | [], _, _ => ⟨⟨[], trivial⟩, fun i v h => by cases h⟩
  | (i, none) :: p, h0, h => by
    have h : (match q_gl ls0 i, q_gl ls i with
      | some v, some w => v_veq v w && v_chk1 env ls0 ls p
      | none, _ => v_chk1 env ls0 ls p
      | _, _ => false) = true := h
    have h1 : ∀ (i : Nat) (v : q_V), (i, none) ∈ p → q_gl ls0 i = some v → ∃ w, q_rv (ρ.take n) v w := fun i v hm => h0 i v (List.mem_cons_of_mem _ hm)
    split at h
    · rename_i v w hv hw
      rw [Bool.and_eq_true] at h
      have e := v_veq_ok h.1
      subst e
      obtain ⟨g1, g2⟩ := v_chk1_ok he r1 h1 h.2
      refine ⟨g1, fun i' v' hm hv' => ?_⟩
      rcases List.mem_cons.mp hm with hm | hm
      · cases hm
        rw [hv] at hv'
        cases hv'
        obtain ⟨w1, k1, k2⟩ := r1 i _ hw
        obtain ⟨w0, k3⟩ := h0 i v List.mem_cons_self hv
        exact ⟨w1, k1, v_rv_take k3 k2⟩
      · exact g2 i' v' hm hv'
    · rename_i hn
      obtain ⟨g1, g2⟩ := v_chk1_ok he r1 h1 h
      refine ⟨g1, fun i' v' hm hv' => ?_⟩
      rcases List.mem_cons.mp hm with hm | hm
      · cases hm
        rw [hn] at hv'
        cases hv'
      · exact g2 i' v' hm hv'
    · cases h
  | (i, some b) :: p, h0, h => by
    have h : (match q_gl ls i with
      | some (.inl a) => v_in (q_iv env a) b.1 b.2 && v_chk1 env ls0 ls p
      | _ => false) = true := h
    have h1 : ∀ (i : Nat) (v : q_V), (i, none) ∈ p → q_gl ls0 i = some v → ∃ w, q_rv (ρ.take n) v w := fun i v hm => h0 i v (List.mem_cons_of_mem _ hm)
    split at h
    · rename_i a ha
      rw [Bool.and_eq_true] at h
      obtain ⟨⟨gs, hg⟩, g2⟩ := v_chk1_ok he r1 h1 h.2
      obtain ⟨w, g1, u, rfl, g3⟩ := r1 i _ ha
      have := v_in_ok h.1 (q_iv_ok he g3)
      refine ⟨⟨u.toInt :: gs, ⟨u, g1, rfl⟩, this.1, this.2, hg⟩, fun i' v' hm hv' => ?_⟩
      rcases List.mem_cons.mp hm with hm | hm
      · cases hm
      · exact g2 i' v' hm hv'
    · cases h
theorem v_gp_ok {ci : Nat} {lc : g_Lc} : ∀ {p : v_Pat} {gv : List Int} {n g : Nat}, v_alg p lc gv → v_gp p ci n = some g → n ≤ g ∧ ∃ (x : Int32) (b : Int × Int), g_get lc ci = some (.int x) ∧ gv[g - n]? = some x.toInt ∧ (v_gen p)[g - n]? = some (b.1, b.2, 0, .inl 0, .inl 0) ∧ b.1 ≤ x.toInt ∧ x.toInt ≤ b.2
  | [], gv, n, g, _, h => by cases h
  | (i, none) :: p, gv, n, g, ha, h => v_gp_ok (p := p) ha h
  | (i, some b) :: p, [], n, g, ha, h => ha.elim
  | (i, some b) :: p, y :: gs, n, g, ha, h => by
    obtain ⟨⟨u, a1, a2⟩, a3, a4, a5⟩ := ha
    have h : (bif Nat.beq i ci then some n else v_gp p ci (Nat.succ n)) = some g := h
    cases hb : Nat.beq i ci with
    | true =>
      rw [hb] at h
      cases h
      have e := q_beq hb
      subst e
      subst a2
      refine ⟨Nat.le_refl _, u, b, a1, ?_, ?_, a3, a4⟩
      · rw [Nat.sub_self]; rfl
      · rw [Nat.sub_self]; rfl
    | false =>
      rw [hb] at h
      obtain ⟨g1, u2, b2, g2, g3, g4, g5⟩ := v_gp_ok a5 h
      refine ⟨by omega, u2, b2, g2, ?_, ?_, g5⟩
      · rw [show g - n = (g - Nat.succ n) + 1 by omega]
        simpa using g3
      · rw [show g - n = (g - Nat.succ n) + 1 by omega]
        show ((b.1, b.2, 0, .inl 0, .inl 0) :: v_gen p)[g - Nat.succ n + 1]? = _
        simpa using g4
theorem v_mkl_ok {ρ : List Int} {ls : q_L} {lc : g_Lc} : ∀ {p : v_Pat} {gv : List Int} {n : Nat}, v_alg p lc gv → (∀ (i : Nat) (v : q_V), (i, none) ∈ p → q_gl ls i = some v → ∃ w, g_get lc i = some w ∧ q_rv ρ v w) → (∀ (k : Nat) (x : Int), gv[k]? = some x → ρ[n + k]? = some x) → v_rl ρ (v_mkl ls p n) lc
  | [], gv, n, _, _, _ => fun i v h => by cases h
  | (i, none) :: p, gv, n, ha, hs, hρ => by
    have ih := v_mkl_ok (ls := ls) (p := p) (n := n) ha (fun i v hm => hs i v (List.mem_cons_of_mem _ hm)) hρ
    intro j u hj
    have hj : q_gl (match q_gl ls i with
      | some v => (i, v) :: v_mkl ls p n
      | none => v_mkl ls p n) j = some u := hj
    split at hj
    · rename_i v hv
      rw [v_gl_cons] at hj
      cases hb : Nat.beq i j with
      | true =>
        rw [hb] at hj
        cases hj
        have e := q_beq hb
        subst e
        exact hs i _ List.mem_cons_self hv
      | false =>
        rw [hb] at hj
        exact ih j u hj
    · exact ih j u hj
  | (i, some b) :: p, [], n, ha, _, _ => ha.elim
  | (i, some b) :: p, y :: gs, n, ha, hs, hρ => by
    obtain ⟨⟨x, a1, a2⟩, a3, a4, a5⟩ := ha
    have ih := v_mkl_ok (ls := ls) (p := p) (n := Nat.succ n) a5 (fun i v hm => hs i v (List.mem_cons_of_mem _ hm)) (fun k x hk => by
      rw [show Nat.succ n + k = n + (k + 1) by omega]
      exact hρ (k + 1) x (by simpa using hk))
    intro j u hj
    have hj : q_gl ((i, .inl (.inr n)) :: v_mkl ls p (Nat.succ n)) j = some u := hj
    rw [v_gl_cons] at hj
    cases hb : Nat.beq i j with
    | true =>
      rw [hb] at hj
      cases hj
      have e := q_beq hb
      subst e
      refine ⟨_, a1, x, rfl, ?_⟩
      show ρ[n]? = some x.toInt
      rw [a2]
      exact hρ 0 y rfl
    | false =>
      rw [hb] at hj
      exact ih j u hj
theorem v_gen_ok {lc : g_Lc} : ∀ {p : v_Pat} {gv : List Int}, v_alg p lc gv → ∀ (k : Nat) (e : q_E), (v_gen p)[k]? = some e → ∃ x, gv[k]? = some x ∧ e.1 ≤ x ∧ x ≤ e.2.1 ∧ e.2.2.1 = 0
  | [], gv, _, k, e, h => by
    have h : ([] : q_S)[k]? = some e := h
    simp at h
  | (i, none) :: p, gv, ha, k, e, h => v_gen_ok (p := p) ha k e h
  | (i, some b) :: p, [], ha, _, _, _ => ha.elim
  | (i, some b) :: p, y :: gs, ha, k, e, h => by
    obtain ⟨-, a3, a4, a5⟩ := ha
    have h : ((b.1, b.2, 0, .inl 0, .inl 0) :: v_gen p)[k]? = some e := h
    cases k with
    | zero =>
      simp at h
      subst h
      exact ⟨y, by simp, a3, a4, rfl⟩
    | succ k =>
      obtain ⟨x, g1, g2⟩ := v_gen_ok a5 k e (by simpa using h)
      exact ⟨x, by simpa using g1, g2⟩
theorem v_re_app {ρ gv : List Int} {env : q_S} (he : q_re ρ env) {p : v_Pat} {lc : g_Lc} (ha : v_alg p lc gv) : q_re (ρ ++ gv) (env ++ v_gen p) := by
  have hp : q_px ρ (ρ ++ gv) := ⟨gv, rfl⟩
  refine ⟨by rw [List.length_append, List.length_append, he.1, v_alg_len ha], fun k e hk => ?_⟩
  by_cases hl : k < env.length
  · rw [List.getElem?_append_left hl] at hk
    obtain ⟨x, a1, a2, a3, a4⟩ := he.2 k e hk
    exact ⟨x, q_r_px (a := .inr k) hp a1, a2, a3, a4.imp id (fun ⟨u, v, b1, b2, b3⟩ => ⟨u, v, q_r_px hp b1, q_r_px hp b2, b3⟩)⟩
  · rw [List.getElem?_append_right (by omega)] at hk
    obtain ⟨x, g1, g2, g3, g4⟩ := v_gen_ok ha _ e hk
    refine ⟨x, ?_, g2, g3, Or.inl g4⟩
    rw [List.getElem?_append_right (by rw [he.1]; omega), he.1]
    exact g1
theorem v_prog_ok {ρ : List Int} {env : q_S} (he : q_re ρ env) {s : Nat} {up : Bool} {w : q_N} {old new : Int} (h1 : ρ[s]? = some old) (h2 : q_r ρ w new) (h : v_prog env s up w = true) : (bif up then decide (old < new) else decide (new < old)) = true := by
  have i1 := q_iv_ok he (a := .inr s) h1
  have i2 := q_iv_ok he h2
  unfold v_prog at h
  rw [Bool.or_eq_true] at h
  rcases h with h | h
  · cases up with
    | true =>
      have h : q_ilt (q_iv env (.inr s)).2 (q_iv env w).1 = true := h
      rw [q_ilt_ok] at h
      simp only [cond_true, decide_eq_true_eq]
      omega
    | false =>
      have h : q_ilt (q_iv env w).2 (q_iv env (.inr s)).1 = true := h
      rw [q_ilt_ok] at h
      simp only [cond_false, decide_eq_true_eq]
      omega
  · split at h
    · rename_i t
      split at h
      · rename_i e hn
        rw [q_nth_eq] at hn
        obtain ⟨x, a1, a2, a3, a4⟩ := he.2 t e hn
        have ex : new = x := Option.some.inj (Eq.trans (Eq.symm (show ρ[t]? = some new from h2)) a1)
        obtain ⟨lo0, hi0, op, ea, eb⟩ := e
        dsimp only at h a4
        split at h
        · rename_i s' c
          simp only [Bool.and_eq_true, q_ile_ok] at h
          obtain ⟨c1, c2, c3, c4⟩ := h
          have es := q_beq c1
          subst es
          rcases a4 with a4 | ⟨u, v, b1, b2, b3⟩
          · cases a4
          · have b1 : old = u.toInt := q_r_inj (a := .inr s) h1 b1
            have b2 : v.toInt = c := b2
            have b3 : x = (u + v).toInt := b3
            have e9 : (u + v).toInt = u.toInt + v.toInt := by
              rw [← q_of u, ← q_of v, ← Int32.ofInt_add, q_of, q_of]
              exact q_ofr (by omega) (by omega)
            cases up with
            | true =>
              have c2 : q_ilt 0 c = true := c2
              rw [q_ilt_ok] at c2
              simp only [cond_true, decide_eq_true_eq]
              omega
            | false =>
              have c2 : q_ilt c 0 = true := c2
              rw [q_ilt_ok] at c2
              simp only [cond_false, decide_eq_true_eq]
              omega
        · cases h
      · cases h
    · cases h
theorem v_fo_ok : ∀ {O : List v_Oe} {pc : Nat} {h : v_Oe}, v_fo O pc = some h → h ∈ O ∧ h.1 = pc
  | [], _, _, h => by cases h
  | q :: O, pc, o, h => by
    have h : (bif Nat.beq q.1 pc then some q else v_fo O pc) = some o := h
    cases hb : Nat.beq q.1 pc with
    | true =>
      rw [hb] at h
      cases h
      exact ⟨List.mem_cons_self, q_beq hb⟩
    | false =>
      rw [hb] at h
      exact ⟨List.mem_cons_of_mem _ (v_fo_ok h).1, (v_fo_ok h).2⟩
set_option maxHeartbeats 1000000 in
theorem v_head_ok {X : v_X} {ih : v_Ih} (hX : v_XOk X) (hS1 : v_Snd X (v_one X.2.2.1 ih)) {O : List v_Oe} {d μ : Nat} {M : g_M} {pc : Nat} {hp : v_Hp} {ls : q_L} {st : List q_V} {A : v_A} {K : v_K} {ρ : List Int} {lc : g_Lc} {sc : List Value} {S : v_Sf} {R : v_Rf} (r1 : v_rl ρ ls lc) (r2 : q_al2 (q_rv ρ) st sc) (r3 : v_ra X ρ A S R) (h : v_head X.2.2.1 ih O d μ M pc hp ls st A K = true) : v_Out X O d M pc lc sc S R ρ K := by
  intro Q hK hO
  unfold v_head at h
  split at h
  · cases sc with
    | cons _ _ => exact r2.elim
    | nil =>
      split at h
      · rename_i o ho
        obtain ⟨m1, m2⟩ := v_fo_ok ho
        obtain ⟨h1, h2, h3, h4⟩ := hO o m1
        rw [Bool.and_eq_true] at h
        obtain ⟨⟨gv, g1⟩, g2⟩ := v_chk1_ok r3.1 r1 h3 h.1
        have hq := h.2
        split at hq
        · rename_i w hw
          obtain ⟨hz, u, b, g3, g4, g5, -, -⟩ := v_gp_ok g1 h2
          rw [Nat.sub_zero] at g4 g5
          obtain ⟨w1, k1, u1, rfl, k2⟩ := r1 _ _ hw
          have e1 : u1 = u := by
            have := Option.some.inj (k1.symm.trans g3)
            cases this
            rfl
          subst e1
          have hl : o.2.1 + o.2.2.2.2.2.1 < ρ.length := by
            have := (List.getElem?_eq_some_iff.mp g5).1
            omega
          have hold : ρ[o.2.1 + o.2.2.2.2.2.1]? = some ρ[o.2.1 + o.2.2.2.2.2.1] := List.getElem?_eq_getElem hl
          have := h4 gv lc S R _ _ g1 g2 hold g4 (v_prog_ok r3.1 hold k2 hq) r3.2.2.2
          rw [m2] at this
          exact this
        · cases hq
      · split at h
        · rename_i g hg
          rw [Bool.and_eq_true] at h
          obtain ⟨gv0, a0⟩ := v_chk0_ok r3.1 r1 h.1
          have hn : q_len A.1 = ρ.length := by rw [q_len_eq]; exact r3.1.1.symm
          obtain ⟨-, u0, b, -, -, gb, -, -⟩ := v_gp_ok a0 hg
          rw [Nat.sub_zero] at gb
          have main : ∀ (m : Nat) (gv : List Int) (lc : g_Lc) (S' : v_Sf) (R' : v_Rf) (x : Int), v_alg hp.1 lc gv → v_sm hp.1 ls ρ lc → v_In X S' R' → gv[g]? = some x → (bif hp.2.2.2 then (b.2 - x).toNat else (x - b.1).toNat) < m → v_Tm X d M pc lc [] S' R' Q := by
            intro m
            induction m with
            | zero => intro gv lc S' R' x _ _ _ _ hm; omega
            | succ m ihm =>
              intro gv lc S' R' x b1 b2 b3 b4 b5
              have px : q_px ρ (ρ ++ gv) := ⟨gv, rfl⟩
              have hlen := v_alg_len b1
              have rl1 : v_rl (ρ ++ gv) (v_mkl ls hp.1 (q_len A.1)) lc := by
                refine v_mkl_ok b1 (fun i v hm hv => ?_) (fun k y hk => ?_)
                · obtain ⟨w, w1, w2⟩ := b2 i v hm hv
                  exact ⟨w, w1, q_rv_px px w2⟩
                · rw [hn, List.getElem?_append_right (by omega), show ρ.length + k - ρ.length = k by omega]
                  exact hk
              have fr : ∀ a j, v_md X.2.2.1.2.1 a j j = false → S' a j = S a j ∧ R' a j = R a j := by
                intro a j hm
                have f1 := b3.2.2 a j hm
                have f2 := r3.2.2.2.2.2 a j hm
                exact ⟨f1.1.trans f2.1.symm, f1.2.trans f2.2.symm⟩
              have ra1 : v_ra X (ρ ++ gv) (A.1 ++ v_gen hp.1, v_ok A.1 X.2.2.1.2.1 A.2.1, v_rk X.2.2.1.2.1 A.2.2) S' R' := by
                refine ⟨v_re_app r3.1 b1, fun q hq => ?_, fun q hq => ?_, b3⟩
                · obtain ⟨j, g3, g4⟩ := v_keep r3.1 r3.2.1 (S1 := S') (fun a j hm => (fr a j hm).1) q hq
                  exact ⟨j, q_r_px px g3, q_r_px px g4⟩
                · obtain ⟨g3, g4⟩ := v_rk_in hq
                  rw [(fr _ _ (v_hit_md g4 (Nat.le_refl _) (Nat.le_refl _))).2]
                  exact r3.2.2.1 q g3
              refine hS1 _ d μ M pc _ [] _ K h.2 (ρ ++ gv) lc [] S' R' rl1 trivial ra1 Q (v_KOk_px px hK) ?_
              intro o ho
              rcases List.mem_cons.mp ho with ho | ho
              · subst ho
                have et : (ρ ++ gv).take (q_len A.1) = ρ := by rw [hn]; exact List.take_left
                refine ⟨?_, hg, ?_, ?_⟩
                · show q_len A.1 + (v_gen hp.1).length ≤ (ρ ++ gv).length
                  rw [List.length_append, hn, hlen]
                  exact Nat.le_refl _
                · intro i v hm hv
                  show ∃ w, q_rv ((ρ ++ gv).take (q_len A.1)) v w
                  rw [et]
                  obtain ⟨w, -, w2⟩ := b2 i v hm hv
                  exact ⟨w, w2⟩
                · intro gv2 lc2 S2 R2 old new c1 c2 c3 c4 c5 c6
                  have c2 : v_sm hp.1 ls ((ρ ++ gv).take (q_len A.1)) lc2 := c2
                  rw [et] at c2
                  have c3 : (ρ ++ gv)[q_len A.1 + g]? = some old := c3
                  rw [hn, List.getElem?_append_right (by omega), show ρ.length + g - ρ.length = g by omega] at c3
                  have ex : x = old := Option.some.inj (b4.symm.trans c3)
                  subst ex
                  have c4 : gv2[g]? = some new := c4
                  obtain ⟨y1, d1, d2, d3, -⟩ := v_gen_ok c1 g _ gb
                  have ey : new = y1 := Option.some.inj (c4.symm.trans d1)
                  obtain ⟨y2, d4, d5, d6, -⟩ := v_gen_ok b1 g _ gb
                  have ey2 : x = y2 := Option.some.inj (b4.symm.trans d4)
                  dsimp only at d2 d3 d5 d6
                  refine ihm gv2 lc2 S2 R2 new c1 c2 c6 c4 ?_
                  have c5 : (bif hp.2.2.2 then decide (x < new) else decide (new < x)) = true := c5
                  cases hu : hp.2.2.2 with
                  | true =>
                    rw [hu] at c5 b5
                    simp only [cond_true, decide_eq_true_eq] at c5 b5 ⊢
                    omega
                  | false =>
                    rw [hu] at c5 b5
                    simp only [cond_false, decide_eq_true_eq] at c5 b5 ⊢
                    omega
              · exact v_OOk_px px hO o ho
          obtain ⟨-, u1, b1, k1, k2, -, -, -⟩ := v_gp_ok a0 hg
          rw [Nat.sub_zero] at k2
          exact main _ gv0 lc S R u1.toInt a0 (fun i v _ hv => r1 i v hv) r3.2.2.2 k2 (Nat.lt_succ_self _)
        · cases h
  · cases h
theorem v_sound {X : v_X} (hX : v_XOk X) (hH : v_HkOk X) : ∀ n, v_Snd X (v_run X.2.2.1 n)
  | 0 => fun O d μ M pc ls st A K h => by cases h
  | n + 1 => fun O d μ M pc ls st A K h ρ lc sc S R r1 r2 r3 => by
    have h : (match X.2.2.1.2.2.2.1 μ pc with
      | none => v_one X.2.2.1 (v_run X.2.2.1 n) O d μ M pc ls st A K
      | some hp => v_head X.2.2.1 (v_run X.2.2.1 n) O d μ M pc hp ls st A K) = true := h
    have hS1 := v_one_ok hX hH (v_sound hX hH n)
    split at h
    · exact hS1 O d μ M pc ls st A K h ρ lc sc S R r1 r2 r3
    · exact v_head_ok hX hS1 r1 r2 r3 h
end Prt26
section Prt27
/-! contracts by bounds, in rows -/
noncomputable abbrev v_Pt : Type := (Int × Int) ⊕ (Nat ⊕ (Int × Int))
/-- a row: depth, arguments, answer, what may be written -/
noncomputable abbrev v_Rw : Type := Nat × List v_Pt × Option (Int × Int) × List (Nat × Nat × Nat)
noncomputable def v_mt1 (env : q_S) (p : v_Pt) (v : q_V) : Bool := match p, v with
  | .inl b, .inl a => v_in (q_iv env a) b.1 b.2
  | .inr (.inl r), .inr (.inr (some r')) => Nat.beq r r'
  | .inr (.inr b), .inr (.inl a) => v_in (q_iv env a) b.1 b.2
  | _, _ => false
noncomputable def v_mt (env : q_S) (ps : List v_Pt) : List q_V → Bool := List.rec (motive := fun _ => List q_V → Bool) (fun as => match as with
  | [] => true
  | _ :: _ => false) (fun p _ ih as => match as with
  | [] => false
  | v :: as => v_mt1 env p v && ih as) ps
noncomputable def v_find (D d' : Nat) (env : q_S) (as : List q_V) (l : List v_Rw) : Option v_Rw := List.rec (motive := fun _ => Option v_Rw) none (fun w _ ih => bif (Nat.ble w.1 d' && Nat.blt w.1 D) && v_mt env w.2.1 as then some w else ih) l
noncomputable def v_sub (m mods : List (Nat × Nat × Nat)) : Bool := List.rec (motive := fun _ => Bool) true (fun h _ ih => v_md mods h.1 h.2.1 h.2.2 && ih) m
noncomputable def v_post (w : v_Rw) (mods : List (Nat × Nat × Nat)) (A : v_A) (k : v_K) : Bool := bif v_sub w.2.2.2 mods then (match w.2.2.1 with
  | none => k none (A.1, v_ok A.1 w.2.2.2 A.2.1, v_rk w.2.2.2 A.2.2)
  | some b => q_new A.1 (b.1, b.2, 0, .inl 0, .inl 0) (fun v e => k (some (.inl v)) (e, v_ok A.1 w.2.2.2 A.2.1, v_rk w.2.2.2 A.2.2))) else false
noncomputable def v_hkr (sp : v_Hk) (rw : Nat → List v_Rw) (D : Nat) (mods : List (Nat × Nat × Nat)) : v_Hk := fun d' x as A k => match sp d' x as A k with
  | some b => some b
  | none => (match v_find D d' A.1 as (rw x) with
    | some w => some (v_post w mods A k)
    | none => none)
noncomputable def v_ac1 (p : v_Pt) (w : Value) : Prop := match p with
  | .inl b => ∃ x : Int32, w = .int x ∧ b.1 ≤ x.toInt ∧ x.toInt ≤ b.2
  | .inr (.inl r) => w = .ref r
  | .inr (.inr b) => ∃ x : Int64, w = .long x ∧ b.1 ≤ x.toInt ∧ x.toInt ≤ b.2
noncomputable def v_rk1 (b : Option (Int × Int)) (r : Option Value) : Prop := match b with
  | none => r = none
  | some b => ∃ x : Int32, r = some (.int x) ∧ b.1 ≤ x.toInt ∧ x.toInt ≤ b.2
noncomputable def v_Met (L : Nat) (xs : Nat → Int32) (ty : Nat → Option v_Ct) (Op : v_Sf → Prop) (x : Nat) (w : v_Rw) : Prop := ∀ M, g_mt x = some M → ∀ (ac : List Value) (S : v_Sf) (R : v_Rf), q_al2 v_ac1 w.2.1 ac → v_Tb ty S R → Op S → ∃ n r S' R', (∀ e, g_run g_mt L xs (n + e) w.1 M 0 (lv_args 0 ac) [] (v_mk ty S R) = some (r, v_mk ty S' R')) ∧ v_Tb ty S' R' ∧ Op S' ∧ v_rk1 w.2.2.1 r ∧ v_Fr w.2.2.2 S R S' R'
theorem g_nv_0 (x : Nat) (st : List Value) (σ : List g_Ce) : g_nv 0 x st σ = none := by
  have h1 : g_cp 0 st σ = none := by
    unfold g_cp
    split
    · split
      · split
        · rw [if_neg (fun h => by have := h.2.2.2.2.2.2; omega)]
        · rfl
      · rfl
    · rfl
  have h2 : ∀ f, g_m2 0 f st σ = none := by
    intro f
    unfold g_m2
    split
    · rw [if_neg (fun h => by have := h.2; omega)]
    · rfl
  have h3 : ∀ f, g_m1 0 f st σ = none := by
    intro f
    unfold g_m1
    split
    · rw [if_neg (fun h => by have := h.2; omega)]
    · rfl
  unfold g_nv
  rw [h1, h2, h2, h3]
  cases x == 99998 <;> cases x == 99997 <;> cases x == 99996 <;> cases x == 99995 <;> rfl
theorem g_nv_d {d d' : Nat} (h0 : 0 < d) (hd : d ≤ d') (x : Nat) (st : List Value) (σ : List g_Ce) : g_nv d x st σ = g_nv d' x st σ := by
  have e : (0 < d) = (0 < d') := propext ⟨fun _ => by omega, fun _ => h0⟩
  unfold g_nv g_cp g_m2 g_m1
  simp only [e]
theorem g_hp_d {d d' L : Nat} {xs : Nat → Int32} {ins : Instr} {x y : Nat} {st : List Value} {σ : List g_Ce} {q : List Value × List g_Ce} (hd : d ≤ d') (h : g_hp d L xs ins x y st σ = some q) : g_hp d' L xs ins x y st σ = some q := by
  rcases Nat.eq_zero_or_pos d with h0 | h0
  · subst h0
    cases ins <;> first | exact h | (have h : g_nv 0 x st σ = some q := h; rw [g_nv_0] at h; cases h)
  · cases ins <;> first | exact h | (have h : g_nv d x st σ = some q := h; rw [g_nv_d h0 hd] at h; exact h)
theorem g_step_d {d d' nL L : Nat} {xs : Nat → Int32} {en : g_En} {pc : Nat} {ls : g_Lc} {st : List Value} {σ : List g_Ce} {q : Nat × g_Lc × List Value × List g_Ce} (hd : d ≤ d') (h : g_step d nL L xs en pc ls st σ = some q) : g_step d' nL L xs en pc ls st σ = some q := by
  unfold g_step at h
  split at h
  · rename_i st' h1
    cases h
    exact g_st_stk h1
  · rename_i h1
    split at h
    · rename_i q' h2
      cases h
      exact g_st_lcl h1 h2
    · rename_i h2
      split at h
      · rename_i q' h3
        cases h
        exact g_st_jmp h1 h2 h3
      · rename_i h3
        split at h
        · rename_i q' h4
          cases h
          exact g_st_hp h1 h2 h3 (g_hp_d hd h4)
        · cases h
theorem g_step_none {d d' nL L : Nat} {xs : Nat → Int32} {en : g_En} {pc : Nat} {ls : g_Lc} {st : List Value} {σ : List g_Ce} (h0 : 0 < d) (hd : d ≤ d') (h : g_step d nL L xs en pc ls st σ = none) : g_step d' nL L xs en pc ls st σ = none := by
  have e : ∀ ins x y, g_hp d L xs ins x y st σ = g_hp d' L xs ins x y st σ := by
    intro ins x y
    cases ins <;> first | rfl | exact g_nv_d h0 hd x st σ
  unfold g_step at h ⊢
  rw [← e]
  exact h
theorem g_step_ret {d' nL L : Nat} {xs : Nat → Int32} {en : g_En} {pc : Nat} {ls : g_Lc} {st : List Value} {σ : List g_Ce} {ret : Option FieldType} {r : Option Value} (h : g_rt en.1.1 ret st = some r) : g_step d' nL L xs en pc ls st σ = none := by
  obtain ⟨⟨ins, len⟩, x, y, z⟩ := en
  unfold g_rt at h
  dsimp only at h
  split at h <;> first | rfl | cases h
theorem g_mac_d {d d' : Nat} {M : g_M} {pc : Nat} {ls : g_Lc} {st st' : List Value} (hd : d ≤ d') (h : g_mac d M pc ls st = some st') : g_mac d' M pc ls st = some st' := by
  unfold g_mac at h ⊢
  split at h
  · rename_i hc
    rw [if_pos ⟨hc.1, hc.2.1, hc.2.2.1, hc.2.2.2.1, hc.2.2.2.2.1, by omega⟩]
    exact h
  · cases h
theorem g_run_oi {L : Nat} {xs : Nat → Int32} {n d' : Nat} {M : g_M} {pc : Nat} {lc : g_Lc} {sc rest : List Value} {σ : List g_Ce} {ins : Instr} {len x y k : Nat} {z : Int} (hen : M.2.2.2.2.2 pc = some ((ins, len), x, y, z)) (h0 : g_step (d' + 1) M.2.2.2.1 L xs ((ins, len), x, y, z) pc lc sc σ = none) (h1 : g_rt ins M.2.2.2.2.1 sc = none) (h2 : g_ki ins = some k) (h3 : (x == 99999) = true) (h4 : g_oi k sc = some rest) : g_run g_mt L xs (n + 1) (d' + 1) M pc lc sc σ = g_run g_mt L xs n (d' + 1) M (pc + 3) lc rest σ := by
  rw [g_run]
  simp only [hen, h0, h1, h2, h3, h4, cond_true]
/-- more depth does no harm -/
theorem g_run_d (L : Nat) (xs : Nat → Int32) : ∀ (n d d' : Nat) (M : g_M) (pc : Nat) (ls : g_Lc) (st : List Value) (σ : List g_Ce) (r : Option Value × List g_Ce), d ≤ d' → g_run g_mt L xs n d M pc ls st σ = some r → g_run g_mt L xs n d' M pc ls st σ = some r := by
  intro n
  induction n with
  | zero => intro d d' M pc ls st σ r hd h; simp [g_run] at h
  | succ n ih =>
    intro d d' M pc ls st σ r hd h
    rw [g_run] at h
    split at h
    · rename_i hn
      split at h
      · rename_i hm
        rw [g_run]
        simp only [hn, g_mac_d hd hm]
        exact ih _ _ _ _ _ _ _ _ hd h
      · cases h
    · rename_i en hen
      split at h
      · rename_i q hs
        rw [g_run_step hen (g_step_d hd hs)]
        exact ih _ _ _ _ _ _ _ _ hd h
      · rename_i hs
        split at h
        · rename_i r0 hrt
          cases h
          exact g_run_ret hen (g_step_ret hrt) hrt
        · rename_i hrt
          split at h
          · cases h
          · rename_i k hk
            cases d with
            | zero => cases h
            | succ e =>
              obtain ⟨e', rfl⟩ : ∃ e', d' = e' + 1 := ⟨d' - 1, by omega⟩
              have hs2 := g_step_none (by omega) hd hs
              obtain ⟨⟨ins, len⟩, x, y, z⟩ := en
              dsimp only at h hrt hk
              cases hx : (x == 99999) with
              | true =>
                rw [hx] at h
                dsimp only [cond_true] at h
                split at h
                · rename_i ho
                  rw [g_run_oi hen hs2 hrt hk hx ho]
                  exact ih _ _ _ _ _ _ _ _ hd h
                · cases h
              | false =>
                rw [hx] at h
                dsimp only [cond_false] at h
                split at h
                · cases h
                · rename_i M' hM'
                  split at h
                  · cases h
                  · rename_i q hq
                    cases hc : (decide (g_cat q.2 ≤ 8) && decide ((lg_sl q.1).length ≤ M'.2.2.2.1)) with
                    | false => rw [hc] at h; cases h
                    | true =>
                      rw [hc] at h
                      dsimp only [cond_true] at h
                      rw [Bool.and_eq_true, decide_eq_true_eq, decide_eq_true_eq] at hc
                      split at h
                      · cases h
                      · rename_i w hw
                        rw [g_run_call hen hs2 hrt hk hx hM' hq hc.1 hc.2 (ih _ _ _ _ _ _ _ _ (by omega) hw)]
                        exact ih _ _ _ _ _ _ _ _ hd h
theorem v_mt_ok {ρ : List Int} {env : q_S} (he : q_re ρ env) : ∀ {ps : List v_Pt} {as : List q_V} {ac : List Value}, v_mt env ps as = true → q_al2 (q_rv ρ) as ac → q_al2 v_ac1 ps ac
  | [], [], [], _, _ => trivial
  | [], [], _ :: _, _, h => h.elim
  | [], _ :: _, _, h, _ => by cases h
  | _ :: _, [], _, h, _ => by cases h
  | _ :: _, _ :: _, [], _, h => h.elim
  | p :: ps, v :: as, w :: ac, h, ⟨h2, h3⟩ => by
    have h : (v_mt1 env p v && v_mt env ps as) = true := h
    rw [Bool.and_eq_true] at h
    refine ⟨?_, v_mt_ok he h.2 h3⟩
    have h1 := h.1
    unfold v_mt1 at h1
    split at h1
    · obtain ⟨u, rfl, g⟩ := h2
      have := v_in_ok h1 (q_iv_ok he g)
      exact ⟨u, rfl, this.1, this.2⟩
    · rw [q_beq h1]
      exact h2
    · obtain ⟨u, rfl, g⟩ := h2
      have := v_in_ok h1 (q_iv_ok he g)
      exact ⟨u, rfl, this.1, this.2⟩
    · cases h1
theorem v_find_ok {D d' : Nat} {env : q_S} {as : List q_V} : ∀ {l : List v_Rw} {w : v_Rw}, v_find D d' env as l = some w → w ∈ l ∧ w.1 ≤ d' ∧ w.1 < D ∧ v_mt env w.2.1 as = true
  | [], _, h => by cases h
  | q :: l, w, h => by
    have h : (bif (Nat.ble q.1 d' && Nat.blt q.1 D) && v_mt env q.2.1 as then some q else v_find D d' env as l) = some w := h
    cases hb : ((Nat.ble q.1 d' && Nat.blt q.1 D) && v_mt env q.2.1 as) with
    | true =>
      rw [hb] at h
      cases h
      simp only [Bool.and_eq_true, Nat.ble_eq] at hb
      exact ⟨List.mem_cons_self, hb.1.1, q_blt hb.1.2, hb.2⟩
    | false =>
      rw [hb] at h
      obtain ⟨g1, g2⟩ := v_find_ok h
      exact ⟨List.mem_cons_of_mem _ g1, g2⟩
theorem v_md_lt : ∀ {m : List (Nat × Nat × Nat)} {a j : Nat}, v_md m a j j = true → ∃ q ∈ m, q.1 = a ∧ q.2.1 ≤ j ∧ j ≤ q.2.2
  | [], _, _, h => by cases h
  | q :: m, a, j, h => by
    have h : (bif Nat.beq q.1 a && (Nat.ble q.2.1 j && Nat.ble j q.2.2) then true else v_md m a j j) = true := h
    cases hb : (Nat.beq q.1 a && (Nat.ble q.2.1 j && Nat.ble j q.2.2)) with
    | true =>
      simp only [Bool.and_eq_true, Nat.ble_eq] at hb
      exact ⟨q, List.mem_cons_self, q_beq hb.1, hb.2.1, hb.2.2⟩
    | false =>
      rw [hb] at h
      obtain ⟨q2, g1, g2⟩ := v_md_lt h
      exact ⟨q2, List.mem_cons_of_mem _ g1, g2⟩
theorem v_sub_ok {mods : List (Nat × Nat × Nat)} : ∀ {m : List (Nat × Nat × Nat)}, v_sub m mods = true → ∀ q ∈ m, v_md mods q.1 q.2.1 q.2.2 = true
  | [], _, q, hq => by cases hq
  | p :: m, h, q, hq => by
    have h : (v_md mods p.1 p.2.1 p.2.2 && v_sub m mods) = true := h
    rw [Bool.and_eq_true] at h
    rcases List.mem_cons.mp hq with hq | hq
    · subst hq; exact h.1
    · exact v_sub_ok h.2 q hq
theorem v_sub_md {m mods : List (Nat × Nat × Nat)} (h : v_sub m mods = true) {a j : Nat} (hm : v_md mods a j j = false) : v_md m a j j = false := by
  cases hc : v_md m a j j with
  | false => rfl
  | true =>
    obtain ⟨q, g1, g2, g3, g4⟩ := v_md_lt hc
    have := v_md_mono (v_sub_ok h q g1) g3 g4
    rw [g2, hm] at this
    cases this
/-- what a row's contract gives at a call -/
theorem v_post_ok {X : v_X} {x d' : Nat} {w : v_Rw} (hm : v_Met X.1 X.2.1 X.2.2.1.1 X.2.2.2.1 x w) (hd : w.1 ≤ d') {M' : g_M} (hM : g_mt x = some M') {ρ : List Int} {A : v_A} {S : v_Sf} {R : v_Rf} {ac : List Value} (ha : q_al2 v_ac1 w.2.1 ac) (r3 : v_ra X ρ A S R) {k : v_K} (h : v_post w X.2.2.1.2.1 A k = true) {Q : Option Value → v_Sf → v_Rf → Prop} (hK : v_KOk X ρ k Q) : v_Tm X d' M' 0 (lv_args 0 ac) [] S R Q := by
  obtain ⟨n, r, S', R', a1, a2, a3, a4, a5⟩ := hm M' hM ac S R ha r3.2.2.2.1 r3.2.2.2.2.1
  refine ⟨n, r, S', R', fun e => g_run_d _ _ _ _ _ _ _ _ _ _ _ hd (a1 e), ?_⟩
  unfold v_post at h
  replace h := q_bifc h
  obtain ⟨hs, h⟩ := h
  have kov := v_keep (m := w.2.2.2) r3.1 r3.2.1 (S1 := S') (fun a j hm => (a5 a j hm).1)
  have krv : ∀ q ∈ v_rk w.2.2.2 A.2.2, R' q.1 q.2.1 = q.2.2 := by
    intro q hq
    obtain ⟨g3, g4⟩ := v_rk_in hq
    rw [(a5 _ _ (v_hit_md g4 (Nat.le_refl _) (Nat.le_refl _))).2]
    exact r3.2.2.1 q g3
  have inn : v_In X S' R' := ⟨a2, a3, fun a j hm => by
    have h1 := a5 a j (v_sub_md hs hm)
    have h2 := r3.2.2.2.2.2 a j hm
    exact ⟨h1.1.trans h2.1, h1.2.trans h2.2⟩⟩
  split at h
  · rename_i hr
    rw [hr] at a4
    have a4 : r = none := a4
    subst a4
    exact hK ρ none _ none S' R' (q_px_rf ρ) h trivial ⟨r3.1, kov, krv, inn⟩
  · rename_i b hr
    rw [hr] at a4
    obtain ⟨u, rfl, b1, b2⟩ := a4
    obtain ⟨n1, n2, n3⟩ := q_new_ok r3.1 (e := (b.1, b.2, 0, .inl 0, .inl 0)) b1 b2 (Or.inl rfl)
    refine hK _ (some (.inl (.inr (q_len A.1)))) _ (some (.int u)) S' R' n1 h ⟨u, rfl, n3⟩ ⟨n2, fun q hq => ?_, krv, inn⟩
    obtain ⟨j, g1, g2⟩ := kov q hq
    exact ⟨j, q_r_px n1 g1, q_r_px n1 g2⟩
theorem v_hkr_ok {X : v_X} {sp : v_Hk} {rw : Nat → List v_Rw} {D : Nat} (hh : X.2.2.1.2.2.2.2 = v_hkr sp rw D X.2.2.1.2.1) (hsp : ∀ (d' x : Nat) (as : List q_V) (A : v_A) (k : v_K), sp d' x as A k = some true → ∀ (M' : g_M) (ρ : List Int) (ac : List Value) (S : v_Sf) (R : v_Rf) (Q : Option Value → v_Sf → v_Rf → Prop), g_mt x = some M' → q_al2 (q_rv ρ) as ac → v_ra X ρ A S R → v_KOk X ρ k Q → v_Tm X d' M' 0 (lv_args 0 ac) [] S R Q) (hm : ∀ x, ∀ w ∈ rw x, w.1 < D → v_Met X.1 X.2.1 X.2.2.1.1 X.2.2.2.1 x w) : v_HkOk X := by
  intro d' x as A k hk M' ρ ac S R Q hM ra r3 hK
  rw [hh] at hk
  unfold v_hkr at hk
  split at hk
  · rename_i b hb
    cases hk
    exact hsp d' x as A k hb M' ρ ac S R Q hM ra r3 hK
  · split at hk
    · rename_i w hw
      obtain ⟨g1, g2, g3, g4⟩ := v_find_ok hw
      exact v_post_ok (hm x w g1 g3) g2 hM (v_mt_ok r3.1 g4 ra) r3 (Option.some.inj hk) hK
    · cases hk
/-- a row's start: a symbol for each number -/
noncomputable def v_a0 (ps : List v_Pt) : Nat → List q_V := List.rec (motive := fun _ => Nat → List q_V) (fun _ => []) (fun p _ ih n => match p with
  | .inl _ => .inl (.inr n) :: ih (Nat.succ n)
  | .inr (.inl r) => .inr (.inr (some r)) :: ih n
  | .inr (.inr _) => .inr (.inl (.inr n)) :: ih (Nat.succ n)) ps
noncomputable def v_e0 (ps : List v_Pt) : q_S := List.rec (motive := fun _ => q_S) [] (fun p _ ih => match p with
  | .inl b => (b.1, b.2, 0, .inl 0, .inl 0) :: ih
  | .inr (.inl _) => ih
  | .inr (.inr b) => (b.1, b.2, 0, .inl 0, .inl 0) :: ih) ps
theorem v_a0_ok : ∀ {ps : List v_Pt} {ac : List Value}, q_al2 v_ac1 ps ac → ∃ gv : List Int, gv.length = (v_e0 ps).length ∧ (∀ (k : Nat) (e : q_E), (v_e0 ps)[k]? = some e → ∃ x, gv[k]? = some x ∧ e.1 ≤ x ∧ x ≤ e.2.1 ∧ e.2.2.1 = 0) ∧ ∀ (ρ : List Int), q_al2 (q_rv (ρ ++ gv)) (v_a0 ps ρ.length) ac
  | [], [], _ => ⟨[], rfl, fun k e h => by
      have h : ([] : q_S)[k]? = some e := h
      simp at h, fun _ => trivial⟩
  | [], _ :: _, h => h.elim
  | _ :: _, [], h => h.elim
  | .inr (.inl r) :: ps, w :: ac, ⟨h1, h2⟩ => by
    obtain ⟨gv, g1, g2, g3⟩ := v_a0_ok h2
    exact ⟨gv, g1, g2, fun ρ => ⟨h1, g3 ρ⟩⟩
  | .inl b :: ps, w :: ac, ⟨⟨u, h0, h1, h3⟩, h2⟩ => by
    obtain ⟨gv, g1, g2, g3⟩ := v_a0_ok h2
    refine ⟨u.toInt :: gv, ?_, fun k e hk => ?_, fun ρ => ⟨⟨u, h0, ?_⟩, ?_⟩⟩
    · show gv.length + 1 = (v_e0 ps).length + 1
      omega
    · have hk : ((b.1, b.2, 0, .inl 0, .inl 0) :: v_e0 ps)[k]? = some e := hk
      cases k with
      | zero => simp at hk; subst hk; exact ⟨u.toInt, by simp, h1, h3, rfl⟩
      | succ k =>
        obtain ⟨x, k1, k2⟩ := g2 k e (by simpa using hk)
        exact ⟨x, by simpa using k1, k2⟩
    · show (ρ ++ u.toInt :: gv)[ρ.length]? = some u.toInt
      simp
    · have := g3 (ρ ++ [u.toInt])
      rw [List.length_append] at this
      have h5 : q_al2 (q_rv (ρ ++ u.toInt :: gv)) (v_a0 ps (ρ.length + 1)) ac := by simpa using this
      exact h5
  | .inr (.inr b) :: ps, w :: ac, ⟨⟨u, h0, h1, h3⟩, h2⟩ => by
    obtain ⟨gv, g1, g2, g3⟩ := v_a0_ok h2
    refine ⟨u.toInt :: gv, ?_, fun k e hk => ?_, fun ρ => ⟨⟨u, h0, ?_⟩, ?_⟩⟩
    · show gv.length + 1 = (v_e0 ps).length + 1
      omega
    · have hk : ((b.1, b.2, 0, .inl 0, .inl 0) :: v_e0 ps)[k]? = some e := hk
      cases k with
      | zero => simp at hk; subst hk; exact ⟨u.toInt, by simp, h1, h3, rfl⟩
      | succ k =>
        obtain ⟨x, k1, k2⟩ := g2 k e (by simpa using hk)
        exact ⟨x, by simpa using k1, k2⟩
    · show (ρ ++ u.toInt :: gv)[ρ.length]? = some u.toInt
      simp
    · have := g3 (ρ ++ [u.toInt])
      rw [List.length_append] at this
      have h5 : q_al2 (q_rv (ρ ++ u.toInt :: gv)) (v_a0 ps (ρ.length + 1)) ac := by simpa using this
      exact h5
noncomputable def v_kr (b : Option (Int × Int)) : v_K := fun v A => match b, v with
  | none, none => true
  | some b, some (.inl a) => v_in (q_iv A.1 a) b.1 b.2
  | _, _ => false
noncomputable def v_hl (l : List (Nat × Nat × v_Hp)) (μ pc : Nat) : Option v_Hp := List.rec (motive := fun _ => Option v_Hp) none (fun h _ ih => bif Nat.beq h.1 μ && Nat.beq h.2.1 pc then some h.2.2 else ih) l
noncomputable def v_chk (ty : Nat → Option v_Ct) (frz : Nat → Nat → Nat → Bool) (hd : Nat → Nat → Option v_Hp) (sp : v_Hk) (rw : Nat → List v_Rw) (fuel x : Nat) (w : v_Rw) : Bool := match g_mt x with
  | none => false
  | some M => v_run (ty, w.2.2.2, frz, hd, v_hkr sp rw w.1 w.2.2.2) fuel [] w.1 x M 0 (q_args 0 (v_a0 w.2.1 0)) [] (v_e0 w.2.1, [], []) (v_kr w.2.2.1)
theorem v_chk_ok {L : Nat} {xs : Nat → Int32} {ty : Nat → Option v_Ct} {Op : v_Sf → Prop} {frz : Nat → Nat → Nat → Bool} {hd : Nat → Nat → Option v_Hp} {sp : v_Hk} {rw : Nat → List v_Rw} {fuel x : Nat} {w : v_Rw} (hf : (∀ S S' : v_Sf, (∀ a j, frz a j j = true → S' a j = S a j) → Op S → Op S') ∧ (∀ a lo hi j, frz a lo hi = false → lo ≤ j → j ≤ hi → frz a j j = false) ∧ (∀ a t, ty a = some t → a < v_N)) (hsp : ∀ S0 R0 (d' x : Nat) (as : List q_V) (A : v_A) (k : v_K), sp d' x as A k = some true → ∀ (M' : g_M) (ρ : List Int) (ac : List Value) (S : v_Sf) (R : v_Rf) (Q : Option Value → v_Sf → v_Rf → Prop), g_mt x = some M' → q_al2 (q_rv ρ) as ac → v_ra (L, xs, (ty, w.2.2.2, frz, hd, v_hkr sp rw w.1 w.2.2.2), Op, S0, R0) ρ A S R → v_KOk (L, xs, (ty, w.2.2.2, frz, hd, v_hkr sp rw w.1 w.2.2.2), Op, S0, R0) ρ k Q → v_Tm (L, xs, (ty, w.2.2.2, frz, hd, v_hkr sp rw w.1 w.2.2.2), Op, S0, R0) d' M' 0 (lv_args 0 ac) [] S R Q) (hm : ∀ x, ∀ w' ∈ rw x, w'.1 < w.1 → v_Met L xs ty Op x w') (h : v_chk ty frz hd sp rw fuel x w = true) : v_Met L xs ty Op x w := by
  intro M hM ac S R ha hT hO
  unfold v_chk at h
  rw [hM] at h
  dsimp only at h
  obtain ⟨gv, g1, g2, g3⟩ := v_a0_ok ha
  have g3 : q_al2 (q_rv gv) (v_a0 w.2.1 0) ac := g3 []
  have r3 : v_ra (L, xs, (ty, w.2.2.2, frz, hd, v_hkr sp rw w.1 w.2.2.2), Op, S, R) gv (v_e0 w.2.1, [], []) S R := by
    refine ⟨⟨g1, fun k e hk => ?_⟩, fun q hq => (by cases hq), fun q hq => (by cases hq), hT, hO, fun a j _ => ⟨rfl, rfl⟩⟩
    obtain ⟨x, k1, k2, k3, k4⟩ := g2 k e hk
    exact ⟨x, k1, k2, k3, Or.inl k4⟩
  have hX : v_XOk (L, xs, (ty, w.2.2.2, frz, hd, v_hkr sp rw w.1 w.2.2.2), Op, S, R) := hf
  have hH : v_HkOk (L, xs, (ty, w.2.2.2, frz, hd, v_hkr sp rw w.1 w.2.2.2), Op, S, R) := v_hkr_ok rfl (hsp S R) hm
  have hK : v_KOk (L, xs, (ty, w.2.2.2, frz, hd, v_hkr sp rw w.1 w.2.2.2), Op, S, R) gv (v_kr w.2.2.1) (fun r S' R' => v_Tb ty S' R' ∧ Op S' ∧ v_rk1 w.2.2.1 r ∧ v_Fr w.2.2.2 S R S' R') := by
    intro ρ' v A' r S' R' px hk ho ra
    refine ⟨ra.2.2.2.1, ra.2.2.2.2.1, ?_, ra.2.2.2.2.2⟩
    unfold v_kr at hk
    unfold v_rk1
    split at hk
    · rename_i hb
      rw [hb]
      cases r with
      | none => rfl
      | some _ => exact ho.elim
    · rename_i b a hb
      rw [hb]
      cases r with
      | none => exact ho.elim
      | some r =>
        obtain ⟨u, rfl, hu⟩ := ho
        have := v_in_ok hk (q_iv_ok ra.1 hu)
        exact ⟨u, rfl, this.1, this.2⟩
    · cases hk
  exact v_sound hX hH fuel [] w.1 x M 0 _ [] _ _ h gv (lv_args 0 ac) [] S R (v_args_ok g3 0) trivial r3 _ hK (fun o ho => by cases ho)
end Prt27
