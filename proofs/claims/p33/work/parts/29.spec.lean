/-! hooks that are proved by hand -/
noncomputable def v_pr2 (e : q_S) (s : Nat) (p : q_N) : q_S := match q_cse e 20 p (.inl 0) with
  | some z => v_bd e s 0 (q_iv e (.inr z)).2
  | none => e
noncomputable def v_pr1 (e : q_S) (v a : q_N) : q_S := match v, a with
  | .inr s, .inr t => (match q_nth e t with
    | some f => (match f.2.2.1, f.2.2.2.1, f.2.2.2.2 with
      | 4, p, q => v_pr2 (v_pr2 e s p) s q
      | _, _, _ => e)
    | none => e)
  | _, _ => e
noncomputable def v_spz (a : q_N) (A : v_A) (k : v_K) : Bool := v_bin 20 a (.inl 0) A.1 (fun v e => k (some (.inl v)) (v_pr1 e v a, A.2))
noncomputable def v_spt (hi : Int) (row n : Nat) (mods : List (Nat × Nat × Nat)) (a : q_N) (A : v_A) (k : v_K) : Bool := bif v_in (q_iv A.1 a) 0 hi && v_md mods row 0 n then v_bin 20 a (.inl 0) A.1 (fun v e => k (some (.inl v)) (e, v_ok A.1 [(row, 0, n)] A.2.1, A.2.2)) else false
noncomputable def v_less (e : q_S) (a b : q_N) : Bool := q_ilt (q_iv e a).2 (q_iv e b).1 || (match q_cse e 2 a b with
  | some z => q_ile (q_iv e (.inr z)).2 (-1) && (q_ile (-2147483648) ((q_iv e a).1 - (q_iv e b).2) && q_ile ((q_iv e a).2 - (q_iv e b).1) 2147483647)
  | none => false)
/-- a stretch of code that stands in the tables: from and to are told by the rows r1, r2 at the same place, which lies below what is there -/
noncomputable def v_wk1 (A : v_A) (i : q_N) (rule : Bool) : Bool := (match v_of A.2.1 99 (.inl 16) with
  | some c => v_less A.1 i c
  | none => false) || (bif rule then (match v_of A.2.1 99 (.inl 17) with
  | some c => (match i with
    | .inl n => q_ile 16 n && v_less A.1 (.inl (n - 16)) c
    | .inr t => (match q_nth A.1 t with
      | some f => (match f.2.2.1, f.2.2.2.1 with
        | 1, .inl n => q_ieq n 16 && (q_ile 0 (q_iv A.1 f.2.2.2.2).1 && (q_ile (q_iv A.1 f.2.2.2.2).2 100 && v_less A.1 f.2.2.2.2 c))
        | _, _ => false)
      | none => false))
  | none => false) else false)
noncomputable def v_wk (A : v_A) (r1 r2 : Nat) (rule : Bool) (a b : q_N) (ov : List (Nat × q_N × q_N)) : Bool := List.rec (motive := fun _ => Bool) false (fun h _ ih => bif Nat.beq h.1 r1 && q_nb h.2.2 a then (bif (match v_of A.2.1 r2 h.2.1 with
  | some b' => q_nb b b' && v_wk1 A h.2.1 rule
  | none => false) then true else ih) else ih) ov
noncomputable def v_spw (mods : List (Nat × Nat × Nat)) (a b : q_N) (A : v_A) (k : v_K) : Bool := bif (v_wk A 103 104 true a b A.2.1 || v_wk A 102 103 false a b A.2.1) && (v_md mods 114 0 240 && v_md mods 115 0 240) then k none (A.1, v_ok A.1 [(114, 0, 240), (115, 0, 240)] A.2.1, v_rk [(114, 0, 240), (115, 0, 240)] A.2.2) else false
noncomputable def v_sp (rw : Nat → List v_Rw) (D : Nat) (mods : List (Nat × Nat × Nat)) : v_Hk := fun d' x as A k =>
  bif Nat.beq x 162 then (match as with
    | [.inl a] => some (bif Nat.ble 1 d' then v_spz a A k else false)
    | _ => none)
  else bif Nat.beq x 251 then (match as with
    | [.inr (.inr (some 100)), .inl a] => some (bif Nat.ble 2 d' then v_spt 4095 152 12 mods a A k else false)
    | _ => none)
  else bif Nat.beq x 256 then (match as with
    | [.inr (.inr (some 100)), .inl a] => some (bif Nat.ble 2 d' then v_spt 63 153 6 mods a A k else false)
    | _ => none)
  else bif Nat.beq x 198 then (match as with
    | [.inr (.inr (some 100)), .inl a, .inl b] => some (bif Nat.ble 4 d' && Nat.blt 4 D then v_spw mods a b A k else false)
    | _ => none)
  else bif Nat.beq x 284 then (match as with
    | [r, .inl a, b] => some (v_need a A.1 (fun c e => match v_find D d' e [r, .inl (.inl c), b] (rw x) with
      | some w => v_post w mods (e, A.2) k
      | none => false))
    | _ => none)
  else none
