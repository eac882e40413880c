/-! an abstract machine by bounds, and contracts: numbers -/
abbrev q_N : Type := Int ⊕ Nat
abbrev q_V : Type := q_N ⊕ q_N ⊕ Option Nat
abbrev q_E : Type := Int × Int × Nat × q_N × q_N
abbrev q_S : Type := List q_E
abbrev q_L : Type := List (Nat × q_V)
noncomputable def q_nth {α : Type} (l : List α) (i : Nat) : Option α := List.rec (motive := fun _ => Nat → Option α) (fun _ => none) (fun h _ ih i => Nat.casesOn i (some h) (fun j => ih j)) l i
noncomputable def q_put {α : Type} (l : List α) (i : Nat) (v : α) : List α := List.rec (motive := fun _ => Nat → List α) (fun _ => []) (fun h t ih i => Nat.casesOn i (v :: t) (fun j => h :: ih j)) l i
noncomputable def q_len {α : Type} (l : List α) : Nat := List.rec (motive := fun _ => Nat) 0 (fun _ _ ih => Nat.succ ih) l
noncomputable def q_app {α : Type} (l : List α) (v : α) : List α := List.rec (motive := fun _ => List α) [v] (fun h _ ih => h :: ih) l
def q_ilt (a b : Int) : Bool := match a, b with
  | .ofNat m, .ofNat n => Nat.blt m n
  | .negSucc _, .ofNat _ => true
  | .ofNat _, .negSucc _ => false
  | .negSucc m, .negSucc n => Nat.blt n m
def q_ile (a b : Int) : Bool := match a, b with
  | .ofNat m, .ofNat n => Nat.ble m n
  | .negSucc _, .ofNat _ => true
  | .ofNat _, .negSucc _ => false
  | .negSucc m, .negSucc n => Nat.ble n m
def q_ieq (a b : Int) : Bool := match a, b with
  | .ofNat m, .ofNat n => Nat.beq m n
  | .negSucc m, .negSucc n => Nat.beq m n
  | _, _ => false
/-- how many bits -/
def v_popN : Nat → Nat → Nat
  | 0, _ => 0
  | f + 1, n => n % 2 + v_popN f (n / 2)
def v_pop (x : Int32) : Int32 := Int32.ofInt ((v_popN 32 x.toUInt32.toNat : Nat) : Int)
def q_F (op : Nat) (x y : Int32) : Int32 := match op with
  | 1 => x + y
  | 2 => x - y
  | 3 => x * y
  | 4 => x &&& y
  | 5 => x ||| y
  | 6 => x ^^^ y
  | 7 => x <<< (y &&& 31)
  | 8 => x >>> (y &&& 31)
  | 9 => (x.toUInt32 >>> (y.toUInt32 &&& Int32.toUInt32 31)).toInt32
  | 10 => x / y
  | 11 => x - x / y * y
  | 12 => if x < y then y else x
  | 13 => if y < x then y else x
  | 20 => v_pop x
  | _ => x
noncomputable def q_iv (env : q_S) (a : q_N) : Int × Int := match a with
  | .inl c => (c, c)
  | .inr k => match q_nth env k with
    | some e => (e.1, e.2.1)
    | none => (0, 0)
noncomputable def q_c (env : q_S) (a : q_N) : Option Int := match a with
  | .inl c => some c
  | .inr k => match q_nth env k with
    | some e => bif (q_ieq e.1 e.2.1) then some e.1 else none
    | none => none
def v_mx (a b : Int) : Int := bif q_ile a b then b else a
def v_mn (a b : Int) : Int := bif q_ile a b then a else b
def v_cap (a b : Int) : Int := ((2 ^ (Nat.log2 (v_mx a b).toNat + 1) - 1 : Nat) : Int)
def v_ivop (op : Nat) (p q : Int × Int) : Int × Int := match op with
  | 1 => bif (q_ile (-2147483648) (p.1 + q.1)) && (q_ile (p.2 + q.2) 2147483647) then (p.1 + q.1, p.2 + q.2) else (-2147483648, 2147483647)
  | 2 => bif (q_ile (-2147483648) (p.1 - q.2)) && (q_ile (p.2 - q.1) 2147483647) then (p.1 - q.2, p.2 - q.1) else (-2147483648, 2147483647)
  | 3 => bif (q_ile 0 p.1) && ((q_ile 0 q.1) && (q_ile (p.2 * q.2) 2147483647)) then (p.1 * q.1, p.2 * q.2) else (-2147483648, 2147483647)
  | 4 => bif (q_ile 0 q.1) then (0, bif q_ile 0 p.1 then v_mn p.2 q.2 else q.2) else bif (q_ile 0 p.1) then (0, p.2) else (-2147483648, 2147483647)
  | 5 => bif (q_ile 0 p.1) && (q_ile 0 q.1) then (v_mx p.1 q.1, v_cap p.2 q.2) else (-2147483648, 2147483647)
  | 6 => bif (q_ile 0 p.1) && (q_ile 0 q.1) then (0, v_cap p.2 q.2) else (-2147483648, 2147483647)
  | 7 => bif ((q_ieq p.1 1) && (q_ieq p.2 1)) && ((q_ile 0 q.1) && (q_ile q.2 30)) then (((2 ^ q.1.toNat : Nat) : Int), ((2 ^ q.2.toNat : Nat) : Int)) else (-2147483648, 2147483647)
  | 8 => bif (q_ile 0 p.1) then (0, p.2) else (-2147483648, 2147483647)
  | 10 => bif (q_ile 0 p.1) && (q_ile 1 q.1) then (0, p.2) else (-2147483648, 2147483647)
  | 11 => bif (q_ile 0 p.1) && (q_ile 1 q.1) then (0, v_mn p.2 (q.2 - 1)) else (-2147483648, 2147483647)
  | 12 => (v_mx p.1 q.1, v_mx p.2 q.2)
  | 13 => (v_mn p.1 q.1, v_mn p.2 q.2)
  | 20 => bif (q_ile 0 p.1) then (bif q_ile 1 p.1 then 1 else 0, bif q_ieq p.2 0 then 0 else ((Nat.log2 p.2.toNat + 1 : Nat) : Int)) else (0, 32)
  | _ => (-2147483648, 2147483647)
def q_nb (a b : q_N) : Bool := match a, b with
  | .inl x, .inl y => (q_ieq x y)
  | .inr x, .inr y => Nat.beq x y
  | _, _ => false
/-- a symbol that was made by the same operation -/
noncomputable def q_cse (env : q_S) (op : Nat) (a b : q_N) : Option Nat := List.rec (motive := fun _ => Nat → Option Nat) (fun _ => none) (fun h _ ih k => bif Nat.beq h.2.2.1 op && (q_nb h.2.2.2.1 a && q_nb h.2.2.2.2 b) then some k else ih (Nat.succ k)) env 0
noncomputable def q_new (env : q_S) (e : q_E) (k : q_N → q_S → Bool) : Bool := k (.inr (q_len env)) (q_app env e)
def q_nrm (z : Int) : Int := bif (q_ile (-2147483648) z) && (q_ile z 2147483647) then z else (Int32.ofInt z).toInt
def q_fold (op : Nat) (x y : Int) : Int := bif Nat.beq op 1 then q_nrm (x + y) else bif Nat.beq op 2 then q_nrm (x - y) else (q_F op (Int32.ofInt x) (Int32.ofInt y)).toInt
/-- bounds that are told of a symbol, and, where it is another one and a constant, of that one -/
noncomputable def v_bd1 (env : q_S) (k : Nat) (lo hi : Int) : q_S := match q_nth env k with
  | some e => q_put env k (v_mx e.1 lo, v_mn e.2.1 hi, e.2.2)
  | none => env
noncomputable def v_bk (env : q_S) (lo hi : Int) (e : q_E) : q_S := match e.2.2.1, e.2.2.2.1, e.2.2.2.2 with
  | 1, .inr t, .inl c => bif q_ile (-2147483648) ((q_iv env (.inr t)).1 + c) && q_ile ((q_iv env (.inr t)).2 + c) 2147483647 then v_bd1 env t (lo - c) (hi - c) else env
  | 4, .inr s, .inr t => bif (q_ieq lo 0 && q_ieq hi 0) && q_ile 0 (q_iv env (.inr s)).1 then (match q_nth env t with
    | some f => (match f.2.2.1, f.2.2.2.2 with
      | 6, .inl c => bif q_ieq c (-1) && q_ile 0 (q_iv env f.2.2.2.1).1 then v_bd1 env s 0 (q_iv env f.2.2.2.1).2 else env
      | _, _ => env)
    | none => env) else env
  | _, _, _ => env
noncomputable def v_bd (env : q_S) (k : Nat) (lo hi : Int) : q_S := match q_nth env k with
  | some e => v_bk (v_bd1 env k lo hi) lo hi e
  | none => env
noncomputable def v_bin3 (op : Nat) (a b : q_N) (env : q_S) (k : q_N → q_S → Bool) : Bool := match q_cse env op a b with
  | some s => k (.inr s) env
  | none => q_new env ((v_ivop op (q_iv env a) (q_iv env b)).1, (v_ivop op (q_iv env a) (q_iv env b)).2, op, a, b) k
noncomputable def v_bin (op : Nat) (a b : q_N) (env : q_S) (k : q_N → q_S → Bool) : Bool := match q_c env a with
  | some x => (match q_c env b with
    | some y => k (.inl (q_fold op x y)) env
    | none => bif Nat.beq op 4 && (q_ieq x 0) then k (.inl 0) env else bif Nat.beq op 4 && (q_ieq x (-1)) then k b env else v_bin3 op a b env k)
  | none => (match q_c env b with
    | some y => bif Nat.beq op 4 && (q_ieq y 0) then k (.inl 0) env else bif Nat.beq op 4 && (q_ieq y (-1)) then k a env else v_bin3 op a b env k
    | none => v_bin3 op a b env k)
/-- a number that must be known: each of its values is a road -/
noncomputable def v_en (s : Nat) (hi : Int) (env : q_S) (k : Int → q_S → Bool) (fuel : Nat) : Int → Bool := Nat.rec (motive := fun _ => Int → Bool) (fun _ => false) (fun _ ih lo => k lo (v_bd env s lo lo) && (bif (q_ile hi lo) then true else ih (lo + 1))) fuel
noncomputable def v_need (a : q_N) (env : q_S) (k : Int → q_S → Bool) : Bool := match a with
  | .inl c => k c env
  | .inr s => v_en s (q_iv env a).2 env k 64 (q_iv env a).1
/-- both are symbols, z is their difference -/
noncomputable def v_ltz (s t : Nat) (z : q_N) (env : q_S) (kt kf : q_S → Bool) : Bool :=
  bif q_ile (q_iv env z).2 (-1) then kt env else bif q_ile 0 (q_iv env z).1 then kf env else match z with
  | .inr k => kt (v_bd (v_bd (v_bd env k (q_iv env z).1 (-1)) s (q_iv env (.inr s)).1 ((q_iv env (.inr t)).2 - 1)) t ((q_iv env (.inr s)).1 + 1) (q_iv env (.inr t)).2) && kf (v_bd (v_bd (v_bd env k 0 (q_iv env z).2) s (q_iv env (.inr t)).1 (q_iv env (.inr s)).2) t (q_iv env (.inr t)).1 (q_iv env (.inr s)).2)
  | .inl _ => kt env && kf env
noncomputable def v_lt (a b : q_N) (env : q_S) (kt kf : q_S → Bool) : Bool :=
  bif (q_ilt ((q_iv env a).2) ((q_iv env b).1)) then kt env else bif (q_ile ((q_iv env b).2) ((q_iv env a).1)) then kf env else
  match a, b with
  | .inr s, .inl c => kt (v_bd env s (q_iv env a).1 (c - 1)) && kf (v_bd env s c (q_iv env a).2)
  | .inl c, .inr s => kt (v_bd env s (c + 1) (q_iv env b).2) && kf (v_bd env s (q_iv env b).1 c)
  | .inr s, .inr t => bif (q_ile (-2147483648) ((q_iv env a).1 - (q_iv env b).2) && q_ile ((q_iv env a).2 - (q_iv env b).1) 2147483647) && ((q_ile (-2147483648) (q_iv env a).1 && q_ile (q_iv env a).2 2147483647) && (q_ile (-2147483648) (q_iv env b).1 && q_ile (q_iv env b).2 2147483647)) then v_bin3 2 a b env (fun z e => v_ltz s t z e kt kf) else kt (v_bd (v_bd env s (q_iv env a).1 ((q_iv env b).2 - 1)) t ((q_iv env a).1 + 1) (q_iv env b).2) && kf (v_bd (v_bd env s (q_iv env b).1 (q_iv env a).2) t (q_iv env b).1 (q_iv env a).2)
  | _, _ => kt env && kf env
noncomputable def v_eq3 (s : Nat) (lo hi c : Int) (env : q_S) (kt kf : q_S → Bool) : Bool :=
  kt (v_bd env s c c) && ((bif (q_ilt lo c) then kf (v_bd env s lo (c - 1)) else true) && (bif (q_ilt c hi) then kf (v_bd env s (c + 1) hi) else true))
noncomputable def v_eq (a b : q_N) (env : q_S) (kt kf : q_S → Bool) : Bool :=
  bif q_nb a b then kt env else
  bif (q_ilt ((q_iv env a).2) ((q_iv env b).1)) then kf env else bif (q_ilt ((q_iv env b).2) ((q_iv env a).1)) then kf env else
  match q_c env a, q_c env b with
  | some x, some y => bif (q_ieq x y) then kt env else kf env
  | none, some y => (match a with
    | .inr s => v_eq3 s (q_iv env a).1 (q_iv env a).2 y env kt kf
    | .inl _ => false)
  | some x, none => (match b with
    | .inr s => v_eq3 s (q_iv env b).1 (q_iv env b).2 x env kt kf
    | .inl _ => false)
  | none, none => (match a, b with
    | .inr s, .inr t => kt (v_bd (v_bd env s (q_iv env b).1 (q_iv env b).2) t (q_iv env a).1 (q_iv env a).2) && kf env
    | _, _ => false)
noncomputable def q_gl (ls : q_L) (i : Nat) : Option q_V := List.rec (motive := fun _ => Option q_V) none (fun h _ ih => bif Nat.beq h.1 i then some h.2 else ih) ls
def q_ct (v : q_V) : Nat := match v with
  | .inr (.inl _) => 2
  | _ => 1
noncomputable def q_fl (ls : q_L) (i : Nat) : q_L := List.rec (motive := fun _ => q_L) [] (fun h _ ih => bif Nat.beq h.1 i || (Nat.beq (h.1 + 1) i && Nat.beq (q_ct h.2) 2) then ih else h :: ih) ls
noncomputable def q_sl (ls : q_L) (i : Nat) (v : q_V) : q_L := (i, v) :: q_fl ls i
def q_fits (ty : FieldType) (v : q_V) (env : q_S) (iv : q_S → q_N → Int × Int) : Bool := match ty, v with
  | .int, .inl _ => true
  | .boolean, .inl a => (q_ile 0 ((iv env a).1)) && (q_ile ((iv env a).2) 1)
  | .object _, .inr (.inr _) => true
  | .array _, .inr (.inr _) => true
  | _, _ => false
noncomputable def q_lsl (l : List q_V) : Nat := List.rec (motive := fun _ => Nat) 0 (fun h _ ih => q_ct h + ih) l
noncomputable def q_args (i : Nat) (l : List q_V) : q_L := List.rec (motive := fun _ => Nat → q_L) (fun _ => []) (fun h _ ih i => (i, h) :: ih (i + q_ct h)) l i
/-- the first n of a stack, the last of them first; and the rest -/
noncomputable def q_tk (n : Nat) (l : List q_V) (k : List q_V → List q_V → Bool) : Bool := Nat.rec (motive := fun _ => List q_V → List q_V → Bool) (fun acc r => k acc r) (fun _ ih acc r => match r with
  | [] => false
  | h :: t => ih (h :: acc) t) n [] l
/-! what the words mean -/
def q_r (ρ : List Int) (a : q_N) (x : Int) : Prop := match a with
  | .inl c => x = c
  | .inr k => ρ[k]? = some x
def q_rv (ρ : List Int) (v : q_V) (w : Value) : Prop := match v with
  | .inl a => ∃ x : Int32, w = .int x ∧ q_r ρ a x.toInt
  | .inr (.inl a) => ∃ x : Int64, w = .long x ∧ q_r ρ a x.toInt
  | .inr (.inr o) => w = va_rf o
def q_al2 {α β : Type} (R : α → β → Prop) : List α → List β → Prop
  | [], [] => True
  | a :: s, b :: t => R a b ∧ q_al2 R s t
  | _, _ => False
def q_re (ρ : List Int) (env : q_S) : Prop := ρ.length = env.length ∧ ∀ (k : Nat) (e : q_E), env[k]? = some e → ∃ x, ρ[k]? = some x ∧ e.1 ≤ x ∧ x ≤ e.2.1 ∧ (e.2.2.1 = 0 ∨ ∃ u v : Int32, q_r ρ e.2.2.2.1 u.toInt ∧ q_r ρ e.2.2.2.2 v.toInt ∧ x = (q_F e.2.2.1 u v).toInt)
def q_px (ρ ρ' : List Int) : Prop := ∃ t, ρ' = ρ ++ t
theorem q_px_rf (ρ : List Int) : q_px ρ ρ := ⟨[], by simp⟩
theorem q_px_tr {a b c : List Int} (h1 : q_px a b) (h2 : q_px b c) : q_px a c := by
  obtain ⟨t, rfl⟩ := h1
  obtain ⟨u, rfl⟩ := h2
  exact ⟨t ++ u, by simp⟩
theorem q_r_px {ρ ρ' : List Int} (h : q_px ρ ρ') {a : q_N} {x : Int} (hr : q_r ρ a x) : q_r ρ' a x := by
  obtain ⟨t, rfl⟩ := h
  cases a with
  | inl c => exact hr
  | inr k =>
    have hr : ρ[k]? = some x := hr
    show (ρ ++ t)[k]? = some x
    rw [List.getElem?_append_left (List.getElem?_eq_some_iff.mp hr).1]
    exact hr
theorem q_rv_px {ρ ρ' : List Int} (h : q_px ρ ρ') {a : q_V} {x : Value} (hr : q_rv ρ a x) : q_rv ρ' a x := by
  match a, hr with
  | .inl a, ⟨x, h1, h2⟩ => exact ⟨x, h1, q_r_px h h2⟩
  | .inr (.inl a), ⟨x, h1, h2⟩ => exact ⟨x, h1, q_r_px h h2⟩
  | .inr (.inr o), hr => exact hr
theorem q_al2_imp {α β : Type} {R S : α → β → Prop} (h : ∀ a b, R a b → S a b) : ∀ {s : List α} {t : List β}, q_al2 R s t → q_al2 S s t
  | [], [], _ => trivial
  | _ :: _, _ :: _, ⟨h1, h2⟩ => ⟨h _ _ h1, q_al2_imp h h2⟩
  | [], _ :: _, h => h.elim
  | _ :: _, [], h => h.elim
theorem q_st_px {ρ ρ' : List Int} (h : q_px ρ ρ') {s : List q_V} {t : List Value} (hr : q_al2 (q_rv ρ) s t) : q_al2 (q_rv ρ') s t := q_al2_imp (fun _ _ => q_rv_px h) hr
theorem q_r_inj {ρ : List Int} {a : q_N} {x y : Int} (h1 : q_r ρ a x) (h2 : q_r ρ a y) : x = y := by
  cases a with
  | inl c => exact h1.trans h2.symm
  | inr k =>
    have h1 : ρ[k]? = some x := h1
    have h2 : ρ[k]? = some y := h2
    exact Option.some.inj (h1.symm.trans h2)
theorem q_nth_eq {α : Type} : ∀ (l : List α) (i : Nat), q_nth l i = l[i]?
  | [], _ => rfl
  | _ :: _, 0 => rfl
  | _ :: t, i + 1 => by
    show q_nth t i = _
    rw [q_nth_eq t i]
    simp
theorem q_put_eq {α : Type} : ∀ (l : List α) (i : Nat) (v : α), q_put l i v = l.set i v
  | [], _, _ => rfl
  | _ :: _, 0, _ => rfl
  | h :: t, i + 1, v => by
    show h :: q_put t i v = _
    rw [q_put_eq t i v]
    simp
theorem q_len_eq {α : Type} : ∀ (l : List α), q_len l = l.length
  | [] => rfl
  | _ :: t => by
    show Nat.succ (q_len t) = _
    rw [q_len_eq t]
    simp
theorem q_app_eq {α : Type} : ∀ (l : List α) (v : α), q_app l v = l ++ [v]
  | [], _ => rfl
  | h :: t, v => by
    show h :: q_app t v = _
    rw [q_app_eq t v]
    simp
theorem q_al2_nth {α β : Type} {R : α → β → Prop} : ∀ {s : List α} {t : List β} (_ : q_al2 R s t) (i : Nat) {a : α}, s[i]? = some a → ∃ b, t[i]? = some b ∧ R a b
  | [], [], _, _, _, h => by simp at h
  | _ :: _, b :: _, ⟨h1, _⟩, 0, a, h => by
    simp at h
    subst h
    exact ⟨b, by simp, h1⟩
  | _ :: s, _ :: t, ⟨_, h2⟩, i + 1, a, h => by
    obtain ⟨b, h3, h4⟩ := q_al2_nth h2 i (by simpa using h)
    exact ⟨b, by simpa using h3, h4⟩
  | [], _ :: _, h, _, _, _ => h.elim
  | _ :: _, [], h, _, _, _ => h.elim
theorem q_al2_len {α β : Type} {R : α → β → Prop} : ∀ {s : List α} {t : List β}, q_al2 R s t → s.length = t.length
  | [], [], _ => rfl
  | _ :: _, _ :: _, ⟨_, h2⟩ => by simp [q_al2_len h2]
  | [], _ :: _, h => h.elim
  | _ :: _, [], h => h.elim
theorem q_ilt_ok (a b : Int) : q_ilt a b = true ↔ a < b := by
  unfold q_ilt
  split
  · rename_i m n
    rw [Nat.blt_eq]
    show m < n ↔ ((m : Int) < (n : Int))
    omega
  · rename_i m n
    have h : Int.negSucc m < (n : Int) := by omega
    exact ⟨fun _ => h, fun _ => rfl⟩
  · rename_i m n
    have h : ¬ (m : Int) < Int.negSucc n := by omega
    exact ⟨fun h => (by cases h), fun h2 => absurd h2 h⟩
  · rw [Nat.blt_eq]; omega
theorem q_ile_ok (a b : Int) : q_ile a b = true ↔ a ≤ b := by
  unfold q_ile
  split
  · rename_i m n
    rw [Nat.ble_eq]
    show m ≤ n ↔ ((m : Int) ≤ (n : Int))
    omega
  · rename_i m n
    have h : Int.negSucc m ≤ (n : Int) := by omega
    exact ⟨fun _ => h, fun _ => rfl⟩
  · rename_i m n
    have h : ¬ (m : Int) ≤ Int.negSucc n := by omega
    exact ⟨fun h => (by cases h), fun h2 => absurd h2 h⟩
  · rw [Nat.ble_eq]; omega
theorem q_ieq_ok (a b : Int) : q_ieq a b = true ↔ a = b := by
  unfold q_ieq
  split
  · rename_i m n
    rw [Nat.beq_eq]
    show m = n ↔ ((m : Int) = (n : Int))
    omega
  · rw [Nat.beq_eq]; omega
  · rename_i h1 h2
    refine ⟨fun h => (by cases h), fun h => ?_⟩
    subst h
    cases a with
    | ofNat m => exact (h1 m m rfl rfl).elim
    | negSucc m => exact (h2 m m rfl rfl).elim
theorem q_ilt_f {a b : Int} (h : q_ilt a b = false) : b ≤ a := by
  have : ¬ a < b := fun h2 => by rw [(q_ilt_ok a b).mpr h2] at h; cases h
  omega
theorem q_ile_f {a b : Int} (h : q_ile a b = false) : b < a := by
  have : ¬ a ≤ b := fun h2 => by rw [(q_ile_ok a b).mpr h2] at h; cases h
  omega
theorem q_ieq_f {a b : Int} (h : q_ieq a b = false) : ¬ a = b := fun h2 => by rw [(q_ieq_ok a b).mpr h2] at h; cases h
theorem q_rng (x : Int32) : -2147483648 ≤ x.toInt ∧ x.toInt ≤ 2147483647 := by
  have h1 := BitVec.le_toInt x.toBitVec
  have h2 := BitVec.toInt_lt (x := x.toBitVec)
  have e : x.toInt = x.toBitVec.toInt := rfl
  rw [e]
  constructor <;> omega
theorem q_of (x : Int32) : Int32.ofInt x.toInt = x := by simp
theorem q_ofr {z : Int} (h1 : -2147483648 ≤ z) (h2 : z ≤ 2147483647) : (Int32.ofInt z).toInt = z := by
  rw [Int32.toInt_ofInt]
  have e : (Int32.size : Int) = 4294967296 := rfl
  exact Int.bmod_eq_of_le (by omega) (by omega)
theorem q_inj {x y : Int32} (h : x.toInt = y.toInt) : x = y := Int32.toInt_inj.mp h
theorem q_nrm_ok (z : Int) : q_nrm z = (Int32.ofInt z).toInt := by
  unfold q_nrm
  cases h : (q_ile (-2147483648) z && q_ile z 2147483647) with
  | false => rfl
  | true =>
    rw [Bool.and_eq_true, q_ile_ok, q_ile_ok] at h
    exact (q_ofr h.1 h.2).symm
theorem q_fold_ok (op : Nat) (x y : Int32) : q_fold op x.toInt y.toInt = (q_F op x y).toInt := by
  unfold q_fold
  cases h1 : Nat.beq op 1 with
  | true =>
    have := Nat.eq_of_beq_eq_true h1
    subst this
    show q_nrm (x.toInt + y.toInt) = (x + y).toInt
    rw [q_nrm_ok, Int32.ofInt_add, q_of, q_of]
  | false =>
    cases h2 : Nat.beq op 2 with
    | true =>
      have := Nat.eq_of_beq_eq_true h2
      subst this
      show q_nrm (x.toInt - y.toInt) = (x - y).toInt
      rw [q_nrm_ok, Int32.ofInt_sub, q_of, q_of]
    | false =>
      show (q_F op (Int32.ofInt x.toInt) (Int32.ofInt y.toInt)).toInt = _
      rw [q_of, q_of]
theorem q_iv_ok {ρ : List Int} {env : q_S} (he : q_re ρ env) {a : q_N} {x : Int} (h : q_r ρ a x) : (q_iv env a).1 ≤ x ∧ x ≤ (q_iv env a).2 := by
  cases a with
  | inl c => have h : x = c := h; subst h; exact ⟨Int.le_refl _, Int.le_refl _⟩
  | inr k =>
    have h : ρ[k]? = some x := h
    have hl := (List.getElem?_eq_some_iff.mp h).1
    rw [he.1] at hl
    have h2 : env[k]? = some env[k] := List.getElem?_eq_getElem hl
    obtain ⟨y, h3, h4, h5, -⟩ := he.2 k _ h2
    have : x = y := Option.some.inj (h.symm.trans h3)
    subst this
    unfold q_iv
    simp only [q_nth_eq, h2]
    exact ⟨h4, h5⟩
theorem q_c_ok {ρ : List Int} {env : q_S} (he : q_re ρ env) {a : q_N} {x c : Int} (h : q_r ρ a x) (hc : q_c env a = some c) : x = c := by
  cases a with
  | inl d => cases hc; exact h
  | inr k =>
    have hi := q_iv_ok he h
    unfold q_c at hc
    unfold q_iv at hi
    dsimp only at hc hi
    cases hn : q_nth env k with
    | none => rw [hn] at hc; cases hc
    | some e =>
      rw [hn] at hc hi
      dsimp only at hc hi
      cases hq : q_ieq e.1 e.2.1 with
      | false => rw [hq] at hc; cases hc
      | true =>
        rw [hq] at hc
        cases hc
        have := (q_ieq_ok _ _).mp hq
        omega
theorem q_new_ok {ρ : List Int} {env : q_S} (he : q_re ρ env) {e : q_E} {z : Int} (h1 : e.1 ≤ z) (h2 : z ≤ e.2.1) (h3 : e.2.2.1 = 0 ∨ ∃ u v : Int32, q_r ρ e.2.2.2.1 u.toInt ∧ q_r ρ e.2.2.2.2 v.toInt ∧ z = (q_F e.2.2.1 u v).toInt) : q_px ρ (ρ ++ [z]) ∧ q_re (ρ ++ [z]) (q_app env e) ∧ q_r (ρ ++ [z]) (.inr (q_len env)) z := by
  have hp : q_px ρ (ρ ++ [z]) := ⟨[z], rfl⟩
  refine ⟨hp, ⟨by rw [q_app_eq]; simp [he.1], fun k e' hk => ?_⟩, ?_⟩
  · rw [q_app_eq] at hk
    by_cases hl : k < env.length
    · rw [List.getElem?_append_left hl] at hk
      obtain ⟨x, a1, a2, a3, a4⟩ := he.2 k e' hk
      refine ⟨x, q_r_px (a := .inr k) hp a1, a2, a3, a4.imp id (fun ⟨u, v, b1, b2, b3⟩ => ⟨u, v, q_r_px hp b1, q_r_px hp b2, b3⟩)⟩
    · rw [List.getElem?_append_right (by omega)] at hk
      have hz : k - env.length < 1 := (List.getElem?_eq_some_iff.mp hk).1
      have e0 : k - env.length = 0 := by omega
      rw [e0] at hk
      cases hk
      have ek : k = ρ.length := by rw [he.1]; omega
      refine ⟨z, by rw [ek]; simp, h1, h2, h3.imp id (fun ⟨u, v, b1, b2, b3⟩ => ⟨u, v, q_r_px hp b1, q_r_px hp b2, b3⟩)⟩
  · show (ρ ++ [z])[q_len env]? = some z
    rw [q_len_eq, ← he.1]
    simp
theorem q_and_iv {x y : Int32} (h : 0 ≤ y.toInt) : 0 ≤ (x &&& y).toInt ∧ (x &&& y).toInt ≤ y.toInt := by
  have e1 : (x &&& y).toInt = (x.toBitVec &&& y.toBitVec).toInt := rfl
  have e2 : y.toInt = y.toBitVec.toInt := rfl
  rw [e1, e2]
  rw [e2] at h
  have hy : y.toBitVec.toNat < 2 ^ 31 := by
    rw [BitVec.toInt_eq_toNat_cond] at h
    have := y.toBitVec.isLt
    split at h
    · omega
    · omega
  have ha : (x.toBitVec &&& y.toBitVec).toNat ≤ y.toBitVec.toNat := by
    rw [BitVec.toNat_and]
    exact Nat.and_le_right
  rw [BitVec.toInt_eq_toNat_cond, BitVec.toInt_eq_toNat_cond, if_pos (by omega), if_pos (by omega)]
  constructor
  · omega
  · exact Int.ofNat_le.mpr ha
theorem q_and_comm (x y : Int32) : x &&& y = y &&& x := Int32.and_comm x y
theorem q_nb_ok {a b : q_N} (h : q_nb a b = true) : a = b := by
  unfold q_nb at h
  split at h
  · rw [q_ieq_ok] at h; rw [h]
  · rw [Nat.eq_of_beq_eq_true h]
  · cases h
theorem q_cse_ok (op : Nat) (a b : q_N) : ∀ (env : q_S) (k0 s : Nat), List.rec (motive := fun _ => Nat → Option Nat) (fun _ => none) (fun h _ ih k => bif Nat.beq h.2.2.1 op && (q_nb h.2.2.2.1 a && q_nb h.2.2.2.2 b) then some k else ih (Nat.succ k)) env k0 = some s → ∃ e, k0 ≤ s ∧ env[s - k0]? = some e ∧ e.2.2.1 = op ∧ e.2.2.2.1 = a ∧ e.2.2.2.2 = b
  | [], k0, s, h => by cases h
  | e :: r, k0, s, h => by
    have h : (bif Nat.beq e.2.2.1 op && (q_nb e.2.2.2.1 a && q_nb e.2.2.2.2 b) then some k0 else List.rec (motive := fun _ => Nat → Option Nat) (fun _ => none) (fun h _ ih k => bif Nat.beq h.2.2.1 op && (q_nb h.2.2.2.1 a && q_nb h.2.2.2.2 b) then some k else ih (Nat.succ k)) r (Nat.succ k0)) = some s := h
    cases hb : (Nat.beq e.2.2.1 op && (q_nb e.2.2.2.1 a && q_nb e.2.2.2.2 b)) with
    | true =>
      rw [hb] at h
      cases h
      rw [Bool.and_eq_true, Bool.and_eq_true] at hb
      exact ⟨e, Nat.le_refl _, by simp, Nat.eq_of_beq_eq_true hb.1, q_nb_ok hb.2.1, q_nb_ok hb.2.2⟩
    | false =>
      rw [hb] at h
      obtain ⟨e2, h1, h2, h3⟩ := q_cse_ok op a b r (Nat.succ k0) s h
      refine ⟨e2, by omega, ?_, h3⟩
      have : s - k0 = (s - Nat.succ k0) + 1 := by omega
      rw [this]
      simpa using h2
def q_bok (k : q_N → q_S → Bool) (ρ : List Int) (z : Int) : Prop := ∃ ρ' env' v, q_px ρ ρ' ∧ q_re ρ' env' ∧ q_r ρ' v z ∧ k v env' = true
theorem q_m1_and (y : Int32) : (-1 : Int32) &&& y = y := by
  apply Int32.toBitVec_inj.mp
  rw [Int32.toBitVec_and]
  have : (-1 : Int32).toBitVec = BitVec.allOnes 32 := by decide
  rw [this, BitVec.allOnes_and]
def q_ro (ρ : List Int) (v : Option q_V) (r : Option Value) : Prop := match v, r with
  | none, none => True
  | some v, some w => q_rv ρ v w
  | _, _ => False
