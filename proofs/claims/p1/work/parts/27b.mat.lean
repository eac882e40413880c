/-! a state of the abstract machine against a pattern, and a pattern's symbols anew -/
noncomputable def q_all2b {α β : Type} (p : α → β → Bool) (s : List α) : List β → Bool := List.rec (motive := fun _ => List β → Bool) (fun t => match t with
  | [] => true
  | _ :: _ => false) (fun a _ ih t => match t with
  | [] => false
  | b :: r => bif p a b then ih r else false) s
theorem q_all2b_ok {α β : Type} {p : α → β → Bool} : ∀ {s : List α} {t : List β}, q_all2b p s t = true → q_al2 (fun a b => p a b = true) s t
  | [], [], _ => trivial
  | [], _ :: _, h => by cases h
  | a :: s, [], h => by cases h
  | a :: s, b :: t, h => by
    have h : (bif p a b then q_all2b p s t else false) = true := h
    obtain ⟨h1, h2⟩ := q_bifc h
    exact ⟨h1, q_all2b_ok h2⟩
theorem q_al2_nth2 {α β : Type} {R : α → β → Prop} : ∀ {s : List α} {t : List β} (_ : q_al2 R s t) (i : Nat) {b : β}, t[i]? = some b → ∃ a, s[i]? = some a ∧ R a b
  | [], [], _, _, _, h => by simp at h
  | a :: _, _ :: _, ⟨h1, _⟩, 0, b, h => by
    simp at h
    subst h
    exact ⟨a, by simp, h1⟩
  | _ :: s, _ :: t, ⟨_, h2⟩, i + 1, b, h => by
    obtain ⟨a, h3, h4⟩ := q_al2_nth2 h2 i (by simpa using h)
    exact ⟨a, by simpa using h3, h4⟩
  | [], _ :: _, h, _, _, _ => h.elim
  | _ :: _, [], h, _, _, _ => h.elim
noncomputable def q_cmp (θ : List q_N) (v a : q_N) : Bool := match v with
  | .inl c => q_nb (.inl c) a
  | .inr k => match q_nth θ k with
    | some b => q_nb b a
    | none => false
def q_ob (a b : Option Nat) : Bool := match a, b with
  | none, none => true
  | some a, some b => Nat.beq a b
  | _, _ => false
noncomputable def q_cmpV (θ : List q_N) (v a : q_V) : Bool := match v, a with
  | .inl v, .inl a => q_cmp θ v a
  | .inr (.inl v), .inr (.inl a) => q_cmp θ v a
  | .inr (.inr v), .inr (.inr a) => q_ob v a
  | _, _ => false
noncomputable def q_cmpU (θ : List q_N) (u w : List (Nat × q_N)) (q : Nat × q_N) : Bool := q_cmp θ (q_at (.inl 0) u q.1) (q_at (.inl 0) w q.1)
noncomputable def q_cmpO (u w : List (Nat × Option Nat)) (q : Nat × Option Nat) : Bool := q_ob (q_at none u q.1) (q_at none w q.1)
noncomputable def q_cmpC (θ : List q_N) (p a : q_C) : Bool := match p, a with
  | .inl (t, n, u), .inl (t', n', w) => (Nat.beq t t' && Nat.beq n n') && (q_allb (q_cmpU θ u w) u && q_allb (q_cmpU θ u w) w)
  | .inr (.inl (n, u)), .inr (.inl (n', w)) => Nat.beq n n' && (q_allb (q_cmpO u w) u && q_allb (q_cmpO u w) w)
  | .inr (.inr (c, fs)), .inr (.inr (c', gs)) => Nat.beq c c' && q_all2b (q_cmpV θ) fs gs
  | _, _ => false
theorem q_at_none {α : Type} (d : α) : ∀ (l : List (Nat × α)) (j : Nat), (∀ q ∈ l, q.1 ≠ j) → q_at d l j = d
  | [], j, _ => rfl
  | q :: l, j, h => by
    show (bif Nat.beq q.1 j then q.2 else q_at d l j) = d
    have h1 := h q List.mem_cons_self
    have : Nat.beq q.1 j = false := by
      cases hb : Nat.beq q.1 j with
      | true => exact absurd (Nat.eq_of_beq_eq_true hb) h1
      | false => rfl
    rw [this]
    exact q_at_none d l j (fun q hq => h q (List.mem_cons_of_mem _ hq))
theorem q_ob_ok {a b : Option Nat} (h : q_ob a b = true) : a = b := by
  unfold q_ob at h
  split at h
  · rfl
  · rw [q_beq h]
  · cases h
section QM
variable {ρ ρP : List Int} {θ : List q_N}
theorem q_cmp_ok (hθ : ∀ (k : Nat) (b : q_N), θ[k]? = some b → ∃ x, ρP[k]? = some x ∧ q_r ρ b x) {v a : q_N} {x : Int} (h : q_cmp θ v a = true) (hr : q_r ρ a x) : q_r ρP v x := by
  unfold q_cmp at h
  split at h
  · have := q_nb_ok h
    subst this
    exact hr
  · rename_i k
    split at h
    · rename_i b hb
      rw [q_nth_eq] at hb
      have := q_nb_ok h
      subst this
      obtain ⟨y, h1, h2⟩ := hθ k b hb
      rw [q_r_inj hr h2]
      exact h1
    · cases h
theorem q_cmpV_ok (hθ : ∀ (k : Nat) (b : q_N), θ[k]? = some b → ∃ x, ρP[k]? = some x ∧ q_r ρ b x) {v a : q_V} {w : Value} (h : q_cmpV θ v a = true) (hr : q_rv ρ a w) : q_rv ρP v w := by
  unfold q_cmpV at h
  split at h
  · obtain ⟨x, h1, h2⟩ := hr
    exact ⟨x, h1, q_cmp_ok hθ h h2⟩
  · obtain ⟨x, h1, h2⟩ := hr
    exact ⟨x, h1, q_cmp_ok hθ h h2⟩
  · have := q_ob_ok h
    subst this
    exact hr
  · cases h
theorem q_cmpC_ok (hθ : ∀ (k : Nat) (b : q_N), θ[k]? = some b → ∃ x, ρP[k]? = some x ∧ q_r ρ b x) {p a : q_C} {d : g_Ce} (h : q_cmpC θ p a = true) (hr : q_rc ρ a d) : q_rc ρP p d := by
  unfold q_cmpC at h
  split at h
  · rename_i t n u t' n' w
    rw [Bool.and_eq_true, Bool.and_eq_true, Bool.and_eq_true] at h
    obtain ⟨⟨h1, h2⟩, h3, h4⟩ := h
    have e1 := q_beq h1
    have e2 := q_beq h2
    subst e1 e2
    obtain ⟨f, rfl, hf⟩ := hr
    refine ⟨f, rfl, fun j => ?_⟩
    by_cases hu : ∃ q ∈ u, q.1 = j
    · obtain ⟨q, hq, rfl⟩ := hu
      exact q_cmp_ok hθ (q_allb_ok h3 q hq) (hf q.1)
    · by_cases hw : ∃ q ∈ w, q.1 = j
      · obtain ⟨q, hq, rfl⟩ := hw
        exact q_cmp_ok hθ (q_allb_ok h4 q hq) (hf q.1)
      · have e1 := q_at_none (.inl 0 : q_N) u j (fun q hq e => hu ⟨q, hq, e⟩)
        have e2 := q_at_none (.inl 0 : q_N) w j (fun q hq e => hw ⟨q, hq, e⟩)
        have := hf j
        rw [e2] at this
        rw [e1]
        exact this
  · rename_i n u n' w
    rw [Bool.and_eq_true, Bool.and_eq_true] at h
    obtain ⟨h1, h3, h4⟩ := h
    have e1 := q_beq h1
    subst e1
    obtain ⟨f, rfl, hf⟩ := hr
    refine ⟨f, rfl, fun j => ?_⟩
    rw [hf j]
    by_cases hu : ∃ q ∈ u, q.1 = j
    · obtain ⟨q, hq, rfl⟩ := hu
      exact (q_ob_ok (q_allb_ok h3 q hq)).symm
    · by_cases hw : ∃ q ∈ w, q.1 = j
      · obtain ⟨q, hq, rfl⟩ := hw
        exact (q_ob_ok (q_allb_ok h4 q hq)).symm
      · rw [q_at_none none u j (fun q hq e => hu ⟨q, hq, e⟩), q_at_none none w j (fun q hq e => hw ⟨q, hq, e⟩)]
  · rename_i c fs c' gs
    rw [Bool.and_eq_true] at h
    have e1 := q_beq h.1
    subst e1
    obtain ⟨vs, rfl, hv⟩ := hr
    refine ⟨vs, rfl, ?_⟩
    have key : ∀ {s t : List q_V} {vs : List Value}, q_al2 (fun a b => q_cmpV θ a b = true) s t → q_al2 (q_rv ρ) t vs → q_al2 (q_rv ρP) s vs := by
      intro s
      induction s with
      | nil =>
        intro t vs h1 h2
        cases t with
        | nil => cases vs with
          | nil => trivial
          | cons _ _ => exact h2.elim
        | cons _ _ => exact h1.elim
      | cons a s ihs =>
        intro t vs h1 h2
        cases t with
        | nil => exact h1.elim
        | cons b t => cases vs with
          | nil => exact h2.elim
          | cons v vs => exact ⟨q_cmpV_ok hθ h1.1 h2.1, ihs h1.2 h2.2⟩
    exact key (q_all2b_ok h.2) hv
  · cases h
noncomputable def q_cmpH (θ : List q_N) (p a : q_H) : Bool := q_all2b (q_all2b (q_cmpC θ)) p a
theorem q_cmpH_ok (hθ : ∀ (k : Nat) (b : q_N), θ[k]? = some b → ∃ x, ρP[k]? = some x ∧ q_r ρ b x) {p a : q_H} {n : Nat} {σ : List g_Ce} (h : q_cmpH θ p a = true) (hr : q_rh ρ n a σ) : q_rh ρP n p σ := by
  refine ⟨hr.1, fun i c hc => ?_⟩
  obtain ⟨d, h1, h2⟩ := hr.2 i c hc
  unfold q_get at h1
  simp only [q_nth_eq] at h1
  split at h1
  · rename_i row hrow
    obtain ⟨row', k1, k2⟩ := q_al2_nth2 (q_all2b_ok h) (i / 16) hrow
    obtain ⟨d', k3, k4⟩ := q_al2_nth2 (q_all2b_ok k2) (i % 16) h1
    refine ⟨d', ?_, q_cmpC_ok hθ k4 h2⟩
    unfold q_get
    simp only [q_nth_eq, k1]
    exact k3
  · cases h1
end QM
/-- the bounds, and that each is there -/
noncomputable def q_cmpE (env : q_S) (b : q_N) (e : q_E) : Bool := (match b with
  | .inl _ => true
  | .inr s => Nat.blt s (q_len env)) && (Nat.beq e.2.2.1 0 && (q_ile e.1 (q_iv env b).1 && q_ile (q_iv env b).2 e.2.1))
noncomputable def q_mat (θ : List q_N) (EP : q_S) (n : Nat) (rows : q_H) (scr : List q_N) (A : q_A) : Bool := bif q_all2b (q_cmpE A.1) θ EP then (bif Nat.beq n A.2.1 then (bif q_all2b (q_cmp θ) scr scr then q_cmpH θ rows A.2.2 else false) else false) else false
def q_val (ρ : List Int) (b : q_N) : Int := match b with
  | .inl c => c
  | .inr s => ρ.getD s 0
theorem q_mat_ok {ρ : List Int} {θ : List q_N} {EP : q_S} {n : Nat} {rows : q_H} {scr : List q_N} {xs : Nat → Int32} {A : q_A} {σ : List g_Ce} (h : q_mat θ EP n rows scr A = true) (ha : q_ra ρ scr xs A σ) : q_ra (θ.map (q_val ρ)) scr xs (EP, n, rows) σ ∧ ∀ (k : Nat) (b : q_N), θ[k]? = some b → q_r ρ b (q_val ρ b) := by
  unfold q_mat at h
  obtain ⟨h1, h⟩ := q_bifc h
  obtain ⟨h2, h⟩ := q_bifc h
  obtain ⟨h3, h4⟩ := q_bifc h
  have e2 := q_beq h2
  have a1 := q_all2b_ok h1
  have hdef : ∀ (k : Nat) (b : q_N), θ[k]? = some b → q_r ρ b (q_val ρ b) := by
    intro k b hb
    obtain ⟨e, k1, k2⟩ := q_al2_nth a1 k hb
    unfold q_cmpE at k2
    rw [Bool.and_eq_true] at k2
    cases b with
    | inl c => rfl
    | inr s =>
      have hs : s < ρ.length := by
        have := q_blt k2.1
        rw [q_len_eq] at this
        rw [ha.1.1]
        exact this
      show ρ[s]? = some (ρ.getD s 0)
      rw [List.getElem?_eq_getElem hs]
      simp [List.getD, hs]
  have hθ : ∀ (k : Nat) (b : q_N), θ[k]? = some b → ∃ x, (θ.map (q_val ρ))[k]? = some x ∧ q_r ρ b x := fun k b hb => ⟨q_val ρ b, by simp [hb], hdef k b hb⟩
  refine ⟨⟨⟨?_, fun k e hk => ?_⟩, ?_, ?_⟩, hdef⟩
  · rw [List.length_map]
    exact q_al2_len a1
  · obtain ⟨b, k1, k2⟩ := q_al2_nth2 a1 k hk
    unfold q_cmpE at k2
    rw [Bool.and_eq_true, Bool.and_eq_true, Bool.and_eq_true, q_ile_ok, q_ile_ok] at k2
    have hi := q_iv_ok ha.1 (hdef k b k1)
    exact ⟨q_val ρ b, by simp [k1], by omega, by omega, Or.inl (q_beq k2.2.1)⟩
  · have := q_cmpH_ok hθ h4 ha.2.1
    rw [← e2] at this
    exact this
  · intro j a hj
    obtain ⟨b, k1, k2⟩ := q_al2_nth (q_all2b_ok h3) j hj
    rw [hj] at k1
    cases k1
    exact q_cmp_ok hθ k2 (ha.2.2 j a hj)
-- symbols anew
def q_rnN (f : Nat → Nat) (v : q_N) : q_N := match v with
  | .inl c => .inl c
  | .inr k => .inr (f k)
def q_rnV (f : Nat → Nat) (v : q_V) : q_V := match v with
  | .inl a => .inl (q_rnN f a)
  | .inr (.inl a) => .inr (.inl (q_rnN f a))
  | .inr (.inr o) => .inr (.inr o)
def q_rnC (f : Nat → Nat) (c : q_C) : q_C := match c with
  | .inl (t, n, u) => .inl (t, n, u.map (fun q => (q.1, q_rnN f q.2)))
  | .inr (.inl c) => .inr (.inl c)
  | .inr (.inr (ci, fs)) => .inr (.inr (ci, fs.map (q_rnV f)))
def q_rnH (f : Nat → Nat) (rows : q_H) : q_H := rows.map (fun r => r.map (q_rnC f))
section QR
variable {ρ ρ' : List Int} {f : Nat → Nat}
theorem q_rnN_ok (hf : ∀ (k : Nat) (x : Int), ρ[k]? = some x → ρ'[f k]? = some x) {v : q_N} {x : Int} (h : q_r ρ v x) : q_r ρ' (q_rnN f v) x := by
  cases v with
  | inl c => exact h
  | inr k => exact hf k x h
theorem q_rnV_ok (hf : ∀ (k : Nat) (x : Int), ρ[k]? = some x → ρ'[f k]? = some x) {v : q_V} {w : Value} (h : q_rv ρ v w) : q_rv ρ' (q_rnV f v) w := by
  match v, h with
  | .inl a, ⟨x, h1, h2⟩ => exact ⟨x, h1, q_rnN_ok hf h2⟩
  | .inr (.inl a), ⟨x, h1, h2⟩ => exact ⟨x, h1, q_rnN_ok hf h2⟩
  | .inr (.inr o), h => exact h
theorem q_rn_at (f : Nat → Nat) : ∀ (u : List (Nat × q_N)) (j : Nat), q_at (.inl 0) (u.map (fun q => (q.1, q_rnN f q.2))) j = q_rnN f (q_at (.inl 0) u j)
  | [], j => rfl
  | q :: u, j => by
    show (bif Nat.beq q.1 j then q_rnN f q.2 else q_at (.inl 0) (u.map (fun q => (q.1, q_rnN f q.2))) j) = q_rnN f (bif Nat.beq q.1 j then q.2 else q_at (.inl 0) u j)
    rw [q_rn_at f u j]
    cases Nat.beq q.1 j <;> rfl
theorem q_rnC_ok (hf : ∀ (k : Nat) (x : Int), ρ[k]? = some x → ρ'[f k]? = some x) {c : q_C} {d : g_Ce} (h : q_rc ρ c d) : q_rc ρ' (q_rnC f c) d := by
  match c, h with
  | .inl (t, n, u), ⟨g, h1, h2⟩ => exact ⟨g, h1, fun j => by rw [q_rn_at]; exact q_rnN_ok hf (h2 j)⟩
  | .inr (.inl (n, u)), h => exact h
  | .inr (.inr (ci, fs)), ⟨gs, h1, h2⟩ =>
    refine ⟨gs, h1, ?_⟩
    have key : ∀ {s : List q_V} {t : List Value}, q_al2 (q_rv ρ) s t → q_al2 (q_rv ρ') (s.map (q_rnV f)) t := by
      intro s
      induction s with
      | nil => intro t h; cases t with
        | nil => trivial
        | cons _ _ => exact h.elim
      | cons a s ihs => intro t h; cases t with
        | nil => exact h.elim
        | cons b t => exact ⟨q_rnV_ok hf h.1, ihs h.2⟩
    exact key h2
theorem q_rnH_ok (hf : ∀ (k : Nat) (x : Int), ρ[k]? = some x → ρ'[f k]? = some x) {n : Nat} {rows : q_H} {σ : List g_Ce} (h : q_rh ρ n rows σ) : q_rh ρ' n (q_rnH f rows) σ := by
  refine ⟨h.1, fun a c hc => ?_⟩
  obtain ⟨d, h1, h2⟩ := h.2 a c hc
  refine ⟨q_rnC f d, ?_, q_rnC_ok hf h2⟩
  unfold q_get at h1 ⊢
  simp only [q_nth_eq, q_rnH, List.getElem?_map] at h1 ⊢
  split at h1
  · rename_i r hr
    simp only [hr, Option.map_some, List.getElem?_map, h1]
  · cases h1
end QR
