/-! what the abstract machine's words mean -/
def q_r (ρ : List Int) (a : q_N) (x : Int) : Prop := match a with
  | .inl c => x = c
  | .inr k => ρ[k]? = some x
def q_rv (ρ : List Int) (v : q_V) (w : Value) : Prop := match v with
  | .inl a => ∃ x : Int32, w = .int x ∧ q_r ρ a x.toInt
  | .inr (.inl a) => ∃ x : Int64, w = .long x ∧ q_r ρ a x.toInt
  | .inr (.inr o) => w = va_rf o
def q_al2 {α β : Type} (R : α → β → Prop) : List α → List β → Prop
  | [], [] => True
  | a :: s, b :: t => R a b ∧ q_al2 R s t
  | _, _ => False
def q_rl (ρ : List Int) (ls : q_L) (lc : g_Lc) : Prop := q_al2 (fun p q => p.1 = q.1 ∧ q_rv ρ p.2 q.2) ls lc
def q_rc (ρ : List Int) (c : q_C) (d : g_Ce) : Prop := match c with
  | .inl (t, n, ups) => ∃ f : Nat → Int32, d = .inl (t, n, .inl f) ∧ ∀ j, q_r ρ (q_at (.inl 0) ups j) (f j).toInt
  | .inr (.inl (n, ups)) => ∃ f : Nat → Option Nat, d = .inl (3, n, .inr f) ∧ ∀ j, f j = q_at none ups j
  | .inr (.inr (ci, fs)) => ∃ gs : List Value, d = .inr (ci, gs) ∧ q_al2 (q_rv ρ) fs gs
def q_re (ρ : List Int) (env : q_S) : Prop := ρ.length = env.length ∧ ∀ (k : Nat) (e : q_E), env[k]? = some e → ∃ x, ρ[k]? = some x ∧ e.1 ≤ x ∧ x ≤ e.2.1 ∧ (e.2.2.1 = 0 ∨ ∃ u v : Int32, q_r ρ e.2.2.2.1 u.toInt ∧ q_r ρ e.2.2.2.2 v.toInt ∧ x = (q_F e.2.2.1 u v).toInt)
def q_rh (ρ : List Int) (n : Nat) (rows : q_H) (σ : List g_Ce) : Prop := σ.length = n ∧ ∀ (a : Nat) (c : g_Ce), σ[a]? = some c → ∃ d, q_get rows a = some d ∧ q_rc ρ d c
def q_rs (ρ : List Int) (scr : List q_N) (xs : Nat → Int32) : Prop := ∀ (j : Nat) (a : q_N), scr[j]? = some a → q_r ρ a (xs j).toInt
def q_ra (ρ : List Int) (scr : List q_N) (xs : Nat → Int32) (A : q_A) (σ : List g_Ce) : Prop := q_re ρ A.1 ∧ q_rh ρ A.2.1 A.2.2 σ ∧ q_rs ρ scr xs
def q_px (ρ ρ' : List Int) : Prop := ∃ t, ρ' = ρ ++ t
theorem q_px_rf (ρ : List Int) : q_px ρ ρ := ⟨[], by simp⟩
theorem q_px_tr {a b c : List Int} (h1 : q_px a b) (h2 : q_px b c) : q_px a c := by
  obtain ⟨t, rfl⟩ := h1
  obtain ⟨u, rfl⟩ := h2
  exact ⟨t ++ u, by simp⟩
theorem q_r_px {ρ ρ' : List Int} (h : q_px ρ ρ') {a : q_N} {x : Int} (hr : q_r ρ a x) : q_r ρ' a x := by
  obtain ⟨t, rfl⟩ := h
  cases a with
  | inl c => exact hr
  | inr k =>
    have hr : ρ[k]? = some x := hr
    show (ρ ++ t)[k]? = some x
    rw [List.getElem?_append_left (List.getElem?_eq_some_iff.mp hr).1]
    exact hr
theorem q_rv_px {ρ ρ' : List Int} (h : q_px ρ ρ') {a : q_V} {x : Value} (hr : q_rv ρ a x) : q_rv ρ' a x := by
  match a, hr with
  | .inl a, ⟨x, h1, h2⟩ => exact ⟨x, h1, q_r_px h h2⟩
  | .inr (.inl a), ⟨x, h1, h2⟩ => exact ⟨x, h1, q_r_px h h2⟩
  | .inr (.inr o), hr => exact hr
theorem q_al2_imp {α β : Type} {R S : α → β → Prop} (h : ∀ a b, R a b → S a b) : ∀ {s : List α} {t : List β}, q_al2 R s t → q_al2 S s t
  | [], [], _ => trivial
  | _ :: _, _ :: _, ⟨h1, h2⟩ => ⟨h _ _ h1, q_al2_imp h h2⟩
  | [], _ :: _, h => h.elim
  | _ :: _, [], h => h.elim
theorem q_st_px {ρ ρ' : List Int} (h : q_px ρ ρ') {s : List q_V} {t : List Value} (hr : q_al2 (q_rv ρ) s t) : q_al2 (q_rv ρ') s t := q_al2_imp (fun _ _ => q_rv_px h) hr
theorem q_rl_px {ρ ρ' : List Int} (h : q_px ρ ρ') {s : q_L} {t : g_Lc} (hr : q_rl ρ s t) : q_rl ρ' s t := q_al2_imp (fun _ _ h2 => ⟨h2.1, q_rv_px h h2.2⟩) hr
theorem q_rc_px {ρ ρ' : List Int} (h : q_px ρ ρ') {c : q_C} {d : g_Ce} (hr : q_rc ρ c d) : q_rc ρ' c d := by
  match c, hr with
  | .inl (t, n, ups), ⟨f, h1, h2⟩ => exact ⟨f, h1, fun j => q_r_px h (h2 j)⟩
  | .inr (.inl (n, ups)), hr => exact hr
  | .inr (.inr (ci, fs)), ⟨gs, h1, h2⟩ => exact ⟨gs, h1, q_st_px h h2⟩
theorem q_rh_px {ρ ρ' : List Int} (h : q_px ρ ρ') {n : Nat} {rows : q_H} {σ : List g_Ce} (hr : q_rh ρ n rows σ) : q_rh ρ' n rows σ := ⟨hr.1, fun a c hc => by
  obtain ⟨d, h1, h2⟩ := hr.2 a c hc
  exact ⟨d, h1, q_rc_px h h2⟩⟩
theorem q_rs_px {ρ ρ' : List Int} (h : q_px ρ ρ') {scr : List q_N} {xs : Nat → Int32} (hr : q_rs ρ scr xs) : q_rs ρ' scr xs := fun j a hj => q_r_px h (hr j a hj)
theorem q_r_inj {ρ : List Int} {a : q_N} {x y : Int} (h1 : q_r ρ a x) (h2 : q_r ρ a y) : x = y := by
  cases a with
  | inl c => exact h1.trans h2.symm
  | inr k =>
    have h1 : ρ[k]? = some x := h1
    have h2 : ρ[k]? = some y := h2
    exact Option.some.inj (h1.symm.trans h2)
-- lists
theorem q_nth_eq {α : Type} : ∀ (l : List α) (i : Nat), q_nth l i = l[i]?
  | [], _ => rfl
  | _ :: _, 0 => rfl
  | _ :: t, i + 1 => by
    show q_nth t i = _
    rw [q_nth_eq t i]
    simp
theorem q_put_eq {α : Type} : ∀ (l : List α) (i : Nat) (v : α), q_put l i v = l.set i v
  | [], _, _ => rfl
  | _ :: _, 0, _ => rfl
  | h :: t, i + 1, v => by
    show h :: q_put t i v = _
    rw [q_put_eq t i v]
    simp
theorem q_len_eq {α : Type} : ∀ (l : List α), q_len l = l.length
  | [] => rfl
  | _ :: t => by
    show Nat.succ (q_len t) = _
    rw [q_len_eq t]
    simp
theorem q_app_eq {α : Type} : ∀ (l : List α) (v : α), q_app l v = l ++ [v]
  | [], _ => rfl
  | h :: t, v => by
    show h :: q_app t v = _
    rw [q_app_eq t v]
    simp
theorem q_at_ins {α : Type} (d : α) : ∀ (l : List (Nat × α)) (i : Nat) (v : α) (j : Nat), q_at d (q_ins l i v) j = if j = i then v else q_at d l j
  | [], i, v, j => by
    show (bif Nat.beq i j then v else d) = _
    by_cases h : j = i
    · subst h; simp
    · have : Nat.beq i j = false := by
        cases hb : Nat.beq i j with
        | true => exact absurd (Nat.eq_of_beq_eq_true hb).symm h
        | false => rfl
      rw [this]; simp [h]; rfl
  | q :: t, i, v, j => by
    show q_at d (bif Nat.beq q.1 i then (i, v) :: t else q :: q_ins t i v) j = _
    cases hb : Nat.beq q.1 i with
    | true =>
      have e := Nat.eq_of_beq_eq_true hb
      show (bif Nat.beq i j then v else q_at d t j) = if j = i then v else (bif Nat.beq q.1 j then q.2 else q_at d t j)
      rw [e]
      by_cases h : j = i
      · subst h; simp
      · have : Nat.beq i j = false := by
          cases hb : Nat.beq i j with
          | true => exact absurd (Nat.eq_of_beq_eq_true hb).symm h
          | false => rfl
        rw [this]; simp [h]
    | false =>
      show (bif Nat.beq q.1 j then q.2 else q_at d (q_ins t i v) j) = if j = i then v else (bif Nat.beq q.1 j then q.2 else q_at d t j)
      rw [q_at_ins d t i v j]
      cases hc : Nat.beq q.1 j with
      | true =>
        have e := Nat.eq_of_beq_eq_true hc
        have : ¬ j = i := fun h => by rw [← h, ← e] at hb; simp at hb
        simp [this]
      | false => simp
theorem q_al2_nth {α β : Type} {R : α → β → Prop} : ∀ {s : List α} {t : List β} (_ : q_al2 R s t) (i : Nat) {a : α}, s[i]? = some a → ∃ b, t[i]? = some b ∧ R a b
  | [], [], _, _, _, h => by simp at h
  | _ :: _, b :: _, ⟨h1, _⟩, 0, a, h => by
    simp at h
    subst h
    exact ⟨b, by simp, h1⟩
  | _ :: s, _ :: t, ⟨_, h2⟩, i + 1, a, h => by
    obtain ⟨b, h3, h4⟩ := q_al2_nth h2 i (by simpa using h)
    exact ⟨b, by simpa using h3, h4⟩
  | [], _ :: _, h, _, _, _ => h.elim
  | _ :: _, [], h, _, _, _ => h.elim
theorem q_al2_set {α β : Type} {R : α → β → Prop} : ∀ {s : List α} {t : List β} (_ : q_al2 R s t) (i : Nat) {a : α} {b : β}, R a b → q_al2 R (s.set i a) (t.set i b)
  | [], [], _, _, _, _, _ => trivial
  | _ :: _, _ :: _, ⟨_, h2⟩, 0, _, _, h => ⟨h, h2⟩
  | _ :: _, _ :: _, ⟨h1, h2⟩, i + 1, _, _, h => ⟨h1, q_al2_set h2 i h⟩
  | [], _ :: _, h, _, _, _, _ => h.elim
  | _ :: _, [], h, _, _, _, _ => h.elim
theorem q_al2_len {α β : Type} {R : α → β → Prop} : ∀ {s : List α} {t : List β}, q_al2 R s t → s.length = t.length
  | [], [], _ => rfl
  | _ :: _, _ :: _, ⟨_, h2⟩ => by simp [q_al2_len h2]
  | [], _ :: _, h => h.elim
  | _ :: _, [], h => h.elim
theorem q_get_wr (rows : q_H) (a : Nat) (c : q_C) {d : q_C} (h : q_get rows a = some d) (b : Nat) : q_get (q_wr rows a c) b = if b = a then some c else q_get rows b := by
  unfold q_get q_wr at *
  simp only [q_nth_eq, q_put_eq] at *
  cases hr : rows[a / 16]? with
  | none => rw [hr] at h; cases h
  | some r =>
    rw [hr] at h
    dsimp only at h ⊢
    have hl := (List.getElem?_eq_some_iff.mp hr).1
    have hl2 := (List.getElem?_eq_some_iff.mp h).1
    by_cases e : b / 16 = a / 16
    · rw [e, List.getElem?_set_self hl, hr]
      dsimp only
      by_cases e2 : b % 16 = a % 16
      · have : b = a := by omega
        subst this
        rw [List.getElem?_set_self hl2]
        simp
      · have : ¬ b = a := fun h => e2 (by rw [h])
        rw [List.getElem?_set_ne (Ne.symm e2)]
        simp [this]
    · have : ¬ b = a := fun h => e (by rw [h])
      rw [List.getElem?_set_ne (Ne.symm e)]
      simp [this]
theorem q_push_ok {rows : q_H} {n : Nat} {c : q_C} {k : q_H → Bool} (h : q_push rows n c k = true) : ∃ rows', k rows' = true ∧ q_get rows' n = some c ∧ ∀ a, a < n → q_get rows' a = q_get rows a := by
  unfold q_push at h
  simp only [q_len_eq, q_nth_eq, q_app_eq, q_put_eq] at h
  cases hm : Nat.beq (n % 16) 0 with
  | true =>
    rw [hm] at h
    dsimp only [cond_true] at h
    cases hl : Nat.beq rows.length (n / 16) with
    | false => rw [hl] at h; cases h
    | true =>
      rw [hl] at h
      have e1 := Nat.eq_of_beq_eq_true hm
      have e2 := Nat.eq_of_beq_eq_true hl
      refine ⟨_, h, ?_, fun a ha => ?_⟩
      · unfold q_get
        rw [q_nth_eq, ← e2, e1]
        simp [q_nth_eq]
      · unfold q_get
        rw [q_nth_eq, q_nth_eq, List.getElem?_append_left (by omega)]
  | false =>
    rw [hm] at h
    dsimp only [cond_false] at h
    cases hr : rows[n / 16]? with
    | none => rw [hr] at h; cases h
    | some r =>
      rw [hr] at h
      dsimp only at h
      cases hl : Nat.beq r.length (n % 16) with
      | false => rw [hl] at h; cases h
      | true =>
        rw [hl] at h
        have e2 := Nat.eq_of_beq_eq_true hl
        have hl := (List.getElem?_eq_some_iff.mp hr).1
        refine ⟨_, h, ?_, fun a ha => ?_⟩
        · unfold q_get
          rw [q_nth_eq, List.getElem?_set_self hl]
          dsimp only
          rw [q_nth_eq, ← e2]
          simp
        · unfold q_get
          simp only [q_nth_eq]
          by_cases e : a / 16 = n / 16
          · rw [e, List.getElem?_set_self hl, hr]
            dsimp only
            rw [List.getElem?_append_left (by omega)]
          · rw [List.getElem?_set_ne (Ne.symm e)]
