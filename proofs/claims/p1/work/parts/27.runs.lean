noncomputable def q_allb {α : Type} (p : α → Bool) (l : List α) : Bool := List.rec (motive := fun _ => Bool) true (fun h _ ih => bif p h then ih else false) l
def q_szc (c : q_C) : Nat := match c with
  | .inl (_, n, _) => n
  | .inr (.inl (n, _)) => n
  | .inr (.inr (ci, _)) => g_nf ci
/-- the law's answer is 1; the room that was taken -/
noncomputable def q_K0 (v : Option q_V) (A : q_A) : Bool := match v with
  | some (.inl a) => bif q_ieq (q_iv A.1 a).1 1 && q_ieq (q_iv A.1 a).2 1 then (bif Nat.ble A.2.1 1000 then q_allb (q_allb (fun c => Nat.ble (q_szc c) 5000)) A.2.2 else false) else false
  | _ => false
theorem q_allb_ok {α : Type} {p : α → Bool} : ∀ {l : List α}, q_allb p l = true → ∀ a ∈ l, p a = true
  | [], _, a, h => by cases h
  | b :: l, h, a, ha => by
    have h : (bif p b then q_allb p l else false) = true := h
    obtain ⟨h1, h2⟩ := q_bifc h
    rcases List.mem_cons.mp ha with rfl | ha
    · exact h1
    · exact q_allb_ok h2 a ha
theorem q_sz_ok {ρ : List Int} {c : q_C} {d : g_Ce} (h : q_rc ρ c d) : g_sz d = q_szc c := by
  match c, h with
  | .inl (t, n, ups), ⟨f, h1, _⟩ => subst h1; rfl
  | .inr (.inl (n, ups)), ⟨f, h1, _⟩ => subst h1; rfl
  | .inr (.inr (ci, fs)), ⟨gs, h1, _⟩ => subst h1; rfl
theorem q_sl_le : ∀ (σ : List g_Ce), (∀ c ∈ σ, g_sz c ≤ 5000) → g_sl σ ≤ 5000 * σ.length
  | [], _ => Nat.le_refl _
  | c :: σ, h => by
    have h1 := h c List.mem_cons_self
    have h2 := q_sl_le σ (fun d hd => h d (List.mem_cons_of_mem _ hd))
    simp only [g_sl, List.map_cons, List.sum_cons, List.length_cons] at h2 ⊢
    omega
theorem q_K0_ok {ρ : List Int} {scr : List q_N} {xs : Nat → Int32} {v : Option q_V} {r : Option Value} {A : q_A} {σ : List g_Ce} (h : q_K0 v A = true) (hv : q_ro ρ v r) (ha : q_ra ρ scr xs A σ) : r = some (.int 1) ∧ σ.length ≤ 600000 ∧ g_sl σ ≤ 7302250 := by
  unfold q_K0 at h
  split at h
  · rename_i a
    obtain ⟨h1, h2⟩ := q_bifc h
    obtain ⟨h3, h4⟩ := q_bifc h2
    rw [Bool.and_eq_true, q_ieq_ok, q_ieq_ok] at h1
    rw [Nat.ble_eq] at h3
    cases r with
    | none => exact hv.elim
    | some w =>
      obtain ⟨u, rfl, hu⟩ := (show q_rv ρ (.inl a) w from hv)
      have hi := q_iv_ok ha.1 hu
      have hu1 : u = 1 := q_inj (by have : (1 : Int32).toInt = 1 := rfl
                                    omega)
      have hlen : σ.length ≤ 1000 := by rw [ha.2.1.1]; exact h3
      have hsz : ∀ c ∈ σ, g_sz c ≤ 5000 := by
        intro c hc
        obtain ⟨i, hi⟩ := List.getElem?_of_mem hc
        obtain ⟨d, k1, k2⟩ := ha.2.1.2 i c hi
        rw [q_sz_ok k2]
        unfold q_get at k1
        simp only [q_nth_eq] at k1
        split at k1
        · rename_i row hrow
          have := q_allb_ok (q_allb_ok h4 row (List.mem_of_getElem? hrow)) d (List.mem_of_getElem? k1)
          rwa [Nat.ble_eq] at this
        · cases k1
      have := q_sl_le σ hsz
      exact ⟨by rw [hu1], by omega, by omega⟩
  · cases h
def q_fu : q_E := (-2147483648, 2147483647, 0, .inl 0, .inl 0)
def q_env (a1 a2 o : Int × Int) : q_S := [q_fu, (a1.1, a1.2, 0, .inl 0, .inl 0), (a2.1, a2.2, 0, .inl 0, .inl 0), q_fu, q_fu, q_fu, (o.1, o.2, 4, .inr 0, .inl 63)]
def q_scr : List q_N := [.inr 0, .inr 1, .inr 2, .inr 3, .inr 4, .inr 5]
def q_T0 : q_T := (99999, 60, fun _ _ _ => false)
def q_hk0 : q_Hk := fun _ _ _ _ _ => none
def q_ls0 : q_L := [(0, .inr (.inr (some 0)))]
/-- a road of the law for these bounds: the second and the third of the script, what the first says -/
noncomputable def q_go1 (hk : q_Hk) (a1 a2 o : Int × Int) : Bool := q_run q_T0 6 q_scr hk 20000 60 q_law 0 q_ls0 [] (q_env a1 a2 o, 0, []) q_K0
noncomputable def q_go0 (m : Nat) : Bool := q_run q_T0 m (q_scr.take m) q_hk0 20000 60 q_law 0 q_ls0 [] ((q_env (-2147483648, 2147483647) (-2147483648, 2147483647) (0, 0)).take m, 0, []) q_K0
