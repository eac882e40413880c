/-! the store by its contents: reads and writes -/
def v_ur (S : v_Sf) (a : Nat) (f : Nat → Int32) : v_Sf := fun a' => if a' = a then f else S a'
def v_urr (R : v_Rf) (a y r : Nat) : v_Rf := fun a' j => if a' = a ∧ j = y then some r else R a' j
theorem v_ur_s (S : v_Sf) (a : Nat) (f : Nat → Int32) : v_ur S a f a = f := by simp [v_ur]
theorem v_ur_n (S : v_Sf) {a a' : Nat} (f : Nat → Int32) (h : a' ≠ a) : v_ur S a f a' = S a' := by simp [v_ur, h]
theorem v_mk_get (ty : Nat → Option v_Ct) (S : v_Sf) (R : v_Rf) (a : Nat) : (v_mk ty S R)[a]? = if a < v_N then some (v_cell S R a (ty a)) else none := by
  unfold v_mk
  rw [List.getElem?_map]
  by_cases h : a < v_N
  · rw [if_pos h, List.getElem?_range h]
    rfl
  · rw [if_neg h, List.getElem?_eq_none (by simpa using h)]
    rfl
theorem v_mk_at {X : v_X} (hX : v_XOk X) {a : Nat} {t : v_Ct} (h : X.2.2.1.1 a = some t) (S : v_Sf) (R : v_Rf) : (v_mk X.2.2.1.1 S R)[a]? = some (v_cell S R a (some t)) := by
  rw [v_mk_get, if_pos (hX.2.2 a t h), h]
theorem v_mk_set {X : v_X} {a : Nat} {S S1 : v_Sf} {R R1 : v_Rf} {c : g_Ce} (h1 : v_cell S1 R1 a (X.2.2.1.1 a) = c) (h2 : ∀ a', a' ≠ a → v_cell S1 R1 a' (X.2.2.1.1 a') = v_cell S R a' (X.2.2.1.1 a')) : (v_mk X.2.2.1.1 S R).set a c = v_mk X.2.2.1.1 S1 R1 := by
  apply List.ext_getElem?
  intro k
  rw [List.getElem?_set, v_mk_get, v_mk_get]
  by_cases hk : a = k
  · subst hk
    rw [if_pos rfl]
    by_cases hl : a < v_N
    · rw [if_pos (by simpa [v_mk] using hl), if_pos hl, h1]
    · rw [if_neg (by simpa [v_mk] using hl), if_neg hl]
  · rw [if_neg hk]
    by_cases hl : k < v_N
    · rw [if_pos hl, if_pos hl, h2 k (fun e => hk e.symm)]
    · rw [if_neg hl, if_neg hl]
theorem v_cell_n {S S1 : v_Sf} {R R1 : v_Rf} {a : Nat} {t : Option v_Ct} (h1 : S1 a = S a) (h2 : R1 a = R a) : v_cell S1 R1 a t = v_cell S R a t := by
  unfold v_cell
  split
  · rw [h1]
  · rw [h2]
  · congr 2
    congr 1
    funext j ft
    unfold v_fv
    split
    · rw [h1]
    · rfl
    · rw [h2]
  · rfl
theorem v_mk_row {X : v_X} {a tg n : Nat} {b : Int × Int} (h : X.2.2.1.1 a = some (.inl (tg, n, b))) (S : v_Sf) (R : v_Rf) (f : Nat → Int32) : (v_mk X.2.2.1.1 S R).set a (.inl (tg, n, .inl f)) = v_mk X.2.2.1.1 (v_ur S a f) R := by
  refine v_mk_set ?_ (fun a' ha => v_cell_n (v_ur_n S f ha) rfl)
  rw [h]
  simp only [v_cell, v_ur_s]
theorem v_mk_fld {X : v_X} {a ci y : Nat} {fs : List v_Ft} {b : Int × Int} (h : X.2.2.1.1 a = some (.inr (.inr (ci, fs)))) (hy : fs[y]? = some (.inl b)) (S : v_Sf) (R : v_Rf) (v : Int32) : (v_mk X.2.2.1.1 S R).set a (.inr (ci, (fs.mapIdx (fun j ft => v_fv S R a j ft)).set y (.int v))) = v_mk X.2.2.1.1 (v_ur S a (upd (S a) y v)) R := by
  refine v_mk_set ?_ (fun a' ha => v_cell_n (v_ur_n S _ ha) rfl)
  rw [h]
  simp only [v_cell]
  congr 2
  apply List.ext_getElem?
  intro k
  rw [List.getElem?_set, List.getElem?_mapIdx, List.getElem?_mapIdx]
  by_cases hk : y = k
  · subst hk
    rw [if_pos rfl, hy]
    have hl := (List.getElem?_eq_some_iff.mp hy).1
    rw [if_pos (by simpa using hl)]
    simp [v_fv, v_ur_s, upd]
  · rw [if_neg hk]
    cases hf : fs[k]? with
    | none => rfl
    | some ft =>
      simp only [Option.map_some]
      congr 1
      unfold v_fv
      split
      · rw [v_ur_s]
        simp [upd, Ne.symm hk]
      · rfl
      · rfl
theorem v_mk_ref {X : v_X} {a ci y : Nat} {fs : List v_Ft} {l : List Nat} (h : X.2.2.1.1 a = some (.inr (.inr (ci, fs)))) (hy : fs[y]? = some (.inr (.inr l))) (S : v_Sf) (R : v_Rf) (r : Nat) : (v_mk X.2.2.1.1 S R).set a (.inr (ci, (fs.mapIdx (fun j ft => v_fv S R a j ft)).set y (.ref r))) = v_mk X.2.2.1.1 S (v_urr R a y r) := by
  refine v_mk_set ?_ (fun a' ha => v_cell_n rfl (by funext j; simp [v_urr, ha]))
  rw [h]
  simp only [v_cell]
  congr 2
  apply List.ext_getElem?
  intro k
  rw [List.getElem?_set, List.getElem?_mapIdx, List.getElem?_mapIdx]
  by_cases hk : y = k
  · subst hk
    rw [if_pos rfl, hy]
    have hl := (List.getElem?_eq_some_iff.mp hy).1
    rw [if_pos (by simpa using hl)]
    simp [v_fv, v_urr, va_rf]
  · rw [if_neg hk]
    cases hf : fs[k]? with
    | none => rfl
    | some ft =>
      simp only [Option.map_some]
      congr 1
      unfold v_fv
      split
      · rfl
      · rfl
      · simp [v_urr, Ne.symm hk]
-- places that may be written
theorem v_md_mono : ∀ {m : List (Nat × Nat × Nat)} {a lo hi j : Nat}, v_md m a lo hi = true → lo ≤ j → j ≤ hi → v_md m a j j = true
  | [], _, _, _, _, h, _, _ => by cases h
  | q :: m, a, lo, hi, j, h, h1, h2 => by
    have h : (bif Nat.beq q.1 a && (Nat.ble q.2.1 lo && Nat.ble hi q.2.2) then true else v_md m a lo hi) = true := h
    show (bif Nat.beq q.1 a && (Nat.ble q.2.1 j && Nat.ble j q.2.2) then true else v_md m a j j) = true
    cases hb : (Nat.beq q.1 a && (Nat.ble q.2.1 lo && Nat.ble hi q.2.2)) with
    | true =>
      simp only [Bool.and_eq_true, Nat.ble_eq] at hb
      have e : (Nat.beq q.1 a && (Nat.ble q.2.1 j && Nat.ble j q.2.2)) = true := by
        simp only [Bool.and_eq_true, Nat.ble_eq]
        exact ⟨hb.1, by omega, by omega⟩
      rw [e]
      rfl
    | false =>
      rw [hb] at h
      have := v_md_mono (m := m) h h1 h2
      rw [this]
      cases (Nat.beq q.1 a && (Nat.ble q.2.1 j && Nat.ble j q.2.2)) <;> rfl
theorem v_hit_md : ∀ {m : List (Nat × Nat × Nat)} {a lo hi j : Nat}, v_hit m a lo hi = false → lo ≤ j → j ≤ hi → v_md m a j j = false
  | [], _, _, _, _, _, _, _ => rfl
  | q :: m, a, lo, hi, j, h, h1, h2 => by
    have h : (bif Nat.beq q.1 a && (Nat.ble q.2.1 hi && Nat.ble lo q.2.2) then true else v_hit m a lo hi) = false := h
    show (bif Nat.beq q.1 a && (Nat.ble q.2.1 j && Nat.ble j q.2.2) then true else v_md m a j j) = false
    cases hb : (Nat.beq q.1 a && (Nat.ble q.2.1 hi && Nat.ble lo q.2.2)) with
    | true => rw [hb] at h; cases h
    | false =>
      rw [hb] at h
      have e : (Nat.beq q.1 a && (Nat.ble q.2.1 j && Nat.ble j q.2.2)) = false := by
        cases hc : (Nat.beq q.1 a && (Nat.ble q.2.1 j && Nat.ble j q.2.2)) with
        | false => rfl
        | true =>
          simp only [Bool.and_eq_true, Nat.ble_eq] at hc
          have : (Nat.beq q.1 a && (Nat.ble q.2.1 hi && Nat.ble lo q.2.2)) = true := by
            simp only [Bool.and_eq_true, Nat.ble_eq]
            exact ⟨hc.1, by omega, by omega⟩
          rw [this] at hb
          cases hb
      rw [e]
      exact v_hit_md (m := m) h h1 h2
theorem v_of_ok : ∀ {ov : List (Nat × q_N × q_N)} {a : Nat} {i v : q_N}, v_of ov a i = some v → (a, i, v) ∈ ov
  | [], _, _, _, h => by cases h
  | q :: ov, a, i, v, h => by
    have h : (bif Nat.beq q.1 a && q_nb q.2.1 i then some q.2.2 else v_of ov a i) = some v := h
    cases hb : (Nat.beq q.1 a && q_nb q.2.1 i) with
    | true =>
      rw [hb] at h
      cases h
      rw [Bool.and_eq_true] at hb
      have e1 := q_beq hb.1
      have e2 := q_nb_ok hb.2
      subst e1 e2
      exact List.mem_cons_self
    | false =>
      rw [hb] at h
      exact List.mem_cons_of_mem _ (v_of_ok h)
theorem v_rof_ok : ∀ {ov : List (Nat × Nat × Nat)} {a j r : Nat}, v_rof ov a j = some r → (a, j, r) ∈ ov
  | [], _, _, _, h => by cases h
  | q :: ov, a, j, r, h => by
    have h : (bif Nat.beq q.1 a && Nat.beq q.2.1 j then some q.2.2 else v_rof ov a j) = some r := h
    cases hb : (Nat.beq q.1 a && Nat.beq q.2.1 j) with
    | true =>
      rw [hb] at h
      cases h
      rw [Bool.and_eq_true] at hb
      have e1 := q_beq hb.1
      have e2 := q_beq hb.2
      subst e1 e2
      exact List.mem_cons_self
    | false =>
      rw [hb] at h
      exact List.mem_cons_of_mem _ (v_rof_ok h)
theorem v_ow_in : ∀ {ov : List (Nat × q_N × q_N)} {a : Nat} {i : q_N} {q : Nat × q_N × q_N}, q ∈ (List.rec (motive := fun _ => List (Nat × q_N × q_N)) [] (fun h _ ih => bif Nat.beq h.1 a then (bif v_df h.2.1 i then h :: ih else ih) else h :: ih) ov : List (Nat × q_N × q_N)) → q ∈ ov ∧ (q.1 = a → v_df q.2.1 i = true)
  | [], _, _, _, h => by cases h
  | p :: ov, a, i, q, h => by
    have h : q ∈ (bif Nat.beq p.1 a then (bif v_df p.2.1 i then p :: (List.rec (motive := fun _ => List (Nat × q_N × q_N)) [] (fun h _ ih => bif Nat.beq h.1 a then (bif v_df h.2.1 i then h :: ih else ih) else h :: ih) ov) else (List.rec (motive := fun _ => List (Nat × q_N × q_N)) [] (fun h _ ih => bif Nat.beq h.1 a then (bif v_df h.2.1 i then h :: ih else ih) else h :: ih) ov)) else p :: (List.rec (motive := fun _ => List (Nat × q_N × q_N)) [] (fun h _ ih => bif Nat.beq h.1 a then (bif v_df h.2.1 i then h :: ih else ih) else h :: ih) ov)) := h
    have rec1 : q ∈ (List.rec (motive := fun _ => List (Nat × q_N × q_N)) [] (fun h _ ih => bif Nat.beq h.1 a then (bif v_df h.2.1 i then h :: ih else ih) else h :: ih) ov : List (Nat × q_N × q_N)) → q ∈ p :: ov ∧ (q.1 = a → v_df q.2.1 i = true) := fun h2 => ⟨List.mem_cons_of_mem _ (v_ow_in h2).1, (v_ow_in h2).2⟩
    cases hb : Nat.beq p.1 a with
    | true =>
      rw [hb] at h
      cases hc : v_df p.2.1 i with
      | true =>
        rw [hc] at h
        rcases List.mem_cons.mp h with h | h
        · subst h
          exact ⟨List.mem_cons_self, fun _ => hc⟩
        · exact rec1 h
      | false => rw [hc] at h; exact rec1 h
    | false =>
      rw [hb] at h
      rcases List.mem_cons.mp h with h | h
      · subst h
        exact ⟨List.mem_cons_self, fun e => by rw [e] at hb; simp at hb⟩
      · exact rec1 h
theorem v_row_in : ∀ {ov : List (Nat × Nat × Nat)} {a j : Nat} {q : Nat × Nat × Nat}, q ∈ (List.rec (motive := fun _ => List (Nat × Nat × Nat)) [] (fun h _ ih => bif Nat.beq h.1 a && Nat.beq h.2.1 j then ih else h :: ih) ov : List (Nat × Nat × Nat)) → q ∈ ov ∧ ¬ (q.1 = a ∧ q.2.1 = j)
  | [], _, _, _, h => by cases h
  | p :: ov, a, j, q, h => by
    have h : q ∈ (bif Nat.beq p.1 a && Nat.beq p.2.1 j then (List.rec (motive := fun _ => List (Nat × Nat × Nat)) [] (fun h _ ih => bif Nat.beq h.1 a && Nat.beq h.2.1 j then ih else h :: ih) ov) else p :: (List.rec (motive := fun _ => List (Nat × Nat × Nat)) [] (fun h _ ih => bif Nat.beq h.1 a && Nat.beq h.2.1 j then ih else h :: ih) ov)) := h
    cases hb : (Nat.beq p.1 a && Nat.beq p.2.1 j) with
    | true =>
      rw [hb] at h
      exact ⟨List.mem_cons_of_mem _ (v_row_in h).1, (v_row_in h).2⟩
    | false =>
      rw [hb] at h
      rcases List.mem_cons.mp h with h | h
      · subst h
        refine ⟨List.mem_cons_self, fun e => ?_⟩
        rw [e.1, e.2] at hb
        simp at hb
      · exact ⟨List.mem_cons_of_mem _ (v_row_in h).1, (v_row_in h).2⟩
theorem v_ok_in {env : q_S} {m : List (Nat × Nat × Nat)} : ∀ {ov : List (Nat × q_N × q_N)} {q : Nat × q_N × q_N}, q ∈ v_ok env m ov → q ∈ ov ∧ v_hit m q.1 (q_iv env q.2.1).1.toNat (q_iv env q.2.1).2.toNat = false
  | [], _, h => by cases h
  | p :: ov, q, h => by
    have h : q ∈ (bif v_hit m p.1 (q_iv env p.2.1).1.toNat (q_iv env p.2.1).2.toNat then v_ok env m ov else p :: v_ok env m ov) := h
    cases hb : v_hit m p.1 (q_iv env p.2.1).1.toNat (q_iv env p.2.1).2.toNat with
    | true =>
      rw [hb] at h
      exact ⟨List.mem_cons_of_mem _ (v_ok_in h).1, (v_ok_in h).2⟩
    | false =>
      rw [hb] at h
      rcases List.mem_cons.mp h with h | h
      · subst h
        exact ⟨List.mem_cons_self, hb⟩
      · exact ⟨List.mem_cons_of_mem _ (v_ok_in h).1, (v_ok_in h).2⟩
theorem v_rk_in {m : List (Nat × Nat × Nat)} : ∀ {ov : List (Nat × Nat × Nat)} {q : Nat × Nat × Nat}, q ∈ v_rk m ov → q ∈ ov ∧ v_hit m q.1 q.2.1 q.2.1 = false
  | [], _, h => by cases h
  | p :: ov, q, h => by
    have h : q ∈ (bif v_hit m p.1 p.2.1 p.2.1 then v_rk m ov else p :: v_rk m ov) := h
    cases hb : v_hit m p.1 p.2.1 p.2.1 with
    | true =>
      rw [hb] at h
      exact ⟨List.mem_cons_of_mem _ (v_rk_in h).1, (v_rk_in h).2⟩
    | false =>
      rw [hb] at h
      rcases List.mem_cons.mp h with h | h
      · subst h
        exact ⟨List.mem_cons_self, hb⟩
      · exact ⟨List.mem_cons_of_mem _ (v_rk_in h).1, (v_rk_in h).2⟩
/-- what is kept over writes at m -/
theorem v_keep {m : List (Nat × Nat × Nat)} {ρ : List Int} {env : q_S} (he : q_re ρ env) {ov : List (Nat × q_N × q_N)} {S S1 : v_Sf} (h1 : ∀ q ∈ ov, ∃ j : Nat, q_r ρ q.2.1 (j : Int) ∧ q_r ρ q.2.2 (S q.1 j).toInt) (h2 : ∀ a j, v_md m a j j = false → S1 a j = S a j) : ∀ q ∈ v_ok env m ov, ∃ j : Nat, q_r ρ q.2.1 (j : Int) ∧ q_r ρ q.2.2 (S1 q.1 j).toInt := by
  intro q hq
  obtain ⟨g1, g2⟩ := v_ok_in hq
  obtain ⟨j, g3, g4⟩ := h1 q g1
  have iv := q_iv_ok he g3
  refine ⟨j, g3, ?_⟩
  rw [h2 q.1 j (v_hit_md g2 (by omega) (by omega))]
  exact g4
theorem v_df_ok {ρ : List Int} {i1 i2 : q_N} {z : Int} (hd : v_df i1 i2 = true) (t1 : q_r ρ i1 z) (t2 : q_r ρ i2 z) : False := by
  unfold v_df at hd
  split at hd
  · rename_i x1 y1
    have t1 : z = x1 := t1
    have t2 : z = y1 := t2
    have : q_ieq x1 y1 = true := by rw [q_ieq_ok]; omega
    rw [this] at hd
    cases hd
  · cases hd
section VS
variable {X : v_X} {ρ : List Int} {A : v_A} {S : v_Sf} {R : v_Rf}
theorem v_rd_ok (r3 : v_ra X ρ A S R) {a j : Nat} {i : q_N} (hi : q_r ρ i (j : Int)) {lo hi' : Int} (b1 : lo ≤ (S a j).toInt) (b2 : (S a j).toInt ≤ hi') {k : q_N → v_A → Bool} (h : v_rd a i lo hi' A k = true) : ∃ ρ' v A', q_px ρ ρ' ∧ q_r ρ' v (S a j).toInt ∧ v_ra X ρ' A' S R ∧ k v A' = true := by
  unfold v_rd at h
  split at h
  · rename_i v hv
    obtain ⟨j', g1, g2⟩ := r3.2.1 _ (v_of_ok hv)
    have e : (j : Int) = (j' : Int) := q_r_inj hi g1
    have e : j = j' := by omega
    subst e
    exact ⟨ρ, v, A, q_px_rf ρ, g2, r3, h⟩
  · obtain ⟨n1, n2, n3⟩ := q_new_ok r3.1 (e := (lo, hi', 0, .inl 0, .inl 0)) b1 b2 (Or.inl rfl)
    have r4 := v_ra_env r3 n1 n2
    refine ⟨_, _, (q_app A.1 (lo, hi', 0, .inl 0, .inl 0), (a, i, .inr (q_len A.1)) :: A.2.1, A.2.2), n1, n3, ⟨n2, fun q hq => ?_, r4.2.2⟩, h⟩
    rcases List.mem_cons.mp hq with hq | hq
    · subst hq
      exact ⟨j, q_r_px n1 hi, n3⟩
    · exact r4.2.1 q hq
theorem v_rr_ok (r3 : v_ra X ρ A S R) {a j : Nat} {l : List Nat} (hm : ∃ r ∈ l, R a j = some r) {k : Nat → v_A → Bool} (h : v_rr a j l A k = true) : ∃ A' r, R a j = some r ∧ v_ra X ρ A' S R ∧ k r A' = true := by
  obtain ⟨r0, hm, hr0⟩ := hm
  unfold v_rr at h
  split at h
  · rename_i r hr
    have e : R a j = some r := r3.2.2.1 _ (v_rof_ok hr)
    exact ⟨A, r, e, r3, h⟩
  · have key : ∀ l : List Nat, r0 ∈ l → (List.rec (motive := fun _ => Bool) true (fun h _ ih => k h (A.1, A.2.1, (a, j, h) :: A.2.2) && ih) l : Bool) = true → k r0 (A.1, A.2.1, (a, j, r0) :: A.2.2) = true := by
      intro l
      induction l with
      | nil => intro h1; cases h1
      | cons c l ihl =>
        intro h1 h2
        have h2 : (k c (A.1, A.2.1, (a, j, c) :: A.2.2) && (List.rec (motive := fun _ => Bool) true (fun h _ ih => k h (A.1, A.2.1, (a, j, h) :: A.2.2) && ih) l : Bool)) = true := h2
        rw [Bool.and_eq_true] at h2
        rcases List.mem_cons.mp h1 with h1 | h1
        · rw [h1]; exact h2.1
        · exact ihl h1 h2.2
    refine ⟨(A.1, A.2.1, (a, j, r0) :: A.2.2), r0, hr0, ⟨r3.1, r3.2.1, fun q hq => ?_, r3.2.2.2⟩, key l hm h⟩
    rcases List.mem_cons.mp hq with hq | hq
    · subst hq; exact hr0
    · exact r3.2.2.1 q hq
theorem v_in_ok {p : Int × Int} {lo hi x : Int} (h : v_in p lo hi = true) (h1 : p.1 ≤ x ∧ x ≤ p.2) : lo ≤ x ∧ x ≤ hi := by
  unfold v_in at h
  rw [Bool.and_eq_true, q_ile_ok, q_ile_ok] at h
  omega
theorem v_wr_ok (hX : v_XOk X) (r3 : v_ra X ρ A S R) {a j : Nat} {i v : q_N} {w : Int32} (hi : q_r ρ i (j : Int)) (hv : q_r ρ v w.toInt) {lo hi' : Int} (hT : lo ≤ w.toInt → w.toInt ≤ hi' → v_Tb X.2.2.1.1 (v_ur S a (upd (S a) j w)) R) {k : v_A → Bool} (h : v_wr X.2.2.1 a i v lo hi' A k = true) : ∃ A', v_ra X ρ A' (v_ur S a (upd (S a) j w)) R ∧ k A' = true := by
  unfold v_wr at h
  obtain ⟨h1, h2⟩ := q_bifc h
  rw [Bool.and_eq_true, Bool.and_eq_true] at h1
  obtain ⟨c1, c2, c3⟩ := h1
  have iv := q_iv_ok r3.1 hi
  obtain ⟨b1, b2⟩ := v_in_ok c1 (q_iv_ok r3.1 hv)
  have m1 := v_md_mono c2 (j := j) (by omega) (by omega)
  have c4 : X.2.2.1.2.2.1 a (q_iv A.1 i).1.toNat (q_iv A.1 i).2.toNat = false := by
    cases hc : X.2.2.1.2.2.1 a (q_iv A.1 i).1.toNat (q_iv A.1 i).2.toNat with
    | false => rfl
    | true => rw [hc] at c3; cases c3
  have m2 := hX.2.1 a _ _ j c4 (by omega) (by omega)
  have hne : ∀ a' j', ¬ (a' = a ∧ j' = j) → v_ur S a (upd (S a) j w) a' j' = S a' j' := by
    intro a' j' hn
    by_cases ha : a' = a
    · subst ha
      rw [v_ur_s]
      have : j' ≠ j := fun e => hn ⟨rfl, e⟩
      simp [upd, this]
    · rw [v_ur_n _ _ ha]
  refine ⟨(A.1, v_ow A.2.1 a i v, A.2.2), ⟨r3.1, fun q hq => ?_, r3.2.2.1, hT b1 b2, ?_, ?_⟩, h2⟩
  · rcases List.mem_cons.mp hq with hq | hq
    · subst hq
      refine ⟨j, hi, ?_⟩
      show q_r ρ v (v_ur S a (upd (S a) j w) a j).toInt
      rw [v_ur_s]
      simpa [upd] using hv
    · obtain ⟨g1, g2⟩ := v_ow_in hq
      obtain ⟨j', g3, g4⟩ := r3.2.1 q g1
      refine ⟨j', g3, ?_⟩
      rw [hne q.1 j' ?_]
      · exact g4
      · rintro ⟨e1, e2⟩
        subst e2
        exact v_df_ok (g2 e1) g3 hi
  · refine hX.1 S _ (fun a' j' hf => hne a' j' ?_) r3.2.2.2.2.1
    rintro ⟨rfl, rfl⟩
    rw [m2] at hf
    cases hf
  · intro a' j' hm
    rw [hne a' j' ?_]
    · exact r3.2.2.2.2.2 a' j' hm
    · rintro ⟨rfl, rfl⟩
      rw [m1] at hm
      cases hm
end VS
