/-! the machine by bounds tells the truth: what its words mean -/
abbrev v_X : Type := Nat × (Nat → Int32) × v_Cx × (v_Sf → Prop) × v_Sf × v_Rf
def v_rl (ρ : List Int) (ls : q_L) (lc : g_Lc) : Prop := ∀ (i : Nat) (v : q_V), q_gl ls i = some v → ∃ w, g_get lc i = some w ∧ q_rv ρ v w
def v_TbF (S : v_Sf) (R : v_Rf) (a j : Nat) (ft : v_Ft) : Prop := match ft with
  | .inl b => b.1 ≤ (S a j).toInt ∧ (S a j).toInt ≤ b.2
  | .inr (.inl _) => True
  | .inr (.inr l) => ∃ r ∈ l, R a j = some r
def v_TbC (S : v_Sf) (R : v_Rf) (a : Nat) (t : v_Ct) : Prop := match t with
  | .inl (_, n, lo, hi) => ∀ j, j < n → lo ≤ (S a j).toInt ∧ (S a j).toInt ≤ hi
  | .inr (.inl l) => ∀ (j r : Nat), l[j]? = some r → R a j = some r
  | .inr (.inr (_, fs)) => ∀ (j : Nat) (ft : v_Ft), fs[j]? = some ft → v_TbF S R a j ft
def v_Tb (ty : Nat → Option v_Ct) (S : v_Sf) (R : v_Rf) : Prop := ∀ (a : Nat) (t : v_Ct), ty a = some t → v_TbC S R a t
def v_Fr (m : List (Nat × Nat × Nat)) (S0 : v_Sf) (R0 : v_Rf) (S : v_Sf) (R : v_Rf) : Prop := ∀ a j, v_md m a j j = false → S a j = S0 a j ∧ R a j = R0 a j
def v_In (X : v_X) (S : v_Sf) (R : v_Rf) : Prop := v_Tb X.2.2.1.1 S R ∧ X.2.2.2.1 S ∧ v_Fr X.2.2.1.2.1 X.2.2.2.2.1 X.2.2.2.2.2 S R
def v_ra (X : v_X) (ρ : List Int) (A : v_A) (S : v_Sf) (R : v_Rf) : Prop := q_re ρ A.1 ∧ (∀ q ∈ A.2.1, ∃ j : Nat, q_r ρ q.2.1 (j : Int) ∧ q_r ρ q.2.2 (S q.1 j).toInt) ∧ (∀ q ∈ A.2.2, R q.1 q.2.1 = some q.2.2) ∧ v_In X S R
/-- what the context must give: the told predicate hangs on the frozen places alone -/
def v_XOk (X : v_X) : Prop := (∀ S S' : v_Sf, (∀ a j, X.2.2.1.2.2.1 a j j = true → S' a j = S a j) → X.2.2.2.1 S → X.2.2.2.1 S') ∧ (∀ a lo hi j, X.2.2.1.2.2.1 a lo hi = false → lo ≤ j → j ≤ hi → X.2.2.1.2.2.1 a j j = false) ∧ (∀ a t, X.2.2.1.1 a = some t → a < v_N)
def v_Tm (X : v_X) (d : Nat) (M : g_M) (pc : Nat) (lc : g_Lc) (sc : List Value) (S : v_Sf) (R : v_Rf) (Q : Option Value → v_Sf → v_Rf → Prop) : Prop := ∃ n r S' R', (∀ e, g_run g_mt X.1 X.2.1 (n + e) d M pc lc sc (v_mk X.2.2.1.1 S R) = some (r, v_mk X.2.2.1.1 S' R')) ∧ Q r S' R'
def v_KOk (X : v_X) (ρ : List Int) (K : v_K) (Q : Option Value → v_Sf → v_Rf → Prop) : Prop := ∀ (ρ' : List Int) (v : Option q_V) (A' : v_A) (r : Option Value) (S' : v_Sf) (R' : v_Rf), q_px ρ ρ' → K v A' = true → q_ro ρ' v r → v_ra X ρ' A' S' R' → Q r S' R'
def v_alg : v_Pat → g_Lc → List Int → Prop
  | [], _, [] => True
  | [], _, _ :: _ => False
  | (_, none) :: p, lc, gv => v_alg p lc gv
  | (_, some _) :: _, _, [] => False
  | (i, some b) :: p, lc, g :: gs => (∃ x : Int32, g_get lc i = some (.int x) ∧ x.toInt = g) ∧ b.1 ≤ g ∧ g ≤ b.2 ∧ v_alg p lc gs
def v_sm (p : v_Pat) (ls : q_L) (ρ : List Int) (lc : g_Lc) : Prop := ∀ (i : Nat) (v : q_V), (i, none) ∈ p → q_gl ls i = some v → ∃ w, g_get lc i = some w ∧ q_rv ρ v w
def v_OOk (X : v_X) (O : List v_Oe) (d : Nat) (M : g_M) (ρ : List Int) (Q : Option Value → v_Sf → v_Rf → Prop) : Prop :=
  ∀ h ∈ O, h.2.1 + (v_gen h.2.2.1).length ≤ ρ.length ∧ v_gp h.2.2.1 h.2.2.2.2.1 0 = some h.2.2.2.2.2.1 ∧ (∀ (i : Nat) (v : q_V), (i, none) ∈ h.2.2.1 → q_gl h.2.2.2.1 i = some v → ∃ w, q_rv (ρ.take h.2.1) v w) ∧ ∀ (gv : List Int) (lc : g_Lc) (S : v_Sf) (R : v_Rf) (old new : Int), v_alg h.2.2.1 lc gv → v_sm h.2.2.1 h.2.2.2.1 (ρ.take h.2.1) lc → ρ[h.2.1 + h.2.2.2.2.2.1]? = some old → gv[h.2.2.2.2.2.1]? = some new → (bif h.2.2.2.2.2.2 then decide (old < new) else decide (new < old)) = true → v_In X S R → v_Tm X d M h.1 lc [] S R Q
def v_Out (X : v_X) (O : List v_Oe) (d : Nat) (M : g_M) (pc : Nat) (lc : g_Lc) (sc : List Value) (S : v_Sf) (R : v_Rf) (ρ : List Int) (K : v_K) : Prop := ∀ Q, v_KOk X ρ K Q → v_OOk X O d M ρ Q → v_Tm X d M pc lc sc S R Q
def v_Snd (X : v_X) (ih : v_Ih) : Prop := ∀ (O : List v_Oe) (d μ : Nat) (M : g_M) (pc : Nat) (ls : q_L) (st : List q_V) (A : v_A) (K : v_K), ih O d μ M pc ls st A K = true → ∀ (ρ : List Int) (lc : g_Lc) (sc : List Value) (S : v_Sf) (R : v_Rf), v_rl ρ ls lc → q_al2 (q_rv ρ) st sc → v_ra X ρ A S R → v_Out X O d M pc lc sc S R ρ K
def v_HkOk (X : v_X) : Prop := ∀ (d' x : Nat) (as : List q_V) (A : v_A) (k : v_K), X.2.2.1.2.2.2.2 d' x as A k = some true → ∀ (M' : g_M) (ρ : List Int) (ac : List Value) (S : v_Sf) (R : v_Rf) (Q : Option Value → v_Sf → v_Rf → Prop), g_mt x = some M' → q_al2 (q_rv ρ) as ac → v_ra X ρ A S R → v_KOk X ρ k Q → v_Tm X d' M' 0 (lv_args 0 ac) [] S R Q
theorem v_rl_px {ρ ρ' : List Int} (h : q_px ρ ρ') {ls : q_L} {lc : g_Lc} (hr : v_rl ρ ls lc) : v_rl ρ' ls lc := fun i v hi => by
  obtain ⟨w, h1, h2⟩ := hr i v hi
  exact ⟨w, h1, q_rv_px h h2⟩
theorem v_KOk_px {X : v_X} {ρ ρ1 : List Int} (hp : q_px ρ ρ1) {K : v_K} {Q : Option Value → v_Sf → v_Rf → Prop} (h : v_KOk X ρ K Q) : v_KOk X ρ1 K Q := fun ρ' v A' r S' R' h1 => h ρ' v A' r S' R' (q_px_tr hp h1)
theorem v_alg_len : ∀ {p : v_Pat} {lc : g_Lc} {gv : List Int}, v_alg p lc gv → gv.length = (v_gen p).length
  | [], _, [], _ => rfl
  | [], _, _ :: _, h => h.elim
  | (_, none) :: p, lc, gv, h => v_alg_len (p := p) h
  | (_, some _) :: _, _, [], h => h.elim
  | (i, some b) :: p, lc, g :: gs, h => by
    have := v_alg_len (p := p) h.2.2.2
    show gs.length + 1 = (v_gen p).length + 1
    omega
theorem v_OOk_px {X : v_X} {O : List v_Oe} {d : Nat} {M : g_M} {ρ ρ1 : List Int} (hp : q_px ρ ρ1) {Q : Option Value → v_Sf → v_Rf → Prop} (h : v_OOk X O d M ρ Q) : v_OOk X O d M ρ1 Q := by
  obtain ⟨t, rfl⟩ := hp
  intro o ho
  obtain ⟨h1, h2, h3, h4⟩ := h o ho
  have et : (ρ ++ t).take o.2.1 = ρ.take o.2.1 := List.take_append_of_le_length (by omega)
  refine ⟨by rw [List.length_append]; omega, h2, by rw [et]; exact h3, fun gv lc S R old new g1 g2 g3 g4 g5 g6 => ?_⟩
  rw [et] at g2
  have hl := v_alg_len g1
  have hg := (List.getElem?_eq_some_iff.mp g4).1
  rw [List.getElem?_append_left (by omega)] at g3
  exact h4 gv lc S R old new g1 g2 g3 g4 g5 g6
theorem v_pre {X : v_X} {d : Nat} {M : g_M} {pc pc1 : Nat} {lc lc1 : g_Lc} {sc sc1 : List Value} {S S1 : v_Sf} {R R1 : v_Rf} {Q : Option Value → v_Sf → v_Rf → Prop} (m : Nat) (hs : ∀ e, g_run g_mt X.1 X.2.1 (m + 1 + e) d M pc lc sc (v_mk X.2.2.1.1 S R) = g_run g_mt X.1 X.2.1 (m + e) d M pc1 lc1 sc1 (v_mk X.2.2.1.1 S1 R1)) (h : v_Tm X d M pc1 lc1 sc1 S1 R1 Q) : v_Tm X d M pc lc sc S R Q := by
  obtain ⟨n, r, S', R', h1, h2⟩ := h
  refine ⟨m + 1 + n, r, S', R', fun e => ?_, h2⟩
  rw [show m + 1 + n + e = m + 1 + (n + e) by omega, hs, show m + (n + e) = n + (m + e) by omega]
  exact h1 _
theorem g_run_step {L : Nat} {xs : Nat → Int32} {n d : Nat} {M : g_M} {pc : Nat} {lc : g_Lc} {sc : List Value} {σ : List g_Ce} {en : g_En} {q : Nat × g_Lc × List Value × List g_Ce} (hen : M.2.2.2.2.2 pc = some en) (hs : g_step d M.2.2.2.1 L xs en pc lc sc σ = some q) : g_run g_mt L xs (n + 1) d M pc lc sc σ = g_run g_mt L xs n d M q.1 q.2.1 q.2.2.1 q.2.2.2 := by
  rw [g_run]
  simp only [hen, hs]
theorem g_st_stk {d nL L : Nat} {xs : Nat → Int32} {en : g_En} {pc : Nat} {lc : g_Lc} {sc sc' : List Value} {σ : List g_Ce} (h : g_stk en.1.1 en.2.2.2 sc = some sc') : g_step d nL L xs en pc lc sc σ = some (pc + en.1.2, lc, sc', σ) := by
  simp only [g_step, h]
theorem g_st_lcl {d nL L : Nat} {xs : Nat → Int32} {en : g_En} {pc : Nat} {lc : g_Lc} {sc : List Value} {σ : List g_Ce} {q : g_Lc × List Value} (h0 : g_stk en.1.1 en.2.2.2 sc = none) (h : g_lcl nL en.1.1 lc sc = some q) : g_step d nL L xs en pc lc sc σ = some (pc + en.1.2, q.1, q.2, σ) := by
  simp only [g_step, h0, h]
theorem g_st_jmp {d nL L : Nat} {xs : Nat → Int32} {en : g_En} {pc : Nat} {lc : g_Lc} {sc : List Value} {σ : List g_Ce} {q : Nat × List Value} (h0 : g_stk en.1.1 en.2.2.2 sc = none) (h1 : g_lcl nL en.1.1 lc sc = none) (h : g_jmp en.1.1 pc en.2.1 sc = some q) : g_step d nL L xs en pc lc sc σ = some (q.1, lc, q.2, σ) := by
  simp only [g_step, h0, h1, h]
theorem g_st_hp {d nL L : Nat} {xs : Nat → Int32} {en : g_En} {pc : Nat} {lc : g_Lc} {sc : List Value} {σ : List g_Ce} {q : List Value × List g_Ce} (h0 : g_stk en.1.1 en.2.2.2 sc = none) (h1 : g_lcl nL en.1.1 lc sc = none) (h2 : g_jmp en.1.1 pc en.2.1 sc = none) (h : g_hp d L xs en.1.1 en.2.1 en.2.2.1 sc σ = some q) : g_step d nL L xs en pc lc sc σ = some (pc + en.1.2, lc, q.1, q.2) := by
  simp only [g_step, h0, h1, h2, h]
theorem q_cons {ρ : List Int} {v : q_V} {r : List q_V} {sc : List Value} (h : q_al2 (q_rv ρ) (v :: r) sc) : ∃ w t, sc = w :: t ∧ q_rv ρ v w ∧ q_al2 (q_rv ρ) r t := by
  cases sc with
  | nil => exact h.elim
  | cons w t => exact ⟨w, t, rfl, h.1, h.2⟩
theorem q_int {ρ : List Int} {a : q_N} {w : Value} (h : q_rv ρ (.inl a) w) : ∃ x : Int32, w = .int x ∧ q_r ρ a x.toInt := h
theorem q_cons_i {ρ : List Int} {a : q_N} {r : List q_V} {sc : List Value} (h : q_al2 (q_rv ρ) (.inl a :: r) sc) : ∃ (x : Int32) (t : List Value), sc = .int x :: t ∧ q_r ρ a x.toInt ∧ q_al2 (q_rv ρ) r t := by
  obtain ⟨w, t, rfl, h1, h2⟩ := q_cons h
  obtain ⟨x, rfl, h3⟩ := h1
  exact ⟨x, t, rfl, h3, h2⟩
theorem q_cons_l {ρ : List Int} {a : q_N} {r : List q_V} {sc : List Value} (h : q_al2 (q_rv ρ) (.inr (.inl a) :: r) sc) : ∃ (x : Int64) (t : List Value), sc = .long x :: t ∧ q_r ρ a x.toInt ∧ q_al2 (q_rv ρ) r t := by
  obtain ⟨w, t, rfl, h1, h2⟩ := q_cons h
  obtain ⟨x, rfl, h3⟩ := h1
  exact ⟨x, t, rfl, h3, h2⟩
theorem q_cons_r {ρ : List Int} {o : Option Nat} {r : List q_V} {sc : List Value} (h : q_al2 (q_rv ρ) (.inr (.inr o) :: r) sc) : ∃ (t : List Value), sc = va_rf o :: t ∧ q_al2 (q_rv ρ) r t := by
  obtain ⟨w, t, rfl, h1, h2⟩ := q_cons h
  have h1 : w = va_rf o := h1
  subst h1
  exact ⟨t, rfl, h2⟩
theorem q_cat {ρ : List Int} {v : q_V} {w : Value} (h : q_rv ρ v w) : w.category = q_ct v := by
  match v, h with
  | .inl a, ⟨x, h1, _⟩ => subst h1; rfl
  | .inr (.inl a), ⟨x, h1, _⟩ => subst h1; rfl
  | .inr (.inr none), h => have h : w = .null := h; subst h; rfl
  | .inr (.inr (some a)), h => have h : w = .ref a := h; subst h; rfl
theorem q_lsl_ok {ρ : List Int} : ∀ {r : List q_V} {t : List Value}, q_al2 (q_rv ρ) r t → g_cat t = q_lsl r
  | [], [], _ => rfl
  | v :: r, w :: t, ⟨h1, h2⟩ => by
    have e : g_cat (w :: t) = w.category + g_cat t := by simp [g_cat]
    rw [e, q_cat h1, q_lsl_ok h2]
    rfl
  | [], _ :: _, h => h.elim
  | _ :: _, [], h => h.elim
theorem q_lgsl_ok : ∀ (t : List Value), (lg_sl t).length = g_cat t
  | [] => rfl
  | w :: t => by
    have e : g_cat (w :: t) = w.category + g_cat t := by simp [g_cat]
    have e2 : (lg_sl (w :: t)).length = (if w.category = 2 then 2 else 1) + (lg_sl t).length := by
      simp only [lg_sl, List.flatMap_cons, List.length_append]
      split <;> simp
    rw [e, e2, q_lgsl_ok t]
    cases w <;> rfl
theorem v_go {X : v_X} {ih : v_Ih} (hS : v_Snd X ih) {O : List v_Oe} {d μ : Nat} {M : g_M} {pc pc1 : Nat} {lc lc1 : g_Lc} {sc sc1 : List Value} {S S1 : v_Sf} {R R1 : v_Rf} {ρ : List Int} {K : v_K} {en : g_En} (hen : M.2.2.2.2.2 pc = some en) (hs : g_step d M.2.2.2.1 X.1 X.2.1 en pc lc sc (v_mk X.2.2.1.1 S R) = some (pc1, lc1, sc1, v_mk X.2.2.1.1 S1 R1)) {ρ1 : List Int} (hp : q_px ρ ρ1) {ls : q_L} {st : List q_V} {A : v_A} (r1 : v_rl ρ1 ls lc1) (r2 : q_al2 (q_rv ρ1) st sc1) (r3 : v_ra X ρ1 A S1 R1) (hk : ih O d μ M pc1 ls st A K = true) : v_Out X O d M pc lc sc S R ρ K := by
  intro Q hK hO
  refine v_pre 0 (fun e => ?_) (hS O d μ M pc1 ls st A K hk ρ1 lc1 sc1 S1 R1 r1 r2 r3 Q (v_KOk_px hp hK) (v_OOk_px hp hO))
  rw [show 0 + 1 + e = e + 1 by omega, show 0 + e = e by omega]
  exact g_run_step hen hs
theorem v_ra_env {X : v_X} {ρ ρ1 : List Int} {A : v_A} {S : v_Sf} {R : v_Rf} (h : v_ra X ρ A S R) (hp : q_px ρ ρ1) {e : q_S} (he : q_re ρ1 e) : v_ra X ρ1 (e, A.2) S R := ⟨he, fun q hq => by
  obtain ⟨j, h1, h2⟩ := h.2.1 q hq
  exact ⟨j, q_r_px hp h1, q_r_px hp h2⟩, h.2.2.1, h.2.2.2⟩
theorem q_blt {a b : Nat} (h : Nat.blt a b = true) : a < b := by rw [Nat.blt_eq] at h; exact h
theorem q_beq {a b : Nat} (h : Nat.beq a b = true) : a = b := Nat.eq_of_beq_eq_true h
theorem q_bifc {b : Bool} {p : Bool} (h : (bif b then p else false) = true) : b = true ∧ p = true := by
  cases b with
  | true => exact ⟨rfl, h⟩
  | false => cases h
-- locals
theorem v_gset {lc : g_Lc} {i j : Nat} {w : Value} : g_get (g_set lc i w) j = if j = i then some w else if (j + 1 = i ∧ ∃ u, g_get lc j = some u ∧ u.category = 2) then g_get (g_set lc i w) j else g_get lc j := by
  by_cases h : j = i
  · subst h
    simp [g_get, g_set]
  · rw [if_neg h]
    split
    · rfl
    · rename_i hn
      have key : ∀ lc : g_Lc, ¬ (j + 1 = i ∧ ∃ u, g_get lc j = some u ∧ u.category = 2) → (lc.filter (fun q => !(q.1 == i) && !(q.1 + 1 == i && q.2.category == 2))).find? (fun q => q.1 == j) = lc.find? (fun q => q.1 == j) := by
        intro lc
        induction lc with
        | nil => intro _; rfl
        | cons q t iht =>
          intro hn
          by_cases hq : q.1 = j
          · have hc : ¬ (j + 1 = i ∧ q.2.category = 2) := fun hc => hn ⟨hc.1, q.2, by simp [g_get, hq], hc.2⟩
            have e1 : (!(q.1 == i) && !(q.1 + 1 == i && q.2.category == 2)) = true := by
              rw [hq]
              by_cases h3 : j + 1 = i
              · have h4 : ¬ q.2.category = 2 := fun h4 => hc ⟨h3, h4⟩
                simp [h, h4]
              · simp [h, h3]
            rw [List.filter_cons, e1]
            simp [hq]
          · have hn2 : ¬ (j + 1 = i ∧ ∃ u, g_get t j = some u ∧ u.category = 2) := by
              intro hc
              apply hn
              obtain ⟨c1, u, c2, c3⟩ := hc
              refine ⟨c1, u, ?_, c3⟩
              unfold g_get at c2 ⊢
              simp only [List.find?_cons]
              have : (q.1 == j) = false := by simpa using hq
              rw [this]
              exact c2
            have iht2 := iht hn2
            rw [List.filter_cons]
            have e2 : (q.1 == j) = false := by simpa using hq
            split
            · simp only [List.find?_cons, e2]
              exact iht2
            · simp only [List.find?_cons, e2]
              exact iht2
      unfold g_get g_set
      simp only [List.find?_cons]
      have e3 : (i == j) = false := by simpa using fun e => h (Eq.symm e)
      rw [e3, key lc hn]
theorem v_gl_cons (p : Nat × q_V) (s : q_L) (j : Nat) : q_gl (p :: s) j = bif Nat.beq p.1 j then some p.2 else q_gl s j := rfl
theorem v_gl_fk {i : Nat} : ∀ {ls : q_L} {j : Nat} {v : q_V}, q_gl (v_fk ls i) j = some v → j ≠ i ∧ q_gl ls j = some v
  | [], j, v, h => by cases h
  | p :: s, j, v, h => by
    have e : v_fk (p :: s) i = bif Nat.beq p.1 i then v_fk s i else p :: v_fk s i := rfl
    rw [e] at h
    rw [v_gl_cons]
    cases hb : Nat.beq p.1 i with
    | true =>
      rw [hb] at h
      obtain ⟨h1, h2⟩ := v_gl_fk (ls := s) h
      refine ⟨h1, ?_⟩
      cases hc : Nat.beq p.1 j with
      | true => exact absurd ((q_beq hc).symm.trans (q_beq hb)) h1
      | false => exact h2
    | false =>
      rw [hb] at h
      have h : q_gl (p :: v_fk s i) j = some v := h
      rw [v_gl_cons] at h
      cases hc : Nat.beq p.1 j with
      | true =>
        rw [hc] at h
        refine ⟨fun e2 => ?_, h⟩
        rw [← e2, hc] at hb
        cases hb
      | false =>
        rw [hc] at h
        exact v_gl_fk (ls := s) h
theorem v_sl_ok {ρ : List Int} {ls : q_L} {lc : g_Lc} (h : v_rl ρ ls lc) (i : Nat) {v : q_V} {w : Value} (hv : q_rv ρ v w) : v_rl ρ (v_sl ls i v) (g_set lc i w) := by
  intro j u hj
  unfold v_sl at hj
  rw [v_gl_cons] at hj
  rw [v_gset]
  cases hc : Nat.beq i j with
  | true =>
    rw [hc] at hj
    cases hj
    rw [if_pos (q_beq hc).symm]
    exact ⟨w, rfl, hv⟩
  | false =>
    rw [hc] at hj
    have hj : q_gl (v_fk (v_fk ls i) (v_k2 ls i)) j = some u := hj
    obtain ⟨h1, h2⟩ := v_gl_fk hj
    obtain ⟨h3, h4⟩ := v_gl_fk h2
    obtain ⟨w2, g1, g2⟩ := h j u h4
    rw [if_neg h3, if_neg ?_]
    · exact ⟨w2, g1, g2⟩
    · rintro ⟨e1, u2, e2, e3⟩
      have : u2 = w2 := Option.some.inj (e2.symm.trans g1)
      subst this
      rw [q_cat g2] at e3
      apply h1
      unfold v_k2
      have e4 : Nat.pred i = j := by subst e1; rfl
      rw [e4, h4]
      dsimp only
      rw [e3]
      rfl
