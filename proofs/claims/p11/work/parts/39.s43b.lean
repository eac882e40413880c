/-! the reference's machine on lists -/
theorem z_nar2 (b : Bool) : u_nar 2 (p_b b) = p_b b := by cases b <;> decide
theorem z_pb0 (b : Bool) : (p_b b = 0) ↔ b = false := by cases b <;> decide
noncomputable def z_do (c : Int32) (x y : Bool × Int32) : Bool × Int32 :=
  if c = Int32.ofInt 38 then (if x.1 = true then x else if x.2 = Int32.ofInt 1 then y else x)
  else if c = Int32.ofInt 124 then (if x.1 = true then x else if x.2 = Int32.ofInt 0 then y else x)
  else (x.1 || y.1 || decide ((c = Int32.ofInt 47 ∨ c = Int32.ofInt 37) ∧ y.2 = 0), f_X12_worked c x.2 y.2)
theorem z_w2 (S : v_Sf) (b : Nat) (v w : Int32) : z_s (z_s S 115 b w) 114 b v 115 b = w ∧ z_s (z_s S 115 b w) 114 b v 114 b = v ∧ ∀ a j, ¬ ((a = 114 ∨ a = 115) ∧ j = b) → z_s (z_s S 115 b w) 114 b v a j = S a j := by
  refine ⟨?_, z_ss, fun a j h => ?_⟩
  · rw [z_sn (by omega), z_ss]
  · rw [z_sn (by omega), z_sn (by omega)]
theorem z_w3 (S : v_Sf) (b : Nat) (v w : Int32) : z_s (z_s S 114 b v) 115 b w 115 b = w ∧ z_s (z_s S 114 b v) 115 b w 114 b = v ∧ ∀ a j, ¬ ((a = 114 ∨ a = 115) ∧ j = b) → z_s (z_s S 114 b v) 115 b w a j = S a j := by
  refine ⟨z_ss, ?_, fun a j h => ?_⟩
  · rw [z_sn (by omega), z_ss]
  · rw [z_sn (by omega), z_sn (by omega)]
theorem z_n21 : u_nar 2 (Int32.ofInt 1) = p_b true := by decide
theorem z_n20 : u_nar 2 (Int32.ofInt 0) = p_b false := by decide
theorem z_pt : ¬ p_b true = 0 := by decide
theorem z_pf : p_b false = 0 := by decide
theorem z_does_eq {S : v_Sf} {c : Int32} {b : Nat} {x y : Bool × Int32} (hb : b < 1000) (h0 : S 115 b = p_b x.1) (h1 : S 114 b = x.2) (h2 : S 115 (b + 1) = p_b y.1) (h3 : S 114 (b + 1) = y.2) : g_X12_does c (z_i b) S 115 b = p_b (z_do c x y).1 ∧ g_X12_does c (z_i b) S 114 b = (z_do c x y).2 ∧ ∀ a j, ¬ ((a = 114 ∨ a = 115) ∧ j = b) → g_X12_does c (z_i b) S a j = S a j := by
  obtain ⟨x1, x2⟩ := x
  obtain ⟨y1, y2⟩ := y
  have e1 : (z_i b).toInt.toNat = b := z_iin (by omega)
  have e2 : (z_i b + Int32.ofInt 1).toInt.toNat = b + 1 := by
    rw [z_i1]
    exact z_iin (by omega)
  have idn : S 115 b = p_b x1 ∧ S 114 b = x2 ∧ ∀ a j, ¬ ((a = 114 ∨ a = 115) ∧ j = b) → S a j = S a j := ⟨h0, h1, fun _ _ _ => rfl⟩
  unfold g_X12_does z_do
  simp only [e1, e2] at h0 h1 h2 h3 ⊢
  simp only [h0, h1, h2, h3, z_nar2, z_n21, z_n20]
  by_cases c1 : c = Int32.ofInt 38
  · simp only [if_pos c1]
    cases x1 with
    | true =>
      simp only [if_pos z_pt, if_true]
      exact ⟨idn.1, idn.2.1, fun _ _ _ => trivial⟩
    | false =>
      simp only [if_neg (not_not_intro z_pf), Bool.false_eq_true, if_false]
      by_cases q : x2 = Int32.ofInt 1
      · simp only [if_pos q]
        exact z_w3 _ _ _ _
      · simp only [if_neg q]
        exact ⟨idn.1, idn.2.1, fun _ _ _ => trivial⟩
  simp only [if_neg c1]
  by_cases c2 : c = Int32.ofInt 124
  · simp only [if_neg (not_not_intro c2), if_pos c2]
    cases x1 with
    | true =>
      simp only [if_pos z_pt, if_true]
      exact ⟨idn.1, idn.2.1, fun _ _ _ => trivial⟩
    | false =>
      simp only [if_neg (not_not_intro z_pf), Bool.false_eq_true, if_false]
      by_cases q : x2 = Int32.ofInt 0
      · simp only [if_pos q]
        exact z_w3 _ _ _ _
      · simp only [if_neg q]
        exact ⟨idn.1, idn.2.1, fun _ _ _ => trivial⟩
  simp only [if_pos c2, if_neg c2]
  cases x1 with
  | true =>
    simp only [if_pos z_pt, Bool.true_or]
    exact z_w2 _ _ _ _
  | false =>
    simp only [if_neg (not_not_intro z_pf), Bool.false_or]
    cases y1 with
    | true =>
      simp only [if_pos z_pt, Bool.true_or]
      exact z_w2 _ _ _ _
    | false =>
      simp only [if_neg (not_not_intro z_pf), Bool.false_or]
      by_cases c3 : c = Int32.ofInt 47
      · simp only [if_pos c3]
        by_cases q : y2 = 0
        · simp only [if_neg (not_not_intro q), decide_eq_true (show (c = Int32.ofInt 47 ∨ c = Int32.ofInt 37) ∧ y2 = 0 from ⟨Or.inl c3, q⟩)]
          exact z_w2 _ _ _ _
        · simp only [if_pos q, decide_eq_false (show ¬ ((c = Int32.ofInt 47 ∨ c = Int32.ofInt 37) ∧ y2 = 0) from fun h => q h.2)]
          exact z_w2 _ _ _ _
      simp only [if_neg c3]
      by_cases c4 : c = Int32.ofInt 37
      · simp only [if_neg (not_not_intro c4)]
        by_cases q : y2 = 0
        · simp only [if_neg (not_not_intro q), decide_eq_true (show (c = Int32.ofInt 47 ∨ c = Int32.ofInt 37) ∧ y2 = 0 from ⟨Or.inr c4, q⟩)]
          exact z_w2 _ _ _ _
        · simp only [if_pos q, decide_eq_false (show ¬ ((c = Int32.ofInt 47 ∨ c = Int32.ofInt 37) ∧ y2 = 0) from fun h => q h.2)]
          exact z_w2 _ _ _ _
      · simp only [if_pos c4, decide_eq_false (show ¬ ((c = Int32.ofInt 47 ∨ c = Int32.ofInt 37) ∧ y2 = 0) from fun h => h.1.elim c3 c4)]
        exact z_w2 _ _ _ _
noncomputable def z_ws (S : v_Sf) : List (Bool × Int32) → Prop
  | [] => True
  | x :: l => (S 115 l.length = p_b x.1 ∧ S 114 l.length = x.2) ∧ z_ws S l
theorem z_ws_c {S S' : v_Sf} : ∀ {l : List (Bool × Int32)}, z_ws S l → (∀ a j, j < l.length → S' a j = S a j) → z_ws S' l
  | [], _, _ => trivial
  | x :: l, h, hc => ⟨⟨by rw [hc _ _ (by simp)]; exact h.1.1, by rw [hc _ _ (by simp)]; exact h.1.2⟩, z_ws_c h.2 (fun a j hj => hc a j (by simp; omega))⟩
noncomputable def z_w (co ar : Nat → Int32) (V : Int32 → Int32) : Nat → List (Bool × Int32) → Nat → Option (List (Bool × Int32))
  | 0, l, _ => some l
  | r + 1, l, i => if co i ≤ Int32.ofInt 2 then (if ¬ co i = Int32.ofInt 2 then (if ¬ co i = 0 then z_w co ar V r ((false, V (ar i)) :: l) (i + 1) else z_w co ar V r ((false, ar i) :: l) (i + 1)) else match l with
      | [] => none
      | x :: l1 => z_w co ar V r ((x.1, Int32.ofInt 1 - x.2) :: l1) (i + 1)) else match l with
    | y :: x :: l2 => z_w co ar V r (z_do (co i) x y :: l2) (i + 1)
    | _ => none
theorem z_w_s (co ar : Nat → Int32) (V : Int32 → Int32) (r : Nat) (l : List (Bool × Int32)) (i : Nat) : z_w co ar V (r + 1) l i = (if co i ≤ Int32.ofInt 2 then (if ¬ co i = Int32.ofInt 2 then (if ¬ co i = 0 then z_w co ar V r ((false, V (ar i)) :: l) (i + 1) else z_w co ar V r ((false, ar i) :: l) (i + 1)) else match l with
      | [] => none
      | x :: l1 => z_w co ar V r ((x.1, Int32.ofInt 1 - x.2) :: l1) (i + 1)) else match l with
    | y :: x :: l2 => z_w co ar V r (z_do (co i) x y :: l2) (i + 1)
    | _ => none) := by
  rw [z_w.eq_def]
theorem z_works_eq (S0 : v_Sf) (x2 : Int32) : ∀ (r : Nat) (l : List (Bool × Int32)) (i : Nat) (S : v_Sf) (l' : List (Bool × Int32)), z_ws S l → (∀ a, a ≠ 114 → a ≠ 115 → S a = S0 a) → l.length + r ≤ 500 → i + r ≤ 1000 → z_w (S0 105) (S0 106) (fun a => f_X12_valueOf a S0) r l i = some l' →
    z_ws (r_X12_works_5 x2 r (z_i l.length) (z_i i) S) l' ∧ ∀ a, a ≠ 114 → a ≠ 115 → r_X12_works_5 x2 r (z_i l.length) (z_i i) S a = S0 a := by
  intro r
  induction r with
  | zero =>
    intro l i S l' hw hS _ _ h
    rw [z_w] at h
    rw [r_X12_works_5]
    exact ⟨by rw [← Option.some.inj h]; exact hw, hS⟩
  | succ r ih =>
    intro l i S l' hw hS hl hi h
    have e5 : S 105 = S0 105 := hS _ (by decide) (by decide)
    have e6 : S 106 = S0 106 := hS _ (by decide) (by decide)
    have ei : (z_i i).toInt.toNat = i := z_iin (by omega)
    have el : (z_i l.length).toInt.toNat = l.length := z_iin (by omega)
    have eV : ∀ a v, f_X12_valueOf a (z_s S 115 l.length v) = f_X12_valueOf a S0 := by
      intro a v
      have h9 : z_s S 115 l.length v 99 = S0 99 := by
        rw [← hS 99 (by decide) (by decide)]
        funext x
        exact z_sn (by omega)
      unfold f_X12_valueOf
      rw [h9]
    rw [z_w_s] at h
    rw [r_X12_works_5]
    simp only [e5, e6, ei, el, eV, z_n20, z_i1]
    have push : ∀ v, z_w (S0 105) (S0 106) (fun a => f_X12_valueOf a S0) r ((false, v) :: l) (i + 1) = some l' → z_ws (r_X12_works_5 x2 r (z_i (l.length + 1)) (z_i (i + 1)) (z_s (z_s S 115 l.length (p_b false)) 114 l.length v)) l' ∧ ∀ a, a ≠ 114 → a ≠ 115 → r_X12_works_5 x2 r (z_i (l.length + 1)) (z_i (i + 1)) (z_s (z_s S 115 l.length (p_b false)) 114 l.length v) a = S0 a := by
      intro v hv
      have w := z_w2 S l.length v (p_b false)
      refine ih ((false, v) :: l) (i + 1) _ l' ⟨⟨w.1, w.2.1⟩, z_ws_c hw (fun a j hj => w.2.2 a j (by omega))⟩ (fun a h1 h2 => ?_) (by simp only [List.length_cons]; omega) (by omega) hv
      rw [← hS a h1 h2]
      funext j
      exact w.2.2 a j (by omega)
    by_cases g1 : S0 105 i ≤ Int32.ofInt 2
    · simp only [if_pos g1] at h ⊢
      by_cases g2 : S0 105 i = Int32.ofInt 2
      · simp only [if_neg (not_not_intro g2)] at h ⊢
        cases l with
        | nil => cases h
        | cons x l1 =>
          have h' : z_w (S0 105) (S0 106) (fun a => f_X12_valueOf a S0) r ((x.1, Int32.ofInt 1 - x.2) :: l1) (i + 1) = some l' := h
          have hlen : (x :: l1).length = l1.length + 1 := rfl
          simp only [hlen, z_isub, z_iin (show l1.length < 2147483648 by simp only [hlen] at hl; omega)]
          rw [hw.1.2]
          refine ih ((x.1, Int32.ofInt 1 - x.2) :: l1) (i + 1) _ l' ⟨⟨?_, z_ss⟩, z_ws_c hw.2 (fun a j hj => z_sn (by omega))⟩ (fun a h1 h2 => ?_) (by simp only [hlen] at hl; simp only [List.length_cons]; omega) (by omega) h'
          · rw [z_sn (by omega)]
            exact hw.1.1
          · rw [← hS a h1 h2]
            funext j
            exact z_sn (by omega)
      · simp only [if_pos g2] at h ⊢
        by_cases g3 : S0 105 i = 0
        · simp only [if_neg (not_not_intro g3)] at h ⊢
          exact push _ h
        · simp only [if_pos g3] at h ⊢
          exact push _ h
    · simp only [if_neg g1] at h ⊢
      match l, hw, hl, h with
      | [], _, _, h => cases h
      | [x], _, _, h => cases h
      | y :: x :: l2, hw, hl, h =>
        have hlen : (y :: x :: l2).length = l2.length + 1 + 1 := rfl
        have hl2 : l2.length < 1000 := by simp only [hlen] at hl; omega
        simp only [hlen, z_idec, z_isub]
        have q := z_does_eq (S := S) (c := S0 105 i) (b := l2.length) (x := x) (y := y) hl2 hw.2.1.1 hw.2.1.2 hw.1.1 hw.1.2
        refine ih (z_do (S0 105 i) x y :: l2) (i + 1) _ l' ⟨⟨q.1, q.2.1⟩, z_ws_c hw.2.2 (fun a j hj => q.2.2 a j (by omega))⟩ (fun a h1 h2 => ?_) (by simp only [hlen] at hl; simp only [List.length_cons]; omega) (by omega) h
        rw [← hS a h1 h2]
        funext j
        exact q.2.2 a j (by omega)
