/-! months: rules, the month, all of them -/
noncomputable def z_Bs (c s nc : Nat) (S T : v_Sf) : Prop := z_St s S T ∧ z_Wa S T ∧ z_co 10 (S 48) (T 132) 0 1023 ∧ z_LawR c S T nc ∧ T 99 16 = z_i nc
theorem z_Mo_bs {c s nc : Nat} {S T : v_Sf} (h : z_Mo c s nc S T) : z_Bs c s nc S T := ⟨h.1, h.2.1, h.2.2.1, h.2.2.2.1, h.2.2.2.2.1⟩
theorem z_Mo_b {c s nc : Nat} {S T S' T' : v_Sf} (h : z_Bs c s nc S T) (f : ∀ a, (s < a ∧ a ≤ s + 8 ∨ 33 ≤ a ∧ a ≤ 44 ∨ a = 48 ∨ c ≤ a ∧ a ≤ c + 6 ∧ a ≠ c + 3) → S' a = S a) (fs : ∀ j, (j = 0 ∨ j = 7 ∨ j = 11 ∨ j = 12 ∨ j = 13) → S' s j = S s j) (f75 : S' 75 3 = T' 99 70) (g : ∀ a j, (a = 99 ∧ (j = 16 ∨ j = 60 ∨ j = 61 ∨ j = 62) ∨ 101 ≤ a ∧ a ≤ 106 ∨ 116 ≤ a ∧ a ≤ 132 ∧ a ≠ 128) → T' a j = T a j) : z_Mo c s nc S' T' := by
  obtain ⟨⟨a1, a2, a3, a4, a5, a6, a7, a8, a9, a10, a12, a13, a14⟩, b1, b3, b4, b5⟩ := h
  have gr : ∀ a, (101 ≤ a ∧ a ≤ 106 ∨ 116 ≤ a ∧ a ≤ 132 ∧ a ≠ 128) → T' a = T a := fun a q => funext (fun j => g a j (by omega))
  have g99 : ∀ j, (j = 16 ∨ j = 60 ∨ j = 61 ∨ j = 62) → T' 99 j = T 99 j := fun j q => g 99 j (by omega)
  refine ⟨⟨?_, ?_, ?_, ?_, ?_, ?_, ?_, ?_, ?_, ?_, ?_, ?_, ?_⟩, ?_, ?_, ?_, ?_, ?_⟩
  · rw [fs 0 (by omega), gr 116 (by omega)]
    exact a1
  · rw [f (s + 1) (by omega), gr 117 (by omega)]
    exact a2
  · rw [f (s + 2) (by omega), gr 116 (by omega), gr 118 (by omega)]
    exact a3
  · rw [f (s + 3) (by omega), gr 119 (by omega)]
    exact a4
  · rw [f (s + 4) (by omega), gr 120 (by omega)]
    exact a5
  · rw [f (s + 5) (by omega), gr 121 (by omega)]
    exact a6
  · rw [f (s + 6) (by omega), gr 122 (by omega)]
    exact a7
  · rw [fs 7 (by omega), gr 129 (by omega)]
    exact a8
  · rw [f (s + 7) (by omega), gr 130 (by omega)]
    exact a9
  · rw [f (s + 8) (by omega), gr 131 (by omega)]
    exact a10
  · rw [fs 11 (by omega), g99 60 (by omega)]
    exact a12
  · rw [fs 12 (by omega), g99 61 (by omega)]
    exact a13
  · rw [fs 13 (by omega), g99 62 (by omega)]
    exact a14
  · intro w hw
    rw [f (33 + 2 * w) (by omega), f (33 + 2 * w + 1) (by omega), gr 127 (by omega), gr 123 (by omega), gr 124 (by omega), gr 125 (by omega), gr 126 (by omega)]
    exact b1 w hw
  · rw [f 48 (by omega), gr 132 (by omega)]
    exact b3
  · exact z_LawR_t b4 (f _ (by omega)) (f _ (by omega)) (f _ (by omega)) (f _ (by omega)) (f _ (by omega)) (f _ (by omega)) (fun a j q => g a j (by omega))
  · rw [g99 16 (by omega)]
    exact b5
  · exact f75
theorem z_run_f {b : Nat} (hb : z_cd b) (i : Int32) (S : v_Sf) : ∀ a, a ≠ b + 3 → g_X1_run b i S a = S a := (z_run_eq hb S 256 0 0 i S (by omega) (fun _ _ => rfl)).2
theorem z_does_f (x b : Int32) (S : v_Sf) : ∀ a, a ≠ 114 → a ≠ 115 → g_X12_does x b S a = S a := by
  intro a h1 h2
  have w1 : ∀ i v j u, z_s (z_s S 114 i v) 115 j u a = S a := fun i v j u => (z_sr h2).trans (z_sr h1)
  have w2 : ∀ i v j u, z_s (z_s S 115 i v) 114 j u a = S a := fun i v j u => (z_sr h1).trans (z_sr h2)
  unfold g_X12_does
  repeat' split
  all_goals first | rfl | exact w1 _ _ _ _ | exact w2 _ _ _ _
theorem z_wks_f (x2 : Int32) : ∀ (r : Nat) (x3 x4 : Int32) (S : v_Sf) (a : Nat), a ≠ 114 → a ≠ 115 → r_X12_works_5 x2 r x3 x4 S a = S a := by
  intro r
  induction r with
  | zero =>
    intro x3 x4 S a _ _
    rw [r_X12_works_5]
  | succ r ih =>
    intro x3 x4 S a h1 h2
    rw [r_X12_works_5]
    split
    · split
      · split
        · rw [ih _ _ _ a h1 h2, z_sr h1, z_sr h2]
        · rw [ih _ _ _ a h1 h2, z_sr h1, z_sr h2]
      · rw [ih _ _ _ a h1 h2, z_sr h1]
    · rw [ih _ _ _ a h1 h2, z_does_f _ _ _ a h1 h2]
theorem z_kept_f (x w : Int32) (T : v_Sf) : ∀ a j, ¬ (a = 99 ∧ 27 ≤ j ∧ j ≤ 40) → a ≠ 114 → a ≠ 115 → g_X12_isKeptBy x w T a j = T a j := by
  intro a j q h1 h2
  have no := z_noth T
  unfold g_X12_isKeptBy g_X12_isSo g_X12_works F_X12_works
  rw [z_wks_f _ _ _ _ _ a h1 h2, z_sn (by omega), z_sn (by omega), z_sn (by omega), z_sn (by omega), z_sn (by omega), no.1 a j q]
noncomputable def z_mj (a j : Nat) : Prop := a = 99 ∧ (27 ≤ j ∧ j ≤ 40 ∨ 74 ≤ j ∧ j ≤ 76) ∨ a = 114 ∨ a = 115
theorem z_judg_f : ∀ (r k : Nat) (T : v_Sf), z_fj z_mj T (r_X12_judges_2 r k T) := by
  have inn : ∀ (κ : v_Sf → v_Sf) (k2 : Nat), (∀ X, z_fj z_mj X (κ X)) → ∀ (r k : Nat) (T : v_Sf), z_fj z_mj T (r_X12_judges_12 κ k2 r k T) := by
    intro κ k2 hκ r
    induction r with
    | zero =>
      intro k T
      rw [r_X12_judges_12]
      exact hκ T
    | succ r ih =>
      intro k T
      have kf : z_fj z_mj T (g_X12_isKeptBy (z_i k2) (z_i k) T) := fun a j q => by
        unfold z_mj at q
        exact z_kept_f _ _ T a j (by omega) (by omega) (by omega)
      rw [r_X12_judges_12]
      split
      · split
        · refine fun a j q => ?_
          rw [← kf a j q]
          unfold z_mj at q
          exact z_sn (by omega)
        · refine fun a j q => ?_
          rw [← kf a j q]
          unfold z_mj at q
          rw [z_sn (by omega), z_sn (by omega), z_sn (by omega)]
      · exact z_fj_t kf (ih _ _)
  intro r
  induction r with
  | zero =>
    intro k T a j q
    rw [r_X12_judges_2]
  | succ r ih =>
    intro k T
    rw [r_X12_judges_2]
    split
    · exact fun _ _ _ => rfl
    · exact inn _ k (fun X => ih (k + 1) X) _ _ _
noncomputable def z_mr (b a j : Nat) : Prop := a = 51 ∨ a = b + 3 ∨ a = 75 ∧ 5 ≤ j
theorem z_fb_f {b s : Nat} (hb : z_cd b) (hs : z_st s) {w : Nat} (hw : w < 6) (S : v_Sf) : z_fj (z_mr b) S (g_X3_firstBroken b s (z_i w) S) := by
  have lp : ∀ (r k : Nat) (S : v_Sf) (a : Nat), a ≠ b + 3 → (r_X3_firstBroken_8 b s r k S).2 a = S a := by
    intro r
    induction r with
    | zero =>
      intro k S a _
      rw [r_X3_firstBroken_8]
    | succ r ih =>
      intro k S a ha
      rw [r_X3_firstBroken_8]
      split
      · rfl
      · split
        · rw [ih _ _ a ha, z_run_f hb _ _ a ha]
        · exact z_run_f hb _ _ a ha
  intro a j q
  unfold z_mr at q
  unfold g_X3_firstBroken F_X3_firstBroken
  rw [lp _ _ _ a (by omega), (z_lookW hs hw S).1 a (by omega)]
theorem z_ask_f {b s : Nat} (hb : z_cd b) (hs : z_st s) : ∀ (r k : Nat) (x y : Int32) (S : v_Sf), r + k = 6 → z_fj (z_mr b) S (r_X0_askRules_9 b s r k x y S) := by
  intro r
  induction r with
  | zero =>
    intro k x y S _
    rw [r_X0_askRules_9]
    split
    · exact fun a j q => z_sn (by unfold z_mr at q; omega)
    · split
      · exact fun a j q => z_sn (by unfold z_mr at q; omega)
      · refine fun a j q => ?_
        unfold z_mr at q
        rw [z_sn (by omega), z_sn (by omega), z_sn (by omega)]
  | succ r ih =>
    intro k x y S hk
    have f := z_fb_f hb hs (show k < 6 by omega) S
    rw [r_X0_askRules_9]
    split
    · exact z_fj_t f (ih _ _ _ _ (by omega))
    · split
      · exact z_fj_t f (ih _ _ _ _ (by omega))
      · split
        · exact z_fj_t f (ih _ _ _ _ (by omega))
        · exact z_fj_t f (ih _ _ _ _ (by omega))
noncomputable def z_mcG (c b s a j : Nat) : Prop := z_mcB c b s a j ∨ a = s ∧ j = 11
noncomputable def z_mmG (a j : Nat) : Prop := z_mmB a j ∨ a = 99 ∧ j = 60
noncomputable def z_RG (c b s nc : Nat) (S0 T0 S T : v_Sf) : Prop := z_Mo c s nc S T ∧ z_PX s S T ∧ z_fj (z_mcG c b s) S0 S ∧ z_fj z_mmG T0 T
/-- rules are asked, the month is over -/
theorem z_month_end {c b s nc : Nat} (hc : z_cd c) (hb : z_cd b) (hs : z_st s) {S0 T0 S T : v_Sf} (h : z_RB c b s nc S0 T0 S T) (h9 : (T 99 60).toInt < 9999) : z_RG c b s nc S0 T0 (z_s (g_X0_askRules b s S) s 11 (((g_X0_askRules b s S) s 11) + (Int32.ofInt 1))) (z_s (g_X12_judges T) 99 60 (((g_X12_judges T) 99 60) + (Int32.ofInt 1))) := by
  have hsn := z_stn hs
  have hcl := z_cdl hc
  have hbl := z_cdl hb
  have fa : z_fj (z_mr b) S (g_X0_askRules b s S) := by
    unfold g_X0_askRules F_X0_askRules
    exact z_ask_f hb hs (6 - 0) 0 (Int32.ofInt (-2)) (Int32.ofInt (-2)) S (by omega)
  have fj : z_fj z_mj T (g_X12_judges T) := by
    unfold g_X12_judges F_X12_judges
    exact z_judg_f _ _ T
  obtain ⟨hM, hP, hF, hG⟩ := h
  generalize g_X0_askRules b s S = A at fa
  generalize g_X12_judges T = B at fj
  have mA : z_Mo c s nc A B := z_Mo_f hM (fun a q => funext fun j => fa a j (by unfold z_mr; omega)) (fun j q => fa s j (by unfold z_mr; omega)) (fa 75 3 (by unfold z_mr; omega)) (fun a j q => fj a j (by unfold z_mj; omega))
  have mo := mA.1.2.2.2.2.2.2.2.2.2.2.1
  have b60 : B 99 60 = T 99 60 := fj 99 60 (by unfold z_mj; omega)
  have av : (B 99 60 + Int32.ofInt 1).toInt = (B 99 60).toInt + 1 := z_addI (by rw [z_n1]; omega)
  rw [mo.1]
  refine ⟨z_Mo_mon hc hs mA (by rw [b60] at av mo ⊢; omega), z_PX_f hP ?_ ?_ ?_ ?_ ?_, fun a j q => ?_, fun a j q => ?_⟩
  · exact (z_sr (by omega)).trans (funext fun j => fa _ _ (by unfold z_mr; omega))
  · rw [z_sn (by omega), fa _ _ (by unfold z_mr; omega)]
  · exact (z_sr (by decide)).trans (funext fun j => fj _ _ (by unfold z_mj; omega))
  · exact (z_sr (by decide)).trans (funext fun j => fj _ _ (by unfold z_mj; omega))
  · rw [z_sn (by omega), fj _ _ (by unfold z_mj; omega)]
  · have q' := q
    unfold z_mcG z_mcB z_mc at q'
    rw [z_sn (by omega), fa a j (by unfold z_mr; omega)]
    exact hF a j (fun n => q (Or.inl n))
  · have q' := q
    unfold z_mmG z_mmB z_mm at q'
    rw [z_sn (by omega), fj a j (by unfold z_mj; omega)]
    exact hG a j (fun n => q (Or.inl n))
/-- a month on both sides -/
theorem z_pass_ok {c b s nc : Nat} (hc : z_cd c) (hb : z_cd b) (hs : z_st s) {S0 T0 S T : v_Sf} (h : z_RG c b s nc S0 T0 S T) (h9 : (T 99 60).toInt < 9999) : z_RG c b s nc S0 T0 (g_X0_pass c b s S) (z_s (g_X12_judges (g_X12_nursesGo (g_X12_whistle (g_X12_breaks (g_X12_wardsGo (g_X12_weakens T)))))) 99 60 (((g_X12_judges (g_X12_nursesGo (g_X12_whistle (g_X12_breaks (g_X12_wardsGo (g_X12_weakens T)))))) 99 60) + (Int32.ofInt 1))) := by
  have hw := z_weaken_ok hc hs (b := b) (S0 := S) (T0 := T) ⟨h.1, h.2.1, fun _ _ _ => rfl, fun _ _ _ => rfl⟩
  obtain ⟨S1, e1, h1⟩ := z_ward_l hc hs 6 0 _ _ (by omega) hw
  have h2 := z_RB_in hc hs h1 (z_break_l hc hs 12 0 _ _ (by omega) (z_R_r h1.1))
  have h3 := z_RB_in hc hs h2 (z_quar_l hc hs 12 0 _ _ (by omega) (z_R_r h2.1))
  obtain ⟨T4, e4, h4⟩ := z_rec_l hc hs 5 0 _ _ (by omega) h3
  obtain ⟨S5, e5, h5⟩ := z_sick_l hc hs 6 0 _ _ (by omega) h4
  -- the month as it was
  have e60 : (r_X12_nursesGo_34 6 0 T4) 99 60 = T 99 60 := by
    exact h5.2.2.2 99 60 (by unfold z_mmB z_mm; omega)
  have eP : g_X0_pass c b s S = z_s (g_X0_askRules b s S5) s 11 (((g_X0_askRules b s S5) s 11) + (Int32.ofInt 1)) := by
    show r_X0_pass_7 c b s 6 0 (g_X0_weaken c s S) = _
    rw [e1]
    exact e5
  have eN : g_X12_nursesGo (g_X12_whistle (g_X12_breaks (g_X12_wardsGo (g_X12_weakens T)))) = r_X12_nursesGo_34 6 0 T4 := e4
  rw [eP, eN]
  have h6 := z_month_end hc hb hs h5 (by rw [e60]; exact h9)
  exact ⟨h6.1, h6.2.1, z_fj_t h.2.2.1 h6.2.2.1, z_fj_t h.2.2.2 h6.2.2.2⟩
theorem z_go_l {c b s nc : Nat} (hc : z_cd c) (hb : z_cd b) (hs : z_st s) {S0 T0 : v_Sf} (x x' : Int32) : ∀ (r k : Nat) (S T : v_Sf), z_RG c b s nc S0 T0 S T → z_RG c b s nc S0 T0 (r_X0_go_29 c b s x r k S) (r_X12_go_39 x' r k T) := by
  intro r
  induction r with
  | zero =>
    intro k S T h
    rw [r_X0_go_29, r_X12_go_39]
    exact h
  | succ r ih =>
    intro k S T h
    have mo := h.1.1.2.2.2.2.2.2.2.2.2.2.1
    rw [r_X0_go_29, r_X12_go_39, mo.1]
    by_cases q : Int32.ofInt 9999 ≤ T 99 60
    · rw [if_pos q, if_pos q]
      exact h
    · have q' : ¬ (Int32.ofInt 9999).toInt ≤ (T 99 60).toInt := fun n => q (z_leI2.mpr n)
      rw [show (Int32.ofInt 9999).toInt = 9999 from rfl] at q'
      rw [if_neg q, if_neg q]
      exact ih (k + 1) _ _ (z_pass_ok hc hb hs h (by omega))
/-- all months -/
theorem z_go_ok {c b s nc : Nat} (hc : z_cd c) (hb : z_cd b) (hs : z_st s) {S T : v_Sf} (h : z_Bs c s nc S T) (hp : z_PX s S T) (m : Int32) : z_RG c b s nc S T (g_X0_go c b s m S) (g_X12_go m T) := by
  have hsn := z_stn hs
  have hcl := z_cdl hc
  unfold g_X0_go F_X0_go g_X12_go F_X12_go
  refine z_go_l hc hb hs m m _ _ _ _ ⟨z_Mo_b h (fun a q => ?_) (fun j q => ?_) ?_ (fun a j q => ?_), z_PX_f hp ?_ ?_ ?_ ?_ ?_, fun a j q => ?_, fun a j q => ?_⟩
  · rw [z_sr (by omega), z_sr (by omega), z_sr (by omega), z_sr (by omega), z_sr (by omega)]
  · rw [z_sn (by omega), z_sn (by omega), z_sn (by omega), z_sn (by omega), z_sn (by omega)]
  · rw [z_sn (by omega), z_sn (by omega), z_sn (by omega), z_sn (by omega), z_ss, z_sn (by omega), z_sn (by omega), z_sn (by omega), z_sn (by omega), z_sn (by omega), z_sn (by omega), z_ss]
  · rw [z_sn (by omega), z_sn (by omega), z_sn (by omega), z_sn (by omega), z_sn (by omega), z_sn (by omega), z_sn (by omega)]
  · rw [z_sr (by omega), z_sr (by omega), z_sr (by omega), z_sr (by omega), z_sr (by omega)]
  · rw [z_sn (by omega), z_sn (by omega), z_sn (by omega), z_sn (by omega), z_sn (by omega)]
  · rw [z_sr (by decide), z_sr (by decide), z_sr (by decide), z_sr (by decide), z_sr (by decide), z_sr (by decide), z_sr (by decide)]
  · rw [z_sr (by decide), z_sr (by decide), z_sr (by decide), z_sr (by decide), z_sr (by decide), z_sr (by decide), z_sr (by decide)]
  · rw [z_sn (by omega), z_sn (by omega), z_sn (by omega), z_sn (by omega), z_sn (by omega), z_sn (by omega), z_sn (by omega)]
  · unfold z_mcG z_mcB at q
    rw [z_sn (by omega), z_sn (by omega), z_sn (by omega), z_sn (by omega), z_sn (by omega)]
  · unfold z_mmG z_mmB z_mm at q
    rw [z_sn (by omega), z_sn (by omega), z_sn (by omega), z_sn (by omega), z_sn (by omega), z_sn (by omega), z_sn (by omega)]
/-- the call months -/
theorem z_months_ok {c b nc : Nat} (hc : z_cd c) (hb : z_cd b) {S T : v_Sf} (h : z_Bs c 1 nc S T) (hp : z_PX 1 S T) (m : Int32) : f_X11_months c b m S = f_X12_months m T ∧ (z_Bs c 1 nc (g_X11_months c b m S) (g_X12_months m T) ∧ z_PX 1 (g_X11_months c b m S) (g_X12_months m T)) ∧ z_fj (z_mcG c b 1) S (g_X11_months c b m S) ∧ z_fj z_mmG T (g_X12_months m T) := by
  have e1 : (Int32.ofInt 1).toInt = 1 := rfl
  have e60 : (Int32.ofInt 60).toInt = 60 := rfl
  have g := z_go_ok hc hb (s := 1) (Or.inl rfl) h hp m
  unfold f_X11_months g_X11_months f_X12_months g_X12_months
  by_cases q : 1 ≤ m.toInt ∧ m.toInt ≤ 60
  · have n1 : ¬ m < Int32.ofInt 1 := by
      rw [z_ltI2]
      omega
    have n2 : m ≤ Int32.ofInt 60 := by
      rw [z_leI2]
      omega
    have n3 : ¬ z_in m 1 60 = 0 := by
      unfold z_in
      rw [z_pb0, decide_eq_false_iff_not]
      exact not_not_intro q
    simp only [if_neg n1, if_pos n2, if_pos n3]
    exact ⟨g.1.2.2.2.2.2, ⟨z_Mo_bs g.1, g.2.1⟩, g.2.2.1, g.2.2.2⟩
  · have n3 : ¬ ¬ z_in m 1 60 = 0 := by
      unfold z_in
      rw [z_pb0, decide_eq_false_iff_not]
      exact not_not_intro q
    simp only [if_neg n3]
    by_cases n1 : m < Int32.ofInt 1
    · simp only [if_pos n1]
      exact ⟨trivial, ⟨h, hp⟩, fun _ _ _ => rfl, fun _ _ _ => rfl⟩
    · have n2 : ¬ m ≤ Int32.ofInt 60 := by
        intro n
        rw [z_ltI2] at n1
        rw [z_leI2] at n
        omega
      simp only [if_neg n1, if_neg n2]
      exact ⟨trivial, ⟨h, hp⟩, fun _ _ _ => rfl, fun _ _ _ => rfl⟩
