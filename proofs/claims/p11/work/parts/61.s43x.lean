/-! timetables: groups, all months -/
theorem z_sk_wrm (l : Int32) (S : v_Sf) : g_X5_writeMonth l S 66 6 = S 66 6 := by
  unfold g_X5_writeMonth
  split
  · exact z_sk_adv _ _
  · rw [z_sn (by omega), z_sn (by omega), z_sk_adv]
theorem z_sk_rpl (x4 x5 : Int32) : ∀ (r : Nat) (x6 : Int32) (S : v_Sf), r_X5_repeat_37 x4 x5 r x6 S 66 6 = S 66 6 := by
  intro r
  induction r with
  | zero =>
    intro x6 S
    rw [r_X5_repeat_37, z_sn (by omega)]
  | succ r ih =>
    intro x6 S
    rw [r_X5_repeat_37]
    split
    · rw [z_sn (by omega)]
    · split
      · rw [z_sn (by omega)]
      · rw [ih, z_sn (by omega)]
theorem z_sk_rpt {a b i : Int32} {S : v_Sf} (h : S 66 6 < 0) : g_X5_repeat a b i S 66 6 = S 66 6 := by
  unfold g_X5_repeat F_X5_repeat
  split
  · exact z_sk_rpl _ _ _ _ _
  · exact z_sk_fail h
theorem z_sk_grp {φG : Int32 → v_Sf → v_Sf} (hk : ∀ b, z_sk (φG b)) (a : Int32) : z_sk (g_readGroupF φG a) := by
  intro S h
  unfold g_readGroupF F_readGroupF
  split
  · have k := hk (a + Int32.ofInt 1) (z_s S 66 4 ((S 66 4) + (Int32.ofInt 1))) (by rw [z_sk_adv]; exact h)
    rw [z_sk_adv] at k
    rw [z_sk_expect (by rw [k]; exact h), k]
  · exact z_sk_fail h
theorem z_sk_mZ {φG : Int32 → v_Sf → v_Sf} (hk : ∀ b, z_sk (φG b)) (a : Int32) : z_sk (z_mZ φG a) := by
  intro S h
  unfold z_mZ
  split
  · split
    · split
      · exact z_sk_fail h
      · split
        · exact z_sk_fail h
        · exact z_sk_wrm _ _
    · exact z_sk_wrm _ _
  · exact z_sk_grp hk a S h
theorem z_sk_mW {φG : Int32 → v_Sf → v_Sf} (hk : ∀ b, z_sk (φG b)) (a M t f : Int32) : z_sk (z_mW φG a M t f) := by
  intro S h
  have k := z_sk_mZ hk a S h
  unfold z_mW
  split
  · exact k
  · rw [z_sk_rpt (by rw [k]; exact h), k]
theorem z_sk_mon {φG : Int32 → v_Sf → v_Sf} (hk : ∀ b, z_sk (φG b)) (a : Int32) : z_sk (g_readMonthF φG a) := by
  intro S h
  by_cases c : f_X5_here S < Int32.ofInt 50 ∨ Int32.ofInt 57 < f_X5_here S
  · rw [z_rm1 c]
    exact z_sk_mW hk _ _ _ _ S h
  · rw [z_rm2 (fun q => c (Or.inl q)) (fun q => c (Or.inr q)), z_sk_mW hk _ _ _ _ _ (by rw [z_sk_adv]; exact h), z_sk_adv]
theorem z_sk_mns {φG : Int32 → v_Sf → v_Sf} (hk : ∀ b, z_sk (φG b)) (a : Int32) : ∀ (r k : Nat), z_sk (r_readMonthsF_2 φG a r k) := by
  intro r
  induction r with
  | zero =>
    intro k S h
    rw [r_readMonthsF_2]
  | succ r ih =>
    intro k S h
    have m := z_sk_mon hk a S h
    rw [r_readMonthsF_2]
    split
    · exact m
    · split
      · rw [ih _ _ (by rw [m]; exact h), m]
      · exact m
theorem z_sk_rdM : ∀ (f : Nat) (a : Int32), z_sk (g_rdM f a) := by
  intro f
  induction f with
  | zero =>
    intro a
    rw [g_rdM]
    exact z_sk_mns (fun _ _ _ => rfl) a _ _
  | succ f ih =>
    intro a
    rw [g_rdM]
    exact z_sk_mns ih a _ _
theorem z_mon_ok {w : Nat → Int32} (hw : z_by w) {x : Int32} {n : Nat} {φG : Int32 → v_Sf → v_Sf} {a : Nat} (ha : a ≤ 2) (hk : ∀ b, z_sk (φG b)) (hG : a < 2 → z_MONS w x n (φG (z_i (a + 1))) (a + 1)) : z_MON w x n (g_readMonthF φG (z_i a)) a := by
  intro S T p M bg hC hM htb h41 hpn
  obtain ⟨S1, T1, p1, tm, e1, c1, f1, t1, t2, m1, ft, htm, hp, hp1, e74⟩ := z_times hw (φG := φG) (a' := z_i a) hC hM
  have hn := hC.2.2.2.2.2.2
  have hn1 := c1.2.2.2.2.2.2
  have hhC := z_tc_here c1
  have hhM := z_tm_here m1
  have tb1 : z_tb S1 T1 M := fun j hj => by
    rw [e74, ft 133 j (by omega)]
    exact htb j hj
  rw [e1]
  by_cases hlt : p < n
  · have hR : g_X12_monthTold T = z_mtR T := by
      refine z_mt_R ?_
      by_cases q : z_hc w p n = Int32.ofInt 41
      · right
        by_cases q2 : 0 < a
        · right
          rw [hM.2.2.2.2.2.2.1]
          exact Classical.byContradiction (fun m => h41 ⟨q, q2, m⟩)
        · left
          rw [hM.2.2.2.2.2.1, show a = 0 by omega]
          decide
      · left
        rw [z_tm_here hM]
        exact fun m => q ((z_hcm (by decide)).mpr m)
    unfold z_mtR at hR
    rw [t1, t2, hhM] at hR
    by_cases c40 : z_hc w p1 n = Int32.ofInt 40
    · have m40 := (z_hcm (by decide)).mp c40
      have hlt1 := z_hlt (by decide) c40
      have eZ : z_mZ φG (z_i a) S1 = g_readGroupF φG (z_i a) S1 := by
        unfold z_mZ
        rw [hhC, if_neg (not_not_intro c40)]
      rw [if_neg (not_not_intro m40)] at hR
      rcases Nat.lt_or_ge a 2 with h2 | h2
      · have n2 : ¬ T1 99 65 = Int32.ofInt 2 := by
          rw [m1.2.2.2.2.2.1, show Int32.ofInt 2 = z_i 2 from rfl, z_inj (by omega) (by omega)]
          omega
        rw [if_pos n2, if_pos (z_good1 m1.2.2.2.1), m1.2.2.2.2.2.1, m1.2.2.2.2.1, m1.2.1, hM.2.1, z_i1, z_i1, z_iin (by omega)] at hR
        generalize hT2 : z_s (z_s (z_s (z_s (z_s (z_s T1 134 a (z_i M)) 135 a (z_i tm)) 136 a (z_i p)) 99 65 (z_i (a + 1))) 99 66 (Int32.ofInt 0)) 99 3 (z_i (p1 + 1)) = T2 at hR
        have eG : g_readGroupF φG (z_i a) S1 = g_X5_expect (Int32.ofInt 41) (φG (z_i (a + 1)) (z_s S1 66 4 ((S1 66 4) + (Int32.ofInt 1)))) := by
          unfold g_readGroupF F_readGroupF
          rw [if_pos (by rw [show Int32.ofInt 2 = z_i 2 from rfl, z_ilt (by omega) (by omega)]; exact h2), z_i1]
        have fT2 : ∀ b j, ¬ (b = 99 ∧ (j = 3 ∨ j = 65 ∨ j = 66)) → ¬ ((b = 134 ∨ b = 135 ∨ b = 136) ∧ j = a) → T2 b j = T b j := by
          intro b j q1 q2
          rw [← hT2, z_sn (by omega), z_sn (by omega), z_sn (by omega), z_sn (by omega), z_sn (by omega), z_sn (by omega), ft b j (by omega)]
        have mT2 : z_tm w T2 (p1 + 1) n M (a + 1) (Int32.ofInt 0) := by
          refine z_tm_w m1 (fun b j q => ?_) ?_ ?_ ?_ ?_ (by omega) m1.2.2.2.2.2.2.2.2.2.1 (by omega)
          · rw [← hT2, z_sn (by omega), z_sn (by omega), z_sn (by omega), z_sn (by omega), z_sn (by omega), z_sn (by omega)]
          · rw [← hT2, z_ss]
          · rw [← hT2, z_sn (by omega), z_sn (by omega), z_sn (by omega), z_sn (by omega), z_sn (by omega), z_sn (by omega)]
            exact m1.2.2.2.2.1
          · rw [← hT2, z_sn (by omega), z_sn (by omega), z_ss]
          · rw [← hT2, z_sn (by omega), z_ss]
        have g134 : T2 134 a = z_i M := by rw [← hT2, z_sn (by omega), z_sn (by omega), z_sn (by omega), z_sn (by omega), z_sn (by omega), z_ss]
        have g135 : T2 135 a = z_i tm := by rw [← hT2, z_sn (by omega), z_sn (by omega), z_sn (by omega), z_sn (by omega), z_ss]
        have g136 : T2 136 a = z_i p := by rw [← hT2, z_sn (by omega), z_sn (by omega), z_sn (by omega), z_ss]
        have up : ∀ Y, z_zT x T2 Y → z_zT x T Y := fun Y hY => z_zT_m hM hlt (by rw [hR]; exact hY)
        have cA := z_tc_adv c1 hlt1
        have gF2 : z_gF T T2 := fun b j q1 q2 => fT2 b j (by omega) (by omega)
        rcases hG h2 _ _ (p1 + 1) M _ cA mT2 (fun j hj => by rw [z_sn (by omega), e74, fT2 133 j (by omega) (by omega)]; exact htb j hj) (fun q => q.2.2 (by decide)) (fun _ => by omega) with ⟨g1, U, g2, g3⟩ | ⟨T3, p3, M3, d1, d2, d3, d4, d5, d6, d7, d8, d9⟩
        · have k := z_sk_expect (c := Int32.ofInt 41) g1
          have eW : z_mW φG (z_i a) (z_i M) (z_i tm) (z_i p) S1 = g_X5_expect (Int32.ofInt 41) (φG (z_i (a + 1)) (z_s S1 66 4 ((S1 66 4) + (Int32.ofInt 1)))) := by
            unfold z_mW
            rw [eZ, eG, if_pos (by rw [k]; exact z_ng g1)]
          rw [eW, k]
          exact Or.inl ⟨g1, U, up _ g2, fun b j q1 q2 => (g3 b j q1 q2).trans (gF2 b j q1 q2)⟩
        · have hd3 := d2.2.2.2.2.2.2.2
          generalize hB : φG (z_i (a + 1)) (z_s S1 66 4 ((S1 66 4) + (Int32.ofInt 1))) = B at *
          have fB : z_gC M S1 B := fun b j q1 q2 => (d6 b j q1 q2).trans (z_sn (by omega))
          by_cases c41 : z_hc w p3 n = Int32.ofInt 41
          · have hlt3 := z_hlt (by decide) c41
            have cZ := z_tc_adv d1 hlt3
            have eE : g_X5_expect (Int32.ofInt 41) B = z_s B 66 4 (B 66 4 + Int32.ofInt 1) := by
              unfold g_X5_expect
              rw [z_tc_here d1, if_neg (not_not_intro c41)]
            have eW : z_mW φG (z_i a) (z_i M) (z_i tm) (z_i p) S1 = g_X5_repeat (z_i M) (z_i tm) (z_i p) (z_s B 66 4 (B 66 4 + Int32.ofInt 1)) := by
              unfold z_mW
              rw [eZ, eG, eE, if_neg (not_not_intro cZ.2.2.2.2.1)]
            rw [eW]
            have h134 : T3 134 a = z_i M := by rw [d7 134 a (by omega) (by omega) (by omega), g134]
            have h135 : T3 135 a = z_i tm := by rw [d7 135 a (by omega) (by omega) (by omega), g135]
            have h136 : T3 136 a = z_i p := by rw [d7 136 a (by omega) (by omega) (by omega), g136]
            have hCl : g_X12_monthTold T3 = g_X12_repeats (z_i M) (z_i tm) (z_i p) (z_s (z_s T3 99 65 (z_i a)) 99 3 (z_i (p3 + 1))) := by
              rw [z_mt_C (by rw [z_tm_here d2]; exact (z_hcm (by decide)).mp c41) (by rw [d2.2.2.2.2.2.1, show (0 : Int32) = z_i 0 from rfl, z_ile (by omega) (by omega)]; omega) (by rw [d2.2.2.2.2.2.2.1]; decide), d2.2.2.2.2.2.1, d2.2.1, z_isub, z_i1, z_iin (by omega), h134, h135, h136]
            have mT4 : z_tm w (z_s (z_s T3 99 65 (z_i a)) 99 3 (z_i (p3 + 1))) (p3 + 1) n M3 a (Int32.ofInt 1) := by
              refine z_tm_w d2 (fun b j q => ?_) z_ss ?_ ?_ ?_ (by omega) hd3.2.2.1 (by omega)
              · rw [z_sn (by omega), z_sn (by omega)]
              · rw [z_sn (by omega), z_sn (by omega)]
                exact d2.2.2.2.2.1
              · rw [z_sn (by omega), z_ss]
              · rw [z_sn (by omega), z_sn (by omega)]
                exact d2.2.2.2.2.2.2.1
            obtain ⟨o, ho⟩ : ∃ o, M3 = M + o := ⟨M3 - M, by omega⟩
            subst ho
            have rm := z_rep_m (i := p) mT4 (show 1 ≤ o by omega) htm
            rcases z_rep_c (i := p) cZ (show 1 ≤ o by omega) htm (by omega) with ⟨q, r1, r2, r3⟩ | ⟨q, r1⟩
            · obtain ⟨s1, s2, s3⟩ := rm.1 q
              have hle : o ≤ o * tm := Nat.le_mul_of_pos_right o (by omega)
              refine Or.inr ⟨_, p3 + 1, M + o * tm, r1, s1, fun j hj => ?_, by omega, by omega, z_gC_t (z_gC_t f1 (fun b j q1 q2 => (z_sn (by omega)).trans (fB b j q1 q2)) (Nat.le_refl _)) r2 (by omega), fun b j q1 q2 q3 => ?_, fun Y hY => up Y (d9 Y (z_zT_m d2 hlt3 (by rw [hCl]; exact hY)))⟩
              · by_cases g : j < M
                · rw [r2 74 j (by omega) (by omega), z_sn (by omega), s2 133 j (by omega) (by omega) (by omega), z_sn (by omega), z_sn (by omega)]
                  exact d3 j (by omega)
                · have k1 := r3 (j - M) (by omega)
                  have k2 := s3 (j - M) (by omega)
                  have hm := Nat.mod_lt (j - M) (show 0 < o by omega)
                  rw [show M + (j - M) = j by omega] at k1 k2
                  rw [k1, k2, z_sn (by omega), z_sn (by omega), z_sn (by omega)]
                  exact d3 _ (by omega)
              · rw [s2 b j q1 (by omega) (by have := hd3; omega), z_sn (by omega), z_sn (by omega), d7 b j q1 q2 (by omega), fT2 b j (by omega) (by omega)]
            · have n6 := z_phi_n (c := 6) (p := p) (by decide) (by omega)
              have e6 := rm.2 q (by omega)
              rw [r1]
              refine Or.inl ⟨n6, _, up _ (d9 _ (z_zT_m d2 hlt3 (Y := (z_phi 6 p, z_s (z_s (z_s T3 99 65 (z_i a)) 99 3 (z_i (p3 + 1))) 99 5 (z_phi 6 p))) ?_)), fun b j q1 q2 => ?_⟩
              · rw [hCl, e6]
                have := z_zT_b (x := x) (T := z_s (z_s (z_s T3 99 65 (z_i a)) 99 3 (z_i (p3 + 1))) 99 5 (z_phi 6 p)) (by rw [z_ss]; exact n6)
                rw [z_ss] at this
                exact this
              · rw [z_sn (by omega), z_sn (by omega), z_sn (by omega), d7 b j q1 (by omega) (by omega)]
                exact gF2 b j q1 q2
          · have ep : p3 = n := d8.resolve_right c41
            have n1 := z_phi_n (c := 1) (p := n) (by decide) (by omega)
            have eE : g_X5_expect (Int32.ofInt 41) B 66 6 = z_phi 1 n := by
              unfold g_X5_expect
              rw [z_tc_here d1, if_pos c41, d1.2.2.1, ep]
              exact z_tc_fail d1 1 n
            have eW : z_mW φG (z_i a) (z_i M) (z_i tm) (z_i p) S1 = g_X5_expect (Int32.ofInt 41) B := by
              unfold z_mW
              rw [eZ, eG, if_pos (by rw [eE]; exact z_ng n1)]
            rw [eW, eE]
            rw [ep] at d2
            refine Or.inl ⟨n1, _, up _ (d9 _ (z_zT_e d2)), fun b j q1 q2 => ?_⟩
            rw [z_sn (by omega), d7 b j q1 (by omega) (by omega)]
            exact gF2 b j q1 q2
      · obtain rfl : a = 2 := by omega
        have n5 := z_phi_n (c := 5) (p := p1) (by decide) (by omega)
        have e65 : T1 99 65 = Int32.ofInt 2 := m1.2.2.2.2.2.1
        rw [if_neg (not_not_intro e65), m1.2.1, z_tm_wrong m1 5 p1, if_neg (not_not_intro (z_bad (by rw [z_ss]; exact z_ng n5)))] at hR
        have eG : g_readGroupF φG (z_i 2) S1 66 6 = z_phi 5 p1 := by
          unfold g_readGroupF F_readGroupF
          rw [if_neg (by decide), c1.2.2.1]
          exact z_tc_fail c1 5 p1
        have eW : z_mW φG (z_i 2) (z_i M) (z_i tm) (z_i p) S1 = g_readGroupF φG (z_i 2) S1 := by
          unfold z_mW
          rw [eZ, if_pos (by rw [eG]; exact z_ng n5)]
        rw [eW, eG]
        refine Or.inl ⟨n5, _, z_zT_m hM hlt (Y := (z_phi 5 p1, z_s T1 99 5 (z_phi 5 p1))) ?_, fun b j q1 q2 => ?_⟩
        · rw [hR]
          have := z_zT_b (x := x) (T := z_s T1 99 5 (z_phi 5 p1)) (by rw [z_ss]; exact n5)
          rw [z_ss] at this
          exact this
        · rw [z_sn (by omega), ft b j (by omega)]
    · have m40 : ¬ z_hm w p1 n = Int32.ofInt 40 := fun q => c40 ((z_hcm (by decide)).mpr q)
      rw [if_pos m40] at hR
      have ext : ∀ {S' : v_Sf}, (S' 66 6 < 0 ∧ ∃ U, z_zT x T (S' 66 6, U) ∧ z_gF T U) ∨ (∃ T' p' M', z_tc w S' p' n M' ∧ z_tm w T' p' n M' a (Int32.ofInt 1) ∧ z_tb S' T' M' ∧ p < p' ∧ M < M' ∧ z_gC M S1 S' ∧ z_gM M a T T' ∧ ∀ Y, z_zT x T' Y → z_zT x T Y) → (S' 66 6 < 0 ∧ ∃ U, z_zT x T (S' 66 6, U) ∧ z_gF T U) ∨ (∃ T' p' M', z_tc w S' p' n M' ∧ z_tm w T' p' n M' a (Int32.ofInt 1) ∧ z_tb S' T' M' ∧ p < p' ∧ M < M' ∧ z_gC M S S' ∧ z_gM M a T T' ∧ ∀ Y, z_zT x T' Y → z_zT x T Y) := by
        intro S' q
        rcases q with q | ⟨T', p', M', q1, q2, q3, q4, q5, q6, q7, q8⟩
        · exact Or.inl q
        · exact Or.inr ⟨T', p', M', q1, q2, q3, q4, q5, z_gC_t f1 q6 (Nat.le_refl _), q7, q8⟩
      by_cases c46 : z_hc w p1 n = Int32.ofInt 46
      · have m46 := (z_hcm (by decide)).mp c46
        have hlt1 := z_hlt (by decide) c46
        have w46 : w p1 = Int32.ofInt 46 := by rw [← c46, z_hcl hlt1]
        rw [if_pos m46] at hR
        refine ext (z_one hw c1 hM m1 tb1 htm hlt1 hp ft (l := Int32.ofInt (-2)) (Or.inl ⟨w46, rfl⟩) hR ?_)
        unfold z_mW z_mZ
        rw [hhC, if_pos c40, if_neg (not_not_intro c46)]
      · have m46 : ¬ z_hm w p1 n = Int32.ofInt 46 := fun q => c46 ((z_hcm (by decide)).mpr q)
        rw [if_neg m46] at hR
        by_cases cl : p1 < n ∧ 65 ≤ (w p1).toInt ∧ (w p1).toInt ≤ 74
        · have hlt1 := cl.1
          have w46 : ¬ w p1 = Int32.ofInt 46 := by
            rw [← z_hcl (w := w) hlt1]
            exact c46
          rw [if_pos (by unfold z_in; rw [z_hml hlt1, z_pb0, decide_eq_false_iff_not]; exact not_not_intro cl.2)] at hR
          refine ext (z_one hw c1 hM m1 tb1 htm hlt1 hp ft (l := w p1 - Int32.ofInt 65) (Or.inr ⟨w46, rfl, cl.2⟩) hR ?_)
          have eZ : z_mZ φG (z_i a) S1 = g_X5_writeMonth (w p1 - Int32.ofInt 65) S1 := by
            unfold z_mZ
            rw [hhC, if_pos c40, if_pos c46, z_hcl hlt1, if_neg (show ¬ w p1 < Int32.ofInt 65 by rw [z_ltI2, show (Int32.ofInt 65).toInt = 65 from rfl]; omega), if_neg (show ¬ Int32.ofInt 74 < w p1 by rw [z_ltI2, show (Int32.ofInt 74).toInt = 74 from rfl]; omega)]
          unfold z_mW
          rw [eZ]
        · have n1 := z_phi_n (c := 1) (p := p1) (by decide) (by omega)
          have hz : ¬ ¬ z_in (z_hm w p1 n) 65 74 = 0 := by
            unfold z_in
            rw [z_pb0, decide_eq_false_iff_not]
            refine not_not_intro ?_
            by_cases q : p1 < n
            · rw [z_hml q]
              omega
            · rw [show z_hm w p1 n = Int32.ofInt 0 from if_neg q]
              decide
          rw [if_neg hz, m1.2.1, z_tm_wrong m1 1 p1, if_neg (not_not_intro (z_bad (by rw [z_ss]; exact z_ng n1)))] at hR
          have eZ : z_mZ φG (z_i a) S1 = g_X5_fail (Int32.ofInt 1) (S1 66 4) S1 := by
            unfold z_mZ
            rw [hhC, if_pos c40, if_pos c46]
            by_cases q1 : z_hc w p1 n < Int32.ofInt 65
            · rw [if_pos q1]
            · rw [if_neg q1, if_pos]
              rw [z_ltI2, show (Int32.ofInt 74).toInt = 74 from rfl]
              rw [z_ltI2, show (Int32.ofInt 65).toInt = 65 from rfl] at q1
              by_cases q : p1 < n
              · rw [z_hcl q] at q1 ⊢
                omega
              · rw [show z_hc w p1 n = Int32.ofInt (-1) from if_neg q] at q1
                exact absurd (show (Int32.ofInt (-1)).toInt < 65 by decide) q1
          have eF : g_X5_fail (Int32.ofInt 1) (S1 66 4) S1 66 6 = z_phi 1 p1 := by
            rw [c1.2.2.1]
            exact z_tc_fail c1 1 p1
          have eW : z_mW φG (z_i a) (z_i M) (z_i tm) (z_i p) S1 = g_X5_fail (Int32.ofInt 1) (S1 66 4) S1 := by
            unfold z_mW
            rw [eZ, if_pos (by rw [eF]; exact z_ng n1)]
          rw [eW, eF]
          refine Or.inl ⟨n1, _, z_zT_m hM hlt (Y := (z_phi 1 p1, z_s T1 99 5 (z_phi 1 p1))) ?_, fun b j q1 q2 => ?_⟩
          · rw [hR]
            have := z_zT_b (x := x) (T := z_s T1 99 5 (z_phi 1 p1)) (by rw [z_ss]; exact n1)
            rw [z_ss] at this
            exact this
          · rw [z_sn (by omega), ft b j (by omega)]
  · obtain rfl : p = n := by omega
    obtain rfl : p1 = p := by omega
    obtain ⟨a0, rfl⟩ : ∃ a0, a = a0 + 1 := ⟨a - 1, by have := hpn rfl; omega⟩
    have n1 := z_phi_n (c := 1) (p := p1) (by decide) (by omega)
    have hm1 : f_X5_here S1 = Int32.ofInt (-1) := by
      rw [hhC]
      exact if_neg (by omega)
    have eF : g_X5_fail (Int32.ofInt 1) (S1 66 4) S1 66 6 = z_phi 1 p1 := by
      rw [c1.2.2.1]
      exact z_tc_fail c1 1 p1
    have eZ : z_mZ φG (z_i (a0 + 1)) S1 = g_X5_fail (Int32.ofInt 1) (S1 66 4) S1 := by
      unfold z_mZ
      rw [hm1, if_pos (by decide), if_pos (by decide), if_pos (by decide)]
    have eW : z_mW φG (z_i (a0 + 1)) (z_i M) (z_i tm) (z_i p1) S1 = g_X5_fail (Int32.ofInt 1) (S1 66 4) S1 := by
      unfold z_mW
      rw [eZ, if_pos (by rw [eF]; exact z_ng n1)]
    rw [eW, eF]
    exact Or.inl ⟨n1, _, z_zT_e hM, fun b j q1 q2 => z_sn (by omega)⟩
theorem z_mons_l {w : Nat → Int32} {x : Int32} {n : Nat} {φG : Int32 → v_Sf → v_Sf} {a : Nat} (hk : ∀ b, z_sk (φG b)) (hF : z_MON w x n (g_readMonthF φG (z_i a)) a) : ∀ (r k : Nat) (S T : v_Sf) (p M : Nat) (bg : Int32), n - p ≤ r → 1 ≤ r → z_tc w S p n M → z_tm w T p n M a bg → z_tb S T M → ¬ (z_hc w p n = Int32.ofInt 41 ∧ 0 < a ∧ ¬ bg = 0) → (p = n → 0 < a) →
    (r_readMonthsF_2 φG (z_i a) r k S 66 6 < 0 ∧ ∃ U, z_zT x T (r_readMonthsF_2 φG (z_i a) r k S 66 6, U) ∧ z_gF T U) ∨ (∃ T' p' M', z_tc w (r_readMonthsF_2 φG (z_i a) r k S) p' n M' ∧ z_tm w T' p' n M' a (Int32.ofInt 1) ∧ z_tb (r_readMonthsF_2 φG (z_i a) r k S) T' M' ∧ p < p' ∧ M < M' ∧ z_gC M S (r_readMonthsF_2 φG (z_i a) r k S) ∧ z_gM M a T T' ∧ (p' = n ∨ z_hc w p' n = Int32.ofInt 41) ∧ ∀ Y, z_zT x T' Y → z_zT x T Y) := by
  intro r
  induction r with
  | zero =>
    intro k S T p M bg _ h1
    omega
  | succ r ih =>
    intro k S T p M bg hr _ hC hM htb h41 hpn
    have E := r_readMonthsF_2.eq_2 φG (z_i a) k S r
    rcases hF S T p M bg hC hM htb h41 hpn with ⟨g1, U, g2, g3⟩ | ⟨T', p', M', d1, d2, d3, d4, d5, d6, d7, d9⟩
    · have e : r_readMonthsF_2 φG (z_i a) (r + 1) k S 66 6 = g_readMonthF φG (z_i a) S 66 6 := by
        rw [E]
        split
        · rfl
        · split
          · exact z_sk_mns hk _ _ _ _ g1
          · rfl
      rw [e]
      exact Or.inl ⟨g1, U, g2, g3⟩
    · have hn' := d1.2.2.2.2.2.2
      rw [d1.2.2.1, d1.2.2.2.1, z_tc_here d1] at E
      by_cases q : p' = n
      · rw [if_pos (by rw [z_ile (by omega) (by omega)]; omega)] at E
        rw [E]
        exact Or.inr ⟨T', p', M', d1, d2, d3, d4, d5, d6, d7, Or.inl q, d9⟩
      · rw [if_neg (by rw [z_ile (by omega) (by omega)]; omega)] at E
        by_cases q2 : z_hc w p' n = Int32.ofInt 41
        · rw [if_neg (not_not_intro q2)] at E
          rw [E]
          exact Or.inr ⟨T', p', M', d1, d2, d3, d4, d5, d6, d7, Or.inr q2, d9⟩
        · rw [if_pos q2] at E
          rw [E]
          rcases ih (k + 1) _ T' p' M' (Int32.ofInt 1) (by omega) (by omega) d1 d2 d3 (fun m => q2 m.1) (fun m => absurd m q) with ⟨g1, U, g2, g3⟩ | ⟨T2, p2, M2, e1, e2, e3, e4, e5, e6, e7, e8, e9⟩
          · exact Or.inl ⟨g1, U, d9 _ g2, z_gF_M d7 g3⟩
          · exact Or.inr ⟨T2, p2, M2, e1, e2, e3, by omega, by omega, z_gC_t d6 e6 (by omega), z_gM_t d7 e7 (by omega) (Nat.le_refl _), e8, fun Y hY => d9 Y (e9 Y hY)⟩
theorem z_rdM_ok {w : Nat → Int32} (hw : z_by w) {x : Int32} {n : Nat} : ∀ (f a : Nat), a ≤ 2 → 2 ≤ a + f → z_MONS w x n (g_rdM f (z_i a)) a := by
  intro f
  induction f with
  | zero =>
    intro a ha h2 S T p M bg hC hM htb h41 hpn
    have k0 : ∀ b : Int32, z_sk ((fun (_ : Int32) (S : v_Sf) => S) b) := fun _ _ _ => rfl
    rw [g_rdM]
    exact z_mons_l k0 (z_mon_ok hw ha k0 (fun q => by omega)) 60 0 S T p M bg (by have := hC.2.2.2.2.2.2; omega) (by omega) hC hM htb h41 hpn
  | succ f ih =>
    intro a ha h2 S T p M bg hC hM htb h41 hpn
    rw [g_rdM]
    exact z_mons_l (z_sk_rdM f) (z_mon_ok hw ha (z_sk_rdM f) (fun q => ih (a + 1) (by omega) (by omega))) 60 0 S T p M bg (by have := hC.2.2.2.2.2.2; omega) (by omega) hC hM htb h41 hpn
