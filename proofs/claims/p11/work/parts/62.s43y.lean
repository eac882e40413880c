/-! timetables: the whole text -/
theorem z_111 {wd M : Nat} (hw : wd < 6) (hM : M ≤ 48) : ∀ (d i : Nat) (T : v_Sf), i + d = M → T 99 64 = z_i M → ∃ U, (∃ N, z_itr (fun p : Int32 × v_Sf => s_X12_timetable_111 (z_i wd) p.1 p.2) N (z_i i, T) = some (z_i M, U)) ∧ (∀ b j, ¬ (b = 126 ∧ 48 * wd + i ≤ j ∧ j < 48 * wd + M) → ¬ ((b = 127 ∨ b = 128) ∧ j = wd) → U b j = T b j) ∧ U 127 wd = z_i M ∧ U 128 wd = Int32.ofInt 0 ∧ ∀ j, i ≤ j → j < M → U 126 (48 * wd + j) = T 133 j := by
  have ew : (z_i wd).toInt.toNat = wd := z_iin (by omega)
  intro d
  induction d with
  | zero =>
    intro i T hi h
    refine ⟨z_s (z_s T 127 wd (z_i M)) 128 wd (Int32.ofInt 0), ⟨1, z_itr_r (s := fun p : Int32 × v_Sf => s_X12_timetable_111 (z_i wd) p.1 p.2) ?_⟩, fun b j q1 q2 => ?_, ?_, z_ss, fun j h1 h2 => by omega⟩
    · show s_X12_timetable_111 (z_i wd) (z_i i) T = _
      unfold s_X12_timetable_111
      rw [h, if_pos (by rw [z_ile (by omega) (by omega)]; omega), ew]
    · rw [z_sn (by omega), z_sn (by omega)]
    · rw [z_sn (by omega), z_ss]
  | succ d ih =>
    intro i T hi h
    have s1 : s_X12_timetable_111 (z_i wd) (z_i i) T = Sum.inl (z_i (i + 1), z_s T 126 (48 * wd + i) (T 133 i)) := by
      unfold s_X12_timetable_111
      rw [h, if_neg (by rw [z_ile (by omega) (by omega)]; omega), z_i1, show Int32.ofInt 48 = z_i 48 from rfl, z_mulI, z_iadd, z_iin (by omega), z_iin (by omega)]
    obtain ⟨U, ⟨N, hN⟩, f1, f2, f3, f4⟩ := ih (i + 1) (z_s T 126 (48 * wd + i) (T 133 i)) (by omega) (by rw [z_sn (by omega)]; exact h)
    refine ⟨U, ⟨N + 1, (z_itr_l (s := fun p : Int32 × v_Sf => s_X12_timetable_111 (z_i wd) p.1 p.2) s1).trans hN⟩, fun b j q1 q2 => ?_, f2, f3, fun j h1 h2 => ?_⟩
    · rw [f1 b j (by omega) q2, z_sn (by omega)]
    · by_cases q : j = i
      · rw [q, f1 _ _ (by omega) (by omega), z_ss]
      · rw [f4 j (by omega) h2, z_sn (by omega)]
theorem z_tt_ok {e : Nat} (he : z_cd e) {w : Nat → Int32} (hw : z_by w) {S T : v_Sf} {n wd : Nat} (h46 : ∀ i, i < 260 → S 46 i = w i) (h100 : ∀ i, i < 260 → T 100 i &&& Int32.ofInt 255 = w i ∧ -128 ≤ (T 100 i).toInt ∧ (T 100 i).toInt ≤ 127) (hn : 1 ≤ n ∧ n ≤ 60) (hs : z_i n ≤ S 45 1) (hs2 : z_i n ≤ T 99 1) (hwd : wd < 6) :
    (f_X5_readTimetable e (z_i n) S < 0 ∧ ∃ U, F_X12_timetable (z_i wd) (z_i n) T = (f_X5_readTimetable e (z_i n) S, U) ∧ (∀ b j, ¬ (b = 99 ∧ (j = 1 ∨ j = 3 ∨ j = 4 ∨ j = 5 ∨ j = 64 ∨ j = 65 ∨ j = 66)) → ¬ (133 ≤ b ∧ b ≤ 136) → U b j = T b j) ∧ U 99 1 = 0) ∨
    (∃ M U, 1 ≤ M ∧ M ≤ 48 ∧ f_X5_readTimetable e (z_i n) S = z_i M ∧ F_X12_timetable (z_i wd) (z_i n) T = (z_i M, U) ∧ (∀ j, j < M → z_ls (g_X5_readTimetable e (z_i n) S 74 j) (U 126 (48 * wd + j))) ∧ U 127 wd = z_i M ∧ U 128 wd = Int32.ofInt 0 ∧ (∀ b j, ¬ (b = 99 ∧ (j = 1 ∨ j = 3 ∨ j = 4 ∨ j = 5 ∨ j = 64 ∨ j = 65 ∨ j = 66)) → ¬ (133 ≤ b ∧ b ≤ 136) → ¬ (b = 126 ∧ 48 * wd ≤ j ∧ j < 48 * wd + M) → ¬ ((b = 127 ∨ b = 128) ∧ j = wd) → U b j = T b j) ∧ U 99 1 = 0) := by
  have hcd := z_cdn he
  generalize hS0 : g_X5_begin e (z_i n) S = S0
  generalize hT0 : z_s (z_s (z_s (g_X12_begins (z_i n) T) 99 64 (Int32.ofInt 0)) 99 65 (Int32.ofInt 0)) 99 66 (Int32.ofInt 0) = T0
  have c0 : z_tc w S0 0 n 0 := by
    rw [← hS0]
    unfold g_X5_begin g_X1_clear
    refine ⟨fun i hi => ?_, ?_, ?_, ?_, ?_, ?_, by omega, by omega, by omega⟩
    · rw [z_sn (by omega), z_sn (by omega), z_sn (by omega), z_sn (by omega), z_sn (by omega), z_sn (by omega)]
      exact h46 i hi
    · rw [z_sn (by omega), z_sn (by omega), z_sn (by omega), z_sn (by omega), z_sn (by omega), z_sn (by omega)]
      exact hs
    · rw [z_sn (by omega), z_sn (by omega), z_ss]
      rfl
    · rw [z_sn (by omega), z_ss]
    · rw [z_ss]
      rfl
    · rw [z_sn (by omega), z_sn (by omega), z_sn (by omega), z_ss]
      rfl
  have fT0 : ∀ b j, ¬ (b = 99 ∧ (j = 1 ∨ j = 3 ∨ j = 4 ∨ j = 5 ∨ j = 64 ∨ j = 65 ∨ j = 66)) → T0 b j = T b j := by
    intro b j q
    rw [← hT0]
    unfold g_X12_begins
    rw [z_sn (by omega), z_sn (by omega), z_sn (by omega), z_sn (by omega), z_sn (by omega), z_sn (by omega), z_sn (by omega)]
  have t1 : T0 99 1 = 0 := by
    rw [← hT0]
    unfold g_X12_begins
    rw [z_sn (by omega), z_sn (by omega), z_sn (by omega), z_sn (by omega), z_sn (by omega), z_sn (by omega), z_ss]
    rfl
  have m0 : z_tm w T0 0 n 0 0 (Int32.ofInt 0) := by
    refine ⟨fun i hi => ?_, ?_, ?_, ?_, ?_, ?_, ?_, by omega, by omega, by omega, by omega⟩
    · rw [fT0 100 i (by omega)]
      exact h100 i hi
    · rw [← hT0]
      unfold g_X12_begins
      rw [z_sn (by omega), z_sn (by omega), z_sn (by omega), z_sn (by omega), z_sn (by omega), z_ss]
      rfl
    · rw [← hT0]
      unfold g_X12_begins
      rw [z_sn (by omega), z_sn (by omega), z_sn (by omega), z_sn (by omega), z_ss]
    · rw [← hT0]
      unfold g_X12_begins
      rw [z_sn (by omega), z_sn (by omega), z_sn (by omega), z_ss]
      rfl
    · rw [← hT0, z_sn (by omega), z_sn (by omega), z_ss]
      rfl
    · rw [← hT0, z_sn (by omega), z_ss]
      rfl
    · rw [← hT0, z_ss]
  have EM : ∀ Y, z_zT (z_i wd) T0 Y → F_X12_timetable (z_i wd) (z_i n) T = Y := by
    rintro Y ⟨N, hN⟩
    unfold F_X12_timetable
    rw [if_neg (by unfold f_X12_isWard z_in; rw [z_it3 (by omega), decide_eq_true (by omega)]; decide), if_neg (by unfold z_in; rw [z_pb0, decide_eq_false_iff_not, z_it3 (by omega)]; omega), if_pos hs2, hT0]
    exact z_lim_eq hN
  have ef : f_X5_readTimetable e (z_i n) S = (if (g_rdM 2 (z_i 0) S0 66 5) ≤ (g_rdM 2 (z_i 0) S0 66 4) then (if (g_rdM 2 (z_i 0) S0 66 6) = 0 then g_rdM 2 (z_i 0) S0 66 3 else g_rdM 2 (z_i 0) S0 66 6) else (if ((g_X5_fail (Int32.ofInt 1) (g_rdM 2 (z_i 0) S0 66 4) (g_rdM 2 (z_i 0) S0)) 66 6) = 0 then (g_X5_fail (Int32.ofInt 1) (g_rdM 2 (z_i 0) S0 66 4) (g_rdM 2 (z_i 0) S0)) 66 3 else (g_X5_fail (Int32.ofInt 1) (g_rdM 2 (z_i 0) S0 66 4) (g_rdM 2 (z_i 0) S0)) 66 6)) := by
    rw [← hS0]
    rfl
  have eg : g_X5_readTimetable e (z_i n) S = (if (g_rdM 2 (z_i 0) S0 66 5) ≤ (g_rdM 2 (z_i 0) S0 66 4) then g_rdM 2 (z_i 0) S0 else g_X5_fail (Int32.ofInt 1) (g_rdM 2 (z_i 0) S0 66 4) (g_rdM 2 (z_i 0) S0)) := by
    rw [← hS0]
    rfl
  rcases z_rdM_ok hw (x := z_i wd) (n := n) 2 0 (by omega) (by omega) S0 T0 0 0 (Int32.ofInt 0) c0 m0 (fun j hj => by omega) (fun q => by omega) (fun q => by omega) with ⟨g1, U, g2, g3⟩ | ⟨T', p', M', d1, d2, d3, d4, d5, d6, d7, d8, d9⟩
  · have e1 : f_X5_readTimetable e (z_i n) S = g_rdM 2 (z_i 0) S0 66 6 := by
      rw [ef]
      split
      · rw [if_neg (z_ng g1)]
      · rw [z_sk_fail g1, if_neg (z_ng g1)]
    rw [e1]
    refine Or.inl ⟨g1, U, EM _ g2, fun b j q1 q2 => (g3 b j (by omega) q2).trans (fT0 b j q1), ?_⟩
    rw [g3 99 1 (by omega) (by omega), t1]
  · have hn' := d1.2.2.2.2.2.2
    by_cases q : p' = n
    · subst q
      have le : (g_rdM 2 (z_i 0) S0 66 5) ≤ (g_rdM 2 (z_i 0) S0 66 4) := by
        rw [d1.2.2.1, d1.2.2.2.1]
        exact Int32.le_refl _
      rw [if_pos le, if_pos d1.2.2.2.2.1, d1.2.2.2.2.2.1] at ef
      rw [if_pos le] at eg
      obtain ⟨U, ⟨N, hN⟩, f1, f2, f3, f4⟩ := z_111 hwd d2.2.2.2.2.2.2.2.2.2.1 M' 0 T' (by omega) d2.2.2.2.2.1
      have hz : z_zT (z_i wd) T' (z_i M', U) := by
        refine ⟨1, z_itr_r (s := fun p => s_X12_timetable_49 (z_i wd) p) ?_⟩
        show s_X12_timetable_49 (z_i wd) T' = _
        unfold s_X12_timetable_49
        rw [if_neg (z_good1 d2.2.2.2.1), if_pos (by rw [d2.2.1, d2.2.2.1]; exact Int32.le_refl _), if_pos (by rw [d2.2.2.2.2.2.1]; decide), if_pos (by rw [d2.2.2.2.1]; decide)]
        exact congrArg Sum.inr (z_lim_eq hN)
      refine Or.inr ⟨M', U, by omega, d2.2.2.2.2.2.2.2.2.2.1, ef, EM _ (d9 _ hz), fun j hj => ?_, f2, f3, fun b j q1 q2 q3 q4 => ?_, ?_⟩
      · rw [eg, f4 j (by omega) hj]
        exact d3 j hj
      · rw [f1 b j (by omega) q4, d7 b j (by omega) (by omega) (by omega), fT0 b j q1]
      · rw [f1 99 1 (by omega) (by omega), d7 99 1 (by omega) (by omega) (by omega), t1]
    · have c41 := d8.resolve_left q
      have m41 := (z_hcm (by decide)).mp c41
      have n1 := z_phi_n (c := 1) (p := p') (by decide) (by omega)
      have le : ¬ (g_rdM 2 (z_i 0) S0 66 5) ≤ (g_rdM 2 (z_i 0) S0 66 4) := by
        rw [d1.2.2.1, d1.2.2.2.1, z_ile (by omega) (by omega)]
        omega
      have eF : g_X5_fail (Int32.ofInt 1) (g_rdM 2 (z_i 0) S0 66 4) (g_rdM 2 (z_i 0) S0) 66 6 = z_phi 1 p' := by
        rw [d1.2.2.1]
        exact z_tc_fail d1 1 p'
      rw [if_neg le, eF, if_neg (z_ng n1)] at ef
      have hR : g_X12_monthTold T' = z_s T' 99 5 (z_phi 1 p') := by
        rw [z_mt_R (Or.inr (Or.inl (by rw [d2.2.2.2.2.2.1]; decide)))]
        have ht : ¬ ¬ z_in (f_X12_here T') 50 57 = 0 := by
          rw [z_tm_here d2, m41]
          decide
        have et : g_X12_timesTold T' = T' := by
          unfold g_X12_timesTold
          rw [if_neg ht]
        unfold z_mtR
        rw [et, z_tm_here d2, m41, if_pos (by decide), if_neg (by decide), if_neg (by decide), d2.2.1, z_tm_wrong d2 1 p', if_neg (not_not_intro (z_bad (by rw [z_ss]; exact z_ng n1)))]
      rw [ef]
      refine Or.inl ⟨n1, z_s T' 99 5 (z_phi 1 p'), EM _ (d9 _ (z_zT_m d2 (by omega) ?_)), fun b j q1 q2 => ?_, ?_⟩
      · rw [hR]
        have := z_zT_b (x := z_i wd) (T := z_s T' 99 5 (z_phi 1 p')) (by rw [z_ss]; exact n1)
        rw [z_ss] at this
        exact this
      · rw [z_sn (by omega), d7 b j (by omega) (by omega) (by omega), fT0 b j q1]
      · rw [z_sn (by omega), d7 99 1 (by omega) (by omega) (by omega), t1]
