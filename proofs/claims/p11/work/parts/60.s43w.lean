/-! timetables: months and groups -/
noncomputable def z_mZ (φG : Int32 → v_Sf → v_Sf) (a : Int32) (S : v_Sf) : v_Sf := (if ¬ (f_X5_here S) = (Int32.ofInt 40) then (if ¬ (f_X5_here S) = (Int32.ofInt 46) then (if (f_X5_here S) < (Int32.ofInt 65) then g_X5_fail (Int32.ofInt 1) (S 66 4) S else (if (Int32.ofInt 74) < (f_X5_here S) then g_X5_fail (Int32.ofInt 1) (S 66 4) S else g_X5_writeMonth ((f_X5_here S) - (Int32.ofInt 65)) S)) else g_X5_writeMonth (Int32.ofInt (-2)) S) else g_readGroupF φG a S)
noncomputable def z_mW (φG : Int32 → v_Sf → v_Sf) (a M times first : Int32) (S : v_Sf) : v_Sf := if ¬ (z_mZ φG a S) 66 6 = 0 then z_mZ φG a S else g_X5_repeat M times first (z_mZ φG a S)
theorem z_rm1 {φG : Int32 → v_Sf → v_Sf} {a : Int32} {S : v_Sf} (h : f_X5_here S < Int32.ofInt 50 ∨ Int32.ofInt 57 < f_X5_here S) : g_readMonthF φG a S = z_mW φG a (S 66 3) (Int32.ofInt 1) (S 66 4) S := by
  unfold g_readMonthF F_readMonthF z_mW z_mZ
  by_cases c0 : f_X5_here S < Int32.ofInt 50
  · simp only [if_pos c0]
    by_cases c1 : f_X5_here S = Int32.ofInt 40
    · simp only [if_neg (not_not_intro c1)]
    · simp only [if_pos c1]
      by_cases c2 : f_X5_here S = Int32.ofInt 46
      · simp only [if_neg (not_not_intro c2)]
      · simp only [if_pos c2]
        by_cases c3 : f_X5_here S < Int32.ofInt 65
        · simp only [if_pos c3]
        · simp only [if_neg c3]
          by_cases c4 : Int32.ofInt 74 < f_X5_here S
          · simp only [if_pos c4]
          · simp only [if_neg c4]
  · have c9 := h.resolve_left c0
    simp only [if_neg c0, if_pos c9]
    by_cases c1 : f_X5_here S = Int32.ofInt 40
    · simp only [if_neg (not_not_intro c1)]
    · simp only [if_pos c1]
      by_cases c2 : f_X5_here S = Int32.ofInt 46
      · simp only [if_neg (not_not_intro c2)]
      · simp only [if_pos c2]
        by_cases c3 : f_X5_here S < Int32.ofInt 65
        · simp only [if_pos c3]
        · simp only [if_neg c3]
          by_cases c4 : Int32.ofInt 74 < f_X5_here S
          · simp only [if_pos c4]
          · simp only [if_neg c4]
theorem z_rm2 {φG : Int32 → v_Sf → v_Sf} {a : Int32} {S : v_Sf} (h1 : ¬ f_X5_here S < Int32.ofInt 50) (h2 : ¬ Int32.ofInt 57 < f_X5_here S) : g_readMonthF φG a S = z_mW φG a (S 66 3) (f_X5_here S - Int32.ofInt 48) (S 66 4) (z_s S 66 4 ((S 66 4) + (Int32.ofInt 1))) := by
  have e : z_s S 66 4 ((S 66 4) + (Int32.ofInt 1)) 66 4 = (S 66 4) + (Int32.ofInt 1) := z_ss
  unfold g_readMonthF F_readMonthF z_mW z_mZ
  rw [if_neg h1, if_neg h2, e]
  generalize hX : z_s S 66 4 ((S 66 4) + (Int32.ofInt 1)) = X
  by_cases c1 : f_X5_here X = Int32.ofInt 40
  · simp only [if_neg (not_not_intro c1)]
  · simp only [if_pos c1]
    by_cases c2 : f_X5_here X = Int32.ofInt 46
    · simp only [if_neg (not_not_intro c2)]
    · simp only [if_pos c2]
      by_cases c3 : f_X5_here X < Int32.ofInt 65
      · simp only [if_pos c3]
      · simp only [if_neg c3]
        by_cases c4 : Int32.ofInt 74 < f_X5_here X
        · simp only [if_pos c4]
        · simp only [if_neg c4]
noncomputable def z_mtR (T : v_Sf) : v_Sf := (if ¬ (f_X12_here (g_X12_timesTold T)) = (Int32.ofInt 40) then (if (f_X12_here (g_X12_timesTold T)) = (Int32.ofInt 46) then (if (((g_X12_timesTold T) 99 64) + (f_X12_timesTold T)) ≤ (Int32.ofInt 48) then (if ¬ (f_X12_isGood (g_X12_timesTold T)) = 0 then z_lim (fun p => s_X12_monthTold_244 (f_X12_timesTold T) p.1 p.2) T ((Int32.ofInt 0), (g_X12_timesTold T)) else g_X12_timesTold T) else (if ¬ (f_X12_isGood (g_X12_wrongs (Int32.ofInt 6) (T 99 3) (g_X12_timesTold T))) = 0 then z_lim (fun p => s_X12_monthTold_244 (f_X12_timesTold T) p.1 p.2) T ((Int32.ofInt 0), (g_X12_wrongs (Int32.ofInt 6) (T 99 3) (g_X12_timesTold T))) else g_X12_wrongs (Int32.ofInt 6) (T 99 3) (g_X12_timesTold T))) else (if ¬ (z_in ((f_X12_here (g_X12_timesTold T))) 65 74) = 0 then (if (((g_X12_timesTold T) 99 64) + (f_X12_timesTold T)) ≤ (Int32.ofInt 48) then (if ¬ (f_X12_isGood (g_X12_timesTold T)) = 0 then z_lim (fun p => s_X12_monthTold_244 (f_X12_timesTold T) p.1 p.2) T ((Int32.ofInt 0), (g_X12_timesTold T)) else g_X12_timesTold T) else (if ¬ (f_X12_isGood (g_X12_wrongs (Int32.ofInt 6) (T 99 3) (g_X12_timesTold T))) = 0 then z_lim (fun p => s_X12_monthTold_244 (f_X12_timesTold T) p.1 p.2) T ((Int32.ofInt 0), (g_X12_wrongs (Int32.ofInt 6) (T 99 3) (g_X12_timesTold T))) else g_X12_wrongs (Int32.ofInt 6) (T 99 3) (g_X12_timesTold T))) else (if ¬ (f_X12_isGood (g_X12_wrongs (Int32.ofInt 1) ((g_X12_timesTold T) 99 3) (g_X12_timesTold T))) = 0 then z_lim (fun p => s_X12_monthTold_244 (f_X12_timesTold T) p.1 p.2) T ((Int32.ofInt 0), (g_X12_wrongs (Int32.ofInt 1) ((g_X12_timesTold T) 99 3) (g_X12_timesTold T))) else g_X12_wrongs (Int32.ofInt 1) ((g_X12_timesTold T) 99 3) (g_X12_timesTold T)))) else (if ¬ ((g_X12_timesTold T) 99 65) = (Int32.ofInt 2) then (if ¬ (f_X12_isGood (g_X12_timesTold T)) = 0 then z_s (z_s (z_s (z_s (z_s (z_s (g_X12_timesTold T) 134 (((g_X12_timesTold T) 99 65).toInt.toNat) ((g_X12_timesTold T) 99 64)) 135 (((g_X12_timesTold T) 99 65).toInt.toNat) (f_X12_timesTold T)) 136 (((g_X12_timesTold T) 99 65).toInt.toNat) (T 99 3)) 99 65 (((g_X12_timesTold T) 99 65) + (Int32.ofInt 1))) 99 66 (Int32.ofInt 0)) 99 3 (((g_X12_timesTold T) 99 3) + (Int32.ofInt 1)) else g_X12_timesTold T) else (if ¬ (f_X12_isGood (g_X12_wrongs (Int32.ofInt 5) ((g_X12_timesTold T) 99 3) (g_X12_timesTold T))) = 0 then z_s (z_s (z_s (z_s (z_s (z_s (g_X12_wrongs (Int32.ofInt 5) ((g_X12_timesTold T) 99 3) (g_X12_timesTold T)) 134 (((g_X12_wrongs (Int32.ofInt 5) ((g_X12_timesTold T) 99 3) (g_X12_timesTold T)) 99 65).toInt.toNat) ((g_X12_wrongs (Int32.ofInt 5) ((g_X12_timesTold T) 99 3) (g_X12_timesTold T)) 99 64)) 135 (((g_X12_wrongs (Int32.ofInt 5) ((g_X12_timesTold T) 99 3) (g_X12_timesTold T)) 99 65).toInt.toNat) (f_X12_timesTold T)) 136 (((g_X12_wrongs (Int32.ofInt 5) ((g_X12_timesTold T) 99 3) (g_X12_timesTold T)) 99 65).toInt.toNat) (T 99 3)) 99 65 (((g_X12_wrongs (Int32.ofInt 5) ((g_X12_timesTold T) 99 3) (g_X12_timesTold T)) 99 65) + (Int32.ofInt 1))) 99 66 (Int32.ofInt 0)) 99 3 (((g_X12_wrongs (Int32.ofInt 5) ((g_X12_timesTold T) 99 3) (g_X12_timesTold T)) 99 3) + (Int32.ofInt 1)) else g_X12_wrongs (Int32.ofInt 5) ((g_X12_timesTold T) 99 3) (g_X12_timesTold T))))
theorem z_mt_R {T : v_Sf} (h : ¬ f_X12_here T = Int32.ofInt 41 ∨ T 99 65 ≤ 0 ∨ T 99 66 = 0) : g_X12_monthTold T = z_mtR T := by
  unfold g_X12_monthTold F_X12_monthTold
  by_cases c1 : f_X12_here T = Int32.ofInt 41
  · rw [if_neg (not_not_intro c1)]
    have h' := h.resolve_left (not_not_intro c1)
    by_cases c2 : T 99 65 ≤ 0
    · rw [if_pos c2]
      rfl
    · rw [if_neg c2, if_pos (h'.resolve_left c2)]
      rfl
  · rw [if_pos c1]
    rfl
theorem z_mt_C {T : v_Sf} (c1 : f_X12_here T = Int32.ofInt 41) (c2 : ¬ T 99 65 ≤ 0) (c3 : ¬ T 99 66 = 0) : g_X12_monthTold T = g_X12_repeats (T 134 (((T 99 65) - (Int32.ofInt 1)).toInt.toNat)) (T 135 (((T 99 65) - (Int32.ofInt 1)).toInt.toNat)) (T 136 (((T 99 65) - (Int32.ofInt 1)).toInt.toNat)) (z_s (z_s T 99 65 ((T 99 65) - (Int32.ofInt 1))) 99 3 ((T 99 3) + (Int32.ofInt 1))) := by
  unfold g_X12_monthTold F_X12_monthTold
  rw [if_neg (not_not_intro c1), if_neg c2, if_neg c3]
set_option maxRecDepth 100000 in
theorem z_byt_all : ∀ i : Fin 256, decide ((Int32.ofInt ((i.val : Int) - 128) &&& Int32.ofInt 255).toInt ≤ 127 → Int32.ofInt ((i.val : Int) - 128) &&& Int32.ofInt 255 = Int32.ofInt ((i.val : Int) - 128)) = true := by decide +kernel
theorem z_byt {x : Int32} (h : -128 ≤ x.toInt ∧ x.toInt ≤ 127) (h2 : (x &&& Int32.ofInt 255).toInt ≤ 127) : x &&& Int32.ofInt 255 = x := by
  have e : Int32.ofInt (((x.toInt + 128).toNat : Int) - 128) = x := by
    rw [show (((x.toInt + 128).toNat : Nat) : Int) - 128 = x.toInt by omega, Int32.ofInt_toInt]
  have := of_decide_eq_true (z_byt_all ⟨(x.toInt + 128).toNat, by omega⟩)
  simp only [e] at this
  exact this h2
noncomputable def z_zT (x : Int32) (T : v_Sf) (Y : Int32 × v_Sf) : Prop := ∃ N, z_itr (fun p => s_X12_timetable_49 x p) N T = some Y
theorem z_zT_m {w : Nat → Int32} {x : Int32} {T : v_Sf} {p n M a : Nat} {bg : Int32} {Y : Int32 × v_Sf} (h : z_tm w T p n M a bg) (hp : p < n) (hY : z_zT x (g_X12_monthTold T) Y) : z_zT x T Y := by
  obtain ⟨N, hN⟩ := hY
  have s1 : s_X12_timetable_49 x T = Sum.inl (g_X12_monthTold T) := by
    unfold s_X12_timetable_49
    rw [if_neg (z_good1 h.2.2.2.1), if_neg (by rw [h.2.1, h.2.2.1, z_ile (by have := h.2.2.2.2.2.2.2.2.1; omega) (by have := h.2.2.2.2.2.2.2.2.1; omega)]; omega)]
  exact ⟨N + 1, (z_itr_l (s := fun p => s_X12_timetable_49 x p) s1).trans hN⟩
theorem z_zT_b {x : Int32} {T : v_Sf} (h : T 99 5 < 0) : z_zT x T (T 99 5, T) := by
  refine ⟨1, z_itr_r (s := fun p => s_X12_timetable_49 x p) ?_⟩
  show s_X12_timetable_49 x T = _
  unfold s_X12_timetable_49
  rw [if_pos (z_bad (z_ng h)), if_neg]
  intro q
  have a := z_leI2.mp q
  have b := z_ltI2.mp h
  omega
/-- the end comes inside a group -/
theorem z_zT_e {w : Nat → Int32} {x : Int32} {T : v_Sf} {n M a : Nat} {bg : Int32} (h : z_tm w T n n M (a + 1) bg) : z_zT x T (z_phi 1 n, z_s T 99 5 (z_phi 1 n)) := by
  have hn := h.2.2.2.2.2.2.2.2
  have n1 := z_phi_n (c := 1) (p := n) (by decide) (by omega)
  refine ⟨1, z_itr_r (s := fun p => s_X12_timetable_49 x p) ?_⟩
  show s_X12_timetable_49 x T = _
  unfold s_X12_timetable_49
  rw [if_neg (z_good1 h.2.2.2.1), if_pos (by rw [h.2.1, h.2.2.1]; exact Int32.le_refl _), if_neg (by rw [h.2.2.2.2.2.1, show (0 : Int32) = z_i 0 from rfl, z_ile (by omega) (by omega)]; omega), h.2.1, z_tm_wrong h 1 n, z_ss, if_neg]
  intro q
  have a := z_leI2.mp q
  have b := z_ltI2.mp n1
  omega
/-- how many times -/
theorem z_times {w : Nat → Int32} (hw : z_by w) {φG : Int32 → v_Sf → v_Sf} {a' : Int32} {S T : v_Sf} {p n M a : Nat} {bg : Int32} (hC : z_tc w S p n M) (hM : z_tm w T p n M a bg) : ∃ S1 T1 p1 tm, g_readMonthF φG a' S = z_mW φG a' (z_i M) (z_i tm) (z_i p) S1 ∧ z_tc w S1 p1 n M ∧ z_gC M S S1 ∧ g_X12_timesTold T = T1 ∧ f_X12_timesTold T = z_i tm ∧ z_tm w T1 p1 n M a bg ∧ (∀ b j, ¬ (b = 99 ∧ j = 3) → T1 b j = T b j) ∧ (1 ≤ tm ∧ tm ≤ 9) ∧ p ≤ p1 ∧ p1 ≤ p + 1 ∧ S1 74 = S 74 := by
  have hhC := z_tc_here hC
  have hhM := z_tm_here hM
  have hn := hC.2.2.2.2.2.2
  by_cases g : p < n ∧ 50 ≤ (w p).toInt ∧ (w p).toInt ≤ 57
  · have ec : z_hc w p n = w p := z_hcl g.1
    have em : z_hm w p n = w p := z_hml g.1
    have i1 : ¬ f_X5_here S < Int32.ofInt 50 := by
      rw [hhC, ec, z_ltI2, show (Int32.ofInt 50).toInt = 50 from rfl]
      omega
    have i2 : ¬ Int32.ofInt 57 < f_X5_here S := by
      rw [hhC, ec, z_ltI2, show (Int32.ofInt 57).toInt = 57 from rfl]
      omega
    have hz : ¬ z_in (f_X12_here T) 50 57 = 0 := by
      unfold z_in
      rw [hhM, em, z_pb0, decide_eq_false_iff_not]
      exact not_not_intro g.2
    have e48 : w p - Int32.ofInt 48 = z_i ((w p).toInt - 48).toNat := by
      refine z_inj2 ?_
      rw [z_subI (by rw [show (Int32.ofInt 48).toInt = 48 from rfl]; omega), z_it3 (by omega), show (Int32.ofInt 48).toInt = 48 from rfl]
      omega
    have eb : T 100 p = w p := by
      have := hM.1 p (by omega)
      rw [← this.1]
      exact (z_byt this.2 (by rw [this.1]; omega)).symm
    refine ⟨_, _, p + 1, ((w p).toInt - 48).toNat, ?_, z_tc_adv hC g.1, fun a j q1 q2 => z_sn (by omega), rfl, ?_, ?_, fun b j q => ?_, by omega, by omega, by omega, z_sr (by decide)⟩
    · rw [z_rm2 i1 i2, hhC, ec, e48, hC.2.2.2.2.2.1, hC.2.2.1]
    · unfold f_X12_timesTold
      rw [if_pos hz, hM.2.1, z_i1, z_isub, z_iin (by omega), eb, e48]
    · unfold g_X12_timesTold
      rw [if_pos hz]
      exact z_tm_w hM (fun b j q => z_sn (by omega)) (by rw [z_ss, hM.2.1, z_i1]) (by rw [z_sn (by omega)]; exact hM.2.2.2.2.1) (by rw [z_sn (by omega)]; exact hM.2.2.2.2.2.1) (by rw [z_sn (by omega)]; exact hM.2.2.2.2.2.2.1) (by omega) hM.2.2.2.2.2.2.2.2.2.1 hM.2.2.2.2.2.2.2.2.2.2
    · unfold g_X12_timesTold
      rw [if_pos hz]
      exact z_sn q
  · have i1 : f_X5_here S < Int32.ofInt 50 ∨ Int32.ofInt 57 < f_X5_here S := by
      rw [hhC, z_ltI2, z_ltI2, show (Int32.ofInt 50).toInt = 50 from rfl, show (Int32.ofInt 57).toInt = 57 from rfl]
      by_cases q : p < n
      · rw [z_hcl q]
        omega
      · left
        rw [show z_hc w p n = Int32.ofInt (-1) from if_neg q]
        decide
    have hz : ¬ ¬ z_in (f_X12_here T) 50 57 = 0 := by
      unfold z_in
      rw [hhM, z_pb0, decide_eq_false_iff_not]
      refine not_not_intro ?_
      by_cases q : p < n
      · rw [z_hml q]
        omega
      · rw [show z_hm w p n = Int32.ofInt 0 from if_neg q]
        decide
    refine ⟨S, T, p, 1, ?_, hC, fun _ _ _ _ => rfl, ?_, ?_, hM, fun _ _ _ => rfl, by omega, by omega, by omega, rfl⟩
    · rw [z_rm1 i1, hC.2.2.2.2.2.1, hC.2.2.1]
      rfl
    · unfold g_X12_timesTold
      rw [if_neg hz]
    · unfold f_X12_timesTold
      rw [if_neg hz]
      rfl
/-- a month, told so many times, in the reference -/
theorem z_244 {w : Nat → Int32} {n M a p tm : Nat} {bg : Int32} (hp : p < n) (ht : M + tm ≤ 48) : ∀ (d i : Nat) (T : v_Sf), i + d = tm → z_tm w T p n M a bg → ∃ U, (∃ N, z_itr (fun p : Int32 × v_Sf => s_X12_monthTold_244 (z_i tm) p.1 p.2) N (z_i i, T) = some U) ∧ (∀ b j, ¬ (b = 99 ∧ (j = 3 ∨ j = 64 ∨ j = 66)) → ¬ (b = 133 ∧ M + i ≤ j) → U b j = T b j) ∧ U 99 64 = z_i (M + tm) ∧ U 99 66 = Int32.ofInt 1 ∧ U 99 3 = z_i (p + 1) ∧ ∀ k, i ≤ k → k < tm → (w p = Int32.ofInt 46 → U 133 (M + k) = Int32.ofInt (-1)) ∧ (¬ w p = Int32.ofInt 46 → U 133 (M + k) = w p - Int32.ofInt 65) := by
  intro d
  induction d with
  | zero =>
    intro i T hi h
    refine ⟨z_s (z_s (z_s T 99 64 (T 99 64 + z_i tm)) 99 66 (Int32.ofInt 1)) 99 3 (T 99 3 + Int32.ofInt 1), ⟨1, z_itr_r (s := fun p : Int32 × v_Sf => s_X12_monthTold_244 (z_i tm) p.1 p.2) ?_⟩, fun b j q1 q2 => ?_, ?_, ?_, ?_, fun k h1 h2 => by omega⟩
    · show s_X12_monthTold_244 (z_i tm) (z_i i) T = _
      unfold s_X12_monthTold_244
      rw [if_pos (by rw [z_ile (by omega) (by omega)]; omega)]
    · rw [z_sn (by omega), z_sn (by omega), z_sn (by omega)]
    · rw [z_sn (by omega), z_sn (by omega), z_ss, h.2.2.2.2.1, z_iadd]
    · rw [z_sn (by omega), z_ss]
    · rw [z_ss, h.2.1, z_i1]
  | succ d ih =>
    intro i T hi h
    have hh : f_X12_here T = w p := by rw [z_tm_here h, z_hml hp]
    obtain ⟨v, hv1, hv2, s1⟩ : ∃ v, (w p = Int32.ofInt 46 → v = Int32.ofInt (-1)) ∧ (¬ w p = Int32.ofInt 46 → v = w p - Int32.ofInt 65) ∧ s_X12_monthTold_244 (z_i tm) (z_i i) T = Sum.inl (z_i (i + 1), z_s T 133 (M + i) v) := by
      by_cases q : w p = Int32.ofInt 46
      · refine ⟨Int32.ofInt (-1), fun _ => rfl, fun m => absurd q m, ?_⟩
        unfold s_X12_monthTold_244
        rw [if_neg (by rw [z_ile (by omega) (by omega)]; omega), hh, if_neg (not_not_intro q), h.2.2.2.2.1, z_iadd, z_iin (by omega), z_i1]
      · refine ⟨w p - Int32.ofInt 65, fun m => absurd m q, fun _ => rfl, ?_⟩
        unfold s_X12_monthTold_244
        rw [if_neg (by rw [z_ile (by omega) (by omega)]; omega), hh, if_pos q, h.2.2.2.2.1, z_iadd, z_iin (by omega), z_i1]
    have h2 : z_tm w (z_s T 133 (M + i) v) p n M a bg := z_tm_w h (fun b j q => z_sn (by omega)) (by rw [z_sn (by omega)]; exact h.2.1) (by rw [z_sn (by omega)]; exact h.2.2.2.2.1) (by rw [z_sn (by omega)]; exact h.2.2.2.2.2.1) (by rw [z_sn (by omega)]; exact h.2.2.2.2.2.2.1) (by omega) h.2.2.2.2.2.2.2.2.2.1 h.2.2.2.2.2.2.2.2.2.2
    obtain ⟨U, ⟨N, hN⟩, f1, f2, f3, f4, f5⟩ := ih (i + 1) _ (by omega) h2
    refine ⟨U, ⟨N + 1, (z_itr_l (s := fun p : Int32 × v_Sf => s_X12_monthTold_244 (z_i tm) p.1 p.2) s1).trans hN⟩, fun b j q1 q2 => ?_, f2, f3, f4, fun k h1 h2 => ?_⟩
    · rw [f1 b j q1 (by omega), z_sn (by omega)]
    · by_cases q : k = i
      · rw [q, f1 133 (M + i) (by omega) (by omega), z_ss]
        exact ⟨hv1, hv2⟩
      · exact f5 k (by omega) h2
noncomputable def z_MON (w : Nat → Int32) (x : Int32) (n : Nat) (g : v_Sf → v_Sf) (a : Nat) : Prop := ∀ (S T : v_Sf) (p M : Nat) (bg : Int32), z_tc w S p n M → z_tm w T p n M a bg → z_tb S T M → ¬ (z_hc w p n = Int32.ofInt 41 ∧ 0 < a ∧ ¬ bg = 0) → (p = n → 0 < a) →
  (g S 66 6 < 0 ∧ ∃ U, z_zT x T (g S 66 6, U) ∧ z_gF T U) ∨ (∃ T' p' M', z_tc w (g S) p' n M' ∧ z_tm w T' p' n M' a (Int32.ofInt 1) ∧ z_tb (g S) T' M' ∧ p < p' ∧ M < M' ∧ z_gC M S (g S) ∧ z_gM M a T T' ∧ ∀ Y, z_zT x T' Y → z_zT x T Y)
noncomputable def z_MONS (w : Nat → Int32) (x : Int32) (n : Nat) (g : v_Sf → v_Sf) (a : Nat) : Prop := ∀ (S T : v_Sf) (p M : Nat) (bg : Int32), z_tc w S p n M → z_tm w T p n M a bg → z_tb S T M → ¬ (z_hc w p n = Int32.ofInt 41 ∧ 0 < a ∧ ¬ bg = 0) → (p = n → 0 < a) →
  (g S 66 6 < 0 ∧ ∃ U, z_zT x T (g S 66 6, U) ∧ z_gF T U) ∨ (∃ T' p' M', z_tc w (g S) p' n M' ∧ z_tm w T' p' n M' a (Int32.ofInt 1) ∧ z_tb (g S) T' M' ∧ p < p' ∧ M < M' ∧ z_gC M S (g S) ∧ z_gM M a T T' ∧ (p' = n ∨ z_hc w p' n = Int32.ofInt 41) ∧ ∀ Y, z_zT x T' Y → z_zT x T Y)
/-- a single month -/
theorem z_one {w : Nat → Int32} (hw : z_by w) {x : Int32} {S1 T T1 : v_Sf} {p p1 n M a tm : Nat} {bg bg1 : Int32} (hC : z_tc w S1 p1 n M) (hT : z_tm w T p n M a bg) (hM : z_tm w T1 p1 n M a bg1) (htb : z_tb S1 T1 M) (ht : 1 ≤ tm ∧ tm ≤ 9) (hp1 : p1 < n) (hpp : p ≤ p1) (fT : ∀ b j, ¬ (b = 99 ∧ j = 3) → T1 b j = T b j) {l : Int32} (hl : (w p1 = Int32.ofInt 46 ∧ l = Int32.ofInt (-2)) ∨ (¬ w p1 = Int32.ofInt 46 ∧ l = w p1 - Int32.ofInt 65 ∧ 65 ≤ (w p1).toInt ∧ (w p1).toInt ≤ 74)) (hmt : g_X12_monthTold T = (if (T1 99 64 + z_i tm) ≤ Int32.ofInt 48 then (if ¬ (f_X12_isGood T1) = 0 then z_lim (fun p => s_X12_monthTold_244 (z_i tm) p.1 p.2) T ((Int32.ofInt 0), T1) else T1) else (if ¬ (f_X12_isGood (g_X12_wrongs (Int32.ofInt 6) (T 99 3) T1)) = 0 then z_lim (fun p => s_X12_monthTold_244 (z_i tm) p.1 p.2) T ((Int32.ofInt 0), (g_X12_wrongs (Int32.ofInt 6) (T 99 3) T1)) else g_X12_wrongs (Int32.ofInt 6) (T 99 3) T1))) {S' : v_Sf} (hS' : S' = (if ¬ g_X5_writeMonth l S1 66 6 = 0 then g_X5_writeMonth l S1 else g_X5_repeat (z_i M) (z_i tm) (z_i p) (g_X5_writeMonth l S1))) : (S' 66 6 < 0 ∧ ∃ U, z_zT x T (S' 66 6, U) ∧ z_gF T U) ∨ (∃ T' p' M', z_tc w S' p' n M' ∧ z_tm w T' p' n M' a (Int32.ofInt 1) ∧ z_tb S' T' M' ∧ p < p' ∧ M < M' ∧ z_gC M S1 S' ∧ z_gM M a T T' ∧ ∀ Y, z_zT x T' Y → z_zT x T Y) := by
  have hn := hT.2.2.2.2.2.2.2
  have E : g_X5_writeMonth l S1 = z_s (z_s (z_s S1 66 4 ((S1 66 4) + (Int32.ofInt 1))) 74 M l) 66 3 (z_i (M + 1)) := by
    unfold g_X5_writeMonth
    rw [hC.2.2.2.2.2.1, if_neg (by rw [show Int32.ofNat 49 = z_i 49 by decide, z_ile (by omega) (by omega)]; omega), z_iin (by omega), z_i1]
  have cZ : z_tc w (g_X5_writeMonth l S1) (p1 + 1) n (M + 1) := by
    rw [E]
    have ad := z_tc_adv hC hp1
    obtain ⟨h1, h2, h3, h4, h5, h6, h7, h8, h9⟩ := ad
    refine ⟨fun i hi => ?_, ?_, ?_, ?_, ?_, z_ss, h7, h8, by omega⟩
    · rw [z_sn (by omega), z_sn (by omega)]
      exact h1 i hi
    · rw [z_sn (by omega), z_sn (by omega)]
      exact h2
    · rw [z_sn (by omega), z_sn (by omega)]
      exact h3
    · rw [z_sn (by omega), z_sn (by omega)]
      exact h4
    · rw [z_sn (by omega), z_sn (by omega)]
      exact h5
  have fZ : z_gC M S1 (g_X5_writeMonth l S1) := by
    rw [E]
    exact fun a j q1 q2 => by rw [z_sn (by omega), z_sn (by omega), z_sn (by omega)]
  have vZ : g_X5_writeMonth l S1 74 M = l := by rw [E, z_sn (by omega), z_ss]
  rw [if_neg (not_not_intro cZ.2.2.2.2.1)] at hS'
  have e64 : T1 99 64 + z_i tm = z_i (M + tm) := by rw [hM.2.2.2.2.1, z_iadd]
  rw [e64, hT.2.1] at hmt
  rcases z_rep_c (M := M) (once := 1) (times := tm) (i := p) cZ (Nat.le_refl _) ht (by omega) with ⟨q, r1, r2, r3⟩ | ⟨q, r1⟩
  · rw [Nat.one_mul] at q r1 r3
    rw [if_pos (by rw [show Int32.ofInt 48 = z_i 48 from rfl, z_ile (by omega) (by omega)]; exact q), if_pos (z_good1 hM.2.2.2.1)] at hmt
    obtain ⟨U, ⟨N, hN⟩, f1, f2, f3, f4, f5⟩ := z_244 hp1 q tm 0 T1 (by omega) hM
    have hU : g_X12_monthTold T = U := by
      rw [hmt]
      exact z_lim_eq hN
    rw [hS']
    refine Or.inr ⟨U, p1 + 1, M + tm, r1, z_tm_w hM (fun b j q => f1 b j (by omega) (by omega)) f4 f2 ?_ f3 (by omega) q hM.2.2.2.2.2.2.2.2.2.2, ?_, by omega, by omega, z_gC_t fZ r2 (by omega), fun b j q1 q2 q3 => ?_, fun Y hY => z_zT_m hT (by omega) (by rw [hU]; exact hY)⟩
    · rw [f1 _ _ (by omega) (by omega)]
      exact hM.2.2.2.2.2.1
    · intro j hj
      by_cases g : j < M
      · rw [r2 74 j (by omega) (by omega), fZ 74 j (by omega) (by omega), f1 133 j (by omega) (by omega)]
        exact htb j g
      · have k := r3 (j - M) (by omega)
        have k2 := f5 (j - M) (by omega) (by omega)
        rw [show M + (j - M) = j by omega] at k k2
        rw [Nat.mod_one, Nat.add_zero, vZ] at k
        rw [k]
        rcases hl with ⟨l1, l2⟩ | ⟨l1, l2, l3⟩
        · rw [l2, k2.1 l1]
          exact Or.inl ⟨rfl, rfl⟩
        · rw [l2, k2.2 l1]
          have es : (w p1 - Int32.ofInt 65).toInt = (w p1).toInt - 65 := z_subI (by rw [show (Int32.ofInt 65).toInt = 65 from rfl]; omega)
          exact Or.inr ⟨rfl, by omega, by omega⟩
    · rw [f1 b j (by omega) (by omega), fT b j (by omega)]
  · rw [Nat.one_mul] at q
    have n6 := z_phi_n (c := 6) (p := p) (by decide) (by omega)
    rw [if_neg (by rw [show Int32.ofInt 48 = z_i 48 from rfl, z_ile (by omega) (by omega)]; exact q), z_tm_wrong hM 6 p, if_neg (not_not_intro (z_bad (by rw [z_ss]; exact z_ng n6)))] at hmt
    rw [hS', r1]
    refine Or.inl ⟨n6, _, z_zT_m hT (by omega) (Y := (z_phi 6 p, z_s T1 99 5 (z_phi 6 p))) ?_, fun b j q1 q2 => ?_⟩
    · rw [hmt]
      have := z_zT_b (x := x) (T := z_s T1 99 5 (z_phi 6 p)) (by rw [z_ss]; exact n6)
      rw [z_ss] at this
      exact this
    · rw [z_sn (by omega), fT b j (by omega)]
