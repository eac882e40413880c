section Prt39l
/-! timetable: its row -/
section TL
variable {L : Nat} {xs : Nat → Int32} {d : Nat} {R : v_Rf} {Q : Option Value → v_Sf → v_Rf → Prop} {S0 : v_Sf} {pl cs sk cl : Nat} {bd : Int32} {nc sg : Nat → Int32} {ov bh : Bool} {op : Int32} {na : Nat → Int32}
variable {T0 : v_Sf} {nm om : Nat} {bg : Bool} {nt fo ot pp : Nat → Int32}
theorem t_isWard {S : v_Sf} (w : Int32) (k1 : 0 ≤ w.toInt ∧ w.toInt ≤ 5 → Q (some (.int (Int32.ofInt 1))) S R) (k0 : Q (some (.int (Int32.ofInt 0))) S R) : w_T L xs (d + 1) m_X12_isWard 0 (lv_args 0 [.int w]) [] S R Q := by
  have e0 : (Int64.ofNat 0).toInt = 0 := by decide
  have e5 : (Int64.ofInt 5).toInt = 5 := by decide
  have e1 := Int32.toInt_toInt64 w
  refine w_st rfl (fun _ => rfl) ?_
  refine w_st rfl (fun _ => rfl) ?_
  refine w_st rfl (fun _ => rfl) ?_
  refine w_st rfl (fun _ => rfl) ?_
  show w_T L xs (d + 1) m_X12_isWard 6 [(0, .int w)] [.long (Int64.ofInt 5), .long (Int64.ofNat 0), .long w.toInt64] S R Q
  refine w_cs rfl (by decide) mt_X12_lies (fun _ => rfl) (Nat.le_of_ble_eq_true rfl) (Nat.le_of_ble_eq_true rfl) ?_
  show w_T L xs _ m_X12_lies 0 (lv_args 0 [.long w.toInt64, .long (Int64.ofNat 0), .long (Int64.ofInt 5)]) [] S R _
  refine h_lies _ _ _ ?_
  rw [e0, e5, e1]
  by_cases hd : 0 ≤ w.toInt ∧ w.toInt ≤ 5
  · rw [if_pos hd]
    show w_T L xs (d + 1) m_X12_isWard 9 [(0, .int w)] [.int (Int32.ofInt 1)] S R Q
    refine w_ret rfl (by rfl) ?_
    exact k1 hd
  · rw [if_neg hd]
    show w_T L xs (d + 1) m_X12_isWard 9 [(0, .int w)] [.int (Int32.ofInt 0)] S R Q
    refine w_ret rfl (by rfl) ?_
    exact k0
theorem h_ttS {w n : Int32} (he : (T0 99 4).toInt ≤ 240) (htp : ∀ j, j < 260 → -128 ≤ (T0 100 j).toInt ∧ (T0 100 j).toInt ≤ 127) (hp : pl ≤ 240) (hM : t_M nm om nt fo ot pp) (K7 : ∀ (pl' nm' om' : Nat) (g' : Bool) (nt' fo' ot' pp' : Nat → Int32), pl < pl' → pl' ≤ 240 → t_M nm' om' nt' fo' ot' pp' → w_T L xs (d + 3) m_X12_timetable 49 [(0, .ref 100), (1, .int w), (2, .int n)] [] (p_S (t_S T0 (nm') (om') (g') (nt') (fo') (ot') (pp')) (pl') cs sk cl (Int32.ofInt 0) nc sg ov bh op na) R Q) (K9 : ∀ (pl' nm' om' : Nat) (g' : Bool) (nt' fo' ot' pp' : Nat → Int32), pl' ≤ 240 → t_M nm' om' nt' fo' ot' pp' → w_T L xs (d + 3) m_X12_timetable 109 [(0, .ref 100), (1, .int w), (2, .int n)] [] (p_S (t_S T0 (nm') (om') (g') (nt') (fo') (ot') (pp')) (pl') cs sk cl (Int32.ofInt 0) nc sg ov bh op na) R Q) (Kb : ∀ (pl' nm' om' : Nat) (b' : Int32) (g' : Bool) (nt' fo' ot' pp' : Nat → Int32), b'.toInt < 0 → pl' ≤ 240 → t_M nm' om' nt' fo' ot' pp' → Q (some (.int b')) (p_S (t_S T0 (nm') (om') (g') (nt') (fo') (ot') (pp')) (pl') cs sk cl (b') nc sg ov bh op na) R) : w_T L xs (d + 3) m_X12_timetable 49 [(0, .ref 100), (1, .int w), (2, .int n)] [] (p_S (t_S T0 nm om bg nt fo ot pp) pl cs sk cl (Int32.ofInt 0) nc sg ov bh op na) R Q := by
  have epl := w_nat (k := pl) (by omega)
  have z0 : (0 : Int32).toInt = 0 := rfl
  refine w_st rfl (fun _ => rfl) ?_
  show w_T L xs (d + 3) m_X12_timetable 50 [(0, .ref 100), (1, .int w), (2, .int n)] [.ref 100] (p_S (t_S T0 nm om bg nt fo ot pp) pl cs sk cl (Int32.ofInt 0) nc sg ov bh op na) R Q
  refine w_cv rfl (by decide) mt_X12_isGood v_tyM rfl rfl rfl (Nat.le_of_ble_eq_true rfl) (Nat.le_of_ble_eq_true rfl) (Nat.le_of_ble_eq_true rfl) ?_
  show w_T L xs _ m_X12_isGood 0 (lv_args 0 [.ref 100]) [] (p_S (t_S T0 nm om bg nt fo ot pp) pl cs sk cl (Int32.ofInt 0) nc sg ov bh op na) R _
  refine h_isGT ?_
  show w_T L xs (d + 3) m_X12_timetable 53 [(0, .ref 100), (1, .int w), (2, .int n)] [.int (Int32.ofInt 1)] (p_S (t_S T0 nm om bg nt fo ot pp) pl cs sk cl (Int32.ofInt 0) nc sg ov bh op na) R Q
  refine w_st rfl (fun _ => rfl) ?_
  refine w_st rfl (fun _ => rfl) ?_
  show w_T L xs (d + 3) m_X12_timetable 57 [(0, .ref 100), (1, .int w), (2, .int n)] [.ref 100] (p_S (t_S T0 nm om bg nt fo ot pp) pl cs sk cl (Int32.ofInt 0) nc sg ov bh op na) R Q
  refine w_get rfl v_tyM rfl ?_
  refine w_st rfl (fun _ => rfl) ?_
  show w_T L xs (d + 3) m_X12_timetable 61 [(0, .ref 100), (1, .int w), (2, .int n)] [.ref 100, .int (Int32.ofInt (pl : Int))] (p_S (t_S T0 nm om bg nt fo ot pp) pl cs sk cl (Int32.ofInt 0) nc sg ov bh op na) R Q
  refine w_get rfl v_tyM rfl ?_
  show w_T L xs (d + 3) m_X12_timetable 64 [(0, .ref 100), (1, .int w), (2, .int n)] [.int (T0 99 4), .int (Int32.ofInt (pl : Int))] (p_S (t_S T0 nm om bg nt fo ot pp) pl cs sk cl (Int32.ofInt 0) nc sg ov bh op na) R Q
  refine w_br (P := (T0 99 4) ≤ (Int32.ofInt (pl : Int))) rfl (fun _ => rfl) (fun h64 => ?_) (fun h64 => ?_)
  · refine w_st rfl (fun _ => rfl) ?_
    show w_T L xs (d + 3) m_X12_timetable 75 [(0, .ref 100), (1, .int w), (2, .int n)] [.ref 100] (p_S (t_S T0 nm om bg nt fo ot pp) pl cs sk cl (Int32.ofInt 0) nc sg ov bh op na) R Q
    refine w_cv rfl (by decide) mt_X12_isGood v_tyM rfl rfl rfl (Nat.le_of_ble_eq_true rfl) (Nat.le_of_ble_eq_true rfl) (Nat.le_of_ble_eq_true rfl) ?_
    show w_T L xs _ m_X12_isGood 0 (lv_args 0 [.ref 100]) [] (p_S (t_S T0 nm om bg nt fo ot pp) pl cs sk cl (Int32.ofInt 0) nc sg ov bh op na) R _
    refine h_isGT ?_
    show w_T L xs (d + 3) m_X12_timetable 78 [(0, .ref 100), (1, .int w), (2, .int n)] [.int (Int32.ofInt 1)] (p_S (t_S T0 nm om bg nt fo ot pp) pl cs sk cl (Int32.ofInt 0) nc sg ov bh op na) R Q
    refine w_st rfl (fun _ => rfl) ?_
    refine w_st rfl (fun _ => rfl) ?_
    show w_T L xs (d + 3) m_X12_timetable 82 [(0, .ref 100), (1, .int w), (2, .int n)] [.ref 100] (p_S (t_S T0 nm om bg nt fo ot pp) pl cs sk cl (Int32.ofInt 0) nc sg ov bh op na) R Q
    refine w_get rfl v_tyM rfl ?_
    show w_T L xs (d + 3) m_X12_timetable 85 [(0, .ref 100), (1, .int w), (2, .int n)] [.int (Int32.ofInt (om : Int))] (p_S (t_S T0 nm om bg nt fo ot pp) pl cs sk cl (Int32.ofInt 0) nc sg ov bh op na) R Q
    refine w_br (P := (Int32.ofInt (om : Int)) ≤ 0) rfl (fun _ => rfl) (fun h85 => ?_) (fun h85 => ?_)
    · refine w_st rfl (fun _ => rfl) ?_
      show w_T L xs (d + 3) m_X12_timetable 98 [(0, .ref 100), (1, .int w), (2, .int n)] [.ref 100] (p_S (t_S T0 nm om bg nt fo ot pp) pl cs sk cl (Int32.ofInt 0) nc sg ov bh op na) R Q
      refine w_get rfl v_tyM rfl ?_
      show w_T L xs (d + 3) m_X12_timetable 101 [(0, .ref 100), (1, .int w), (2, .int n)] [.int (Int32.ofInt 0)] (p_S (t_S T0 nm om bg nt fo ot pp) pl cs sk cl (Int32.ofInt 0) nc sg ov bh op na) R Q
      refine w_st rfl (fun _ => rfl) ?_
      show w_T L xs (d + 3) m_X12_timetable 109 [(0, .ref 100), (1, .int w), (2, .int n)] [] (p_S (t_S T0 nm om bg nt fo ot pp) pl cs sk cl (Int32.ofInt 0) nc sg ov bh op na) R Q
      exact K9 _ _ _ _ _ _ _ _ hp hM
    · refine w_st rfl (fun _ => rfl) ?_
      refine w_st rfl (fun _ => rfl) ?_
      refine w_st rfl (fun _ => rfl) ?_
      show w_T L xs (d + 3) m_X12_timetable 91 [(0, .ref 100), (1, .int w), (2, .int n)] [.ref 100, .int (Int32.ofInt 1), .ref 100] (p_S (t_S T0 nm om bg nt fo ot pp) pl cs sk cl (Int32.ofInt 0) nc sg ov bh op na) R Q
      refine w_get rfl v_tyM rfl ?_
      show w_T L xs (d + 3) m_X12_timetable 94 [(0, .ref 100), (1, .int w), (2, .int n)] [.int (Int32.ofInt (pl : Int)), .int (Int32.ofInt 1), .ref 100] (p_S (t_S T0 nm om bg nt fo ot pp) pl cs sk cl (Int32.ofInt 0) nc sg ov bh op na) R Q
      refine w_cv rfl (by decide) mt_X12_wrongs v_tyM rfl rfl rfl (Nat.le_of_ble_eq_true rfl) (Nat.le_of_ble_eq_true rfl) (Nat.le_of_ble_eq_true rfl) ?_
      show w_T L xs _ m_X12_wrongs 0 (lv_args 0 [.ref 100, .int (Int32.ofInt 1), .int (Int32.ofInt (pl : Int))]) [] (p_S (t_S T0 nm om bg nt fo ot pp) pl cs sk cl (Int32.ofInt 0) nc sg ov bh op na) R _
      refine h_wr (by decide) (by decide) (by rw [w_nat (by omega)]; omega) (by rw [w_nat (by omega)]; omega) (fun b94 hb94 => ?_)
      refine w_st rfl (fun _ => rfl) ?_
      show w_T L xs (d + 3) m_X12_timetable 98 [(0, .ref 100), (1, .int w), (2, .int n)] [.ref 100] (p_S (t_S T0 nm om bg nt fo ot pp) pl cs sk cl b94 nc sg ov bh op na) R Q
      refine w_get rfl v_tyM rfl ?_
      show w_T L xs (d + 3) m_X12_timetable 101 [(0, .ref 100), (1, .int w), (2, .int n)] [.int b94] (p_S (t_S T0 nm om bg nt fo ot pp) pl cs sk cl b94 nc sg ov bh op na) R Q
      refine w_br (P := 0 ≤ b94) rfl (fun _ => rfl) (fun h101 => ?_) (fun h101 => ?_)
      · exfalso
        rw [q_le32] at h101
        omega
      · refine w_st rfl (fun _ => rfl) ?_
        show w_T L xs (d + 3) m_X12_timetable 105 [(0, .ref 100), (1, .int w), (2, .int n)] [.ref 100] (p_S (t_S T0 nm om bg nt fo ot pp) pl cs sk cl b94 nc sg ov bh op na) R Q
        refine w_get rfl v_tyM rfl ?_
        show w_T L xs (d + 3) m_X12_timetable 108 [(0, .ref 100), (1, .int w), (2, .int n)] [.int b94] (p_S (t_S T0 nm om bg nt fo ot pp) pl cs sk cl b94 nc sg ov bh op na) R Q
        refine w_ret rfl (by rfl) ?_
        exact Kb _ _ _ _ _ _ _ _ _ hb94 hp hM
  · have hlt : (pl : Int) < (T0 99 4).toInt := by
      rw [q_le32, epl] at h64
      omega
    refine w_st rfl (fun _ => rfl) ?_
    show w_T L xs (d + 3) m_X12_timetable 68 [(0, .ref 100), (1, .int w), (2, .int n)] [.ref 100] (p_S (t_S T0 nm om bg nt fo ot pp) pl cs sk cl (Int32.ofInt 0) nc sg ov bh op na) R Q
    refine w_cv rfl (by decide) mt_X12_monthTold v_tyM rfl rfl rfl (Nat.le_of_ble_eq_true rfl) (Nat.le_of_ble_eq_true rfl) (Nat.le_of_ble_eq_true rfl) ?_
    show w_T L xs _ m_X12_monthTold 0 (lv_args 0 [.ref 100]) [] (p_S (t_S T0 nm om bg nt fo ot pp) pl cs sk cl (Int32.ofInt 0) nc sg ov bh op na) R _
    refine h_month he htp hlt hM (fun pl1 nm1 om1 g1 nt1 fo1 ot1 pp1 x1 x2 x3 => ?_) (fun pl1 nm1 om1 b68 g1 nt1 fo1 ot1 pp1 hb68 x2 x3 => ?_)
    · show w_T L xs (d + 3) m_X12_timetable 71 [(0, .ref 100), (1, .int w), (2, .int n)] [] (p_S (t_S T0 nm1 om1 g1 nt1 fo1 ot1 pp1) pl1 cs sk cl (Int32.ofInt 0) nc sg ov bh op na) R Q
      refine w_st rfl (fun _ => rfl) ?_
      show w_T L xs (d + 3) m_X12_timetable 49 [(0, .ref 100), (1, .int w), (2, .int n)] [] (p_S (t_S T0 nm1 om1 g1 nt1 fo1 ot1 pp1) pl1 cs sk cl (Int32.ofInt 0) nc sg ov bh op na) R Q
      exact K7 _ _ _ _ _ _ _ _ x1 x2 x3
    · show w_T L xs (d + 3) m_X12_timetable 71 [(0, .ref 100), (1, .int w), (2, .int n)] [] (p_S (t_S T0 nm1 om1 g1 nt1 fo1 ot1 pp1) pl1 cs sk cl b68 nc sg ov bh op na) R Q
      refine w_st rfl (fun _ => rfl) ?_
      show w_T L xs (d + 3) m_X12_timetable 49 [(0, .ref 100), (1, .int w), (2, .int n)] [] (p_S (t_S T0 nm1 om1 g1 nt1 fo1 ot1 pp1) pl1 cs sk cl b68 nc sg ov bh op na) R Q
      refine w_st rfl (fun _ => rfl) ?_
      show w_T L xs (d + 3) m_X12_timetable 50 [(0, .ref 100), (1, .int w), (2, .int n)] [.ref 100] (p_S (t_S T0 nm1 om1 g1 nt1 fo1 ot1 pp1) pl1 cs sk cl b68 nc sg ov bh op na) R Q
      refine w_cv rfl (by decide) mt_X12_isGood v_tyM rfl rfl rfl (Nat.le_of_ble_eq_true rfl) (Nat.le_of_ble_eq_true rfl) (Nat.le_of_ble_eq_true rfl) ?_
      show w_T L xs _ m_X12_isGood 0 (lv_args 0 [.ref 100]) [] (p_S (t_S T0 nm1 om1 g1 nt1 fo1 ot1 pp1) pl1 cs sk cl b68 nc sg ov bh op na) R _
      refine h_isGF hb68 ?_
      show w_T L xs (d + 3) m_X12_timetable 53 [(0, .ref 100), (1, .int w), (2, .int n)] [.int (Int32.ofInt 0)] (p_S (t_S T0 nm1 om1 g1 nt1 fo1 ot1 pp1) pl1 cs sk cl b68 nc sg ov bh op na) R Q
      refine w_st rfl (fun _ => rfl) ?_
      refine w_st rfl (fun _ => rfl) ?_
      show w_T L xs (d + 3) m_X12_timetable 75 [(0, .ref 100), (1, .int w), (2, .int n)] [.ref 100] (p_S (t_S T0 nm1 om1 g1 nt1 fo1 ot1 pp1) pl1 cs sk cl b68 nc sg ov bh op na) R Q
      refine w_cv rfl (by decide) mt_X12_isGood v_tyM rfl rfl rfl (Nat.le_of_ble_eq_true rfl) (Nat.le_of_ble_eq_true rfl) (Nat.le_of_ble_eq_true rfl) ?_
      show w_T L xs _ m_X12_isGood 0 (lv_args 0 [.ref 100]) [] (p_S (t_S T0 nm1 om1 g1 nt1 fo1 ot1 pp1) pl1 cs sk cl b68 nc sg ov bh op na) R _
      refine h_isGF hb68 ?_
      show w_T L xs (d + 3) m_X12_timetable 78 [(0, .ref 100), (1, .int w), (2, .int n)] [.int (Int32.ofInt 0)] (p_S (t_S T0 nm1 om1 g1 nt1 fo1 ot1 pp1) pl1 cs sk cl b68 nc sg ov bh op na) R Q
      refine w_st rfl (fun _ => rfl) ?_
      refine w_st rfl (fun _ => rfl) ?_
      show w_T L xs (d + 3) m_X12_timetable 98 [(0, .ref 100), (1, .int w), (2, .int n)] [.ref 100] (p_S (t_S T0 nm1 om1 g1 nt1 fo1 ot1 pp1) pl1 cs sk cl b68 nc sg ov bh op na) R Q
      refine w_get rfl v_tyM rfl ?_
      show w_T L xs (d + 3) m_X12_timetable 101 [(0, .ref 100), (1, .int w), (2, .int n)] [.int b68] (p_S (t_S T0 nm1 om1 g1 nt1 fo1 ot1 pp1) pl1 cs sk cl b68 nc sg ov bh op na) R Q
      refine w_br (P := 0 ≤ b68) rfl (fun _ => rfl) (fun h101 => ?_) (fun h101 => ?_)
      · exfalso
        rw [q_le32] at h101
        omega
      · refine w_st rfl (fun _ => rfl) ?_
        show w_T L xs (d + 3) m_X12_timetable 105 [(0, .ref 100), (1, .int w), (2, .int n)] [.ref 100] (p_S (t_S T0 nm1 om1 g1 nt1 fo1 ot1 pp1) pl1 cs sk cl b68 nc sg ov bh op na) R Q
        refine w_get rfl v_tyM rfl ?_
        show w_T L xs (d + 3) m_X12_timetable 108 [(0, .ref 100), (1, .int w), (2, .int n)] [.int b68] (p_S (t_S T0 nm1 om1 g1 nt1 fo1 ot1 pp1) pl1 cs sk cl b68 nc sg ov bh op na) R Q
        refine w_ret rfl (by rfl) ?_
        exact Kb _ _ _ _ _ _ _ _ _ hb68 x2 x3
theorem h_ttL {w n : Int32} (he : (T0 99 4).toInt ≤ 240) (htp : ∀ j, j < 260 → -128 ≤ (T0 100 j).toInt ∧ (T0 100 j).toInt ≤ 127) (K9 : ∀ (pl' nm' om' : Nat) (g' : Bool) (nt' fo' ot' pp' : Nat → Int32), pl' ≤ 240 → t_M nm' om' nt' fo' ot' pp' → w_T L xs (d + 3) m_X12_timetable 109 [(0, .ref 100), (1, .int w), (2, .int n)] [] (p_S (t_S T0 (nm') (om') (g') (nt') (fo') (ot') (pp')) (pl') cs sk cl (Int32.ofInt 0) nc sg ov bh op na) R Q) (Kb : ∀ (pl' nm' om' : Nat) (b' : Int32) (g' : Bool) (nt' fo' ot' pp' : Nat → Int32), b'.toInt < 0 → pl' ≤ 240 → t_M nm' om' nt' fo' ot' pp' → Q (some (.int b')) (p_S (t_S T0 (nm') (om') (g') (nt') (fo') (ot') (pp')) (pl') cs sk cl (b') nc sg ov bh op na) R) : ∀ (c pl nm om : Nat) (bg : Bool) (nt fo ot pp : Nat → Int32), 240 ≤ pl + c → pl ≤ 240 → t_M nm om nt fo ot pp → w_T L xs (d + 3) m_X12_timetable 49 [(0, .ref 100), (1, .int w), (2, .int n)] [] (p_S (t_S T0 nm om bg nt fo ot pp) pl cs sk cl (Int32.ofInt 0) nc sg ov bh op na) R Q := by
  intro c
  induction c with
  | zero =>
    intro pl nm om bg nt fo ot pp hn hp hM
    exact h_ttS he htp hp hM (fun pl' nm' om' g' nt' fo' ot' pp' h1 h2 _ => absurd h2 (by omega)) K9 Kb
  | succ c ih =>
    intro pl nm om bg nt fo ot pp hn hp hM
    exact h_ttS he htp hp hM (fun pl' nm' om' g' nt' fo' ot' pp' h1 h2 h3 => ih pl' nm' om' g' nt' fo' ot' pp' (by omega) h2 h3) K9 Kb
noncomputable def t_F (T T1 : v_Sf) : Prop := ∀ a j, ¬ (a = 126 ∧ j < 288) → ¬ (a = 127 ∧ j < 6) → ¬ (a = 128 ∧ j < 6) → T1 a j = T a j
theorem t_F_ur {T T1 : v_Sf} (h : t_F T T1) {a j : Nat} {v : Int32} (hm : (a = 126 ∧ j < 288) ∨ (a = 127 ∧ j < 6) ∨ (a = 128 ∧ j < 6)) : t_F T (v_ur T1 a (upd (T1 a) j v)) := fun a' j' h1 h2 h3 => by
  rw [w_urn (fun e => by rw [e.1, e.2] at h1 h2 h3; omega)]
  exact h a' j' h1 h2 h3
theorem h_tc {ww : Nat} {n : Int32} (hw : ww ≤ 5) (hM : t_M nm om nt fo ot pp) (K : ∀ T1, v_Tb v_ty T1 R → t_F T0 T1 → Q (some (.int (Int32.ofInt (nm : Int)))) (p_S (t_S T1 nm om bg nt fo ot pp) pl cs sk cl (Int32.ofInt 0) nc sg ov bh op na) R) : ∀ (c k : Nat) (T1 : v_Sf), k + c = nm → v_Tb v_ty T1 R → t_F T0 T1 → w_T L xs (d + 3) m_X12_timetable 111 [(3, .int (Int32.ofInt (k : Int))), (0, .ref 100), (1, .int (Int32.ofInt (ww : Int))), (2, .int n)] [] (p_S (t_S T1 nm om bg nt fo ot pp) pl cs sk cl (Int32.ofInt 0) nc sg ov bh op na) R Q := by
  have hn := hM.1
  have hb := hM.2.2.1
  intro c
  induction c with
  | zero =>
    intro k T1 hk hT hF
    obtain rfl : k = nm := by omega
    refine w_st rfl (fun _ => rfl) ?_
    refine w_st rfl (fun _ => rfl) ?_
    show w_T L xs (d + 3) m_X12_timetable 113 [(3, .int (Int32.ofInt (k : Int))), (0, .ref 100), (1, .int (Int32.ofInt (ww : Int))), (2, .int n)] [.ref 100, .int (Int32.ofInt (k : Int))] (p_S (t_S T1 k om bg nt fo ot pp) pl cs sk cl (Int32.ofInt 0) nc sg ov bh op na) R Q
    refine w_get rfl v_tyM rfl ?_
    show w_T L xs (d + 3) m_X12_timetable 116 [(3, .int (Int32.ofInt (k : Int))), (0, .ref 100), (1, .int (Int32.ofInt (ww : Int))), (2, .int n)] [.int (Int32.ofInt (k : Int)), .int (Int32.ofInt (k : Int))] (p_S (t_S T1 k om bg nt fo ot pp) pl cs sk cl (Int32.ofInt 0) nc sg ov bh op na) R Q
    refine w_br (P := (Int32.ofInt (k : Int)) ≤ (Int32.ofInt (k : Int))) rfl (fun _ => rfl) (fun h116 => ?_) (fun h116 => ?_)
    · refine w_st rfl (fun _ => rfl) ?_
      show w_T L xs (d + 3) m_X12_timetable 143 [(3, .int (Int32.ofInt (k : Int))), (0, .ref 100), (1, .int (Int32.ofInt (ww : Int))), (2, .int n)] [.ref 100] (p_S (t_S T1 k om bg nt fo ot pp) pl cs sk cl (Int32.ofInt 0) nc sg ov bh op na) R Q
      refine w_getr rfl v_tyM rfl ?_
      refine w_st rfl (fun _ => rfl) ?_
      refine w_st rfl (fun _ => rfl) ?_
      show w_T L xs (d + 3) m_X12_timetable 148 [(3, .int (Int32.ofInt (k : Int))), (0, .ref 100), (1, .int (Int32.ofInt (ww : Int))), (2, .int n)] [.ref 100, .int (Int32.ofInt (ww : Int)), .ref 128] (p_S (t_S T1 k om bg nt fo ot pp) pl cs sk cl (Int32.ofInt 0) nc sg ov bh op na) R Q
      refine w_get rfl v_tyM rfl ?_
      show w_T L xs (d + 3) m_X12_timetable 151 [(3, .int (Int32.ofInt (k : Int))), (0, .ref 100), (1, .int (Int32.ofInt (ww : Int))), (2, .int n)] [.int (Int32.ofInt (k : Int)), .int (Int32.ofInt (ww : Int)), .ref 128] (p_S (t_S T1 k om bg nt fo ot pp) pl cs sk cl (Int32.ofInt 0) nc sg ov bh op na) R Q
      refine w_iast rfl rfl (by rw [w_nat (by omega)]; omega) (by rw [w_nat (by omega)]; omega) ?_
      refine w_eqS (p_wor (by decide) (w_natn (by omega))) ?_
      refine w_eqS (p_in (t_wo (by decide))) ?_
      refine w_st rfl (fun _ => rfl) ?_
      show w_T L xs (d + 3) m_X12_timetable 153 [(3, .int (Int32.ofInt (k : Int))), (0, .ref 100), (1, .int (Int32.ofInt (ww : Int))), (2, .int n)] [.ref 100] (p_S (t_S (v_ur T1 127 (upd (T1 127) ww (Int32.ofInt (k : Int)))) k om bg nt fo ot pp) pl cs sk cl (Int32.ofInt 0) nc sg ov bh op na) R Q
      refine w_getr rfl v_tyM rfl ?_
      refine w_st rfl (fun _ => rfl) ?_
      refine w_st rfl (fun _ => rfl) ?_
      show w_T L xs (d + 3) m_X12_timetable 158 [(3, .int (Int32.ofInt (k : Int))), (0, .ref 100), (1, .int (Int32.ofInt (ww : Int))), (2, .int n)] [.int (Int32.ofInt 0), .int (Int32.ofInt (ww : Int)), .ref 129] (p_S (t_S (v_ur T1 127 (upd (T1 127) ww (Int32.ofInt (k : Int)))) k om bg nt fo ot pp) pl cs sk cl (Int32.ofInt 0) nc sg ov bh op na) R Q
      refine w_iast rfl rfl (by rw [w_nat (by omega)]; omega) (by rw [w_nat (by omega)]; omega) ?_
      refine w_eqS (p_wor (by decide) (w_natn (by omega))) ?_
      refine w_eqS (p_in (t_wo (by decide))) ?_
      refine w_st rfl (fun _ => rfl) ?_
      show w_T L xs (d + 3) m_X12_timetable 160 [(3, .int (Int32.ofInt (k : Int))), (0, .ref 100), (1, .int (Int32.ofInt (ww : Int))), (2, .int n)] [.ref 100] (p_S (t_S (v_ur (v_ur T1 127 (upd (T1 127) ww (Int32.ofInt (k : Int)))) 128 (upd ((v_ur T1 127 (upd (T1 127) ww (Int32.ofInt (k : Int)))) 128) ww (Int32.ofInt 0))) k om bg nt fo ot pp) pl cs sk cl (Int32.ofInt 0) nc sg ov bh op na) R Q
      refine w_get rfl v_tyM rfl ?_
      show w_T L xs (d + 3) m_X12_timetable 163 [(3, .int (Int32.ofInt (k : Int))), (0, .ref 100), (1, .int (Int32.ofInt (ww : Int))), (2, .int n)] [.int (Int32.ofInt (k : Int))] (p_S (t_S (v_ur (v_ur T1 127 (upd (T1 127) ww (Int32.ofInt (k : Int)))) 128 (upd ((v_ur T1 127 (upd (T1 127) ww (Int32.ofInt (k : Int)))) 128) ww (Int32.ofInt 0))) k om bg nt fo ot pp) pl cs sk cl (Int32.ofInt 0) nc sg ov bh op na) R Q
      refine w_ret rfl (by rfl) ?_
      exact K _ (w_TbR (w_TbR hT (a := 127) rfl (by rw [w_nat (by omega)]; omega) (by rw [w_nat (by omega)]; omega)) (a := 128) rfl (by decide) (by decide)) (t_F_ur (t_F_ur hF (by omega)) (by omega))
    · exfalso; rw [q_le32] at h116; omega
  | succ c ih =>
    intro k T1 hk hT hF
    have ek := w_nat (k := k) (by omega)
    have en := w_nat (k := nm) (by omega)
    have e48 : Int32.ofInt 48 * Int32.ofInt (ww : Int) + Int32.ofInt (k : Int) = Int32.ofInt ((48 * ww + k : Nat) : Int) := by
      rw [← Int32.ofInt_mul, ← Int32.ofInt_add]
      rfl
    refine w_st rfl (fun _ => rfl) ?_
    refine w_st rfl (fun _ => rfl) ?_
    show w_T L xs (d + 3) m_X12_timetable 113 [(3, .int (Int32.ofInt (k : Int))), (0, .ref 100), (1, .int (Int32.ofInt (ww : Int))), (2, .int n)] [.ref 100, .int (Int32.ofInt (k : Int))] (p_S (t_S T1 nm om bg nt fo ot pp) pl cs sk cl (Int32.ofInt 0) nc sg ov bh op na) R Q
    refine w_get rfl v_tyM rfl ?_
    show w_T L xs (d + 3) m_X12_timetable 116 [(3, .int (Int32.ofInt (k : Int))), (0, .ref 100), (1, .int (Int32.ofInt (ww : Int))), (2, .int n)] [.int (Int32.ofInt (nm : Int)), .int (Int32.ofInt (k : Int))] (p_S (t_S T1 nm om bg nt fo ot pp) pl cs sk cl (Int32.ofInt 0) nc sg ov bh op na) R Q
    refine w_br (P := (Int32.ofInt (nm : Int)) ≤ (Int32.ofInt (k : Int))) rfl (fun _ => rfl) (fun h116 => ?_) (fun h116 => ?_)
    · exfalso; rw [q_le32, en, ek] at h116; omega
    · refine w_st rfl (fun _ => rfl) ?_
      show w_T L xs (d + 3) m_X12_timetable 120 [(3, .int (Int32.ofInt (k : Int))), (0, .ref 100), (1, .int (Int32.ofInt (ww : Int))), (2, .int n)] [.ref 100] (p_S (t_S T1 nm om bg nt fo ot pp) pl cs sk cl (Int32.ofInt 0) nc sg ov bh op na) R Q
      refine w_getr rfl v_tyM rfl ?_
      refine w_st rfl (fun _ => rfl) ?_
      refine w_st rfl (fun _ => rfl) ?_
      refine w_st rfl (fun _ => rfl) ?_
      refine w_st rfl (fun _ => rfl) ?_
      refine w_st rfl (fun _ => rfl) ?_
      refine w_st rfl (fun _ => rfl) ?_
      show w_T L xs (d + 3) m_X12_timetable 130 [(3, .int (Int32.ofInt (k : Int))), (0, .ref 100), (1, .int (Int32.ofInt (ww : Int))), (2, .int n)] [.ref 100, .int (((Int32.ofInt 48) * (Int32.ofInt (ww : Int))) + (Int32.ofInt (k : Int))), .ref 127] (p_S (t_S T1 nm om bg nt fo ot pp) pl cs sk cl (Int32.ofInt 0) nc sg ov bh op na) R Q
      refine w_getr rfl v_tyM rfl ?_
      refine w_st rfl (fun _ => rfl) ?_
      show w_T L xs (d + 3) m_X12_timetable 134 [(3, .int (Int32.ofInt (k : Int))), (0, .ref 100), (1, .int (Int32.ofInt (ww : Int))), (2, .int n)] [.int (Int32.ofInt (k : Int)), .ref 134, .int (((Int32.ofInt 48) * (Int32.ofInt (ww : Int))) + (Int32.ofInt (k : Int))), .ref 127] (p_S (t_S T1 nm om bg nt fo ot pp) pl cs sk cl (Int32.ofInt 0) nc sg ov bh op na) R Q
      refine w_iald rfl rfl (by rw [w_nat (by omega)]; omega) (by rw [w_nat (by omega)]; omega) ?_
      rw [w_natn (by omega), pt_rnt (by omega)]
      show w_T L xs (d + 3) m_X12_timetable 135 [(3, .int (Int32.ofInt (k : Int))), (0, .ref 100), (1, .int (Int32.ofInt (ww : Int))), (2, .int n)] [.int (nt k), .int (((Int32.ofInt 48) * (Int32.ofInt (ww : Int))) + (Int32.ofInt (k : Int))), .ref 127] (p_S (t_S T1 nm om bg nt fo ot pp) pl cs sk cl (Int32.ofInt 0) nc sg ov bh op na) R Q
      refine w_iast rfl rfl (by rw [e48, w_nat (by omega)]; omega) (by rw [e48, w_nat (by omega)]; omega) ?_
      refine w_eqS (p_wor (by decide) (by rw [e48, w_natn (by omega)])) ?_
      refine w_eqS (p_in (t_wo (by decide))) ?_
      refine w_st rfl (fun _ => rfl) ?_
      refine w_st rfl (fun _ => rfl) ?_
      show w_T L xs (d + 3) m_X12_timetable 111 [(3, .int ((Int32.ofInt (k : Int)) + (Int32.ofInt 1))), (0, .ref 100), (1, .int (Int32.ofInt (ww : Int))), (2, .int n)] [] (p_S (t_S (v_ur T1 126 (upd (T1 126) (48 * ww + k) (nt k))) nm om bg nt fo ot pp) pl cs sk cl (Int32.ofInt 0) nc sg ov bh op na) R Q
      rw [w_inc]
      exact ih (k + 1) _ (by omega) (w_TbR hT (a := 126) rfl (hb k (by omega)).1 (hb k (by omega)).2) (t_F_ur hF (by omega))
theorem p_S_cg {S S1 : v_Sf} {pl' : Nat} {bd' : Int32} {a j : Nat} (h : S1 a j = S a j) (h2 : a = 99 → ¬ j = 3 ∧ ¬ j = 5) : p_S S1 (pl') cs sk cl (bd') nc sg ov bh op na a j = p_S S pl cs sk cl bd nc sg ov bh op na a j := by
  unfold p_S
  by_cases ha : a = 99
  · obtain ⟨y1, y2⟩ := h2 ha
    subst ha
    rw [p_bq y1, p_bq y2, h]
    rfl
  · rw [p_bq ha, h]
    rfl
theorem t_fin {S T1 : v_Sf} {n : Int32} {pl' : Nat} (hS : S = p_S S pl cs sk cl (S 99 5) (S 111) (S 113) ov bh (S 99 8) (S 112)) (h2 : cs ≤ 240) (h3 : sk ≤ 240) (h4 : cl ≤ 16) (hp : pl' ≤ 240) (hO : v_Op S) (hT1 : v_Tb v_ty T1 R) (hF : t_F (p_bg S n) T1) (hM : t_M nm om nt fo ot pp) : v_Tb v_ty (p_S (t_S T1 nm om bg nt fo ot pp) pl' cs sk cl bd (S 111) (S 113) ov bh (S 99 8) (S 112)) R ∧ v_Op (p_S (t_S T1 nm om bg nt fo ot pp) pl' cs sk cl bd (S 111) (S 113) ov bh (S 99 8) (S 112)) ∧ v_Fr [(99, 1, 1), (99, 3, 5), (99, 64, 66), (126, 0, 288), (127, 0, 6), (128, 0, 6), (133, 0, 48), (134, 0, 2), (135, 0, 2), (136, 0, 2)] S R (p_S (t_S T1 nm om bg nt fo ot pp) pl' cs sk cl bd (S 111) (S 113) ov bh (S 99 8) (S 112)) R := by
  have key : ∀ a j, ¬ (a = 99 ∧ (j = 1 ∨ j = 3 ∨ j = 4 ∨ j = 5 ∨ j = 64 ∨ j = 65 ∨ j = 66)) → ¬ (a = 126 ∧ j < 288) → ¬ (a = 127 ∧ j < 6) → ¬ (a = 128 ∧ j < 6) → ¬ (a = 133 ∧ j < 48) → ¬ ((a = 134 ∨ a = 135 ∨ a = 136) ∧ j < 2) → (p_S (t_S T1 nm om bg nt fo ot pp) pl' cs sk cl bd (S 111) (S 113) ov bh (S 99 8) (S 112)) a j = S a j := by
    intro a j g1 g2 g3 g4 g5 g6
    have e := congrFun (congrFun hS a) j
    rw [e]
    refine p_S_cg ?_ (fun h => by omega)
    rw [t_at (by omega) (by omega) (by omega), hF a j g2 g3 g4, p_bgF (by omega)]
  refine ⟨p_Tb (t_Tb hT1 hM) (by omega) h2 h3 h4, v_fz_ok.1 S _ (fun a j hz => ?_) hO, fun a j hm => ?_⟩
  · have hz : v_md v_fz a j j = true := by
      unfold v_frz at hz
      rw [v_hit_jj] at hz
      exact hz
    obtain ⟨q, q1, q2, q3, q4⟩ := v_md_lt hz
    simp only [v_fz, List.mem_cons, List.not_mem_nil, or_false] at q1
    have hq1 : (a = 99 ∧ (j = 16 ∨ j = 17)) ∨ (102 ≤ a ∧ a ≤ 105) := by rcases q1 with rfl | rfl | rfl | rfl | rfl | rfl <;> (dsimp only at q2 q3 q4; omega)
    exact key a j (by omega) (by omega) (by omega) (by omega) (by omega) (by omega)
  · refine ⟨?_, rfl⟩
    have n0 := p_nmd (a0 := 99) (lo := 1) (hi := 1) (by decide +kernel) hm
    have n1 := p_nmd (a0 := 99) (lo := 3) (hi := 5) (by decide +kernel) hm
    have n2 := p_nmd (a0 := 99) (lo := 64) (hi := 66) (by decide +kernel) hm
    have n3 := p_nmd (a0 := 126) (lo := 0) (hi := 288) (by decide +kernel) hm
    have n4 := p_nmd (a0 := 127) (lo := 0) (hi := 6) (by decide +kernel) hm
    have n5 := p_nmd (a0 := 128) (lo := 0) (hi := 6) (by decide +kernel) hm
    have n6 := p_nmd (a0 := 133) (lo := 0) (hi := 48) (by decide +kernel) hm
    have n7 := p_nmd (a0 := 134) (lo := 0) (hi := 2) (by decide +kernel) hm
    have n8 := p_nmd (a0 := 135) (lo := 0) (hi := 2) (by decide +kernel) hm
    have n9 := p_nmd (a0 := 136) (lo := 0) (hi := 2) (by decide +kernel) hm
    exact key a j (by omega) (by omega) (by omega) (by omega) (by omega) (by omega)
end TL
set_option maxHeartbeats 2000000 in
theorem hr_X12_timetable {L : Nat} {xs : Nat → Int32} (ih : ∀ x, ∀ w ∈ v_rw x, w.1 < rw_202.1 → v_Met L xs v_ty v_Op x w) : v_Met L xs v_ty v_Op 225 rw_202 := by
  intro M hM ac S R ha hT hO
  rw [mt_X12_timetable] at hM
  cases hM
  match ac, ha with
  | [r0, w1, w2], ⟨h0, ⟨w, hg, _, _⟩, ⟨n, hg2, _, _⟩, _⟩ =>
  have h0 : r0 = .ref 100 := h0
  subst h0 hg hg2
  show w_T L xs (3 + 3) m_X12_timetable 0 (lv_args 0 [.ref 100, .int w, .int n]) [] S R (fun (r : Option Value) (S' : v_Sf) (R' : v_Rf) => v_Tb v_ty S' R' ∧ v_Op S' ∧ v_rk1 (some ((-2147483648), 2147483647)) r ∧ v_Fr [(99, 1, 1), (99, 3, 5), (99, 64, 66), (126, 0, 288), (127, 0, 6), (128, 0, 6), (133, 0, 48), (134, 0, 2), (135, 0, 2), (136, 0, 2)] S R S' R')
  generalize hQ : (fun (r : Option Value) (S' : v_Sf) (R' : v_Rf) => v_Tb v_ty S' R' ∧ v_Op S' ∧ v_rk1 (some ((-2147483648), 2147483647)) r ∧ v_Fr [(99, 1, 1), (99, 3, 5), (99, 64, 66), (126, 0, 288), (127, 0, 6), (128, 0, 6), (133, 0, 48), (134, 0, 2), (135, 0, 2), (136, 0, 2)] S R S' R') = Q
  have hq : ∀ (S' : v_Sf) (v : Int32), v_Tb v_ty S' R → v_Op S' → v_Fr [(99, 1, 1), (99, 3, 5), (99, 64, 66), (126, 0, 288), (127, 0, 6), (128, 0, 6), (133, 0, 48), (134, 0, 2), (135, 0, 2), (136, 0, 2)] S R S' R → Q (some (.int v)) S' R := fun S' v a1 a2 a3 => by
    rw [← hQ]
    exact ⟨a1, a2, ⟨v, rfl, (q_rng v).1, (q_rng v).2⟩, a3⟩
  have e1 : (Int64.ofNat 1).toInt = 1 := by decide
  have e60 : (Int64.ofInt 60).toInt = 60 := by decide
  have e0 := Int32.toInt_toInt64 n
  obtain ⟨pl, cs, sk, cl, ov, bh, hS, hsk, hb1, hb2, hb3⟩ := p_S_of hT
  refine w_eqS hS ?_
  have hq0 : ∀ v, Q (some (.int v)) (p_S S pl cs sk cl (S 99 5) (S 111) (S 113) ov bh (S 99 8) (S 112)) R := fun v => by
    rw [← hS]
    exact hq S v hT hO (v_Fr_rf _ _ _)
  refine w_st rfl (fun _ => rfl) ?_
  show w_T L xs (3 + 3) m_X12_timetable 1 [(0, .ref 100), (1, .int w), (2, .int n)] [.int w] (p_S S pl cs sk cl (S 99 5) (S 111) (S 113) ov bh (S 99 8) (S 112)) R Q
  refine w_cs rfl (by decide) mt_X12_isWard (fun _ => rfl) (Nat.le_of_ble_eq_true rfl) (Nat.le_of_ble_eq_true rfl) ?_
  show w_T L xs _ m_X12_isWard 0 (lv_args 0 [.int w]) [] (p_S S pl cs sk cl (S 99 5) (S 111) (S 113) ov bh (S 99 8) (S 112)) R _
  refine t_isWard _ (fun hw => ?_) ?_
  · show w_T L xs (3 + 3) m_X12_timetable 4 [(0, .ref 100), (1, .int w), (2, .int n)] [.int (Int32.ofInt 1)] (p_S S pl cs sk cl (S 99 5) (S 111) (S 113) ov bh (S 99 8) (S 112)) R Q
    refine w_st rfl (fun _ => rfl) ?_
    refine w_st rfl (fun _ => rfl) ?_
    refine w_st rfl (fun _ => rfl) ?_
    refine w_st rfl (fun _ => rfl) ?_
    refine w_st rfl (fun _ => rfl) ?_
    show w_T L xs (3 + 3) m_X12_timetable 13 [(0, .ref 100), (1, .int w), (2, .int n)] [.long (Int64.ofInt 60), .long (Int64.ofNat 1), .long n.toInt64] (p_S S pl cs sk cl (S 99 5) (S 111) (S 113) ov bh (S 99 8) (S 112)) R Q
    refine w_cs rfl (by decide) mt_X12_lies (fun _ => rfl) (Nat.le_of_ble_eq_true rfl) (Nat.le_of_ble_eq_true rfl) ?_
    show w_T L xs _ m_X12_lies 0 (lv_args 0 [.long n.toInt64, .long (Int64.ofNat 1), .long (Int64.ofInt 60)]) [] (p_S S pl cs sk cl (S 99 5) (S 111) (S 113) ov bh (S 99 8) (S 112)) R _
    refine h_lies _ _ _ ?_
    rw [e1, e60, e0]
    by_cases hd : 1 ≤ n.toInt ∧ n.toInt ≤ 60
    · rw [if_pos hd]
      show w_T L xs (3 + 3) m_X12_timetable 16 [(0, .ref 100), (1, .int w), (2, .int n)] [.int (Int32.ofInt 1)] (p_S S pl cs sk cl (S 99 5) (S 111) (S 113) ov bh (S 99 8) (S 112)) R Q
      refine w_st rfl (fun _ => rfl) ?_
      refine w_st rfl (fun _ => rfl) ?_
      refine w_st rfl (fun _ => rfl) ?_
      show w_T L xs (3 + 3) m_X12_timetable 21 [(0, .ref 100), (1, .int w), (2, .int n)] [.ref 100, .int n] (p_S S pl cs sk cl (S 99 5) (S 111) (S 113) ov bh (S 99 8) (S 112)) R Q
      refine w_get rfl v_tyM rfl ?_
      show w_T L xs (3 + 3) m_X12_timetable 24 [(0, .ref 100), (1, .int w), (2, .int n)] [.int (S 99 1), .int n] (p_S S pl cs sk cl (S 99 5) (S 111) (S 113) ov bh (S 99 8) (S 112)) R Q
      refine w_br (P := n ≤ (S 99 1)) rfl (fun _ => rfl) (fun h24 => ?_) (fun h24 => ?_)
      · refine w_st rfl (fun _ => rfl) ?_
        refine w_st rfl (fun _ => rfl) ?_
        show w_T L xs (3 + 3) m_X12_timetable 31 [(0, .ref 100), (1, .int w), (2, .int n)] [.int n, .ref 100] (p_S S pl cs sk cl (S 99 5) (S 111) (S 113) ov bh (S 99 8) (S 112)) R Q
        refine w_cv rfl (by decide) mt_X12_begins v_tyM rfl rfl rfl (Nat.le_of_ble_eq_true rfl) (Nat.le_of_ble_eq_true rfl) (Nat.le_of_ble_eq_true rfl) ?_
        show w_T L xs _ m_X12_begins 0 (lv_args 0 [.ref 100, .int n]) [] (p_S S pl cs sk cl (S 99 5) (S 111) (S 113) ov bh (S 99 8) (S 112)) R _
        refine h_begins _ ?_
        have hT1 : v_Tb v_ty (p_bg S n) R := w_TbF (w_TbF hT v_tyM rfl (by decide) (by decide)) v_tyM rfl (by show (0 : Int) ≤ n.toInt; omega) (by show n.toInt ≤ (260 : Int); omega)
        obtain ⟨nm, om, bg, ht⟩ := t_of hT1
        refine w_eqS (p_in ht) ?_
        show w_T L xs (3 + 3) m_X12_timetable 34 [(0, .ref 100), (1, .int w), (2, .int n)] [] (p_S (t_S (p_bg S n) nm om bg (p_bg S n 133) (p_bg S n 134) (p_bg S n 135) (p_bg S n 136)) 0 cs sk cl (Int32.ofInt 0) (S 111) (S 113) ov bh (S 99 8) (S 112)) R Q
        refine w_st rfl (fun _ => rfl) ?_
        refine w_st rfl (fun _ => rfl) ?_
        show w_T L xs (3 + 3) m_X12_timetable 36 [(0, .ref 100), (1, .int w), (2, .int n)] [.int (Int32.ofInt 0), .ref 100] (p_S (t_S (p_bg S n) nm om bg (p_bg S n 133) (p_bg S n 134) (p_bg S n 135) (p_bg S n 136)) 0 cs sk cl (Int32.ofInt 0) (S 111) (S 113) ov bh (S 99 8) (S 112)) R Q
        refine w_put rfl v_tyM rfl rfl rfl ?_
        refine w_eqS (p_wo99 (by decide)) ?_
        refine w_eqS (p_in (t_wnm (k := 0) rfl)) ?_
        refine w_st rfl (fun _ => rfl) ?_
        refine w_st rfl (fun _ => rfl) ?_
        show w_T L xs (3 + 3) m_X12_timetable 41 [(0, .ref 100), (1, .int w), (2, .int n)] [.int (Int32.ofInt 0), .ref 100] (p_S (t_S (p_bg S n) 0 om bg (p_bg S n 133) (p_bg S n 134) (p_bg S n 135) (p_bg S n 136)) 0 cs sk cl (Int32.ofInt 0) (S 111) (S 113) ov bh (S 99 8) (S 112)) R Q
        refine w_put rfl v_tyM rfl rfl rfl ?_
        refine w_eqS (p_wo99 (by decide)) ?_
        refine w_eqS (p_in (t_wom (k := 0) rfl)) ?_
        refine w_st rfl (fun _ => rfl) ?_
        refine w_st rfl (fun _ => rfl) ?_
        show w_T L xs (3 + 3) m_X12_timetable 46 [(0, .ref 100), (1, .int w), (2, .int n)] [.int (Int32.ofInt 0), .ref 100] (p_S (t_S (p_bg S n) 0 0 bg (p_bg S n 133) (p_bg S n 134) (p_bg S n 135) (p_bg S n 136)) 0 cs sk cl (Int32.ofInt 0) (S 111) (S 113) ov bh (S 99 8) (S 112)) R Q
        refine w_put rfl v_tyM rfl rfl rfl ?_
        refine w_eqS (p_wo99 (by decide)) ?_
        refine w_eqS (p_in (t_wbg (b := false) rfl)) ?_
        show w_T L xs (3 + 3) m_X12_timetable 49 [(0, .ref 100), (1, .int w), (2, .int n)] [] (p_S (t_S (p_bg S n) 0 0 false (p_bg S n 133) (p_bg S n 134) (p_bg S n 135) (p_bg S n 136)) 0 cs sk cl (Int32.ofInt 0) (S 111) (S 113) ov bh (S 99 8) (S 112)) R Q
        have he : (p_bg S n 99 4).toInt ≤ 240 := by rw [p_bg4]; omega
        have htp : ∀ j, j < 260 → -128 ≤ (p_bg S n 100 j).toInt ∧ (p_bg S n 100 j).toInt ≤ 127 := fun j hj => hT1 100 _ (show v_ty 100 = some (.inl (1, 260, (-128), 127)) from rfl) j hj
        have hM0 : t_M 0 0 (p_bg S n 133) (p_bg S n 134) (p_bg S n 135) (p_bg S n 136) := ⟨by omega, by omega, fun j hj => hT1 133 _ (show v_ty 133 = some (.inl (0, 48, (-1), 9)) from rfl) j hj, fun j hj => ⟨(hT1 134 _ (show v_ty 134 = some (.inl (0, 2, 0, 48)) from rfl) j hj).1, (hT1 134 _ (show v_ty 134 = some (.inl (0, 2, 0, 48)) from rfl) j hj).2, (hT1 135 _ (show v_ty 135 = some (.inl (0, 2, 0, 9)) from rfl) j hj).1, (hT1 135 _ (show v_ty 135 = some (.inl (0, 2, 0, 9)) from rfl) j hj).2⟩, fun j hj => absurd hj (by omega)⟩
        refine h_ttL he htp (fun pl' nm' om' g' nt' fo' ot' pp' x1 x2 => ?_) (fun pl' nm' om' b' g' nt' fo' ot' pp' x0 x1 x2 => ?_) 240 0 0 0 false _ _ _ _ (by omega) (by omega) hM0
        · obtain ⟨ww, rfl, hww⟩ : ∃ ww : Nat, w = Int32.ofInt (ww : Int) ∧ ww ≤ 5 := ⟨_, p_nof hw.1, by omega⟩
          refine w_st rfl (fun _ => rfl) ?_
          refine w_st rfl (fun _ => rfl) ?_
          refine h_tc hww x2 (fun T1 y1 y2 => ?_) nm' 0 _ (by omega) hT1 (fun _ _ _ _ _ => rfl)
          obtain ⟨z1, z2, z3⟩ := t_fin (R := R) hS hb2 hsk hb3 x1 hO y1 y2 x2
          exact hq _ _ z1 z2 z3
        · obtain ⟨z1, z2, z3⟩ := t_fin (R := R) (n := n) hS hb2 hsk hb3 x1 hO hT1 (fun _ _ _ _ _ => rfl) x2
          exact hq _ _ z1 z2 z3
      · refine w_st rfl (fun _ => rfl) ?_
        show w_T L xs (3 + 3) m_X12_timetable 28 [(0, .ref 100), (1, .int w), (2, .int n)] [.int (Int32.ofInt (-1))] (p_S S pl cs sk cl (S 99 5) (S 111) (S 113) ov bh (S 99 8) (S 112)) R Q
        refine w_ret rfl (by rfl) ?_
        exact hq0 _
    · rw [if_neg hd]
      show w_T L xs (3 + 3) m_X12_timetable 16 [(0, .ref 100), (1, .int w), (2, .int n)] [.int (Int32.ofInt 0)] (p_S S pl cs sk cl (S 99 5) (S 111) (S 113) ov bh (S 99 8) (S 112)) R Q
      refine w_st rfl (fun _ => rfl) ?_
      refine w_st rfl (fun _ => rfl) ?_
      show w_T L xs (3 + 3) m_X12_timetable 28 [(0, .ref 100), (1, .int w), (2, .int n)] [.int (Int32.ofInt (-1))] (p_S S pl cs sk cl (S 99 5) (S 111) (S 113) ov bh (S 99 8) (S 112)) R Q
      refine w_ret rfl (by rfl) ?_
      exact hq0 _
  · show w_T L xs (3 + 3) m_X12_timetable 4 [(0, .ref 100), (1, .int w), (2, .int n)] [.int (Int32.ofInt 0)] (p_S S pl cs sk cl (S 99 5) (S 111) (S 113) ov bh (S 99 8) (S 112)) R Q
    refine w_st rfl (fun _ => rfl) ?_
    refine w_st rfl (fun _ => rfl) ?_
    show w_T L xs (3 + 3) m_X12_timetable 28 [(0, .ref 100), (1, .int w), (2, .int n)] [.int (Int32.ofInt (-1))] (p_S S pl cs sk cl (S 99 5) (S 111) (S 113) ov bh (S 99 8) (S 112)) R Q
    refine w_ret rfl (by rfl) ?_
    exact hq0 _
end Prt39l
section Prt39m
/-! the class reads a timetable -/
noncomputable abbrev m_X5_here : g_M := (g_cn 5, yX5_here, cX5_here, 1, (some .int), g_look2 ttX5_here)
set_option maxRecDepth 20000 in
theorem mt_X5_here : g_mt 63 = some m_X5_here := rfl
noncomputable abbrev m_X8_at : g_M := (g_cn 8, yX8_at, cX8_at, 2, (some .int), g_look2 ttX8_at)
set_option maxRecDepth 20000 in
theorem mt_X8_at : g_mt 97 = some m_X8_at := rfl
noncomputable abbrev m_X5_fail : g_M := (g_cn 5, yX5_fail, cX5_fail, 3, none, g_look2 ttX5_fail)
set_option maxRecDepth 20000 in
theorem mt_X5_fail : g_mt 64 = some m_X5_fail := rfl
noncomputable abbrev m_X5_expect : g_M := (g_cn 5, yX5_expect, cX5_expect, 2, none, g_look2 ttX5_expect)
set_option maxRecDepth 20000 in
theorem mt_X5_expect : g_mt 65 = some m_X5_expect := rfl
noncomputable abbrev m_X5_readMonths : g_M := (g_cn 5, yX5_readMonths, cX5_readMonths, 3, none, g_look2 ttX5_readMonths)
set_option maxRecDepth 20000 in
theorem mt_X5_readMonths : g_mt 78 = some m_X5_readMonths := rfl
noncomputable abbrev m_X5_readMonth : g_M := (g_cn 5, yX5_readMonth, cX5_readMonth, 6, none, g_look2 ttX5_readMonth)
set_option maxRecDepth 20000 in
theorem mt_X5_readMonth : g_mt 79 = some m_X5_readMonth := rfl
noncomputable abbrev m_X5_readGroup : g_M := (g_cn 5, yX5_readGroup, cX5_readGroup, 2, none, g_look2 ttX5_readGroup)
set_option maxRecDepth 20000 in
theorem mt_X5_readGroup : g_mt 80 = some m_X5_readGroup := rfl
noncomputable abbrev m_X5_writeMonth : g_M := (g_cn 5, yX5_writeMonth, cX5_writeMonth, 2, none, g_look2 ttX5_writeMonth)
set_option maxRecDepth 20000 in
theorem mt_X5_writeMonth : g_mt 81 = some m_X5_writeMonth := rfl
noncomputable abbrev m_X5_repeat : g_M := (g_cn 5, yX5_repeat, cX5_repeat, 7, none, g_look2 ttX5_repeat)
set_option maxRecDepth 20000 in
theorem mt_X5_repeat : g_mt 82 = some m_X5_repeat := rfl
noncomputable abbrev m_X5_begin : g_M := (g_cn 5, yX5_begin, cX5_begin, 2, none, g_look2 ttX5_begin)
set_option maxRecDepth 20000 in
theorem mt_X5_begin : g_mt 62 = some m_X5_begin := rfl
noncomputable abbrev m_X5_readTimetable : g_M := (g_cn 5, yX5_readTimetable, cX5_readTimetable, 2, (some .int), g_look2 ttX5_readTimetable)
set_option maxRecDepth 20000 in
theorem mt_X5_readTimetable : g_mt 61 = some m_X5_readTimetable := rfl
noncomputable abbrev m_X1_clear : g_M := (g_cn 1, yX1_clear, cX1_clear, 1, none, g_look2 ttX1_clear)
set_option maxRecDepth 20000 in
theorem mt_X1_clear : g_mt 13 = some m_X1_clear := rfl
noncomputable def u_S (S0 : v_Sf) (mo : Nat) (ta te tf : Int32) (le : Nat → Int32) : v_Sf := fun a j =>
  bif Nat.beq a 66 then (bif Nat.beq j 3 then Int32.ofInt (mo : Int) else bif Nat.beq j 4 then ta else bif Nat.beq j 5 then te else bif Nat.beq j 6 then tf else S0 66 j) else bif Nat.beq a 74 && Nat.blt j 49 then le j else S0 a j
section UW
variable {S0 : v_Sf} {mo : Nat} {ta te tf : Int32} {le : Nat → Int32}
theorem u_wmo {v : Int32} {k : Nat} (hv : v = Int32.ofInt (k : Int)) : v_ur (u_S S0 mo ta te tf le) 66 (upd ((u_S S0 mo ta te tf le) 66) 3 v) = u_S S0 k ta te tf le := by
  refine p_ext hv.symm (fun a' j' h => ?_)
  unfold u_S
  by_cases ha : a' = 66
  · have hj : ¬ j' = 3 := fun e => h ⟨ha, e⟩
    rw [ha, p_bq hj]
    rfl
  · rw [p_bq ha]
    rfl
theorem u_wta {v : Int32} : v_ur (u_S S0 mo ta te tf le) 66 (upd ((u_S S0 mo ta te tf le) 66) 4 v) = u_S S0 mo v te tf le := by
  refine p_ext rfl (fun a' j' h => ?_)
  unfold u_S
  by_cases ha : a' = 66
  · have hj : ¬ j' = 4 := fun e => h ⟨ha, e⟩
    rw [ha, p_bq hj]
    rfl
  · rw [p_bq ha]
    rfl
theorem u_wte {v : Int32} : v_ur (u_S S0 mo ta te tf le) 66 (upd ((u_S S0 mo ta te tf le) 66) 5 v) = u_S S0 mo ta v tf le := by
  refine p_ext rfl (fun a' j' h => ?_)
  unfold u_S
  by_cases ha : a' = 66
  · have hj : ¬ j' = 5 := fun e => h ⟨ha, e⟩
    rw [ha, p_bq hj]
    rfl
  · rw [p_bq ha]
    rfl
theorem u_wtf {v : Int32} : v_ur (u_S S0 mo ta te tf le) 66 (upd ((u_S S0 mo ta te tf le) 66) 6 v) = u_S S0 mo ta te v le := by
  refine p_ext rfl (fun a' j' h => ?_)
  unfold u_S
  by_cases ha : a' = 66
  · have hj : ¬ j' = 6 := fun e => h ⟨ha, e⟩
    rw [ha, p_bq hj]
    rfl
  · rw [p_bq ha]
    rfl
theorem u_rle {k : Nat} (hk : k < 49) : (u_S S0 mo ta te tf le) 74 k = le k := by
  unfold u_S
  rw [p_blt hk]
  rfl
theorem u_wle {i k : Nat} {v : Int32} (hi : i = k) (hk : k < 49) : v_ur (u_S S0 mo ta te tf le) 74 (upd ((u_S S0 mo ta te tf le) 74) i v) = u_S S0 mo ta te tf (upd le k v) := by
  subst hi
  refine p_ext ?_ (fun a' j' h => ?_)
  · unfold u_S
    rw [p_blt hk]
    show upd le i v i = v
    simp [upd]
  · unfold u_S
    by_cases ha : a' = 74
    · have hj : ¬ j' = i := fun e => h ⟨ha, e⟩
      have e : upd le i v j' = le j' := by simp [upd, hj]
      rw [e]
    · rw [p_bq ha]
      rfl
theorem u_at {a j : Nat} (h1 : a = 66 → ¬ j = 3 ∧ ¬ j = 4 ∧ ¬ j = 5 ∧ ¬ j = 6) (h2 : a = 74 → ¬ j < 49) : (u_S S0 mo ta te tf le) a j = S0 a j := by
  unfold u_S
  by_cases ha : a = 66
  · obtain ⟨y1, y2, y3, y4⟩ := h1 ha
    rw [p_bq y1, p_bq y2, p_bq y3, p_bq y4, ha]
    rfl
  · rw [p_bq ha]
    by_cases hr : a = 74
    · rw [p_blf (h2 hr), Bool.and_false]
      rfl
    · rw [p_bq hr]
      rfl
noncomputable def v_fsR : List v_Ft := [.inr (.inl 46), .inr (.inr [53, 60, 68]), .inr (.inl 75), .inl (0, 49), .inl ((-2147483648), 2147483647), .inl ((-2147483648), 2147483647), .inl ((-2147483648), 2147483647)]
theorem v_tyR : v_ty 66 = some (.inr (.inr (5, v_fsR))) := rfl
theorem u_Tb {R : v_Rf} (hT : v_Tb v_ty S0 R) (h1 : mo ≤ 49) : v_Tb v_ty (u_S S0 mo ta te tf le) R := by
  intro a c hc
  by_cases ha : a = 66
  · subst ha
    rw [v_tyR] at hc
    cases hc
    intro j ft hj
    by_cases y1 : j = 3
    · subst y1
      cases (Option.some.inj (show some (.inl (0, 49)) = some ft from hj))
      exact ⟨by show (0 : Int) ≤ (Int32.ofInt (mo : Int)).toInt; rw [w_nat (by omega)]; omega, by show (Int32.ofInt (mo : Int)).toInt ≤ (49 : Int); rw [w_nat (by omega)]; omega⟩
    · by_cases y2 : j = 4 ∨ j = 5 ∨ j = 6
      · have e : ft = .inl ((-2147483648), 2147483647) := by
          rcases y2 with rfl | rfl | rfl <;> exact (Option.some.inj (show some (.inl ((-2147483648), 2147483647)) = some ft from hj)).symm
        subst e
        exact q_rng _
      · exact p_TF (u_at (fun _ => by omega) (fun h => by omega)) (hT 66 _ v_tyR j ft hj)
  · by_cases h2 : a = 74
    · subst h2
      cases (Option.some.inj ((show v_ty 74 = some (.inl (0, 49, (-2147483648), 2147483647)) from rfl).symm.trans hc))
      exact fun j _ => q_rng _
    · exact p_TC (fun j => u_at (fun h => absurd h ha) (fun h => absurd h h2)) (hT a c hc)
theorem u_of {R : v_Rf} {S : v_Sf} (hT : v_Tb v_ty S R) : ∃ mo : Nat, S = u_S S mo (S 66 4) (S 66 5) (S 66 6) (S 74) := by
  have h3 : 0 ≤ (S 66 3).toInt ∧ (S 66 3).toInt ≤ 49 := hT 66 _ v_tyR 3 _ rfl
  refine ⟨(S 66 3).toInt.toNat, ?_⟩
  funext a j
  by_cases ha : a = 66
  · subst ha
    by_cases y1 : j = 3
    · subst y1; exact p_nof h3.1
    · by_cases y2 : j = 4
      · subst y2; rfl
      · by_cases y3 : j = 5
        · subst y3; rfl
        · by_cases y4 : j = 6
          · subst y4; rfl
          · exact (u_at (fun _ => ⟨y1, y2, y3, y4⟩) (fun h => by omega)).symm
  · by_cases g : a = 74 ∧ j < 49
    · rw [g.1]; exact (u_rle g.2).symm
    · exact (u_at (fun h => absurd h ha) (fun h => by omega)).symm
end UW
section UH
variable {L : Nat} {xs : Nat → Int32} {d : Nat} {R : v_Rf} {Q : Option Value → v_Sf → v_Rf → Prop} {S0 : v_Sf} {mo : Nat} {ta te tf : Int32} {le : Nat → Int32}
theorem w_al {M : g_M} {pc : Nat} {lc : g_Lc} {S : v_Sf} {len x y a n tg : Nat} {z : Int} {b : Int × Int} {t : List Value} (hen : M.2.2.2.2.2 pc = some ((.arraylength, len), x, y, z)) (hg : v_ty a = some (.inl (tg, n, b))) (ht : decide (tg < 4) = true) (k : w_T L xs d M (pc + len) lc (.int (Int32.ofNat n) :: t) S R Q) : w_T L xs d M pc lc (.ref (a + 1) :: t) S R Q := by
  refine w_one hen ?_ k
  refine g_st_hp (en := ((.arraylength, len), x, y, z)) rfl rfl rfl (q := (.int (Int32.ofNat n) :: t, v_mk v_ty S R)) ?_
  have g1 := w_ty hg S R
  simp only [g_hp, g_al, g1, v_cell]
  rw [if_pos (of_decide_eq_true ht)]
theorem w_getv {M : g_M} {pc : Nat} {lc : g_Lc} {S : v_Sf} {i len ci y a c : Nat} {z : Int} {fs : List v_Ft} {l : List Nat} {t : List Value} (hen : M.2.2.2.2.2 pc = some ((.getfield i, len), ci, y, z)) (hg : v_ty a = some (.inr (.inr (ci, fs)))) (hf : fs[y]? = some (.inr (.inr l))) (hR : R a y = some c) (k : w_T L xs d M (pc + len) lc (.ref c :: t) S R Q) : w_T L xs d M pc lc (.ref (a + 1) :: t) S R Q := by
  refine w_one hen ?_ k
  refine g_st_hp (en := ((.getfield i, len), ci, y, z)) rfl rfl rfl (q := (.ref c :: t, v_mk v_ty S R)) ?_
  have g1 := w_ty hg S R
  have g2 := v_fs_at (S := S) (R := R) (a := a) hf
  simp only [g_hp, g_gf, g1, v_cell, beq_self_eq_true, cond_true, g2]
  simp only [v_fv, hR]
  rfl
noncomputable def x_h (S0 : v_Sf) (ta te : Int32) : Int32 := if ta.toInt < te.toInt then (if 0 ≤ ta.toInt ∧ ta.toInt < (S0 45 1).toInt then S0 46 ta.toInt.toNat else Int32.ofInt (-1)) else Int32.ofInt (-1)
theorem x_at (S : v_Sf) (k : Int32) (hs : (S 45 1).toInt ≤ 260) (hq : Q (some (.int (if 0 ≤ k.toInt ∧ k.toInt < (S 45 1).toInt then S 46 k.toInt.toNat else Int32.ofInt (-1)))) S R) : w_T L xs d m_X8_at 0 (lv_args 0 [.ref 46, .int k]) [] S R Q := by
  have z0 : (0 : Int32).toInt = 0 := rfl
  refine w_st rfl (fun _ => rfl) ?_
  show w_T L xs d m_X8_at 1 [(0, .ref 46), (1, .int k)] [.int k] S R Q
  refine w_br (P := k < 0) rfl (fun _ => rfl) (fun h1 => ?_) (fun h1 => ?_)
  · rw [if_neg (fun h => by rw [q_lt32] at h1; omega)] at hq
    refine w_st rfl (fun _ => rfl) ?_
    show w_T L xs d m_X8_at 22 [(0, .ref 46), (1, .int k)] [.int (Int32.ofInt (-1))] S R Q
    refine w_ret rfl (by rfl) ?_
    exact hq
  · refine w_st rfl (fun _ => rfl) ?_
    refine w_st rfl (fun _ => rfl) ?_
    show w_T L xs d m_X8_at 6 [(0, .ref 46), (1, .int k)] [.ref 46, .int k] S R Q
    refine w_get rfl rfl rfl ?_
    show w_T L xs d m_X8_at 9 [(0, .ref 46), (1, .int k)] [.int (S 45 1), .int k] S R Q
    refine w_br (P := (S 45 1) ≤ k) rfl (fun _ => rfl) (fun h9 => ?_) (fun h9 => ?_)
    · rw [if_neg (fun h => by rw [q_le32] at h9; omega)] at hq
      refine w_st rfl (fun _ => rfl) ?_
      show w_T L xs d m_X8_at 22 [(0, .ref 46), (1, .int k)] [.int (Int32.ofInt (-1))] S R Q
      refine w_ret rfl (by rfl) ?_
      exact hq
    · rw [if_pos (by rw [q_lt32] at h1; rw [q_le32] at h9; omega)] at hq
      refine w_st rfl (fun _ => rfl) ?_
      show w_T L xs d m_X8_at 13 [(0, .ref 46), (1, .int k)] [.ref 46] S R Q
      refine w_getr rfl rfl rfl ?_
      refine w_st rfl (fun _ => rfl) ?_
      show w_T L xs d m_X8_at 17 [(0, .ref 46), (1, .int k)] [.int k, .ref 47] S R Q
      refine w_iald rfl rfl (by rw [q_lt32, z0] at h1; rw [q_le32] at h9; omega) (by rw [q_lt32, z0] at h1; rw [q_le32] at h9; omega) ?_
      refine w_st rfl (fun _ => rfl) ?_
      show w_T L xs d m_X8_at 22 [(0, .ref 46), (1, .int k)] [.int (S 46 k.toInt.toNat)] S R Q
      refine w_ret rfl (by rfl) ?_
      exact hq
theorem x_here (hs : (S0 45 1).toInt ≤ 260) (hq : Q (some (.int (x_h S0 ta te))) (u_S S0 mo ta te tf le) R) : w_T L xs (d + 1) m_X5_here 0 (lv_args 0 [.ref 67]) [] (u_S S0 mo ta te tf le) R Q := by
  refine w_st rfl (fun _ => rfl) ?_
  show w_T L xs (d + 1) m_X5_here 1 [(0, .ref 67)] [.ref 67] (u_S S0 mo ta te tf le) R Q
  refine w_get rfl rfl rfl ?_
  refine w_st rfl (fun _ => rfl) ?_
  show w_T L xs (d + 1) m_X5_here 5 [(0, .ref 67)] [.ref 67, .int ta] (u_S S0 mo ta te tf le) R Q
  refine w_get rfl rfl rfl ?_
  show w_T L xs (d + 1) m_X5_here 8 [(0, .ref 67)] [.int te, .int ta] (u_S S0 mo ta te tf le) R Q
  refine w_br (P := te ≤ ta) rfl (fun _ => rfl) (fun h8 => ?_) (fun h8 => ?_)
  · have hh : x_h S0 ta te = Int32.ofInt (-1) := if_neg (by rw [q_le32] at h8; omega)
    refine w_st rfl (fun _ => rfl) ?_
    show w_T L xs (d + 1) m_X5_here 26 [(0, .ref 67)] [.int (Int32.ofInt (-1))] (u_S S0 mo ta te tf le) R Q
    refine w_ret rfl (by rfl) ?_
    rw [hh] at hq; exact hq
  · have hh : x_h S0 ta te = (if 0 ≤ ta.toInt ∧ ta.toInt < (S0 45 1).toInt then S0 46 ta.toInt.toNat else Int32.ofInt (-1)) := if_pos (by rw [q_le32] at h8; omega)
    refine w_st rfl (fun _ => rfl) ?_
    show w_T L xs (d + 1) m_X5_here 12 [(0, .ref 67)] [.ref 67] (u_S S0 mo ta te tf le) R Q
    refine w_getr rfl rfl rfl ?_
    refine w_st rfl (fun _ => rfl) ?_
    show w_T L xs (d + 1) m_X5_here 16 [(0, .ref 67)] [.ref 67, .ref 46] (u_S S0 mo ta te tf le) R Q
    refine w_get rfl rfl rfl ?_
    show w_T L xs (d + 1) m_X5_here 19 [(0, .ref 67)] [.int ta, .ref 46] (u_S S0 mo ta te tf le) R Q
    refine w_cv rfl (by decide) mt_X8_at rfl rfl rfl rfl (Nat.le_of_ble_eq_true rfl) (Nat.le_of_ble_eq_true rfl) (Nat.le_of_ble_eq_true rfl) ?_
    show w_T L xs _ m_X8_at 0 (lv_args 0 [.ref 46, .int ta]) [] (u_S S0 mo ta te tf le) R _
    refine x_at _ _ hs ?_
    refine w_st rfl (fun _ => rfl) ?_
    show w_T L xs (d + 1) m_X5_here 26 [(0, .ref 67)] [.int ((if 0 ≤ ta.toInt ∧ ta.toInt < (S0 45 1).toInt then S0 46 ta.toInt.toNat else Int32.ofInt (-1)))] (u_S S0 mo ta te tf le) R Q
    refine w_ret rfl (by rfl) ?_
    rw [hh] at hq; exact hq
theorem x_fail {f w : Int32} (hq : ∀ e' f', Q none (u_S S0 mo ta (e') (f') le) R) : w_T L xs d m_X5_fail 0 (lv_args 0 [.ref 67, .int f, .int w]) [] (u_S S0 mo ta te tf le) R Q := by
  refine w_st rfl (fun _ => rfl) ?_
  show w_T L xs d m_X5_fail 1 [(0, .ref 67), (1, .int f), (2, .int w)] [.ref 67] (u_S S0 mo ta te tf le) R Q
  refine w_get rfl rfl rfl ?_
  show w_T L xs d m_X5_fail 4 [(0, .ref 67), (1, .int f), (2, .int w)] [.int tf] (u_S S0 mo ta te tf le) R Q
  refine w_br (P := ¬ tf = 0) rfl (fun _ => rfl) (fun h4 => ?_) (fun h4 => ?_)
  · refine w_ret rfl rfl ?_
    exact hq _ _
  · refine w_st rfl (fun _ => rfl) ?_
    refine w_st rfl (fun _ => rfl) ?_
    refine w_st rfl (fun _ => rfl) ?_
    refine w_st rfl (fun _ => rfl) ?_
    refine w_st rfl (fun _ => rfl) ?_
    refine w_st rfl (fun _ => rfl) ?_
    show w_T L xs d m_X5_fail 15 [(0, .ref 67), (1, .int f), (2, .int w)] [.int (((Int32.ofInt (-1000)) * f) - w), .ref 67] (u_S S0 mo ta te tf le) R Q
    refine w_put rfl rfl rfl rfl rfl ?_
    refine w_eqS u_wtf ?_
    refine w_st rfl (fun _ => rfl) ?_
    refine w_st rfl (fun _ => rfl) ?_
    show w_T L xs d m_X5_fail 20 [(0, .ref 67), (1, .int f), (2, .int w)] [.ref 67, .ref 67] (u_S S0 mo ta te (((Int32.ofInt (-1000)) * f) - w) le) R Q
    refine w_get rfl rfl rfl ?_
    show w_T L xs d m_X5_fail 23 [(0, .ref 67), (1, .int f), (2, .int w)] [.int ta, .ref 67] (u_S S0 mo ta te (((Int32.ofInt (-1000)) * f) - w) le) R Q
    refine w_put rfl rfl rfl rfl rfl ?_
    refine w_eqS u_wte ?_
    show w_T L xs d m_X5_fail 26 [(0, .ref 67), (1, .int f), (2, .int w)] [] (u_S S0 mo ta ta (((Int32.ofInt (-1000)) * f) - w) le) R Q
    refine w_ret rfl rfl ?_
    exact hq _ _
theorem x_expect {c : Int32} (hs : (S0 45 1).toInt ≤ 260) (hq : ∀ a' e' f', Q none (u_S S0 mo (a') (e') (f') le) R) : w_T L xs (d + 2) m_X5_expect 0 (lv_args 0 [.ref 67, .int c]) [] (u_S S0 mo ta te tf le) R Q := by
  refine w_st rfl (fun _ => rfl) ?_
  show w_T L xs (d + 2) m_X5_expect 1 [(0, .ref 67), (1, .int c)] [.ref 67] (u_S S0 mo ta te tf le) R Q
  refine w_cv rfl (by decide) mt_X5_here rfl rfl rfl rfl (Nat.le_of_ble_eq_true rfl) (Nat.le_of_ble_eq_true rfl) (Nat.le_of_ble_eq_true rfl) ?_
  show w_T L xs _ m_X5_here 0 (lv_args 0 [.ref 67]) [] (u_S S0 mo ta te tf le) R _
  refine x_here hs ?_
  refine w_st rfl (fun _ => rfl) ?_
  show w_T L xs (d + 2) m_X5_expect 5 [(0, .ref 67), (1, .int c)] [.int c, .int (x_h S0 ta te)] (u_S S0 mo ta te tf le) R Q
  refine w_br (P := ¬ (x_h S0 ta te) = c) rfl (fun _ => rfl) (fun h5 => ?_) (fun h5 => ?_)
  · refine w_st rfl (fun _ => rfl) ?_
    refine w_st rfl (fun _ => rfl) ?_
    refine w_st rfl (fun _ => rfl) ?_
    show w_T L xs (d + 2) m_X5_expect 24 [(0, .ref 67), (1, .int c)] [.ref 67, .int (Int32.ofInt 1), .ref 67] (u_S S0 mo ta te tf le) R Q
    refine w_get rfl rfl rfl ?_
    show w_T L xs (d + 2) m_X5_expect 27 [(0, .ref 67), (1, .int c)] [.int ta, .int (Int32.ofInt 1), .ref 67] (u_S S0 mo ta te tf le) R Q
    refine w_cv rfl (by decide) mt_X5_fail rfl rfl rfl rfl (Nat.le_of_ble_eq_true rfl) (Nat.le_of_ble_eq_true rfl) (Nat.le_of_ble_eq_true rfl) ?_
    show w_T L xs _ m_X5_fail 0 (lv_args 0 [.ref 67, .int (Int32.ofInt 1), .int ta]) [] (u_S S0 mo ta te tf le) R _
    refine x_fail (fun e27 f27 => ?_)
    show w_T L xs (d + 2) m_X5_expect 30 [(0, .ref 67), (1, .int c)] [] (u_S S0 mo ta e27 f27 le) R Q
    refine w_ret rfl rfl ?_
    exact hq _ _ _
  · refine w_st rfl (fun _ => rfl) ?_
    refine w_st rfl (fun _ => rfl) ?_
    show w_T L xs (d + 2) m_X5_expect 10 [(0, .ref 67), (1, .int c)] [.ref 67, .ref 67] (u_S S0 mo ta te tf le) R Q
    refine w_get rfl rfl rfl ?_
    refine w_st rfl (fun _ => rfl) ?_
    refine w_st rfl (fun _ => rfl) ?_
    show w_T L xs (d + 2) m_X5_expect 15 [(0, .ref 67), (1, .int c)] [.int (ta + (Int32.ofInt 1)), .ref 67] (u_S S0 mo ta te tf le) R Q
    refine w_put rfl rfl rfl rfl rfl ?_
    refine w_eqS u_wta ?_
    refine w_st rfl (fun _ => rfl) ?_
    show w_T L xs (d + 2) m_X5_expect 30 [(0, .ref 67), (1, .int c)] [] (u_S S0 mo (ta + (Int32.ofInt 1)) te tf le) R Q
    refine w_ret rfl rfl ?_
    exact hq _ _ _
theorem x_write {c : Int32} (hm : mo ≤ 49) (hq : ∀ a' m' l', mo ≤ m' → m' ≤ 49 → Q none (u_S S0 (m') (a') te tf (l')) R) : w_T L xs d m_X5_writeMonth 0 (lv_args 0 [.ref 67, .int c]) [] (u_S S0 mo ta te tf le) R Q := by
  have em := w_nat (k := mo) (by omega)
  have e49 : (Int32.ofInt 49).toInt = 49 := by decide
  refine w_st rfl (fun _ => rfl) ?_
  refine w_st rfl (fun _ => rfl) ?_
  show w_T L xs d m_X5_writeMonth 2 [(0, .ref 67), (1, .int c)] [.ref 67, .ref 67] (u_S S0 mo ta te tf le) R Q
  refine w_get rfl rfl rfl ?_
  refine w_st rfl (fun _ => rfl) ?_
  refine w_st rfl (fun _ => rfl) ?_
  show w_T L xs d m_X5_writeMonth 7 [(0, .ref 67), (1, .int c)] [.int (ta + (Int32.ofInt 1)), .ref 67] (u_S S0 mo ta te tf le) R Q
  refine w_put rfl rfl rfl rfl rfl ?_
  refine w_eqS u_wta ?_
  refine w_st rfl (fun _ => rfl) ?_
  show w_T L xs d m_X5_writeMonth 11 [(0, .ref 67), (1, .int c)] [.ref 67] (u_S S0 mo (ta + (Int32.ofInt 1)) te tf le) R Q
  refine w_get rfl rfl rfl ?_
  refine w_st rfl (fun _ => rfl) ?_
  show w_T L xs d m_X5_writeMonth 15 [(0, .ref 67), (1, .int c)] [.ref 67, .int (Int32.ofInt (mo : Int))] (u_S S0 mo (ta + (Int32.ofInt 1)) te tf le) R Q
  refine w_getr rfl rfl rfl ?_
  show w_T L xs d m_X5_writeMonth 18 [(0, .ref 67), (1, .int c)] [.ref 75, .int (Int32.ofInt (mo : Int))] (u_S S0 mo (ta + (Int32.ofInt 1)) te tf le) R Q
  refine w_al rfl rfl rfl ?_
  show w_T L xs d m_X5_writeMonth 19 [(0, .ref 67), (1, .int c)] [.int (Int32.ofInt 49), .int (Int32.ofInt (mo : Int))] (u_S S0 mo (ta + (Int32.ofInt 1)) te tf le) R Q
  refine w_br (P := (Int32.ofInt 49) ≤ (Int32.ofInt (mo : Int))) rfl (fun _ => rfl) (fun h19 => ?_) (fun h19 => ?_)
  · refine w_ret rfl rfl ?_
    exact hq _ _ _ (by omega) (by omega)
  · have hlt : mo < 49 := by
      rw [q_le32, em, e49] at h19
      omega
    refine w_st rfl (fun _ => rfl) ?_
    show w_T L xs d m_X5_writeMonth 23 [(0, .ref 67), (1, .int c)] [.ref 67] (u_S S0 mo (ta + (Int32.ofInt 1)) te tf le) R Q
    refine w_getr rfl rfl rfl ?_
    refine w_st rfl (fun _ => rfl) ?_
    show w_T L xs d m_X5_writeMonth 27 [(0, .ref 67), (1, .int c)] [.ref 67, .ref 75] (u_S S0 mo (ta + (Int32.ofInt 1)) te tf le) R Q
    refine w_get rfl rfl rfl ?_
    refine w_st rfl (fun _ => rfl) ?_
    show w_T L xs d m_X5_writeMonth 31 [(0, .ref 67), (1, .int c)] [.int c, .int (Int32.ofInt (mo : Int)), .ref 75] (u_S S0 mo (ta + (Int32.ofInt 1)) te tf le) R Q
    refine w_iast rfl rfl (by rw [w_nat (by omega)]; omega) (by rw [w_nat (by omega)]; omega) ?_
    refine w_eqS (u_wle (w_natn (by omega)) (by omega)) ?_
    refine w_st rfl (fun _ => rfl) ?_
    refine w_st rfl (fun _ => rfl) ?_
    show w_T L xs d m_X5_writeMonth 34 [(0, .ref 67), (1, .int c)] [.ref 67, .ref 67] (u_S S0 mo (ta + (Int32.ofInt 1)) te tf (upd le mo c)) R Q
    refine w_get rfl rfl rfl ?_
    refine w_st rfl (fun _ => rfl) ?_
    refine w_st rfl (fun _ => rfl) ?_
    show w_T L xs d m_X5_writeMonth 39 [(0, .ref 67), (1, .int c)] [.int ((Int32.ofInt (mo : Int)) + (Int32.ofInt 1)), .ref 67] (u_S S0 mo (ta + (Int32.ofInt 1)) te tf (upd le mo c)) R Q
    refine w_put rfl rfl rfl rfl rfl ?_
    refine w_eqS (u_wmo (w_inc _)) ?_
    show w_T L xs d m_X5_writeMonth 42 [(0, .ref 67), (1, .int c)] [] (u_S S0 (mo + 1) (ta + (Int32.ofInt 1)) te tf (upd le mo c)) R Q
    refine w_ret rfl rfl ?_
    exact hq _ _ _ (by omega) (by omega)
theorem x_rp1 {al z : Nat} {bI tI wI : Int32} (ha : al ≤ 48) (hz : z ≤ 49) (K : ∀ l', Q none (u_S S0 al ta te tf (l')) R) : ∀ (c k : Nat) (le : Nat → Int32), al ≤ k + c → k ≤ 49 → w_T L xs d m_X5_repeat 37 [(6, .int (Int32.ofInt (k : Int))), (5, .int (Int32.ofInt (al : Int))), (4, .int (Int32.ofInt (z : Int))), (0, .ref 67), (1, .int bI), (2, .int tI), (3, .int wI)] [] (u_S S0 mo ta te tf le) R Q := by
  intro c
  have ea := w_nat (k := al) (by omega)
  have ez := w_nat (k := z) (by omega)
  induction c with
  | zero =>
    intro k le hk hk2
    have ek := w_nat (k := k) (by omega)
    refine w_st rfl (fun _ => rfl) ?_
    refine w_st rfl (fun _ => rfl) ?_
    show w_T L xs d m_X5_repeat 41 [(6, .int (Int32.ofInt (k : Int))), (5, .int (Int32.ofInt (al : Int))), (4, .int (Int32.ofInt (z : Int))), (0, .ref 67), (1, .int bI), (2, .int tI), (3, .int wI)] [.int (Int32.ofInt (al : Int)), .int (Int32.ofInt (k : Int))] (u_S S0 mo ta te tf le) R Q
    refine w_br (P := (Int32.ofInt (al : Int)) ≤ (Int32.ofInt (k : Int))) rfl (fun _ => rfl) (fun h41 => ?_) (fun h41 => ?_)
    · refine w_st rfl (fun _ => rfl) ?_
      refine w_st rfl (fun _ => rfl) ?_
      show w_T L xs d m_X5_repeat 87 [(6, .int (Int32.ofInt (k : Int))), (5, .int (Int32.ofInt (al : Int))), (4, .int (Int32.ofInt (z : Int))), (0, .ref 67), (1, .int bI), (2, .int tI), (3, .int wI)] [.int (Int32.ofInt (al : Int)), .ref 67] (u_S S0 mo ta te tf le) R Q
      refine w_put rfl rfl rfl rfl rfl ?_
      refine w_eqS (u_wmo (k := al) rfl) ?_
      show w_T L xs d m_X5_repeat 90 [(6, .int (Int32.ofInt (k : Int))), (5, .int (Int32.ofInt (al : Int))), (4, .int (Int32.ofInt (z : Int))), (0, .ref 67), (1, .int bI), (2, .int tI), (3, .int wI)] [] (u_S S0 al ta te tf le) R Q
      refine w_ret rfl rfl ?_
      exact K _
    · exfalso; rw [q_le32, ea, ek] at h41; omega
  | succ c ih =>
    intro k le hk hk2
    have ek := w_nat (k := k) (by omega)
    have e49 : (Int32.ofInt 49).toInt = 49 := by decide
    refine w_st rfl (fun _ => rfl) ?_
    refine w_st rfl (fun _ => rfl) ?_
    show w_T L xs d m_X5_repeat 41 [(6, .int (Int32.ofInt (k : Int))), (5, .int (Int32.ofInt (al : Int))), (4, .int (Int32.ofInt (z : Int))), (0, .ref 67), (1, .int bI), (2, .int tI), (3, .int wI)] [.int (Int32.ofInt (al : Int)), .int (Int32.ofInt (k : Int))] (u_S S0 mo ta te tf le) R Q
    refine w_br (P := (Int32.ofInt (al : Int)) ≤ (Int32.ofInt (k : Int))) rfl (fun _ => rfl) (fun h41 => ?_) (fun h41 => ?_)
    · refine w_st rfl (fun _ => rfl) ?_
      refine w_st rfl (fun _ => rfl) ?_
      show w_T L xs d m_X5_repeat 87 [(6, .int (Int32.ofInt (k : Int))), (5, .int (Int32.ofInt (al : Int))), (4, .int (Int32.ofInt (z : Int))), (0, .ref 67), (1, .int bI), (2, .int tI), (3, .int wI)] [.int (Int32.ofInt (al : Int)), .ref 67] (u_S S0 mo ta te tf le) R Q
      refine w_put rfl rfl rfl rfl rfl ?_
      refine w_eqS (u_wmo (k := al) rfl) ?_
      show w_T L xs d m_X5_repeat 90 [(6, .int (Int32.ofInt (k : Int))), (5, .int (Int32.ofInt (al : Int))), (4, .int (Int32.ofInt (z : Int))), (0, .ref 67), (1, .int bI), (2, .int tI), (3, .int wI)] [] (u_S S0 al ta te tf le) R Q
      refine w_ret rfl rfl ?_
      exact K _
    · have hlt : k < al := by
        rw [q_le32, ea, ek] at h41
        omega
      refine w_st rfl (fun _ => rfl) ?_
      refine w_st rfl (fun _ => rfl) ?_
      show w_T L xs d m_X5_repeat 48 [(6, .int (Int32.ofInt (k : Int))), (5, .int (Int32.ofInt (al : Int))), (4, .int (Int32.ofInt (z : Int))), (0, .ref 67), (1, .int bI), (2, .int tI), (3, .int wI)] [.int (Int32.ofInt (z : Int)), .int (Int32.ofInt (k : Int))] (u_S S0 mo ta te tf le) R Q
      refine w_br (P := (Int32.ofInt (k : Int)) < (Int32.ofInt (z : Int))) rfl (fun _ => rfl) (fun h48 => ?_) (fun h48 => ?_)
      · refine w_st rfl (fun _ => rfl) ?_
        refine w_st rfl (fun _ => rfl) ?_
        show w_T L xs d m_X5_repeat 87 [(6, .int (Int32.ofInt (k : Int))), (5, .int (Int32.ofInt (al : Int))), (4, .int (Int32.ofInt (z : Int))), (0, .ref 67), (1, .int bI), (2, .int tI), (3, .int wI)] [.int (Int32.ofInt (al : Int)), .ref 67] (u_S S0 mo ta te tf le) R Q
        refine w_put rfl rfl rfl rfl rfl ?_
        refine w_eqS (u_wmo (k := al) rfl) ?_
        show w_T L xs d m_X5_repeat 90 [(6, .int (Int32.ofInt (k : Int))), (5, .int (Int32.ofInt (al : Int))), (4, .int (Int32.ofInt (z : Int))), (0, .ref 67), (1, .int bI), (2, .int tI), (3, .int wI)] [] (u_S S0 al ta te tf le) R Q
        refine w_ret rfl rfl ?_
        exact K _
      · have hge : z ≤ k := by
          rw [q_lt32, ez, ek] at h48
          omega
        have es : Int32.ofInt (k : Int) - Int32.ofInt (z : Int) = Int32.ofInt ((k - z : Nat) : Int) := by
          rw [← Int32.ofInt_sub]
          congr 1
          omega
        refine w_st rfl (fun _ => rfl) ?_
        refine w_st rfl (fun _ => rfl) ?_
        show w_T L xs d m_X5_repeat 54 [(6, .int (Int32.ofInt (k : Int))), (5, .int (Int32.ofInt (al : Int))), (4, .int (Int32.ofInt (z : Int))), (0, .ref 67), (1, .int bI), (2, .int tI), (3, .int wI)] [.ref 67, .int (Int32.ofInt (k : Int))] (u_S S0 mo ta te tf le) R Q
        refine w_getr rfl rfl rfl ?_
        show w_T L xs d m_X5_repeat 57 [(6, .int (Int32.ofInt (k : Int))), (5, .int (Int32.ofInt (al : Int))), (4, .int (Int32.ofInt (z : Int))), (0, .ref 67), (1, .int bI), (2, .int tI), (3, .int wI)] [.ref 75, .int (Int32.ofInt (k : Int))] (u_S S0 mo ta te tf le) R Q
        refine w_al rfl rfl rfl ?_
        show w_T L xs d m_X5_repeat 58 [(6, .int (Int32.ofInt (k : Int))), (5, .int (Int32.ofInt (al : Int))), (4, .int (Int32.ofInt (z : Int))), (0, .ref 67), (1, .int bI), (2, .int tI), (3, .int wI)] [.int (Int32.ofInt 49), .int (Int32.ofInt (k : Int))] (u_S S0 mo ta te tf le) R Q
        refine w_br (P := (Int32.ofInt 49) ≤ (Int32.ofInt (k : Int))) rfl (fun _ => rfl) (fun h58 => ?_) (fun h58 => ?_)
        · refine w_st rfl (fun _ => rfl) ?_
          refine w_st rfl (fun _ => rfl) ?_
          show w_T L xs d m_X5_repeat 87 [(6, .int (Int32.ofInt (k : Int))), (5, .int (Int32.ofInt (al : Int))), (4, .int (Int32.ofInt (z : Int))), (0, .ref 67), (1, .int bI), (2, .int tI), (3, .int wI)] [.int (Int32.ofInt (al : Int)), .ref 67] (u_S S0 mo ta te tf le) R Q
          refine w_put rfl rfl rfl rfl rfl ?_
          refine w_eqS (u_wmo (k := al) rfl) ?_
          show w_T L xs d m_X5_repeat 90 [(6, .int (Int32.ofInt (k : Int))), (5, .int (Int32.ofInt (al : Int))), (4, .int (Int32.ofInt (z : Int))), (0, .ref 67), (1, .int bI), (2, .int tI), (3, .int wI)] [] (u_S S0 al ta te tf le) R Q
          refine w_ret rfl rfl ?_
          exact K _
        · refine w_st rfl (fun _ => rfl) ?_
          show w_T L xs d m_X5_repeat 62 [(6, .int (Int32.ofInt (k : Int))), (5, .int (Int32.ofInt (al : Int))), (4, .int (Int32.ofInt (z : Int))), (0, .ref 67), (1, .int bI), (2, .int tI), (3, .int wI)] [.ref 67] (u_S S0 mo ta te tf le) R Q
          refine w_getr rfl rfl rfl ?_
          refine w_st rfl (fun _ => rfl) ?_
          refine w_st rfl (fun _ => rfl) ?_
          show w_T L xs d m_X5_repeat 68 [(6, .int (Int32.ofInt (k : Int))), (5, .int (Int32.ofInt (al : Int))), (4, .int (Int32.ofInt (z : Int))), (0, .ref 67), (1, .int bI), (2, .int tI), (3, .int wI)] [.ref 67, .int (Int32.ofInt (k : Int)), .ref 75] (u_S S0 mo ta te tf le) R Q
          refine w_getr rfl rfl rfl ?_
          refine w_st rfl (fun _ => rfl) ?_
          refine w_st rfl (fun _ => rfl) ?_
          refine w_st rfl (fun _ => rfl) ?_
          show w_T L xs d m_X5_repeat 76 [(6, .int (Int32.ofInt (k : Int))), (5, .int (Int32.ofInt (al : Int))), (4, .int (Int32.ofInt (z : Int))), (0, .ref 67), (1, .int bI), (2, .int tI), (3, .int wI)] [.int ((Int32.ofInt (k : Int)) - (Int32.ofInt (z : Int))), .ref 75, .int (Int32.ofInt (k : Int)), .ref 75] (u_S S0 mo ta te tf le) R Q
          refine w_iald rfl rfl (by rw [es, w_nat (by omega)]; omega) (by rw [es, w_nat (by omega)]; omega) ?_
          rw [es, w_natn (by omega), u_rle (by omega)]
          show w_T L xs d m_X5_repeat 77 [(6, .int (Int32.ofInt (k : Int))), (5, .int (Int32.ofInt (al : Int))), (4, .int (Int32.ofInt (z : Int))), (0, .ref 67), (1, .int bI), (2, .int tI), (3, .int wI)] [.int (le (k - z)), .int (Int32.ofInt (k : Int)), .ref 75] (u_S S0 mo ta te tf le) R Q
          refine w_iast rfl rfl (by rw [w_nat (by omega)]; omega) (by rw [w_nat (by omega)]; omega) ?_
          refine w_eqS (u_wle (w_natn (by omega)) (by omega)) ?_
          refine w_st rfl (fun _ => rfl) ?_
          refine w_st rfl (fun _ => rfl) ?_
          show w_T L xs d m_X5_repeat 37 [(6, .int ((Int32.ofInt (k : Int)) + (Int32.ofInt 1))), (5, .int (Int32.ofInt (al : Int))), (4, .int (Int32.ofInt (z : Int))), (0, .ref 67), (1, .int bI), (2, .int tI), (3, .int wI)] [] (u_S S0 mo ta te tf (upd le k (le (k - z)))) R Q
          rw [w_inc]
          exact ih (k + 1) _ (by omega) (by omega)
theorem x_repeat {bI tI wI : Int32} {b : Nat} (hbI : bI = Int32.ofInt (b : Int)) (hb : b ≤ mo) (hm : mo ≤ 49) (t1 : 1 ≤ tI.toInt) (t2 : tI.toInt ≤ 9) (hq : ∀ m' e' f' l', mo ≤ m' → m' ≤ 49 → Q none (u_S S0 (m') ta (e') (f') (l')) R) : w_T L xs (d + 1) m_X5_repeat 0 (lv_args 0 [.ref 67, .int bI, .int tI, .int wI]) [] (u_S S0 mo ta te tf le) R Q := by
  obtain ⟨m, rfl, hm1, hm2⟩ : ∃ m : Nat, tI = Int32.ofInt (m : Int) ∧ 1 ≤ m ∧ m ≤ 9 := ⟨_, p_nof (by omega), by omega, by omega⟩
  obtain ⟨z, hz⟩ : ∃ z, b + z = mo := ⟨mo - b, by omega⟩
  obtain ⟨p, hp⟩ : ∃ p, z * m = p := ⟨_, rfl⟩
  have hp1 : z ≤ p := by rw [← hp]; exact Nat.le_mul_of_pos_right z hm1
  have hp2 : p ≤ 49 * 9 := by rw [← hp]; exact Nat.mul_le_mul (by omega) hm2
  have es : Int32.ofInt (mo : Int) - bI = Int32.ofInt (z : Int) := by
    rw [hbI, ← Int32.ofInt_sub]
    congr 1
    omega
  obtain ⟨al, hal⟩ : ∃ al, b + p = al := ⟨_, rfl⟩
  have ea : bI + Int32.ofInt (z : Int) * Int32.ofInt (m : Int) = Int32.ofInt (al : Int) := by
    rw [hbI, ← Int32.ofInt_mul, ← Int32.ofInt_add]
    congr 1
    rw [← hal, ← hp]
    rfl
  have e48 : (Int32.ofInt 48).toInt = 48 := by decide
  have eal := w_nat (k := al) (by omega)
  refine w_st rfl (fun _ => rfl) ?_
  show w_T L xs (d + 1) m_X5_repeat 1 [(0, .ref 67), (1, .int bI), (2, .int (Int32.ofInt (m : Int))), (3, .int wI)] [.ref 67] (u_S S0 mo ta te tf le) R Q
  refine w_get rfl rfl rfl ?_
  refine w_st rfl (fun _ => rfl) ?_
  refine w_st rfl (fun _ => rfl) ?_
  refine w_st rfl (fun _ => rfl) ?_
  show w_T L xs (d + 1) m_X5_repeat 8 [(4, .int ((Int32.ofInt (mo : Int)) - bI)), (0, .ref 67), (1, .int bI), (2, .int (Int32.ofInt (m : Int))), (3, .int wI)] [] (u_S S0 mo ta te tf le) R Q
  rw [es]
  refine w_st rfl (fun _ => rfl) ?_
  refine w_st rfl (fun _ => rfl) ?_
  refine w_st rfl (fun _ => rfl) ?_
  refine w_st rfl (fun _ => rfl) ?_
  refine w_st rfl (fun _ => rfl) ?_
  refine w_st rfl (fun _ => rfl) ?_
  show w_T L xs (d + 1) m_X5_repeat 16 [(5, .int (bI + ((Int32.ofInt (z : Int)) * (Int32.ofInt (m : Int))))), (4, .int (Int32.ofInt (z : Int))), (0, .ref 67), (1, .int bI), (2, .int (Int32.ofInt (m : Int))), (3, .int wI)] [] (u_S S0 mo ta te tf le) R Q
  rw [ea]
  refine w_st rfl (fun _ => rfl) ?_
  refine w_st rfl (fun _ => rfl) ?_
  show w_T L xs (d + 1) m_X5_repeat 20 [(5, .int (Int32.ofInt (al : Int))), (4, .int (Int32.ofInt (z : Int))), (0, .ref 67), (1, .int bI), (2, .int (Int32.ofInt (m : Int))), (3, .int wI)] [.int (Int32.ofInt 48), .int (Int32.ofInt (al : Int))] (u_S S0 mo ta te tf le) R Q
  refine w_br (P := (Int32.ofInt (al : Int)) ≤ (Int32.ofInt 48)) rfl (fun _ => rfl) (fun h20 => ?_) (fun h20 => ?_)
  · have h48 : al ≤ 48 := by
      rw [q_le32, eal, e48] at h20
      omega
    refine w_st rfl (fun _ => rfl) ?_
    show w_T L xs (d + 1) m_X5_repeat 32 [(5, .int (Int32.ofInt (al : Int))), (4, .int (Int32.ofInt (z : Int))), (0, .ref 67), (1, .int bI), (2, .int (Int32.ofInt (m : Int))), (3, .int wI)] [.ref 67] (u_S S0 mo ta te tf le) R Q
    refine w_get rfl rfl rfl ?_
    refine w_st rfl (fun _ => rfl) ?_
    show w_T L xs (d + 1) m_X5_repeat 37 [(6, .int (Int32.ofInt (mo : Int))), (5, .int (Int32.ofInt (al : Int))), (4, .int (Int32.ofInt (z : Int))), (0, .ref 67), (1, .int bI), (2, .int (Int32.ofInt (m : Int))), (3, .int wI)] [] (u_S S0 mo ta te tf le) R Q
    exact w_dm (by omega) (x_rp1 (d := d) (by omega) (by omega) (fun l' => hq _ _ _ l' (by omega) (by omega)) al mo le (by omega) hm)
  · refine w_st rfl (fun _ => rfl) ?_
    refine w_st rfl (fun _ => rfl) ?_
    refine w_st rfl (fun _ => rfl) ?_
    show w_T L xs (d + 1) m_X5_repeat 27 [(5, .int (Int32.ofInt (al : Int))), (4, .int (Int32.ofInt (z : Int))), (0, .ref 67), (1, .int bI), (2, .int (Int32.ofInt (m : Int))), (3, .int wI)] [.int wI, .int (Int32.ofInt 6), .ref 67] (u_S S0 mo ta te tf le) R Q
    refine w_cv rfl (by decide) mt_X5_fail rfl rfl rfl rfl (Nat.le_of_ble_eq_true rfl) (Nat.le_of_ble_eq_true rfl) (Nat.le_of_ble_eq_true rfl) ?_
    show w_T L xs _ m_X5_fail 0 (lv_args 0 [.ref 67, .int (Int32.ofInt 6), .int wI]) [] (u_S S0 mo ta te tf le) R _
    refine x_fail (fun e27 f27 => ?_)
    show w_T L xs (d + 1) m_X5_repeat 30 [(5, .int (Int32.ofInt (al : Int))), (4, .int (Int32.ofInt (z : Int))), (0, .ref 67), (1, .int bI), (2, .int (Int32.ofInt (m : Int))), (3, .int wI)] [] (u_S S0 mo ta e27 f27 le) R Q
    refine w_ret rfl rfl ?_
    exact hq _ _ _ _ (by omega) (by omega)
noncomputable def x_C (L : Nat) (xs : Nat → Int32) (d : Nat) (R : v_Rf) (S0 : v_Sf) (M : g_M) (dp : Int32) : Prop := ∀ (mo : Nat) (ta te tf : Int32) (le : Nat → Int32) (Q : Option Value → v_Sf → v_Rf → Prop), mo ≤ 49 → (∀ (m' : Nat) (a' e' f' : Int32) (l' : Nat → Int32), mo ≤ m' → m' ≤ 49 → Q none (u_S S0 m' a' e' f' l') R) → w_T L xs d M 0 (lv_args 0 [.ref 67, .int dp]) [] (u_S S0 mo ta te tf le) R Q
theorem x_group2 (hs : (S0 45 1).toInt ≤ 260) : x_C L xs (d + 1) R S0 m_X5_readGroup (Int32.ofInt 2) := by
  intro mo ta te tf le Q hm hq
  refine w_st rfl (fun _ => rfl) ?_
  refine w_st rfl (fun _ => rfl) ?_
  show w_T L xs (d + 1) m_X5_readGroup 2 [(0, .ref 67), (1, .int (Int32.ofInt 2))] [.int (Int32.ofInt 2), .int (Int32.ofInt 2)] (u_S S0 mo ta te tf le) R Q
  refine w_st rfl (fun _ => rfl) ?_
  refine w_st rfl (fun _ => rfl) ?_
  refine w_st rfl (fun _ => rfl) ?_
  refine w_st rfl (fun _ => rfl) ?_
  show w_T L xs (d + 1) m_X5_readGroup 8 [(0, .ref 67), (1, .int (Int32.ofInt 2))] [.ref 67, .int (Int32.ofInt 5), .ref 67] (u_S S0 mo ta te tf le) R Q
  refine w_get rfl rfl rfl ?_
  show w_T L xs (d + 1) m_X5_readGroup 11 [(0, .ref 67), (1, .int (Int32.ofInt 2))] [.int ta, .int (Int32.ofInt 5), .ref 67] (u_S S0 mo ta te tf le) R Q
  refine w_cv rfl (by decide) mt_X5_fail rfl rfl rfl rfl (Nat.le_of_ble_eq_true rfl) (Nat.le_of_ble_eq_true rfl) (Nat.le_of_ble_eq_true rfl) ?_
  show w_T L xs _ m_X5_fail 0 (lv_args 0 [.ref 67, .int (Int32.ofInt 5), .int ta]) [] (u_S S0 mo ta te tf le) R _
  refine x_fail (fun e11 f11 => ?_)
  show w_T L xs (d + 1) m_X5_readGroup 14 [(0, .ref 67), (1, .int (Int32.ofInt 2))] [] (u_S S0 mo ta e11 f11 le) R Q
  refine w_ret rfl rfl ?_
  exact hq _ _ _ _ _ (Nat.le_refl _) hm
theorem x_group0 (hs : (S0 45 1).toInt ≤ 260) (h : x_C L xs (d + 2) R S0 m_X5_readMonths (Int32.ofInt 1)) : x_C L xs (d + 3) R S0 m_X5_readGroup (Int32.ofInt 0) := by
  intro mo ta te tf le Q hm hq
  refine w_st rfl (fun _ => rfl) ?_
  refine w_st rfl (fun _ => rfl) ?_
  show w_T L xs (d + 3) m_X5_readGroup 2 [(0, .ref 67), (1, .int (Int32.ofInt 0))] [.int (Int32.ofInt 2), .int (Int32.ofInt 0)] (u_S S0 mo ta te tf le) R Q
  refine w_st rfl (fun _ => rfl) ?_
  refine w_st rfl (fun _ => rfl) ?_
  refine w_st rfl (fun _ => rfl) ?_
  show w_T L xs (d + 3) m_X5_readGroup 17 [(0, .ref 67), (1, .int (Int32.ofInt 0))] [.ref 67, .ref 67] (u_S S0 mo ta te tf le) R Q
  refine w_get rfl rfl rfl ?_
  refine w_st rfl (fun _ => rfl) ?_
  refine w_st rfl (fun _ => rfl) ?_
  show w_T L xs (d + 3) m_X5_readGroup 22 [(0, .ref 67), (1, .int (Int32.ofInt 0))] [.int (ta + (Int32.ofInt 1)), .ref 67] (u_S S0 mo ta te tf le) R Q
  refine w_put rfl rfl rfl rfl rfl ?_
  refine w_eqS u_wta ?_
  refine w_st rfl (fun _ => rfl) ?_
  refine w_st rfl (fun _ => rfl) ?_
  refine w_st rfl (fun _ => rfl) ?_
  refine w_st rfl (fun _ => rfl) ?_
  show w_T L xs (d + 3) m_X5_readGroup 29 [(0, .ref 67), (1, .int (Int32.ofInt 0))] [.int ((Int32.ofInt 0) + (Int32.ofInt 1)), .ref 67] (u_S S0 mo (ta + (Int32.ofInt 1)) te tf le) R Q
  refine w_cv rfl (by decide) mt_X5_readMonths rfl rfl rfl rfl (Nat.le_of_ble_eq_true rfl) (Nat.le_of_ble_eq_true rfl) (Nat.le_of_ble_eq_true rfl) ?_
  show w_T L xs _ m_X5_readMonths 0 (lv_args 0 [.ref 67, .int ((Int32.ofInt 0) + (Int32.ofInt 1))]) [] (u_S S0 mo (ta + (Int32.ofInt 1)) te tf le) R _
  refine h _ _ _ _ _ _ hm (fun m1 a1 e1 f1 l1 y1 y2 => ?_)
  refine w_st rfl (fun _ => rfl) ?_
  refine w_st rfl (fun _ => rfl) ?_
  show w_T L xs (d + 3) m_X5_readGroup 35 [(0, .ref 67), (1, .int (Int32.ofInt 0))] [.int (Int32.ofInt 41), .ref 67] (u_S S0 m1 a1 e1 f1 l1) R Q
  refine w_cv rfl (by decide) mt_X5_expect rfl rfl rfl rfl (Nat.le_of_ble_eq_true rfl) (Nat.le_of_ble_eq_true rfl) (Nat.le_of_ble_eq_true rfl) ?_
  show w_T L xs _ m_X5_expect 0 (lv_args 0 [.ref 67, .int (Int32.ofInt 41)]) [] (u_S S0 m1 a1 e1 f1 l1) R _
  refine w_dm (d := 2) (by omega) (x_expect (d := 0) hs (fun a2 e2 f2 => ?_))
  show w_T L xs (d + 3) m_X5_readGroup 38 [(0, .ref 67), (1, .int (Int32.ofInt 0))] [] (u_S S0 m1 a2 e2 f2 l1) R Q
  refine w_ret rfl rfl ?_
  exact hq _ _ _ _ _ (by omega) (by omega)
theorem x_group1 (hs : (S0 45 1).toInt ≤ 260) (h : x_C L xs (d + 2) R S0 m_X5_readMonths (Int32.ofInt 2)) : x_C L xs (d + 3) R S0 m_X5_readGroup (Int32.ofInt 1) := by
  intro mo ta te tf le Q hm hq
  refine w_st rfl (fun _ => rfl) ?_
  refine w_st rfl (fun _ => rfl) ?_
  show w_T L xs (d + 3) m_X5_readGroup 2 [(0, .ref 67), (1, .int (Int32.ofInt 1))] [.int (Int32.ofInt 2), .int (Int32.ofInt 1)] (u_S S0 mo ta te tf le) R Q
  refine w_st rfl (fun _ => rfl) ?_
  refine w_st rfl (fun _ => rfl) ?_
  refine w_st rfl (fun _ => rfl) ?_
  show w_T L xs (d + 3) m_X5_readGroup 17 [(0, .ref 67), (1, .int (Int32.ofInt 1))] [.ref 67, .ref 67] (u_S S0 mo ta te tf le) R Q
  refine w_get rfl rfl rfl ?_
  refine w_st rfl (fun _ => rfl) ?_
  refine w_st rfl (fun _ => rfl) ?_
  show w_T L xs (d + 3) m_X5_readGroup 22 [(0, .ref 67), (1, .int (Int32.ofInt 1))] [.int (ta + (Int32.ofInt 1)), .ref 67] (u_S S0 mo ta te tf le) R Q
  refine w_put rfl rfl rfl rfl rfl ?_
  refine w_eqS u_wta ?_
  refine w_st rfl (fun _ => rfl) ?_
  refine w_st rfl (fun _ => rfl) ?_
  refine w_st rfl (fun _ => rfl) ?_
  refine w_st rfl (fun _ => rfl) ?_
  show w_T L xs (d + 3) m_X5_readGroup 29 [(0, .ref 67), (1, .int (Int32.ofInt 1))] [.int ((Int32.ofInt 1) + (Int32.ofInt 1)), .ref 67] (u_S S0 mo (ta + (Int32.ofInt 1)) te tf le) R Q
  refine w_cv rfl (by decide) mt_X5_readMonths rfl rfl rfl rfl (Nat.le_of_ble_eq_true rfl) (Nat.le_of_ble_eq_true rfl) (Nat.le_of_ble_eq_true rfl) ?_
  show w_T L xs _ m_X5_readMonths 0 (lv_args 0 [.ref 67, .int ((Int32.ofInt 1) + (Int32.ofInt 1))]) [] (u_S S0 mo (ta + (Int32.ofInt 1)) te tf le) R _
  refine h _ _ _ _ _ _ hm (fun m1 a1 e1 f1 l1 y1 y2 => ?_)
  refine w_st rfl (fun _ => rfl) ?_
  refine w_st rfl (fun _ => rfl) ?_
  show w_T L xs (d + 3) m_X5_readGroup 35 [(0, .ref 67), (1, .int (Int32.ofInt 1))] [.int (Int32.ofInt 41), .ref 67] (u_S S0 m1 a1 e1 f1 l1) R Q
  refine w_cv rfl (by decide) mt_X5_expect rfl rfl rfl rfl (Nat.le_of_ble_eq_true rfl) (Nat.le_of_ble_eq_true rfl) (Nat.le_of_ble_eq_true rfl) ?_
  show w_T L xs _ m_X5_expect 0 (lv_args 0 [.ref 67, .int (Int32.ofInt 41)]) [] (u_S S0 m1 a1 e1 f1 l1) R _
  refine w_dm (d := 2) (by omega) (x_expect (d := 0) hs (fun a2 e2 f2 => ?_))
  show w_T L xs (d + 3) m_X5_readGroup 38 [(0, .ref 67), (1, .int (Int32.ofInt 1))] [] (u_S S0 m1 a2 e2 f2 l1) R Q
  refine w_ret rfl rfl ?_
  exact hq _ _ _ _ _ (by omega) (by omega)
theorem x_month {dp : Int32} (hs : (S0 45 1).toInt ≤ 260) (h : x_C L xs (d + 1) R S0 m_X5_readGroup dp) : x_C L xs (d + 2) R S0 m_X5_readMonth dp := by
  intro mo ta te tf le Q hm hq
  have e50 : (Int32.ofInt 50).toInt = 50 := by decide
  have e57 : (Int32.ofInt 57).toInt = 57 := by decide
  refine w_st rfl (fun _ => rfl) ?_
  show w_T L xs (d + 2) m_X5_readMonth 1 [(0, .ref 67), (1, .int dp)] [.ref 67] (u_S S0 mo ta te tf le) R Q
  refine w_get rfl rfl rfl ?_
  refine w_st rfl (fun _ => rfl) ?_
  refine w_st rfl (fun _ => rfl) ?_
  show w_T L xs (d + 2) m_X5_readMonth 6 [(2, .int ta), (0, .ref 67), (1, .int dp)] [.ref 67] (u_S S0 mo ta te tf le) R Q
  refine w_get rfl rfl rfl ?_
  refine w_st rfl (fun _ => rfl) ?_
  refine w_st rfl (fun _ => rfl) ?_
  refine w_st rfl (fun _ => rfl) ?_
  refine w_st rfl (fun _ => rfl) ?_
  show w_T L xs (d + 2) m_X5_readMonth 14 [(4, .int (Int32.ofInt 1)), (3, .int (Int32.ofInt (mo : Int))), (2, .int ta), (0, .ref 67), (1, .int dp)] [.ref 67] (u_S S0 mo ta te tf le) R Q
  refine w_cv rfl (by decide) mt_X5_here rfl rfl rfl rfl (Nat.le_of_ble_eq_true rfl) (Nat.le_of_ble_eq_true rfl) (Nat.le_of_ble_eq_true rfl) ?_
  show w_T L xs _ m_X5_here 0 (lv_args 0 [.ref 67]) [] (u_S S0 mo ta te tf le) R _
  refine x_here hs ?_
  refine w_st rfl (fun _ => rfl) ?_
  show w_T L xs (d + 2) m_X5_readMonth 19 [(4, .int (Int32.ofInt 1)), (3, .int (Int32.ofInt (mo : Int))), (2, .int ta), (0, .ref 67), (1, .int dp)] [.int (Int32.ofInt 50), .int (x_h S0 ta te)] (u_S S0 mo ta te tf le) R Q
  refine w_br (P := (x_h S0 ta te) < (Int32.ofInt 50)) rfl (fun _ => rfl) (fun h19 => ?_) (fun h19 => ?_)
  · have ht : 1 ≤ (Int32.ofInt 1).toInt ∧ (Int32.ofInt 1).toInt ≤ 9 := by
      decide
    refine w_st rfl (fun _ => rfl) ?_
    show w_T L xs (d + 2) m_X5_readMonth 51 [(4, .int (Int32.ofInt 1)), (3, .int (Int32.ofInt (mo : Int))), (2, .int ta), (0, .ref 67), (1, .int dp)] [.ref 67] (u_S S0 mo ta te tf le) R Q
    refine w_cv rfl (by decide) mt_X5_here rfl rfl rfl rfl (Nat.le_of_ble_eq_true rfl) (Nat.le_of_ble_eq_true rfl) (Nat.le_of_ble_eq_true rfl) ?_
    show w_T L xs _ m_X5_here 0 (lv_args 0 [.ref 67]) [] (u_S S0 mo ta te tf le) R _
    refine x_here hs ?_
    refine w_st rfl (fun _ => rfl) ?_
    refine w_st rfl (fun _ => rfl) ?_
    refine w_st rfl (fun _ => rfl) ?_
    show w_T L xs (d + 2) m_X5_readMonth 60 [(5, .int (x_h S0 ta te)), (4, .int (Int32.ofInt 1)), (3, .int (Int32.ofInt (mo : Int))), (2, .int ta), (0, .ref 67), (1, .int dp)] [.int (Int32.ofInt 40), .int (x_h S0 ta te)] (u_S S0 mo ta te tf le) R Q
    refine w_br (P := ¬ (x_h S0 ta te) = (Int32.ofInt 40)) rfl (fun _ => rfl) (fun h60 => ?_) (fun h60 => ?_)
    · refine w_st rfl (fun _ => rfl) ?_
      refine w_st rfl (fun _ => rfl) ?_
      show w_T L xs (d + 2) m_X5_readMonth 75 [(5, .int (x_h S0 ta te)), (4, .int (Int32.ofInt 1)), (3, .int (Int32.ofInt (mo : Int))), (2, .int ta), (0, .ref 67), (1, .int dp)] [.int (Int32.ofInt 46), .int (x_h S0 ta te)] (u_S S0 mo ta te tf le) R Q
      refine w_br (P := ¬ (x_h S0 ta te) = (Int32.ofInt 46)) rfl (fun _ => rfl) (fun h75 => ?_) (fun h75 => ?_)
      · refine w_st rfl (fun _ => rfl) ?_
        refine w_st rfl (fun _ => rfl) ?_
        show w_T L xs (d + 2) m_X5_readMonth 91 [(5, .int (x_h S0 ta te)), (4, .int (Int32.ofInt 1)), (3, .int (Int32.ofInt (mo : Int))), (2, .int ta), (0, .ref 67), (1, .int dp)] [.int (Int32.ofInt 65), .int (x_h S0 ta te)] (u_S S0 mo ta te tf le) R Q
        refine w_br (P := (x_h S0 ta te) < (Int32.ofInt 65)) rfl (fun _ => rfl) (fun h91 => ?_) (fun h91 => ?_)
        · refine w_st rfl (fun _ => rfl) ?_
          refine w_st rfl (fun _ => rfl) ?_
          refine w_st rfl (fun _ => rfl) ?_
          show w_T L xs (d + 2) m_X5_readMonth 116 [(5, .int (x_h S0 ta te)), (4, .int (Int32.ofInt 1)), (3, .int (Int32.ofInt (mo : Int))), (2, .int ta), (0, .ref 67), (1, .int dp)] [.ref 67, .int (Int32.ofInt 1), .ref 67] (u_S S0 mo ta te tf le) R Q
          refine w_get rfl rfl rfl ?_
          show w_T L xs (d + 2) m_X5_readMonth 119 [(5, .int (x_h S0 ta te)), (4, .int (Int32.ofInt 1)), (3, .int (Int32.ofInt (mo : Int))), (2, .int ta), (0, .ref 67), (1, .int dp)] [.int ta, .int (Int32.ofInt 1), .ref 67] (u_S S0 mo ta te tf le) R Q
          refine w_cv rfl (by decide) mt_X5_fail rfl rfl rfl rfl (Nat.le_of_ble_eq_true rfl) (Nat.le_of_ble_eq_true rfl) (Nat.le_of_ble_eq_true rfl) ?_
          show w_T L xs _ m_X5_fail 0 (lv_args 0 [.ref 67, .int (Int32.ofInt 1), .int ta]) [] (u_S S0 mo ta te tf le) R _
          refine x_fail (fun e1 f1 => ?_)
          have y1 : mo ≤ mo := Nat.le_refl _
          have y2 := hm
          refine w_st rfl (fun _ => rfl) ?_
          show w_T L xs (d + 2) m_X5_readMonth 123 [(5, .int (x_h S0 ta te)), (4, .int (Int32.ofInt 1)), (3, .int (Int32.ofInt (mo : Int))), (2, .int ta), (0, .ref 67), (1, .int dp)] [.ref 67] (u_S S0 mo ta e1 f1 le) R Q
          refine w_get rfl rfl rfl ?_
          show w_T L xs (d + 2) m_X5_readMonth 126 [(5, .int (x_h S0 ta te)), (4, .int (Int32.ofInt 1)), (3, .int (Int32.ofInt (mo : Int))), (2, .int ta), (0, .ref 67), (1, .int dp)] [.int f1] (u_S S0 mo ta e1 f1 le) R Q
          refine w_br (P := ¬ f1 = 0) rfl (fun _ => rfl) (fun h126 => ?_) (fun h126 => ?_)
          · refine w_ret rfl rfl ?_
            exact hq _ _ _ _ _ (by omega) (by omega)
          · refine w_st rfl (fun _ => rfl) ?_
            refine w_st rfl (fun _ => rfl) ?_
            refine w_st rfl (fun _ => rfl) ?_
            refine w_st rfl (fun _ => rfl) ?_
            show w_T L xs (d + 2) m_X5_readMonth 134 [(5, .int (x_h S0 ta te)), (4, .int (Int32.ofInt 1)), (3, .int (Int32.ofInt (mo : Int))), (2, .int ta), (0, .ref 67), (1, .int dp)] [.int ta, .int (Int32.ofInt 1), .int (Int32.ofInt (mo : Int)), .ref 67] (u_S S0 mo ta e1 f1 le) R Q
            refine w_cv rfl (by decide) mt_X5_repeat rfl rfl rfl rfl (Nat.le_of_ble_eq_true rfl) (Nat.le_of_ble_eq_true rfl) (Nat.le_of_ble_eq_true rfl) ?_
            show w_T L xs _ m_X5_repeat 0 (lv_args 0 [.ref 67, .int (Int32.ofInt (mo : Int)), .int (Int32.ofInt 1), .int ta]) [] (u_S S0 mo ta e1 f1 le) R _
            refine w_dm (d := 1) (by omega) (x_repeat (d := 0) (b := mo) rfl y1 y2 ht.1 ht.2 (fun m2 e2 f2 l2 y3 y4 => ?_))
            show w_T L xs (d + 2) m_X5_readMonth 137 [(5, .int (x_h S0 ta te)), (4, .int (Int32.ofInt 1)), (3, .int (Int32.ofInt (mo : Int))), (2, .int ta), (0, .ref 67), (1, .int dp)] [] (u_S S0 m2 ta e2 f2 l2) R Q
            refine w_ret rfl rfl ?_
            exact hq _ _ _ _ _ (by omega) (by omega)
        · refine w_st rfl (fun _ => rfl) ?_
          refine w_st rfl (fun _ => rfl) ?_
          show w_T L xs (d + 2) m_X5_readMonth 98 [(5, .int (x_h S0 ta te)), (4, .int (Int32.ofInt 1)), (3, .int (Int32.ofInt (mo : Int))), (2, .int ta), (0, .ref 67), (1, .int dp)] [.int (Int32.ofInt 74), .int (x_h S0 ta te)] (u_S S0 mo ta te tf le) R Q
          refine w_br (P := (Int32.ofInt 74) < (x_h S0 ta te)) rfl (fun _ => rfl) (fun h98 => ?_) (fun h98 => ?_)
          · refine w_st rfl (fun _ => rfl) ?_
            refine w_st rfl (fun _ => rfl) ?_
            refine w_st rfl (fun _ => rfl) ?_
            show w_T L xs (d + 2) m_X5_readMonth 116 [(5, .int (x_h S0 ta te)), (4, .int (Int32.ofInt 1)), (3, .int (Int32.ofInt (mo : Int))), (2, .int ta), (0, .ref 67), (1, .int dp)] [.ref 67, .int (Int32.ofInt 1), .ref 67] (u_S S0 mo ta te tf le) R Q
            refine w_get rfl rfl rfl ?_
            show w_T L xs (d + 2) m_X5_readMonth 119 [(5, .int (x_h S0 ta te)), (4, .int (Int32.ofInt 1)), (3, .int (Int32.ofInt (mo : Int))), (2, .int ta), (0, .ref 67), (1, .int dp)] [.int ta, .int (Int32.ofInt 1), .ref 67] (u_S S0 mo ta te tf le) R Q
            refine w_cv rfl (by decide) mt_X5_fail rfl rfl rfl rfl (Nat.le_of_ble_eq_true rfl) (Nat.le_of_ble_eq_true rfl) (Nat.le_of_ble_eq_true rfl) ?_
            show w_T L xs _ m_X5_fail 0 (lv_args 0 [.ref 67, .int (Int32.ofInt 1), .int ta]) [] (u_S S0 mo ta te tf le) R _
            refine x_fail (fun e1 f1 => ?_)
            have y1 : mo ≤ mo := Nat.le_refl _
            have y2 := hm
            refine w_st rfl (fun _ => rfl) ?_
            show w_T L xs (d + 2) m_X5_readMonth 123 [(5, .int (x_h S0 ta te)), (4, .int (Int32.ofInt 1)), (3, .int (Int32.ofInt (mo : Int))), (2, .int ta), (0, .ref 67), (1, .int dp)] [.ref 67] (u_S S0 mo ta e1 f1 le) R Q
            refine w_get rfl rfl rfl ?_
            show w_T L xs (d + 2) m_X5_readMonth 126 [(5, .int (x_h S0 ta te)), (4, .int (Int32.ofInt 1)), (3, .int (Int32.ofInt (mo : Int))), (2, .int ta), (0, .ref 67), (1, .int dp)] [.int f1] (u_S S0 mo ta e1 f1 le) R Q
            refine w_br (P := ¬ f1 = 0) rfl (fun _ => rfl) (fun h126 => ?_) (fun h126 => ?_)
            · refine w_ret rfl rfl ?_
              exact hq _ _ _ _ _ (by omega) (by omega)
            · refine w_st rfl (fun _ => rfl) ?_
              refine w_st rfl (fun _ => rfl) ?_
              refine w_st rfl (fun _ => rfl) ?_
              refine w_st rfl (fun _ => rfl) ?_
              show w_T L xs (d + 2) m_X5_readMonth 134 [(5, .int (x_h S0 ta te)), (4, .int (Int32.ofInt 1)), (3, .int (Int32.ofInt (mo : Int))), (2, .int ta), (0, .ref 67), (1, .int dp)] [.int ta, .int (Int32.ofInt 1), .int (Int32.ofInt (mo : Int)), .ref 67] (u_S S0 mo ta e1 f1 le) R Q
              refine w_cv rfl (by decide) mt_X5_repeat rfl rfl rfl rfl (Nat.le_of_ble_eq_true rfl) (Nat.le_of_ble_eq_true rfl) (Nat.le_of_ble_eq_true rfl) ?_
              show w_T L xs _ m_X5_repeat 0 (lv_args 0 [.ref 67, .int (Int32.ofInt (mo : Int)), .int (Int32.ofInt 1), .int ta]) [] (u_S S0 mo ta e1 f1 le) R _
              refine w_dm (d := 1) (by omega) (x_repeat (d := 0) (b := mo) rfl y1 y2 ht.1 ht.2 (fun m2 e2 f2 l2 y3 y4 => ?_))
              show w_T L xs (d + 2) m_X5_readMonth 137 [(5, .int (x_h S0 ta te)), (4, .int (Int32.ofInt 1)), (3, .int (Int32.ofInt (mo : Int))), (2, .int ta), (0, .ref 67), (1, .int dp)] [] (u_S S0 m2 ta e2 f2 l2) R Q
              refine w_ret rfl rfl ?_
              exact hq _ _ _ _ _ (by omega) (by omega)
          · refine w_st rfl (fun _ => rfl) ?_
            refine w_st rfl (fun _ => rfl) ?_
            refine w_st rfl (fun _ => rfl) ?_
            refine w_st rfl (fun _ => rfl) ?_
            show w_T L xs (d + 2) m_X5_readMonth 107 [(5, .int (x_h S0 ta te)), (4, .int (Int32.ofInt 1)), (3, .int (Int32.ofInt (mo : Int))), (2, .int ta), (0, .ref 67), (1, .int dp)] [.int ((x_h S0 ta te) - (Int32.ofInt 65)), .ref 67] (u_S S0 mo ta te tf le) R Q
            refine w_cv rfl (by decide) mt_X5_writeMonth rfl rfl rfl rfl (Nat.le_of_ble_eq_true rfl) (Nat.le_of_ble_eq_true rfl) (Nat.le_of_ble_eq_true rfl) ?_
            show w_T L xs _ m_X5_writeMonth 0 (lv_args 0 [.ref 67, .int ((x_h S0 ta te) - (Int32.ofInt 65))]) [] (u_S S0 mo ta te tf le) R _
            refine w_dm (Nat.zero_le _) (x_write hm (fun a1 m1 l1 y1 y2 => ?_))
            refine w_st rfl (fun _ => rfl) ?_
            refine w_st rfl (fun _ => rfl) ?_
            show w_T L xs (d + 2) m_X5_readMonth 123 [(5, .int (x_h S0 ta te)), (4, .int (Int32.ofInt 1)), (3, .int (Int32.ofInt (mo : Int))), (2, .int ta), (0, .ref 67), (1, .int dp)] [.ref 67] (u_S S0 m1 a1 te tf l1) R Q
            refine w_get rfl rfl rfl ?_
            show w_T L xs (d + 2) m_X5_readMonth 126 [(5, .int (x_h S0 ta te)), (4, .int (Int32.ofInt 1)), (3, .int (Int32.ofInt (mo : Int))), (2, .int ta), (0, .ref 67), (1, .int dp)] [.int tf] (u_S S0 m1 a1 te tf l1) R Q
            refine w_br (P := ¬ tf = 0) rfl (fun _ => rfl) (fun h126 => ?_) (fun h126 => ?_)
            · refine w_ret rfl rfl ?_
              exact hq _ _ _ _ _ (by omega) (by omega)
            · refine w_st rfl (fun _ => rfl) ?_
              refine w_st rfl (fun _ => rfl) ?_
              refine w_st rfl (fun _ => rfl) ?_
              refine w_st rfl (fun _ => rfl) ?_
              show w_T L xs (d + 2) m_X5_readMonth 134 [(5, .int (x_h S0 ta te)), (4, .int (Int32.ofInt 1)), (3, .int (Int32.ofInt (mo : Int))), (2, .int ta), (0, .ref 67), (1, .int dp)] [.int ta, .int (Int32.ofInt 1), .int (Int32.ofInt (mo : Int)), .ref 67] (u_S S0 m1 a1 te tf l1) R Q
              refine w_cv rfl (by decide) mt_X5_repeat rfl rfl rfl rfl (Nat.le_of_ble_eq_true rfl) (Nat.le_of_ble_eq_true rfl) (Nat.le_of_ble_eq_true rfl) ?_
              show w_T L xs _ m_X5_repeat 0 (lv_args 0 [.ref 67, .int (Int32.ofInt (mo : Int)), .int (Int32.ofInt 1), .int ta]) [] (u_S S0 m1 a1 te tf l1) R _
              refine w_dm (d := 1) (by omega) (x_repeat (d := 0) (b := mo) rfl y1 y2 ht.1 ht.2 (fun m2 e2 f2 l2 y3 y4 => ?_))
              show w_T L xs (d + 2) m_X5_readMonth 137 [(5, .int (x_h S0 ta te)), (4, .int (Int32.ofInt 1)), (3, .int (Int32.ofInt (mo : Int))), (2, .int ta), (0, .ref 67), (1, .int dp)] [] (u_S S0 m2 a1 e2 f2 l2) R Q
              refine w_ret rfl rfl ?_
              exact hq _ _ _ _ _ (by omega) (by omega)
      · refine w_st rfl (fun _ => rfl) ?_
        refine w_st rfl (fun _ => rfl) ?_
        show w_T L xs (d + 2) m_X5_readMonth 81 [(5, .int (x_h S0 ta te)), (4, .int (Int32.ofInt 1)), (3, .int (Int32.ofInt (mo : Int))), (2, .int ta), (0, .ref 67), (1, .int dp)] [.int (Int32.ofInt (-2)), .ref 67] (u_S S0 mo ta te tf le) R Q
        refine w_cv rfl (by decide) mt_X5_writeMonth rfl rfl rfl rfl (Nat.le_of_ble_eq_true rfl) (Nat.le_of_ble_eq_true rfl) (Nat.le_of_ble_eq_true rfl) ?_
        show w_T L xs _ m_X5_writeMonth 0 (lv_args 0 [.ref 67, .int (Int32.ofInt (-2))]) [] (u_S S0 mo ta te tf le) R _
        refine w_dm (Nat.zero_le _) (x_write hm (fun a1 m1 l1 y1 y2 => ?_))
        refine w_st rfl (fun _ => rfl) ?_
        refine w_st rfl (fun _ => rfl) ?_
        show w_T L xs (d + 2) m_X5_readMonth 123 [(5, .int (x_h S0 ta te)), (4, .int (Int32.ofInt 1)), (3, .int (Int32.ofInt (mo : Int))), (2, .int ta), (0, .ref 67), (1, .int dp)] [.ref 67] (u_S S0 m1 a1 te tf l1) R Q
        refine w_get rfl rfl rfl ?_
        show w_T L xs (d + 2) m_X5_readMonth 126 [(5, .int (x_h S0 ta te)), (4, .int (Int32.ofInt 1)), (3, .int (Int32.ofInt (mo : Int))), (2, .int ta), (0, .ref 67), (1, .int dp)] [.int tf] (u_S S0 m1 a1 te tf l1) R Q
        refine w_br (P := ¬ tf = 0) rfl (fun _ => rfl) (fun h126 => ?_) (fun h126 => ?_)
        · refine w_ret rfl rfl ?_
          exact hq _ _ _ _ _ (by omega) (by omega)
        · refine w_st rfl (fun _ => rfl) ?_
          refine w_st rfl (fun _ => rfl) ?_
          refine w_st rfl (fun _ => rfl) ?_
          refine w_st rfl (fun _ => rfl) ?_
          show w_T L xs (d + 2) m_X5_readMonth 134 [(5, .int (x_h S0 ta te)), (4, .int (Int32.ofInt 1)), (3, .int (Int32.ofInt (mo : Int))), (2, .int ta), (0, .ref 67), (1, .int dp)] [.int ta, .int (Int32.ofInt 1), .int (Int32.ofInt (mo : Int)), .ref 67] (u_S S0 m1 a1 te tf l1) R Q
          refine w_cv rfl (by decide) mt_X5_repeat rfl rfl rfl rfl (Nat.le_of_ble_eq_true rfl) (Nat.le_of_ble_eq_true rfl) (Nat.le_of_ble_eq_true rfl) ?_
          show w_T L xs _ m_X5_repeat 0 (lv_args 0 [.ref 67, .int (Int32.ofInt (mo : Int)), .int (Int32.ofInt 1), .int ta]) [] (u_S S0 m1 a1 te tf l1) R _
          refine w_dm (d := 1) (by omega) (x_repeat (d := 0) (b := mo) rfl y1 y2 ht.1 ht.2 (fun m2 e2 f2 l2 y3 y4 => ?_))
          show w_T L xs (d + 2) m_X5_readMonth 137 [(5, .int (x_h S0 ta te)), (4, .int (Int32.ofInt 1)), (3, .int (Int32.ofInt (mo : Int))), (2, .int ta), (0, .ref 67), (1, .int dp)] [] (u_S S0 m2 a1 e2 f2 l2) R Q
          refine w_ret rfl rfl ?_
          exact hq _ _ _ _ _ (by omega) (by omega)
    · refine w_st rfl (fun _ => rfl) ?_
      refine w_st rfl (fun _ => rfl) ?_
      show w_T L xs (d + 2) m_X5_readMonth 65 [(5, .int (x_h S0 ta te)), (4, .int (Int32.ofInt 1)), (3, .int (Int32.ofInt (mo : Int))), (2, .int ta), (0, .ref 67), (1, .int dp)] [.int dp, .ref 67] (u_S S0 mo ta te tf le) R Q
      refine w_cv rfl (by decide) mt_X5_readGroup rfl rfl rfl rfl (Nat.le_of_ble_eq_true rfl) (Nat.le_of_ble_eq_true rfl) (Nat.le_of_ble_eq_true rfl) ?_
      show w_T L xs _ m_X5_readGroup 0 (lv_args 0 [.ref 67, .int dp]) [] (u_S S0 mo ta te tf le) R _
      refine h _ _ _ _ _ _ hm (fun m1 a1 e1 f1 l1 y1 y2 => ?_)
      refine w_st rfl (fun _ => rfl) ?_
      refine w_st rfl (fun _ => rfl) ?_
      show w_T L xs (d + 2) m_X5_readMonth 123 [(5, .int (x_h S0 ta te)), (4, .int (Int32.ofInt 1)), (3, .int (Int32.ofInt (mo : Int))), (2, .int ta), (0, .ref 67), (1, .int dp)] [.ref 67] (u_S S0 m1 a1 e1 f1 l1) R Q
      refine w_get rfl rfl rfl ?_
      show w_T L xs (d + 2) m_X5_readMonth 126 [(5, .int (x_h S0 ta te)), (4, .int (Int32.ofInt 1)), (3, .int (Int32.ofInt (mo : Int))), (2, .int ta), (0, .ref 67), (1, .int dp)] [.int f1] (u_S S0 m1 a1 e1 f1 l1) R Q
      refine w_br (P := ¬ f1 = 0) rfl (fun _ => rfl) (fun h126 => ?_) (fun h126 => ?_)
      · refine w_ret rfl rfl ?_
        exact hq _ _ _ _ _ (by omega) (by omega)
      · refine w_st rfl (fun _ => rfl) ?_
        refine w_st rfl (fun _ => rfl) ?_
        refine w_st rfl (fun _ => rfl) ?_
        refine w_st rfl (fun _ => rfl) ?_
        show w_T L xs (d + 2) m_X5_readMonth 134 [(5, .int (x_h S0 ta te)), (4, .int (Int32.ofInt 1)), (3, .int (Int32.ofInt (mo : Int))), (2, .int ta), (0, .ref 67), (1, .int dp)] [.int ta, .int (Int32.ofInt 1), .int (Int32.ofInt (mo : Int)), .ref 67] (u_S S0 m1 a1 e1 f1 l1) R Q
        refine w_cv rfl (by decide) mt_X5_repeat rfl rfl rfl rfl (Nat.le_of_ble_eq_true rfl) (Nat.le_of_ble_eq_true rfl) (Nat.le_of_ble_eq_true rfl) ?_
        show w_T L xs _ m_X5_repeat 0 (lv_args 0 [.ref 67, .int (Int32.ofInt (mo : Int)), .int (Int32.ofInt 1), .int ta]) [] (u_S S0 m1 a1 e1 f1 l1) R _
        refine w_dm (d := 1) (by omega) (x_repeat (d := 0) (b := mo) rfl y1 y2 ht.1 ht.2 (fun m2 e2 f2 l2 y3 y4 => ?_))
        show w_T L xs (d + 2) m_X5_readMonth 137 [(5, .int (x_h S0 ta te)), (4, .int (Int32.ofInt 1)), (3, .int (Int32.ofInt (mo : Int))), (2, .int ta), (0, .ref 67), (1, .int dp)] [] (u_S S0 m2 a1 e2 f2 l2) R Q
        refine w_ret rfl rfl ?_
        exact hq _ _ _ _ _ (by omega) (by omega)
  · refine w_st rfl (fun _ => rfl) ?_
    show w_T L xs (d + 2) m_X5_readMonth 23 [(4, .int (Int32.ofInt 1)), (3, .int (Int32.ofInt (mo : Int))), (2, .int ta), (0, .ref 67), (1, .int dp)] [.ref 67] (u_S S0 mo ta te tf le) R Q
    refine w_cv rfl (by decide) mt_X5_here rfl rfl rfl rfl (Nat.le_of_ble_eq_true rfl) (Nat.le_of_ble_eq_true rfl) (Nat.le_of_ble_eq_true rfl) ?_
    show w_T L xs _ m_X5_here 0 (lv_args 0 [.ref 67]) [] (u_S S0 mo ta te tf le) R _
    refine x_here hs ?_
    refine w_st rfl (fun _ => rfl) ?_
    show w_T L xs (d + 2) m_X5_readMonth 28 [(4, .int (Int32.ofInt 1)), (3, .int (Int32.ofInt (mo : Int))), (2, .int ta), (0, .ref 67), (1, .int dp)] [.int (Int32.ofInt 57), .int (x_h S0 ta te)] (u_S S0 mo ta te tf le) R Q
    refine w_br (P := (Int32.ofInt 57) < (x_h S0 ta te)) rfl (fun _ => rfl) (fun h28 => ?_) (fun h28 => ?_)
    · have ht : 1 ≤ (Int32.ofInt 1).toInt ∧ (Int32.ofInt 1).toInt ≤ 9 := by
        decide
      refine w_st rfl (fun _ => rfl) ?_
      show w_T L xs (d + 2) m_X5_readMonth 51 [(4, .int (Int32.ofInt 1)), (3, .int (Int32.ofInt (mo : Int))), (2, .int ta), (0, .ref 67), (1, .int dp)] [.ref 67] (u_S S0 mo ta te tf le) R Q
      refine w_cv rfl (by decide) mt_X5_here rfl rfl rfl rfl (Nat.le_of_ble_eq_true rfl) (Nat.le_of_ble_eq_true rfl) (Nat.le_of_ble_eq_true rfl) ?_
      show w_T L xs _ m_X5_here 0 (lv_args 0 [.ref 67]) [] (u_S S0 mo ta te tf le) R _
      refine x_here hs ?_
      refine w_st rfl (fun _ => rfl) ?_
      refine w_st rfl (fun _ => rfl) ?_
      refine w_st rfl (fun _ => rfl) ?_
      show w_T L xs (d + 2) m_X5_readMonth 60 [(5, .int (x_h S0 ta te)), (4, .int (Int32.ofInt 1)), (3, .int (Int32.ofInt (mo : Int))), (2, .int ta), (0, .ref 67), (1, .int dp)] [.int (Int32.ofInt 40), .int (x_h S0 ta te)] (u_S S0 mo ta te tf le) R Q
      refine w_br (P := ¬ (x_h S0 ta te) = (Int32.ofInt 40)) rfl (fun _ => rfl) (fun h60 => ?_) (fun h60 => ?_)
      · refine w_st rfl (fun _ => rfl) ?_
        refine w_st rfl (fun _ => rfl) ?_
        show w_T L xs (d + 2) m_X5_readMonth 75 [(5, .int (x_h S0 ta te)), (4, .int (Int32.ofInt 1)), (3, .int (Int32.ofInt (mo : Int))), (2, .int ta), (0, .ref 67), (1, .int dp)] [.int (Int32.ofInt 46), .int (x_h S0 ta te)] (u_S S0 mo ta te tf le) R Q
        refine w_br (P := ¬ (x_h S0 ta te) = (Int32.ofInt 46)) rfl (fun _ => rfl) (fun h75 => ?_) (fun h75 => ?_)
        · refine w_st rfl (fun _ => rfl) ?_
          refine w_st rfl (fun _ => rfl) ?_
          show w_T L xs (d + 2) m_X5_readMonth 91 [(5, .int (x_h S0 ta te)), (4, .int (Int32.ofInt 1)), (3, .int (Int32.ofInt (mo : Int))), (2, .int ta), (0, .ref 67), (1, .int dp)] [.int (Int32.ofInt 65), .int (x_h S0 ta te)] (u_S S0 mo ta te tf le) R Q
          refine w_br (P := (x_h S0 ta te) < (Int32.ofInt 65)) rfl (fun _ => rfl) (fun h91 => ?_) (fun h91 => ?_)
          · refine w_st rfl (fun _ => rfl) ?_
            refine w_st rfl (fun _ => rfl) ?_
            refine w_st rfl (fun _ => rfl) ?_
            show w_T L xs (d + 2) m_X5_readMonth 116 [(5, .int (x_h S0 ta te)), (4, .int (Int32.ofInt 1)), (3, .int (Int32.ofInt (mo : Int))), (2, .int ta), (0, .ref 67), (1, .int dp)] [.ref 67, .int (Int32.ofInt 1), .ref 67] (u_S S0 mo ta te tf le) R Q
            refine w_get rfl rfl rfl ?_
            show w_T L xs (d + 2) m_X5_readMonth 119 [(5, .int (x_h S0 ta te)), (4, .int (Int32.ofInt 1)), (3, .int (Int32.ofInt (mo : Int))), (2, .int ta), (0, .ref 67), (1, .int dp)] [.int ta, .int (Int32.ofInt 1), .ref 67] (u_S S0 mo ta te tf le) R Q
            refine w_cv rfl (by decide) mt_X5_fail rfl rfl rfl rfl (Nat.le_of_ble_eq_true rfl) (Nat.le_of_ble_eq_true rfl) (Nat.le_of_ble_eq_true rfl) ?_
            show w_T L xs _ m_X5_fail 0 (lv_args 0 [.ref 67, .int (Int32.ofInt 1), .int ta]) [] (u_S S0 mo ta te tf le) R _
            refine x_fail (fun e1 f1 => ?_)
            have y1 : mo ≤ mo := Nat.le_refl _
            have y2 := hm
            refine w_st rfl (fun _ => rfl) ?_
            show w_T L xs (d + 2) m_X5_readMonth 123 [(5, .int (x_h S0 ta te)), (4, .int (Int32.ofInt 1)), (3, .int (Int32.ofInt (mo : Int))), (2, .int ta), (0, .ref 67), (1, .int dp)] [.ref 67] (u_S S0 mo ta e1 f1 le) R Q
            refine w_get rfl rfl rfl ?_
            show w_T L xs (d + 2) m_X5_readMonth 126 [(5, .int (x_h S0 ta te)), (4, .int (Int32.ofInt 1)), (3, .int (Int32.ofInt (mo : Int))), (2, .int ta), (0, .ref 67), (1, .int dp)] [.int f1] (u_S S0 mo ta e1 f1 le) R Q
            refine w_br (P := ¬ f1 = 0) rfl (fun _ => rfl) (fun h126 => ?_) (fun h126 => ?_)
            · refine w_ret rfl rfl ?_
              exact hq _ _ _ _ _ (by omega) (by omega)
            · refine w_st rfl (fun _ => rfl) ?_
              refine w_st rfl (fun _ => rfl) ?_
              refine w_st rfl (fun _ => rfl) ?_
              refine w_st rfl (fun _ => rfl) ?_
              show w_T L xs (d + 2) m_X5_readMonth 134 [(5, .int (x_h S0 ta te)), (4, .int (Int32.ofInt 1)), (3, .int (Int32.ofInt (mo : Int))), (2, .int ta), (0, .ref 67), (1, .int dp)] [.int ta, .int (Int32.ofInt 1), .int (Int32.ofInt (mo : Int)), .ref 67] (u_S S0 mo ta e1 f1 le) R Q
              refine w_cv rfl (by decide) mt_X5_repeat rfl rfl rfl rfl (Nat.le_of_ble_eq_true rfl) (Nat.le_of_ble_eq_true rfl) (Nat.le_of_ble_eq_true rfl) ?_
              show w_T L xs _ m_X5_repeat 0 (lv_args 0 [.ref 67, .int (Int32.ofInt (mo : Int)), .int (Int32.ofInt 1), .int ta]) [] (u_S S0 mo ta e1 f1 le) R _
              refine w_dm (d := 1) (by omega) (x_repeat (d := 0) (b := mo) rfl y1 y2 ht.1 ht.2 (fun m2 e2 f2 l2 y3 y4 => ?_))
              show w_T L xs (d + 2) m_X5_readMonth 137 [(5, .int (x_h S0 ta te)), (4, .int (Int32.ofInt 1)), (3, .int (Int32.ofInt (mo : Int))), (2, .int ta), (0, .ref 67), (1, .int dp)] [] (u_S S0 m2 ta e2 f2 l2) R Q
              refine w_ret rfl rfl ?_
              exact hq _ _ _ _ _ (by omega) (by omega)
          · refine w_st rfl (fun _ => rfl) ?_
            refine w_st rfl (fun _ => rfl) ?_
            show w_T L xs (d + 2) m_X5_readMonth 98 [(5, .int (x_h S0 ta te)), (4, .int (Int32.ofInt 1)), (3, .int (Int32.ofInt (mo : Int))), (2, .int ta), (0, .ref 67), (1, .int dp)] [.int (Int32.ofInt 74), .int (x_h S0 ta te)] (u_S S0 mo ta te tf le) R Q
            refine w_br (P := (Int32.ofInt 74) < (x_h S0 ta te)) rfl (fun _ => rfl) (fun h98 => ?_) (fun h98 => ?_)
            · refine w_st rfl (fun _ => rfl) ?_
              refine w_st rfl (fun _ => rfl) ?_
              refine w_st rfl (fun _ => rfl) ?_
              show w_T L xs (d + 2) m_X5_readMonth 116 [(5, .int (x_h S0 ta te)), (4, .int (Int32.ofInt 1)), (3, .int (Int32.ofInt (mo : Int))), (2, .int ta), (0, .ref 67), (1, .int dp)] [.ref 67, .int (Int32.ofInt 1), .ref 67] (u_S S0 mo ta te tf le) R Q
              refine w_get rfl rfl rfl ?_
              show w_T L xs (d + 2) m_X5_readMonth 119 [(5, .int (x_h S0 ta te)), (4, .int (Int32.ofInt 1)), (3, .int (Int32.ofInt (mo : Int))), (2, .int ta), (0, .ref 67), (1, .int dp)] [.int ta, .int (Int32.ofInt 1), .ref 67] (u_S S0 mo ta te tf le) R Q
              refine w_cv rfl (by decide) mt_X5_fail rfl rfl rfl rfl (Nat.le_of_ble_eq_true rfl) (Nat.le_of_ble_eq_true rfl) (Nat.le_of_ble_eq_true rfl) ?_
              show w_T L xs _ m_X5_fail 0 (lv_args 0 [.ref 67, .int (Int32.ofInt 1), .int ta]) [] (u_S S0 mo ta te tf le) R _
              refine x_fail (fun e1 f1 => ?_)
              have y1 : mo ≤ mo := Nat.le_refl _
              have y2 := hm
              refine w_st rfl (fun _ => rfl) ?_
              show w_T L xs (d + 2) m_X5_readMonth 123 [(5, .int (x_h S0 ta te)), (4, .int (Int32.ofInt 1)), (3, .int (Int32.ofInt (mo : Int))), (2, .int ta), (0, .ref 67), (1, .int dp)] [.ref 67] (u_S S0 mo ta e1 f1 le) R Q
              refine w_get rfl rfl rfl ?_
              show w_T L xs (d + 2) m_X5_readMonth 126 [(5, .int (x_h S0 ta te)), (4, .int (Int32.ofInt 1)), (3, .int (Int32.ofInt (mo : Int))), (2, .int ta), (0, .ref 67), (1, .int dp)] [.int f1] (u_S S0 mo ta e1 f1 le) R Q
              refine w_br (P := ¬ f1 = 0) rfl (fun _ => rfl) (fun h126 => ?_) (fun h126 => ?_)
              · refine w_ret rfl rfl ?_
                exact hq _ _ _ _ _ (by omega) (by omega)
              · refine w_st rfl (fun _ => rfl) ?_
                refine w_st rfl (fun _ => rfl) ?_
                refine w_st rfl (fun _ => rfl) ?_
                refine w_st rfl (fun _ => rfl) ?_
                show w_T L xs (d + 2) m_X5_readMonth 134 [(5, .int (x_h S0 ta te)), (4, .int (Int32.ofInt 1)), (3, .int (Int32.ofInt (mo : Int))), (2, .int ta), (0, .ref 67), (1, .int dp)] [.int ta, .int (Int32.ofInt 1), .int (Int32.ofInt (mo : Int)), .ref 67] (u_S S0 mo ta e1 f1 le) R Q
                refine w_cv rfl (by decide) mt_X5_repeat rfl rfl rfl rfl (Nat.le_of_ble_eq_true rfl) (Nat.le_of_ble_eq_true rfl) (Nat.le_of_ble_eq_true rfl) ?_
                show w_T L xs _ m_X5_repeat 0 (lv_args 0 [.ref 67, .int (Int32.ofInt (mo : Int)), .int (Int32.ofInt 1), .int ta]) [] (u_S S0 mo ta e1 f1 le) R _
                refine w_dm (d := 1) (by omega) (x_repeat (d := 0) (b := mo) rfl y1 y2 ht.1 ht.2 (fun m2 e2 f2 l2 y3 y4 => ?_))
                show w_T L xs (d + 2) m_X5_readMonth 137 [(5, .int (x_h S0 ta te)), (4, .int (Int32.ofInt 1)), (3, .int (Int32.ofInt (mo : Int))), (2, .int ta), (0, .ref 67), (1, .int dp)] [] (u_S S0 m2 ta e2 f2 l2) R Q
                refine w_ret rfl rfl ?_
                exact hq _ _ _ _ _ (by omega) (by omega)
            · refine w_st rfl (fun _ => rfl) ?_
              refine w_st rfl (fun _ => rfl) ?_
              refine w_st rfl (fun _ => rfl) ?_
              refine w_st rfl (fun _ => rfl) ?_
              show w_T L xs (d + 2) m_X5_readMonth 107 [(5, .int (x_h S0 ta te)), (4, .int (Int32.ofInt 1)), (3, .int (Int32.ofInt (mo : Int))), (2, .int ta), (0, .ref 67), (1, .int dp)] [.int ((x_h S0 ta te) - (Int32.ofInt 65)), .ref 67] (u_S S0 mo ta te tf le) R Q
              refine w_cv rfl (by decide) mt_X5_writeMonth rfl rfl rfl rfl (Nat.le_of_ble_eq_true rfl) (Nat.le_of_ble_eq_true rfl) (Nat.le_of_ble_eq_true rfl) ?_
              show w_T L xs _ m_X5_writeMonth 0 (lv_args 0 [.ref 67, .int ((x_h S0 ta te) - (Int32.ofInt 65))]) [] (u_S S0 mo ta te tf le) R _
              refine w_dm (Nat.zero_le _) (x_write hm (fun a1 m1 l1 y1 y2 => ?_))
              refine w_st rfl (fun _ => rfl) ?_
              refine w_st rfl (fun _ => rfl) ?_
              show w_T L xs (d + 2) m_X5_readMonth 123 [(5, .int (x_h S0 ta te)), (4, .int (Int32.ofInt 1)), (3, .int (Int32.ofInt (mo : Int))), (2, .int ta), (0, .ref 67), (1, .int dp)] [.ref 67] (u_S S0 m1 a1 te tf l1) R Q
              refine w_get rfl rfl rfl ?_
              show w_T L xs (d + 2) m_X5_readMonth 126 [(5, .int (x_h S0 ta te)), (4, .int (Int32.ofInt 1)), (3, .int (Int32.ofInt (mo : Int))), (2, .int ta), (0, .ref 67), (1, .int dp)] [.int tf] (u_S S0 m1 a1 te tf l1) R Q
              refine w_br (P := ¬ tf = 0) rfl (fun _ => rfl) (fun h126 => ?_) (fun h126 => ?_)
              · refine w_ret rfl rfl ?_
                exact hq _ _ _ _ _ (by omega) (by omega)
              · refine w_st rfl (fun _ => rfl) ?_
                refine w_st rfl (fun _ => rfl) ?_
                refine w_st rfl (fun _ => rfl) ?_
                refine w_st rfl (fun _ => rfl) ?_
                show w_T L xs (d + 2) m_X5_readMonth 134 [(5, .int (x_h S0 ta te)), (4, .int (Int32.ofInt 1)), (3, .int (Int32.ofInt (mo : Int))), (2, .int ta), (0, .ref 67), (1, .int dp)] [.int ta, .int (Int32.ofInt 1), .int (Int32.ofInt (mo : Int)), .ref 67] (u_S S0 m1 a1 te tf l1) R Q
                refine w_cv rfl (by decide) mt_X5_repeat rfl rfl rfl rfl (Nat.le_of_ble_eq_true rfl) (Nat.le_of_ble_eq_true rfl) (Nat.le_of_ble_eq_true rfl) ?_
                show w_T L xs _ m_X5_repeat 0 (lv_args 0 [.ref 67, .int (Int32.ofInt (mo : Int)), .int (Int32.ofInt 1), .int ta]) [] (u_S S0 m1 a1 te tf l1) R _
                refine w_dm (d := 1) (by omega) (x_repeat (d := 0) (b := mo) rfl y1 y2 ht.1 ht.2 (fun m2 e2 f2 l2 y3 y4 => ?_))
                show w_T L xs (d + 2) m_X5_readMonth 137 [(5, .int (x_h S0 ta te)), (4, .int (Int32.ofInt 1)), (3, .int (Int32.ofInt (mo : Int))), (2, .int ta), (0, .ref 67), (1, .int dp)] [] (u_S S0 m2 a1 e2 f2 l2) R Q
                refine w_ret rfl rfl ?_
                exact hq _ _ _ _ _ (by omega) (by omega)
        · refine w_st rfl (fun _ => rfl) ?_
          refine w_st rfl (fun _ => rfl) ?_
          show w_T L xs (d + 2) m_X5_readMonth 81 [(5, .int (x_h S0 ta te)), (4, .int (Int32.ofInt 1)), (3, .int (Int32.ofInt (mo : Int))), (2, .int ta), (0, .ref 67), (1, .int dp)] [.int (Int32.ofInt (-2)), .ref 67] (u_S S0 mo ta te tf le) R Q
          refine w_cv rfl (by decide) mt_X5_writeMonth rfl rfl rfl rfl (Nat.le_of_ble_eq_true rfl) (Nat.le_of_ble_eq_true rfl) (Nat.le_of_ble_eq_true rfl) ?_
          show w_T L xs _ m_X5_writeMonth 0 (lv_args 0 [.ref 67, .int (Int32.ofInt (-2))]) [] (u_S S0 mo ta te tf le) R _
          refine w_dm (Nat.zero_le _) (x_write hm (fun a1 m1 l1 y1 y2 => ?_))
          refine w_st rfl (fun _ => rfl) ?_
          refine w_st rfl (fun _ => rfl) ?_
          show w_T L xs (d + 2) m_X5_readMonth 123 [(5, .int (x_h S0 ta te)), (4, .int (Int32.ofInt 1)), (3, .int (Int32.ofInt (mo : Int))), (2, .int ta), (0, .ref 67), (1, .int dp)] [.ref 67] (u_S S0 m1 a1 te tf l1) R Q
          refine w_get rfl rfl rfl ?_
          show w_T L xs (d + 2) m_X5_readMonth 126 [(5, .int (x_h S0 ta te)), (4, .int (Int32.ofInt 1)), (3, .int (Int32.ofInt (mo : Int))), (2, .int ta), (0, .ref 67), (1, .int dp)] [.int tf] (u_S S0 m1 a1 te tf l1) R Q
          refine w_br (P := ¬ tf = 0) rfl (fun _ => rfl) (fun h126 => ?_) (fun h126 => ?_)
          · refine w_ret rfl rfl ?_
            exact hq _ _ _ _ _ (by omega) (by omega)
          · refine w_st rfl (fun _ => rfl) ?_
            refine w_st rfl (fun _ => rfl) ?_
            refine w_st rfl (fun _ => rfl) ?_
            refine w_st rfl (fun _ => rfl) ?_
            show w_T L xs (d + 2) m_X5_readMonth 134 [(5, .int (x_h S0 ta te)), (4, .int (Int32.ofInt 1)), (3, .int (Int32.ofInt (mo : Int))), (2, .int ta), (0, .ref 67), (1, .int dp)] [.int ta, .int (Int32.ofInt 1), .int (Int32.ofInt (mo : Int)), .ref 67] (u_S S0 m1 a1 te tf l1) R Q
            refine w_cv rfl (by decide) mt_X5_repeat rfl rfl rfl rfl (Nat.le_of_ble_eq_true rfl) (Nat.le_of_ble_eq_true rfl) (Nat.le_of_ble_eq_true rfl) ?_
            show w_T L xs _ m_X5_repeat 0 (lv_args 0 [.ref 67, .int (Int32.ofInt (mo : Int)), .int (Int32.ofInt 1), .int ta]) [] (u_S S0 m1 a1 te tf l1) R _
            refine w_dm (d := 1) (by omega) (x_repeat (d := 0) (b := mo) rfl y1 y2 ht.1 ht.2 (fun m2 e2 f2 l2 y3 y4 => ?_))
            show w_T L xs (d + 2) m_X5_readMonth 137 [(5, .int (x_h S0 ta te)), (4, .int (Int32.ofInt 1)), (3, .int (Int32.ofInt (mo : Int))), (2, .int ta), (0, .ref 67), (1, .int dp)] [] (u_S S0 m2 a1 e2 f2 l2) R Q
            refine w_ret rfl rfl ?_
            exact hq _ _ _ _ _ (by omega) (by omega)
      · refine w_st rfl (fun _ => rfl) ?_
        refine w_st rfl (fun _ => rfl) ?_
        show w_T L xs (d + 2) m_X5_readMonth 65 [(5, .int (x_h S0 ta te)), (4, .int (Int32.ofInt 1)), (3, .int (Int32.ofInt (mo : Int))), (2, .int ta), (0, .ref 67), (1, .int dp)] [.int dp, .ref 67] (u_S S0 mo ta te tf le) R Q
        refine w_cv rfl (by decide) mt_X5_readGroup rfl rfl rfl rfl (Nat.le_of_ble_eq_true rfl) (Nat.le_of_ble_eq_true rfl) (Nat.le_of_ble_eq_true rfl) ?_
        show w_T L xs _ m_X5_readGroup 0 (lv_args 0 [.ref 67, .int dp]) [] (u_S S0 mo ta te tf le) R _
        refine h _ _ _ _ _ _ hm (fun m1 a1 e1 f1 l1 y1 y2 => ?_)
        refine w_st rfl (fun _ => rfl) ?_
        refine w_st rfl (fun _ => rfl) ?_
        show w_T L xs (d + 2) m_X5_readMonth 123 [(5, .int (x_h S0 ta te)), (4, .int (Int32.ofInt 1)), (3, .int (Int32.ofInt (mo : Int))), (2, .int ta), (0, .ref 67), (1, .int dp)] [.ref 67] (u_S S0 m1 a1 e1 f1 l1) R Q
        refine w_get rfl rfl rfl ?_
        show w_T L xs (d + 2) m_X5_readMonth 126 [(5, .int (x_h S0 ta te)), (4, .int (Int32.ofInt 1)), (3, .int (Int32.ofInt (mo : Int))), (2, .int ta), (0, .ref 67), (1, .int dp)] [.int f1] (u_S S0 m1 a1 e1 f1 l1) R Q
        refine w_br (P := ¬ f1 = 0) rfl (fun _ => rfl) (fun h126 => ?_) (fun h126 => ?_)
        · refine w_ret rfl rfl ?_
          exact hq _ _ _ _ _ (by omega) (by omega)
        · refine w_st rfl (fun _ => rfl) ?_
          refine w_st rfl (fun _ => rfl) ?_
          refine w_st rfl (fun _ => rfl) ?_
          refine w_st rfl (fun _ => rfl) ?_
          show w_T L xs (d + 2) m_X5_readMonth 134 [(5, .int (x_h S0 ta te)), (4, .int (Int32.ofInt 1)), (3, .int (Int32.ofInt (mo : Int))), (2, .int ta), (0, .ref 67), (1, .int dp)] [.int ta, .int (Int32.ofInt 1), .int (Int32.ofInt (mo : Int)), .ref 67] (u_S S0 m1 a1 e1 f1 l1) R Q
          refine w_cv rfl (by decide) mt_X5_repeat rfl rfl rfl rfl (Nat.le_of_ble_eq_true rfl) (Nat.le_of_ble_eq_true rfl) (Nat.le_of_ble_eq_true rfl) ?_
          show w_T L xs _ m_X5_repeat 0 (lv_args 0 [.ref 67, .int (Int32.ofInt (mo : Int)), .int (Int32.ofInt 1), .int ta]) [] (u_S S0 m1 a1 e1 f1 l1) R _
          refine w_dm (d := 1) (by omega) (x_repeat (d := 0) (b := mo) rfl y1 y2 ht.1 ht.2 (fun m2 e2 f2 l2 y3 y4 => ?_))
          show w_T L xs (d + 2) m_X5_readMonth 137 [(5, .int (x_h S0 ta te)), (4, .int (Int32.ofInt 1)), (3, .int (Int32.ofInt (mo : Int))), (2, .int ta), (0, .ref 67), (1, .int dp)] [] (u_S S0 m2 a1 e2 f2 l2) R Q
          refine w_ret rfl rfl ?_
          exact hq _ _ _ _ _ (by omega) (by omega)
    · refine w_st rfl (fun _ => rfl) ?_
      show w_T L xs (d + 2) m_X5_readMonth 32 [(4, .int (Int32.ofInt 1)), (3, .int (Int32.ofInt (mo : Int))), (2, .int ta), (0, .ref 67), (1, .int dp)] [.ref 67] (u_S S0 mo ta te tf le) R Q
      refine w_cv rfl (by decide) mt_X5_here rfl rfl rfl rfl (Nat.le_of_ble_eq_true rfl) (Nat.le_of_ble_eq_true rfl) (Nat.le_of_ble_eq_true rfl) ?_
      show w_T L xs _ m_X5_here 0 (lv_args 0 [.ref 67]) [] (u_S S0 mo ta te tf le) R _
      refine x_here hs ?_
      refine w_st rfl (fun _ => rfl) ?_
      refine w_st rfl (fun _ => rfl) ?_
      refine w_st rfl (fun _ => rfl) ?_
      refine w_st rfl (fun _ => rfl) ?_
      refine w_st rfl (fun _ => rfl) ?_
      show w_T L xs (d + 2) m_X5_readMonth 42 [(4, .int ((x_h S0 ta te) - (Int32.ofInt 48))), (3, .int (Int32.ofInt (mo : Int))), (2, .int ta), (0, .ref 67), (1, .int dp)] [.ref 67, .ref 67] (u_S S0 mo ta te tf le) R Q
      refine w_get rfl rfl rfl ?_
      refine w_st rfl (fun _ => rfl) ?_
      refine w_st rfl (fun _ => rfl) ?_
      show w_T L xs (d + 2) m_X5_readMonth 47 [(4, .int ((x_h S0 ta te) - (Int32.ofInt 48))), (3, .int (Int32.ofInt (mo : Int))), (2, .int ta), (0, .ref 67), (1, .int dp)] [.int (ta + (Int32.ofInt 1)), .ref 67] (u_S S0 mo ta te tf le) R Q
      refine w_put rfl rfl rfl rfl rfl ?_
      refine w_eqS u_wta ?_
      show w_T L xs (d + 2) m_X5_readMonth 50 [(4, .int ((x_h S0 ta te) - (Int32.ofInt 48))), (3, .int (Int32.ofInt (mo : Int))), (2, .int ta), (0, .ref 67), (1, .int dp)] [] (u_S S0 mo (ta + (Int32.ofInt 1)) te tf le) R Q
      have ht : 1 ≤ ((x_h S0 ta te) - (Int32.ofInt 48)).toInt ∧ ((x_h S0 ta te) - (Int32.ofInt 48)).toInt ≤ 9 := by
        rw [q_lt32, e50] at h19
        rw [q_lt32, e57] at h28
        have e1 : x_h S0 ta te - Int32.ofInt 48 = Int32.ofInt ((x_h S0 ta te).toInt - 48) := by rw [Int32.ofInt_sub, q_of]
        rw [e1, q_ofr (by omega) (by omega)]
        omega
      refine w_st rfl (fun _ => rfl) ?_
      show w_T L xs (d + 2) m_X5_readMonth 51 [(4, .int ((x_h S0 ta te) - (Int32.ofInt 48))), (3, .int (Int32.ofInt (mo : Int))), (2, .int ta), (0, .ref 67), (1, .int dp)] [.ref 67] (u_S S0 mo (ta + (Int32.ofInt 1)) te tf le) R Q
      refine w_cv rfl (by decide) mt_X5_here rfl rfl rfl rfl (Nat.le_of_ble_eq_true rfl) (Nat.le_of_ble_eq_true rfl) (Nat.le_of_ble_eq_true rfl) ?_
      show w_T L xs _ m_X5_here 0 (lv_args 0 [.ref 67]) [] (u_S S0 mo (ta + (Int32.ofInt 1)) te tf le) R _
      refine x_here hs ?_
      refine w_st rfl (fun _ => rfl) ?_
      refine w_st rfl (fun _ => rfl) ?_
      refine w_st rfl (fun _ => rfl) ?_
      show w_T L xs (d + 2) m_X5_readMonth 60 [(5, .int (x_h S0 (ta + (Int32.ofInt 1)) te)), (4, .int ((x_h S0 ta te) - (Int32.ofInt 48))), (3, .int (Int32.ofInt (mo : Int))), (2, .int ta), (0, .ref 67), (1, .int dp)] [.int (Int32.ofInt 40), .int (x_h S0 (ta + (Int32.ofInt 1)) te)] (u_S S0 mo (ta + (Int32.ofInt 1)) te tf le) R Q
      refine w_br (P := ¬ (x_h S0 (ta + (Int32.ofInt 1)) te) = (Int32.ofInt 40)) rfl (fun _ => rfl) (fun h60 => ?_) (fun h60 => ?_)
      · refine w_st rfl (fun _ => rfl) ?_
        refine w_st rfl (fun _ => rfl) ?_
        show w_T L xs (d + 2) m_X5_readMonth 75 [(5, .int (x_h S0 (ta + (Int32.ofInt 1)) te)), (4, .int ((x_h S0 ta te) - (Int32.ofInt 48))), (3, .int (Int32.ofInt (mo : Int))), (2, .int ta), (0, .ref 67), (1, .int dp)] [.int (Int32.ofInt 46), .int (x_h S0 (ta + (Int32.ofInt 1)) te)] (u_S S0 mo (ta + (Int32.ofInt 1)) te tf le) R Q
        refine w_br (P := ¬ (x_h S0 (ta + (Int32.ofInt 1)) te) = (Int32.ofInt 46)) rfl (fun _ => rfl) (fun h75 => ?_) (fun h75 => ?_)
        · refine w_st rfl (fun _ => rfl) ?_
          refine w_st rfl (fun _ => rfl) ?_
          show w_T L xs (d + 2) m_X5_readMonth 91 [(5, .int (x_h S0 (ta + (Int32.ofInt 1)) te)), (4, .int ((x_h S0 ta te) - (Int32.ofInt 48))), (3, .int (Int32.ofInt (mo : Int))), (2, .int ta), (0, .ref 67), (1, .int dp)] [.int (Int32.ofInt 65), .int (x_h S0 (ta + (Int32.ofInt 1)) te)] (u_S S0 mo (ta + (Int32.ofInt 1)) te tf le) R Q
          refine w_br (P := (x_h S0 (ta + (Int32.ofInt 1)) te) < (Int32.ofInt 65)) rfl (fun _ => rfl) (fun h91 => ?_) (fun h91 => ?_)
          · refine w_st rfl (fun _ => rfl) ?_
            refine w_st rfl (fun _ => rfl) ?_
            refine w_st rfl (fun _ => rfl) ?_
            show w_T L xs (d + 2) m_X5_readMonth 116 [(5, .int (x_h S0 (ta + (Int32.ofInt 1)) te)), (4, .int ((x_h S0 ta te) - (Int32.ofInt 48))), (3, .int (Int32.ofInt (mo : Int))), (2, .int ta), (0, .ref 67), (1, .int dp)] [.ref 67, .int (Int32.ofInt 1), .ref 67] (u_S S0 mo (ta + (Int32.ofInt 1)) te tf le) R Q
            refine w_get rfl rfl rfl ?_
            show w_T L xs (d + 2) m_X5_readMonth 119 [(5, .int (x_h S0 (ta + (Int32.ofInt 1)) te)), (4, .int ((x_h S0 ta te) - (Int32.ofInt 48))), (3, .int (Int32.ofInt (mo : Int))), (2, .int ta), (0, .ref 67), (1, .int dp)] [.int ((ta + (Int32.ofInt 1))), .int (Int32.ofInt 1), .ref 67] (u_S S0 mo (ta + (Int32.ofInt 1)) te tf le) R Q
            refine w_cv rfl (by decide) mt_X5_fail rfl rfl rfl rfl (Nat.le_of_ble_eq_true rfl) (Nat.le_of_ble_eq_true rfl) (Nat.le_of_ble_eq_true rfl) ?_
            show w_T L xs _ m_X5_fail 0 (lv_args 0 [.ref 67, .int (Int32.ofInt 1), .int ((ta + (Int32.ofInt 1)))]) [] (u_S S0 mo (ta + (Int32.ofInt 1)) te tf le) R _
            refine x_fail (fun e1 f1 => ?_)
            have y1 : mo ≤ mo := Nat.le_refl _
            have y2 := hm
            refine w_st rfl (fun _ => rfl) ?_
            show w_T L xs (d + 2) m_X5_readMonth 123 [(5, .int (x_h S0 (ta + (Int32.ofInt 1)) te)), (4, .int ((x_h S0 ta te) - (Int32.ofInt 48))), (3, .int (Int32.ofInt (mo : Int))), (2, .int ta), (0, .ref 67), (1, .int dp)] [.ref 67] (u_S S0 mo (ta + (Int32.ofInt 1)) e1 f1 le) R Q
            refine w_get rfl rfl rfl ?_
            show w_T L xs (d + 2) m_X5_readMonth 126 [(5, .int (x_h S0 (ta + (Int32.ofInt 1)) te)), (4, .int ((x_h S0 ta te) - (Int32.ofInt 48))), (3, .int (Int32.ofInt (mo : Int))), (2, .int ta), (0, .ref 67), (1, .int dp)] [.int f1] (u_S S0 mo (ta + (Int32.ofInt 1)) e1 f1 le) R Q
            refine w_br (P := ¬ f1 = 0) rfl (fun _ => rfl) (fun h126 => ?_) (fun h126 => ?_)
            · refine w_ret rfl rfl ?_
              exact hq _ _ _ _ _ (by omega) (by omega)
            · refine w_st rfl (fun _ => rfl) ?_
              refine w_st rfl (fun _ => rfl) ?_
              refine w_st rfl (fun _ => rfl) ?_
              refine w_st rfl (fun _ => rfl) ?_
              show w_T L xs (d + 2) m_X5_readMonth 134 [(5, .int (x_h S0 (ta + (Int32.ofInt 1)) te)), (4, .int ((x_h S0 ta te) - (Int32.ofInt 48))), (3, .int (Int32.ofInt (mo : Int))), (2, .int ta), (0, .ref 67), (1, .int dp)] [.int ta, .int ((x_h S0 ta te) - (Int32.ofInt 48)), .int (Int32.ofInt (mo : Int)), .ref 67] (u_S S0 mo (ta + (Int32.ofInt 1)) e1 f1 le) R Q
              refine w_cv rfl (by decide) mt_X5_repeat rfl rfl rfl rfl (Nat.le_of_ble_eq_true rfl) (Nat.le_of_ble_eq_true rfl) (Nat.le_of_ble_eq_true rfl) ?_
              show w_T L xs _ m_X5_repeat 0 (lv_args 0 [.ref 67, .int (Int32.ofInt (mo : Int)), .int ((x_h S0 ta te) - (Int32.ofInt 48)), .int ta]) [] (u_S S0 mo (ta + (Int32.ofInt 1)) e1 f1 le) R _
              refine w_dm (d := 1) (by omega) (x_repeat (d := 0) (b := mo) rfl y1 y2 ht.1 ht.2 (fun m2 e2 f2 l2 y3 y4 => ?_))
              show w_T L xs (d + 2) m_X5_readMonth 137 [(5, .int (x_h S0 (ta + (Int32.ofInt 1)) te)), (4, .int ((x_h S0 ta te) - (Int32.ofInt 48))), (3, .int (Int32.ofInt (mo : Int))), (2, .int ta), (0, .ref 67), (1, .int dp)] [] (u_S S0 m2 (ta + (Int32.ofInt 1)) e2 f2 l2) R Q
              refine w_ret rfl rfl ?_
              exact hq _ _ _ _ _ (by omega) (by omega)
          · refine w_st rfl (fun _ => rfl) ?_
            refine w_st rfl (fun _ => rfl) ?_
            show w_T L xs (d + 2) m_X5_readMonth 98 [(5, .int (x_h S0 (ta + (Int32.ofInt 1)) te)), (4, .int ((x_h S0 ta te) - (Int32.ofInt 48))), (3, .int (Int32.ofInt (mo : Int))), (2, .int ta), (0, .ref 67), (1, .int dp)] [.int (Int32.ofInt 74), .int (x_h S0 (ta + (Int32.ofInt 1)) te)] (u_S S0 mo (ta + (Int32.ofInt 1)) te tf le) R Q
            refine w_br (P := (Int32.ofInt 74) < (x_h S0 (ta + (Int32.ofInt 1)) te)) rfl (fun _ => rfl) (fun h98 => ?_) (fun h98 => ?_)
            · refine w_st rfl (fun _ => rfl) ?_
              refine w_st rfl (fun _ => rfl) ?_
              refine w_st rfl (fun _ => rfl) ?_
              show w_T L xs (d + 2) m_X5_readMonth 116 [(5, .int (x_h S0 (ta + (Int32.ofInt 1)) te)), (4, .int ((x_h S0 ta te) - (Int32.ofInt 48))), (3, .int (Int32.ofInt (mo : Int))), (2, .int ta), (0, .ref 67), (1, .int dp)] [.ref 67, .int (Int32.ofInt 1), .ref 67] (u_S S0 mo (ta + (Int32.ofInt 1)) te tf le) R Q
              refine w_get rfl rfl rfl ?_
              show w_T L xs (d + 2) m_X5_readMonth 119 [(5, .int (x_h S0 (ta + (Int32.ofInt 1)) te)), (4, .int ((x_h S0 ta te) - (Int32.ofInt 48))), (3, .int (Int32.ofInt (mo : Int))), (2, .int ta), (0, .ref 67), (1, .int dp)] [.int ((ta + (Int32.ofInt 1))), .int (Int32.ofInt 1), .ref 67] (u_S S0 mo (ta + (Int32.ofInt 1)) te tf le) R Q
              refine w_cv rfl (by decide) mt_X5_fail rfl rfl rfl rfl (Nat.le_of_ble_eq_true rfl) (Nat.le_of_ble_eq_true rfl) (Nat.le_of_ble_eq_true rfl) ?_
              show w_T L xs _ m_X5_fail 0 (lv_args 0 [.ref 67, .int (Int32.ofInt 1), .int ((ta + (Int32.ofInt 1)))]) [] (u_S S0 mo (ta + (Int32.ofInt 1)) te tf le) R _
              refine x_fail (fun e1 f1 => ?_)
              have y1 : mo ≤ mo := Nat.le_refl _
              have y2 := hm
              refine w_st rfl (fun _ => rfl) ?_
              show w_T L xs (d + 2) m_X5_readMonth 123 [(5, .int (x_h S0 (ta + (Int32.ofInt 1)) te)), (4, .int ((x_h S0 ta te) - (Int32.ofInt 48))), (3, .int (Int32.ofInt (mo : Int))), (2, .int ta), (0, .ref 67), (1, .int dp)] [.ref 67] (u_S S0 mo (ta + (Int32.ofInt 1)) e1 f1 le) R Q
              refine w_get rfl rfl rfl ?_
              show w_T L xs (d + 2) m_X5_readMonth 126 [(5, .int (x_h S0 (ta + (Int32.ofInt 1)) te)), (4, .int ((x_h S0 ta te) - (Int32.ofInt 48))), (3, .int (Int32.ofInt (mo : Int))), (2, .int ta), (0, .ref 67), (1, .int dp)] [.int f1] (u_S S0 mo (ta + (Int32.ofInt 1)) e1 f1 le) R Q
              refine w_br (P := ¬ f1 = 0) rfl (fun _ => rfl) (fun h126 => ?_) (fun h126 => ?_)
              · refine w_ret rfl rfl ?_
                exact hq _ _ _ _ _ (by omega) (by omega)
              · refine w_st rfl (fun _ => rfl) ?_
                refine w_st rfl (fun _ => rfl) ?_
                refine w_st rfl (fun _ => rfl) ?_
                refine w_st rfl (fun _ => rfl) ?_
                show w_T L xs (d + 2) m_X5_readMonth 134 [(5, .int (x_h S0 (ta + (Int32.ofInt 1)) te)), (4, .int ((x_h S0 ta te) - (Int32.ofInt 48))), (3, .int (Int32.ofInt (mo : Int))), (2, .int ta), (0, .ref 67), (1, .int dp)] [.int ta, .int ((x_h S0 ta te) - (Int32.ofInt 48)), .int (Int32.ofInt (mo : Int)), .ref 67] (u_S S0 mo (ta + (Int32.ofInt 1)) e1 f1 le) R Q
                refine w_cv rfl (by decide) mt_X5_repeat rfl rfl rfl rfl (Nat.le_of_ble_eq_true rfl) (Nat.le_of_ble_eq_true rfl) (Nat.le_of_ble_eq_true rfl) ?_
                show w_T L xs _ m_X5_repeat 0 (lv_args 0 [.ref 67, .int (Int32.ofInt (mo : Int)), .int ((x_h S0 ta te) - (Int32.ofInt 48)), .int ta]) [] (u_S S0 mo (ta + (Int32.ofInt 1)) e1 f1 le) R _
                refine w_dm (d := 1) (by omega) (x_repeat (d := 0) (b := mo) rfl y1 y2 ht.1 ht.2 (fun m2 e2 f2 l2 y3 y4 => ?_))
                show w_T L xs (d + 2) m_X5_readMonth 137 [(5, .int (x_h S0 (ta + (Int32.ofInt 1)) te)), (4, .int ((x_h S0 ta te) - (Int32.ofInt 48))), (3, .int (Int32.ofInt (mo : Int))), (2, .int ta), (0, .ref 67), (1, .int dp)] [] (u_S S0 m2 (ta + (Int32.ofInt 1)) e2 f2 l2) R Q
                refine w_ret rfl rfl ?_
                exact hq _ _ _ _ _ (by omega) (by omega)
            · refine w_st rfl (fun _ => rfl) ?_
              refine w_st rfl (fun _ => rfl) ?_
              refine w_st rfl (fun _ => rfl) ?_
              refine w_st rfl (fun _ => rfl) ?_
              show w_T L xs (d + 2) m_X5_readMonth 107 [(5, .int (x_h S0 (ta + (Int32.ofInt 1)) te)), (4, .int ((x_h S0 ta te) - (Int32.ofInt 48))), (3, .int (Int32.ofInt (mo : Int))), (2, .int ta), (0, .ref 67), (1, .int dp)] [.int ((x_h S0 (ta + (Int32.ofInt 1)) te) - (Int32.ofInt 65)), .ref 67] (u_S S0 mo (ta + (Int32.ofInt 1)) te tf le) R Q
              refine w_cv rfl (by decide) mt_X5_writeMonth rfl rfl rfl rfl (Nat.le_of_ble_eq_true rfl) (Nat.le_of_ble_eq_true rfl) (Nat.le_of_ble_eq_true rfl) ?_
              show w_T L xs _ m_X5_writeMonth 0 (lv_args 0 [.ref 67, .int ((x_h S0 (ta + (Int32.ofInt 1)) te) - (Int32.ofInt 65))]) [] (u_S S0 mo (ta + (Int32.ofInt 1)) te tf le) R _
              refine w_dm (Nat.zero_le _) (x_write hm (fun a1 m1 l1 y1 y2 => ?_))
              refine w_st rfl (fun _ => rfl) ?_
              refine w_st rfl (fun _ => rfl) ?_
              show w_T L xs (d + 2) m_X5_readMonth 123 [(5, .int (x_h S0 (ta + (Int32.ofInt 1)) te)), (4, .int ((x_h S0 ta te) - (Int32.ofInt 48))), (3, .int (Int32.ofInt (mo : Int))), (2, .int ta), (0, .ref 67), (1, .int dp)] [.ref 67] (u_S S0 m1 a1 te tf l1) R Q
              refine w_get rfl rfl rfl ?_
              show w_T L xs (d + 2) m_X5_readMonth 126 [(5, .int (x_h S0 (ta + (Int32.ofInt 1)) te)), (4, .int ((x_h S0 ta te) - (Int32.ofInt 48))), (3, .int (Int32.ofInt (mo : Int))), (2, .int ta), (0, .ref 67), (1, .int dp)] [.int tf] (u_S S0 m1 a1 te tf l1) R Q
              refine w_br (P := ¬ tf = 0) rfl (fun _ => rfl) (fun h126 => ?_) (fun h126 => ?_)
              · refine w_ret rfl rfl ?_
                exact hq _ _ _ _ _ (by omega) (by omega)
              · refine w_st rfl (fun _ => rfl) ?_
                refine w_st rfl (fun _ => rfl) ?_
                refine w_st rfl (fun _ => rfl) ?_
                refine w_st rfl (fun _ => rfl) ?_
                show w_T L xs (d + 2) m_X5_readMonth 134 [(5, .int (x_h S0 (ta + (Int32.ofInt 1)) te)), (4, .int ((x_h S0 ta te) - (Int32.ofInt 48))), (3, .int (Int32.ofInt (mo : Int))), (2, .int ta), (0, .ref 67), (1, .int dp)] [.int ta, .int ((x_h S0 ta te) - (Int32.ofInt 48)), .int (Int32.ofInt (mo : Int)), .ref 67] (u_S S0 m1 a1 te tf l1) R Q
                refine w_cv rfl (by decide) mt_X5_repeat rfl rfl rfl rfl (Nat.le_of_ble_eq_true rfl) (Nat.le_of_ble_eq_true rfl) (Nat.le_of_ble_eq_true rfl) ?_
                show w_T L xs _ m_X5_repeat 0 (lv_args 0 [.ref 67, .int (Int32.ofInt (mo : Int)), .int ((x_h S0 ta te) - (Int32.ofInt 48)), .int ta]) [] (u_S S0 m1 a1 te tf l1) R _
                refine w_dm (d := 1) (by omega) (x_repeat (d := 0) (b := mo) rfl y1 y2 ht.1 ht.2 (fun m2 e2 f2 l2 y3 y4 => ?_))
                show w_T L xs (d + 2) m_X5_readMonth 137 [(5, .int (x_h S0 (ta + (Int32.ofInt 1)) te)), (4, .int ((x_h S0 ta te) - (Int32.ofInt 48))), (3, .int (Int32.ofInt (mo : Int))), (2, .int ta), (0, .ref 67), (1, .int dp)] [] (u_S S0 m2 a1 e2 f2 l2) R Q
                refine w_ret rfl rfl ?_
                exact hq _ _ _ _ _ (by omega) (by omega)
        · refine w_st rfl (fun _ => rfl) ?_
          refine w_st rfl (fun _ => rfl) ?_
          show w_T L xs (d + 2) m_X5_readMonth 81 [(5, .int (x_h S0 (ta + (Int32.ofInt 1)) te)), (4, .int ((x_h S0 ta te) - (Int32.ofInt 48))), (3, .int (Int32.ofInt (mo : Int))), (2, .int ta), (0, .ref 67), (1, .int dp)] [.int (Int32.ofInt (-2)), .ref 67] (u_S S0 mo (ta + (Int32.ofInt 1)) te tf le) R Q
          refine w_cv rfl (by decide) mt_X5_writeMonth rfl rfl rfl rfl (Nat.le_of_ble_eq_true rfl) (Nat.le_of_ble_eq_true rfl) (Nat.le_of_ble_eq_true rfl) ?_
          show w_T L xs _ m_X5_writeMonth 0 (lv_args 0 [.ref 67, .int (Int32.ofInt (-2))]) [] (u_S S0 mo (ta + (Int32.ofInt 1)) te tf le) R _
          refine w_dm (Nat.zero_le _) (x_write hm (fun a1 m1 l1 y1 y2 => ?_))
          refine w_st rfl (fun _ => rfl) ?_
          refine w_st rfl (fun _ => rfl) ?_
          show w_T L xs (d + 2) m_X5_readMonth 123 [(5, .int (x_h S0 (ta + (Int32.ofInt 1)) te)), (4, .int ((x_h S0 ta te) - (Int32.ofInt 48))), (3, .int (Int32.ofInt (mo : Int))), (2, .int ta), (0, .ref 67), (1, .int dp)] [.ref 67] (u_S S0 m1 a1 te tf l1) R Q
          refine w_get rfl rfl rfl ?_
          show w_T L xs (d + 2) m_X5_readMonth 126 [(5, .int (x_h S0 (ta + (Int32.ofInt 1)) te)), (4, .int ((x_h S0 ta te) - (Int32.ofInt 48))), (3, .int (Int32.ofInt (mo : Int))), (2, .int ta), (0, .ref 67), (1, .int dp)] [.int tf] (u_S S0 m1 a1 te tf l1) R Q
          refine w_br (P := ¬ tf = 0) rfl (fun _ => rfl) (fun h126 => ?_) (fun h126 => ?_)
          · refine w_ret rfl rfl ?_
            exact hq _ _ _ _ _ (by omega) (by omega)
          · refine w_st rfl (fun _ => rfl) ?_
            refine w_st rfl (fun _ => rfl) ?_
            refine w_st rfl (fun _ => rfl) ?_
            refine w_st rfl (fun _ => rfl) ?_
            show w_T L xs (d + 2) m_X5_readMonth 134 [(5, .int (x_h S0 (ta + (Int32.ofInt 1)) te)), (4, .int ((x_h S0 ta te) - (Int32.ofInt 48))), (3, .int (Int32.ofInt (mo : Int))), (2, .int ta), (0, .ref 67), (1, .int dp)] [.int ta, .int ((x_h S0 ta te) - (Int32.ofInt 48)), .int (Int32.ofInt (mo : Int)), .ref 67] (u_S S0 m1 a1 te tf l1) R Q
            refine w_cv rfl (by decide) mt_X5_repeat rfl rfl rfl rfl (Nat.le_of_ble_eq_true rfl) (Nat.le_of_ble_eq_true rfl) (Nat.le_of_ble_eq_true rfl) ?_
            show w_T L xs _ m_X5_repeat 0 (lv_args 0 [.ref 67, .int (Int32.ofInt (mo : Int)), .int ((x_h S0 ta te) - (Int32.ofInt 48)), .int ta]) [] (u_S S0 m1 a1 te tf l1) R _
            refine w_dm (d := 1) (by omega) (x_repeat (d := 0) (b := mo) rfl y1 y2 ht.1 ht.2 (fun m2 e2 f2 l2 y3 y4 => ?_))
            show w_T L xs (d + 2) m_X5_readMonth 137 [(5, .int (x_h S0 (ta + (Int32.ofInt 1)) te)), (4, .int ((x_h S0 ta te) - (Int32.ofInt 48))), (3, .int (Int32.ofInt (mo : Int))), (2, .int ta), (0, .ref 67), (1, .int dp)] [] (u_S S0 m2 a1 e2 f2 l2) R Q
            refine w_ret rfl rfl ?_
            exact hq _ _ _ _ _ (by omega) (by omega)
      · refine w_st rfl (fun _ => rfl) ?_
        refine w_st rfl (fun _ => rfl) ?_
        show w_T L xs (d + 2) m_X5_readMonth 65 [(5, .int (x_h S0 (ta + (Int32.ofInt 1)) te)), (4, .int ((x_h S0 ta te) - (Int32.ofInt 48))), (3, .int (Int32.ofInt (mo : Int))), (2, .int ta), (0, .ref 67), (1, .int dp)] [.int dp, .ref 67] (u_S S0 mo (ta + (Int32.ofInt 1)) te tf le) R Q
        refine w_cv rfl (by decide) mt_X5_readGroup rfl rfl rfl rfl (Nat.le_of_ble_eq_true rfl) (Nat.le_of_ble_eq_true rfl) (Nat.le_of_ble_eq_true rfl) ?_
        show w_T L xs _ m_X5_readGroup 0 (lv_args 0 [.ref 67, .int dp]) [] (u_S S0 mo (ta + (Int32.ofInt 1)) te tf le) R _
        refine h _ _ _ _ _ _ hm (fun m1 a1 e1 f1 l1 y1 y2 => ?_)
        refine w_st rfl (fun _ => rfl) ?_
        refine w_st rfl (fun _ => rfl) ?_
        show w_T L xs (d + 2) m_X5_readMonth 123 [(5, .int (x_h S0 (ta + (Int32.ofInt 1)) te)), (4, .int ((x_h S0 ta te) - (Int32.ofInt 48))), (3, .int (Int32.ofInt (mo : Int))), (2, .int ta), (0, .ref 67), (1, .int dp)] [.ref 67] (u_S S0 m1 a1 e1 f1 l1) R Q
        refine w_get rfl rfl rfl ?_
        show w_T L xs (d + 2) m_X5_readMonth 126 [(5, .int (x_h S0 (ta + (Int32.ofInt 1)) te)), (4, .int ((x_h S0 ta te) - (Int32.ofInt 48))), (3, .int (Int32.ofInt (mo : Int))), (2, .int ta), (0, .ref 67), (1, .int dp)] [.int f1] (u_S S0 m1 a1 e1 f1 l1) R Q
        refine w_br (P := ¬ f1 = 0) rfl (fun _ => rfl) (fun h126 => ?_) (fun h126 => ?_)
        · refine w_ret rfl rfl ?_
          exact hq _ _ _ _ _ (by omega) (by omega)
        · refine w_st rfl (fun _ => rfl) ?_
          refine w_st rfl (fun _ => rfl) ?_
          refine w_st rfl (fun _ => rfl) ?_
          refine w_st rfl (fun _ => rfl) ?_
          show w_T L xs (d + 2) m_X5_readMonth 134 [(5, .int (x_h S0 (ta + (Int32.ofInt 1)) te)), (4, .int ((x_h S0 ta te) - (Int32.ofInt 48))), (3, .int (Int32.ofInt (mo : Int))), (2, .int ta), (0, .ref 67), (1, .int dp)] [.int ta, .int ((x_h S0 ta te) - (Int32.ofInt 48)), .int (Int32.ofInt (mo : Int)), .ref 67] (u_S S0 m1 a1 e1 f1 l1) R Q
          refine w_cv rfl (by decide) mt_X5_repeat rfl rfl rfl rfl (Nat.le_of_ble_eq_true rfl) (Nat.le_of_ble_eq_true rfl) (Nat.le_of_ble_eq_true rfl) ?_
          show w_T L xs _ m_X5_repeat 0 (lv_args 0 [.ref 67, .int (Int32.ofInt (mo : Int)), .int ((x_h S0 ta te) - (Int32.ofInt 48)), .int ta]) [] (u_S S0 m1 a1 e1 f1 l1) R _
          refine w_dm (d := 1) (by omega) (x_repeat (d := 0) (b := mo) rfl y1 y2 ht.1 ht.2 (fun m2 e2 f2 l2 y3 y4 => ?_))
          show w_T L xs (d + 2) m_X5_readMonth 137 [(5, .int (x_h S0 (ta + (Int32.ofInt 1)) te)), (4, .int ((x_h S0 ta te) - (Int32.ofInt 48))), (3, .int (Int32.ofInt (mo : Int))), (2, .int ta), (0, .ref 67), (1, .int dp)] [] (u_S S0 m2 a1 e2 f2 l2) R Q
          refine w_ret rfl rfl ?_
          exact hq _ _ _ _ _ (by omega) (by omega)
theorem x_months1 {dp : Int32} (hs : (S0 45 1).toInt ≤ 260) (h : x_C L xs (d + 1) R S0 m_X5_readMonth dp) (m0 : Nat) (hq : ∀ (m' : Nat) (a' e' f' : Int32) (l' : Nat → Int32), m0 ≤ m' → m' ≤ 49 → Q none (u_S S0 m' a' e' f' l') R) : ∀ (c k : Nat) (mo : Nat) (ta te tf : Int32) (le : Nat → Int32), k + c = 60 → m0 ≤ mo → mo ≤ 49 → w_T L xs (d + 2) m_X5_readMonths 2 [(2, .int (Int32.ofInt (k : Int))), (0, .ref 67), (1, .int dp)] [] (u_S S0 mo ta te tf le) R Q := by
  have e60 : (Int32.ofInt 60).toInt = 60 := by decide
  intro c
  induction c with
  | zero =>
    intro k mo ta te tf le hk h0 hm
    have ek := w_nat (k := k) (by omega)
    refine w_st rfl (fun _ => rfl) ?_
    refine w_st rfl (fun _ => rfl) ?_
    show w_T L xs (d + 2) m_X5_readMonths 5 [(2, .int (Int32.ofInt (k : Int))), (0, .ref 67), (1, .int dp)] [.int (Int32.ofInt 60), .int (Int32.ofInt (k : Int))] (u_S S0 mo ta te tf le) R Q
    refine w_br (P := (Int32.ofInt 60) ≤ (Int32.ofInt (k : Int))) rfl (fun _ => rfl) (fun h5 => ?_) (fun h5 => ?_)
    · refine w_ret rfl rfl ?_
      exact hq _ _ _ _ _ (by omega) (by omega)
    · exfalso; rw [q_le32, e60, ek] at h5; omega
  | succ c ih =>
    intro k mo ta te tf le hk h0 hm
    have ek := w_nat (k := k) (by omega)
    refine w_st rfl (fun _ => rfl) ?_
    refine w_st rfl (fun _ => rfl) ?_
    show w_T L xs (d + 2) m_X5_readMonths 5 [(2, .int (Int32.ofInt (k : Int))), (0, .ref 67), (1, .int dp)] [.int (Int32.ofInt 60), .int (Int32.ofInt (k : Int))] (u_S S0 mo ta te tf le) R Q
    refine w_br (P := (Int32.ofInt 60) ≤ (Int32.ofInt (k : Int))) rfl (fun _ => rfl) (fun h5 => ?_) (fun h5 => ?_)
    · exfalso; rw [q_le32, e60, ek] at h5; omega
    · refine w_st rfl (fun _ => rfl) ?_
      refine w_st rfl (fun _ => rfl) ?_
      show w_T L xs (d + 2) m_X5_readMonths 10 [(2, .int (Int32.ofInt (k : Int))), (0, .ref 67), (1, .int dp)] [.int dp, .ref 67] (u_S S0 mo ta te tf le) R Q
      refine w_cv rfl (by decide) mt_X5_readMonth rfl rfl rfl rfl (Nat.le_of_ble_eq_true rfl) (Nat.le_of_ble_eq_true rfl) (Nat.le_of_ble_eq_true rfl) ?_
      show w_T L xs _ m_X5_readMonth 0 (lv_args 0 [.ref 67, .int dp]) [] (u_S S0 mo ta te tf le) R _
      refine h _ _ _ _ _ _ hm (fun m1 a1 e1 f1 l1 y1 y2 => ?_)
      refine w_st rfl (fun _ => rfl) ?_
      show w_T L xs (d + 2) m_X5_readMonths 14 [(2, .int (Int32.ofInt (k : Int))), (0, .ref 67), (1, .int dp)] [.ref 67] (u_S S0 m1 a1 e1 f1 l1) R Q
      refine w_get rfl rfl rfl ?_
      refine w_st rfl (fun _ => rfl) ?_
      show w_T L xs (d + 2) m_X5_readMonths 18 [(2, .int (Int32.ofInt (k : Int))), (0, .ref 67), (1, .int dp)] [.ref 67, .int a1] (u_S S0 m1 a1 e1 f1 l1) R Q
      refine w_get rfl rfl rfl ?_
      show w_T L xs (d + 2) m_X5_readMonths 21 [(2, .int (Int32.ofInt (k : Int))), (0, .ref 67), (1, .int dp)] [.int e1, .int a1] (u_S S0 m1 a1 e1 f1 l1) R Q
      refine w_br (P := e1 ≤ a1) rfl (fun _ => rfl) (fun h21 => ?_) (fun h21 => ?_)
      · refine w_ret rfl rfl ?_
        exact hq _ _ _ _ _ (by omega) (by omega)
      · refine w_st rfl (fun _ => rfl) ?_
        show w_T L xs (d + 2) m_X5_readMonths 25 [(2, .int (Int32.ofInt (k : Int))), (0, .ref 67), (1, .int dp)] [.ref 67] (u_S S0 m1 a1 e1 f1 l1) R Q
        refine w_cv rfl (by decide) mt_X5_here rfl rfl rfl rfl (Nat.le_of_ble_eq_true rfl) (Nat.le_of_ble_eq_true rfl) (Nat.le_of_ble_eq_true rfl) ?_
        show w_T L xs _ m_X5_here 0 (lv_args 0 [.ref 67]) [] (u_S S0 m1 a1 e1 f1 l1) R _
        refine x_here (d := d) hs ?_
        refine w_st rfl (fun _ => rfl) ?_
        show w_T L xs (d + 2) m_X5_readMonths 30 [(2, .int (Int32.ofInt (k : Int))), (0, .ref 67), (1, .int dp)] [.int (Int32.ofInt 41), .int (x_h S0 a1 e1)] (u_S S0 m1 a1 e1 f1 l1) R Q
        refine w_br (P := ¬ (x_h S0 a1 e1) = (Int32.ofInt 41)) rfl (fun _ => rfl) (fun h30 => ?_) (fun h30 => ?_)
        · refine w_st rfl (fun _ => rfl) ?_
          refine w_st rfl (fun _ => rfl) ?_
          show w_T L xs (d + 2) m_X5_readMonths 2 [(2, .int ((Int32.ofInt (k : Int)) + (Int32.ofInt 1))), (0, .ref 67), (1, .int dp)] [] (u_S S0 m1 a1 e1 f1 l1) R Q
          rw [w_inc]
          exact ih (k + 1) _ _ _ _ _ (by omega) (by omega) (by omega)
        · refine w_ret rfl rfl ?_
          exact hq _ _ _ _ _ (by omega) (by omega)
theorem x_months {dp : Int32} (hs : (S0 45 1).toInt ≤ 260) (h : x_C L xs (d + 1) R S0 m_X5_readMonth dp) : x_C L xs (d + 2) R S0 m_X5_readMonths dp := by
  intro mo ta te tf le Q hm hq
  refine w_st rfl (fun _ => rfl) ?_
  refine w_st rfl (fun _ => rfl) ?_
  show w_T L xs (d + 2) m_X5_readMonths 2 [(2, .int (Int32.ofInt 0)), (0, .ref 67), (1, .int dp)] [] (u_S S0 mo ta te tf le) R Q
  exact x_months1 hs h mo hq 60 0 mo ta te tf le rfl (Nat.le_refl _) hm
end UH
end Prt39m
section Prt39n
/-! the class reads a timetable: its row -/
section UN
variable {L : Nat} {xs : Nat → Int32} {d : Nat} {R : v_Rf} {Q : Option Value → v_Sf → v_Rf → Prop} {S0 : v_Sf} {mo : Nat} {ta te tf : Int32} {le : Nat → Int32}
theorem u_wo {a j : Nat} {v : Int32} (ha : a ≠ 66 ∧ a ≠ 74) : v_ur (u_S S0 mo ta te tf le) a (upd ((u_S S0 mo ta te tf le) a) j v) = u_S (v_ur S0 a (upd (S0 a) j v)) mo ta te tf le := by
  obtain ⟨a1, a2⟩ := ha
  refine p_ext ?_ (fun a' j' h => ?_)
  · unfold u_S
    rw [p_bq a1, p_bq a2]
    show v_ur S0 a (upd (S0 a) j v) a j = v
    exact w_urs
  · unfold u_S
    rw [w_urn h, w_urn (fun e => a1 e.1.symm)]
theorem x_clear53 (hq : Q none (u_S (v_ur (v_ur S0 52 (upd (S0 52) 6 (Int32.ofInt 0))) 52 (upd ((v_ur S0 52 (upd (S0 52) 6 (Int32.ofInt 0))) 52) 7 (Int32.ofInt 0))) mo ta te tf le) R) : w_T L xs d m_X1_clear 0 (lv_args 0 [.ref 53]) [] (u_S S0 mo ta te tf le) R Q := by
  refine w_st rfl (fun _ => rfl) ?_
  refine w_st rfl (fun _ => rfl) ?_
  show w_T L xs d m_X1_clear 2 [(0, .ref 53)] [.int (Int32.ofInt 0), .ref 53] (u_S S0 mo ta te tf le) R Q
  refine w_put rfl rfl rfl rfl rfl ?_
  refine w_eqS (u_wo (by decide)) ?_
  refine w_st rfl (fun _ => rfl) ?_
  refine w_st rfl (fun _ => rfl) ?_
  show w_T L xs d m_X1_clear 7 [(0, .ref 53)] [.int (Int32.ofInt 0), .ref 53] (u_S (v_ur S0 52 (upd (S0 52) 6 (Int32.ofInt 0))) mo ta te tf le) R Q
  refine w_put rfl rfl rfl rfl rfl ?_
  refine w_eqS (u_wo (by decide)) ?_
  show w_T L xs d m_X1_clear 10 [(0, .ref 53)] [] (u_S (v_ur (v_ur S0 52 (upd (S0 52) 6 (Int32.ofInt 0))) 52 (upd ((v_ur S0 52 (upd (S0 52) 6 (Int32.ofInt 0))) 52) 7 (Int32.ofInt 0))) mo ta te tf le) R Q
  refine w_ret rfl rfl ?_
  exact hq
theorem x_begin53 {n : Int32} (hT : v_Tb v_ty S0 R) (hR : R 66 1 = some 53) (hq : ∀ S1 : v_Sf, (∀ a j, ¬ ((a = 52 ∨ a = 59 ∨ a = 67) ∧ 6 ≤ j ∧ j ≤ 7) → S1 a j = S0 a j) → v_Tb v_ty S1 R → Q none (u_S S1 0 (Int32.ofInt 0) n (Int32.ofInt 0) le) R) : w_T L xs (d + 1) m_X5_begin 0 (lv_args 0 [.ref 67, .int n]) [] (u_S S0 mo ta te tf le) R Q := by
  refine w_st rfl (fun _ => rfl) ?_
  show w_T L xs (d + 1) m_X5_begin 1 [(0, .ref 67), (1, .int n)] [.ref 67] (u_S S0 mo ta te tf le) R Q
  refine w_getv rfl v_tyR rfl hR ?_
  show w_T L xs (d + 1) m_X5_begin 4 [(0, .ref 67), (1, .int n)] [.ref 53] (u_S S0 mo ta te tf le) R Q
  refine w_cv rfl (by decide) mt_X1_clear rfl rfl rfl rfl (Nat.le_of_ble_eq_true rfl) (Nat.le_of_ble_eq_true rfl) (Nat.le_of_ble_eq_true rfl) ?_
  show w_T L xs _ m_X1_clear 0 (lv_args 0 [.ref 53]) [] (u_S S0 mo ta te tf le) R _
  refine x_clear53 ?_
  refine w_st rfl (fun _ => rfl) ?_
  refine w_st rfl (fun _ => rfl) ?_
  show w_T L xs (d + 1) m_X5_begin 9 [(0, .ref 67), (1, .int n)] [.int (Int32.ofInt 0), .ref 67] (u_S (v_ur (v_ur S0 52 (upd (S0 52) 6 (Int32.ofInt 0))) 52 (upd ((v_ur S0 52 (upd (S0 52) 6 (Int32.ofInt 0))) 52) 7 (Int32.ofInt 0))) mo ta te tf le) R Q
  refine w_put rfl rfl rfl rfl rfl ?_
  refine w_eqS (u_wmo (k := 0) rfl) ?_
  refine w_st rfl (fun _ => rfl) ?_
  refine w_st rfl (fun _ => rfl) ?_
  show w_T L xs (d + 1) m_X5_begin 14 [(0, .ref 67), (1, .int n)] [.int (Int32.ofInt 0), .ref 67] (u_S (v_ur (v_ur S0 52 (upd (S0 52) 6 (Int32.ofInt 0))) 52 (upd ((v_ur S0 52 (upd (S0 52) 6 (Int32.ofInt 0))) 52) 7 (Int32.ofInt 0))) 0 ta te tf le) R Q
  refine w_put rfl rfl rfl rfl rfl ?_
  refine w_eqS u_wta ?_
  refine w_st rfl (fun _ => rfl) ?_
  refine w_st rfl (fun _ => rfl) ?_
  show w_T L xs (d + 1) m_X5_begin 19 [(0, .ref 67), (1, .int n)] [.int n, .ref 67] (u_S (v_ur (v_ur S0 52 (upd (S0 52) 6 (Int32.ofInt 0))) 52 (upd ((v_ur S0 52 (upd (S0 52) 6 (Int32.ofInt 0))) 52) 7 (Int32.ofInt 0))) 0 (Int32.ofInt 0) te tf le) R Q
  refine w_put rfl rfl rfl rfl rfl ?_
  refine w_eqS u_wte ?_
  refine w_st rfl (fun _ => rfl) ?_
  refine w_st rfl (fun _ => rfl) ?_
  show w_T L xs (d + 1) m_X5_begin 24 [(0, .ref 67), (1, .int n)] [.int (Int32.ofInt 0), .ref 67] (u_S (v_ur (v_ur S0 52 (upd (S0 52) 6 (Int32.ofInt 0))) 52 (upd ((v_ur S0 52 (upd (S0 52) 6 (Int32.ofInt 0))) 52) 7 (Int32.ofInt 0))) 0 (Int32.ofInt 0) n tf le) R Q
  refine w_put rfl rfl rfl rfl rfl ?_
  refine w_eqS u_wtf ?_
  show w_T L xs (d + 1) m_X5_begin 27 [(0, .ref 67), (1, .int n)] [] (u_S (v_ur (v_ur S0 52 (upd (S0 52) 6 (Int32.ofInt 0))) 52 (upd ((v_ur S0 52 (upd (S0 52) 6 (Int32.ofInt 0))) 52) 7 (Int32.ofInt 0))) 0 (Int32.ofInt 0) n (Int32.ofInt 0) le) R Q
  refine w_ret rfl rfl ?_
  refine hq _ (fun a j hn => ?_) (w_TbF (w_TbF hT (a := 52) rfl rfl (by decide) (by decide)) (a := 52) rfl rfl (by decide) (by decide))
  rw [w_urn (by omega), w_urn (by omega)]
theorem x_clear60 (hq : Q none (u_S (v_ur (v_ur S0 59 (upd (S0 59) 6 (Int32.ofInt 0))) 59 (upd ((v_ur S0 59 (upd (S0 59) 6 (Int32.ofInt 0))) 59) 7 (Int32.ofInt 0))) mo ta te tf le) R) : w_T L xs d m_X1_clear 0 (lv_args 0 [.ref 60]) [] (u_S S0 mo ta te tf le) R Q := by
  refine w_st rfl (fun _ => rfl) ?_
  refine w_st rfl (fun _ => rfl) ?_
  show w_T L xs d m_X1_clear 2 [(0, .ref 60)] [.int (Int32.ofInt 0), .ref 60] (u_S S0 mo ta te tf le) R Q
  refine w_put rfl rfl rfl rfl rfl ?_
  refine w_eqS (u_wo (by decide)) ?_
  refine w_st rfl (fun _ => rfl) ?_
  refine w_st rfl (fun _ => rfl) ?_
  show w_T L xs d m_X1_clear 7 [(0, .ref 60)] [.int (Int32.ofInt 0), .ref 60] (u_S (v_ur S0 59 (upd (S0 59) 6 (Int32.ofInt 0))) mo ta te tf le) R Q
  refine w_put rfl rfl rfl rfl rfl ?_
  refine w_eqS (u_wo (by decide)) ?_
  show w_T L xs d m_X1_clear 10 [(0, .ref 60)] [] (u_S (v_ur (v_ur S0 59 (upd (S0 59) 6 (Int32.ofInt 0))) 59 (upd ((v_ur S0 59 (upd (S0 59) 6 (Int32.ofInt 0))) 59) 7 (Int32.ofInt 0))) mo ta te tf le) R Q
  refine w_ret rfl rfl ?_
  exact hq
theorem x_begin60 {n : Int32} (hT : v_Tb v_ty S0 R) (hR : R 66 1 = some 60) (hq : ∀ S1 : v_Sf, (∀ a j, ¬ ((a = 52 ∨ a = 59 ∨ a = 67) ∧ 6 ≤ j ∧ j ≤ 7) → S1 a j = S0 a j) → v_Tb v_ty S1 R → Q none (u_S S1 0 (Int32.ofInt 0) n (Int32.ofInt 0) le) R) : w_T L xs (d + 1) m_X5_begin 0 (lv_args 0 [.ref 67, .int n]) [] (u_S S0 mo ta te tf le) R Q := by
  refine w_st rfl (fun _ => rfl) ?_
  show w_T L xs (d + 1) m_X5_begin 1 [(0, .ref 67), (1, .int n)] [.ref 67] (u_S S0 mo ta te tf le) R Q
  refine w_getv rfl v_tyR rfl hR ?_
  show w_T L xs (d + 1) m_X5_begin 4 [(0, .ref 67), (1, .int n)] [.ref 60] (u_S S0 mo ta te tf le) R Q
  refine w_cv rfl (by decide) mt_X1_clear rfl rfl rfl rfl (Nat.le_of_ble_eq_true rfl) (Nat.le_of_ble_eq_true rfl) (Nat.le_of_ble_eq_true rfl) ?_
  show w_T L xs _ m_X1_clear 0 (lv_args 0 [.ref 60]) [] (u_S S0 mo ta te tf le) R _
  refine x_clear60 ?_
  refine w_st rfl (fun _ => rfl) ?_
  refine w_st rfl (fun _ => rfl) ?_
  show w_T L xs (d + 1) m_X5_begin 9 [(0, .ref 67), (1, .int n)] [.int (Int32.ofInt 0), .ref 67] (u_S (v_ur (v_ur S0 59 (upd (S0 59) 6 (Int32.ofInt 0))) 59 (upd ((v_ur S0 59 (upd (S0 59) 6 (Int32.ofInt 0))) 59) 7 (Int32.ofInt 0))) mo ta te tf le) R Q
  refine w_put rfl rfl rfl rfl rfl ?_
  refine w_eqS (u_wmo (k := 0) rfl) ?_
  refine w_st rfl (fun _ => rfl) ?_
  refine w_st rfl (fun _ => rfl) ?_
  show w_T L xs (d + 1) m_X5_begin 14 [(0, .ref 67), (1, .int n)] [.int (Int32.ofInt 0), .ref 67] (u_S (v_ur (v_ur S0 59 (upd (S0 59) 6 (Int32.ofInt 0))) 59 (upd ((v_ur S0 59 (upd (S0 59) 6 (Int32.ofInt 0))) 59) 7 (Int32.ofInt 0))) 0 ta te tf le) R Q
  refine w_put rfl rfl rfl rfl rfl ?_
  refine w_eqS u_wta ?_
  refine w_st rfl (fun _ => rfl) ?_
  refine w_st rfl (fun _ => rfl) ?_
  show w_T L xs (d + 1) m_X5_begin 19 [(0, .ref 67), (1, .int n)] [.int n, .ref 67] (u_S (v_ur (v_ur S0 59 (upd (S0 59) 6 (Int32.ofInt 0))) 59 (upd ((v_ur S0 59 (upd (S0 59) 6 (Int32.ofInt 0))) 59) 7 (Int32.ofInt 0))) 0 (Int32.ofInt 0) te tf le) R Q
  refine w_put rfl rfl rfl rfl rfl ?_
  refine w_eqS u_wte ?_
  refine w_st rfl (fun _ => rfl) ?_
  refine w_st rfl (fun _ => rfl) ?_
  show w_T L xs (d + 1) m_X5_begin 24 [(0, .ref 67), (1, .int n)] [.int (Int32.ofInt 0), .ref 67] (u_S (v_ur (v_ur S0 59 (upd (S0 59) 6 (Int32.ofInt 0))) 59 (upd ((v_ur S0 59 (upd (S0 59) 6 (Int32.ofInt 0))) 59) 7 (Int32.ofInt 0))) 0 (Int32.ofInt 0) n tf le) R Q
  refine w_put rfl rfl rfl rfl rfl ?_
  refine w_eqS u_wtf ?_
  show w_T L xs (d + 1) m_X5_begin 27 [(0, .ref 67), (1, .int n)] [] (u_S (v_ur (v_ur S0 59 (upd (S0 59) 6 (Int32.ofInt 0))) 59 (upd ((v_ur S0 59 (upd (S0 59) 6 (Int32.ofInt 0))) 59) 7 (Int32.ofInt 0))) 0 (Int32.ofInt 0) n (Int32.ofInt 0) le) R Q
  refine w_ret rfl rfl ?_
  refine hq _ (fun a j hn => ?_) (w_TbF (w_TbF hT (a := 59) rfl rfl (by decide) (by decide)) (a := 59) rfl rfl (by decide) (by decide))
  rw [w_urn (by omega), w_urn (by omega)]
theorem x_clear68 (hq : Q none (u_S (v_ur (v_ur S0 67 (upd (S0 67) 6 (Int32.ofInt 0))) 67 (upd ((v_ur S0 67 (upd (S0 67) 6 (Int32.ofInt 0))) 67) 7 (Int32.ofInt 0))) mo ta te tf le) R) : w_T L xs d m_X1_clear 0 (lv_args 0 [.ref 68]) [] (u_S S0 mo ta te tf le) R Q := by
  refine w_st rfl (fun _ => rfl) ?_
  refine w_st rfl (fun _ => rfl) ?_
  show w_T L xs d m_X1_clear 2 [(0, .ref 68)] [.int (Int32.ofInt 0), .ref 68] (u_S S0 mo ta te tf le) R Q
  refine w_put rfl rfl rfl rfl rfl ?_
  refine w_eqS (u_wo (by decide)) ?_
  refine w_st rfl (fun _ => rfl) ?_
  refine w_st rfl (fun _ => rfl) ?_
  show w_T L xs d m_X1_clear 7 [(0, .ref 68)] [.int (Int32.ofInt 0), .ref 68] (u_S (v_ur S0 67 (upd (S0 67) 6 (Int32.ofInt 0))) mo ta te tf le) R Q
  refine w_put rfl rfl rfl rfl rfl ?_
  refine w_eqS (u_wo (by decide)) ?_
  show w_T L xs d m_X1_clear 10 [(0, .ref 68)] [] (u_S (v_ur (v_ur S0 67 (upd (S0 67) 6 (Int32.ofInt 0))) 67 (upd ((v_ur S0 67 (upd (S0 67) 6 (Int32.ofInt 0))) 67) 7 (Int32.ofInt 0))) mo ta te tf le) R Q
  refine w_ret rfl rfl ?_
  exact hq
theorem x_begin68 {n : Int32} (hT : v_Tb v_ty S0 R) (hR : R 66 1 = some 68) (hq : ∀ S1 : v_Sf, (∀ a j, ¬ ((a = 52 ∨ a = 59 ∨ a = 67) ∧ 6 ≤ j ∧ j ≤ 7) → S1 a j = S0 a j) → v_Tb v_ty S1 R → Q none (u_S S1 0 (Int32.ofInt 0) n (Int32.ofInt 0) le) R) : w_T L xs (d + 1) m_X5_begin 0 (lv_args 0 [.ref 67, .int n]) [] (u_S S0 mo ta te tf le) R Q := by
  refine w_st rfl (fun _ => rfl) ?_
  show w_T L xs (d + 1) m_X5_begin 1 [(0, .ref 67), (1, .int n)] [.ref 67] (u_S S0 mo ta te tf le) R Q
  refine w_getv rfl v_tyR rfl hR ?_
  show w_T L xs (d + 1) m_X5_begin 4 [(0, .ref 67), (1, .int n)] [.ref 68] (u_S S0 mo ta te tf le) R Q
  refine w_cv rfl (by decide) mt_X1_clear rfl rfl rfl rfl (Nat.le_of_ble_eq_true rfl) (Nat.le_of_ble_eq_true rfl) (Nat.le_of_ble_eq_true rfl) ?_
  show w_T L xs _ m_X1_clear 0 (lv_args 0 [.ref 68]) [] (u_S S0 mo ta te tf le) R _
  refine x_clear68 ?_
  refine w_st rfl (fun _ => rfl) ?_
  refine w_st rfl (fun _ => rfl) ?_
  show w_T L xs (d + 1) m_X5_begin 9 [(0, .ref 67), (1, .int n)] [.int (Int32.ofInt 0), .ref 67] (u_S (v_ur (v_ur S0 67 (upd (S0 67) 6 (Int32.ofInt 0))) 67 (upd ((v_ur S0 67 (upd (S0 67) 6 (Int32.ofInt 0))) 67) 7 (Int32.ofInt 0))) mo ta te tf le) R Q
  refine w_put rfl rfl rfl rfl rfl ?_
  refine w_eqS (u_wmo (k := 0) rfl) ?_
  refine w_st rfl (fun _ => rfl) ?_
  refine w_st rfl (fun _ => rfl) ?_
  show w_T L xs (d + 1) m_X5_begin 14 [(0, .ref 67), (1, .int n)] [.int (Int32.ofInt 0), .ref 67] (u_S (v_ur (v_ur S0 67 (upd (S0 67) 6 (Int32.ofInt 0))) 67 (upd ((v_ur S0 67 (upd (S0 67) 6 (Int32.ofInt 0))) 67) 7 (Int32.ofInt 0))) 0 ta te tf le) R Q
  refine w_put rfl rfl rfl rfl rfl ?_
  refine w_eqS u_wta ?_
  refine w_st rfl (fun _ => rfl) ?_
  refine w_st rfl (fun _ => rfl) ?_
  show w_T L xs (d + 1) m_X5_begin 19 [(0, .ref 67), (1, .int n)] [.int n, .ref 67] (u_S (v_ur (v_ur S0 67 (upd (S0 67) 6 (Int32.ofInt 0))) 67 (upd ((v_ur S0 67 (upd (S0 67) 6 (Int32.ofInt 0))) 67) 7 (Int32.ofInt 0))) 0 (Int32.ofInt 0) te tf le) R Q
  refine w_put rfl rfl rfl rfl rfl ?_
  refine w_eqS u_wte ?_
  refine w_st rfl (fun _ => rfl) ?_
  refine w_st rfl (fun _ => rfl) ?_
  show w_T L xs (d + 1) m_X5_begin 24 [(0, .ref 67), (1, .int n)] [.int (Int32.ofInt 0), .ref 67] (u_S (v_ur (v_ur S0 67 (upd (S0 67) 6 (Int32.ofInt 0))) 67 (upd ((v_ur S0 67 (upd (S0 67) 6 (Int32.ofInt 0))) 67) 7 (Int32.ofInt 0))) 0 (Int32.ofInt 0) n tf le) R Q
  refine w_put rfl rfl rfl rfl rfl ?_
  refine w_eqS u_wtf ?_
  show w_T L xs (d + 1) m_X5_begin 27 [(0, .ref 67), (1, .int n)] [] (u_S (v_ur (v_ur S0 67 (upd (S0 67) 6 (Int32.ofInt 0))) 67 (upd ((v_ur S0 67 (upd (S0 67) 6 (Int32.ofInt 0))) 67) 7 (Int32.ofInt 0))) 0 (Int32.ofInt 0) n (Int32.ofInt 0) le) R Q
  refine w_ret rfl rfl ?_
  refine hq _ (fun a j hn => ?_) (w_TbF (w_TbF hT (a := 67) rfl rfl (by decide) (by decide)) (a := 67) rfl rfl (by decide) (by decide))
  rw [w_urn (by omega), w_urn (by omega)]
end UN
theorem u_fin {R : v_Rf} {S S1 : v_Sf} {mo : Nat} {ta te tf : Int32} {le : Nat → Int32} (hO : v_Op S) (hT1 : v_Tb v_ty S1 R) (hF : ∀ a j, ¬ ((a = 52 ∨ a = 59 ∨ a = 67) ∧ 6 ≤ j ∧ j ≤ 7) → S1 a j = S a j) (hm : mo ≤ 49) : v_Tb v_ty (u_S S1 mo ta te tf le) R ∧ v_Op (u_S S1 mo ta te tf le) ∧ v_Fr [(52, 6, 7), (59, 6, 7), (66, 3, 6), (67, 6, 7), (74, 0, 49)] S R (u_S S1 mo ta te tf le) R := by
  refine ⟨u_Tb hT1 hm, v_fz_ok.1 S _ (fun a j hz => ?_) hO, fun a j hm => ?_⟩
  · have hz : v_md v_fz a j j = true := by
      unfold v_frz at hz
      rw [v_hit_jj] at hz
      exact hz
    obtain ⟨q, q1, q2, q3, q4⟩ := v_md_lt hz
    simp only [v_fz, List.mem_cons, List.not_mem_nil, or_false] at q1
    have hq1 : 99 ≤ a := by rcases q1 with rfl | rfl | rfl | rfl | rfl | rfl <;> (dsimp only at q2 q3 q4; omega)
    rw [u_at (by omega) (by omega), hF a j (by omega)]
  · refine ⟨?_, rfl⟩
    have n0 := p_nmd (a0 := 52) (lo := 6) (hi := 7) (by decide +kernel) hm
    have n1 := p_nmd (a0 := 59) (lo := 6) (hi := 7) (by decide +kernel) hm
    have n2 := p_nmd (a0 := 66) (lo := 3) (hi := 6) (by decide +kernel) hm
    have n3 := p_nmd (a0 := 67) (lo := 6) (hi := 7) (by decide +kernel) hm
    have n4 := p_nmd (a0 := 74) (lo := 0) (hi := 49) (by decide +kernel) hm
    rw [u_at (by omega) (by omega), hF a j (by omega)]
set_option maxHeartbeats 2000000 in
theorem hr_X5_readTimetable {L : Nat} {xs : Nat → Int32} (ih : ∀ x, ∀ w ∈ v_rw x, w.1 < rw_66.1 → v_Met L xs v_ty v_Op x w) : v_Met L xs v_ty v_Op 61 rw_66 := by
  intro M hM ac S R ha hT hO
  rw [mt_X5_readTimetable] at hM
  cases hM
  match ac, ha with
  | [r0, w1], ⟨h0, ⟨n, hg, _, _⟩, _⟩ =>
  have h0 : r0 = .ref 67 := h0
  subst h0 hg
  show w_T L xs (11 + 1) m_X5_readTimetable 0 (lv_args 0 [.ref 67, .int n]) [] S R (fun (r : Option Value) (S' : v_Sf) (R' : v_Rf) => v_Tb v_ty S' R' ∧ v_Op S' ∧ v_rk1 (some ((-2147483648), 2147483647)) r ∧ v_Fr [(52, 6, 7), (59, 6, 7), (66, 3, 6), (67, 6, 7), (74, 0, 49)] S R S' R')
  generalize hQ : (fun (r : Option Value) (S' : v_Sf) (R' : v_Rf) => v_Tb v_ty S' R' ∧ v_Op S' ∧ v_rk1 (some ((-2147483648), 2147483647)) r ∧ v_Fr [(52, 6, 7), (59, 6, 7), (66, 3, 6), (67, 6, 7), (74, 0, 49)] S R S' R') = Q
  have hq : ∀ (S' : v_Sf) (v : Int32), v_Tb v_ty S' R → v_Op S' → v_Fr [(52, 6, 7), (59, 6, 7), (66, 3, 6), (67, 6, 7), (74, 0, 49)] S R S' R → Q (some (.int v)) S' R := fun S' v a1 a2 a3 => by
    rw [← hQ]
    exact ⟨a1, a2, ⟨v, rfl, (q_rng v).1, (q_rng v).2⟩, a3⟩
  obtain ⟨mo, hS⟩ := u_of hT
  refine w_eqS hS ?_
  have hs0 : (S 45 1).toInt ≤ 260 := (hT 45 _ (show v_ty 45 = some (.inr (.inr (8, [.inr (.inl 47), .inl (0, 260)]))) from rfl) 1 _ rfl).2
  have key : ∀ S1 : v_Sf, (∀ a j, ¬ ((a = 52 ∨ a = 59 ∨ a = 67) ∧ 6 ≤ j ∧ j ≤ 7) → S1 a j = S a j) → v_Tb v_ty S1 R → w_T L xs (11 + 1) m_X5_readTimetable 5 [(0, .ref 67), (1, .int n)] [] (u_S S1 0 (Int32.ofInt 0) n (Int32.ofInt 0) (S 74)) R Q := by
    intro S1 hF hT1
    have hs : (S1 45 1).toInt ≤ 260 := by rw [hF 45 1 (by omega)]; exact hs0
    have c0 := x_group2 (L := L) (xs := xs) (d := 0) (R := R) hs
    have c1 := x_months (d := 1) hs (x_month (d := 0) hs c0)
    have c2 := x_months (d := 4) hs (x_month (d := 3) hs (x_group1 (d := 1) hs c1))
    have c3 := x_months (d := 7) hs (x_month (d := 6) hs (x_group0 (d := 4) hs c2))
    refine w_st rfl (fun _ => rfl) ?_
    refine w_st rfl (fun _ => rfl) ?_
    show w_T L xs (11 + 1) m_X5_readTimetable 7 [(0, .ref 67), (1, .int n)] [.int (Int32.ofInt 0), .ref 67] (u_S S1 0 (Int32.ofInt 0) n (Int32.ofInt 0) (S 74)) R Q
    refine w_cv rfl (by decide) mt_X5_readMonths rfl rfl rfl rfl (Nat.le_of_ble_eq_true rfl) (Nat.le_of_ble_eq_true rfl) (Nat.le_of_ble_eq_true rfl) ?_
    show w_T L xs _ m_X5_readMonths 0 (lv_args 0 [.ref 67, .int (Int32.ofInt 0)]) [] (u_S S1 0 (Int32.ofInt 0) n (Int32.ofInt 0) (S 74)) R _
    refine w_dm (d := 9) (by omega) (c3 _ _ _ _ _ _ (by omega) (fun m1 a1 e1 f1 l1 y1 y2 => ?_))
    refine w_st rfl (fun _ => rfl) ?_
    show w_T L xs (11 + 1) m_X5_readTimetable 11 [(0, .ref 67), (1, .int n)] [.ref 67] (u_S S1 m1 a1 e1 f1 l1) R Q
    refine w_get rfl rfl rfl ?_
    refine w_st rfl (fun _ => rfl) ?_
    show w_T L xs (11 + 1) m_X5_readTimetable 15 [(0, .ref 67), (1, .int n)] [.ref 67, .int a1] (u_S S1 m1 a1 e1 f1 l1) R Q
    refine w_get rfl rfl rfl ?_
    show w_T L xs (11 + 1) m_X5_readTimetable 18 [(0, .ref 67), (1, .int n)] [.int e1, .int a1] (u_S S1 m1 a1 e1 f1 l1) R Q
    refine w_br (P := e1 ≤ a1) rfl (fun _ => rfl) (fun h18 => ?_) (fun h18 => ?_)
    · refine w_st rfl (fun _ => rfl) ?_
      show w_T L xs (11 + 1) m_X5_readTimetable 31 [(0, .ref 67), (1, .int n)] [.ref 67] (u_S S1 m1 a1 e1 f1 l1) R Q
      refine w_get rfl rfl rfl ?_
      show w_T L xs (11 + 1) m_X5_readTimetable 34 [(0, .ref 67), (1, .int n)] [.int f1] (u_S S1 m1 a1 e1 f1 l1) R Q
      refine w_br (P := f1 = 0) rfl (fun _ => rfl) (fun h34 => ?_) (fun h34 => ?_)
      · refine w_st rfl (fun _ => rfl) ?_
        show w_T L xs (11 + 1) m_X5_readTimetable 45 [(0, .ref 67), (1, .int n)] [.ref 67] (u_S S1 m1 a1 e1 f1 l1) R Q
        refine w_get rfl rfl rfl ?_
        show w_T L xs (11 + 1) m_X5_readTimetable 48 [(0, .ref 67), (1, .int n)] [.int (Int32.ofInt (m1 : Int))] (u_S S1 m1 a1 e1 f1 l1) R Q
        refine w_ret rfl (by rfl) ?_
        obtain ⟨z1, z2, z3⟩ := u_fin (R := R) hO hT1 hF y2
        exact hq _ _ z1 z2 z3
      · refine w_st rfl (fun _ => rfl) ?_
        show w_T L xs (11 + 1) m_X5_readTimetable 38 [(0, .ref 67), (1, .int n)] [.ref 67] (u_S S1 m1 a1 e1 f1 l1) R Q
        refine w_get rfl rfl rfl ?_
        refine w_st rfl (fun _ => rfl) ?_
        show w_T L xs (11 + 1) m_X5_readTimetable 48 [(0, .ref 67), (1, .int n)] [.int f1] (u_S S1 m1 a1 e1 f1 l1) R Q
        refine w_ret rfl (by rfl) ?_
        obtain ⟨z1, z2, z3⟩ := u_fin (R := R) hO hT1 hF y2
        exact hq _ _ z1 z2 z3
    · refine w_st rfl (fun _ => rfl) ?_
      refine w_st rfl (fun _ => rfl) ?_
      refine w_st rfl (fun _ => rfl) ?_
      show w_T L xs (11 + 1) m_X5_readTimetable 24 [(0, .ref 67), (1, .int n)] [.ref 67, .int (Int32.ofInt 1), .ref 67] (u_S S1 m1 a1 e1 f1 l1) R Q
      refine w_get rfl rfl rfl ?_
      show w_T L xs (11 + 1) m_X5_readTimetable 27 [(0, .ref 67), (1, .int n)] [.int a1, .int (Int32.ofInt 1), .ref 67] (u_S S1 m1 a1 e1 f1 l1) R Q
      refine w_cv rfl (by decide) mt_X5_fail rfl rfl rfl rfl (Nat.le_of_ble_eq_true rfl) (Nat.le_of_ble_eq_true rfl) (Nat.le_of_ble_eq_true rfl) ?_
      show w_T L xs _ m_X5_fail 0 (lv_args 0 [.ref 67, .int (Int32.ofInt 1), .int a1]) [] (u_S S1 m1 a1 e1 f1 l1) R _
      refine x_fail (fun e27 f27 => ?_)
      refine w_st rfl (fun _ => rfl) ?_
      show w_T L xs (11 + 1) m_X5_readTimetable 31 [(0, .ref 67), (1, .int n)] [.ref 67] (u_S S1 m1 a1 e27 f27 l1) R Q
      refine w_get rfl rfl rfl ?_
      show w_T L xs (11 + 1) m_X5_readTimetable 34 [(0, .ref 67), (1, .int n)] [.int f27] (u_S S1 m1 a1 e27 f27 l1) R Q
      refine w_br (P := f27 = 0) rfl (fun _ => rfl) (fun h34 => ?_) (fun h34 => ?_)
      · refine w_st rfl (fun _ => rfl) ?_
        show w_T L xs (11 + 1) m_X5_readTimetable 45 [(0, .ref 67), (1, .int n)] [.ref 67] (u_S S1 m1 a1 e27 f27 l1) R Q
        refine w_get rfl rfl rfl ?_
        show w_T L xs (11 + 1) m_X5_readTimetable 48 [(0, .ref 67), (1, .int n)] [.int (Int32.ofInt (m1 : Int))] (u_S S1 m1 a1 e27 f27 l1) R Q
        refine w_ret rfl (by rfl) ?_
        obtain ⟨z1, z2, z3⟩ := u_fin (R := R) hO hT1 hF y2
        exact hq _ _ z1 z2 z3
      · refine w_st rfl (fun _ => rfl) ?_
        show w_T L xs (11 + 1) m_X5_readTimetable 38 [(0, .ref 67), (1, .int n)] [.ref 67] (u_S S1 m1 a1 e27 f27 l1) R Q
        refine w_get rfl rfl rfl ?_
        refine w_st rfl (fun _ => rfl) ?_
        show w_T L xs (11 + 1) m_X5_readTimetable 48 [(0, .ref 67), (1, .int n)] [.int f27] (u_S S1 m1 a1 e27 f27 l1) R Q
        refine w_ret rfl (by rfl) ?_
        obtain ⟨z1, z2, z3⟩ := u_fin (R := R) hO hT1 hF y2
        exact hq _ _ z1 z2 z3
  obtain ⟨r, hr, hR⟩ : ∃ r ∈ [53, 60, 68], R 66 1 = some r := hT 66 _ v_tyR 1 _ rfl
  simp only [List.mem_cons, List.not_mem_nil, or_false] at hr
  rcases hr with rfl | rfl | rfl
  · refine w_st rfl (fun _ => rfl) ?_
    refine w_st rfl (fun _ => rfl) ?_
    show w_T L xs (11 + 1) m_X5_readTimetable 2 [(0, .ref 67), (1, .int n)] [.int n, .ref 67] (u_S S mo (S 66 4) (S 66 5) (S 66 6) (S 74)) R Q
    refine w_cv rfl (by decide) mt_X5_begin rfl rfl rfl rfl (Nat.le_of_ble_eq_true rfl) (Nat.le_of_ble_eq_true rfl) (Nat.le_of_ble_eq_true rfl) ?_
    show w_T L xs _ m_X5_begin 0 (lv_args 0 [.ref 67, .int n]) [] (u_S S mo (S 66 4) (S 66 5) (S 66 6) (S 74)) R _
    refine x_begin53 hT hR (fun S1 hF hT1 => ?_)
    exact key S1 hF hT1
  · refine w_st rfl (fun _ => rfl) ?_
    refine w_st rfl (fun _ => rfl) ?_
    show w_T L xs (11 + 1) m_X5_readTimetable 2 [(0, .ref 67), (1, .int n)] [.int n, .ref 67] (u_S S mo (S 66 4) (S 66 5) (S 66 6) (S 74)) R Q
    refine w_cv rfl (by decide) mt_X5_begin rfl rfl rfl rfl (Nat.le_of_ble_eq_true rfl) (Nat.le_of_ble_eq_true rfl) (Nat.le_of_ble_eq_true rfl) ?_
    show w_T L xs _ m_X5_begin 0 (lv_args 0 [.ref 67, .int n]) [] (u_S S mo (S 66 4) (S 66 5) (S 66 6) (S 74)) R _
    refine x_begin60 hT hR (fun S1 hF hT1 => ?_)
    exact key S1 hF hT1
  · refine w_st rfl (fun _ => rfl) ?_
    refine w_st rfl (fun _ => rfl) ?_
    show w_T L xs (11 + 1) m_X5_readTimetable 2 [(0, .ref 67), (1, .int n)] [.int n, .ref 67] (u_S S mo (S 66 4) (S 66 5) (S 66 6) (S 74)) R Q
    refine w_cv rfl (by decide) mt_X5_begin rfl rfl rfl rfl (Nat.le_of_ble_eq_true rfl) (Nat.le_of_ble_eq_true rfl) (Nat.le_of_ble_eq_true rfl) ?_
    show w_T L xs _ m_X5_begin 0 (lv_args 0 [.ref 67, .int n]) [] (u_S S mo (S 66 4) (S 66 5) (S 66 6) (S 74)) R _
    refine x_begin68 hT hR (fun S1 hF hT1 => ?_)
    exact key S1 hF hT1
end Prt39n
section Prt39o
/-! round: the table is laid, the way along it -/
noncomputable abbrev m_X12_laysRing : g_M := (g_cn 12, yX12_laysRing, cX12_laysRing, 6, none, g_look2 ttX12_laysRing)
set_option maxRecDepth 20000 in
theorem mt_X12_laysRing : g_mt 289 = some m_X12_laysRing := rfl
noncomputable abbrev m_X12_doQuarrel : g_M := (g_cn 12, yX12_doQuarrel, cX12_doQuarrel, 3, (some .boolean), g_look2 ttX12_doQuarrel)
set_option maxRecDepth 20000 in
theorem mt_X12_doQuarrel : g_mt 207 = some m_X12_doQuarrel := rfl
noncomputable def r_J (S0 : v_Sf) (R0 : v_Rf) (S : v_Sf) (R : v_Rf) : Prop := v_Tb v_ty S R ∧ v_Op S ∧ v_Fr [(99, 27, 40), (114, 0, 240), (115, 0, 240), (152, 0, 12), (171, 0, 2048), (172, 0, 64)] S0 R0 S R
theorem r_J171 {S0 S : v_Sf} {R0 R : v_Rf} (h : r_J S0 R0 S R) {j : Nat} {v : Int32} (hj : j ≤ 2048) : r_J S0 R0 (v_ur S 171 (upd (S 171) j v)) R := ⟨w_TbR h.1 (a := 171) rfl (q_rng _).1 (q_rng _).2, w_Op_ur rfl h.2.1, v_Fr_tr h.2.2 (v_Fr_ur _ _ _ (v_md_mono (lo := 0) (hi := 2048) (by decide +kernel) (Nat.zero_le _) hj))⟩
theorem r_J172 {S0 S : v_Sf} {R0 R : v_Rf} (h : r_J S0 R0 S R) {j : Nat} {v : Int32} (hj : j ≤ 64) (h1 : 0 ≤ v.toInt) (h2 : v.toInt ≤ 1) : r_J S0 R0 (v_ur S 172 (upd (S 172) j v)) R := ⟨w_TbR h.1 (a := 172) rfl h1 h2, w_Op_ur rfl h.2.1, v_Fr_tr h.2.2 (v_Fr_ur _ _ _ (v_md_mono (lo := 0) (hi := 64) (by decide +kernel) (Nat.zero_le _) hj))⟩
theorem r_Jq {S0 S S1 : v_Sf} {R0 R R1 : v_Rf} (h : r_J S0 R0 S R) (h1 : v_Tb v_ty S1 R1) (h2 : v_Op S1) (h3 : v_Fr [(99, 27, 40), (114, 0, 240), (115, 0, 240)] S R S1 R1) : r_J S0 R0 S1 R1 := ⟨h1, h2, v_Fr_tr h.2.2 (v_Fr_sub (by decide +kernel) h3)⟩
noncomputable def r_ok (S : v_Sf) (m b l : Nat) : Prop := ¬ S 171 (8 * b + l) = 0 → ∃ k, 1 ≤ k ∧ k < m ∧ b / 2 ^ k % 2 = 0 ∧ ¬ S 172 (8 * l + k) = 0 ∧ ¬ S 171 (8 * (b + 2 ^ k) + k) = 0
theorem r_up {S : v_Sf} {m b l b0 l0 : Nat} {v : Int32} (hm : m ≤ 8) (hl : l < m) (hl0 : l0 < m) (hb : b0 < b ∨ (b = b0 ∧ ¬ l = l0)) (h : r_ok S m b l) : r_ok (v_ur S 171 (upd (S 171) (8 * b0 + l0) v)) m b l := by
  intro hn
  rw [w_urn (by omega)] at hn
  obtain ⟨k, k1, k2, k3, k4, k5⟩ := h hn
  have hp : 0 < 2 ^ k := Nat.pos_of_ne_zero (by simp)
  exact ⟨k, k1, k2, k3, by rw [w_urn (by omega)]; exact k4, by rw [w_urn (by omega)]; exact k5⟩
noncomputable def r_P (S : v_Sf) (m b : Nat) : Prop := ∀ b' l, b < b' → b' < 2 ^ m - 1 → l < m → r_ok S m b' l
theorem r_pw : ∀ m : Fin 9, Int32.ofInt 1 <<< (Int32.ofInt ((m : Nat) : Int) &&& 31) - Int32.ofInt 1 = Int32.ofInt ((2 ^ (m : Nat) - 1 : Nat) : Int) := by decide
theorem r_p8 : ∀ m : Fin 9, 2 ^ (m : Nat) ≤ 256 ∧ 1 ≤ 2 ^ (m : Nat) := by decide
section RL
variable {L : Nat} {xs : Nat → Int32} {d : Nat} {Q : Option Value → v_Sf → v_Rf → Prop} {S0 : v_Sf} {R0 : v_Rf} {m : Nat}
set_option maxHeartbeats 2000000 in
theorem r_pI (hD : v_Met L xs v_ty v_Op 207 rw_192) (hm : m ≤ 8) (i : Nat) (hi : i < m) (K : ∀ S R, r_J S0 R0 S R → w_T L xs (d + 9) m_X12_laysRing 60 [(3, .int (Int32.ofInt (m : Int))), (2, .int (Int32.ofInt (i : Int))), (0, .ref 100), (1, .int (Int32.ofInt (m : Int)))] [] S R Q) : ∀ (c j : Nat) (S : v_Sf) (R : v_Rf), j + c = m → r_J S0 R0 S R → w_T L xs (d + 9) m_X12_laysRing 9 [(3, .int (Int32.ofInt (j : Int))), (2, .int (Int32.ofInt (i : Int))), (0, .ref 100), (1, .int (Int32.ofInt (m : Int)))] [] S R Q := by
  have ei := w_nat (k := i) (by omega)
  have em := w_nat (k := m) (by omega)
  intro c
  induction c with
  | zero =>
    intro j S R hj hJ
    obtain rfl : j = m := by omega
    refine w_st rfl (fun _ => rfl) ?_
    refine w_st rfl (fun _ => rfl) ?_
    show w_T L xs (d + 9) m_X12_laysRing 11 [(3, .int (Int32.ofInt (j : Int))), (2, .int (Int32.ofInt (i : Int))), (0, .ref 100), (1, .int (Int32.ofInt (j : Int)))] [.int (Int32.ofInt (j : Int)), .int (Int32.ofInt (j : Int))] S R Q
    refine w_br (P := (Int32.ofInt (j : Int)) ≤ (Int32.ofInt (j : Int))) rfl (fun _ => rfl) (fun h11 => ?_) (fun h11 => ?_)
    · exact K S R hJ
    · exfalso; rw [q_le32] at h11; omega
  | succ c ih =>
    intro j S R hj hJ
    have ej := w_nat (k := j) (by omega)
    have ein : (Int32.ofInt (i : Int)).toInt.toNat = i := by rw [ei]; omega
    have ejn : (Int32.ofInt (j : Int)).toInt.toNat = j := by rw [ej]; omega
    have tS : v_TbC S R 152 _ := hJ.1 152 _ rfl
    have si : 0 ≤ (S 152 i).toInt ∧ (S 152 i).toInt ≤ 11 := tS i (by omega)
    have sj : 0 ≤ (S 152 j).toInt ∧ (S 152 j).toInt ≤ 11 := tS j (by omega)
    have e8 := v_m8 (b := i) (k := j) (by omega) (by omega)
    have w8 := w_nat (k := 8 * i + j) (by omega)
    have w8n : (Int32.ofInt ((8 * i + j : Nat) : Int)).toInt.toNat = 8 * i + j := by rw [w8]; omega
    refine w_st rfl (fun _ => rfl) ?_
    refine w_st rfl (fun _ => rfl) ?_
    show w_T L xs (d + 9) m_X12_laysRing 11 [(3, .int (Int32.ofInt (j : Int))), (2, .int (Int32.ofInt (i : Int))), (0, .ref 100), (1, .int (Int32.ofInt (m : Int)))] [.int (Int32.ofInt (m : Int)), .int (Int32.ofInt (j : Int))] S R Q
    refine w_br (P := (Int32.ofInt (m : Int)) ≤ (Int32.ofInt (j : Int))) rfl (fun _ => rfl) (fun h11 => ?_) (fun h11 => ?_)
    · exfalso; rw [q_le32, em, ej] at h11; omega
    · refine w_st rfl (fun _ => rfl) ?_
      show w_T L xs (d + 9) m_X12_laysRing 15 [(3, .int (Int32.ofInt (j : Int))), (2, .int (Int32.ofInt (i : Int))), (0, .ref 100), (1, .int (Int32.ofInt (m : Int)))] [.ref 100] S R Q
      refine w_getr rfl v_tyM rfl ?_
      refine w_st rfl (fun _ => rfl) ?_
      refine w_st rfl (fun _ => rfl) ?_
      refine w_st rfl (fun _ => rfl) ?_
      refine w_st rfl (fun _ => rfl) ?_
      refine w_st rfl (fun _ => rfl) ?_
      refine w_st rfl (fun _ => rfl) ?_
      refine w_st rfl (fun _ => rfl) ?_
      show w_T L xs (d + 9) m_X12_laysRing 26 [(3, .int (Int32.ofInt (j : Int))), (2, .int (Int32.ofInt (i : Int))), (0, .ref 100), (1, .int (Int32.ofInt (m : Int)))] [.int (Int32.ofInt (j : Int)), .int (Int32.ofInt (i : Int)), .int (((Int32.ofInt 8) * (Int32.ofInt (i : Int))) + (Int32.ofInt (j : Int))), .ref 173] S R Q
      refine w_br (P := (Int32.ofInt (i : Int)) = (Int32.ofInt (j : Int))) rfl (fun _ => rfl) (fun h26 => ?_) (fun h26 => ?_)
      · refine w_st rfl (fun _ => rfl) ?_
        show w_T L xs (d + 9) m_X12_laysRing 53 [(3, .int (Int32.ofInt (j : Int))), (2, .int (Int32.ofInt (i : Int))), (0, .ref 100), (1, .int (Int32.ofInt (m : Int)))] [.int (Int32.ofInt 0), .int (((Int32.ofInt 8) * (Int32.ofInt (i : Int))) + (Int32.ofInt (j : Int))), .ref 173] S R Q
        refine w_bast rfl rfl (Or.inr ⟨rfl, rfl⟩) (by rw [e8, w8]; omega) (by rw [e8, w8]; omega) ?_
        rw [e8, w8n]
        refine w_st rfl (fun _ => rfl) ?_
        refine w_st rfl (fun _ => rfl) ?_
        show w_T L xs (d + 9) m_X12_laysRing 9 [(3, .int ((Int32.ofInt (j : Int)) + Int32.ofInt 1)), (2, .int (Int32.ofInt (i : Int))), (0, .ref 100), (1, .int (Int32.ofInt (m : Int)))] [] (v_ur S 172 (upd (S 172) (8 * i + j) (Int32.ofInt 0))) R Q
        rw [w_inc]
        exact ih (j + 1) _ _ (by omega) (r_J172 hJ (by omega) (by decide) (by decide))
      · refine w_st rfl (fun _ => rfl) ?_
        refine w_st rfl (fun _ => rfl) ?_
        show w_T L xs (d + 9) m_X12_laysRing 31 [(3, .int (Int32.ofInt (j : Int))), (2, .int (Int32.ofInt (i : Int))), (0, .ref 100), (1, .int (Int32.ofInt (m : Int)))] [.ref 100, .ref 100, .int (((Int32.ofInt 8) * (Int32.ofInt (i : Int))) + (Int32.ofInt (j : Int))), .ref 173] S R Q
        refine w_getr rfl v_tyM rfl ?_
        refine w_st rfl (fun _ => rfl) ?_
        show w_T L xs (d + 9) m_X12_laysRing 35 [(3, .int (Int32.ofInt (j : Int))), (2, .int (Int32.ofInt (i : Int))), (0, .ref 100), (1, .int (Int32.ofInt (m : Int)))] [.int (Int32.ofInt (i : Int)), .ref 153, .ref 100, .int (((Int32.ofInt 8) * (Int32.ofInt (i : Int))) + (Int32.ofInt (j : Int))), .ref 173] S R Q
        refine w_iald rfl rfl (by rw [ei]; omega) (by rw [ei]; omega) ?_
        rw [ein]
        refine w_st rfl (fun _ => rfl) ?_
        show w_T L xs (d + 9) m_X12_laysRing 37 [(3, .int (Int32.ofInt (j : Int))), (2, .int (Int32.ofInt (i : Int))), (0, .ref 100), (1, .int (Int32.ofInt (m : Int)))] [.ref 100, .int (S 152 i), .ref 100, .int (((Int32.ofInt 8) * (Int32.ofInt (i : Int))) + (Int32.ofInt (j : Int))), .ref 173] S R Q
        refine w_getr rfl v_tyM rfl ?_
        refine w_st rfl (fun _ => rfl) ?_
        show w_T L xs (d + 9) m_X12_laysRing 41 [(3, .int (Int32.ofInt (j : Int))), (2, .int (Int32.ofInt (i : Int))), (0, .ref 100), (1, .int (Int32.ofInt (m : Int)))] [.int (Int32.ofInt (j : Int)), .ref 153, .int (S 152 i), .ref 100, .int (((Int32.ofInt 8) * (Int32.ofInt (i : Int))) + (Int32.ofInt (j : Int))), .ref 173] S R Q
        refine w_iald rfl rfl (by rw [ej]; omega) (by rw [ej]; omega) ?_
        rw [ejn]
        show w_T L xs (d + 9) m_X12_laysRing 42 [(3, .int (Int32.ofInt (j : Int))), (2, .int (Int32.ofInt (i : Int))), (0, .ref 100), (1, .int (Int32.ofInt (m : Int)))] [.int (S 152 j), .int (S 152 i), .ref 100, .int (((Int32.ofInt 8) * (Int32.ofInt (i : Int))) + (Int32.ofInt (j : Int))), .ref 173] S R Q
        refine w_cv rfl (by decide) mt_X12_doQuarrel v_tyM rfl rfl rfl (Nat.le_of_ble_eq_true rfl) (Nat.le_of_ble_eq_true rfl) (Nat.le_of_ble_eq_true rfl) ?_
        show w_T L xs _ m_X12_doQuarrel 0 (lv_args 0 [.ref 100, .int (S 152 i), .int (S 152 j)]) [] S R _
        refine w_met hD (Nat.le_of_ble_eq_true rfl |> fun h => Nat.le_trans h (Nat.le_add_left 8 d)) mt_X12_doQuarrel ⟨rfl, ⟨_, rfl, si.1, si.2⟩, ⟨_, rfl, sj.1, sj.2⟩, trivial⟩ hJ.1 hJ.2.1 (fun r S1 R1 hT1 hO1 hr hF1 => ?_)
        obtain ⟨u, hr, -, -⟩ := hr
        subst hr
        have hJ1 := r_Jq hJ hT1 hO1 hF1
        show w_T L xs (d + 9) m_X12_laysRing 45 [(3, .int (Int32.ofInt (j : Int))), (2, .int (Int32.ofInt (i : Int))), (0, .ref 100), (1, .int (Int32.ofInt (m : Int)))] [.int u, .int (((Int32.ofInt 8) * (Int32.ofInt (i : Int))) + (Int32.ofInt (j : Int))), .ref 173] S1 R1 Q
        refine w_br (P := ¬ u = 0) rfl (fun _ => rfl) (fun h45 => ?_) (fun h45 => ?_)
        · refine w_st rfl (fun _ => rfl) ?_
          show w_T L xs (d + 9) m_X12_laysRing 53 [(3, .int (Int32.ofInt (j : Int))), (2, .int (Int32.ofInt (i : Int))), (0, .ref 100), (1, .int (Int32.ofInt (m : Int)))] [.int (Int32.ofInt 0), .int (((Int32.ofInt 8) * (Int32.ofInt (i : Int))) + (Int32.ofInt (j : Int))), .ref 173] S1 R1 Q
          refine w_bast rfl rfl (Or.inr ⟨rfl, rfl⟩) (by rw [e8, w8]; omega) (by rw [e8, w8]; omega) ?_
          rw [e8, w8n]
          refine w_st rfl (fun _ => rfl) ?_
          refine w_st rfl (fun _ => rfl) ?_
          show w_T L xs (d + 9) m_X12_laysRing 9 [(3, .int ((Int32.ofInt (j : Int)) + Int32.ofInt 1)), (2, .int (Int32.ofInt (i : Int))), (0, .ref 100), (1, .int (Int32.ofInt (m : Int)))] [] (v_ur S1 172 (upd (S1 172) (8 * i + j) (Int32.ofInt 0))) R1 Q
          rw [w_inc]
          exact ih (j + 1) _ _ (by omega) (r_J172 hJ1 (by omega) (by decide) (by decide))
        · refine w_st rfl (fun _ => rfl) ?_
          refine w_st rfl (fun _ => rfl) ?_
          show w_T L xs (d + 9) m_X12_laysRing 53 [(3, .int (Int32.ofInt (j : Int))), (2, .int (Int32.ofInt (i : Int))), (0, .ref 100), (1, .int (Int32.ofInt (m : Int)))] [.int (Int32.ofInt 1), .int (((Int32.ofInt 8) * (Int32.ofInt (i : Int))) + (Int32.ofInt (j : Int))), .ref 173] S1 R1 Q
          refine w_bast rfl rfl (Or.inr ⟨rfl, rfl⟩) (by rw [e8, w8]; omega) (by rw [e8, w8]; omega) ?_
          rw [e8, w8n]
          refine w_st rfl (fun _ => rfl) ?_
          refine w_st rfl (fun _ => rfl) ?_
          show w_T L xs (d + 9) m_X12_laysRing 9 [(3, .int ((Int32.ofInt (j : Int)) + Int32.ofInt 1)), (2, .int (Int32.ofInt (i : Int))), (0, .ref 100), (1, .int (Int32.ofInt (m : Int)))] [] (v_ur S1 172 (upd (S1 172) (8 * i + j) (Int32.ofInt 1))) R1 Q
          rw [w_inc]
          exact ih (j + 1) _ _ (by omega) (r_J172 hJ1 (by omega) (by decide) (by decide))
theorem r_pO (hD : v_Met L xs v_ty v_Op 207 rw_192) (hm : m ≤ 8) (K : ∀ x3 S R, r_J S0 R0 S R → w_T L xs (d + 9) m_X12_laysRing 66 [(2, .int (Int32.ofInt (m : Int))), (3, .int x3), (0, .ref 100), (1, .int (Int32.ofInt (m : Int)))] [] S R Q) : ∀ (c i : Nat) (x3 : Int32) (S : v_Sf) (R : v_Rf), i + c = m → r_J S0 R0 S R → w_T L xs (d + 9) m_X12_laysRing 2 [(2, .int (Int32.ofInt (i : Int))), (3, .int x3), (0, .ref 100), (1, .int (Int32.ofInt (m : Int)))] [] S R Q := by
  have em := w_nat (k := m) (by omega)
  intro c
  induction c with
  | zero =>
    intro i x3 S R hi hJ
    obtain rfl : i = m := by omega
    refine w_st rfl (fun _ => rfl) ?_
    refine w_st rfl (fun _ => rfl) ?_
    show w_T L xs (d + 9) m_X12_laysRing 4 [(2, .int (Int32.ofInt (i : Int))), (3, .int x3), (0, .ref 100), (1, .int (Int32.ofInt (i : Int)))] [.int (Int32.ofInt (i : Int)), .int (Int32.ofInt (i : Int))] S R Q
    refine w_br (P := (Int32.ofInt (i : Int)) ≤ (Int32.ofInt (i : Int))) rfl (fun _ => rfl) (fun h4 => ?_) (fun h4 => ?_)
    · exact K _ S R hJ
    · exfalso; rw [q_le32] at h4; omega
  | succ c ih =>
    intro i x3 S R hi hJ
    have ei := w_nat (k := i) (by omega)
    refine w_st rfl (fun _ => rfl) ?_
    refine w_st rfl (fun _ => rfl) ?_
    show w_T L xs (d + 9) m_X12_laysRing 4 [(2, .int (Int32.ofInt (i : Int))), (3, .int x3), (0, .ref 100), (1, .int (Int32.ofInt (m : Int)))] [.int (Int32.ofInt (m : Int)), .int (Int32.ofInt (i : Int))] S R Q
    refine w_br (P := (Int32.ofInt (m : Int)) ≤ (Int32.ofInt (i : Int))) rfl (fun _ => rfl) (fun h4 => ?_) (fun h4 => ?_)
    · exfalso; rw [q_le32, em, ei] at h4; omega
    · refine w_st rfl (fun _ => rfl) ?_
      refine w_st rfl (fun _ => rfl) ?_
      show w_T L xs (d + 9) m_X12_laysRing 9 [(3, .int (Int32.ofInt 0)), (2, .int (Int32.ofInt (i : Int))), (0, .ref 100), (1, .int (Int32.ofInt (m : Int)))] [] S R Q
      refine r_pI hD hm i (by omega) (fun S1 R1 hJ1 => ?_) m 0 S R (by omega) hJ
      refine w_st rfl (fun _ => rfl) ?_
      refine w_st rfl (fun _ => rfl) ?_
      show w_T L xs (d + 9) m_X12_laysRing 2 [(2, .int ((Int32.ofInt (i : Int)) + Int32.ofInt 1)), (3, .int (Int32.ofInt (m : Int))), (0, .ref 100), (1, .int (Int32.ofInt (m : Int)))] [] S1 R1 Q
      rw [w_inc]
      exact ih (i + 1) _ _ _ (by omega) hJ1
set_option maxHeartbeats 2000000 in
theorem r_k (S : v_Sf) (R : v_Rf) (hm : m ≤ 8) (b l : Nat) (b1 : b < 2 ^ m) (hl : l < m) (w0 : Int32) (K : ∀ w : Int32, (¬ w = 0 → ¬ w0 = 0 ∨ (∃ k', 1 ≤ k' ∧ k' < m ∧ b / 2 ^ k' % 2 = 0 ∧ ¬ S 172 (8 * l + k') = 0 ∧ ¬ S 171 (8 * (b + 2 ^ k') + k') = 0)) → w_T L xs (d + 1) m_X12_laysRing 176 [(5, .int (Int32.ofInt (m : Int))), (4, .int w), (3, .int (Int32.ofInt (l : Int))), (2, .int (Int32.ofInt (b : Int))), (0, .ref 100), (1, .int (Int32.ofInt (m : Int)))] [] S R Q) : ∀ (c k : Nat) (w : Int32), k + c = m → 1 ≤ k → (¬ w = 0 → ¬ w0 = 0 ∨ (∃ k', 1 ≤ k' ∧ k' < m ∧ b / 2 ^ k' % 2 = 0 ∧ ¬ S 172 (8 * l + k') = 0 ∧ ¬ S 171 (8 * (b + 2 ^ k') + k') = 0)) → w_T L xs (d + 1) m_X12_laysRing 118 [(5, .int (Int32.ofInt (k : Int))), (4, .int w), (3, .int (Int32.ofInt (l : Int))), (2, .int (Int32.ofInt (b : Int))), (0, .ref 100), (1, .int (Int32.ofInt (m : Int)))] [] S R Q := by
  have em := w_nat (k := m) (by omega)
  have p8 := r_p8 ⟨m, by omega⟩
  dsimp only at p8
  have eb := w_nat (k := b) (by omega)
  have ebn : (Int32.ofInt (b : Int)).toInt.toNat = b := by rw [eb]; omega
  intro c
  induction c with
  | zero =>
    intro k w hk h1 hw
    obtain rfl : k = m := by omega
    refine w_st rfl (fun _ => rfl) ?_
    refine w_st rfl (fun _ => rfl) ?_
    show w_T L xs (d + 1) m_X12_laysRing 121 [(5, .int (Int32.ofInt (k : Int))), (4, .int w), (3, .int (Int32.ofInt (l : Int))), (2, .int (Int32.ofInt (b : Int))), (0, .ref 100), (1, .int (Int32.ofInt (k : Int)))] [.int (Int32.ofInt (k : Int)), .int (Int32.ofInt (k : Int))] S R Q
    refine w_br (P := (Int32.ofInt (k : Int)) ≤ (Int32.ofInt (k : Int))) rfl (fun _ => rfl) (fun h121 => ?_) (fun h121 => ?_)
    · exact K w hw
    · exfalso; rw [q_le32] at h121; omega
  | succ c ih =>
    intro k w hk h1 hw
    have ek := w_nat (k := k) (by omega)
    have ekn : (Int32.ofInt (k : Int)).toInt.toNat = k := by rw [ek]; omega
    have hbit := h_bit (Int32.ofInt (b : Int)) (Int32.ofInt (k : Int)) (by omega) (by omega) (by omega)
    rw [ekn, ebn] at hbit
    have e8 := v_m8 (b := l) (k := k) (by omega) (by omega)
    have w8 := w_nat (k := 8 * l + k) (by omega)
    have w8n : (Int32.ofInt ((8 * l + k : Nat) : Int)).toInt.toNat = 8 * l + k := by rw [w8]; omega
    refine w_st rfl (fun _ => rfl) ?_
    refine w_st rfl (fun _ => rfl) ?_
    show w_T L xs (d + 1) m_X12_laysRing 121 [(5, .int (Int32.ofInt (k : Int))), (4, .int w), (3, .int (Int32.ofInt (l : Int))), (2, .int (Int32.ofInt (b : Int))), (0, .ref 100), (1, .int (Int32.ofInt (m : Int)))] [.int (Int32.ofInt (m : Int)), .int (Int32.ofInt (k : Int))] S R Q
    refine w_br (P := (Int32.ofInt (m : Int)) ≤ (Int32.ofInt (k : Int))) rfl (fun _ => rfl) (fun h121 => ?_) (fun h121 => ?_)
    · exfalso; rw [q_le32, em, ek] at h121; omega
    · refine w_st rfl (fun _ => rfl) ?_
      refine w_st rfl (fun _ => rfl) ?_
      show w_T L xs (d + 1) m_X12_laysRing 127 [(5, .int (Int32.ofInt (k : Int))), (4, .int w), (3, .int (Int32.ofInt (l : Int))), (2, .int (Int32.ofInt (b : Int))), (0, .ref 100), (1, .int (Int32.ofInt (m : Int)))] [.int (Int32.ofInt (k : Int)), .int (Int32.ofInt (b : Int))] S R Q
      refine w_cs rfl (by decide) mt_X12_has (fun _ => rfl) (Nat.le_of_ble_eq_true rfl) (Nat.le_of_ble_eq_true rfl) ?_
      show w_T L xs _ m_X12_has 0 (lv_args 0 [.int (Int32.ofInt (b : Int)), .int (Int32.ofInt (k : Int))]) [] S R _
      refine h_has _ _ ?_
      rw [hbit]
      show w_T L xs (d + 1) m_X12_laysRing 130 [(5, .int (Int32.ofInt (k : Int))), (4, .int w), (3, .int (Int32.ofInt (l : Int))), (2, .int (Int32.ofInt (b : Int))), (0, .ref 100), (1, .int (Int32.ofInt (m : Int)))] [.int (Int32.ofInt ((b / 2 ^ k % 2 : Nat) : Int))] S R Q
      refine w_br (P := ¬ (Int32.ofInt ((b / 2 ^ k % 2 : Nat) : Int)) = 0) rfl (fun _ => rfl) (fun h130 => ?_) (fun h130 => ?_)
      · refine w_st rfl (fun _ => rfl) ?_
        refine w_st rfl (fun _ => rfl) ?_
        show w_T L xs (d + 1) m_X12_laysRing 118 [(5, .int ((Int32.ofInt (k : Int)) + Int32.ofInt 1)), (4, .int w), (3, .int (Int32.ofInt (l : Int))), (2, .int (Int32.ofInt (b : Int))), (0, .ref 100), (1, .int (Int32.ofInt (m : Int)))] [] S R Q
        rw [w_inc]
        exact ih (k + 1) _ (by omega) (by omega) hw
      · have hz : b / 2 ^ k % 2 = 0 := by
          have h16 := Decidable.of_not_not h130
          have := congrArg Int32.toInt h16
          rw [w_nat (by omega)] at this
          have z0 : (0 : Int32).toInt = 0 := rfl
          omega
        obtain ⟨t1, t2, t3⟩ := v_t1_at (by omega) (by omega) hz hm b1 (show k < m by omega)
        have e9 := v_m8 (b := b + 2 ^ k) (k := k) (by omega) (by omega)
        have w9 := w_nat (k := 8 * (b + 2 ^ k) + k) (by omega)
        have w9n : (Int32.ofInt ((8 * (b + 2 ^ k) + k : Nat) : Int)).toInt.toNat = 8 * (b + 2 ^ k) + k := by rw [w9]; omega
        refine w_st rfl (fun _ => rfl) ?_
        show w_T L xs (d + 1) m_X12_laysRing 134 [(5, .int (Int32.ofInt (k : Int))), (4, .int w), (3, .int (Int32.ofInt (l : Int))), (2, .int (Int32.ofInt (b : Int))), (0, .ref 100), (1, .int (Int32.ofInt (m : Int)))] [.ref 100] S R Q
        refine w_getr rfl v_tyM rfl ?_
        refine w_st rfl (fun _ => rfl) ?_
        refine w_st rfl (fun _ => rfl) ?_
        refine w_st rfl (fun _ => rfl) ?_
        refine w_st rfl (fun _ => rfl) ?_
        refine w_st rfl (fun _ => rfl) ?_
        show w_T L xs (d + 1) m_X12_laysRing 144 [(5, .int (Int32.ofInt (k : Int))), (4, .int w), (3, .int (Int32.ofInt (l : Int))), (2, .int (Int32.ofInt (b : Int))), (0, .ref 100), (1, .int (Int32.ofInt (m : Int)))] [.int (((Int32.ofInt 8) * (Int32.ofInt (l : Int))) + (Int32.ofInt (k : Int))), .ref 173] S R Q
        refine w_bald rfl rfl (by decide) (by rw [e8, w8]; omega) (by rw [e8, w8]; omega) ?_
        rw [e8, w8n]
        show w_T L xs (d + 1) m_X12_laysRing 145 [(5, .int (Int32.ofInt (k : Int))), (4, .int w), (3, .int (Int32.ofInt (l : Int))), (2, .int (Int32.ofInt (b : Int))), (0, .ref 100), (1, .int (Int32.ofInt (m : Int)))] [.int (S 172 (8 * l + k))] S R Q
        refine w_br (P := (S 172 (8 * l + k)) = 0) rfl (fun _ => rfl) (fun h145 => ?_) (fun h145 => ?_)
        · refine w_st rfl (fun _ => rfl) ?_
          refine w_st rfl (fun _ => rfl) ?_
          show w_T L xs (d + 1) m_X12_laysRing 118 [(5, .int ((Int32.ofInt (k : Int)) + Int32.ofInt 1)), (4, .int w), (3, .int (Int32.ofInt (l : Int))), (2, .int (Int32.ofInt (b : Int))), (0, .ref 100), (1, .int (Int32.ofInt (m : Int)))] [] S R Q
          rw [w_inc]
          exact ih (k + 1) _ (by omega) (by omega) hw
        · refine w_st rfl (fun _ => rfl) ?_
          refine w_st rfl (fun _ => rfl) ?_
          show w_T L xs (d + 1) m_X12_laysRing 151 [(5, .int (Int32.ofInt (k : Int))), (4, .int w), (3, .int (Int32.ofInt (l : Int))), (2, .int (Int32.ofInt (b : Int))), (0, .ref 100), (1, .int (Int32.ofInt (m : Int)))] [.ref 100, .int w] S R Q
          refine w_getr rfl v_tyM rfl ?_
          refine w_st rfl (fun _ => rfl) ?_
          refine w_st rfl (fun _ => rfl) ?_
          refine w_st rfl (fun _ => rfl) ?_
          refine w_st rfl (fun _ => rfl) ?_
          refine w_st rfl (fun _ => rfl) ?_
          refine w_st rfl (fun _ => rfl) ?_
          refine w_st rfl (fun _ => rfl) ?_
          refine w_st rfl (fun _ => rfl) ?_
          refine w_st rfl (fun _ => rfl) ?_
          show w_T L xs (d + 1) m_X12_laysRing 166 [(5, .int (Int32.ofInt (k : Int))), (4, .int w), (3, .int (Int32.ofInt (l : Int))), (2, .int (Int32.ofInt (b : Int))), (0, .ref 100), (1, .int (Int32.ofInt (m : Int)))] [.int (((Int32.ofInt 8) * ((Int32.ofInt (b : Int)) ||| ((Int32.ofInt 1) <<< ((Int32.ofInt (k : Int)) &&& 31)))) + (Int32.ofInt (k : Int))), .ref 172, .int w] S R Q
          refine w_iald rfl rfl (by rw [t1, e9, w9]; omega) (by rw [t1, e9, w9]; omega) ?_
          rw [t1, e9, w9n]
          refine w_st rfl (fun _ => rfl) ?_
          refine w_st rfl (fun _ => rfl) ?_
          refine w_st rfl (fun _ => rfl) ?_
          refine w_st rfl (fun _ => rfl) ?_
          show w_T L xs (d + 1) m_X12_laysRing 118 [(5, .int ((Int32.ofInt (k : Int)) + Int32.ofInt 1)), (4, .int (w + (S 171 (8 * (b + 2 ^ k) + k)))), (3, .int (Int32.ofInt (l : Int))), (2, .int (Int32.ofInt (b : Int))), (0, .ref 100), (1, .int (Int32.ofInt (m : Int)))] [] S R Q
          rw [w_inc]
          refine ih (k + 1) _ (by omega) (by omega) (fun hne => ?_)
          by_cases hx : S 171 (8 * (b + 2 ^ k) + k) = 0
          · refine hw (fun e => hne ?_)
            rw [e, hx]
            rfl
          · exact Or.inr ⟨k, h1, by omega, hz, h145, hx⟩
theorem r_row (S : v_Sf) (R : v_Rf) (hJ : r_J S0 R0 S R) (hm : m ≤ 8) (hm1 : 1 ≤ m) (b l : Nat) (b1 : b < 2 ^ m) (hl : l < m) (w0 : Int32) (hw0 : b < 2 ^ m - 1 → w0 = 0) (hP : r_P S m b) (hR : ∀ l', l' < l → b < 2 ^ m - 1 → r_ok S m b l') (K : ∀ (x5 x4 : Int32) (S : v_Sf), r_J S0 R0 S R → r_P S m b → (∀ l', l' < l + 1 → b < 2 ^ m - 1 → r_ok S m b l') → w_T L xs (d + 1) m_X12_laysRing 78 [(3, .int ((Int32.ofInt ((l + 1 : Nat) : Int)))), (2, .int (Int32.ofInt (b : Int))), (5, .int x5), (4, .int x4), (0, .ref 100), (1, .int (Int32.ofInt (m : Int)))] [] S R Q) : w_T L xs (d + 1) m_X12_laysRing 118 [(5, .int ((Int32.ofInt 1))), (4, .int w0), (3, .int (Int32.ofInt (l : Int))), (2, .int (Int32.ofInt (b : Int))), (0, .ref 100), (1, .int (Int32.ofInt (m : Int)))] [] S R Q := by
  have p8 := r_p8 ⟨m, by omega⟩
  dsimp only at p8
  have e8 := v_m8 (b := b) (k := l) (by omega) (by omega)
  have w8 := w_nat (k := 8 * b + l) (by omega)
  have w8n : (Int32.ofInt ((8 * b + l : Nat) : Int)).toInt.toNat = 8 * b + l := by rw [w8]; omega
  refine r_k S R hm b l b1 hl w0 (fun w hw => ?_) (m - 1) 1 w0 (by omega) (by omega) (fun h => Or.inl h)
  refine w_st rfl (fun _ => rfl) ?_
  show w_T L xs (d + 1) m_X12_laysRing 177 [(5, .int (Int32.ofInt (m : Int))), (4, .int w), (3, .int (Int32.ofInt (l : Int))), (2, .int (Int32.ofInt (b : Int))), (0, .ref 100), (1, .int (Int32.ofInt (m : Int)))] [.ref 100] S R Q
  refine w_getr rfl v_tyM rfl ?_
  refine w_st rfl (fun _ => rfl) ?_
  refine w_st rfl (fun _ => rfl) ?_
  refine w_st rfl (fun _ => rfl) ?_
  refine w_st rfl (fun _ => rfl) ?_
  refine w_st rfl (fun _ => rfl) ?_
  refine w_st rfl (fun _ => rfl) ?_
  show w_T L xs (d + 1) m_X12_laysRing 188 [(5, .int (Int32.ofInt (m : Int))), (4, .int w), (3, .int (Int32.ofInt (l : Int))), (2, .int (Int32.ofInt (b : Int))), (0, .ref 100), (1, .int (Int32.ofInt (m : Int)))] [.int w, .int (((Int32.ofInt 8) * (Int32.ofInt (b : Int))) + (Int32.ofInt (l : Int))), .ref 172] S R Q
  refine w_iast rfl rfl (by rw [e8, w8]; omega) (by rw [e8, w8]; omega) ?_
  rw [e8, w8n]
  refine w_st rfl (fun _ => rfl) ?_
  refine w_st rfl (fun _ => rfl) ?_
  show w_T L xs (d + 1) m_X12_laysRing 78 [(3, .int ((Int32.ofInt (l : Int)) + Int32.ofInt 1)), (5, .int (Int32.ofInt (m : Int))), (4, .int w), (2, .int (Int32.ofInt (b : Int))), (0, .ref 100), (1, .int (Int32.ofInt (m : Int)))] [] (v_ur S 171 (upd (S 171) (8 * b + l) w)) R Q
  refine w_lc (b := [(3, .int ((Int32.ofInt (l : Int)) + Int32.ofInt 1)), (2, .int (Int32.ofInt (b : Int))), (5, .int (Int32.ofInt (m : Int))), (4, .int w), (0, .ref 100), (1, .int (Int32.ofInt (m : Int)))]) (show ([3, 5, 4, 2, 0, 1] : List Nat).Nodup by decide) (show ([3, 2, 5, 4, 0, 1] : List Nat).Nodup by decide) (fun i => match i with | 0 => rfl | 1 => rfl | 2 => rfl | 3 => rfl | 4 => rfl | 5 => rfl | _ + 6 => rfl) ?_
  rw [w_inc]
  refine K _ _ _ (r_J171 hJ (by omega)) (fun b' l' g1 g2 g3 => r_up hm g3 hl (Or.inl g1) (hP b' l' g1 g2 g3)) (fun l' g1 g2 => ?_)
  by_cases e : l' = l
  · subst e
    intro hn
    rw [w_urs] at hn
    obtain ⟨k, k1, k2, k3, k4, k5⟩ := (hw hn).resolve_left (fun h => h (hw0 g2))
    have hpk : 0 < 2 ^ k := Nat.pos_of_ne_zero (by simp)
    exact ⟨k, k1, k2, k3, by rw [w_urn (by omega)]; exact k4, by rw [w_urn (by omega)]; exact k5⟩
  · exact r_up hm (by omega) hl (Or.inr ⟨rfl, e⟩) (hR l' (by omega) g2)
theorem r_qA (S : v_Sf) (R : v_Rf) (hJ : r_J S0 R0 S R) (hm : m ≤ 8) (b l : Nat) (b1 : b < 2 ^ m) (hl : l < m) (hP : r_P S m b) (hR : ∀ l', l' < l → b < 2 ^ m - 1 → r_ok S m b l') (K : ∀ (x5 x4 : Int32) (S : v_Sf), r_J S0 R0 S R → r_P S m b → (∀ l', l' < l + 1 → b < 2 ^ m - 1 → r_ok S m b l') → w_T L xs (d + 1) m_X12_laysRing 78 [(3, .int ((Int32.ofInt ((l + 1 : Nat) : Int)))), (2, .int (Int32.ofInt (b : Int))), (5, .int x5), (4, .int x4), (0, .ref 100), (1, .int (Int32.ofInt (m : Int)))] [] S R Q) : w_T L xs (d + 1) m_X12_laysRing 78 [(3, .int (Int32.ofInt (l : Int))), (2, .int (Int32.ofInt (b : Int))), (0, .ref 100), (1, .int (Int32.ofInt (m : Int)))] [] S R Q := by
  have p8 := r_p8 ⟨m, by omega⟩
  have pw := r_pw ⟨m, by omega⟩
  dsimp only at p8 pw
  have em := w_nat (k := m) (by omega)
  have el := w_nat (k := l) (by omega)
  have eb := w_nat (k := b) (by omega)
  have e9 := w_nat (k := 2 ^ m - 1) (by omega)
  have e8 : Int32.ofInt 8 * Int32.ofInt (l : Int) = Int32.ofInt ((8 * l : Nat) : Int) := by rw [← Int32.ofInt_mul]; rfl
  have w8 := w_nat (k := 8 * l) (by omega)
  refine w_st rfl (fun _ => rfl) ?_
  refine w_st rfl (fun _ => rfl) ?_
  show w_T L xs (d + 1) m_X12_laysRing 80 [(3, .int (Int32.ofInt (l : Int))), (2, .int (Int32.ofInt (b : Int))), (0, .ref 100), (1, .int (Int32.ofInt (m : Int)))] [.int (Int32.ofInt (m : Int)), .int (Int32.ofInt (l : Int))] S R Q
  refine w_br (P := (Int32.ofInt (m : Int)) ≤ (Int32.ofInt (l : Int))) rfl (fun _ => rfl) (fun h80 => ?_) (fun h80 => ?_)
  · exfalso; rw [q_le32, em, el] at h80; omega
  · refine w_st rfl (fun _ => rfl) ?_
    refine w_st rfl (fun _ => rfl) ?_
    refine w_st rfl (fun _ => rfl) ?_
    refine w_st rfl (fun _ => rfl) ?_
    refine w_st rfl (fun _ => rfl) ?_
    refine w_st rfl (fun _ => rfl) ?_
    show w_T L xs (d + 1) m_X12_laysRing 89 [(3, .int (Int32.ofInt (l : Int))), (2, .int (Int32.ofInt (b : Int))), (0, .ref 100), (1, .int (Int32.ofInt (m : Int)))] [.int (((Int32.ofInt 1) <<< ((Int32.ofInt (m : Int)) &&& 31)) - (Int32.ofInt 1)), .int (Int32.ofInt (b : Int))] S R Q
    refine w_br (P := ¬ (Int32.ofInt (b : Int)) = (((Int32.ofInt 1) <<< ((Int32.ofInt (m : Int)) &&& 31)) - (Int32.ofInt 1))) rfl (fun _ => rfl) (fun h89 => ?_) (fun h89 => ?_)
    · refine w_st rfl (fun _ => rfl) ?_
      refine w_st rfl (fun _ => rfl) ?_
      refine w_st rfl (fun _ => rfl) ?_
      refine w_st rfl (fun _ => rfl) ?_
      show w_T L xs (d + 1) m_X12_laysRing 118 [(5, .int (Int32.ofInt 1)), (4, .int (Int32.ofInt 0)), (3, .int (Int32.ofInt (l : Int))), (2, .int (Int32.ofInt (b : Int))), (0, .ref 100), (1, .int (Int32.ofInt (m : Int)))] [] S R Q
      first
        | exact r_row S R hJ hm (by omega) b l b1 hl _ (fun _ => rfl) hP hR K
        | exact r_row S R hJ hm (by omega) b l b1 hl _ (fun h => absurd h hfull) hP hR K
    · have hfull : ¬ b < 2 ^ m - 1 := by
        have e := congrArg Int32.toInt (Decidable.of_not_not h89)
        rw [pw, eb, e9] at e
        omega
      refine w_st rfl (fun _ => rfl) ?_
      show w_T L xs (d + 1) m_X12_laysRing 93 [(3, .int (Int32.ofInt (l : Int))), (2, .int (Int32.ofInt (b : Int))), (0, .ref 100), (1, .int (Int32.ofInt (m : Int)))] [.ref 100] S R Q
      refine w_getr rfl v_tyM rfl ?_
      refine w_st rfl (fun _ => rfl) ?_
      refine w_st rfl (fun _ => rfl) ?_
      refine w_st rfl (fun _ => rfl) ?_
      show w_T L xs (d + 1) m_X12_laysRing 100 [(3, .int (Int32.ofInt (l : Int))), (2, .int (Int32.ofInt (b : Int))), (0, .ref 100), (1, .int (Int32.ofInt (m : Int)))] [.int ((Int32.ofInt 8) * (Int32.ofInt (l : Int))), .ref 173] S R Q
      refine w_bald rfl rfl (by decide) (by rw [e8, w8]; omega) (by rw [e8, w8]; omega) ?_
      generalize S 172 _ = pc9
      show w_T L xs (d + 1) m_X12_laysRing 101 [(3, .int (Int32.ofInt (l : Int))), (2, .int (Int32.ofInt (b : Int))), (0, .ref 100), (1, .int (Int32.ofInt (m : Int)))] [.int pc9] S R Q
      refine w_br (P := pc9 = 0) rfl (fun _ => rfl) (fun h101 => ?_) (fun h101 => ?_)
      · refine w_st rfl (fun _ => rfl) ?_
        refine w_st rfl (fun _ => rfl) ?_
        refine w_st rfl (fun _ => rfl) ?_
        refine w_st rfl (fun _ => rfl) ?_
        refine w_st rfl (fun _ => rfl) ?_
        show w_T L xs (d + 1) m_X12_laysRing 118 [(5, .int (Int32.ofInt 1)), (4, .int (Int32.ofInt 0)), (3, .int (Int32.ofInt (l : Int))), (2, .int (Int32.ofInt (b : Int))), (0, .ref 100), (1, .int (Int32.ofInt (m : Int)))] [] S R Q
        first
          | exact r_row S R hJ hm (by omega) b l b1 hl _ (fun _ => rfl) hP hR K
          | exact r_row S R hJ hm (by omega) b l b1 hl _ (fun h => absurd h hfull) hP hR K
      · refine w_st rfl (fun _ => rfl) ?_
        refine w_st rfl (fun _ => rfl) ?_
        refine w_st rfl (fun _ => rfl) ?_
        refine w_st rfl (fun _ => rfl) ?_
        refine w_st rfl (fun _ => rfl) ?_
        show w_T L xs (d + 1) m_X12_laysRing 118 [(5, .int (Int32.ofInt 1)), (4, .int (Int32.ofInt 1)), (3, .int (Int32.ofInt (l : Int))), (2, .int (Int32.ofInt (b : Int))), (0, .ref 100), (1, .int (Int32.ofInt (m : Int)))] [] S R Q
        first
          | exact r_row S R hJ hm (by omega) b l b1 hl _ (fun _ => rfl) hP hR K
          | exact r_row S R hJ hm (by omega) b l b1 hl _ (fun h => absurd h hfull) hP hR K
theorem r_qB (S : v_Sf) (R : v_Rf) (hJ : r_J S0 R0 S R) (hm : m ≤ 8) (b l : Nat) (b1 : b < 2 ^ m) (hl : l < m) (x5 x4 : Int32) (hP : r_P S m b) (hR : ∀ l', l' < l → b < 2 ^ m - 1 → r_ok S m b l') (K : ∀ (x5 x4 : Int32) (S : v_Sf), r_J S0 R0 S R → r_P S m b → (∀ l', l' < l + 1 → b < 2 ^ m - 1 → r_ok S m b l') → w_T L xs (d + 1) m_X12_laysRing 78 [(3, .int ((Int32.ofInt ((l + 1 : Nat) : Int)))), (2, .int (Int32.ofInt (b : Int))), (5, .int x5), (4, .int x4), (0, .ref 100), (1, .int (Int32.ofInt (m : Int)))] [] S R Q) : w_T L xs (d + 1) m_X12_laysRing 78 [(3, .int (Int32.ofInt (l : Int))), (2, .int (Int32.ofInt (b : Int))), (5, .int x5), (4, .int x4), (0, .ref 100), (1, .int (Int32.ofInt (m : Int)))] [] S R Q := by
  have p8 := r_p8 ⟨m, by omega⟩
  have pw := r_pw ⟨m, by omega⟩
  dsimp only at p8 pw
  have em := w_nat (k := m) (by omega)
  have el := w_nat (k := l) (by omega)
  have eb := w_nat (k := b) (by omega)
  have e9 := w_nat (k := 2 ^ m - 1) (by omega)
  have e8 : Int32.ofInt 8 * Int32.ofInt (l : Int) = Int32.ofInt ((8 * l : Nat) : Int) := by rw [← Int32.ofInt_mul]; rfl
  have w8 := w_nat (k := 8 * l) (by omega)
  refine w_st rfl (fun _ => rfl) ?_
  refine w_st rfl (fun _ => rfl) ?_
  show w_T L xs (d + 1) m_X12_laysRing 80 [(3, .int (Int32.ofInt (l : Int))), (2, .int (Int32.ofInt (b : Int))), (5, .int x5), (4, .int x4), (0, .ref 100), (1, .int (Int32.ofInt (m : Int)))] [.int (Int32.ofInt (m : Int)), .int (Int32.ofInt (l : Int))] S R Q
  refine w_br (P := (Int32.ofInt (m : Int)) ≤ (Int32.ofInt (l : Int))) rfl (fun _ => rfl) (fun h80 => ?_) (fun h80 => ?_)
  · exfalso; rw [q_le32, em, el] at h80; omega
  · refine w_st rfl (fun _ => rfl) ?_
    refine w_st rfl (fun _ => rfl) ?_
    refine w_st rfl (fun _ => rfl) ?_
    refine w_st rfl (fun _ => rfl) ?_
    refine w_st rfl (fun _ => rfl) ?_
    refine w_st rfl (fun _ => rfl) ?_
    show w_T L xs (d + 1) m_X12_laysRing 89 [(3, .int (Int32.ofInt (l : Int))), (2, .int (Int32.ofInt (b : Int))), (5, .int x5), (4, .int x4), (0, .ref 100), (1, .int (Int32.ofInt (m : Int)))] [.int (((Int32.ofInt 1) <<< ((Int32.ofInt (m : Int)) &&& 31)) - (Int32.ofInt 1)), .int (Int32.ofInt (b : Int))] S R Q
    refine w_br (P := ¬ (Int32.ofInt (b : Int)) = (((Int32.ofInt 1) <<< ((Int32.ofInt (m : Int)) &&& 31)) - (Int32.ofInt 1))) rfl (fun _ => rfl) (fun h89 => ?_) (fun h89 => ?_)
    · refine w_st rfl (fun _ => rfl) ?_
      refine w_st rfl (fun _ => rfl) ?_
      refine w_st rfl (fun _ => rfl) ?_
      refine w_st rfl (fun _ => rfl) ?_
      show w_T L xs (d + 1) m_X12_laysRing 118 [(5, .int (Int32.ofInt 1)), (4, .int (Int32.ofInt 0)), (3, .int (Int32.ofInt (l : Int))), (2, .int (Int32.ofInt (b : Int))), (0, .ref 100), (1, .int (Int32.ofInt (m : Int)))] [] S R Q
      first
        | exact r_row S R hJ hm (by omega) b l b1 hl _ (fun _ => rfl) hP hR K
        | exact r_row S R hJ hm (by omega) b l b1 hl _ (fun h => absurd h hfull) hP hR K
    · have hfull : ¬ b < 2 ^ m - 1 := by
        have e := congrArg Int32.toInt (Decidable.of_not_not h89)
        rw [pw, eb, e9] at e
        omega
      refine w_st rfl (fun _ => rfl) ?_
      show w_T L xs (d + 1) m_X12_laysRing 93 [(3, .int (Int32.ofInt (l : Int))), (2, .int (Int32.ofInt (b : Int))), (5, .int x5), (4, .int x4), (0, .ref 100), (1, .int (Int32.ofInt (m : Int)))] [.ref 100] S R Q
      refine w_getr rfl v_tyM rfl ?_
      refine w_st rfl (fun _ => rfl) ?_
      refine w_st rfl (fun _ => rfl) ?_
      refine w_st rfl (fun _ => rfl) ?_
      show w_T L xs (d + 1) m_X12_laysRing 100 [(3, .int (Int32.ofInt (l : Int))), (2, .int (Int32.ofInt (b : Int))), (5, .int x5), (4, .int x4), (0, .ref 100), (1, .int (Int32.ofInt (m : Int)))] [.int ((Int32.ofInt 8) * (Int32.ofInt (l : Int))), .ref 173] S R Q
      refine w_bald rfl rfl (by decide) (by rw [e8, w8]; omega) (by rw [e8, w8]; omega) ?_
      generalize S 172 _ = pc9
      show w_T L xs (d + 1) m_X12_laysRing 101 [(3, .int (Int32.ofInt (l : Int))), (2, .int (Int32.ofInt (b : Int))), (5, .int x5), (4, .int x4), (0, .ref 100), (1, .int (Int32.ofInt (m : Int)))] [.int pc9] S R Q
      refine w_br (P := pc9 = 0) rfl (fun _ => rfl) (fun h101 => ?_) (fun h101 => ?_)
      · refine w_st rfl (fun _ => rfl) ?_
        refine w_st rfl (fun _ => rfl) ?_
        refine w_st rfl (fun _ => rfl) ?_
        refine w_st rfl (fun _ => rfl) ?_
        refine w_st rfl (fun _ => rfl) ?_
        show w_T L xs (d + 1) m_X12_laysRing 118 [(5, .int (Int32.ofInt 1)), (4, .int (Int32.ofInt 0)), (3, .int (Int32.ofInt (l : Int))), (2, .int (Int32.ofInt (b : Int))), (0, .ref 100), (1, .int (Int32.ofInt (m : Int)))] [] S R Q
        first
          | exact r_row S R hJ hm (by omega) b l b1 hl _ (fun _ => rfl) hP hR K
          | exact r_row S R hJ hm (by omega) b l b1 hl _ (fun h => absurd h hfull) hP hR K
      · refine w_st rfl (fun _ => rfl) ?_
        refine w_st rfl (fun _ => rfl) ?_
        refine w_st rfl (fun _ => rfl) ?_
        refine w_st rfl (fun _ => rfl) ?_
        refine w_st rfl (fun _ => rfl) ?_
        show w_T L xs (d + 1) m_X12_laysRing 118 [(5, .int (Int32.ofInt 1)), (4, .int (Int32.ofInt 1)), (3, .int (Int32.ofInt (l : Int))), (2, .int (Int32.ofInt (b : Int))), (0, .ref 100), (1, .int (Int32.ofInt (m : Int)))] [] S R Q
        first
          | exact r_row S R hJ hm (by omega) b l b1 hl _ (fun _ => rfl) hP hR K
          | exact r_row S R hJ hm (by omega) b l b1 hl _ (fun h => absurd h hfull) hP hR K
theorem r_lB (R : v_Rf) (hm : m ≤ 8) (b : Nat) (b1 : b < 2 ^ m) (K : ∀ (x3 x5 x4 : Int32) (S : v_Sf), r_J S0 R0 S R → r_P S m b → (∀ l', l' < m → b < 2 ^ m - 1 → r_ok S m b l') → w_T L xs (d + 1) m_X12_laysRing 195 [(3, .int x3), (2, .int (Int32.ofInt (b : Int))), (5, .int x5), (4, .int x4), (0, .ref 100), (1, .int (Int32.ofInt (m : Int)))] [] S R Q) : ∀ (c l : Nat) (x5 x4 : Int32) (S : v_Sf), l + c = m → r_J S0 R0 S R → r_P S m b → (∀ l', l' < l → b < 2 ^ m - 1 → r_ok S m b l') → w_T L xs (d + 1) m_X12_laysRing 78 [(3, .int (Int32.ofInt (l : Int))), (2, .int (Int32.ofInt (b : Int))), (5, .int x5), (4, .int x4), (0, .ref 100), (1, .int (Int32.ofInt (m : Int)))] [] S R Q := by
  intro c
  induction c with
  | zero =>
    intro l x5 x4 S hl hJ hP hR
    obtain rfl : l = m := by omega
    refine w_st rfl (fun _ => rfl) ?_
    refine w_st rfl (fun _ => rfl) ?_
    show w_T L xs (d + 1) m_X12_laysRing 80 [(3, .int (Int32.ofInt (l : Int))), (2, .int (Int32.ofInt (b : Int))), (5, .int x5), (4, .int x4), (0, .ref 100), (1, .int (Int32.ofInt (l : Int)))] [.int (Int32.ofInt (l : Int)), .int (Int32.ofInt (l : Int))] S R Q
    refine w_br (P := (Int32.ofInt (l : Int)) ≤ (Int32.ofInt (l : Int))) rfl (fun _ => rfl) (fun h80 => ?_) (fun h80 => ?_)
    · exact K _ _ _ S hJ hP hR
    · exfalso; rw [q_le32] at h80; omega
  | succ c ih =>
    intro l x5 x4 S hl hJ hP hR
    exact r_qB S R hJ hm b l b1 (by omega) x5 x4 hP hR (fun x5 x4 S hJ hP hR => ih (l + 1) x5 x4 S (by omega) hJ hP hR)
theorem r_sB (R : v_Rf) (hm : m ≤ 8) (hm1 : 1 ≤ m) (K : ∀ S, r_J S0 R0 S R → r_P S m 0 → Q none S R) : ∀ (b : Nat) (x3 x5 x4 : Int32) (S : v_Sf), b < 2 ^ m → r_J S0 R0 S R → r_P S m b → w_T L xs (d + 1) m_X12_laysRing 72 [(2, .int (Int32.ofInt (b : Int))), (3, .int x3), (5, .int x5), (4, .int x4), (0, .ref 100), (1, .int (Int32.ofInt (m : Int)))] [] S R Q := by
  have p8 := r_p8 ⟨m, by omega⟩
  dsimp only at p8
  have z0 : (0 : Int32).toInt = 0 := rfl
  intro b
  induction b with
  | zero =>
    intro x3 x5 x4 S b1 hJ hP
    refine w_st rfl (fun _ => rfl) ?_
    show w_T L xs (d + 1) m_X12_laysRing 73 [(2, .int (Int32.ofInt ((0 : Nat) : Int))), (3, .int x3), (5, .int x5), (4, .int x4), (0, .ref 100), (1, .int (Int32.ofInt (m : Int)))] [.int (Int32.ofInt ((0 : Nat) : Int))] S R Q
    refine w_st rfl (fun _ => rfl) ?_
    show w_T L xs (d + 1) m_X12_laysRing 201 [(2, .int (Int32.ofInt ((0 : Nat) : Int))), (3, .int x3), (5, .int x5), (4, .int x4), (0, .ref 100), (1, .int (Int32.ofInt (m : Int)))] [] S R Q
    refine w_ret rfl rfl ?_
    exact K S hJ hP
  | succ b ih =>
    intro x3 x5 x4 S b1 hJ hP
    have eb := w_nat (k := b + 1) (by omega)
    refine w_st rfl (fun _ => rfl) ?_
    show w_T L xs (d + 1) m_X12_laysRing 73 [(2, .int (Int32.ofInt ((b + 1 : Nat) : Int))), (3, .int x3), (5, .int x5), (4, .int x4), (0, .ref 100), (1, .int (Int32.ofInt (m : Int)))] [.int (Int32.ofInt ((b + 1 : Nat) : Int))] S R Q
    refine w_br (P := (Int32.ofInt ((b + 1 : Nat) : Int)) ≤ 0) rfl (fun _ => rfl) (fun h73 => ?_) (fun h73 => ?_)
    · exfalso; rw [q_le32, eb, z0] at h73; omega
    · refine w_st rfl (fun _ => rfl) ?_
      refine w_st rfl (fun _ => rfl) ?_
      show w_T L xs (d + 1) m_X12_laysRing 78 [(3, .int (Int32.ofInt 0)), (2, .int (Int32.ofInt ((b + 1 : Nat) : Int))), (5, .int x5), (4, .int x4), (0, .ref 100), (1, .int (Int32.ofInt (m : Int)))] [] S R Q
      refine r_lB R hm (b + 1) b1 (fun x3 x5 x4 S1 hJ1 hP1 hR1 => ?_) m 0 x5 x4 S (by omega) hJ hP (fun l' h => absurd h (by omega))
      refine w_st rfl (fun _ => rfl) ?_
      refine w_st rfl (fun _ => rfl) ?_
      show w_T L xs (d + 1) m_X12_laysRing 72 [(2, .int ((Int32.ofInt ((b + 1 : Nat) : Int)) + Int32.ofInt (-1))), (3, .int x3), (5, .int x5), (4, .int x4), (0, .ref 100), (1, .int (Int32.ofInt (m : Int)))] [] S1 R Q
      rw [w_dec (by omega)]
      exact ih _ _ _ S1 (by omega) hJ1 (fun b' l' g1 g2 g3 => by
        by_cases e : b' = b + 1
        · subst e; exact hR1 l' g3 g2
        · exact hP1 b' l' (by omega) g2 g3)
theorem r_sA (R : v_Rf) (hm : m ≤ 8) (hm1 : 1 ≤ m) (K : ∀ S, r_J S0 R0 S R → r_P S m 0 → Q none S R) (b : Nat) (x3 : Int32) (S : v_Sf) (b1 : b + 1 < 2 ^ m) (hJ : r_J S0 R0 S R) (hP : r_P S m (b + 1)) : w_T L xs (d + 1) m_X12_laysRing 72 [(2, .int ((Int32.ofInt ((b + 1 : Nat) : Int)))), (3, .int x3), (0, .ref 100), (1, .int (Int32.ofInt (m : Int)))] [] S R Q := by
  have p8 := r_p8 ⟨m, by omega⟩
  dsimp only at p8
  have z0 : (0 : Int32).toInt = 0 := rfl
  have eb := w_nat (k := b + 1) (by omega)
  refine w_st rfl (fun _ => rfl) ?_
  show w_T L xs (d + 1) m_X12_laysRing 73 [(2, .int (Int32.ofInt ((b + 1 : Nat) : Int))), (3, .int x3), (0, .ref 100), (1, .int (Int32.ofInt (m : Int)))] [.int (Int32.ofInt ((b + 1 : Nat) : Int))] S R Q
  refine w_br (P := (Int32.ofInt ((b + 1 : Nat) : Int)) ≤ 0) rfl (fun _ => rfl) (fun h73 => ?_) (fun h73 => ?_)
  · exfalso; rw [q_le32, eb, z0] at h73; omega
  · refine w_st rfl (fun _ => rfl) ?_
    refine w_st rfl (fun _ => rfl) ?_
    show w_T L xs (d + 1) m_X12_laysRing 78 [(3, .int (Int32.ofInt 0)), (2, .int (Int32.ofInt ((b + 1 : Nat) : Int))), (0, .ref 100), (1, .int (Int32.ofInt (m : Int)))] [] S R Q
    refine r_qA S R hJ hm (b + 1) 0 b1 (by omega) hP (fun l' h => absurd h (by omega)) (fun x5 x4 S hJ hP hR => ?_)
    refine r_lB R hm (b + 1) b1 (fun x3 x5 x4 S1 hJ1 hP1 hR1 => ?_) (m - 1) (0 + 1) x5 x4 S (by omega) hJ hP hR
    refine w_st rfl (fun _ => rfl) ?_
    refine w_st rfl (fun _ => rfl) ?_
    show w_T L xs (d + 1) m_X12_laysRing 72 [(2, .int ((Int32.ofInt ((b + 1 : Nat) : Int)) + Int32.ofInt (-1))), (3, .int x3), (5, .int x5), (4, .int x4), (0, .ref 100), (1, .int (Int32.ofInt (m : Int)))] [] S1 R Q
    rw [w_dec (by omega)]
    exact r_sB R hm hm1 K b _ _ _ S1 (by omega) hJ1 (fun b' l' g1 g2 g3 => by
      by_cases e : b' = b + 1
      · subst e; exact hR1 l' g3 g2
      · exact hP1 b' l' (by omega) g2 g3)
theorem r_lays (hD : v_Met L xs v_ty v_Op 207 rw_192) (hm : m ≤ 8) (hm1 : 1 ≤ m) (S : v_Sf) (R : v_Rf) (hJ : r_J S0 R0 S R) (K : ∀ S R, r_J S0 R0 S R → r_P S m 0 → Q none S R) : w_T L xs (d + 9) m_X12_laysRing 0 (lv_args 0 [.ref 100, .int (Int32.ofInt (m : Int))]) [] S R Q := by
  have p8 := r_p8 ⟨m, by omega⟩
  have pw := r_pw ⟨m, by omega⟩
  dsimp only at p8 pw
  have em := w_nat (k := m) (by omega)
  have hp2 : 2 ≤ 2 ^ m := Nat.le_trans (by decide : 2 ≤ 2 ^ 1) (Nat.pow_le_pow_right (by decide) hm1)
  refine w_st rfl (fun _ => rfl) ?_
  refine w_st rfl (fun _ => rfl) ?_
  refine w_st rfl (fun _ => rfl) ?_
  refine w_st rfl (fun _ => rfl) ?_
  show w_T L xs (d + 9) m_X12_laysRing 4 [(2, .int (Int32.ofInt 0)), (0, .ref 100), (1, .int (Int32.ofInt (m : Int)))] [.int (Int32.ofInt (m : Int)), .int (Int32.ofInt 0)] S R Q
  refine w_br (P := (Int32.ofInt (m : Int)) ≤ (Int32.ofInt 0)) rfl (fun _ => rfl) (fun h4 => ?_) (fun h4 => ?_)
  · exfalso
    have z0 : (Int32.ofInt 0).toInt = 0 := by decide
    rw [q_le32, em] at h4
    omega
  · refine w_st rfl (fun _ => rfl) ?_
    refine w_st rfl (fun _ => rfl) ?_
    show w_T L xs (d + 9) m_X12_laysRing 9 [(3, .int (Int32.ofInt 0)), (2, .int (Int32.ofInt 0)), (0, .ref 100), (1, .int (Int32.ofInt (m : Int)))] [] S R Q
    refine r_pI hD hm 0 (by omega) (fun S1 R1 hJ1 => ?_) m 0 S R (by omega) hJ
    refine w_st rfl (fun _ => rfl) ?_
    refine w_st rfl (fun _ => rfl) ?_
    show w_T L xs (d + 9) m_X12_laysRing 2 [(2, .int ((Int32.ofInt ((0 : Nat) : Int)) + Int32.ofInt 1)), (3, .int (Int32.ofInt (m : Int))), (0, .ref 100), (1, .int (Int32.ofInt (m : Int)))] [] S1 R1 Q
    refine r_pO hD hm (fun x3 S2 R2 hJ2 => ?_) (m - 1) (0 + 1) _ S1 R1 (by omega) hJ1
    refine w_st rfl (fun _ => rfl) ?_
    refine w_st rfl (fun _ => rfl) ?_
    refine w_st rfl (fun _ => rfl) ?_
    refine w_st rfl (fun _ => rfl) ?_
    refine w_st rfl (fun _ => rfl) ?_
    refine w_st rfl (fun _ => rfl) ?_
    show w_T L xs (d + 9) m_X12_laysRing 72 [(2, .int (((Int32.ofInt 1) <<< ((Int32.ofInt (m : Int)) &&& 31)) - (Int32.ofInt 1))), (3, .int x3), (0, .ref 100), (1, .int (Int32.ofInt (m : Int)))] [] S2 R2 Q
    rw [pw]
    obtain ⟨b, hb⟩ : ∃ b, 2 ^ m - 1 = b + 1 := ⟨2 ^ m - 2, by omega⟩
    rw [hb]
    exact w_dm (by omega) (r_sA (d := d) R2 hm hm1 (fun S' h1 h2 => K S' R2 h1 h2) b x3 S2 (by omega) hJ2 (fun b' l' g1 g2 g3 => absurd g2 (by omega)))
end RL
end Prt39o
section Prt39p
/-! round: its row -/
section RW
variable {L : Nat} {xs : Nat → Int32} {d : Nat} {Q : Option Value → v_Sf → v_Rf → Prop} {m : Nat}
theorem r_wA (S : v_Sf) (R : v_Rf) (nn sI : Int32) (i w b l : Nat) (hm : m ≤ 8) (hw : i < w) (hwm : w < m) (hp : v_popN 8 b = i + 1) (b1 : b < 2 ^ m) (b0 : 1 ≤ b) (hl : l < m) (hn : ¬ S 171 (8 * b + l) = 0) (hG : v_rg S m) (K : ∀ (x7 : Int32) (b' l' : Nat), v_popN 8 b' = i + 1 + 1 → b' < 2 ^ m → 1 ≤ b' → l' < m → ¬ S 171 (8 * b' + l') = 0 → w_T L xs (d + 1) m_X12_round 92 [(6, .int ((Int32.ofInt ((i + 1 : Nat) : Int)))), (5, .int ((Int32.ofInt (l' : Int)))), (4, .int ((Int32.ofInt (b' : Int)))), (7, .int x7), (3, .int nn), (0, .ref 100), (1, .int sI), (2, .int (Int32.ofInt (w : Int)))] [] S R Q) : w_T L xs (d + 1) m_X12_round 92 [(6, .int (Int32.ofInt (i : Int))), (5, .int (Int32.ofInt (l : Int))), (4, .int (Int32.ofInt (b : Int))), (3, .int nn), (0, .ref 100), (1, .int sI), (2, .int (Int32.ofInt (w : Int)))] [] S R Q := by
  have p8 := r_p8 ⟨m, by omega⟩
  dsimp only at p8
  have ei := w_nat (k := i) (by omega)
  have ew := w_nat (k := w) (by omega)
  obtain ⟨k9, g1, g2, g3, g4, g5⟩ := hG b l b0 (v_t2_at (by omega) hm b1 (by omega)) hl hn
  refine w_st rfl (fun _ => rfl) ?_
  refine w_st rfl (fun _ => rfl) ?_
  show w_T L xs (d + 1) m_X12_round 95 [(6, .int (Int32.ofInt (i : Int))), (5, .int (Int32.ofInt (l : Int))), (4, .int (Int32.ofInt (b : Int))), (3, .int nn), (0, .ref 100), (1, .int sI), (2, .int (Int32.ofInt (w : Int)))] [.int (Int32.ofInt (w : Int)), .int (Int32.ofInt (i : Int))] S R Q
  refine w_br (P := (Int32.ofInt (w : Int)) ≤ (Int32.ofInt (i : Int))) rfl (fun _ => rfl) (fun h95 => ?_) (fun h95 => ?_)
  · exfalso; rw [q_le32, ew, ei] at h95; omega
  · refine w_st rfl (fun _ => rfl) ?_
    refine w_st rfl (fun _ => rfl) ?_
    show w_T L xs (d + 1) m_X12_round 101 [(7, .int (Int32.ofInt 1)), (6, .int (Int32.ofInt (i : Int))), (5, .int (Int32.ofInt (l : Int))), (4, .int (Int32.ofInt (b : Int))), (3, .int nn), (0, .ref 100), (1, .int sI), (2, .int (Int32.ofInt (w : Int)))] [] S R Q
    refine h_rK S R nn sI _ _ m b l k9 hm (by omega) b1 (by omega) g2 g3 g4 g5 (fun k k1 k2 k3 k4 => ?_) (k9 - 1) 1 (by omega) (by omega)
    obtain ⟨t1, t2, t3⟩ := v_t1_at (by omega) (by omega) k3 hm b1 k2
    refine w_st rfl (fun _ => rfl) ?_
    refine w_st rfl (fun _ => rfl) ?_
    refine w_st rfl (fun _ => rfl) ?_
    refine w_st rfl (fun _ => rfl) ?_
    refine w_st rfl (fun _ => rfl) ?_
    refine w_st rfl (fun _ => rfl) ?_
    refine w_st rfl (fun _ => rfl) ?_
    refine w_st rfl (fun _ => rfl) ?_
    refine w_st rfl (fun _ => rfl) ?_
    refine w_st rfl (fun _ => rfl) ?_
    show w_T L xs (d + 1) m_X12_round 92 [(6, .int ((Int32.ofInt (i : Int)) + Int32.ofInt 1)), (5, .int (Int32.ofInt (k : Int))), (4, .int ((Int32.ofInt (b : Int)) ||| ((Int32.ofInt 1) <<< ((Int32.ofInt (k : Int)) &&& 31)))), (7, .int (Int32.ofInt (k : Int))), (3, .int nn), (0, .ref 100), (1, .int sI), (2, .int (Int32.ofInt (w : Int)))] [] S R Q
    rw [t1, w_inc]
    exact K _ _ _ (by omega) t3 (Nat.le_trans b0 (Nat.le_add_right _ _)) k2 k4
theorem r_wB (S : v_Sf) (R : v_Rf) (nn sI : Int32) (x7 : Int32) (i w b l : Nat) (hm : m ≤ 8) (hw : i < w) (hwm : w < m) (hp : v_popN 8 b = i + 1) (b1 : b < 2 ^ m) (b0 : 1 ≤ b) (hl : l < m) (hn : ¬ S 171 (8 * b + l) = 0) (hG : v_rg S m) (K : ∀ (x7 : Int32) (b' l' : Nat), v_popN 8 b' = i + 1 + 1 → b' < 2 ^ m → 1 ≤ b' → l' < m → ¬ S 171 (8 * b' + l') = 0 → w_T L xs (d + 1) m_X12_round 92 [(6, .int ((Int32.ofInt ((i + 1 : Nat) : Int)))), (5, .int ((Int32.ofInt (l' : Int)))), (4, .int ((Int32.ofInt (b' : Int)))), (7, .int x7), (3, .int nn), (0, .ref 100), (1, .int sI), (2, .int (Int32.ofInt (w : Int)))] [] S R Q) : w_T L xs (d + 1) m_X12_round 92 [(6, .int (Int32.ofInt (i : Int))), (5, .int (Int32.ofInt (l : Int))), (4, .int (Int32.ofInt (b : Int))), (7, .int x7), (3, .int nn), (0, .ref 100), (1, .int sI), (2, .int (Int32.ofInt (w : Int)))] [] S R Q := by
  have p8 := r_p8 ⟨m, by omega⟩
  dsimp only at p8
  have ei := w_nat (k := i) (by omega)
  have ew := w_nat (k := w) (by omega)
  obtain ⟨k9, g1, g2, g3, g4, g5⟩ := hG b l b0 (v_t2_at (by omega) hm b1 (by omega)) hl hn
  refine w_st rfl (fun _ => rfl) ?_
  refine w_st rfl (fun _ => rfl) ?_
  show w_T L xs (d + 1) m_X12_round 95 [(6, .int (Int32.ofInt (i : Int))), (5, .int (Int32.ofInt (l : Int))), (4, .int (Int32.ofInt (b : Int))), (7, .int x7), (3, .int nn), (0, .ref 100), (1, .int sI), (2, .int (Int32.ofInt (w : Int)))] [.int (Int32.ofInt (w : Int)), .int (Int32.ofInt (i : Int))] S R Q
  refine w_br (P := (Int32.ofInt (w : Int)) ≤ (Int32.ofInt (i : Int))) rfl (fun _ => rfl) (fun h95 => ?_) (fun h95 => ?_)
  · exfalso; rw [q_le32, ew, ei] at h95; omega
  · refine w_st rfl (fun _ => rfl) ?_
    refine w_st rfl (fun _ => rfl) ?_
    show w_T L xs (d + 1) m_X12_round 101 [(7, .int (Int32.ofInt 1)), (6, .int (Int32.ofInt (i : Int))), (5, .int (Int32.ofInt (l : Int))), (4, .int (Int32.ofInt (b : Int))), (3, .int nn), (0, .ref 100), (1, .int sI), (2, .int (Int32.ofInt (w : Int)))] [] S R Q
    refine h_rK S R nn sI _ _ m b l k9 hm (by omega) b1 (by omega) g2 g3 g4 g5 (fun k k1 k2 k3 k4 => ?_) (k9 - 1) 1 (by omega) (by omega)
    obtain ⟨t1, t2, t3⟩ := v_t1_at (by omega) (by omega) k3 hm b1 k2
    refine w_st rfl (fun _ => rfl) ?_
    refine w_st rfl (fun _ => rfl) ?_
    refine w_st rfl (fun _ => rfl) ?_
    refine w_st rfl (fun _ => rfl) ?_
    refine w_st rfl (fun _ => rfl) ?_
    refine w_st rfl (fun _ => rfl) ?_
    refine w_st rfl (fun _ => rfl) ?_
    refine w_st rfl (fun _ => rfl) ?_
    refine w_st rfl (fun _ => rfl) ?_
    refine w_st rfl (fun _ => rfl) ?_
    show w_T L xs (d + 1) m_X12_round 92 [(6, .int ((Int32.ofInt (i : Int)) + Int32.ofInt 1)), (5, .int (Int32.ofInt (k : Int))), (4, .int ((Int32.ofInt (b : Int)) ||| ((Int32.ofInt 1) <<< ((Int32.ofInt (k : Int)) &&& 31)))), (7, .int (Int32.ofInt (k : Int))), (3, .int nn), (0, .ref 100), (1, .int sI), (2, .int (Int32.ofInt (w : Int)))] [] S R Q
    rw [t1, w_inc]
    exact K _ _ _ (by omega) t3 (Nat.le_trans b0 (Nat.le_add_right _ _)) k2 k4
theorem r_wL (S : v_Sf) (R : v_Rf) (nn sI : Int32) (w : Nat) (hm : m ≤ 8) (hwm : w < m) (hG : v_rg S m) (hq : ∀ v : Int32, Q (some (.int v)) S R) : ∀ (c i b l : Nat) (x7 : Int32), i + c = w → v_popN 8 b = i + 1 → b < 2 ^ m → 1 ≤ b → l < m → ¬ S 171 (8 * b + l) = 0 → w_T L xs (d + 1) m_X12_round 92 [(6, .int (Int32.ofInt (i : Int))), (5, .int (Int32.ofInt (l : Int))), (4, .int (Int32.ofInt (b : Int))), (7, .int x7), (3, .int nn), (0, .ref 100), (1, .int sI), (2, .int (Int32.ofInt (w : Int)))] [] S R Q := by
  intro c
  induction c with
  | zero =>
    intro i b l x7 hi hp b1 b0 hl hn
    obtain rfl : i = w := by omega
    have el := w_nat (k := l) (by omega)
    refine w_st rfl (fun _ => rfl) ?_
    refine w_st rfl (fun _ => rfl) ?_
    show w_T L xs (d + 1) m_X12_round 95 [(6, .int (Int32.ofInt (i : Int))), (5, .int (Int32.ofInt (l : Int))), (4, .int (Int32.ofInt (b : Int))), (7, .int x7), (3, .int nn), (0, .ref 100), (1, .int sI), (2, .int (Int32.ofInt (i : Int)))] [.int (Int32.ofInt (i : Int)), .int (Int32.ofInt (i : Int))] S R Q
    refine w_br (P := (Int32.ofInt (i : Int)) ≤ (Int32.ofInt (i : Int))) rfl (fun _ => rfl) (fun h95 => ?_) (fun h95 => ?_)
    · refine w_st rfl (fun _ => rfl) ?_
      show w_T L xs (d + 1) m_X12_round 174 [(6, .int (Int32.ofInt (i : Int))), (5, .int (Int32.ofInt (l : Int))), (4, .int (Int32.ofInt (b : Int))), (7, .int x7), (3, .int nn), (0, .ref 100), (1, .int sI), (2, .int (Int32.ofInt (i : Int)))] [.ref 100] S R Q
      refine w_getr rfl v_tyM rfl ?_
      refine w_st rfl (fun _ => rfl) ?_
      show w_T L xs (d + 1) m_X12_round 179 [(6, .int (Int32.ofInt (i : Int))), (5, .int (Int32.ofInt (l : Int))), (4, .int (Int32.ofInt (b : Int))), (7, .int x7), (3, .int nn), (0, .ref 100), (1, .int sI), (2, .int (Int32.ofInt (i : Int)))] [.int (Int32.ofInt (l : Int)), .ref 153] S R Q
      refine w_iald rfl rfl (by rw [el]; omega) (by rw [el]; omega) ?_
      show w_T L xs (d + 1) m_X12_round 180 [(6, .int (Int32.ofInt (i : Int))), (5, .int (Int32.ofInt (l : Int))), (4, .int (Int32.ofInt (b : Int))), (7, .int x7), (3, .int nn), (0, .ref 100), (1, .int sI), (2, .int (Int32.ofInt (i : Int)))] [.int (S 152 (Int32.ofInt (l : Int)).toInt.toNat)] S R Q
      refine w_ret rfl (by rfl) ?_
      exact hq _
    · exfalso; rw [q_le32] at h95; omega
  | succ c ih =>
    intro i b l x7 hi hp b1 b0 hl hn
    exact r_wB S R nn sI x7 i w b l hm (by omega) hwm hp b1 b0 hl hn hG (fun x7 b' l' y1 y2 y3 y4 y5 => ih (i + 1) b' l' x7 (by omega) y1 y2 y3 y4 y5)
theorem r_w0 (S : v_Sf) (R : v_Rf) (nn sI : Int32) (w : Nat) (hm : m ≤ 8) (hm1 : 1 ≤ m) (hwm : w < m) (hG : v_rg S m) (hn : ¬ S 171 8 = 0) (hq : ∀ v : Int32, Q (some (.int v)) S R) : w_T L xs (d + 1) m_X12_round 92 [(6, .int ((Int32.ofInt ((0 : Nat) : Int)))), (5, .int ((Int32.ofInt ((0 : Nat) : Int)))), (4, .int ((Int32.ofInt ((1 : Nat) : Int)))), (3, .int nn), (0, .ref 100), (1, .int sI), (2, .int (Int32.ofInt (w : Int)))] [] S R Q := by
  have hp2 : 2 ≤ 2 ^ m := Nat.le_trans (by decide : 2 ≤ 2 ^ 1) (Nat.pow_le_pow_right (by decide) hm1)
  by_cases h0 : w = 0
  · subst h0
    refine w_st rfl (fun _ => rfl) ?_
    refine w_st rfl (fun _ => rfl) ?_
    show w_T L xs (d + 1) m_X12_round 95 [(6, .int (Int32.ofInt ((0 : Nat) : Int))), (5, .int (Int32.ofInt ((0 : Nat) : Int))), (4, .int (Int32.ofInt ((1 : Nat) : Int))), (3, .int nn), (0, .ref 100), (1, .int sI), (2, .int (Int32.ofInt ((0 : Nat) : Int)))] [.int (Int32.ofInt ((0 : Nat) : Int)), .int (Int32.ofInt ((0 : Nat) : Int))] S R Q
    refine w_st rfl (fun _ => rfl) ?_
    refine w_st rfl (fun _ => rfl) ?_
    show w_T L xs (d + 1) m_X12_round 174 [(6, .int (Int32.ofInt ((0 : Nat) : Int))), (5, .int (Int32.ofInt ((0 : Nat) : Int))), (4, .int (Int32.ofInt ((1 : Nat) : Int))), (3, .int nn), (0, .ref 100), (1, .int sI), (2, .int (Int32.ofInt ((0 : Nat) : Int)))] [.ref 100] S R Q
    refine w_getr rfl v_tyM rfl ?_
    refine w_st rfl (fun _ => rfl) ?_
    show w_T L xs (d + 1) m_X12_round 179 [(6, .int (Int32.ofInt ((0 : Nat) : Int))), (5, .int (Int32.ofInt ((0 : Nat) : Int))), (4, .int (Int32.ofInt ((1 : Nat) : Int))), (3, .int nn), (0, .ref 100), (1, .int sI), (2, .int (Int32.ofInt ((0 : Nat) : Int)))] [.int (Int32.ofInt ((0 : Nat) : Int)), .ref 153] S R Q
    refine w_iald rfl rfl (by decide) (by decide) ?_
    show w_T L xs (d + 1) m_X12_round 180 [(6, .int (Int32.ofInt ((0 : Nat) : Int))), (5, .int (Int32.ofInt ((0 : Nat) : Int))), (4, .int (Int32.ofInt ((1 : Nat) : Int))), (3, .int nn), (0, .ref 100), (1, .int sI), (2, .int (Int32.ofInt ((0 : Nat) : Int)))] [.int (S 152 (Int32.ofInt ((0 : Nat) : Int)).toInt.toNat)] S R Q
    refine w_ret rfl (by rfl) ?_
    exact hq _
  · exact r_wA S R nn sI 0 w 1 0 hm (by omega) hwm rfl (by omega) (by omega) (by omega) hn hG (fun x7 b' l' y1 y2 y3 y4 y5 => r_wL S R nn sI w hm hwm hG hq (w - 1) (0 + 1) b' l' x7 (by omega) y1 y2 y3 y4 y5)
end RW
set_option maxHeartbeats 2000000 in
theorem hr_X12_round {L : Nat} {xs : Nat → Int32} (ih : ∀ x, ∀ w ∈ v_rw x, w.1 < rw_263.1 → v_Met L xs v_ty v_Op x w) : v_Met L xs v_ty v_Op 290 rw_263 := by
  have hG := ih 249 rw_222 (List.mem_of_getElem? (i := 0) rfl) (Nat.le_of_ble_eq_true rfl)
  have hD := ih 207 rw_192 (List.mem_of_getElem? (i := 0) rfl) (Nat.le_of_ble_eq_true rfl)
  intro M hM ac S R ha hT hO
  rw [mt_X12_round] at hM
  cases hM
  match ac, ha with
  | [r0, w1, w2], ⟨h0, ⟨sI, hg, _, _⟩, ⟨wh, hg2, _, _⟩, _⟩ =>
  have h0 : r0 = .ref 100 := h0
  subst h0 hg hg2
  show w_T L xs (2 + 9 + 1) m_X12_round 0 (lv_args 0 [.ref 100, .int sI, .int wh]) [] S R (fun (r : Option Value) (S' : v_Sf) (R' : v_Rf) => v_Tb v_ty S' R' ∧ v_Op S' ∧ v_rk1 (some ((-2147483648), 2147483647)) r ∧ v_Fr [(99, 27, 40), (114, 0, 240), (115, 0, 240), (152, 0, 12), (171, 0, 2048), (172, 0, 64)] S R S' R')
  generalize hQ : (fun (r : Option Value) (S' : v_Sf) (R' : v_Rf) => v_Tb v_ty S' R' ∧ v_Op S' ∧ v_rk1 (some ((-2147483648), 2147483647)) r ∧ v_Fr [(99, 27, 40), (114, 0, 240), (115, 0, 240), (152, 0, 12), (171, 0, 2048), (172, 0, 64)] S R S' R') = Q
  have hq : ∀ (S' : v_Sf) (R' : v_Rf) (v : Int32), r_J S R S' R' → Q (some (.int v)) S' R' := fun S' R' v a1 => by
    rw [← hQ]
    exact ⟨a1.1, a1.2.1, ⟨v, rfl, (q_rng v).1, (q_rng v).2⟩, a1.2.2⟩
  have c3 : ∀ j, j ≤ 12 → v_md [(99, 27, 40), (114, 0, 240), (115, 0, 240), (152, 0, 12), (171, 0, 2048), (172, 0, 64)] 152 j j = true := fun j hj => v_md_mono (lo := 0) (hi := 12) (by decide +kernel) (Nat.zero_le _) hj
  have f3 : ∀ j, v_frz 152 j j = false := fun j => rfl
  have hJ0 : r_J S R S R := ⟨hT, hO, v_Fr_rf _ _ _⟩
  have l0 : (Int64.ofNat 0).toInt = 0 := by decide
  have e8c : (Int32.ofInt 8).toInt = 8 := by decide
  have e3c : (Int32.ofInt 3).toInt = 3 := by decide
  have tail : 1 ≤ sI.toInt → sI.toInt ≤ 4095 → 3 ≤ (v_pop sI).toInt → (v_pop sI).toInt ≤ 8 → (wh = Int32.ofInt 20 ∨ (0 ≤ wh.toInt ∧ wh.toInt < (v_pop sI).toInt)) → w_T L xs (2 + 9 + 1) m_X12_round 35 [(0, .ref 100), (1, .int sI), (2, .int wh)] [] S R Q := by
    intro s1 s2 s3 s4 hwh
    obtain ⟨m, em, hm1, hm2⟩ : ∃ m : Nat, v_pop sI = Int32.ofInt (m : Int) ∧ 3 ≤ m ∧ m ≤ 8 := ⟨_, p_nof (by omega), by omega, by omega⟩
    have emn := w_nat (k := m) (by omega)
    refine w_st rfl (fun _ => rfl) ?_
    refine w_st rfl (fun _ => rfl) ?_
    show w_T L xs (2 + 9 + 1) m_X12_round 37 [(0, .ref 100), (1, .int sI), (2, .int wh)] [.int sI, .ref 100] S R Q
    refine w_cv rfl (by decide) mt_X12_takesSome v_tyM rfl rfl rfl (Nat.le_of_ble_eq_true rfl) (Nat.le_of_ble_eq_true rfl) (Nat.le_of_ble_eq_true rfl) ?_
    show w_T L xs _ m_X12_takesSome 0 (lv_args 0 [.ref 100, .int sI]) [] S R _
    refine h_X12_takesSome (d := 10) sI S (by omega) (by omega) hT (fun S1 hT1 hS1 => ?_)
    have hO1 : v_Op S1 := v_fz_ok.1 S S1 (fun a j hf => hS1 a j (fun e => by rw [e.1, f3] at hf; cases hf)) hO
    have hJ1 : r_J S R S1 R := ⟨hT1, hO1, fun a j hm => ⟨hS1 a j (fun e => by rw [e.1, c3 j e.2] at hm; cases hm), rfl⟩⟩
    rw [em]
    refine w_st rfl (fun _ => rfl) ?_
    refine w_st rfl (fun _ => rfl) ?_
    refine w_st rfl (fun _ => rfl) ?_
    show w_T L xs (2 + 9 + 1) m_X12_round 43 [(3, .int (Int32.ofInt (m : Int))), (0, .ref 100), (1, .int sI), (2, .int wh)] [.int (Int32.ofInt (m : Int)), .ref 100] S1 R Q
    refine w_cv rfl (by decide) mt_X12_laysRing v_tyM rfl rfl rfl (Nat.le_of_ble_eq_true rfl) (Nat.le_of_ble_eq_true rfl) (Nat.le_of_ble_eq_true rfl) ?_
    show w_T L xs _ m_X12_laysRing 0 (lv_args 0 [.ref 100, .int (Int32.ofInt (m : Int))]) [] S1 R _
    refine r_lays (d := 2) hD hm2 (by omega) S1 R hJ1 (fun S2 R2 hJ2 hP2 => ?_)
    have hrg : v_rg S2 m := fun b l g1 g2 g3 g4 => hP2 b l g1 g2 g3 g4
    refine w_st rfl (fun _ => rfl) ?_
    show w_T L xs (2 + 9 + 1) m_X12_round 47 [(3, .int (Int32.ofInt (m : Int))), (0, .ref 100), (1, .int sI), (2, .int wh)] [.ref 100] S2 R2 Q
    refine w_getr rfl v_tyM rfl ?_
    refine w_st rfl (fun _ => rfl) ?_
    show w_T L xs (2 + 9 + 1) m_X12_round 52 [(3, .int (Int32.ofInt (m : Int))), (0, .ref 100), (1, .int sI), (2, .int wh)] [.int (Int32.ofInt 8), .ref 172] S2 R2 Q
    refine w_iald rfl rfl (by decide) (by decide) ?_
    rw [show (Int32.ofInt 8).toInt.toNat = 8 by decide]
    show w_T L xs (2 + 9 + 1) m_X12_round 53 [(3, .int (Int32.ofInt (m : Int))), (0, .ref 100), (1, .int sI), (2, .int wh)] [.int (S2 171 8)] S2 R2 Q
    refine w_br (P := ¬ (S2 171 8) = 0) rfl (fun _ => rfl) (fun h53 => ?_) (fun h53 => ?_)
    · refine w_st rfl (fun _ => rfl) ?_
      refine w_st rfl (fun _ => rfl) ?_
      show w_T L xs (2 + 9 + 1) m_X12_round 72 [(3, .int (Int32.ofInt (m : Int))), (0, .ref 100), (1, .int sI), (2, .int wh)] [.int (Int32.ofInt 20), .int wh] S2 R2 Q
      refine w_br (P := ¬ wh = (Int32.ofInt 20)) rfl (fun _ => rfl) (fun h72 => ?_) (fun h72 => ?_)
      · refine w_st rfl (fun _ => rfl) ?_
        refine w_st rfl (fun _ => rfl) ?_
        refine w_st rfl (fun _ => rfl) ?_
        refine w_st rfl (fun _ => rfl) ?_
        refine w_st rfl (fun _ => rfl) ?_
        refine w_st rfl (fun _ => rfl) ?_
        show w_T L xs (2 + 9 + 1) m_X12_round 92 [(6, .int (Int32.ofInt 0)), (5, .int (Int32.ofInt 0)), (4, .int (Int32.ofInt 1)), (3, .int (Int32.ofInt (m : Int))), (0, .ref 100), (1, .int sI), (2, .int wh)] [] S2 R2 Q
        have hwr := hwh.resolve_left h72
        obtain ⟨w, rfl, hwl⟩ : ∃ w : Nat, wh = Int32.ofInt (w : Int) ∧ w < m := ⟨_, p_nof hwr.1, by rw [em, emn] at hwr; omega⟩
        exact r_w0 (d := 11) S2 R2 _ sI w hm2 (by omega) hwl hrg h53 (fun v => hq S2 R2 v hJ2)
      · refine w_st rfl (fun _ => rfl) ?_
        show w_T L xs (2 + 9 + 1) m_X12_round 76 [(3, .int (Int32.ofInt (m : Int))), (0, .ref 100), (1, .int sI), (2, .int wh)] [.ref 100] S2 R2 Q
        refine w_getr rfl v_tyM rfl ?_
        refine w_st rfl (fun _ => rfl) ?_
        show w_T L xs (2 + 9 + 1) m_X12_round 81 [(3, .int (Int32.ofInt (m : Int))), (0, .ref 100), (1, .int sI), (2, .int wh)] [.int (Int32.ofInt 8), .ref 172] S2 R2 Q
        refine w_iald rfl rfl (by decide) (by decide) ?_
        rw [show (Int32.ofInt 8).toInt.toNat = 8 by decide]
        show w_T L xs (2 + 9 + 1) m_X12_round 82 [(3, .int (Int32.ofInt (m : Int))), (0, .ref 100), (1, .int sI), (2, .int wh)] [.int (S2 171 8)] S2 R2 Q
        refine w_ret rfl (by rfl) ?_
        exact hq _ _ _ hJ2
    · refine w_st rfl (fun _ => rfl) ?_
      refine w_st rfl (fun _ => rfl) ?_
      show w_T L xs (2 + 9 + 1) m_X12_round 59 [(3, .int (Int32.ofInt (m : Int))), (0, .ref 100), (1, .int sI), (2, .int wh)] [.int (Int32.ofInt 20), .int wh] S2 R2 Q
      refine w_br (P := ¬ wh = (Int32.ofInt 20)) rfl (fun _ => rfl) (fun h59 => ?_) (fun h59 => ?_)
      · refine w_st rfl (fun _ => rfl) ?_
        show w_T L xs (2 + 9 + 1) m_X12_round 68 [(3, .int (Int32.ofInt (m : Int))), (0, .ref 100), (1, .int sI), (2, .int wh)] [.int (Int32.ofInt (-2))] S2 R2 Q
        refine w_ret rfl (by rfl) ?_
        exact hq _ _ _ hJ2
      · refine w_st rfl (fun _ => rfl) ?_
        refine w_st rfl (fun _ => rfl) ?_
        show w_T L xs (2 + 9 + 1) m_X12_round 68 [(3, .int (Int32.ofInt (m : Int))), (0, .ref 100), (1, .int sI), (2, .int wh)] [.int (Int32.ofInt 0)] S2 R2 Q
        refine w_ret rfl (by rfl) ?_
        exact hq _ _ _ hJ2
  refine w_st rfl (fun _ => rfl) ?_
  refine w_st rfl (fun _ => rfl) ?_
  refine w_st rfl (fun _ => rfl) ?_
  refine w_st rfl (fun _ => rfl) ?_
  show w_T L xs (2 + 9 + 1) m_X12_round 5 [(0, .ref 100), (1, .int sI), (2, .int wh)] [.int (Int32.ofInt 8), .int (Int32.ofInt 3), .int sI, .ref 100] S R Q
  refine w_cv rfl (by decide) mt_X12_areGusts v_tyM rfl rfl rfl (Nat.le_of_ble_eq_true rfl) (Nat.le_of_ble_eq_true rfl) (Nat.le_of_ble_eq_true rfl) ?_
  show w_T L xs _ m_X12_areGusts 0 (lv_args 0 [.ref 100, .int sI, .int (Int32.ofInt 3), .int (Int32.ofInt 8)]) [] S R _
  refine h_areGusts (d := 10) hG S R sI _ _ hT hO (fun u hu => ?_)
  show w_T L xs (2 + 9 + 1) m_X12_round 8 [(0, .ref 100), (1, .int sI), (2, .int wh)] [.int u] S R Q
  refine w_br (P := u = 0) rfl (fun _ => rfl) (fun h8 => ?_) (fun h8 => ?_)
  · refine w_st rfl (fun _ => rfl) ?_
    show w_T L xs (2 + 9 + 1) m_X12_round 34 [(0, .ref 100), (1, .int sI), (2, .int wh)] [.int (Int32.ofInt (-1))] S R Q
    refine w_ret rfl (by rfl) ?_
    exact hq _ _ _ hJ0
  · have hu := hu.resolve_left (fun e => h8 e)
    refine w_st rfl (fun _ => rfl) ?_
    refine w_st rfl (fun _ => rfl) ?_
    show w_T L xs (2 + 9 + 1) m_X12_round 14 [(0, .ref 100), (1, .int sI), (2, .int wh)] [.int (Int32.ofInt 20), .int wh] S R Q
    refine w_br (P := wh = (Int32.ofInt 20)) rfl (fun _ => rfl) (fun h14 => ?_) (fun h14 => ?_)
    · exact tail hu.1 hu.2.1 (by have := hu.2.2.1; rw [e3c] at this; exact this) (by have := hu.2.2.2; rw [e8c] at this; exact this) (Or.inl h14)
    · refine w_st rfl (fun _ => rfl) ?_
      refine w_st rfl (fun _ => rfl) ?_
      refine w_st rfl (fun _ => rfl) ?_
      refine w_st rfl (fun _ => rfl) ?_
      show w_T L xs (2 + 9 + 1) m_X12_round 21 [(0, .ref 100), (1, .int sI), (2, .int wh)] [.int sI, .long (Int64.ofNat 0), .long wh.toInt64] S R Q
      refine w_cs rfl (by decide) mt_X12_sizeOf (fun _ => rfl) (Nat.le_of_ble_eq_true rfl) (Nat.le_of_ble_eq_true rfl) ?_
      show w_T L xs _ m_X12_sizeOf 0 (lv_args 0 [.int sI]) [] S R _
      refine h_sizeOf _ ?_
      refine w_st rfl (fun _ => rfl) ?_
      refine w_st rfl (fun _ => rfl) ?_
      refine w_st rfl (fun _ => rfl) ?_
      show w_T L xs (2 + 9 + 1) m_X12_round 27 [(0, .ref 100), (1, .int sI), (2, .int wh)] [.long (((v_pop sI) - (Int32.ofInt 1)).toInt64), .long (Int64.ofNat 0), .long wh.toInt64] S R Q
      refine w_cs rfl (by decide) mt_X12_lies (fun _ => rfl) (Nat.le_of_ble_eq_true rfl) (Nat.le_of_ble_eq_true rfl) ?_
      show w_T L xs _ m_X12_lies 0 (lv_args 0 [.long wh.toInt64, .long (Int64.ofNat 0), .long (((v_pop sI) - (Int32.ofInt 1)).toInt64)]) [] S R _
      refine h_lies _ _ _ ?_
      rw [l0, Int32.toInt_toInt64, Int32.toInt_toInt64]
      show w_T L xs (2 + 9 + 1) m_X12_round 30 [(0, .ref 100), (1, .int sI), (2, .int wh)] [.int (if 0 ≤ wh.toInt ∧ wh.toInt ≤ (v_pop sI - Int32.ofInt 1).toInt then 1 else 0)] S R Q
      refine w_br (P := ¬ (if 0 ≤ wh.toInt ∧ wh.toInt ≤ (v_pop sI - Int32.ofInt 1).toInt then 1 else 0) = 0) rfl (fun _ => rfl) (fun h30 => ?_) (fun h30 => ?_)
      · have hw9 : 0 ≤ wh.toInt ∧ wh.toInt ≤ (v_pop sI - Int32.ofInt 1).toInt := by
          by_cases hc : 0 ≤ wh.toInt ∧ wh.toInt ≤ (v_pop sI - Int32.ofInt 1).toInt
          · exact hc
          · rw [if_neg hc] at h30
            exact absurd rfl h30
        have hu3 := hu.2.2.1
        have hu4 := hu.2.2.2
        rw [e3c] at hu3
        rw [e8c] at hu4
        have es : (v_pop sI - Int32.ofInt 1).toInt = (v_pop sI).toInt - 1 := by
          have e1 : v_pop sI - Int32.ofInt 1 = Int32.ofInt ((v_pop sI).toInt - 1) := by rw [Int32.ofInt_sub, q_of]
          rw [e1, q_ofr (by omega) (by omega)]
        exact tail hu.1 hu.2.1 hu3 hu4 (Or.inr ⟨hw9.1, by omega⟩)
      · refine w_st rfl (fun _ => rfl) ?_
        show w_T L xs (2 + 9 + 1) m_X12_round 34 [(0, .ref 100), (1, .int sI), (2, .int wh)] [.int (Int32.ofInt (-1))] S R Q
        refine w_ret rfl (by rfl) ?_
        exact hq _ _ _ hJ0
end Prt39p
