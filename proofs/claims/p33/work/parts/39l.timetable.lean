/-! timetable: its row -/
section TL
variable {L : Nat} {xs : Nat → Int32} {d : Nat} {R : v_Rf} {Q : Option Value → v_Sf → v_Rf → Prop} {S0 : v_Sf} {pl cs sk cl : Nat} {bd : Int32} {nc sg : Nat → Int32} {ov bh : Bool} {op : Int32} {na : Nat → Int32}
variable {T0 : v_Sf} {nm om : Nat} {bg : Bool} {nt fo ot pp : Nat → Int32}
theorem t_isWard {S : v_Sf} (w : Int32) (k1 : 0 ≤ w.toInt ∧ w.toInt ≤ 5 → Q (some (.int (Int32.ofInt 1))) S R) (k0 : Q (some (.int (Int32.ofInt 0))) S R) : w_T L xs (d + 1) m_X12_isWard 0 (lv_args 0 [.int w]) [] S R Q := by
  have e0 : (Int64.ofNat 0).toInt = 0 := by decide
  have e5 : (Int64.ofInt 5).toInt = 5 := by decide
  have e1 := Int32.toInt_toInt64 w
  refine w_st rfl (fun _ => rfl) ?_
  refine w_st rfl (fun _ => rfl) ?_
  refine w_st rfl (fun _ => rfl) ?_
  refine w_st rfl (fun _ => rfl) ?_
  show w_T L xs (d + 1) m_X12_isWard 6 [(0, .int w)] [.long (Int64.ofInt 5), .long (Int64.ofNat 0), .long w.toInt64] S R Q
  refine w_cs rfl (by decide) mt_X12_lies (fun _ => rfl) (Nat.le_of_ble_eq_true rfl) (Nat.le_of_ble_eq_true rfl) ?_
  show w_T L xs _ m_X12_lies 0 (lv_args 0 [.long w.toInt64, .long (Int64.ofNat 0), .long (Int64.ofInt 5)]) [] S R _
  refine h_lies _ _ _ ?_
  rw [e0, e5, e1]
  by_cases hd : 0 ≤ w.toInt ∧ w.toInt ≤ 5
  · rw [if_pos hd]
    show w_T L xs (d + 1) m_X12_isWard 9 [(0, .int w)] [.int (Int32.ofInt 1)] S R Q
    refine w_ret rfl (by rfl) ?_
    exact k1 hd
  · rw [if_neg hd]
    show w_T L xs (d + 1) m_X12_isWard 9 [(0, .int w)] [.int (Int32.ofInt 0)] S R Q
    refine w_ret rfl (by rfl) ?_
    exact k0
theorem h_ttS {w n : Int32} (he : (T0 99 4).toInt ≤ 240) (htp : ∀ j, j < 260 → -128 ≤ (T0 100 j).toInt ∧ (T0 100 j).toInt ≤ 127) (hp : pl ≤ 240) (hM : t_M nm om nt fo ot pp) (K7 : ∀ (pl' nm' om' : Nat) (g' : Bool) (nt' fo' ot' pp' : Nat → Int32), pl < pl' → pl' ≤ 240 → t_M nm' om' nt' fo' ot' pp' → w_T L xs (d + 3) m_X12_timetable 49 [(0, .ref 100), (1, .int w), (2, .int n)] [] (p_S (t_S T0 (nm') (om') (g') (nt') (fo') (ot') (pp')) (pl') cs sk cl (Int32.ofInt 0) nc sg ov bh op na) R Q) (K9 : ∀ (pl' nm' om' : Nat) (g' : Bool) (nt' fo' ot' pp' : Nat → Int32), pl' ≤ 240 → t_M nm' om' nt' fo' ot' pp' → w_T L xs (d + 3) m_X12_timetable 109 [(0, .ref 100), (1, .int w), (2, .int n)] [] (p_S (t_S T0 (nm') (om') (g') (nt') (fo') (ot') (pp')) (pl') cs sk cl (Int32.ofInt 0) nc sg ov bh op na) R Q) (Kb : ∀ (pl' nm' om' : Nat) (b' : Int32) (g' : Bool) (nt' fo' ot' pp' : Nat → Int32), b'.toInt < 0 → pl' ≤ 240 → t_M nm' om' nt' fo' ot' pp' → Q (some (.int b')) (p_S (t_S T0 (nm') (om') (g') (nt') (fo') (ot') (pp')) (pl') cs sk cl (b') nc sg ov bh op na) R) : w_T L xs (d + 3) m_X12_timetable 49 [(0, .ref 100), (1, .int w), (2, .int n)] [] (p_S (t_S T0 nm om bg nt fo ot pp) pl cs sk cl (Int32.ofInt 0) nc sg ov bh op na) R Q := by
  have epl := w_nat (k := pl) (by omega)
  have z0 : (0 : Int32).toInt = 0 := rfl
  refine w_st rfl (fun _ => rfl) ?_
  show w_T L xs (d + 3) m_X12_timetable 50 [(0, .ref 100), (1, .int w), (2, .int n)] [.ref 100] (p_S (t_S T0 nm om bg nt fo ot pp) pl cs sk cl (Int32.ofInt 0) nc sg ov bh op na) R Q
  refine w_cv rfl (by decide) mt_X12_isGood v_tyM rfl rfl rfl (Nat.le_of_ble_eq_true rfl) (Nat.le_of_ble_eq_true rfl) (Nat.le_of_ble_eq_true rfl) ?_
  show w_T L xs _ m_X12_isGood 0 (lv_args 0 [.ref 100]) [] (p_S (t_S T0 nm om bg nt fo ot pp) pl cs sk cl (Int32.ofInt 0) nc sg ov bh op na) R _
  refine h_isGT ?_
  show w_T L xs (d + 3) m_X12_timetable 53 [(0, .ref 100), (1, .int w), (2, .int n)] [.int (Int32.ofInt 1)] (p_S (t_S T0 nm om bg nt fo ot pp) pl cs sk cl (Int32.ofInt 0) nc sg ov bh op na) R Q
  refine w_st rfl (fun _ => rfl) ?_
  refine w_st rfl (fun _ => rfl) ?_
  show w_T L xs (d + 3) m_X12_timetable 57 [(0, .ref 100), (1, .int w), (2, .int n)] [.ref 100] (p_S (t_S T0 nm om bg nt fo ot pp) pl cs sk cl (Int32.ofInt 0) nc sg ov bh op na) R Q
  refine w_get rfl v_tyM rfl ?_
  refine w_st rfl (fun _ => rfl) ?_
  show w_T L xs (d + 3) m_X12_timetable 61 [(0, .ref 100), (1, .int w), (2, .int n)] [.ref 100, .int (Int32.ofInt (pl : Int))] (p_S (t_S T0 nm om bg nt fo ot pp) pl cs sk cl (Int32.ofInt 0) nc sg ov bh op na) R Q
  refine w_get rfl v_tyM rfl ?_
  show w_T L xs (d + 3) m_X12_timetable 64 [(0, .ref 100), (1, .int w), (2, .int n)] [.int (T0 99 4), .int (Int32.ofInt (pl : Int))] (p_S (t_S T0 nm om bg nt fo ot pp) pl cs sk cl (Int32.ofInt 0) nc sg ov bh op na) R Q
  refine w_br (P := (T0 99 4) ≤ (Int32.ofInt (pl : Int))) rfl (fun _ => rfl) (fun h64 => ?_) (fun h64 => ?_)
  · refine w_st rfl (fun _ => rfl) ?_
    show w_T L xs (d + 3) m_X12_timetable 75 [(0, .ref 100), (1, .int w), (2, .int n)] [.ref 100] (p_S (t_S T0 nm om bg nt fo ot pp) pl cs sk cl (Int32.ofInt 0) nc sg ov bh op na) R Q
    refine w_cv rfl (by decide) mt_X12_isGood v_tyM rfl rfl rfl (Nat.le_of_ble_eq_true rfl) (Nat.le_of_ble_eq_true rfl) (Nat.le_of_ble_eq_true rfl) ?_
    show w_T L xs _ m_X12_isGood 0 (lv_args 0 [.ref 100]) [] (p_S (t_S T0 nm om bg nt fo ot pp) pl cs sk cl (Int32.ofInt 0) nc sg ov bh op na) R _
    refine h_isGT ?_
    show w_T L xs (d + 3) m_X12_timetable 78 [(0, .ref 100), (1, .int w), (2, .int n)] [.int (Int32.ofInt 1)] (p_S (t_S T0 nm om bg nt fo ot pp) pl cs sk cl (Int32.ofInt 0) nc sg ov bh op na) R Q
    refine w_st rfl (fun _ => rfl) ?_
    refine w_st rfl (fun _ => rfl) ?_
    show w_T L xs (d + 3) m_X12_timetable 82 [(0, .ref 100), (1, .int w), (2, .int n)] [.ref 100] (p_S (t_S T0 nm om bg nt fo ot pp) pl cs sk cl (Int32.ofInt 0) nc sg ov bh op na) R Q
    refine w_get rfl v_tyM rfl ?_
    show w_T L xs (d + 3) m_X12_timetable 85 [(0, .ref 100), (1, .int w), (2, .int n)] [.int (Int32.ofInt (om : Int))] (p_S (t_S T0 nm om bg nt fo ot pp) pl cs sk cl (Int32.ofInt 0) nc sg ov bh op na) R Q
    refine w_br (P := (Int32.ofInt (om : Int)) ≤ 0) rfl (fun _ => rfl) (fun h85 => ?_) (fun h85 => ?_)
    · refine w_st rfl (fun _ => rfl) ?_
      show w_T L xs (d + 3) m_X12_timetable 98 [(0, .ref 100), (1, .int w), (2, .int n)] [.ref 100] (p_S (t_S T0 nm om bg nt fo ot pp) pl cs sk cl (Int32.ofInt 0) nc sg ov bh op na) R Q
      refine w_get rfl v_tyM rfl ?_
      show w_T L xs (d + 3) m_X12_timetable 101 [(0, .ref 100), (1, .int w), (2, .int n)] [.int (Int32.ofInt 0)] (p_S (t_S T0 nm om bg nt fo ot pp) pl cs sk cl (Int32.ofInt 0) nc sg ov bh op na) R Q
      refine w_st rfl (fun _ => rfl) ?_
      show w_T L xs (d + 3) m_X12_timetable 109 [(0, .ref 100), (1, .int w), (2, .int n)] [] (p_S (t_S T0 nm om bg nt fo ot pp) pl cs sk cl (Int32.ofInt 0) nc sg ov bh op na) R Q
      exact K9 _ _ _ _ _ _ _ _ hp hM
    · refine w_st rfl (fun _ => rfl) ?_
      refine w_st rfl (fun _ => rfl) ?_
      refine w_st rfl (fun _ => rfl) ?_
      show w_T L xs (d + 3) m_X12_timetable 91 [(0, .ref 100), (1, .int w), (2, .int n)] [.ref 100, .int (Int32.ofInt 1), .ref 100] (p_S (t_S T0 nm om bg nt fo ot pp) pl cs sk cl (Int32.ofInt 0) nc sg ov bh op na) R Q
      refine w_get rfl v_tyM rfl ?_
      show w_T L xs (d + 3) m_X12_timetable 94 [(0, .ref 100), (1, .int w), (2, .int n)] [.int (Int32.ofInt (pl : Int)), .int (Int32.ofInt 1), .ref 100] (p_S (t_S T0 nm om bg nt fo ot pp) pl cs sk cl (Int32.ofInt 0) nc sg ov bh op na) R Q
      refine w_cv rfl (by decide) mt_X12_wrongs v_tyM rfl rfl rfl (Nat.le_of_ble_eq_true rfl) (Nat.le_of_ble_eq_true rfl) (Nat.le_of_ble_eq_true rfl) ?_
      show w_T L xs _ m_X12_wrongs 0 (lv_args 0 [.ref 100, .int (Int32.ofInt 1), .int (Int32.ofInt (pl : Int))]) [] (p_S (t_S T0 nm om bg nt fo ot pp) pl cs sk cl (Int32.ofInt 0) nc sg ov bh op na) R _
      refine h_wr (by decide) (by decide) (by rw [w_nat (by omega)]; omega) (by rw [w_nat (by omega)]; omega) (fun b94 hb94 => ?_)
      refine w_st rfl (fun _ => rfl) ?_
      show w_T L xs (d + 3) m_X12_timetable 98 [(0, .ref 100), (1, .int w), (2, .int n)] [.ref 100] (p_S (t_S T0 nm om bg nt fo ot pp) pl cs sk cl b94 nc sg ov bh op na) R Q
      refine w_get rfl v_tyM rfl ?_
      show w_T L xs (d + 3) m_X12_timetable 101 [(0, .ref 100), (1, .int w), (2, .int n)] [.int b94] (p_S (t_S T0 nm om bg nt fo ot pp) pl cs sk cl b94 nc sg ov bh op na) R Q
      refine w_br (P := 0 ≤ b94) rfl (fun _ => rfl) (fun h101 => ?_) (fun h101 => ?_)
      · exfalso
        rw [q_le32] at h101
        omega
      · refine w_st rfl (fun _ => rfl) ?_
        show w_T L xs (d + 3) m_X12_timetable 105 [(0, .ref 100), (1, .int w), (2, .int n)] [.ref 100] (p_S (t_S T0 nm om bg nt fo ot pp) pl cs sk cl b94 nc sg ov bh op na) R Q
        refine w_get rfl v_tyM rfl ?_
        show w_T L xs (d + 3) m_X12_timetable 108 [(0, .ref 100), (1, .int w), (2, .int n)] [.int b94] (p_S (t_S T0 nm om bg nt fo ot pp) pl cs sk cl b94 nc sg ov bh op na) R Q
        refine w_ret rfl (by rfl) ?_
        exact Kb _ _ _ _ _ _ _ _ _ hb94 hp hM
  · have hlt : (pl : Int) < (T0 99 4).toInt := by
      rw [q_le32, epl] at h64
      omega
    refine w_st rfl (fun _ => rfl) ?_
    show w_T L xs (d + 3) m_X12_timetable 68 [(0, .ref 100), (1, .int w), (2, .int n)] [.ref 100] (p_S (t_S T0 nm om bg nt fo ot pp) pl cs sk cl (Int32.ofInt 0) nc sg ov bh op na) R Q
    refine w_cv rfl (by decide) mt_X12_monthTold v_tyM rfl rfl rfl (Nat.le_of_ble_eq_true rfl) (Nat.le_of_ble_eq_true rfl) (Nat.le_of_ble_eq_true rfl) ?_
    show w_T L xs _ m_X12_monthTold 0 (lv_args 0 [.ref 100]) [] (p_S (t_S T0 nm om bg nt fo ot pp) pl cs sk cl (Int32.ofInt 0) nc sg ov bh op na) R _
    refine h_month he htp hlt hM (fun pl1 nm1 om1 g1 nt1 fo1 ot1 pp1 x1 x2 x3 => ?_) (fun pl1 nm1 om1 b68 g1 nt1 fo1 ot1 pp1 hb68 x2 x3 => ?_)
    · show w_T L xs (d + 3) m_X12_timetable 71 [(0, .ref 100), (1, .int w), (2, .int n)] [] (p_S (t_S T0 nm1 om1 g1 nt1 fo1 ot1 pp1) pl1 cs sk cl (Int32.ofInt 0) nc sg ov bh op na) R Q
      refine w_st rfl (fun _ => rfl) ?_
      show w_T L xs (d + 3) m_X12_timetable 49 [(0, .ref 100), (1, .int w), (2, .int n)] [] (p_S (t_S T0 nm1 om1 g1 nt1 fo1 ot1 pp1) pl1 cs sk cl (Int32.ofInt 0) nc sg ov bh op na) R Q
      exact K7 _ _ _ _ _ _ _ _ x1 x2 x3
    · show w_T L xs (d + 3) m_X12_timetable 71 [(0, .ref 100), (1, .int w), (2, .int n)] [] (p_S (t_S T0 nm1 om1 g1 nt1 fo1 ot1 pp1) pl1 cs sk cl b68 nc sg ov bh op na) R Q
      refine w_st rfl (fun _ => rfl) ?_
      show w_T L xs (d + 3) m_X12_timetable 49 [(0, .ref 100), (1, .int w), (2, .int n)] [] (p_S (t_S T0 nm1 om1 g1 nt1 fo1 ot1 pp1) pl1 cs sk cl b68 nc sg ov bh op na) R Q
      refine w_st rfl (fun _ => rfl) ?_
      show w_T L xs (d + 3) m_X12_timetable 50 [(0, .ref 100), (1, .int w), (2, .int n)] [.ref 100] (p_S (t_S T0 nm1 om1 g1 nt1 fo1 ot1 pp1) pl1 cs sk cl b68 nc sg ov bh op na) R Q
      refine w_cv rfl (by decide) mt_X12_isGood v_tyM rfl rfl rfl (Nat.le_of_ble_eq_true rfl) (Nat.le_of_ble_eq_true rfl) (Nat.le_of_ble_eq_true rfl) ?_
      show w_T L xs _ m_X12_isGood 0 (lv_args 0 [.ref 100]) [] (p_S (t_S T0 nm1 om1 g1 nt1 fo1 ot1 pp1) pl1 cs sk cl b68 nc sg ov bh op na) R _
      refine h_isGF hb68 ?_
      show w_T L xs (d + 3) m_X12_timetable 53 [(0, .ref 100), (1, .int w), (2, .int n)] [.int (Int32.ofInt 0)] (p_S (t_S T0 nm1 om1 g1 nt1 fo1 ot1 pp1) pl1 cs sk cl b68 nc sg ov bh op na) R Q
      refine w_st rfl (fun _ => rfl) ?_
      refine w_st rfl (fun _ => rfl) ?_
      show w_T L xs (d + 3) m_X12_timetable 75 [(0, .ref 100), (1, .int w), (2, .int n)] [.ref 100] (p_S (t_S T0 nm1 om1 g1 nt1 fo1 ot1 pp1) pl1 cs sk cl b68 nc sg ov bh op na) R Q
      refine w_cv rfl (by decide) mt_X12_isGood v_tyM rfl rfl rfl (Nat.le_of_ble_eq_true rfl) (Nat.le_of_ble_eq_true rfl) (Nat.le_of_ble_eq_true rfl) ?_
      show w_T L xs _ m_X12_isGood 0 (lv_args 0 [.ref 100]) [] (p_S (t_S T0 nm1 om1 g1 nt1 fo1 ot1 pp1) pl1 cs sk cl b68 nc sg ov bh op na) R _
      refine h_isGF hb68 ?_
      show w_T L xs (d + 3) m_X12_timetable 78 [(0, .ref 100), (1, .int w), (2, .int n)] [.int (Int32.ofInt 0)] (p_S (t_S T0 nm1 om1 g1 nt1 fo1 ot1 pp1) pl1 cs sk cl b68 nc sg ov bh op na) R Q
      refine w_st rfl (fun _ => rfl) ?_
      refine w_st rfl (fun _ => rfl) ?_
      show w_T L xs (d + 3) m_X12_timetable 98 [(0, .ref 100), (1, .int w), (2, .int n)] [.ref 100] (p_S (t_S T0 nm1 om1 g1 nt1 fo1 ot1 pp1) pl1 cs sk cl b68 nc sg ov bh op na) R Q
      refine w_get rfl v_tyM rfl ?_
      show w_T L xs (d + 3) m_X12_timetable 101 [(0, .ref 100), (1, .int w), (2, .int n)] [.int b68] (p_S (t_S T0 nm1 om1 g1 nt1 fo1 ot1 pp1) pl1 cs sk cl b68 nc sg ov bh op na) R Q
      refine w_br (P := 0 ≤ b68) rfl (fun _ => rfl) (fun h101 => ?_) (fun h101 => ?_)
      · exfalso
        rw [q_le32] at h101
        omega
      · refine w_st rfl (fun _ => rfl) ?_
        show w_T L xs (d + 3) m_X12_timetable 105 [(0, .ref 100), (1, .int w), (2, .int n)] [.ref 100] (p_S (t_S T0 nm1 om1 g1 nt1 fo1 ot1 pp1) pl1 cs sk cl b68 nc sg ov bh op na) R Q
        refine w_get rfl v_tyM rfl ?_
        show w_T L xs (d + 3) m_X12_timetable 108 [(0, .ref 100), (1, .int w), (2, .int n)] [.int b68] (p_S (t_S T0 nm1 om1 g1 nt1 fo1 ot1 pp1) pl1 cs sk cl b68 nc sg ov bh op na) R Q
        refine w_ret rfl (by rfl) ?_
        exact Kb _ _ _ _ _ _ _ _ _ hb68 x2 x3
theorem h_ttL {w n : Int32} (he : (T0 99 4).toInt ≤ 240) (htp : ∀ j, j < 260 → -128 ≤ (T0 100 j).toInt ∧ (T0 100 j).toInt ≤ 127) (K9 : ∀ (pl' nm' om' : Nat) (g' : Bool) (nt' fo' ot' pp' : Nat → Int32), pl' ≤ 240 → t_M nm' om' nt' fo' ot' pp' → w_T L xs (d + 3) m_X12_timetable 109 [(0, .ref 100), (1, .int w), (2, .int n)] [] (p_S (t_S T0 (nm') (om') (g') (nt') (fo') (ot') (pp')) (pl') cs sk cl (Int32.ofInt 0) nc sg ov bh op na) R Q) (Kb : ∀ (pl' nm' om' : Nat) (b' : Int32) (g' : Bool) (nt' fo' ot' pp' : Nat → Int32), b'.toInt < 0 → pl' ≤ 240 → t_M nm' om' nt' fo' ot' pp' → Q (some (.int b')) (p_S (t_S T0 (nm') (om') (g') (nt') (fo') (ot') (pp')) (pl') cs sk cl (b') nc sg ov bh op na) R) : ∀ (c pl nm om : Nat) (bg : Bool) (nt fo ot pp : Nat → Int32), 240 ≤ pl + c → pl ≤ 240 → t_M nm om nt fo ot pp → w_T L xs (d + 3) m_X12_timetable 49 [(0, .ref 100), (1, .int w), (2, .int n)] [] (p_S (t_S T0 nm om bg nt fo ot pp) pl cs sk cl (Int32.ofInt 0) nc sg ov bh op na) R Q := by
  intro c
  induction c with
  | zero =>
    intro pl nm om bg nt fo ot pp hn hp hM
    exact h_ttS he htp hp hM (fun pl' nm' om' g' nt' fo' ot' pp' h1 h2 _ => absurd h2 (by omega)) K9 Kb
  | succ c ih =>
    intro pl nm om bg nt fo ot pp hn hp hM
    exact h_ttS he htp hp hM (fun pl' nm' om' g' nt' fo' ot' pp' h1 h2 h3 => ih pl' nm' om' g' nt' fo' ot' pp' (by omega) h2 h3) K9 Kb
def t_F (T T1 : v_Sf) : Prop := ∀ a j, ¬ (a = 126 ∧ j < 288) → ¬ (a = 127 ∧ j < 6) → ¬ (a = 128 ∧ j < 6) → T1 a j = T a j
theorem t_F_ur {T T1 : v_Sf} (h : t_F T T1) {a j : Nat} {v : Int32} (hm : (a = 126 ∧ j < 288) ∨ (a = 127 ∧ j < 6) ∨ (a = 128 ∧ j < 6)) : t_F T (v_ur T1 a (upd (T1 a) j v)) := fun a' j' h1 h2 h3 => by
  rw [w_urn (fun e => by rw [e.1, e.2] at h1 h2 h3; omega)]
  exact h a' j' h1 h2 h3
theorem h_tc {ww : Nat} {n : Int32} (hw : ww ≤ 5) (hM : t_M nm om nt fo ot pp) (K : ∀ T1, v_Tb v_ty T1 R → t_F T0 T1 → Q (some (.int (Int32.ofInt (nm : Int)))) (p_S (t_S T1 nm om bg nt fo ot pp) pl cs sk cl (Int32.ofInt 0) nc sg ov bh op na) R) : ∀ (c k : Nat) (T1 : v_Sf), k + c = nm → v_Tb v_ty T1 R → t_F T0 T1 → w_T L xs (d + 3) m_X12_timetable 111 [(3, .int (Int32.ofInt (k : Int))), (0, .ref 100), (1, .int (Int32.ofInt (ww : Int))), (2, .int n)] [] (p_S (t_S T1 nm om bg nt fo ot pp) pl cs sk cl (Int32.ofInt 0) nc sg ov bh op na) R Q := by
  have hn := hM.1
  have hb := hM.2.2.1
  intro c
  induction c with
  | zero =>
    intro k T1 hk hT hF
    obtain rfl : k = nm := by omega
    refine w_st rfl (fun _ => rfl) ?_
    refine w_st rfl (fun _ => rfl) ?_
    show w_T L xs (d + 3) m_X12_timetable 113 [(3, .int (Int32.ofInt (k : Int))), (0, .ref 100), (1, .int (Int32.ofInt (ww : Int))), (2, .int n)] [.ref 100, .int (Int32.ofInt (k : Int))] (p_S (t_S T1 k om bg nt fo ot pp) pl cs sk cl (Int32.ofInt 0) nc sg ov bh op na) R Q
    refine w_get rfl v_tyM rfl ?_
    show w_T L xs (d + 3) m_X12_timetable 116 [(3, .int (Int32.ofInt (k : Int))), (0, .ref 100), (1, .int (Int32.ofInt (ww : Int))), (2, .int n)] [.int (Int32.ofInt (k : Int)), .int (Int32.ofInt (k : Int))] (p_S (t_S T1 k om bg nt fo ot pp) pl cs sk cl (Int32.ofInt 0) nc sg ov bh op na) R Q
    refine w_br (P := (Int32.ofInt (k : Int)) ≤ (Int32.ofInt (k : Int))) rfl (fun _ => rfl) (fun h116 => ?_) (fun h116 => ?_)
    · refine w_st rfl (fun _ => rfl) ?_
      show w_T L xs (d + 3) m_X12_timetable 143 [(3, .int (Int32.ofInt (k : Int))), (0, .ref 100), (1, .int (Int32.ofInt (ww : Int))), (2, .int n)] [.ref 100] (p_S (t_S T1 k om bg nt fo ot pp) pl cs sk cl (Int32.ofInt 0) nc sg ov bh op na) R Q
      refine w_getr rfl v_tyM rfl ?_
      refine w_st rfl (fun _ => rfl) ?_
      refine w_st rfl (fun _ => rfl) ?_
      show w_T L xs (d + 3) m_X12_timetable 148 [(3, .int (Int32.ofInt (k : Int))), (0, .ref 100), (1, .int (Int32.ofInt (ww : Int))), (2, .int n)] [.ref 100, .int (Int32.ofInt (ww : Int)), .ref 128] (p_S (t_S T1 k om bg nt fo ot pp) pl cs sk cl (Int32.ofInt 0) nc sg ov bh op na) R Q
      refine w_get rfl v_tyM rfl ?_
      show w_T L xs (d + 3) m_X12_timetable 151 [(3, .int (Int32.ofInt (k : Int))), (0, .ref 100), (1, .int (Int32.ofInt (ww : Int))), (2, .int n)] [.int (Int32.ofInt (k : Int)), .int (Int32.ofInt (ww : Int)), .ref 128] (p_S (t_S T1 k om bg nt fo ot pp) pl cs sk cl (Int32.ofInt 0) nc sg ov bh op na) R Q
      refine w_iast rfl rfl (by rw [w_nat (by omega)]; omega) (by rw [w_nat (by omega)]; omega) ?_
      refine w_eqS (p_wor (by decide) (w_natn (by omega))) ?_
      refine w_eqS (p_in (t_wo (by decide))) ?_
      refine w_st rfl (fun _ => rfl) ?_
      show w_T L xs (d + 3) m_X12_timetable 153 [(3, .int (Int32.ofInt (k : Int))), (0, .ref 100), (1, .int (Int32.ofInt (ww : Int))), (2, .int n)] [.ref 100] (p_S (t_S (v_ur T1 127 (upd (T1 127) ww (Int32.ofInt (k : Int)))) k om bg nt fo ot pp) pl cs sk cl (Int32.ofInt 0) nc sg ov bh op na) R Q
      refine w_getr rfl v_tyM rfl ?_
      refine w_st rfl (fun _ => rfl) ?_
      refine w_st rfl (fun _ => rfl) ?_
      show w_T L xs (d + 3) m_X12_timetable 158 [(3, .int (Int32.ofInt (k : Int))), (0, .ref 100), (1, .int (Int32.ofInt (ww : Int))), (2, .int n)] [.int (Int32.ofInt 0), .int (Int32.ofInt (ww : Int)), .ref 129] (p_S (t_S (v_ur T1 127 (upd (T1 127) ww (Int32.ofInt (k : Int)))) k om bg nt fo ot pp) pl cs sk cl (Int32.ofInt 0) nc sg ov bh op na) R Q
      refine w_iast rfl rfl (by rw [w_nat (by omega)]; omega) (by rw [w_nat (by omega)]; omega) ?_
      refine w_eqS (p_wor (by decide) (w_natn (by omega))) ?_
      refine w_eqS (p_in (t_wo (by decide))) ?_
      refine w_st rfl (fun _ => rfl) ?_
      show w_T L xs (d + 3) m_X12_timetable 160 [(3, .int (Int32.ofInt (k : Int))), (0, .ref 100), (1, .int (Int32.ofInt (ww : Int))), (2, .int n)] [.ref 100] (p_S (t_S (v_ur (v_ur T1 127 (upd (T1 127) ww (Int32.ofInt (k : Int)))) 128 (upd ((v_ur T1 127 (upd (T1 127) ww (Int32.ofInt (k : Int)))) 128) ww (Int32.ofInt 0))) k om bg nt fo ot pp) pl cs sk cl (Int32.ofInt 0) nc sg ov bh op na) R Q
      refine w_get rfl v_tyM rfl ?_
      show w_T L xs (d + 3) m_X12_timetable 163 [(3, .int (Int32.ofInt (k : Int))), (0, .ref 100), (1, .int (Int32.ofInt (ww : Int))), (2, .int n)] [.int (Int32.ofInt (k : Int))] (p_S (t_S (v_ur (v_ur T1 127 (upd (T1 127) ww (Int32.ofInt (k : Int)))) 128 (upd ((v_ur T1 127 (upd (T1 127) ww (Int32.ofInt (k : Int)))) 128) ww (Int32.ofInt 0))) k om bg nt fo ot pp) pl cs sk cl (Int32.ofInt 0) nc sg ov bh op na) R Q
      refine w_ret rfl (by rfl) ?_
      exact K _ (w_TbR (w_TbR hT (a := 127) rfl (by rw [w_nat (by omega)]; omega) (by rw [w_nat (by omega)]; omega)) (a := 128) rfl (by decide) (by decide)) (t_F_ur (t_F_ur hF (by omega)) (by omega))
    · exfalso; rw [q_le32] at h116; omega
  | succ c ih =>
    intro k T1 hk hT hF
    have ek := w_nat (k := k) (by omega)
    have en := w_nat (k := nm) (by omega)
    have e48 : Int32.ofInt 48 * Int32.ofInt (ww : Int) + Int32.ofInt (k : Int) = Int32.ofInt ((48 * ww + k : Nat) : Int) := by
      rw [← Int32.ofInt_mul, ← Int32.ofInt_add]
      rfl
    refine w_st rfl (fun _ => rfl) ?_
    refine w_st rfl (fun _ => rfl) ?_
    show w_T L xs (d + 3) m_X12_timetable 113 [(3, .int (Int32.ofInt (k : Int))), (0, .ref 100), (1, .int (Int32.ofInt (ww : Int))), (2, .int n)] [.ref 100, .int (Int32.ofInt (k : Int))] (p_S (t_S T1 nm om bg nt fo ot pp) pl cs sk cl (Int32.ofInt 0) nc sg ov bh op na) R Q
    refine w_get rfl v_tyM rfl ?_
    show w_T L xs (d + 3) m_X12_timetable 116 [(3, .int (Int32.ofInt (k : Int))), (0, .ref 100), (1, .int (Int32.ofInt (ww : Int))), (2, .int n)] [.int (Int32.ofInt (nm : Int)), .int (Int32.ofInt (k : Int))] (p_S (t_S T1 nm om bg nt fo ot pp) pl cs sk cl (Int32.ofInt 0) nc sg ov bh op na) R Q
    refine w_br (P := (Int32.ofInt (nm : Int)) ≤ (Int32.ofInt (k : Int))) rfl (fun _ => rfl) (fun h116 => ?_) (fun h116 => ?_)
    · exfalso; rw [q_le32, en, ek] at h116; omega
    · refine w_st rfl (fun _ => rfl) ?_
      show w_T L xs (d + 3) m_X12_timetable 120 [(3, .int (Int32.ofInt (k : Int))), (0, .ref 100), (1, .int (Int32.ofInt (ww : Int))), (2, .int n)] [.ref 100] (p_S (t_S T1 nm om bg nt fo ot pp) pl cs sk cl (Int32.ofInt 0) nc sg ov bh op na) R Q
      refine w_getr rfl v_tyM rfl ?_
      refine w_st rfl (fun _ => rfl) ?_
      refine w_st rfl (fun _ => rfl) ?_
      refine w_st rfl (fun _ => rfl) ?_
      refine w_st rfl (fun _ => rfl) ?_
      refine w_st rfl (fun _ => rfl) ?_
      refine w_st rfl (fun _ => rfl) ?_
      show w_T L xs (d + 3) m_X12_timetable 130 [(3, .int (Int32.ofInt (k : Int))), (0, .ref 100), (1, .int (Int32.ofInt (ww : Int))), (2, .int n)] [.ref 100, .int (((Int32.ofInt 48) * (Int32.ofInt (ww : Int))) + (Int32.ofInt (k : Int))), .ref 127] (p_S (t_S T1 nm om bg nt fo ot pp) pl cs sk cl (Int32.ofInt 0) nc sg ov bh op na) R Q
      refine w_getr rfl v_tyM rfl ?_
      refine w_st rfl (fun _ => rfl) ?_
      show w_T L xs (d + 3) m_X12_timetable 134 [(3, .int (Int32.ofInt (k : Int))), (0, .ref 100), (1, .int (Int32.ofInt (ww : Int))), (2, .int n)] [.int (Int32.ofInt (k : Int)), .ref 134, .int (((Int32.ofInt 48) * (Int32.ofInt (ww : Int))) + (Int32.ofInt (k : Int))), .ref 127] (p_S (t_S T1 nm om bg nt fo ot pp) pl cs sk cl (Int32.ofInt 0) nc sg ov bh op na) R Q
      refine w_iald rfl rfl (by rw [w_nat (by omega)]; omega) (by rw [w_nat (by omega)]; omega) ?_
      rw [w_natn (by omega), pt_rnt (by omega)]
      show w_T L xs (d + 3) m_X12_timetable 135 [(3, .int (Int32.ofInt (k : Int))), (0, .ref 100), (1, .int (Int32.ofInt (ww : Int))), (2, .int n)] [.int (nt k), .int (((Int32.ofInt 48) * (Int32.ofInt (ww : Int))) + (Int32.ofInt (k : Int))), .ref 127] (p_S (t_S T1 nm om bg nt fo ot pp) pl cs sk cl (Int32.ofInt 0) nc sg ov bh op na) R Q
      refine w_iast rfl rfl (by rw [e48, w_nat (by omega)]; omega) (by rw [e48, w_nat (by omega)]; omega) ?_
      refine w_eqS (p_wor (by decide) (by rw [e48, w_natn (by omega)])) ?_
      refine w_eqS (p_in (t_wo (by decide))) ?_
      refine w_st rfl (fun _ => rfl) ?_
      refine w_st rfl (fun _ => rfl) ?_
      show w_T L xs (d + 3) m_X12_timetable 111 [(3, .int ((Int32.ofInt (k : Int)) + (Int32.ofInt 1))), (0, .ref 100), (1, .int (Int32.ofInt (ww : Int))), (2, .int n)] [] (p_S (t_S (v_ur T1 126 (upd (T1 126) (48 * ww + k) (nt k))) nm om bg nt fo ot pp) pl cs sk cl (Int32.ofInt 0) nc sg ov bh op na) R Q
      rw [w_inc]
      exact ih (k + 1) _ (by omega) (w_TbR hT (a := 126) rfl (hb k (by omega)).1 (hb k (by omega)).2) (t_F_ur hF (by omega))
theorem p_S_cg {S S1 : v_Sf} {pl' : Nat} {bd' : Int32} {a j : Nat} (h : S1 a j = S a j) (h2 : a = 99 → ¬ j = 3 ∧ ¬ j = 5) : p_S S1 (pl') cs sk cl (bd') nc sg ov bh op na a j = p_S S pl cs sk cl bd nc sg ov bh op na a j := by
  unfold p_S
  by_cases ha : a = 99
  · obtain ⟨y1, y2⟩ := h2 ha
    subst ha
    rw [p_bq y1, p_bq y2, h]
    rfl
  · rw [p_bq ha, h]
    rfl
theorem t_fin {S T1 : v_Sf} {n : Int32} {pl' : Nat} (hS : S = p_S S pl cs sk cl (S 99 5) (S 111) (S 113) ov bh (S 99 8) (S 112)) (h2 : cs ≤ 240) (h3 : sk ≤ 240) (h4 : cl ≤ 16) (hp : pl' ≤ 240) (hO : v_Op S) (hT1 : v_Tb v_ty T1 R) (hF : t_F (p_bg S n) T1) (hM : t_M nm om nt fo ot pp) : v_Tb v_ty (p_S (t_S T1 nm om bg nt fo ot pp) pl' cs sk cl bd (S 111) (S 113) ov bh (S 99 8) (S 112)) R ∧ v_Op (p_S (t_S T1 nm om bg nt fo ot pp) pl' cs sk cl bd (S 111) (S 113) ov bh (S 99 8) (S 112)) ∧ v_Fr [(99, 1, 1), (99, 3, 5), (99, 64, 66), (126, 0, 288), (127, 0, 6), (128, 0, 6), (133, 0, 48), (134, 0, 2), (135, 0, 2), (136, 0, 2)] S R (p_S (t_S T1 nm om bg nt fo ot pp) pl' cs sk cl bd (S 111) (S 113) ov bh (S 99 8) (S 112)) R := by
  have key : ∀ a j, ¬ (a = 99 ∧ (j = 1 ∨ j = 3 ∨ j = 4 ∨ j = 5 ∨ j = 64 ∨ j = 65 ∨ j = 66)) → ¬ (a = 126 ∧ j < 288) → ¬ (a = 127 ∧ j < 6) → ¬ (a = 128 ∧ j < 6) → ¬ (a = 133 ∧ j < 48) → ¬ ((a = 134 ∨ a = 135 ∨ a = 136) ∧ j < 2) → (p_S (t_S T1 nm om bg nt fo ot pp) pl' cs sk cl bd (S 111) (S 113) ov bh (S 99 8) (S 112)) a j = S a j := by
    intro a j g1 g2 g3 g4 g5 g6
    have e := congrFun (congrFun hS a) j
    rw [e]
    refine p_S_cg ?_ (fun h => by omega)
    rw [t_at (by omega) (by omega) (by omega), hF a j g2 g3 g4, p_bgF (by omega)]
  refine ⟨p_Tb (t_Tb hT1 hM) (by omega) h2 h3 h4, v_fz_ok.1 S _ (fun a j hz => ?_) hO, fun a j hm => ?_⟩
  · have hz : v_md v_fz a j j = true := by
      unfold v_frz at hz
      rw [v_hit_jj] at hz
      exact hz
    obtain ⟨q, q1, q2, q3, q4⟩ := v_md_lt hz
    simp only [v_fz, List.mem_cons, List.not_mem_nil, or_false] at q1
    have hq1 : (a = 99 ∧ (j = 16 ∨ j = 17)) ∨ (102 ≤ a ∧ a ≤ 105) := by rcases q1 with rfl | rfl | rfl | rfl | rfl | rfl <;> (dsimp only at q2 q3 q4; omega)
    exact key a j (by omega) (by omega) (by omega) (by omega) (by omega) (by omega)
  · refine ⟨?_, rfl⟩
    have n0 := p_nmd (a0 := 99) (lo := 1) (hi := 1) (by decide +kernel) hm
    have n1 := p_nmd (a0 := 99) (lo := 3) (hi := 5) (by decide +kernel) hm
    have n2 := p_nmd (a0 := 99) (lo := 64) (hi := 66) (by decide +kernel) hm
    have n3 := p_nmd (a0 := 126) (lo := 0) (hi := 288) (by decide +kernel) hm
    have n4 := p_nmd (a0 := 127) (lo := 0) (hi := 6) (by decide +kernel) hm
    have n5 := p_nmd (a0 := 128) (lo := 0) (hi := 6) (by decide +kernel) hm
    have n6 := p_nmd (a0 := 133) (lo := 0) (hi := 48) (by decide +kernel) hm
    have n7 := p_nmd (a0 := 134) (lo := 0) (hi := 2) (by decide +kernel) hm
    have n8 := p_nmd (a0 := 135) (lo := 0) (hi := 2) (by decide +kernel) hm
    have n9 := p_nmd (a0 := 136) (lo := 0) (hi := 2) (by decide +kernel) hm
    exact key a j (by omega) (by omega) (by omega) (by omega) (by omega) (by omega)
end TL
set_option maxHeartbeats 2000000 in
theorem hr_X12_timetable {L : Nat} {xs : Nat → Int32} (ih : ∀ x, ∀ w ∈ v_rw x, w.1 < rw_202.1 → v_Met L xs v_ty v_Op x w) : v_Met L xs v_ty v_Op 225 rw_202 := by
  intro M hM ac S R ha hT hO
  rw [mt_X12_timetable] at hM
  cases hM
  match ac, ha with
  | [r0, w1, w2], ⟨h0, ⟨w, hg, _, _⟩, ⟨n, hg2, _, _⟩, _⟩ =>
  have h0 : r0 = .ref 100 := h0
  subst h0 hg hg2
  show w_T L xs (3 + 3) m_X12_timetable 0 (lv_args 0 [.ref 100, .int w, .int n]) [] S R (fun (r : Option Value) (S' : v_Sf) (R' : v_Rf) => v_Tb v_ty S' R' ∧ v_Op S' ∧ v_rk1 (some ((-2147483648), 2147483647)) r ∧ v_Fr [(99, 1, 1), (99, 3, 5), (99, 64, 66), (126, 0, 288), (127, 0, 6), (128, 0, 6), (133, 0, 48), (134, 0, 2), (135, 0, 2), (136, 0, 2)] S R S' R')
  generalize hQ : (fun (r : Option Value) (S' : v_Sf) (R' : v_Rf) => v_Tb v_ty S' R' ∧ v_Op S' ∧ v_rk1 (some ((-2147483648), 2147483647)) r ∧ v_Fr [(99, 1, 1), (99, 3, 5), (99, 64, 66), (126, 0, 288), (127, 0, 6), (128, 0, 6), (133, 0, 48), (134, 0, 2), (135, 0, 2), (136, 0, 2)] S R S' R') = Q
  have hq : ∀ (S' : v_Sf) (v : Int32), v_Tb v_ty S' R → v_Op S' → v_Fr [(99, 1, 1), (99, 3, 5), (99, 64, 66), (126, 0, 288), (127, 0, 6), (128, 0, 6), (133, 0, 48), (134, 0, 2), (135, 0, 2), (136, 0, 2)] S R S' R → Q (some (.int v)) S' R := fun S' v a1 a2 a3 => by
    rw [← hQ]
    exact ⟨a1, a2, ⟨v, rfl, (q_rng v).1, (q_rng v).2⟩, a3⟩
  have e1 : (Int64.ofNat 1).toInt = 1 := by decide
  have e60 : (Int64.ofInt 60).toInt = 60 := by decide
  have e0 := Int32.toInt_toInt64 n
  obtain ⟨pl, cs, sk, cl, ov, bh, hS, hsk, hb1, hb2, hb3⟩ := p_S_of hT
  refine w_eqS hS ?_
  have hq0 : ∀ v, Q (some (.int v)) (p_S S pl cs sk cl (S 99 5) (S 111) (S 113) ov bh (S 99 8) (S 112)) R := fun v => by
    rw [← hS]
    exact hq S v hT hO (v_Fr_rf _ _ _)
  refine w_st rfl (fun _ => rfl) ?_
  show w_T L xs (3 + 3) m_X12_timetable 1 [(0, .ref 100), (1, .int w), (2, .int n)] [.int w] (p_S S pl cs sk cl (S 99 5) (S 111) (S 113) ov bh (S 99 8) (S 112)) R Q
  refine w_cs rfl (by decide) mt_X12_isWard (fun _ => rfl) (Nat.le_of_ble_eq_true rfl) (Nat.le_of_ble_eq_true rfl) ?_
  show w_T L xs _ m_X12_isWard 0 (lv_args 0 [.int w]) [] (p_S S pl cs sk cl (S 99 5) (S 111) (S 113) ov bh (S 99 8) (S 112)) R _
  refine t_isWard _ (fun hw => ?_) ?_
  · show w_T L xs (3 + 3) m_X12_timetable 4 [(0, .ref 100), (1, .int w), (2, .int n)] [.int (Int32.ofInt 1)] (p_S S pl cs sk cl (S 99 5) (S 111) (S 113) ov bh (S 99 8) (S 112)) R Q
    refine w_st rfl (fun _ => rfl) ?_
    refine w_st rfl (fun _ => rfl) ?_
    refine w_st rfl (fun _ => rfl) ?_
    refine w_st rfl (fun _ => rfl) ?_
    refine w_st rfl (fun _ => rfl) ?_
    show w_T L xs (3 + 3) m_X12_timetable 13 [(0, .ref 100), (1, .int w), (2, .int n)] [.long (Int64.ofInt 60), .long (Int64.ofNat 1), .long n.toInt64] (p_S S pl cs sk cl (S 99 5) (S 111) (S 113) ov bh (S 99 8) (S 112)) R Q
    refine w_cs rfl (by decide) mt_X12_lies (fun _ => rfl) (Nat.le_of_ble_eq_true rfl) (Nat.le_of_ble_eq_true rfl) ?_
    show w_T L xs _ m_X12_lies 0 (lv_args 0 [.long n.toInt64, .long (Int64.ofNat 1), .long (Int64.ofInt 60)]) [] (p_S S pl cs sk cl (S 99 5) (S 111) (S 113) ov bh (S 99 8) (S 112)) R _
    refine h_lies _ _ _ ?_
    rw [e1, e60, e0]
    by_cases hd : 1 ≤ n.toInt ∧ n.toInt ≤ 60
    · rw [if_pos hd]
      show w_T L xs (3 + 3) m_X12_timetable 16 [(0, .ref 100), (1, .int w), (2, .int n)] [.int (Int32.ofInt 1)] (p_S S pl cs sk cl (S 99 5) (S 111) (S 113) ov bh (S 99 8) (S 112)) R Q
      refine w_st rfl (fun _ => rfl) ?_
      refine w_st rfl (fun _ => rfl) ?_
      refine w_st rfl (fun _ => rfl) ?_
      show w_T L xs (3 + 3) m_X12_timetable 21 [(0, .ref 100), (1, .int w), (2, .int n)] [.ref 100, .int n] (p_S S pl cs sk cl (S 99 5) (S 111) (S 113) ov bh (S 99 8) (S 112)) R Q
      refine w_get rfl v_tyM rfl ?_
      show w_T L xs (3 + 3) m_X12_timetable 24 [(0, .ref 100), (1, .int w), (2, .int n)] [.int (S 99 1), .int n] (p_S S pl cs sk cl (S 99 5) (S 111) (S 113) ov bh (S 99 8) (S 112)) R Q
      refine w_br (P := n ≤ (S 99 1)) rfl (fun _ => rfl) (fun h24 => ?_) (fun h24 => ?_)
      · refine w_st rfl (fun _ => rfl) ?_
        refine w_st rfl (fun _ => rfl) ?_
        show w_T L xs (3 + 3) m_X12_timetable 31 [(0, .ref 100), (1, .int w), (2, .int n)] [.int n, .ref 100] (p_S S pl cs sk cl (S 99 5) (S 111) (S 113) ov bh (S 99 8) (S 112)) R Q
        refine w_cv rfl (by decide) mt_X12_begins v_tyM rfl rfl rfl (Nat.le_of_ble_eq_true rfl) (Nat.le_of_ble_eq_true rfl) (Nat.le_of_ble_eq_true rfl) ?_
        show w_T L xs _ m_X12_begins 0 (lv_args 0 [.ref 100, .int n]) [] (p_S S pl cs sk cl (S 99 5) (S 111) (S 113) ov bh (S 99 8) (S 112)) R _
        refine h_begins _ ?_
        have hT1 : v_Tb v_ty (p_bg S n) R := w_TbF (w_TbF hT v_tyM rfl (by decide) (by decide)) v_tyM rfl (by show (0 : Int) ≤ n.toInt; omega) (by show n.toInt ≤ (260 : Int); omega)
        obtain ⟨nm, om, bg, ht⟩ := t_of hT1
        refine w_eqS (p_in ht) ?_
        show w_T L xs (3 + 3) m_X12_timetable 34 [(0, .ref 100), (1, .int w), (2, .int n)] [] (p_S (t_S (p_bg S n) nm om bg (p_bg S n 133) (p_bg S n 134) (p_bg S n 135) (p_bg S n 136)) 0 cs sk cl (Int32.ofInt 0) (S 111) (S 113) ov bh (S 99 8) (S 112)) R Q
        refine w_st rfl (fun _ => rfl) ?_
        refine w_st rfl (fun _ => rfl) ?_
        show w_T L xs (3 + 3) m_X12_timetable 36 [(0, .ref 100), (1, .int w), (2, .int n)] [.int (Int32.ofInt 0), .ref 100] (p_S (t_S (p_bg S n) nm om bg (p_bg S n 133) (p_bg S n 134) (p_bg S n 135) (p_bg S n 136)) 0 cs sk cl (Int32.ofInt 0) (S 111) (S 113) ov bh (S 99 8) (S 112)) R Q
        refine w_put rfl v_tyM rfl rfl rfl ?_
        refine w_eqS (p_wo99 (by decide)) ?_
        refine w_eqS (p_in (t_wnm (k := 0) rfl)) ?_
        refine w_st rfl (fun _ => rfl) ?_
        refine w_st rfl (fun _ => rfl) ?_
        show w_T L xs (3 + 3) m_X12_timetable 41 [(0, .ref 100), (1, .int w), (2, .int n)] [.int (Int32.ofInt 0), .ref 100] (p_S (t_S (p_bg S n) 0 om bg (p_bg S n 133) (p_bg S n 134) (p_bg S n 135) (p_bg S n 136)) 0 cs sk cl (Int32.ofInt 0) (S 111) (S 113) ov bh (S 99 8) (S 112)) R Q
        refine w_put rfl v_tyM rfl rfl rfl ?_
        refine w_eqS (p_wo99 (by decide)) ?_
        refine w_eqS (p_in (t_wom (k := 0) rfl)) ?_
        refine w_st rfl (fun _ => rfl) ?_
        refine w_st rfl (fun _ => rfl) ?_
        show w_T L xs (3 + 3) m_X12_timetable 46 [(0, .ref 100), (1, .int w), (2, .int n)] [.int (Int32.ofInt 0), .ref 100] (p_S (t_S (p_bg S n) 0 0 bg (p_bg S n 133) (p_bg S n 134) (p_bg S n 135) (p_bg S n 136)) 0 cs sk cl (Int32.ofInt 0) (S 111) (S 113) ov bh (S 99 8) (S 112)) R Q
        refine w_put rfl v_tyM rfl rfl rfl ?_
        refine w_eqS (p_wo99 (by decide)) ?_
        refine w_eqS (p_in (t_wbg (b := false) rfl)) ?_
        show w_T L xs (3 + 3) m_X12_timetable 49 [(0, .ref 100), (1, .int w), (2, .int n)] [] (p_S (t_S (p_bg S n) 0 0 false (p_bg S n 133) (p_bg S n 134) (p_bg S n 135) (p_bg S n 136)) 0 cs sk cl (Int32.ofInt 0) (S 111) (S 113) ov bh (S 99 8) (S 112)) R Q
        have he : (p_bg S n 99 4).toInt ≤ 240 := by rw [p_bg4]; omega
        have htp : ∀ j, j < 260 → -128 ≤ (p_bg S n 100 j).toInt ∧ (p_bg S n 100 j).toInt ≤ 127 := fun j hj => hT1 100 _ (show v_ty 100 = some (.inl (1, 260, (-128), 127)) from rfl) j hj
        have hM0 : t_M 0 0 (p_bg S n 133) (p_bg S n 134) (p_bg S n 135) (p_bg S n 136) := ⟨by omega, by omega, fun j hj => hT1 133 _ (show v_ty 133 = some (.inl (0, 48, (-1), 9)) from rfl) j hj, fun j hj => ⟨(hT1 134 _ (show v_ty 134 = some (.inl (0, 2, 0, 48)) from rfl) j hj).1, (hT1 134 _ (show v_ty 134 = some (.inl (0, 2, 0, 48)) from rfl) j hj).2, (hT1 135 _ (show v_ty 135 = some (.inl (0, 2, 0, 9)) from rfl) j hj).1, (hT1 135 _ (show v_ty 135 = some (.inl (0, 2, 0, 9)) from rfl) j hj).2⟩, fun j hj => absurd hj (by omega)⟩
        refine h_ttL he htp (fun pl' nm' om' g' nt' fo' ot' pp' x1 x2 => ?_) (fun pl' nm' om' b' g' nt' fo' ot' pp' x0 x1 x2 => ?_) 240 0 0 0 false _ _ _ _ (by omega) (by omega) hM0
        · obtain ⟨ww, rfl, hww⟩ : ∃ ww : Nat, w = Int32.ofInt (ww : Int) ∧ ww ≤ 5 := ⟨_, p_nof hw.1, by omega⟩
          refine w_st rfl (fun _ => rfl) ?_
          refine w_st rfl (fun _ => rfl) ?_
          refine h_tc hww x2 (fun T1 y1 y2 => ?_) nm' 0 _ (by omega) hT1 (fun _ _ _ _ _ => rfl)
          obtain ⟨z1, z2, z3⟩ := t_fin (R := R) hS hb2 hsk hb3 x1 hO y1 y2 x2
          exact hq _ _ z1 z2 z3
        · obtain ⟨z1, z2, z3⟩ := t_fin (R := R) (n := n) hS hb2 hsk hb3 x1 hO hT1 (fun _ _ _ _ _ => rfl) x2
          exact hq _ _ z1 z2 z3
      · refine w_st rfl (fun _ => rfl) ?_
        show w_T L xs (3 + 3) m_X12_timetable 28 [(0, .ref 100), (1, .int w), (2, .int n)] [.int (Int32.ofInt (-1))] (p_S S pl cs sk cl (S 99 5) (S 111) (S 113) ov bh (S 99 8) (S 112)) R Q
        refine w_ret rfl (by rfl) ?_
        exact hq0 _
    · rw [if_neg hd]
      show w_T L xs (3 + 3) m_X12_timetable 16 [(0, .ref 100), (1, .int w), (2, .int n)] [.int (Int32.ofInt 0)] (p_S S pl cs sk cl (S 99 5) (S 111) (S 113) ov bh (S 99 8) (S 112)) R Q
      refine w_st rfl (fun _ => rfl) ?_
      refine w_st rfl (fun _ => rfl) ?_
      show w_T L xs (3 + 3) m_X12_timetable 28 [(0, .ref 100), (1, .int w), (2, .int n)] [.int (Int32.ofInt (-1))] (p_S S pl cs sk cl (S 99 5) (S 111) (S 113) ov bh (S 99 8) (S 112)) R Q
      refine w_ret rfl (by rfl) ?_
      exact hq0 _
  · show w_T L xs (3 + 3) m_X12_timetable 4 [(0, .ref 100), (1, .int w), (2, .int n)] [.int (Int32.ofInt 0)] (p_S S pl cs sk cl (S 99 5) (S 111) (S 113) ov bh (S 99 8) (S 112)) R Q
    refine w_st rfl (fun _ => rfl) ?_
    refine w_st rfl (fun _ => rfl) ?_
    show w_T L xs (3 + 3) m_X12_timetable 28 [(0, .ref 100), (1, .int w), (2, .int n)] [.int (Int32.ofInt (-1))] (p_S S pl cs sk cl (S 99 5) (S 111) (S 113) ov bh (S 99 8) (S 112)) R Q
    refine w_ret rfl (by rfl) ?_
    exact hq0 _
