/-! the reader: sums, factors, values -/
section PF
variable {L : Nat} {xs : Nat → Int32} {d : Nat} {R : v_Rf} {Q : Option Value → v_Sf → v_Rf → Prop} {S0 : v_Sf} {pl cs sk cl : Nat} {bd : Int32} {nc sg : Nat → Int32} {ov bh : Bool} {op : Int32} {na : Nat → Int32}
theorem p_ti0 : ¬ p_ti (Int32.ofInt 0) := by unfold p_ti; decide
theorem p_pl0 : ¬ p_pl (Int32.ofInt 0) := by unfold p_pl; decide
theorem p_cm0 : ¬ p_cm (Int32.ofInt 0) := by unfold p_cm; decide
theorem p_dg0 {c : Int32} (h : 48 ≤ c.toInt ∧ c.toInt ≤ 57) : ¬ c = Int32.ofInt 0 := fun e => by
  rw [e] at h
  exact absurd h.1 (by decide)
theorem h_rdS (he : (S0 99 4).toInt ≤ 240) (hpl : pl ≤ 240) (v fr : Int32) (K7 : ∀ v, pl < 240 → w_T L xs (d + 2) m_X12_reads 7 [(2, .int v), (1, .int fr), (0, .ref 100)] [] (p_S S0 (pl + 1) cs sk cl (Int32.ofInt 0) nc sg ov bh op na) R Q) (K : Q (some (.int v)) (p_S S0 pl cs sk cl (Int32.ofInt 0) nc sg ov bh op na) R) (Kb : ∀ v (b : Int32), pl < 240 → b.toInt < 0 → Q (some (.int v)) (p_S S0 (pl + 1) cs sk cl b nc sg ov bh op na) R) : w_T L xs (d + 2) m_X12_reads 7 [(2, .int v), (1, .int fr), (0, .ref 100)] [] (p_S S0 pl cs sk cl (Int32.ofInt 0) nc sg ov bh op na) R Q := by
  refine w_st rfl (fun _ => rfl) ?_
  show w_T L xs (d + 2) m_X12_reads 8 [(2, .int v), (1, .int fr), (0, .ref 100)] [.ref 100] (p_S S0 pl cs sk cl (Int32.ofInt 0) nc sg ov bh op na) R Q
  refine w_cv rfl (by decide) mt_X12_isGood v_tyM rfl rfl rfl (Nat.le_of_ble_eq_true rfl) (Nat.le_of_ble_eq_true rfl) (Nat.le_of_ble_eq_true rfl) ?_
  show w_T L xs _ m_X12_isGood 0 (lv_args 0 [.ref 100]) [] (p_S S0 pl cs sk cl (Int32.ofInt 0) nc sg ov bh op na) R _
  refine h_isGT ?_
  show w_T L xs (d + 2) m_X12_reads 11 [(2, .int v), (1, .int fr), (0, .ref 100)] [.int (Int32.ofInt 1)] (p_S S0 pl cs sk cl (Int32.ofInt 0) nc sg ov bh op na) R Q
  refine w_st rfl (fun _ => rfl) ?_
  refine w_st rfl (fun _ => rfl) ?_
  show w_T L xs (d + 2) m_X12_reads 15 [(2, .int v), (1, .int fr), (0, .ref 100)] [.ref 100] (p_S S0 pl cs sk cl (Int32.ofInt 0) nc sg ov bh op na) R Q
  refine w_cv rfl (by decide) mt_X12_seesDigit v_tyM rfl rfl rfl (Nat.le_of_ble_eq_true rfl) (Nat.le_of_ble_eq_true rfl) (Nat.le_of_ble_eq_true rfl) ?_
  show w_T L xs _ m_X12_seesDigit 0 (lv_args 0 [.ref 100]) [] (p_S S0 pl cs sk cl (Int32.ofInt 0) nc sg ov bh op na) R _
  refine h_dig (by omega) (fun g15 => ?_) (fun g15 => ?_)
  · show w_T L xs (d + 2) m_X12_reads 18 [(2, .int v), (1, .int fr), (0, .ref 100)] [.int (Int32.ofInt 1)] (p_S S0 pl cs sk cl (Int32.ofInt 0) nc sg ov bh op na) R Q
    refine w_st rfl (fun _ => rfl) ?_
    refine w_st rfl (fun _ => rfl) ?_
    show w_T L xs (d + 2) m_X12_reads 22 [(2, .int v), (1, .int fr), (0, .ref 100)] [.ref 100] (p_S S0 pl cs sk cl (Int32.ofInt 0) nc sg ov bh op na) R Q
    refine w_get rfl v_tyM rfl ?_
    refine w_st rfl (fun _ => rfl) ?_
    refine w_st rfl (fun _ => rfl) ?_
    refine w_st rfl (fun _ => rfl) ?_
    show w_T L xs (d + 2) m_X12_reads 28 [(2, .int v), (1, .int fr), (0, .ref 100)] [.int (fr + (Int32.ofInt 5)), .int (Int32.ofInt (pl : Int))] (p_S S0 pl cs sk cl (Int32.ofInt 0) nc sg ov bh op na) R Q
    refine w_br (P := ¬ (Int32.ofInt (pl : Int)) = (fr + (Int32.ofInt 5))) rfl (fun _ => rfl) (fun h28 => ?_) (fun h28 => ?_)
    · refine w_st rfl (fun _ => rfl) ?_
      refine w_st rfl (fun _ => rfl) ?_
      refine w_st rfl (fun _ => rfl) ?_
      refine w_st rfl (fun _ => rfl) ?_
      show w_T L xs (d + 2) m_X12_reads 45 [(2, .int v), (1, .int fr), (0, .ref 100)] [.ref 100, .int ((Int32.ofInt 10) * v)] (p_S S0 pl cs sk cl (Int32.ofInt 0) nc sg ov bh op na) R Q
      refine w_cv rfl (by decide) mt_X12_here v_tyM rfl rfl rfl (Nat.le_of_ble_eq_true rfl) (Nat.le_of_ble_eq_true rfl) (Nat.le_of_ble_eq_true rfl) ?_
      show w_T L xs _ m_X12_here 0 (lv_args 0 [.ref 100]) [] (p_S S0 pl cs sk cl (Int32.ofInt 0) nc sg ov bh op na) R _
      refine h_here (by omega) ?_
      refine w_st rfl (fun _ => rfl) ?_
      refine w_st rfl (fun _ => rfl) ?_
      refine w_st rfl (fun _ => rfl) ?_
      refine w_st rfl (fun _ => rfl) ?_
      refine w_st rfl (fun _ => rfl) ?_
      refine w_st rfl (fun _ => rfl) ?_
      show w_T L xs (d + 2) m_X12_reads 55 [(2, .int ((((Int32.ofInt 10) * v) + (p_h S0 pl)) - (Int32.ofInt 48))), (1, .int fr), (0, .ref 100)] [.ref 100, .ref 100] (p_S S0 pl cs sk cl (Int32.ofInt 0) nc sg ov bh op na) R Q
      refine w_get rfl v_tyM rfl ?_
      refine w_st rfl (fun _ => rfl) ?_
      refine w_st rfl (fun _ => rfl) ?_
      show w_T L xs (d + 2) m_X12_reads 60 [(2, .int ((((Int32.ofInt 10) * v) + (p_h S0 pl)) - (Int32.ofInt 48))), (1, .int fr), (0, .ref 100)] [.int ((Int32.ofInt (pl : Int)) + (Int32.ofInt 1)), .ref 100] (p_S S0 pl cs sk cl (Int32.ofInt 0) nc sg ov bh op na) R Q
      refine w_put rfl v_tyM rfl rfl rfl ?_
      refine w_eqS (p_wpl (w_inc _)) ?_
      refine w_st rfl (fun _ => rfl) ?_
      show w_T L xs (d + 2) m_X12_reads 7 [(2, .int ((((Int32.ofInt 10) * v) + (p_h S0 pl)) - (Int32.ofInt 48))), (1, .int fr), (0, .ref 100)] [] (p_S S0 (pl + 1) cs sk cl (Int32.ofInt 0) nc sg ov bh op na) R Q
      exact K7 _ (by have := p_h_lt (p_dg0 g15); omega)
    · refine w_st rfl (fun _ => rfl) ?_
      refine w_st rfl (fun _ => rfl) ?_
      refine w_st rfl (fun _ => rfl) ?_
      show w_T L xs (d + 2) m_X12_reads 34 [(2, .int v), (1, .int fr), (0, .ref 100)] [.ref 100, .int (Int32.ofInt 2), .ref 100] (p_S S0 pl cs sk cl (Int32.ofInt 0) nc sg ov bh op na) R Q
      refine w_get rfl v_tyM rfl ?_
      show w_T L xs (d + 2) m_X12_reads 37 [(2, .int v), (1, .int fr), (0, .ref 100)] [.int (Int32.ofInt (pl : Int)), .int (Int32.ofInt 2), .ref 100] (p_S S0 pl cs sk cl (Int32.ofInt 0) nc sg ov bh op na) R Q
      refine w_cv rfl (by decide) mt_X12_wrongs v_tyM rfl rfl rfl (Nat.le_of_ble_eq_true rfl) (Nat.le_of_ble_eq_true rfl) (Nat.le_of_ble_eq_true rfl) ?_
      show w_T L xs _ m_X12_wrongs 0 (lv_args 0 [.ref 100, .int (Int32.ofInt 2), .int (Int32.ofInt (pl : Int))]) [] (p_S S0 pl cs sk cl (Int32.ofInt 0) nc sg ov bh op na) R _
      refine h_wr (by decide) (by decide) (by rw [w_nat (by omega)]; omega) (by rw [w_nat (by omega)]; omega) (fun b37 hb37 => ?_)
      refine w_st rfl (fun _ => rfl) ?_
      refine w_st rfl (fun _ => rfl) ?_
      refine w_st rfl (fun _ => rfl) ?_
      refine w_st rfl (fun _ => rfl) ?_
      show w_T L xs (d + 2) m_X12_reads 45 [(2, .int v), (1, .int fr), (0, .ref 100)] [.ref 100, .int ((Int32.ofInt 10) * v)] (p_S S0 pl cs sk cl b37 nc sg ov bh op na) R Q
      refine w_cv rfl (by decide) mt_X12_here v_tyM rfl rfl rfl (Nat.le_of_ble_eq_true rfl) (Nat.le_of_ble_eq_true rfl) (Nat.le_of_ble_eq_true rfl) ?_
      show w_T L xs _ m_X12_here 0 (lv_args 0 [.ref 100]) [] (p_S S0 pl cs sk cl b37 nc sg ov bh op na) R _
      refine h_here (by omega) ?_
      refine w_st rfl (fun _ => rfl) ?_
      refine w_st rfl (fun _ => rfl) ?_
      refine w_st rfl (fun _ => rfl) ?_
      refine w_st rfl (fun _ => rfl) ?_
      refine w_st rfl (fun _ => rfl) ?_
      refine w_st rfl (fun _ => rfl) ?_
      show w_T L xs (d + 2) m_X12_reads 55 [(2, .int ((((Int32.ofInt 10) * v) + (p_h S0 pl)) - (Int32.ofInt 48))), (1, .int fr), (0, .ref 100)] [.ref 100, .ref 100] (p_S S0 pl cs sk cl b37 nc sg ov bh op na) R Q
      refine w_get rfl v_tyM rfl ?_
      refine w_st rfl (fun _ => rfl) ?_
      refine w_st rfl (fun _ => rfl) ?_
      show w_T L xs (d + 2) m_X12_reads 60 [(2, .int ((((Int32.ofInt 10) * v) + (p_h S0 pl)) - (Int32.ofInt 48))), (1, .int fr), (0, .ref 100)] [.int ((Int32.ofInt (pl : Int)) + (Int32.ofInt 1)), .ref 100] (p_S S0 pl cs sk cl b37 nc sg ov bh op na) R Q
      refine w_put rfl v_tyM rfl rfl rfl ?_
      refine w_eqS (p_wpl (w_inc _)) ?_
      refine w_st rfl (fun _ => rfl) ?_
      show w_T L xs (d + 2) m_X12_reads 7 [(2, .int ((((Int32.ofInt 10) * v) + (p_h S0 pl)) - (Int32.ofInt 48))), (1, .int fr), (0, .ref 100)] [] (p_S S0 (pl + 1) cs sk cl b37 nc sg ov bh op na) R Q
      refine w_st rfl (fun _ => rfl) ?_
      show w_T L xs (d + 2) m_X12_reads 8 [(2, .int ((((Int32.ofInt 10) * v) + (p_h S0 pl)) - (Int32.ofInt 48))), (1, .int fr), (0, .ref 100)] [.ref 100] (p_S S0 (pl + 1) cs sk cl b37 nc sg ov bh op na) R Q
      refine w_cv rfl (by decide) mt_X12_isGood v_tyM rfl rfl rfl (Nat.le_of_ble_eq_true rfl) (Nat.le_of_ble_eq_true rfl) (Nat.le_of_ble_eq_true rfl) ?_
      show w_T L xs _ m_X12_isGood 0 (lv_args 0 [.ref 100]) [] (p_S S0 (pl + 1) cs sk cl b37 nc sg ov bh op na) R _
      refine h_isGF hb37 ?_
      show w_T L xs (d + 2) m_X12_reads 11 [(2, .int ((((Int32.ofInt 10) * v) + (p_h S0 pl)) - (Int32.ofInt 48))), (1, .int fr), (0, .ref 100)] [.int (Int32.ofInt 0)] (p_S S0 (pl + 1) cs sk cl b37 nc sg ov bh op na) R Q
      refine w_st rfl (fun _ => rfl) ?_
      refine w_st rfl (fun _ => rfl) ?_
      show w_T L xs (d + 2) m_X12_reads 67 [(2, .int ((((Int32.ofInt 10) * v) + (p_h S0 pl)) - (Int32.ofInt 48))), (1, .int fr), (0, .ref 100)] [.int ((((Int32.ofInt 10) * v) + (p_h S0 pl)) - (Int32.ofInt 48))] (p_S S0 (pl + 1) cs sk cl b37 nc sg ov bh op na) R Q
      refine w_ret rfl (by rfl) ?_
      exact Kb _ _ (by have := p_h_lt (p_dg0 g15); omega) hb37
  · show w_T L xs (d + 2) m_X12_reads 18 [(2, .int v), (1, .int fr), (0, .ref 100)] [.int (Int32.ofInt 0)] (p_S S0 pl cs sk cl (Int32.ofInt 0) nc sg ov bh op na) R Q
    refine w_st rfl (fun _ => rfl) ?_
    refine w_st rfl (fun _ => rfl) ?_
    show w_T L xs (d + 2) m_X12_reads 67 [(2, .int v), (1, .int fr), (0, .ref 100)] [.int v] (p_S S0 pl cs sk cl (Int32.ofInt 0) nc sg ov bh op na) R Q
    refine w_ret rfl (by rfl) ?_
    exact K
theorem h_rdL (he : (S0 99 4).toInt ≤ 240) (fr : Int32) : ∀ (n pl : Nat) (v : Int32), 240 ≤ pl + n → pl ≤ 240 → (∀ v pl', pl ≤ pl' → pl' ≤ 240 → Q (some (.int v)) (p_S S0 (pl') cs sk cl (Int32.ofInt 0) nc sg ov bh op na) R) → (∀ v pl' (b : Int32), pl ≤ pl' → pl' ≤ 240 → b.toInt < 0 → Q (some (.int v)) (p_S S0 (pl') cs sk cl b nc sg ov bh op na) R) → w_T L xs (d + 2) m_X12_reads 7 [(2, .int v), (1, .int fr), (0, .ref 100)] [] (p_S S0 pl cs sk cl (Int32.ofInt 0) nc sg ov bh op na) R Q := by
  intro n
  induction n with
  | zero =>
    intro pl v hn hpl K Kb
    exact h_rdS he hpl v fr (fun v h => absurd h (by omega)) (K _ _ (Nat.le_refl _) hpl) (fun v b h1 h2 => Kb _ _ _ (by omega) (by omega) h2)
  | succ n ih =>
    intro pl v hn hpl K Kb
    exact h_rdS he hpl v fr (fun v h => ih (pl + 1) v (by omega) (by omega) (fun v pl' h1 h2 => K v pl' (by omega) h2) (fun v pl' b h1 h2 h3 => Kb v pl' b (by omega) h2 h3)) (K _ _ (Nat.le_refl _) hpl) (fun v b h1 h2 => Kb _ _ _ (by omega) (by omega) h2)
theorem h_reads (he : (S0 99 4).toInt ≤ 240) (hpl : pl ≤ 240) (hd : 48 ≤ (p_h S0 pl).toInt ∧ (p_h S0 pl).toInt ≤ 57) (K : ∀ v pl', pl < pl' → pl' ≤ 240 → Q (some (.int v)) (p_S S0 (pl') cs sk cl (Int32.ofInt 0) nc sg ov bh op na) R) (Kb : ∀ v pl' (b : Int32), pl < pl' → pl' ≤ 240 → b.toInt < 0 → Q (some (.int v)) (p_S S0 (pl') cs sk cl b nc sg ov bh op na) R) : w_T L xs (d + 2) m_X12_reads 0 (lv_args 0 [.ref 100]) [] (p_S S0 pl cs sk cl (Int32.ofInt 0) nc sg ov bh op na) R Q := by
  have hlt := p_h_lt (p_dg0 hd)
  refine w_st rfl (fun _ => rfl) ?_
  show w_T L xs (d + 2) m_X12_reads 1 [(0, .ref 100)] [.ref 100] (p_S S0 pl cs sk cl (Int32.ofInt 0) nc sg ov bh op na) R Q
  refine w_get rfl v_tyM rfl ?_
  refine w_st rfl (fun _ => rfl) ?_
  refine w_st rfl (fun _ => rfl) ?_
  refine w_st rfl (fun _ => rfl) ?_
  show w_T L xs (d + 2) m_X12_reads 7 [(2, .int (Int32.ofInt 0)), (1, .int (Int32.ofInt (pl : Int))), (0, .ref 100)] [] (p_S S0 pl cs sk cl (Int32.ofInt 0) nc sg ov bh op na) R Q
  refine w_st rfl (fun _ => rfl) ?_
  show w_T L xs (d + 2) m_X12_reads 8 [(2, .int (Int32.ofInt 0)), (1, .int (Int32.ofInt (pl : Int))), (0, .ref 100)] [.ref 100] (p_S S0 pl cs sk cl (Int32.ofInt 0) nc sg ov bh op na) R Q
  refine w_cv rfl (by decide) mt_X12_isGood v_tyM rfl rfl rfl (Nat.le_of_ble_eq_true rfl) (Nat.le_of_ble_eq_true rfl) (Nat.le_of_ble_eq_true rfl) ?_
  show w_T L xs _ m_X12_isGood 0 (lv_args 0 [.ref 100]) [] (p_S S0 pl cs sk cl (Int32.ofInt 0) nc sg ov bh op na) R _
  refine h_isGT ?_
  show w_T L xs (d + 2) m_X12_reads 11 [(2, .int (Int32.ofInt 0)), (1, .int (Int32.ofInt (pl : Int))), (0, .ref 100)] [.int (Int32.ofInt 1)] (p_S S0 pl cs sk cl (Int32.ofInt 0) nc sg ov bh op na) R Q
  refine w_st rfl (fun _ => rfl) ?_
  refine w_st rfl (fun _ => rfl) ?_
  show w_T L xs (d + 2) m_X12_reads 15 [(2, .int (Int32.ofInt 0)), (1, .int (Int32.ofInt (pl : Int))), (0, .ref 100)] [.ref 100] (p_S S0 pl cs sk cl (Int32.ofInt 0) nc sg ov bh op na) R Q
  refine w_cv rfl (by decide) mt_X12_seesDigit v_tyM rfl rfl rfl (Nat.le_of_ble_eq_true rfl) (Nat.le_of_ble_eq_true rfl) (Nat.le_of_ble_eq_true rfl) ?_
  show w_T L xs _ m_X12_seesDigit 0 (lv_args 0 [.ref 100]) [] (p_S S0 pl cs sk cl (Int32.ofInt 0) nc sg ov bh op na) R _
  refine h_dig (by omega) (fun g15 => ?_) (fun g15 => absurd hd g15)
  show w_T L xs (d + 2) m_X12_reads 18 [(2, .int (Int32.ofInt 0)), (1, .int (Int32.ofInt (pl : Int))), (0, .ref 100)] [.int (Int32.ofInt 1)] (p_S S0 pl cs sk cl (Int32.ofInt 0) nc sg ov bh op na) R Q
  refine w_st rfl (fun _ => rfl) ?_
  refine w_st rfl (fun _ => rfl) ?_
  show w_T L xs (d + 2) m_X12_reads 22 [(2, .int (Int32.ofInt 0)), (1, .int (Int32.ofInt (pl : Int))), (0, .ref 100)] [.ref 100] (p_S S0 pl cs sk cl (Int32.ofInt 0) nc sg ov bh op na) R Q
  refine w_get rfl v_tyM rfl ?_
  refine w_st rfl (fun _ => rfl) ?_
  refine w_st rfl (fun _ => rfl) ?_
  refine w_st rfl (fun _ => rfl) ?_
  show w_T L xs (d + 2) m_X12_reads 28 [(2, .int (Int32.ofInt 0)), (1, .int (Int32.ofInt (pl : Int))), (0, .ref 100)] [.int ((Int32.ofInt (pl : Int)) + (Int32.ofInt 5)), .int (Int32.ofInt (pl : Int))] (p_S S0 pl cs sk cl (Int32.ofInt 0) nc sg ov bh op na) R Q
  refine w_br (P := ¬ (Int32.ofInt (pl : Int)) = ((Int32.ofInt (pl : Int)) + (Int32.ofInt 5))) rfl (fun _ => rfl) (fun h28 => ?_) (fun h28 => ?_)
  · refine w_st rfl (fun _ => rfl) ?_
    refine w_st rfl (fun _ => rfl) ?_
    refine w_st rfl (fun _ => rfl) ?_
    refine w_st rfl (fun _ => rfl) ?_
    show w_T L xs (d + 2) m_X12_reads 45 [(2, .int (Int32.ofInt 0)), (1, .int (Int32.ofInt (pl : Int))), (0, .ref 100)] [.ref 100, .int ((Int32.ofInt 10) * (Int32.ofInt 0))] (p_S S0 pl cs sk cl (Int32.ofInt 0) nc sg ov bh op na) R Q
    refine w_cv rfl (by decide) mt_X12_here v_tyM rfl rfl rfl (Nat.le_of_ble_eq_true rfl) (Nat.le_of_ble_eq_true rfl) (Nat.le_of_ble_eq_true rfl) ?_
    show w_T L xs _ m_X12_here 0 (lv_args 0 [.ref 100]) [] (p_S S0 pl cs sk cl (Int32.ofInt 0) nc sg ov bh op na) R _
    refine h_here (by omega) ?_
    refine w_st rfl (fun _ => rfl) ?_
    refine w_st rfl (fun _ => rfl) ?_
    refine w_st rfl (fun _ => rfl) ?_
    refine w_st rfl (fun _ => rfl) ?_
    refine w_st rfl (fun _ => rfl) ?_
    refine w_st rfl (fun _ => rfl) ?_
    show w_T L xs (d + 2) m_X12_reads 55 [(2, .int ((((Int32.ofInt 10) * (Int32.ofInt 0)) + (p_h S0 pl)) - (Int32.ofInt 48))), (1, .int (Int32.ofInt (pl : Int))), (0, .ref 100)] [.ref 100, .ref 100] (p_S S0 pl cs sk cl (Int32.ofInt 0) nc sg ov bh op na) R Q
    refine w_get rfl v_tyM rfl ?_
    refine w_st rfl (fun _ => rfl) ?_
    refine w_st rfl (fun _ => rfl) ?_
    show w_T L xs (d + 2) m_X12_reads 60 [(2, .int ((((Int32.ofInt 10) * (Int32.ofInt 0)) + (p_h S0 pl)) - (Int32.ofInt 48))), (1, .int (Int32.ofInt (pl : Int))), (0, .ref 100)] [.int ((Int32.ofInt (pl : Int)) + (Int32.ofInt 1)), .ref 100] (p_S S0 pl cs sk cl (Int32.ofInt 0) nc sg ov bh op na) R Q
    refine w_put rfl v_tyM rfl rfl rfl ?_
    refine w_eqS (p_wpl (w_inc _)) ?_
    refine w_st rfl (fun _ => rfl) ?_
    show w_T L xs (d + 2) m_X12_reads 7 [(2, .int ((((Int32.ofInt 10) * (Int32.ofInt 0)) + (p_h S0 pl)) - (Int32.ofInt 48))), (1, .int (Int32.ofInt (pl : Int))), (0, .ref 100)] [] (p_S S0 (pl + 1) cs sk cl (Int32.ofInt 0) nc sg ov bh op na) R Q
    exact h_rdL he _ 240 (pl + 1) _ (by omega) (by omega) (fun v pl' h1 h2 => K v pl' (by omega) h2) (fun v pl' b h1 h2 h3 => Kb v pl' b (by omega) h2 h3)
  · refine w_st rfl (fun _ => rfl) ?_
    refine w_st rfl (fun _ => rfl) ?_
    refine w_st rfl (fun _ => rfl) ?_
    show w_T L xs (d + 2) m_X12_reads 34 [(2, .int (Int32.ofInt 0)), (1, .int (Int32.ofInt (pl : Int))), (0, .ref 100)] [.ref 100, .int (Int32.ofInt 2), .ref 100] (p_S S0 pl cs sk cl (Int32.ofInt 0) nc sg ov bh op na) R Q
    refine w_get rfl v_tyM rfl ?_
    show w_T L xs (d + 2) m_X12_reads 37 [(2, .int (Int32.ofInt 0)), (1, .int (Int32.ofInt (pl : Int))), (0, .ref 100)] [.int (Int32.ofInt (pl : Int)), .int (Int32.ofInt 2), .ref 100] (p_S S0 pl cs sk cl (Int32.ofInt 0) nc sg ov bh op na) R Q
    refine w_cv rfl (by decide) mt_X12_wrongs v_tyM rfl rfl rfl (Nat.le_of_ble_eq_true rfl) (Nat.le_of_ble_eq_true rfl) (Nat.le_of_ble_eq_true rfl) ?_
    show w_T L xs _ m_X12_wrongs 0 (lv_args 0 [.ref 100, .int (Int32.ofInt 2), .int (Int32.ofInt (pl : Int))]) [] (p_S S0 pl cs sk cl (Int32.ofInt 0) nc sg ov bh op na) R _
    refine h_wr (by decide) (by decide) (by rw [w_nat (by omega)]; omega) (by rw [w_nat (by omega)]; omega) (fun b37 hb37 => ?_)
    refine w_st rfl (fun _ => rfl) ?_
    refine w_st rfl (fun _ => rfl) ?_
    refine w_st rfl (fun _ => rfl) ?_
    refine w_st rfl (fun _ => rfl) ?_
    show w_T L xs (d + 2) m_X12_reads 45 [(2, .int (Int32.ofInt 0)), (1, .int (Int32.ofInt (pl : Int))), (0, .ref 100)] [.ref 100, .int ((Int32.ofInt 10) * (Int32.ofInt 0))] (p_S S0 pl cs sk cl b37 nc sg ov bh op na) R Q
    refine w_cv rfl (by decide) mt_X12_here v_tyM rfl rfl rfl (Nat.le_of_ble_eq_true rfl) (Nat.le_of_ble_eq_true rfl) (Nat.le_of_ble_eq_true rfl) ?_
    show w_T L xs _ m_X12_here 0 (lv_args 0 [.ref 100]) [] (p_S S0 pl cs sk cl b37 nc sg ov bh op na) R _
    refine h_here (by omega) ?_
    refine w_st rfl (fun _ => rfl) ?_
    refine w_st rfl (fun _ => rfl) ?_
    refine w_st rfl (fun _ => rfl) ?_
    refine w_st rfl (fun _ => rfl) ?_
    refine w_st rfl (fun _ => rfl) ?_
    refine w_st rfl (fun _ => rfl) ?_
    show w_T L xs (d + 2) m_X12_reads 55 [(2, .int ((((Int32.ofInt 10) * (Int32.ofInt 0)) + (p_h S0 pl)) - (Int32.ofInt 48))), (1, .int (Int32.ofInt (pl : Int))), (0, .ref 100)] [.ref 100, .ref 100] (p_S S0 pl cs sk cl b37 nc sg ov bh op na) R Q
    refine w_get rfl v_tyM rfl ?_
    refine w_st rfl (fun _ => rfl) ?_
    refine w_st rfl (fun _ => rfl) ?_
    show w_T L xs (d + 2) m_X12_reads 60 [(2, .int ((((Int32.ofInt 10) * (Int32.ofInt 0)) + (p_h S0 pl)) - (Int32.ofInt 48))), (1, .int (Int32.ofInt (pl : Int))), (0, .ref 100)] [.int ((Int32.ofInt (pl : Int)) + (Int32.ofInt 1)), .ref 100] (p_S S0 pl cs sk cl b37 nc sg ov bh op na) R Q
    refine w_put rfl v_tyM rfl rfl rfl ?_
    refine w_eqS (p_wpl (w_inc _)) ?_
    refine w_st rfl (fun _ => rfl) ?_
    show w_T L xs (d + 2) m_X12_reads 7 [(2, .int ((((Int32.ofInt 10) * (Int32.ofInt 0)) + (p_h S0 pl)) - (Int32.ofInt 48))), (1, .int (Int32.ofInt (pl : Int))), (0, .ref 100)] [] (p_S S0 (pl + 1) cs sk cl b37 nc sg ov bh op na) R Q
    refine w_st rfl (fun _ => rfl) ?_
    show w_T L xs (d + 2) m_X12_reads 8 [(2, .int ((((Int32.ofInt 10) * (Int32.ofInt 0)) + (p_h S0 pl)) - (Int32.ofInt 48))), (1, .int (Int32.ofInt (pl : Int))), (0, .ref 100)] [.ref 100] (p_S S0 (pl + 1) cs sk cl b37 nc sg ov bh op na) R Q
    refine w_cv rfl (by decide) mt_X12_isGood v_tyM rfl rfl rfl (Nat.le_of_ble_eq_true rfl) (Nat.le_of_ble_eq_true rfl) (Nat.le_of_ble_eq_true rfl) ?_
    show w_T L xs _ m_X12_isGood 0 (lv_args 0 [.ref 100]) [] (p_S S0 (pl + 1) cs sk cl b37 nc sg ov bh op na) R _
    refine h_isGF hb37 ?_
    show w_T L xs (d + 2) m_X12_reads 11 [(2, .int ((((Int32.ofInt 10) * (Int32.ofInt 0)) + (p_h S0 pl)) - (Int32.ofInt 48))), (1, .int (Int32.ofInt (pl : Int))), (0, .ref 100)] [.int (Int32.ofInt 0)] (p_S S0 (pl + 1) cs sk cl b37 nc sg ov bh op na) R Q
    refine w_st rfl (fun _ => rfl) ?_
    refine w_st rfl (fun _ => rfl) ?_
    show w_T L xs (d + 2) m_X12_reads 67 [(2, .int ((((Int32.ofInt 10) * (Int32.ofInt 0)) + (p_h S0 pl)) - (Int32.ofInt 48))), (1, .int (Int32.ofInt (pl : Int))), (0, .ref 100)] [.int ((((Int32.ofInt 10) * (Int32.ofInt 0)) + (p_h S0 pl)) - (Int32.ofInt 48))] (p_S S0 (pl + 1) cs sk cl b37 nc sg ov bh op na) R Q
    refine w_ret rfl (by rfl) ?_
    exact Kb _ _ _ (by omega) (by omega) hb37
theorem h_suS {q b : Nat} {nc0 sg0 : Nat → Int32} (u : Int32) (hI : p_I q nc0 cs sk nc sg 1) (hV : p_V b sg0 sk sg) (hb : cs + sk ≤ pl) (hp : pl ≤ 240) (K0 : b < sk → p_I q nc0 (cs + 1) (sk - 1) (upd nc cs (p_tp sg sk)) sg 1 → w_T L xs (d + 2) m_X12_sums 0 [(0, .ref 100), (1, .int u)] [] (p_S S0 pl (cs + 1) (sk - 1) cl (Int32.ofInt 0) (upd nc cs (p_tp sg sk)) sg ov bh op (upd na cs (Int32.ofInt 0))) R Q) (K : ¬ p_ti (p_tp sg sk) → (¬ u = 0 → ¬ p_pl (p_tp sg sk)) → Q none (p_S S0 pl cs sk cl (Int32.ofInt 0) nc sg ov bh op na) R) : w_T L xs (d + 2) m_X12_sums 0 [(0, .ref 100), (1, .int u)] [] (p_S S0 pl cs sk cl (Int32.ofInt 0) nc sg ov bh op na) R Q := by
  have hsk : sk ≤ 240 := by omega
  refine w_st rfl (fun _ => rfl) ?_
  show w_T L xs (d + 2) m_X12_sums 1 [(0, .ref 100), (1, .int u)] [.ref 100] (p_S S0 pl cs sk cl (Int32.ofInt 0) nc sg ov bh op na) R Q
  refine w_cv rfl (by decide) mt_X12_top v_tyM rfl rfl rfl (Nat.le_of_ble_eq_true rfl) (Nat.le_of_ble_eq_true rfl) (Nat.le_of_ble_eq_true rfl) ?_
  show w_T L xs _ m_X12_top 0 (lv_args 0 [.ref 100]) [] (p_S S0 pl cs sk cl (Int32.ofInt 0) nc sg ov bh op na) R _
  refine h_top (by omega) ?_
  show w_T L xs (d + 2) m_X12_sums 4 [(0, .ref 100), (1, .int u)] [.int (p_tp sg sk)] (p_S S0 pl cs sk cl (Int32.ofInt 0) nc sg ov bh op na) R Q
  refine w_cs rfl (by decide) mt_X12_isTimes (fun _ => rfl) (Nat.le_of_ble_eq_true rfl) (Nat.le_of_ble_eq_true rfl) ?_
  show w_T L xs _ m_X12_isTimes 0 (lv_args 0 [.int (p_tp sg sk)]) [] (p_S S0 pl cs sk cl (Int32.ofInt 0) nc sg ov bh op na) R _
  refine h_isTimes _ (fun c4 => ?_) (fun c4 => ?_)
  · obtain ⟨hk, hI2⟩ := p_I_bin hI (p_bi_ti c4)
    have hbk := p_V_top hV (Or.inl c4)
    show w_T L xs (d + 2) m_X12_sums 7 [(0, .ref 100), (1, .int u)] [.int (Int32.ofInt 1)] (p_S S0 pl cs sk cl (Int32.ofInt 0) nc sg ov bh op na) R Q
    refine w_st rfl (fun _ => rfl) ?_
    refine w_st rfl (fun _ => rfl) ?_
    refine w_st rfl (fun _ => rfl) ?_
    show w_T L xs (d + 2) m_X12_sums 26 [(0, .ref 100), (1, .int u)] [.ref 100, .ref 100] (p_S S0 pl cs sk cl (Int32.ofInt 0) nc sg ov bh op na) R Q
    refine w_cv rfl (by decide) mt_X12_top v_tyM rfl rfl rfl (Nat.le_of_ble_eq_true rfl) (Nat.le_of_ble_eq_true rfl) (Nat.le_of_ble_eq_true rfl) ?_
    show w_T L xs _ m_X12_top 0 (lv_args 0 [.ref 100]) [] (p_S S0 pl cs sk cl (Int32.ofInt 0) nc sg ov bh op na) R _
    refine h_top (by omega) ?_
    refine w_st rfl (fun _ => rfl) ?_
    show w_T L xs (d + 2) m_X12_sums 30 [(0, .ref 100), (1, .int u)] [.int (Int32.ofInt 0), .int (p_tp sg sk), .ref 100] (p_S S0 pl cs sk cl (Int32.ofInt 0) nc sg ov bh op na) R Q
    refine w_cv rfl (by decide) mt_X12_emit v_tyM rfl rfl rfl (Nat.le_of_ble_eq_true rfl) (Nat.le_of_ble_eq_true rfl) (Nat.le_of_ble_eq_true rfl) ?_
    show w_T L xs _ m_X12_emit 0 (lv_args 0 [.ref 100, .int (p_tp sg sk), .int (Int32.ofInt 0)]) [] (p_S S0 pl cs sk cl (Int32.ofInt 0) nc sg ov bh op na) R _
    refine h_emG (by omega) ?_
    refine w_st rfl (fun _ => rfl) ?_
    refine w_st rfl (fun _ => rfl) ?_
    show w_T L xs (d + 2) m_X12_sums 35 [(0, .ref 100), (1, .int u)] [.ref 100, .ref 100] (p_S S0 pl (cs + 1) sk cl (Int32.ofInt 0) (upd nc cs (p_tp sg sk)) sg ov bh op (upd na cs (Int32.ofInt 0))) R Q
    refine w_get rfl v_tyM rfl ?_
    refine w_st rfl (fun _ => rfl) ?_
    refine w_st rfl (fun _ => rfl) ?_
    show w_T L xs (d + 2) m_X12_sums 40 [(0, .ref 100), (1, .int u)] [.int ((Int32.ofInt (sk : Int)) - (Int32.ofInt 1)), .ref 100] (p_S S0 pl (cs + 1) sk cl (Int32.ofInt 0) (upd nc cs (p_tp sg sk)) sg ov bh op (upd na cs (Int32.ofInt 0))) R Q
    refine w_put rfl v_tyM rfl rfl rfl ?_
    refine w_eqS (p_wsk (w_dec2 (by omega))) ?_
    refine w_st rfl (fun _ => rfl) ?_
    show w_T L xs (d + 2) m_X12_sums 0 [(0, .ref 100), (1, .int u)] [] (p_S S0 pl (cs + 1) (sk - 1) cl (Int32.ofInt 0) (upd nc cs (p_tp sg sk)) sg ov bh op (upd na cs (Int32.ofInt 0))) R Q
    exact K0 hbk hI2
  · show w_T L xs (d + 2) m_X12_sums 7 [(0, .ref 100), (1, .int u)] [.int (Int32.ofInt 0)] (p_S S0 pl cs sk cl (Int32.ofInt 0) nc sg ov bh op na) R Q
    refine w_st rfl (fun _ => rfl) ?_
    refine w_st rfl (fun _ => rfl) ?_
    show w_T L xs (d + 2) m_X12_sums 11 [(0, .ref 100), (1, .int u)] [.int u] (p_S S0 pl cs sk cl (Int32.ofInt 0) nc sg ov bh op na) R Q
    refine w_br (P := u = 0) rfl (fun _ => rfl) (fun h11 => ?_) (fun h11 => ?_)
    · have hu := K c4 (fun h => absurd h11 h)
      refine w_ret rfl rfl ?_
      first | exact K c4 (fun h => absurd h11 h) | exact K c4 (fun _ => c18)
    · refine w_st rfl (fun _ => rfl) ?_
      show w_T L xs (d + 2) m_X12_sums 15 [(0, .ref 100), (1, .int u)] [.ref 100] (p_S S0 pl cs sk cl (Int32.ofInt 0) nc sg ov bh op na) R Q
      refine w_cv rfl (by decide) mt_X12_top v_tyM rfl rfl rfl (Nat.le_of_ble_eq_true rfl) (Nat.le_of_ble_eq_true rfl) (Nat.le_of_ble_eq_true rfl) ?_
      show w_T L xs _ m_X12_top 0 (lv_args 0 [.ref 100]) [] (p_S S0 pl cs sk cl (Int32.ofInt 0) nc sg ov bh op na) R _
      refine h_top (by omega) ?_
      show w_T L xs (d + 2) m_X12_sums 18 [(0, .ref 100), (1, .int u)] [.int (p_tp sg sk)] (p_S S0 pl cs sk cl (Int32.ofInt 0) nc sg ov bh op na) R Q
      refine w_cs rfl (by decide) mt_X12_isPlus (fun _ => rfl) (Nat.le_of_ble_eq_true rfl) (Nat.le_of_ble_eq_true rfl) ?_
      show w_T L xs _ m_X12_isPlus 0 (lv_args 0 [.int (p_tp sg sk)]) [] (p_S S0 pl cs sk cl (Int32.ofInt 0) nc sg ov bh op na) R _
      refine h_isPlus _ (fun c18 => ?_) (fun c18 => ?_)
      · obtain ⟨hk, hI2⟩ := p_I_bin hI (p_bi_pl c18)
        have hbk := p_V_top hV (Or.inr (Or.inl c18))
        show w_T L xs (d + 2) m_X12_sums 21 [(0, .ref 100), (1, .int u)] [.int (Int32.ofInt 1)] (p_S S0 pl cs sk cl (Int32.ofInt 0) nc sg ov bh op na) R Q
        refine w_st rfl (fun _ => rfl) ?_
        refine w_st rfl (fun _ => rfl) ?_
        refine w_st rfl (fun _ => rfl) ?_
        show w_T L xs (d + 2) m_X12_sums 26 [(0, .ref 100), (1, .int u)] [.ref 100, .ref 100] (p_S S0 pl cs sk cl (Int32.ofInt 0) nc sg ov bh op na) R Q
        refine w_cv rfl (by decide) mt_X12_top v_tyM rfl rfl rfl (Nat.le_of_ble_eq_true rfl) (Nat.le_of_ble_eq_true rfl) (Nat.le_of_ble_eq_true rfl) ?_
        show w_T L xs _ m_X12_top 0 (lv_args 0 [.ref 100]) [] (p_S S0 pl cs sk cl (Int32.ofInt 0) nc sg ov bh op na) R _
        refine h_top (by omega) ?_
        refine w_st rfl (fun _ => rfl) ?_
        show w_T L xs (d + 2) m_X12_sums 30 [(0, .ref 100), (1, .int u)] [.int (Int32.ofInt 0), .int (p_tp sg sk), .ref 100] (p_S S0 pl cs sk cl (Int32.ofInt 0) nc sg ov bh op na) R Q
        refine w_cv rfl (by decide) mt_X12_emit v_tyM rfl rfl rfl (Nat.le_of_ble_eq_true rfl) (Nat.le_of_ble_eq_true rfl) (Nat.le_of_ble_eq_true rfl) ?_
        show w_T L xs _ m_X12_emit 0 (lv_args 0 [.ref 100, .int (p_tp sg sk), .int (Int32.ofInt 0)]) [] (p_S S0 pl cs sk cl (Int32.ofInt 0) nc sg ov bh op na) R _
        refine h_emG (by omega) ?_
        refine w_st rfl (fun _ => rfl) ?_
        refine w_st rfl (fun _ => rfl) ?_
        show w_T L xs (d + 2) m_X12_sums 35 [(0, .ref 100), (1, .int u)] [.ref 100, .ref 100] (p_S S0 pl (cs + 1) sk cl (Int32.ofInt 0) (upd nc cs (p_tp sg sk)) sg ov bh op (upd na cs (Int32.ofInt 0))) R Q
        refine w_get rfl v_tyM rfl ?_
        refine w_st rfl (fun _ => rfl) ?_
        refine w_st rfl (fun _ => rfl) ?_
        show w_T L xs (d + 2) m_X12_sums 40 [(0, .ref 100), (1, .int u)] [.int ((Int32.ofInt (sk : Int)) - (Int32.ofInt 1)), .ref 100] (p_S S0 pl (cs + 1) sk cl (Int32.ofInt 0) (upd nc cs (p_tp sg sk)) sg ov bh op (upd na cs (Int32.ofInt 0))) R Q
        refine w_put rfl v_tyM rfl rfl rfl ?_
        refine w_eqS (p_wsk (w_dec2 (by omega))) ?_
        refine w_st rfl (fun _ => rfl) ?_
        show w_T L xs (d + 2) m_X12_sums 0 [(0, .ref 100), (1, .int u)] [] (p_S S0 pl (cs + 1) (sk - 1) cl (Int32.ofInt 0) (upd nc cs (p_tp sg sk)) sg ov bh op (upd na cs (Int32.ofInt 0))) R Q
        exact K0 hbk hI2
      · show w_T L xs (d + 2) m_X12_sums 21 [(0, .ref 100), (1, .int u)] [.int (Int32.ofInt 0)] (p_S S0 pl cs sk cl (Int32.ofInt 0) nc sg ov bh op na) R Q
        refine w_st rfl (fun _ => rfl) ?_
        show w_T L xs (d + 2) m_X12_sums 46 [(0, .ref 100), (1, .int u)] [] (p_S S0 pl cs sk cl (Int32.ofInt 0) nc sg ov bh op na) R Q
        refine w_ret rfl rfl ?_
        first | exact K c4 (fun h => absurd h11 h) | exact K c4 (fun _ => c18)
theorem h_sums (u : Int32) (q b : Nat) (nc0 sg0 : Nat → Int32) (hp : pl ≤ 240) : ∀ (n sk cs : Nat) (nc na : Nat → Int32), sk ≤ n → p_I q nc0 cs sk nc sg 1 → p_V b sg0 sk sg → cs + sk ≤ pl → (∀ (sk' cs' : Nat) (nc' na' : Nat → Int32), p_I q nc0 cs' sk' nc' sg 1 → p_V b sg0 sk' sg → cs' + sk' ≤ pl → ¬ p_ti (p_tp sg sk') → (¬ u = 0 → ¬ p_pl (p_tp sg sk')) → Q none (p_S S0 pl (cs') (sk') cl (Int32.ofInt 0) (nc') sg ov bh op (na')) R) → w_T L xs (d + 2) m_X12_sums 0 (lv_args 0 [.ref 100, .int u]) [] (p_S S0 pl cs sk cl (Int32.ofInt 0) nc sg ov bh op na) R Q := by
  intro n
  induction n with
  | zero =>
    intro sk cs nc na hn hI hV hb K
    exact h_suS u hI hV hb hp (fun h _ => absurd h (by omega)) (fun a b => K _ _ _ _ hI hV hb a b)
  | succ n ih =>
    intro sk cs nc na hn hI hV hb K
    exact h_suS u hI hV hb hp (fun h1 h2 => ih (sk - 1) (cs + 1) _ _ (by omega) h2 (p_V_pop hV h1) (by omega) K) (fun a b => K _ _ _ _ hI hV hb a b)
theorem h_faS {q b : Nat} {nc0 sg0 : Nat → Int32} (he : (S0 99 4).toInt ≤ 240) (hI : p_I q nc0 cs sk nc sg 0) (hV : p_V b sg0 sk sg) (hb : cs + sk ≤ pl) (hp : pl ≤ 240) (K0 : ∀ o, pl < 240 → p_I q nc0 cs (sk + 1) nc (upd sg sk (p_h S0 pl)) 0 → p_V b sg0 (sk + 1) (upd sg sk (p_h S0 pl)) → w_T L xs (d + 3) m_X12_factor 0 [(0, .ref 100)] [] (p_S S0 (pl + 1) cs (sk + 1) cl (Int32.ofInt 0) nc (upd sg sk (p_h S0 pl)) ov bh o na) R Q) (Kg : ∀ (pl' cs' sk' : Nat) (nc' sg' na' : Nat → Int32) (o : Int32), pl < pl' → p_I q nc0 cs' sk' nc' sg' 1 → p_V b sg0 sk' sg' → cs' + sk' ≤ pl' → pl' ≤ 240 → Q none (p_S S0 (pl') (cs') (sk') cl (Int32.ofInt 0) (nc') (sg') ov bh o (na')) R) (Kb : ∀ (pl' cs' sk' : Nat) (b' : Int32) (nc' sg' na' : Nat → Int32) (o : Int32), b'.toInt < 0 → cs' + sk' ≤ pl' → pl' ≤ 240 → Q none (p_S S0 (pl') (cs') (sk') cl (b') (nc') (sg') ov bh o (na')) R) : w_T L xs (d + 3) m_X12_factor 0 [(0, .ref 100)] [] (p_S S0 pl cs sk cl (Int32.ofInt 0) nc sg ov bh op na) R Q := by
  refine w_st rfl (fun _ => rfl) ?_
  show w_T L xs (d + 3) m_X12_factor 1 [(0, .ref 100)] [.ref 100] (p_S S0 pl cs sk cl (Int32.ofInt 0) nc sg ov bh op na) R Q
  refine w_cv rfl (by decide) mt_X12_isGood v_tyM rfl rfl rfl (Nat.le_of_ble_eq_true rfl) (Nat.le_of_ble_eq_true rfl) (Nat.le_of_ble_eq_true rfl) ?_
  show w_T L xs _ m_X12_isGood 0 (lv_args 0 [.ref 100]) [] (p_S S0 pl cs sk cl (Int32.ofInt 0) nc sg ov bh op na) R _
  refine h_isGT ?_
  show w_T L xs (d + 3) m_X12_factor 4 [(0, .ref 100)] [.int (Int32.ofInt 1)] (p_S S0 pl cs sk cl (Int32.ofInt 0) nc sg ov bh op na) R Q
  refine w_st rfl (fun _ => rfl) ?_
  refine w_st rfl (fun _ => rfl) ?_
  show w_T L xs (d + 3) m_X12_factor 8 [(0, .ref 100)] [.ref 100] (p_S S0 pl cs sk cl (Int32.ofInt 0) nc sg ov bh op na) R Q
  refine w_cv rfl (by decide) mt_X12_here v_tyM rfl rfl rfl (Nat.le_of_ble_eq_true rfl) (Nat.le_of_ble_eq_true rfl) (Nat.le_of_ble_eq_true rfl) ?_
  show w_T L xs _ m_X12_here 0 (lv_args 0 [.ref 100]) [] (p_S S0 pl cs sk cl (Int32.ofInt 0) nc sg ov bh op na) R _
  refine h_here (by omega) ?_
  refine w_st rfl (fun _ => rfl) ?_
  show w_T L xs (d + 3) m_X12_factor 13 [(0, .ref 100)] [.int (Int32.ofInt 91), .int (p_h S0 pl)] (p_S S0 pl cs sk cl (Int32.ofInt 0) nc sg ov bh op na) R Q
  refine w_br (P := ¬ (p_h S0 pl) = (Int32.ofInt 91)) rfl (fun _ => rfl) (fun h13 => ?_) (fun h13 => ?_)
  · refine w_st rfl (fun _ => rfl) ?_
    show w_T L xs (d + 3) m_X12_factor 24 [(0, .ref 100)] [.ref 100] (p_S S0 pl cs sk cl (Int32.ofInt 0) nc sg ov bh op na) R Q
    refine w_cv rfl (by decide) mt_X12_isGood v_tyM rfl rfl rfl (Nat.le_of_ble_eq_true rfl) (Nat.le_of_ble_eq_true rfl) (Nat.le_of_ble_eq_true rfl) ?_
    show w_T L xs _ m_X12_isGood 0 (lv_args 0 [.ref 100]) [] (p_S S0 pl cs sk cl (Int32.ofInt 0) nc sg ov bh op na) R _
    refine h_isGT ?_
    show w_T L xs (d + 3) m_X12_factor 27 [(0, .ref 100)] [.int (Int32.ofInt 1)] (p_S S0 pl cs sk cl (Int32.ofInt 0) nc sg ov bh op na) R Q
    refine w_st rfl (fun _ => rfl) ?_
    refine w_st rfl (fun _ => rfl) ?_
    show w_T L xs (d + 3) m_X12_factor 32 [(0, .ref 100)] [.ref 100] (p_S S0 pl cs sk cl (Int32.ofInt 0) nc sg ov bh op na) R Q
    refine w_cv rfl (by decide) mt_X12_seesDigit v_tyM rfl rfl rfl (Nat.le_of_ble_eq_true rfl) (Nat.le_of_ble_eq_true rfl) (Nat.le_of_ble_eq_true rfl) ?_
    show w_T L xs _ m_X12_seesDigit 0 (lv_args 0 [.ref 100]) [] (p_S S0 pl cs sk cl (Int32.ofInt 0) nc sg ov bh op na) R _
    refine h_dig (by omega) (fun g32 => ?_) (fun g32 => ?_)
    · show w_T L xs (d + 3) m_X12_factor 35 [(0, .ref 100)] [.int (Int32.ofInt 1)] (p_S S0 pl cs sk cl (Int32.ofInt 0) nc sg ov bh op na) R Q
      refine w_st rfl (fun _ => rfl) ?_
      refine w_st rfl (fun _ => rfl) ?_
      refine w_st rfl (fun _ => rfl) ?_
      refine w_st rfl (fun _ => rfl) ?_
      show w_T L xs (d + 3) m_X12_factor 41 [(0, .ref 100)] [.ref 100, .int (Int32.ofInt 0), .ref 100] (p_S S0 pl cs sk cl (Int32.ofInt 0) nc sg ov bh op na) R Q
      refine w_cv rfl (by decide) mt_X12_reads v_tyM rfl rfl rfl (Nat.le_of_ble_eq_true rfl) (Nat.le_of_ble_eq_true rfl) (Nat.le_of_ble_eq_true rfl) ?_
      show w_T L xs _ m_X12_reads 0 (lv_args 0 [.ref 100]) [] (p_S S0 pl cs sk cl (Int32.ofInt 0) nc sg ov bh op na) R _
      refine h_reads he (by omega) g32 (fun v1 pl1 l1 l2 => ?_) (fun v1 pl1 b41 l1 l2 hb41 => ?_)
      · show w_T L xs (d + 3) m_X12_factor 44 [(0, .ref 100)] [.int v1, .int (Int32.ofInt 0), .ref 100] (p_S S0 pl1 cs sk cl (Int32.ofInt 0) nc sg ov bh op na) R Q
        refine w_cv rfl (by decide) mt_X12_emit v_tyM rfl rfl rfl (Nat.le_of_ble_eq_true rfl) (Nat.le_of_ble_eq_true rfl) (Nat.le_of_ble_eq_true rfl) ?_
        show w_T L xs _ m_X12_emit 0 (lv_args 0 [.ref 100, .int (Int32.ofInt 0), .int v1]) [] (p_S S0 pl1 cs sk cl (Int32.ofInt 0) nc sg ov bh op na) R _
        refine h_emG (by omega) ?_
        refine w_st rfl (fun _ => rfl) ?_
        show w_T L xs (d + 3) m_X12_factor 91 [(0, .ref 100)] [] (p_S S0 pl1 (cs + 1) sk cl (Int32.ofInt 0) (upd nc cs (Int32.ofInt 0)) sg ov bh op (upd na cs v1)) R Q
        refine w_ret rfl rfl ?_
        exact Kg _ _ _ _ _ _ _ l1 (p_I_op hI (Or.inl rfl)) hV (by omega) (by omega)
      · show w_T L xs (d + 3) m_X12_factor 44 [(0, .ref 100)] [.int v1, .int (Int32.ofInt 0), .ref 100] (p_S S0 pl1 cs sk cl b41 nc sg ov bh op na) R Q
        refine w_cv rfl (by decide) mt_X12_emit v_tyM rfl rfl rfl (Nat.le_of_ble_eq_true rfl) (Nat.le_of_ble_eq_true rfl) (Nat.le_of_ble_eq_true rfl) ?_
        show w_T L xs _ m_X12_emit 0 (lv_args 0 [.ref 100, .int (Int32.ofInt 0), .int v1]) [] (p_S S0 pl1 cs sk cl b41 nc sg ov bh op na) R _
        refine h_emB hb41 ?_
        refine w_st rfl (fun _ => rfl) ?_
        show w_T L xs (d + 3) m_X12_factor 91 [(0, .ref 100)] [] (p_S S0 pl1 cs sk cl b41 nc sg ov bh op na) R Q
        refine w_ret rfl rfl ?_
        exact Kb _ _ _ _ _ _ _ _ hb41 (by omega) (by omega)
    · show w_T L xs (d + 3) m_X12_factor 35 [(0, .ref 100)] [.int (Int32.ofInt 0)] (p_S S0 pl cs sk cl (Int32.ofInt 0) nc sg ov bh op na) R Q
      refine w_st rfl (fun _ => rfl) ?_
      refine w_st rfl (fun _ => rfl) ?_
      show w_T L xs (d + 3) m_X12_factor 51 [(0, .ref 100)] [.ref 100] (p_S S0 pl cs sk cl (Int32.ofInt 0) nc sg ov bh op na) R Q
      refine w_cv rfl (by decide) mt_X12_here v_tyM rfl rfl rfl (Nat.le_of_ble_eq_true rfl) (Nat.le_of_ble_eq_true rfl) (Nat.le_of_ble_eq_true rfl) ?_
      show w_T L xs _ m_X12_here 0 (lv_args 0 [.ref 100]) [] (p_S S0 pl cs sk cl (Int32.ofInt 0) nc sg ov bh op na) R _
      refine h_here (by omega) ?_
      show w_T L xs (d + 3) m_X12_factor 54 [(0, .ref 100)] [.int (p_h S0 pl)] (p_S S0 pl cs sk cl (Int32.ofInt 0) nc sg ov bh op na) R Q
      refine w_cs rfl (by decide) mt_X12_isValue (fun _ => rfl) (Nat.le_of_ble_eq_true rfl) (Nat.le_of_ble_eq_true rfl) ?_
      show w_T L xs _ m_X12_isValue 0 (lv_args 0 [.int (p_h S0 pl)]) [] (p_S S0 pl cs sk cl (Int32.ofInt 0) nc sg ov bh op na) R _
      refine h_isValue _ (fun c54 => ?_) (fun _ => ?_)
      · have hlt := p_h_lt c54
        show w_T L xs (d + 3) m_X12_factor 57 [(0, .ref 100)] [.int (Int32.ofInt 1)] (p_S S0 pl cs sk cl (Int32.ofInt 0) nc sg ov bh op na) R Q
        refine w_st rfl (fun _ => rfl) ?_
        refine w_st rfl (fun _ => rfl) ?_
        refine w_st rfl (fun _ => rfl) ?_
        refine w_st rfl (fun _ => rfl) ?_
        show w_T L xs (d + 3) m_X12_factor 63 [(0, .ref 100)] [.ref 100, .int (Int32.ofInt 1), .ref 100] (p_S S0 pl cs sk cl (Int32.ofInt 0) nc sg ov bh op na) R Q
        refine w_cv rfl (by decide) mt_X12_here v_tyM rfl rfl rfl (Nat.le_of_ble_eq_true rfl) (Nat.le_of_ble_eq_true rfl) (Nat.le_of_ble_eq_true rfl) ?_
        show w_T L xs _ m_X12_here 0 (lv_args 0 [.ref 100]) [] (p_S S0 pl cs sk cl (Int32.ofInt 0) nc sg ov bh op na) R _
        refine h_here (by omega) ?_
        show w_T L xs (d + 3) m_X12_factor 66 [(0, .ref 100)] [.int (p_h S0 pl), .int (Int32.ofInt 1), .ref 100] (p_S S0 pl cs sk cl (Int32.ofInt 0) nc sg ov bh op na) R Q
        refine w_cv rfl (by decide) mt_X12_emit v_tyM rfl rfl rfl (Nat.le_of_ble_eq_true rfl) (Nat.le_of_ble_eq_true rfl) (Nat.le_of_ble_eq_true rfl) ?_
        show w_T L xs _ m_X12_emit 0 (lv_args 0 [.ref 100, .int (Int32.ofInt 1), .int (p_h S0 pl)]) [] (p_S S0 pl cs sk cl (Int32.ofInt 0) nc sg ov bh op na) R _
        refine h_emG (by omega) ?_
        refine w_st rfl (fun _ => rfl) ?_
        refine w_st rfl (fun _ => rfl) ?_
        show w_T L xs (d + 3) m_X12_factor 71 [(0, .ref 100)] [.ref 100, .ref 100] (p_S S0 pl (cs + 1) sk cl (Int32.ofInt 0) (upd nc cs (Int32.ofInt 1)) sg ov bh op (upd na cs (p_h S0 pl))) R Q
        refine w_get rfl v_tyM rfl ?_
        refine w_st rfl (fun _ => rfl) ?_
        refine w_st rfl (fun _ => rfl) ?_
        show w_T L xs (d + 3) m_X12_factor 76 [(0, .ref 100)] [.int ((Int32.ofInt (pl : Int)) + (Int32.ofInt 1)), .ref 100] (p_S S0 pl (cs + 1) sk cl (Int32.ofInt 0) (upd nc cs (Int32.ofInt 1)) sg ov bh op (upd na cs (p_h S0 pl))) R Q
        refine w_put rfl v_tyM rfl rfl rfl ?_
        refine w_eqS (p_wpl (w_inc _)) ?_
        refine w_st rfl (fun _ => rfl) ?_
        show w_T L xs (d + 3) m_X12_factor 91 [(0, .ref 100)] [] (p_S S0 (pl + 1) (cs + 1) sk cl (Int32.ofInt 0) (upd nc cs (Int32.ofInt 1)) sg ov bh op (upd na cs (p_h S0 pl))) R Q
        refine w_ret rfl rfl ?_
        exact Kg _ _ _ _ _ _ _ (by omega) (p_I_op hI (Or.inr rfl)) hV (by omega) (by omega)
      · show w_T L xs (d + 3) m_X12_factor 57 [(0, .ref 100)] [.int (Int32.ofInt 0)] (p_S S0 pl cs sk cl (Int32.ofInt 0) nc sg ov bh op na) R Q
        refine w_st rfl (fun _ => rfl) ?_
        refine w_st rfl (fun _ => rfl) ?_
        refine w_st rfl (fun _ => rfl) ?_
        refine w_st rfl (fun _ => rfl) ?_
        show w_T L xs (d + 3) m_X12_factor 85 [(0, .ref 100)] [.ref 100, .int (Int32.ofInt 1), .ref 100] (p_S S0 pl cs sk cl (Int32.ofInt 0) nc sg ov bh op na) R Q
        refine w_get rfl v_tyM rfl ?_
        show w_T L xs (d + 3) m_X12_factor 88 [(0, .ref 100)] [.int (Int32.ofInt (pl : Int)), .int (Int32.ofInt 1), .ref 100] (p_S S0 pl cs sk cl (Int32.ofInt 0) nc sg ov bh op na) R Q
        refine w_cv rfl (by decide) mt_X12_wrongs v_tyM rfl rfl rfl (Nat.le_of_ble_eq_true rfl) (Nat.le_of_ble_eq_true rfl) (Nat.le_of_ble_eq_true rfl) ?_
        show w_T L xs _ m_X12_wrongs 0 (lv_args 0 [.ref 100, .int (Int32.ofInt 1), .int (Int32.ofInt (pl : Int))]) [] (p_S S0 pl cs sk cl (Int32.ofInt 0) nc sg ov bh op na) R _
        refine h_wr (by decide) (by decide) (by rw [w_nat (by omega)]; omega) (by rw [w_nat (by omega)]; omega) (fun b88 hb88 => ?_)
        show w_T L xs (d + 3) m_X12_factor 91 [(0, .ref 100)] [] (p_S S0 pl cs sk cl b88 nc sg ov bh op na) R Q
        refine w_ret rfl rfl ?_
        exact Kb _ _ _ _ _ _ _ _ hb88 (by omega) (by omega)
  · have e13 := Decidable.of_not_not h13
    have hlt := p_h_lt (S0 := S0) (pl := pl) (by rw [e13]; decide)
    refine w_st rfl (fun _ => rfl) ?_
    show w_T L xs (d + 3) m_X12_factor 17 [(0, .ref 100)] [.ref 100] (p_S S0 pl cs sk cl (Int32.ofInt 0) nc sg ov bh op na) R Q
    refine w_cv rfl (by decide) mt_X12_opens v_tyM rfl rfl rfl (Nat.le_of_ble_eq_true rfl) (Nat.le_of_ble_eq_true rfl) (Nat.le_of_ble_eq_true rfl) ?_
    show w_T L xs _ m_X12_opens 0 (lv_args 0 [.ref 100]) [] (p_S S0 pl cs sk cl (Int32.ofInt 0) nc sg ov bh op na) R _
    refine h_opens (by omega) (by omega) (fun o17 => ?_) (fun o17 b17 hb17 => ?_)
    · show w_T L xs (d + 3) m_X12_factor 20 [(0, .ref 100)] [] (p_S S0 (pl + 1) cs (sk + 1) cl (Int32.ofInt 0) nc (upd sg sk (p_h S0 pl)) ov bh o17 na) R Q
      refine w_st rfl (fun _ => rfl) ?_
      show w_T L xs (d + 3) m_X12_factor 0 [(0, .ref 100)] [] (p_S S0 (pl + 1) cs (sk + 1) cl (Int32.ofInt 0) nc (upd sg sk (p_h S0 pl)) ov bh o17 na) R Q
      exact K0 _ (by omega) (p_I_pn hI (by rw [e13]; decide)) (p_V_psh hV (by rw [e13]; exact Or.inr (Or.inr rfl)))
    · show w_T L xs (d + 3) m_X12_factor 20 [(0, .ref 100)] [] (p_S S0 (pl + 1) cs (sk + 1) cl b17 nc (upd sg sk (p_h S0 pl)) ov bh o17 na) R Q
      refine w_st rfl (fun _ => rfl) ?_
      show w_T L xs (d + 3) m_X12_factor 0 [(0, .ref 100)] [] (p_S S0 (pl + 1) cs (sk + 1) cl b17 nc (upd sg sk (p_h S0 pl)) ov bh o17 na) R Q
      refine w_st rfl (fun _ => rfl) ?_
      show w_T L xs (d + 3) m_X12_factor 1 [(0, .ref 100)] [.ref 100] (p_S S0 (pl + 1) cs (sk + 1) cl b17 nc (upd sg sk (p_h S0 pl)) ov bh o17 na) R Q
      refine w_cv rfl (by decide) mt_X12_isGood v_tyM rfl rfl rfl (Nat.le_of_ble_eq_true rfl) (Nat.le_of_ble_eq_true rfl) (Nat.le_of_ble_eq_true rfl) ?_
      show w_T L xs _ m_X12_isGood 0 (lv_args 0 [.ref 100]) [] (p_S S0 (pl + 1) cs (sk + 1) cl b17 nc (upd sg sk (p_h S0 pl)) ov bh o17 na) R _
      refine h_isGF hb17 ?_
      show w_T L xs (d + 3) m_X12_factor 4 [(0, .ref 100)] [.int (Int32.ofInt 0)] (p_S S0 (pl + 1) cs (sk + 1) cl b17 nc (upd sg sk (p_h S0 pl)) ov bh o17 na) R Q
      refine w_st rfl (fun _ => rfl) ?_
      refine w_st rfl (fun _ => rfl) ?_
      show w_T L xs (d + 3) m_X12_factor 24 [(0, .ref 100)] [.ref 100] (p_S S0 (pl + 1) cs (sk + 1) cl b17 nc (upd sg sk (p_h S0 pl)) ov bh o17 na) R Q
      refine w_cv rfl (by decide) mt_X12_isGood v_tyM rfl rfl rfl (Nat.le_of_ble_eq_true rfl) (Nat.le_of_ble_eq_true rfl) (Nat.le_of_ble_eq_true rfl) ?_
      show w_T L xs _ m_X12_isGood 0 (lv_args 0 [.ref 100]) [] (p_S S0 (pl + 1) cs (sk + 1) cl b17 nc (upd sg sk (p_h S0 pl)) ov bh o17 na) R _
      refine h_isGF hb17 ?_
      show w_T L xs (d + 3) m_X12_factor 27 [(0, .ref 100)] [.int (Int32.ofInt 0)] (p_S S0 (pl + 1) cs (sk + 1) cl b17 nc (upd sg sk (p_h S0 pl)) ov bh o17 na) R Q
      refine w_st rfl (fun _ => rfl) ?_
      show w_T L xs (d + 3) m_X12_factor 30 [(0, .ref 100)] [] (p_S S0 (pl + 1) cs (sk + 1) cl b17 nc (upd sg sk (p_h S0 pl)) ov bh o17 na) R Q
      refine w_ret rfl rfl ?_
      exact Kb _ _ _ _ _ _ _ _ hb17 (by omega) (by omega)
theorem h_factor (q b : Nat) (nc0 sg0 : Nat → Int32) (he : (S0 99 4).toInt ≤ 240) : ∀ (n pl sk : Nat) (sg : Nat → Int32) (op : Int32), 240 ≤ pl + n → p_I q nc0 cs sk nc sg 0 → p_V b sg0 sk sg → cs + sk ≤ pl → pl ≤ 240 → (∀ (pl' cs' sk' : Nat) (nc' sg' na' : Nat → Int32) (o : Int32), pl < pl' → p_I q nc0 cs' sk' nc' sg' 1 → p_V b sg0 sk' sg' → cs' + sk' ≤ pl' → pl' ≤ 240 → Q none (p_S S0 (pl') (cs') (sk') cl (Int32.ofInt 0) (nc') (sg') ov bh o (na')) R) → (∀ (pl' cs' sk' : Nat) (b' : Int32) (nc' sg' na' : Nat → Int32) (o : Int32), b'.toInt < 0 → cs' + sk' ≤ pl' → pl' ≤ 240 → Q none (p_S S0 (pl') (cs') (sk') cl (b') (nc') (sg') ov bh o (na')) R) → w_T L xs (d + 3) m_X12_factor 0 (lv_args 0 [.ref 100]) [] (p_S S0 pl cs sk cl (Int32.ofInt 0) nc sg ov bh op na) R Q := by
  intro n
  induction n with
  | zero =>
    intro pl sk sg op hn hI hV hb hp Kg Kb
    exact h_faS he hI hV hb hp (fun _ h _ _ => absurd h (by omega)) Kg Kb
  | succ n ih =>
    intro pl sk sg op hn hI hV hb hp Kg Kb
    exact h_faS he hI hV hb hp (fun o h h1 h2 => ih (pl + 1) (sk + 1) _ o (by omega) h1 h2 (by omega) (by omega) (fun pl' cs' sk' nc' sg' na' o' l => Kg pl' cs' sk' nc' sg' na' o' (by omega)) Kb) Kg Kb
theorem h_stays {q b : Nat} {nc0 sg0 : Nat → Int32} (he : (S0 99 4).toInt ≤ 240) (hI : p_I q nc0 cs sk nc sg 1) (hV : p_V b sg0 sk sg) (hb : cs + sk ≤ pl) (hp : pl ≤ 240) (K1 : ∀ (cs' sk' : Nat) (nc' sg' na' : Nat → Int32), p_I q nc0 cs' sk' nc' sg' 0 → p_V b sg0 sk' sg' → cs' + sk' ≤ pl + 1 → pl + 1 ≤ 240 → Q (some (.int (Int32.ofInt 1))) (p_S S0 (pl + 1) (cs') (sk') cl (Int32.ofInt 0) (nc') (sg') ov false op (na')) R) (K2 : ∀ (cs' sk' : Nat) (nc' na' : Nat → Int32) (o : Int32), p_I q nc0 cs' sk' nc' sg 1 → p_V b sg0 sk' sg → cs' + sk' ≤ pl + 1 → pl + 1 ≤ 240 → Q (some (.int (Int32.ofInt 1))) (p_S S0 (pl + 1) (cs') (sk') cl (Int32.ofInt 0) (nc') sg ov true o (na')) R) (K3 : ∀ (cs' sk' : Nat) (nc' na' : Nat → Int32), p_I q nc0 cs' sk' nc' sg 1 → p_V b sg0 sk' sg → cs' + sk' ≤ pl → ¬ p_ti (p_tp sg sk') → ¬ p_pl (p_tp sg sk') → Q (some (.int (Int32.ofInt 0))) (p_S S0 pl (cs') (sk') cl (Int32.ofInt 0) (nc') sg ov false op (na')) R) (Kb : ∀ (cs' sk' : Nat) (b' : Int32) (nc' na' : Nat → Int32), b'.toInt < 0 → cs' + sk' ≤ pl → Q (some (.int (Int32.ofInt 0))) (p_S S0 pl (cs') (sk') cl (b') (nc') sg ov false op (na')) R) : w_T L xs (d + 3) m_X12_stays 0 (lv_args 0 [.ref 100]) [] (p_S S0 pl cs sk cl (Int32.ofInt 0) nc sg ov false op na) R Q := by
  refine w_st rfl (fun _ => rfl) ?_
  show w_T L xs (d + 3) m_X12_stays 1 [(0, .ref 100)] [.ref 100] (p_S S0 pl cs sk cl (Int32.ofInt 0) nc sg ov false op na) R Q
  refine w_cv rfl (by decide) mt_X12_here v_tyM rfl rfl rfl (Nat.le_of_ble_eq_true rfl) (Nat.le_of_ble_eq_true rfl) (Nat.le_of_ble_eq_true rfl) ?_
  show w_T L xs _ m_X12_here 0 (lv_args 0 [.ref 100]) [] (p_S S0 pl cs sk cl (Int32.ofInt 0) nc sg ov false op na) R _
  refine h_here (by omega) ?_
  refine w_st rfl (fun _ => rfl) ?_
  refine w_st rfl (fun _ => rfl) ?_
  show w_T L xs (d + 3) m_X12_stays 6 [(1, .int (p_h S0 pl)), (0, .ref 100)] [.int (p_h S0 pl)] (p_S S0 pl cs sk cl (Int32.ofInt 0) nc sg ov false op na) R Q
  refine w_cs rfl (by decide) mt_X12_isTimes (fun _ => rfl) (Nat.le_of_ble_eq_true rfl) (Nat.le_of_ble_eq_true rfl) ?_
  show w_T L xs _ m_X12_isTimes 0 (lv_args 0 [.int (p_h S0 pl)]) [] (p_S S0 pl cs sk cl (Int32.ofInt 0) nc sg ov false op na) R _
  refine h_isTimes _ (fun c6 => ?_) (fun c6 => ?_)
  · have hlt := p_h_lt (fun e => p_ti0 (e ▸ c6))
    have hbi := p_bi_ti c6
    have hvs : p_vs (p_h S0 pl) := Or.inl c6
    show w_T L xs (d + 3) m_X12_stays 9 [(1, .int (p_h S0 pl)), (0, .ref 100)] [.int (Int32.ofInt 1)] (p_S S0 pl cs sk cl (Int32.ofInt 0) nc sg ov false op na) R Q
    refine w_st rfl (fun _ => rfl) ?_
    refine w_st rfl (fun _ => rfl) ?_
    refine w_st rfl (fun _ => rfl) ?_
    show w_T L xs (d + 3) m_X12_stays 21 [(1, .int (p_h S0 pl)), (0, .ref 100)] [.int (p_h S0 pl), .ref 100] (p_S S0 pl cs sk cl (Int32.ofInt 0) nc sg ov false op na) R Q
    refine w_cs rfl (by decide) mt_X12_isPlus (fun _ => rfl) (Nat.le_of_ble_eq_true rfl) (Nat.le_of_ble_eq_true rfl) ?_
    show w_T L xs _ m_X12_isPlus 0 (lv_args 0 [.int (p_h S0 pl)]) [] (p_S S0 pl cs sk cl (Int32.ofInt 0) nc sg ov false op na) R _
    refine h_isPlus _ (fun c21 => ?_) (fun c21 => ?_)
    · show w_T L xs (d + 3) m_X12_stays 24 [(1, .int (p_h S0 pl)), (0, .ref 100)] [.int (Int32.ofInt 1), .ref 100] (p_S S0 pl cs sk cl (Int32.ofInt 0) nc sg ov false op na) R Q
      refine w_cv rfl (by decide) mt_X12_sums v_tyM rfl rfl rfl (Nat.le_of_ble_eq_true rfl) (Nat.le_of_ble_eq_true rfl) (Nat.le_of_ble_eq_true rfl) ?_
      show w_T L xs _ m_X12_sums 0 (lv_args 0 [.ref 100, .int (Int32.ofInt 1)]) [] (p_S S0 pl cs sk cl (Int32.ofInt 0) nc sg ov false op na) R _
      refine h_sums _ q b nc0 sg0 hp sk sk cs nc na (Nat.le_refl _) hI hV hb (fun sk1 cs1 nc1 na1 hI1 hV1 hb1 ht1 hp1 => ?_)
      refine w_st rfl (fun _ => rfl) ?_
      refine w_st rfl (fun _ => rfl) ?_
      show w_T L xs (d + 3) m_X12_stays 29 [(1, .int (p_h S0 pl)), (0, .ref 100)] [.int (p_h S0 pl), .ref 100] (p_S S0 pl cs1 sk1 cl (Int32.ofInt 0) nc1 sg ov false op na1) R Q
      refine w_cv rfl (by decide) mt_X12_puts v_tyM rfl rfl rfl (Nat.le_of_ble_eq_true rfl) (Nat.le_of_ble_eq_true rfl) (Nat.le_of_ble_eq_true rfl) ?_
      show w_T L xs _ m_X12_puts 0 (lv_args 0 [.ref 100, .int (p_h S0 pl)]) [] (p_S S0 pl cs1 sk1 cl (Int32.ofInt 0) nc1 sg ov false op na1) R _
      refine h_puts (by omega) (by omega) ?_
      refine w_st rfl (fun _ => rfl) ?_
      show w_T L xs (d + 3) m_X12_stays 33 [(1, .int (p_h S0 pl)), (0, .ref 100)] [.int (Int32.ofInt 1)] (p_S S0 (pl + 1) cs1 (sk1 + 1) cl (Int32.ofInt 0) nc1 (upd sg sk1 (p_h S0 pl)) ov false op na1) R Q
      refine w_ret rfl (by rfl) ?_
      exact K1 _ _ _ _ _ (p_I_pb hI1 hbi) (p_V_psh hV1 hvs) (by omega) (by omega)
    · show w_T L xs (d + 3) m_X12_stays 24 [(1, .int (p_h S0 pl)), (0, .ref 100)] [.int (Int32.ofInt 0), .ref 100] (p_S S0 pl cs sk cl (Int32.ofInt 0) nc sg ov false op na) R Q
      refine w_cv rfl (by decide) mt_X12_sums v_tyM rfl rfl rfl (Nat.le_of_ble_eq_true rfl) (Nat.le_of_ble_eq_true rfl) (Nat.le_of_ble_eq_true rfl) ?_
      show w_T L xs _ m_X12_sums 0 (lv_args 0 [.ref 100, .int (Int32.ofInt 0)]) [] (p_S S0 pl cs sk cl (Int32.ofInt 0) nc sg ov false op na) R _
      refine h_sums _ q b nc0 sg0 hp sk sk cs nc na (Nat.le_refl _) hI hV hb (fun sk1 cs1 nc1 na1 hI1 hV1 hb1 ht1 hp1 => ?_)
      refine w_st rfl (fun _ => rfl) ?_
      refine w_st rfl (fun _ => rfl) ?_
      show w_T L xs (d + 3) m_X12_stays 29 [(1, .int (p_h S0 pl)), (0, .ref 100)] [.int (p_h S0 pl), .ref 100] (p_S S0 pl cs1 sk1 cl (Int32.ofInt 0) nc1 sg ov false op na1) R Q
      refine w_cv rfl (by decide) mt_X12_puts v_tyM rfl rfl rfl (Nat.le_of_ble_eq_true rfl) (Nat.le_of_ble_eq_true rfl) (Nat.le_of_ble_eq_true rfl) ?_
      show w_T L xs _ m_X12_puts 0 (lv_args 0 [.ref 100, .int (p_h S0 pl)]) [] (p_S S0 pl cs1 sk1 cl (Int32.ofInt 0) nc1 sg ov false op na1) R _
      refine h_puts (by omega) (by omega) ?_
      refine w_st rfl (fun _ => rfl) ?_
      show w_T L xs (d + 3) m_X12_stays 33 [(1, .int (p_h S0 pl)), (0, .ref 100)] [.int (Int32.ofInt 1)] (p_S S0 (pl + 1) cs1 (sk1 + 1) cl (Int32.ofInt 0) nc1 (upd sg sk1 (p_h S0 pl)) ov false op na1) R Q
      refine w_ret rfl (by rfl) ?_
      exact K1 _ _ _ _ _ (p_I_pb hI1 hbi) (p_V_psh hV1 hvs) (by omega) (by omega)
  · show w_T L xs (d + 3) m_X12_stays 9 [(1, .int (p_h S0 pl)), (0, .ref 100)] [.int (Int32.ofInt 0)] (p_S S0 pl cs sk cl (Int32.ofInt 0) nc sg ov false op na) R Q
    refine w_st rfl (fun _ => rfl) ?_
    refine w_st rfl (fun _ => rfl) ?_
    show w_T L xs (d + 3) m_X12_stays 13 [(1, .int (p_h S0 pl)), (0, .ref 100)] [.int (p_h S0 pl)] (p_S S0 pl cs sk cl (Int32.ofInt 0) nc sg ov false op na) R Q
    refine w_cs rfl (by decide) mt_X12_isPlus (fun _ => rfl) (Nat.le_of_ble_eq_true rfl) (Nat.le_of_ble_eq_true rfl) ?_
    show w_T L xs _ m_X12_isPlus 0 (lv_args 0 [.int (p_h S0 pl)]) [] (p_S S0 pl cs sk cl (Int32.ofInt 0) nc sg ov false op na) R _
    refine h_isPlus _ (fun c13 => ?_) (fun c13 => ?_)
    · have hlt := p_h_lt (fun e => p_pl0 (e ▸ c13))
      have hbi := p_bi_pl c13
      have hvs : p_vs (p_h S0 pl) := Or.inr (Or.inl c13)
      show w_T L xs (d + 3) m_X12_stays 16 [(1, .int (p_h S0 pl)), (0, .ref 100)] [.int (Int32.ofInt 1)] (p_S S0 pl cs sk cl (Int32.ofInt 0) nc sg ov false op na) R Q
      refine w_st rfl (fun _ => rfl) ?_
      refine w_st rfl (fun _ => rfl) ?_
      refine w_st rfl (fun _ => rfl) ?_
      show w_T L xs (d + 3) m_X12_stays 21 [(1, .int (p_h S0 pl)), (0, .ref 100)] [.int (p_h S0 pl), .ref 100] (p_S S0 pl cs sk cl (Int32.ofInt 0) nc sg ov false op na) R Q
      refine w_cs rfl (by decide) mt_X12_isPlus (fun _ => rfl) (Nat.le_of_ble_eq_true rfl) (Nat.le_of_ble_eq_true rfl) ?_
      show w_T L xs _ m_X12_isPlus 0 (lv_args 0 [.int (p_h S0 pl)]) [] (p_S S0 pl cs sk cl (Int32.ofInt 0) nc sg ov false op na) R _
      refine h_isPlus _ (fun c21 => ?_) (fun c21 => ?_)
      · show w_T L xs (d + 3) m_X12_stays 24 [(1, .int (p_h S0 pl)), (0, .ref 100)] [.int (Int32.ofInt 1), .ref 100] (p_S S0 pl cs sk cl (Int32.ofInt 0) nc sg ov false op na) R Q
        refine w_cv rfl (by decide) mt_X12_sums v_tyM rfl rfl rfl (Nat.le_of_ble_eq_true rfl) (Nat.le_of_ble_eq_true rfl) (Nat.le_of_ble_eq_true rfl) ?_
        show w_T L xs _ m_X12_sums 0 (lv_args 0 [.ref 100, .int (Int32.ofInt 1)]) [] (p_S S0 pl cs sk cl (Int32.ofInt 0) nc sg ov false op na) R _
        refine h_sums _ q b nc0 sg0 hp sk sk cs nc na (Nat.le_refl _) hI hV hb (fun sk1 cs1 nc1 na1 hI1 hV1 hb1 ht1 hp1 => ?_)
        refine w_st rfl (fun _ => rfl) ?_
        refine w_st rfl (fun _ => rfl) ?_
        show w_T L xs (d + 3) m_X12_stays 29 [(1, .int (p_h S0 pl)), (0, .ref 100)] [.int (p_h S0 pl), .ref 100] (p_S S0 pl cs1 sk1 cl (Int32.ofInt 0) nc1 sg ov false op na1) R Q
        refine w_cv rfl (by decide) mt_X12_puts v_tyM rfl rfl rfl (Nat.le_of_ble_eq_true rfl) (Nat.le_of_ble_eq_true rfl) (Nat.le_of_ble_eq_true rfl) ?_
        show w_T L xs _ m_X12_puts 0 (lv_args 0 [.ref 100, .int (p_h S0 pl)]) [] (p_S S0 pl cs1 sk1 cl (Int32.ofInt 0) nc1 sg ov false op na1) R _
        refine h_puts (by omega) (by omega) ?_
        refine w_st rfl (fun _ => rfl) ?_
        show w_T L xs (d + 3) m_X12_stays 33 [(1, .int (p_h S0 pl)), (0, .ref 100)] [.int (Int32.ofInt 1)] (p_S S0 (pl + 1) cs1 (sk1 + 1) cl (Int32.ofInt 0) nc1 (upd sg sk1 (p_h S0 pl)) ov false op na1) R Q
        refine w_ret rfl (by rfl) ?_
        exact K1 _ _ _ _ _ (p_I_pb hI1 hbi) (p_V_psh hV1 hvs) (by omega) (by omega)
      · show w_T L xs (d + 3) m_X12_stays 24 [(1, .int (p_h S0 pl)), (0, .ref 100)] [.int (Int32.ofInt 0), .ref 100] (p_S S0 pl cs sk cl (Int32.ofInt 0) nc sg ov false op na) R Q
        refine w_cv rfl (by decide) mt_X12_sums v_tyM rfl rfl rfl (Nat.le_of_ble_eq_true rfl) (Nat.le_of_ble_eq_true rfl) (Nat.le_of_ble_eq_true rfl) ?_
        show w_T L xs _ m_X12_sums 0 (lv_args 0 [.ref 100, .int (Int32.ofInt 0)]) [] (p_S S0 pl cs sk cl (Int32.ofInt 0) nc sg ov false op na) R _
        refine h_sums _ q b nc0 sg0 hp sk sk cs nc na (Nat.le_refl _) hI hV hb (fun sk1 cs1 nc1 na1 hI1 hV1 hb1 ht1 hp1 => ?_)
        refine w_st rfl (fun _ => rfl) ?_
        refine w_st rfl (fun _ => rfl) ?_
        show w_T L xs (d + 3) m_X12_stays 29 [(1, .int (p_h S0 pl)), (0, .ref 100)] [.int (p_h S0 pl), .ref 100] (p_S S0 pl cs1 sk1 cl (Int32.ofInt 0) nc1 sg ov false op na1) R Q
        refine w_cv rfl (by decide) mt_X12_puts v_tyM rfl rfl rfl (Nat.le_of_ble_eq_true rfl) (Nat.le_of_ble_eq_true rfl) (Nat.le_of_ble_eq_true rfl) ?_
        show w_T L xs _ m_X12_puts 0 (lv_args 0 [.ref 100, .int (p_h S0 pl)]) [] (p_S S0 pl cs1 sk1 cl (Int32.ofInt 0) nc1 sg ov false op na1) R _
        refine h_puts (by omega) (by omega) ?_
        refine w_st rfl (fun _ => rfl) ?_
        show w_T L xs (d + 3) m_X12_stays 33 [(1, .int (p_h S0 pl)), (0, .ref 100)] [.int (Int32.ofInt 1)] (p_S S0 (pl + 1) cs1 (sk1 + 1) cl (Int32.ofInt 0) nc1 (upd sg sk1 (p_h S0 pl)) ov false op na1) R Q
        refine w_ret rfl (by rfl) ?_
        exact K1 _ _ _ _ _ (p_I_pb hI1 hbi) (p_V_psh hV1 hvs) (by omega) (by omega)
    · show w_T L xs (d + 3) m_X12_stays 16 [(1, .int (p_h S0 pl)), (0, .ref 100)] [.int (Int32.ofInt 0)] (p_S S0 pl cs sk cl (Int32.ofInt 0) nc sg ov false op na) R Q
      refine w_st rfl (fun _ => rfl) ?_
      refine w_st rfl (fun _ => rfl) ?_
      refine w_st rfl (fun _ => rfl) ?_
      show w_T L xs (d + 3) m_X12_stays 36 [(1, .int (p_h S0 pl)), (0, .ref 100)] [.int (Int32.ofInt 1), .ref 100] (p_S S0 pl cs sk cl (Int32.ofInt 0) nc sg ov false op na) R Q
      refine w_cv rfl (by decide) mt_X12_sums v_tyM rfl rfl rfl (Nat.le_of_ble_eq_true rfl) (Nat.le_of_ble_eq_true rfl) (Nat.le_of_ble_eq_true rfl) ?_
      show w_T L xs _ m_X12_sums 0 (lv_args 0 [.ref 100, .int (Int32.ofInt 1)]) [] (p_S S0 pl cs sk cl (Int32.ofInt 0) nc sg ov false op na) R _
      refine h_sums _ q b nc0 sg0 hp sk sk cs nc na (Nat.le_refl _) hI hV hb (fun sk1 cs1 nc1 na1 hI1 hV1 hb1 ht1 hp1 => ?_)
      refine w_st rfl (fun _ => rfl) ?_
      refine w_st rfl (fun _ => rfl) ?_
      show w_T L xs (d + 3) m_X12_stays 42 [(1, .int (p_h S0 pl)), (0, .ref 100)] [.int (Int32.ofInt 93), .int (p_h S0 pl)] (p_S S0 pl cs1 sk1 cl (Int32.ofInt 0) nc1 sg ov false op na1) R Q
      refine w_br (P := (p_h S0 pl) = (Int32.ofInt 93)) rfl (fun _ => rfl) (fun h42 => ?_) (fun h42 => ?_)
      · have hlt := p_h_lt (S0 := S0) (pl := pl) (by rw [h42]; decide)
        refine w_st rfl (fun _ => rfl) ?_
        show w_T L xs (d + 3) m_X12_stays 48 [(1, .int (p_h S0 pl)), (0, .ref 100)] [.ref 100] (p_S S0 pl cs1 sk1 cl (Int32.ofInt 0) nc1 sg ov false op na1) R Q
        refine w_cv rfl (by decide) mt_X12_top v_tyM rfl rfl rfl (Nat.le_of_ble_eq_true rfl) (Nat.le_of_ble_eq_true rfl) (Nat.le_of_ble_eq_true rfl) ?_
        show w_T L xs _ m_X12_top 0 (lv_args 0 [.ref 100]) [] (p_S S0 pl cs1 sk1 cl (Int32.ofInt 0) nc1 sg ov false op na1) R _
        refine h_top (by omega) ?_
        refine w_st rfl (fun _ => rfl) ?_
        show w_T L xs (d + 3) m_X12_stays 53 [(1, .int (p_h S0 pl)), (0, .ref 100)] [.int (Int32.ofInt 91), .int (p_tp sg sk1)] (p_S S0 pl cs1 sk1 cl (Int32.ofInt 0) nc1 sg ov false op na1) R Q
        refine w_br (P := (p_tp sg sk1) = (Int32.ofInt 91)) rfl (fun _ => rfl) (fun h53 => ?_) (fun h53 => ?_)
        · have hbk := p_V_top hV1 (Or.inr (Or.inr h53))
          refine w_st rfl (fun _ => rfl) ?_
          refine w_st rfl (fun _ => rfl) ?_
          show w_T L xs (d + 3) m_X12_stays 69 [(1, .int (p_h S0 pl)), (0, .ref 100)] [.ref 100, .ref 100] (p_S S0 pl cs1 sk1 cl (Int32.ofInt 0) nc1 sg ov false op na1) R Q
          refine w_get rfl v_tyM rfl ?_
          refine w_st rfl (fun _ => rfl) ?_
          refine w_st rfl (fun _ => rfl) ?_
          show w_T L xs (d + 3) m_X12_stays 74 [(1, .int (p_h S0 pl)), (0, .ref 100)] [.int ((Int32.ofInt (sk1 : Int)) - (Int32.ofInt 1)), .ref 100] (p_S S0 pl cs1 sk1 cl (Int32.ofInt 0) nc1 sg ov false op na1) R Q
          refine w_put rfl v_tyM rfl rfl rfl ?_
          refine w_eqS (p_wsk (w_dec2 (by omega))) ?_
          refine w_st rfl (fun _ => rfl) ?_
          refine w_st rfl (fun _ => rfl) ?_
          show w_T L xs (d + 3) m_X12_stays 79 [(1, .int (p_h S0 pl)), (0, .ref 100)] [.ref 100, .ref 100] (p_S S0 pl cs1 (sk1 - 1) cl (Int32.ofInt 0) nc1 sg ov false op na1) R Q
          refine w_get rfl v_tyM rfl ?_
          refine w_st rfl (fun _ => rfl) ?_
          refine w_st rfl (fun _ => rfl) ?_
          show w_T L xs (d + 3) m_X12_stays 84 [(1, .int (p_h S0 pl)), (0, .ref 100)] [.int (op - (Int32.ofInt 1)), .ref 100] (p_S S0 pl cs1 (sk1 - 1) cl (Int32.ofInt 0) nc1 sg ov false op na1) R Q
          refine w_put rfl v_tyM rfl rfl rfl ?_
          refine w_eqS p_wop ?_
          refine w_st rfl (fun _ => rfl) ?_
          refine w_st rfl (fun _ => rfl) ?_
          show w_T L xs (d + 3) m_X12_stays 89 [(1, .int (p_h S0 pl)), (0, .ref 100)] [.ref 100, .ref 100] (p_S S0 pl cs1 (sk1 - 1) cl (Int32.ofInt 0) nc1 sg ov false (op - (Int32.ofInt 1)) na1) R Q
          refine w_get rfl v_tyM rfl ?_
          refine w_st rfl (fun _ => rfl) ?_
          refine w_st rfl (fun _ => rfl) ?_
          show w_T L xs (d + 3) m_X12_stays 94 [(1, .int (p_h S0 pl)), (0, .ref 100)] [.int ((Int32.ofInt (pl : Int)) + (Int32.ofInt 1)), .ref 100] (p_S S0 pl cs1 (sk1 - 1) cl (Int32.ofInt 0) nc1 sg ov false (op - (Int32.ofInt 1)) na1) R Q
          refine w_put rfl v_tyM rfl rfl rfl ?_
          refine w_eqS (p_wpl (w_inc _)) ?_
          refine w_st rfl (fun _ => rfl) ?_
          refine w_st rfl (fun _ => rfl) ?_
          show w_T L xs (d + 3) m_X12_stays 99 [(1, .int (p_h S0 pl)), (0, .ref 100)] [.int (Int32.ofInt 1), .ref 100] (p_S S0 (pl + 1) cs1 (sk1 - 1) cl (Int32.ofInt 0) nc1 sg ov false (op - (Int32.ofInt 1)) na1) R Q
          refine w_put rfl v_tyM rfl rfl rfl ?_
          refine w_eqS (p_wbh (b := true) rfl) ?_
          refine w_st rfl (fun _ => rfl) ?_
          show w_T L xs (d + 3) m_X12_stays 103 [(1, .int (p_h S0 pl)), (0, .ref 100)] [.int (Int32.ofInt 1)] (p_S S0 (pl + 1) cs1 (sk1 - 1) cl (Int32.ofInt 0) nc1 sg ov true (op - (Int32.ofInt 1)) na1) R Q
          refine w_ret rfl (by rfl) ?_
          exact K2 _ _ _ _ _ (p_I_dn hI1 (by omega) (by rw [(p_tp_pos h53 (by decide)).2]; decide)) (p_V_pop hV1 hbk) (by omega) (by omega)
        · refine w_st rfl (fun _ => rfl) ?_
          refine w_st rfl (fun _ => rfl) ?_
          refine w_st rfl (fun _ => rfl) ?_
          show w_T L xs (d + 3) m_X12_stays 59 [(1, .int (p_h S0 pl)), (0, .ref 100)] [.ref 100, .int (Int32.ofInt 1), .ref 100] (p_S S0 pl cs1 sk1 cl (Int32.ofInt 0) nc1 sg ov false op na1) R Q
          refine w_get rfl v_tyM rfl ?_
          show w_T L xs (d + 3) m_X12_stays 62 [(1, .int (p_h S0 pl)), (0, .ref 100)] [.int (Int32.ofInt (pl : Int)), .int (Int32.ofInt 1), .ref 100] (p_S S0 pl cs1 sk1 cl (Int32.ofInt 0) nc1 sg ov false op na1) R Q
          refine w_cv rfl (by decide) mt_X12_wrongs v_tyM rfl rfl rfl (Nat.le_of_ble_eq_true rfl) (Nat.le_of_ble_eq_true rfl) (Nat.le_of_ble_eq_true rfl) ?_
          show w_T L xs _ m_X12_wrongs 0 (lv_args 0 [.ref 100, .int (Int32.ofInt 1), .int (Int32.ofInt (pl : Int))]) [] (p_S S0 pl cs1 sk1 cl (Int32.ofInt 0) nc1 sg ov false op na1) R _
          refine h_wr (by decide) (by decide) (by rw [w_nat (by omega)]; omega) (by rw [w_nat (by omega)]; omega) (fun b62 hb62 => ?_)
          refine w_st rfl (fun _ => rfl) ?_
          show w_T L xs (d + 3) m_X12_stays 66 [(1, .int (p_h S0 pl)), (0, .ref 100)] [.int (Int32.ofInt 0)] (p_S S0 pl cs1 sk1 cl b62 nc1 sg ov false op na1) R Q
          refine w_ret rfl (by rfl) ?_
          exact Kb _ _ _ _ _ hb62 (by omega)
      · refine w_st rfl (fun _ => rfl) ?_
        show w_T L xs (d + 3) m_X12_stays 46 [(1, .int (p_h S0 pl)), (0, .ref 100)] [.int (Int32.ofInt 0)] (p_S S0 pl cs1 sk1 cl (Int32.ofInt 0) nc1 sg ov false op na1) R Q
        refine w_ret rfl (by rfl) ?_
        exact K3 _ _ _ _ hI1 hV1 hb1 ht1 (hp1 (by decide))
theorem h_vT {q b pl0 : Nat} {nc0 sg0 : Nat → Int32} (he : (S0 99 4).toInt ≤ 240) (hI : p_I q nc0 cs sk nc sg 1) (hV : p_V b sg0 sk sg) (hb : cs + sk ≤ pl) (hp : pl ≤ 240) (hgt : pl0 < pl) (K7 : ∀ (pl' cs' sk' : Nat) (nc' sg' na' : Nat → Int32) (o : Int32) (h' : Bool), pl < pl' → p_I q nc0 cs' sk' nc' sg' (bif h' then 1 else 0) → p_V b sg0 sk' sg' → cs' + sk' ≤ pl' → pl' ≤ 240 → w_T L xs (d + 4) m_X12_value 7 [(1, .int (Int32.ofInt 1)), (0, .ref 100)] [] (p_S S0 (pl') (cs') (sk') cl (Int32.ofInt 0) (nc') (sg') ov (h') o (na')) R Q) (Kg : ∀ (pl' cs' : Nat) (nc' sg' na' : Nat → Int32) (o : Int32) (h' : Bool), pl0 < pl' → p_I q nc0 cs' b nc' sg' 1 → (∀ k, k < b → sg' k = sg0 k) → cs' + b ≤ pl' → pl' ≤ 240 → Q none (p_S S0 (pl') (cs') b cl (Int32.ofInt 0) (nc') (sg') ov (h') o (na')) R) (Kb : ∀ (pl' cs' sk' : Nat) (b' : Int32) (nc' sg' na' : Nat → Int32) (o : Int32) (h' : Bool), b'.toInt < 0 → cs' + sk' ≤ pl' → pl' ≤ 240 → Q none (p_S S0 (pl') (cs') (sk') cl (b') (nc') (sg') ov (h') o (na')) R) : w_T L xs (d + 4) m_X12_value 29 [(1, .int (Int32.ofInt 1)), (0, .ref 100)] [] (p_S S0 pl cs sk cl (Int32.ofInt 0) nc sg ov bh op na) R Q := by
  refine w_st rfl (fun _ => rfl) ?_
  refine w_st rfl (fun _ => rfl) ?_
  show w_T L xs (d + 4) m_X12_value 31 [(1, .int (Int32.ofInt 1)), (0, .ref 100)] [.int (Int32.ofInt 0), .ref 100] (p_S S0 pl cs sk cl (Int32.ofInt 0) nc sg ov bh op na) R Q
  refine w_put rfl v_tyM rfl rfl rfl ?_
  refine w_eqS (p_wbh (b := false) rfl) ?_
  refine w_st rfl (fun _ => rfl) ?_
  show w_T L xs (d + 4) m_X12_value 35 [(1, .int (Int32.ofInt 1)), (0, .ref 100)] [.ref 100] (p_S S0 pl cs sk cl (Int32.ofInt 0) nc sg ov false op na) R Q
  refine w_cv rfl (by decide) mt_X12_isGood v_tyM rfl rfl rfl (Nat.le_of_ble_eq_true rfl) (Nat.le_of_ble_eq_true rfl) (Nat.le_of_ble_eq_true rfl) ?_
  show w_T L xs _ m_X12_isGood 0 (lv_args 0 [.ref 100]) [] (p_S S0 pl cs sk cl (Int32.ofInt 0) nc sg ov false op na) R _
  refine h_isGT ?_
  show w_T L xs (d + 4) m_X12_value 38 [(1, .int (Int32.ofInt 1)), (0, .ref 100)] [.int (Int32.ofInt 1)] (p_S S0 pl cs sk cl (Int32.ofInt 0) nc sg ov false op na) R Q
  refine w_st rfl (fun _ => rfl) ?_
  refine w_st rfl (fun _ => rfl) ?_
  show w_T L xs (d + 4) m_X12_value 42 [(1, .int (Int32.ofInt 1)), (0, .ref 100)] [.ref 100] (p_S S0 pl cs sk cl (Int32.ofInt 0) nc sg ov false op na) R Q
  refine w_cv rfl (by decide) mt_X12_stays v_tyM rfl rfl rfl (Nat.le_of_ble_eq_true rfl) (Nat.le_of_ble_eq_true rfl) (Nat.le_of_ble_eq_true rfl) ?_
  show w_T L xs _ m_X12_stays 0 (lv_args 0 [.ref 100]) [] (p_S S0 pl cs sk cl (Int32.ofInt 0) nc sg ov false op na) R _
  refine h_stays he hI hV hb hp (fun cs1 sk1 nc1 sg1 na1 i1 i2 i3 i4 => ?_) (fun cs1 sk1 nc1 na1 o1 i1 i2 i3 i4 => ?_) (fun cs1 sk1 nc1 na1 i1 i2 i3 i4 i5 => ?_) (fun cs1 sk1 b42 nc1 na1 hb42 i3 => ?_)
  · show w_T L xs (d + 4) m_X12_value 45 [(1, .int (Int32.ofInt 1)), (0, .ref 100)] [.int (Int32.ofInt 1)] (p_S S0 (pl + 1) cs1 sk1 cl (Int32.ofInt 0) nc1 sg1 ov false op na1) R Q
    refine w_st rfl (fun _ => rfl) ?_
    refine w_st rfl (fun _ => rfl) ?_
    refine w_st rfl (fun _ => rfl) ?_
    refine w_st rfl (fun _ => rfl) ?_
    refine w_st rfl (fun _ => rfl) ?_
    show w_T L xs (d + 4) m_X12_value 7 [(1, .int (Int32.ofInt 1)), (0, .ref 100)] [] (p_S S0 (pl + 1) cs1 sk1 cl (Int32.ofInt 0) nc1 sg1 ov false op na1) R Q
    exact K7 _ _ _ _ _ _ _ false (by omega) i1 i2 i3 i4
  · show w_T L xs (d + 4) m_X12_value 45 [(1, .int (Int32.ofInt 1)), (0, .ref 100)] [.int (Int32.ofInt 1)] (p_S S0 (pl + 1) cs1 sk1 cl (Int32.ofInt 0) nc1 sg ov true o1 na1) R Q
    refine w_st rfl (fun _ => rfl) ?_
    refine w_st rfl (fun _ => rfl) ?_
    refine w_st rfl (fun _ => rfl) ?_
    refine w_st rfl (fun _ => rfl) ?_
    refine w_st rfl (fun _ => rfl) ?_
    show w_T L xs (d + 4) m_X12_value 7 [(1, .int (Int32.ofInt 1)), (0, .ref 100)] [] (p_S S0 (pl + 1) cs1 sk1 cl (Int32.ofInt 0) nc1 sg ov true o1 na1) R Q
    exact K7 _ _ _ _ _ _ _ true (by omega) i1 i2 i3 i4
  · show w_T L xs (d + 4) m_X12_value 45 [(1, .int (Int32.ofInt 1)), (0, .ref 100)] [.int (Int32.ofInt 0)] (p_S S0 pl cs1 sk1 cl (Int32.ofInt 0) nc1 sg ov false op na1) R Q
    refine w_st rfl (fun _ => rfl) ?_
    refine w_st rfl (fun _ => rfl) ?_
    refine w_st rfl (fun _ => rfl) ?_
    refine w_st rfl (fun _ => rfl) ?_
    show w_T L xs (d + 4) m_X12_value 7 [(1, .int (Int32.ofInt 0)), (0, .ref 100)] [] (p_S S0 pl cs1 sk1 cl (Int32.ofInt 0) nc1 sg ov false op na1) R Q
    refine w_st rfl (fun _ => rfl) ?_
    show w_T L xs (d + 4) m_X12_value 8 [(1, .int (Int32.ofInt 0)), (0, .ref 100)] [.int (Int32.ofInt 0)] (p_S S0 pl cs1 sk1 cl (Int32.ofInt 0) nc1 sg ov false op na1) R Q
    refine w_st rfl (fun _ => rfl) ?_
    refine w_st rfl (fun _ => rfl) ?_
    show w_T L xs (d + 4) m_X12_value 58 [(1, .int (Int32.ofInt 0)), (0, .ref 100)] [.ref 100] (p_S S0 pl cs1 sk1 cl (Int32.ofInt 0) nc1 sg ov false op na1) R Q
    refine w_cv rfl (by decide) mt_X12_isGood v_tyM rfl rfl rfl (Nat.le_of_ble_eq_true rfl) (Nat.le_of_ble_eq_true rfl) (Nat.le_of_ble_eq_true rfl) ?_
    show w_T L xs _ m_X12_isGood 0 (lv_args 0 [.ref 100]) [] (p_S S0 pl cs1 sk1 cl (Int32.ofInt 0) nc1 sg ov false op na1) R _
    refine h_isGT ?_
    show w_T L xs (d + 4) m_X12_value 61 [(1, .int (Int32.ofInt 0)), (0, .ref 100)] [.int (Int32.ofInt 1)] (p_S S0 pl cs1 sk1 cl (Int32.ofInt 0) nc1 sg ov false op na1) R Q
    refine w_st rfl (fun _ => rfl) ?_
    refine w_st rfl (fun _ => rfl) ?_
    show w_T L xs (d + 4) m_X12_value 65 [(1, .int (Int32.ofInt 0)), (0, .ref 100)] [.ref 100] (p_S S0 pl cs1 sk1 cl (Int32.ofInt 0) nc1 sg ov false op na1) R Q
    refine w_cv rfl (by decide) mt_X12_top v_tyM rfl rfl rfl (Nat.le_of_ble_eq_true rfl) (Nat.le_of_ble_eq_true rfl) (Nat.le_of_ble_eq_true rfl) ?_
    show w_T L xs _ m_X12_top 0 (lv_args 0 [.ref 100]) [] (p_S S0 pl cs1 sk1 cl (Int32.ofInt 0) nc1 sg ov false op na1) R _
    refine h_top (by omega) ?_
    refine w_st rfl (fun _ => rfl) ?_
    show w_T L xs (d + 4) m_X12_value 70 [(1, .int (Int32.ofInt 0)), (0, .ref 100)] [.int (Int32.ofInt 91), .int (p_tp sg sk1)] (p_S S0 pl cs1 sk1 cl (Int32.ofInt 0) nc1 sg ov false op na1) R Q
    refine w_br (P := ¬ (p_tp sg sk1) = (Int32.ofInt 91)) rfl (fun _ => rfl) (fun h70 => ?_) (fun h70 => ?_)
    · refine w_ret rfl rfl ?_
      have e := p_V_end i2 (fun hv => by rcases hv with hv | hv | hv; exact i4 hv; exact i5 hv; exact h70 hv)
      subst e
      exact Kg _ _ _ _ _ _ _ hgt i1 i2.2.1 (by omega) (by omega)
    · refine w_st rfl (fun _ => rfl) ?_
      refine w_st rfl (fun _ => rfl) ?_
      refine w_st rfl (fun _ => rfl) ?_
      show w_T L xs (d + 4) m_X12_value 76 [(1, .int (Int32.ofInt 0)), (0, .ref 100)] [.ref 100, .int (Int32.ofInt 1), .ref 100] (p_S S0 pl cs1 sk1 cl (Int32.ofInt 0) nc1 sg ov false op na1) R Q
      refine w_get rfl v_tyM rfl ?_
      show w_T L xs (d + 4) m_X12_value 79 [(1, .int (Int32.ofInt 0)), (0, .ref 100)] [.int (Int32.ofInt (pl : Int)), .int (Int32.ofInt 1), .ref 100] (p_S S0 pl cs1 sk1 cl (Int32.ofInt 0) nc1 sg ov false op na1) R Q
      refine w_cv rfl (by decide) mt_X12_wrongs v_tyM rfl rfl rfl (Nat.le_of_ble_eq_true rfl) (Nat.le_of_ble_eq_true rfl) (Nat.le_of_ble_eq_true rfl) ?_
      show w_T L xs _ m_X12_wrongs 0 (lv_args 0 [.ref 100, .int (Int32.ofInt 1), .int (Int32.ofInt (pl : Int))]) [] (p_S S0 pl cs1 sk1 cl (Int32.ofInt 0) nc1 sg ov false op na1) R _
      refine h_wr (by decide) (by decide) (by rw [w_nat (by omega)]; omega) (by rw [w_nat (by omega)]; omega) (fun b79 hb79 => ?_)
      show w_T L xs (d + 4) m_X12_value 82 [(1, .int (Int32.ofInt 0)), (0, .ref 100)] [] (p_S S0 pl cs1 sk1 cl b79 nc1 sg ov false op na1) R Q
      refine w_ret rfl rfl ?_
      exact Kb _ _ _ _ _ _ _ _ _ hb79 (by omega) (by omega)
  · show w_T L xs (d + 4) m_X12_value 45 [(1, .int (Int32.ofInt 1)), (0, .ref 100)] [.int (Int32.ofInt 0)] (p_S S0 pl cs1 sk1 cl b42 nc1 sg ov false op na1) R Q
    refine w_st rfl (fun _ => rfl) ?_
    refine w_st rfl (fun _ => rfl) ?_
    refine w_st rfl (fun _ => rfl) ?_
    refine w_st rfl (fun _ => rfl) ?_
    show w_T L xs (d + 4) m_X12_value 7 [(1, .int (Int32.ofInt 0)), (0, .ref 100)] [] (p_S S0 pl cs1 sk1 cl b42 nc1 sg ov false op na1) R Q
    refine w_st rfl (fun _ => rfl) ?_
    show w_T L xs (d + 4) m_X12_value 8 [(1, .int (Int32.ofInt 0)), (0, .ref 100)] [.int (Int32.ofInt 0)] (p_S S0 pl cs1 sk1 cl b42 nc1 sg ov false op na1) R Q
    refine w_st rfl (fun _ => rfl) ?_
    refine w_st rfl (fun _ => rfl) ?_
    show w_T L xs (d + 4) m_X12_value 58 [(1, .int (Int32.ofInt 0)), (0, .ref 100)] [.ref 100] (p_S S0 pl cs1 sk1 cl b42 nc1 sg ov false op na1) R Q
    refine w_cv rfl (by decide) mt_X12_isGood v_tyM rfl rfl rfl (Nat.le_of_ble_eq_true rfl) (Nat.le_of_ble_eq_true rfl) (Nat.le_of_ble_eq_true rfl) ?_
    show w_T L xs _ m_X12_isGood 0 (lv_args 0 [.ref 100]) [] (p_S S0 pl cs1 sk1 cl b42 nc1 sg ov false op na1) R _
    refine h_isGF hb42 ?_
    show w_T L xs (d + 4) m_X12_value 61 [(1, .int (Int32.ofInt 0)), (0, .ref 100)] [.int (Int32.ofInt 0)] (p_S S0 pl cs1 sk1 cl b42 nc1 sg ov false op na1) R Q
    refine w_st rfl (fun _ => rfl) ?_
    show w_T L xs (d + 4) m_X12_value 82 [(1, .int (Int32.ofInt 0)), (0, .ref 100)] [] (p_S S0 pl cs1 sk1 cl b42 nc1 sg ov false op na1) R Q
    refine w_ret rfl rfl ?_
    exact Kb _ _ _ _ _ _ _ _ _ hb42 (by omega) (by omega)
theorem h_vS {q b pl0 : Nat} {nc0 sg0 : Nat → Int32} (he : (S0 99 4).toInt ≤ 240) (hI : p_I q nc0 cs sk nc sg (bif bh then 1 else 0)) (hV : p_V b sg0 sk sg) (hb : cs + sk ≤ pl) (hp : pl ≤ 240) (hgt : pl0 ≤ pl) (hgt2 : bh = true → pl0 < pl) (K7 : ∀ (pl' cs' sk' : Nat) (nc' sg' na' : Nat → Int32) (o : Int32) (h' : Bool), pl < pl' → p_I q nc0 cs' sk' nc' sg' (bif h' then 1 else 0) → p_V b sg0 sk' sg' → cs' + sk' ≤ pl' → pl' ≤ 240 → w_T L xs (d + 4) m_X12_value 7 [(1, .int (Int32.ofInt 1)), (0, .ref 100)] [] (p_S S0 (pl') (cs') (sk') cl (Int32.ofInt 0) (nc') (sg') ov (h') o (na')) R Q) (Kg : ∀ (pl' cs' : Nat) (nc' sg' na' : Nat → Int32) (o : Int32) (h' : Bool), pl0 < pl' → p_I q nc0 cs' b nc' sg' 1 → (∀ k, k < b → sg' k = sg0 k) → cs' + b ≤ pl' → pl' ≤ 240 → Q none (p_S S0 (pl') (cs') b cl (Int32.ofInt 0) (nc') (sg') ov (h') o (na')) R) (Kb : ∀ (pl' cs' sk' : Nat) (b' : Int32) (nc' sg' na' : Nat → Int32) (o : Int32) (h' : Bool), b'.toInt < 0 → cs' + sk' ≤ pl' → pl' ≤ 240 → Q none (p_S S0 (pl') (cs') (sk') cl (b') (nc') (sg') ov (h') o (na')) R) : w_T L xs (d + 4) m_X12_value 7 [(1, .int (Int32.ofInt 1)), (0, .ref 100)] [] (p_S S0 pl cs sk cl (Int32.ofInt 0) nc sg ov bh op na) R Q := by
  cases bh with
  | true =>
    have hgt := hgt2 rfl
    refine w_st rfl (fun _ => rfl) ?_
    show w_T L xs (d + 4) m_X12_value 8 [(1, .int (Int32.ofInt 1)), (0, .ref 100)] [.int (Int32.ofInt 1)] (p_S S0 pl cs sk cl (Int32.ofInt 0) nc sg ov true op na) R Q
    refine w_st rfl (fun _ => rfl) ?_
    refine w_st rfl (fun _ => rfl) ?_
    show w_T L xs (d + 4) m_X12_value 12 [(1, .int (Int32.ofInt 1)), (0, .ref 100)] [.ref 100] (p_S S0 pl cs sk cl (Int32.ofInt 0) nc sg ov true op na) R Q
    refine w_cv rfl (by decide) mt_X12_isGood v_tyM rfl rfl rfl (Nat.le_of_ble_eq_true rfl) (Nat.le_of_ble_eq_true rfl) (Nat.le_of_ble_eq_true rfl) ?_
    show w_T L xs _ m_X12_isGood 0 (lv_args 0 [.ref 100]) [] (p_S S0 pl cs sk cl (Int32.ofInt 0) nc sg ov true op na) R _
    refine h_isGT ?_
    show w_T L xs (d + 4) m_X12_value 15 [(1, .int (Int32.ofInt 1)), (0, .ref 100)] [.int (Int32.ofInt 1)] (p_S S0 pl cs sk cl (Int32.ofInt 0) nc sg ov true op na) R Q
    refine w_st rfl (fun _ => rfl) ?_
    refine w_st rfl (fun _ => rfl) ?_
    show w_T L xs (d + 4) m_X12_value 19 [(1, .int (Int32.ofInt 1)), (0, .ref 100)] [.ref 100] (p_S S0 pl cs sk cl (Int32.ofInt 0) nc sg ov true op na) R Q
    refine w_get rfl v_tyM rfl ?_
    show w_T L xs (d + 4) m_X12_value 22 [(1, .int (Int32.ofInt 1)), (0, .ref 100)] [.int (Int32.ofInt 1)] (p_S S0 pl cs sk cl (Int32.ofInt 0) nc sg ov true op na) R Q
    refine w_st rfl (fun _ => rfl) ?_
    show w_T L xs (d + 4) m_X12_value 29 [(1, .int (Int32.ofInt 1)), (0, .ref 100)] [] (p_S S0 pl cs sk cl (Int32.ofInt 0) nc sg ov true op na) R Q
    exact h_vT he hI hV hb hp hgt K7 Kg Kb
  | false =>
    refine w_st rfl (fun _ => rfl) ?_
    show w_T L xs (d + 4) m_X12_value 8 [(1, .int (Int32.ofInt 1)), (0, .ref 100)] [.int (Int32.ofInt 1)] (p_S S0 pl cs sk cl (Int32.ofInt 0) nc sg ov false op na) R Q
    refine w_st rfl (fun _ => rfl) ?_
    refine w_st rfl (fun _ => rfl) ?_
    show w_T L xs (d + 4) m_X12_value 12 [(1, .int (Int32.ofInt 1)), (0, .ref 100)] [.ref 100] (p_S S0 pl cs sk cl (Int32.ofInt 0) nc sg ov false op na) R Q
    refine w_cv rfl (by decide) mt_X12_isGood v_tyM rfl rfl rfl (Nat.le_of_ble_eq_true rfl) (Nat.le_of_ble_eq_true rfl) (Nat.le_of_ble_eq_true rfl) ?_
    show w_T L xs _ m_X12_isGood 0 (lv_args 0 [.ref 100]) [] (p_S S0 pl cs sk cl (Int32.ofInt 0) nc sg ov false op na) R _
    refine h_isGT ?_
    show w_T L xs (d + 4) m_X12_value 15 [(1, .int (Int32.ofInt 1)), (0, .ref 100)] [.int (Int32.ofInt 1)] (p_S S0 pl cs sk cl (Int32.ofInt 0) nc sg ov false op na) R Q
    refine w_st rfl (fun _ => rfl) ?_
    refine w_st rfl (fun _ => rfl) ?_
    show w_T L xs (d + 4) m_X12_value 19 [(1, .int (Int32.ofInt 1)), (0, .ref 100)] [.ref 100] (p_S S0 pl cs sk cl (Int32.ofInt 0) nc sg ov false op na) R Q
    refine w_get rfl v_tyM rfl ?_
    show w_T L xs (d + 4) m_X12_value 22 [(1, .int (Int32.ofInt 1)), (0, .ref 100)] [.int (Int32.ofInt 0)] (p_S S0 pl cs sk cl (Int32.ofInt 0) nc sg ov false op na) R Q
    refine w_st rfl (fun _ => rfl) ?_
    refine w_st rfl (fun _ => rfl) ?_
    show w_T L xs (d + 4) m_X12_value 26 [(1, .int (Int32.ofInt 1)), (0, .ref 100)] [.ref 100] (p_S S0 pl cs sk cl (Int32.ofInt 0) nc sg ov false op na) R Q
    refine w_cv rfl (by decide) mt_X12_factor v_tyM rfl rfl rfl (Nat.le_of_ble_eq_true rfl) (Nat.le_of_ble_eq_true rfl) (Nat.le_of_ble_eq_true rfl) ?_
    show w_T L xs _ m_X12_factor 0 (lv_args 0 [.ref 100]) [] (p_S S0 pl cs sk cl (Int32.ofInt 0) nc sg ov false op na) R _
    refine h_factor q b nc0 sg0 he 240 pl sk sg op (by omega) hI hV hb hp (fun pl1 cs1 sk1 nc1 sg1 na1 o1 l1 i1 i2 i3 i4 => ?_) (fun pl1 cs1 sk1 b26 nc1 sg1 na1 o1 hb26 i3 i4 => ?_)
    · show w_T L xs (d + 4) m_X12_value 29 [(1, .int (Int32.ofInt 1)), (0, .ref 100)] [] (p_S S0 pl1 cs1 sk1 cl (Int32.ofInt 0) nc1 sg1 ov false o1 na1) R Q
      exact h_vT he i1 i2 i3 i4 (by omega) (fun pl' cs' sk' nc' sg' na' o h' l => K7 pl' cs' sk' nc' sg' na' o h' (by omega)) Kg Kb
    · show w_T L xs (d + 4) m_X12_value 29 [(1, .int (Int32.ofInt 1)), (0, .ref 100)] [] (p_S S0 pl1 cs1 sk1 cl b26 nc1 sg1 ov false o1 na1) R Q
      refine w_st rfl (fun _ => rfl) ?_
      refine w_st rfl (fun _ => rfl) ?_
      show w_T L xs (d + 4) m_X12_value 31 [(1, .int (Int32.ofInt 1)), (0, .ref 100)] [.int (Int32.ofInt 0), .ref 100] (p_S S0 pl1 cs1 sk1 cl b26 nc1 sg1 ov false o1 na1) R Q
      refine w_put rfl v_tyM rfl rfl rfl ?_
      refine w_eqS (p_wbh (b := false) rfl) ?_
      refine w_st rfl (fun _ => rfl) ?_
      show w_T L xs (d + 4) m_X12_value 35 [(1, .int (Int32.ofInt 1)), (0, .ref 100)] [.ref 100] (p_S S0 pl1 cs1 sk1 cl b26 nc1 sg1 ov false o1 na1) R Q
      refine w_cv rfl (by decide) mt_X12_isGood v_tyM rfl rfl rfl (Nat.le_of_ble_eq_true rfl) (Nat.le_of_ble_eq_true rfl) (Nat.le_of_ble_eq_true rfl) ?_
      show w_T L xs _ m_X12_isGood 0 (lv_args 0 [.ref 100]) [] (p_S S0 pl1 cs1 sk1 cl b26 nc1 sg1 ov false o1 na1) R _
      refine h_isGF hb26 ?_
      show w_T L xs (d + 4) m_X12_value 38 [(1, .int (Int32.ofInt 1)), (0, .ref 100)] [.int (Int32.ofInt 0)] (p_S S0 pl1 cs1 sk1 cl b26 nc1 sg1 ov false o1 na1) R Q
      refine w_st rfl (fun _ => rfl) ?_
      refine w_st rfl (fun _ => rfl) ?_
      refine w_st rfl (fun _ => rfl) ?_
      refine w_st rfl (fun _ => rfl) ?_
      show w_T L xs (d + 4) m_X12_value 7 [(1, .int (Int32.ofInt 0)), (0, .ref 100)] [] (p_S S0 pl1 cs1 sk1 cl b26 nc1 sg1 ov false o1 na1) R Q
      refine w_st rfl (fun _ => rfl) ?_
      show w_T L xs (d + 4) m_X12_value 8 [(1, .int (Int32.ofInt 0)), (0, .ref 100)] [.int (Int32.ofInt 0)] (p_S S0 pl1 cs1 sk1 cl b26 nc1 sg1 ov false o1 na1) R Q
      refine w_st rfl (fun _ => rfl) ?_
      refine w_st rfl (fun _ => rfl) ?_
      show w_T L xs (d + 4) m_X12_value 58 [(1, .int (Int32.ofInt 0)), (0, .ref 100)] [.ref 100] (p_S S0 pl1 cs1 sk1 cl b26 nc1 sg1 ov false o1 na1) R Q
      refine w_cv rfl (by decide) mt_X12_isGood v_tyM rfl rfl rfl (Nat.le_of_ble_eq_true rfl) (Nat.le_of_ble_eq_true rfl) (Nat.le_of_ble_eq_true rfl) ?_
      show w_T L xs _ m_X12_isGood 0 (lv_args 0 [.ref 100]) [] (p_S S0 pl1 cs1 sk1 cl b26 nc1 sg1 ov false o1 na1) R _
      refine h_isGF hb26 ?_
      show w_T L xs (d + 4) m_X12_value 61 [(1, .int (Int32.ofInt 0)), (0, .ref 100)] [.int (Int32.ofInt 0)] (p_S S0 pl1 cs1 sk1 cl b26 nc1 sg1 ov false o1 na1) R Q
      refine w_st rfl (fun _ => rfl) ?_
      show w_T L xs (d + 4) m_X12_value 82 [(1, .int (Int32.ofInt 0)), (0, .ref 100)] [] (p_S S0 pl1 cs1 sk1 cl b26 nc1 sg1 ov false o1 na1) R Q
      refine w_ret rfl rfl ?_
      exact Kb _ _ _ _ _ _ _ _ _ hb26 (by omega) (by omega)
theorem h_vL (q b pl0 : Nat) (nc0 sg0 : Nat → Int32) (he : (S0 99 4).toInt ≤ 240) (Kg : ∀ (pl' cs' : Nat) (nc' sg' na' : Nat → Int32) (o : Int32) (h' : Bool), pl0 < pl' → p_I q nc0 cs' b nc' sg' 1 → (∀ k, k < b → sg' k = sg0 k) → cs' + b ≤ pl' → pl' ≤ 240 → Q none (p_S S0 (pl') (cs') b cl (Int32.ofInt 0) (nc') (sg') ov (h') o (na')) R) (Kb : ∀ (pl' cs' sk' : Nat) (b' : Int32) (nc' sg' na' : Nat → Int32) (o : Int32) (h' : Bool), b'.toInt < 0 → cs' + sk' ≤ pl' → pl' ≤ 240 → Q none (p_S S0 (pl') (cs') (sk') cl (b') (nc') (sg') ov (h') o (na')) R) : ∀ (n pl cs sk : Nat) (nc sg na : Nat → Int32) (op : Int32) (bh : Bool), 240 ≤ pl + n → pl0 ≤ pl → (bh = true → pl0 < pl) → p_I q nc0 cs sk nc sg (bif bh then 1 else 0) → p_V b sg0 sk sg → cs + sk ≤ pl → pl ≤ 240 → w_T L xs (d + 4) m_X12_value 7 [(1, .int (Int32.ofInt 1)), (0, .ref 100)] [] (p_S S0 pl cs sk cl (Int32.ofInt 0) nc sg ov bh op na) R Q := by
  intro n
  induction n with
  | zero =>
    intro pl cs sk nc sg na op bh hn hgt hgt2 hI hV hb hp
    exact h_vS he hI hV hb hp hgt hgt2 (fun pl' cs' sk' nc' sg' na' o h' l _ _ _ hh => absurd hh (by omega)) Kg Kb
  | succ n ih =>
    intro pl cs sk nc sg na op bh hn hgt hgt2 hI hV hb hp
    exact h_vS he hI hV hb hp hgt hgt2 (fun pl' cs' sk' nc' sg' na' o h' l a1 a2 a3 a4 => ih pl' cs' sk' nc' sg' na' o h' (by omega) (by omega) (fun _ => by omega) a1 a2 a3 a4) Kg Kb
theorem h_value {q : Nat} {nc0 : Nat → Int32} (he : (S0 99 4).toInt ≤ 240) (hI : p_I q nc0 cs sk nc sg 0) (hbase : 0 < sk → ¬ p_vs (sg (sk - 1))) (hb : cs + sk ≤ pl) (hp : pl ≤ 240) (Kg : ∀ (pl' cs' : Nat) (nc' sg' na' : Nat → Int32) (o : Int32) (h' : Bool), pl < pl' → p_I q nc0 cs' sk nc' sg' 1 → (∀ k, k < sk → sg' k = sg k) → cs' + sk ≤ pl' → pl' ≤ 240 → Q none (p_S S0 (pl') (cs') sk cl (Int32.ofInt 0) (nc') (sg') ov (h') o (na')) R) (Kb : ∀ (pl' cs' sk' : Nat) (b' : Int32) (nc' sg' na' : Nat → Int32) (o : Int32) (h' : Bool), b'.toInt < 0 → cs' + sk' ≤ pl' → pl' ≤ 240 → Q none (p_S S0 (pl') (cs') (sk') cl (b') (nc') (sg') ov (h') o (na')) R) : w_T L xs (d + 4) m_X12_value 0 (lv_args 0 [.ref 100]) [] (p_S S0 pl cs sk cl (Int32.ofInt 0) nc sg ov bh op na) R Q := by
  refine w_st rfl (fun _ => rfl) ?_
  refine w_st rfl (fun _ => rfl) ?_
  refine w_st rfl (fun _ => rfl) ?_
  refine w_st rfl (fun _ => rfl) ?_
  show w_T L xs (d + 4) m_X12_value 4 [(1, .int (Int32.ofInt 1)), (0, .ref 100)] [.int (Int32.ofInt 0), .ref 100] (p_S S0 pl cs sk cl (Int32.ofInt 0) nc sg ov bh op na) R Q
  refine w_put rfl v_tyM rfl rfl rfl ?_
  refine w_eqS (p_wbh (b := false) rfl) ?_
  show w_T L xs (d + 4) m_X12_value 7 [(1, .int (Int32.ofInt 1)), (0, .ref 100)] [] (p_S S0 pl cs sk cl (Int32.ofInt 0) nc sg ov false op na) R Q
  exact h_vL q sk pl nc0 sg he Kg Kb 240 pl cs sk nc sg na op false (by omega) (Nat.le_refl _) (fun h => by cases h) hI ⟨Nat.le_refl _, fun _ _ => rfl, fun k h1 h2 => by omega, hbase⟩ hb hp
end PF
