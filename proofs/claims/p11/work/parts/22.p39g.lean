section Prt39g
/-! the reader: conditions -/
section PG
variable {L : Nat} {xs : Nat → Int32} {d : Nat} {R : v_Rf} {Q : Option Value → v_Sf → v_Rf → Prop} {S0 : v_Sf} {pl cs sk cl : Nat} {bd : Int32} {nc sg : Nat → Int32} {ov bh : Bool} {op : Int32} {na : Nat → Int32}
theorem p_cc_n {c : Int32} (h : p_cc c) (h1 : ¬ c = Int32.ofInt 38) (h2 : ¬ c = Int32.ofInt 124) : p_bi c = false := by
  rcases h with (h | h) | h | h
  · exact absurd h h1
  · exact absurd h h2
  · rw [h]; decide
  · rw [h]; decide
theorem h_joS {q : Nat} {nc0 : Nat → Int32} (u : Int32) (hI : p_I q nc0 cs sk nc sg 1) (hC : p_C sk sg) (hb : cs + sk ≤ pl) (hp : pl ≤ 240) (K0 : p_C (sk - 1) sg → p_I q nc0 (cs + 1) (sk - 1) (upd nc cs (p_tp sg sk)) sg 1 → 0 < sk → w_T L xs (d + 2) m_X12_joins 0 [(0, .ref 100), (1, .int u)] [] (p_S S0 pl (cs + 1) (sk - 1) cl (Int32.ofInt 0) (upd nc cs (p_tp sg sk)) sg ov bh op (upd na cs (Int32.ofInt 0))) R Q) (K : ¬ p_tp sg sk = Int32.ofInt 38 → (¬ u = 0 → ¬ p_tp sg sk = Int32.ofInt 124) → Q none (p_S S0 pl cs sk cl (Int32.ofInt 0) nc sg ov bh op na) R) : w_T L xs (d + 2) m_X12_joins 0 [(0, .ref 100), (1, .int u)] [] (p_S S0 pl cs sk cl (Int32.ofInt 0) nc sg ov bh op na) R Q := by
  refine w_st rfl (fun _ => rfl) ?_
  show w_T L xs (d + 2) m_X12_joins 1 [(0, .ref 100), (1, .int u)] [.ref 100] (p_S S0 pl cs sk cl (Int32.ofInt 0) nc sg ov bh op na) R Q
  refine w_cv rfl (by decide) mt_X12_top v_tyM rfl rfl rfl (Nat.le_of_ble_eq_true rfl) (Nat.le_of_ble_eq_true rfl) (Nat.le_of_ble_eq_true rfl) ?_
  show w_T L xs _ m_X12_top 0 (lv_args 0 [.ref 100]) [] (p_S S0 pl cs sk cl (Int32.ofInt 0) nc sg ov bh op na) R _
  refine h_top (by omega) ?_
  refine w_st rfl (fun _ => rfl) ?_
  show w_T L xs (d + 2) m_X12_joins 6 [(0, .ref 100), (1, .int u)] [.int (Int32.ofInt 38), .int (p_tp sg sk)] (p_S S0 pl cs sk cl (Int32.ofInt 0) nc sg ov bh op na) R Q
  refine w_br (P := (p_tp sg sk) = (Int32.ofInt 38)) rfl (fun _ => rfl) (fun h6 => ?_) (fun h6 => ?_)
  · obtain ⟨hk, hI2⟩ := p_I_bin hI (p_bi_jo (Or.inl h6))
    have hC2 := p_C_pop hC (p_C_one hC (by rw [h6]; decide))
    refine w_st rfl (fun _ => rfl) ?_
    refine w_st rfl (fun _ => rfl) ?_
    show w_T L xs (d + 2) m_X12_joins 24 [(0, .ref 100), (1, .int u)] [.ref 100, .ref 100] (p_S S0 pl cs sk cl (Int32.ofInt 0) nc sg ov bh op na) R Q
    refine w_cv rfl (by decide) mt_X12_top v_tyM rfl rfl rfl (Nat.le_of_ble_eq_true rfl) (Nat.le_of_ble_eq_true rfl) (Nat.le_of_ble_eq_true rfl) ?_
    show w_T L xs _ m_X12_top 0 (lv_args 0 [.ref 100]) [] (p_S S0 pl cs sk cl (Int32.ofInt 0) nc sg ov bh op na) R _
    refine h_top (by omega) ?_
    refine w_st rfl (fun _ => rfl) ?_
    show w_T L xs (d + 2) m_X12_joins 28 [(0, .ref 100), (1, .int u)] [.int (Int32.ofInt 0), .int (p_tp sg sk), .ref 100] (p_S S0 pl cs sk cl (Int32.ofInt 0) nc sg ov bh op na) R Q
    refine w_cv rfl (by decide) mt_X12_emit v_tyM rfl rfl rfl (Nat.le_of_ble_eq_true rfl) (Nat.le_of_ble_eq_true rfl) (Nat.le_of_ble_eq_true rfl) ?_
    show w_T L xs _ m_X12_emit 0 (lv_args 0 [.ref 100, .int (p_tp sg sk), .int (Int32.ofInt 0)]) [] (p_S S0 pl cs sk cl (Int32.ofInt 0) nc sg ov bh op na) R _
    refine h_emG (by omega) ?_
    refine w_st rfl (fun _ => rfl) ?_
    refine w_st rfl (fun _ => rfl) ?_
    show w_T L xs (d + 2) m_X12_joins 33 [(0, .ref 100), (1, .int u)] [.ref 100, .ref 100] (p_S S0 pl (cs + 1) sk cl (Int32.ofInt 0) (upd nc cs (p_tp sg sk)) sg ov bh op (upd na cs (Int32.ofInt 0))) R Q
    refine w_get rfl v_tyM rfl ?_
    refine w_st rfl (fun _ => rfl) ?_
    refine w_st rfl (fun _ => rfl) ?_
    show w_T L xs (d + 2) m_X12_joins 38 [(0, .ref 100), (1, .int u)] [.int ((Int32.ofInt (sk : Int)) - (Int32.ofInt 1)), .ref 100] (p_S S0 pl (cs + 1) sk cl (Int32.ofInt 0) (upd nc cs (p_tp sg sk)) sg ov bh op (upd na cs (Int32.ofInt 0))) R Q
    refine w_put rfl v_tyM rfl rfl rfl ?_
    refine w_eqS (p_wsk (w_dec2 (by omega))) ?_
    refine w_st rfl (fun _ => rfl) ?_
    show w_T L xs (d + 2) m_X12_joins 0 [(0, .ref 100), (1, .int u)] [] (p_S S0 pl (cs + 1) (sk - 1) cl (Int32.ofInt 0) (upd nc cs (p_tp sg sk)) sg ov bh op (upd na cs (Int32.ofInt 0))) R Q
    exact K0 hC2 hI2 hk
  · refine w_st rfl (fun _ => rfl) ?_
    show w_T L xs (d + 2) m_X12_joins 10 [(0, .ref 100), (1, .int u)] [.int u] (p_S S0 pl cs sk cl (Int32.ofInt 0) nc sg ov bh op na) R Q
    refine w_br (P := u = 0) rfl (fun _ => rfl) (fun h10 => ?_) (fun h10 => ?_)
    · refine w_ret rfl rfl ?_
      first | exact K h6 (fun h => absurd h10 h) | exact K h6 (fun _ => h19)
    · refine w_st rfl (fun _ => rfl) ?_
      show w_T L xs (d + 2) m_X12_joins 14 [(0, .ref 100), (1, .int u)] [.ref 100] (p_S S0 pl cs sk cl (Int32.ofInt 0) nc sg ov bh op na) R Q
      refine w_cv rfl (by decide) mt_X12_top v_tyM rfl rfl rfl (Nat.le_of_ble_eq_true rfl) (Nat.le_of_ble_eq_true rfl) (Nat.le_of_ble_eq_true rfl) ?_
      show w_T L xs _ m_X12_top 0 (lv_args 0 [.ref 100]) [] (p_S S0 pl cs sk cl (Int32.ofInt 0) nc sg ov bh op na) R _
      refine h_top (by omega) ?_
      refine w_st rfl (fun _ => rfl) ?_
      show w_T L xs (d + 2) m_X12_joins 19 [(0, .ref 100), (1, .int u)] [.int (Int32.ofInt 124), .int (p_tp sg sk)] (p_S S0 pl cs sk cl (Int32.ofInt 0) nc sg ov bh op na) R Q
      refine w_br (P := ¬ (p_tp sg sk) = (Int32.ofInt 124)) rfl (fun _ => rfl) (fun h19 => ?_) (fun h19 => ?_)
      · refine w_ret rfl rfl ?_
        first | exact K h6 (fun h => absurd h10 h) | exact K h6 (fun _ => h19)
      · have e19 := Decidable.of_not_not h19
        obtain ⟨hk, hI2⟩ := p_I_bin hI (p_bi_jo (Or.inr e19))
        have hC2 := p_C_pop hC (p_C_one hC (by rw [e19]; decide))
        refine w_st rfl (fun _ => rfl) ?_
        refine w_st rfl (fun _ => rfl) ?_
        show w_T L xs (d + 2) m_X12_joins 24 [(0, .ref 100), (1, .int u)] [.ref 100, .ref 100] (p_S S0 pl cs sk cl (Int32.ofInt 0) nc sg ov bh op na) R Q
        refine w_cv rfl (by decide) mt_X12_top v_tyM rfl rfl rfl (Nat.le_of_ble_eq_true rfl) (Nat.le_of_ble_eq_true rfl) (Nat.le_of_ble_eq_true rfl) ?_
        show w_T L xs _ m_X12_top 0 (lv_args 0 [.ref 100]) [] (p_S S0 pl cs sk cl (Int32.ofInt 0) nc sg ov bh op na) R _
        refine h_top (by omega) ?_
        refine w_st rfl (fun _ => rfl) ?_
        show w_T L xs (d + 2) m_X12_joins 28 [(0, .ref 100), (1, .int u)] [.int (Int32.ofInt 0), .int (p_tp sg sk), .ref 100] (p_S S0 pl cs sk cl (Int32.ofInt 0) nc sg ov bh op na) R Q
        refine w_cv rfl (by decide) mt_X12_emit v_tyM rfl rfl rfl (Nat.le_of_ble_eq_true rfl) (Nat.le_of_ble_eq_true rfl) (Nat.le_of_ble_eq_true rfl) ?_
        show w_T L xs _ m_X12_emit 0 (lv_args 0 [.ref 100, .int (p_tp sg sk), .int (Int32.ofInt 0)]) [] (p_S S0 pl cs sk cl (Int32.ofInt 0) nc sg ov bh op na) R _
        refine h_emG (by omega) ?_
        refine w_st rfl (fun _ => rfl) ?_
        refine w_st rfl (fun _ => rfl) ?_
        show w_T L xs (d + 2) m_X12_joins 33 [(0, .ref 100), (1, .int u)] [.ref 100, .ref 100] (p_S S0 pl (cs + 1) sk cl (Int32.ofInt 0) (upd nc cs (p_tp sg sk)) sg ov bh op (upd na cs (Int32.ofInt 0))) R Q
        refine w_get rfl v_tyM rfl ?_
        refine w_st rfl (fun _ => rfl) ?_
        refine w_st rfl (fun _ => rfl) ?_
        show w_T L xs (d + 2) m_X12_joins 38 [(0, .ref 100), (1, .int u)] [.int ((Int32.ofInt (sk : Int)) - (Int32.ofInt 1)), .ref 100] (p_S S0 pl (cs + 1) sk cl (Int32.ofInt 0) (upd nc cs (p_tp sg sk)) sg ov bh op (upd na cs (Int32.ofInt 0))) R Q
        refine w_put rfl v_tyM rfl rfl rfl ?_
        refine w_eqS (p_wsk (w_dec2 (by omega))) ?_
        refine w_st rfl (fun _ => rfl) ?_
        show w_T L xs (d + 2) m_X12_joins 0 [(0, .ref 100), (1, .int u)] [] (p_S S0 pl (cs + 1) (sk - 1) cl (Int32.ofInt 0) (upd nc cs (p_tp sg sk)) sg ov bh op (upd na cs (Int32.ofInt 0))) R Q
        exact K0 hC2 hI2 hk
theorem h_joins (u : Int32) (q : Nat) (nc0 : Nat → Int32) (hp : pl ≤ 240) : ∀ (n sk cs : Nat) (nc na : Nat → Int32), sk ≤ n → p_I q nc0 cs sk nc sg 1 → p_C sk sg → cs + sk ≤ pl → (∀ (sk' cs' : Nat) (nc' na' : Nat → Int32), p_I q nc0 cs' sk' nc' sg 1 → p_C sk' sg → cs' + sk' ≤ pl → ¬ p_tp sg sk' = Int32.ofInt 38 → (¬ u = 0 → ¬ p_tp sg sk' = Int32.ofInt 124) → Q none (p_S S0 pl (cs') (sk') cl (Int32.ofInt 0) (nc') sg ov bh op (na')) R) → w_T L xs (d + 2) m_X12_joins 0 (lv_args 0 [.ref 100, .int u]) [] (p_S S0 pl cs sk cl (Int32.ofInt 0) nc sg ov bh op na) R Q := by
  intro n
  induction n with
  | zero =>
    intro sk cs nc na hn hI hC hb K
    exact h_joS u hI hC hb hp (fun h _ h2 => absurd h2 (by omega)) (fun a b => K _ _ _ _ hI hC hb a b)
  | succ n ih =>
    intro sk cs nc na hn hI hC hb K
    exact h_joS u hI hC hb hp (fun h1 h2 h3 => ih (sk - 1) (cs + 1) _ _ (by omega) h2 h1 (by omega) K) (fun a b => K _ _ _ _ hI hC hb a b)
theorem h_enS {q : Nat} {nc0 : Nat → Int32} (hI : p_I q nc0 cs sk nc sg 1) (hC : p_C sk sg) (hb : cs + sk ≤ pl) (hp : pl ≤ 240) (K0 : ∀ o, p_C (sk - 1) sg → p_I q nc0 (cs + 1) (sk - 1) (upd nc cs (Int32.ofInt 2)) sg 1 → 0 < sk → w_T L xs (d + 2) m_X12_ends 0 [(0, .ref 100)] [] (p_S S0 pl (cs + 1) (sk - 1) cl (Int32.ofInt 0) (upd nc cs (Int32.ofInt 2)) sg ov bh o (upd na cs (Int32.ofInt 0))) R Q) (K : Q none (p_S S0 pl cs sk cl (Int32.ofInt 0) nc sg ov bh op na) R) : w_T L xs (d + 2) m_X12_ends 0 [(0, .ref 100)] [] (p_S S0 pl cs sk cl (Int32.ofInt 0) nc sg ov bh op na) R Q := by
  refine w_st rfl (fun _ => rfl) ?_
  show w_T L xs (d + 2) m_X12_ends 1 [(0, .ref 100)] [.ref 100] (p_S S0 pl cs sk cl (Int32.ofInt 0) nc sg ov bh op na) R Q
  refine w_cv rfl (by decide) mt_X12_top v_tyM rfl rfl rfl (Nat.le_of_ble_eq_true rfl) (Nat.le_of_ble_eq_true rfl) (Nat.le_of_ble_eq_true rfl) ?_
  show w_T L xs _ m_X12_top 0 (lv_args 0 [.ref 100]) [] (p_S S0 pl cs sk cl (Int32.ofInt 0) nc sg ov bh op na) R _
  refine h_top (by omega) ?_
  refine w_st rfl (fun _ => rfl) ?_
  show w_T L xs (d + 2) m_X12_ends 6 [(0, .ref 100)] [.int (Int32.ofInt 33), .int (p_tp sg sk)] (p_S S0 pl cs sk cl (Int32.ofInt 0) nc sg ov bh op na) R Q
  refine w_br (P := ¬ (p_tp sg sk) = (Int32.ofInt 33)) rfl (fun _ => rfl) (fun h6 => ?_) (fun h6 => ?_)
  · refine w_ret rfl rfl ?_
    exact K
  · have e6 := Decidable.of_not_not h6
    obtain ⟨hk, hI2⟩ := p_I_not hI e6
    have hC2 := p_C_pop hC (p_C_one hC (by rw [e6]; decide))
    refine w_st rfl (fun _ => rfl) ?_
    refine w_st rfl (fun _ => rfl) ?_
    refine w_st rfl (fun _ => rfl) ?_
    show w_T L xs (d + 2) m_X12_ends 12 [(0, .ref 100)] [.int (Int32.ofInt 0), .int (Int32.ofInt 2), .ref 100] (p_S S0 pl cs sk cl (Int32.ofInt 0) nc sg ov bh op na) R Q
    refine w_cv rfl (by decide) mt_X12_emit v_tyM rfl rfl rfl (Nat.le_of_ble_eq_true rfl) (Nat.le_of_ble_eq_true rfl) (Nat.le_of_ble_eq_true rfl) ?_
    show w_T L xs _ m_X12_emit 0 (lv_args 0 [.ref 100, .int (Int32.ofInt 2), .int (Int32.ofInt 0)]) [] (p_S S0 pl cs sk cl (Int32.ofInt 0) nc sg ov bh op na) R _
    refine h_emG (by omega) ?_
    refine w_st rfl (fun _ => rfl) ?_
    refine w_st rfl (fun _ => rfl) ?_
    show w_T L xs (d + 2) m_X12_ends 17 [(0, .ref 100)] [.ref 100, .ref 100] (p_S S0 pl (cs + 1) sk cl (Int32.ofInt 0) (upd nc cs (Int32.ofInt 2)) sg ov bh op (upd na cs (Int32.ofInt 0))) R Q
    refine w_get rfl v_tyM rfl ?_
    refine w_st rfl (fun _ => rfl) ?_
    refine w_st rfl (fun _ => rfl) ?_
    show w_T L xs (d + 2) m_X12_ends 22 [(0, .ref 100)] [.int ((Int32.ofInt (sk : Int)) - (Int32.ofInt 1)), .ref 100] (p_S S0 pl (cs + 1) sk cl (Int32.ofInt 0) (upd nc cs (Int32.ofInt 2)) sg ov bh op (upd na cs (Int32.ofInt 0))) R Q
    refine w_put rfl v_tyM rfl rfl rfl ?_
    refine w_eqS (p_wsk (w_dec2 (by omega))) ?_
    refine w_st rfl (fun _ => rfl) ?_
    refine w_st rfl (fun _ => rfl) ?_
    show w_T L xs (d + 2) m_X12_ends 27 [(0, .ref 100)] [.ref 100, .ref 100] (p_S S0 pl (cs + 1) (sk - 1) cl (Int32.ofInt 0) (upd nc cs (Int32.ofInt 2)) sg ov bh op (upd na cs (Int32.ofInt 0))) R Q
    refine w_get rfl v_tyM rfl ?_
    refine w_st rfl (fun _ => rfl) ?_
    refine w_st rfl (fun _ => rfl) ?_
    show w_T L xs (d + 2) m_X12_ends 32 [(0, .ref 100)] [.int (op - (Int32.ofInt 1)), .ref 100] (p_S S0 pl (cs + 1) (sk - 1) cl (Int32.ofInt 0) (upd nc cs (Int32.ofInt 2)) sg ov bh op (upd na cs (Int32.ofInt 0))) R Q
    refine w_put rfl v_tyM rfl rfl rfl ?_
    refine w_eqS p_wop ?_
    refine w_st rfl (fun _ => rfl) ?_
    show w_T L xs (d + 2) m_X12_ends 0 [(0, .ref 100)] [] (p_S S0 pl (cs + 1) (sk - 1) cl (Int32.ofInt 0) (upd nc cs (Int32.ofInt 2)) sg ov bh (op - (Int32.ofInt 1)) (upd na cs (Int32.ofInt 0))) R Q
    exact K0 _ hC2 hI2 hk
theorem h_ends (q : Nat) (nc0 : Nat → Int32) (hp : pl ≤ 240) : ∀ (n sk cs : Nat) (nc na : Nat → Int32) (op : Int32), sk ≤ n → p_I q nc0 cs sk nc sg 1 → p_C sk sg → cs + sk ≤ pl → (∀ (sk' cs' : Nat) (nc' na' : Nat → Int32) (o : Int32), p_I q nc0 cs' sk' nc' sg 1 → p_C sk' sg → cs' + sk' ≤ pl → Q none (p_S S0 pl (cs') (sk') cl (Int32.ofInt 0) (nc') sg ov bh o (na')) R) → w_T L xs (d + 2) m_X12_ends 0 (lv_args 0 [.ref 100]) [] (p_S S0 pl cs sk cl (Int32.ofInt 0) nc sg ov bh op na) R Q := by
  intro n
  induction n with
  | zero =>
    intro sk cs nc na op hn hI hC hb K
    exact h_enS hI hC hb hp (fun _ h _ h2 => absurd h2 (by omega)) (K _ _ _ _ _ hI hC hb)
  | succ n ih =>
    intro sk cs nc na op hn hI hC hb K
    exact h_enS hI hC hb hp (fun o h1 h2 h3 => ih (sk - 1) (cs + 1) _ _ o (by omega) h2 h1 (by omega) K) (K _ _ _ _ _ hI hC hb)
theorem h_piS {q : Nat} {nc0 : Nat → Int32} (he : (S0 99 4).toInt ≤ 240) (hI : p_I q nc0 cs sk nc sg 0) (hC : p_C sk sg) (hb : cs + sk ≤ pl) (hp : pl ≤ 240) (K0 : ∀ o, pl < 240 → p_I q nc0 cs (sk + 1) nc (upd sg sk (p_h S0 pl)) 0 → p_C (sk + 1) (upd sg sk (p_h S0 pl)) → w_T L xs (d + 5) m_X12_pieceOfC 0 [(0, .ref 100)] [] (p_S S0 (pl + 1) cs (sk + 1) cl (Int32.ofInt 0) nc (upd sg sk (p_h S0 pl)) ov bh o na) R Q) (Kg : ∀ (pl' cs' sk' : Nat) (nc' sg' na' : Nat → Int32) (o : Int32) (h' : Bool), pl ≤ pl' → p_I q nc0 cs' sk' nc' sg' 1 → p_C sk' sg' → cs' + sk' ≤ pl' → pl' ≤ 240 → Q none (p_S S0 (pl') (cs') (sk') cl (Int32.ofInt 0) (nc') (sg') ov (h') o (na')) R) (Kb : ∀ (pl' cs' sk' : Nat) (b' : Int32) (nc' sg' na' : Nat → Int32) (o : Int32) (h' : Bool), b'.toInt < 0 → cs' + sk' ≤ pl' → pl' ≤ 240 → Q none (p_S S0 (pl') (cs') (sk') cl (b') (nc') (sg') ov (h') o (na')) R) : w_T L xs (d + 5) m_X12_pieceOfC 0 [(0, .ref 100)] [] (p_S S0 pl cs sk cl (Int32.ofInt 0) nc sg ov bh op na) R Q := by
  refine w_st rfl (fun _ => rfl) ?_
  show w_T L xs (d + 5) m_X12_pieceOfC 1 [(0, .ref 100)] [.ref 100] (p_S S0 pl cs sk cl (Int32.ofInt 0) nc sg ov bh op na) R Q
  refine w_cv rfl (by decide) mt_X12_isGood v_tyM rfl rfl rfl (Nat.le_of_ble_eq_true rfl) (Nat.le_of_ble_eq_true rfl) (Nat.le_of_ble_eq_true rfl) ?_
  show w_T L xs _ m_X12_isGood 0 (lv_args 0 [.ref 100]) [] (p_S S0 pl cs sk cl (Int32.ofInt 0) nc sg ov bh op na) R _
  refine h_isGT ?_
  show w_T L xs (d + 5) m_X12_pieceOfC 4 [(0, .ref 100)] [.int (Int32.ofInt 1)] (p_S S0 pl cs sk cl (Int32.ofInt 0) nc sg ov bh op na) R Q
  refine w_st rfl (fun _ => rfl) ?_
  refine w_st rfl (fun _ => rfl) ?_
  show w_T L xs (d + 5) m_X12_pieceOfC 8 [(0, .ref 100)] [.ref 100] (p_S S0 pl cs sk cl (Int32.ofInt 0) nc sg ov bh op na) R Q
  refine w_cv rfl (by decide) mt_X12_here v_tyM rfl rfl rfl (Nat.le_of_ble_eq_true rfl) (Nat.le_of_ble_eq_true rfl) (Nat.le_of_ble_eq_true rfl) ?_
  show w_T L xs _ m_X12_here 0 (lv_args 0 [.ref 100]) [] (p_S S0 pl cs sk cl (Int32.ofInt 0) nc sg ov bh op na) R _
  refine h_here (by omega) ?_
  refine w_st rfl (fun _ => rfl) ?_
  show w_T L xs (d + 5) m_X12_pieceOfC 13 [(0, .ref 100)] [.int (Int32.ofInt 33), .int (p_h S0 pl)] (p_S S0 pl cs sk cl (Int32.ofInt 0) nc sg ov bh op na) R Q
  refine w_br (P := (p_h S0 pl) = (Int32.ofInt 33)) rfl (fun _ => rfl) (fun h13 => ?_) (fun h13 => ?_)
  · have hlt := p_h_lt (S0 := S0) (pl := pl) (by rw [h13]; decide)
    have hbf : p_bi (p_h S0 pl) = false := by rw [h13]; decide
    have hcc : p_cc (p_h S0 pl) := Or.inr (Or.inr h13)
    refine w_st rfl (fun _ => rfl) ?_
    show w_T L xs (d + 5) m_X12_pieceOfC 26 [(0, .ref 100)] [.ref 100] (p_S S0 pl cs sk cl (Int32.ofInt 0) nc sg ov bh op na) R Q
    refine w_cv rfl (by decide) mt_X12_opens v_tyM rfl rfl rfl (Nat.le_of_ble_eq_true rfl) (Nat.le_of_ble_eq_true rfl) (Nat.le_of_ble_eq_true rfl) ?_
    show w_T L xs _ m_X12_opens 0 (lv_args 0 [.ref 100]) [] (p_S S0 pl cs sk cl (Int32.ofInt 0) nc sg ov bh op na) R _
    refine h_opens (by omega) (by omega) (fun o26 => ?_) (fun o26 b26 hb26 => ?_)
    · show w_T L xs (d + 5) m_X12_pieceOfC 29 [(0, .ref 100)] [] (p_S S0 (pl + 1) cs (sk + 1) cl (Int32.ofInt 0) nc (upd sg sk (p_h S0 pl)) ov bh o26 na) R Q
      refine w_st rfl (fun _ => rfl) ?_
      show w_T L xs (d + 5) m_X12_pieceOfC 0 [(0, .ref 100)] [] (p_S S0 (pl + 1) cs (sk + 1) cl (Int32.ofInt 0) nc (upd sg sk (p_h S0 pl)) ov bh o26 na) R Q
      exact K0 _ (by omega) (p_I_pn hI hbf) (p_C_psh hC hcc)
    · show w_T L xs (d + 5) m_X12_pieceOfC 29 [(0, .ref 100)] [] (p_S S0 (pl + 1) cs (sk + 1) cl b26 nc (upd sg sk (p_h S0 pl)) ov bh o26 na) R Q
      refine w_st rfl (fun _ => rfl) ?_
      show w_T L xs (d + 5) m_X12_pieceOfC 0 [(0, .ref 100)] [] (p_S S0 (pl + 1) cs (sk + 1) cl b26 nc (upd sg sk (p_h S0 pl)) ov bh o26 na) R Q
      refine w_st rfl (fun _ => rfl) ?_
      show w_T L xs (d + 5) m_X12_pieceOfC 1 [(0, .ref 100)] [.ref 100] (p_S S0 (pl + 1) cs (sk + 1) cl b26 nc (upd sg sk (p_h S0 pl)) ov bh o26 na) R Q
      refine w_cv rfl (by decide) mt_X12_isGood v_tyM rfl rfl rfl (Nat.le_of_ble_eq_true rfl) (Nat.le_of_ble_eq_true rfl) (Nat.le_of_ble_eq_true rfl) ?_
      show w_T L xs _ m_X12_isGood 0 (lv_args 0 [.ref 100]) [] (p_S S0 (pl + 1) cs (sk + 1) cl b26 nc (upd sg sk (p_h S0 pl)) ov bh o26 na) R _
      refine h_isGF hb26 ?_
      show w_T L xs (d + 5) m_X12_pieceOfC 4 [(0, .ref 100)] [.int (Int32.ofInt 0)] (p_S S0 (pl + 1) cs (sk + 1) cl b26 nc (upd sg sk (p_h S0 pl)) ov bh o26 na) R Q
      refine w_st rfl (fun _ => rfl) ?_
      refine w_st rfl (fun _ => rfl) ?_
      show w_T L xs (d + 5) m_X12_pieceOfC 33 [(0, .ref 100)] [.ref 100] (p_S S0 (pl + 1) cs (sk + 1) cl b26 nc (upd sg sk (p_h S0 pl)) ov bh o26 na) R Q
      refine w_cv rfl (by decide) mt_X12_isGood v_tyM rfl rfl rfl (Nat.le_of_ble_eq_true rfl) (Nat.le_of_ble_eq_true rfl) (Nat.le_of_ble_eq_true rfl) ?_
      show w_T L xs _ m_X12_isGood 0 (lv_args 0 [.ref 100]) [] (p_S S0 (pl + 1) cs (sk + 1) cl b26 nc (upd sg sk (p_h S0 pl)) ov bh o26 na) R _
      refine h_isGF hb26 ?_
      show w_T L xs (d + 5) m_X12_pieceOfC 36 [(0, .ref 100)] [.int (Int32.ofInt 0)] (p_S S0 (pl + 1) cs (sk + 1) cl b26 nc (upd sg sk (p_h S0 pl)) ov bh o26 na) R Q
      refine w_st rfl (fun _ => rfl) ?_
      refine w_st rfl (fun _ => rfl) ?_
      show w_T L xs (d + 5) m_X12_pieceOfC 44 [(0, .ref 100)] [.ref 100] (p_S S0 (pl + 1) cs (sk + 1) cl b26 nc (upd sg sk (p_h S0 pl)) ov bh o26 na) R Q
      refine w_cv rfl (by decide) mt_X12_isGood v_tyM rfl rfl rfl (Nat.le_of_ble_eq_true rfl) (Nat.le_of_ble_eq_true rfl) (Nat.le_of_ble_eq_true rfl) ?_
      show w_T L xs _ m_X12_isGood 0 (lv_args 0 [.ref 100]) [] (p_S S0 (pl + 1) cs (sk + 1) cl b26 nc (upd sg sk (p_h S0 pl)) ov bh o26 na) R _
      refine h_isGF hb26 ?_
      show w_T L xs (d + 5) m_X12_pieceOfC 47 [(0, .ref 100)] [.int (Int32.ofInt 0)] (p_S S0 (pl + 1) cs (sk + 1) cl b26 nc (upd sg sk (p_h S0 pl)) ov bh o26 na) R Q
      refine w_st rfl (fun _ => rfl) ?_
      show w_T L xs (d + 5) m_X12_pieceOfC 50 [(0, .ref 100)] [] (p_S S0 (pl + 1) cs (sk + 1) cl b26 nc (upd sg sk (p_h S0 pl)) ov bh o26 na) R Q
      refine w_ret rfl rfl ?_
      exact Kb _ _ _ _ _ _ _ _ _ hb26 (by omega) (by omega)
  · refine w_st rfl (fun _ => rfl) ?_
    show w_T L xs (d + 5) m_X12_pieceOfC 17 [(0, .ref 100)] [.ref 100] (p_S S0 pl cs sk cl (Int32.ofInt 0) nc sg ov bh op na) R Q
    refine w_cv rfl (by decide) mt_X12_here v_tyM rfl rfl rfl (Nat.le_of_ble_eq_true rfl) (Nat.le_of_ble_eq_true rfl) (Nat.le_of_ble_eq_true rfl) ?_
    show w_T L xs _ m_X12_here 0 (lv_args 0 [.ref 100]) [] (p_S S0 pl cs sk cl (Int32.ofInt 0) nc sg ov bh op na) R _
    refine h_here (by omega) ?_
    refine w_st rfl (fun _ => rfl) ?_
    show w_T L xs (d + 5) m_X12_pieceOfC 22 [(0, .ref 100)] [.int (Int32.ofInt 40), .int (p_h S0 pl)] (p_S S0 pl cs sk cl (Int32.ofInt 0) nc sg ov bh op na) R Q
    refine w_br (P := ¬ (p_h S0 pl) = (Int32.ofInt 40)) rfl (fun _ => rfl) (fun h22 => ?_) (fun h22 => ?_)
    · refine w_st rfl (fun _ => rfl) ?_
      show w_T L xs (d + 5) m_X12_pieceOfC 33 [(0, .ref 100)] [.ref 100] (p_S S0 pl cs sk cl (Int32.ofInt 0) nc sg ov bh op na) R Q
      refine w_cv rfl (by decide) mt_X12_isGood v_tyM rfl rfl rfl (Nat.le_of_ble_eq_true rfl) (Nat.le_of_ble_eq_true rfl) (Nat.le_of_ble_eq_true rfl) ?_
      show w_T L xs _ m_X12_isGood 0 (lv_args 0 [.ref 100]) [] (p_S S0 pl cs sk cl (Int32.ofInt 0) nc sg ov bh op na) R _
      refine h_isGT ?_
      show w_T L xs (d + 5) m_X12_pieceOfC 36 [(0, .ref 100)] [.int (Int32.ofInt 1)] (p_S S0 pl cs sk cl (Int32.ofInt 0) nc sg ov bh op na) R Q
      refine w_st rfl (fun _ => rfl) ?_
      refine w_st rfl (fun _ => rfl) ?_
      show w_T L xs (d + 5) m_X12_pieceOfC 40 [(0, .ref 100)] [.ref 100] (p_S S0 pl cs sk cl (Int32.ofInt 0) nc sg ov bh op na) R Q
      refine w_cv rfl (by decide) mt_X12_value v_tyM rfl rfl rfl (Nat.le_of_ble_eq_true rfl) (Nat.le_of_ble_eq_true rfl) (Nat.le_of_ble_eq_true rfl) ?_
      show w_T L xs _ m_X12_value 0 (lv_args 0 [.ref 100]) [] (p_S S0 pl cs sk cl (Int32.ofInt 0) nc sg ov bh op na) R _
      refine h_value he hI (fun _ => (p_C_V hC).2.2.2 hC.1) hb hp (fun pl1 cs1 nc1 sg1 na1 o1 h1 l1 i1 e1 j1 k1 => ?_) (fun pl1 cs1 sk1 b40 nc1 sg1 na1 o1 h1 hb40 j1 k1 => ?_)
      · show w_T L xs (d + 5) m_X12_pieceOfC 43 [(0, .ref 100)] [] (p_S S0 pl1 cs1 sk cl (Int32.ofInt 0) nc1 sg1 ov h1 o1 na1) R Q
        refine w_st rfl (fun _ => rfl) ?_
        show w_T L xs (d + 5) m_X12_pieceOfC 44 [(0, .ref 100)] [.ref 100] (p_S S0 pl1 cs1 sk cl (Int32.ofInt 0) nc1 sg1 ov h1 o1 na1) R Q
        refine w_cv rfl (by decide) mt_X12_isGood v_tyM rfl rfl rfl (Nat.le_of_ble_eq_true rfl) (Nat.le_of_ble_eq_true rfl) (Nat.le_of_ble_eq_true rfl) ?_
        show w_T L xs _ m_X12_isGood 0 (lv_args 0 [.ref 100]) [] (p_S S0 pl1 cs1 sk cl (Int32.ofInt 0) nc1 sg1 ov h1 o1 na1) R _
        refine h_isGT ?_
        show w_T L xs (d + 5) m_X12_pieceOfC 47 [(0, .ref 100)] [.int (Int32.ofInt 1)] (p_S S0 pl1 cs1 sk cl (Int32.ofInt 0) nc1 sg1 ov h1 o1 na1) R Q
        refine w_st rfl (fun _ => rfl) ?_
        refine w_st rfl (fun _ => rfl) ?_
        show w_T L xs (d + 5) m_X12_pieceOfC 52 [(0, .ref 100)] [.ref 100] (p_S S0 pl1 cs1 sk cl (Int32.ofInt 0) nc1 sg1 ov h1 o1 na1) R Q
        refine w_cv rfl (by decide) mt_X12_here v_tyM rfl rfl rfl (Nat.le_of_ble_eq_true rfl) (Nat.le_of_ble_eq_true rfl) (Nat.le_of_ble_eq_true rfl) ?_
        show w_T L xs _ m_X12_here 0 (lv_args 0 [.ref 100]) [] (p_S S0 pl1 cs1 sk cl (Int32.ofInt 0) nc1 sg1 ov h1 o1 na1) R _
        refine h_here (by omega) ?_
        refine w_st rfl (fun _ => rfl) ?_
        refine w_st rfl (fun _ => rfl) ?_
        show w_T L xs (d + 5) m_X12_pieceOfC 57 [(1, .int (p_h S0 pl1)), (0, .ref 100)] [.int (p_h S0 pl1)] (p_S S0 pl1 cs1 sk cl (Int32.ofInt 0) nc1 sg1 ov h1 o1 na1) R Q
        refine w_cs rfl (by decide) mt_X12_isCompared (fun _ => rfl) (Nat.le_of_ble_eq_true rfl) (Nat.le_of_ble_eq_true rfl) ?_
        show w_T L xs _ m_X12_isCompared 0 (lv_args 0 [.int (p_h S0 pl1)]) [] (p_S S0 pl1 cs1 sk cl (Int32.ofInt 0) nc1 sg1 ov h1 o1 na1) R _
        refine h_isCompared _ (fun c57 => ?_) (fun c57 => ?_)
        · have hlt := p_h_lt (fun e => p_cm0 (e ▸ c57))
          show w_T L xs (d + 5) m_X12_pieceOfC 60 [(1, .int (p_h S0 pl1)), (0, .ref 100)] [.int (Int32.ofInt 1)] (p_S S0 pl1 cs1 sk cl (Int32.ofInt 0) nc1 sg1 ov h1 o1 na1) R Q
          refine w_st rfl (fun _ => rfl) ?_
          refine w_st rfl (fun _ => rfl) ?_
          refine w_st rfl (fun _ => rfl) ?_
          show w_T L xs (d + 5) m_X12_pieceOfC 75 [(1, .int (p_h S0 pl1)), (0, .ref 100)] [.int (p_h S0 pl1), .ref 100] (p_S S0 pl1 cs1 sk cl (Int32.ofInt 0) nc1 sg1 ov h1 o1 na1) R Q
          refine w_cv rfl (by decide) mt_X12_puts v_tyM rfl rfl rfl (Nat.le_of_ble_eq_true rfl) (Nat.le_of_ble_eq_true rfl) (Nat.le_of_ble_eq_true rfl) ?_
          show w_T L xs _ m_X12_puts 0 (lv_args 0 [.ref 100, .int (p_h S0 pl1)]) [] (p_S S0 pl1 cs1 sk cl (Int32.ofInt 0) nc1 sg1 ov h1 o1 na1) R _
          refine h_puts (by omega) (by omega) ?_
          refine w_st rfl (fun _ => rfl) ?_
          show w_T L xs (d + 5) m_X12_pieceOfC 79 [(1, .int (p_h S0 pl1)), (0, .ref 100)] [.ref 100] (p_S S0 (pl1 + 1) cs1 (sk + 1) cl (Int32.ofInt 0) nc1 (upd sg1 sk (p_h S0 pl1)) ov h1 o1 na1) R Q
          refine w_cv rfl (by decide) mt_X12_value v_tyM rfl rfl rfl (Nat.le_of_ble_eq_true rfl) (Nat.le_of_ble_eq_true rfl) (Nat.le_of_ble_eq_true rfl) ?_
          show w_T L xs _ m_X12_value 0 (lv_args 0 [.ref 100]) [] (p_S S0 (pl1 + 1) cs1 (sk + 1) cl (Int32.ofInt 0) nc1 (upd sg1 sk (p_h S0 pl1)) ov h1 o1 na1) R _
          refine h_value he (p_I_pb i1 (p_bi_cm c57)) (fun _ => by rw [Nat.add_sub_cancel, p_upe]; exact p_cm_nvs c57) (by omega) (by omega) (fun pl2 cs2 nc2 sg2 na2 o2 h2 l2 i2 e2 j2 k2 => ?_) (fun pl2 cs2 sk2 b79 nc2 sg2 na2 o2 h2 hb79 j2 k2 => ?_)
          · show w_T L xs (d + 5) m_X12_pieceOfC 82 [(1, .int (p_h S0 pl1)), (0, .ref 100)] [] (p_S S0 pl2 cs2 (sk + 1) cl (Int32.ofInt 0) nc2 sg2 ov h2 o2 na2) R Q
            refine w_st rfl (fun _ => rfl) ?_
            show w_T L xs (d + 5) m_X12_pieceOfC 83 [(1, .int (p_h S0 pl1)), (0, .ref 100)] [.ref 100] (p_S S0 pl2 cs2 (sk + 1) cl (Int32.ofInt 0) nc2 sg2 ov h2 o2 na2) R Q
            refine w_cv rfl (by decide) mt_X12_isGood v_tyM rfl rfl rfl (Nat.le_of_ble_eq_true rfl) (Nat.le_of_ble_eq_true rfl) (Nat.le_of_ble_eq_true rfl) ?_
            show w_T L xs _ m_X12_isGood 0 (lv_args 0 [.ref 100]) [] (p_S S0 pl2 cs2 (sk + 1) cl (Int32.ofInt 0) nc2 sg2 ov h2 o2 na2) R _
            refine h_isGT ?_
            show w_T L xs (d + 5) m_X12_pieceOfC 86 [(1, .int (p_h S0 pl1)), (0, .ref 100)] [.int (Int32.ofInt 1)] (p_S S0 pl2 cs2 (sk + 1) cl (Int32.ofInt 0) nc2 sg2 ov h2 o2 na2) R Q
            refine w_st rfl (fun _ => rfl) ?_
            refine w_st rfl (fun _ => rfl) ?_
            refine w_st rfl (fun _ => rfl) ?_
            show w_T L xs (d + 5) m_X12_pieceOfC 92 [(1, .int (p_h S0 pl1)), (0, .ref 100)] [.ref 100, .ref 100] (p_S S0 pl2 cs2 (sk + 1) cl (Int32.ofInt 0) nc2 sg2 ov h2 o2 na2) R Q
            refine w_cv rfl (by decide) mt_X12_top v_tyM rfl rfl rfl (Nat.le_of_ble_eq_true rfl) (Nat.le_of_ble_eq_true rfl) (Nat.le_of_ble_eq_true rfl) ?_
            show w_T L xs _ m_X12_top 0 (lv_args 0 [.ref 100]) [] (p_S S0 pl2 cs2 (sk + 1) cl (Int32.ofInt 0) nc2 sg2 ov h2 o2 na2) R _
            refine h_top (by omega) ?_
            refine w_st rfl (fun _ => rfl) ?_
            show w_T L xs (d + 5) m_X12_pieceOfC 96 [(1, .int (p_h S0 pl1)), (0, .ref 100)] [.int (Int32.ofInt 0), .int (p_tp sg2 (sk + 1)), .ref 100] (p_S S0 pl2 cs2 (sk + 1) cl (Int32.ofInt 0) nc2 sg2 ov h2 o2 na2) R Q
            refine w_cv rfl (by decide) mt_X12_emit v_tyM rfl rfl rfl (Nat.le_of_ble_eq_true rfl) (Nat.le_of_ble_eq_true rfl) (Nat.le_of_ble_eq_true rfl) ?_
            show w_T L xs _ m_X12_emit 0 (lv_args 0 [.ref 100, .int (p_tp sg2 (sk + 1)), .int (Int32.ofInt 0)]) [] (p_S S0 pl2 cs2 (sk + 1) cl (Int32.ofInt 0) nc2 sg2 ov h2 o2 na2) R _
            refine h_emG (by omega) ?_
            refine w_st rfl (fun _ => rfl) ?_
            refine w_st rfl (fun _ => rfl) ?_
            show w_T L xs (d + 5) m_X12_pieceOfC 101 [(1, .int (p_h S0 pl1)), (0, .ref 100)] [.ref 100, .ref 100] (p_S S0 pl2 (cs2 + 1) (sk + 1) cl (Int32.ofInt 0) (upd nc2 cs2 (p_tp sg2 (sk + 1))) sg2 ov h2 o2 (upd na2 cs2 (Int32.ofInt 0))) R Q
            refine w_get rfl v_tyM rfl ?_
            refine w_st rfl (fun _ => rfl) ?_
            refine w_st rfl (fun _ => rfl) ?_
            show w_T L xs (d + 5) m_X12_pieceOfC 106 [(1, .int (p_h S0 pl1)), (0, .ref 100)] [.int ((Int32.ofInt ((sk + 1 : Nat) : Int)) - (Int32.ofInt 1)), .ref 100] (p_S S0 pl2 (cs2 + 1) (sk + 1) cl (Int32.ofInt 0) (upd nc2 cs2 (p_tp sg2 (sk + 1))) sg2 ov h2 o2 (upd na2 cs2 (Int32.ofInt 0))) R Q
            refine w_put rfl v_tyM rfl rfl rfl ?_
            refine w_eqS (p_wsk (w_dec2 (by omega))) ?_
            refine w_st rfl (fun _ => rfl) ?_
            show w_T L xs (d + 5) m_X12_pieceOfC 110 [(1, .int (p_h S0 pl1)), (0, .ref 100)] [.ref 100] (p_S S0 pl2 (cs2 + 1) ((sk + 1) - 1) cl (Int32.ofInt 0) (upd nc2 cs2 (p_tp sg2 (sk + 1))) sg2 ov h2 o2 (upd na2 cs2 (Int32.ofInt 0))) R Q
            refine w_cv rfl (by decide) mt_X12_ends v_tyM rfl rfl rfl (Nat.le_of_ble_eq_true rfl) (Nat.le_of_ble_eq_true rfl) (Nat.le_of_ble_eq_true rfl) ?_
            show w_T L xs _ m_X12_ends 0 (lv_args 0 [.ref 100]) [] (p_S S0 pl2 (cs2 + 1) ((sk + 1) - 1) cl (Int32.ofInt 0) (upd nc2 cs2 (p_tp sg2 (sk + 1))) sg2 ov h2 o2 (upd na2 cs2 (Int32.ofInt 0))) R _
            have et : p_tp sg2 (sk + 1) = p_h S0 pl1 := by
              unfold p_tp
              rw [if_pos (by omega), Nat.add_sub_cancel, e2 sk (by omega), p_upe]
            have hC2 : p_C (sk + 1 - 1) sg2 := p_C_sg hC (fun j hj => by rw [e2 j (by omega), p_upn (by omega), e1 j (by omega)])
            obtain ⟨hk9, hI9⟩ := p_I_bin i2 (by rw [et]; exact p_bi_cm c57)
            refine h_ends q nc0 k2 (sk + 1 - 1) (sk + 1 - 1) (cs2 + 1) _ _ _ (Nat.le_refl _) hI9 hC2 (by omega) (fun sk3 cs3 nc3 na3 o3 i3 c3 j3 => ?_)
            show w_T L xs (d + 5) m_X12_pieceOfC 113 [(1, .int (p_h S0 pl1)), (0, .ref 100)] [] (p_S S0 pl2 cs3 sk3 cl (Int32.ofInt 0) nc3 sg2 ov h2 o3 na3) R Q
            refine w_ret rfl rfl ?_
            exact Kg _ _ _ _ _ _ _ _ (by omega) i3 c3 (by omega) (by omega)
          · show w_T L xs (d + 5) m_X12_pieceOfC 82 [(1, .int (p_h S0 pl1)), (0, .ref 100)] [] (p_S S0 pl2 cs2 sk2 cl b79 nc2 sg2 ov h2 o2 na2) R Q
            refine w_st rfl (fun _ => rfl) ?_
            show w_T L xs (d + 5) m_X12_pieceOfC 83 [(1, .int (p_h S0 pl1)), (0, .ref 100)] [.ref 100] (p_S S0 pl2 cs2 sk2 cl b79 nc2 sg2 ov h2 o2 na2) R Q
            refine w_cv rfl (by decide) mt_X12_isGood v_tyM rfl rfl rfl (Nat.le_of_ble_eq_true rfl) (Nat.le_of_ble_eq_true rfl) (Nat.le_of_ble_eq_true rfl) ?_
            show w_T L xs _ m_X12_isGood 0 (lv_args 0 [.ref 100]) [] (p_S S0 pl2 cs2 sk2 cl b79 nc2 sg2 ov h2 o2 na2) R _
            refine h_isGF hb79 ?_
            show w_T L xs (d + 5) m_X12_pieceOfC 86 [(1, .int (p_h S0 pl1)), (0, .ref 100)] [.int (Int32.ofInt 0)] (p_S S0 pl2 cs2 sk2 cl b79 nc2 sg2 ov h2 o2 na2) R Q
            refine w_st rfl (fun _ => rfl) ?_
            show w_T L xs (d + 5) m_X12_pieceOfC 89 [(1, .int (p_h S0 pl1)), (0, .ref 100)] [] (p_S S0 pl2 cs2 sk2 cl b79 nc2 sg2 ov h2 o2 na2) R Q
            refine w_ret rfl rfl ?_
            exact Kb _ _ _ _ _ _ _ _ _ hb79 (by omega) (by omega)
        · show w_T L xs (d + 5) m_X12_pieceOfC 60 [(1, .int (p_h S0 pl1)), (0, .ref 100)] [.int (Int32.ofInt 0)] (p_S S0 pl1 cs1 sk cl (Int32.ofInt 0) nc1 sg1 ov h1 o1 na1) R Q
          refine w_st rfl (fun _ => rfl) ?_
          refine w_st rfl (fun _ => rfl) ?_
          refine w_st rfl (fun _ => rfl) ?_
          refine w_st rfl (fun _ => rfl) ?_
          show w_T L xs (d + 5) m_X12_pieceOfC 66 [(1, .int (p_h S0 pl1)), (0, .ref 100)] [.ref 100, .int (Int32.ofInt 1), .ref 100] (p_S S0 pl1 cs1 sk cl (Int32.ofInt 0) nc1 sg1 ov h1 o1 na1) R Q
          refine w_get rfl v_tyM rfl ?_
          show w_T L xs (d + 5) m_X12_pieceOfC 69 [(1, .int (p_h S0 pl1)), (0, .ref 100)] [.int (Int32.ofInt (pl1 : Int)), .int (Int32.ofInt 1), .ref 100] (p_S S0 pl1 cs1 sk cl (Int32.ofInt 0) nc1 sg1 ov h1 o1 na1) R Q
          refine w_cv rfl (by decide) mt_X12_wrongs v_tyM rfl rfl rfl (Nat.le_of_ble_eq_true rfl) (Nat.le_of_ble_eq_true rfl) (Nat.le_of_ble_eq_true rfl) ?_
          show w_T L xs _ m_X12_wrongs 0 (lv_args 0 [.ref 100, .int (Int32.ofInt 1), .int (Int32.ofInt (pl1 : Int))]) [] (p_S S0 pl1 cs1 sk cl (Int32.ofInt 0) nc1 sg1 ov h1 o1 na1) R _
          refine h_wr (by decide) (by decide) (by rw [w_nat (by omega)]; omega) (by rw [w_nat (by omega)]; omega) (fun b69 hb69 => ?_)
          show w_T L xs (d + 5) m_X12_pieceOfC 72 [(1, .int (p_h S0 pl1)), (0, .ref 100)] [] (p_S S0 pl1 cs1 sk cl b69 nc1 sg1 ov h1 o1 na1) R Q
          refine w_ret rfl rfl ?_
          exact Kb _ _ _ _ _ _ _ _ _ hb69 (by omega) (by omega)
      · show w_T L xs (d + 5) m_X12_pieceOfC 43 [(0, .ref 100)] [] (p_S S0 pl1 cs1 sk1 cl b40 nc1 sg1 ov h1 o1 na1) R Q
        refine w_st rfl (fun _ => rfl) ?_
        show w_T L xs (d + 5) m_X12_pieceOfC 44 [(0, .ref 100)] [.ref 100] (p_S S0 pl1 cs1 sk1 cl b40 nc1 sg1 ov h1 o1 na1) R Q
        refine w_cv rfl (by decide) mt_X12_isGood v_tyM rfl rfl rfl (Nat.le_of_ble_eq_true rfl) (Nat.le_of_ble_eq_true rfl) (Nat.le_of_ble_eq_true rfl) ?_
        show w_T L xs _ m_X12_isGood 0 (lv_args 0 [.ref 100]) [] (p_S S0 pl1 cs1 sk1 cl b40 nc1 sg1 ov h1 o1 na1) R _
        refine h_isGF hb40 ?_
        show w_T L xs (d + 5) m_X12_pieceOfC 47 [(0, .ref 100)] [.int (Int32.ofInt 0)] (p_S S0 pl1 cs1 sk1 cl b40 nc1 sg1 ov h1 o1 na1) R Q
        refine w_st rfl (fun _ => rfl) ?_
        show w_T L xs (d + 5) m_X12_pieceOfC 50 [(0, .ref 100)] [] (p_S S0 pl1 cs1 sk1 cl b40 nc1 sg1 ov h1 o1 na1) R Q
        refine w_ret rfl rfl ?_
        exact Kb _ _ _ _ _ _ _ _ _ hb40 (by omega) (by omega)
    · have e22 := Decidable.of_not_not h22
      have hlt := p_h_lt (S0 := S0) (pl := pl) (by rw [e22]; decide)
      have hbf : p_bi (p_h S0 pl) = false := by rw [e22]; decide
      have hcc : p_cc (p_h S0 pl) := Or.inr (Or.inl e22)
      refine w_st rfl (fun _ => rfl) ?_
      show w_T L xs (d + 5) m_X12_pieceOfC 26 [(0, .ref 100)] [.ref 100] (p_S S0 pl cs sk cl (Int32.ofInt 0) nc sg ov bh op na) R Q
      refine w_cv rfl (by decide) mt_X12_opens v_tyM rfl rfl rfl (Nat.le_of_ble_eq_true rfl) (Nat.le_of_ble_eq_true rfl) (Nat.le_of_ble_eq_true rfl) ?_
      show w_T L xs _ m_X12_opens 0 (lv_args 0 [.ref 100]) [] (p_S S0 pl cs sk cl (Int32.ofInt 0) nc sg ov bh op na) R _
      refine h_opens (by omega) (by omega) (fun o26 => ?_) (fun o26 b26 hb26 => ?_)
      · show w_T L xs (d + 5) m_X12_pieceOfC 29 [(0, .ref 100)] [] (p_S S0 (pl + 1) cs (sk + 1) cl (Int32.ofInt 0) nc (upd sg sk (p_h S0 pl)) ov bh o26 na) R Q
        refine w_st rfl (fun _ => rfl) ?_
        show w_T L xs (d + 5) m_X12_pieceOfC 0 [(0, .ref 100)] [] (p_S S0 (pl + 1) cs (sk + 1) cl (Int32.ofInt 0) nc (upd sg sk (p_h S0 pl)) ov bh o26 na) R Q
        exact K0 _ (by omega) (p_I_pn hI hbf) (p_C_psh hC hcc)
      · show w_T L xs (d + 5) m_X12_pieceOfC 29 [(0, .ref 100)] [] (p_S S0 (pl + 1) cs (sk + 1) cl b26 nc (upd sg sk (p_h S0 pl)) ov bh o26 na) R Q
        refine w_st rfl (fun _ => rfl) ?_
        show w_T L xs (d + 5) m_X12_pieceOfC 0 [(0, .ref 100)] [] (p_S S0 (pl + 1) cs (sk + 1) cl b26 nc (upd sg sk (p_h S0 pl)) ov bh o26 na) R Q
        refine w_st rfl (fun _ => rfl) ?_
        show w_T L xs (d + 5) m_X12_pieceOfC 1 [(0, .ref 100)] [.ref 100] (p_S S0 (pl + 1) cs (sk + 1) cl b26 nc (upd sg sk (p_h S0 pl)) ov bh o26 na) R Q
        refine w_cv rfl (by decide) mt_X12_isGood v_tyM rfl rfl rfl (Nat.le_of_ble_eq_true rfl) (Nat.le_of_ble_eq_true rfl) (Nat.le_of_ble_eq_true rfl) ?_
        show w_T L xs _ m_X12_isGood 0 (lv_args 0 [.ref 100]) [] (p_S S0 (pl + 1) cs (sk + 1) cl b26 nc (upd sg sk (p_h S0 pl)) ov bh o26 na) R _
        refine h_isGF hb26 ?_
        show w_T L xs (d + 5) m_X12_pieceOfC 4 [(0, .ref 100)] [.int (Int32.ofInt 0)] (p_S S0 (pl + 1) cs (sk + 1) cl b26 nc (upd sg sk (p_h S0 pl)) ov bh o26 na) R Q
        refine w_st rfl (fun _ => rfl) ?_
        refine w_st rfl (fun _ => rfl) ?_
        show w_T L xs (d + 5) m_X12_pieceOfC 33 [(0, .ref 100)] [.ref 100] (p_S S0 (pl + 1) cs (sk + 1) cl b26 nc (upd sg sk (p_h S0 pl)) ov bh o26 na) R Q
        refine w_cv rfl (by decide) mt_X12_isGood v_tyM rfl rfl rfl (Nat.le_of_ble_eq_true rfl) (Nat.le_of_ble_eq_true rfl) (Nat.le_of_ble_eq_true rfl) ?_
        show w_T L xs _ m_X12_isGood 0 (lv_args 0 [.ref 100]) [] (p_S S0 (pl + 1) cs (sk + 1) cl b26 nc (upd sg sk (p_h S0 pl)) ov bh o26 na) R _
        refine h_isGF hb26 ?_
        show w_T L xs (d + 5) m_X12_pieceOfC 36 [(0, .ref 100)] [.int (Int32.ofInt 0)] (p_S S0 (pl + 1) cs (sk + 1) cl b26 nc (upd sg sk (p_h S0 pl)) ov bh o26 na) R Q
        refine w_st rfl (fun _ => rfl) ?_
        refine w_st rfl (fun _ => rfl) ?_
        show w_T L xs (d + 5) m_X12_pieceOfC 44 [(0, .ref 100)] [.ref 100] (p_S S0 (pl + 1) cs (sk + 1) cl b26 nc (upd sg sk (p_h S0 pl)) ov bh o26 na) R Q
        refine w_cv rfl (by decide) mt_X12_isGood v_tyM rfl rfl rfl (Nat.le_of_ble_eq_true rfl) (Nat.le_of_ble_eq_true rfl) (Nat.le_of_ble_eq_true rfl) ?_
        show w_T L xs _ m_X12_isGood 0 (lv_args 0 [.ref 100]) [] (p_S S0 (pl + 1) cs (sk + 1) cl b26 nc (upd sg sk (p_h S0 pl)) ov bh o26 na) R _
        refine h_isGF hb26 ?_
        show w_T L xs (d + 5) m_X12_pieceOfC 47 [(0, .ref 100)] [.int (Int32.ofInt 0)] (p_S S0 (pl + 1) cs (sk + 1) cl b26 nc (upd sg sk (p_h S0 pl)) ov bh o26 na) R Q
        refine w_st rfl (fun _ => rfl) ?_
        show w_T L xs (d + 5) m_X12_pieceOfC 50 [(0, .ref 100)] [] (p_S S0 (pl + 1) cs (sk + 1) cl b26 nc (upd sg sk (p_h S0 pl)) ov bh o26 na) R Q
        refine w_ret rfl rfl ?_
        exact Kb _ _ _ _ _ _ _ _ _ hb26 (by omega) (by omega)
theorem h_piece (q : Nat) (nc0 : Nat → Int32) (he : (S0 99 4).toInt ≤ 240) : ∀ (n pl sk : Nat) (sg : Nat → Int32) (op : Int32), 240 ≤ pl + n → p_I q nc0 cs sk nc sg 0 → p_C sk sg → cs + sk ≤ pl → pl ≤ 240 → (∀ (pl' cs' sk' : Nat) (nc' sg' na' : Nat → Int32) (o : Int32) (h' : Bool), pl ≤ pl' → p_I q nc0 cs' sk' nc' sg' 1 → p_C sk' sg' → cs' + sk' ≤ pl' → pl' ≤ 240 → Q none (p_S S0 (pl') (cs') (sk') cl (Int32.ofInt 0) (nc') (sg') ov (h') o (na')) R) → (∀ (pl' cs' sk' : Nat) (b' : Int32) (nc' sg' na' : Nat → Int32) (o : Int32) (h' : Bool), b'.toInt < 0 → cs' + sk' ≤ pl' → pl' ≤ 240 → Q none (p_S S0 (pl') (cs') (sk') cl (b') (nc') (sg') ov (h') o (na')) R) → w_T L xs (d + 5) m_X12_pieceOfC 0 (lv_args 0 [.ref 100]) [] (p_S S0 pl cs sk cl (Int32.ofInt 0) nc sg ov bh op na) R Q := by
  intro n
  induction n with
  | zero =>
    intro pl sk sg op hn hI hC hb hp Kg Kb
    exact h_piS he hI hC hb hp (fun _ h _ _ => absurd h (by omega)) Kg Kb
  | succ n ih =>
    intro pl sk sg op hn hI hC hb hp Kg Kb
    exact h_piS he hI hC hb hp (fun o h h1 h2 => ih (pl + 1) (sk + 1) _ o (by omega) h1 h2 (by omega) (by omega) (fun pl' cs' sk' nc' sg' na' o' h' l => Kg pl' cs' sk' nc' sg' na' o' h' (by omega)) Kb) Kg Kb
theorem h_goes {q : Nat} {nc0 : Nat → Int32} (he : (S0 99 4).toInt ≤ 240) (hI : p_I q nc0 cs sk nc sg 1) (hC : p_C sk sg) (hb : cs + sk ≤ pl) (hp : pl ≤ 240) (K1 : ∀ (cs' sk' : Nat) (nc' sg' na' : Nat → Int32), p_I q nc0 cs' sk' nc' sg' 0 → p_C sk' sg' → cs' + sk' ≤ pl + 1 → pl + 1 ≤ 240 → Q (some (.int (Int32.ofInt 1))) (p_S S0 (pl + 1) (cs') (sk') cl (Int32.ofInt 0) (nc') (sg') ov bh op (na')) R) (K2 : ∀ (cs' sk' : Nat) (nc' na' : Nat → Int32) (o : Int32), p_I q nc0 cs' sk' nc' sg 1 → cs' + sk' ≤ pl + 1 → pl + 1 ≤ 240 → Q (some (.int (Int32.ofInt 0))) (p_S S0 (pl + 1) (cs') (sk') cl (Int32.ofInt 0) (nc') sg true bh o (na')) R) (K3 : ∀ (cs' sk' : Nat) (nc' na' : Nat → Int32) (o : Int32), p_I q nc0 cs' sk' nc' sg 1 → p_C sk' sg → cs' + sk' ≤ pl + 1 → pl + 1 ≤ 240 → Q (some (.int (Int32.ofInt 0))) (p_S S0 (pl + 1) (cs') (sk') cl (Int32.ofInt 0) (nc') sg false bh o (na')) R) (Kb : ∀ (b' : Int32), b'.toInt < 0 → Q (some (.int (Int32.ofInt 0))) (p_S S0 pl cs sk cl (b') nc sg ov bh op na) R) : w_T L xs (d + 3) m_X12_goesBehind 0 (lv_args 0 [.ref 100]) [] (p_S S0 pl cs sk cl (Int32.ofInt 0) nc sg ov bh op na) R Q := by
  refine w_st rfl (fun _ => rfl) ?_
  show w_T L xs (d + 3) m_X12_goesBehind 1 [(0, .ref 100)] [.ref 100] (p_S S0 pl cs sk cl (Int32.ofInt 0) nc sg ov bh op na) R Q
  refine w_cv rfl (by decide) mt_X12_here v_tyM rfl rfl rfl (Nat.le_of_ble_eq_true rfl) (Nat.le_of_ble_eq_true rfl) (Nat.le_of_ble_eq_true rfl) ?_
  show w_T L xs _ m_X12_here 0 (lv_args 0 [.ref 100]) [] (p_S S0 pl cs sk cl (Int32.ofInt 0) nc sg ov bh op na) R _
  refine h_here (by omega) ?_
  refine w_st rfl (fun _ => rfl) ?_
  refine w_st rfl (fun _ => rfl) ?_
  refine w_st rfl (fun _ => rfl) ?_
  show w_T L xs (d + 3) m_X12_goesBehind 8 [(1, .int (p_h S0 pl)), (0, .ref 100)] [.int (Int32.ofInt 38), .int (p_h S0 pl)] (p_S S0 pl cs sk cl (Int32.ofInt 0) nc sg ov bh op na) R Q
  refine w_br (P := (p_h S0 pl) = (Int32.ofInt 38)) rfl (fun _ => rfl) (fun h8 => ?_) (fun h8 => ?_)
  · have hlt := p_h_lt (S0 := S0) (pl := pl) (by rw [h8]; decide)
    have hjo : p_jo (p_h S0 pl) := Or.inl h8
    have hbi := p_bi_jo hjo
    have hcc : p_cc (p_h S0 pl) := Or.inl hjo
    refine w_st rfl (fun _ => rfl) ?_
    refine w_st rfl (fun _ => rfl) ?_
    refine w_st rfl (fun _ => rfl) ?_
    show w_T L xs (d + 3) m_X12_goesBehind 21 [(1, .int (p_h S0 pl)), (0, .ref 100)] [.int (Int32.ofInt 124), .int (p_h S0 pl), .ref 100] (p_S S0 pl cs sk cl (Int32.ofInt 0) nc sg ov bh op na) R Q
    refine w_br (P := ¬ (p_h S0 pl) = (Int32.ofInt 124)) rfl (fun _ => rfl) (fun h21 => ?_) (fun h21 => ?_)
    · refine w_st rfl (fun _ => rfl) ?_
      show w_T L xs (d + 3) m_X12_goesBehind 29 [(1, .int (p_h S0 pl)), (0, .ref 100)] [.int (Int32.ofInt 0), .ref 100] (p_S S0 pl cs sk cl (Int32.ofInt 0) nc sg ov bh op na) R Q
      refine w_cv rfl (by decide) mt_X12_joins v_tyM rfl rfl rfl (Nat.le_of_ble_eq_true rfl) (Nat.le_of_ble_eq_true rfl) (Nat.le_of_ble_eq_true rfl) ?_
      show w_T L xs _ m_X12_joins 0 (lv_args 0 [.ref 100, .int (Int32.ofInt 0)]) [] (p_S S0 pl cs sk cl (Int32.ofInt 0) nc sg ov bh op na) R _
      refine h_joins _ q nc0 hp sk sk cs nc na (Nat.le_refl _) hI hC hb (fun sk1 cs1 nc1 na1 i1 c1 j1 t1 t2 => ?_)
      refine w_st rfl (fun _ => rfl) ?_
      refine w_st rfl (fun _ => rfl) ?_
      show w_T L xs (d + 3) m_X12_goesBehind 34 [(1, .int (p_h S0 pl)), (0, .ref 100)] [.int (p_h S0 pl), .ref 100] (p_S S0 pl cs1 sk1 cl (Int32.ofInt 0) nc1 sg ov bh op na1) R Q
      refine w_cv rfl (by decide) mt_X12_puts v_tyM rfl rfl rfl (Nat.le_of_ble_eq_true rfl) (Nat.le_of_ble_eq_true rfl) (Nat.le_of_ble_eq_true rfl) ?_
      show w_T L xs _ m_X12_puts 0 (lv_args 0 [.ref 100, .int (p_h S0 pl)]) [] (p_S S0 pl cs1 sk1 cl (Int32.ofInt 0) nc1 sg ov bh op na1) R _
      refine h_puts (by omega) (by omega) ?_
      refine w_st rfl (fun _ => rfl) ?_
      show w_T L xs (d + 3) m_X12_goesBehind 38 [(1, .int (p_h S0 pl)), (0, .ref 100)] [.int (Int32.ofInt 1)] (p_S S0 (pl + 1) cs1 (sk1 + 1) cl (Int32.ofInt 0) nc1 (upd sg sk1 (p_h S0 pl)) ov bh op na1) R Q
      refine w_ret rfl (by rfl) ?_
      exact K1 _ _ _ _ _ (p_I_pb i1 hbi) (p_C_psh c1 hcc) (by omega) (by omega)
    · refine w_st rfl (fun _ => rfl) ?_
      refine w_st rfl (fun _ => rfl) ?_
      show w_T L xs (d + 3) m_X12_goesBehind 29 [(1, .int (p_h S0 pl)), (0, .ref 100)] [.int (Int32.ofInt 1), .ref 100] (p_S S0 pl cs sk cl (Int32.ofInt 0) nc sg ov bh op na) R Q
      refine w_cv rfl (by decide) mt_X12_joins v_tyM rfl rfl rfl (Nat.le_of_ble_eq_true rfl) (Nat.le_of_ble_eq_true rfl) (Nat.le_of_ble_eq_true rfl) ?_
      show w_T L xs _ m_X12_joins 0 (lv_args 0 [.ref 100, .int (Int32.ofInt 1)]) [] (p_S S0 pl cs sk cl (Int32.ofInt 0) nc sg ov bh op na) R _
      refine h_joins _ q nc0 hp sk sk cs nc na (Nat.le_refl _) hI hC hb (fun sk1 cs1 nc1 na1 i1 c1 j1 t1 t2 => ?_)
      refine w_st rfl (fun _ => rfl) ?_
      refine w_st rfl (fun _ => rfl) ?_
      show w_T L xs (d + 3) m_X12_goesBehind 34 [(1, .int (p_h S0 pl)), (0, .ref 100)] [.int (p_h S0 pl), .ref 100] (p_S S0 pl cs1 sk1 cl (Int32.ofInt 0) nc1 sg ov bh op na1) R Q
      refine w_cv rfl (by decide) mt_X12_puts v_tyM rfl rfl rfl (Nat.le_of_ble_eq_true rfl) (Nat.le_of_ble_eq_true rfl) (Nat.le_of_ble_eq_true rfl) ?_
      show w_T L xs _ m_X12_puts 0 (lv_args 0 [.ref 100, .int (p_h S0 pl)]) [] (p_S S0 pl cs1 sk1 cl (Int32.ofInt 0) nc1 sg ov bh op na1) R _
      refine h_puts (by omega) (by omega) ?_
      refine w_st rfl (fun _ => rfl) ?_
      show w_T L xs (d + 3) m_X12_goesBehind 38 [(1, .int (p_h S0 pl)), (0, .ref 100)] [.int (Int32.ofInt 1)] (p_S S0 (pl + 1) cs1 (sk1 + 1) cl (Int32.ofInt 0) nc1 (upd sg sk1 (p_h S0 pl)) ov bh op na1) R Q
      refine w_ret rfl (by rfl) ?_
      exact K1 _ _ _ _ _ (p_I_pb i1 hbi) (p_C_psh c1 hcc) (by omega) (by omega)
  · refine w_st rfl (fun _ => rfl) ?_
    refine w_st rfl (fun _ => rfl) ?_
    show w_T L xs (d + 3) m_X12_goesBehind 14 [(1, .int (p_h S0 pl)), (0, .ref 100)] [.int (Int32.ofInt 124), .int (p_h S0 pl)] (p_S S0 pl cs sk cl (Int32.ofInt 0) nc sg ov bh op na) R Q
    refine w_br (P := ¬ (p_h S0 pl) = (Int32.ofInt 124)) rfl (fun _ => rfl) (fun h14 => ?_) (fun h14 => ?_)
    · refine w_st rfl (fun _ => rfl) ?_
      refine w_st rfl (fun _ => rfl) ?_
      show w_T L xs (d + 3) m_X12_goesBehind 42 [(1, .int (p_h S0 pl)), (0, .ref 100)] [.int (Int32.ofInt 41), .int (p_h S0 pl)] (p_S S0 pl cs sk cl (Int32.ofInt 0) nc sg ov bh op na) R Q
      refine w_br (P := (p_h S0 pl) = (Int32.ofInt 41)) rfl (fun _ => rfl) (fun h42 => ?_) (fun h42 => ?_)
      · have hlt := p_h_lt (S0 := S0) (pl := pl) (by rw [h42]; decide)
        refine w_st rfl (fun _ => rfl) ?_
        refine w_st rfl (fun _ => rfl) ?_
        show w_T L xs (d + 3) m_X12_goesBehind 58 [(1, .int (p_h S0 pl)), (0, .ref 100)] [.int (Int32.ofInt 1), .ref 100] (p_S S0 pl cs sk cl (Int32.ofInt 0) nc sg ov bh op na) R Q
        refine w_cv rfl (by decide) mt_X12_joins v_tyM rfl rfl rfl (Nat.le_of_ble_eq_true rfl) (Nat.le_of_ble_eq_true rfl) (Nat.le_of_ble_eq_true rfl) ?_
        show w_T L xs _ m_X12_joins 0 (lv_args 0 [.ref 100, .int (Int32.ofInt 1)]) [] (p_S S0 pl cs sk cl (Int32.ofInt 0) nc sg ov bh op na) R _
        refine h_joins _ q nc0 hp sk sk cs nc na (Nat.le_refl _) hI hC hb (fun sk1 cs1 nc1 na1 i1 c1 j1 t1 t2 => ?_)
        show w_T L xs (d + 3) m_X12_goesBehind 61 [(1, .int (p_h S0 pl)), (0, .ref 100)] [] (p_S S0 pl cs1 sk1 cl (Int32.ofInt 0) nc1 sg ov bh op na1) R Q
        have ht1 := c1.1
        have hcc1 := c1.2.2 (sk1 - 1) (by omega)
        have etp : p_tp sg sk1 = sg (sk1 - 1) := if_pos ht1
        have hI9 : p_I q nc0 cs1 (sk1 - 1) nc1 sg 1 := p_I_dn i1 ht1 (p_cc_n hcc1 (by rw [← etp]; exact t1) (by rw [← etp]; exact t2 (by decide)))
        refine w_st rfl (fun _ => rfl) ?_
        refine w_st rfl (fun _ => rfl) ?_
        show w_T L xs (d + 3) m_X12_goesBehind 63 [(1, .int (p_h S0 pl)), (0, .ref 100)] [.ref 100, .ref 100] (p_S S0 pl cs1 sk1 cl (Int32.ofInt 0) nc1 sg ov bh op na1) R Q
        refine w_get rfl v_tyM rfl ?_
        refine w_st rfl (fun _ => rfl) ?_
        refine w_st rfl (fun _ => rfl) ?_
        show w_T L xs (d + 3) m_X12_goesBehind 68 [(1, .int (p_h S0 pl)), (0, .ref 100)] [.int ((Int32.ofInt (sk1 : Int)) - (Int32.ofInt 1)), .ref 100] (p_S S0 pl cs1 sk1 cl (Int32.ofInt 0) nc1 sg ov bh op na1) R Q
        refine w_put rfl v_tyM rfl rfl rfl ?_
        refine w_eqS (p_wsk (w_dec2 (by omega))) ?_
        refine w_st rfl (fun _ => rfl) ?_
        refine w_st rfl (fun _ => rfl) ?_
        show w_T L xs (d + 3) m_X12_goesBehind 73 [(1, .int (p_h S0 pl)), (0, .ref 100)] [.ref 100, .ref 100] (p_S S0 pl cs1 (sk1 - 1) cl (Int32.ofInt 0) nc1 sg ov bh op na1) R Q
        refine w_get rfl v_tyM rfl ?_
        refine w_st rfl (fun _ => rfl) ?_
        refine w_st rfl (fun _ => rfl) ?_
        show w_T L xs (d + 3) m_X12_goesBehind 78 [(1, .int (p_h S0 pl)), (0, .ref 100)] [.int (op - (Int32.ofInt 1)), .ref 100] (p_S S0 pl cs1 (sk1 - 1) cl (Int32.ofInt 0) nc1 sg ov bh op na1) R Q
        refine w_put rfl v_tyM rfl rfl rfl ?_
        refine w_eqS p_wop ?_
        refine w_st rfl (fun _ => rfl) ?_
        refine w_st rfl (fun _ => rfl) ?_
        show w_T L xs (d + 3) m_X12_goesBehind 83 [(1, .int (p_h S0 pl)), (0, .ref 100)] [.ref 100, .ref 100] (p_S S0 pl cs1 (sk1 - 1) cl (Int32.ofInt 0) nc1 sg ov bh (op - (Int32.ofInt 1)) na1) R Q
        refine w_get rfl v_tyM rfl ?_
        refine w_st rfl (fun _ => rfl) ?_
        refine w_st rfl (fun _ => rfl) ?_
        show w_T L xs (d + 3) m_X12_goesBehind 88 [(1, .int (p_h S0 pl)), (0, .ref 100)] [.int ((Int32.ofInt (pl : Int)) + (Int32.ofInt 1)), .ref 100] (p_S S0 pl cs1 (sk1 - 1) cl (Int32.ofInt 0) nc1 sg ov bh (op - (Int32.ofInt 1)) na1) R Q
        refine w_put rfl v_tyM rfl rfl rfl ?_
        refine w_eqS (p_wpl (w_inc _)) ?_
        refine w_st rfl (fun _ => rfl) ?_
        refine w_st rfl (fun _ => rfl) ?_
        show w_T L xs (d + 3) m_X12_goesBehind 93 [(1, .int (p_h S0 pl)), (0, .ref 100)] [.ref 100, .ref 100] (p_S S0 (pl + 1) cs1 (sk1 - 1) cl (Int32.ofInt 0) nc1 sg ov bh (op - (Int32.ofInt 1)) na1) R Q
        refine w_get rfl v_tyM rfl ?_
        show w_T L xs (d + 3) m_X12_goesBehind 96 [(1, .int (p_h S0 pl)), (0, .ref 100)] [.int (Int32.ofInt ((sk1 - 1 : Nat) : Int)), .ref 100] (p_S S0 (pl + 1) cs1 (sk1 - 1) cl (Int32.ofInt 0) nc1 sg ov bh (op - (Int32.ofInt 1)) na1) R Q
        refine w_br (P := ¬ (Int32.ofInt ((sk1 - 1 : Nat) : Int)) = 0) rfl (fun _ => rfl) (fun h96 => ?_) (fun h96 => ?_)
        · have hC9 : p_C (sk1 - 1) sg := p_C_pop c1 (Classical.byContradiction (fun hn => h96 (by rw [show sk1 - 1 = 0 by omega]; rfl)))
          refine w_st rfl (fun _ => rfl) ?_
          show w_T L xs (d + 3) m_X12_goesBehind 104 [(1, .int (p_h S0 pl)), (0, .ref 100)] [.int (Int32.ofInt 0), .ref 100] (p_S S0 (pl + 1) cs1 (sk1 - 1) cl (Int32.ofInt 0) nc1 sg ov bh (op - (Int32.ofInt 1)) na1) R Q
          refine w_put rfl v_tyM rfl rfl rfl ?_
          refine w_eqS (p_wov (b := false) rfl) ?_
          refine w_st rfl (fun _ => rfl) ?_
          show w_T L xs (d + 3) m_X12_goesBehind 108 [(1, .int (p_h S0 pl)), (0, .ref 100)] [.ref 100] (p_S S0 (pl + 1) cs1 (sk1 - 1) cl (Int32.ofInt 0) nc1 sg false bh (op - (Int32.ofInt 1)) na1) R Q
          refine w_get rfl v_tyM rfl ?_
          show w_T L xs (d + 3) m_X12_goesBehind 111 [(1, .int (p_h S0 pl)), (0, .ref 100)] [.int (Int32.ofInt 0)] (p_S S0 (pl + 1) cs1 (sk1 - 1) cl (Int32.ofInt 0) nc1 sg false bh (op - (Int32.ofInt 1)) na1) R Q
          refine w_st rfl (fun _ => rfl) ?_
          refine w_st rfl (fun _ => rfl) ?_
          show w_T L xs (d + 3) m_X12_goesBehind 115 [(1, .int (p_h S0 pl)), (0, .ref 100)] [.ref 100] (p_S S0 (pl + 1) cs1 (sk1 - 1) cl (Int32.ofInt 0) nc1 sg false bh (op - (Int32.ofInt 1)) na1) R Q
          refine w_cv rfl (by decide) mt_X12_ends v_tyM rfl rfl rfl (Nat.le_of_ble_eq_true rfl) (Nat.le_of_ble_eq_true rfl) (Nat.le_of_ble_eq_true rfl) ?_
          show w_T L xs _ m_X12_ends 0 (lv_args 0 [.ref 100]) [] (p_S S0 (pl + 1) cs1 (sk1 - 1) cl (Int32.ofInt 0) nc1 sg false bh (op - (Int32.ofInt 1)) na1) R _
          refine h_ends q nc0 (by omega) (sk1 - 1) (sk1 - 1) cs1 nc1 na1 _ (Nat.le_refl _) hI9 hC9 (by omega) (fun sk3 cs3 nc3 na3 o3 i3 c3 j3 => ?_)
          refine w_st rfl (fun _ => rfl) ?_
          show w_T L xs (d + 3) m_X12_goesBehind 119 [(1, .int (p_h S0 pl)), (0, .ref 100)] [.int (Int32.ofInt 0)] (p_S S0 (pl + 1) cs3 sk3 cl (Int32.ofInt 0) nc3 sg false bh o3 na3) R Q
          refine w_ret rfl (by rfl) ?_
          exact K3 _ _ _ _ _ i3 c3 (by omega) (by omega)
        · refine w_st rfl (fun _ => rfl) ?_
          refine w_st rfl (fun _ => rfl) ?_
          show w_T L xs (d + 3) m_X12_goesBehind 104 [(1, .int (p_h S0 pl)), (0, .ref 100)] [.int (Int32.ofInt 1), .ref 100] (p_S S0 (pl + 1) cs1 (sk1 - 1) cl (Int32.ofInt 0) nc1 sg ov bh (op - (Int32.ofInt 1)) na1) R Q
          refine w_put rfl v_tyM rfl rfl rfl ?_
          refine w_eqS (p_wov (b := true) rfl) ?_
          refine w_st rfl (fun _ => rfl) ?_
          show w_T L xs (d + 3) m_X12_goesBehind 108 [(1, .int (p_h S0 pl)), (0, .ref 100)] [.ref 100] (p_S S0 (pl + 1) cs1 (sk1 - 1) cl (Int32.ofInt 0) nc1 sg true bh (op - (Int32.ofInt 1)) na1) R Q
          refine w_get rfl v_tyM rfl ?_
          show w_T L xs (d + 3) m_X12_goesBehind 111 [(1, .int (p_h S0 pl)), (0, .ref 100)] [.int (Int32.ofInt 1)] (p_S S0 (pl + 1) cs1 (sk1 - 1) cl (Int32.ofInt 0) nc1 sg true bh (op - (Int32.ofInt 1)) na1) R Q
          refine w_st rfl (fun _ => rfl) ?_
          refine w_st rfl (fun _ => rfl) ?_
          show w_T L xs (d + 3) m_X12_goesBehind 119 [(1, .int (p_h S0 pl)), (0, .ref 100)] [.int (Int32.ofInt 0)] (p_S S0 (pl + 1) cs1 (sk1 - 1) cl (Int32.ofInt 0) nc1 sg true bh (op - (Int32.ofInt 1)) na1) R Q
          refine w_ret rfl (by rfl) ?_
          exact K2 _ _ _ _ _ hI9 (by omega) (by omega)
      · refine w_st rfl (fun _ => rfl) ?_
        refine w_st rfl (fun _ => rfl) ?_
        refine w_st rfl (fun _ => rfl) ?_
        show w_T L xs (d + 3) m_X12_goesBehind 48 [(1, .int (p_h S0 pl)), (0, .ref 100)] [.ref 100, .int (Int32.ofInt 1), .ref 100] (p_S S0 pl cs sk cl (Int32.ofInt 0) nc sg ov bh op na) R Q
        refine w_get rfl v_tyM rfl ?_
        show w_T L xs (d + 3) m_X12_goesBehind 51 [(1, .int (p_h S0 pl)), (0, .ref 100)] [.int (Int32.ofInt (pl : Int)), .int (Int32.ofInt 1), .ref 100] (p_S S0 pl cs sk cl (Int32.ofInt 0) nc sg ov bh op na) R Q
        refine w_cv rfl (by decide) mt_X12_wrongs v_tyM rfl rfl rfl (Nat.le_of_ble_eq_true rfl) (Nat.le_of_ble_eq_true rfl) (Nat.le_of_ble_eq_true rfl) ?_
        show w_T L xs _ m_X12_wrongs 0 (lv_args 0 [.ref 100, .int (Int32.ofInt 1), .int (Int32.ofInt (pl : Int))]) [] (p_S S0 pl cs sk cl (Int32.ofInt 0) nc sg ov bh op na) R _
        refine h_wr (by decide) (by decide) (by rw [w_nat (by omega)]; omega) (by rw [w_nat (by omega)]; omega) (fun b51 hb51 => ?_)
        refine w_st rfl (fun _ => rfl) ?_
        show w_T L xs (d + 3) m_X12_goesBehind 55 [(1, .int (p_h S0 pl)), (0, .ref 100)] [.int (Int32.ofInt 0)] (p_S S0 pl cs sk cl b51 nc sg ov bh op na) R Q
        refine w_ret rfl (by rfl) ?_
        exact Kb _ hb51
    · have e14 := Decidable.of_not_not h14
      have hlt := p_h_lt (S0 := S0) (pl := pl) (by rw [e14]; decide)
      have hjo : p_jo (p_h S0 pl) := Or.inr e14
      have hbi := p_bi_jo hjo
      have hcc : p_cc (p_h S0 pl) := Or.inl hjo
      refine w_st rfl (fun _ => rfl) ?_
      refine w_st rfl (fun _ => rfl) ?_
      refine w_st rfl (fun _ => rfl) ?_
      show w_T L xs (d + 3) m_X12_goesBehind 21 [(1, .int (p_h S0 pl)), (0, .ref 100)] [.int (Int32.ofInt 124), .int (p_h S0 pl), .ref 100] (p_S S0 pl cs sk cl (Int32.ofInt 0) nc sg ov bh op na) R Q
      refine w_br (P := ¬ (p_h S0 pl) = (Int32.ofInt 124)) rfl (fun _ => rfl) (fun h21 => ?_) (fun h21 => ?_)
      · refine w_st rfl (fun _ => rfl) ?_
        show w_T L xs (d + 3) m_X12_goesBehind 29 [(1, .int (p_h S0 pl)), (0, .ref 100)] [.int (Int32.ofInt 0), .ref 100] (p_S S0 pl cs sk cl (Int32.ofInt 0) nc sg ov bh op na) R Q
        refine w_cv rfl (by decide) mt_X12_joins v_tyM rfl rfl rfl (Nat.le_of_ble_eq_true rfl) (Nat.le_of_ble_eq_true rfl) (Nat.le_of_ble_eq_true rfl) ?_
        show w_T L xs _ m_X12_joins 0 (lv_args 0 [.ref 100, .int (Int32.ofInt 0)]) [] (p_S S0 pl cs sk cl (Int32.ofInt 0) nc sg ov bh op na) R _
        refine h_joins _ q nc0 hp sk sk cs nc na (Nat.le_refl _) hI hC hb (fun sk1 cs1 nc1 na1 i1 c1 j1 t1 t2 => ?_)
        refine w_st rfl (fun _ => rfl) ?_
        refine w_st rfl (fun _ => rfl) ?_
        show w_T L xs (d + 3) m_X12_goesBehind 34 [(1, .int (p_h S0 pl)), (0, .ref 100)] [.int (p_h S0 pl), .ref 100] (p_S S0 pl cs1 sk1 cl (Int32.ofInt 0) nc1 sg ov bh op na1) R Q
        refine w_cv rfl (by decide) mt_X12_puts v_tyM rfl rfl rfl (Nat.le_of_ble_eq_true rfl) (Nat.le_of_ble_eq_true rfl) (Nat.le_of_ble_eq_true rfl) ?_
        show w_T L xs _ m_X12_puts 0 (lv_args 0 [.ref 100, .int (p_h S0 pl)]) [] (p_S S0 pl cs1 sk1 cl (Int32.ofInt 0) nc1 sg ov bh op na1) R _
        refine h_puts (by omega) (by omega) ?_
        refine w_st rfl (fun _ => rfl) ?_
        show w_T L xs (d + 3) m_X12_goesBehind 38 [(1, .int (p_h S0 pl)), (0, .ref 100)] [.int (Int32.ofInt 1)] (p_S S0 (pl + 1) cs1 (sk1 + 1) cl (Int32.ofInt 0) nc1 (upd sg sk1 (p_h S0 pl)) ov bh op na1) R Q
        refine w_ret rfl (by rfl) ?_
        exact K1 _ _ _ _ _ (p_I_pb i1 hbi) (p_C_psh c1 hcc) (by omega) (by omega)
      · refine w_st rfl (fun _ => rfl) ?_
        refine w_st rfl (fun _ => rfl) ?_
        show w_T L xs (d + 3) m_X12_goesBehind 29 [(1, .int (p_h S0 pl)), (0, .ref 100)] [.int (Int32.ofInt 1), .ref 100] (p_S S0 pl cs sk cl (Int32.ofInt 0) nc sg ov bh op na) R Q
        refine w_cv rfl (by decide) mt_X12_joins v_tyM rfl rfl rfl (Nat.le_of_ble_eq_true rfl) (Nat.le_of_ble_eq_true rfl) (Nat.le_of_ble_eq_true rfl) ?_
        show w_T L xs _ m_X12_joins 0 (lv_args 0 [.ref 100, .int (Int32.ofInt 1)]) [] (p_S S0 pl cs sk cl (Int32.ofInt 0) nc sg ov bh op na) R _
        refine h_joins _ q nc0 hp sk sk cs nc na (Nat.le_refl _) hI hC hb (fun sk1 cs1 nc1 na1 i1 c1 j1 t1 t2 => ?_)
        refine w_st rfl (fun _ => rfl) ?_
        refine w_st rfl (fun _ => rfl) ?_
        show w_T L xs (d + 3) m_X12_goesBehind 34 [(1, .int (p_h S0 pl)), (0, .ref 100)] [.int (p_h S0 pl), .ref 100] (p_S S0 pl cs1 sk1 cl (Int32.ofInt 0) nc1 sg ov bh op na1) R Q
        refine w_cv rfl (by decide) mt_X12_puts v_tyM rfl rfl rfl (Nat.le_of_ble_eq_true rfl) (Nat.le_of_ble_eq_true rfl) (Nat.le_of_ble_eq_true rfl) ?_
        show w_T L xs _ m_X12_puts 0 (lv_args 0 [.ref 100, .int (p_h S0 pl)]) [] (p_S S0 pl cs1 sk1 cl (Int32.ofInt 0) nc1 sg ov bh op na1) R _
        refine h_puts (by omega) (by omega) ?_
        refine w_st rfl (fun _ => rfl) ?_
        show w_T L xs (d + 3) m_X12_goesBehind 38 [(1, .int (p_h S0 pl)), (0, .ref 100)] [.int (Int32.ofInt 1)] (p_S S0 (pl + 1) cs1 (sk1 + 1) cl (Int32.ofInt 0) nc1 (upd sg sk1 (p_h S0 pl)) ov bh op na1) R Q
        refine w_ret rfl (by rfl) ?_
        exact K1 _ _ _ _ _ (p_I_pb i1 hbi) (p_C_psh c1 hcc) (by omega) (by omega)
theorem h_coT {q pl0 : Nat} {nc0 : Nat → Int32} (he : (S0 99 4).toInt ≤ 240) (hI : p_I q nc0 cs sk nc sg 1) (hC : p_C sk sg) (hb : cs + sk ≤ pl) (hp : pl ≤ 240) (u : Int32) (hgt : pl0 ≤ pl) (K7 : ∀ (cs' sk' : Nat) (nc' sg' na' : Nat → Int32) (o : Int32) (mo : Bool), p_I q nc0 cs' sk' nc' sg' (bif mo then 0 else 1) → p_C sk' sg' → cs' + sk' ≤ pl + 1 → pl + 1 ≤ 240 → w_T L xs (d + 6) m_X12_condition 37 [(1, .int (p_b mo)), (0, .ref 100)] [] (p_S S0 (pl + 1) (cs') (sk') cl (Int32.ofInt 0) (nc') (sg') false bh o (na')) R Q) (Kg : ∀ (pl' cs' sk' : Nat) (nc' sg' na' : Nat → Int32) (o : Int32) (h' : Bool), pl0 ≤ pl' → p_I q nc0 cs' sk' nc' sg' 1 → cs' + sk' ≤ pl' → pl' ≤ 240 → Q none (p_S S0 (pl') (cs') (sk') cl (Int32.ofInt 0) (nc') (sg') true (h') o (na')) R) (Kb : ∀ (pl' cs' sk' : Nat) (b' : Int32) (nc' sg' na' : Nat → Int32) (o : Int32) (h' : Bool), b'.toInt < 0 → cs' + sk' ≤ pl' → pl' ≤ 240 → Q none (p_S S0 (pl') (cs') (sk') cl (b') (nc') (sg') false (h') o (na')) R) : w_T L xs (d + 6) m_X12_condition 66 [(1, .int u), (0, .ref 100)] [] (p_S S0 pl cs sk cl (Int32.ofInt 0) nc sg false bh op na) R Q := by
  refine w_st rfl (fun _ => rfl) ?_
  show w_T L xs (d + 6) m_X12_condition 67 [(1, .int u), (0, .ref 100)] [.ref 100] (p_S S0 pl cs sk cl (Int32.ofInt 0) nc sg false bh op na) R Q
  refine w_cv rfl (by decide) mt_X12_goesBehind v_tyM rfl rfl rfl (Nat.le_of_ble_eq_true rfl) (Nat.le_of_ble_eq_true rfl) (Nat.le_of_ble_eq_true rfl) ?_
  show w_T L xs _ m_X12_goesBehind 0 (lv_args 0 [.ref 100]) [] (p_S S0 pl cs sk cl (Int32.ofInt 0) nc sg false bh op na) R _
  refine h_goes he hI hC hb hp (fun cs1 sk1 nc1 sg1 na1 i1 c1 j1 k1 => ?_) (fun cs1 sk1 nc1 na1 o1 i1 j1 k1 => ?_) (fun cs1 sk1 nc1 na1 o1 i1 c1 j1 k1 => ?_) (fun b67 hb67 => ?_)
  · show w_T L xs (d + 6) m_X12_condition 70 [(1, .int u), (0, .ref 100)] [.int (Int32.ofInt 1)] (p_S S0 (pl + 1) cs1 sk1 cl (Int32.ofInt 0) nc1 sg1 false bh op na1) R Q
    refine w_st rfl (fun _ => rfl) ?_
    refine w_st rfl (fun _ => rfl) ?_
    show w_T L xs (d + 6) m_X12_condition 37 [(1, .int (Int32.ofInt 1)), (0, .ref 100)] [] (p_S S0 (pl + 1) cs1 sk1 cl (Int32.ofInt 0) nc1 sg1 false bh op na1) R Q
    exact K7 _ _ _ _ _ _ true i1 c1 j1 k1
  · show w_T L xs (d + 6) m_X12_condition 70 [(1, .int u), (0, .ref 100)] [.int (Int32.ofInt 0)] (p_S S0 (pl + 1) cs1 sk1 cl (Int32.ofInt 0) nc1 sg true bh o1 na1) R Q
    refine w_st rfl (fun _ => rfl) ?_
    refine w_st rfl (fun _ => rfl) ?_
    show w_T L xs (d + 6) m_X12_condition 37 [(1, .int (Int32.ofInt 0)), (0, .ref 100)] [] (p_S S0 (pl + 1) cs1 sk1 cl (Int32.ofInt 0) nc1 sg true bh o1 na1) R Q
    refine w_st rfl (fun _ => rfl) ?_
    show w_T L xs (d + 6) m_X12_condition 38 [(1, .int (Int32.ofInt 0)), (0, .ref 100)] [.ref 100] (p_S S0 (pl + 1) cs1 sk1 cl (Int32.ofInt 0) nc1 sg true bh o1 na1) R Q
    refine w_cv rfl (by decide) mt_X12_isGood v_tyM rfl rfl rfl (Nat.le_of_ble_eq_true rfl) (Nat.le_of_ble_eq_true rfl) (Nat.le_of_ble_eq_true rfl) ?_
    show w_T L xs _ m_X12_isGood 0 (lv_args 0 [.ref 100]) [] (p_S S0 (pl + 1) cs1 sk1 cl (Int32.ofInt 0) nc1 sg true bh o1 na1) R _
    refine h_isGT ?_
    show w_T L xs (d + 6) m_X12_condition 41 [(1, .int (Int32.ofInt 0)), (0, .ref 100)] [.int (Int32.ofInt 1)] (p_S S0 (pl + 1) cs1 sk1 cl (Int32.ofInt 0) nc1 sg true bh o1 na1) R Q
    refine w_st rfl (fun _ => rfl) ?_
    refine w_st rfl (fun _ => rfl) ?_
    show w_T L xs (d + 6) m_X12_condition 45 [(1, .int (Int32.ofInt 0)), (0, .ref 100)] [.ref 100] (p_S S0 (pl + 1) cs1 sk1 cl (Int32.ofInt 0) nc1 sg true bh o1 na1) R Q
    refine w_get rfl v_tyM rfl ?_
    show w_T L xs (d + 6) m_X12_condition 48 [(1, .int (Int32.ofInt 0)), (0, .ref 100)] [.int (Int32.ofInt 1)] (p_S S0 (pl + 1) cs1 sk1 cl (Int32.ofInt 0) nc1 sg true bh o1 na1) R Q
    refine w_st rfl (fun _ => rfl) ?_
    show w_T L xs (d + 6) m_X12_condition 74 [(1, .int (Int32.ofInt 0)), (0, .ref 100)] [] (p_S S0 (pl + 1) cs1 sk1 cl (Int32.ofInt 0) nc1 sg true bh o1 na1) R Q
    refine w_ret rfl rfl ?_
    exact Kg _ _ _ _ _ _ _ _ (by omega) i1 (by omega) (by omega)
  · show w_T L xs (d + 6) m_X12_condition 70 [(1, .int u), (0, .ref 100)] [.int (Int32.ofInt 0)] (p_S S0 (pl + 1) cs1 sk1 cl (Int32.ofInt 0) nc1 sg false bh o1 na1) R Q
    refine w_st rfl (fun _ => rfl) ?_
    refine w_st rfl (fun _ => rfl) ?_
    show w_T L xs (d + 6) m_X12_condition 37 [(1, .int (Int32.ofInt 0)), (0, .ref 100)] [] (p_S S0 (pl + 1) cs1 sk1 cl (Int32.ofInt 0) nc1 sg false bh o1 na1) R Q
    exact K7 _ _ _ _ _ _ false i1 c1 j1 k1
  · show w_T L xs (d + 6) m_X12_condition 70 [(1, .int u), (0, .ref 100)] [.int (Int32.ofInt 0)] (p_S S0 pl cs sk cl b67 nc sg false bh op na) R Q
    refine w_st rfl (fun _ => rfl) ?_
    refine w_st rfl (fun _ => rfl) ?_
    show w_T L xs (d + 6) m_X12_condition 37 [(1, .int (Int32.ofInt 0)), (0, .ref 100)] [] (p_S S0 pl cs sk cl b67 nc sg false bh op na) R Q
    refine w_st rfl (fun _ => rfl) ?_
    show w_T L xs (d + 6) m_X12_condition 38 [(1, .int (Int32.ofInt 0)), (0, .ref 100)] [.ref 100] (p_S S0 pl cs sk cl b67 nc sg false bh op na) R Q
    refine w_cv rfl (by decide) mt_X12_isGood v_tyM rfl rfl rfl (Nat.le_of_ble_eq_true rfl) (Nat.le_of_ble_eq_true rfl) (Nat.le_of_ble_eq_true rfl) ?_
    show w_T L xs _ m_X12_isGood 0 (lv_args 0 [.ref 100]) [] (p_S S0 pl cs sk cl b67 nc sg false bh op na) R _
    refine h_isGF hb67 ?_
    show w_T L xs (d + 6) m_X12_condition 41 [(1, .int (Int32.ofInt 0)), (0, .ref 100)] [.int (Int32.ofInt 0)] (p_S S0 pl cs sk cl b67 nc sg false bh op na) R Q
    refine w_st rfl (fun _ => rfl) ?_
    show w_T L xs (d + 6) m_X12_condition 74 [(1, .int (Int32.ofInt 0)), (0, .ref 100)] [] (p_S S0 pl cs sk cl b67 nc sg false bh op na) R Q
    refine w_ret rfl rfl ?_
    exact Kb _ _ _ _ _ _ _ _ _ hb67 (by omega) (by omega)
theorem h_coS {q pl0 : Nat} {nc0 : Nat → Int32} (mo : Bool) (he : (S0 99 4).toInt ≤ 240) (hI : p_I q nc0 cs sk nc sg (bif mo then 0 else 1)) (hC : p_C sk sg) (hb : cs + sk ≤ pl) (hp : pl ≤ 240) (hgt : pl0 ≤ pl) (K7 : ∀ (pl' cs' sk' : Nat) (nc' sg' na' : Nat → Int32) (o : Int32) (mo h' : Bool), pl < pl' → p_I q nc0 cs' sk' nc' sg' (bif mo then 0 else 1) → p_C sk' sg' → cs' + sk' ≤ pl' → pl' ≤ 240 → w_T L xs (d + 6) m_X12_condition 37 [(1, .int (p_b mo)), (0, .ref 100)] [] (p_S S0 (pl') (cs') (sk') cl (Int32.ofInt 0) (nc') (sg') false (h') o (na')) R Q) (Kg : ∀ (pl' cs' sk' : Nat) (nc' sg' na' : Nat → Int32) (o : Int32) (h' : Bool), pl0 ≤ pl' → p_I q nc0 cs' sk' nc' sg' 1 → cs' + sk' ≤ pl' → pl' ≤ 240 → Q none (p_S S0 (pl') (cs') (sk') cl (Int32.ofInt 0) (nc') (sg') true (h') o (na')) R) (Kb : ∀ (pl' cs' sk' : Nat) (b' : Int32) (nc' sg' na' : Nat → Int32) (o : Int32) (h' : Bool), b'.toInt < 0 → cs' + sk' ≤ pl' → pl' ≤ 240 → Q none (p_S S0 (pl') (cs') (sk') cl (b') (nc') (sg') false (h') o (na')) R) : w_T L xs (d + 6) m_X12_condition 37 [(1, .int (p_b mo)), (0, .ref 100)] [] (p_S S0 pl cs sk cl (Int32.ofInt 0) nc sg false bh op na) R Q := by
  cases mo with
  | true =>
    refine w_st rfl (fun _ => rfl) ?_
    show w_T L xs (d + 6) m_X12_condition 38 [(1, .int (Int32.ofInt 1)), (0, .ref 100)] [.ref 100] (p_S S0 pl cs sk cl (Int32.ofInt 0) nc sg false bh op na) R Q
    refine w_cv rfl (by decide) mt_X12_isGood v_tyM rfl rfl rfl (Nat.le_of_ble_eq_true rfl) (Nat.le_of_ble_eq_true rfl) (Nat.le_of_ble_eq_true rfl) ?_
    show w_T L xs _ m_X12_isGood 0 (lv_args 0 [.ref 100]) [] (p_S S0 pl cs sk cl (Int32.ofInt 0) nc sg false bh op na) R _
    refine h_isGT ?_
    show w_T L xs (d + 6) m_X12_condition 41 [(1, .int (Int32.ofInt 1)), (0, .ref 100)] [.int (Int32.ofInt 1)] (p_S S0 pl cs sk cl (Int32.ofInt 0) nc sg false bh op na) R Q
    refine w_st rfl (fun _ => rfl) ?_
    refine w_st rfl (fun _ => rfl) ?_
    show w_T L xs (d + 6) m_X12_condition 45 [(1, .int (Int32.ofInt 1)), (0, .ref 100)] [.ref 100] (p_S S0 pl cs sk cl (Int32.ofInt 0) nc sg false bh op na) R Q
    refine w_get rfl v_tyM rfl ?_
    show w_T L xs (d + 6) m_X12_condition 48 [(1, .int (Int32.ofInt 1)), (0, .ref 100)] [.int (Int32.ofInt 0)] (p_S S0 pl cs sk cl (Int32.ofInt 0) nc sg false bh op na) R Q
    refine w_st rfl (fun _ => rfl) ?_
    refine w_st rfl (fun _ => rfl) ?_
    show w_T L xs (d + 6) m_X12_condition 52 [(1, .int (Int32.ofInt 1)), (0, .ref 100)] [.int (Int32.ofInt 1)] (p_S S0 pl cs sk cl (Int32.ofInt 0) nc sg false bh op na) R Q
    refine w_st rfl (fun _ => rfl) ?_
    refine w_st rfl (fun _ => rfl) ?_
    show w_T L xs (d + 6) m_X12_condition 56 [(1, .int (Int32.ofInt 1)), (0, .ref 100)] [.ref 100] (p_S S0 pl cs sk cl (Int32.ofInt 0) nc sg false bh op na) R Q
    refine w_cv rfl (by decide) mt_X12_pieceOfC v_tyM rfl rfl rfl (Nat.le_of_ble_eq_true rfl) (Nat.le_of_ble_eq_true rfl) (Nat.le_of_ble_eq_true rfl) ?_
    show w_T L xs _ m_X12_pieceOfC 0 (lv_args 0 [.ref 100]) [] (p_S S0 pl cs sk cl (Int32.ofInt 0) nc sg false bh op na) R _
    refine h_piece q nc0 he 240 pl sk sg op (by omega) hI hC hb hp (fun pl1 cs1 sk1 nc1 sg1 na1 o1 h1 l1 i1 c1 j1 k1 => ?_) (fun pl1 cs1 sk1 b56 nc1 sg1 na1 o1 h1 hb56 j1 k1 => ?_)
    · show w_T L xs (d + 6) m_X12_condition 59 [(1, .int (Int32.ofInt 1)), (0, .ref 100)] [] (p_S S0 pl1 cs1 sk1 cl (Int32.ofInt 0) nc1 sg1 false h1 o1 na1) R Q
      refine w_st rfl (fun _ => rfl) ?_
      show w_T L xs (d + 6) m_X12_condition 60 [(1, .int (Int32.ofInt 1)), (0, .ref 100)] [.ref 100] (p_S S0 pl1 cs1 sk1 cl (Int32.ofInt 0) nc1 sg1 false h1 o1 na1) R Q
      refine w_cv rfl (by decide) mt_X12_isGood v_tyM rfl rfl rfl (Nat.le_of_ble_eq_true rfl) (Nat.le_of_ble_eq_true rfl) (Nat.le_of_ble_eq_true rfl) ?_
      show w_T L xs _ m_X12_isGood 0 (lv_args 0 [.ref 100]) [] (p_S S0 pl1 cs1 sk1 cl (Int32.ofInt 0) nc1 sg1 false h1 o1 na1) R _
      refine h_isGT ?_
      show w_T L xs (d + 6) m_X12_condition 63 [(1, .int (Int32.ofInt 1)), (0, .ref 100)] [.int (Int32.ofInt 1)] (p_S S0 pl1 cs1 sk1 cl (Int32.ofInt 0) nc1 sg1 false h1 o1 na1) R Q
      refine w_st rfl (fun _ => rfl) ?_
      show w_T L xs (d + 6) m_X12_condition 66 [(1, .int (Int32.ofInt 1)), (0, .ref 100)] [] (p_S S0 pl1 cs1 sk1 cl (Int32.ofInt 0) nc1 sg1 false h1 o1 na1) R Q
      exact h_coT he i1 c1 j1 k1 _ (by omega) (fun cs' sk' nc' sg' na' o mo a1 a2 a3 a4 => K7 _ cs' sk' nc' sg' na' o mo _ (by omega) a1 a2 a3 a4) Kg Kb
    · show w_T L xs (d + 6) m_X12_condition 59 [(1, .int (Int32.ofInt 1)), (0, .ref 100)] [] (p_S S0 pl1 cs1 sk1 cl b56 nc1 sg1 false h1 o1 na1) R Q
      refine w_st rfl (fun _ => rfl) ?_
      show w_T L xs (d + 6) m_X12_condition 60 [(1, .int (Int32.ofInt 1)), (0, .ref 100)] [.ref 100] (p_S S0 pl1 cs1 sk1 cl b56 nc1 sg1 false h1 o1 na1) R Q
      refine w_cv rfl (by decide) mt_X12_isGood v_tyM rfl rfl rfl (Nat.le_of_ble_eq_true rfl) (Nat.le_of_ble_eq_true rfl) (Nat.le_of_ble_eq_true rfl) ?_
      show w_T L xs _ m_X12_isGood 0 (lv_args 0 [.ref 100]) [] (p_S S0 pl1 cs1 sk1 cl b56 nc1 sg1 false h1 o1 na1) R _
      refine h_isGF hb56 ?_
      show w_T L xs (d + 6) m_X12_condition 63 [(1, .int (Int32.ofInt 1)), (0, .ref 100)] [.int (Int32.ofInt 0)] (p_S S0 pl1 cs1 sk1 cl b56 nc1 sg1 false h1 o1 na1) R Q
      refine w_st rfl (fun _ => rfl) ?_
      show w_T L xs (d + 6) m_X12_condition 37 [(1, .int (Int32.ofInt 1)), (0, .ref 100)] [] (p_S S0 pl1 cs1 sk1 cl b56 nc1 sg1 false h1 o1 na1) R Q
      refine w_st rfl (fun _ => rfl) ?_
      show w_T L xs (d + 6) m_X12_condition 38 [(1, .int (Int32.ofInt 1)), (0, .ref 100)] [.ref 100] (p_S S0 pl1 cs1 sk1 cl b56 nc1 sg1 false h1 o1 na1) R Q
      refine w_cv rfl (by decide) mt_X12_isGood v_tyM rfl rfl rfl (Nat.le_of_ble_eq_true rfl) (Nat.le_of_ble_eq_true rfl) (Nat.le_of_ble_eq_true rfl) ?_
      show w_T L xs _ m_X12_isGood 0 (lv_args 0 [.ref 100]) [] (p_S S0 pl1 cs1 sk1 cl b56 nc1 sg1 false h1 o1 na1) R _
      refine h_isGF hb56 ?_
      show w_T L xs (d + 6) m_X12_condition 41 [(1, .int (Int32.ofInt 1)), (0, .ref 100)] [.int (Int32.ofInt 0)] (p_S S0 pl1 cs1 sk1 cl b56 nc1 sg1 false h1 o1 na1) R Q
      refine w_st rfl (fun _ => rfl) ?_
      show w_T L xs (d + 6) m_X12_condition 74 [(1, .int (Int32.ofInt 1)), (0, .ref 100)] [] (p_S S0 pl1 cs1 sk1 cl b56 nc1 sg1 false h1 o1 na1) R Q
      refine w_ret rfl rfl ?_
      exact Kb _ _ _ _ _ _ _ _ _ hb56 (by omega) (by omega)
  | false =>
    refine w_st rfl (fun _ => rfl) ?_
    show w_T L xs (d + 6) m_X12_condition 38 [(1, .int (Int32.ofInt 0)), (0, .ref 100)] [.ref 100] (p_S S0 pl cs sk cl (Int32.ofInt 0) nc sg false bh op na) R Q
    refine w_cv rfl (by decide) mt_X12_isGood v_tyM rfl rfl rfl (Nat.le_of_ble_eq_true rfl) (Nat.le_of_ble_eq_true rfl) (Nat.le_of_ble_eq_true rfl) ?_
    show w_T L xs _ m_X12_isGood 0 (lv_args 0 [.ref 100]) [] (p_S S0 pl cs sk cl (Int32.ofInt 0) nc sg false bh op na) R _
    refine h_isGT ?_
    show w_T L xs (d + 6) m_X12_condition 41 [(1, .int (Int32.ofInt 0)), (0, .ref 100)] [.int (Int32.ofInt 1)] (p_S S0 pl cs sk cl (Int32.ofInt 0) nc sg false bh op na) R Q
    refine w_st rfl (fun _ => rfl) ?_
    refine w_st rfl (fun _ => rfl) ?_
    show w_T L xs (d + 6) m_X12_condition 45 [(1, .int (Int32.ofInt 0)), (0, .ref 100)] [.ref 100] (p_S S0 pl cs sk cl (Int32.ofInt 0) nc sg false bh op na) R Q
    refine w_get rfl v_tyM rfl ?_
    show w_T L xs (d + 6) m_X12_condition 48 [(1, .int (Int32.ofInt 0)), (0, .ref 100)] [.int (Int32.ofInt 0)] (p_S S0 pl cs sk cl (Int32.ofInt 0) nc sg false bh op na) R Q
    refine w_st rfl (fun _ => rfl) ?_
    refine w_st rfl (fun _ => rfl) ?_
    show w_T L xs (d + 6) m_X12_condition 52 [(1, .int (Int32.ofInt 0)), (0, .ref 100)] [.int (Int32.ofInt 0)] (p_S S0 pl cs sk cl (Int32.ofInt 0) nc sg false bh op na) R Q
    refine w_st rfl (fun _ => rfl) ?_
    refine w_st rfl (fun _ => rfl) ?_
    show w_T L xs (d + 6) m_X12_condition 60 [(1, .int (Int32.ofInt 0)), (0, .ref 100)] [.ref 100] (p_S S0 pl cs sk cl (Int32.ofInt 0) nc sg false bh op na) R Q
    refine w_cv rfl (by decide) mt_X12_isGood v_tyM rfl rfl rfl (Nat.le_of_ble_eq_true rfl) (Nat.le_of_ble_eq_true rfl) (Nat.le_of_ble_eq_true rfl) ?_
    show w_T L xs _ m_X12_isGood 0 (lv_args 0 [.ref 100]) [] (p_S S0 pl cs sk cl (Int32.ofInt 0) nc sg false bh op na) R _
    refine h_isGT ?_
    show w_T L xs (d + 6) m_X12_condition 63 [(1, .int (Int32.ofInt 0)), (0, .ref 100)] [.int (Int32.ofInt 1)] (p_S S0 pl cs sk cl (Int32.ofInt 0) nc sg false bh op na) R Q
    refine w_st rfl (fun _ => rfl) ?_
    show w_T L xs (d + 6) m_X12_condition 66 [(1, .int (Int32.ofInt 0)), (0, .ref 100)] [] (p_S S0 pl cs sk cl (Int32.ofInt 0) nc sg false bh op na) R Q
    exact h_coT he hI hC hb hp _ (by omega) (fun cs' sk' nc' sg' na' o mo a1 a2 a3 a4 => K7 _ cs' sk' nc' sg' na' o mo _ (by omega) a1 a2 a3 a4) Kg Kb
theorem h_coL (q pl0 : Nat) (nc0 : Nat → Int32) (he : (S0 99 4).toInt ≤ 240) (Kg : ∀ (pl' cs' sk' : Nat) (nc' sg' na' : Nat → Int32) (o : Int32) (h' : Bool), pl0 ≤ pl' → p_I q nc0 cs' sk' nc' sg' 1 → cs' + sk' ≤ pl' → pl' ≤ 240 → Q none (p_S S0 (pl') (cs') (sk') cl (Int32.ofInt 0) (nc') (sg') true (h') o (na')) R) (Kb : ∀ (pl' cs' sk' : Nat) (b' : Int32) (nc' sg' na' : Nat → Int32) (o : Int32) (h' : Bool), b'.toInt < 0 → cs' + sk' ≤ pl' → pl' ≤ 240 → Q none (p_S S0 (pl') (cs') (sk') cl (b') (nc') (sg') false (h') o (na')) R) : ∀ (n pl cs sk : Nat) (nc sg na : Nat → Int32) (op : Int32) (mo bh : Bool), 240 ≤ pl + n → pl0 ≤ pl → p_I q nc0 cs sk nc sg (bif mo then 0 else 1) → p_C sk sg → cs + sk ≤ pl → pl ≤ 240 → w_T L xs (d + 6) m_X12_condition 37 [(1, .int (p_b mo)), (0, .ref 100)] [] (p_S S0 pl cs sk cl (Int32.ofInt 0) nc sg false bh op na) R Q := by
  intro n
  induction n with
  | zero =>
    intro pl cs sk nc sg na op mo bh hn hgt hI hC hb hp
    exact h_coS mo he hI hC hb hp hgt (fun pl' cs' sk' nc' sg' na' o mo h' l _ _ _ hh => absurd hh (by omega)) Kg Kb
  | succ n ih =>
    intro pl cs sk nc sg na op mo bh hn hgt hI hC hb hp
    exact h_coS mo he hI hC hb hp hgt (fun pl' cs' sk' nc' sg' na' o mo h' l a1 a2 a3 a4 => ih pl' cs' sk' nc' sg' na' o mo h' (by omega) (by omega) a1 a2 a3 a4) Kg Kb
theorem h_cond (he : (S0 99 4).toInt ≤ 240) (hb : cs ≤ pl) (hp : pl ≤ 240) (Kg : ∀ (pl' cs' sk' : Nat) (nc' sg' na' : Nat → Int32) (o : Int32) (h' : Bool), pl ≤ pl' → p_I cs nc cs' sk' nc' sg' 1 → cs' + sk' ≤ pl' → pl' ≤ 240 → Q none (p_S S0 (pl') (cs') (sk') cl (Int32.ofInt 0) (nc') (sg') true (h') o (na')) R) (Kb : ∀ (pl' cs' sk' : Nat) (b' : Int32) (nc' sg' na' : Nat → Int32) (o : Int32) (h' : Bool), b'.toInt < 0 → cs' + sk' ≤ pl' → pl' ≤ 240 → Q none (p_S S0 (pl') (cs') (sk') cl (b') (nc') (sg') false (h') o (na')) R) : w_T L xs (d + 6) m_X12_condition 0 (lv_args 0 [.ref 100]) [] (p_S S0 pl cs 0 cl (Int32.ofInt 0) nc sg ov bh op na) R Q := by
  have hI : p_I cs nc cs 0 nc sg 0 := ⟨Nat.le_refl _, fun _ _ => rfl, by rw [Nat.sub_self]; trivial, by rw [Nat.sub_self]; rfl⟩
  refine w_st rfl (fun _ => rfl) ?_
  refine w_st rfl (fun _ => rfl) ?_
  show w_T L xs (d + 6) m_X12_condition 2 [(0, .ref 100)] [.int (Int32.ofInt 0), .ref 100] (p_S S0 pl cs 0 cl (Int32.ofInt 0) nc sg ov bh op na) R Q
  refine w_put rfl v_tyM rfl rfl rfl ?_
  refine w_eqS (p_wov (b := false) rfl) ?_
  refine w_st rfl (fun _ => rfl) ?_
  show w_T L xs (d + 6) m_X12_condition 6 [(0, .ref 100)] [.ref 100] (p_S S0 pl cs 0 cl (Int32.ofInt 0) nc sg false bh op na) R Q
  refine w_cv rfl (by decide) mt_X12_here v_tyM rfl rfl rfl (Nat.le_of_ble_eq_true rfl) (Nat.le_of_ble_eq_true rfl) (Nat.le_of_ble_eq_true rfl) ?_
  show w_T L xs _ m_X12_here 0 (lv_args 0 [.ref 100]) [] (p_S S0 pl cs 0 cl (Int32.ofInt 0) nc sg false bh op na) R _
  refine h_here (by omega) ?_
  refine w_st rfl (fun _ => rfl) ?_
  show w_T L xs (d + 6) m_X12_condition 11 [(0, .ref 100)] [.int (Int32.ofInt 40), .int (p_h S0 pl)] (p_S S0 pl cs 0 cl (Int32.ofInt 0) nc sg false bh op na) R Q
  refine w_br (P := (p_h S0 pl) = (Int32.ofInt 40)) rfl (fun _ => rfl) (fun h11 => ?_) (fun h11 => ?_)
  · have hlt := p_h_lt (S0 := S0) (pl := pl) (by rw [h11]; decide)
    refine w_st rfl (fun _ => rfl) ?_
    show w_T L xs (d + 6) m_X12_condition 24 [(0, .ref 100)] [.ref 100] (p_S S0 pl cs 0 cl (Int32.ofInt 0) nc sg false bh op na) R Q
    refine w_cv rfl (by decide) mt_X12_isGood v_tyM rfl rfl rfl (Nat.le_of_ble_eq_true rfl) (Nat.le_of_ble_eq_true rfl) (Nat.le_of_ble_eq_true rfl) ?_
    show w_T L xs _ m_X12_isGood 0 (lv_args 0 [.ref 100]) [] (p_S S0 pl cs 0 cl (Int32.ofInt 0) nc sg false bh op na) R _
    refine h_isGT ?_
    show w_T L xs (d + 6) m_X12_condition 27 [(0, .ref 100)] [.int (Int32.ofInt 1)] (p_S S0 pl cs 0 cl (Int32.ofInt 0) nc sg false bh op na) R Q
    refine w_st rfl (fun _ => rfl) ?_
    refine w_st rfl (fun _ => rfl) ?_
    show w_T L xs (d + 6) m_X12_condition 32 [(0, .ref 100)] [.ref 100] (p_S S0 pl cs 0 cl (Int32.ofInt 0) nc sg false bh op na) R Q
    refine w_cv rfl (by decide) mt_X12_opens v_tyM rfl rfl rfl (Nat.le_of_ble_eq_true rfl) (Nat.le_of_ble_eq_true rfl) (Nat.le_of_ble_eq_true rfl) ?_
    show w_T L xs _ m_X12_opens 0 (lv_args 0 [.ref 100]) [] (p_S S0 pl cs 0 cl (Int32.ofInt 0) nc sg false bh op na) R _
    refine h_opens (by omega) (by omega) (fun o32 => ?_) (fun o32 b32 hb32 => ?_)
    · show w_T L xs (d + 6) m_X12_condition 35 [(0, .ref 100)] [] (p_S S0 (pl + 1) cs (0 + 1) cl (Int32.ofInt 0) nc (upd sg 0 (p_h S0 pl)) false bh o32 na) R Q
      refine w_st rfl (fun _ => rfl) ?_
      refine w_st rfl (fun _ => rfl) ?_
      show w_T L xs (d + 6) m_X12_condition 37 [(1, .int (Int32.ofInt 1)), (0, .ref 100)] [] (p_S S0 (pl + 1) cs (0 + 1) cl (Int32.ofInt 0) nc (upd sg 0 (p_h S0 pl)) false bh o32 na) R Q
      exact h_coL cs pl nc he Kg Kb 240 (pl + 1) cs (0 + 1) nc _ na _ true bh (by omega) (by omega) (p_I_pn hI (by rw [h11]; decide)) ⟨by omega, by rw [p_upe]; exact h11, fun k hk => by rw [show k = 0 by omega, p_upe]; exact Or.inr (Or.inl h11)⟩ (by omega) (by omega)
    · show w_T L xs (d + 6) m_X12_condition 35 [(0, .ref 100)] [] (p_S S0 (pl + 1) cs (0 + 1) cl b32 nc (upd sg 0 (p_h S0 pl)) false bh o32 na) R Q
      refine w_st rfl (fun _ => rfl) ?_
      refine w_st rfl (fun _ => rfl) ?_
      show w_T L xs (d + 6) m_X12_condition 37 [(1, .int (Int32.ofInt 1)), (0, .ref 100)] [] (p_S S0 (pl + 1) cs (0 + 1) cl b32 nc (upd sg 0 (p_h S0 pl)) false bh o32 na) R Q
      refine w_st rfl (fun _ => rfl) ?_
      show w_T L xs (d + 6) m_X12_condition 38 [(1, .int (Int32.ofInt 1)), (0, .ref 100)] [.ref 100] (p_S S0 (pl + 1) cs (0 + 1) cl b32 nc (upd sg 0 (p_h S0 pl)) false bh o32 na) R Q
      refine w_cv rfl (by decide) mt_X12_isGood v_tyM rfl rfl rfl (Nat.le_of_ble_eq_true rfl) (Nat.le_of_ble_eq_true rfl) (Nat.le_of_ble_eq_true rfl) ?_
      show w_T L xs _ m_X12_isGood 0 (lv_args 0 [.ref 100]) [] (p_S S0 (pl + 1) cs (0 + 1) cl b32 nc (upd sg 0 (p_h S0 pl)) false bh o32 na) R _
      refine h_isGF hb32 ?_
      show w_T L xs (d + 6) m_X12_condition 41 [(1, .int (Int32.ofInt 1)), (0, .ref 100)] [.int (Int32.ofInt 0)] (p_S S0 (pl + 1) cs (0 + 1) cl b32 nc (upd sg 0 (p_h S0 pl)) false bh o32 na) R Q
      refine w_st rfl (fun _ => rfl) ?_
      show w_T L xs (d + 6) m_X12_condition 74 [(1, .int (Int32.ofInt 1)), (0, .ref 100)] [] (p_S S0 (pl + 1) cs (0 + 1) cl b32 nc (upd sg 0 (p_h S0 pl)) false bh o32 na) R Q
      refine w_ret rfl rfl ?_
      exact Kb _ _ _ _ _ _ _ _ _ hb32 (by omega) (by omega)
  · refine w_st rfl (fun _ => rfl) ?_
    refine w_st rfl (fun _ => rfl) ?_
    refine w_st rfl (fun _ => rfl) ?_
    show w_T L xs (d + 6) m_X12_condition 17 [(0, .ref 100)] [.ref 100, .int (Int32.ofInt 1), .ref 100] (p_S S0 pl cs 0 cl (Int32.ofInt 0) nc sg false bh op na) R Q
    refine w_get rfl v_tyM rfl ?_
    show w_T L xs (d + 6) m_X12_condition 20 [(0, .ref 100)] [.int (Int32.ofInt (pl : Int)), .int (Int32.ofInt 1), .ref 100] (p_S S0 pl cs 0 cl (Int32.ofInt 0) nc sg false bh op na) R Q
    refine w_cv rfl (by decide) mt_X12_wrongs v_tyM rfl rfl rfl (Nat.le_of_ble_eq_true rfl) (Nat.le_of_ble_eq_true rfl) (Nat.le_of_ble_eq_true rfl) ?_
    show w_T L xs _ m_X12_wrongs 0 (lv_args 0 [.ref 100, .int (Int32.ofInt 1), .int (Int32.ofInt (pl : Int))]) [] (p_S S0 pl cs 0 cl (Int32.ofInt 0) nc sg false bh op na) R _
    refine h_wr (by decide) (by decide) (by rw [w_nat (by omega)]; omega) (by rw [w_nat (by omega)]; omega) (fun b20 hb20 => ?_)
    refine w_st rfl (fun _ => rfl) ?_
    show w_T L xs (d + 6) m_X12_condition 24 [(0, .ref 100)] [.ref 100] (p_S S0 pl cs 0 cl b20 nc sg false bh op na) R Q
    refine w_cv rfl (by decide) mt_X12_isGood v_tyM rfl rfl rfl (Nat.le_of_ble_eq_true rfl) (Nat.le_of_ble_eq_true rfl) (Nat.le_of_ble_eq_true rfl) ?_
    show w_T L xs _ m_X12_isGood 0 (lv_args 0 [.ref 100]) [] (p_S S0 pl cs 0 cl b20 nc sg false bh op na) R _
    refine h_isGF hb20 ?_
    show w_T L xs (d + 6) m_X12_condition 27 [(0, .ref 100)] [.int (Int32.ofInt 0)] (p_S S0 pl cs 0 cl b20 nc sg false bh op na) R Q
    refine w_st rfl (fun _ => rfl) ?_
    show w_T L xs (d + 6) m_X12_condition 30 [(0, .ref 100)] [] (p_S S0 pl cs 0 cl b20 nc sg false bh op na) R Q
    refine w_ret rfl rfl ?_
    exact Kb _ _ _ _ _ _ _ _ _ hb20 (by omega) (by omega)
end PG
end Prt39g
section Prt39h
/-! the reader: clauses, the whole text -/
noncomputable def p_F (S S1 : v_Sf) : Prop := ∀ a j, ¬ (107 ≤ a ∧ a ≤ 110 ∧ j ≤ 16) → S1 a j = S a j
theorem p_F_rf (S : v_Sf) : p_F S S := fun _ _ _ => rfl
theorem p_F_tr {S S1 S2 : v_Sf} (h1 : p_F S S1) (h2 : p_F S1 S2) : p_F S S2 := fun a j h => (h2 a j h).trans (h1 a j h)
theorem p_F_ur {S S1 : v_Sf} (h : p_F S S1) {a j : Nat} {v : Int32} (hm : 107 ≤ a ∧ a ≤ 110 ∧ j ≤ 16) : p_F S (v_ur S1 a (upd (S1 a) j v)) := fun a' j' hn => by
  rw [w_urn (fun e => hn (by rw [e.1, e.2]; exact hm))]
  exact h a' j' hn
noncomputable def p_Z (S : v_Sf) (cl cs : Nat) (nc : Nat → Int32) : Prop := ∀ k, k < cl → ∃ a b c : Nat, S 108 k = Int32.ofInt (a : Int) ∧ S 109 k = Int32.ofInt (b : Int) ∧ S 110 k = Int32.ofInt (c : Int) ∧ a ≤ b ∧ b ≤ c ∧ c ≤ cs ∧ v_seg nc (b - a) a 0 ∧ v_seg nc (c - b) b 0
theorem p_Z_add {S S1 : v_Sf} {cl cs cs1 cs2 : Nat} {nc nc2 : Nat → Int32} (h : p_Z S cl cs nc) (e1 : ∀ k, k < cl → S1 108 k = S 108 k ∧ S1 109 k = S 109 k ∧ S1 110 k = S 110 k) (e2 : S1 108 cl = Int32.ofInt (cs : Int)) (e3 : S1 109 cl = Int32.ofInt (cs1 : Int)) (e4 : S1 110 cl = Int32.ofInt (cs2 : Int)) (h1 : cs ≤ cs1) (h2 : cs1 ≤ cs2) (hn : ∀ k, k < cs → nc2 k = nc k) (g1 : v_seg nc2 (cs1 - cs) cs 0) (g2 : v_seg nc2 (cs2 - cs1) cs1 0) : p_Z S1 (cl + 1) cs2 nc2 := by
  intro k hk
  by_cases e : k = cl
  · subst e
    exact ⟨cs, cs1, cs2, e2, e3, e4, h1, h2, Nat.le_refl _, g1, g2⟩
  · obtain ⟨a, b, c, k1, k2, k3, k4, k5, k6, k7, k8⟩ := h k (by omega)
    obtain ⟨f1, f2, f3⟩ := e1 k (by omega)
    exact ⟨a, b, c, by rw [f1, k1], by rw [f2, k2], by rw [f3, k3], k4, k5, by omega, v_seg_c (fun j j1 j2 => hn j (by omega)) k7, v_seg_c (fun j j1 j2 => hn j (by omega)) k8⟩
theorem p_I_of {q cs sk m : Nat} {nc0 nc sg : Nat → Int32} (h : p_I q nc0 cs sk nc sg m) : q ≤ cs ∧ (∀ k, k < q → nc k = nc0 k) ∧ v_seg nc (cs - q) q 0 := ⟨h.1, h.2.1, h.2.2.1⟩
theorem p_I_0 {cs : Nat} {nc sg : Nat → Int32} : p_I cs nc cs 0 nc sg 0 := ⟨Nat.le_refl _, fun _ _ => rfl, by rw [Nat.sub_self]; trivial, by rw [Nat.sub_self]; rfl⟩
theorem p_Tw {S : v_Sf} {R : v_Rf} (hT : v_Tb v_ty S R) {a n j : Nat} {v : Int32} (hg : v_ty a = some (.inl (0, n, (-2147483648), 2147483647))) : v_Tb v_ty (v_ur S a (upd (S a) j v)) R := w_TbR hT hg (q_rng _).1 (q_rng _).2
section PK
variable {L : Nat} {xs : Nat → Int32} {d : Nat} {R : v_Rf} {Q : Option Value → v_Sf → v_Rf → Prop} {S0 : v_Sf} {pl cs sk cl : Nat} {bd : Int32} {nc sg : Nat → Int32} {ov bh : Bool} {op : Int32} {na : Nat → Int32}
theorem h_clL (he : (S0 99 4).toInt ≤ 240) (hT : v_Tb v_ty S0 R) (hZ : p_Z S0 cl cs nc) (hb : cs ≤ pl) (hp : pl ≤ 240) (hsk : sk ≤ 240) (hcl : cl ≤ 16) (Kg : ∀ (S1 : v_Sf) (pl' cs' sk' : Nat) (nc' sg' na' : Nat → Int32) (o : Int32) (v' h' : Bool), p_F S0 S1 → v_Tb v_ty S1 R → p_Z S1 (cl + 1) cs' nc' → pl ≤ pl' → cs' ≤ pl' → pl' ≤ 240 → sk' ≤ 240 → cl < 16 → Q none (p_S S1 (pl') (cs') (sk') (cl + 1) (Int32.ofInt 0) (nc') (sg') (v') (h') o (na')) R) (Kb : ∀ (S1 : v_Sf) (pl' cs' sk' cl' : Nat) (b' : Int32) (nc' sg' na' : Nat → Int32) (o : Int32) (v' h' : Bool), p_F S0 S1 → v_Tb v_ty S1 R → b'.toInt < 0 → cs' ≤ 240 → pl' ≤ 240 → sk' ≤ 240 → cl' ≤ 16 → Q none (p_S S1 (pl') (cs') (sk') (cl') (b') (nc') (sg') (v') (h') o (na')) R) : w_T L xs (d + 7) m_X12_clause 0 (lv_args 0 [.ref 100, .int (Int32.ofInt 0)]) [] (p_S S0 pl cs sk cl (Int32.ofInt 0) nc sg ov bh op na) R Q := by
  refine w_st rfl (fun _ => rfl) ?_
  show w_T L xs (d + 7) m_X12_clause 1 [(0, .ref 100), (1, .int (Int32.ofInt 0))] [.ref 100] (p_S S0 pl cs sk cl (Int32.ofInt 0) nc sg ov bh op na) R Q
  refine w_cv rfl (by decide) mt_X12_here v_tyM rfl rfl rfl (Nat.le_of_ble_eq_true rfl) (Nat.le_of_ble_eq_true rfl) (Nat.le_of_ble_eq_true rfl) ?_
  show w_T L xs _ m_X12_here 0 (lv_args 0 [.ref 100]) [] (p_S S0 pl cs sk cl (Int32.ofInt 0) nc sg ov bh op na) R _
  refine h_here (by omega) ?_
  refine w_st rfl (fun _ => rfl) ?_
  refine w_st rfl (fun _ => rfl) ?_
  show w_T L xs (d + 7) m_X12_clause 6 [(2, .int (p_h S0 pl)), (0, .ref 100), (1, .int (Int32.ofInt 0))] [.int (Int32.ofInt 0)] (p_S S0 pl cs sk cl (Int32.ofInt 0) nc sg ov bh op na) R Q
  refine w_st rfl (fun _ => rfl) ?_
  refine w_st rfl (fun _ => rfl) ?_
  show w_T L xs (d + 7) m_X12_clause 19 [(2, .int (p_h S0 pl)), (0, .ref 100), (1, .int (Int32.ofInt 0))] [.int (p_h S0 pl)] (p_S S0 pl cs sk cl (Int32.ofInt 0) nc sg ov bh op na) R Q
  refine w_cs rfl (by decide) mt_X12_isClause (fun _ => rfl) (Nat.le_of_ble_eq_true rfl) (Nat.le_of_ble_eq_true rfl) ?_
  show w_T L xs _ m_X12_isClause 0 (lv_args 0 [.int (p_h S0 pl)]) [] (p_S S0 pl cs sk cl (Int32.ofInt 0) nc sg ov bh op na) R _
  refine h_isClause _ (fun c19 => ?_) (fun _ => ?_)
  · have hlt := p_h_lt c19
    show w_T L xs (d + 7) m_X12_clause 22 [(2, .int (p_h S0 pl)), (0, .ref 100), (1, .int (Int32.ofInt 0))] [.int (Int32.ofInt 1)] (p_S S0 pl cs sk cl (Int32.ofInt 0) nc sg ov bh op na) R Q
    refine w_st rfl (fun _ => rfl) ?_
    refine w_st rfl (fun _ => rfl) ?_
    show w_T L xs (d + 7) m_X12_clause 38 [(2, .int (p_h S0 pl)), (0, .ref 100), (1, .int (Int32.ofInt 0))] [.ref 100] (p_S S0 pl cs sk cl (Int32.ofInt 0) nc sg ov bh op na) R Q
    refine w_get rfl v_tyM rfl ?_
    refine w_st rfl (fun _ => rfl) ?_
    show w_T L xs (d + 7) m_X12_clause 42 [(2, .int (p_h S0 pl)), (0, .ref 100), (1, .int (Int32.ofInt 0))] [.int (Int32.ofInt 0), .int (Int32.ofInt (cl : Int))] (p_S S0 pl cs sk cl (Int32.ofInt 0) nc sg ov bh op na) R Q
    refine w_st rfl (fun _ => rfl) ?_
    refine w_st rfl (fun _ => rfl) ?_
    show w_T L xs (d + 7) m_X12_clause 52 [(2, .int (p_h S0 pl)), (0, .ref 100), (1, .int (Int32.ofInt 0))] [.int (Int32.ofInt 16), .int (Int32.ofInt (cl : Int))] (p_S S0 pl cs sk cl (Int32.ofInt 0) nc sg ov bh op na) R Q
    refine w_br (P := ¬ (Int32.ofInt (cl : Int)) = (Int32.ofInt 16)) rfl (fun _ => rfl) (fun h52 => ?_) (fun h52 => ?_)
    · have hcl3 : cl < 16 := by
        refine Nat.lt_of_le_of_ne hcl (fun e => h52 ?_)
        rw [e]
        rfl
      refine w_st rfl (fun _ => rfl) ?_
      show w_T L xs (d + 7) m_X12_clause 65 [(2, .int (p_h S0 pl)), (0, .ref 100), (1, .int (Int32.ofInt 0))] [.ref 100] (p_S S0 pl cs sk cl (Int32.ofInt 0) nc sg ov bh op na) R Q
      refine w_cv rfl (by decide) mt_X12_isGood v_tyM rfl rfl rfl (Nat.le_of_ble_eq_true rfl) (Nat.le_of_ble_eq_true rfl) (Nat.le_of_ble_eq_true rfl) ?_
      show w_T L xs _ m_X12_isGood 0 (lv_args 0 [.ref 100]) [] (p_S S0 pl cs sk cl (Int32.ofInt 0) nc sg ov bh op na) R _
      refine h_isGT ?_
      show w_T L xs (d + 7) m_X12_clause 68 [(2, .int (p_h S0 pl)), (0, .ref 100), (1, .int (Int32.ofInt 0))] [.int (Int32.ofInt 1)] (p_S S0 pl cs sk cl (Int32.ofInt 0) nc sg ov bh op na) R Q
      refine w_st rfl (fun _ => rfl) ?_
      refine w_st rfl (fun _ => rfl) ?_
      show w_T L xs (d + 7) m_X12_clause 73 [(2, .int (p_h S0 pl)), (0, .ref 100), (1, .int (Int32.ofInt 0))] [.ref 100] (p_S S0 pl cs sk cl (Int32.ofInt 0) nc sg ov bh op na) R Q
      refine w_getr rfl v_tyM rfl ?_
      refine w_st rfl (fun _ => rfl) ?_
      show w_T L xs (d + 7) m_X12_clause 77 [(2, .int (p_h S0 pl)), (0, .ref 100), (1, .int (Int32.ofInt 0))] [.ref 100, .ref 108] (p_S S0 pl cs sk cl (Int32.ofInt 0) nc sg ov bh op na) R Q
      refine w_get rfl v_tyM rfl ?_
      refine w_st rfl (fun _ => rfl) ?_
      show w_T L xs (d + 7) m_X12_clause 81 [(2, .int (p_h S0 pl)), (0, .ref 100), (1, .int (Int32.ofInt 0))] [.int (p_h S0 pl), .int (Int32.ofInt (cl : Int)), .ref 108] (p_S S0 pl cs sk cl (Int32.ofInt 0) nc sg ov bh op na) R Q
      refine w_iast rfl rfl (by rw [w_nat (by omega)]; omega) (by rw [w_nat (by omega)]; omega) ?_
      refine w_eqS (p_wor (by decide) (w_natn (by omega))) ?_
      refine w_st rfl (fun _ => rfl) ?_
      show w_T L xs (d + 7) m_X12_clause 83 [(2, .int (p_h S0 pl)), (0, .ref 100), (1, .int (Int32.ofInt 0))] [.ref 100] (p_S (v_ur S0 107 (upd (S0 107) cl (p_h S0 pl))) pl cs sk cl (Int32.ofInt 0) nc sg ov bh op na) R Q
      refine w_getr rfl v_tyM rfl ?_
      refine w_st rfl (fun _ => rfl) ?_
      show w_T L xs (d + 7) m_X12_clause 87 [(2, .int (p_h S0 pl)), (0, .ref 100), (1, .int (Int32.ofInt 0))] [.ref 100, .ref 109] (p_S (v_ur S0 107 (upd (S0 107) cl (p_h S0 pl))) pl cs sk cl (Int32.ofInt 0) nc sg ov bh op na) R Q
      refine w_get rfl v_tyM rfl ?_
      refine w_st rfl (fun _ => rfl) ?_
      show w_T L xs (d + 7) m_X12_clause 91 [(2, .int (p_h S0 pl)), (0, .ref 100), (1, .int (Int32.ofInt 0))] [.ref 100, .int (Int32.ofInt (cl : Int)), .ref 109] (p_S (v_ur S0 107 (upd (S0 107) cl (p_h S0 pl))) pl cs sk cl (Int32.ofInt 0) nc sg ov bh op na) R Q
      refine w_get rfl v_tyM rfl ?_
      show w_T L xs (d + 7) m_X12_clause 94 [(2, .int (p_h S0 pl)), (0, .ref 100), (1, .int (Int32.ofInt 0))] [.int (Int32.ofInt (cs : Int)), .int (Int32.ofInt (cl : Int)), .ref 109] (p_S (v_ur S0 107 (upd (S0 107) cl (p_h S0 pl))) pl cs sk cl (Int32.ofInt 0) nc sg ov bh op na) R Q
      refine w_iast rfl rfl (by rw [w_nat (by omega)]; omega) (by rw [w_nat (by omega)]; omega) ?_
      refine w_eqS (p_wor (by decide) (w_natn (by omega))) ?_
      refine w_st rfl (fun _ => rfl) ?_
      refine w_st rfl (fun _ => rfl) ?_
      show w_T L xs (d + 7) m_X12_clause 97 [(2, .int (p_h S0 pl)), (0, .ref 100), (1, .int (Int32.ofInt 0))] [.ref 100, .ref 100] (p_S (v_ur (v_ur S0 107 (upd (S0 107) cl (p_h S0 pl))) 108 (upd ((v_ur S0 107 (upd (S0 107) cl (p_h S0 pl))) 108) cl (Int32.ofInt (cs : Int)))) pl cs sk cl (Int32.ofInt 0) nc sg ov bh op na) R Q
      refine w_get rfl v_tyM rfl ?_
      refine w_st rfl (fun _ => rfl) ?_
      show w_T L xs (d + 7) m_X12_clause 101 [(2, .int (p_h S0 pl)), (0, .ref 100), (1, .int (Int32.ofInt 0))] [.int (Int32.ofInt 0), .int (Int32.ofInt (pl : Int)), .ref 100] (p_S (v_ur (v_ur S0 107 (upd (S0 107) cl (p_h S0 pl))) 108 (upd ((v_ur S0 107 (upd (S0 107) cl (p_h S0 pl))) 108) cl (Int32.ofInt (cs : Int)))) pl cs sk cl (Int32.ofInt 0) nc sg ov bh op na) R Q
      refine w_st rfl (fun _ => rfl) ?_
      refine w_st rfl (fun _ => rfl) ?_
      refine w_st rfl (fun _ => rfl) ?_
      show w_T L xs (d + 7) m_X12_clause 110 [(2, .int (p_h S0 pl)), (0, .ref 100), (1, .int (Int32.ofInt 0))] [.int ((Int32.ofInt (pl : Int)) + (Int32.ofInt 1)), .ref 100] (p_S (v_ur (v_ur S0 107 (upd (S0 107) cl (p_h S0 pl))) 108 (upd ((v_ur S0 107 (upd (S0 107) cl (p_h S0 pl))) 108) cl (Int32.ofInt (cs : Int)))) pl cs sk cl (Int32.ofInt 0) nc sg ov bh op na) R Q
      refine w_put rfl v_tyM rfl rfl rfl ?_
      refine w_eqS (p_wpl (w_inc _)) ?_
      refine w_st rfl (fun _ => rfl) ?_
      refine w_st rfl (fun _ => rfl) ?_
      show w_T L xs (d + 7) m_X12_clause 115 [(2, .int (p_h S0 pl)), (0, .ref 100), (1, .int (Int32.ofInt 0))] [.int (Int32.ofInt 0), .ref 100] (p_S (v_ur (v_ur S0 107 (upd (S0 107) cl (p_h S0 pl))) 108 (upd ((v_ur S0 107 (upd (S0 107) cl (p_h S0 pl))) 108) cl (Int32.ofInt (cs : Int)))) (pl + 1) cs sk cl (Int32.ofInt 0) nc sg ov bh op na) R Q
      refine w_put rfl v_tyM rfl rfl rfl ?_
      refine w_eqS (p_wsk (k := 0) rfl) ?_
      refine w_st rfl (fun _ => rfl) ?_
      refine w_st rfl (fun _ => rfl) ?_
      show w_T L xs (d + 7) m_X12_clause 120 [(2, .int (p_h S0 pl)), (0, .ref 100), (1, .int (Int32.ofInt 0))] [.int (Int32.ofInt 0), .ref 100] (p_S (v_ur (v_ur S0 107 (upd (S0 107) cl (p_h S0 pl))) 108 (upd ((v_ur S0 107 (upd (S0 107) cl (p_h S0 pl))) 108) cl (Int32.ofInt (cs : Int)))) (pl + 1) cs 0 cl (Int32.ofInt 0) nc sg ov bh op na) R Q
      refine w_put rfl v_tyM rfl rfl rfl ?_
      refine w_eqS p_wop ?_
      refine w_st rfl (fun _ => rfl) ?_
      show w_T L xs (d + 7) m_X12_clause 124 [(2, .int (p_h S0 pl)), (0, .ref 100), (1, .int (Int32.ofInt 0))] [.int (Int32.ofInt 0)] (p_S (v_ur (v_ur S0 107 (upd (S0 107) cl (p_h S0 pl))) 108 (upd ((v_ur S0 107 (upd (S0 107) cl (p_h S0 pl))) 108) cl (Int32.ofInt (cs : Int)))) (pl + 1) cs 0 cl (Int32.ofInt 0) nc sg ov bh (Int32.ofInt 0) na) R Q
      refine w_st rfl (fun _ => rfl) ?_
      refine w_st rfl (fun _ => rfl) ?_
      refine w_st rfl (fun _ => rfl) ?_
      show w_T L xs (d + 7) m_X12_clause 130 [(2, .int (p_h S0 pl)), (0, .ref 100), (1, .int (Int32.ofInt 0))] [.int (Int32.ofInt 101), .int (p_h S0 pl)] (p_S (v_ur (v_ur S0 107 (upd (S0 107) cl (p_h S0 pl))) 108 (upd ((v_ur S0 107 (upd (S0 107) cl (p_h S0 pl))) 108) cl (Int32.ofInt (cs : Int)))) (pl + 1) cs 0 cl (Int32.ofInt 0) nc sg ov bh (Int32.ofInt 0) na) R Q
      refine w_br (P := (p_h S0 pl) = (Int32.ofInt 101)) rfl (fun _ => rfl) (fun h130 => ?_) (fun h130 => ?_)
      · refine w_st rfl (fun _ => rfl) ?_
        show w_T L xs (d + 7) m_X12_clause 144 [(2, .int (p_h S0 pl)), (0, .ref 100), (1, .int (Int32.ofInt 0))] [.ref 100] (p_S (v_ur (v_ur S0 107 (upd (S0 107) cl (p_h S0 pl))) 108 (upd ((v_ur S0 107 (upd (S0 107) cl (p_h S0 pl))) 108) cl (Int32.ofInt (cs : Int)))) (pl + 1) cs 0 cl (Int32.ofInt 0) nc sg ov bh (Int32.ofInt 0) na) R Q
        refine w_getr rfl v_tyM rfl ?_
        refine w_st rfl (fun _ => rfl) ?_
        show w_T L xs (d + 7) m_X12_clause 148 [(2, .int (p_h S0 pl)), (0, .ref 100), (1, .int (Int32.ofInt 0))] [.ref 100, .ref 110] (p_S (v_ur (v_ur S0 107 (upd (S0 107) cl (p_h S0 pl))) 108 (upd ((v_ur S0 107 (upd (S0 107) cl (p_h S0 pl))) 108) cl (Int32.ofInt (cs : Int)))) (pl + 1) cs 0 cl (Int32.ofInt 0) nc sg ov bh (Int32.ofInt 0) na) R Q
        refine w_get rfl v_tyM rfl ?_
        refine w_st rfl (fun _ => rfl) ?_
        show w_T L xs (d + 7) m_X12_clause 152 [(2, .int (p_h S0 pl)), (0, .ref 100), (1, .int (Int32.ofInt 0))] [.ref 100, .int (Int32.ofInt (cl : Int)), .ref 110] (p_S (v_ur (v_ur S0 107 (upd (S0 107) cl (p_h S0 pl))) 108 (upd ((v_ur S0 107 (upd (S0 107) cl (p_h S0 pl))) 108) cl (Int32.ofInt (cs : Int)))) (pl + 1) cs 0 cl (Int32.ofInt 0) nc sg ov bh (Int32.ofInt 0) na) R Q
        refine w_get rfl v_tyM rfl ?_
        show w_T L xs (d + 7) m_X12_clause 155 [(2, .int (p_h S0 pl)), (0, .ref 100), (1, .int (Int32.ofInt 0))] [.int (Int32.ofInt (cs : Int)), .int (Int32.ofInt (cl : Int)), .ref 110] (p_S (v_ur (v_ur S0 107 (upd (S0 107) cl (p_h S0 pl))) 108 (upd ((v_ur S0 107 (upd (S0 107) cl (p_h S0 pl))) 108) cl (Int32.ofInt (cs : Int)))) (pl + 1) cs 0 cl (Int32.ofInt 0) nc sg ov bh (Int32.ofInt 0) na) R Q
        refine w_iast rfl rfl (by rw [w_nat (by omega)]; omega) (by rw [w_nat (by omega)]; omega) ?_
        refine w_eqS (p_wor (by decide) (w_natn (by omega))) ?_
        refine w_st rfl (fun _ => rfl) ?_
        show w_T L xs (d + 7) m_X12_clause 157 [(2, .int (p_h S0 pl)), (0, .ref 100), (1, .int (Int32.ofInt 0))] [.ref 100] (p_S (v_ur (v_ur (v_ur S0 107 (upd (S0 107) cl (p_h S0 pl))) 108 (upd ((v_ur S0 107 (upd (S0 107) cl (p_h S0 pl))) 108) cl (Int32.ofInt (cs : Int)))) 109 (upd ((v_ur (v_ur S0 107 (upd (S0 107) cl (p_h S0 pl))) 108 (upd ((v_ur S0 107 (upd (S0 107) cl (p_h S0 pl))) 108) cl (Int32.ofInt (cs : Int)))) 109) cl (Int32.ofInt (cs : Int)))) (pl + 1) cs 0 cl (Int32.ofInt 0) nc sg ov bh (Int32.ofInt 0) na) R Q
        refine w_cv rfl (by decide) mt_X12_isGood v_tyM rfl rfl rfl (Nat.le_of_ble_eq_true rfl) (Nat.le_of_ble_eq_true rfl) (Nat.le_of_ble_eq_true rfl) ?_
        show w_T L xs _ m_X12_isGood 0 (lv_args 0 [.ref 100]) [] (p_S (v_ur (v_ur (v_ur S0 107 (upd (S0 107) cl (p_h S0 pl))) 108 (upd ((v_ur S0 107 (upd (S0 107) cl (p_h S0 pl))) 108) cl (Int32.ofInt (cs : Int)))) 109 (upd ((v_ur (v_ur S0 107 (upd (S0 107) cl (p_h S0 pl))) 108 (upd ((v_ur S0 107 (upd (S0 107) cl (p_h S0 pl))) 108) cl (Int32.ofInt (cs : Int)))) 109) cl (Int32.ofInt (cs : Int)))) (pl + 1) cs 0 cl (Int32.ofInt 0) nc sg ov bh (Int32.ofInt 0) na) R _
        refine h_isGT ?_
        show w_T L xs (d + 7) m_X12_clause 160 [(2, .int (p_h S0 pl)), (0, .ref 100), (1, .int (Int32.ofInt 0))] [.int (Int32.ofInt 1)] (p_S (v_ur (v_ur (v_ur S0 107 (upd (S0 107) cl (p_h S0 pl))) 108 (upd ((v_ur S0 107 (upd (S0 107) cl (p_h S0 pl))) 108) cl (Int32.ofInt (cs : Int)))) 109 (upd ((v_ur (v_ur S0 107 (upd (S0 107) cl (p_h S0 pl))) 108 (upd ((v_ur S0 107 (upd (S0 107) cl (p_h S0 pl))) 108) cl (Int32.ofInt (cs : Int)))) 109) cl (Int32.ofInt (cs : Int)))) (pl + 1) cs 0 cl (Int32.ofInt 0) nc sg ov bh (Int32.ofInt 0) na) R Q
        refine w_st rfl (fun _ => rfl) ?_
        refine w_st rfl (fun _ => rfl) ?_
        show w_T L xs (d + 7) m_X12_clause 164 [(2, .int (p_h S0 pl)), (0, .ref 100), (1, .int (Int32.ofInt 0))] [.ref 100] (p_S (v_ur (v_ur (v_ur S0 107 (upd (S0 107) cl (p_h S0 pl))) 108 (upd ((v_ur S0 107 (upd (S0 107) cl (p_h S0 pl))) 108) cl (Int32.ofInt (cs : Int)))) 109 (upd ((v_ur (v_ur S0 107 (upd (S0 107) cl (p_h S0 pl))) 108 (upd ((v_ur S0 107 (upd (S0 107) cl (p_h S0 pl))) 108) cl (Int32.ofInt (cs : Int)))) 109) cl (Int32.ofInt (cs : Int)))) (pl + 1) cs 0 cl (Int32.ofInt 0) nc sg ov bh (Int32.ofInt 0) na) R Q
        refine w_cv rfl (by decide) mt_X12_condition v_tyM rfl rfl rfl (Nat.le_of_ble_eq_true rfl) (Nat.le_of_ble_eq_true rfl) (Nat.le_of_ble_eq_true rfl) ?_
        show w_T L xs _ m_X12_condition 0 (lv_args 0 [.ref 100]) [] (p_S (v_ur (v_ur (v_ur S0 107 (upd (S0 107) cl (p_h S0 pl))) 108 (upd ((v_ur S0 107 (upd (S0 107) cl (p_h S0 pl))) 108) cl (Int32.ofInt (cs : Int)))) 109 (upd ((v_ur (v_ur S0 107 (upd (S0 107) cl (p_h S0 pl))) 108 (upd ((v_ur S0 107 (upd (S0 107) cl (p_h S0 pl))) 108) cl (Int32.ofInt (cs : Int)))) 109) cl (Int32.ofInt (cs : Int)))) (pl + 1) cs 0 cl (Int32.ofInt 0) nc sg ov bh (Int32.ofInt 0) na) R _
        refine h_cond (S0 := (v_ur (v_ur (v_ur S0 107 (upd (S0 107) cl (p_h S0 pl))) 108 (upd ((v_ur S0 107 (upd (S0 107) cl (p_h S0 pl))) 108) cl (Int32.ofInt (cs : Int)))) 109 (upd ((v_ur (v_ur S0 107 (upd (S0 107) cl (p_h S0 pl))) 108 (upd ((v_ur S0 107 (upd (S0 107) cl (p_h S0 pl))) 108) cl (Int32.ofInt (cs : Int)))) 109) cl (Int32.ofInt (cs : Int))))) he (by omega) (by omega) (fun pl2 cs2 sk2 nc2 sg2 na2 o2 h2 l2 i2 j2 k2 => ?_) (fun pl2 cs2 sk2 b164 nc2 sg2 na2 o2 h2 hb164 j2 k2 => ?_)
        · obtain ⟨r1, r2, r3⟩ := p_I_of i2
          show w_T L xs (d + 7) m_X12_clause 167 [(2, .int (p_h S0 pl)), (0, .ref 100), (1, .int (Int32.ofInt 0))] [] (p_S (v_ur (v_ur (v_ur S0 107 (upd (S0 107) cl (p_h S0 pl))) 108 (upd ((v_ur S0 107 (upd (S0 107) cl (p_h S0 pl))) 108) cl (Int32.ofInt (cs : Int)))) 109 (upd ((v_ur (v_ur S0 107 (upd (S0 107) cl (p_h S0 pl))) 108 (upd ((v_ur S0 107 (upd (S0 107) cl (p_h S0 pl))) 108) cl (Int32.ofInt (cs : Int)))) 109) cl (Int32.ofInt (cs : Int)))) pl2 cs2 sk2 cl (Int32.ofInt 0) nc2 sg2 true h2 o2 na2) R Q
          refine w_st rfl (fun _ => rfl) ?_
          show w_T L xs (d + 7) m_X12_clause 168 [(2, .int (p_h S0 pl)), (0, .ref 100), (1, .int (Int32.ofInt 0))] [.ref 100] (p_S (v_ur (v_ur (v_ur S0 107 (upd (S0 107) cl (p_h S0 pl))) 108 (upd ((v_ur S0 107 (upd (S0 107) cl (p_h S0 pl))) 108) cl (Int32.ofInt (cs : Int)))) 109 (upd ((v_ur (v_ur S0 107 (upd (S0 107) cl (p_h S0 pl))) 108 (upd ((v_ur S0 107 (upd (S0 107) cl (p_h S0 pl))) 108) cl (Int32.ofInt (cs : Int)))) 109) cl (Int32.ofInt (cs : Int)))) pl2 cs2 sk2 cl (Int32.ofInt 0) nc2 sg2 true h2 o2 na2) R Q
          refine w_getr rfl v_tyM rfl ?_
          refine w_st rfl (fun _ => rfl) ?_
          show w_T L xs (d + 7) m_X12_clause 172 [(2, .int (p_h S0 pl)), (0, .ref 100), (1, .int (Int32.ofInt 0))] [.ref 100, .ref 111] (p_S (v_ur (v_ur (v_ur S0 107 (upd (S0 107) cl (p_h S0 pl))) 108 (upd ((v_ur S0 107 (upd (S0 107) cl (p_h S0 pl))) 108) cl (Int32.ofInt (cs : Int)))) 109 (upd ((v_ur (v_ur S0 107 (upd (S0 107) cl (p_h S0 pl))) 108 (upd ((v_ur S0 107 (upd (S0 107) cl (p_h S0 pl))) 108) cl (Int32.ofInt (cs : Int)))) 109) cl (Int32.ofInt (cs : Int)))) pl2 cs2 sk2 cl (Int32.ofInt 0) nc2 sg2 true h2 o2 na2) R Q
          refine w_get rfl v_tyM rfl ?_
          refine w_st rfl (fun _ => rfl) ?_
          show w_T L xs (d + 7) m_X12_clause 176 [(2, .int (p_h S0 pl)), (0, .ref 100), (1, .int (Int32.ofInt 0))] [.ref 100, .int (Int32.ofInt (cl : Int)), .ref 111] (p_S (v_ur (v_ur (v_ur S0 107 (upd (S0 107) cl (p_h S0 pl))) 108 (upd ((v_ur S0 107 (upd (S0 107) cl (p_h S0 pl))) 108) cl (Int32.ofInt (cs : Int)))) 109 (upd ((v_ur (v_ur S0 107 (upd (S0 107) cl (p_h S0 pl))) 108 (upd ((v_ur S0 107 (upd (S0 107) cl (p_h S0 pl))) 108) cl (Int32.ofInt (cs : Int)))) 109) cl (Int32.ofInt (cs : Int)))) pl2 cs2 sk2 cl (Int32.ofInt 0) nc2 sg2 true h2 o2 na2) R Q
          refine w_get rfl v_tyM rfl ?_
          show w_T L xs (d + 7) m_X12_clause 179 [(2, .int (p_h S0 pl)), (0, .ref 100), (1, .int (Int32.ofInt 0))] [.int (Int32.ofInt (cs2 : Int)), .int (Int32.ofInt (cl : Int)), .ref 111] (p_S (v_ur (v_ur (v_ur S0 107 (upd (S0 107) cl (p_h S0 pl))) 108 (upd ((v_ur S0 107 (upd (S0 107) cl (p_h S0 pl))) 108) cl (Int32.ofInt (cs : Int)))) 109 (upd ((v_ur (v_ur S0 107 (upd (S0 107) cl (p_h S0 pl))) 108 (upd ((v_ur S0 107 (upd (S0 107) cl (p_h S0 pl))) 108) cl (Int32.ofInt (cs : Int)))) 109) cl (Int32.ofInt (cs : Int)))) pl2 cs2 sk2 cl (Int32.ofInt 0) nc2 sg2 true h2 o2 na2) R Q
          refine w_iast rfl rfl (by rw [w_nat (by omega)]; omega) (by rw [w_nat (by omega)]; omega) ?_
          refine w_eqS (p_wor (by decide) (w_natn (by omega))) ?_
          refine w_st rfl (fun _ => rfl) ?_
          refine w_st rfl (fun _ => rfl) ?_
          show w_T L xs (d + 7) m_X12_clause 182 [(2, .int (p_h S0 pl)), (0, .ref 100), (1, .int (Int32.ofInt 0))] [.ref 100, .ref 100] (p_S (v_ur (v_ur (v_ur (v_ur S0 107 (upd (S0 107) cl (p_h S0 pl))) 108 (upd ((v_ur S0 107 (upd (S0 107) cl (p_h S0 pl))) 108) cl (Int32.ofInt (cs : Int)))) 109 (upd ((v_ur (v_ur S0 107 (upd (S0 107) cl (p_h S0 pl))) 108 (upd ((v_ur S0 107 (upd (S0 107) cl (p_h S0 pl))) 108) cl (Int32.ofInt (cs : Int)))) 109) cl (Int32.ofInt (cs : Int)))) 110 (upd ((v_ur (v_ur (v_ur S0 107 (upd (S0 107) cl (p_h S0 pl))) 108 (upd ((v_ur S0 107 (upd (S0 107) cl (p_h S0 pl))) 108) cl (Int32.ofInt (cs : Int)))) 109 (upd ((v_ur (v_ur S0 107 (upd (S0 107) cl (p_h S0 pl))) 108 (upd ((v_ur S0 107 (upd (S0 107) cl (p_h S0 pl))) 108) cl (Int32.ofInt (cs : Int)))) 109) cl (Int32.ofInt (cs : Int)))) 110) cl (Int32.ofInt (cs2 : Int)))) pl2 cs2 sk2 cl (Int32.ofInt 0) nc2 sg2 true h2 o2 na2) R Q
          refine w_get rfl v_tyM rfl ?_
          refine w_st rfl (fun _ => rfl) ?_
          refine w_st rfl (fun _ => rfl) ?_
          show w_T L xs (d + 7) m_X12_clause 187 [(2, .int (p_h S0 pl)), (0, .ref 100), (1, .int (Int32.ofInt 0))] [.int ((Int32.ofInt (cl : Int)) + (Int32.ofInt 1)), .ref 100] (p_S (v_ur (v_ur (v_ur (v_ur S0 107 (upd (S0 107) cl (p_h S0 pl))) 108 (upd ((v_ur S0 107 (upd (S0 107) cl (p_h S0 pl))) 108) cl (Int32.ofInt (cs : Int)))) 109 (upd ((v_ur (v_ur S0 107 (upd (S0 107) cl (p_h S0 pl))) 108 (upd ((v_ur S0 107 (upd (S0 107) cl (p_h S0 pl))) 108) cl (Int32.ofInt (cs : Int)))) 109) cl (Int32.ofInt (cs : Int)))) 110 (upd ((v_ur (v_ur (v_ur S0 107 (upd (S0 107) cl (p_h S0 pl))) 108 (upd ((v_ur S0 107 (upd (S0 107) cl (p_h S0 pl))) 108) cl (Int32.ofInt (cs : Int)))) 109 (upd ((v_ur (v_ur S0 107 (upd (S0 107) cl (p_h S0 pl))) 108 (upd ((v_ur S0 107 (upd (S0 107) cl (p_h S0 pl))) 108) cl (Int32.ofInt (cs : Int)))) 109) cl (Int32.ofInt (cs : Int)))) 110) cl (Int32.ofInt (cs2 : Int)))) pl2 cs2 sk2 cl (Int32.ofInt 0) nc2 sg2 true h2 o2 na2) R Q
          refine w_put rfl v_tyM rfl rfl rfl ?_
          refine w_eqS (p_wcl (w_inc _)) ?_
          show w_T L xs (d + 7) m_X12_clause 190 [(2, .int (p_h S0 pl)), (0, .ref 100), (1, .int (Int32.ofInt 0))] [] (p_S (v_ur (v_ur (v_ur (v_ur S0 107 (upd (S0 107) cl (p_h S0 pl))) 108 (upd ((v_ur S0 107 (upd (S0 107) cl (p_h S0 pl))) 108) cl (Int32.ofInt (cs : Int)))) 109 (upd ((v_ur (v_ur S0 107 (upd (S0 107) cl (p_h S0 pl))) 108 (upd ((v_ur S0 107 (upd (S0 107) cl (p_h S0 pl))) 108) cl (Int32.ofInt (cs : Int)))) 109) cl (Int32.ofInt (cs : Int)))) 110 (upd ((v_ur (v_ur (v_ur S0 107 (upd (S0 107) cl (p_h S0 pl))) 108 (upd ((v_ur S0 107 (upd (S0 107) cl (p_h S0 pl))) 108) cl (Int32.ofInt (cs : Int)))) 109 (upd ((v_ur (v_ur S0 107 (upd (S0 107) cl (p_h S0 pl))) 108 (upd ((v_ur S0 107 (upd (S0 107) cl (p_h S0 pl))) 108) cl (Int32.ofInt (cs : Int)))) 109) cl (Int32.ofInt (cs : Int)))) 110) cl (Int32.ofInt (cs2 : Int)))) pl2 cs2 sk2 (cl + 1) (Int32.ofInt 0) nc2 sg2 true h2 o2 na2) R Q
          refine w_ret rfl rfl ?_
          refine Kg _ _ _ _ _ _ _ _ _ _ (p_F_ur (p_F_ur (p_F_ur (p_F_ur (p_F_rf _) (by omega)) (by omega)) (by omega)) (by omega)) (p_Tw (p_Tw (p_Tw (p_Tw hT (a := 107) rfl) (a := 108) rfl) (a := 109) rfl) (a := 110) rfl) (p_Z_add (cs1 := cs) hZ (fun k hk => ?_) ?_ ?_ ?_ (by omega) (by omega) (fun k hk => r2 k hk) (by rw [Nat.sub_self]; trivial) r3) (by omega) (by omega) (by omega) (by omega) (by omega)
          · have hne : ¬ k = cl := by omega
            simp [v_ur, upd, hne]
          · simp [v_ur, upd]
          · simp [v_ur, upd]
          · simp [v_ur, upd]
        · show w_T L xs (d + 7) m_X12_clause 167 [(2, .int (p_h S0 pl)), (0, .ref 100), (1, .int (Int32.ofInt 0))] [] (p_S (v_ur (v_ur (v_ur S0 107 (upd (S0 107) cl (p_h S0 pl))) 108 (upd ((v_ur S0 107 (upd (S0 107) cl (p_h S0 pl))) 108) cl (Int32.ofInt (cs : Int)))) 109 (upd ((v_ur (v_ur S0 107 (upd (S0 107) cl (p_h S0 pl))) 108 (upd ((v_ur S0 107 (upd (S0 107) cl (p_h S0 pl))) 108) cl (Int32.ofInt (cs : Int)))) 109) cl (Int32.ofInt (cs : Int)))) pl2 cs2 sk2 cl b164 nc2 sg2 false h2 o2 na2) R Q
          refine w_st rfl (fun _ => rfl) ?_
          show w_T L xs (d + 7) m_X12_clause 168 [(2, .int (p_h S0 pl)), (0, .ref 100), (1, .int (Int32.ofInt 0))] [.ref 100] (p_S (v_ur (v_ur (v_ur S0 107 (upd (S0 107) cl (p_h S0 pl))) 108 (upd ((v_ur S0 107 (upd (S0 107) cl (p_h S0 pl))) 108) cl (Int32.ofInt (cs : Int)))) 109 (upd ((v_ur (v_ur S0 107 (upd (S0 107) cl (p_h S0 pl))) 108 (upd ((v_ur S0 107 (upd (S0 107) cl (p_h S0 pl))) 108) cl (Int32.ofInt (cs : Int)))) 109) cl (Int32.ofInt (cs : Int)))) pl2 cs2 sk2 cl b164 nc2 sg2 false h2 o2 na2) R Q
          refine w_getr rfl v_tyM rfl ?_
          refine w_st rfl (fun _ => rfl) ?_
          show w_T L xs (d + 7) m_X12_clause 172 [(2, .int (p_h S0 pl)), (0, .ref 100), (1, .int (Int32.ofInt 0))] [.ref 100, .ref 111] (p_S (v_ur (v_ur (v_ur S0 107 (upd (S0 107) cl (p_h S0 pl))) 108 (upd ((v_ur S0 107 (upd (S0 107) cl (p_h S0 pl))) 108) cl (Int32.ofInt (cs : Int)))) 109 (upd ((v_ur (v_ur S0 107 (upd (S0 107) cl (p_h S0 pl))) 108 (upd ((v_ur S0 107 (upd (S0 107) cl (p_h S0 pl))) 108) cl (Int32.ofInt (cs : Int)))) 109) cl (Int32.ofInt (cs : Int)))) pl2 cs2 sk2 cl b164 nc2 sg2 false h2 o2 na2) R Q
          refine w_get rfl v_tyM rfl ?_
          refine w_st rfl (fun _ => rfl) ?_
          show w_T L xs (d + 7) m_X12_clause 176 [(2, .int (p_h S0 pl)), (0, .ref 100), (1, .int (Int32.ofInt 0))] [.ref 100, .int (Int32.ofInt (cl : Int)), .ref 111] (p_S (v_ur (v_ur (v_ur S0 107 (upd (S0 107) cl (p_h S0 pl))) 108 (upd ((v_ur S0 107 (upd (S0 107) cl (p_h S0 pl))) 108) cl (Int32.ofInt (cs : Int)))) 109 (upd ((v_ur (v_ur S0 107 (upd (S0 107) cl (p_h S0 pl))) 108 (upd ((v_ur S0 107 (upd (S0 107) cl (p_h S0 pl))) 108) cl (Int32.ofInt (cs : Int)))) 109) cl (Int32.ofInt (cs : Int)))) pl2 cs2 sk2 cl b164 nc2 sg2 false h2 o2 na2) R Q
          refine w_get rfl v_tyM rfl ?_
          show w_T L xs (d + 7) m_X12_clause 179 [(2, .int (p_h S0 pl)), (0, .ref 100), (1, .int (Int32.ofInt 0))] [.int (Int32.ofInt (cs2 : Int)), .int (Int32.ofInt (cl : Int)), .ref 111] (p_S (v_ur (v_ur (v_ur S0 107 (upd (S0 107) cl (p_h S0 pl))) 108 (upd ((v_ur S0 107 (upd (S0 107) cl (p_h S0 pl))) 108) cl (Int32.ofInt (cs : Int)))) 109 (upd ((v_ur (v_ur S0 107 (upd (S0 107) cl (p_h S0 pl))) 108 (upd ((v_ur S0 107 (upd (S0 107) cl (p_h S0 pl))) 108) cl (Int32.ofInt (cs : Int)))) 109) cl (Int32.ofInt (cs : Int)))) pl2 cs2 sk2 cl b164 nc2 sg2 false h2 o2 na2) R Q
          refine w_iast rfl rfl (by rw [w_nat (by omega)]; omega) (by rw [w_nat (by omega)]; omega) ?_
          refine w_eqS (p_wor (by decide) (w_natn (by omega))) ?_
          refine w_st rfl (fun _ => rfl) ?_
          refine w_st rfl (fun _ => rfl) ?_
          show w_T L xs (d + 7) m_X12_clause 182 [(2, .int (p_h S0 pl)), (0, .ref 100), (1, .int (Int32.ofInt 0))] [.ref 100, .ref 100] (p_S (v_ur (v_ur (v_ur (v_ur S0 107 (upd (S0 107) cl (p_h S0 pl))) 108 (upd ((v_ur S0 107 (upd (S0 107) cl (p_h S0 pl))) 108) cl (Int32.ofInt (cs : Int)))) 109 (upd ((v_ur (v_ur S0 107 (upd (S0 107) cl (p_h S0 pl))) 108 (upd ((v_ur S0 107 (upd (S0 107) cl (p_h S0 pl))) 108) cl (Int32.ofInt (cs : Int)))) 109) cl (Int32.ofInt (cs : Int)))) 110 (upd ((v_ur (v_ur (v_ur S0 107 (upd (S0 107) cl (p_h S0 pl))) 108 (upd ((v_ur S0 107 (upd (S0 107) cl (p_h S0 pl))) 108) cl (Int32.ofInt (cs : Int)))) 109 (upd ((v_ur (v_ur S0 107 (upd (S0 107) cl (p_h S0 pl))) 108 (upd ((v_ur S0 107 (upd (S0 107) cl (p_h S0 pl))) 108) cl (Int32.ofInt (cs : Int)))) 109) cl (Int32.ofInt (cs : Int)))) 110) cl (Int32.ofInt (cs2 : Int)))) pl2 cs2 sk2 cl b164 nc2 sg2 false h2 o2 na2) R Q
          refine w_get rfl v_tyM rfl ?_
          refine w_st rfl (fun _ => rfl) ?_
          refine w_st rfl (fun _ => rfl) ?_
          show w_T L xs (d + 7) m_X12_clause 187 [(2, .int (p_h S0 pl)), (0, .ref 100), (1, .int (Int32.ofInt 0))] [.int ((Int32.ofInt (cl : Int)) + (Int32.ofInt 1)), .ref 100] (p_S (v_ur (v_ur (v_ur (v_ur S0 107 (upd (S0 107) cl (p_h S0 pl))) 108 (upd ((v_ur S0 107 (upd (S0 107) cl (p_h S0 pl))) 108) cl (Int32.ofInt (cs : Int)))) 109 (upd ((v_ur (v_ur S0 107 (upd (S0 107) cl (p_h S0 pl))) 108 (upd ((v_ur S0 107 (upd (S0 107) cl (p_h S0 pl))) 108) cl (Int32.ofInt (cs : Int)))) 109) cl (Int32.ofInt (cs : Int)))) 110 (upd ((v_ur (v_ur (v_ur S0 107 (upd (S0 107) cl (p_h S0 pl))) 108 (upd ((v_ur S0 107 (upd (S0 107) cl (p_h S0 pl))) 108) cl (Int32.ofInt (cs : Int)))) 109 (upd ((v_ur (v_ur S0 107 (upd (S0 107) cl (p_h S0 pl))) 108 (upd ((v_ur S0 107 (upd (S0 107) cl (p_h S0 pl))) 108) cl (Int32.ofInt (cs : Int)))) 109) cl (Int32.ofInt (cs : Int)))) 110) cl (Int32.ofInt (cs2 : Int)))) pl2 cs2 sk2 cl b164 nc2 sg2 false h2 o2 na2) R Q
          refine w_put rfl v_tyM rfl rfl rfl ?_
          refine w_eqS (p_wcl (w_inc _)) ?_
          show w_T L xs (d + 7) m_X12_clause 190 [(2, .int (p_h S0 pl)), (0, .ref 100), (1, .int (Int32.ofInt 0))] [] (p_S (v_ur (v_ur (v_ur (v_ur S0 107 (upd (S0 107) cl (p_h S0 pl))) 108 (upd ((v_ur S0 107 (upd (S0 107) cl (p_h S0 pl))) 108) cl (Int32.ofInt (cs : Int)))) 109 (upd ((v_ur (v_ur S0 107 (upd (S0 107) cl (p_h S0 pl))) 108 (upd ((v_ur S0 107 (upd (S0 107) cl (p_h S0 pl))) 108) cl (Int32.ofInt (cs : Int)))) 109) cl (Int32.ofInt (cs : Int)))) 110 (upd ((v_ur (v_ur (v_ur S0 107 (upd (S0 107) cl (p_h S0 pl))) 108 (upd ((v_ur S0 107 (upd (S0 107) cl (p_h S0 pl))) 108) cl (Int32.ofInt (cs : Int)))) 109 (upd ((v_ur (v_ur S0 107 (upd (S0 107) cl (p_h S0 pl))) 108 (upd ((v_ur S0 107 (upd (S0 107) cl (p_h S0 pl))) 108) cl (Int32.ofInt (cs : Int)))) 109) cl (Int32.ofInt (cs : Int)))) 110) cl (Int32.ofInt (cs2 : Int)))) pl2 cs2 sk2 (cl + 1) b164 nc2 sg2 false h2 o2 na2) R Q
          refine w_ret rfl rfl ?_
          exact Kb _ _ _ _ _ _ _ _ _ _ _ _ (p_F_ur (p_F_ur (p_F_ur (p_F_ur (p_F_rf _) (by omega)) (by omega)) (by omega)) (by omega)) (p_Tw (p_Tw (p_Tw (p_Tw hT (a := 107) rfl) (a := 108) rfl) (a := 109) rfl) (a := 110) rfl) hb164 (by omega) (by omega) (by omega) (by omega)
      · refine w_st rfl (fun _ => rfl) ?_
        refine w_st rfl (fun _ => rfl) ?_
        show w_T L xs (d + 7) m_X12_clause 136 [(2, .int (p_h S0 pl)), (0, .ref 100), (1, .int (Int32.ofInt 0))] [.int (Int32.ofInt 120), .int (p_h S0 pl)] (p_S (v_ur (v_ur S0 107 (upd (S0 107) cl (p_h S0 pl))) 108 (upd ((v_ur S0 107 (upd (S0 107) cl (p_h S0 pl))) 108) cl (Int32.ofInt (cs : Int)))) (pl + 1) cs 0 cl (Int32.ofInt 0) nc sg ov bh (Int32.ofInt 0) na) R Q
        refine w_br (P := (p_h S0 pl) = (Int32.ofInt 120)) rfl (fun _ => rfl) (fun h136 => ?_) (fun h136 => ?_)
        · refine w_st rfl (fun _ => rfl) ?_
          show w_T L xs (d + 7) m_X12_clause 144 [(2, .int (p_h S0 pl)), (0, .ref 100), (1, .int (Int32.ofInt 0))] [.ref 100] (p_S (v_ur (v_ur S0 107 (upd (S0 107) cl (p_h S0 pl))) 108 (upd ((v_ur S0 107 (upd (S0 107) cl (p_h S0 pl))) 108) cl (Int32.ofInt (cs : Int)))) (pl + 1) cs 0 cl (Int32.ofInt 0) nc sg ov bh (Int32.ofInt 0) na) R Q
          refine w_getr rfl v_tyM rfl ?_
          refine w_st rfl (fun _ => rfl) ?_
          show w_T L xs (d + 7) m_X12_clause 148 [(2, .int (p_h S0 pl)), (0, .ref 100), (1, .int (Int32.ofInt 0))] [.ref 100, .ref 110] (p_S (v_ur (v_ur S0 107 (upd (S0 107) cl (p_h S0 pl))) 108 (upd ((v_ur S0 107 (upd (S0 107) cl (p_h S0 pl))) 108) cl (Int32.ofInt (cs : Int)))) (pl + 1) cs 0 cl (Int32.ofInt 0) nc sg ov bh (Int32.ofInt 0) na) R Q
          refine w_get rfl v_tyM rfl ?_
          refine w_st rfl (fun _ => rfl) ?_
          show w_T L xs (d + 7) m_X12_clause 152 [(2, .int (p_h S0 pl)), (0, .ref 100), (1, .int (Int32.ofInt 0))] [.ref 100, .int (Int32.ofInt (cl : Int)), .ref 110] (p_S (v_ur (v_ur S0 107 (upd (S0 107) cl (p_h S0 pl))) 108 (upd ((v_ur S0 107 (upd (S0 107) cl (p_h S0 pl))) 108) cl (Int32.ofInt (cs : Int)))) (pl + 1) cs 0 cl (Int32.ofInt 0) nc sg ov bh (Int32.ofInt 0) na) R Q
          refine w_get rfl v_tyM rfl ?_
          show w_T L xs (d + 7) m_X12_clause 155 [(2, .int (p_h S0 pl)), (0, .ref 100), (1, .int (Int32.ofInt 0))] [.int (Int32.ofInt (cs : Int)), .int (Int32.ofInt (cl : Int)), .ref 110] (p_S (v_ur (v_ur S0 107 (upd (S0 107) cl (p_h S0 pl))) 108 (upd ((v_ur S0 107 (upd (S0 107) cl (p_h S0 pl))) 108) cl (Int32.ofInt (cs : Int)))) (pl + 1) cs 0 cl (Int32.ofInt 0) nc sg ov bh (Int32.ofInt 0) na) R Q
          refine w_iast rfl rfl (by rw [w_nat (by omega)]; omega) (by rw [w_nat (by omega)]; omega) ?_
          refine w_eqS (p_wor (by decide) (w_natn (by omega))) ?_
          refine w_st rfl (fun _ => rfl) ?_
          show w_T L xs (d + 7) m_X12_clause 157 [(2, .int (p_h S0 pl)), (0, .ref 100), (1, .int (Int32.ofInt 0))] [.ref 100] (p_S (v_ur (v_ur (v_ur S0 107 (upd (S0 107) cl (p_h S0 pl))) 108 (upd ((v_ur S0 107 (upd (S0 107) cl (p_h S0 pl))) 108) cl (Int32.ofInt (cs : Int)))) 109 (upd ((v_ur (v_ur S0 107 (upd (S0 107) cl (p_h S0 pl))) 108 (upd ((v_ur S0 107 (upd (S0 107) cl (p_h S0 pl))) 108) cl (Int32.ofInt (cs : Int)))) 109) cl (Int32.ofInt (cs : Int)))) (pl + 1) cs 0 cl (Int32.ofInt 0) nc sg ov bh (Int32.ofInt 0) na) R Q
          refine w_cv rfl (by decide) mt_X12_isGood v_tyM rfl rfl rfl (Nat.le_of_ble_eq_true rfl) (Nat.le_of_ble_eq_true rfl) (Nat.le_of_ble_eq_true rfl) ?_
          show w_T L xs _ m_X12_isGood 0 (lv_args 0 [.ref 100]) [] (p_S (v_ur (v_ur (v_ur S0 107 (upd (S0 107) cl (p_h S0 pl))) 108 (upd ((v_ur S0 107 (upd (S0 107) cl (p_h S0 pl))) 108) cl (Int32.ofInt (cs : Int)))) 109 (upd ((v_ur (v_ur S0 107 (upd (S0 107) cl (p_h S0 pl))) 108 (upd ((v_ur S0 107 (upd (S0 107) cl (p_h S0 pl))) 108) cl (Int32.ofInt (cs : Int)))) 109) cl (Int32.ofInt (cs : Int)))) (pl + 1) cs 0 cl (Int32.ofInt 0) nc sg ov bh (Int32.ofInt 0) na) R _
          refine h_isGT ?_
          show w_T L xs (d + 7) m_X12_clause 160 [(2, .int (p_h S0 pl)), (0, .ref 100), (1, .int (Int32.ofInt 0))] [.int (Int32.ofInt 1)] (p_S (v_ur (v_ur (v_ur S0 107 (upd (S0 107) cl (p_h S0 pl))) 108 (upd ((v_ur S0 107 (upd (S0 107) cl (p_h S0 pl))) 108) cl (Int32.ofInt (cs : Int)))) 109 (upd ((v_ur (v_ur S0 107 (upd (S0 107) cl (p_h S0 pl))) 108 (upd ((v_ur S0 107 (upd (S0 107) cl (p_h S0 pl))) 108) cl (Int32.ofInt (cs : Int)))) 109) cl (Int32.ofInt (cs : Int)))) (pl + 1) cs 0 cl (Int32.ofInt 0) nc sg ov bh (Int32.ofInt 0) na) R Q
          refine w_st rfl (fun _ => rfl) ?_
          refine w_st rfl (fun _ => rfl) ?_
          show w_T L xs (d + 7) m_X12_clause 164 [(2, .int (p_h S0 pl)), (0, .ref 100), (1, .int (Int32.ofInt 0))] [.ref 100] (p_S (v_ur (v_ur (v_ur S0 107 (upd (S0 107) cl (p_h S0 pl))) 108 (upd ((v_ur S0 107 (upd (S0 107) cl (p_h S0 pl))) 108) cl (Int32.ofInt (cs : Int)))) 109 (upd ((v_ur (v_ur S0 107 (upd (S0 107) cl (p_h S0 pl))) 108 (upd ((v_ur S0 107 (upd (S0 107) cl (p_h S0 pl))) 108) cl (Int32.ofInt (cs : Int)))) 109) cl (Int32.ofInt (cs : Int)))) (pl + 1) cs 0 cl (Int32.ofInt 0) nc sg ov bh (Int32.ofInt 0) na) R Q
          refine w_cv rfl (by decide) mt_X12_condition v_tyM rfl rfl rfl (Nat.le_of_ble_eq_true rfl) (Nat.le_of_ble_eq_true rfl) (Nat.le_of_ble_eq_true rfl) ?_
          show w_T L xs _ m_X12_condition 0 (lv_args 0 [.ref 100]) [] (p_S (v_ur (v_ur (v_ur S0 107 (upd (S0 107) cl (p_h S0 pl))) 108 (upd ((v_ur S0 107 (upd (S0 107) cl (p_h S0 pl))) 108) cl (Int32.ofInt (cs : Int)))) 109 (upd ((v_ur (v_ur S0 107 (upd (S0 107) cl (p_h S0 pl))) 108 (upd ((v_ur S0 107 (upd (S0 107) cl (p_h S0 pl))) 108) cl (Int32.ofInt (cs : Int)))) 109) cl (Int32.ofInt (cs : Int)))) (pl + 1) cs 0 cl (Int32.ofInt 0) nc sg ov bh (Int32.ofInt 0) na) R _
          refine h_cond (S0 := (v_ur (v_ur (v_ur S0 107 (upd (S0 107) cl (p_h S0 pl))) 108 (upd ((v_ur S0 107 (upd (S0 107) cl (p_h S0 pl))) 108) cl (Int32.ofInt (cs : Int)))) 109 (upd ((v_ur (v_ur S0 107 (upd (S0 107) cl (p_h S0 pl))) 108 (upd ((v_ur S0 107 (upd (S0 107) cl (p_h S0 pl))) 108) cl (Int32.ofInt (cs : Int)))) 109) cl (Int32.ofInt (cs : Int))))) he (by omega) (by omega) (fun pl2 cs2 sk2 nc2 sg2 na2 o2 h2 l2 i2 j2 k2 => ?_) (fun pl2 cs2 sk2 b164 nc2 sg2 na2 o2 h2 hb164 j2 k2 => ?_)
          · obtain ⟨r1, r2, r3⟩ := p_I_of i2
            show w_T L xs (d + 7) m_X12_clause 167 [(2, .int (p_h S0 pl)), (0, .ref 100), (1, .int (Int32.ofInt 0))] [] (p_S (v_ur (v_ur (v_ur S0 107 (upd (S0 107) cl (p_h S0 pl))) 108 (upd ((v_ur S0 107 (upd (S0 107) cl (p_h S0 pl))) 108) cl (Int32.ofInt (cs : Int)))) 109 (upd ((v_ur (v_ur S0 107 (upd (S0 107) cl (p_h S0 pl))) 108 (upd ((v_ur S0 107 (upd (S0 107) cl (p_h S0 pl))) 108) cl (Int32.ofInt (cs : Int)))) 109) cl (Int32.ofInt (cs : Int)))) pl2 cs2 sk2 cl (Int32.ofInt 0) nc2 sg2 true h2 o2 na2) R Q
            refine w_st rfl (fun _ => rfl) ?_
            show w_T L xs (d + 7) m_X12_clause 168 [(2, .int (p_h S0 pl)), (0, .ref 100), (1, .int (Int32.ofInt 0))] [.ref 100] (p_S (v_ur (v_ur (v_ur S0 107 (upd (S0 107) cl (p_h S0 pl))) 108 (upd ((v_ur S0 107 (upd (S0 107) cl (p_h S0 pl))) 108) cl (Int32.ofInt (cs : Int)))) 109 (upd ((v_ur (v_ur S0 107 (upd (S0 107) cl (p_h S0 pl))) 108 (upd ((v_ur S0 107 (upd (S0 107) cl (p_h S0 pl))) 108) cl (Int32.ofInt (cs : Int)))) 109) cl (Int32.ofInt (cs : Int)))) pl2 cs2 sk2 cl (Int32.ofInt 0) nc2 sg2 true h2 o2 na2) R Q
            refine w_getr rfl v_tyM rfl ?_
            refine w_st rfl (fun _ => rfl) ?_
            show w_T L xs (d + 7) m_X12_clause 172 [(2, .int (p_h S0 pl)), (0, .ref 100), (1, .int (Int32.ofInt 0))] [.ref 100, .ref 111] (p_S (v_ur (v_ur (v_ur S0 107 (upd (S0 107) cl (p_h S0 pl))) 108 (upd ((v_ur S0 107 (upd (S0 107) cl (p_h S0 pl))) 108) cl (Int32.ofInt (cs : Int)))) 109 (upd ((v_ur (v_ur S0 107 (upd (S0 107) cl (p_h S0 pl))) 108 (upd ((v_ur S0 107 (upd (S0 107) cl (p_h S0 pl))) 108) cl (Int32.ofInt (cs : Int)))) 109) cl (Int32.ofInt (cs : Int)))) pl2 cs2 sk2 cl (Int32.ofInt 0) nc2 sg2 true h2 o2 na2) R Q
            refine w_get rfl v_tyM rfl ?_
            refine w_st rfl (fun _ => rfl) ?_
            show w_T L xs (d + 7) m_X12_clause 176 [(2, .int (p_h S0 pl)), (0, .ref 100), (1, .int (Int32.ofInt 0))] [.ref 100, .int (Int32.ofInt (cl : Int)), .ref 111] (p_S (v_ur (v_ur (v_ur S0 107 (upd (S0 107) cl (p_h S0 pl))) 108 (upd ((v_ur S0 107 (upd (S0 107) cl (p_h S0 pl))) 108) cl (Int32.ofInt (cs : Int)))) 109 (upd ((v_ur (v_ur S0 107 (upd (S0 107) cl (p_h S0 pl))) 108 (upd ((v_ur S0 107 (upd (S0 107) cl (p_h S0 pl))) 108) cl (Int32.ofInt (cs : Int)))) 109) cl (Int32.ofInt (cs : Int)))) pl2 cs2 sk2 cl (Int32.ofInt 0) nc2 sg2 true h2 o2 na2) R Q
            refine w_get rfl v_tyM rfl ?_
            show w_T L xs (d + 7) m_X12_clause 179 [(2, .int (p_h S0 pl)), (0, .ref 100), (1, .int (Int32.ofInt 0))] [.int (Int32.ofInt (cs2 : Int)), .int (Int32.ofInt (cl : Int)), .ref 111] (p_S (v_ur (v_ur (v_ur S0 107 (upd (S0 107) cl (p_h S0 pl))) 108 (upd ((v_ur S0 107 (upd (S0 107) cl (p_h S0 pl))) 108) cl (Int32.ofInt (cs : Int)))) 109 (upd ((v_ur (v_ur S0 107 (upd (S0 107) cl (p_h S0 pl))) 108 (upd ((v_ur S0 107 (upd (S0 107) cl (p_h S0 pl))) 108) cl (Int32.ofInt (cs : Int)))) 109) cl (Int32.ofInt (cs : Int)))) pl2 cs2 sk2 cl (Int32.ofInt 0) nc2 sg2 true h2 o2 na2) R Q
            refine w_iast rfl rfl (by rw [w_nat (by omega)]; omega) (by rw [w_nat (by omega)]; omega) ?_
            refine w_eqS (p_wor (by decide) (w_natn (by omega))) ?_
            refine w_st rfl (fun _ => rfl) ?_
            refine w_st rfl (fun _ => rfl) ?_
            show w_T L xs (d + 7) m_X12_clause 182 [(2, .int (p_h S0 pl)), (0, .ref 100), (1, .int (Int32.ofInt 0))] [.ref 100, .ref 100] (p_S (v_ur (v_ur (v_ur (v_ur S0 107 (upd (S0 107) cl (p_h S0 pl))) 108 (upd ((v_ur S0 107 (upd (S0 107) cl (p_h S0 pl))) 108) cl (Int32.ofInt (cs : Int)))) 109 (upd ((v_ur (v_ur S0 107 (upd (S0 107) cl (p_h S0 pl))) 108 (upd ((v_ur S0 107 (upd (S0 107) cl (p_h S0 pl))) 108) cl (Int32.ofInt (cs : Int)))) 109) cl (Int32.ofInt (cs : Int)))) 110 (upd ((v_ur (v_ur (v_ur S0 107 (upd (S0 107) cl (p_h S0 pl))) 108 (upd ((v_ur S0 107 (upd (S0 107) cl (p_h S0 pl))) 108) cl (Int32.ofInt (cs : Int)))) 109 (upd ((v_ur (v_ur S0 107 (upd (S0 107) cl (p_h S0 pl))) 108 (upd ((v_ur S0 107 (upd (S0 107) cl (p_h S0 pl))) 108) cl (Int32.ofInt (cs : Int)))) 109) cl (Int32.ofInt (cs : Int)))) 110) cl (Int32.ofInt (cs2 : Int)))) pl2 cs2 sk2 cl (Int32.ofInt 0) nc2 sg2 true h2 o2 na2) R Q
            refine w_get rfl v_tyM rfl ?_
            refine w_st rfl (fun _ => rfl) ?_
            refine w_st rfl (fun _ => rfl) ?_
            show w_T L xs (d + 7) m_X12_clause 187 [(2, .int (p_h S0 pl)), (0, .ref 100), (1, .int (Int32.ofInt 0))] [.int ((Int32.ofInt (cl : Int)) + (Int32.ofInt 1)), .ref 100] (p_S (v_ur (v_ur (v_ur (v_ur S0 107 (upd (S0 107) cl (p_h S0 pl))) 108 (upd ((v_ur S0 107 (upd (S0 107) cl (p_h S0 pl))) 108) cl (Int32.ofInt (cs : Int)))) 109 (upd ((v_ur (v_ur S0 107 (upd (S0 107) cl (p_h S0 pl))) 108 (upd ((v_ur S0 107 (upd (S0 107) cl (p_h S0 pl))) 108) cl (Int32.ofInt (cs : Int)))) 109) cl (Int32.ofInt (cs : Int)))) 110 (upd ((v_ur (v_ur (v_ur S0 107 (upd (S0 107) cl (p_h S0 pl))) 108 (upd ((v_ur S0 107 (upd (S0 107) cl (p_h S0 pl))) 108) cl (Int32.ofInt (cs : Int)))) 109 (upd ((v_ur (v_ur S0 107 (upd (S0 107) cl (p_h S0 pl))) 108 (upd ((v_ur S0 107 (upd (S0 107) cl (p_h S0 pl))) 108) cl (Int32.ofInt (cs : Int)))) 109) cl (Int32.ofInt (cs : Int)))) 110) cl (Int32.ofInt (cs2 : Int)))) pl2 cs2 sk2 cl (Int32.ofInt 0) nc2 sg2 true h2 o2 na2) R Q
            refine w_put rfl v_tyM rfl rfl rfl ?_
            refine w_eqS (p_wcl (w_inc _)) ?_
            show w_T L xs (d + 7) m_X12_clause 190 [(2, .int (p_h S0 pl)), (0, .ref 100), (1, .int (Int32.ofInt 0))] [] (p_S (v_ur (v_ur (v_ur (v_ur S0 107 (upd (S0 107) cl (p_h S0 pl))) 108 (upd ((v_ur S0 107 (upd (S0 107) cl (p_h S0 pl))) 108) cl (Int32.ofInt (cs : Int)))) 109 (upd ((v_ur (v_ur S0 107 (upd (S0 107) cl (p_h S0 pl))) 108 (upd ((v_ur S0 107 (upd (S0 107) cl (p_h S0 pl))) 108) cl (Int32.ofInt (cs : Int)))) 109) cl (Int32.ofInt (cs : Int)))) 110 (upd ((v_ur (v_ur (v_ur S0 107 (upd (S0 107) cl (p_h S0 pl))) 108 (upd ((v_ur S0 107 (upd (S0 107) cl (p_h S0 pl))) 108) cl (Int32.ofInt (cs : Int)))) 109 (upd ((v_ur (v_ur S0 107 (upd (S0 107) cl (p_h S0 pl))) 108 (upd ((v_ur S0 107 (upd (S0 107) cl (p_h S0 pl))) 108) cl (Int32.ofInt (cs : Int)))) 109) cl (Int32.ofInt (cs : Int)))) 110) cl (Int32.ofInt (cs2 : Int)))) pl2 cs2 sk2 (cl + 1) (Int32.ofInt 0) nc2 sg2 true h2 o2 na2) R Q
            refine w_ret rfl rfl ?_
            refine Kg _ _ _ _ _ _ _ _ _ _ (p_F_ur (p_F_ur (p_F_ur (p_F_ur (p_F_rf _) (by omega)) (by omega)) (by omega)) (by omega)) (p_Tw (p_Tw (p_Tw (p_Tw hT (a := 107) rfl) (a := 108) rfl) (a := 109) rfl) (a := 110) rfl) (p_Z_add (cs1 := cs) hZ (fun k hk => ?_) ?_ ?_ ?_ (by omega) (by omega) (fun k hk => r2 k hk) (by rw [Nat.sub_self]; trivial) r3) (by omega) (by omega) (by omega) (by omega) (by omega)
            · have hne : ¬ k = cl := by omega
              simp [v_ur, upd, hne]
            · simp [v_ur, upd]
            · simp [v_ur, upd]
            · simp [v_ur, upd]
          · show w_T L xs (d + 7) m_X12_clause 167 [(2, .int (p_h S0 pl)), (0, .ref 100), (1, .int (Int32.ofInt 0))] [] (p_S (v_ur (v_ur (v_ur S0 107 (upd (S0 107) cl (p_h S0 pl))) 108 (upd ((v_ur S0 107 (upd (S0 107) cl (p_h S0 pl))) 108) cl (Int32.ofInt (cs : Int)))) 109 (upd ((v_ur (v_ur S0 107 (upd (S0 107) cl (p_h S0 pl))) 108 (upd ((v_ur S0 107 (upd (S0 107) cl (p_h S0 pl))) 108) cl (Int32.ofInt (cs : Int)))) 109) cl (Int32.ofInt (cs : Int)))) pl2 cs2 sk2 cl b164 nc2 sg2 false h2 o2 na2) R Q
            refine w_st rfl (fun _ => rfl) ?_
            show w_T L xs (d + 7) m_X12_clause 168 [(2, .int (p_h S0 pl)), (0, .ref 100), (1, .int (Int32.ofInt 0))] [.ref 100] (p_S (v_ur (v_ur (v_ur S0 107 (upd (S0 107) cl (p_h S0 pl))) 108 (upd ((v_ur S0 107 (upd (S0 107) cl (p_h S0 pl))) 108) cl (Int32.ofInt (cs : Int)))) 109 (upd ((v_ur (v_ur S0 107 (upd (S0 107) cl (p_h S0 pl))) 108 (upd ((v_ur S0 107 (upd (S0 107) cl (p_h S0 pl))) 108) cl (Int32.ofInt (cs : Int)))) 109) cl (Int32.ofInt (cs : Int)))) pl2 cs2 sk2 cl b164 nc2 sg2 false h2 o2 na2) R Q
            refine w_getr rfl v_tyM rfl ?_
            refine w_st rfl (fun _ => rfl) ?_
            show w_T L xs (d + 7) m_X12_clause 172 [(2, .int (p_h S0 pl)), (0, .ref 100), (1, .int (Int32.ofInt 0))] [.ref 100, .ref 111] (p_S (v_ur (v_ur (v_ur S0 107 (upd (S0 107) cl (p_h S0 pl))) 108 (upd ((v_ur S0 107 (upd (S0 107) cl (p_h S0 pl))) 108) cl (Int32.ofInt (cs : Int)))) 109 (upd ((v_ur (v_ur S0 107 (upd (S0 107) cl (p_h S0 pl))) 108 (upd ((v_ur S0 107 (upd (S0 107) cl (p_h S0 pl))) 108) cl (Int32.ofInt (cs : Int)))) 109) cl (Int32.ofInt (cs : Int)))) pl2 cs2 sk2 cl b164 nc2 sg2 false h2 o2 na2) R Q
            refine w_get rfl v_tyM rfl ?_
            refine w_st rfl (fun _ => rfl) ?_
            show w_T L xs (d + 7) m_X12_clause 176 [(2, .int (p_h S0 pl)), (0, .ref 100), (1, .int (Int32.ofInt 0))] [.ref 100, .int (Int32.ofInt (cl : Int)), .ref 111] (p_S (v_ur (v_ur (v_ur S0 107 (upd (S0 107) cl (p_h S0 pl))) 108 (upd ((v_ur S0 107 (upd (S0 107) cl (p_h S0 pl))) 108) cl (Int32.ofInt (cs : Int)))) 109 (upd ((v_ur (v_ur S0 107 (upd (S0 107) cl (p_h S0 pl))) 108 (upd ((v_ur S0 107 (upd (S0 107) cl (p_h S0 pl))) 108) cl (Int32.ofInt (cs : Int)))) 109) cl (Int32.ofInt (cs : Int)))) pl2 cs2 sk2 cl b164 nc2 sg2 false h2 o2 na2) R Q
            refine w_get rfl v_tyM rfl ?_
            show w_T L xs (d + 7) m_X12_clause 179 [(2, .int (p_h S0 pl)), (0, .ref 100), (1, .int (Int32.ofInt 0))] [.int (Int32.ofInt (cs2 : Int)), .int (Int32.ofInt (cl : Int)), .ref 111] (p_S (v_ur (v_ur (v_ur S0 107 (upd (S0 107) cl (p_h S0 pl))) 108 (upd ((v_ur S0 107 (upd (S0 107) cl (p_h S0 pl))) 108) cl (Int32.ofInt (cs : Int)))) 109 (upd ((v_ur (v_ur S0 107 (upd (S0 107) cl (p_h S0 pl))) 108 (upd ((v_ur S0 107 (upd (S0 107) cl (p_h S0 pl))) 108) cl (Int32.ofInt (cs : Int)))) 109) cl (Int32.ofInt (cs : Int)))) pl2 cs2 sk2 cl b164 nc2 sg2 false h2 o2 na2) R Q
            refine w_iast rfl rfl (by rw [w_nat (by omega)]; omega) (by rw [w_nat (by omega)]; omega) ?_
            refine w_eqS (p_wor (by decide) (w_natn (by omega))) ?_
            refine w_st rfl (fun _ => rfl) ?_
            refine w_st rfl (fun _ => rfl) ?_
            show w_T L xs (d + 7) m_X12_clause 182 [(2, .int (p_h S0 pl)), (0, .ref 100), (1, .int (Int32.ofInt 0))] [.ref 100, .ref 100] (p_S (v_ur (v_ur (v_ur (v_ur S0 107 (upd (S0 107) cl (p_h S0 pl))) 108 (upd ((v_ur S0 107 (upd (S0 107) cl (p_h S0 pl))) 108) cl (Int32.ofInt (cs : Int)))) 109 (upd ((v_ur (v_ur S0 107 (upd (S0 107) cl (p_h S0 pl))) 108 (upd ((v_ur S0 107 (upd (S0 107) cl (p_h S0 pl))) 108) cl (Int32.ofInt (cs : Int)))) 109) cl (Int32.ofInt (cs : Int)))) 110 (upd ((v_ur (v_ur (v_ur S0 107 (upd (S0 107) cl (p_h S0 pl))) 108 (upd ((v_ur S0 107 (upd (S0 107) cl (p_h S0 pl))) 108) cl (Int32.ofInt (cs : Int)))) 109 (upd ((v_ur (v_ur S0 107 (upd (S0 107) cl (p_h S0 pl))) 108 (upd ((v_ur S0 107 (upd (S0 107) cl (p_h S0 pl))) 108) cl (Int32.ofInt (cs : Int)))) 109) cl (Int32.ofInt (cs : Int)))) 110) cl (Int32.ofInt (cs2 : Int)))) pl2 cs2 sk2 cl b164 nc2 sg2 false h2 o2 na2) R Q
            refine w_get rfl v_tyM rfl ?_
            refine w_st rfl (fun _ => rfl) ?_
            refine w_st rfl (fun _ => rfl) ?_
            show w_T L xs (d + 7) m_X12_clause 187 [(2, .int (p_h S0 pl)), (0, .ref 100), (1, .int (Int32.ofInt 0))] [.int ((Int32.ofInt (cl : Int)) + (Int32.ofInt 1)), .ref 100] (p_S (v_ur (v_ur (v_ur (v_ur S0 107 (upd (S0 107) cl (p_h S0 pl))) 108 (upd ((v_ur S0 107 (upd (S0 107) cl (p_h S0 pl))) 108) cl (Int32.ofInt (cs : Int)))) 109 (upd ((v_ur (v_ur S0 107 (upd (S0 107) cl (p_h S0 pl))) 108 (upd ((v_ur S0 107 (upd (S0 107) cl (p_h S0 pl))) 108) cl (Int32.ofInt (cs : Int)))) 109) cl (Int32.ofInt (cs : Int)))) 110 (upd ((v_ur (v_ur (v_ur S0 107 (upd (S0 107) cl (p_h S0 pl))) 108 (upd ((v_ur S0 107 (upd (S0 107) cl (p_h S0 pl))) 108) cl (Int32.ofInt (cs : Int)))) 109 (upd ((v_ur (v_ur S0 107 (upd (S0 107) cl (p_h S0 pl))) 108 (upd ((v_ur S0 107 (upd (S0 107) cl (p_h S0 pl))) 108) cl (Int32.ofInt (cs : Int)))) 109) cl (Int32.ofInt (cs : Int)))) 110) cl (Int32.ofInt (cs2 : Int)))) pl2 cs2 sk2 cl b164 nc2 sg2 false h2 o2 na2) R Q
            refine w_put rfl v_tyM rfl rfl rfl ?_
            refine w_eqS (p_wcl (w_inc _)) ?_
            show w_T L xs (d + 7) m_X12_clause 190 [(2, .int (p_h S0 pl)), (0, .ref 100), (1, .int (Int32.ofInt 0))] [] (p_S (v_ur (v_ur (v_ur (v_ur S0 107 (upd (S0 107) cl (p_h S0 pl))) 108 (upd ((v_ur S0 107 (upd (S0 107) cl (p_h S0 pl))) 108) cl (Int32.ofInt (cs : Int)))) 109 (upd ((v_ur (v_ur S0 107 (upd (S0 107) cl (p_h S0 pl))) 108 (upd ((v_ur S0 107 (upd (S0 107) cl (p_h S0 pl))) 108) cl (Int32.ofInt (cs : Int)))) 109) cl (Int32.ofInt (cs : Int)))) 110 (upd ((v_ur (v_ur (v_ur S0 107 (upd (S0 107) cl (p_h S0 pl))) 108 (upd ((v_ur S0 107 (upd (S0 107) cl (p_h S0 pl))) 108) cl (Int32.ofInt (cs : Int)))) 109 (upd ((v_ur (v_ur S0 107 (upd (S0 107) cl (p_h S0 pl))) 108 (upd ((v_ur S0 107 (upd (S0 107) cl (p_h S0 pl))) 108) cl (Int32.ofInt (cs : Int)))) 109) cl (Int32.ofInt (cs : Int)))) 110) cl (Int32.ofInt (cs2 : Int)))) pl2 cs2 sk2 (cl + 1) b164 nc2 sg2 false h2 o2 na2) R Q
            refine w_ret rfl rfl ?_
            exact Kb _ _ _ _ _ _ _ _ _ _ _ _ (p_F_ur (p_F_ur (p_F_ur (p_F_ur (p_F_rf _) (by omega)) (by omega)) (by omega)) (by omega)) (p_Tw (p_Tw (p_Tw (p_Tw hT (a := 107) rfl) (a := 108) rfl) (a := 109) rfl) (a := 110) rfl) hb164 (by omega) (by omega) (by omega) (by omega)
        · refine w_st rfl (fun _ => rfl) ?_
          show w_T L xs (d + 7) m_X12_clause 140 [(2, .int (p_h S0 pl)), (0, .ref 100), (1, .int (Int32.ofInt 0))] [.ref 100] (p_S (v_ur (v_ur S0 107 (upd (S0 107) cl (p_h S0 pl))) 108 (upd ((v_ur S0 107 (upd (S0 107) cl (p_h S0 pl))) 108) cl (Int32.ofInt (cs : Int)))) (pl + 1) cs 0 cl (Int32.ofInt 0) nc sg ov bh (Int32.ofInt 0) na) R Q
          refine w_cv rfl (by decide) mt_X12_value v_tyM rfl rfl rfl (Nat.le_of_ble_eq_true rfl) (Nat.le_of_ble_eq_true rfl) (Nat.le_of_ble_eq_true rfl) ?_
          show w_T L xs _ m_X12_value 0 (lv_args 0 [.ref 100]) [] (p_S (v_ur (v_ur S0 107 (upd (S0 107) cl (p_h S0 pl))) 108 (upd ((v_ur S0 107 (upd (S0 107) cl (p_h S0 pl))) 108) cl (Int32.ofInt (cs : Int)))) (pl + 1) cs 0 cl (Int32.ofInt 0) nc sg ov bh (Int32.ofInt 0) na) R _
          refine h_value (S0 := (v_ur (v_ur S0 107 (upd (S0 107) cl (p_h S0 pl))) 108 (upd ((v_ur S0 107 (upd (S0 107) cl (p_h S0 pl))) 108) cl (Int32.ofInt (cs : Int))))) he p_I_0 (fun h => absurd h (by omega)) (by omega) (by omega) (fun pl1 cs1 nc1 sg1 na1 o1 h1 l1 i1 e1 j1 k1 => ?_) (fun pl1 cs1 sk1 b140 nc1 sg1 na1 o1 h1 hb140 j1 k1 => ?_)
          · obtain ⟨q1, q2, q3⟩ := p_I_of i1
            show w_T L xs (d + 7) m_X12_clause 143 [(2, .int (p_h S0 pl)), (0, .ref 100), (1, .int (Int32.ofInt 0))] [] (p_S (v_ur (v_ur S0 107 (upd (S0 107) cl (p_h S0 pl))) 108 (upd ((v_ur S0 107 (upd (S0 107) cl (p_h S0 pl))) 108) cl (Int32.ofInt (cs : Int)))) pl1 cs1 0 cl (Int32.ofInt 0) nc1 sg1 ov h1 o1 na1) R Q
            refine w_st rfl (fun _ => rfl) ?_
            show w_T L xs (d + 7) m_X12_clause 144 [(2, .int (p_h S0 pl)), (0, .ref 100), (1, .int (Int32.ofInt 0))] [.ref 100] (p_S (v_ur (v_ur S0 107 (upd (S0 107) cl (p_h S0 pl))) 108 (upd ((v_ur S0 107 (upd (S0 107) cl (p_h S0 pl))) 108) cl (Int32.ofInt (cs : Int)))) pl1 cs1 0 cl (Int32.ofInt 0) nc1 sg1 ov h1 o1 na1) R Q
            refine w_getr rfl v_tyM rfl ?_
            refine w_st rfl (fun _ => rfl) ?_
            show w_T L xs (d + 7) m_X12_clause 148 [(2, .int (p_h S0 pl)), (0, .ref 100), (1, .int (Int32.ofInt 0))] [.ref 100, .ref 110] (p_S (v_ur (v_ur S0 107 (upd (S0 107) cl (p_h S0 pl))) 108 (upd ((v_ur S0 107 (upd (S0 107) cl (p_h S0 pl))) 108) cl (Int32.ofInt (cs : Int)))) pl1 cs1 0 cl (Int32.ofInt 0) nc1 sg1 ov h1 o1 na1) R Q
            refine w_get rfl v_tyM rfl ?_
            refine w_st rfl (fun _ => rfl) ?_
            show w_T L xs (d + 7) m_X12_clause 152 [(2, .int (p_h S0 pl)), (0, .ref 100), (1, .int (Int32.ofInt 0))] [.ref 100, .int (Int32.ofInt (cl : Int)), .ref 110] (p_S (v_ur (v_ur S0 107 (upd (S0 107) cl (p_h S0 pl))) 108 (upd ((v_ur S0 107 (upd (S0 107) cl (p_h S0 pl))) 108) cl (Int32.ofInt (cs : Int)))) pl1 cs1 0 cl (Int32.ofInt 0) nc1 sg1 ov h1 o1 na1) R Q
            refine w_get rfl v_tyM rfl ?_
            show w_T L xs (d + 7) m_X12_clause 155 [(2, .int (p_h S0 pl)), (0, .ref 100), (1, .int (Int32.ofInt 0))] [.int (Int32.ofInt (cs1 : Int)), .int (Int32.ofInt (cl : Int)), .ref 110] (p_S (v_ur (v_ur S0 107 (upd (S0 107) cl (p_h S0 pl))) 108 (upd ((v_ur S0 107 (upd (S0 107) cl (p_h S0 pl))) 108) cl (Int32.ofInt (cs : Int)))) pl1 cs1 0 cl (Int32.ofInt 0) nc1 sg1 ov h1 o1 na1) R Q
            refine w_iast rfl rfl (by rw [w_nat (by omega)]; omega) (by rw [w_nat (by omega)]; omega) ?_
            refine w_eqS (p_wor (by decide) (w_natn (by omega))) ?_
            refine w_st rfl (fun _ => rfl) ?_
            show w_T L xs (d + 7) m_X12_clause 157 [(2, .int (p_h S0 pl)), (0, .ref 100), (1, .int (Int32.ofInt 0))] [.ref 100] (p_S (v_ur (v_ur (v_ur S0 107 (upd (S0 107) cl (p_h S0 pl))) 108 (upd ((v_ur S0 107 (upd (S0 107) cl (p_h S0 pl))) 108) cl (Int32.ofInt (cs : Int)))) 109 (upd ((v_ur (v_ur S0 107 (upd (S0 107) cl (p_h S0 pl))) 108 (upd ((v_ur S0 107 (upd (S0 107) cl (p_h S0 pl))) 108) cl (Int32.ofInt (cs : Int)))) 109) cl (Int32.ofInt (cs1 : Int)))) pl1 cs1 0 cl (Int32.ofInt 0) nc1 sg1 ov h1 o1 na1) R Q
            refine w_cv rfl (by decide) mt_X12_isGood v_tyM rfl rfl rfl (Nat.le_of_ble_eq_true rfl) (Nat.le_of_ble_eq_true rfl) (Nat.le_of_ble_eq_true rfl) ?_
            show w_T L xs _ m_X12_isGood 0 (lv_args 0 [.ref 100]) [] (p_S (v_ur (v_ur (v_ur S0 107 (upd (S0 107) cl (p_h S0 pl))) 108 (upd ((v_ur S0 107 (upd (S0 107) cl (p_h S0 pl))) 108) cl (Int32.ofInt (cs : Int)))) 109 (upd ((v_ur (v_ur S0 107 (upd (S0 107) cl (p_h S0 pl))) 108 (upd ((v_ur S0 107 (upd (S0 107) cl (p_h S0 pl))) 108) cl (Int32.ofInt (cs : Int)))) 109) cl (Int32.ofInt (cs1 : Int)))) pl1 cs1 0 cl (Int32.ofInt 0) nc1 sg1 ov h1 o1 na1) R _
            refine h_isGT ?_
            show w_T L xs (d + 7) m_X12_clause 160 [(2, .int (p_h S0 pl)), (0, .ref 100), (1, .int (Int32.ofInt 0))] [.int (Int32.ofInt 1)] (p_S (v_ur (v_ur (v_ur S0 107 (upd (S0 107) cl (p_h S0 pl))) 108 (upd ((v_ur S0 107 (upd (S0 107) cl (p_h S0 pl))) 108) cl (Int32.ofInt (cs : Int)))) 109 (upd ((v_ur (v_ur S0 107 (upd (S0 107) cl (p_h S0 pl))) 108 (upd ((v_ur S0 107 (upd (S0 107) cl (p_h S0 pl))) 108) cl (Int32.ofInt (cs : Int)))) 109) cl (Int32.ofInt (cs1 : Int)))) pl1 cs1 0 cl (Int32.ofInt 0) nc1 sg1 ov h1 o1 na1) R Q
            refine w_st rfl (fun _ => rfl) ?_
            refine w_st rfl (fun _ => rfl) ?_
            show w_T L xs (d + 7) m_X12_clause 164 [(2, .int (p_h S0 pl)), (0, .ref 100), (1, .int (Int32.ofInt 0))] [.ref 100] (p_S (v_ur (v_ur (v_ur S0 107 (upd (S0 107) cl (p_h S0 pl))) 108 (upd ((v_ur S0 107 (upd (S0 107) cl (p_h S0 pl))) 108) cl (Int32.ofInt (cs : Int)))) 109 (upd ((v_ur (v_ur S0 107 (upd (S0 107) cl (p_h S0 pl))) 108 (upd ((v_ur S0 107 (upd (S0 107) cl (p_h S0 pl))) 108) cl (Int32.ofInt (cs : Int)))) 109) cl (Int32.ofInt (cs1 : Int)))) pl1 cs1 0 cl (Int32.ofInt 0) nc1 sg1 ov h1 o1 na1) R Q
            refine w_cv rfl (by decide) mt_X12_condition v_tyM rfl rfl rfl (Nat.le_of_ble_eq_true rfl) (Nat.le_of_ble_eq_true rfl) (Nat.le_of_ble_eq_true rfl) ?_
            show w_T L xs _ m_X12_condition 0 (lv_args 0 [.ref 100]) [] (p_S (v_ur (v_ur (v_ur S0 107 (upd (S0 107) cl (p_h S0 pl))) 108 (upd ((v_ur S0 107 (upd (S0 107) cl (p_h S0 pl))) 108) cl (Int32.ofInt (cs : Int)))) 109 (upd ((v_ur (v_ur S0 107 (upd (S0 107) cl (p_h S0 pl))) 108 (upd ((v_ur S0 107 (upd (S0 107) cl (p_h S0 pl))) 108) cl (Int32.ofInt (cs : Int)))) 109) cl (Int32.ofInt (cs1 : Int)))) pl1 cs1 0 cl (Int32.ofInt 0) nc1 sg1 ov h1 o1 na1) R _
            refine h_cond (S0 := (v_ur (v_ur (v_ur S0 107 (upd (S0 107) cl (p_h S0 pl))) 108 (upd ((v_ur S0 107 (upd (S0 107) cl (p_h S0 pl))) 108) cl (Int32.ofInt (cs : Int)))) 109 (upd ((v_ur (v_ur S0 107 (upd (S0 107) cl (p_h S0 pl))) 108 (upd ((v_ur S0 107 (upd (S0 107) cl (p_h S0 pl))) 108) cl (Int32.ofInt (cs : Int)))) 109) cl (Int32.ofInt (cs1 : Int))))) he (by omega) (by omega) (fun pl2 cs2 sk2 nc2 sg2 na2 o2 h2 l2 i2 j2 k2 => ?_) (fun pl2 cs2 sk2 b164 nc2 sg2 na2 o2 h2 hb164 j2 k2 => ?_)
            · obtain ⟨r1, r2, r3⟩ := p_I_of i2
              show w_T L xs (d + 7) m_X12_clause 167 [(2, .int (p_h S0 pl)), (0, .ref 100), (1, .int (Int32.ofInt 0))] [] (p_S (v_ur (v_ur (v_ur S0 107 (upd (S0 107) cl (p_h S0 pl))) 108 (upd ((v_ur S0 107 (upd (S0 107) cl (p_h S0 pl))) 108) cl (Int32.ofInt (cs : Int)))) 109 (upd ((v_ur (v_ur S0 107 (upd (S0 107) cl (p_h S0 pl))) 108 (upd ((v_ur S0 107 (upd (S0 107) cl (p_h S0 pl))) 108) cl (Int32.ofInt (cs : Int)))) 109) cl (Int32.ofInt (cs1 : Int)))) pl2 cs2 sk2 cl (Int32.ofInt 0) nc2 sg2 true h2 o2 na2) R Q
              refine w_st rfl (fun _ => rfl) ?_
              show w_T L xs (d + 7) m_X12_clause 168 [(2, .int (p_h S0 pl)), (0, .ref 100), (1, .int (Int32.ofInt 0))] [.ref 100] (p_S (v_ur (v_ur (v_ur S0 107 (upd (S0 107) cl (p_h S0 pl))) 108 (upd ((v_ur S0 107 (upd (S0 107) cl (p_h S0 pl))) 108) cl (Int32.ofInt (cs : Int)))) 109 (upd ((v_ur (v_ur S0 107 (upd (S0 107) cl (p_h S0 pl))) 108 (upd ((v_ur S0 107 (upd (S0 107) cl (p_h S0 pl))) 108) cl (Int32.ofInt (cs : Int)))) 109) cl (Int32.ofInt (cs1 : Int)))) pl2 cs2 sk2 cl (Int32.ofInt 0) nc2 sg2 true h2 o2 na2) R Q
              refine w_getr rfl v_tyM rfl ?_
              refine w_st rfl (fun _ => rfl) ?_
              show w_T L xs (d + 7) m_X12_clause 172 [(2, .int (p_h S0 pl)), (0, .ref 100), (1, .int (Int32.ofInt 0))] [.ref 100, .ref 111] (p_S (v_ur (v_ur (v_ur S0 107 (upd (S0 107) cl (p_h S0 pl))) 108 (upd ((v_ur S0 107 (upd (S0 107) cl (p_h S0 pl))) 108) cl (Int32.ofInt (cs : Int)))) 109 (upd ((v_ur (v_ur S0 107 (upd (S0 107) cl (p_h S0 pl))) 108 (upd ((v_ur S0 107 (upd (S0 107) cl (p_h S0 pl))) 108) cl (Int32.ofInt (cs : Int)))) 109) cl (Int32.ofInt (cs1 : Int)))) pl2 cs2 sk2 cl (Int32.ofInt 0) nc2 sg2 true h2 o2 na2) R Q
              refine w_get rfl v_tyM rfl ?_
              refine w_st rfl (fun _ => rfl) ?_
              show w_T L xs (d + 7) m_X12_clause 176 [(2, .int (p_h S0 pl)), (0, .ref 100), (1, .int (Int32.ofInt 0))] [.ref 100, .int (Int32.ofInt (cl : Int)), .ref 111] (p_S (v_ur (v_ur (v_ur S0 107 (upd (S0 107) cl (p_h S0 pl))) 108 (upd ((v_ur S0 107 (upd (S0 107) cl (p_h S0 pl))) 108) cl (Int32.ofInt (cs : Int)))) 109 (upd ((v_ur (v_ur S0 107 (upd (S0 107) cl (p_h S0 pl))) 108 (upd ((v_ur S0 107 (upd (S0 107) cl (p_h S0 pl))) 108) cl (Int32.ofInt (cs : Int)))) 109) cl (Int32.ofInt (cs1 : Int)))) pl2 cs2 sk2 cl (Int32.ofInt 0) nc2 sg2 true h2 o2 na2) R Q
              refine w_get rfl v_tyM rfl ?_
              show w_T L xs (d + 7) m_X12_clause 179 [(2, .int (p_h S0 pl)), (0, .ref 100), (1, .int (Int32.ofInt 0))] [.int (Int32.ofInt (cs2 : Int)), .int (Int32.ofInt (cl : Int)), .ref 111] (p_S (v_ur (v_ur (v_ur S0 107 (upd (S0 107) cl (p_h S0 pl))) 108 (upd ((v_ur S0 107 (upd (S0 107) cl (p_h S0 pl))) 108) cl (Int32.ofInt (cs : Int)))) 109 (upd ((v_ur (v_ur S0 107 (upd (S0 107) cl (p_h S0 pl))) 108 (upd ((v_ur S0 107 (upd (S0 107) cl (p_h S0 pl))) 108) cl (Int32.ofInt (cs : Int)))) 109) cl (Int32.ofInt (cs1 : Int)))) pl2 cs2 sk2 cl (Int32.ofInt 0) nc2 sg2 true h2 o2 na2) R Q
              refine w_iast rfl rfl (by rw [w_nat (by omega)]; omega) (by rw [w_nat (by omega)]; omega) ?_
              refine w_eqS (p_wor (by decide) (w_natn (by omega))) ?_
              refine w_st rfl (fun _ => rfl) ?_
              refine w_st rfl (fun _ => rfl) ?_
              show w_T L xs (d + 7) m_X12_clause 182 [(2, .int (p_h S0 pl)), (0, .ref 100), (1, .int (Int32.ofInt 0))] [.ref 100, .ref 100] (p_S (v_ur (v_ur (v_ur (v_ur S0 107 (upd (S0 107) cl (p_h S0 pl))) 108 (upd ((v_ur S0 107 (upd (S0 107) cl (p_h S0 pl))) 108) cl (Int32.ofInt (cs : Int)))) 109 (upd ((v_ur (v_ur S0 107 (upd (S0 107) cl (p_h S0 pl))) 108 (upd ((v_ur S0 107 (upd (S0 107) cl (p_h S0 pl))) 108) cl (Int32.ofInt (cs : Int)))) 109) cl (Int32.ofInt (cs1 : Int)))) 110 (upd ((v_ur (v_ur (v_ur S0 107 (upd (S0 107) cl (p_h S0 pl))) 108 (upd ((v_ur S0 107 (upd (S0 107) cl (p_h S0 pl))) 108) cl (Int32.ofInt (cs : Int)))) 109 (upd ((v_ur (v_ur S0 107 (upd (S0 107) cl (p_h S0 pl))) 108 (upd ((v_ur S0 107 (upd (S0 107) cl (p_h S0 pl))) 108) cl (Int32.ofInt (cs : Int)))) 109) cl (Int32.ofInt (cs1 : Int)))) 110) cl (Int32.ofInt (cs2 : Int)))) pl2 cs2 sk2 cl (Int32.ofInt 0) nc2 sg2 true h2 o2 na2) R Q
              refine w_get rfl v_tyM rfl ?_
              refine w_st rfl (fun _ => rfl) ?_
              refine w_st rfl (fun _ => rfl) ?_
              show w_T L xs (d + 7) m_X12_clause 187 [(2, .int (p_h S0 pl)), (0, .ref 100), (1, .int (Int32.ofInt 0))] [.int ((Int32.ofInt (cl : Int)) + (Int32.ofInt 1)), .ref 100] (p_S (v_ur (v_ur (v_ur (v_ur S0 107 (upd (S0 107) cl (p_h S0 pl))) 108 (upd ((v_ur S0 107 (upd (S0 107) cl (p_h S0 pl))) 108) cl (Int32.ofInt (cs : Int)))) 109 (upd ((v_ur (v_ur S0 107 (upd (S0 107) cl (p_h S0 pl))) 108 (upd ((v_ur S0 107 (upd (S0 107) cl (p_h S0 pl))) 108) cl (Int32.ofInt (cs : Int)))) 109) cl (Int32.ofInt (cs1 : Int)))) 110 (upd ((v_ur (v_ur (v_ur S0 107 (upd (S0 107) cl (p_h S0 pl))) 108 (upd ((v_ur S0 107 (upd (S0 107) cl (p_h S0 pl))) 108) cl (Int32.ofInt (cs : Int)))) 109 (upd ((v_ur (v_ur S0 107 (upd (S0 107) cl (p_h S0 pl))) 108 (upd ((v_ur S0 107 (upd (S0 107) cl (p_h S0 pl))) 108) cl (Int32.ofInt (cs : Int)))) 109) cl (Int32.ofInt (cs1 : Int)))) 110) cl (Int32.ofInt (cs2 : Int)))) pl2 cs2 sk2 cl (Int32.ofInt 0) nc2 sg2 true h2 o2 na2) R Q
              refine w_put rfl v_tyM rfl rfl rfl ?_
              refine w_eqS (p_wcl (w_inc _)) ?_
              show w_T L xs (d + 7) m_X12_clause 190 [(2, .int (p_h S0 pl)), (0, .ref 100), (1, .int (Int32.ofInt 0))] [] (p_S (v_ur (v_ur (v_ur (v_ur S0 107 (upd (S0 107) cl (p_h S0 pl))) 108 (upd ((v_ur S0 107 (upd (S0 107) cl (p_h S0 pl))) 108) cl (Int32.ofInt (cs : Int)))) 109 (upd ((v_ur (v_ur S0 107 (upd (S0 107) cl (p_h S0 pl))) 108 (upd ((v_ur S0 107 (upd (S0 107) cl (p_h S0 pl))) 108) cl (Int32.ofInt (cs : Int)))) 109) cl (Int32.ofInt (cs1 : Int)))) 110 (upd ((v_ur (v_ur (v_ur S0 107 (upd (S0 107) cl (p_h S0 pl))) 108 (upd ((v_ur S0 107 (upd (S0 107) cl (p_h S0 pl))) 108) cl (Int32.ofInt (cs : Int)))) 109 (upd ((v_ur (v_ur S0 107 (upd (S0 107) cl (p_h S0 pl))) 108 (upd ((v_ur S0 107 (upd (S0 107) cl (p_h S0 pl))) 108) cl (Int32.ofInt (cs : Int)))) 109) cl (Int32.ofInt (cs1 : Int)))) 110) cl (Int32.ofInt (cs2 : Int)))) pl2 cs2 sk2 (cl + 1) (Int32.ofInt 0) nc2 sg2 true h2 o2 na2) R Q
              refine w_ret rfl rfl ?_
              refine Kg _ _ _ _ _ _ _ _ _ _ (p_F_ur (p_F_ur (p_F_ur (p_F_ur (p_F_rf _) (by omega)) (by omega)) (by omega)) (by omega)) (p_Tw (p_Tw (p_Tw (p_Tw hT (a := 107) rfl) (a := 108) rfl) (a := 109) rfl) (a := 110) rfl) (p_Z_add (cs1 := cs1) hZ (fun k hk => ?_) ?_ ?_ ?_ (by omega) (by omega) (fun k hk => by rw [r2 k (by omega), q2 k hk]) (v_seg_c (fun j x1 x2 => r2 j (by omega)) q3) r3) (by omega) (by omega) (by omega) (by omega) (by omega)
              · have hne : ¬ k = cl := by omega
                simp [v_ur, upd, hne]
              · simp [v_ur, upd]
              · simp [v_ur, upd]
              · simp [v_ur, upd]
            · show w_T L xs (d + 7) m_X12_clause 167 [(2, .int (p_h S0 pl)), (0, .ref 100), (1, .int (Int32.ofInt 0))] [] (p_S (v_ur (v_ur (v_ur S0 107 (upd (S0 107) cl (p_h S0 pl))) 108 (upd ((v_ur S0 107 (upd (S0 107) cl (p_h S0 pl))) 108) cl (Int32.ofInt (cs : Int)))) 109 (upd ((v_ur (v_ur S0 107 (upd (S0 107) cl (p_h S0 pl))) 108 (upd ((v_ur S0 107 (upd (S0 107) cl (p_h S0 pl))) 108) cl (Int32.ofInt (cs : Int)))) 109) cl (Int32.ofInt (cs1 : Int)))) pl2 cs2 sk2 cl b164 nc2 sg2 false h2 o2 na2) R Q
              refine w_st rfl (fun _ => rfl) ?_
              show w_T L xs (d + 7) m_X12_clause 168 [(2, .int (p_h S0 pl)), (0, .ref 100), (1, .int (Int32.ofInt 0))] [.ref 100] (p_S (v_ur (v_ur (v_ur S0 107 (upd (S0 107) cl (p_h S0 pl))) 108 (upd ((v_ur S0 107 (upd (S0 107) cl (p_h S0 pl))) 108) cl (Int32.ofInt (cs : Int)))) 109 (upd ((v_ur (v_ur S0 107 (upd (S0 107) cl (p_h S0 pl))) 108 (upd ((v_ur S0 107 (upd (S0 107) cl (p_h S0 pl))) 108) cl (Int32.ofInt (cs : Int)))) 109) cl (Int32.ofInt (cs1 : Int)))) pl2 cs2 sk2 cl b164 nc2 sg2 false h2 o2 na2) R Q
              refine w_getr rfl v_tyM rfl ?_
              refine w_st rfl (fun _ => rfl) ?_
              show w_T L xs (d + 7) m_X12_clause 172 [(2, .int (p_h S0 pl)), (0, .ref 100), (1, .int (Int32.ofInt 0))] [.ref 100, .ref 111] (p_S (v_ur (v_ur (v_ur S0 107 (upd (S0 107) cl (p_h S0 pl))) 108 (upd ((v_ur S0 107 (upd (S0 107) cl (p_h S0 pl))) 108) cl (Int32.ofInt (cs : Int)))) 109 (upd ((v_ur (v_ur S0 107 (upd (S0 107) cl (p_h S0 pl))) 108 (upd ((v_ur S0 107 (upd (S0 107) cl (p_h S0 pl))) 108) cl (Int32.ofInt (cs : Int)))) 109) cl (Int32.ofInt (cs1 : Int)))) pl2 cs2 sk2 cl b164 nc2 sg2 false h2 o2 na2) R Q
              refine w_get rfl v_tyM rfl ?_
              refine w_st rfl (fun _ => rfl) ?_
              show w_T L xs (d + 7) m_X12_clause 176 [(2, .int (p_h S0 pl)), (0, .ref 100), (1, .int (Int32.ofInt 0))] [.ref 100, .int (Int32.ofInt (cl : Int)), .ref 111] (p_S (v_ur (v_ur (v_ur S0 107 (upd (S0 107) cl (p_h S0 pl))) 108 (upd ((v_ur S0 107 (upd (S0 107) cl (p_h S0 pl))) 108) cl (Int32.ofInt (cs : Int)))) 109 (upd ((v_ur (v_ur S0 107 (upd (S0 107) cl (p_h S0 pl))) 108 (upd ((v_ur S0 107 (upd (S0 107) cl (p_h S0 pl))) 108) cl (Int32.ofInt (cs : Int)))) 109) cl (Int32.ofInt (cs1 : Int)))) pl2 cs2 sk2 cl b164 nc2 sg2 false h2 o2 na2) R Q
              refine w_get rfl v_tyM rfl ?_
              show w_T L xs (d + 7) m_X12_clause 179 [(2, .int (p_h S0 pl)), (0, .ref 100), (1, .int (Int32.ofInt 0))] [.int (Int32.ofInt (cs2 : Int)), .int (Int32.ofInt (cl : Int)), .ref 111] (p_S (v_ur (v_ur (v_ur S0 107 (upd (S0 107) cl (p_h S0 pl))) 108 (upd ((v_ur S0 107 (upd (S0 107) cl (p_h S0 pl))) 108) cl (Int32.ofInt (cs : Int)))) 109 (upd ((v_ur (v_ur S0 107 (upd (S0 107) cl (p_h S0 pl))) 108 (upd ((v_ur S0 107 (upd (S0 107) cl (p_h S0 pl))) 108) cl (Int32.ofInt (cs : Int)))) 109) cl (Int32.ofInt (cs1 : Int)))) pl2 cs2 sk2 cl b164 nc2 sg2 false h2 o2 na2) R Q
              refine w_iast rfl rfl (by rw [w_nat (by omega)]; omega) (by rw [w_nat (by omega)]; omega) ?_
              refine w_eqS (p_wor (by decide) (w_natn (by omega))) ?_
              refine w_st rfl (fun _ => rfl) ?_
              refine w_st rfl (fun _ => rfl) ?_
              show w_T L xs (d + 7) m_X12_clause 182 [(2, .int (p_h S0 pl)), (0, .ref 100), (1, .int (Int32.ofInt 0))] [.ref 100, .ref 100] (p_S (v_ur (v_ur (v_ur (v_ur S0 107 (upd (S0 107) cl (p_h S0 pl))) 108 (upd ((v_ur S0 107 (upd (S0 107) cl (p_h S0 pl))) 108) cl (Int32.ofInt (cs : Int)))) 109 (upd ((v_ur (v_ur S0 107 (upd (S0 107) cl (p_h S0 pl))) 108 (upd ((v_ur S0 107 (upd (S0 107) cl (p_h S0 pl))) 108) cl (Int32.ofInt (cs : Int)))) 109) cl (Int32.ofInt (cs1 : Int)))) 110 (upd ((v_ur (v_ur (v_ur S0 107 (upd (S0 107) cl (p_h S0 pl))) 108 (upd ((v_ur S0 107 (upd (S0 107) cl (p_h S0 pl))) 108) cl (Int32.ofInt (cs : Int)))) 109 (upd ((v_ur (v_ur S0 107 (upd (S0 107) cl (p_h S0 pl))) 108 (upd ((v_ur S0 107 (upd (S0 107) cl (p_h S0 pl))) 108) cl (Int32.ofInt (cs : Int)))) 109) cl (Int32.ofInt (cs1 : Int)))) 110) cl (Int32.ofInt (cs2 : Int)))) pl2 cs2 sk2 cl b164 nc2 sg2 false h2 o2 na2) R Q
              refine w_get rfl v_tyM rfl ?_
              refine w_st rfl (fun _ => rfl) ?_
              refine w_st rfl (fun _ => rfl) ?_
              show w_T L xs (d + 7) m_X12_clause 187 [(2, .int (p_h S0 pl)), (0, .ref 100), (1, .int (Int32.ofInt 0))] [.int ((Int32.ofInt (cl : Int)) + (Int32.ofInt 1)), .ref 100] (p_S (v_ur (v_ur (v_ur (v_ur S0 107 (upd (S0 107) cl (p_h S0 pl))) 108 (upd ((v_ur S0 107 (upd (S0 107) cl (p_h S0 pl))) 108) cl (Int32.ofInt (cs : Int)))) 109 (upd ((v_ur (v_ur S0 107 (upd (S0 107) cl (p_h S0 pl))) 108 (upd ((v_ur S0 107 (upd (S0 107) cl (p_h S0 pl))) 108) cl (Int32.ofInt (cs : Int)))) 109) cl (Int32.ofInt (cs1 : Int)))) 110 (upd ((v_ur (v_ur (v_ur S0 107 (upd (S0 107) cl (p_h S0 pl))) 108 (upd ((v_ur S0 107 (upd (S0 107) cl (p_h S0 pl))) 108) cl (Int32.ofInt (cs : Int)))) 109 (upd ((v_ur (v_ur S0 107 (upd (S0 107) cl (p_h S0 pl))) 108 (upd ((v_ur S0 107 (upd (S0 107) cl (p_h S0 pl))) 108) cl (Int32.ofInt (cs : Int)))) 109) cl (Int32.ofInt (cs1 : Int)))) 110) cl (Int32.ofInt (cs2 : Int)))) pl2 cs2 sk2 cl b164 nc2 sg2 false h2 o2 na2) R Q
              refine w_put rfl v_tyM rfl rfl rfl ?_
              refine w_eqS (p_wcl (w_inc _)) ?_
              show w_T L xs (d + 7) m_X12_clause 190 [(2, .int (p_h S0 pl)), (0, .ref 100), (1, .int (Int32.ofInt 0))] [] (p_S (v_ur (v_ur (v_ur (v_ur S0 107 (upd (S0 107) cl (p_h S0 pl))) 108 (upd ((v_ur S0 107 (upd (S0 107) cl (p_h S0 pl))) 108) cl (Int32.ofInt (cs : Int)))) 109 (upd ((v_ur (v_ur S0 107 (upd (S0 107) cl (p_h S0 pl))) 108 (upd ((v_ur S0 107 (upd (S0 107) cl (p_h S0 pl))) 108) cl (Int32.ofInt (cs : Int)))) 109) cl (Int32.ofInt (cs1 : Int)))) 110 (upd ((v_ur (v_ur (v_ur S0 107 (upd (S0 107) cl (p_h S0 pl))) 108 (upd ((v_ur S0 107 (upd (S0 107) cl (p_h S0 pl))) 108) cl (Int32.ofInt (cs : Int)))) 109 (upd ((v_ur (v_ur S0 107 (upd (S0 107) cl (p_h S0 pl))) 108 (upd ((v_ur S0 107 (upd (S0 107) cl (p_h S0 pl))) 108) cl (Int32.ofInt (cs : Int)))) 109) cl (Int32.ofInt (cs1 : Int)))) 110) cl (Int32.ofInt (cs2 : Int)))) pl2 cs2 sk2 (cl + 1) b164 nc2 sg2 false h2 o2 na2) R Q
              refine w_ret rfl rfl ?_
              exact Kb _ _ _ _ _ _ _ _ _ _ _ _ (p_F_ur (p_F_ur (p_F_ur (p_F_ur (p_F_rf _) (by omega)) (by omega)) (by omega)) (by omega)) (p_Tw (p_Tw (p_Tw (p_Tw hT (a := 107) rfl) (a := 108) rfl) (a := 109) rfl) (a := 110) rfl) hb164 (by omega) (by omega) (by omega) (by omega)
          · show w_T L xs (d + 7) m_X12_clause 143 [(2, .int (p_h S0 pl)), (0, .ref 100), (1, .int (Int32.ofInt 0))] [] (p_S (v_ur (v_ur S0 107 (upd (S0 107) cl (p_h S0 pl))) 108 (upd ((v_ur S0 107 (upd (S0 107) cl (p_h S0 pl))) 108) cl (Int32.ofInt (cs : Int)))) pl1 cs1 sk1 cl b140 nc1 sg1 ov h1 o1 na1) R Q
            refine w_st rfl (fun _ => rfl) ?_
            show w_T L xs (d + 7) m_X12_clause 144 [(2, .int (p_h S0 pl)), (0, .ref 100), (1, .int (Int32.ofInt 0))] [.ref 100] (p_S (v_ur (v_ur S0 107 (upd (S0 107) cl (p_h S0 pl))) 108 (upd ((v_ur S0 107 (upd (S0 107) cl (p_h S0 pl))) 108) cl (Int32.ofInt (cs : Int)))) pl1 cs1 sk1 cl b140 nc1 sg1 ov h1 o1 na1) R Q
            refine w_getr rfl v_tyM rfl ?_
            refine w_st rfl (fun _ => rfl) ?_
            show w_T L xs (d + 7) m_X12_clause 148 [(2, .int (p_h S0 pl)), (0, .ref 100), (1, .int (Int32.ofInt 0))] [.ref 100, .ref 110] (p_S (v_ur (v_ur S0 107 (upd (S0 107) cl (p_h S0 pl))) 108 (upd ((v_ur S0 107 (upd (S0 107) cl (p_h S0 pl))) 108) cl (Int32.ofInt (cs : Int)))) pl1 cs1 sk1 cl b140 nc1 sg1 ov h1 o1 na1) R Q
            refine w_get rfl v_tyM rfl ?_
            refine w_st rfl (fun _ => rfl) ?_
            show w_T L xs (d + 7) m_X12_clause 152 [(2, .int (p_h S0 pl)), (0, .ref 100), (1, .int (Int32.ofInt 0))] [.ref 100, .int (Int32.ofInt (cl : Int)), .ref 110] (p_S (v_ur (v_ur S0 107 (upd (S0 107) cl (p_h S0 pl))) 108 (upd ((v_ur S0 107 (upd (S0 107) cl (p_h S0 pl))) 108) cl (Int32.ofInt (cs : Int)))) pl1 cs1 sk1 cl b140 nc1 sg1 ov h1 o1 na1) R Q
            refine w_get rfl v_tyM rfl ?_
            show w_T L xs (d + 7) m_X12_clause 155 [(2, .int (p_h S0 pl)), (0, .ref 100), (1, .int (Int32.ofInt 0))] [.int (Int32.ofInt (cs1 : Int)), .int (Int32.ofInt (cl : Int)), .ref 110] (p_S (v_ur (v_ur S0 107 (upd (S0 107) cl (p_h S0 pl))) 108 (upd ((v_ur S0 107 (upd (S0 107) cl (p_h S0 pl))) 108) cl (Int32.ofInt (cs : Int)))) pl1 cs1 sk1 cl b140 nc1 sg1 ov h1 o1 na1) R Q
            refine w_iast rfl rfl (by rw [w_nat (by omega)]; omega) (by rw [w_nat (by omega)]; omega) ?_
            refine w_eqS (p_wor (by decide) (w_natn (by omega))) ?_
            refine w_st rfl (fun _ => rfl) ?_
            show w_T L xs (d + 7) m_X12_clause 157 [(2, .int (p_h S0 pl)), (0, .ref 100), (1, .int (Int32.ofInt 0))] [.ref 100] (p_S (v_ur (v_ur (v_ur S0 107 (upd (S0 107) cl (p_h S0 pl))) 108 (upd ((v_ur S0 107 (upd (S0 107) cl (p_h S0 pl))) 108) cl (Int32.ofInt (cs : Int)))) 109 (upd ((v_ur (v_ur S0 107 (upd (S0 107) cl (p_h S0 pl))) 108 (upd ((v_ur S0 107 (upd (S0 107) cl (p_h S0 pl))) 108) cl (Int32.ofInt (cs : Int)))) 109) cl (Int32.ofInt (cs1 : Int)))) pl1 cs1 sk1 cl b140 nc1 sg1 ov h1 o1 na1) R Q
            refine w_cv rfl (by decide) mt_X12_isGood v_tyM rfl rfl rfl (Nat.le_of_ble_eq_true rfl) (Nat.le_of_ble_eq_true rfl) (Nat.le_of_ble_eq_true rfl) ?_
            show w_T L xs _ m_X12_isGood 0 (lv_args 0 [.ref 100]) [] (p_S (v_ur (v_ur (v_ur S0 107 (upd (S0 107) cl (p_h S0 pl))) 108 (upd ((v_ur S0 107 (upd (S0 107) cl (p_h S0 pl))) 108) cl (Int32.ofInt (cs : Int)))) 109 (upd ((v_ur (v_ur S0 107 (upd (S0 107) cl (p_h S0 pl))) 108 (upd ((v_ur S0 107 (upd (S0 107) cl (p_h S0 pl))) 108) cl (Int32.ofInt (cs : Int)))) 109) cl (Int32.ofInt (cs1 : Int)))) pl1 cs1 sk1 cl b140 nc1 sg1 ov h1 o1 na1) R _
            refine h_isGF hb140 ?_
            show w_T L xs (d + 7) m_X12_clause 160 [(2, .int (p_h S0 pl)), (0, .ref 100), (1, .int (Int32.ofInt 0))] [.int (Int32.ofInt 0)] (p_S (v_ur (v_ur (v_ur S0 107 (upd (S0 107) cl (p_h S0 pl))) 108 (upd ((v_ur S0 107 (upd (S0 107) cl (p_h S0 pl))) 108) cl (Int32.ofInt (cs : Int)))) 109 (upd ((v_ur (v_ur S0 107 (upd (S0 107) cl (p_h S0 pl))) 108 (upd ((v_ur S0 107 (upd (S0 107) cl (p_h S0 pl))) 108) cl (Int32.ofInt (cs : Int)))) 109) cl (Int32.ofInt (cs1 : Int)))) pl1 cs1 sk1 cl b140 nc1 sg1 ov h1 o1 na1) R Q
            refine w_st rfl (fun _ => rfl) ?_
            refine w_st rfl (fun _ => rfl) ?_
            show w_T L xs (d + 7) m_X12_clause 168 [(2, .int (p_h S0 pl)), (0, .ref 100), (1, .int (Int32.ofInt 0))] [.ref 100] (p_S (v_ur (v_ur (v_ur S0 107 (upd (S0 107) cl (p_h S0 pl))) 108 (upd ((v_ur S0 107 (upd (S0 107) cl (p_h S0 pl))) 108) cl (Int32.ofInt (cs : Int)))) 109 (upd ((v_ur (v_ur S0 107 (upd (S0 107) cl (p_h S0 pl))) 108 (upd ((v_ur S0 107 (upd (S0 107) cl (p_h S0 pl))) 108) cl (Int32.ofInt (cs : Int)))) 109) cl (Int32.ofInt (cs1 : Int)))) pl1 cs1 sk1 cl b140 nc1 sg1 ov h1 o1 na1) R Q
            refine w_getr rfl v_tyM rfl ?_
            refine w_st rfl (fun _ => rfl) ?_
            show w_T L xs (d + 7) m_X12_clause 172 [(2, .int (p_h S0 pl)), (0, .ref 100), (1, .int (Int32.ofInt 0))] [.ref 100, .ref 111] (p_S (v_ur (v_ur (v_ur S0 107 (upd (S0 107) cl (p_h S0 pl))) 108 (upd ((v_ur S0 107 (upd (S0 107) cl (p_h S0 pl))) 108) cl (Int32.ofInt (cs : Int)))) 109 (upd ((v_ur (v_ur S0 107 (upd (S0 107) cl (p_h S0 pl))) 108 (upd ((v_ur S0 107 (upd (S0 107) cl (p_h S0 pl))) 108) cl (Int32.ofInt (cs : Int)))) 109) cl (Int32.ofInt (cs1 : Int)))) pl1 cs1 sk1 cl b140 nc1 sg1 ov h1 o1 na1) R Q
            refine w_get rfl v_tyM rfl ?_
            refine w_st rfl (fun _ => rfl) ?_
            show w_T L xs (d + 7) m_X12_clause 176 [(2, .int (p_h S0 pl)), (0, .ref 100), (1, .int (Int32.ofInt 0))] [.ref 100, .int (Int32.ofInt (cl : Int)), .ref 111] (p_S (v_ur (v_ur (v_ur S0 107 (upd (S0 107) cl (p_h S0 pl))) 108 (upd ((v_ur S0 107 (upd (S0 107) cl (p_h S0 pl))) 108) cl (Int32.ofInt (cs : Int)))) 109 (upd ((v_ur (v_ur S0 107 (upd (S0 107) cl (p_h S0 pl))) 108 (upd ((v_ur S0 107 (upd (S0 107) cl (p_h S0 pl))) 108) cl (Int32.ofInt (cs : Int)))) 109) cl (Int32.ofInt (cs1 : Int)))) pl1 cs1 sk1 cl b140 nc1 sg1 ov h1 o1 na1) R Q
            refine w_get rfl v_tyM rfl ?_
            show w_T L xs (d + 7) m_X12_clause 179 [(2, .int (p_h S0 pl)), (0, .ref 100), (1, .int (Int32.ofInt 0))] [.int (Int32.ofInt (cs1 : Int)), .int (Int32.ofInt (cl : Int)), .ref 111] (p_S (v_ur (v_ur (v_ur S0 107 (upd (S0 107) cl (p_h S0 pl))) 108 (upd ((v_ur S0 107 (upd (S0 107) cl (p_h S0 pl))) 108) cl (Int32.ofInt (cs : Int)))) 109 (upd ((v_ur (v_ur S0 107 (upd (S0 107) cl (p_h S0 pl))) 108 (upd ((v_ur S0 107 (upd (S0 107) cl (p_h S0 pl))) 108) cl (Int32.ofInt (cs : Int)))) 109) cl (Int32.ofInt (cs1 : Int)))) pl1 cs1 sk1 cl b140 nc1 sg1 ov h1 o1 na1) R Q
            refine w_iast rfl rfl (by rw [w_nat (by omega)]; omega) (by rw [w_nat (by omega)]; omega) ?_
            refine w_eqS (p_wor (by decide) (w_natn (by omega))) ?_
            refine w_st rfl (fun _ => rfl) ?_
            refine w_st rfl (fun _ => rfl) ?_
            show w_T L xs (d + 7) m_X12_clause 182 [(2, .int (p_h S0 pl)), (0, .ref 100), (1, .int (Int32.ofInt 0))] [.ref 100, .ref 100] (p_S (v_ur (v_ur (v_ur (v_ur S0 107 (upd (S0 107) cl (p_h S0 pl))) 108 (upd ((v_ur S0 107 (upd (S0 107) cl (p_h S0 pl))) 108) cl (Int32.ofInt (cs : Int)))) 109 (upd ((v_ur (v_ur S0 107 (upd (S0 107) cl (p_h S0 pl))) 108 (upd ((v_ur S0 107 (upd (S0 107) cl (p_h S0 pl))) 108) cl (Int32.ofInt (cs : Int)))) 109) cl (Int32.ofInt (cs1 : Int)))) 110 (upd ((v_ur (v_ur (v_ur S0 107 (upd (S0 107) cl (p_h S0 pl))) 108 (upd ((v_ur S0 107 (upd (S0 107) cl (p_h S0 pl))) 108) cl (Int32.ofInt (cs : Int)))) 109 (upd ((v_ur (v_ur S0 107 (upd (S0 107) cl (p_h S0 pl))) 108 (upd ((v_ur S0 107 (upd (S0 107) cl (p_h S0 pl))) 108) cl (Int32.ofInt (cs : Int)))) 109) cl (Int32.ofInt (cs1 : Int)))) 110) cl (Int32.ofInt (cs1 : Int)))) pl1 cs1 sk1 cl b140 nc1 sg1 ov h1 o1 na1) R Q
            refine w_get rfl v_tyM rfl ?_
            refine w_st rfl (fun _ => rfl) ?_
            refine w_st rfl (fun _ => rfl) ?_
            show w_T L xs (d + 7) m_X12_clause 187 [(2, .int (p_h S0 pl)), (0, .ref 100), (1, .int (Int32.ofInt 0))] [.int ((Int32.ofInt (cl : Int)) + (Int32.ofInt 1)), .ref 100] (p_S (v_ur (v_ur (v_ur (v_ur S0 107 (upd (S0 107) cl (p_h S0 pl))) 108 (upd ((v_ur S0 107 (upd (S0 107) cl (p_h S0 pl))) 108) cl (Int32.ofInt (cs : Int)))) 109 (upd ((v_ur (v_ur S0 107 (upd (S0 107) cl (p_h S0 pl))) 108 (upd ((v_ur S0 107 (upd (S0 107) cl (p_h S0 pl))) 108) cl (Int32.ofInt (cs : Int)))) 109) cl (Int32.ofInt (cs1 : Int)))) 110 (upd ((v_ur (v_ur (v_ur S0 107 (upd (S0 107) cl (p_h S0 pl))) 108 (upd ((v_ur S0 107 (upd (S0 107) cl (p_h S0 pl))) 108) cl (Int32.ofInt (cs : Int)))) 109 (upd ((v_ur (v_ur S0 107 (upd (S0 107) cl (p_h S0 pl))) 108 (upd ((v_ur S0 107 (upd (S0 107) cl (p_h S0 pl))) 108) cl (Int32.ofInt (cs : Int)))) 109) cl (Int32.ofInt (cs1 : Int)))) 110) cl (Int32.ofInt (cs1 : Int)))) pl1 cs1 sk1 cl b140 nc1 sg1 ov h1 o1 na1) R Q
            refine w_put rfl v_tyM rfl rfl rfl ?_
            refine w_eqS (p_wcl (w_inc _)) ?_
            show w_T L xs (d + 7) m_X12_clause 190 [(2, .int (p_h S0 pl)), (0, .ref 100), (1, .int (Int32.ofInt 0))] [] (p_S (v_ur (v_ur (v_ur (v_ur S0 107 (upd (S0 107) cl (p_h S0 pl))) 108 (upd ((v_ur S0 107 (upd (S0 107) cl (p_h S0 pl))) 108) cl (Int32.ofInt (cs : Int)))) 109 (upd ((v_ur (v_ur S0 107 (upd (S0 107) cl (p_h S0 pl))) 108 (upd ((v_ur S0 107 (upd (S0 107) cl (p_h S0 pl))) 108) cl (Int32.ofInt (cs : Int)))) 109) cl (Int32.ofInt (cs1 : Int)))) 110 (upd ((v_ur (v_ur (v_ur S0 107 (upd (S0 107) cl (p_h S0 pl))) 108 (upd ((v_ur S0 107 (upd (S0 107) cl (p_h S0 pl))) 108) cl (Int32.ofInt (cs : Int)))) 109 (upd ((v_ur (v_ur S0 107 (upd (S0 107) cl (p_h S0 pl))) 108 (upd ((v_ur S0 107 (upd (S0 107) cl (p_h S0 pl))) 108) cl (Int32.ofInt (cs : Int)))) 109) cl (Int32.ofInt (cs1 : Int)))) 110) cl (Int32.ofInt (cs1 : Int)))) pl1 cs1 sk1 (cl + 1) b140 nc1 sg1 ov h1 o1 na1) R Q
            refine w_ret rfl rfl ?_
            exact Kb _ _ _ _ _ _ _ _ _ _ _ _ (p_F_ur (p_F_ur (p_F_ur (p_F_ur (p_F_rf _) (by omega)) (by omega)) (by omega)) (by omega)) (p_Tw (p_Tw (p_Tw (p_Tw hT (a := 107) rfl) (a := 108) rfl) (a := 109) rfl) (a := 110) rfl) hb140 (by omega) (by omega) (by omega) (by omega)
    · refine w_st rfl (fun _ => rfl) ?_
      refine w_st rfl (fun _ => rfl) ?_
      refine w_st rfl (fun _ => rfl) ?_
      show w_T L xs (d + 7) m_X12_clause 58 [(2, .int (p_h S0 pl)), (0, .ref 100), (1, .int (Int32.ofInt 0))] [.ref 100, .int (Int32.ofInt 4), .ref 100] (p_S S0 pl cs sk cl (Int32.ofInt 0) nc sg ov bh op na) R Q
      refine w_get rfl v_tyM rfl ?_
      show w_T L xs (d + 7) m_X12_clause 61 [(2, .int (p_h S0 pl)), (0, .ref 100), (1, .int (Int32.ofInt 0))] [.int (Int32.ofInt (pl : Int)), .int (Int32.ofInt 4), .ref 100] (p_S S0 pl cs sk cl (Int32.ofInt 0) nc sg ov bh op na) R Q
      refine w_cv rfl (by decide) mt_X12_wrongs v_tyM rfl rfl rfl (Nat.le_of_ble_eq_true rfl) (Nat.le_of_ble_eq_true rfl) (Nat.le_of_ble_eq_true rfl) ?_
      show w_T L xs _ m_X12_wrongs 0 (lv_args 0 [.ref 100, .int (Int32.ofInt 4), .int (Int32.ofInt (pl : Int))]) [] (p_S S0 pl cs sk cl (Int32.ofInt 0) nc sg ov bh op na) R _
      refine h_wr (by decide) (by decide) (by rw [w_nat (by omega)]; omega) (by rw [w_nat (by omega)]; omega) (fun b61 hb61 => ?_)
      refine w_st rfl (fun _ => rfl) ?_
      show w_T L xs (d + 7) m_X12_clause 65 [(2, .int (p_h S0 pl)), (0, .ref 100), (1, .int (Int32.ofInt 0))] [.ref 100] (p_S S0 pl cs sk cl b61 nc sg ov bh op na) R Q
      refine w_cv rfl (by decide) mt_X12_isGood v_tyM rfl rfl rfl (Nat.le_of_ble_eq_true rfl) (Nat.le_of_ble_eq_true rfl) (Nat.le_of_ble_eq_true rfl) ?_
      show w_T L xs _ m_X12_isGood 0 (lv_args 0 [.ref 100]) [] (p_S S0 pl cs sk cl b61 nc sg ov bh op na) R _
      refine h_isGF hb61 ?_
      show w_T L xs (d + 7) m_X12_clause 68 [(2, .int (p_h S0 pl)), (0, .ref 100), (1, .int (Int32.ofInt 0))] [.int (Int32.ofInt 0)] (p_S S0 pl cs sk cl b61 nc sg ov bh op na) R Q
      refine w_st rfl (fun _ => rfl) ?_
      show w_T L xs (d + 7) m_X12_clause 71 [(2, .int (p_h S0 pl)), (0, .ref 100), (1, .int (Int32.ofInt 0))] [] (p_S S0 pl cs sk cl b61 nc sg ov bh op na) R Q
      refine w_ret rfl rfl ?_
      exact Kb _ _ _ _ _ _ _ _ _ _ _ _ (p_F_rf _) hT hb61 (by omega) (by omega) (by omega) (by omega)
  · show w_T L xs (d + 7) m_X12_clause 22 [(2, .int (p_h S0 pl)), (0, .ref 100), (1, .int (Int32.ofInt 0))] [.int (Int32.ofInt 0)] (p_S S0 pl cs sk cl (Int32.ofInt 0) nc sg ov bh op na) R Q
    refine w_st rfl (fun _ => rfl) ?_
    refine w_st rfl (fun _ => rfl) ?_
    refine w_st rfl (fun _ => rfl) ?_
    refine w_st rfl (fun _ => rfl) ?_
    show w_T L xs (d + 7) m_X12_clause 28 [(2, .int (p_h S0 pl)), (0, .ref 100), (1, .int (Int32.ofInt 0))] [.ref 100, .int (Int32.ofInt 1), .ref 100] (p_S S0 pl cs sk cl (Int32.ofInt 0) nc sg ov bh op na) R Q
    refine w_get rfl v_tyM rfl ?_
    show w_T L xs (d + 7) m_X12_clause 31 [(2, .int (p_h S0 pl)), (0, .ref 100), (1, .int (Int32.ofInt 0))] [.int (Int32.ofInt (pl : Int)), .int (Int32.ofInt 1), .ref 100] (p_S S0 pl cs sk cl (Int32.ofInt 0) nc sg ov bh op na) R Q
    refine w_cv rfl (by decide) mt_X12_wrongs v_tyM rfl rfl rfl (Nat.le_of_ble_eq_true rfl) (Nat.le_of_ble_eq_true rfl) (Nat.le_of_ble_eq_true rfl) ?_
    show w_T L xs _ m_X12_wrongs 0 (lv_args 0 [.ref 100, .int (Int32.ofInt 1), .int (Int32.ofInt (pl : Int))]) [] (p_S S0 pl cs sk cl (Int32.ofInt 0) nc sg ov bh op na) R _
    refine h_wr (by decide) (by decide) (by rw [w_nat (by omega)]; omega) (by rw [w_nat (by omega)]; omega) (fun b31 hb31 => ?_)
    refine w_st rfl (fun _ => rfl) ?_
    refine w_st rfl (fun _ => rfl) ?_
    show w_T L xs (d + 7) m_X12_clause 65 [(2, .int (p_h S0 pl)), (0, .ref 100), (1, .int (Int32.ofInt 0))] [.ref 100] (p_S S0 pl cs sk cl b31 nc sg ov bh op na) R Q
    refine w_cv rfl (by decide) mt_X12_isGood v_tyM rfl rfl rfl (Nat.le_of_ble_eq_true rfl) (Nat.le_of_ble_eq_true rfl) (Nat.le_of_ble_eq_true rfl) ?_
    show w_T L xs _ m_X12_isGood 0 (lv_args 0 [.ref 100]) [] (p_S S0 pl cs sk cl b31 nc sg ov bh op na) R _
    refine h_isGF hb31 ?_
    show w_T L xs (d + 7) m_X12_clause 68 [(2, .int (p_h S0 pl)), (0, .ref 100), (1, .int (Int32.ofInt 0))] [.int (Int32.ofInt 0)] (p_S S0 pl cs sk cl b31 nc sg ov bh op na) R Q
    refine w_st rfl (fun _ => rfl) ?_
    show w_T L xs (d + 7) m_X12_clause 71 [(2, .int (p_h S0 pl)), (0, .ref 100), (1, .int (Int32.ofInt 0))] [] (p_S S0 pl cs sk cl b31 nc sg ov bh op na) R Q
    refine w_ret rfl rfl ?_
    exact Kb _ _ _ _ _ _ _ _ _ _ _ _ (p_F_rf _) hT hb31 (by omega) (by omega) (by omega) (by omega)
theorem h_clR (he : (S0 99 4).toInt ≤ 240) (hT : v_Tb v_ty S0 R) (hZ : p_Z S0 cl cs nc) (hb : cs ≤ pl) (hp : pl ≤ 240) (hsk : sk ≤ 240) (hcl : cl ≤ 12) (Kg : ∀ (S1 : v_Sf) (pl' cs' sk' : Nat) (nc' sg' na' : Nat → Int32) (o : Int32) (v' h' : Bool), p_F S0 S1 → v_Tb v_ty S1 R → p_Z S1 (cl + 1) cs' nc' → pl ≤ pl' → cs' ≤ pl' → pl' ≤ 240 → sk' ≤ 240 → cl < 12 → Q none (p_S S1 (pl') (cs') (sk') (cl + 1) (Int32.ofInt 0) (nc') (sg') (v') (h') o (na')) R) (Kb : ∀ (S1 : v_Sf) (pl' cs' sk' cl' : Nat) (b' : Int32) (nc' sg' na' : Nat → Int32) (o : Int32) (v' h' : Bool), p_F S0 S1 → v_Tb v_ty S1 R → b'.toInt < 0 → cs' ≤ 240 → pl' ≤ 240 → sk' ≤ 240 → cl' ≤ 16 → Q none (p_S S1 (pl') (cs') (sk') (cl') (b') (nc') (sg') (v') (h') o (na')) R) : w_T L xs (d + 7) m_X12_clause 0 (lv_args 0 [.ref 100, .int (Int32.ofInt 1)]) [] (p_S S0 pl cs sk cl (Int32.ofInt 0) nc sg ov bh op na) R Q := by
  refine w_st rfl (fun _ => rfl) ?_
  show w_T L xs (d + 7) m_X12_clause 1 [(0, .ref 100), (1, .int (Int32.ofInt 1))] [.ref 100] (p_S S0 pl cs sk cl (Int32.ofInt 0) nc sg ov bh op na) R Q
  refine w_cv rfl (by decide) mt_X12_here v_tyM rfl rfl rfl (Nat.le_of_ble_eq_true rfl) (Nat.le_of_ble_eq_true rfl) (Nat.le_of_ble_eq_true rfl) ?_
  show w_T L xs _ m_X12_here 0 (lv_args 0 [.ref 100]) [] (p_S S0 pl cs sk cl (Int32.ofInt 0) nc sg ov bh op na) R _
  refine h_here (by omega) ?_
  refine w_st rfl (fun _ => rfl) ?_
  refine w_st rfl (fun _ => rfl) ?_
  show w_T L xs (d + 7) m_X12_clause 6 [(2, .int (p_h S0 pl)), (0, .ref 100), (1, .int (Int32.ofInt 1))] [.int (Int32.ofInt 1)] (p_S S0 pl cs sk cl (Int32.ofInt 0) nc sg ov bh op na) R Q
  refine w_st rfl (fun _ => rfl) ?_
  refine w_st rfl (fun _ => rfl) ?_
  refine w_st rfl (fun _ => rfl) ?_
  show w_T L xs (d + 7) m_X12_clause 12 [(2, .int (p_h S0 pl)), (0, .ref 100), (1, .int (Int32.ofInt 1))] [.int (Int32.ofInt 40), .int (p_h S0 pl)] (p_S S0 pl cs sk cl (Int32.ofInt 0) nc sg ov bh op na) R Q
  refine w_br (P := (p_h S0 pl) = (Int32.ofInt 40)) rfl (fun _ => rfl) (fun h12 => ?_) (fun h12 => ?_)
  · have hlt := p_h_lt (S0 := S0) (pl := pl) (by rw [h12]; decide)
    refine w_st rfl (fun _ => rfl) ?_
    show w_T L xs (d + 7) m_X12_clause 38 [(2, .int (p_h S0 pl)), (0, .ref 100), (1, .int (Int32.ofInt 1))] [.ref 100] (p_S S0 pl cs sk cl (Int32.ofInt 0) nc sg ov bh op na) R Q
    refine w_get rfl v_tyM rfl ?_
    refine w_st rfl (fun _ => rfl) ?_
    show w_T L xs (d + 7) m_X12_clause 42 [(2, .int (p_h S0 pl)), (0, .ref 100), (1, .int (Int32.ofInt 1))] [.int (Int32.ofInt 1), .int (Int32.ofInt (cl : Int))] (p_S S0 pl cs sk cl (Int32.ofInt 0) nc sg ov bh op na) R Q
    refine w_st rfl (fun _ => rfl) ?_
    refine w_st rfl (fun _ => rfl) ?_
    refine w_st rfl (fun _ => rfl) ?_
    show w_T L xs (d + 7) m_X12_clause 52 [(2, .int (p_h S0 pl)), (0, .ref 100), (1, .int (Int32.ofInt 1))] [.int (Int32.ofInt 12), .int (Int32.ofInt (cl : Int))] (p_S S0 pl cs sk cl (Int32.ofInt 0) nc sg ov bh op na) R Q
    refine w_br (P := ¬ (Int32.ofInt (cl : Int)) = (Int32.ofInt 12)) rfl (fun _ => rfl) (fun h52 => ?_) (fun h52 => ?_)
    · have hcl3 : cl < 12 := by
        refine Nat.lt_of_le_of_ne hcl (fun e => h52 ?_)
        rw [e]
        rfl
      refine w_st rfl (fun _ => rfl) ?_
      show w_T L xs (d + 7) m_X12_clause 65 [(2, .int (p_h S0 pl)), (0, .ref 100), (1, .int (Int32.ofInt 1))] [.ref 100] (p_S S0 pl cs sk cl (Int32.ofInt 0) nc sg ov bh op na) R Q
      refine w_cv rfl (by decide) mt_X12_isGood v_tyM rfl rfl rfl (Nat.le_of_ble_eq_true rfl) (Nat.le_of_ble_eq_true rfl) (Nat.le_of_ble_eq_true rfl) ?_
      show w_T L xs _ m_X12_isGood 0 (lv_args 0 [.ref 100]) [] (p_S S0 pl cs sk cl (Int32.ofInt 0) nc sg ov bh op na) R _
      refine h_isGT ?_
      show w_T L xs (d + 7) m_X12_clause 68 [(2, .int (p_h S0 pl)), (0, .ref 100), (1, .int (Int32.ofInt 1))] [.int (Int32.ofInt 1)] (p_S S0 pl cs sk cl (Int32.ofInt 0) nc sg ov bh op na) R Q
      refine w_st rfl (fun _ => rfl) ?_
      refine w_st rfl (fun _ => rfl) ?_
      show w_T L xs (d + 7) m_X12_clause 73 [(2, .int (p_h S0 pl)), (0, .ref 100), (1, .int (Int32.ofInt 1))] [.ref 100] (p_S S0 pl cs sk cl (Int32.ofInt 0) nc sg ov bh op na) R Q
      refine w_getr rfl v_tyM rfl ?_
      refine w_st rfl (fun _ => rfl) ?_
      show w_T L xs (d + 7) m_X12_clause 77 [(2, .int (p_h S0 pl)), (0, .ref 100), (1, .int (Int32.ofInt 1))] [.ref 100, .ref 108] (p_S S0 pl cs sk cl (Int32.ofInt 0) nc sg ov bh op na) R Q
      refine w_get rfl v_tyM rfl ?_
      refine w_st rfl (fun _ => rfl) ?_
      show w_T L xs (d + 7) m_X12_clause 81 [(2, .int (p_h S0 pl)), (0, .ref 100), (1, .int (Int32.ofInt 1))] [.int (p_h S0 pl), .int (Int32.ofInt (cl : Int)), .ref 108] (p_S S0 pl cs sk cl (Int32.ofInt 0) nc sg ov bh op na) R Q
      refine w_iast rfl rfl (by rw [w_nat (by omega)]; omega) (by rw [w_nat (by omega)]; omega) ?_
      refine w_eqS (p_wor (by decide) (w_natn (by omega))) ?_
      refine w_st rfl (fun _ => rfl) ?_
      show w_T L xs (d + 7) m_X12_clause 83 [(2, .int (p_h S0 pl)), (0, .ref 100), (1, .int (Int32.ofInt 1))] [.ref 100] (p_S (v_ur S0 107 (upd (S0 107) cl (p_h S0 pl))) pl cs sk cl (Int32.ofInt 0) nc sg ov bh op na) R Q
      refine w_getr rfl v_tyM rfl ?_
      refine w_st rfl (fun _ => rfl) ?_
      show w_T L xs (d + 7) m_X12_clause 87 [(2, .int (p_h S0 pl)), (0, .ref 100), (1, .int (Int32.ofInt 1))] [.ref 100, .ref 109] (p_S (v_ur S0 107 (upd (S0 107) cl (p_h S0 pl))) pl cs sk cl (Int32.ofInt 0) nc sg ov bh op na) R Q
      refine w_get rfl v_tyM rfl ?_
      refine w_st rfl (fun _ => rfl) ?_
      show w_T L xs (d + 7) m_X12_clause 91 [(2, .int (p_h S0 pl)), (0, .ref 100), (1, .int (Int32.ofInt 1))] [.ref 100, .int (Int32.ofInt (cl : Int)), .ref 109] (p_S (v_ur S0 107 (upd (S0 107) cl (p_h S0 pl))) pl cs sk cl (Int32.ofInt 0) nc sg ov bh op na) R Q
      refine w_get rfl v_tyM rfl ?_
      show w_T L xs (d + 7) m_X12_clause 94 [(2, .int (p_h S0 pl)), (0, .ref 100), (1, .int (Int32.ofInt 1))] [.int (Int32.ofInt (cs : Int)), .int (Int32.ofInt (cl : Int)), .ref 109] (p_S (v_ur S0 107 (upd (S0 107) cl (p_h S0 pl))) pl cs sk cl (Int32.ofInt 0) nc sg ov bh op na) R Q
      refine w_iast rfl rfl (by rw [w_nat (by omega)]; omega) (by rw [w_nat (by omega)]; omega) ?_
      refine w_eqS (p_wor (by decide) (w_natn (by omega))) ?_
      refine w_st rfl (fun _ => rfl) ?_
      refine w_st rfl (fun _ => rfl) ?_
      show w_T L xs (d + 7) m_X12_clause 97 [(2, .int (p_h S0 pl)), (0, .ref 100), (1, .int (Int32.ofInt 1))] [.ref 100, .ref 100] (p_S (v_ur (v_ur S0 107 (upd (S0 107) cl (p_h S0 pl))) 108 (upd ((v_ur S0 107 (upd (S0 107) cl (p_h S0 pl))) 108) cl (Int32.ofInt (cs : Int)))) pl cs sk cl (Int32.ofInt 0) nc sg ov bh op na) R Q
      refine w_get rfl v_tyM rfl ?_
      refine w_st rfl (fun _ => rfl) ?_
      show w_T L xs (d + 7) m_X12_clause 101 [(2, .int (p_h S0 pl)), (0, .ref 100), (1, .int (Int32.ofInt 1))] [.int (Int32.ofInt 1), .int (Int32.ofInt (pl : Int)), .ref 100] (p_S (v_ur (v_ur S0 107 (upd (S0 107) cl (p_h S0 pl))) 108 (upd ((v_ur S0 107 (upd (S0 107) cl (p_h S0 pl))) 108) cl (Int32.ofInt (cs : Int)))) pl cs sk cl (Int32.ofInt 0) nc sg ov bh op na) R Q
      refine w_st rfl (fun _ => rfl) ?_
      refine w_st rfl (fun _ => rfl) ?_
      refine w_st rfl (fun _ => rfl) ?_
      refine w_st rfl (fun _ => rfl) ?_
      show w_T L xs (d + 7) m_X12_clause 110 [(2, .int (p_h S0 pl)), (0, .ref 100), (1, .int (Int32.ofInt 1))] [.int ((Int32.ofInt (pl : Int)) + (Int32.ofInt 0)), .ref 100] (p_S (v_ur (v_ur S0 107 (upd (S0 107) cl (p_h S0 pl))) 108 (upd ((v_ur S0 107 (upd (S0 107) cl (p_h S0 pl))) 108) cl (Int32.ofInt (cs : Int)))) pl cs sk cl (Int32.ofInt 0) nc sg ov bh op na) R Q
      refine w_put rfl v_tyM rfl rfl rfl ?_
      refine w_eqS (p_wpl (w_add0 _)) ?_
      refine w_st rfl (fun _ => rfl) ?_
      refine w_st rfl (fun _ => rfl) ?_
      show w_T L xs (d + 7) m_X12_clause 115 [(2, .int (p_h S0 pl)), (0, .ref 100), (1, .int (Int32.ofInt 1))] [.int (Int32.ofInt 0), .ref 100] (p_S (v_ur (v_ur S0 107 (upd (S0 107) cl (p_h S0 pl))) 108 (upd ((v_ur S0 107 (upd (S0 107) cl (p_h S0 pl))) 108) cl (Int32.ofInt (cs : Int)))) pl cs sk cl (Int32.ofInt 0) nc sg ov bh op na) R Q
      refine w_put rfl v_tyM rfl rfl rfl ?_
      refine w_eqS (p_wsk (k := 0) rfl) ?_
      refine w_st rfl (fun _ => rfl) ?_
      refine w_st rfl (fun _ => rfl) ?_
      show w_T L xs (d + 7) m_X12_clause 120 [(2, .int (p_h S0 pl)), (0, .ref 100), (1, .int (Int32.ofInt 1))] [.int (Int32.ofInt 0), .ref 100] (p_S (v_ur (v_ur S0 107 (upd (S0 107) cl (p_h S0 pl))) 108 (upd ((v_ur S0 107 (upd (S0 107) cl (p_h S0 pl))) 108) cl (Int32.ofInt (cs : Int)))) pl cs 0 cl (Int32.ofInt 0) nc sg ov bh op na) R Q
      refine w_put rfl v_tyM rfl rfl rfl ?_
      refine w_eqS p_wop ?_
      refine w_st rfl (fun _ => rfl) ?_
      show w_T L xs (d + 7) m_X12_clause 124 [(2, .int (p_h S0 pl)), (0, .ref 100), (1, .int (Int32.ofInt 1))] [.int (Int32.ofInt 1)] (p_S (v_ur (v_ur S0 107 (upd (S0 107) cl (p_h S0 pl))) 108 (upd ((v_ur S0 107 (upd (S0 107) cl (p_h S0 pl))) 108) cl (Int32.ofInt (cs : Int)))) pl cs 0 cl (Int32.ofInt 0) nc sg ov bh (Int32.ofInt 0) na) R Q
      refine w_st rfl (fun _ => rfl) ?_
      refine w_st rfl (fun _ => rfl) ?_
      show w_T L xs (d + 7) m_X12_clause 144 [(2, .int (p_h S0 pl)), (0, .ref 100), (1, .int (Int32.ofInt 1))] [.ref 100] (p_S (v_ur (v_ur S0 107 (upd (S0 107) cl (p_h S0 pl))) 108 (upd ((v_ur S0 107 (upd (S0 107) cl (p_h S0 pl))) 108) cl (Int32.ofInt (cs : Int)))) pl cs 0 cl (Int32.ofInt 0) nc sg ov bh (Int32.ofInt 0) na) R Q
      refine w_getr rfl v_tyM rfl ?_
      refine w_st rfl (fun _ => rfl) ?_
      show w_T L xs (d + 7) m_X12_clause 148 [(2, .int (p_h S0 pl)), (0, .ref 100), (1, .int (Int32.ofInt 1))] [.ref 100, .ref 110] (p_S (v_ur (v_ur S0 107 (upd (S0 107) cl (p_h S0 pl))) 108 (upd ((v_ur S0 107 (upd (S0 107) cl (p_h S0 pl))) 108) cl (Int32.ofInt (cs : Int)))) pl cs 0 cl (Int32.ofInt 0) nc sg ov bh (Int32.ofInt 0) na) R Q
      refine w_get rfl v_tyM rfl ?_
      refine w_st rfl (fun _ => rfl) ?_
      show w_T L xs (d + 7) m_X12_clause 152 [(2, .int (p_h S0 pl)), (0, .ref 100), (1, .int (Int32.ofInt 1))] [.ref 100, .int (Int32.ofInt (cl : Int)), .ref 110] (p_S (v_ur (v_ur S0 107 (upd (S0 107) cl (p_h S0 pl))) 108 (upd ((v_ur S0 107 (upd (S0 107) cl (p_h S0 pl))) 108) cl (Int32.ofInt (cs : Int)))) pl cs 0 cl (Int32.ofInt 0) nc sg ov bh (Int32.ofInt 0) na) R Q
      refine w_get rfl v_tyM rfl ?_
      show w_T L xs (d + 7) m_X12_clause 155 [(2, .int (p_h S0 pl)), (0, .ref 100), (1, .int (Int32.ofInt 1))] [.int (Int32.ofInt (cs : Int)), .int (Int32.ofInt (cl : Int)), .ref 110] (p_S (v_ur (v_ur S0 107 (upd (S0 107) cl (p_h S0 pl))) 108 (upd ((v_ur S0 107 (upd (S0 107) cl (p_h S0 pl))) 108) cl (Int32.ofInt (cs : Int)))) pl cs 0 cl (Int32.ofInt 0) nc sg ov bh (Int32.ofInt 0) na) R Q
      refine w_iast rfl rfl (by rw [w_nat (by omega)]; omega) (by rw [w_nat (by omega)]; omega) ?_
      refine w_eqS (p_wor (by decide) (w_natn (by omega))) ?_
      refine w_st rfl (fun _ => rfl) ?_
      show w_T L xs (d + 7) m_X12_clause 157 [(2, .int (p_h S0 pl)), (0, .ref 100), (1, .int (Int32.ofInt 1))] [.ref 100] (p_S (v_ur (v_ur (v_ur S0 107 (upd (S0 107) cl (p_h S0 pl))) 108 (upd ((v_ur S0 107 (upd (S0 107) cl (p_h S0 pl))) 108) cl (Int32.ofInt (cs : Int)))) 109 (upd ((v_ur (v_ur S0 107 (upd (S0 107) cl (p_h S0 pl))) 108 (upd ((v_ur S0 107 (upd (S0 107) cl (p_h S0 pl))) 108) cl (Int32.ofInt (cs : Int)))) 109) cl (Int32.ofInt (cs : Int)))) pl cs 0 cl (Int32.ofInt 0) nc sg ov bh (Int32.ofInt 0) na) R Q
      refine w_cv rfl (by decide) mt_X12_isGood v_tyM rfl rfl rfl (Nat.le_of_ble_eq_true rfl) (Nat.le_of_ble_eq_true rfl) (Nat.le_of_ble_eq_true rfl) ?_
      show w_T L xs _ m_X12_isGood 0 (lv_args 0 [.ref 100]) [] (p_S (v_ur (v_ur (v_ur S0 107 (upd (S0 107) cl (p_h S0 pl))) 108 (upd ((v_ur S0 107 (upd (S0 107) cl (p_h S0 pl))) 108) cl (Int32.ofInt (cs : Int)))) 109 (upd ((v_ur (v_ur S0 107 (upd (S0 107) cl (p_h S0 pl))) 108 (upd ((v_ur S0 107 (upd (S0 107) cl (p_h S0 pl))) 108) cl (Int32.ofInt (cs : Int)))) 109) cl (Int32.ofInt (cs : Int)))) pl cs 0 cl (Int32.ofInt 0) nc sg ov bh (Int32.ofInt 0) na) R _
      refine h_isGT ?_
      show w_T L xs (d + 7) m_X12_clause 160 [(2, .int (p_h S0 pl)), (0, .ref 100), (1, .int (Int32.ofInt 1))] [.int (Int32.ofInt 1)] (p_S (v_ur (v_ur (v_ur S0 107 (upd (S0 107) cl (p_h S0 pl))) 108 (upd ((v_ur S0 107 (upd (S0 107) cl (p_h S0 pl))) 108) cl (Int32.ofInt (cs : Int)))) 109 (upd ((v_ur (v_ur S0 107 (upd (S0 107) cl (p_h S0 pl))) 108 (upd ((v_ur S0 107 (upd (S0 107) cl (p_h S0 pl))) 108) cl (Int32.ofInt (cs : Int)))) 109) cl (Int32.ofInt (cs : Int)))) pl cs 0 cl (Int32.ofInt 0) nc sg ov bh (Int32.ofInt 0) na) R Q
      refine w_st rfl (fun _ => rfl) ?_
      refine w_st rfl (fun _ => rfl) ?_
      show w_T L xs (d + 7) m_X12_clause 164 [(2, .int (p_h S0 pl)), (0, .ref 100), (1, .int (Int32.ofInt 1))] [.ref 100] (p_S (v_ur (v_ur (v_ur S0 107 (upd (S0 107) cl (p_h S0 pl))) 108 (upd ((v_ur S0 107 (upd (S0 107) cl (p_h S0 pl))) 108) cl (Int32.ofInt (cs : Int)))) 109 (upd ((v_ur (v_ur S0 107 (upd (S0 107) cl (p_h S0 pl))) 108 (upd ((v_ur S0 107 (upd (S0 107) cl (p_h S0 pl))) 108) cl (Int32.ofInt (cs : Int)))) 109) cl (Int32.ofInt (cs : Int)))) pl cs 0 cl (Int32.ofInt 0) nc sg ov bh (Int32.ofInt 0) na) R Q
      refine w_cv rfl (by decide) mt_X12_condition v_tyM rfl rfl rfl (Nat.le_of_ble_eq_true rfl) (Nat.le_of_ble_eq_true rfl) (Nat.le_of_ble_eq_true rfl) ?_
      show w_T L xs _ m_X12_condition 0 (lv_args 0 [.ref 100]) [] (p_S (v_ur (v_ur (v_ur S0 107 (upd (S0 107) cl (p_h S0 pl))) 108 (upd ((v_ur S0 107 (upd (S0 107) cl (p_h S0 pl))) 108) cl (Int32.ofInt (cs : Int)))) 109 (upd ((v_ur (v_ur S0 107 (upd (S0 107) cl (p_h S0 pl))) 108 (upd ((v_ur S0 107 (upd (S0 107) cl (p_h S0 pl))) 108) cl (Int32.ofInt (cs : Int)))) 109) cl (Int32.ofInt (cs : Int)))) pl cs 0 cl (Int32.ofInt 0) nc sg ov bh (Int32.ofInt 0) na) R _
      refine h_cond (S0 := (v_ur (v_ur (v_ur S0 107 (upd (S0 107) cl (p_h S0 pl))) 108 (upd ((v_ur S0 107 (upd (S0 107) cl (p_h S0 pl))) 108) cl (Int32.ofInt (cs : Int)))) 109 (upd ((v_ur (v_ur S0 107 (upd (S0 107) cl (p_h S0 pl))) 108 (upd ((v_ur S0 107 (upd (S0 107) cl (p_h S0 pl))) 108) cl (Int32.ofInt (cs : Int)))) 109) cl (Int32.ofInt (cs : Int))))) he (by omega) (by omega) (fun pl2 cs2 sk2 nc2 sg2 na2 o2 h2 l2 i2 j2 k2 => ?_) (fun pl2 cs2 sk2 b164 nc2 sg2 na2 o2 h2 hb164 j2 k2 => ?_)
      · obtain ⟨r1, r2, r3⟩ := p_I_of i2
        show w_T L xs (d + 7) m_X12_clause 167 [(2, .int (p_h S0 pl)), (0, .ref 100), (1, .int (Int32.ofInt 1))] [] (p_S (v_ur (v_ur (v_ur S0 107 (upd (S0 107) cl (p_h S0 pl))) 108 (upd ((v_ur S0 107 (upd (S0 107) cl (p_h S0 pl))) 108) cl (Int32.ofInt (cs : Int)))) 109 (upd ((v_ur (v_ur S0 107 (upd (S0 107) cl (p_h S0 pl))) 108 (upd ((v_ur S0 107 (upd (S0 107) cl (p_h S0 pl))) 108) cl (Int32.ofInt (cs : Int)))) 109) cl (Int32.ofInt (cs : Int)))) pl2 cs2 sk2 cl (Int32.ofInt 0) nc2 sg2 true h2 o2 na2) R Q
        refine w_st rfl (fun _ => rfl) ?_
        show w_T L xs (d + 7) m_X12_clause 168 [(2, .int (p_h S0 pl)), (0, .ref 100), (1, .int (Int32.ofInt 1))] [.ref 100] (p_S (v_ur (v_ur (v_ur S0 107 (upd (S0 107) cl (p_h S0 pl))) 108 (upd ((v_ur S0 107 (upd (S0 107) cl (p_h S0 pl))) 108) cl (Int32.ofInt (cs : Int)))) 109 (upd ((v_ur (v_ur S0 107 (upd (S0 107) cl (p_h S0 pl))) 108 (upd ((v_ur S0 107 (upd (S0 107) cl (p_h S0 pl))) 108) cl (Int32.ofInt (cs : Int)))) 109) cl (Int32.ofInt (cs : Int)))) pl2 cs2 sk2 cl (Int32.ofInt 0) nc2 sg2 true h2 o2 na2) R Q
        refine w_getr rfl v_tyM rfl ?_
        refine w_st rfl (fun _ => rfl) ?_
        show w_T L xs (d + 7) m_X12_clause 172 [(2, .int (p_h S0 pl)), (0, .ref 100), (1, .int (Int32.ofInt 1))] [.ref 100, .ref 111] (p_S (v_ur (v_ur (v_ur S0 107 (upd (S0 107) cl (p_h S0 pl))) 108 (upd ((v_ur S0 107 (upd (S0 107) cl (p_h S0 pl))) 108) cl (Int32.ofInt (cs : Int)))) 109 (upd ((v_ur (v_ur S0 107 (upd (S0 107) cl (p_h S0 pl))) 108 (upd ((v_ur S0 107 (upd (S0 107) cl (p_h S0 pl))) 108) cl (Int32.ofInt (cs : Int)))) 109) cl (Int32.ofInt (cs : Int)))) pl2 cs2 sk2 cl (Int32.ofInt 0) nc2 sg2 true h2 o2 na2) R Q
        refine w_get rfl v_tyM rfl ?_
        refine w_st rfl (fun _ => rfl) ?_
        show w_T L xs (d + 7) m_X12_clause 176 [(2, .int (p_h S0 pl)), (0, .ref 100), (1, .int (Int32.ofInt 1))] [.ref 100, .int (Int32.ofInt (cl : Int)), .ref 111] (p_S (v_ur (v_ur (v_ur S0 107 (upd (S0 107) cl (p_h S0 pl))) 108 (upd ((v_ur S0 107 (upd (S0 107) cl (p_h S0 pl))) 108) cl (Int32.ofInt (cs : Int)))) 109 (upd ((v_ur (v_ur S0 107 (upd (S0 107) cl (p_h S0 pl))) 108 (upd ((v_ur S0 107 (upd (S0 107) cl (p_h S0 pl))) 108) cl (Int32.ofInt (cs : Int)))) 109) cl (Int32.ofInt (cs : Int)))) pl2 cs2 sk2 cl (Int32.ofInt 0) nc2 sg2 true h2 o2 na2) R Q
        refine w_get rfl v_tyM rfl ?_
        show w_T L xs (d + 7) m_X12_clause 179 [(2, .int (p_h S0 pl)), (0, .ref 100), (1, .int (Int32.ofInt 1))] [.int (Int32.ofInt (cs2 : Int)), .int (Int32.ofInt (cl : Int)), .ref 111] (p_S (v_ur (v_ur (v_ur S0 107 (upd (S0 107) cl (p_h S0 pl))) 108 (upd ((v_ur S0 107 (upd (S0 107) cl (p_h S0 pl))) 108) cl (Int32.ofInt (cs : Int)))) 109 (upd ((v_ur (v_ur S0 107 (upd (S0 107) cl (p_h S0 pl))) 108 (upd ((v_ur S0 107 (upd (S0 107) cl (p_h S0 pl))) 108) cl (Int32.ofInt (cs : Int)))) 109) cl (Int32.ofInt (cs : Int)))) pl2 cs2 sk2 cl (Int32.ofInt 0) nc2 sg2 true h2 o2 na2) R Q
        refine w_iast rfl rfl (by rw [w_nat (by omega)]; omega) (by rw [w_nat (by omega)]; omega) ?_
        refine w_eqS (p_wor (by decide) (w_natn (by omega))) ?_
        refine w_st rfl (fun _ => rfl) ?_
        refine w_st rfl (fun _ => rfl) ?_
        show w_T L xs (d + 7) m_X12_clause 182 [(2, .int (p_h S0 pl)), (0, .ref 100), (1, .int (Int32.ofInt 1))] [.ref 100, .ref 100] (p_S (v_ur (v_ur (v_ur (v_ur S0 107 (upd (S0 107) cl (p_h S0 pl))) 108 (upd ((v_ur S0 107 (upd (S0 107) cl (p_h S0 pl))) 108) cl (Int32.ofInt (cs : Int)))) 109 (upd ((v_ur (v_ur S0 107 (upd (S0 107) cl (p_h S0 pl))) 108 (upd ((v_ur S0 107 (upd (S0 107) cl (p_h S0 pl))) 108) cl (Int32.ofInt (cs : Int)))) 109) cl (Int32.ofInt (cs : Int)))) 110 (upd ((v_ur (v_ur (v_ur S0 107 (upd (S0 107) cl (p_h S0 pl))) 108 (upd ((v_ur S0 107 (upd (S0 107) cl (p_h S0 pl))) 108) cl (Int32.ofInt (cs : Int)))) 109 (upd ((v_ur (v_ur S0 107 (upd (S0 107) cl (p_h S0 pl))) 108 (upd ((v_ur S0 107 (upd (S0 107) cl (p_h S0 pl))) 108) cl (Int32.ofInt (cs : Int)))) 109) cl (Int32.ofInt (cs : Int)))) 110) cl (Int32.ofInt (cs2 : Int)))) pl2 cs2 sk2 cl (Int32.ofInt 0) nc2 sg2 true h2 o2 na2) R Q
        refine w_get rfl v_tyM rfl ?_
        refine w_st rfl (fun _ => rfl) ?_
        refine w_st rfl (fun _ => rfl) ?_
        show w_T L xs (d + 7) m_X12_clause 187 [(2, .int (p_h S0 pl)), (0, .ref 100), (1, .int (Int32.ofInt 1))] [.int ((Int32.ofInt (cl : Int)) + (Int32.ofInt 1)), .ref 100] (p_S (v_ur (v_ur (v_ur (v_ur S0 107 (upd (S0 107) cl (p_h S0 pl))) 108 (upd ((v_ur S0 107 (upd (S0 107) cl (p_h S0 pl))) 108) cl (Int32.ofInt (cs : Int)))) 109 (upd ((v_ur (v_ur S0 107 (upd (S0 107) cl (p_h S0 pl))) 108 (upd ((v_ur S0 107 (upd (S0 107) cl (p_h S0 pl))) 108) cl (Int32.ofInt (cs : Int)))) 109) cl (Int32.ofInt (cs : Int)))) 110 (upd ((v_ur (v_ur (v_ur S0 107 (upd (S0 107) cl (p_h S0 pl))) 108 (upd ((v_ur S0 107 (upd (S0 107) cl (p_h S0 pl))) 108) cl (Int32.ofInt (cs : Int)))) 109 (upd ((v_ur (v_ur S0 107 (upd (S0 107) cl (p_h S0 pl))) 108 (upd ((v_ur S0 107 (upd (S0 107) cl (p_h S0 pl))) 108) cl (Int32.ofInt (cs : Int)))) 109) cl (Int32.ofInt (cs : Int)))) 110) cl (Int32.ofInt (cs2 : Int)))) pl2 cs2 sk2 cl (Int32.ofInt 0) nc2 sg2 true h2 o2 na2) R Q
        refine w_put rfl v_tyM rfl rfl rfl ?_
        refine w_eqS (p_wcl (w_inc _)) ?_
        show w_T L xs (d + 7) m_X12_clause 190 [(2, .int (p_h S0 pl)), (0, .ref 100), (1, .int (Int32.ofInt 1))] [] (p_S (v_ur (v_ur (v_ur (v_ur S0 107 (upd (S0 107) cl (p_h S0 pl))) 108 (upd ((v_ur S0 107 (upd (S0 107) cl (p_h S0 pl))) 108) cl (Int32.ofInt (cs : Int)))) 109 (upd ((v_ur (v_ur S0 107 (upd (S0 107) cl (p_h S0 pl))) 108 (upd ((v_ur S0 107 (upd (S0 107) cl (p_h S0 pl))) 108) cl (Int32.ofInt (cs : Int)))) 109) cl (Int32.ofInt (cs : Int)))) 110 (upd ((v_ur (v_ur (v_ur S0 107 (upd (S0 107) cl (p_h S0 pl))) 108 (upd ((v_ur S0 107 (upd (S0 107) cl (p_h S0 pl))) 108) cl (Int32.ofInt (cs : Int)))) 109 (upd ((v_ur (v_ur S0 107 (upd (S0 107) cl (p_h S0 pl))) 108 (upd ((v_ur S0 107 (upd (S0 107) cl (p_h S0 pl))) 108) cl (Int32.ofInt (cs : Int)))) 109) cl (Int32.ofInt (cs : Int)))) 110) cl (Int32.ofInt (cs2 : Int)))) pl2 cs2 sk2 (cl + 1) (Int32.ofInt 0) nc2 sg2 true h2 o2 na2) R Q
        refine w_ret rfl rfl ?_
        refine Kg _ _ _ _ _ _ _ _ _ _ (p_F_ur (p_F_ur (p_F_ur (p_F_ur (p_F_rf _) (by omega)) (by omega)) (by omega)) (by omega)) (p_Tw (p_Tw (p_Tw (p_Tw hT (a := 107) rfl) (a := 108) rfl) (a := 109) rfl) (a := 110) rfl) (p_Z_add (cs1 := cs) hZ (fun k hk => ?_) ?_ ?_ ?_ (by omega) (by omega) (fun k hk => r2 k hk) (by rw [Nat.sub_self]; trivial) r3) (by omega) (by omega) (by omega) (by omega) (by omega)
        · have hne : ¬ k = cl := by omega
          simp [v_ur, upd, hne]
        · simp [v_ur, upd]
        · simp [v_ur, upd]
        · simp [v_ur, upd]
      · show w_T L xs (d + 7) m_X12_clause 167 [(2, .int (p_h S0 pl)), (0, .ref 100), (1, .int (Int32.ofInt 1))] [] (p_S (v_ur (v_ur (v_ur S0 107 (upd (S0 107) cl (p_h S0 pl))) 108 (upd ((v_ur S0 107 (upd (S0 107) cl (p_h S0 pl))) 108) cl (Int32.ofInt (cs : Int)))) 109 (upd ((v_ur (v_ur S0 107 (upd (S0 107) cl (p_h S0 pl))) 108 (upd ((v_ur S0 107 (upd (S0 107) cl (p_h S0 pl))) 108) cl (Int32.ofInt (cs : Int)))) 109) cl (Int32.ofInt (cs : Int)))) pl2 cs2 sk2 cl b164 nc2 sg2 false h2 o2 na2) R Q
        refine w_st rfl (fun _ => rfl) ?_
        show w_T L xs (d + 7) m_X12_clause 168 [(2, .int (p_h S0 pl)), (0, .ref 100), (1, .int (Int32.ofInt 1))] [.ref 100] (p_S (v_ur (v_ur (v_ur S0 107 (upd (S0 107) cl (p_h S0 pl))) 108 (upd ((v_ur S0 107 (upd (S0 107) cl (p_h S0 pl))) 108) cl (Int32.ofInt (cs : Int)))) 109 (upd ((v_ur (v_ur S0 107 (upd (S0 107) cl (p_h S0 pl))) 108 (upd ((v_ur S0 107 (upd (S0 107) cl (p_h S0 pl))) 108) cl (Int32.ofInt (cs : Int)))) 109) cl (Int32.ofInt (cs : Int)))) pl2 cs2 sk2 cl b164 nc2 sg2 false h2 o2 na2) R Q
        refine w_getr rfl v_tyM rfl ?_
        refine w_st rfl (fun _ => rfl) ?_
        show w_T L xs (d + 7) m_X12_clause 172 [(2, .int (p_h S0 pl)), (0, .ref 100), (1, .int (Int32.ofInt 1))] [.ref 100, .ref 111] (p_S (v_ur (v_ur (v_ur S0 107 (upd (S0 107) cl (p_h S0 pl))) 108 (upd ((v_ur S0 107 (upd (S0 107) cl (p_h S0 pl))) 108) cl (Int32.ofInt (cs : Int)))) 109 (upd ((v_ur (v_ur S0 107 (upd (S0 107) cl (p_h S0 pl))) 108 (upd ((v_ur S0 107 (upd (S0 107) cl (p_h S0 pl))) 108) cl (Int32.ofInt (cs : Int)))) 109) cl (Int32.ofInt (cs : Int)))) pl2 cs2 sk2 cl b164 nc2 sg2 false h2 o2 na2) R Q
        refine w_get rfl v_tyM rfl ?_
        refine w_st rfl (fun _ => rfl) ?_
        show w_T L xs (d + 7) m_X12_clause 176 [(2, .int (p_h S0 pl)), (0, .ref 100), (1, .int (Int32.ofInt 1))] [.ref 100, .int (Int32.ofInt (cl : Int)), .ref 111] (p_S (v_ur (v_ur (v_ur S0 107 (upd (S0 107) cl (p_h S0 pl))) 108 (upd ((v_ur S0 107 (upd (S0 107) cl (p_h S0 pl))) 108) cl (Int32.ofInt (cs : Int)))) 109 (upd ((v_ur (v_ur S0 107 (upd (S0 107) cl (p_h S0 pl))) 108 (upd ((v_ur S0 107 (upd (S0 107) cl (p_h S0 pl))) 108) cl (Int32.ofInt (cs : Int)))) 109) cl (Int32.ofInt (cs : Int)))) pl2 cs2 sk2 cl b164 nc2 sg2 false h2 o2 na2) R Q
        refine w_get rfl v_tyM rfl ?_
        show w_T L xs (d + 7) m_X12_clause 179 [(2, .int (p_h S0 pl)), (0, .ref 100), (1, .int (Int32.ofInt 1))] [.int (Int32.ofInt (cs2 : Int)), .int (Int32.ofInt (cl : Int)), .ref 111] (p_S (v_ur (v_ur (v_ur S0 107 (upd (S0 107) cl (p_h S0 pl))) 108 (upd ((v_ur S0 107 (upd (S0 107) cl (p_h S0 pl))) 108) cl (Int32.ofInt (cs : Int)))) 109 (upd ((v_ur (v_ur S0 107 (upd (S0 107) cl (p_h S0 pl))) 108 (upd ((v_ur S0 107 (upd (S0 107) cl (p_h S0 pl))) 108) cl (Int32.ofInt (cs : Int)))) 109) cl (Int32.ofInt (cs : Int)))) pl2 cs2 sk2 cl b164 nc2 sg2 false h2 o2 na2) R Q
        refine w_iast rfl rfl (by rw [w_nat (by omega)]; omega) (by rw [w_nat (by omega)]; omega) ?_
        refine w_eqS (p_wor (by decide) (w_natn (by omega))) ?_
        refine w_st rfl (fun _ => rfl) ?_
        refine w_st rfl (fun _ => rfl) ?_
        show w_T L xs (d + 7) m_X12_clause 182 [(2, .int (p_h S0 pl)), (0, .ref 100), (1, .int (Int32.ofInt 1))] [.ref 100, .ref 100] (p_S (v_ur (v_ur (v_ur (v_ur S0 107 (upd (S0 107) cl (p_h S0 pl))) 108 (upd ((v_ur S0 107 (upd (S0 107) cl (p_h S0 pl))) 108) cl (Int32.ofInt (cs : Int)))) 109 (upd ((v_ur (v_ur S0 107 (upd (S0 107) cl (p_h S0 pl))) 108 (upd ((v_ur S0 107 (upd (S0 107) cl (p_h S0 pl))) 108) cl (Int32.ofInt (cs : Int)))) 109) cl (Int32.ofInt (cs : Int)))) 110 (upd ((v_ur (v_ur (v_ur S0 107 (upd (S0 107) cl (p_h S0 pl))) 108 (upd ((v_ur S0 107 (upd (S0 107) cl (p_h S0 pl))) 108) cl (Int32.ofInt (cs : Int)))) 109 (upd ((v_ur (v_ur S0 107 (upd (S0 107) cl (p_h S0 pl))) 108 (upd ((v_ur S0 107 (upd (S0 107) cl (p_h S0 pl))) 108) cl (Int32.ofInt (cs : Int)))) 109) cl (Int32.ofInt (cs : Int)))) 110) cl (Int32.ofInt (cs2 : Int)))) pl2 cs2 sk2 cl b164 nc2 sg2 false h2 o2 na2) R Q
        refine w_get rfl v_tyM rfl ?_
        refine w_st rfl (fun _ => rfl) ?_
        refine w_st rfl (fun _ => rfl) ?_
        show w_T L xs (d + 7) m_X12_clause 187 [(2, .int (p_h S0 pl)), (0, .ref 100), (1, .int (Int32.ofInt 1))] [.int ((Int32.ofInt (cl : Int)) + (Int32.ofInt 1)), .ref 100] (p_S (v_ur (v_ur (v_ur (v_ur S0 107 (upd (S0 107) cl (p_h S0 pl))) 108 (upd ((v_ur S0 107 (upd (S0 107) cl (p_h S0 pl))) 108) cl (Int32.ofInt (cs : Int)))) 109 (upd ((v_ur (v_ur S0 107 (upd (S0 107) cl (p_h S0 pl))) 108 (upd ((v_ur S0 107 (upd (S0 107) cl (p_h S0 pl))) 108) cl (Int32.ofInt (cs : Int)))) 109) cl (Int32.ofInt (cs : Int)))) 110 (upd ((v_ur (v_ur (v_ur S0 107 (upd (S0 107) cl (p_h S0 pl))) 108 (upd ((v_ur S0 107 (upd (S0 107) cl (p_h S0 pl))) 108) cl (Int32.ofInt (cs : Int)))) 109 (upd ((v_ur (v_ur S0 107 (upd (S0 107) cl (p_h S0 pl))) 108 (upd ((v_ur S0 107 (upd (S0 107) cl (p_h S0 pl))) 108) cl (Int32.ofInt (cs : Int)))) 109) cl (Int32.ofInt (cs : Int)))) 110) cl (Int32.ofInt (cs2 : Int)))) pl2 cs2 sk2 cl b164 nc2 sg2 false h2 o2 na2) R Q
        refine w_put rfl v_tyM rfl rfl rfl ?_
        refine w_eqS (p_wcl (w_inc _)) ?_
        show w_T L xs (d + 7) m_X12_clause 190 [(2, .int (p_h S0 pl)), (0, .ref 100), (1, .int (Int32.ofInt 1))] [] (p_S (v_ur (v_ur (v_ur (v_ur S0 107 (upd (S0 107) cl (p_h S0 pl))) 108 (upd ((v_ur S0 107 (upd (S0 107) cl (p_h S0 pl))) 108) cl (Int32.ofInt (cs : Int)))) 109 (upd ((v_ur (v_ur S0 107 (upd (S0 107) cl (p_h S0 pl))) 108 (upd ((v_ur S0 107 (upd (S0 107) cl (p_h S0 pl))) 108) cl (Int32.ofInt (cs : Int)))) 109) cl (Int32.ofInt (cs : Int)))) 110 (upd ((v_ur (v_ur (v_ur S0 107 (upd (S0 107) cl (p_h S0 pl))) 108 (upd ((v_ur S0 107 (upd (S0 107) cl (p_h S0 pl))) 108) cl (Int32.ofInt (cs : Int)))) 109 (upd ((v_ur (v_ur S0 107 (upd (S0 107) cl (p_h S0 pl))) 108 (upd ((v_ur S0 107 (upd (S0 107) cl (p_h S0 pl))) 108) cl (Int32.ofInt (cs : Int)))) 109) cl (Int32.ofInt (cs : Int)))) 110) cl (Int32.ofInt (cs2 : Int)))) pl2 cs2 sk2 (cl + 1) b164 nc2 sg2 false h2 o2 na2) R Q
        refine w_ret rfl rfl ?_
        exact Kb _ _ _ _ _ _ _ _ _ _ _ _ (p_F_ur (p_F_ur (p_F_ur (p_F_ur (p_F_rf _) (by omega)) (by omega)) (by omega)) (by omega)) (p_Tw (p_Tw (p_Tw (p_Tw hT (a := 107) rfl) (a := 108) rfl) (a := 109) rfl) (a := 110) rfl) hb164 (by omega) (by omega) (by omega) (by omega)
    · refine w_st rfl (fun _ => rfl) ?_
      refine w_st rfl (fun _ => rfl) ?_
      refine w_st rfl (fun _ => rfl) ?_
      show w_T L xs (d + 7) m_X12_clause 58 [(2, .int (p_h S0 pl)), (0, .ref 100), (1, .int (Int32.ofInt 1))] [.ref 100, .int (Int32.ofInt 4), .ref 100] (p_S S0 pl cs sk cl (Int32.ofInt 0) nc sg ov bh op na) R Q
      refine w_get rfl v_tyM rfl ?_
      show w_T L xs (d + 7) m_X12_clause 61 [(2, .int (p_h S0 pl)), (0, .ref 100), (1, .int (Int32.ofInt 1))] [.int (Int32.ofInt (pl : Int)), .int (Int32.ofInt 4), .ref 100] (p_S S0 pl cs sk cl (Int32.ofInt 0) nc sg ov bh op na) R Q
      refine w_cv rfl (by decide) mt_X12_wrongs v_tyM rfl rfl rfl (Nat.le_of_ble_eq_true rfl) (Nat.le_of_ble_eq_true rfl) (Nat.le_of_ble_eq_true rfl) ?_
      show w_T L xs _ m_X12_wrongs 0 (lv_args 0 [.ref 100, .int (Int32.ofInt 4), .int (Int32.ofInt (pl : Int))]) [] (p_S S0 pl cs sk cl (Int32.ofInt 0) nc sg ov bh op na) R _
      refine h_wr (by decide) (by decide) (by rw [w_nat (by omega)]; omega) (by rw [w_nat (by omega)]; omega) (fun b61 hb61 => ?_)
      refine w_st rfl (fun _ => rfl) ?_
      show w_T L xs (d + 7) m_X12_clause 65 [(2, .int (p_h S0 pl)), (0, .ref 100), (1, .int (Int32.ofInt 1))] [.ref 100] (p_S S0 pl cs sk cl b61 nc sg ov bh op na) R Q
      refine w_cv rfl (by decide) mt_X12_isGood v_tyM rfl rfl rfl (Nat.le_of_ble_eq_true rfl) (Nat.le_of_ble_eq_true rfl) (Nat.le_of_ble_eq_true rfl) ?_
      show w_T L xs _ m_X12_isGood 0 (lv_args 0 [.ref 100]) [] (p_S S0 pl cs sk cl b61 nc sg ov bh op na) R _
      refine h_isGF hb61 ?_
      show w_T L xs (d + 7) m_X12_clause 68 [(2, .int (p_h S0 pl)), (0, .ref 100), (1, .int (Int32.ofInt 1))] [.int (Int32.ofInt 0)] (p_S S0 pl cs sk cl b61 nc sg ov bh op na) R Q
      refine w_st rfl (fun _ => rfl) ?_
      show w_T L xs (d + 7) m_X12_clause 71 [(2, .int (p_h S0 pl)), (0, .ref 100), (1, .int (Int32.ofInt 1))] [] (p_S S0 pl cs sk cl b61 nc sg ov bh op na) R Q
      refine w_ret rfl rfl ?_
      exact Kb _ _ _ _ _ _ _ _ _ _ _ _ (p_F_rf _) hT hb61 (by omega) (by omega) (by omega) (by omega)
  · refine w_st rfl (fun _ => rfl) ?_
    refine w_st rfl (fun _ => rfl) ?_
    refine w_st rfl (fun _ => rfl) ?_
    refine w_st rfl (fun _ => rfl) ?_
    show w_T L xs (d + 7) m_X12_clause 28 [(2, .int (p_h S0 pl)), (0, .ref 100), (1, .int (Int32.ofInt 1))] [.ref 100, .int (Int32.ofInt 1), .ref 100] (p_S S0 pl cs sk cl (Int32.ofInt 0) nc sg ov bh op na) R Q
    refine w_get rfl v_tyM rfl ?_
    show w_T L xs (d + 7) m_X12_clause 31 [(2, .int (p_h S0 pl)), (0, .ref 100), (1, .int (Int32.ofInt 1))] [.int (Int32.ofInt (pl : Int)), .int (Int32.ofInt 1), .ref 100] (p_S S0 pl cs sk cl (Int32.ofInt 0) nc sg ov bh op na) R Q
    refine w_cv rfl (by decide) mt_X12_wrongs v_tyM rfl rfl rfl (Nat.le_of_ble_eq_true rfl) (Nat.le_of_ble_eq_true rfl) (Nat.le_of_ble_eq_true rfl) ?_
    show w_T L xs _ m_X12_wrongs 0 (lv_args 0 [.ref 100, .int (Int32.ofInt 1), .int (Int32.ofInt (pl : Int))]) [] (p_S S0 pl cs sk cl (Int32.ofInt 0) nc sg ov bh op na) R _
    refine h_wr (by decide) (by decide) (by rw [w_nat (by omega)]; omega) (by rw [w_nat (by omega)]; omega) (fun b31 hb31 => ?_)
    refine w_st rfl (fun _ => rfl) ?_
    refine w_st rfl (fun _ => rfl) ?_
    show w_T L xs (d + 7) m_X12_clause 65 [(2, .int (p_h S0 pl)), (0, .ref 100), (1, .int (Int32.ofInt 1))] [.ref 100] (p_S S0 pl cs sk cl b31 nc sg ov bh op na) R Q
    refine w_cv rfl (by decide) mt_X12_isGood v_tyM rfl rfl rfl (Nat.le_of_ble_eq_true rfl) (Nat.le_of_ble_eq_true rfl) (Nat.le_of_ble_eq_true rfl) ?_
    show w_T L xs _ m_X12_isGood 0 (lv_args 0 [.ref 100]) [] (p_S S0 pl cs sk cl b31 nc sg ov bh op na) R _
    refine h_isGF hb31 ?_
    show w_T L xs (d + 7) m_X12_clause 68 [(2, .int (p_h S0 pl)), (0, .ref 100), (1, .int (Int32.ofInt 1))] [.int (Int32.ofInt 0)] (p_S S0 pl cs sk cl b31 nc sg ov bh op na) R Q
    refine w_st rfl (fun _ => rfl) ?_
    show w_T L xs (d + 7) m_X12_clause 71 [(2, .int (p_h S0 pl)), (0, .ref 100), (1, .int (Int32.ofInt 1))] [] (p_S S0 pl cs sk cl b31 nc sg ov bh op na) R Q
    refine w_ret rfl rfl ?_
    exact Kb _ _ _ _ _ _ _ _ _ _ _ _ (p_F_rf _) hT hb31 (by omega) (by omega) (by omega) (by omega)
end PK
end Prt39h
