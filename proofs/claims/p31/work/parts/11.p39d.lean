section Prt39d
/-! the reader of law and rules: what its calls do, over a shadow of the places that change -/
noncomputable abbrev m_X12_here : g_M := (g_cn 12, yX12_here, cX12_here, 1, (some .int), g_look2 ttX12_here)
set_option maxRecDepth 20000 in
theorem mt_X12_here : g_mt 167 = some m_X12_here := rfl
noncomputable abbrev m_X12_wrongs : g_M := (g_cn 12, yX12_wrongs, cX12_wrongs, 3, none, g_look2 ttX12_wrongs)
set_option maxRecDepth 20000 in
theorem mt_X12_wrongs : g_mt 168 = some m_X12_wrongs := rfl
noncomputable abbrev m_X12_isGood : g_M := (g_cn 12, yX12_isGood, cX12_isGood, 1, (some .boolean), g_look2 ttX12_isGood)
set_option maxRecDepth 20000 in
theorem mt_X12_isGood : g_mt 169 = some m_X12_isGood := rfl
noncomputable abbrev m_X12_seesDigit : g_M := (g_cn 12, yX12_seesDigit, cX12_seesDigit, 1, (some .boolean), g_look2 ttX12_seesDigit)
set_option maxRecDepth 20000 in
theorem mt_X12_seesDigit : g_mt 170 = some m_X12_seesDigit := rfl
noncomputable abbrev m_X12_begins : g_M := (g_cn 12, yX12_begins, cX12_begins, 2, none, g_look2 ttX12_begins)
set_option maxRecDepth 20000 in
theorem mt_X12_begins : g_mt 171 = some m_X12_begins := rfl
noncomputable abbrev m_X12_emit : g_M := (g_cn 12, yX12_emit, cX12_emit, 3, none, g_look2 ttX12_emit)
set_option maxRecDepth 20000 in
theorem mt_X12_emit : g_mt 172 = some m_X12_emit := rfl
noncomputable abbrev m_X12_top : g_M := (g_cn 12, yX12_top, cX12_top, 1, (some .int), g_look2 ttX12_top)
set_option maxRecDepth 20000 in
theorem mt_X12_top : g_mt 173 = some m_X12_top := rfl
noncomputable abbrev m_X12_puts : g_M := (g_cn 12, yX12_puts, cX12_puts, 2, none, g_look2 ttX12_puts)
set_option maxRecDepth 20000 in
theorem mt_X12_puts : g_mt 174 = some m_X12_puts := rfl
noncomputable abbrev m_X12_opens : g_M := (g_cn 12, yX12_opens, cX12_opens, 1, none, g_look2 ttX12_opens)
set_option maxRecDepth 20000 in
theorem mt_X12_opens : g_mt 175 = some m_X12_opens := rfl
noncomputable abbrev m_X12_reads : g_M := (g_cn 12, yX12_reads, cX12_reads, 3, (some .int), g_look2 ttX12_reads)
set_option maxRecDepth 20000 in
theorem mt_X12_reads : g_mt 176 = some m_X12_reads := rfl
noncomputable abbrev m_X12_isTimes : g_M := (g_cn 12, yX12_isTimes, cX12_isTimes, 1, (some .boolean), g_look2 ttX12_isTimes)
set_option maxRecDepth 20000 in
theorem mt_X12_isTimes : g_mt 177 = some m_X12_isTimes := rfl
noncomputable abbrev m_X12_isPlus : g_M := (g_cn 12, yX12_isPlus, cX12_isPlus, 1, (some .boolean), g_look2 ttX12_isPlus)
set_option maxRecDepth 20000 in
theorem mt_X12_isPlus : g_mt 178 = some m_X12_isPlus := rfl
noncomputable abbrev m_X12_isCompared : g_M := (g_cn 12, yX12_isCompared, cX12_isCompared, 1, (some .boolean), g_look2 ttX12_isCompared)
set_option maxRecDepth 20000 in
theorem mt_X12_isCompared : g_mt 179 = some m_X12_isCompared := rfl
noncomputable abbrev m_X12_isValue : g_M := (g_cn 12, yX12_isValue, cX12_isValue, 1, (some .boolean), g_look2 ttX12_isValue)
set_option maxRecDepth 20000 in
theorem mt_X12_isValue : g_mt 180 = some m_X12_isValue := rfl
noncomputable abbrev m_X12_isClause : g_M := (g_cn 12, yX12_isClause, cX12_isClause, 1, (some .boolean), g_look2 ttX12_isClause)
set_option maxRecDepth 20000 in
theorem mt_X12_isClause : g_mt 190 = some m_X12_isClause := rfl
noncomputable abbrev m_X12_sums : g_M := (g_cn 12, yX12_sums, cX12_sums, 2, none, g_look2 ttX12_sums)
set_option maxRecDepth 20000 in
theorem mt_X12_sums : g_mt 181 = some m_X12_sums := rfl
noncomputable abbrev m_X12_joins : g_M := (g_cn 12, yX12_joins, cX12_joins, 2, none, g_look2 ttX12_joins)
set_option maxRecDepth 20000 in
theorem mt_X12_joins : g_mt 182 = some m_X12_joins := rfl
noncomputable abbrev m_X12_ends : g_M := (g_cn 12, yX12_ends, cX12_ends, 1, none, g_look2 ttX12_ends)
set_option maxRecDepth 20000 in
theorem mt_X12_ends : g_mt 183 = some m_X12_ends := rfl
noncomputable abbrev m_X12_factor : g_M := (g_cn 12, yX12_factor, cX12_factor, 1, none, g_look2 ttX12_factor)
set_option maxRecDepth 20000 in
theorem mt_X12_factor : g_mt 184 = some m_X12_factor := rfl
noncomputable abbrev m_X12_stays : g_M := (g_cn 12, yX12_stays, cX12_stays, 2, (some .boolean), g_look2 ttX12_stays)
set_option maxRecDepth 20000 in
theorem mt_X12_stays : g_mt 185 = some m_X12_stays := rfl
noncomputable abbrev m_X12_value : g_M := (g_cn 12, yX12_value, cX12_value, 2, none, g_look2 ttX12_value)
set_option maxRecDepth 20000 in
theorem mt_X12_value : g_mt 186 = some m_X12_value := rfl
noncomputable abbrev m_X12_pieceOfC : g_M := (g_cn 12, yX12_pieceOfC, cX12_pieceOfC, 2, none, g_look2 ttX12_pieceOfC)
set_option maxRecDepth 20000 in
theorem mt_X12_pieceOfC : g_mt 187 = some m_X12_pieceOfC := rfl
noncomputable abbrev m_X12_goesBehind : g_M := (g_cn 12, yX12_goesBehind, cX12_goesBehind, 2, (some .boolean), g_look2 ttX12_goesBehind)
set_option maxRecDepth 20000 in
theorem mt_X12_goesBehind : g_mt 188 = some m_X12_goesBehind := rfl
noncomputable abbrev m_X12_condition : g_M := (g_cn 12, yX12_condition, cX12_condition, 2, none, g_look2 ttX12_condition)
set_option maxRecDepth 20000 in
theorem mt_X12_condition : g_mt 189 = some m_X12_condition := rfl
noncomputable abbrev m_X12_clause : g_M := (g_cn 12, yX12_clause, cX12_clause, 3, none, g_look2 ttX12_clause)
set_option maxRecDepth 20000 in
theorem mt_X12_clause : g_mt 191 = some m_X12_clause := rfl
noncomputable abbrev m_X12_takesText : g_M := (g_cn 12, yX12_takesText, cX12_takesText, 7, (some .int), g_look2 ttX12_takesText)
set_option maxRecDepth 20000 in
theorem mt_X12_takesText : g_mt 192 = some m_X12_takesText := rfl
noncomputable abbrev m_X12_law : g_M := (g_cn 12, yX12_law, cX12_law, 3, (some .int), g_look2 ttX12_law)
set_option maxRecDepth 20000 in
theorem mt_X12_law : g_mt 193 = some m_X12_law := rfl
noncomputable abbrev m_X12_rules : g_M := (g_cn 12, yX12_rules, cX12_rules, 3, (some .int), g_look2 ttX12_rules)
set_option maxRecDepth 20000 in
theorem mt_X12_rules : g_mt 194 = some m_X12_rules := rfl
noncomputable def p_b (b : Bool) : Int32 := bif b then Int32.ofInt 1 else Int32.ofInt 0
noncomputable def p_S (S0 : v_Sf) (pl cs sk cl : Nat) (bd : Int32) (nc sg : Nat → Int32) (ov bh : Bool) (op : Int32) (na : Nat → Int32) : v_Sf := fun a j =>
  bif Nat.beq a 99 then (bif Nat.beq j 3 then Int32.ofInt (pl : Int) else bif Nat.beq j 7 then Int32.ofInt (cs : Int) else bif Nat.beq j 9 then Int32.ofInt (sk : Int) else bif Nat.beq j 6 then Int32.ofInt (cl : Int) else bif Nat.beq j 5 then bd else bif Nat.beq j 24 then p_b ov else bif Nat.beq j 25 then p_b bh else bif Nat.beq j 8 then op else S0 99 j) else bif Nat.beq a 111 && Nat.blt j 240 then nc j else bif Nat.beq a 113 && Nat.blt j 240 then sg j else bif Nat.beq a 112 && Nat.blt j 240 then na j else S0 a j
theorem p_bq {a b : Nat} (h : ¬ a = b) : Nat.beq a b = false := by
  cases e : Nat.beq a b with
  | false => rfl
  | true => exact absurd (Nat.eq_of_beq_eq_true e) h
theorem p_ext {S : v_Sf} {a j : Nat} {v : Int32} {S1 : v_Sf} (h1 : S1 a j = v) (h2 : ∀ a' j', ¬ (a' = a ∧ j' = j) → S1 a' j' = S a' j') : v_ur S a (upd (S a) j v) = S1 := by
  funext a' j'
  by_cases h : a' = a ∧ j' = j
  · rw [h.1, h.2, w_urs, h1]
  · rw [w_urn h, h2 a' j' h]
section PW
variable {S0 : v_Sf} {pl cs sk cl : Nat} {bd : Int32} {nc sg : Nat → Int32} {ov bh : Bool} {op : Int32} {na : Nat → Int32}
theorem p_wpl {v : Int32} {k : Nat} (hv : v = Int32.ofInt (k : Int)) : v_ur (p_S S0 pl cs sk cl bd nc sg ov bh op na) 99 (upd ((p_S S0 pl cs sk cl bd nc sg ov bh op na) 99) 3 v) = p_S S0 k cs sk cl bd nc sg ov bh op na := by
  refine p_ext hv.symm (fun a' j' h => ?_)
  unfold p_S
  by_cases ha : a' = 99
  · have hj : ¬ j' = 3 := fun e => h ⟨ha, e⟩
    rw [ha, p_bq hj]
    rfl
  · rw [p_bq ha]
    rfl
theorem p_wcs {v : Int32} {k : Nat} (hv : v = Int32.ofInt (k : Int)) : v_ur (p_S S0 pl cs sk cl bd nc sg ov bh op na) 99 (upd ((p_S S0 pl cs sk cl bd nc sg ov bh op na) 99) 7 v) = p_S S0 pl k sk cl bd nc sg ov bh op na := by
  refine p_ext hv.symm (fun a' j' h => ?_)
  unfold p_S
  by_cases ha : a' = 99
  · have hj : ¬ j' = 7 := fun e => h ⟨ha, e⟩
    rw [ha, p_bq hj]
    rfl
  · rw [p_bq ha]
    rfl
theorem p_wsk {v : Int32} {k : Nat} (hv : v = Int32.ofInt (k : Int)) : v_ur (p_S S0 pl cs sk cl bd nc sg ov bh op na) 99 (upd ((p_S S0 pl cs sk cl bd nc sg ov bh op na) 99) 9 v) = p_S S0 pl cs k cl bd nc sg ov bh op na := by
  refine p_ext hv.symm (fun a' j' h => ?_)
  unfold p_S
  by_cases ha : a' = 99
  · have hj : ¬ j' = 9 := fun e => h ⟨ha, e⟩
    rw [ha, p_bq hj]
    rfl
  · rw [p_bq ha]
    rfl
theorem p_wcl {v : Int32} {k : Nat} (hv : v = Int32.ofInt (k : Int)) : v_ur (p_S S0 pl cs sk cl bd nc sg ov bh op na) 99 (upd ((p_S S0 pl cs sk cl bd nc sg ov bh op na) 99) 6 v) = p_S S0 pl cs sk k bd nc sg ov bh op na := by
  refine p_ext hv.symm (fun a' j' h => ?_)
  unfold p_S
  by_cases ha : a' = 99
  · have hj : ¬ j' = 6 := fun e => h ⟨ha, e⟩
    rw [ha, p_bq hj]
    rfl
  · rw [p_bq ha]
    rfl
theorem p_wbd {v : Int32} : v_ur (p_S S0 pl cs sk cl bd nc sg ov bh op na) 99 (upd ((p_S S0 pl cs sk cl bd nc sg ov bh op na) 99) 5 v) = p_S S0 pl cs sk cl v nc sg ov bh op na := by
  refine p_ext rfl (fun a' j' h => ?_)
  unfold p_S
  by_cases ha : a' = 99
  · have hj : ¬ j' = 5 := fun e => h ⟨ha, e⟩
    rw [ha, p_bq hj]
    rfl
  · rw [p_bq ha]
    rfl
theorem p_wop {v : Int32} : v_ur (p_S S0 pl cs sk cl bd nc sg ov bh op na) 99 (upd ((p_S S0 pl cs sk cl bd nc sg ov bh op na) 99) 8 v) = p_S S0 pl cs sk cl bd nc sg ov bh v na := by
  refine p_ext rfl (fun a' j' h => ?_)
  unfold p_S
  by_cases ha : a' = 99
  · have hj : ¬ j' = 8 := fun e => h ⟨ha, e⟩
    rw [ha, p_bq hj]
    rfl
  · rw [p_bq ha]
    rfl
theorem p_wov {v : Int32} {b : Bool} (hv : v = p_b b) : v_ur (p_S S0 pl cs sk cl bd nc sg ov bh op na) 99 (upd ((p_S S0 pl cs sk cl bd nc sg ov bh op na) 99) 24 v) = p_S S0 pl cs sk cl bd nc sg b bh op na := by
  refine p_ext hv.symm (fun a' j' h => ?_)
  unfold p_S
  by_cases ha : a' = 99
  · have hj : ¬ j' = 24 := fun e => h ⟨ha, e⟩
    rw [ha, p_bq hj]
    rfl
  · rw [p_bq ha]
    rfl
theorem p_wbh {v : Int32} {b : Bool} (hv : v = p_b b) : v_ur (p_S S0 pl cs sk cl bd nc sg ov bh op na) 99 (upd ((p_S S0 pl cs sk cl bd nc sg ov bh op na) 99) 25 v) = p_S S0 pl cs sk cl bd nc sg ov b op na := by
  refine p_ext hv.symm (fun a' j' h => ?_)
  unfold p_S
  by_cases ha : a' = 99
  · have hj : ¬ j' = 25 := fun e => h ⟨ha, e⟩
    rw [ha, p_bq hj]
    rfl
  · rw [p_bq ha]
    rfl
theorem p_blt {j n : Nat} (h : j < n) : Nat.blt j n = true := Nat.ble_eq.mpr h
theorem p_blf {j n : Nat} (h : ¬ j < n) : Nat.blt j n = false := by
  cases e : Nat.blt j n with
  | false => rfl
  | true => exact absurd (Nat.le_of_ble_eq_true e) h
theorem p_rnc {k : Nat} (hk : k < 240) : (p_S S0 pl cs sk cl bd nc sg ov bh op na) 111 k = nc k := by
  unfold p_S
  rw [p_blt hk]
  rfl
theorem p_wnc {i k : Nat} {v : Int32} (hi : i = k) (hk : k < 240) : v_ur (p_S S0 pl cs sk cl bd nc sg ov bh op na) 111 (upd ((p_S S0 pl cs sk cl bd nc sg ov bh op na) 111) i v) = p_S S0 pl cs sk cl bd (upd nc k v) sg ov bh op na := by
  subst hi
  refine p_ext ?_ (fun a' j' h => ?_)
  · unfold p_S
    rw [p_blt hk]
    show upd nc i v i = v
    simp [upd]
  · unfold p_S
    by_cases ha : a' = 111
    · have hj : ¬ j' = i := fun e => h ⟨ha, e⟩
      have e : upd nc i v j' = nc j' := by simp [upd, hj]
      rw [e]
    · rw [p_bq ha]
      rfl
theorem p_rsg {k : Nat} (hk : k < 240) : (p_S S0 pl cs sk cl bd nc sg ov bh op na) 113 k = sg k := by
  unfold p_S
  rw [p_blt hk]
  rfl
theorem p_wsg {i k : Nat} {v : Int32} (hi : i = k) (hk : k < 240) : v_ur (p_S S0 pl cs sk cl bd nc sg ov bh op na) 113 (upd ((p_S S0 pl cs sk cl bd nc sg ov bh op na) 113) i v) = p_S S0 pl cs sk cl bd nc (upd sg k v) ov bh op na := by
  subst hi
  refine p_ext ?_ (fun a' j' h => ?_)
  · unfold p_S
    rw [p_blt hk]
    show upd sg i v i = v
    simp [upd]
  · unfold p_S
    by_cases ha : a' = 113
    · have hj : ¬ j' = i := fun e => h ⟨ha, e⟩
      have e : upd sg i v j' = sg j' := by simp [upd, hj]
      rw [e]
    · rw [p_bq ha]
      rfl
theorem p_rna {k : Nat} (hk : k < 240) : (p_S S0 pl cs sk cl bd nc sg ov bh op na) 112 k = na k := by
  unfold p_S
  rw [p_blt hk]
  rfl
theorem p_wna {i k : Nat} {v : Int32} (hi : i = k) (hk : k < 240) : v_ur (p_S S0 pl cs sk cl bd nc sg ov bh op na) 112 (upd ((p_S S0 pl cs sk cl bd nc sg ov bh op na) 112) i v) = p_S S0 pl cs sk cl bd nc sg ov bh op (upd na k v) := by
  subst hi
  refine p_ext ?_ (fun a' j' h => ?_)
  · unfold p_S
    rw [p_blt hk]
    show upd na i v i = v
    simp [upd]
  · unfold p_S
    by_cases ha : a' = 112
    · have hj : ¬ j' = i := fun e => h ⟨ha, e⟩
      have e : upd na i v j' = na j' := by simp [upd, hj]
      rw [e]
    · rw [p_bq ha]
      rfl
theorem p_wo99 {y : Nat} {v : Int32} (hy : y ≠ 3 ∧ y ≠ 7 ∧ y ≠ 9 ∧ y ≠ 6 ∧ y ≠ 5 ∧ y ≠ 24 ∧ y ≠ 25 ∧ y ≠ 8) : v_ur (p_S S0 pl cs sk cl bd nc sg ov bh op na) 99 (upd ((p_S S0 pl cs sk cl bd nc sg ov bh op na) 99) y v) = p_S (v_ur S0 99 (upd (S0 99) y v)) pl cs sk cl bd nc sg ov bh op na := by
  obtain ⟨y1, y2, y3, y8, y4, y5, y6, y7⟩ := hy
  refine p_ext ?_ (fun a' j' h => ?_)
  · unfold p_S
    rw [p_bq y1, p_bq y2, p_bq y3, p_bq y8, p_bq y4, p_bq y5, p_bq y6, p_bq y7]
    show v_ur S0 99 (upd (S0 99) y v) 99 y = v
    exact w_urs
  · unfold p_S
    by_cases ha : a' = 99
    · have hj : ¬ (99 = 99 ∧ j' = y) := fun e => h ⟨ha, e.2⟩
      rw [w_urn hj]
      by_cases h11 : a' = 111
      · omega
      · by_cases h13 : a' = 113
        · omega
        · by_cases h12 : a' = 112
          · omega
          · rw [w_urn h]
    · rw [w_urn h, p_bq ha]
      rfl
theorem p_wor {a i k : Nat} {v : Int32} (ha : a ≠ 99 ∧ a ≠ 111 ∧ a ≠ 113 ∧ a ≠ 112) (hi : i = k) : v_ur (p_S S0 pl cs sk cl bd nc sg ov bh op na) a (upd ((p_S S0 pl cs sk cl bd nc sg ov bh op na) a) i v) = p_S (v_ur S0 a (upd (S0 a) k v)) pl cs sk cl bd nc sg ov bh op na := by
  subst hi
  obtain ⟨a1, a2, a3, a4⟩ := ha
  refine p_ext ?_ (fun a' j' h => ?_)
  · unfold p_S
    rw [p_bq a1, p_bq a2, p_bq a3, p_bq a4]
    show v_ur S0 a (upd (S0 a) i v) a i = v
    exact w_urs
  · unfold p_S
    rw [w_urn h, w_urn (fun e => a1 e.1.symm)]
theorem w_add0 (k : Nat) : Int32.ofInt (k : Int) + Int32.ofInt 0 = Int32.ofInt (k : Int) := by rw [← Int32.ofInt_add]; rfl
theorem w_natn {k : Nat} (h : k < 2000000000) : (Int32.ofInt (k : Int)).toInt.toNat = k := by rw [w_nat h]; omega
theorem w_eqS {L : Nat} {xs : Nat → Int32} {d : Nat} {M : g_M} {pc : Nat} {lc : g_Lc} {sc : List Value} {S S1 : v_Sf} {R : v_Rf} {Q : Option Value → v_Sf → v_Rf → Prop} (h : S = S1) (k : w_T L xs d M pc lc sc S1 R Q) : w_T L xs d M pc lc sc S R Q := by
  rw [h]
  exact k
end PW
noncomputable def p_h (S0 : v_Sf) (pl : Nat) : Int32 := if (pl : Int) < (S0 99 4).toInt then S0 100 pl &&& Int32.ofInt 255 else Int32.ofInt 0
noncomputable def p_tp (sg : Nat → Int32) (sk : Nat) : Int32 := if 0 < sk then sg (sk - 1) else Int32.ofInt 0
noncomputable def p_ti (c : Int32) : Prop := c = Int32.ofInt 42 ∨ c = Int32.ofInt 47 ∨ c = Int32.ofInt 37
noncomputable def p_pl (c : Int32) : Prop := c = Int32.ofInt 43 ∨ c = Int32.ofInt 45
noncomputable def p_cm (c : Int32) : Prop := c = Int32.ofInt 60 ∨ c = Int32.ofInt 62 ∨ c = Int32.ofInt 61
noncomputable def p_vs (c : Int32) : Prop := p_ti c ∨ p_pl c ∨ c = Int32.ofInt 91
noncomputable def p_jo (c : Int32) : Prop := c = Int32.ofInt 38 ∨ c = Int32.ofInt 124
noncomputable def p_cc (c : Int32) : Prop := p_jo c ∨ c = Int32.ofInt 40 ∨ c = Int32.ofInt 33
noncomputable def p_bi (c : Int32) : Bool := [42, 47, 37, 43, 45, 60, 62, 61, 38, 124].any (fun k => c == Int32.ofInt k)
theorem p_h_lt {S0 : v_Sf} {pl : Nat} (h : ¬ p_h S0 pl = Int32.ofInt 0) : (pl : Int) < (S0 99 4).toInt := by
  unfold p_h at h
  split at h
  · assumption
  · exact absurd rfl h
section PH
variable {L : Nat} {xs : Nat → Int32} {d : Nat} {R : v_Rf} {Q : Option Value → v_Sf → v_Rf → Prop} {S0 : v_Sf} {pl cs sk cl : Nat} {bd : Int32} {nc sg : Nat → Int32} {ov bh : Bool} {op : Int32} {na : Nat → Int32}
theorem h_isTimes {S : v_Sf} (c : Int32) (k1 : p_ti c → Q (some (.int (Int32.ofInt 1))) S R) (k0 : ¬ p_ti c → Q (some (.int (Int32.ofInt 0))) S R) : w_T L xs d m_X12_isTimes 0 (lv_args 0 [.int c]) [] S R Q := by
  refine w_st rfl (fun _ => rfl) ?_
  refine w_st rfl (fun _ => rfl) ?_
  show w_T L xs d m_X12_isTimes 3 [(0, .int c)] [.int (Int32.ofInt 42), .int c] S R Q
  refine w_br (P := c = (Int32.ofInt 42)) rfl (fun _ => rfl) (fun h3 => ?_) (fun h3 => ?_)
  · have hh : p_ti c := Or.inl h3
    refine w_st rfl (fun _ => rfl) ?_
    refine w_st rfl (fun _ => rfl) ?_
    show w_T L xs d m_X12_isTimes 23 [(0, .int c)] [.int (Int32.ofInt 1)] S R Q
    refine w_ret rfl (by rfl) ?_
    exact k1 hh
  · refine w_st rfl (fun _ => rfl) ?_
    refine w_st rfl (fun _ => rfl) ?_
    show w_T L xs d m_X12_isTimes 9 [(0, .int c)] [.int (Int32.ofInt 47), .int c] S R Q
    refine w_br (P := c = (Int32.ofInt 47)) rfl (fun _ => rfl) (fun h9 => ?_) (fun h9 => ?_)
    · have hh : p_ti c := Or.inr (Or.inl h9)
      refine w_st rfl (fun _ => rfl) ?_
      refine w_st rfl (fun _ => rfl) ?_
      show w_T L xs d m_X12_isTimes 23 [(0, .int c)] [.int (Int32.ofInt 1)] S R Q
      refine w_ret rfl (by rfl) ?_
      exact k1 hh
    · refine w_st rfl (fun _ => rfl) ?_
      refine w_st rfl (fun _ => rfl) ?_
      show w_T L xs d m_X12_isTimes 15 [(0, .int c)] [.int (Int32.ofInt 37), .int c] S R Q
      refine w_br (P := ¬ c = (Int32.ofInt 37)) rfl (fun _ => rfl) (fun h15 => ?_) (fun h15 => ?_)
      · refine w_st rfl (fun _ => rfl) ?_
        show w_T L xs d m_X12_isTimes 23 [(0, .int c)] [.int (Int32.ofInt 0)] S R Q
        refine w_ret rfl (by rfl) ?_
        exact k0 (fun hh => by rcases hh with hh | hh | hh <;> contradiction)
      · have hh : p_ti c := Or.inr (Or.inr (Decidable.of_not_not h15))
        refine w_st rfl (fun _ => rfl) ?_
        refine w_st rfl (fun _ => rfl) ?_
        show w_T L xs d m_X12_isTimes 23 [(0, .int c)] [.int (Int32.ofInt 1)] S R Q
        refine w_ret rfl (by rfl) ?_
        exact k1 hh
theorem h_isPlus {S : v_Sf} (c : Int32) (k1 : p_pl c → Q (some (.int (Int32.ofInt 1))) S R) (k0 : ¬ p_pl c → Q (some (.int (Int32.ofInt 0))) S R) : w_T L xs d m_X12_isPlus 0 (lv_args 0 [.int c]) [] S R Q := by
  refine w_st rfl (fun _ => rfl) ?_
  refine w_st rfl (fun _ => rfl) ?_
  show w_T L xs d m_X12_isPlus 3 [(0, .int c)] [.int (Int32.ofInt 43), .int c] S R Q
  refine w_br (P := c = (Int32.ofInt 43)) rfl (fun _ => rfl) (fun h3 => ?_) (fun h3 => ?_)
  · have hh : p_pl c := Or.inl h3
    refine w_st rfl (fun _ => rfl) ?_
    refine w_st rfl (fun _ => rfl) ?_
    show w_T L xs d m_X12_isPlus 17 [(0, .int c)] [.int (Int32.ofInt 1)] S R Q
    refine w_ret rfl (by rfl) ?_
    exact k1 hh
  · refine w_st rfl (fun _ => rfl) ?_
    refine w_st rfl (fun _ => rfl) ?_
    show w_T L xs d m_X12_isPlus 9 [(0, .int c)] [.int (Int32.ofInt 45), .int c] S R Q
    refine w_br (P := ¬ c = (Int32.ofInt 45)) rfl (fun _ => rfl) (fun h9 => ?_) (fun h9 => ?_)
    · refine w_st rfl (fun _ => rfl) ?_
      show w_T L xs d m_X12_isPlus 17 [(0, .int c)] [.int (Int32.ofInt 0)] S R Q
      refine w_ret rfl (by rfl) ?_
      exact k0 (fun hh => by rcases hh with hh | hh <;> contradiction)
    · have hh : p_pl c := Or.inr (Decidable.of_not_not h9)
      refine w_st rfl (fun _ => rfl) ?_
      refine w_st rfl (fun _ => rfl) ?_
      show w_T L xs d m_X12_isPlus 17 [(0, .int c)] [.int (Int32.ofInt 1)] S R Q
      refine w_ret rfl (by rfl) ?_
      exact k1 hh
theorem h_isCompared {S : v_Sf} (c : Int32) (k1 : p_cm c → Q (some (.int (Int32.ofInt 1))) S R) (k0 : ¬ p_cm c → Q (some (.int (Int32.ofInt 0))) S R) : w_T L xs d m_X12_isCompared 0 (lv_args 0 [.int c]) [] S R Q := by
  refine w_st rfl (fun _ => rfl) ?_
  refine w_st rfl (fun _ => rfl) ?_
  show w_T L xs d m_X12_isCompared 3 [(0, .int c)] [.int (Int32.ofInt 60), .int c] S R Q
  refine w_br (P := c = (Int32.ofInt 60)) rfl (fun _ => rfl) (fun h3 => ?_) (fun h3 => ?_)
  · have hh : p_cm c := Or.inl h3
    refine w_st rfl (fun _ => rfl) ?_
    refine w_st rfl (fun _ => rfl) ?_
    show w_T L xs d m_X12_isCompared 23 [(0, .int c)] [.int (Int32.ofInt 1)] S R Q
    refine w_ret rfl (by rfl) ?_
    exact k1 hh
  · refine w_st rfl (fun _ => rfl) ?_
    refine w_st rfl (fun _ => rfl) ?_
    show w_T L xs d m_X12_isCompared 9 [(0, .int c)] [.int (Int32.ofInt 62), .int c] S R Q
    refine w_br (P := c = (Int32.ofInt 62)) rfl (fun _ => rfl) (fun h9 => ?_) (fun h9 => ?_)
    · have hh : p_cm c := Or.inr (Or.inl h9)
      refine w_st rfl (fun _ => rfl) ?_
      refine w_st rfl (fun _ => rfl) ?_
      show w_T L xs d m_X12_isCompared 23 [(0, .int c)] [.int (Int32.ofInt 1)] S R Q
      refine w_ret rfl (by rfl) ?_
      exact k1 hh
    · refine w_st rfl (fun _ => rfl) ?_
      refine w_st rfl (fun _ => rfl) ?_
      show w_T L xs d m_X12_isCompared 15 [(0, .int c)] [.int (Int32.ofInt 61), .int c] S R Q
      refine w_br (P := ¬ c = (Int32.ofInt 61)) rfl (fun _ => rfl) (fun h15 => ?_) (fun h15 => ?_)
      · refine w_st rfl (fun _ => rfl) ?_
        show w_T L xs d m_X12_isCompared 23 [(0, .int c)] [.int (Int32.ofInt 0)] S R Q
        refine w_ret rfl (by rfl) ?_
        exact k0 (fun hh => by rcases hh with hh | hh | hh <;> contradiction)
      · have hh : p_cm c := Or.inr (Or.inr (Decidable.of_not_not h15))
        refine w_st rfl (fun _ => rfl) ?_
        refine w_st rfl (fun _ => rfl) ?_
        show w_T L xs d m_X12_isCompared 23 [(0, .int c)] [.int (Int32.ofInt 1)] S R Q
        refine w_ret rfl (by rfl) ?_
        exact k1 hh
theorem h_isValue {S : v_Sf} (c : Int32) (k1 : ¬ c = Int32.ofInt 0 → Q (some (.int (Int32.ofInt 1))) S R) (k0 : True → Q (some (.int (Int32.ofInt 0))) S R) : w_T L xs d m_X12_isValue 0 (lv_args 0 [.int c]) [] S R Q := by
  refine w_st rfl (fun _ => rfl) ?_
  refine w_st rfl (fun _ => rfl) ?_
  show w_T L xs d m_X12_isValue 3 [(0, .int c)] [.int (Int32.ofInt 115), .int c] S R Q
  refine w_br (P := c = (Int32.ofInt 115)) rfl (fun _ => rfl) (fun h3 => ?_) (fun h3 => ?_)
  · have hh : ¬ c = Int32.ofInt 0 := by rw [h3]; decide
    refine w_st rfl (fun _ => rfl) ?_
    refine w_st rfl (fun _ => rfl) ?_
    show w_T L xs d m_X12_isValue 95 [(0, .int c)] [.int (Int32.ofInt 1)] S R Q
    refine w_ret rfl (by rfl) ?_
    exact k1 hh
  · refine w_st rfl (fun _ => rfl) ?_
    refine w_st rfl (fun _ => rfl) ?_
    show w_T L xs d m_X12_isValue 9 [(0, .int c)] [.int (Int32.ofInt 113), .int c] S R Q
    refine w_br (P := c = (Int32.ofInt 113)) rfl (fun _ => rfl) (fun h9 => ?_) (fun h9 => ?_)
    · have hh : ¬ c = Int32.ofInt 0 := by rw [h9]; decide
      refine w_st rfl (fun _ => rfl) ?_
      refine w_st rfl (fun _ => rfl) ?_
      show w_T L xs d m_X12_isValue 95 [(0, .int c)] [.int (Int32.ofInt 1)] S R Q
      refine w_ret rfl (by rfl) ?_
      exact k1 hh
    · refine w_st rfl (fun _ => rfl) ?_
      refine w_st rfl (fun _ => rfl) ?_
      show w_T L xs d m_X12_isValue 15 [(0, .int c)] [.int (Int32.ofInt 116), .int c] S R Q
      refine w_br (P := c = (Int32.ofInt 116)) rfl (fun _ => rfl) (fun h15 => ?_) (fun h15 => ?_)
      · have hh : ¬ c = Int32.ofInt 0 := by rw [h15]; decide
        refine w_st rfl (fun _ => rfl) ?_
        refine w_st rfl (fun _ => rfl) ?_
        show w_T L xs d m_X12_isValue 95 [(0, .int c)] [.int (Int32.ofInt 1)] S R Q
        refine w_ret rfl (by rfl) ?_
        exact k1 hh
      · refine w_st rfl (fun _ => rfl) ?_
        refine w_st rfl (fun _ => rfl) ?_
        show w_T L xs d m_X12_isValue 21 [(0, .int c)] [.int (Int32.ofInt 104), .int c] S R Q
        refine w_br (P := c = (Int32.ofInt 104)) rfl (fun _ => rfl) (fun h21 => ?_) (fun h21 => ?_)
        · have hh : ¬ c = Int32.ofInt 0 := by rw [h21]; decide
          refine w_st rfl (fun _ => rfl) ?_
          refine w_st rfl (fun _ => rfl) ?_
          show w_T L xs d m_X12_isValue 95 [(0, .int c)] [.int (Int32.ofInt 1)] S R Q
          refine w_ret rfl (by rfl) ?_
          exact k1 hh
        · refine w_st rfl (fun _ => rfl) ?_
          refine w_st rfl (fun _ => rfl) ?_
          show w_T L xs d m_X12_isValue 27 [(0, .int c)] [.int (Int32.ofInt 100), .int c] S R Q
          refine w_br (P := c = (Int32.ofInt 100)) rfl (fun _ => rfl) (fun h27 => ?_) (fun h27 => ?_)
          · have hh : ¬ c = Int32.ofInt 0 := by rw [h27]; decide
            refine w_st rfl (fun _ => rfl) ?_
            refine w_st rfl (fun _ => rfl) ?_
            show w_T L xs d m_X12_isValue 95 [(0, .int c)] [.int (Int32.ofInt 1)] S R Q
            refine w_ret rfl (by rfl) ?_
            exact k1 hh
          · refine w_st rfl (fun _ => rfl) ?_
            refine w_st rfl (fun _ => rfl) ?_
            show w_T L xs d m_X12_isValue 33 [(0, .int c)] [.int (Int32.ofInt 119), .int c] S R Q
            refine w_br (P := c = (Int32.ofInt 119)) rfl (fun _ => rfl) (fun h33 => ?_) (fun h33 => ?_)
            · have hh : ¬ c = Int32.ofInt 0 := by rw [h33]; decide
              refine w_st rfl (fun _ => rfl) ?_
              refine w_st rfl (fun _ => rfl) ?_
              show w_T L xs d m_X12_isValue 95 [(0, .int c)] [.int (Int32.ofInt 1)] S R Q
              refine w_ret rfl (by rfl) ?_
              exact k1 hh
            · refine w_st rfl (fun _ => rfl) ?_
              refine w_st rfl (fun _ => rfl) ?_
              show w_T L xs d m_X12_isValue 39 [(0, .int c)] [.int (Int32.ofInt 111), .int c] S R Q
              refine w_br (P := c = (Int32.ofInt 111)) rfl (fun _ => rfl) (fun h39 => ?_) (fun h39 => ?_)
              · have hh : ¬ c = Int32.ofInt 0 := by rw [h39]; decide
                refine w_st rfl (fun _ => rfl) ?_
                refine w_st rfl (fun _ => rfl) ?_
                show w_T L xs d m_X12_isValue 95 [(0, .int c)] [.int (Int32.ofInt 1)] S R Q
                refine w_ret rfl (by rfl) ?_
                exact k1 hh
              · refine w_st rfl (fun _ => rfl) ?_
                refine w_st rfl (fun _ => rfl) ?_
                show w_T L xs d m_X12_isValue 45 [(0, .int c)] [.int (Int32.ofInt 112), .int c] S R Q
                refine w_br (P := c = (Int32.ofInt 112)) rfl (fun _ => rfl) (fun h45 => ?_) (fun h45 => ?_)
                · have hh : ¬ c = Int32.ofInt 0 := by rw [h45]; decide
                  refine w_st rfl (fun _ => rfl) ?_
                  refine w_st rfl (fun _ => rfl) ?_
                  show w_T L xs d m_X12_isValue 95 [(0, .int c)] [.int (Int32.ofInt 1)] S R Q
                  refine w_ret rfl (by rfl) ?_
                  exact k1 hh
                · refine w_st rfl (fun _ => rfl) ?_
                  refine w_st rfl (fun _ => rfl) ?_
                  show w_T L xs d m_X12_isValue 51 [(0, .int c)] [.int (Int32.ofInt 108), .int c] S R Q
                  refine w_br (P := c = (Int32.ofInt 108)) rfl (fun _ => rfl) (fun h51 => ?_) (fun h51 => ?_)
                  · have hh : ¬ c = Int32.ofInt 0 := by rw [h51]; decide
                    refine w_st rfl (fun _ => rfl) ?_
                    refine w_st rfl (fun _ => rfl) ?_
                    show w_T L xs d m_X12_isValue 95 [(0, .int c)] [.int (Int32.ofInt 1)] S R Q
                    refine w_ret rfl (by rfl) ?_
                    exact k1 hh
                  · refine w_st rfl (fun _ => rfl) ?_
                    refine w_st rfl (fun _ => rfl) ?_
                    show w_T L xs d m_X12_isValue 57 [(0, .int c)] [.int (Int32.ofInt 97), .int c] S R Q
                    refine w_br (P := c = (Int32.ofInt 97)) rfl (fun _ => rfl) (fun h57 => ?_) (fun h57 => ?_)
                    · have hh : ¬ c = Int32.ofInt 0 := by rw [h57]; decide
                      refine w_st rfl (fun _ => rfl) ?_
                      refine w_st rfl (fun _ => rfl) ?_
                      show w_T L xs d m_X12_isValue 95 [(0, .int c)] [.int (Int32.ofInt 1)] S R Q
                      refine w_ret rfl (by rfl) ?_
                      exact k1 hh
                    · refine w_st rfl (fun _ => rfl) ?_
                      refine w_st rfl (fun _ => rfl) ?_
                      show w_T L xs d m_X12_isValue 63 [(0, .int c)] [.int (Int32.ofInt 110), .int c] S R Q
                      refine w_br (P := c = (Int32.ofInt 110)) rfl (fun _ => rfl) (fun h63 => ?_) (fun h63 => ?_)
                      · have hh : ¬ c = Int32.ofInt 0 := by rw [h63]; decide
                        refine w_st rfl (fun _ => rfl) ?_
                        refine w_st rfl (fun _ => rfl) ?_
                        show w_T L xs d m_X12_isValue 95 [(0, .int c)] [.int (Int32.ofInt 1)] S R Q
                        refine w_ret rfl (by rfl) ?_
                        exact k1 hh
                      · refine w_st rfl (fun _ => rfl) ?_
                        refine w_st rfl (fun _ => rfl) ?_
                        show w_T L xs d m_X12_isValue 69 [(0, .int c)] [.int (Int32.ofInt 118), .int c] S R Q
                        refine w_br (P := c = (Int32.ofInt 118)) rfl (fun _ => rfl) (fun h69 => ?_) (fun h69 => ?_)
                        · have hh : ¬ c = Int32.ofInt 0 := by rw [h69]; decide
                          refine w_st rfl (fun _ => rfl) ?_
                          refine w_st rfl (fun _ => rfl) ?_
                          show w_T L xs d m_X12_isValue 95 [(0, .int c)] [.int (Int32.ofInt 1)] S R Q
                          refine w_ret rfl (by rfl) ?_
                          exact k1 hh
                        · refine w_st rfl (fun _ => rfl) ?_
                          refine w_st rfl (fun _ => rfl) ?_
                          show w_T L xs d m_X12_isValue 75 [(0, .int c)] [.int (Int32.ofInt 117), .int c] S R Q
                          refine w_br (P := c = (Int32.ofInt 117)) rfl (fun _ => rfl) (fun h75 => ?_) (fun h75 => ?_)
                          · have hh : ¬ c = Int32.ofInt 0 := by rw [h75]; decide
                            refine w_st rfl (fun _ => rfl) ?_
                            refine w_st rfl (fun _ => rfl) ?_
                            show w_T L xs d m_X12_isValue 95 [(0, .int c)] [.int (Int32.ofInt 1)] S R Q
                            refine w_ret rfl (by rfl) ?_
                            exact k1 hh
                          · refine w_st rfl (fun _ => rfl) ?_
                            refine w_st rfl (fun _ => rfl) ?_
                            show w_T L xs d m_X12_isValue 81 [(0, .int c)] [.int (Int32.ofInt 122), .int c] S R Q
                            refine w_br (P := c = (Int32.ofInt 122)) rfl (fun _ => rfl) (fun h81 => ?_) (fun h81 => ?_)
                            · have hh : ¬ c = Int32.ofInt 0 := by rw [h81]; decide
                              refine w_st rfl (fun _ => rfl) ?_
                              refine w_st rfl (fun _ => rfl) ?_
                              show w_T L xs d m_X12_isValue 95 [(0, .int c)] [.int (Int32.ofInt 1)] S R Q
                              refine w_ret rfl (by rfl) ?_
                              exact k1 hh
                            · refine w_st rfl (fun _ => rfl) ?_
                              refine w_st rfl (fun _ => rfl) ?_
                              show w_T L xs d m_X12_isValue 87 [(0, .int c)] [.int (Int32.ofInt 109), .int c] S R Q
                              refine w_br (P := ¬ c = (Int32.ofInt 109)) rfl (fun _ => rfl) (fun h87 => ?_) (fun h87 => ?_)
                              · refine w_st rfl (fun _ => rfl) ?_
                                show w_T L xs d m_X12_isValue 95 [(0, .int c)] [.int (Int32.ofInt 0)] S R Q
                                refine w_ret rfl (by rfl) ?_
                                exact k0 trivial
                              · have hh : ¬ c = Int32.ofInt 0 := by rw [(Decidable.of_not_not h87)]; decide
                                refine w_st rfl (fun _ => rfl) ?_
                                refine w_st rfl (fun _ => rfl) ?_
                                show w_T L xs d m_X12_isValue 95 [(0, .int c)] [.int (Int32.ofInt 1)] S R Q
                                refine w_ret rfl (by rfl) ?_
                                exact k1 hh
theorem h_isClause {S : v_Sf} (c : Int32) (k1 : ¬ c = Int32.ofInt 0 → Q (some (.int (Int32.ofInt 1))) S R) (k0 : True → Q (some (.int (Int32.ofInt 0))) S R) : w_T L xs d m_X12_isClause 0 (lv_args 0 [.int c]) [] S R Q := by
  refine w_st rfl (fun _ => rfl) ?_
  refine w_st rfl (fun _ => rfl) ?_
  show w_T L xs d m_X12_isClause 3 [(0, .int c)] [.int (Int32.ofInt 102), .int c] S R Q
  refine w_br (P := c = (Int32.ofInt 102)) rfl (fun _ => rfl) (fun h3 => ?_) (fun h3 => ?_)
  · have hh : ¬ c = Int32.ofInt 0 := by rw [h3]; decide
    refine w_st rfl (fun _ => rfl) ?_
    refine w_st rfl (fun _ => rfl) ?_
    show w_T L xs d m_X12_isClause 41 [(0, .int c)] [.int (Int32.ofInt 1)] S R Q
    refine w_ret rfl (by rfl) ?_
    exact k1 hh
  · refine w_st rfl (fun _ => rfl) ?_
    refine w_st rfl (fun _ => rfl) ?_
    show w_T L xs d m_X12_isClause 9 [(0, .int c)] [.int (Int32.ofInt 103), .int c] S R Q
    refine w_br (P := c = (Int32.ofInt 103)) rfl (fun _ => rfl) (fun h9 => ?_) (fun h9 => ?_)
    · have hh : ¬ c = Int32.ofInt 0 := by rw [h9]; decide
      refine w_st rfl (fun _ => rfl) ?_
      refine w_st rfl (fun _ => rfl) ?_
      show w_T L xs d m_X12_isClause 41 [(0, .int c)] [.int (Int32.ofInt 1)] S R Q
      refine w_ret rfl (by rfl) ?_
      exact k1 hh
    · refine w_st rfl (fun _ => rfl) ?_
      refine w_st rfl (fun _ => rfl) ?_
      show w_T L xs d m_X12_isClause 15 [(0, .int c)] [.int (Int32.ofInt 98), .int c] S R Q
      refine w_br (P := c = (Int32.ofInt 98)) rfl (fun _ => rfl) (fun h15 => ?_) (fun h15 => ?_)
      · have hh : ¬ c = Int32.ofInt 0 := by rw [h15]; decide
        refine w_st rfl (fun _ => rfl) ?_
        refine w_st rfl (fun _ => rfl) ?_
        show w_T L xs d m_X12_isClause 41 [(0, .int c)] [.int (Int32.ofInt 1)] S R Q
        refine w_ret rfl (by rfl) ?_
        exact k1 hh
      · refine w_st rfl (fun _ => rfl) ?_
        refine w_st rfl (fun _ => rfl) ?_
        show w_T L xs d m_X12_isClause 21 [(0, .int c)] [.int (Int32.ofInt 105), .int c] S R Q
        refine w_br (P := c = (Int32.ofInt 105)) rfl (fun _ => rfl) (fun h21 => ?_) (fun h21 => ?_)
        · have hh : ¬ c = Int32.ofInt 0 := by rw [h21]; decide
          refine w_st rfl (fun _ => rfl) ?_
          refine w_st rfl (fun _ => rfl) ?_
          show w_T L xs d m_X12_isClause 41 [(0, .int c)] [.int (Int32.ofInt 1)] S R Q
          refine w_ret rfl (by rfl) ?_
          exact k1 hh
        · refine w_st rfl (fun _ => rfl) ?_
          refine w_st rfl (fun _ => rfl) ?_
          show w_T L xs d m_X12_isClause 27 [(0, .int c)] [.int (Int32.ofInt 101), .int c] S R Q
          refine w_br (P := c = (Int32.ofInt 101)) rfl (fun _ => rfl) (fun h27 => ?_) (fun h27 => ?_)
          · have hh : ¬ c = Int32.ofInt 0 := by rw [h27]; decide
            refine w_st rfl (fun _ => rfl) ?_
            refine w_st rfl (fun _ => rfl) ?_
            show w_T L xs d m_X12_isClause 41 [(0, .int c)] [.int (Int32.ofInt 1)] S R Q
            refine w_ret rfl (by rfl) ?_
            exact k1 hh
          · refine w_st rfl (fun _ => rfl) ?_
            refine w_st rfl (fun _ => rfl) ?_
            show w_T L xs d m_X12_isClause 33 [(0, .int c)] [.int (Int32.ofInt 120), .int c] S R Q
            refine w_br (P := ¬ c = (Int32.ofInt 120)) rfl (fun _ => rfl) (fun h33 => ?_) (fun h33 => ?_)
            · refine w_st rfl (fun _ => rfl) ?_
              show w_T L xs d m_X12_isClause 41 [(0, .int c)] [.int (Int32.ofInt 0)] S R Q
              refine w_ret rfl (by rfl) ?_
              exact k0 trivial
            · have hh : ¬ c = Int32.ofInt 0 := by rw [(Decidable.of_not_not h33)]; decide
              refine w_st rfl (fun _ => rfl) ?_
              refine w_st rfl (fun _ => rfl) ?_
              show w_T L xs d m_X12_isClause 41 [(0, .int c)] [.int (Int32.ofInt 1)] S R Q
              refine w_ret rfl (by rfl) ?_
              exact k1 hh
theorem h_here (hpl : pl ≤ 240) (hq : Q (some (.int (p_h S0 pl))) (p_S S0 pl cs sk cl bd nc sg ov bh op na) R) : w_T L xs d m_X12_here 0 (lv_args 0 [.ref 100]) [] (p_S S0 pl cs sk cl bd nc sg ov bh op na) R Q := by
  have e := w_nat (k := pl) (by omega)
  refine w_st rfl (fun _ => rfl) ?_
  show w_T L xs d m_X12_here 1 [(0, .ref 100)] [.ref 100] (p_S S0 pl cs sk cl bd nc sg ov bh op na) R Q
  refine w_get rfl v_tyM rfl ?_
  refine w_st rfl (fun _ => rfl) ?_
  show w_T L xs d m_X12_here 5 [(0, .ref 100)] [.ref 100, .int (Int32.ofInt (pl : Int))] (p_S S0 pl cs sk cl bd nc sg ov bh op na) R Q
  refine w_get rfl v_tyM rfl ?_
  show w_T L xs d m_X12_here 8 [(0, .ref 100)] [.int (S0 99 4), .int (Int32.ofInt (pl : Int))] (p_S S0 pl cs sk cl bd nc sg ov bh op na) R Q
  refine w_br (P := (S0 99 4) ≤ (Int32.ofInt (pl : Int))) rfl (fun _ => rfl) (fun h8 => ?_) (fun h8 => ?_)
  · have hh : p_h S0 pl = Int32.ofInt 0 := if_neg (by rw [q_le32, e] at h8; omega)
    refine w_st rfl (fun _ => rfl) ?_
    show w_T L xs d m_X12_here 28 [(0, .ref 100)] [.int (Int32.ofInt 0)] (p_S S0 pl cs sk cl bd nc sg ov bh op na) R Q
    refine w_ret rfl (by rfl) ?_
    rw [hh] at hq; exact hq
  · have hh : p_h S0 pl = S0 100 pl &&& Int32.ofInt 255 := if_pos (by rw [q_le32, e] at h8; omega)
    refine w_st rfl (fun _ => rfl) ?_
    show w_T L xs d m_X12_here 12 [(0, .ref 100)] [.ref 100] (p_S S0 pl cs sk cl bd nc sg ov bh op na) R Q
    refine w_getr rfl v_tyM rfl ?_
    refine w_st rfl (fun _ => rfl) ?_
    show w_T L xs d m_X12_here 16 [(0, .ref 100)] [.ref 100, .ref 101] (p_S S0 pl cs sk cl bd nc sg ov bh op na) R Q
    refine w_get rfl v_tyM rfl ?_
    show w_T L xs d m_X12_here 19 [(0, .ref 100)] [.int (Int32.ofInt (pl : Int)), .ref 101] (p_S S0 pl cs sk cl bd nc sg ov bh op na) R Q
    refine w_bald rfl rfl (by decide) (by rw [w_nat (by omega)]; omega) (by rw [w_nat (by omega)]; omega) ?_
    rw [w_natn (by omega)]
    refine w_st rfl (fun _ => rfl) ?_
    refine w_st rfl (fun _ => rfl) ?_
    refine w_st rfl (fun _ => rfl) ?_
    show w_T L xs d m_X12_here 28 [(0, .ref 100)] [.int ((S0 100 pl) &&& (Int32.ofInt 255))] (p_S S0 pl cs sk cl bd nc sg ov bh op na) R Q
    refine w_ret rfl (by rfl) ?_
    rw [hh] at hq; exact hq
theorem h_isGT (hq : Q (some (.int (Int32.ofInt 1))) (p_S S0 pl cs sk cl (Int32.ofInt 0) nc sg ov bh op na) R) : w_T L xs d m_X12_isGood 0 (lv_args 0 [.ref 100]) [] (p_S S0 pl cs sk cl (Int32.ofInt 0) nc sg ov bh op na) R Q := by
  refine w_st rfl (fun _ => rfl) ?_
  show w_T L xs d m_X12_isGood 1 [(0, .ref 100)] [.ref 100] (p_S S0 pl cs sk cl (Int32.ofInt 0) nc sg ov bh op na) R Q
  refine w_get rfl v_tyM rfl ?_
  show w_T L xs d m_X12_isGood 4 [(0, .ref 100)] [.int (Int32.ofInt 0)] (p_S S0 pl cs sk cl (Int32.ofInt 0) nc sg ov bh op na) R Q
  refine w_st rfl (fun _ => rfl) ?_
  refine w_st rfl (fun _ => rfl) ?_
  refine w_st rfl (fun _ => rfl) ?_
  show w_T L xs d m_X12_isGood 12 [(0, .ref 100)] [.int (Int32.ofInt 1)] (p_S S0 pl cs sk cl (Int32.ofInt 0) nc sg ov bh op na) R Q
  refine w_ret rfl (by rfl) ?_
  exact hq
theorem h_isGF (hb : bd.toInt < 0) (hq : Q (some (.int (Int32.ofInt 0))) (p_S S0 pl cs sk cl bd nc sg ov bh op na) R) : w_T L xs d m_X12_isGood 0 (lv_args 0 [.ref 100]) [] (p_S S0 pl cs sk cl bd nc sg ov bh op na) R Q := by
  refine w_st rfl (fun _ => rfl) ?_
  show w_T L xs d m_X12_isGood 1 [(0, .ref 100)] [.ref 100] (p_S S0 pl cs sk cl bd nc sg ov bh op na) R Q
  refine w_get rfl v_tyM rfl ?_
  show w_T L xs d m_X12_isGood 4 [(0, .ref 100)] [.int bd] (p_S S0 pl cs sk cl bd nc sg ov bh op na) R Q
  refine w_br (P := ¬ bd = 0) rfl (fun _ => rfl) (fun h4 => ?_) (fun h4 => ?_)
  · refine w_st rfl (fun _ => rfl) ?_
    show w_T L xs d m_X12_isGood 12 [(0, .ref 100)] [.int (Int32.ofInt 0)] (p_S S0 pl cs sk cl bd nc sg ov bh op na) R Q
    refine w_ret rfl (by rfl) ?_
    exact hq
  · exfalso; have e := Decidable.of_not_not h4; rw [e] at hb; exact absurd hb (by decide)
theorem h_wr {f w : Int32} (f1 : 1 ≤ f.toInt) (f2 : f.toInt ≤ 9) (w1 : 0 ≤ w.toInt) (w2 : w.toInt ≤ 1000) (hq : ∀ b : Int32, b.toInt < 0 → Q none (p_S S0 pl cs sk cl b nc sg ov bh op na) R) : w_T L xs d m_X12_wrongs 0 (lv_args 0 [.ref 100, .int f, .int w]) [] (p_S S0 pl cs sk cl (Int32.ofInt 0) nc sg ov bh op na) R Q := by
  have e : (Int32.ofInt (-1000) * f - w).toInt < 0 := by
    have e1 : Int32.ofInt (-1000) * f - w = Int32.ofInt ((-1000) * f.toInt - w.toInt) := by
      rw [Int32.ofInt_sub, Int32.ofInt_mul, q_of, q_of]
    rw [e1, q_ofr (by omega) (by omega)]
    omega
  refine w_st rfl (fun _ => rfl) ?_
  refine w_st rfl (fun _ => rfl) ?_
  show w_T L xs d m_X12_wrongs 2 [(0, .ref 100), (1, .int f), (2, .int w)] [.ref 100, .ref 100] (p_S S0 pl cs sk cl (Int32.ofInt 0) nc sg ov bh op na) R Q
  refine w_get rfl v_tyM rfl ?_
  show w_T L xs d m_X12_wrongs 5 [(0, .ref 100), (1, .int f), (2, .int w)] [.int (Int32.ofInt 0), .ref 100] (p_S S0 pl cs sk cl (Int32.ofInt 0) nc sg ov bh op na) R Q
  refine w_st rfl (fun _ => rfl) ?_
  refine w_st rfl (fun _ => rfl) ?_
  refine w_st rfl (fun _ => rfl) ?_
  refine w_st rfl (fun _ => rfl) ?_
  refine w_st rfl (fun _ => rfl) ?_
  refine w_st rfl (fun _ => rfl) ?_
  show w_T L xs d m_X12_wrongs 22 [(0, .ref 100), (1, .int f), (2, .int w)] [.int (((Int32.ofInt (-1000)) * f) - w), .ref 100] (p_S S0 pl cs sk cl (Int32.ofInt 0) nc sg ov bh op na) R Q
  refine w_put rfl v_tyM rfl rfl rfl ?_
  refine w_eqS p_wbd ?_
  show w_T L xs d m_X12_wrongs 25 [(0, .ref 100), (1, .int f), (2, .int w)] [] (p_S S0 pl cs sk cl (((Int32.ofInt (-1000)) * f) - w) nc sg ov bh op na) R Q
  refine w_ret rfl rfl ?_
  exact hq _ e
theorem h_emG {c a : Int32} (hcs : cs < 240) (hq : Q none (p_S S0 pl (cs + 1) sk cl (Int32.ofInt 0) (upd nc cs c) sg ov bh op (upd na cs a)) R) : w_T L xs (d + 1) m_X12_emit 0 (lv_args 0 [.ref 100, .int c, .int a]) [] (p_S S0 pl cs sk cl (Int32.ofInt 0) nc sg ov bh op na) R Q := by
  refine w_st rfl (fun _ => rfl) ?_
  show w_T L xs (d + 1) m_X12_emit 1 [(0, .ref 100), (1, .int c), (2, .int a)] [.ref 100] (p_S S0 pl cs sk cl (Int32.ofInt 0) nc sg ov bh op na) R Q
  refine w_cv rfl (by decide) mt_X12_isGood v_tyM rfl rfl rfl (Nat.le_of_ble_eq_true rfl) (Nat.le_of_ble_eq_true rfl) (Nat.le_of_ble_eq_true rfl) ?_
  show w_T L xs _ m_X12_isGood 0 (lv_args 0 [.ref 100]) [] (p_S S0 pl cs sk cl (Int32.ofInt 0) nc sg ov bh op na) R _
  refine h_isGT ?_
  show w_T L xs (d + 1) m_X12_emit 4 [(0, .ref 100), (1, .int c), (2, .int a)] [.int (Int32.ofInt 1)] (p_S S0 pl cs sk cl (Int32.ofInt 0) nc sg ov bh op na) R Q
  refine w_st rfl (fun _ => rfl) ?_
  refine w_st rfl (fun _ => rfl) ?_
  show w_T L xs (d + 1) m_X12_emit 9 [(0, .ref 100), (1, .int c), (2, .int a)] [.ref 100] (p_S S0 pl cs sk cl (Int32.ofInt 0) nc sg ov bh op na) R Q
  refine w_getr rfl v_tyM rfl ?_
  refine w_st rfl (fun _ => rfl) ?_
  show w_T L xs (d + 1) m_X12_emit 13 [(0, .ref 100), (1, .int c), (2, .int a)] [.ref 100, .ref 112] (p_S S0 pl cs sk cl (Int32.ofInt 0) nc sg ov bh op na) R Q
  refine w_get rfl v_tyM rfl ?_
  refine w_st rfl (fun _ => rfl) ?_
  show w_T L xs (d + 1) m_X12_emit 17 [(0, .ref 100), (1, .int c), (2, .int a)] [.int c, .int (Int32.ofInt (cs : Int)), .ref 112] (p_S S0 pl cs sk cl (Int32.ofInt 0) nc sg ov bh op na) R Q
  refine w_iast rfl rfl (by rw [w_nat (by omega)]; omega) (by rw [w_nat (by omega)]; omega) ?_
  refine w_eqS (p_wnc (w_natn (by omega)) (by omega)) ?_
  refine w_st rfl (fun _ => rfl) ?_
  show w_T L xs (d + 1) m_X12_emit 19 [(0, .ref 100), (1, .int c), (2, .int a)] [.ref 100] (p_S S0 pl cs sk cl (Int32.ofInt 0) (upd nc cs c) sg ov bh op na) R Q
  refine w_getr rfl v_tyM rfl ?_
  refine w_st rfl (fun _ => rfl) ?_
  show w_T L xs (d + 1) m_X12_emit 23 [(0, .ref 100), (1, .int c), (2, .int a)] [.ref 100, .ref 113] (p_S S0 pl cs sk cl (Int32.ofInt 0) (upd nc cs c) sg ov bh op na) R Q
  refine w_get rfl v_tyM rfl ?_
  refine w_st rfl (fun _ => rfl) ?_
  show w_T L xs (d + 1) m_X12_emit 27 [(0, .ref 100), (1, .int c), (2, .int a)] [.int a, .int (Int32.ofInt (cs : Int)), .ref 113] (p_S S0 pl cs sk cl (Int32.ofInt 0) (upd nc cs c) sg ov bh op na) R Q
  refine w_iast rfl rfl (by rw [w_nat (by omega)]; omega) (by rw [w_nat (by omega)]; omega) ?_
  refine w_eqS (p_wna (w_natn (by omega)) (by omega)) ?_
  refine w_st rfl (fun _ => rfl) ?_
  refine w_st rfl (fun _ => rfl) ?_
  show w_T L xs (d + 1) m_X12_emit 30 [(0, .ref 100), (1, .int c), (2, .int a)] [.ref 100, .ref 100] (p_S S0 pl cs sk cl (Int32.ofInt 0) (upd nc cs c) sg ov bh op (upd na cs a)) R Q
  refine w_get rfl v_tyM rfl ?_
  refine w_st rfl (fun _ => rfl) ?_
  refine w_st rfl (fun _ => rfl) ?_
  show w_T L xs (d + 1) m_X12_emit 35 [(0, .ref 100), (1, .int c), (2, .int a)] [.int ((Int32.ofInt (cs : Int)) + (Int32.ofInt 1)), .ref 100] (p_S S0 pl cs sk cl (Int32.ofInt 0) (upd nc cs c) sg ov bh op (upd na cs a)) R Q
  refine w_put rfl v_tyM rfl rfl rfl ?_
  refine w_eqS (p_wcs (w_inc _)) ?_
  show w_T L xs (d + 1) m_X12_emit 38 [(0, .ref 100), (1, .int c), (2, .int a)] [] (p_S S0 pl (cs + 1) sk cl (Int32.ofInt 0) (upd nc cs c) sg ov bh op (upd na cs a)) R Q
  refine w_ret rfl rfl ?_
  exact hq
theorem h_emB {c a : Int32} (hbd : bd.toInt < 0) (hq : Q none (p_S S0 pl cs sk cl bd nc sg ov bh op na) R) : w_T L xs (d + 1) m_X12_emit 0 (lv_args 0 [.ref 100, .int c, .int a]) [] (p_S S0 pl cs sk cl bd nc sg ov bh op na) R Q := by
  refine w_st rfl (fun _ => rfl) ?_
  show w_T L xs (d + 1) m_X12_emit 1 [(0, .ref 100), (1, .int c), (2, .int a)] [.ref 100] (p_S S0 pl cs sk cl bd nc sg ov bh op na) R Q
  refine w_cv rfl (by decide) mt_X12_isGood v_tyM rfl rfl rfl (Nat.le_of_ble_eq_true rfl) (Nat.le_of_ble_eq_true rfl) (Nat.le_of_ble_eq_true rfl) ?_
  show w_T L xs _ m_X12_isGood 0 (lv_args 0 [.ref 100]) [] (p_S S0 pl cs sk cl bd nc sg ov bh op na) R _
  refine h_isGF hbd ?_
  show w_T L xs (d + 1) m_X12_emit 4 [(0, .ref 100), (1, .int c), (2, .int a)] [.int (Int32.ofInt 0)] (p_S S0 pl cs sk cl bd nc sg ov bh op na) R Q
  refine w_st rfl (fun _ => rfl) ?_
  show w_T L xs (d + 1) m_X12_emit 7 [(0, .ref 100), (1, .int c), (2, .int a)] [] (p_S S0 pl cs sk cl bd nc sg ov bh op na) R Q
  refine w_ret rfl rfl ?_
  exact hq
theorem h_top (hsk : sk ≤ 240) (hq : Q (some (.int (p_tp sg sk))) (p_S S0 pl cs sk cl bd nc sg ov bh op na) R) : w_T L xs d m_X12_top 0 (lv_args 0 [.ref 100]) [] (p_S S0 pl cs sk cl bd nc sg ov bh op na) R Q := by
  have e := w_nat (k := sk) (by omega)
  have z0 : (0 : Int32).toInt = 0 := rfl
  refine w_st rfl (fun _ => rfl) ?_
  show w_T L xs d m_X12_top 1 [(0, .ref 100)] [.ref 100] (p_S S0 pl cs sk cl bd nc sg ov bh op na) R Q
  refine w_get rfl v_tyM rfl ?_
  show w_T L xs d m_X12_top 4 [(0, .ref 100)] [.int (Int32.ofInt (sk : Int))] (p_S S0 pl cs sk cl bd nc sg ov bh op na) R Q
  refine w_br (P := (Int32.ofInt (sk : Int)) ≤ 0) rfl (fun _ => rfl) (fun h4 => ?_) (fun h4 => ?_)
  · have hh : p_tp sg sk = Int32.ofInt 0 := if_neg (by rw [q_le32, e] at h4; omega)
    refine w_st rfl (fun _ => rfl) ?_
    show w_T L xs d m_X12_top 22 [(0, .ref 100)] [.int (Int32.ofInt 0)] (p_S S0 pl cs sk cl bd nc sg ov bh op na) R Q
    refine w_ret rfl (by rfl) ?_
    rw [hh] at hq; exact hq
  · have hp : 0 < sk := by rw [q_le32, e] at h4; omega
    have hh : p_tp sg sk = sg (sk - 1) := if_pos hp
    refine w_st rfl (fun _ => rfl) ?_
    show w_T L xs d m_X12_top 8 [(0, .ref 100)] [.ref 100] (p_S S0 pl cs sk cl bd nc sg ov bh op na) R Q
    refine w_getr rfl v_tyM rfl ?_
    refine w_st rfl (fun _ => rfl) ?_
    show w_T L xs d m_X12_top 12 [(0, .ref 100)] [.ref 100, .ref 114] (p_S S0 pl cs sk cl bd nc sg ov bh op na) R Q
    refine w_get rfl v_tyM rfl ?_
    refine w_st rfl (fun _ => rfl) ?_
    refine w_st rfl (fun _ => rfl) ?_
    show w_T L xs d m_X12_top 17 [(0, .ref 100)] [.int ((Int32.ofInt (sk : Int)) - (Int32.ofInt 1)), .ref 114] (p_S S0 pl cs sk cl bd nc sg ov bh op na) R Q
    refine w_iald rfl rfl (by rw [w_dec2 hp, w_nat (by omega)]; omega) (by rw [w_dec2 hp, w_nat (by omega)]; omega) ?_
    rw [w_dec2 hp, w_natn (by omega), p_rsg (by omega)]
    refine w_st rfl (fun _ => rfl) ?_
    show w_T L xs d m_X12_top 22 [(0, .ref 100)] [.int (sg (sk - 1))] (p_S S0 pl cs sk cl bd nc sg ov bh op na) R Q
    refine w_ret rfl (by rfl) ?_
    rw [hh] at hq; exact hq
theorem h_puts {c : Int32} (h1 : sk < 240) (h2 : pl < 1000) (hq : Q none (p_S S0 (pl + 1) cs (sk + 1) cl bd nc (upd sg sk c) ov bh op na) R) : w_T L xs d m_X12_puts 0 (lv_args 0 [.ref 100, .int c]) [] (p_S S0 pl cs sk cl bd nc sg ov bh op na) R Q := by
  refine w_st rfl (fun _ => rfl) ?_
  show w_T L xs d m_X12_puts 1 [(0, .ref 100), (1, .int c)] [.ref 100] (p_S S0 pl cs sk cl bd nc sg ov bh op na) R Q
  refine w_getr rfl v_tyM rfl ?_
  refine w_st rfl (fun _ => rfl) ?_
  show w_T L xs d m_X12_puts 5 [(0, .ref 100), (1, .int c)] [.ref 100, .ref 114] (p_S S0 pl cs sk cl bd nc sg ov bh op na) R Q
  refine w_get rfl v_tyM rfl ?_
  refine w_st rfl (fun _ => rfl) ?_
  show w_T L xs d m_X12_puts 9 [(0, .ref 100), (1, .int c)] [.int c, .int (Int32.ofInt (sk : Int)), .ref 114] (p_S S0 pl cs sk cl bd nc sg ov bh op na) R Q
  refine w_iast rfl rfl (by rw [w_nat (by omega)]; omega) (by rw [w_nat (by omega)]; omega) ?_
  refine w_eqS (p_wsg (w_natn (by omega)) (by omega)) ?_
  refine w_st rfl (fun _ => rfl) ?_
  refine w_st rfl (fun _ => rfl) ?_
  show w_T L xs d m_X12_puts 12 [(0, .ref 100), (1, .int c)] [.ref 100, .ref 100] (p_S S0 pl cs sk cl bd nc (upd sg sk c) ov bh op na) R Q
  refine w_get rfl v_tyM rfl ?_
  refine w_st rfl (fun _ => rfl) ?_
  refine w_st rfl (fun _ => rfl) ?_
  show w_T L xs d m_X12_puts 17 [(0, .ref 100), (1, .int c)] [.int ((Int32.ofInt (sk : Int)) + (Int32.ofInt 1)), .ref 100] (p_S S0 pl cs sk cl bd nc (upd sg sk c) ov bh op na) R Q
  refine w_put rfl v_tyM rfl rfl rfl ?_
  refine w_eqS (p_wsk (w_inc _)) ?_
  refine w_st rfl (fun _ => rfl) ?_
  refine w_st rfl (fun _ => rfl) ?_
  show w_T L xs d m_X12_puts 22 [(0, .ref 100), (1, .int c)] [.ref 100, .ref 100] (p_S S0 pl cs (sk + 1) cl bd nc (upd sg sk c) ov bh op na) R Q
  refine w_get rfl v_tyM rfl ?_
  refine w_st rfl (fun _ => rfl) ?_
  refine w_st rfl (fun _ => rfl) ?_
  show w_T L xs d m_X12_puts 27 [(0, .ref 100), (1, .int c)] [.int ((Int32.ofInt (pl : Int)) + (Int32.ofInt 1)), .ref 100] (p_S S0 pl cs (sk + 1) cl bd nc (upd sg sk c) ov bh op na) R Q
  refine w_put rfl v_tyM rfl rfl rfl ?_
  refine w_eqS (p_wpl (w_inc _)) ?_
  show w_T L xs d m_X12_puts 30 [(0, .ref 100), (1, .int c)] [] (p_S S0 (pl + 1) cs (sk + 1) cl bd nc (upd sg sk c) ov bh op na) R Q
  refine w_ret rfl rfl ?_
  exact hq
theorem h_opens (h1 : sk < 240) (h2 : pl ≤ 240) (kg : ∀ o, Q none (p_S S0 (pl + 1) cs (sk + 1) cl (Int32.ofInt 0) nc (upd sg sk (p_h S0 pl)) ov bh o na) R) (kb : ∀ o (b : Int32), b.toInt < 0 → Q none (p_S S0 (pl + 1) cs (sk + 1) cl b nc (upd sg sk (p_h S0 pl)) ov bh o na) R) : w_T L xs (d + 1) m_X12_opens 0 (lv_args 0 [.ref 100]) [] (p_S S0 pl cs sk cl (Int32.ofInt 0) nc sg ov bh op na) R Q := by
  refine w_st rfl (fun _ => rfl) ?_
  show w_T L xs (d + 1) m_X12_opens 1 [(0, .ref 100)] [.ref 100] (p_S S0 pl cs sk cl (Int32.ofInt 0) nc sg ov bh op na) R Q
  refine w_get rfl v_tyM rfl ?_
  refine w_st rfl (fun _ => rfl) ?_
  show w_T L xs (d + 1) m_X12_opens 6 [(0, .ref 100)] [.int (Int32.ofInt 6), .int op] (p_S S0 pl cs sk cl (Int32.ofInt 0) nc sg ov bh op na) R Q
  refine w_br (P := ¬ op = (Int32.ofInt 6)) rfl (fun _ => rfl) (fun h6 => ?_) (fun h6 => ?_)
  · refine w_st rfl (fun _ => rfl) ?_
    refine w_st rfl (fun _ => rfl) ?_
    show w_T L xs (d + 1) m_X12_opens 20 [(0, .ref 100)] [.ref 100, .ref 100] (p_S S0 pl cs sk cl (Int32.ofInt 0) nc sg ov bh op na) R Q
    refine w_get rfl v_tyM rfl ?_
    refine w_st rfl (fun _ => rfl) ?_
    refine w_st rfl (fun _ => rfl) ?_
    show w_T L xs (d + 1) m_X12_opens 25 [(0, .ref 100)] [.int (op + (Int32.ofInt 1)), .ref 100] (p_S S0 pl cs sk cl (Int32.ofInt 0) nc sg ov bh op na) R Q
    refine w_put rfl v_tyM rfl rfl rfl ?_
    refine w_eqS p_wop ?_
    refine w_st rfl (fun _ => rfl) ?_
    refine w_st rfl (fun _ => rfl) ?_
    show w_T L xs (d + 1) m_X12_opens 30 [(0, .ref 100)] [.ref 100, .ref 100] (p_S S0 pl cs sk cl (Int32.ofInt 0) nc sg ov bh (op + (Int32.ofInt 1)) na) R Q
    refine w_cv rfl (by decide) mt_X12_here v_tyM rfl rfl rfl (Nat.le_of_ble_eq_true rfl) (Nat.le_of_ble_eq_true rfl) (Nat.le_of_ble_eq_true rfl) ?_
    show w_T L xs _ m_X12_here 0 (lv_args 0 [.ref 100]) [] (p_S S0 pl cs sk cl (Int32.ofInt 0) nc sg ov bh (op + (Int32.ofInt 1)) na) R _
    refine h_here (by omega) ?_
    show w_T L xs (d + 1) m_X12_opens 33 [(0, .ref 100)] [.int (p_h S0 pl), .ref 100] (p_S S0 pl cs sk cl (Int32.ofInt 0) nc sg ov bh (op + (Int32.ofInt 1)) na) R Q
    refine w_cv rfl (by decide) mt_X12_puts v_tyM rfl rfl rfl (Nat.le_of_ble_eq_true rfl) (Nat.le_of_ble_eq_true rfl) (Nat.le_of_ble_eq_true rfl) ?_
    show w_T L xs _ m_X12_puts 0 (lv_args 0 [.ref 100, .int (p_h S0 pl)]) [] (p_S S0 pl cs sk cl (Int32.ofInt 0) nc sg ov bh (op + (Int32.ofInt 1)) na) R _
    refine h_puts (by omega) (by omega) ?_
    show w_T L xs (d + 1) m_X12_opens 36 [(0, .ref 100)] [] (p_S S0 (pl + 1) cs (sk + 1) cl (Int32.ofInt 0) nc (upd sg sk (p_h S0 pl)) ov bh (op + (Int32.ofInt 1)) na) R Q
    refine w_ret rfl rfl ?_
    exact kg _
  · refine w_st rfl (fun _ => rfl) ?_
    refine w_st rfl (fun _ => rfl) ?_
    refine w_st rfl (fun _ => rfl) ?_
    show w_T L xs (d + 1) m_X12_opens 12 [(0, .ref 100)] [.ref 100, .int (Int32.ofInt 5), .ref 100] (p_S S0 pl cs sk cl (Int32.ofInt 0) nc sg ov bh op na) R Q
    refine w_get rfl v_tyM rfl ?_
    show w_T L xs (d + 1) m_X12_opens 15 [(0, .ref 100)] [.int (Int32.ofInt (pl : Int)), .int (Int32.ofInt 5), .ref 100] (p_S S0 pl cs sk cl (Int32.ofInt 0) nc sg ov bh op na) R Q
    refine w_cv rfl (by decide) mt_X12_wrongs v_tyM rfl rfl rfl (Nat.le_of_ble_eq_true rfl) (Nat.le_of_ble_eq_true rfl) (Nat.le_of_ble_eq_true rfl) ?_
    show w_T L xs _ m_X12_wrongs 0 (lv_args 0 [.ref 100, .int (Int32.ofInt 5), .int (Int32.ofInt (pl : Int))]) [] (p_S S0 pl cs sk cl (Int32.ofInt 0) nc sg ov bh op na) R _
    refine h_wr (by decide) (by decide) (by rw [w_nat (by omega)]; omega) (by rw [w_nat (by omega)]; omega) (fun b15 hb15 => ?_)
    refine w_st rfl (fun _ => rfl) ?_
    refine w_st rfl (fun _ => rfl) ?_
    show w_T L xs (d + 1) m_X12_opens 20 [(0, .ref 100)] [.ref 100, .ref 100] (p_S S0 pl cs sk cl b15 nc sg ov bh op na) R Q
    refine w_get rfl v_tyM rfl ?_
    refine w_st rfl (fun _ => rfl) ?_
    refine w_st rfl (fun _ => rfl) ?_
    show w_T L xs (d + 1) m_X12_opens 25 [(0, .ref 100)] [.int (op + (Int32.ofInt 1)), .ref 100] (p_S S0 pl cs sk cl b15 nc sg ov bh op na) R Q
    refine w_put rfl v_tyM rfl rfl rfl ?_
    refine w_eqS p_wop ?_
    refine w_st rfl (fun _ => rfl) ?_
    refine w_st rfl (fun _ => rfl) ?_
    show w_T L xs (d + 1) m_X12_opens 30 [(0, .ref 100)] [.ref 100, .ref 100] (p_S S0 pl cs sk cl b15 nc sg ov bh (op + (Int32.ofInt 1)) na) R Q
    refine w_cv rfl (by decide) mt_X12_here v_tyM rfl rfl rfl (Nat.le_of_ble_eq_true rfl) (Nat.le_of_ble_eq_true rfl) (Nat.le_of_ble_eq_true rfl) ?_
    show w_T L xs _ m_X12_here 0 (lv_args 0 [.ref 100]) [] (p_S S0 pl cs sk cl b15 nc sg ov bh (op + (Int32.ofInt 1)) na) R _
    refine h_here (by omega) ?_
    show w_T L xs (d + 1) m_X12_opens 33 [(0, .ref 100)] [.int (p_h S0 pl), .ref 100] (p_S S0 pl cs sk cl b15 nc sg ov bh (op + (Int32.ofInt 1)) na) R Q
    refine w_cv rfl (by decide) mt_X12_puts v_tyM rfl rfl rfl (Nat.le_of_ble_eq_true rfl) (Nat.le_of_ble_eq_true rfl) (Nat.le_of_ble_eq_true rfl) ?_
    show w_T L xs _ m_X12_puts 0 (lv_args 0 [.ref 100, .int (p_h S0 pl)]) [] (p_S S0 pl cs sk cl b15 nc sg ov bh (op + (Int32.ofInt 1)) na) R _
    refine h_puts (by omega) (by omega) ?_
    show w_T L xs (d + 1) m_X12_opens 36 [(0, .ref 100)] [] (p_S S0 (pl + 1) cs (sk + 1) cl b15 nc (upd sg sk (p_h S0 pl)) ov bh (op + (Int32.ofInt 1)) na) R Q
    refine w_ret rfl rfl ?_
    exact kb _ _ hb15
theorem h_dig (hpl : pl ≤ 240) (k1 : 48 ≤ (p_h S0 pl).toInt ∧ (p_h S0 pl).toInt ≤ 57 → Q (some (.int (Int32.ofInt 1))) (p_S S0 pl cs sk cl bd nc sg ov bh op na) R) (k0 : ¬ (48 ≤ (p_h S0 pl).toInt ∧ (p_h S0 pl).toInt ≤ 57) → Q (some (.int (Int32.ofInt 0))) (p_S S0 pl cs sk cl bd nc sg ov bh op na) R) : w_T L xs (d + 1) m_X12_seesDigit 0 (lv_args 0 [.ref 100]) [] (p_S S0 pl cs sk cl bd nc sg ov bh op na) R Q := by
  have e48 : (Int64.ofInt 48).toInt = 48 := by decide
  have e57 : (Int64.ofInt 57).toInt = 57 := by decide
  have e0 := Int32.toInt_toInt64 (p_h S0 pl)
  refine w_st rfl (fun _ => rfl) ?_
  show w_T L xs (d + 1) m_X12_seesDigit 1 [(0, .ref 100)] [.ref 100] (p_S S0 pl cs sk cl bd nc sg ov bh op na) R Q
  refine w_cv rfl (by decide) mt_X12_here v_tyM rfl rfl rfl (Nat.le_of_ble_eq_true rfl) (Nat.le_of_ble_eq_true rfl) (Nat.le_of_ble_eq_true rfl) ?_
  show w_T L xs _ m_X12_here 0 (lv_args 0 [.ref 100]) [] (p_S S0 pl cs sk cl bd nc sg ov bh op na) R _
  refine h_here (by omega) ?_
  refine w_st rfl (fun _ => rfl) ?_
  refine w_st rfl (fun _ => rfl) ?_
  refine w_st rfl (fun _ => rfl) ?_
  show w_T L xs (d + 1) m_X12_seesDigit 11 [(0, .ref 100)] [.long (Int64.ofInt 57), .long (Int64.ofInt 48), .long ((p_h S0 pl).toInt64)] (p_S S0 pl cs sk cl bd nc sg ov bh op na) R Q
  refine w_cs rfl (by decide) mt_X12_lies (fun _ => rfl) (Nat.le_of_ble_eq_true rfl) (Nat.le_of_ble_eq_true rfl) ?_
  show w_T L xs _ m_X12_lies 0 (lv_args 0 [.long ((p_h S0 pl).toInt64), .long (Int64.ofInt 48), .long (Int64.ofInt 57)]) [] (p_S S0 pl cs sk cl bd nc sg ov bh op na) R _
  refine h_lies _ _ _ ?_
  rw [e48, e57, e0]
  by_cases hd : 48 ≤ (p_h S0 pl).toInt ∧ (p_h S0 pl).toInt ≤ 57
  · rw [if_pos hd]
    show w_T L xs (d + 1) m_X12_seesDigit 14 [(0, .ref 100)] [.int (Int32.ofInt 1)] (p_S S0 pl cs sk cl bd nc sg ov bh op na) R Q
    refine w_ret rfl (by rfl) ?_
    exact k1 hd
  · rw [if_neg hd]
    show w_T L xs (d + 1) m_X12_seesDigit 14 [(0, .ref 100)] [.int (Int32.ofInt 0)] (p_S S0 pl cs sk cl bd nc sg ov bh op na) R Q
    refine w_ret rfl (by rfl) ?_
    exact k0 hd
end PH
end Prt39d
section Prt39e
/-! the reader: what is on its stack, what its code asks for -/
noncomputable def p_bn (sg : Nat → Int32) : Nat → Nat
  | 0 => 0
  | k + 1 => p_bn sg k + (bif p_bi (sg k) then 1 else 0)
noncomputable def p_dp (c : Nat → Int32) : Nat → Nat → Nat → Nat
  | 0, _, dep => dep
  | n + 1, i, dep => if c i > 2 then p_dp c n (i + 1) (dep - 1) else if c i = 2 then p_dp c n (i + 1) dep else p_dp c n (i + 1) (dep + 1)
theorem p_bn_c {sg sg' : Nat → Int32} : ∀ {k : Nat}, (∀ j, j < k → sg' j = sg j) → p_bn sg' k = p_bn sg k
  | 0, _ => rfl
  | k + 1, h => by
    unfold p_bn
    rw [p_bn_c (fun j hj => h j (by omega)), h k (by omega)]
theorem p_dp_c {c c' : Nat → Int32} : ∀ {n i dep : Nat}, (∀ j, i ≤ j → j < i + n → c' j = c j) → p_dp c' n i dep = p_dp c n i dep
  | 0, _, _, _ => rfl
  | n + 1, i, dep, h => by
    unfold p_dp
    rw [h i (Nat.le_refl _) (by omega), p_dp_c (fun j h1 h2 => h j (by omega) (by omega)), p_dp_c (fun j h1 h2 => h j (by omega) (by omega)), p_dp_c (fun j h1 h2 => h j (by omega) (by omega))]
noncomputable def p_ok1 (x : Int32) (dep : Nat) : Prop := if x > 2 then 2 ≤ dep else if x = 2 then 1 ≤ dep else True
noncomputable def p_st1 (x : Int32) (dep : Nat) : Nat := if x > 2 then dep - 1 else if x = 2 then dep else dep + 1
theorem p_dp_s (c : Nat → Int32) (n i dep : Nat) : p_dp c (n + 1) i dep = if c i > 2 then p_dp c n (i + 1) (dep - 1) else if c i = 2 then p_dp c n (i + 1) dep else p_dp c n (i + 1) (dep + 1) := rfl
theorem p_seg_s (c : Nat → Int32) : ∀ (n i dep : Nat), v_seg c n i dep → p_ok1 (c (i + n)) (p_dp c n i dep) → v_seg c (n + 1) i dep ∧ p_dp c (n + 1) i dep = p_st1 (c (i + n)) (p_dp c n i dep)
  | 0, i, dep, _, h => by
    have h : p_ok1 (c i) dep := h
    show v_seg c 1 i dep ∧ p_dp c 1 i dep = p_st1 (c i) dep
    unfold p_ok1 at h
    unfold v_seg p_dp p_st1
    split
    · rename_i h1
      rw [if_pos h1] at h
      exact ⟨⟨h, trivial⟩, rfl⟩
    · rename_i h1
      rw [if_neg h1] at h
      split
      · rename_i h2
        rw [if_pos h2] at h
        exact ⟨⟨h, trivial⟩, rfl⟩
      · exact ⟨trivial, rfl⟩
  | n + 1, i, dep, hs, h => by
    have e : i + (n + 1) = (i + 1) + n := by omega
    rw [e] at h ⊢
    rw [v_seg] at hs
    rw [p_dp_s] at h
    rw [v_seg, p_dp_s c (n + 1) i dep, p_dp_s c n i dep]
    split
    · rename_i h1
      rw [if_pos h1] at h hs
      obtain ⟨k1, k2⟩ := p_seg_s c n (i + 1) (dep - 1) hs.2 h
      exact ⟨⟨hs.1, k1⟩, k2⟩
    · rename_i h1
      rw [if_neg h1] at h hs
      split
      · rename_i h2
        rw [if_pos h2] at h hs
        obtain ⟨k1, k2⟩ := p_seg_s c n (i + 1) dep hs.2 h
        exact ⟨⟨hs.1, k1⟩, k2⟩
      · rename_i h2
        rw [if_neg h2] at h hs
        exact p_seg_s c n (i + 1) (dep + 1) hs h
/-- q: where the stretch begins; m: 0 where an operand is due, 1 behind one -/
noncomputable def p_I (q : Nat) (nc0 : Nat → Int32) (cs sk : Nat) (nc sg : Nat → Int32) (m : Nat) : Prop := q ≤ cs ∧ (∀ k, k < q → nc k = nc0 k) ∧ v_seg nc (cs - q) q 0 ∧ p_dp nc (cs - q) q 0 = p_bn sg sk + m
theorem p_I_em {q cs sk sk' m m' : Nat} {nc0 nc sg sg' : Nat → Int32} (h : p_I q nc0 cs sk nc sg m) {x : Int32} (h1 : p_ok1 x (p_bn sg sk + m)) (h2 : p_st1 x (p_bn sg sk + m) = p_bn sg' sk' + m') : p_I q nc0 (cs + 1) sk' (upd nc cs x) sg' m' := by
  obtain ⟨a1, a2, a3, a4⟩ := h
  have ex : upd nc cs x cs = x := by simp [upd]
  have en : ∀ j, ¬ j = cs → upd nc cs x j = nc j := fun j hj => by simp [upd, hj]
  have b3 := v_seg_c (c := nc) (c' := upd nc cs x) (fun j g1 g2 => en j (by omega)) a3
  have b4 : p_dp (upd nc cs x) (cs - q) q 0 = p_bn sg sk + m := by rw [p_dp_c (fun j g1 g2 => en j (by omega)), a4]
  have e : q + (cs - q) = cs := by omega
  have k := p_seg_s (upd nc cs x) (cs - q) q 0 b3 (by rw [e, ex, b4]; exact h1)
  rw [e, ex, b4, h2] at k
  have e2 : cs + 1 - q = cs - q + 1 := by omega
  refine ⟨by omega, fun k hk => ?_, ?_, ?_⟩
  · rw [en k (by omega)]; exact a2 k hk
  · rw [e2]; exact k.1
  · rw [e2]; exact k.2
theorem p_I_op {q cs sk : Nat} {nc0 nc sg : Nat → Int32} (h : p_I q nc0 cs sk nc sg 0) {x : Int32} (hx : x = Int32.ofInt 0 ∨ x = Int32.ofInt 1) : p_I q nc0 (cs + 1) sk (upd nc cs x) sg 1 := by
  have n1 : ¬ x > 2 := by rcases hx with rfl | rfl <;> decide
  have n2 : ¬ x = 2 := by rcases hx with rfl | rfl <;> decide
  refine p_I_em h ?_ ?_
  · unfold p_ok1; rw [if_neg n1, if_neg n2]; trivial
  · unfold p_st1; rw [if_neg n1, if_neg n2]
theorem p_tp_pos {sg : Nat → Int32} {sk : Nat} {c : Int32} (h : p_tp sg sk = c) (hc : ¬ c = Int32.ofInt 0) : 0 < sk ∧ sg (sk - 1) = c := by
  unfold p_tp at h
  split at h
  · rename_i h1; exact ⟨h1, h⟩
  · exact absurd h.symm hc
theorem p_bn_top {sg : Nat → Int32} {sk : Nat} (h : 0 < sk) : p_bn sg sk = p_bn sg (sk - 1) + (bif p_bi (sg (sk - 1)) then 1 else 0) := by
  obtain ⟨k, rfl⟩ : ∃ k, sk = k + 1 := ⟨sk - 1, by omega⟩
  rfl
theorem p_bi_lit : ∀ c : Int32, p_bi c = true → c > 2 ∧ ¬ c = Int32.ofInt 0 := by
  intro c h
  unfold p_bi at h
  rw [List.any_eq_true] at h
  obtain ⟨k, hk, e⟩ := h
  have e : c = Int32.ofInt k := eq_of_beq e
  subst e
  simp only [List.mem_cons, List.not_mem_nil, or_false] at hk
  rcases hk with rfl | rfl | rfl | rfl | rfl | rfl | rfl | rfl | rfl | rfl <;> decide
theorem p_bi_ti {c : Int32} (h : p_ti c) : p_bi c = true := by rcases h with rfl | rfl | rfl <;> decide
theorem p_bi_pl {c : Int32} (h : p_pl c) : p_bi c = true := by rcases h with rfl | rfl <;> decide
theorem p_bi_cm {c : Int32} (h : p_cm c) : p_bi c = true := by rcases h with rfl | rfl | rfl <;> decide
theorem p_bi_jo {c : Int32} (h : p_jo c) : p_bi c = true := by rcases h with rfl | rfl <;> decide
theorem p_I_bin {q cs sk : Nat} {nc0 nc sg : Nat → Int32} (h : p_I q nc0 cs sk nc sg 1) (hb : p_bi (p_tp sg sk) = true) : 0 < sk ∧ p_I q nc0 (cs + 1) (sk - 1) (upd nc cs (p_tp sg sk)) sg 1 := by
  obtain ⟨l1, l2⟩ := p_bi_lit _ hb
  obtain ⟨t1, t2⟩ := p_tp_pos rfl l2
  have e := p_bn_top (sg := sg) t1
  rw [t2, hb, cond_true] at e
  refine ⟨t1, p_I_em h ?_ ?_⟩
  · unfold p_ok1; rw [if_pos l1]; omega
  · unfold p_st1; rw [if_pos l1]; omega
theorem p_I_not {q cs sk : Nat} {nc0 nc sg : Nat → Int32} (h : p_I q nc0 cs sk nc sg 1) (hb : p_tp sg sk = Int32.ofInt 33) : 0 < sk ∧ p_I q nc0 (cs + 1) (sk - 1) (upd nc cs (Int32.ofInt 2)) sg 1 := by
  obtain ⟨t1, t2⟩ := p_tp_pos hb (by decide)
  have e := p_bn_top (sg := sg) t1
  rw [t2, show p_bi (Int32.ofInt 33) = false by decide, cond_false] at e
  refine ⟨t1, p_I_em h ?_ ?_⟩
  · unfold p_ok1; rw [if_neg (by decide), if_pos (by decide)]; omega
  · unfold p_st1; rw [if_neg (by decide), if_pos (by decide)]; omega
theorem p_upe {f : Nat → Int32} {k : Nat} {x : Int32} : upd f k x k = x := by simp [upd]
theorem p_upn {f : Nat → Int32} {k j : Nat} {x : Int32} (h : ¬ j = k) : upd f k x j = f j := by simp [upd, h]
theorem p_bn_up {sg : Nat → Int32} {sk : Nat} {x : Int32} : p_bn (upd sg sk x) (sk + 1) = p_bn sg sk + (bif p_bi x then 1 else 0) := by
  show p_bn (upd sg sk x) sk + (bif p_bi (upd sg sk x sk) then 1 else 0) = _
  rw [p_upe, p_bn_c (fun j hj => p_upn (by omega))]
theorem p_I_pb {q cs sk : Nat} {nc0 nc sg : Nat → Int32} (h : p_I q nc0 cs sk nc sg 1) {x : Int32} (hx : p_bi x = true) : p_I q nc0 cs (sk + 1) nc (upd sg sk x) 0 := by
  refine ⟨h.1, h.2.1, h.2.2.1, ?_⟩
  rw [p_bn_up, hx, h.2.2.2]
  rfl
theorem p_I_pn {q cs sk m : Nat} {nc0 nc sg : Nat → Int32} (h : p_I q nc0 cs sk nc sg m) {x : Int32} (hx : p_bi x = false) : p_I q nc0 cs (sk + 1) nc (upd sg sk x) m := by
  refine ⟨h.1, h.2.1, h.2.2.1, ?_⟩
  rw [p_bn_up, hx, h.2.2.2]
  rfl
theorem p_I_dn {q cs sk m : Nat} {nc0 nc sg : Nat → Int32} (h : p_I q nc0 cs sk nc sg m) (h0 : 0 < sk) (hx : p_bi (sg (sk - 1)) = false) : p_I q nc0 cs (sk - 1) nc sg m := by
  refine ⟨h.1, h.2.1, h.2.2.1, ?_⟩
  rw [h.2.2.2, p_bn_top h0, hx]
  rfl
noncomputable def p_V (b : Nat) (sg0 : Nat → Int32) (sk : Nat) (sg : Nat → Int32) : Prop := b ≤ sk ∧ (∀ k, k < b → sg k = sg0 k) ∧ (∀ k, b ≤ k → k < sk → p_vs (sg k)) ∧ (0 < b → ¬ p_vs (sg0 (b - 1)))
theorem p_vs0 : ¬ p_vs (Int32.ofInt 0) := by unfold p_vs p_ti p_pl; decide
theorem p_V_top {b sk : Nat} {sg0 sg : Nat → Int32} (h : p_V b sg0 sk sg) (hv : p_vs (p_tp sg sk)) : b < sk := by
  obtain ⟨t1, t2⟩ := p_tp_pos (sg := sg) (sk := sk) rfl (fun e => p_vs0 (e ▸ hv))
  refine Classical.byContradiction (fun hn => ?_)
  have e : b = sk := by have := h.1; omega
  subst e
  refine h.2.2.2 t1 ?_
  rw [← h.2.1 _ (by omega), t2]
  exact hv
theorem p_V_pop {b sk : Nat} {sg0 sg : Nat → Int32} (h : p_V b sg0 sk sg) (hb : b < sk) : p_V b sg0 (sk - 1) sg := ⟨by omega, h.2.1, fun k h1 h2 => h.2.2.1 k h1 (by omega), h.2.2.2⟩
theorem p_V_psh {b sk : Nat} {sg0 sg : Nat → Int32} (h : p_V b sg0 sk sg) {c : Int32} (hc : p_vs c) : p_V b sg0 (sk + 1) (upd sg sk c) := by
  obtain ⟨a1, a2, a3, a4⟩ := h
  refine ⟨by omega, fun k hk => ?_, fun k h1 h2 => ?_, a4⟩
  · rw [p_upn (by omega)]; exact a2 k hk
  · by_cases e : k = sk
    · rw [e, p_upe]; exact hc
    · rw [p_upn e]; exact a3 k h1 (by omega)
theorem p_V_end {b sk : Nat} {sg0 sg : Nat → Int32} (h : p_V b sg0 sk sg) (hv : ¬ p_vs (p_tp sg sk)) : sk = b := by
  refine Classical.byContradiction (fun hn => hv ?_)
  have h1 := h.1
  have h2 := h.2.2.1 (sk - 1) (by omega) (by omega)
  unfold p_tp
  rw [if_pos (by omega)]
  exact h2
noncomputable def p_C (sk : Nat) (sg : Nat → Int32) : Prop := 0 < sk ∧ sg 0 = Int32.ofInt 40 ∧ ∀ k, k < sk → p_cc (sg k)
theorem p_C_psh {sk : Nat} {sg : Nat → Int32} (h : p_C sk sg) {c : Int32} (hc : p_cc c) : p_C (sk + 1) (upd sg sk c) := by
  obtain ⟨a1, a2, a3⟩ := h
  refine ⟨by omega, ?_, fun k hk => ?_⟩
  · rw [p_upn (by omega)]; exact a2
  · by_cases e : k = sk
    · rw [e, p_upe]; exact hc
    · rw [p_upn e]; exact a3 k (by omega)
theorem p_C_pop {sk : Nat} {sg : Nat → Int32} (h : p_C sk sg) (hn : 1 < sk) : p_C (sk - 1) sg := ⟨by omega, h.2.1, fun k hk => h.2.2 k (by omega)⟩
theorem p_C_sg {sk : Nat} {sg sg' : Nat → Int32} (h : p_C sk sg) (e : ∀ j, j < sk → sg' j = sg j) : p_C sk sg' := ⟨h.1, by rw [e 0 h.1]; exact h.2.1, fun k hk => by rw [e k hk]; exact h.2.2 k hk⟩
theorem p_C_one {sk : Nat} {sg : Nat → Int32} (h : p_C sk sg) (hn : ¬ p_tp sg sk = Int32.ofInt 40) : 1 < sk := by
  refine Classical.byContradiction (fun h1 => hn ?_)
  have e : sk = 1 := by have := h.1; omega
  subst e
  exact h.2.1
theorem p_C_V {sk : Nat} {sg : Nat → Int32} (h : p_C sk sg) : p_V sk sg sk sg := by
  refine ⟨Nat.le_refl _, fun _ _ => rfl, fun k h1 h2 => by omega, fun _ hv => ?_⟩
  have h1 := h.2.2 (sk - 1) (by have := h.1; omega)
  generalize sg (sk - 1) = c at h1 hv
  rcases h1 with (rfl | rfl) | rfl | rfl <;> exact absurd hv (by unfold p_vs p_ti p_pl; decide)
theorem p_cm_nvs {c : Int32} (h : p_cm c) : ¬ p_vs c := by rcases h with rfl | rfl | rfl <;> (unfold p_vs p_ti p_pl; decide)
end Prt39e
section Prt39f
/-! the reader: sums, factors, values -/
section PF
variable {L : Nat} {xs : Nat → Int32} {d : Nat} {R : v_Rf} {Q : Option Value → v_Sf → v_Rf → Prop} {S0 : v_Sf} {pl cs sk cl : Nat} {bd : Int32} {nc sg : Nat → Int32} {ov bh : Bool} {op : Int32} {na : Nat → Int32}
theorem p_ti0 : ¬ p_ti (Int32.ofInt 0) := by unfold p_ti; decide
theorem p_pl0 : ¬ p_pl (Int32.ofInt 0) := by unfold p_pl; decide
theorem p_cm0 : ¬ p_cm (Int32.ofInt 0) := by unfold p_cm; decide
theorem p_dg0 {c : Int32} (h : 48 ≤ c.toInt ∧ c.toInt ≤ 57) : ¬ c = Int32.ofInt 0 := fun e => by
  rw [e] at h
  exact absurd h.1 (by decide)
theorem h_rdS (he : (S0 99 4).toInt ≤ 240) (hpl : pl ≤ 240) (v fr : Int32) (K7 : ∀ v, pl < 240 → w_T L xs (d + 2) m_X12_reads 7 [(2, .int v), (1, .int fr), (0, .ref 100)] [] (p_S S0 (pl + 1) cs sk cl (Int32.ofInt 0) nc sg ov bh op na) R Q) (K : Q (some (.int v)) (p_S S0 pl cs sk cl (Int32.ofInt 0) nc sg ov bh op na) R) (Kb : ∀ v (b : Int32), pl < 240 → b.toInt < 0 → Q (some (.int v)) (p_S S0 (pl + 1) cs sk cl b nc sg ov bh op na) R) : w_T L xs (d + 2) m_X12_reads 7 [(2, .int v), (1, .int fr), (0, .ref 100)] [] (p_S S0 pl cs sk cl (Int32.ofInt 0) nc sg ov bh op na) R Q := by
  refine w_st rfl (fun _ => rfl) ?_
  show w_T L xs (d + 2) m_X12_reads 8 [(2, .int v), (1, .int fr), (0, .ref 100)] [.ref 100] (p_S S0 pl cs sk cl (Int32.ofInt 0) nc sg ov bh op na) R Q
  refine w_cv rfl (by decide) mt_X12_isGood v_tyM rfl rfl rfl (Nat.le_of_ble_eq_true rfl) (Nat.le_of_ble_eq_true rfl) (Nat.le_of_ble_eq_true rfl) ?_
  show w_T L xs _ m_X12_isGood 0 (lv_args 0 [.ref 100]) [] (p_S S0 pl cs sk cl (Int32.ofInt 0) nc sg ov bh op na) R _
  refine h_isGT ?_
  show w_T L xs (d + 2) m_X12_reads 11 [(2, .int v), (1, .int fr), (0, .ref 100)] [.int (Int32.ofInt 1)] (p_S S0 pl cs sk cl (Int32.ofInt 0) nc sg ov bh op na) R Q
  refine w_st rfl (fun _ => rfl) ?_
  refine w_st rfl (fun _ => rfl) ?_
  show w_T L xs (d + 2) m_X12_reads 15 [(2, .int v), (1, .int fr), (0, .ref 100)] [.ref 100] (p_S S0 pl cs sk cl (Int32.ofInt 0) nc sg ov bh op na) R Q
  refine w_cv rfl (by decide) mt_X12_seesDigit v_tyM rfl rfl rfl (Nat.le_of_ble_eq_true rfl) (Nat.le_of_ble_eq_true rfl) (Nat.le_of_ble_eq_true rfl) ?_
  show w_T L xs _ m_X12_seesDigit 0 (lv_args 0 [.ref 100]) [] (p_S S0 pl cs sk cl (Int32.ofInt 0) nc sg ov bh op na) R _
  refine h_dig (by omega) (fun g15 => ?_) (fun g15 => ?_)
  · show w_T L xs (d + 2) m_X12_reads 18 [(2, .int v), (1, .int fr), (0, .ref 100)] [.int (Int32.ofInt 1)] (p_S S0 pl cs sk cl (Int32.ofInt 0) nc sg ov bh op na) R Q
    refine w_st rfl (fun _ => rfl) ?_
    refine w_st rfl (fun _ => rfl) ?_
    show w_T L xs (d + 2) m_X12_reads 22 [(2, .int v), (1, .int fr), (0, .ref 100)] [.ref 100] (p_S S0 pl cs sk cl (Int32.ofInt 0) nc sg ov bh op na) R Q
    refine w_get rfl v_tyM rfl ?_
    refine w_st rfl (fun _ => rfl) ?_
    refine w_st rfl (fun _ => rfl) ?_
    refine w_st rfl (fun _ => rfl) ?_
    show w_T L xs (d + 2) m_X12_reads 28 [(2, .int v), (1, .int fr), (0, .ref 100)] [.int (fr + (Int32.ofInt 5)), .int (Int32.ofInt (pl : Int))] (p_S S0 pl cs sk cl (Int32.ofInt 0) nc sg ov bh op na) R Q
    refine w_br (P := ¬ (Int32.ofInt (pl : Int)) = (fr + (Int32.ofInt 5))) rfl (fun _ => rfl) (fun h28 => ?_) (fun h28 => ?_)
    · refine w_st rfl (fun _ => rfl) ?_
      refine w_st rfl (fun _ => rfl) ?_
      refine w_st rfl (fun _ => rfl) ?_
      refine w_st rfl (fun _ => rfl) ?_
      show w_T L xs (d + 2) m_X12_reads 45 [(2, .int v), (1, .int fr), (0, .ref 100)] [.ref 100, .int ((Int32.ofInt 10) * v)] (p_S S0 pl cs sk cl (Int32.ofInt 0) nc sg ov bh op na) R Q
      refine w_cv rfl (by decide) mt_X12_here v_tyM rfl rfl rfl (Nat.le_of_ble_eq_true rfl) (Nat.le_of_ble_eq_true rfl) (Nat.le_of_ble_eq_true rfl) ?_
      show w_T L xs _ m_X12_here 0 (lv_args 0 [.ref 100]) [] (p_S S0 pl cs sk cl (Int32.ofInt 0) nc sg ov bh op na) R _
      refine h_here (by omega) ?_
      refine w_st rfl (fun _ => rfl) ?_
      refine w_st rfl (fun _ => rfl) ?_
      refine w_st rfl (fun _ => rfl) ?_
      refine w_st rfl (fun _ => rfl) ?_
      refine w_st rfl (fun _ => rfl) ?_
      refine w_st rfl (fun _ => rfl) ?_
      show w_T L xs (d + 2) m_X12_reads 55 [(2, .int ((((Int32.ofInt 10) * v) + (p_h S0 pl)) - (Int32.ofInt 48))), (1, .int fr), (0, .ref 100)] [.ref 100, .ref 100] (p_S S0 pl cs sk cl (Int32.ofInt 0) nc sg ov bh op na) R Q
      refine w_get rfl v_tyM rfl ?_
      refine w_st rfl (fun _ => rfl) ?_
      refine w_st rfl (fun _ => rfl) ?_
      show w_T L xs (d + 2) m_X12_reads 60 [(2, .int ((((Int32.ofInt 10) * v) + (p_h S0 pl)) - (Int32.ofInt 48))), (1, .int fr), (0, .ref 100)] [.int ((Int32.ofInt (pl : Int)) + (Int32.ofInt 1)), .ref 100] (p_S S0 pl cs sk cl (Int32.ofInt 0) nc sg ov bh op na) R Q
      refine w_put rfl v_tyM rfl rfl rfl ?_
      refine w_eqS (p_wpl (w_inc _)) ?_
      refine w_st rfl (fun _ => rfl) ?_
      show w_T L xs (d + 2) m_X12_reads 7 [(2, .int ((((Int32.ofInt 10) * v) + (p_h S0 pl)) - (Int32.ofInt 48))), (1, .int fr), (0, .ref 100)] [] (p_S S0 (pl + 1) cs sk cl (Int32.ofInt 0) nc sg ov bh op na) R Q
      exact K7 _ (by have := p_h_lt (p_dg0 g15); omega)
    · refine w_st rfl (fun _ => rfl) ?_
      refine w_st rfl (fun _ => rfl) ?_
      refine w_st rfl (fun _ => rfl) ?_
      show w_T L xs (d + 2) m_X12_reads 34 [(2, .int v), (1, .int fr), (0, .ref 100)] [.ref 100, .int (Int32.ofInt 2), .ref 100] (p_S S0 pl cs sk cl (Int32.ofInt 0) nc sg ov bh op na) R Q
      refine w_get rfl v_tyM rfl ?_
      show w_T L xs (d + 2) m_X12_reads 37 [(2, .int v), (1, .int fr), (0, .ref 100)] [.int (Int32.ofInt (pl : Int)), .int (Int32.ofInt 2), .ref 100] (p_S S0 pl cs sk cl (Int32.ofInt 0) nc sg ov bh op na) R Q
      refine w_cv rfl (by decide) mt_X12_wrongs v_tyM rfl rfl rfl (Nat.le_of_ble_eq_true rfl) (Nat.le_of_ble_eq_true rfl) (Nat.le_of_ble_eq_true rfl) ?_
      show w_T L xs _ m_X12_wrongs 0 (lv_args 0 [.ref 100, .int (Int32.ofInt 2), .int (Int32.ofInt (pl : Int))]) [] (p_S S0 pl cs sk cl (Int32.ofInt 0) nc sg ov bh op na) R _
      refine h_wr (by decide) (by decide) (by rw [w_nat (by omega)]; omega) (by rw [w_nat (by omega)]; omega) (fun b37 hb37 => ?_)
      refine w_st rfl (fun _ => rfl) ?_
      refine w_st rfl (fun _ => rfl) ?_
      refine w_st rfl (fun _ => rfl) ?_
      refine w_st rfl (fun _ => rfl) ?_
      show w_T L xs (d + 2) m_X12_reads 45 [(2, .int v), (1, .int fr), (0, .ref 100)] [.ref 100, .int ((Int32.ofInt 10) * v)] (p_S S0 pl cs sk cl b37 nc sg ov bh op na) R Q
      refine w_cv rfl (by decide) mt_X12_here v_tyM rfl rfl rfl (Nat.le_of_ble_eq_true rfl) (Nat.le_of_ble_eq_true rfl) (Nat.le_of_ble_eq_true rfl) ?_
      show w_T L xs _ m_X12_here 0 (lv_args 0 [.ref 100]) [] (p_S S0 pl cs sk cl b37 nc sg ov bh op na) R _
      refine h_here (by omega) ?_
      refine w_st rfl (fun _ => rfl) ?_
      refine w_st rfl (fun _ => rfl) ?_
      refine w_st rfl (fun _ => rfl) ?_
      refine w_st rfl (fun _ => rfl) ?_
      refine w_st rfl (fun _ => rfl) ?_
      refine w_st rfl (fun _ => rfl) ?_
      show w_T L xs (d + 2) m_X12_reads 55 [(2, .int ((((Int32.ofInt 10) * v) + (p_h S0 pl)) - (Int32.ofInt 48))), (1, .int fr), (0, .ref 100)] [.ref 100, .ref 100] (p_S S0 pl cs sk cl b37 nc sg ov bh op na) R Q
      refine w_get rfl v_tyM rfl ?_
      refine w_st rfl (fun _ => rfl) ?_
      refine w_st rfl (fun _ => rfl) ?_
      show w_T L xs (d + 2) m_X12_reads 60 [(2, .int ((((Int32.ofInt 10) * v) + (p_h S0 pl)) - (Int32.ofInt 48))), (1, .int fr), (0, .ref 100)] [.int ((Int32.ofInt (pl : Int)) + (Int32.ofInt 1)), .ref 100] (p_S S0 pl cs sk cl b37 nc sg ov bh op na) R Q
      refine w_put rfl v_tyM rfl rfl rfl ?_
      refine w_eqS (p_wpl (w_inc _)) ?_
      refine w_st rfl (fun _ => rfl) ?_
      show w_T L xs (d + 2) m_X12_reads 7 [(2, .int ((((Int32.ofInt 10) * v) + (p_h S0 pl)) - (Int32.ofInt 48))), (1, .int fr), (0, .ref 100)] [] (p_S S0 (pl + 1) cs sk cl b37 nc sg ov bh op na) R Q
      refine w_st rfl (fun _ => rfl) ?_
      show w_T L xs (d + 2) m_X12_reads 8 [(2, .int ((((Int32.ofInt 10) * v) + (p_h S0 pl)) - (Int32.ofInt 48))), (1, .int fr), (0, .ref 100)] [.ref 100] (p_S S0 (pl + 1) cs sk cl b37 nc sg ov bh op na) R Q
      refine w_cv rfl (by decide) mt_X12_isGood v_tyM rfl rfl rfl (Nat.le_of_ble_eq_true rfl) (Nat.le_of_ble_eq_true rfl) (Nat.le_of_ble_eq_true rfl) ?_
      show w_T L xs _ m_X12_isGood 0 (lv_args 0 [.ref 100]) [] (p_S S0 (pl + 1) cs sk cl b37 nc sg ov bh op na) R _
      refine h_isGF hb37 ?_
      show w_T L xs (d + 2) m_X12_reads 11 [(2, .int ((((Int32.ofInt 10) * v) + (p_h S0 pl)) - (Int32.ofInt 48))), (1, .int fr), (0, .ref 100)] [.int (Int32.ofInt 0)] (p_S S0 (pl + 1) cs sk cl b37 nc sg ov bh op na) R Q
      refine w_st rfl (fun _ => rfl) ?_
      refine w_st rfl (fun _ => rfl) ?_
      show w_T L xs (d + 2) m_X12_reads 67 [(2, .int ((((Int32.ofInt 10) * v) + (p_h S0 pl)) - (Int32.ofInt 48))), (1, .int fr), (0, .ref 100)] [.int ((((Int32.ofInt 10) * v) + (p_h S0 pl)) - (Int32.ofInt 48))] (p_S S0 (pl + 1) cs sk cl b37 nc sg ov bh op na) R Q
      refine w_ret rfl (by rfl) ?_
      exact Kb _ _ (by have := p_h_lt (p_dg0 g15); omega) hb37
  · show w_T L xs (d + 2) m_X12_reads 18 [(2, .int v), (1, .int fr), (0, .ref 100)] [.int (Int32.ofInt 0)] (p_S S0 pl cs sk cl (Int32.ofInt 0) nc sg ov bh op na) R Q
    refine w_st rfl (fun _ => rfl) ?_
    refine w_st rfl (fun _ => rfl) ?_
    show w_T L xs (d + 2) m_X12_reads 67 [(2, .int v), (1, .int fr), (0, .ref 100)] [.int v] (p_S S0 pl cs sk cl (Int32.ofInt 0) nc sg ov bh op na) R Q
    refine w_ret rfl (by rfl) ?_
    exact K
theorem h_rdL (he : (S0 99 4).toInt ≤ 240) (fr : Int32) : ∀ (n pl : Nat) (v : Int32), 240 ≤ pl + n → pl ≤ 240 → (∀ v pl', pl ≤ pl' → pl' ≤ 240 → Q (some (.int v)) (p_S S0 (pl') cs sk cl (Int32.ofInt 0) nc sg ov bh op na) R) → (∀ v pl' (b : Int32), pl ≤ pl' → pl' ≤ 240 → b.toInt < 0 → Q (some (.int v)) (p_S S0 (pl') cs sk cl b nc sg ov bh op na) R) → w_T L xs (d + 2) m_X12_reads 7 [(2, .int v), (1, .int fr), (0, .ref 100)] [] (p_S S0 pl cs sk cl (Int32.ofInt 0) nc sg ov bh op na) R Q := by
  intro n
  induction n with
  | zero =>
    intro pl v hn hpl K Kb
    exact h_rdS he hpl v fr (fun v h => absurd h (by omega)) (K _ _ (Nat.le_refl _) hpl) (fun v b h1 h2 => Kb _ _ _ (by omega) (by omega) h2)
  | succ n ih =>
    intro pl v hn hpl K Kb
    exact h_rdS he hpl v fr (fun v h => ih (pl + 1) v (by omega) (by omega) (fun v pl' h1 h2 => K v pl' (by omega) h2) (fun v pl' b h1 h2 h3 => Kb v pl' b (by omega) h2 h3)) (K _ _ (Nat.le_refl _) hpl) (fun v b h1 h2 => Kb _ _ _ (by omega) (by omega) h2)
theorem h_reads (he : (S0 99 4).toInt ≤ 240) (hpl : pl ≤ 240) (hd : 48 ≤ (p_h S0 pl).toInt ∧ (p_h S0 pl).toInt ≤ 57) (K : ∀ v pl', pl < pl' → pl' ≤ 240 → Q (some (.int v)) (p_S S0 (pl') cs sk cl (Int32.ofInt 0) nc sg ov bh op na) R) (Kb : ∀ v pl' (b : Int32), pl < pl' → pl' ≤ 240 → b.toInt < 0 → Q (some (.int v)) (p_S S0 (pl') cs sk cl b nc sg ov bh op na) R) : w_T L xs (d + 2) m_X12_reads 0 (lv_args 0 [.ref 100]) [] (p_S S0 pl cs sk cl (Int32.ofInt 0) nc sg ov bh op na) R Q := by
  have hlt := p_h_lt (p_dg0 hd)
  refine w_st rfl (fun _ => rfl) ?_
  show w_T L xs (d + 2) m_X12_reads 1 [(0, .ref 100)] [.ref 100] (p_S S0 pl cs sk cl (Int32.ofInt 0) nc sg ov bh op na) R Q
  refine w_get rfl v_tyM rfl ?_
  refine w_st rfl (fun _ => rfl) ?_
  refine w_st rfl (fun _ => rfl) ?_
  refine w_st rfl (fun _ => rfl) ?_
  show w_T L xs (d + 2) m_X12_reads 7 [(2, .int (Int32.ofInt 0)), (1, .int (Int32.ofInt (pl : Int))), (0, .ref 100)] [] (p_S S0 pl cs sk cl (Int32.ofInt 0) nc sg ov bh op na) R Q
  refine w_st rfl (fun _ => rfl) ?_
  show w_T L xs (d + 2) m_X12_reads 8 [(2, .int (Int32.ofInt 0)), (1, .int (Int32.ofInt (pl : Int))), (0, .ref 100)] [.ref 100] (p_S S0 pl cs sk cl (Int32.ofInt 0) nc sg ov bh op na) R Q
  refine w_cv rfl (by decide) mt_X12_isGood v_tyM rfl rfl rfl (Nat.le_of_ble_eq_true rfl) (Nat.le_of_ble_eq_true rfl) (Nat.le_of_ble_eq_true rfl) ?_
  show w_T L xs _ m_X12_isGood 0 (lv_args 0 [.ref 100]) [] (p_S S0 pl cs sk cl (Int32.ofInt 0) nc sg ov bh op na) R _
  refine h_isGT ?_
  show w_T L xs (d + 2) m_X12_reads 11 [(2, .int (Int32.ofInt 0)), (1, .int (Int32.ofInt (pl : Int))), (0, .ref 100)] [.int (Int32.ofInt 1)] (p_S S0 pl cs sk cl (Int32.ofInt 0) nc sg ov bh op na) R Q
  refine w_st rfl (fun _ => rfl) ?_
  refine w_st rfl (fun _ => rfl) ?_
  show w_T L xs (d + 2) m_X12_reads 15 [(2, .int (Int32.ofInt 0)), (1, .int (Int32.ofInt (pl : Int))), (0, .ref 100)] [.ref 100] (p_S S0 pl cs sk cl (Int32.ofInt 0) nc sg ov bh op na) R Q
  refine w_cv rfl (by decide) mt_X12_seesDigit v_tyM rfl rfl rfl (Nat.le_of_ble_eq_true rfl) (Nat.le_of_ble_eq_true rfl) (Nat.le_of_ble_eq_true rfl) ?_
  show w_T L xs _ m_X12_seesDigit 0 (lv_args 0 [.ref 100]) [] (p_S S0 pl cs sk cl (Int32.ofInt 0) nc sg ov bh op na) R _
  refine h_dig (by omega) (fun g15 => ?_) (fun g15 => absurd hd g15)
  show w_T L xs (d + 2) m_X12_reads 18 [(2, .int (Int32.ofInt 0)), (1, .int (Int32.ofInt (pl : Int))), (0, .ref 100)] [.int (Int32.ofInt 1)] (p_S S0 pl cs sk cl (Int32.ofInt 0) nc sg ov bh op na) R Q
  refine w_st rfl (fun _ => rfl) ?_
  refine w_st rfl (fun _ => rfl) ?_
  show w_T L xs (d + 2) m_X12_reads 22 [(2, .int (Int32.ofInt 0)), (1, .int (Int32.ofInt (pl : Int))), (0, .ref 100)] [.ref 100] (p_S S0 pl cs sk cl (Int32.ofInt 0) nc sg ov bh op na) R Q
  refine w_get rfl v_tyM rfl ?_
  refine w_st rfl (fun _ => rfl) ?_
  refine w_st rfl (fun _ => rfl) ?_
  refine w_st rfl (fun _ => rfl) ?_
  show w_T L xs (d + 2) m_X12_reads 28 [(2, .int (Int32.ofInt 0)), (1, .int (Int32.ofInt (pl : Int))), (0, .ref 100)] [.int ((Int32.ofInt (pl : Int)) + (Int32.ofInt 5)), .int (Int32.ofInt (pl : Int))] (p_S S0 pl cs sk cl (Int32.ofInt 0) nc sg ov bh op na) R Q
  refine w_br (P := ¬ (Int32.ofInt (pl : Int)) = ((Int32.ofInt (pl : Int)) + (Int32.ofInt 5))) rfl (fun _ => rfl) (fun h28 => ?_) (fun h28 => ?_)
  · refine w_st rfl (fun _ => rfl) ?_
    refine w_st rfl (fun _ => rfl) ?_
    refine w_st rfl (fun _ => rfl) ?_
    refine w_st rfl (fun _ => rfl) ?_
    show w_T L xs (d + 2) m_X12_reads 45 [(2, .int (Int32.ofInt 0)), (1, .int (Int32.ofInt (pl : Int))), (0, .ref 100)] [.ref 100, .int ((Int32.ofInt 10) * (Int32.ofInt 0))] (p_S S0 pl cs sk cl (Int32.ofInt 0) nc sg ov bh op na) R Q
    refine w_cv rfl (by decide) mt_X12_here v_tyM rfl rfl rfl (Nat.le_of_ble_eq_true rfl) (Nat.le_of_ble_eq_true rfl) (Nat.le_of_ble_eq_true rfl) ?_
    show w_T L xs _ m_X12_here 0 (lv_args 0 [.ref 100]) [] (p_S S0 pl cs sk cl (Int32.ofInt 0) nc sg ov bh op na) R _
    refine h_here (by omega) ?_
    refine w_st rfl (fun _ => rfl) ?_
    refine w_st rfl (fun _ => rfl) ?_
    refine w_st rfl (fun _ => rfl) ?_
    refine w_st rfl (fun _ => rfl) ?_
    refine w_st rfl (fun _ => rfl) ?_
    refine w_st rfl (fun _ => rfl) ?_
    show w_T L xs (d + 2) m_X12_reads 55 [(2, .int ((((Int32.ofInt 10) * (Int32.ofInt 0)) + (p_h S0 pl)) - (Int32.ofInt 48))), (1, .int (Int32.ofInt (pl : Int))), (0, .ref 100)] [.ref 100, .ref 100] (p_S S0 pl cs sk cl (Int32.ofInt 0) nc sg ov bh op na) R Q
    refine w_get rfl v_tyM rfl ?_
    refine w_st rfl (fun _ => rfl) ?_
    refine w_st rfl (fun _ => rfl) ?_
    show w_T L xs (d + 2) m_X12_reads 60 [(2, .int ((((Int32.ofInt 10) * (Int32.ofInt 0)) + (p_h S0 pl)) - (Int32.ofInt 48))), (1, .int (Int32.ofInt (pl : Int))), (0, .ref 100)] [.int ((Int32.ofInt (pl : Int)) + (Int32.ofInt 1)), .ref 100] (p_S S0 pl cs sk cl (Int32.ofInt 0) nc sg ov bh op na) R Q
    refine w_put rfl v_tyM rfl rfl rfl ?_
    refine w_eqS (p_wpl (w_inc _)) ?_
    refine w_st rfl (fun _ => rfl) ?_
    show w_T L xs (d + 2) m_X12_reads 7 [(2, .int ((((Int32.ofInt 10) * (Int32.ofInt 0)) + (p_h S0 pl)) - (Int32.ofInt 48))), (1, .int (Int32.ofInt (pl : Int))), (0, .ref 100)] [] (p_S S0 (pl + 1) cs sk cl (Int32.ofInt 0) nc sg ov bh op na) R Q
    exact h_rdL he _ 240 (pl + 1) _ (by omega) (by omega) (fun v pl' h1 h2 => K v pl' (by omega) h2) (fun v pl' b h1 h2 h3 => Kb v pl' b (by omega) h2 h3)
  · refine w_st rfl (fun _ => rfl) ?_
    refine w_st rfl (fun _ => rfl) ?_
    refine w_st rfl (fun _ => rfl) ?_
    show w_T L xs (d + 2) m_X12_reads 34 [(2, .int (Int32.ofInt 0)), (1, .int (Int32.ofInt (pl : Int))), (0, .ref 100)] [.ref 100, .int (Int32.ofInt 2), .ref 100] (p_S S0 pl cs sk cl (Int32.ofInt 0) nc sg ov bh op na) R Q
    refine w_get rfl v_tyM rfl ?_
    show w_T L xs (d + 2) m_X12_reads 37 [(2, .int (Int32.ofInt 0)), (1, .int (Int32.ofInt (pl : Int))), (0, .ref 100)] [.int (Int32.ofInt (pl : Int)), .int (Int32.ofInt 2), .ref 100] (p_S S0 pl cs sk cl (Int32.ofInt 0) nc sg ov bh op na) R Q
    refine w_cv rfl (by decide) mt_X12_wrongs v_tyM rfl rfl rfl (Nat.le_of_ble_eq_true rfl) (Nat.le_of_ble_eq_true rfl) (Nat.le_of_ble_eq_true rfl) ?_
    show w_T L xs _ m_X12_wrongs 0 (lv_args 0 [.ref 100, .int (Int32.ofInt 2), .int (Int32.ofInt (pl : Int))]) [] (p_S S0 pl cs sk cl (Int32.ofInt 0) nc sg ov bh op na) R _
    refine h_wr (by decide) (by decide) (by rw [w_nat (by omega)]; omega) (by rw [w_nat (by omega)]; omega) (fun b37 hb37 => ?_)
    refine w_st rfl (fun _ => rfl) ?_
    refine w_st rfl (fun _ => rfl) ?_
    refine w_st rfl (fun _ => rfl) ?_
    refine w_st rfl (fun _ => rfl) ?_
    show w_T L xs (d + 2) m_X12_reads 45 [(2, .int (Int32.ofInt 0)), (1, .int (Int32.ofInt (pl : Int))), (0, .ref 100)] [.ref 100, .int ((Int32.ofInt 10) * (Int32.ofInt 0))] (p_S S0 pl cs sk cl b37 nc sg ov bh op na) R Q
    refine w_cv rfl (by decide) mt_X12_here v_tyM rfl rfl rfl (Nat.le_of_ble_eq_true rfl) (Nat.le_of_ble_eq_true rfl) (Nat.le_of_ble_eq_true rfl) ?_
    show w_T L xs _ m_X12_here 0 (lv_args 0 [.ref 100]) [] (p_S S0 pl cs sk cl b37 nc sg ov bh op na) R _
    refine h_here (by omega) ?_
    refine w_st rfl (fun _ => rfl) ?_
    refine w_st rfl (fun _ => rfl) ?_
    refine w_st rfl (fun _ => rfl) ?_
    refine w_st rfl (fun _ => rfl) ?_
    refine w_st rfl (fun _ => rfl) ?_
    refine w_st rfl (fun _ => rfl) ?_
    show w_T L xs (d + 2) m_X12_reads 55 [(2, .int ((((Int32.ofInt 10) * (Int32.ofInt 0)) + (p_h S0 pl)) - (Int32.ofInt 48))), (1, .int (Int32.ofInt (pl : Int))), (0, .ref 100)] [.ref 100, .ref 100] (p_S S0 pl cs sk cl b37 nc sg ov bh op na) R Q
    refine w_get rfl v_tyM rfl ?_
    refine w_st rfl (fun _ => rfl) ?_
    refine w_st rfl (fun _ => rfl) ?_
    show w_T L xs (d + 2) m_X12_reads 60 [(2, .int ((((Int32.ofInt 10) * (Int32.ofInt 0)) + (p_h S0 pl)) - (Int32.ofInt 48))), (1, .int (Int32.ofInt (pl : Int))), (0, .ref 100)] [.int ((Int32.ofInt (pl : Int)) + (Int32.ofInt 1)), .ref 100] (p_S S0 pl cs sk cl b37 nc sg ov bh op na) R Q
    refine w_put rfl v_tyM rfl rfl rfl ?_
    refine w_eqS (p_wpl (w_inc _)) ?_
    refine w_st rfl (fun _ => rfl) ?_
    show w_T L xs (d + 2) m_X12_reads 7 [(2, .int ((((Int32.ofInt 10) * (Int32.ofInt 0)) + (p_h S0 pl)) - (Int32.ofInt 48))), (1, .int (Int32.ofInt (pl : Int))), (0, .ref 100)] [] (p_S S0 (pl + 1) cs sk cl b37 nc sg ov bh op na) R Q
    refine w_st rfl (fun _ => rfl) ?_
    show w_T L xs (d + 2) m_X12_reads 8 [(2, .int ((((Int32.ofInt 10) * (Int32.ofInt 0)) + (p_h S0 pl)) - (Int32.ofInt 48))), (1, .int (Int32.ofInt (pl : Int))), (0, .ref 100)] [.ref 100] (p_S S0 (pl + 1) cs sk cl b37 nc sg ov bh op na) R Q
    refine w_cv rfl (by decide) mt_X12_isGood v_tyM rfl rfl rfl (Nat.le_of_ble_eq_true rfl) (Nat.le_of_ble_eq_true rfl) (Nat.le_of_ble_eq_true rfl) ?_
    show w_T L xs _ m_X12_isGood 0 (lv_args 0 [.ref 100]) [] (p_S S0 (pl + 1) cs sk cl b37 nc sg ov bh op na) R _
    refine h_isGF hb37 ?_
    show w_T L xs (d + 2) m_X12_reads 11 [(2, .int ((((Int32.ofInt 10) * (Int32.ofInt 0)) + (p_h S0 pl)) - (Int32.ofInt 48))), (1, .int (Int32.ofInt (pl : Int))), (0, .ref 100)] [.int (Int32.ofInt 0)] (p_S S0 (pl + 1) cs sk cl b37 nc sg ov bh op na) R Q
    refine w_st rfl (fun _ => rfl) ?_
    refine w_st rfl (fun _ => rfl) ?_
    show w_T L xs (d + 2) m_X12_reads 67 [(2, .int ((((Int32.ofInt 10) * (Int32.ofInt 0)) + (p_h S0 pl)) - (Int32.ofInt 48))), (1, .int (Int32.ofInt (pl : Int))), (0, .ref 100)] [.int ((((Int32.ofInt 10) * (Int32.ofInt 0)) + (p_h S0 pl)) - (Int32.ofInt 48))] (p_S S0 (pl + 1) cs sk cl b37 nc sg ov bh op na) R Q
    refine w_ret rfl (by rfl) ?_
    exact Kb _ _ _ (by omega) (by omega) hb37
theorem h_suS {q b : Nat} {nc0 sg0 : Nat → Int32} (u : Int32) (hI : p_I q nc0 cs sk nc sg 1) (hV : p_V b sg0 sk sg) (hb : cs + sk ≤ pl) (hp : pl ≤ 240) (K0 : b < sk → p_I q nc0 (cs + 1) (sk - 1) (upd nc cs (p_tp sg sk)) sg 1 → w_T L xs (d + 2) m_X12_sums 0 [(0, .ref 100), (1, .int u)] [] (p_S S0 pl (cs + 1) (sk - 1) cl (Int32.ofInt 0) (upd nc cs (p_tp sg sk)) sg ov bh op (upd na cs (Int32.ofInt 0))) R Q) (K : ¬ p_ti (p_tp sg sk) → (¬ u = 0 → ¬ p_pl (p_tp sg sk)) → Q none (p_S S0 pl cs sk cl (Int32.ofInt 0) nc sg ov bh op na) R) : w_T L xs (d + 2) m_X12_sums 0 [(0, .ref 100), (1, .int u)] [] (p_S S0 pl cs sk cl (Int32.ofInt 0) nc sg ov bh op na) R Q := by
  have hsk : sk ≤ 240 := by omega
  refine w_st rfl (fun _ => rfl) ?_
  show w_T L xs (d + 2) m_X12_sums 1 [(0, .ref 100), (1, .int u)] [.ref 100] (p_S S0 pl cs sk cl (Int32.ofInt 0) nc sg ov bh op na) R Q
  refine w_cv rfl (by decide) mt_X12_top v_tyM rfl rfl rfl (Nat.le_of_ble_eq_true rfl) (Nat.le_of_ble_eq_true rfl) (Nat.le_of_ble_eq_true rfl) ?_
  show w_T L xs _ m_X12_top 0 (lv_args 0 [.ref 100]) [] (p_S S0 pl cs sk cl (Int32.ofInt 0) nc sg ov bh op na) R _
  refine h_top (by omega) ?_
  show w_T L xs (d + 2) m_X12_sums 4 [(0, .ref 100), (1, .int u)] [.int (p_tp sg sk)] (p_S S0 pl cs sk cl (Int32.ofInt 0) nc sg ov bh op na) R Q
  refine w_cs rfl (by decide) mt_X12_isTimes (fun _ => rfl) (Nat.le_of_ble_eq_true rfl) (Nat.le_of_ble_eq_true rfl) ?_
  show w_T L xs _ m_X12_isTimes 0 (lv_args 0 [.int (p_tp sg sk)]) [] (p_S S0 pl cs sk cl (Int32.ofInt 0) nc sg ov bh op na) R _
  refine h_isTimes _ (fun c4 => ?_) (fun c4 => ?_)
  · obtain ⟨hk, hI2⟩ := p_I_bin hI (p_bi_ti c4)
    have hbk := p_V_top hV (Or.inl c4)
    show w_T L xs (d + 2) m_X12_sums 7 [(0, .ref 100), (1, .int u)] [.int (Int32.ofInt 1)] (p_S S0 pl cs sk cl (Int32.ofInt 0) nc sg ov bh op na) R Q
    refine w_st rfl (fun _ => rfl) ?_
    refine w_st rfl (fun _ => rfl) ?_
    refine w_st rfl (fun _ => rfl) ?_
    show w_T L xs (d + 2) m_X12_sums 26 [(0, .ref 100), (1, .int u)] [.ref 100, .ref 100] (p_S S0 pl cs sk cl (Int32.ofInt 0) nc sg ov bh op na) R Q
    refine w_cv rfl (by decide) mt_X12_top v_tyM rfl rfl rfl (Nat.le_of_ble_eq_true rfl) (Nat.le_of_ble_eq_true rfl) (Nat.le_of_ble_eq_true rfl) ?_
    show w_T L xs _ m_X12_top 0 (lv_args 0 [.ref 100]) [] (p_S S0 pl cs sk cl (Int32.ofInt 0) nc sg ov bh op na) R _
    refine h_top (by omega) ?_
    refine w_st rfl (fun _ => rfl) ?_
    show w_T L xs (d + 2) m_X12_sums 30 [(0, .ref 100), (1, .int u)] [.int (Int32.ofInt 0), .int (p_tp sg sk), .ref 100] (p_S S0 pl cs sk cl (Int32.ofInt 0) nc sg ov bh op na) R Q
    refine w_cv rfl (by decide) mt_X12_emit v_tyM rfl rfl rfl (Nat.le_of_ble_eq_true rfl) (Nat.le_of_ble_eq_true rfl) (Nat.le_of_ble_eq_true rfl) ?_
    show w_T L xs _ m_X12_emit 0 (lv_args 0 [.ref 100, .int (p_tp sg sk), .int (Int32.ofInt 0)]) [] (p_S S0 pl cs sk cl (Int32.ofInt 0) nc sg ov bh op na) R _
    refine h_emG (by omega) ?_
    refine w_st rfl (fun _ => rfl) ?_
    refine w_st rfl (fun _ => rfl) ?_
    show w_T L xs (d + 2) m_X12_sums 35 [(0, .ref 100), (1, .int u)] [.ref 100, .ref 100] (p_S S0 pl (cs + 1) sk cl (Int32.ofInt 0) (upd nc cs (p_tp sg sk)) sg ov bh op (upd na cs (Int32.ofInt 0))) R Q
    refine w_get rfl v_tyM rfl ?_
    refine w_st rfl (fun _ => rfl) ?_
    refine w_st rfl (fun _ => rfl) ?_
    show w_T L xs (d + 2) m_X12_sums 40 [(0, .ref 100), (1, .int u)] [.int ((Int32.ofInt (sk : Int)) - (Int32.ofInt 1)), .ref 100] (p_S S0 pl (cs + 1) sk cl (Int32.ofInt 0) (upd nc cs (p_tp sg sk)) sg ov bh op (upd na cs (Int32.ofInt 0))) R Q
    refine w_put rfl v_tyM rfl rfl rfl ?_
    refine w_eqS (p_wsk (w_dec2 (by omega))) ?_
    refine w_st rfl (fun _ => rfl) ?_
    show w_T L xs (d + 2) m_X12_sums 0 [(0, .ref 100), (1, .int u)] [] (p_S S0 pl (cs + 1) (sk - 1) cl (Int32.ofInt 0) (upd nc cs (p_tp sg sk)) sg ov bh op (upd na cs (Int32.ofInt 0))) R Q
    exact K0 hbk hI2
  · show w_T L xs (d + 2) m_X12_sums 7 [(0, .ref 100), (1, .int u)] [.int (Int32.ofInt 0)] (p_S S0 pl cs sk cl (Int32.ofInt 0) nc sg ov bh op na) R Q
    refine w_st rfl (fun _ => rfl) ?_
    refine w_st rfl (fun _ => rfl) ?_
    show w_T L xs (d + 2) m_X12_sums 11 [(0, .ref 100), (1, .int u)] [.int u] (p_S S0 pl cs sk cl (Int32.ofInt 0) nc sg ov bh op na) R Q
    refine w_br (P := u = 0) rfl (fun _ => rfl) (fun h11 => ?_) (fun h11 => ?_)
    · have hu := K c4 (fun h => absurd h11 h)
      refine w_ret rfl rfl ?_
      first | exact K c4 (fun h => absurd h11 h) | exact K c4 (fun _ => c18)
    · refine w_st rfl (fun _ => rfl) ?_
      show w_T L xs (d + 2) m_X12_sums 15 [(0, .ref 100), (1, .int u)] [.ref 100] (p_S S0 pl cs sk cl (Int32.ofInt 0) nc sg ov bh op na) R Q
      refine w_cv rfl (by decide) mt_X12_top v_tyM rfl rfl rfl (Nat.le_of_ble_eq_true rfl) (Nat.le_of_ble_eq_true rfl) (Nat.le_of_ble_eq_true rfl) ?_
      show w_T L xs _ m_X12_top 0 (lv_args 0 [.ref 100]) [] (p_S S0 pl cs sk cl (Int32.ofInt 0) nc sg ov bh op na) R _
      refine h_top (by omega) ?_
      show w_T L xs (d + 2) m_X12_sums 18 [(0, .ref 100), (1, .int u)] [.int (p_tp sg sk)] (p_S S0 pl cs sk cl (Int32.ofInt 0) nc sg ov bh op na) R Q
      refine w_cs rfl (by decide) mt_X12_isPlus (fun _ => rfl) (Nat.le_of_ble_eq_true rfl) (Nat.le_of_ble_eq_true rfl) ?_
      show w_T L xs _ m_X12_isPlus 0 (lv_args 0 [.int (p_tp sg sk)]) [] (p_S S0 pl cs sk cl (Int32.ofInt 0) nc sg ov bh op na) R _
      refine h_isPlus _ (fun c18 => ?_) (fun c18 => ?_)
      · obtain ⟨hk, hI2⟩ := p_I_bin hI (p_bi_pl c18)
        have hbk := p_V_top hV (Or.inr (Or.inl c18))
        show w_T L xs (d + 2) m_X12_sums 21 [(0, .ref 100), (1, .int u)] [.int (Int32.ofInt 1)] (p_S S0 pl cs sk cl (Int32.ofInt 0) nc sg ov bh op na) R Q
        refine w_st rfl (fun _ => rfl) ?_
        refine w_st rfl (fun _ => rfl) ?_
        refine w_st rfl (fun _ => rfl) ?_
        show w_T L xs (d + 2) m_X12_sums 26 [(0, .ref 100), (1, .int u)] [.ref 100, .ref 100] (p_S S0 pl cs sk cl (Int32.ofInt 0) nc sg ov bh op na) R Q
        refine w_cv rfl (by decide) mt_X12_top v_tyM rfl rfl rfl (Nat.le_of_ble_eq_true rfl) (Nat.le_of_ble_eq_true rfl) (Nat.le_of_ble_eq_true rfl) ?_
        show w_T L xs _ m_X12_top 0 (lv_args 0 [.ref 100]) [] (p_S S0 pl cs sk cl (Int32.ofInt 0) nc sg ov bh op na) R _
        refine h_top (by omega) ?_
        refine w_st rfl (fun _ => rfl) ?_
        show w_T L xs (d + 2) m_X12_sums 30 [(0, .ref 100), (1, .int u)] [.int (Int32.ofInt 0), .int (p_tp sg sk), .ref 100] (p_S S0 pl cs sk cl (Int32.ofInt 0) nc sg ov bh op na) R Q
        refine w_cv rfl (by decide) mt_X12_emit v_tyM rfl rfl rfl (Nat.le_of_ble_eq_true rfl) (Nat.le_of_ble_eq_true rfl) (Nat.le_of_ble_eq_true rfl) ?_
        show w_T L xs _ m_X12_emit 0 (lv_args 0 [.ref 100, .int (p_tp sg sk), .int (Int32.ofInt 0)]) [] (p_S S0 pl cs sk cl (Int32.ofInt 0) nc sg ov bh op na) R _
        refine h_emG (by omega) ?_
        refine w_st rfl (fun _ => rfl) ?_
        refine w_st rfl (fun _ => rfl) ?_
        show w_T L xs (d + 2) m_X12_sums 35 [(0, .ref 100), (1, .int u)] [.ref 100, .ref 100] (p_S S0 pl (cs + 1) sk cl (Int32.ofInt 0) (upd nc cs (p_tp sg sk)) sg ov bh op (upd na cs (Int32.ofInt 0))) R Q
        refine w_get rfl v_tyM rfl ?_
        refine w_st rfl (fun _ => rfl) ?_
        refine w_st rfl (fun _ => rfl) ?_
        show w_T L xs (d + 2) m_X12_sums 40 [(0, .ref 100), (1, .int u)] [.int ((Int32.ofInt (sk : Int)) - (Int32.ofInt 1)), .ref 100] (p_S S0 pl (cs + 1) sk cl (Int32.ofInt 0) (upd nc cs (p_tp sg sk)) sg ov bh op (upd na cs (Int32.ofInt 0))) R Q
        refine w_put rfl v_tyM rfl rfl rfl ?_
        refine w_eqS (p_wsk (w_dec2 (by omega))) ?_
        refine w_st rfl (fun _ => rfl) ?_
        show w_T L xs (d + 2) m_X12_sums 0 [(0, .ref 100), (1, .int u)] [] (p_S S0 pl (cs + 1) (sk - 1) cl (Int32.ofInt 0) (upd nc cs (p_tp sg sk)) sg ov bh op (upd na cs (Int32.ofInt 0))) R Q
        exact K0 hbk hI2
      · show w_T L xs (d + 2) m_X12_sums 21 [(0, .ref 100), (1, .int u)] [.int (Int32.ofInt 0)] (p_S S0 pl cs sk cl (Int32.ofInt 0) nc sg ov bh op na) R Q
        refine w_st rfl (fun _ => rfl) ?_
        show w_T L xs (d + 2) m_X12_sums 46 [(0, .ref 100), (1, .int u)] [] (p_S S0 pl cs sk cl (Int32.ofInt 0) nc sg ov bh op na) R Q
        refine w_ret rfl rfl ?_
        first | exact K c4 (fun h => absurd h11 h) | exact K c4 (fun _ => c18)
theorem h_sums (u : Int32) (q b : Nat) (nc0 sg0 : Nat → Int32) (hp : pl ≤ 240) : ∀ (n sk cs : Nat) (nc na : Nat → Int32), sk ≤ n → p_I q nc0 cs sk nc sg 1 → p_V b sg0 sk sg → cs + sk ≤ pl → (∀ (sk' cs' : Nat) (nc' na' : Nat → Int32), p_I q nc0 cs' sk' nc' sg 1 → p_V b sg0 sk' sg → cs' + sk' ≤ pl → ¬ p_ti (p_tp sg sk') → (¬ u = 0 → ¬ p_pl (p_tp sg sk')) → Q none (p_S S0 pl (cs') (sk') cl (Int32.ofInt 0) (nc') sg ov bh op (na')) R) → w_T L xs (d + 2) m_X12_sums 0 (lv_args 0 [.ref 100, .int u]) [] (p_S S0 pl cs sk cl (Int32.ofInt 0) nc sg ov bh op na) R Q := by
  intro n
  induction n with
  | zero =>
    intro sk cs nc na hn hI hV hb K
    exact h_suS u hI hV hb hp (fun h _ => absurd h (by omega)) (fun a b => K _ _ _ _ hI hV hb a b)
  | succ n ih =>
    intro sk cs nc na hn hI hV hb K
    exact h_suS u hI hV hb hp (fun h1 h2 => ih (sk - 1) (cs + 1) _ _ (by omega) h2 (p_V_pop hV h1) (by omega) K) (fun a b => K _ _ _ _ hI hV hb a b)
theorem h_faS {q b : Nat} {nc0 sg0 : Nat → Int32} (he : (S0 99 4).toInt ≤ 240) (hI : p_I q nc0 cs sk nc sg 0) (hV : p_V b sg0 sk sg) (hb : cs + sk ≤ pl) (hp : pl ≤ 240) (K0 : ∀ o, pl < 240 → p_I q nc0 cs (sk + 1) nc (upd sg sk (p_h S0 pl)) 0 → p_V b sg0 (sk + 1) (upd sg sk (p_h S0 pl)) → w_T L xs (d + 3) m_X12_factor 0 [(0, .ref 100)] [] (p_S S0 (pl + 1) cs (sk + 1) cl (Int32.ofInt 0) nc (upd sg sk (p_h S0 pl)) ov bh o na) R Q) (Kg : ∀ (pl' cs' sk' : Nat) (nc' sg' na' : Nat → Int32) (o : Int32), pl < pl' → p_I q nc0 cs' sk' nc' sg' 1 → p_V b sg0 sk' sg' → cs' + sk' ≤ pl' → pl' ≤ 240 → Q none (p_S S0 (pl') (cs') (sk') cl (Int32.ofInt 0) (nc') (sg') ov bh o (na')) R) (Kb : ∀ (pl' cs' sk' : Nat) (b' : Int32) (nc' sg' na' : Nat → Int32) (o : Int32), b'.toInt < 0 → cs' + sk' ≤ pl' → pl' ≤ 240 → Q none (p_S S0 (pl') (cs') (sk') cl (b') (nc') (sg') ov bh o (na')) R) : w_T L xs (d + 3) m_X12_factor 0 [(0, .ref 100)] [] (p_S S0 pl cs sk cl (Int32.ofInt 0) nc sg ov bh op na) R Q := by
  refine w_st rfl (fun _ => rfl) ?_
  show w_T L xs (d + 3) m_X12_factor 1 [(0, .ref 100)] [.ref 100] (p_S S0 pl cs sk cl (Int32.ofInt 0) nc sg ov bh op na) R Q
  refine w_cv rfl (by decide) mt_X12_isGood v_tyM rfl rfl rfl (Nat.le_of_ble_eq_true rfl) (Nat.le_of_ble_eq_true rfl) (Nat.le_of_ble_eq_true rfl) ?_
  show w_T L xs _ m_X12_isGood 0 (lv_args 0 [.ref 100]) [] (p_S S0 pl cs sk cl (Int32.ofInt 0) nc sg ov bh op na) R _
  refine h_isGT ?_
  show w_T L xs (d + 3) m_X12_factor 4 [(0, .ref 100)] [.int (Int32.ofInt 1)] (p_S S0 pl cs sk cl (Int32.ofInt 0) nc sg ov bh op na) R Q
  refine w_st rfl (fun _ => rfl) ?_
  refine w_st rfl (fun _ => rfl) ?_
  show w_T L xs (d + 3) m_X12_factor 8 [(0, .ref 100)] [.ref 100] (p_S S0 pl cs sk cl (Int32.ofInt 0) nc sg ov bh op na) R Q
  refine w_cv rfl (by decide) mt_X12_here v_tyM rfl rfl rfl (Nat.le_of_ble_eq_true rfl) (Nat.le_of_ble_eq_true rfl) (Nat.le_of_ble_eq_true rfl) ?_
  show w_T L xs _ m_X12_here 0 (lv_args 0 [.ref 100]) [] (p_S S0 pl cs sk cl (Int32.ofInt 0) nc sg ov bh op na) R _
  refine h_here (by omega) ?_
  refine w_st rfl (fun _ => rfl) ?_
  show w_T L xs (d + 3) m_X12_factor 13 [(0, .ref 100)] [.int (Int32.ofInt 91), .int (p_h S0 pl)] (p_S S0 pl cs sk cl (Int32.ofInt 0) nc sg ov bh op na) R Q
  refine w_br (P := ¬ (p_h S0 pl) = (Int32.ofInt 91)) rfl (fun _ => rfl) (fun h13 => ?_) (fun h13 => ?_)
  · refine w_st rfl (fun _ => rfl) ?_
    show w_T L xs (d + 3) m_X12_factor 24 [(0, .ref 100)] [.ref 100] (p_S S0 pl cs sk cl (Int32.ofInt 0) nc sg ov bh op na) R Q
    refine w_cv rfl (by decide) mt_X12_isGood v_tyM rfl rfl rfl (Nat.le_of_ble_eq_true rfl) (Nat.le_of_ble_eq_true rfl) (Nat.le_of_ble_eq_true rfl) ?_
    show w_T L xs _ m_X12_isGood 0 (lv_args 0 [.ref 100]) [] (p_S S0 pl cs sk cl (Int32.ofInt 0) nc sg ov bh op na) R _
    refine h_isGT ?_
    show w_T L xs (d + 3) m_X12_factor 27 [(0, .ref 100)] [.int (Int32.ofInt 1)] (p_S S0 pl cs sk cl (Int32.ofInt 0) nc sg ov bh op na) R Q
    refine w_st rfl (fun _ => rfl) ?_
    refine w_st rfl (fun _ => rfl) ?_
    show w_T L xs (d + 3) m_X12_factor 32 [(0, .ref 100)] [.ref 100] (p_S S0 pl cs sk cl (Int32.ofInt 0) nc sg ov bh op na) R Q
    refine w_cv rfl (by decide) mt_X12_seesDigit v_tyM rfl rfl rfl (Nat.le_of_ble_eq_true rfl) (Nat.le_of_ble_eq_true rfl) (Nat.le_of_ble_eq_true rfl) ?_
    show w_T L xs _ m_X12_seesDigit 0 (lv_args 0 [.ref 100]) [] (p_S S0 pl cs sk cl (Int32.ofInt 0) nc sg ov bh op na) R _
    refine h_dig (by omega) (fun g32 => ?_) (fun g32 => ?_)
    · show w_T L xs (d + 3) m_X12_factor 35 [(0, .ref 100)] [.int (Int32.ofInt 1)] (p_S S0 pl cs sk cl (Int32.ofInt 0) nc sg ov bh op na) R Q
      refine w_st rfl (fun _ => rfl) ?_
      refine w_st rfl (fun _ => rfl) ?_
      refine w_st rfl (fun _ => rfl) ?_
      refine w_st rfl (fun _ => rfl) ?_
      show w_T L xs (d + 3) m_X12_factor 41 [(0, .ref 100)] [.ref 100, .int (Int32.ofInt 0), .ref 100] (p_S S0 pl cs sk cl (Int32.ofInt 0) nc sg ov bh op na) R Q
      refine w_cv rfl (by decide) mt_X12_reads v_tyM rfl rfl rfl (Nat.le_of_ble_eq_true rfl) (Nat.le_of_ble_eq_true rfl) (Nat.le_of_ble_eq_true rfl) ?_
      show w_T L xs _ m_X12_reads 0 (lv_args 0 [.ref 100]) [] (p_S S0 pl cs sk cl (Int32.ofInt 0) nc sg ov bh op na) R _
      refine h_reads he (by omega) g32 (fun v1 pl1 l1 l2 => ?_) (fun v1 pl1 b41 l1 l2 hb41 => ?_)
      · show w_T L xs (d + 3) m_X12_factor 44 [(0, .ref 100)] [.int v1, .int (Int32.ofInt 0), .ref 100] (p_S S0 pl1 cs sk cl (Int32.ofInt 0) nc sg ov bh op na) R Q
        refine w_cv rfl (by decide) mt_X12_emit v_tyM rfl rfl rfl (Nat.le_of_ble_eq_true rfl) (Nat.le_of_ble_eq_true rfl) (Nat.le_of_ble_eq_true rfl) ?_
        show w_T L xs _ m_X12_emit 0 (lv_args 0 [.ref 100, .int (Int32.ofInt 0), .int v1]) [] (p_S S0 pl1 cs sk cl (Int32.ofInt 0) nc sg ov bh op na) R _
        refine h_emG (by omega) ?_
        refine w_st rfl (fun _ => rfl) ?_
        show w_T L xs (d + 3) m_X12_factor 91 [(0, .ref 100)] [] (p_S S0 pl1 (cs + 1) sk cl (Int32.ofInt 0) (upd nc cs (Int32.ofInt 0)) sg ov bh op (upd na cs v1)) R Q
        refine w_ret rfl rfl ?_
        exact Kg _ _ _ _ _ _ _ l1 (p_I_op hI (Or.inl rfl)) hV (by omega) (by omega)
      · show w_T L xs (d + 3) m_X12_factor 44 [(0, .ref 100)] [.int v1, .int (Int32.ofInt 0), .ref 100] (p_S S0 pl1 cs sk cl b41 nc sg ov bh op na) R Q
        refine w_cv rfl (by decide) mt_X12_emit v_tyM rfl rfl rfl (Nat.le_of_ble_eq_true rfl) (Nat.le_of_ble_eq_true rfl) (Nat.le_of_ble_eq_true rfl) ?_
        show w_T L xs _ m_X12_emit 0 (lv_args 0 [.ref 100, .int (Int32.ofInt 0), .int v1]) [] (p_S S0 pl1 cs sk cl b41 nc sg ov bh op na) R _
        refine h_emB hb41 ?_
        refine w_st rfl (fun _ => rfl) ?_
        show w_T L xs (d + 3) m_X12_factor 91 [(0, .ref 100)] [] (p_S S0 pl1 cs sk cl b41 nc sg ov bh op na) R Q
        refine w_ret rfl rfl ?_
        exact Kb _ _ _ _ _ _ _ _ hb41 (by omega) (by omega)
    · show w_T L xs (d + 3) m_X12_factor 35 [(0, .ref 100)] [.int (Int32.ofInt 0)] (p_S S0 pl cs sk cl (Int32.ofInt 0) nc sg ov bh op na) R Q
      refine w_st rfl (fun _ => rfl) ?_
      refine w_st rfl (fun _ => rfl) ?_
      show w_T L xs (d + 3) m_X12_factor 51 [(0, .ref 100)] [.ref 100] (p_S S0 pl cs sk cl (Int32.ofInt 0) nc sg ov bh op na) R Q
      refine w_cv rfl (by decide) mt_X12_here v_tyM rfl rfl rfl (Nat.le_of_ble_eq_true rfl) (Nat.le_of_ble_eq_true rfl) (Nat.le_of_ble_eq_true rfl) ?_
      show w_T L xs _ m_X12_here 0 (lv_args 0 [.ref 100]) [] (p_S S0 pl cs sk cl (Int32.ofInt 0) nc sg ov bh op na) R _
      refine h_here (by omega) ?_
      show w_T L xs (d + 3) m_X12_factor 54 [(0, .ref 100)] [.int (p_h S0 pl)] (p_S S0 pl cs sk cl (Int32.ofInt 0) nc sg ov bh op na) R Q
      refine w_cs rfl (by decide) mt_X12_isValue (fun _ => rfl) (Nat.le_of_ble_eq_true rfl) (Nat.le_of_ble_eq_true rfl) ?_
      show w_T L xs _ m_X12_isValue 0 (lv_args 0 [.int (p_h S0 pl)]) [] (p_S S0 pl cs sk cl (Int32.ofInt 0) nc sg ov bh op na) R _
      refine h_isValue _ (fun c54 => ?_) (fun _ => ?_)
      · have hlt := p_h_lt c54
        show w_T L xs (d + 3) m_X12_factor 57 [(0, .ref 100)] [.int (Int32.ofInt 1)] (p_S S0 pl cs sk cl (Int32.ofInt 0) nc sg ov bh op na) R Q
        refine w_st rfl (fun _ => rfl) ?_
        refine w_st rfl (fun _ => rfl) ?_
        refine w_st rfl (fun _ => rfl) ?_
        refine w_st rfl (fun _ => rfl) ?_
        show w_T L xs (d + 3) m_X12_factor 63 [(0, .ref 100)] [.ref 100, .int (Int32.ofInt 1), .ref 100] (p_S S0 pl cs sk cl (Int32.ofInt 0) nc sg ov bh op na) R Q
        refine w_cv rfl (by decide) mt_X12_here v_tyM rfl rfl rfl (Nat.le_of_ble_eq_true rfl) (Nat.le_of_ble_eq_true rfl) (Nat.le_of_ble_eq_true rfl) ?_
        show w_T L xs _ m_X12_here 0 (lv_args 0 [.ref 100]) [] (p_S S0 pl cs sk cl (Int32.ofInt 0) nc sg ov bh op na) R _
        refine h_here (by omega) ?_
        show w_T L xs (d + 3) m_X12_factor 66 [(0, .ref 100)] [.int (p_h S0 pl), .int (Int32.ofInt 1), .ref 100] (p_S S0 pl cs sk cl (Int32.ofInt 0) nc sg ov bh op na) R Q
        refine w_cv rfl (by decide) mt_X12_emit v_tyM rfl rfl rfl (Nat.le_of_ble_eq_true rfl) (Nat.le_of_ble_eq_true rfl) (Nat.le_of_ble_eq_true rfl) ?_
        show w_T L xs _ m_X12_emit 0 (lv_args 0 [.ref 100, .int (Int32.ofInt 1), .int (p_h S0 pl)]) [] (p_S S0 pl cs sk cl (Int32.ofInt 0) nc sg ov bh op na) R _
        refine h_emG (by omega) ?_
        refine w_st rfl (fun _ => rfl) ?_
        refine w_st rfl (fun _ => rfl) ?_
        show w_T L xs (d + 3) m_X12_factor 71 [(0, .ref 100)] [.ref 100, .ref 100] (p_S S0 pl (cs + 1) sk cl (Int32.ofInt 0) (upd nc cs (Int32.ofInt 1)) sg ov bh op (upd na cs (p_h S0 pl))) R Q
        refine w_get rfl v_tyM rfl ?_
        refine w_st rfl (fun _ => rfl) ?_
        refine w_st rfl (fun _ => rfl) ?_
        show w_T L xs (d + 3) m_X12_factor 76 [(0, .ref 100)] [.int ((Int32.ofInt (pl : Int)) + (Int32.ofInt 1)), .ref 100] (p_S S0 pl (cs + 1) sk cl (Int32.ofInt 0) (upd nc cs (Int32.ofInt 1)) sg ov bh op (upd na cs (p_h S0 pl))) R Q
        refine w_put rfl v_tyM rfl rfl rfl ?_
        refine w_eqS (p_wpl (w_inc _)) ?_
        refine w_st rfl (fun _ => rfl) ?_
        show w_T L xs (d + 3) m_X12_factor 91 [(0, .ref 100)] [] (p_S S0 (pl + 1) (cs + 1) sk cl (Int32.ofInt 0) (upd nc cs (Int32.ofInt 1)) sg ov bh op (upd na cs (p_h S0 pl))) R Q
        refine w_ret rfl rfl ?_
        exact Kg _ _ _ _ _ _ _ (by omega) (p_I_op hI (Or.inr rfl)) hV (by omega) (by omega)
      · show w_T L xs (d + 3) m_X12_factor 57 [(0, .ref 100)] [.int (Int32.ofInt 0)] (p_S S0 pl cs sk cl (Int32.ofInt 0) nc sg ov bh op na) R Q
        refine w_st rfl (fun _ => rfl) ?_
        refine w_st rfl (fun _ => rfl) ?_
        refine w_st rfl (fun _ => rfl) ?_
        refine w_st rfl (fun _ => rfl) ?_
        show w_T L xs (d + 3) m_X12_factor 85 [(0, .ref 100)] [.ref 100, .int (Int32.ofInt 1), .ref 100] (p_S S0 pl cs sk cl (Int32.ofInt 0) nc sg ov bh op na) R Q
        refine w_get rfl v_tyM rfl ?_
        show w_T L xs (d + 3) m_X12_factor 88 [(0, .ref 100)] [.int (Int32.ofInt (pl : Int)), .int (Int32.ofInt 1), .ref 100] (p_S S0 pl cs sk cl (Int32.ofInt 0) nc sg ov bh op na) R Q
        refine w_cv rfl (by decide) mt_X12_wrongs v_tyM rfl rfl rfl (Nat.le_of_ble_eq_true rfl) (Nat.le_of_ble_eq_true rfl) (Nat.le_of_ble_eq_true rfl) ?_
        show w_T L xs _ m_X12_wrongs 0 (lv_args 0 [.ref 100, .int (Int32.ofInt 1), .int (Int32.ofInt (pl : Int))]) [] (p_S S0 pl cs sk cl (Int32.ofInt 0) nc sg ov bh op na) R _
        refine h_wr (by decide) (by decide) (by rw [w_nat (by omega)]; omega) (by rw [w_nat (by omega)]; omega) (fun b88 hb88 => ?_)
        show w_T L xs (d + 3) m_X12_factor 91 [(0, .ref 100)] [] (p_S S0 pl cs sk cl b88 nc sg ov bh op na) R Q
        refine w_ret rfl rfl ?_
        exact Kb _ _ _ _ _ _ _ _ hb88 (by omega) (by omega)
  · have e13 := Decidable.of_not_not h13
    have hlt := p_h_lt (S0 := S0) (pl := pl) (by rw [e13]; decide)
    refine w_st rfl (fun _ => rfl) ?_
    show w_T L xs (d + 3) m_X12_factor 17 [(0, .ref 100)] [.ref 100] (p_S S0 pl cs sk cl (Int32.ofInt 0) nc sg ov bh op na) R Q
    refine w_cv rfl (by decide) mt_X12_opens v_tyM rfl rfl rfl (Nat.le_of_ble_eq_true rfl) (Nat.le_of_ble_eq_true rfl) (Nat.le_of_ble_eq_true rfl) ?_
    show w_T L xs _ m_X12_opens 0 (lv_args 0 [.ref 100]) [] (p_S S0 pl cs sk cl (Int32.ofInt 0) nc sg ov bh op na) R _
    refine h_opens (by omega) (by omega) (fun o17 => ?_) (fun o17 b17 hb17 => ?_)
    · show w_T L xs (d + 3) m_X12_factor 20 [(0, .ref 100)] [] (p_S S0 (pl + 1) cs (sk + 1) cl (Int32.ofInt 0) nc (upd sg sk (p_h S0 pl)) ov bh o17 na) R Q
      refine w_st rfl (fun _ => rfl) ?_
      show w_T L xs (d + 3) m_X12_factor 0 [(0, .ref 100)] [] (p_S S0 (pl + 1) cs (sk + 1) cl (Int32.ofInt 0) nc (upd sg sk (p_h S0 pl)) ov bh o17 na) R Q
      exact K0 _ (by omega) (p_I_pn hI (by rw [e13]; decide)) (p_V_psh hV (by rw [e13]; exact Or.inr (Or.inr rfl)))
    · show w_T L xs (d + 3) m_X12_factor 20 [(0, .ref 100)] [] (p_S S0 (pl + 1) cs (sk + 1) cl b17 nc (upd sg sk (p_h S0 pl)) ov bh o17 na) R Q
      refine w_st rfl (fun _ => rfl) ?_
      show w_T L xs (d + 3) m_X12_factor 0 [(0, .ref 100)] [] (p_S S0 (pl + 1) cs (sk + 1) cl b17 nc (upd sg sk (p_h S0 pl)) ov bh o17 na) R Q
      refine w_st rfl (fun _ => rfl) ?_
      show w_T L xs (d + 3) m_X12_factor 1 [(0, .ref 100)] [.ref 100] (p_S S0 (pl + 1) cs (sk + 1) cl b17 nc (upd sg sk (p_h S0 pl)) ov bh o17 na) R Q
      refine w_cv rfl (by decide) mt_X12_isGood v_tyM rfl rfl rfl (Nat.le_of_ble_eq_true rfl) (Nat.le_of_ble_eq_true rfl) (Nat.le_of_ble_eq_true rfl) ?_
      show w_T L xs _ m_X12_isGood 0 (lv_args 0 [.ref 100]) [] (p_S S0 (pl + 1) cs (sk + 1) cl b17 nc (upd sg sk (p_h S0 pl)) ov bh o17 na) R _
      refine h_isGF hb17 ?_
      show w_T L xs (d + 3) m_X12_factor 4 [(0, .ref 100)] [.int (Int32.ofInt 0)] (p_S S0 (pl + 1) cs (sk + 1) cl b17 nc (upd sg sk (p_h S0 pl)) ov bh o17 na) R Q
      refine w_st rfl (fun _ => rfl) ?_
      refine w_st rfl (fun _ => rfl) ?_
      show w_T L xs (d + 3) m_X12_factor 24 [(0, .ref 100)] [.ref 100] (p_S S0 (pl + 1) cs (sk + 1) cl b17 nc (upd sg sk (p_h S0 pl)) ov bh o17 na) R Q
      refine w_cv rfl (by decide) mt_X12_isGood v_tyM rfl rfl rfl (Nat.le_of_ble_eq_true rfl) (Nat.le_of_ble_eq_true rfl) (Nat.le_of_ble_eq_true rfl) ?_
      show w_T L xs _ m_X12_isGood 0 (lv_args 0 [.ref 100]) [] (p_S S0 (pl + 1) cs (sk + 1) cl b17 nc (upd sg sk (p_h S0 pl)) ov bh o17 na) R _
      refine h_isGF hb17 ?_
      show w_T L xs (d + 3) m_X12_factor 27 [(0, .ref 100)] [.int (Int32.ofInt 0)] (p_S S0 (pl + 1) cs (sk + 1) cl b17 nc (upd sg sk (p_h S0 pl)) ov bh o17 na) R Q
      refine w_st rfl (fun _ => rfl) ?_
      show w_T L xs (d + 3) m_X12_factor 30 [(0, .ref 100)] [] (p_S S0 (pl + 1) cs (sk + 1) cl b17 nc (upd sg sk (p_h S0 pl)) ov bh o17 na) R Q
      refine w_ret rfl rfl ?_
      exact Kb _ _ _ _ _ _ _ _ hb17 (by omega) (by omega)
theorem h_factor (q b : Nat) (nc0 sg0 : Nat → Int32) (he : (S0 99 4).toInt ≤ 240) : ∀ (n pl sk : Nat) (sg : Nat → Int32) (op : Int32), 240 ≤ pl + n → p_I q nc0 cs sk nc sg 0 → p_V b sg0 sk sg → cs + sk ≤ pl → pl ≤ 240 → (∀ (pl' cs' sk' : Nat) (nc' sg' na' : Nat → Int32) (o : Int32), pl < pl' → p_I q nc0 cs' sk' nc' sg' 1 → p_V b sg0 sk' sg' → cs' + sk' ≤ pl' → pl' ≤ 240 → Q none (p_S S0 (pl') (cs') (sk') cl (Int32.ofInt 0) (nc') (sg') ov bh o (na')) R) → (∀ (pl' cs' sk' : Nat) (b' : Int32) (nc' sg' na' : Nat → Int32) (o : Int32), b'.toInt < 0 → cs' + sk' ≤ pl' → pl' ≤ 240 → Q none (p_S S0 (pl') (cs') (sk') cl (b') (nc') (sg') ov bh o (na')) R) → w_T L xs (d + 3) m_X12_factor 0 (lv_args 0 [.ref 100]) [] (p_S S0 pl cs sk cl (Int32.ofInt 0) nc sg ov bh op na) R Q := by
  intro n
  induction n with
  | zero =>
    intro pl sk sg op hn hI hV hb hp Kg Kb
    exact h_faS he hI hV hb hp (fun _ h _ _ => absurd h (by omega)) Kg Kb
  | succ n ih =>
    intro pl sk sg op hn hI hV hb hp Kg Kb
    exact h_faS he hI hV hb hp (fun o h h1 h2 => ih (pl + 1) (sk + 1) _ o (by omega) h1 h2 (by omega) (by omega) (fun pl' cs' sk' nc' sg' na' o' l => Kg pl' cs' sk' nc' sg' na' o' (by omega)) Kb) Kg Kb
theorem h_stays {q b : Nat} {nc0 sg0 : Nat → Int32} (he : (S0 99 4).toInt ≤ 240) (hI : p_I q nc0 cs sk nc sg 1) (hV : p_V b sg0 sk sg) (hb : cs + sk ≤ pl) (hp : pl ≤ 240) (K1 : ∀ (cs' sk' : Nat) (nc' sg' na' : Nat → Int32), p_I q nc0 cs' sk' nc' sg' 0 → p_V b sg0 sk' sg' → cs' + sk' ≤ pl + 1 → pl + 1 ≤ 240 → Q (some (.int (Int32.ofInt 1))) (p_S S0 (pl + 1) (cs') (sk') cl (Int32.ofInt 0) (nc') (sg') ov false op (na')) R) (K2 : ∀ (cs' sk' : Nat) (nc' na' : Nat → Int32) (o : Int32), p_I q nc0 cs' sk' nc' sg 1 → p_V b sg0 sk' sg → cs' + sk' ≤ pl + 1 → pl + 1 ≤ 240 → Q (some (.int (Int32.ofInt 1))) (p_S S0 (pl + 1) (cs') (sk') cl (Int32.ofInt 0) (nc') sg ov true o (na')) R) (K3 : ∀ (cs' sk' : Nat) (nc' na' : Nat → Int32), p_I q nc0 cs' sk' nc' sg 1 → p_V b sg0 sk' sg → cs' + sk' ≤ pl → ¬ p_ti (p_tp sg sk') → ¬ p_pl (p_tp sg sk') → Q (some (.int (Int32.ofInt 0))) (p_S S0 pl (cs') (sk') cl (Int32.ofInt 0) (nc') sg ov false op (na')) R) (Kb : ∀ (cs' sk' : Nat) (b' : Int32) (nc' na' : Nat → Int32), b'.toInt < 0 → cs' + sk' ≤ pl → Q (some (.int (Int32.ofInt 0))) (p_S S0 pl (cs') (sk') cl (b') (nc') sg ov false op (na')) R) : w_T L xs (d + 3) m_X12_stays 0 (lv_args 0 [.ref 100]) [] (p_S S0 pl cs sk cl (Int32.ofInt 0) nc sg ov false op na) R Q := by
  refine w_st rfl (fun _ => rfl) ?_
  show w_T L xs (d + 3) m_X12_stays 1 [(0, .ref 100)] [.ref 100] (p_S S0 pl cs sk cl (Int32.ofInt 0) nc sg ov false op na) R Q
  refine w_cv rfl (by decide) mt_X12_here v_tyM rfl rfl rfl (Nat.le_of_ble_eq_true rfl) (Nat.le_of_ble_eq_true rfl) (Nat.le_of_ble_eq_true rfl) ?_
  show w_T L xs _ m_X12_here 0 (lv_args 0 [.ref 100]) [] (p_S S0 pl cs sk cl (Int32.ofInt 0) nc sg ov false op na) R _
  refine h_here (by omega) ?_
  refine w_st rfl (fun _ => rfl) ?_
  refine w_st rfl (fun _ => rfl) ?_
  show w_T L xs (d + 3) m_X12_stays 6 [(1, .int (p_h S0 pl)), (0, .ref 100)] [.int (p_h S0 pl)] (p_S S0 pl cs sk cl (Int32.ofInt 0) nc sg ov false op na) R Q
  refine w_cs rfl (by decide) mt_X12_isTimes (fun _ => rfl) (Nat.le_of_ble_eq_true rfl) (Nat.le_of_ble_eq_true rfl) ?_
  show w_T L xs _ m_X12_isTimes 0 (lv_args 0 [.int (p_h S0 pl)]) [] (p_S S0 pl cs sk cl (Int32.ofInt 0) nc sg ov false op na) R _
  refine h_isTimes _ (fun c6 => ?_) (fun c6 => ?_)
  · have hlt := p_h_lt (fun e => p_ti0 (e ▸ c6))
    have hbi := p_bi_ti c6
    have hvs : p_vs (p_h S0 pl) := Or.inl c6
    show w_T L xs (d + 3) m_X12_stays 9 [(1, .int (p_h S0 pl)), (0, .ref 100)] [.int (Int32.ofInt 1)] (p_S S0 pl cs sk cl (Int32.ofInt 0) nc sg ov false op na) R Q
    refine w_st rfl (fun _ => rfl) ?_
    refine w_st rfl (fun _ => rfl) ?_
    refine w_st rfl (fun _ => rfl) ?_
    show w_T L xs (d + 3) m_X12_stays 21 [(1, .int (p_h S0 pl)), (0, .ref 100)] [.int (p_h S0 pl), .ref 100] (p_S S0 pl cs sk cl (Int32.ofInt 0) nc sg ov false op na) R Q
    refine w_cs rfl (by decide) mt_X12_isPlus (fun _ => rfl) (Nat.le_of_ble_eq_true rfl) (Nat.le_of_ble_eq_true rfl) ?_
    show w_T L xs _ m_X12_isPlus 0 (lv_args 0 [.int (p_h S0 pl)]) [] (p_S S0 pl cs sk cl (Int32.ofInt 0) nc sg ov false op na) R _
    refine h_isPlus _ (fun c21 => ?_) (fun c21 => ?_)
    · show w_T L xs (d + 3) m_X12_stays 24 [(1, .int (p_h S0 pl)), (0, .ref 100)] [.int (Int32.ofInt 1), .ref 100] (p_S S0 pl cs sk cl (Int32.ofInt 0) nc sg ov false op na) R Q
      refine w_cv rfl (by decide) mt_X12_sums v_tyM rfl rfl rfl (Nat.le_of_ble_eq_true rfl) (Nat.le_of_ble_eq_true rfl) (Nat.le_of_ble_eq_true rfl) ?_
      show w_T L xs _ m_X12_sums 0 (lv_args 0 [.ref 100, .int (Int32.ofInt 1)]) [] (p_S S0 pl cs sk cl (Int32.ofInt 0) nc sg ov false op na) R _
      refine h_sums _ q b nc0 sg0 hp sk sk cs nc na (Nat.le_refl _) hI hV hb (fun sk1 cs1 nc1 na1 hI1 hV1 hb1 ht1 hp1 => ?_)
      refine w_st rfl (fun _ => rfl) ?_
      refine w_st rfl (fun _ => rfl) ?_
      show w_T L xs (d + 3) m_X12_stays 29 [(1, .int (p_h S0 pl)), (0, .ref 100)] [.int (p_h S0 pl), .ref 100] (p_S S0 pl cs1 sk1 cl (Int32.ofInt 0) nc1 sg ov false op na1) R Q
      refine w_cv rfl (by decide) mt_X12_puts v_tyM rfl rfl rfl (Nat.le_of_ble_eq_true rfl) (Nat.le_of_ble_eq_true rfl) (Nat.le_of_ble_eq_true rfl) ?_
      show w_T L xs _ m_X12_puts 0 (lv_args 0 [.ref 100, .int (p_h S0 pl)]) [] (p_S S0 pl cs1 sk1 cl (Int32.ofInt 0) nc1 sg ov false op na1) R _
      refine h_puts (by omega) (by omega) ?_
      refine w_st rfl (fun _ => rfl) ?_
      show w_T L xs (d + 3) m_X12_stays 33 [(1, .int (p_h S0 pl)), (0, .ref 100)] [.int (Int32.ofInt 1)] (p_S S0 (pl + 1) cs1 (sk1 + 1) cl (Int32.ofInt 0) nc1 (upd sg sk1 (p_h S0 pl)) ov false op na1) R Q
      refine w_ret rfl (by rfl) ?_
      exact K1 _ _ _ _ _ (p_I_pb hI1 hbi) (p_V_psh hV1 hvs) (by omega) (by omega)
    · show w_T L xs (d + 3) m_X12_stays 24 [(1, .int (p_h S0 pl)), (0, .ref 100)] [.int (Int32.ofInt 0), .ref 100] (p_S S0 pl cs sk cl (Int32.ofInt 0) nc sg ov false op na) R Q
      refine w_cv rfl (by decide) mt_X12_sums v_tyM rfl rfl rfl (Nat.le_of_ble_eq_true rfl) (Nat.le_of_ble_eq_true rfl) (Nat.le_of_ble_eq_true rfl) ?_
      show w_T L xs _ m_X12_sums 0 (lv_args 0 [.ref 100, .int (Int32.ofInt 0)]) [] (p_S S0 pl cs sk cl (Int32.ofInt 0) nc sg ov false op na) R _
      refine h_sums _ q b nc0 sg0 hp sk sk cs nc na (Nat.le_refl _) hI hV hb (fun sk1 cs1 nc1 na1 hI1 hV1 hb1 ht1 hp1 => ?_)
      refine w_st rfl (fun _ => rfl) ?_
      refine w_st rfl (fun _ => rfl) ?_
      show w_T L xs (d + 3) m_X12_stays 29 [(1, .int (p_h S0 pl)), (0, .ref 100)] [.int (p_h S0 pl), .ref 100] (p_S S0 pl cs1 sk1 cl (Int32.ofInt 0) nc1 sg ov false op na1) R Q
      refine w_cv rfl (by decide) mt_X12_puts v_tyM rfl rfl rfl (Nat.le_of_ble_eq_true rfl) (Nat.le_of_ble_eq_true rfl) (Nat.le_of_ble_eq_true rfl) ?_
      show w_T L xs _ m_X12_puts 0 (lv_args 0 [.ref 100, .int (p_h S0 pl)]) [] (p_S S0 pl cs1 sk1 cl (Int32.ofInt 0) nc1 sg ov false op na1) R _
      refine h_puts (by omega) (by omega) ?_
      refine w_st rfl (fun _ => rfl) ?_
      show w_T L xs (d + 3) m_X12_stays 33 [(1, .int (p_h S0 pl)), (0, .ref 100)] [.int (Int32.ofInt 1)] (p_S S0 (pl + 1) cs1 (sk1 + 1) cl (Int32.ofInt 0) nc1 (upd sg sk1 (p_h S0 pl)) ov false op na1) R Q
      refine w_ret rfl (by rfl) ?_
      exact K1 _ _ _ _ _ (p_I_pb hI1 hbi) (p_V_psh hV1 hvs) (by omega) (by omega)
  · show w_T L xs (d + 3) m_X12_stays 9 [(1, .int (p_h S0 pl)), (0, .ref 100)] [.int (Int32.ofInt 0)] (p_S S0 pl cs sk cl (Int32.ofInt 0) nc sg ov false op na) R Q
    refine w_st rfl (fun _ => rfl) ?_
    refine w_st rfl (fun _ => rfl) ?_
    show w_T L xs (d + 3) m_X12_stays 13 [(1, .int (p_h S0 pl)), (0, .ref 100)] [.int (p_h S0 pl)] (p_S S0 pl cs sk cl (Int32.ofInt 0) nc sg ov false op na) R Q
    refine w_cs rfl (by decide) mt_X12_isPlus (fun _ => rfl) (Nat.le_of_ble_eq_true rfl) (Nat.le_of_ble_eq_true rfl) ?_
    show w_T L xs _ m_X12_isPlus 0 (lv_args 0 [.int (p_h S0 pl)]) [] (p_S S0 pl cs sk cl (Int32.ofInt 0) nc sg ov false op na) R _
    refine h_isPlus _ (fun c13 => ?_) (fun c13 => ?_)
    · have hlt := p_h_lt (fun e => p_pl0 (e ▸ c13))
      have hbi := p_bi_pl c13
      have hvs : p_vs (p_h S0 pl) := Or.inr (Or.inl c13)
      show w_T L xs (d + 3) m_X12_stays 16 [(1, .int (p_h S0 pl)), (0, .ref 100)] [.int (Int32.ofInt 1)] (p_S S0 pl cs sk cl (Int32.ofInt 0) nc sg ov false op na) R Q
      refine w_st rfl (fun _ => rfl) ?_
      refine w_st rfl (fun _ => rfl) ?_
      refine w_st rfl (fun _ => rfl) ?_
      show w_T L xs (d + 3) m_X12_stays 21 [(1, .int (p_h S0 pl)), (0, .ref 100)] [.int (p_h S0 pl), .ref 100] (p_S S0 pl cs sk cl (Int32.ofInt 0) nc sg ov false op na) R Q
      refine w_cs rfl (by decide) mt_X12_isPlus (fun _ => rfl) (Nat.le_of_ble_eq_true rfl) (Nat.le_of_ble_eq_true rfl) ?_
      show w_T L xs _ m_X12_isPlus 0 (lv_args 0 [.int (p_h S0 pl)]) [] (p_S S0 pl cs sk cl (Int32.ofInt 0) nc sg ov false op na) R _
      refine h_isPlus _ (fun c21 => ?_) (fun c21 => ?_)
      · show w_T L xs (d + 3) m_X12_stays 24 [(1, .int (p_h S0 pl)), (0, .ref 100)] [.int (Int32.ofInt 1), .ref 100] (p_S S0 pl cs sk cl (Int32.ofInt 0) nc sg ov false op na) R Q
        refine w_cv rfl (by decide) mt_X12_sums v_tyM rfl rfl rfl (Nat.le_of_ble_eq_true rfl) (Nat.le_of_ble_eq_true rfl) (Nat.le_of_ble_eq_true rfl) ?_
        show w_T L xs _ m_X12_sums 0 (lv_args 0 [.ref 100, .int (Int32.ofInt 1)]) [] (p_S S0 pl cs sk cl (Int32.ofInt 0) nc sg ov false op na) R _
        refine h_sums _ q b nc0 sg0 hp sk sk cs nc na (Nat.le_refl _) hI hV hb (fun sk1 cs1 nc1 na1 hI1 hV1 hb1 ht1 hp1 => ?_)
        refine w_st rfl (fun _ => rfl) ?_
        refine w_st rfl (fun _ => rfl) ?_
        show w_T L xs (d + 3) m_X12_stays 29 [(1, .int (p_h S0 pl)), (0, .ref 100)] [.int (p_h S0 pl), .ref 100] (p_S S0 pl cs1 sk1 cl (Int32.ofInt 0) nc1 sg ov false op na1) R Q
        refine w_cv rfl (by decide) mt_X12_puts v_tyM rfl rfl rfl (Nat.le_of_ble_eq_true rfl) (Nat.le_of_ble_eq_true rfl) (Nat.le_of_ble_eq_true rfl) ?_
        show w_T L xs _ m_X12_puts 0 (lv_args 0 [.ref 100, .int (p_h S0 pl)]) [] (p_S S0 pl cs1 sk1 cl (Int32.ofInt 0) nc1 sg ov false op na1) R _
        refine h_puts (by omega) (by omega) ?_
        refine w_st rfl (fun _ => rfl) ?_
        show w_T L xs (d + 3) m_X12_stays 33 [(1, .int (p_h S0 pl)), (0, .ref 100)] [.int (Int32.ofInt 1)] (p_S S0 (pl + 1) cs1 (sk1 + 1) cl (Int32.ofInt 0) nc1 (upd sg sk1 (p_h S0 pl)) ov false op na1) R Q
        refine w_ret rfl (by rfl) ?_
        exact K1 _ _ _ _ _ (p_I_pb hI1 hbi) (p_V_psh hV1 hvs) (by omega) (by omega)
      · show w_T L xs (d + 3) m_X12_stays 24 [(1, .int (p_h S0 pl)), (0, .ref 100)] [.int (Int32.ofInt 0), .ref 100] (p_S S0 pl cs sk cl (Int32.ofInt 0) nc sg ov false op na) R Q
        refine w_cv rfl (by decide) mt_X12_sums v_tyM rfl rfl rfl (Nat.le_of_ble_eq_true rfl) (Nat.le_of_ble_eq_true rfl) (Nat.le_of_ble_eq_true rfl) ?_
        show w_T L xs _ m_X12_sums 0 (lv_args 0 [.ref 100, .int (Int32.ofInt 0)]) [] (p_S S0 pl cs sk cl (Int32.ofInt 0) nc sg ov false op na) R _
        refine h_sums _ q b nc0 sg0 hp sk sk cs nc na (Nat.le_refl _) hI hV hb (fun sk1 cs1 nc1 na1 hI1 hV1 hb1 ht1 hp1 => ?_)
        refine w_st rfl (fun _ => rfl) ?_
        refine w_st rfl (fun _ => rfl) ?_
        show w_T L xs (d + 3) m_X12_stays 29 [(1, .int (p_h S0 pl)), (0, .ref 100)] [.int (p_h S0 pl), .ref 100] (p_S S0 pl cs1 sk1 cl (Int32.ofInt 0) nc1 sg ov false op na1) R Q
        refine w_cv rfl (by decide) mt_X12_puts v_tyM rfl rfl rfl (Nat.le_of_ble_eq_true rfl) (Nat.le_of_ble_eq_true rfl) (Nat.le_of_ble_eq_true rfl) ?_
        show w_T L xs _ m_X12_puts 0 (lv_args 0 [.ref 100, .int (p_h S0 pl)]) [] (p_S S0 pl cs1 sk1 cl (Int32.ofInt 0) nc1 sg ov false op na1) R _
        refine h_puts (by omega) (by omega) ?_
        refine w_st rfl (fun _ => rfl) ?_
        show w_T L xs (d + 3) m_X12_stays 33 [(1, .int (p_h S0 pl)), (0, .ref 100)] [.int (Int32.ofInt 1)] (p_S S0 (pl + 1) cs1 (sk1 + 1) cl (Int32.ofInt 0) nc1 (upd sg sk1 (p_h S0 pl)) ov false op na1) R Q
        refine w_ret rfl (by rfl) ?_
        exact K1 _ _ _ _ _ (p_I_pb hI1 hbi) (p_V_psh hV1 hvs) (by omega) (by omega)
    · show w_T L xs (d + 3) m_X12_stays 16 [(1, .int (p_h S0 pl)), (0, .ref 100)] [.int (Int32.ofInt 0)] (p_S S0 pl cs sk cl (Int32.ofInt 0) nc sg ov false op na) R Q
      refine w_st rfl (fun _ => rfl) ?_
      refine w_st rfl (fun _ => rfl) ?_
      refine w_st rfl (fun _ => rfl) ?_
      show w_T L xs (d + 3) m_X12_stays 36 [(1, .int (p_h S0 pl)), (0, .ref 100)] [.int (Int32.ofInt 1), .ref 100] (p_S S0 pl cs sk cl (Int32.ofInt 0) nc sg ov false op na) R Q
      refine w_cv rfl (by decide) mt_X12_sums v_tyM rfl rfl rfl (Nat.le_of_ble_eq_true rfl) (Nat.le_of_ble_eq_true rfl) (Nat.le_of_ble_eq_true rfl) ?_
      show w_T L xs _ m_X12_sums 0 (lv_args 0 [.ref 100, .int (Int32.ofInt 1)]) [] (p_S S0 pl cs sk cl (Int32.ofInt 0) nc sg ov false op na) R _
      refine h_sums _ q b nc0 sg0 hp sk sk cs nc na (Nat.le_refl _) hI hV hb (fun sk1 cs1 nc1 na1 hI1 hV1 hb1 ht1 hp1 => ?_)
      refine w_st rfl (fun _ => rfl) ?_
      refine w_st rfl (fun _ => rfl) ?_
      show w_T L xs (d + 3) m_X12_stays 42 [(1, .int (p_h S0 pl)), (0, .ref 100)] [.int (Int32.ofInt 93), .int (p_h S0 pl)] (p_S S0 pl cs1 sk1 cl (Int32.ofInt 0) nc1 sg ov false op na1) R Q
      refine w_br (P := (p_h S0 pl) = (Int32.ofInt 93)) rfl (fun _ => rfl) (fun h42 => ?_) (fun h42 => ?_)
      · have hlt := p_h_lt (S0 := S0) (pl := pl) (by rw [h42]; decide)
        refine w_st rfl (fun _ => rfl) ?_
        show w_T L xs (d + 3) m_X12_stays 48 [(1, .int (p_h S0 pl)), (0, .ref 100)] [.ref 100] (p_S S0 pl cs1 sk1 cl (Int32.ofInt 0) nc1 sg ov false op na1) R Q
        refine w_cv rfl (by decide) mt_X12_top v_tyM rfl rfl rfl (Nat.le_of_ble_eq_true rfl) (Nat.le_of_ble_eq_true rfl) (Nat.le_of_ble_eq_true rfl) ?_
        show w_T L xs _ m_X12_top 0 (lv_args 0 [.ref 100]) [] (p_S S0 pl cs1 sk1 cl (Int32.ofInt 0) nc1 sg ov false op na1) R _
        refine h_top (by omega) ?_
        refine w_st rfl (fun _ => rfl) ?_
        show w_T L xs (d + 3) m_X12_stays 53 [(1, .int (p_h S0 pl)), (0, .ref 100)] [.int (Int32.ofInt 91), .int (p_tp sg sk1)] (p_S S0 pl cs1 sk1 cl (Int32.ofInt 0) nc1 sg ov false op na1) R Q
        refine w_br (P := (p_tp sg sk1) = (Int32.ofInt 91)) rfl (fun _ => rfl) (fun h53 => ?_) (fun h53 => ?_)
        · have hbk := p_V_top hV1 (Or.inr (Or.inr h53))
          refine w_st rfl (fun _ => rfl) ?_
          refine w_st rfl (fun _ => rfl) ?_
          show w_T L xs (d + 3) m_X12_stays 69 [(1, .int (p_h S0 pl)), (0, .ref 100)] [.ref 100, .ref 100] (p_S S0 pl cs1 sk1 cl (Int32.ofInt 0) nc1 sg ov false op na1) R Q
          refine w_get rfl v_tyM rfl ?_
          refine w_st rfl (fun _ => rfl) ?_
          refine w_st rfl (fun _ => rfl) ?_
          show w_T L xs (d + 3) m_X12_stays 74 [(1, .int (p_h S0 pl)), (0, .ref 100)] [.int ((Int32.ofInt (sk1 : Int)) - (Int32.ofInt 1)), .ref 100] (p_S S0 pl cs1 sk1 cl (Int32.ofInt 0) nc1 sg ov false op na1) R Q
          refine w_put rfl v_tyM rfl rfl rfl ?_
          refine w_eqS (p_wsk (w_dec2 (by omega))) ?_
          refine w_st rfl (fun _ => rfl) ?_
          refine w_st rfl (fun _ => rfl) ?_
          show w_T L xs (d + 3) m_X12_stays 79 [(1, .int (p_h S0 pl)), (0, .ref 100)] [.ref 100, .ref 100] (p_S S0 pl cs1 (sk1 - 1) cl (Int32.ofInt 0) nc1 sg ov false op na1) R Q
          refine w_get rfl v_tyM rfl ?_
          refine w_st rfl (fun _ => rfl) ?_
          refine w_st rfl (fun _ => rfl) ?_
          show w_T L xs (d + 3) m_X12_stays 84 [(1, .int (p_h S0 pl)), (0, .ref 100)] [.int (op - (Int32.ofInt 1)), .ref 100] (p_S S0 pl cs1 (sk1 - 1) cl (Int32.ofInt 0) nc1 sg ov false op na1) R Q
          refine w_put rfl v_tyM rfl rfl rfl ?_
          refine w_eqS p_wop ?_
          refine w_st rfl (fun _ => rfl) ?_
          refine w_st rfl (fun _ => rfl) ?_
          show w_T L xs (d + 3) m_X12_stays 89 [(1, .int (p_h S0 pl)), (0, .ref 100)] [.ref 100, .ref 100] (p_S S0 pl cs1 (sk1 - 1) cl (Int32.ofInt 0) nc1 sg ov false (op - (Int32.ofInt 1)) na1) R Q
          refine w_get rfl v_tyM rfl ?_
          refine w_st rfl (fun _ => rfl) ?_
          refine w_st rfl (fun _ => rfl) ?_
          show w_T L xs (d + 3) m_X12_stays 94 [(1, .int (p_h S0 pl)), (0, .ref 100)] [.int ((Int32.ofInt (pl : Int)) + (Int32.ofInt 1)), .ref 100] (p_S S0 pl cs1 (sk1 - 1) cl (Int32.ofInt 0) nc1 sg ov false (op - (Int32.ofInt 1)) na1) R Q
          refine w_put rfl v_tyM rfl rfl rfl ?_
          refine w_eqS (p_wpl (w_inc _)) ?_
          refine w_st rfl (fun _ => rfl) ?_
          refine w_st rfl (fun _ => rfl) ?_
          show w_T L xs (d + 3) m_X12_stays 99 [(1, .int (p_h S0 pl)), (0, .ref 100)] [.int (Int32.ofInt 1), .ref 100] (p_S S0 (pl + 1) cs1 (sk1 - 1) cl (Int32.ofInt 0) nc1 sg ov false (op - (Int32.ofInt 1)) na1) R Q
          refine w_put rfl v_tyM rfl rfl rfl ?_
          refine w_eqS (p_wbh (b := true) rfl) ?_
          refine w_st rfl (fun _ => rfl) ?_
          show w_T L xs (d + 3) m_X12_stays 103 [(1, .int (p_h S0 pl)), (0, .ref 100)] [.int (Int32.ofInt 1)] (p_S S0 (pl + 1) cs1 (sk1 - 1) cl (Int32.ofInt 0) nc1 sg ov true (op - (Int32.ofInt 1)) na1) R Q
          refine w_ret rfl (by rfl) ?_
          exact K2 _ _ _ _ _ (p_I_dn hI1 (by omega) (by rw [(p_tp_pos h53 (by decide)).2]; decide)) (p_V_pop hV1 hbk) (by omega) (by omega)
        · refine w_st rfl (fun _ => rfl) ?_
          refine w_st rfl (fun _ => rfl) ?_
          refine w_st rfl (fun _ => rfl) ?_
          show w_T L xs (d + 3) m_X12_stays 59 [(1, .int (p_h S0 pl)), (0, .ref 100)] [.ref 100, .int (Int32.ofInt 1), .ref 100] (p_S S0 pl cs1 sk1 cl (Int32.ofInt 0) nc1 sg ov false op na1) R Q
          refine w_get rfl v_tyM rfl ?_
          show w_T L xs (d + 3) m_X12_stays 62 [(1, .int (p_h S0 pl)), (0, .ref 100)] [.int (Int32.ofInt (pl : Int)), .int (Int32.ofInt 1), .ref 100] (p_S S0 pl cs1 sk1 cl (Int32.ofInt 0) nc1 sg ov false op na1) R Q
          refine w_cv rfl (by decide) mt_X12_wrongs v_tyM rfl rfl rfl (Nat.le_of_ble_eq_true rfl) (Nat.le_of_ble_eq_true rfl) (Nat.le_of_ble_eq_true rfl) ?_
          show w_T L xs _ m_X12_wrongs 0 (lv_args 0 [.ref 100, .int (Int32.ofInt 1), .int (Int32.ofInt (pl : Int))]) [] (p_S S0 pl cs1 sk1 cl (Int32.ofInt 0) nc1 sg ov false op na1) R _
          refine h_wr (by decide) (by decide) (by rw [w_nat (by omega)]; omega) (by rw [w_nat (by omega)]; omega) (fun b62 hb62 => ?_)
          refine w_st rfl (fun _ => rfl) ?_
          show w_T L xs (d + 3) m_X12_stays 66 [(1, .int (p_h S0 pl)), (0, .ref 100)] [.int (Int32.ofInt 0)] (p_S S0 pl cs1 sk1 cl b62 nc1 sg ov false op na1) R Q
          refine w_ret rfl (by rfl) ?_
          exact Kb _ _ _ _ _ hb62 (by omega)
      · refine w_st rfl (fun _ => rfl) ?_
        show w_T L xs (d + 3) m_X12_stays 46 [(1, .int (p_h S0 pl)), (0, .ref 100)] [.int (Int32.ofInt 0)] (p_S S0 pl cs1 sk1 cl (Int32.ofInt 0) nc1 sg ov false op na1) R Q
        refine w_ret rfl (by rfl) ?_
        exact K3 _ _ _ _ hI1 hV1 hb1 ht1 (hp1 (by decide))
theorem h_vT {q b pl0 : Nat} {nc0 sg0 : Nat → Int32} (he : (S0 99 4).toInt ≤ 240) (hI : p_I q nc0 cs sk nc sg 1) (hV : p_V b sg0 sk sg) (hb : cs + sk ≤ pl) (hp : pl ≤ 240) (hgt : pl0 < pl) (K7 : ∀ (pl' cs' sk' : Nat) (nc' sg' na' : Nat → Int32) (o : Int32) (h' : Bool), pl < pl' → p_I q nc0 cs' sk' nc' sg' (bif h' then 1 else 0) → p_V b sg0 sk' sg' → cs' + sk' ≤ pl' → pl' ≤ 240 → w_T L xs (d + 4) m_X12_value 7 [(1, .int (Int32.ofInt 1)), (0, .ref 100)] [] (p_S S0 (pl') (cs') (sk') cl (Int32.ofInt 0) (nc') (sg') ov (h') o (na')) R Q) (Kg : ∀ (pl' cs' : Nat) (nc' sg' na' : Nat → Int32) (o : Int32) (h' : Bool), pl0 < pl' → p_I q nc0 cs' b nc' sg' 1 → (∀ k, k < b → sg' k = sg0 k) → cs' + b ≤ pl' → pl' ≤ 240 → Q none (p_S S0 (pl') (cs') b cl (Int32.ofInt 0) (nc') (sg') ov (h') o (na')) R) (Kb : ∀ (pl' cs' sk' : Nat) (b' : Int32) (nc' sg' na' : Nat → Int32) (o : Int32) (h' : Bool), b'.toInt < 0 → cs' + sk' ≤ pl' → pl' ≤ 240 → Q none (p_S S0 (pl') (cs') (sk') cl (b') (nc') (sg') ov (h') o (na')) R) : w_T L xs (d + 4) m_X12_value 29 [(1, .int (Int32.ofInt 1)), (0, .ref 100)] [] (p_S S0 pl cs sk cl (Int32.ofInt 0) nc sg ov bh op na) R Q := by
  refine w_st rfl (fun _ => rfl) ?_
  refine w_st rfl (fun _ => rfl) ?_
  show w_T L xs (d + 4) m_X12_value 31 [(1, .int (Int32.ofInt 1)), (0, .ref 100)] [.int (Int32.ofInt 0), .ref 100] (p_S S0 pl cs sk cl (Int32.ofInt 0) nc sg ov bh op na) R Q
  refine w_put rfl v_tyM rfl rfl rfl ?_
  refine w_eqS (p_wbh (b := false) rfl) ?_
  refine w_st rfl (fun _ => rfl) ?_
  show w_T L xs (d + 4) m_X12_value 35 [(1, .int (Int32.ofInt 1)), (0, .ref 100)] [.ref 100] (p_S S0 pl cs sk cl (Int32.ofInt 0) nc sg ov false op na) R Q
  refine w_cv rfl (by decide) mt_X12_isGood v_tyM rfl rfl rfl (Nat.le_of_ble_eq_true rfl) (Nat.le_of_ble_eq_true rfl) (Nat.le_of_ble_eq_true rfl) ?_
  show w_T L xs _ m_X12_isGood 0 (lv_args 0 [.ref 100]) [] (p_S S0 pl cs sk cl (Int32.ofInt 0) nc sg ov false op na) R _
  refine h_isGT ?_
  show w_T L xs (d + 4) m_X12_value 38 [(1, .int (Int32.ofInt 1)), (0, .ref 100)] [.int (Int32.ofInt 1)] (p_S S0 pl cs sk cl (Int32.ofInt 0) nc sg ov false op na) R Q
  refine w_st rfl (fun _ => rfl) ?_
  refine w_st rfl (fun _ => rfl) ?_
  show w_T L xs (d + 4) m_X12_value 42 [(1, .int (Int32.ofInt 1)), (0, .ref 100)] [.ref 100] (p_S S0 pl cs sk cl (Int32.ofInt 0) nc sg ov false op na) R Q
  refine w_cv rfl (by decide) mt_X12_stays v_tyM rfl rfl rfl (Nat.le_of_ble_eq_true rfl) (Nat.le_of_ble_eq_true rfl) (Nat.le_of_ble_eq_true rfl) ?_
  show w_T L xs _ m_X12_stays 0 (lv_args 0 [.ref 100]) [] (p_S S0 pl cs sk cl (Int32.ofInt 0) nc sg ov false op na) R _
  refine h_stays he hI hV hb hp (fun cs1 sk1 nc1 sg1 na1 i1 i2 i3 i4 => ?_) (fun cs1 sk1 nc1 na1 o1 i1 i2 i3 i4 => ?_) (fun cs1 sk1 nc1 na1 i1 i2 i3 i4 i5 => ?_) (fun cs1 sk1 b42 nc1 na1 hb42 i3 => ?_)
  · show w_T L xs (d + 4) m_X12_value 45 [(1, .int (Int32.ofInt 1)), (0, .ref 100)] [.int (Int32.ofInt 1)] (p_S S0 (pl + 1) cs1 sk1 cl (Int32.ofInt 0) nc1 sg1 ov false op na1) R Q
    refine w_st rfl (fun _ => rfl) ?_
    refine w_st rfl (fun _ => rfl) ?_
    refine w_st rfl (fun _ => rfl) ?_
    refine w_st rfl (fun _ => rfl) ?_
    refine w_st rfl (fun _ => rfl) ?_
    show w_T L xs (d + 4) m_X12_value 7 [(1, .int (Int32.ofInt 1)), (0, .ref 100)] [] (p_S S0 (pl + 1) cs1 sk1 cl (Int32.ofInt 0) nc1 sg1 ov false op na1) R Q
    exact K7 _ _ _ _ _ _ _ false (by omega) i1 i2 i3 i4
  · show w_T L xs (d + 4) m_X12_value 45 [(1, .int (Int32.ofInt 1)), (0, .ref 100)] [.int (Int32.ofInt 1)] (p_S S0 (pl + 1) cs1 sk1 cl (Int32.ofInt 0) nc1 sg ov true o1 na1) R Q
    refine w_st rfl (fun _ => rfl) ?_
    refine w_st rfl (fun _ => rfl) ?_
    refine w_st rfl (fun _ => rfl) ?_
    refine w_st rfl (fun _ => rfl) ?_
    refine w_st rfl (fun _ => rfl) ?_
    show w_T L xs (d + 4) m_X12_value 7 [(1, .int (Int32.ofInt 1)), (0, .ref 100)] [] (p_S S0 (pl + 1) cs1 sk1 cl (Int32.ofInt 0) nc1 sg ov true o1 na1) R Q
    exact K7 _ _ _ _ _ _ _ true (by omega) i1 i2 i3 i4
  · show w_T L xs (d + 4) m_X12_value 45 [(1, .int (Int32.ofInt 1)), (0, .ref 100)] [.int (Int32.ofInt 0)] (p_S S0 pl cs1 sk1 cl (Int32.ofInt 0) nc1 sg ov false op na1) R Q
    refine w_st rfl (fun _ => rfl) ?_
    refine w_st rfl (fun _ => rfl) ?_
    refine w_st rfl (fun _ => rfl) ?_
    refine w_st rfl (fun _ => rfl) ?_
    show w_T L xs (d + 4) m_X12_value 7 [(1, .int (Int32.ofInt 0)), (0, .ref 100)] [] (p_S S0 pl cs1 sk1 cl (Int32.ofInt 0) nc1 sg ov false op na1) R Q
    refine w_st rfl (fun _ => rfl) ?_
    show w_T L xs (d + 4) m_X12_value 8 [(1, .int (Int32.ofInt 0)), (0, .ref 100)] [.int (Int32.ofInt 0)] (p_S S0 pl cs1 sk1 cl (Int32.ofInt 0) nc1 sg ov false op na1) R Q
    refine w_st rfl (fun _ => rfl) ?_
    refine w_st rfl (fun _ => rfl) ?_
    show w_T L xs (d + 4) m_X12_value 58 [(1, .int (Int32.ofInt 0)), (0, .ref 100)] [.ref 100] (p_S S0 pl cs1 sk1 cl (Int32.ofInt 0) nc1 sg ov false op na1) R Q
    refine w_cv rfl (by decide) mt_X12_isGood v_tyM rfl rfl rfl (Nat.le_of_ble_eq_true rfl) (Nat.le_of_ble_eq_true rfl) (Nat.le_of_ble_eq_true rfl) ?_
    show w_T L xs _ m_X12_isGood 0 (lv_args 0 [.ref 100]) [] (p_S S0 pl cs1 sk1 cl (Int32.ofInt 0) nc1 sg ov false op na1) R _
    refine h_isGT ?_
    show w_T L xs (d + 4) m_X12_value 61 [(1, .int (Int32.ofInt 0)), (0, .ref 100)] [.int (Int32.ofInt 1)] (p_S S0 pl cs1 sk1 cl (Int32.ofInt 0) nc1 sg ov false op na1) R Q
    refine w_st rfl (fun _ => rfl) ?_
    refine w_st rfl (fun _ => rfl) ?_
    show w_T L xs (d + 4) m_X12_value 65 [(1, .int (Int32.ofInt 0)), (0, .ref 100)] [.ref 100] (p_S S0 pl cs1 sk1 cl (Int32.ofInt 0) nc1 sg ov false op na1) R Q
    refine w_cv rfl (by decide) mt_X12_top v_tyM rfl rfl rfl (Nat.le_of_ble_eq_true rfl) (Nat.le_of_ble_eq_true rfl) (Nat.le_of_ble_eq_true rfl) ?_
    show w_T L xs _ m_X12_top 0 (lv_args 0 [.ref 100]) [] (p_S S0 pl cs1 sk1 cl (Int32.ofInt 0) nc1 sg ov false op na1) R _
    refine h_top (by omega) ?_
    refine w_st rfl (fun _ => rfl) ?_
    show w_T L xs (d + 4) m_X12_value 70 [(1, .int (Int32.ofInt 0)), (0, .ref 100)] [.int (Int32.ofInt 91), .int (p_tp sg sk1)] (p_S S0 pl cs1 sk1 cl (Int32.ofInt 0) nc1 sg ov false op na1) R Q
    refine w_br (P := ¬ (p_tp sg sk1) = (Int32.ofInt 91)) rfl (fun _ => rfl) (fun h70 => ?_) (fun h70 => ?_)
    · refine w_ret rfl rfl ?_
      have e := p_V_end i2 (fun hv => by rcases hv with hv | hv | hv; exact i4 hv; exact i5 hv; exact h70 hv)
      subst e
      exact Kg _ _ _ _ _ _ _ hgt i1 i2.2.1 (by omega) (by omega)
    · refine w_st rfl (fun _ => rfl) ?_
      refine w_st rfl (fun _ => rfl) ?_
      refine w_st rfl (fun _ => rfl) ?_
      show w_T L xs (d + 4) m_X12_value 76 [(1, .int (Int32.ofInt 0)), (0, .ref 100)] [.ref 100, .int (Int32.ofInt 1), .ref 100] (p_S S0 pl cs1 sk1 cl (Int32.ofInt 0) nc1 sg ov false op na1) R Q
      refine w_get rfl v_tyM rfl ?_
      show w_T L xs (d + 4) m_X12_value 79 [(1, .int (Int32.ofInt 0)), (0, .ref 100)] [.int (Int32.ofInt (pl : Int)), .int (Int32.ofInt 1), .ref 100] (p_S S0 pl cs1 sk1 cl (Int32.ofInt 0) nc1 sg ov false op na1) R Q
      refine w_cv rfl (by decide) mt_X12_wrongs v_tyM rfl rfl rfl (Nat.le_of_ble_eq_true rfl) (Nat.le_of_ble_eq_true rfl) (Nat.le_of_ble_eq_true rfl) ?_
      show w_T L xs _ m_X12_wrongs 0 (lv_args 0 [.ref 100, .int (Int32.ofInt 1), .int (Int32.ofInt (pl : Int))]) [] (p_S S0 pl cs1 sk1 cl (Int32.ofInt 0) nc1 sg ov false op na1) R _
      refine h_wr (by decide) (by decide) (by rw [w_nat (by omega)]; omega) (by rw [w_nat (by omega)]; omega) (fun b79 hb79 => ?_)
      show w_T L xs (d + 4) m_X12_value 82 [(1, .int (Int32.ofInt 0)), (0, .ref 100)] [] (p_S S0 pl cs1 sk1 cl b79 nc1 sg ov false op na1) R Q
      refine w_ret rfl rfl ?_
      exact Kb _ _ _ _ _ _ _ _ _ hb79 (by omega) (by omega)
  · show w_T L xs (d + 4) m_X12_value 45 [(1, .int (Int32.ofInt 1)), (0, .ref 100)] [.int (Int32.ofInt 0)] (p_S S0 pl cs1 sk1 cl b42 nc1 sg ov false op na1) R Q
    refine w_st rfl (fun _ => rfl) ?_
    refine w_st rfl (fun _ => rfl) ?_
    refine w_st rfl (fun _ => rfl) ?_
    refine w_st rfl (fun _ => rfl) ?_
    show w_T L xs (d + 4) m_X12_value 7 [(1, .int (Int32.ofInt 0)), (0, .ref 100)] [] (p_S S0 pl cs1 sk1 cl b42 nc1 sg ov false op na1) R Q
    refine w_st rfl (fun _ => rfl) ?_
    show w_T L xs (d + 4) m_X12_value 8 [(1, .int (Int32.ofInt 0)), (0, .ref 100)] [.int (Int32.ofInt 0)] (p_S S0 pl cs1 sk1 cl b42 nc1 sg ov false op na1) R Q
    refine w_st rfl (fun _ => rfl) ?_
    refine w_st rfl (fun _ => rfl) ?_
    show w_T L xs (d + 4) m_X12_value 58 [(1, .int (Int32.ofInt 0)), (0, .ref 100)] [.ref 100] (p_S S0 pl cs1 sk1 cl b42 nc1 sg ov false op na1) R Q
    refine w_cv rfl (by decide) mt_X12_isGood v_tyM rfl rfl rfl (Nat.le_of_ble_eq_true rfl) (Nat.le_of_ble_eq_true rfl) (Nat.le_of_ble_eq_true rfl) ?_
    show w_T L xs _ m_X12_isGood 0 (lv_args 0 [.ref 100]) [] (p_S S0 pl cs1 sk1 cl b42 nc1 sg ov false op na1) R _
    refine h_isGF hb42 ?_
    show w_T L xs (d + 4) m_X12_value 61 [(1, .int (Int32.ofInt 0)), (0, .ref 100)] [.int (Int32.ofInt 0)] (p_S S0 pl cs1 sk1 cl b42 nc1 sg ov false op na1) R Q
    refine w_st rfl (fun _ => rfl) ?_
    show w_T L xs (d + 4) m_X12_value 82 [(1, .int (Int32.ofInt 0)), (0, .ref 100)] [] (p_S S0 pl cs1 sk1 cl b42 nc1 sg ov false op na1) R Q
    refine w_ret rfl rfl ?_
    exact Kb _ _ _ _ _ _ _ _ _ hb42 (by omega) (by omega)
theorem h_vS {q b pl0 : Nat} {nc0 sg0 : Nat → Int32} (he : (S0 99 4).toInt ≤ 240) (hI : p_I q nc0 cs sk nc sg (bif bh then 1 else 0)) (hV : p_V b sg0 sk sg) (hb : cs + sk ≤ pl) (hp : pl ≤ 240) (hgt : pl0 ≤ pl) (hgt2 : bh = true → pl0 < pl) (K7 : ∀ (pl' cs' sk' : Nat) (nc' sg' na' : Nat → Int32) (o : Int32) (h' : Bool), pl < pl' → p_I q nc0 cs' sk' nc' sg' (bif h' then 1 else 0) → p_V b sg0 sk' sg' → cs' + sk' ≤ pl' → pl' ≤ 240 → w_T L xs (d + 4) m_X12_value 7 [(1, .int (Int32.ofInt 1)), (0, .ref 100)] [] (p_S S0 (pl') (cs') (sk') cl (Int32.ofInt 0) (nc') (sg') ov (h') o (na')) R Q) (Kg : ∀ (pl' cs' : Nat) (nc' sg' na' : Nat → Int32) (o : Int32) (h' : Bool), pl0 < pl' → p_I q nc0 cs' b nc' sg' 1 → (∀ k, k < b → sg' k = sg0 k) → cs' + b ≤ pl' → pl' ≤ 240 → Q none (p_S S0 (pl') (cs') b cl (Int32.ofInt 0) (nc') (sg') ov (h') o (na')) R) (Kb : ∀ (pl' cs' sk' : Nat) (b' : Int32) (nc' sg' na' : Nat → Int32) (o : Int32) (h' : Bool), b'.toInt < 0 → cs' + sk' ≤ pl' → pl' ≤ 240 → Q none (p_S S0 (pl') (cs') (sk') cl (b') (nc') (sg') ov (h') o (na')) R) : w_T L xs (d + 4) m_X12_value 7 [(1, .int (Int32.ofInt 1)), (0, .ref 100)] [] (p_S S0 pl cs sk cl (Int32.ofInt 0) nc sg ov bh op na) R Q := by
  cases bh with
  | true =>
    have hgt := hgt2 rfl
    refine w_st rfl (fun _ => rfl) ?_
    show w_T L xs (d + 4) m_X12_value 8 [(1, .int (Int32.ofInt 1)), (0, .ref 100)] [.int (Int32.ofInt 1)] (p_S S0 pl cs sk cl (Int32.ofInt 0) nc sg ov true op na) R Q
    refine w_st rfl (fun _ => rfl) ?_
    refine w_st rfl (fun _ => rfl) ?_
    show w_T L xs (d + 4) m_X12_value 12 [(1, .int (Int32.ofInt 1)), (0, .ref 100)] [.ref 100] (p_S S0 pl cs sk cl (Int32.ofInt 0) nc sg ov true op na) R Q
    refine w_cv rfl (by decide) mt_X12_isGood v_tyM rfl rfl rfl (Nat.le_of_ble_eq_true rfl) (Nat.le_of_ble_eq_true rfl) (Nat.le_of_ble_eq_true rfl) ?_
    show w_T L xs _ m_X12_isGood 0 (lv_args 0 [.ref 100]) [] (p_S S0 pl cs sk cl (Int32.ofInt 0) nc sg ov true op na) R _
    refine h_isGT ?_
    show w_T L xs (d + 4) m_X12_value 15 [(1, .int (Int32.ofInt 1)), (0, .ref 100)] [.int (Int32.ofInt 1)] (p_S S0 pl cs sk cl (Int32.ofInt 0) nc sg ov true op na) R Q
    refine w_st rfl (fun _ => rfl) ?_
    refine w_st rfl (fun _ => rfl) ?_
    show w_T L xs (d + 4) m_X12_value 19 [(1, .int (Int32.ofInt 1)), (0, .ref 100)] [.ref 100] (p_S S0 pl cs sk cl (Int32.ofInt 0) nc sg ov true op na) R Q
    refine w_get rfl v_tyM rfl ?_
    show w_T L xs (d + 4) m_X12_value 22 [(1, .int (Int32.ofInt 1)), (0, .ref 100)] [.int (Int32.ofInt 1)] (p_S S0 pl cs sk cl (Int32.ofInt 0) nc sg ov true op na) R Q
    refine w_st rfl (fun _ => rfl) ?_
    show w_T L xs (d + 4) m_X12_value 29 [(1, .int (Int32.ofInt 1)), (0, .ref 100)] [] (p_S S0 pl cs sk cl (Int32.ofInt 0) nc sg ov true op na) R Q
    exact h_vT he hI hV hb hp hgt K7 Kg Kb
  | false =>
    refine w_st rfl (fun _ => rfl) ?_
    show w_T L xs (d + 4) m_X12_value 8 [(1, .int (Int32.ofInt 1)), (0, .ref 100)] [.int (Int32.ofInt 1)] (p_S S0 pl cs sk cl (Int32.ofInt 0) nc sg ov false op na) R Q
    refine w_st rfl (fun _ => rfl) ?_
    refine w_st rfl (fun _ => rfl) ?_
    show w_T L xs (d + 4) m_X12_value 12 [(1, .int (Int32.ofInt 1)), (0, .ref 100)] [.ref 100] (p_S S0 pl cs sk cl (Int32.ofInt 0) nc sg ov false op na) R Q
    refine w_cv rfl (by decide) mt_X12_isGood v_tyM rfl rfl rfl (Nat.le_of_ble_eq_true rfl) (Nat.le_of_ble_eq_true rfl) (Nat.le_of_ble_eq_true rfl) ?_
    show w_T L xs _ m_X12_isGood 0 (lv_args 0 [.ref 100]) [] (p_S S0 pl cs sk cl (Int32.ofInt 0) nc sg ov false op na) R _
    refine h_isGT ?_
    show w_T L xs (d + 4) m_X12_value 15 [(1, .int (Int32.ofInt 1)), (0, .ref 100)] [.int (Int32.ofInt 1)] (p_S S0 pl cs sk cl (Int32.ofInt 0) nc sg ov false op na) R Q
    refine w_st rfl (fun _ => rfl) ?_
    refine w_st rfl (fun _ => rfl) ?_
    show w_T L xs (d + 4) m_X12_value 19 [(1, .int (Int32.ofInt 1)), (0, .ref 100)] [.ref 100] (p_S S0 pl cs sk cl (Int32.ofInt 0) nc sg ov false op na) R Q
    refine w_get rfl v_tyM rfl ?_
    show w_T L xs (d + 4) m_X12_value 22 [(1, .int (Int32.ofInt 1)), (0, .ref 100)] [.int (Int32.ofInt 0)] (p_S S0 pl cs sk cl (Int32.ofInt 0) nc sg ov false op na) R Q
    refine w_st rfl (fun _ => rfl) ?_
    refine w_st rfl (fun _ => rfl) ?_
    show w_T L xs (d + 4) m_X12_value 26 [(1, .int (Int32.ofInt 1)), (0, .ref 100)] [.ref 100] (p_S S0 pl cs sk cl (Int32.ofInt 0) nc sg ov false op na) R Q
    refine w_cv rfl (by decide) mt_X12_factor v_tyM rfl rfl rfl (Nat.le_of_ble_eq_true rfl) (Nat.le_of_ble_eq_true rfl) (Nat.le_of_ble_eq_true rfl) ?_
    show w_T L xs _ m_X12_factor 0 (lv_args 0 [.ref 100]) [] (p_S S0 pl cs sk cl (Int32.ofInt 0) nc sg ov false op na) R _
    refine h_factor q b nc0 sg0 he 240 pl sk sg op (by omega) hI hV hb hp (fun pl1 cs1 sk1 nc1 sg1 na1 o1 l1 i1 i2 i3 i4 => ?_) (fun pl1 cs1 sk1 b26 nc1 sg1 na1 o1 hb26 i3 i4 => ?_)
    · show w_T L xs (d + 4) m_X12_value 29 [(1, .int (Int32.ofInt 1)), (0, .ref 100)] [] (p_S S0 pl1 cs1 sk1 cl (Int32.ofInt 0) nc1 sg1 ov false o1 na1) R Q
      exact h_vT he i1 i2 i3 i4 (by omega) (fun pl' cs' sk' nc' sg' na' o h' l => K7 pl' cs' sk' nc' sg' na' o h' (by omega)) Kg Kb
    · show w_T L xs (d + 4) m_X12_value 29 [(1, .int (Int32.ofInt 1)), (0, .ref 100)] [] (p_S S0 pl1 cs1 sk1 cl b26 nc1 sg1 ov false o1 na1) R Q
      refine w_st rfl (fun _ => rfl) ?_
      refine w_st rfl (fun _ => rfl) ?_
      show w_T L xs (d + 4) m_X12_value 31 [(1, .int (Int32.ofInt 1)), (0, .ref 100)] [.int (Int32.ofInt 0), .ref 100] (p_S S0 pl1 cs1 sk1 cl b26 nc1 sg1 ov false o1 na1) R Q
      refine w_put rfl v_tyM rfl rfl rfl ?_
      refine w_eqS (p_wbh (b := false) rfl) ?_
      refine w_st rfl (fun _ => rfl) ?_
      show w_T L xs (d + 4) m_X12_value 35 [(1, .int (Int32.ofInt 1)), (0, .ref 100)] [.ref 100] (p_S S0 pl1 cs1 sk1 cl b26 nc1 sg1 ov false o1 na1) R Q
      refine w_cv rfl (by decide) mt_X12_isGood v_tyM rfl rfl rfl (Nat.le_of_ble_eq_true rfl) (Nat.le_of_ble_eq_true rfl) (Nat.le_of_ble_eq_true rfl) ?_
      show w_T L xs _ m_X12_isGood 0 (lv_args 0 [.ref 100]) [] (p_S S0 pl1 cs1 sk1 cl b26 nc1 sg1 ov false o1 na1) R _
      refine h_isGF hb26 ?_
      show w_T L xs (d + 4) m_X12_value 38 [(1, .int (Int32.ofInt 1)), (0, .ref 100)] [.int (Int32.ofInt 0)] (p_S S0 pl1 cs1 sk1 cl b26 nc1 sg1 ov false o1 na1) R Q
      refine w_st rfl (fun _ => rfl) ?_
      refine w_st rfl (fun _ => rfl) ?_
      refine w_st rfl (fun _ => rfl) ?_
      refine w_st rfl (fun _ => rfl) ?_
      show w_T L xs (d + 4) m_X12_value 7 [(1, .int (Int32.ofInt 0)), (0, .ref 100)] [] (p_S S0 pl1 cs1 sk1 cl b26 nc1 sg1 ov false o1 na1) R Q
      refine w_st rfl (fun _ => rfl) ?_
      show w_T L xs (d + 4) m_X12_value 8 [(1, .int (Int32.ofInt 0)), (0, .ref 100)] [.int (Int32.ofInt 0)] (p_S S0 pl1 cs1 sk1 cl b26 nc1 sg1 ov false o1 na1) R Q
      refine w_st rfl (fun _ => rfl) ?_
      refine w_st rfl (fun _ => rfl) ?_
      show w_T L xs (d + 4) m_X12_value 58 [(1, .int (Int32.ofInt 0)), (0, .ref 100)] [.ref 100] (p_S S0 pl1 cs1 sk1 cl b26 nc1 sg1 ov false o1 na1) R Q
      refine w_cv rfl (by decide) mt_X12_isGood v_tyM rfl rfl rfl (Nat.le_of_ble_eq_true rfl) (Nat.le_of_ble_eq_true rfl) (Nat.le_of_ble_eq_true rfl) ?_
      show w_T L xs _ m_X12_isGood 0 (lv_args 0 [.ref 100]) [] (p_S S0 pl1 cs1 sk1 cl b26 nc1 sg1 ov false o1 na1) R _
      refine h_isGF hb26 ?_
      show w_T L xs (d + 4) m_X12_value 61 [(1, .int (Int32.ofInt 0)), (0, .ref 100)] [.int (Int32.ofInt 0)] (p_S S0 pl1 cs1 sk1 cl b26 nc1 sg1 ov false o1 na1) R Q
      refine w_st rfl (fun _ => rfl) ?_
      show w_T L xs (d + 4) m_X12_value 82 [(1, .int (Int32.ofInt 0)), (0, .ref 100)] [] (p_S S0 pl1 cs1 sk1 cl b26 nc1 sg1 ov false o1 na1) R Q
      refine w_ret rfl rfl ?_
      exact Kb _ _ _ _ _ _ _ _ _ hb26 (by omega) (by omega)
theorem h_vL (q b pl0 : Nat) (nc0 sg0 : Nat → Int32) (he : (S0 99 4).toInt ≤ 240) (Kg : ∀ (pl' cs' : Nat) (nc' sg' na' : Nat → Int32) (o : Int32) (h' : Bool), pl0 < pl' → p_I q nc0 cs' b nc' sg' 1 → (∀ k, k < b → sg' k = sg0 k) → cs' + b ≤ pl' → pl' ≤ 240 → Q none (p_S S0 (pl') (cs') b cl (Int32.ofInt 0) (nc') (sg') ov (h') o (na')) R) (Kb : ∀ (pl' cs' sk' : Nat) (b' : Int32) (nc' sg' na' : Nat → Int32) (o : Int32) (h' : Bool), b'.toInt < 0 → cs' + sk' ≤ pl' → pl' ≤ 240 → Q none (p_S S0 (pl') (cs') (sk') cl (b') (nc') (sg') ov (h') o (na')) R) : ∀ (n pl cs sk : Nat) (nc sg na : Nat → Int32) (op : Int32) (bh : Bool), 240 ≤ pl + n → pl0 ≤ pl → (bh = true → pl0 < pl) → p_I q nc0 cs sk nc sg (bif bh then 1 else 0) → p_V b sg0 sk sg → cs + sk ≤ pl → pl ≤ 240 → w_T L xs (d + 4) m_X12_value 7 [(1, .int (Int32.ofInt 1)), (0, .ref 100)] [] (p_S S0 pl cs sk cl (Int32.ofInt 0) nc sg ov bh op na) R Q := by
  intro n
  induction n with
  | zero =>
    intro pl cs sk nc sg na op bh hn hgt hgt2 hI hV hb hp
    exact h_vS he hI hV hb hp hgt hgt2 (fun pl' cs' sk' nc' sg' na' o h' l _ _ _ hh => absurd hh (by omega)) Kg Kb
  | succ n ih =>
    intro pl cs sk nc sg na op bh hn hgt hgt2 hI hV hb hp
    exact h_vS he hI hV hb hp hgt hgt2 (fun pl' cs' sk' nc' sg' na' o h' l a1 a2 a3 a4 => ih pl' cs' sk' nc' sg' na' o h' (by omega) (by omega) (fun _ => by omega) a1 a2 a3 a4) Kg Kb
theorem h_value {q : Nat} {nc0 : Nat → Int32} (he : (S0 99 4).toInt ≤ 240) (hI : p_I q nc0 cs sk nc sg 0) (hbase : 0 < sk → ¬ p_vs (sg (sk - 1))) (hb : cs + sk ≤ pl) (hp : pl ≤ 240) (Kg : ∀ (pl' cs' : Nat) (nc' sg' na' : Nat → Int32) (o : Int32) (h' : Bool), pl < pl' → p_I q nc0 cs' sk nc' sg' 1 → (∀ k, k < sk → sg' k = sg k) → cs' + sk ≤ pl' → pl' ≤ 240 → Q none (p_S S0 (pl') (cs') sk cl (Int32.ofInt 0) (nc') (sg') ov (h') o (na')) R) (Kb : ∀ (pl' cs' sk' : Nat) (b' : Int32) (nc' sg' na' : Nat → Int32) (o : Int32) (h' : Bool), b'.toInt < 0 → cs' + sk' ≤ pl' → pl' ≤ 240 → Q none (p_S S0 (pl') (cs') (sk') cl (b') (nc') (sg') ov (h') o (na')) R) : w_T L xs (d + 4) m_X12_value 0 (lv_args 0 [.ref 100]) [] (p_S S0 pl cs sk cl (Int32.ofInt 0) nc sg ov bh op na) R Q := by
  refine w_st rfl (fun _ => rfl) ?_
  refine w_st rfl (fun _ => rfl) ?_
  refine w_st rfl (fun _ => rfl) ?_
  refine w_st rfl (fun _ => rfl) ?_
  show w_T L xs (d + 4) m_X12_value 4 [(1, .int (Int32.ofInt 1)), (0, .ref 100)] [.int (Int32.ofInt 0), .ref 100] (p_S S0 pl cs sk cl (Int32.ofInt 0) nc sg ov bh op na) R Q
  refine w_put rfl v_tyM rfl rfl rfl ?_
  refine w_eqS (p_wbh (b := false) rfl) ?_
  show w_T L xs (d + 4) m_X12_value 7 [(1, .int (Int32.ofInt 1)), (0, .ref 100)] [] (p_S S0 pl cs sk cl (Int32.ofInt 0) nc sg ov false op na) R Q
  exact h_vL q sk pl nc0 sg he Kg Kb 240 pl cs sk nc sg na op false (by omega) (Nat.le_refl _) (fun h => by cases h) hI ⟨Nat.le_refl _, fun _ _ => rfl, fun k h1 h2 => by omega, hbase⟩ hb hp
end PF
end Prt39f
section Prt39g
/-! the reader: conditions -/
section PG
variable {L : Nat} {xs : Nat → Int32} {d : Nat} {R : v_Rf} {Q : Option Value → v_Sf → v_Rf → Prop} {S0 : v_Sf} {pl cs sk cl : Nat} {bd : Int32} {nc sg : Nat → Int32} {ov bh : Bool} {op : Int32} {na : Nat → Int32}
theorem p_cc_n {c : Int32} (h : p_cc c) (h1 : ¬ c = Int32.ofInt 38) (h2 : ¬ c = Int32.ofInt 124) : p_bi c = false := by
  rcases h with (h | h) | h | h
  · exact absurd h h1
  · exact absurd h h2
  · rw [h]; decide
  · rw [h]; decide
theorem h_joS {q : Nat} {nc0 : Nat → Int32} (u : Int32) (hI : p_I q nc0 cs sk nc sg 1) (hC : p_C sk sg) (hb : cs + sk ≤ pl) (hp : pl ≤ 240) (K0 : p_C (sk - 1) sg → p_I q nc0 (cs + 1) (sk - 1) (upd nc cs (p_tp sg sk)) sg 1 → 0 < sk → w_T L xs (d + 2) m_X12_joins 0 [(0, .ref 100), (1, .int u)] [] (p_S S0 pl (cs + 1) (sk - 1) cl (Int32.ofInt 0) (upd nc cs (p_tp sg sk)) sg ov bh op (upd na cs (Int32.ofInt 0))) R Q) (K : ¬ p_tp sg sk = Int32.ofInt 38 → (¬ u = 0 → ¬ p_tp sg sk = Int32.ofInt 124) → Q none (p_S S0 pl cs sk cl (Int32.ofInt 0) nc sg ov bh op na) R) : w_T L xs (d + 2) m_X12_joins 0 [(0, .ref 100), (1, .int u)] [] (p_S S0 pl cs sk cl (Int32.ofInt 0) nc sg ov bh op na) R Q := by
  refine w_st rfl (fun _ => rfl) ?_
  show w_T L xs (d + 2) m_X12_joins 1 [(0, .ref 100), (1, .int u)] [.ref 100] (p_S S0 pl cs sk cl (Int32.ofInt 0) nc sg ov bh op na) R Q
  refine w_cv rfl (by decide) mt_X12_top v_tyM rfl rfl rfl (Nat.le_of_ble_eq_true rfl) (Nat.le_of_ble_eq_true rfl) (Nat.le_of_ble_eq_true rfl) ?_
  show w_T L xs _ m_X12_top 0 (lv_args 0 [.ref 100]) [] (p_S S0 pl cs sk cl (Int32.ofInt 0) nc sg ov bh op na) R _
  refine h_top (by omega) ?_
  refine w_st rfl (fun _ => rfl) ?_
  show w_T L xs (d + 2) m_X12_joins 6 [(0, .ref 100), (1, .int u)] [.int (Int32.ofInt 38), .int (p_tp sg sk)] (p_S S0 pl cs sk cl (Int32.ofInt 0) nc sg ov bh op na) R Q
  refine w_br (P := (p_tp sg sk) = (Int32.ofInt 38)) rfl (fun _ => rfl) (fun h6 => ?_) (fun h6 => ?_)
  · obtain ⟨hk, hI2⟩ := p_I_bin hI (p_bi_jo (Or.inl h6))
    have hC2 := p_C_pop hC (p_C_one hC (by rw [h6]; decide))
    refine w_st rfl (fun _ => rfl) ?_
    refine w_st rfl (fun _ => rfl) ?_
    show w_T L xs (d + 2) m_X12_joins 24 [(0, .ref 100), (1, .int u)] [.ref 100, .ref 100] (p_S S0 pl cs sk cl (Int32.ofInt 0) nc sg ov bh op na) R Q
    refine w_cv rfl (by decide) mt_X12_top v_tyM rfl rfl rfl (Nat.le_of_ble_eq_true rfl) (Nat.le_of_ble_eq_true rfl) (Nat.le_of_ble_eq_true rfl) ?_
    show w_T L xs _ m_X12_top 0 (lv_args 0 [.ref 100]) [] (p_S S0 pl cs sk cl (Int32.ofInt 0) nc sg ov bh op na) R _
    refine h_top (by omega) ?_
    refine w_st rfl (fun _ => rfl) ?_
    show w_T L xs (d + 2) m_X12_joins 28 [(0, .ref 100), (1, .int u)] [.int (Int32.ofInt 0), .int (p_tp sg sk), .ref 100] (p_S S0 pl cs sk cl (Int32.ofInt 0) nc sg ov bh op na) R Q
    refine w_cv rfl (by decide) mt_X12_emit v_tyM rfl rfl rfl (Nat.le_of_ble_eq_true rfl) (Nat.le_of_ble_eq_true rfl) (Nat.le_of_ble_eq_true rfl) ?_
    show w_T L xs _ m_X12_emit 0 (lv_args 0 [.ref 100, .int (p_tp sg sk), .int (Int32.ofInt 0)]) [] (p_S S0 pl cs sk cl (Int32.ofInt 0) nc sg ov bh op na) R _
    refine h_emG (by omega) ?_
    refine w_st rfl (fun _ => rfl) ?_
    refine w_st rfl (fun _ => rfl) ?_
    show w_T L xs (d + 2) m_X12_joins 33 [(0, .ref 100), (1, .int u)] [.ref 100, .ref 100] (p_S S0 pl (cs + 1) sk cl (Int32.ofInt 0) (upd nc cs (p_tp sg sk)) sg ov bh op (upd na cs (Int32.ofInt 0))) R Q
    refine w_get rfl v_tyM rfl ?_
    refine w_st rfl (fun _ => rfl) ?_
    refine w_st rfl (fun _ => rfl) ?_
    show w_T L xs (d + 2) m_X12_joins 38 [(0, .ref 100), (1, .int u)] [.int ((Int32.ofInt (sk : Int)) - (Int32.ofInt 1)), .ref 100] (p_S S0 pl (cs + 1) sk cl (Int32.ofInt 0) (upd nc cs (p_tp sg sk)) sg ov bh op (upd na cs (Int32.ofInt 0))) R Q
    refine w_put rfl v_tyM rfl rfl rfl ?_
    refine w_eqS (p_wsk (w_dec2 (by omega))) ?_
    refine w_st rfl (fun _ => rfl) ?_
    show w_T L xs (d + 2) m_X12_joins 0 [(0, .ref 100), (1, .int u)] [] (p_S S0 pl (cs + 1) (sk - 1) cl (Int32.ofInt 0) (upd nc cs (p_tp sg sk)) sg ov bh op (upd na cs (Int32.ofInt 0))) R Q
    exact K0 hC2 hI2 hk
  · refine w_st rfl (fun _ => rfl) ?_
    show w_T L xs (d + 2) m_X12_joins 10 [(0, .ref 100), (1, .int u)] [.int u] (p_S S0 pl cs sk cl (Int32.ofInt 0) nc sg ov bh op na) R Q
    refine w_br (P := u = 0) rfl (fun _ => rfl) (fun h10 => ?_) (fun h10 => ?_)
    · refine w_ret rfl rfl ?_
      first | exact K h6 (fun h => absurd h10 h) | exact K h6 (fun _ => h19)
    · refine w_st rfl (fun _ => rfl) ?_
      show w_T L xs (d + 2) m_X12_joins 14 [(0, .ref 100), (1, .int u)] [.ref 100] (p_S S0 pl cs sk cl (Int32.ofInt 0) nc sg ov bh op na) R Q
      refine w_cv rfl (by decide) mt_X12_top v_tyM rfl rfl rfl (Nat.le_of_ble_eq_true rfl) (Nat.le_of_ble_eq_true rfl) (Nat.le_of_ble_eq_true rfl) ?_
      show w_T L xs _ m_X12_top 0 (lv_args 0 [.ref 100]) [] (p_S S0 pl cs sk cl (Int32.ofInt 0) nc sg ov bh op na) R _
      refine h_top (by omega) ?_
      refine w_st rfl (fun _ => rfl) ?_
      show w_T L xs (d + 2) m_X12_joins 19 [(0, .ref 100), (1, .int u)] [.int (Int32.ofInt 124), .int (p_tp sg sk)] (p_S S0 pl cs sk cl (Int32.ofInt 0) nc sg ov bh op na) R Q
      refine w_br (P := ¬ (p_tp sg sk) = (Int32.ofInt 124)) rfl (fun _ => rfl) (fun h19 => ?_) (fun h19 => ?_)
      · refine w_ret rfl rfl ?_
        first | exact K h6 (fun h => absurd h10 h) | exact K h6 (fun _ => h19)
      · have e19 := Decidable.of_not_not h19
        obtain ⟨hk, hI2⟩ := p_I_bin hI (p_bi_jo (Or.inr e19))
        have hC2 := p_C_pop hC (p_C_one hC (by rw [e19]; decide))
        refine w_st rfl (fun _ => rfl) ?_
        refine w_st rfl (fun _ => rfl) ?_
        show w_T L xs (d + 2) m_X12_joins 24 [(0, .ref 100), (1, .int u)] [.ref 100, .ref 100] (p_S S0 pl cs sk cl (Int32.ofInt 0) nc sg ov bh op na) R Q
        refine w_cv rfl (by decide) mt_X12_top v_tyM rfl rfl rfl (Nat.le_of_ble_eq_true rfl) (Nat.le_of_ble_eq_true rfl) (Nat.le_of_ble_eq_true rfl) ?_
        show w_T L xs _ m_X12_top 0 (lv_args 0 [.ref 100]) [] (p_S S0 pl cs sk cl (Int32.ofInt 0) nc sg ov bh op na) R _
        refine h_top (by omega) ?_
        refine w_st rfl (fun _ => rfl) ?_
        show w_T L xs (d + 2) m_X12_joins 28 [(0, .ref 100), (1, .int u)] [.int (Int32.ofInt 0), .int (p_tp sg sk), .ref 100] (p_S S0 pl cs sk cl (Int32.ofInt 0) nc sg ov bh op na) R Q
        refine w_cv rfl (by decide) mt_X12_emit v_tyM rfl rfl rfl (Nat.le_of_ble_eq_true rfl) (Nat.le_of_ble_eq_true rfl) (Nat.le_of_ble_eq_true rfl) ?_
        show w_T L xs _ m_X12_emit 0 (lv_args 0 [.ref 100, .int (p_tp sg sk), .int (Int32.ofInt 0)]) [] (p_S S0 pl cs sk cl (Int32.ofInt 0) nc sg ov bh op na) R _
        refine h_emG (by omega) ?_
        refine w_st rfl (fun _ => rfl) ?_
        refine w_st rfl (fun _ => rfl) ?_
        show w_T L xs (d + 2) m_X12_joins 33 [(0, .ref 100), (1, .int u)] [.ref 100, .ref 100] (p_S S0 pl (cs + 1) sk cl (Int32.ofInt 0) (upd nc cs (p_tp sg sk)) sg ov bh op (upd na cs (Int32.ofInt 0))) R Q
        refine w_get rfl v_tyM rfl ?_
        refine w_st rfl (fun _ => rfl) ?_
        refine w_st rfl (fun _ => rfl) ?_
        show w_T L xs (d + 2) m_X12_joins 38 [(0, .ref 100), (1, .int u)] [.int ((Int32.ofInt (sk : Int)) - (Int32.ofInt 1)), .ref 100] (p_S S0 pl (cs + 1) sk cl (Int32.ofInt 0) (upd nc cs (p_tp sg sk)) sg ov bh op (upd na cs (Int32.ofInt 0))) R Q
        refine w_put rfl v_tyM rfl rfl rfl ?_
        refine w_eqS (p_wsk (w_dec2 (by omega))) ?_
        refine w_st rfl (fun _ => rfl) ?_
        show w_T L xs (d + 2) m_X12_joins 0 [(0, .ref 100), (1, .int u)] [] (p_S S0 pl (cs + 1) (sk - 1) cl (Int32.ofInt 0) (upd nc cs (p_tp sg sk)) sg ov bh op (upd na cs (Int32.ofInt 0))) R Q
        exact K0 hC2 hI2 hk
theorem h_joins (u : Int32) (q : Nat) (nc0 : Nat → Int32) (hp : pl ≤ 240) : ∀ (n sk cs : Nat) (nc na : Nat → Int32), sk ≤ n → p_I q nc0 cs sk nc sg 1 → p_C sk sg → cs + sk ≤ pl → (∀ (sk' cs' : Nat) (nc' na' : Nat → Int32), p_I q nc0 cs' sk' nc' sg 1 → p_C sk' sg → cs' + sk' ≤ pl → ¬ p_tp sg sk' = Int32.ofInt 38 → (¬ u = 0 → ¬ p_tp sg sk' = Int32.ofInt 124) → Q none (p_S S0 pl (cs') (sk') cl (Int32.ofInt 0) (nc') sg ov bh op (na')) R) → w_T L xs (d + 2) m_X12_joins 0 (lv_args 0 [.ref 100, .int u]) [] (p_S S0 pl cs sk cl (Int32.ofInt 0) nc sg ov bh op na) R Q := by
  intro n
  induction n with
  | zero =>
    intro sk cs nc na hn hI hC hb K
    exact h_joS u hI hC hb hp (fun h _ h2 => absurd h2 (by omega)) (fun a b => K _ _ _ _ hI hC hb a b)
  | succ n ih =>
    intro sk cs nc na hn hI hC hb K
    exact h_joS u hI hC hb hp (fun h1 h2 h3 => ih (sk - 1) (cs + 1) _ _ (by omega) h2 h1 (by omega) K) (fun a b => K _ _ _ _ hI hC hb a b)
theorem h_enS {q : Nat} {nc0 : Nat → Int32} (hI : p_I q nc0 cs sk nc sg 1) (hC : p_C sk sg) (hb : cs + sk ≤ pl) (hp : pl ≤ 240) (K0 : ∀ o, p_C (sk - 1) sg → p_I q nc0 (cs + 1) (sk - 1) (upd nc cs (Int32.ofInt 2)) sg 1 → 0 < sk → w_T L xs (d + 2) m_X12_ends 0 [(0, .ref 100)] [] (p_S S0 pl (cs + 1) (sk - 1) cl (Int32.ofInt 0) (upd nc cs (Int32.ofInt 2)) sg ov bh o (upd na cs (Int32.ofInt 0))) R Q) (K : Q none (p_S S0 pl cs sk cl (Int32.ofInt 0) nc sg ov bh op na) R) : w_T L xs (d + 2) m_X12_ends 0 [(0, .ref 100)] [] (p_S S0 pl cs sk cl (Int32.ofInt 0) nc sg ov bh op na) R Q := by
  refine w_st rfl (fun _ => rfl) ?_
  show w_T L xs (d + 2) m_X12_ends 1 [(0, .ref 100)] [.ref 100] (p_S S0 pl cs sk cl (Int32.ofInt 0) nc sg ov bh op na) R Q
  refine w_cv rfl (by decide) mt_X12_top v_tyM rfl rfl rfl (Nat.le_of_ble_eq_true rfl) (Nat.le_of_ble_eq_true rfl) (Nat.le_of_ble_eq_true rfl) ?_
  show w_T L xs _ m_X12_top 0 (lv_args 0 [.ref 100]) [] (p_S S0 pl cs sk cl (Int32.ofInt 0) nc sg ov bh op na) R _
  refine h_top (by omega) ?_
  refine w_st rfl (fun _ => rfl) ?_
  show w_T L xs (d + 2) m_X12_ends 6 [(0, .ref 100)] [.int (Int32.ofInt 33), .int (p_tp sg sk)] (p_S S0 pl cs sk cl (Int32.ofInt 0) nc sg ov bh op na) R Q
  refine w_br (P := ¬ (p_tp sg sk) = (Int32.ofInt 33)) rfl (fun _ => rfl) (fun h6 => ?_) (fun h6 => ?_)
  · refine w_ret rfl rfl ?_
    exact K
  · have e6 := Decidable.of_not_not h6
    obtain ⟨hk, hI2⟩ := p_I_not hI e6
    have hC2 := p_C_pop hC (p_C_one hC (by rw [e6]; decide))
    refine w_st rfl (fun _ => rfl) ?_
    refine w_st rfl (fun _ => rfl) ?_
    refine w_st rfl (fun _ => rfl) ?_
    show w_T L xs (d + 2) m_X12_ends 12 [(0, .ref 100)] [.int (Int32.ofInt 0), .int (Int32.ofInt 2), .ref 100] (p_S S0 pl cs sk cl (Int32.ofInt 0) nc sg ov bh op na) R Q
    refine w_cv rfl (by decide) mt_X12_emit v_tyM rfl rfl rfl (Nat.le_of_ble_eq_true rfl) (Nat.le_of_ble_eq_true rfl) (Nat.le_of_ble_eq_true rfl) ?_
    show w_T L xs _ m_X12_emit 0 (lv_args 0 [.ref 100, .int (Int32.ofInt 2), .int (Int32.ofInt 0)]) [] (p_S S0 pl cs sk cl (Int32.ofInt 0) nc sg ov bh op na) R _
    refine h_emG (by omega) ?_
    refine w_st rfl (fun _ => rfl) ?_
    refine w_st rfl (fun _ => rfl) ?_
    show w_T L xs (d + 2) m_X12_ends 17 [(0, .ref 100)] [.ref 100, .ref 100] (p_S S0 pl (cs + 1) sk cl (Int32.ofInt 0) (upd nc cs (Int32.ofInt 2)) sg ov bh op (upd na cs (Int32.ofInt 0))) R Q
    refine w_get rfl v_tyM rfl ?_
    refine w_st rfl (fun _ => rfl) ?_
    refine w_st rfl (fun _ => rfl) ?_
    show w_T L xs (d + 2) m_X12_ends 22 [(0, .ref 100)] [.int ((Int32.ofInt (sk : Int)) - (Int32.ofInt 1)), .ref 100] (p_S S0 pl (cs + 1) sk cl (Int32.ofInt 0) (upd nc cs (Int32.ofInt 2)) sg ov bh op (upd na cs (Int32.ofInt 0))) R Q
    refine w_put rfl v_tyM rfl rfl rfl ?_
    refine w_eqS (p_wsk (w_dec2 (by omega))) ?_
    refine w_st rfl (fun _ => rfl) ?_
    refine w_st rfl (fun _ => rfl) ?_
    show w_T L xs (d + 2) m_X12_ends 27 [(0, .ref 100)] [.ref 100, .ref 100] (p_S S0 pl (cs + 1) (sk - 1) cl (Int32.ofInt 0) (upd nc cs (Int32.ofInt 2)) sg ov bh op (upd na cs (Int32.ofInt 0))) R Q
    refine w_get rfl v_tyM rfl ?_
    refine w_st rfl (fun _ => rfl) ?_
    refine w_st rfl (fun _ => rfl) ?_
    show w_T L xs (d + 2) m_X12_ends 32 [(0, .ref 100)] [.int (op - (Int32.ofInt 1)), .ref 100] (p_S S0 pl (cs + 1) (sk - 1) cl (Int32.ofInt 0) (upd nc cs (Int32.ofInt 2)) sg ov bh op (upd na cs (Int32.ofInt 0))) R Q
    refine w_put rfl v_tyM rfl rfl rfl ?_
    refine w_eqS p_wop ?_
    refine w_st rfl (fun _ => rfl) ?_
    show w_T L xs (d + 2) m_X12_ends 0 [(0, .ref 100)] [] (p_S S0 pl (cs + 1) (sk - 1) cl (Int32.ofInt 0) (upd nc cs (Int32.ofInt 2)) sg ov bh (op - (Int32.ofInt 1)) (upd na cs (Int32.ofInt 0))) R Q
    exact K0 _ hC2 hI2 hk
theorem h_ends (q : Nat) (nc0 : Nat → Int32) (hp : pl ≤ 240) : ∀ (n sk cs : Nat) (nc na : Nat → Int32) (op : Int32), sk ≤ n → p_I q nc0 cs sk nc sg 1 → p_C sk sg → cs + sk ≤ pl → (∀ (sk' cs' : Nat) (nc' na' : Nat → Int32) (o : Int32), p_I q nc0 cs' sk' nc' sg 1 → p_C sk' sg → cs' + sk' ≤ pl → Q none (p_S S0 pl (cs') (sk') cl (Int32.ofInt 0) (nc') sg ov bh o (na')) R) → w_T L xs (d + 2) m_X12_ends 0 (lv_args 0 [.ref 100]) [] (p_S S0 pl cs sk cl (Int32.ofInt 0) nc sg ov bh op na) R Q := by
  intro n
  induction n with
  | zero =>
    intro sk cs nc na op hn hI hC hb K
    exact h_enS hI hC hb hp (fun _ h _ h2 => absurd h2 (by omega)) (K _ _ _ _ _ hI hC hb)
  | succ n ih =>
    intro sk cs nc na op hn hI hC hb K
    exact h_enS hI hC hb hp (fun o h1 h2 h3 => ih (sk - 1) (cs + 1) _ _ o (by omega) h2 h1 (by omega) K) (K _ _ _ _ _ hI hC hb)
theorem h_piS {q : Nat} {nc0 : Nat → Int32} (he : (S0 99 4).toInt ≤ 240) (hI : p_I q nc0 cs sk nc sg 0) (hC : p_C sk sg) (hb : cs + sk ≤ pl) (hp : pl ≤ 240) (K0 : ∀ o, pl < 240 → p_I q nc0 cs (sk + 1) nc (upd sg sk (p_h S0 pl)) 0 → p_C (sk + 1) (upd sg sk (p_h S0 pl)) → w_T L xs (d + 5) m_X12_pieceOfC 0 [(0, .ref 100)] [] (p_S S0 (pl + 1) cs (sk + 1) cl (Int32.ofInt 0) nc (upd sg sk (p_h S0 pl)) ov bh o na) R Q) (Kg : ∀ (pl' cs' sk' : Nat) (nc' sg' na' : Nat → Int32) (o : Int32) (h' : Bool), pl ≤ pl' → p_I q nc0 cs' sk' nc' sg' 1 → p_C sk' sg' → cs' + sk' ≤ pl' → pl' ≤ 240 → Q none (p_S S0 (pl') (cs') (sk') cl (Int32.ofInt 0) (nc') (sg') ov (h') o (na')) R) (Kb : ∀ (pl' cs' sk' : Nat) (b' : Int32) (nc' sg' na' : Nat → Int32) (o : Int32) (h' : Bool), b'.toInt < 0 → cs' + sk' ≤ pl' → pl' ≤ 240 → Q none (p_S S0 (pl') (cs') (sk') cl (b') (nc') (sg') ov (h') o (na')) R) : w_T L xs (d + 5) m_X12_pieceOfC 0 [(0, .ref 100)] [] (p_S S0 pl cs sk cl (Int32.ofInt 0) nc sg ov bh op na) R Q := by
  refine w_st rfl (fun _ => rfl) ?_
  show w_T L xs (d + 5) m_X12_pieceOfC 1 [(0, .ref 100)] [.ref 100] (p_S S0 pl cs sk cl (Int32.ofInt 0) nc sg ov bh op na) R Q
  refine w_cv rfl (by decide) mt_X12_isGood v_tyM rfl rfl rfl (Nat.le_of_ble_eq_true rfl) (Nat.le_of_ble_eq_true rfl) (Nat.le_of_ble_eq_true rfl) ?_
  show w_T L xs _ m_X12_isGood 0 (lv_args 0 [.ref 100]) [] (p_S S0 pl cs sk cl (Int32.ofInt 0) nc sg ov bh op na) R _
  refine h_isGT ?_
  show w_T L xs (d + 5) m_X12_pieceOfC 4 [(0, .ref 100)] [.int (Int32.ofInt 1)] (p_S S0 pl cs sk cl (Int32.ofInt 0) nc sg ov bh op na) R Q
  refine w_st rfl (fun _ => rfl) ?_
  refine w_st rfl (fun _ => rfl) ?_
  show w_T L xs (d + 5) m_X12_pieceOfC 8 [(0, .ref 100)] [.ref 100] (p_S S0 pl cs sk cl (Int32.ofInt 0) nc sg ov bh op na) R Q
  refine w_cv rfl (by decide) mt_X12_here v_tyM rfl rfl rfl (Nat.le_of_ble_eq_true rfl) (Nat.le_of_ble_eq_true rfl) (Nat.le_of_ble_eq_true rfl) ?_
  show w_T L xs _ m_X12_here 0 (lv_args 0 [.ref 100]) [] (p_S S0 pl cs sk cl (Int32.ofInt 0) nc sg ov bh op na) R _
  refine h_here (by omega) ?_
  refine w_st rfl (fun _ => rfl) ?_
  show w_T L xs (d + 5) m_X12_pieceOfC 13 [(0, .ref 100)] [.int (Int32.ofInt 33), .int (p_h S0 pl)] (p_S S0 pl cs sk cl (Int32.ofInt 0) nc sg ov bh op na) R Q
  refine w_br (P := (p_h S0 pl) = (Int32.ofInt 33)) rfl (fun _ => rfl) (fun h13 => ?_) (fun h13 => ?_)
  · have hlt := p_h_lt (S0 := S0) (pl := pl) (by rw [h13]; decide)
    have hbf : p_bi (p_h S0 pl) = false := by rw [h13]; decide
    have hcc : p_cc (p_h S0 pl) := Or.inr (Or.inr h13)
    refine w_st rfl (fun _ => rfl) ?_
    show w_T L xs (d + 5) m_X12_pieceOfC 26 [(0, .ref 100)] [.ref 100] (p_S S0 pl cs sk cl (Int32.ofInt 0) nc sg ov bh op na) R Q
    refine w_cv rfl (by decide) mt_X12_opens v_tyM rfl rfl rfl (Nat.le_of_ble_eq_true rfl) (Nat.le_of_ble_eq_true rfl) (Nat.le_of_ble_eq_true rfl) ?_
    show w_T L xs _ m_X12_opens 0 (lv_args 0 [.ref 100]) [] (p_S S0 pl cs sk cl (Int32.ofInt 0) nc sg ov bh op na) R _
    refine h_opens (by omega) (by omega) (fun o26 => ?_) (fun o26 b26 hb26 => ?_)
    · show w_T L xs (d + 5) m_X12_pieceOfC 29 [(0, .ref 100)] [] (p_S S0 (pl + 1) cs (sk + 1) cl (Int32.ofInt 0) nc (upd sg sk (p_h S0 pl)) ov bh o26 na) R Q
      refine w_st rfl (fun _ => rfl) ?_
      show w_T L xs (d + 5) m_X12_pieceOfC 0 [(0, .ref 100)] [] (p_S S0 (pl + 1) cs (sk + 1) cl (Int32.ofInt 0) nc (upd sg sk (p_h S0 pl)) ov bh o26 na) R Q
      exact K0 _ (by omega) (p_I_pn hI hbf) (p_C_psh hC hcc)
    · show w_T L xs (d + 5) m_X12_pieceOfC 29 [(0, .ref 100)] [] (p_S S0 (pl + 1) cs (sk + 1) cl b26 nc (upd sg sk (p_h S0 pl)) ov bh o26 na) R Q
      refine w_st rfl (fun _ => rfl) ?_
      show w_T L xs (d + 5) m_X12_pieceOfC 0 [(0, .ref 100)] [] (p_S S0 (pl + 1) cs (sk + 1) cl b26 nc (upd sg sk (p_h S0 pl)) ov bh o26 na) R Q
      refine w_st rfl (fun _ => rfl) ?_
      show w_T L xs (d + 5) m_X12_pieceOfC 1 [(0, .ref 100)] [.ref 100] (p_S S0 (pl + 1) cs (sk + 1) cl b26 nc (upd sg sk (p_h S0 pl)) ov bh o26 na) R Q
      refine w_cv rfl (by decide) mt_X12_isGood v_tyM rfl rfl rfl (Nat.le_of_ble_eq_true rfl) (Nat.le_of_ble_eq_true rfl) (Nat.le_of_ble_eq_true rfl) ?_
      show w_T L xs _ m_X12_isGood 0 (lv_args 0 [.ref 100]) [] (p_S S0 (pl + 1) cs (sk + 1) cl b26 nc (upd sg sk (p_h S0 pl)) ov bh o26 na) R _
      refine h_isGF hb26 ?_
      show w_T L xs (d + 5) m_X12_pieceOfC 4 [(0, .ref 100)] [.int (Int32.ofInt 0)] (p_S S0 (pl + 1) cs (sk + 1) cl b26 nc (upd sg sk (p_h S0 pl)) ov bh o26 na) R Q
      refine w_st rfl (fun _ => rfl) ?_
      refine w_st rfl (fun _ => rfl) ?_
      show w_T L xs (d + 5) m_X12_pieceOfC 33 [(0, .ref 100)] [.ref 100] (p_S S0 (pl + 1) cs (sk + 1) cl b26 nc (upd sg sk (p_h S0 pl)) ov bh o26 na) R Q
      refine w_cv rfl (by decide) mt_X12_isGood v_tyM rfl rfl rfl (Nat.le_of_ble_eq_true rfl) (Nat.le_of_ble_eq_true rfl) (Nat.le_of_ble_eq_true rfl) ?_
      show w_T L xs _ m_X12_isGood 0 (lv_args 0 [.ref 100]) [] (p_S S0 (pl + 1) cs (sk + 1) cl b26 nc (upd sg sk (p_h S0 pl)) ov bh o26 na) R _
      refine h_isGF hb26 ?_
      show w_T L xs (d + 5) m_X12_pieceOfC 36 [(0, .ref 100)] [.int (Int32.ofInt 0)] (p_S S0 (pl + 1) cs (sk + 1) cl b26 nc (upd sg sk (p_h S0 pl)) ov bh o26 na) R Q
      refine w_st rfl (fun _ => rfl) ?_
      refine w_st rfl (fun _ => rfl) ?_
      show w_T L xs (d + 5) m_X12_pieceOfC 44 [(0, .ref 100)] [.ref 100] (p_S S0 (pl + 1) cs (sk + 1) cl b26 nc (upd sg sk (p_h S0 pl)) ov bh o26 na) R Q
      refine w_cv rfl (by decide) mt_X12_isGood v_tyM rfl rfl rfl (Nat.le_of_ble_eq_true rfl) (Nat.le_of_ble_eq_true rfl) (Nat.le_of_ble_eq_true rfl) ?_
      show w_T L xs _ m_X12_isGood 0 (lv_args 0 [.ref 100]) [] (p_S S0 (pl + 1) cs (sk + 1) cl b26 nc (upd sg sk (p_h S0 pl)) ov bh o26 na) R _
      refine h_isGF hb26 ?_
      show w_T L xs (d + 5) m_X12_pieceOfC 47 [(0, .ref 100)] [.int (Int32.ofInt 0)] (p_S S0 (pl + 1) cs (sk + 1) cl b26 nc (upd sg sk (p_h S0 pl)) ov bh o26 na) R Q
      refine w_st rfl (fun _ => rfl) ?_
      show w_T L xs (d + 5) m_X12_pieceOfC 50 [(0, .ref 100)] [] (p_S S0 (pl + 1) cs (sk + 1) cl b26 nc (upd sg sk (p_h S0 pl)) ov bh o26 na) R Q
      refine w_ret rfl rfl ?_
      exact Kb _ _ _ _ _ _ _ _ _ hb26 (by omega) (by omega)
  · refine w_st rfl (fun _ => rfl) ?_
    show w_T L xs (d + 5) m_X12_pieceOfC 17 [(0, .ref 100)] [.ref 100] (p_S S0 pl cs sk cl (Int32.ofInt 0) nc sg ov bh op na) R Q
    refine w_cv rfl (by decide) mt_X12_here v_tyM rfl rfl rfl (Nat.le_of_ble_eq_true rfl) (Nat.le_of_ble_eq_true rfl) (Nat.le_of_ble_eq_true rfl) ?_
    show w_T L xs _ m_X12_here 0 (lv_args 0 [.ref 100]) [] (p_S S0 pl cs sk cl (Int32.ofInt 0) nc sg ov bh op na) R _
    refine h_here (by omega) ?_
    refine w_st rfl (fun _ => rfl) ?_
    show w_T L xs (d + 5) m_X12_pieceOfC 22 [(0, .ref 100)] [.int (Int32.ofInt 40), .int (p_h S0 pl)] (p_S S0 pl cs sk cl (Int32.ofInt 0) nc sg ov bh op na) R Q
    refine w_br (P := ¬ (p_h S0 pl) = (Int32.ofInt 40)) rfl (fun _ => rfl) (fun h22 => ?_) (fun h22 => ?_)
    · refine w_st rfl (fun _ => rfl) ?_
      show w_T L xs (d + 5) m_X12_pieceOfC 33 [(0, .ref 100)] [.ref 100] (p_S S0 pl cs sk cl (Int32.ofInt 0) nc sg ov bh op na) R Q
      refine w_cv rfl (by decide) mt_X12_isGood v_tyM rfl rfl rfl (Nat.le_of_ble_eq_true rfl) (Nat.le_of_ble_eq_true rfl) (Nat.le_of_ble_eq_true rfl) ?_
      show w_T L xs _ m_X12_isGood 0 (lv_args 0 [.ref 100]) [] (p_S S0 pl cs sk cl (Int32.ofInt 0) nc sg ov bh op na) R _
      refine h_isGT ?_
      show w_T L xs (d + 5) m_X12_pieceOfC 36 [(0, .ref 100)] [.int (Int32.ofInt 1)] (p_S S0 pl cs sk cl (Int32.ofInt 0) nc sg ov bh op na) R Q
      refine w_st rfl (fun _ => rfl) ?_
      refine w_st rfl (fun _ => rfl) ?_
      show w_T L xs (d + 5) m_X12_pieceOfC 40 [(0, .ref 100)] [.ref 100] (p_S S0 pl cs sk cl (Int32.ofInt 0) nc sg ov bh op na) R Q
      refine w_cv rfl (by decide) mt_X12_value v_tyM rfl rfl rfl (Nat.le_of_ble_eq_true rfl) (Nat.le_of_ble_eq_true rfl) (Nat.le_of_ble_eq_true rfl) ?_
      show w_T L xs _ m_X12_value 0 (lv_args 0 [.ref 100]) [] (p_S S0 pl cs sk cl (Int32.ofInt 0) nc sg ov bh op na) R _
      refine h_value he hI (fun _ => (p_C_V hC).2.2.2 hC.1) hb hp (fun pl1 cs1 nc1 sg1 na1 o1 h1 l1 i1 e1 j1 k1 => ?_) (fun pl1 cs1 sk1 b40 nc1 sg1 na1 o1 h1 hb40 j1 k1 => ?_)
      · show w_T L xs (d + 5) m_X12_pieceOfC 43 [(0, .ref 100)] [] (p_S S0 pl1 cs1 sk cl (Int32.ofInt 0) nc1 sg1 ov h1 o1 na1) R Q
        refine w_st rfl (fun _ => rfl) ?_
        show w_T L xs (d + 5) m_X12_pieceOfC 44 [(0, .ref 100)] [.ref 100] (p_S S0 pl1 cs1 sk cl (Int32.ofInt 0) nc1 sg1 ov h1 o1 na1) R Q
        refine w_cv rfl (by decide) mt_X12_isGood v_tyM rfl rfl rfl (Nat.le_of_ble_eq_true rfl) (Nat.le_of_ble_eq_true rfl) (Nat.le_of_ble_eq_true rfl) ?_
        show w_T L xs _ m_X12_isGood 0 (lv_args 0 [.ref 100]) [] (p_S S0 pl1 cs1 sk cl (Int32.ofInt 0) nc1 sg1 ov h1 o1 na1) R _
        refine h_isGT ?_
        show w_T L xs (d + 5) m_X12_pieceOfC 47 [(0, .ref 100)] [.int (Int32.ofInt 1)] (p_S S0 pl1 cs1 sk cl (Int32.ofInt 0) nc1 sg1 ov h1 o1 na1) R Q
        refine w_st rfl (fun _ => rfl) ?_
        refine w_st rfl (fun _ => rfl) ?_
        show w_T L xs (d + 5) m_X12_pieceOfC 52 [(0, .ref 100)] [.ref 100] (p_S S0 pl1 cs1 sk cl (Int32.ofInt 0) nc1 sg1 ov h1 o1 na1) R Q
        refine w_cv rfl (by decide) mt_X12_here v_tyM rfl rfl rfl (Nat.le_of_ble_eq_true rfl) (Nat.le_of_ble_eq_true rfl) (Nat.le_of_ble_eq_true rfl) ?_
        show w_T L xs _ m_X12_here 0 (lv_args 0 [.ref 100]) [] (p_S S0 pl1 cs1 sk cl (Int32.ofInt 0) nc1 sg1 ov h1 o1 na1) R _
        refine h_here (by omega) ?_
        refine w_st rfl (fun _ => rfl) ?_
        refine w_st rfl (fun _ => rfl) ?_
        show w_T L xs (d + 5) m_X12_pieceOfC 57 [(1, .int (p_h S0 pl1)), (0, .ref 100)] [.int (p_h S0 pl1)] (p_S S0 pl1 cs1 sk cl (Int32.ofInt 0) nc1 sg1 ov h1 o1 na1) R Q
        refine w_cs rfl (by decide) mt_X12_isCompared (fun _ => rfl) (Nat.le_of_ble_eq_true rfl) (Nat.le_of_ble_eq_true rfl) ?_
        show w_T L xs _ m_X12_isCompared 0 (lv_args 0 [.int (p_h S0 pl1)]) [] (p_S S0 pl1 cs1 sk cl (Int32.ofInt 0) nc1 sg1 ov h1 o1 na1) R _
        refine h_isCompared _ (fun c57 => ?_) (fun c57 => ?_)
        · have hlt := p_h_lt (fun e => p_cm0 (e ▸ c57))
          show w_T L xs (d + 5) m_X12_pieceOfC 60 [(1, .int (p_h S0 pl1)), (0, .ref 100)] [.int (Int32.ofInt 1)] (p_S S0 pl1 cs1 sk cl (Int32.ofInt 0) nc1 sg1 ov h1 o1 na1) R Q
          refine w_st rfl (fun _ => rfl) ?_
          refine w_st rfl (fun _ => rfl) ?_
          refine w_st rfl (fun _ => rfl) ?_
          show w_T L xs (d + 5) m_X12_pieceOfC 75 [(1, .int (p_h S0 pl1)), (0, .ref 100)] [.int (p_h S0 pl1), .ref 100] (p_S S0 pl1 cs1 sk cl (Int32.ofInt 0) nc1 sg1 ov h1 o1 na1) R Q
          refine w_cv rfl (by decide) mt_X12_puts v_tyM rfl rfl rfl (Nat.le_of_ble_eq_true rfl) (Nat.le_of_ble_eq_true rfl) (Nat.le_of_ble_eq_true rfl) ?_
          show w_T L xs _ m_X12_puts 0 (lv_args 0 [.ref 100, .int (p_h S0 pl1)]) [] (p_S S0 pl1 cs1 sk cl (Int32.ofInt 0) nc1 sg1 ov h1 o1 na1) R _
          refine h_puts (by omega) (by omega) ?_
          refine w_st rfl (fun _ => rfl) ?_
          show w_T L xs (d + 5) m_X12_pieceOfC 79 [(1, .int (p_h S0 pl1)), (0, .ref 100)] [.ref 100] (p_S S0 (pl1 + 1) cs1 (sk + 1) cl (Int32.ofInt 0) nc1 (upd sg1 sk (p_h S0 pl1)) ov h1 o1 na1) R Q
          refine w_cv rfl (by decide) mt_X12_value v_tyM rfl rfl rfl (Nat.le_of_ble_eq_true rfl) (Nat.le_of_ble_eq_true rfl) (Nat.le_of_ble_eq_true rfl) ?_
          show w_T L xs _ m_X12_value 0 (lv_args 0 [.ref 100]) [] (p_S S0 (pl1 + 1) cs1 (sk + 1) cl (Int32.ofInt 0) nc1 (upd sg1 sk (p_h S0 pl1)) ov h1 o1 na1) R _
          refine h_value he (p_I_pb i1 (p_bi_cm c57)) (fun _ => by rw [Nat.add_sub_cancel, p_upe]; exact p_cm_nvs c57) (by omega) (by omega) (fun pl2 cs2 nc2 sg2 na2 o2 h2 l2 i2 e2 j2 k2 => ?_) (fun pl2 cs2 sk2 b79 nc2 sg2 na2 o2 h2 hb79 j2 k2 => ?_)
          · show w_T L xs (d + 5) m_X12_pieceOfC 82 [(1, .int (p_h S0 pl1)), (0, .ref 100)] [] (p_S S0 pl2 cs2 (sk + 1) cl (Int32.ofInt 0) nc2 sg2 ov h2 o2 na2) R Q
            refine w_st rfl (fun _ => rfl) ?_
            show w_T L xs (d + 5) m_X12_pieceOfC 83 [(1, .int (p_h S0 pl1)), (0, .ref 100)] [.ref 100] (p_S S0 pl2 cs2 (sk + 1) cl (Int32.ofInt 0) nc2 sg2 ov h2 o2 na2) R Q
            refine w_cv rfl (by decide) mt_X12_isGood v_tyM rfl rfl rfl (Nat.le_of_ble_eq_true rfl) (Nat.le_of_ble_eq_true rfl) (Nat.le_of_ble_eq_true rfl) ?_
            show w_T L xs _ m_X12_isGood 0 (lv_args 0 [.ref 100]) [] (p_S S0 pl2 cs2 (sk + 1) cl (Int32.ofInt 0) nc2 sg2 ov h2 o2 na2) R _
            refine h_isGT ?_
            show w_T L xs (d + 5) m_X12_pieceOfC 86 [(1, .int (p_h S0 pl1)), (0, .ref 100)] [.int (Int32.ofInt 1)] (p_S S0 pl2 cs2 (sk + 1) cl (Int32.ofInt 0) nc2 sg2 ov h2 o2 na2) R Q
            refine w_st rfl (fun _ => rfl) ?_
            refine w_st rfl (fun _ => rfl) ?_
            refine w_st rfl (fun _ => rfl) ?_
            show w_T L xs (d + 5) m_X12_pieceOfC 92 [(1, .int (p_h S0 pl1)), (0, .ref 100)] [.ref 100, .ref 100] (p_S S0 pl2 cs2 (sk + 1) cl (Int32.ofInt 0) nc2 sg2 ov h2 o2 na2) R Q
            refine w_cv rfl (by decide) mt_X12_top v_tyM rfl rfl rfl (Nat.le_of_ble_eq_true rfl) (Nat.le_of_ble_eq_true rfl) (Nat.le_of_ble_eq_true rfl) ?_
            show w_T L xs _ m_X12_top 0 (lv_args 0 [.ref 100]) [] (p_S S0 pl2 cs2 (sk + 1) cl (Int32.ofInt 0) nc2 sg2 ov h2 o2 na2) R _
            refine h_top (by omega) ?_
            refine w_st rfl (fun _ => rfl) ?_
            show w_T L xs (d + 5) m_X12_pieceOfC 96 [(1, .int (p_h S0 pl1)), (0, .ref 100)] [.int (Int32.ofInt 0), .int (p_tp sg2 (sk + 1)), .ref 100] (p_S S0 pl2 cs2 (sk + 1) cl (Int32.ofInt 0) nc2 sg2 ov h2 o2 na2) R Q
            refine w_cv rfl (by decide) mt_X12_emit v_tyM rfl rfl rfl (Nat.le_of_ble_eq_true rfl) (Nat.le_of_ble_eq_true rfl) (Nat.le_of_ble_eq_true rfl) ?_
            show w_T L xs _ m_X12_emit 0 (lv_args 0 [.ref 100, .int (p_tp sg2 (sk + 1)), .int (Int32.ofInt 0)]) [] (p_S S0 pl2 cs2 (sk + 1) cl (Int32.ofInt 0) nc2 sg2 ov h2 o2 na2) R _
            refine h_emG (by omega) ?_
            refine w_st rfl (fun _ => rfl) ?_
            refine w_st rfl (fun _ => rfl) ?_
            show w_T L xs (d + 5) m_X12_pieceOfC 101 [(1, .int (p_h S0 pl1)), (0, .ref 100)] [.ref 100, .ref 100] (p_S S0 pl2 (cs2 + 1) (sk + 1) cl (Int32.ofInt 0) (upd nc2 cs2 (p_tp sg2 (sk + 1))) sg2 ov h2 o2 (upd na2 cs2 (Int32.ofInt 0))) R Q
            refine w_get rfl v_tyM rfl ?_
            refine w_st rfl (fun _ => rfl) ?_
            refine w_st rfl (fun _ => rfl) ?_
            show w_T L xs (d + 5) m_X12_pieceOfC 106 [(1, .int (p_h S0 pl1)), (0, .ref 100)] [.int ((Int32.ofInt ((sk + 1 : Nat) : Int)) - (Int32.ofInt 1)), .ref 100] (p_S S0 pl2 (cs2 + 1) (sk + 1) cl (Int32.ofInt 0) (upd nc2 cs2 (p_tp sg2 (sk + 1))) sg2 ov h2 o2 (upd na2 cs2 (Int32.ofInt 0))) R Q
            refine w_put rfl v_tyM rfl rfl rfl ?_
            refine w_eqS (p_wsk (w_dec2 (by omega))) ?_
            refine w_st rfl (fun _ => rfl) ?_
            show w_T L xs (d + 5) m_X12_pieceOfC 110 [(1, .int (p_h S0 pl1)), (0, .ref 100)] [.ref 100] (p_S S0 pl2 (cs2 + 1) ((sk + 1) - 1) cl (Int32.ofInt 0) (upd nc2 cs2 (p_tp sg2 (sk + 1))) sg2 ov h2 o2 (upd na2 cs2 (Int32.ofInt 0))) R Q
            refine w_cv rfl (by decide) mt_X12_ends v_tyM rfl rfl rfl (Nat.le_of_ble_eq_true rfl) (Nat.le_of_ble_eq_true rfl) (Nat.le_of_ble_eq_true rfl) ?_
            show w_T L xs _ m_X12_ends 0 (lv_args 0 [.ref 100]) [] (p_S S0 pl2 (cs2 + 1) ((sk + 1) - 1) cl (Int32.ofInt 0) (upd nc2 cs2 (p_tp sg2 (sk + 1))) sg2 ov h2 o2 (upd na2 cs2 (Int32.ofInt 0))) R _
            have et : p_tp sg2 (sk + 1) = p_h S0 pl1 := by
              unfold p_tp
              rw [if_pos (by omega), Nat.add_sub_cancel, e2 sk (by omega), p_upe]
            have hC2 : p_C (sk + 1 - 1) sg2 := p_C_sg hC (fun j hj => by rw [e2 j (by omega), p_upn (by omega), e1 j (by omega)])
            obtain ⟨hk9, hI9⟩ := p_I_bin i2 (by rw [et]; exact p_bi_cm c57)
            refine h_ends q nc0 k2 (sk + 1 - 1) (sk + 1 - 1) (cs2 + 1) _ _ _ (Nat.le_refl _) hI9 hC2 (by omega) (fun sk3 cs3 nc3 na3 o3 i3 c3 j3 => ?_)
            show w_T L xs (d + 5) m_X12_pieceOfC 113 [(1, .int (p_h S0 pl1)), (0, .ref 100)] [] (p_S S0 pl2 cs3 sk3 cl (Int32.ofInt 0) nc3 sg2 ov h2 o3 na3) R Q
            refine w_ret rfl rfl ?_
            exact Kg _ _ _ _ _ _ _ _ (by omega) i3 c3 (by omega) (by omega)
          · show w_T L xs (d + 5) m_X12_pieceOfC 82 [(1, .int (p_h S0 pl1)), (0, .ref 100)] [] (p_S S0 pl2 cs2 sk2 cl b79 nc2 sg2 ov h2 o2 na2) R Q
            refine w_st rfl (fun _ => rfl) ?_
            show w_T L xs (d + 5) m_X12_pieceOfC 83 [(1, .int (p_h S0 pl1)), (0, .ref 100)] [.ref 100] (p_S S0 pl2 cs2 sk2 cl b79 nc2 sg2 ov h2 o2 na2) R Q
            refine w_cv rfl (by decide) mt_X12_isGood v_tyM rfl rfl rfl (Nat.le_of_ble_eq_true rfl) (Nat.le_of_ble_eq_true rfl) (Nat.le_of_ble_eq_true rfl) ?_
            show w_T L xs _ m_X12_isGood 0 (lv_args 0 [.ref 100]) [] (p_S S0 pl2 cs2 sk2 cl b79 nc2 sg2 ov h2 o2 na2) R _
            refine h_isGF hb79 ?_
            show w_T L xs (d + 5) m_X12_pieceOfC 86 [(1, .int (p_h S0 pl1)), (0, .ref 100)] [.int (Int32.ofInt 0)] (p_S S0 pl2 cs2 sk2 cl b79 nc2 sg2 ov h2 o2 na2) R Q
            refine w_st rfl (fun _ => rfl) ?_
            show w_T L xs (d + 5) m_X12_pieceOfC 89 [(1, .int (p_h S0 pl1)), (0, .ref 100)] [] (p_S S0 pl2 cs2 sk2 cl b79 nc2 sg2 ov h2 o2 na2) R Q
            refine w_ret rfl rfl ?_
            exact Kb _ _ _ _ _ _ _ _ _ hb79 (by omega) (by omega)
        · show w_T L xs (d + 5) m_X12_pieceOfC 60 [(1, .int (p_h S0 pl1)), (0, .ref 100)] [.int (Int32.ofInt 0)] (p_S S0 pl1 cs1 sk cl (Int32.ofInt 0) nc1 sg1 ov h1 o1 na1) R Q
          refine w_st rfl (fun _ => rfl) ?_
          refine w_st rfl (fun _ => rfl) ?_
          refine w_st rfl (fun _ => rfl) ?_
          refine w_st rfl (fun _ => rfl) ?_
          show w_T L xs (d + 5) m_X12_pieceOfC 66 [(1, .int (p_h S0 pl1)), (0, .ref 100)] [.ref 100, .int (Int32.ofInt 1), .ref 100] (p_S S0 pl1 cs1 sk cl (Int32.ofInt 0) nc1 sg1 ov h1 o1 na1) R Q
          refine w_get rfl v_tyM rfl ?_
          show w_T L xs (d + 5) m_X12_pieceOfC 69 [(1, .int (p_h S0 pl1)), (0, .ref 100)] [.int (Int32.ofInt (pl1 : Int)), .int (Int32.ofInt 1), .ref 100] (p_S S0 pl1 cs1 sk cl (Int32.ofInt 0) nc1 sg1 ov h1 o1 na1) R Q
          refine w_cv rfl (by decide) mt_X12_wrongs v_tyM rfl rfl rfl (Nat.le_of_ble_eq_true rfl) (Nat.le_of_ble_eq_true rfl) (Nat.le_of_ble_eq_true rfl) ?_
          show w_T L xs _ m_X12_wrongs 0 (lv_args 0 [.ref 100, .int (Int32.ofInt 1), .int (Int32.ofInt (pl1 : Int))]) [] (p_S S0 pl1 cs1 sk cl (Int32.ofInt 0) nc1 sg1 ov h1 o1 na1) R _
          refine h_wr (by decide) (by decide) (by rw [w_nat (by omega)]; omega) (by rw [w_nat (by omega)]; omega) (fun b69 hb69 => ?_)
          show w_T L xs (d + 5) m_X12_pieceOfC 72 [(1, .int (p_h S0 pl1)), (0, .ref 100)] [] (p_S S0 pl1 cs1 sk cl b69 nc1 sg1 ov h1 o1 na1) R Q
          refine w_ret rfl rfl ?_
          exact Kb _ _ _ _ _ _ _ _ _ hb69 (by omega) (by omega)
      · show w_T L xs (d + 5) m_X12_pieceOfC 43 [(0, .ref 100)] [] (p_S S0 pl1 cs1 sk1 cl b40 nc1 sg1 ov h1 o1 na1) R Q
        refine w_st rfl (fun _ => rfl) ?_
        show w_T L xs (d + 5) m_X12_pieceOfC 44 [(0, .ref 100)] [.ref 100] (p_S S0 pl1 cs1 sk1 cl b40 nc1 sg1 ov h1 o1 na1) R Q
        refine w_cv rfl (by decide) mt_X12_isGood v_tyM rfl rfl rfl (Nat.le_of_ble_eq_true rfl) (Nat.le_of_ble_eq_true rfl) (Nat.le_of_ble_eq_true rfl) ?_
        show w_T L xs _ m_X12_isGood 0 (lv_args 0 [.ref 100]) [] (p_S S0 pl1 cs1 sk1 cl b40 nc1 sg1 ov h1 o1 na1) R _
        refine h_isGF hb40 ?_
        show w_T L xs (d + 5) m_X12_pieceOfC 47 [(0, .ref 100)] [.int (Int32.ofInt 0)] (p_S S0 pl1 cs1 sk1 cl b40 nc1 sg1 ov h1 o1 na1) R Q
        refine w_st rfl (fun _ => rfl) ?_
        show w_T L xs (d + 5) m_X12_pieceOfC 50 [(0, .ref 100)] [] (p_S S0 pl1 cs1 sk1 cl b40 nc1 sg1 ov h1 o1 na1) R Q
        refine w_ret rfl rfl ?_
        exact Kb _ _ _ _ _ _ _ _ _ hb40 (by omega) (by omega)
    · have e22 := Decidable.of_not_not h22
      have hlt := p_h_lt (S0 := S0) (pl := pl) (by rw [e22]; decide)
      have hbf : p_bi (p_h S0 pl) = false := by rw [e22]; decide
      have hcc : p_cc (p_h S0 pl) := Or.inr (Or.inl e22)
      refine w_st rfl (fun _ => rfl) ?_
      show w_T L xs (d + 5) m_X12_pieceOfC 26 [(0, .ref 100)] [.ref 100] (p_S S0 pl cs sk cl (Int32.ofInt 0) nc sg ov bh op na) R Q
      refine w_cv rfl (by decide) mt_X12_opens v_tyM rfl rfl rfl (Nat.le_of_ble_eq_true rfl) (Nat.le_of_ble_eq_true rfl) (Nat.le_of_ble_eq_true rfl) ?_
      show w_T L xs _ m_X12_opens 0 (lv_args 0 [.ref 100]) [] (p_S S0 pl cs sk cl (Int32.ofInt 0) nc sg ov bh op na) R _
      refine h_opens (by omega) (by omega) (fun o26 => ?_) (fun o26 b26 hb26 => ?_)
      · show w_T L xs (d + 5) m_X12_pieceOfC 29 [(0, .ref 100)] [] (p_S S0 (pl + 1) cs (sk + 1) cl (Int32.ofInt 0) nc (upd sg sk (p_h S0 pl)) ov bh o26 na) R Q
        refine w_st rfl (fun _ => rfl) ?_
        show w_T L xs (d + 5) m_X12_pieceOfC 0 [(0, .ref 100)] [] (p_S S0 (pl + 1) cs (sk + 1) cl (Int32.ofInt 0) nc (upd sg sk (p_h S0 pl)) ov bh o26 na) R Q
        exact K0 _ (by omega) (p_I_pn hI hbf) (p_C_psh hC hcc)
      · show w_T L xs (d + 5) m_X12_pieceOfC 29 [(0, .ref 100)] [] (p_S S0 (pl + 1) cs (sk + 1) cl b26 nc (upd sg sk (p_h S0 pl)) ov bh o26 na) R Q
        refine w_st rfl (fun _ => rfl) ?_
        show w_T L xs (d + 5) m_X12_pieceOfC 0 [(0, .ref 100)] [] (p_S S0 (pl + 1) cs (sk + 1) cl b26 nc (upd sg sk (p_h S0 pl)) ov bh o26 na) R Q
        refine w_st rfl (fun _ => rfl) ?_
        show w_T L xs (d + 5) m_X12_pieceOfC 1 [(0, .ref 100)] [.ref 100] (p_S S0 (pl + 1) cs (sk + 1) cl b26 nc (upd sg sk (p_h S0 pl)) ov bh o26 na) R Q
        refine w_cv rfl (by decide) mt_X12_isGood v_tyM rfl rfl rfl (Nat.le_of_ble_eq_true rfl) (Nat.le_of_ble_eq_true rfl) (Nat.le_of_ble_eq_true rfl) ?_
        show w_T L xs _ m_X12_isGood 0 (lv_args 0 [.ref 100]) [] (p_S S0 (pl + 1) cs (sk + 1) cl b26 nc (upd sg sk (p_h S0 pl)) ov bh o26 na) R _
        refine h_isGF hb26 ?_
        show w_T L xs (d + 5) m_X12_pieceOfC 4 [(0, .ref 100)] [.int (Int32.ofInt 0)] (p_S S0 (pl + 1) cs (sk + 1) cl b26 nc (upd sg sk (p_h S0 pl)) ov bh o26 na) R Q
        refine w_st rfl (fun _ => rfl) ?_
        refine w_st rfl (fun _ => rfl) ?_
        show w_T L xs (d + 5) m_X12_pieceOfC 33 [(0, .ref 100)] [.ref 100] (p_S S0 (pl + 1) cs (sk + 1) cl b26 nc (upd sg sk (p_h S0 pl)) ov bh o26 na) R Q
        refine w_cv rfl (by decide) mt_X12_isGood v_tyM rfl rfl rfl (Nat.le_of_ble_eq_true rfl) (Nat.le_of_ble_eq_true rfl) (Nat.le_of_ble_eq_true rfl) ?_
        show w_T L xs _ m_X12_isGood 0 (lv_args 0 [.ref 100]) [] (p_S S0 (pl + 1) cs (sk + 1) cl b26 nc (upd sg sk (p_h S0 pl)) ov bh o26 na) R _
        refine h_isGF hb26 ?_
        show w_T L xs (d + 5) m_X12_pieceOfC 36 [(0, .ref 100)] [.int (Int32.ofInt 0)] (p_S S0 (pl + 1) cs (sk + 1) cl b26 nc (upd sg sk (p_h S0 pl)) ov bh o26 na) R Q
        refine w_st rfl (fun _ => rfl) ?_
        refine w_st rfl (fun _ => rfl) ?_
        show w_T L xs (d + 5) m_X12_pieceOfC 44 [(0, .ref 100)] [.ref 100] (p_S S0 (pl + 1) cs (sk + 1) cl b26 nc (upd sg sk (p_h S0 pl)) ov bh o26 na) R Q
        refine w_cv rfl (by decide) mt_X12_isGood v_tyM rfl rfl rfl (Nat.le_of_ble_eq_true rfl) (Nat.le_of_ble_eq_true rfl) (Nat.le_of_ble_eq_true rfl) ?_
        show w_T L xs _ m_X12_isGood 0 (lv_args 0 [.ref 100]) [] (p_S S0 (pl + 1) cs (sk + 1) cl b26 nc (upd sg sk (p_h S0 pl)) ov bh o26 na) R _
        refine h_isGF hb26 ?_
        show w_T L xs (d + 5) m_X12_pieceOfC 47 [(0, .ref 100)] [.int (Int32.ofInt 0)] (p_S S0 (pl + 1) cs (sk + 1) cl b26 nc (upd sg sk (p_h S0 pl)) ov bh o26 na) R Q
        refine w_st rfl (fun _ => rfl) ?_
        show w_T L xs (d + 5) m_X12_pieceOfC 50 [(0, .ref 100)] [] (p_S S0 (pl + 1) cs (sk + 1) cl b26 nc (upd sg sk (p_h S0 pl)) ov bh o26 na) R Q
        refine w_ret rfl rfl ?_
        exact Kb _ _ _ _ _ _ _ _ _ hb26 (by omega) (by omega)
theorem h_piece (q : Nat) (nc0 : Nat → Int32) (he : (S0 99 4).toInt ≤ 240) : ∀ (n pl sk : Nat) (sg : Nat → Int32) (op : Int32), 240 ≤ pl + n → p_I q nc0 cs sk nc sg 0 → p_C sk sg → cs + sk ≤ pl → pl ≤ 240 → (∀ (pl' cs' sk' : Nat) (nc' sg' na' : Nat → Int32) (o : Int32) (h' : Bool), pl ≤ pl' → p_I q nc0 cs' sk' nc' sg' 1 → p_C sk' sg' → cs' + sk' ≤ pl' → pl' ≤ 240 → Q none (p_S S0 (pl') (cs') (sk') cl (Int32.ofInt 0) (nc') (sg') ov (h') o (na')) R) → (∀ (pl' cs' sk' : Nat) (b' : Int32) (nc' sg' na' : Nat → Int32) (o : Int32) (h' : Bool), b'.toInt < 0 → cs' + sk' ≤ pl' → pl' ≤ 240 → Q none (p_S S0 (pl') (cs') (sk') cl (b') (nc') (sg') ov (h') o (na')) R) → w_T L xs (d + 5) m_X12_pieceOfC 0 (lv_args 0 [.ref 100]) [] (p_S S0 pl cs sk cl (Int32.ofInt 0) nc sg ov bh op na) R Q := by
  intro n
  induction n with
  | zero =>
    intro pl sk sg op hn hI hC hb hp Kg Kb
    exact h_piS he hI hC hb hp (fun _ h _ _ => absurd h (by omega)) Kg Kb
  | succ n ih =>
    intro pl sk sg op hn hI hC hb hp Kg Kb
    exact h_piS he hI hC hb hp (fun o h h1 h2 => ih (pl + 1) (sk + 1) _ o (by omega) h1 h2 (by omega) (by omega) (fun pl' cs' sk' nc' sg' na' o' h' l => Kg pl' cs' sk' nc' sg' na' o' h' (by omega)) Kb) Kg Kb
theorem h_goes {q : Nat} {nc0 : Nat → Int32} (he : (S0 99 4).toInt ≤ 240) (hI : p_I q nc0 cs sk nc sg 1) (hC : p_C sk sg) (hb : cs + sk ≤ pl) (hp : pl ≤ 240) (K1 : ∀ (cs' sk' : Nat) (nc' sg' na' : Nat → Int32), p_I q nc0 cs' sk' nc' sg' 0 → p_C sk' sg' → cs' + sk' ≤ pl + 1 → pl + 1 ≤ 240 → Q (some (.int (Int32.ofInt 1))) (p_S S0 (pl + 1) (cs') (sk') cl (Int32.ofInt 0) (nc') (sg') ov bh op (na')) R) (K2 : ∀ (cs' sk' : Nat) (nc' na' : Nat → Int32) (o : Int32), p_I q nc0 cs' sk' nc' sg 1 → cs' + sk' ≤ pl + 1 → pl + 1 ≤ 240 → Q (some (.int (Int32.ofInt 0))) (p_S S0 (pl + 1) (cs') (sk') cl (Int32.ofInt 0) (nc') sg true bh o (na')) R) (K3 : ∀ (cs' sk' : Nat) (nc' na' : Nat → Int32) (o : Int32), p_I q nc0 cs' sk' nc' sg 1 → p_C sk' sg → cs' + sk' ≤ pl + 1 → pl + 1 ≤ 240 → Q (some (.int (Int32.ofInt 0))) (p_S S0 (pl + 1) (cs') (sk') cl (Int32.ofInt 0) (nc') sg false bh o (na')) R) (Kb : ∀ (b' : Int32), b'.toInt < 0 → Q (some (.int (Int32.ofInt 0))) (p_S S0 pl cs sk cl (b') nc sg ov bh op na) R) : w_T L xs (d + 3) m_X12_goesBehind 0 (lv_args 0 [.ref 100]) [] (p_S S0 pl cs sk cl (Int32.ofInt 0) nc sg ov bh op na) R Q := by
  refine w_st rfl (fun _ => rfl) ?_
  show w_T L xs (d + 3) m_X12_goesBehind 1 [(0, .ref 100)] [.ref 100] (p_S S0 pl cs sk cl (Int32.ofInt 0) nc sg ov bh op na) R Q
  refine w_cv rfl (by decide) mt_X12_here v_tyM rfl rfl rfl (Nat.le_of_ble_eq_true rfl) (Nat.le_of_ble_eq_true rfl) (Nat.le_of_ble_eq_true rfl) ?_
  show w_T L xs _ m_X12_here 0 (lv_args 0 [.ref 100]) [] (p_S S0 pl cs sk cl (Int32.ofInt 0) nc sg ov bh op na) R _
  refine h_here (by omega) ?_
  refine w_st rfl (fun _ => rfl) ?_
  refine w_st rfl (fun _ => rfl) ?_
  refine w_st rfl (fun _ => rfl) ?_
  show w_T L xs (d + 3) m_X12_goesBehind 8 [(1, .int (p_h S0 pl)), (0, .ref 100)] [.int (Int32.ofInt 38), .int (p_h S0 pl)] (p_S S0 pl cs sk cl (Int32.ofInt 0) nc sg ov bh op na) R Q
  refine w_br (P := (p_h S0 pl) = (Int32.ofInt 38)) rfl (fun _ => rfl) (fun h8 => ?_) (fun h8 => ?_)
  · have hlt := p_h_lt (S0 := S0) (pl := pl) (by rw [h8]; decide)
    have hjo : p_jo (p_h S0 pl) := Or.inl h8
    have hbi := p_bi_jo hjo
    have hcc : p_cc (p_h S0 pl) := Or.inl hjo
    refine w_st rfl (fun _ => rfl) ?_
    refine w_st rfl (fun _ => rfl) ?_
    refine w_st rfl (fun _ => rfl) ?_
    show w_T L xs (d + 3) m_X12_goesBehind 21 [(1, .int (p_h S0 pl)), (0, .ref 100)] [.int (Int32.ofInt 124), .int (p_h S0 pl), .ref 100] (p_S S0 pl cs sk cl (Int32.ofInt 0) nc sg ov bh op na) R Q
    refine w_br (P := ¬ (p_h S0 pl) = (Int32.ofInt 124)) rfl (fun _ => rfl) (fun h21 => ?_) (fun h21 => ?_)
    · refine w_st rfl (fun _ => rfl) ?_
      show w_T L xs (d + 3) m_X12_goesBehind 29 [(1, .int (p_h S0 pl)), (0, .ref 100)] [.int (Int32.ofInt 0), .ref 100] (p_S S0 pl cs sk cl (Int32.ofInt 0) nc sg ov bh op na) R Q
      refine w_cv rfl (by decide) mt_X12_joins v_tyM rfl rfl rfl (Nat.le_of_ble_eq_true rfl) (Nat.le_of_ble_eq_true rfl) (Nat.le_of_ble_eq_true rfl) ?_
      show w_T L xs _ m_X12_joins 0 (lv_args 0 [.ref 100, .int (Int32.ofInt 0)]) [] (p_S S0 pl cs sk cl (Int32.ofInt 0) nc sg ov bh op na) R _
      refine h_joins _ q nc0 hp sk sk cs nc na (Nat.le_refl _) hI hC hb (fun sk1 cs1 nc1 na1 i1 c1 j1 t1 t2 => ?_)
      refine w_st rfl (fun _ => rfl) ?_
      refine w_st rfl (fun _ => rfl) ?_
      show w_T L xs (d + 3) m_X12_goesBehind 34 [(1, .int (p_h S0 pl)), (0, .ref 100)] [.int (p_h S0 pl), .ref 100] (p_S S0 pl cs1 sk1 cl (Int32.ofInt 0) nc1 sg ov bh op na1) R Q
      refine w_cv rfl (by decide) mt_X12_puts v_tyM rfl rfl rfl (Nat.le_of_ble_eq_true rfl) (Nat.le_of_ble_eq_true rfl) (Nat.le_of_ble_eq_true rfl) ?_
      show w_T L xs _ m_X12_puts 0 (lv_args 0 [.ref 100, .int (p_h S0 pl)]) [] (p_S S0 pl cs1 sk1 cl (Int32.ofInt 0) nc1 sg ov bh op na1) R _
      refine h_puts (by omega) (by omega) ?_
      refine w_st rfl (fun _ => rfl) ?_
      show w_T L xs (d + 3) m_X12_goesBehind 38 [(1, .int (p_h S0 pl)), (0, .ref 100)] [.int (Int32.ofInt 1)] (p_S S0 (pl + 1) cs1 (sk1 + 1) cl (Int32.ofInt 0) nc1 (upd sg sk1 (p_h S0 pl)) ov bh op na1) R Q
      refine w_ret rfl (by rfl) ?_
      exact K1 _ _ _ _ _ (p_I_pb i1 hbi) (p_C_psh c1 hcc) (by omega) (by omega)
    · refine w_st rfl (fun _ => rfl) ?_
      refine w_st rfl (fun _ => rfl) ?_
      show w_T L xs (d + 3) m_X12_goesBehind 29 [(1, .int (p_h S0 pl)), (0, .ref 100)] [.int (Int32.ofInt 1), .ref 100] (p_S S0 pl cs sk cl (Int32.ofInt 0) nc sg ov bh op na) R Q
      refine w_cv rfl (by decide) mt_X12_joins v_tyM rfl rfl rfl (Nat.le_of_ble_eq_true rfl) (Nat.le_of_ble_eq_true rfl) (Nat.le_of_ble_eq_true rfl) ?_
      show w_T L xs _ m_X12_joins 0 (lv_args 0 [.ref 100, .int (Int32.ofInt 1)]) [] (p_S S0 pl cs sk cl (Int32.ofInt 0) nc sg ov bh op na) R _
      refine h_joins _ q nc0 hp sk sk cs nc na (Nat.le_refl _) hI hC hb (fun sk1 cs1 nc1 na1 i1 c1 j1 t1 t2 => ?_)
      refine w_st rfl (fun _ => rfl) ?_
      refine w_st rfl (fun _ => rfl) ?_
      show w_T L xs (d + 3) m_X12_goesBehind 34 [(1, .int (p_h S0 pl)), (0, .ref 100)] [.int (p_h S0 pl), .ref 100] (p_S S0 pl cs1 sk1 cl (Int32.ofInt 0) nc1 sg ov bh op na1) R Q
      refine w_cv rfl (by decide) mt_X12_puts v_tyM rfl rfl rfl (Nat.le_of_ble_eq_true rfl) (Nat.le_of_ble_eq_true rfl) (Nat.le_of_ble_eq_true rfl) ?_
      show w_T L xs _ m_X12_puts 0 (lv_args 0 [.ref 100, .int (p_h S0 pl)]) [] (p_S S0 pl cs1 sk1 cl (Int32.ofInt 0) nc1 sg ov bh op na1) R _
      refine h_puts (by omega) (by omega) ?_
      refine w_st rfl (fun _ => rfl) ?_
      show w_T L xs (d + 3) m_X12_goesBehind 38 [(1, .int (p_h S0 pl)), (0, .ref 100)] [.int (Int32.ofInt 1)] (p_S S0 (pl + 1) cs1 (sk1 + 1) cl (Int32.ofInt 0) nc1 (upd sg sk1 (p_h S0 pl)) ov bh op na1) R Q
      refine w_ret rfl (by rfl) ?_
      exact K1 _ _ _ _ _ (p_I_pb i1 hbi) (p_C_psh c1 hcc) (by omega) (by omega)
  · refine w_st rfl (fun _ => rfl) ?_
    refine w_st rfl (fun _ => rfl) ?_
    show w_T L xs (d + 3) m_X12_goesBehind 14 [(1, .int (p_h S0 pl)), (0, .ref 100)] [.int (Int32.ofInt 124), .int (p_h S0 pl)] (p_S S0 pl cs sk cl (Int32.ofInt 0) nc sg ov bh op na) R Q
    refine w_br (P := ¬ (p_h S0 pl) = (Int32.ofInt 124)) rfl (fun _ => rfl) (fun h14 => ?_) (fun h14 => ?_)
    · refine w_st rfl (fun _ => rfl) ?_
      refine w_st rfl (fun _ => rfl) ?_
      show w_T L xs (d + 3) m_X12_goesBehind 42 [(1, .int (p_h S0 pl)), (0, .ref 100)] [.int (Int32.ofInt 41), .int (p_h S0 pl)] (p_S S0 pl cs sk cl (Int32.ofInt 0) nc sg ov bh op na) R Q
      refine w_br (P := (p_h S0 pl) = (Int32.ofInt 41)) rfl (fun _ => rfl) (fun h42 => ?_) (fun h42 => ?_)
      · have hlt := p_h_lt (S0 := S0) (pl := pl) (by rw [h42]; decide)
        refine w_st rfl (fun _ => rfl) ?_
        refine w_st rfl (fun _ => rfl) ?_
        show w_T L xs (d + 3) m_X12_goesBehind 58 [(1, .int (p_h S0 pl)), (0, .ref 100)] [.int (Int32.ofInt 1), .ref 100] (p_S S0 pl cs sk cl (Int32.ofInt 0) nc sg ov bh op na) R Q
        refine w_cv rfl (by decide) mt_X12_joins v_tyM rfl rfl rfl (Nat.le_of_ble_eq_true rfl) (Nat.le_of_ble_eq_true rfl) (Nat.le_of_ble_eq_true rfl) ?_
        show w_T L xs _ m_X12_joins 0 (lv_args 0 [.ref 100, .int (Int32.ofInt 1)]) [] (p_S S0 pl cs sk cl (Int32.ofInt 0) nc sg ov bh op na) R _
        refine h_joins _ q nc0 hp sk sk cs nc na (Nat.le_refl _) hI hC hb (fun sk1 cs1 nc1 na1 i1 c1 j1 t1 t2 => ?_)
        show w_T L xs (d + 3) m_X12_goesBehind 61 [(1, .int (p_h S0 pl)), (0, .ref 100)] [] (p_S S0 pl cs1 sk1 cl (Int32.ofInt 0) nc1 sg ov bh op na1) R Q
        have ht1 := c1.1
        have hcc1 := c1.2.2 (sk1 - 1) (by omega)
        have etp : p_tp sg sk1 = sg (sk1 - 1) := if_pos ht1
        have hI9 : p_I q nc0 cs1 (sk1 - 1) nc1 sg 1 := p_I_dn i1 ht1 (p_cc_n hcc1 (by rw [← etp]; exact t1) (by rw [← etp]; exact t2 (by decide)))
        refine w_st rfl (fun _ => rfl) ?_
        refine w_st rfl (fun _ => rfl) ?_
        show w_T L xs (d + 3) m_X12_goesBehind 63 [(1, .int (p_h S0 pl)), (0, .ref 100)] [.ref 100, .ref 100] (p_S S0 pl cs1 sk1 cl (Int32.ofInt 0) nc1 sg ov bh op na1) R Q
        refine w_get rfl v_tyM rfl ?_
        refine w_st rfl (fun _ => rfl) ?_
        refine w_st rfl (fun _ => rfl) ?_
        show w_T L xs (d + 3) m_X12_goesBehind 68 [(1, .int (p_h S0 pl)), (0, .ref 100)] [.int ((Int32.ofInt (sk1 : Int)) - (Int32.ofInt 1)), .ref 100] (p_S S0 pl cs1 sk1 cl (Int32.ofInt 0) nc1 sg ov bh op na1) R Q
        refine w_put rfl v_tyM rfl rfl rfl ?_
        refine w_eqS (p_wsk (w_dec2 (by omega))) ?_
        refine w_st rfl (fun _ => rfl) ?_
        refine w_st rfl (fun _ => rfl) ?_
        show w_T L xs (d + 3) m_X12_goesBehind 73 [(1, .int (p_h S0 pl)), (0, .ref 100)] [.ref 100, .ref 100] (p_S S0 pl cs1 (sk1 - 1) cl (Int32.ofInt 0) nc1 sg ov bh op na1) R Q
        refine w_get rfl v_tyM rfl ?_
        refine w_st rfl (fun _ => rfl) ?_
        refine w_st rfl (fun _ => rfl) ?_
        show w_T L xs (d + 3) m_X12_goesBehind 78 [(1, .int (p_h S0 pl)), (0, .ref 100)] [.int (op - (Int32.ofInt 1)), .ref 100] (p_S S0 pl cs1 (sk1 - 1) cl (Int32.ofInt 0) nc1 sg ov bh op na1) R Q
        refine w_put rfl v_tyM rfl rfl rfl ?_
        refine w_eqS p_wop ?_
        refine w_st rfl (fun _ => rfl) ?_
        refine w_st rfl (fun _ => rfl) ?_
        show w_T L xs (d + 3) m_X12_goesBehind 83 [(1, .int (p_h S0 pl)), (0, .ref 100)] [.ref 100, .ref 100] (p_S S0 pl cs1 (sk1 - 1) cl (Int32.ofInt 0) nc1 sg ov bh (op - (Int32.ofInt 1)) na1) R Q
        refine w_get rfl v_tyM rfl ?_
        refine w_st rfl (fun _ => rfl) ?_
        refine w_st rfl (fun _ => rfl) ?_
        show w_T L xs (d + 3) m_X12_goesBehind 88 [(1, .int (p_h S0 pl)), (0, .ref 100)] [.int ((Int32.ofInt (pl : Int)) + (Int32.ofInt 1)), .ref 100] (p_S S0 pl cs1 (sk1 - 1) cl (Int32.ofInt 0) nc1 sg ov bh (op - (Int32.ofInt 1)) na1) R Q
        refine w_put rfl v_tyM rfl rfl rfl ?_
        refine w_eqS (p_wpl (w_inc _)) ?_
        refine w_st rfl (fun _ => rfl) ?_
        refine w_st rfl (fun _ => rfl) ?_
        show w_T L xs (d + 3) m_X12_goesBehind 93 [(1, .int (p_h S0 pl)), (0, .ref 100)] [.ref 100, .ref 100] (p_S S0 (pl + 1) cs1 (sk1 - 1) cl (Int32.ofInt 0) nc1 sg ov bh (op - (Int32.ofInt 1)) na1) R Q
        refine w_get rfl v_tyM rfl ?_
        show w_T L xs (d + 3) m_X12_goesBehind 96 [(1, .int (p_h S0 pl)), (0, .ref 100)] [.int (Int32.ofInt ((sk1 - 1 : Nat) : Int)), .ref 100] (p_S S0 (pl + 1) cs1 (sk1 - 1) cl (Int32.ofInt 0) nc1 sg ov bh (op - (Int32.ofInt 1)) na1) R Q
        refine w_br (P := ¬ (Int32.ofInt ((sk1 - 1 : Nat) : Int)) = 0) rfl (fun _ => rfl) (fun h96 => ?_) (fun h96 => ?_)
        · have hC9 : p_C (sk1 - 1) sg := p_C_pop c1 (Classical.byContradiction (fun hn => h96 (by rw [show sk1 - 1 = 0 by omega]; rfl)))
          refine w_st rfl (fun _ => rfl) ?_
          show w_T L xs (d + 3) m_X12_goesBehind 104 [(1, .int (p_h S0 pl)), (0, .ref 100)] [.int (Int32.ofInt 0), .ref 100] (p_S S0 (pl + 1) cs1 (sk1 - 1) cl (Int32.ofInt 0) nc1 sg ov bh (op - (Int32.ofInt 1)) na1) R Q
          refine w_put rfl v_tyM rfl rfl rfl ?_
          refine w_eqS (p_wov (b := false) rfl) ?_
          refine w_st rfl (fun _ => rfl) ?_
          show w_T L xs (d + 3) m_X12_goesBehind 108 [(1, .int (p_h S0 pl)), (0, .ref 100)] [.ref 100] (p_S S0 (pl + 1) cs1 (sk1 - 1) cl (Int32.ofInt 0) nc1 sg false bh (op - (Int32.ofInt 1)) na1) R Q
          refine w_get rfl v_tyM rfl ?_
          show w_T L xs (d + 3) m_X12_goesBehind 111 [(1, .int (p_h S0 pl)), (0, .ref 100)] [.int (Int32.ofInt 0)] (p_S S0 (pl + 1) cs1 (sk1 - 1) cl (Int32.ofInt 0) nc1 sg false bh (op - (Int32.ofInt 1)) na1) R Q
          refine w_st rfl (fun _ => rfl) ?_
          refine w_st rfl (fun _ => rfl) ?_
          show w_T L xs (d + 3) m_X12_goesBehind 115 [(1, .int (p_h S0 pl)), (0, .ref 100)] [.ref 100] (p_S S0 (pl + 1) cs1 (sk1 - 1) cl (Int32.ofInt 0) nc1 sg false bh (op - (Int32.ofInt 1)) na1) R Q
          refine w_cv rfl (by decide) mt_X12_ends v_tyM rfl rfl rfl (Nat.le_of_ble_eq_true rfl) (Nat.le_of_ble_eq_true rfl) (Nat.le_of_ble_eq_true rfl) ?_
          show w_T L xs _ m_X12_ends 0 (lv_args 0 [.ref 100]) [] (p_S S0 (pl + 1) cs1 (sk1 - 1) cl (Int32.ofInt 0) nc1 sg false bh (op - (Int32.ofInt 1)) na1) R _
          refine h_ends q nc0 (by omega) (sk1 - 1) (sk1 - 1) cs1 nc1 na1 _ (Nat.le_refl _) hI9 hC9 (by omega) (fun sk3 cs3 nc3 na3 o3 i3 c3 j3 => ?_)
          refine w_st rfl (fun _ => rfl) ?_
          show w_T L xs (d + 3) m_X12_goesBehind 119 [(1, .int (p_h S0 pl)), (0, .ref 100)] [.int (Int32.ofInt 0)] (p_S S0 (pl + 1) cs3 sk3 cl (Int32.ofInt 0) nc3 sg false bh o3 na3) R Q
          refine w_ret rfl (by rfl) ?_
          exact K3 _ _ _ _ _ i3 c3 (by omega) (by omega)
        · refine w_st rfl (fun _ => rfl) ?_
          refine w_st rfl (fun _ => rfl) ?_
          show w_T L xs (d + 3) m_X12_goesBehind 104 [(1, .int (p_h S0 pl)), (0, .ref 100)] [.int (Int32.ofInt 1), .ref 100] (p_S S0 (pl + 1) cs1 (sk1 - 1) cl (Int32.ofInt 0) nc1 sg ov bh (op - (Int32.ofInt 1)) na1) R Q
          refine w_put rfl v_tyM rfl rfl rfl ?_
          refine w_eqS (p_wov (b := true) rfl) ?_
          refine w_st rfl (fun _ => rfl) ?_
          show w_T L xs (d + 3) m_X12_goesBehind 108 [(1, .int (p_h S0 pl)), (0, .ref 100)] [.ref 100] (p_S S0 (pl + 1) cs1 (sk1 - 1) cl (Int32.ofInt 0) nc1 sg true bh (op - (Int32.ofInt 1)) na1) R Q
          refine w_get rfl v_tyM rfl ?_
          show w_T L xs (d + 3) m_X12_goesBehind 111 [(1, .int (p_h S0 pl)), (0, .ref 100)] [.int (Int32.ofInt 1)] (p_S S0 (pl + 1) cs1 (sk1 - 1) cl (Int32.ofInt 0) nc1 sg true bh (op - (Int32.ofInt 1)) na1) R Q
          refine w_st rfl (fun _ => rfl) ?_
          refine w_st rfl (fun _ => rfl) ?_
          show w_T L xs (d + 3) m_X12_goesBehind 119 [(1, .int (p_h S0 pl)), (0, .ref 100)] [.int (Int32.ofInt 0)] (p_S S0 (pl + 1) cs1 (sk1 - 1) cl (Int32.ofInt 0) nc1 sg true bh (op - (Int32.ofInt 1)) na1) R Q
          refine w_ret rfl (by rfl) ?_
          exact K2 _ _ _ _ _ hI9 (by omega) (by omega)
      · refine w_st rfl (fun _ => rfl) ?_
        refine w_st rfl (fun _ => rfl) ?_
        refine w_st rfl (fun _ => rfl) ?_
        show w_T L xs (d + 3) m_X12_goesBehind 48 [(1, .int (p_h S0 pl)), (0, .ref 100)] [.ref 100, .int (Int32.ofInt 1), .ref 100] (p_S S0 pl cs sk cl (Int32.ofInt 0) nc sg ov bh op na) R Q
        refine w_get rfl v_tyM rfl ?_
        show w_T L xs (d + 3) m_X12_goesBehind 51 [(1, .int (p_h S0 pl)), (0, .ref 100)] [.int (Int32.ofInt (pl : Int)), .int (Int32.ofInt 1), .ref 100] (p_S S0 pl cs sk cl (Int32.ofInt 0) nc sg ov bh op na) R Q
        refine w_cv rfl (by decide) mt_X12_wrongs v_tyM rfl rfl rfl (Nat.le_of_ble_eq_true rfl) (Nat.le_of_ble_eq_true rfl) (Nat.le_of_ble_eq_true rfl) ?_
        show w_T L xs _ m_X12_wrongs 0 (lv_args 0 [.ref 100, .int (Int32.ofInt 1), .int (Int32.ofInt (pl : Int))]) [] (p_S S0 pl cs sk cl (Int32.ofInt 0) nc sg ov bh op na) R _
        refine h_wr (by decide) (by decide) (by rw [w_nat (by omega)]; omega) (by rw [w_nat (by omega)]; omega) (fun b51 hb51 => ?_)
        refine w_st rfl (fun _ => rfl) ?_
        show w_T L xs (d + 3) m_X12_goesBehind 55 [(1, .int (p_h S0 pl)), (0, .ref 100)] [.int (Int32.ofInt 0)] (p_S S0 pl cs sk cl b51 nc sg ov bh op na) R Q
        refine w_ret rfl (by rfl) ?_
        exact Kb _ hb51
    · have e14 := Decidable.of_not_not h14
      have hlt := p_h_lt (S0 := S0) (pl := pl) (by rw [e14]; decide)
      have hjo : p_jo (p_h S0 pl) := Or.inr e14
      have hbi := p_bi_jo hjo
      have hcc : p_cc (p_h S0 pl) := Or.inl hjo
      refine w_st rfl (fun _ => rfl) ?_
      refine w_st rfl (fun _ => rfl) ?_
      refine w_st rfl (fun _ => rfl) ?_
      show w_T L xs (d + 3) m_X12_goesBehind 21 [(1, .int (p_h S0 pl)), (0, .ref 100)] [.int (Int32.ofInt 124), .int (p_h S0 pl), .ref 100] (p_S S0 pl cs sk cl (Int32.ofInt 0) nc sg ov bh op na) R Q
      refine w_br (P := ¬ (p_h S0 pl) = (Int32.ofInt 124)) rfl (fun _ => rfl) (fun h21 => ?_) (fun h21 => ?_)
      · refine w_st rfl (fun _ => rfl) ?_
        show w_T L xs (d + 3) m_X12_goesBehind 29 [(1, .int (p_h S0 pl)), (0, .ref 100)] [.int (Int32.ofInt 0), .ref 100] (p_S S0 pl cs sk cl (Int32.ofInt 0) nc sg ov bh op na) R Q
        refine w_cv rfl (by decide) mt_X12_joins v_tyM rfl rfl rfl (Nat.le_of_ble_eq_true rfl) (Nat.le_of_ble_eq_true rfl) (Nat.le_of_ble_eq_true rfl) ?_
        show w_T L xs _ m_X12_joins 0 (lv_args 0 [.ref 100, .int (Int32.ofInt 0)]) [] (p_S S0 pl cs sk cl (Int32.ofInt 0) nc sg ov bh op na) R _
        refine h_joins _ q nc0 hp sk sk cs nc na (Nat.le_refl _) hI hC hb (fun sk1 cs1 nc1 na1 i1 c1 j1 t1 t2 => ?_)
        refine w_st rfl (fun _ => rfl) ?_
        refine w_st rfl (fun _ => rfl) ?_
        show w_T L xs (d + 3) m_X12_goesBehind 34 [(1, .int (p_h S0 pl)), (0, .ref 100)] [.int (p_h S0 pl), .ref 100] (p_S S0 pl cs1 sk1 cl (Int32.ofInt 0) nc1 sg ov bh op na1) R Q
        refine w_cv rfl (by decide) mt_X12_puts v_tyM rfl rfl rfl (Nat.le_of_ble_eq_true rfl) (Nat.le_of_ble_eq_true rfl) (Nat.le_of_ble_eq_true rfl) ?_
        show w_T L xs _ m_X12_puts 0 (lv_args 0 [.ref 100, .int (p_h S0 pl)]) [] (p_S S0 pl cs1 sk1 cl (Int32.ofInt 0) nc1 sg ov bh op na1) R _
        refine h_puts (by omega) (by omega) ?_
        refine w_st rfl (fun _ => rfl) ?_
        show w_T L xs (d + 3) m_X12_goesBehind 38 [(1, .int (p_h S0 pl)), (0, .ref 100)] [.int (Int32.ofInt 1)] (p_S S0 (pl + 1) cs1 (sk1 + 1) cl (Int32.ofInt 0) nc1 (upd sg sk1 (p_h S0 pl)) ov bh op na1) R Q
        refine w_ret rfl (by rfl) ?_
        exact K1 _ _ _ _ _ (p_I_pb i1 hbi) (p_C_psh c1 hcc) (by omega) (by omega)
      · refine w_st rfl (fun _ => rfl) ?_
        refine w_st rfl (fun _ => rfl) ?_
        show w_T L xs (d + 3) m_X12_goesBehind 29 [(1, .int (p_h S0 pl)), (0, .ref 100)] [.int (Int32.ofInt 1), .ref 100] (p_S S0 pl cs sk cl (Int32.ofInt 0) nc sg ov bh op na) R Q
        refine w_cv rfl (by decide) mt_X12_joins v_tyM rfl rfl rfl (Nat.le_of_ble_eq_true rfl) (Nat.le_of_ble_eq_true rfl) (Nat.le_of_ble_eq_true rfl) ?_
        show w_T L xs _ m_X12_joins 0 (lv_args 0 [.ref 100, .int (Int32.ofInt 1)]) [] (p_S S0 pl cs sk cl (Int32.ofInt 0) nc sg ov bh op na) R _
        refine h_joins _ q nc0 hp sk sk cs nc na (Nat.le_refl _) hI hC hb (fun sk1 cs1 nc1 na1 i1 c1 j1 t1 t2 => ?_)
        refine w_st rfl (fun _ => rfl) ?_
        refine w_st rfl (fun _ => rfl) ?_
        show w_T L xs (d + 3) m_X12_goesBehind 34 [(1, .int (p_h S0 pl)), (0, .ref 100)] [.int (p_h S0 pl), .ref 100] (p_S S0 pl cs1 sk1 cl (Int32.ofInt 0) nc1 sg ov bh op na1) R Q
        refine w_cv rfl (by decide) mt_X12_puts v_tyM rfl rfl rfl (Nat.le_of_ble_eq_true rfl) (Nat.le_of_ble_eq_true rfl) (Nat.le_of_ble_eq_true rfl) ?_
        show w_T L xs _ m_X12_puts 0 (lv_args 0 [.ref 100, .int (p_h S0 pl)]) [] (p_S S0 pl cs1 sk1 cl (Int32.ofInt 0) nc1 sg ov bh op na1) R _
        refine h_puts (by omega) (by omega) ?_
        refine w_st rfl (fun _ => rfl) ?_
        show w_T L xs (d + 3) m_X12_goesBehind 38 [(1, .int (p_h S0 pl)), (0, .ref 100)] [.int (Int32.ofInt 1)] (p_S S0 (pl + 1) cs1 (sk1 + 1) cl (Int32.ofInt 0) nc1 (upd sg sk1 (p_h S0 pl)) ov bh op na1) R Q
        refine w_ret rfl (by rfl) ?_
        exact K1 _ _ _ _ _ (p_I_pb i1 hbi) (p_C_psh c1 hcc) (by omega) (by omega)
theorem h_coT {q pl0 : Nat} {nc0 : Nat → Int32} (he : (S0 99 4).toInt ≤ 240) (hI : p_I q nc0 cs sk nc sg 1) (hC : p_C sk sg) (hb : cs + sk ≤ pl) (hp : pl ≤ 240) (u : Int32) (hgt : pl0 ≤ pl) (K7 : ∀ (cs' sk' : Nat) (nc' sg' na' : Nat → Int32) (o : Int32) (mo : Bool), p_I q nc0 cs' sk' nc' sg' (bif mo then 0 else 1) → p_C sk' sg' → cs' + sk' ≤ pl + 1 → pl + 1 ≤ 240 → w_T L xs (d + 6) m_X12_condition 37 [(1, .int (p_b mo)), (0, .ref 100)] [] (p_S S0 (pl + 1) (cs') (sk') cl (Int32.ofInt 0) (nc') (sg') false bh o (na')) R Q) (Kg : ∀ (pl' cs' sk' : Nat) (nc' sg' na' : Nat → Int32) (o : Int32) (h' : Bool), pl0 ≤ pl' → p_I q nc0 cs' sk' nc' sg' 1 → cs' + sk' ≤ pl' → pl' ≤ 240 → Q none (p_S S0 (pl') (cs') (sk') cl (Int32.ofInt 0) (nc') (sg') true (h') o (na')) R) (Kb : ∀ (pl' cs' sk' : Nat) (b' : Int32) (nc' sg' na' : Nat → Int32) (o : Int32) (h' : Bool), b'.toInt < 0 → cs' + sk' ≤ pl' → pl' ≤ 240 → Q none (p_S S0 (pl') (cs') (sk') cl (b') (nc') (sg') false (h') o (na')) R) : w_T L xs (d + 6) m_X12_condition 66 [(1, .int u), (0, .ref 100)] [] (p_S S0 pl cs sk cl (Int32.ofInt 0) nc sg false bh op na) R Q := by
  refine w_st rfl (fun _ => rfl) ?_
  show w_T L xs (d + 6) m_X12_condition 67 [(1, .int u), (0, .ref 100)] [.ref 100] (p_S S0 pl cs sk cl (Int32.ofInt 0) nc sg false bh op na) R Q
  refine w_cv rfl (by decide) mt_X12_goesBehind v_tyM rfl rfl rfl (Nat.le_of_ble_eq_true rfl) (Nat.le_of_ble_eq_true rfl) (Nat.le_of_ble_eq_true rfl) ?_
  show w_T L xs _ m_X12_goesBehind 0 (lv_args 0 [.ref 100]) [] (p_S S0 pl cs sk cl (Int32.ofInt 0) nc sg false bh op na) R _
  refine h_goes he hI hC hb hp (fun cs1 sk1 nc1 sg1 na1 i1 c1 j1 k1 => ?_) (fun cs1 sk1 nc1 na1 o1 i1 j1 k1 => ?_) (fun cs1 sk1 nc1 na1 o1 i1 c1 j1 k1 => ?_) (fun b67 hb67 => ?_)
  · show w_T L xs (d + 6) m_X12_condition 70 [(1, .int u), (0, .ref 100)] [.int (Int32.ofInt 1)] (p_S S0 (pl + 1) cs1 sk1 cl (Int32.ofInt 0) nc1 sg1 false bh op na1) R Q
    refine w_st rfl (fun _ => rfl) ?_
    refine w_st rfl (fun _ => rfl) ?_
    show w_T L xs (d + 6) m_X12_condition 37 [(1, .int (Int32.ofInt 1)), (0, .ref 100)] [] (p_S S0 (pl + 1) cs1 sk1 cl (Int32.ofInt 0) nc1 sg1 false bh op na1) R Q
    exact K7 _ _ _ _ _ _ true i1 c1 j1 k1
  · show w_T L xs (d + 6) m_X12_condition 70 [(1, .int u), (0, .ref 100)] [.int (Int32.ofInt 0)] (p_S S0 (pl + 1) cs1 sk1 cl (Int32.ofInt 0) nc1 sg true bh o1 na1) R Q
    refine w_st rfl (fun _ => rfl) ?_
    refine w_st rfl (fun _ => rfl) ?_
    show w_T L xs (d + 6) m_X12_condition 37 [(1, .int (Int32.ofInt 0)), (0, .ref 100)] [] (p_S S0 (pl + 1) cs1 sk1 cl (Int32.ofInt 0) nc1 sg true bh o1 na1) R Q
    refine w_st rfl (fun _ => rfl) ?_
    show w_T L xs (d + 6) m_X12_condition 38 [(1, .int (Int32.ofInt 0)), (0, .ref 100)] [.ref 100] (p_S S0 (pl + 1) cs1 sk1 cl (Int32.ofInt 0) nc1 sg true bh o1 na1) R Q
    refine w_cv rfl (by decide) mt_X12_isGood v_tyM rfl rfl rfl (Nat.le_of_ble_eq_true rfl) (Nat.le_of_ble_eq_true rfl) (Nat.le_of_ble_eq_true rfl) ?_
    show w_T L xs _ m_X12_isGood 0 (lv_args 0 [.ref 100]) [] (p_S S0 (pl + 1) cs1 sk1 cl (Int32.ofInt 0) nc1 sg true bh o1 na1) R _
    refine h_isGT ?_
    show w_T L xs (d + 6) m_X12_condition 41 [(1, .int (Int32.ofInt 0)), (0, .ref 100)] [.int (Int32.ofInt 1)] (p_S S0 (pl + 1) cs1 sk1 cl (Int32.ofInt 0) nc1 sg true bh o1 na1) R Q
    refine w_st rfl (fun _ => rfl) ?_
    refine w_st rfl (fun _ => rfl) ?_
    show w_T L xs (d + 6) m_X12_condition 45 [(1, .int (Int32.ofInt 0)), (0, .ref 100)] [.ref 100] (p_S S0 (pl + 1) cs1 sk1 cl (Int32.ofInt 0) nc1 sg true bh o1 na1) R Q
    refine w_get rfl v_tyM rfl ?_
    show w_T L xs (d + 6) m_X12_condition 48 [(1, .int (Int32.ofInt 0)), (0, .ref 100)] [.int (Int32.ofInt 1)] (p_S S0 (pl + 1) cs1 sk1 cl (Int32.ofInt 0) nc1 sg true bh o1 na1) R Q
    refine w_st rfl (fun _ => rfl) ?_
    show w_T L xs (d + 6) m_X12_condition 74 [(1, .int (Int32.ofInt 0)), (0, .ref 100)] [] (p_S S0 (pl + 1) cs1 sk1 cl (Int32.ofInt 0) nc1 sg true bh o1 na1) R Q
    refine w_ret rfl rfl ?_
    exact Kg _ _ _ _ _ _ _ _ (by omega) i1 (by omega) (by omega)
  · show w_T L xs (d + 6) m_X12_condition 70 [(1, .int u), (0, .ref 100)] [.int (Int32.ofInt 0)] (p_S S0 (pl + 1) cs1 sk1 cl (Int32.ofInt 0) nc1 sg false bh o1 na1) R Q
    refine w_st rfl (fun _ => rfl) ?_
    refine w_st rfl (fun _ => rfl) ?_
    show w_T L xs (d + 6) m_X12_condition 37 [(1, .int (Int32.ofInt 0)), (0, .ref 100)] [] (p_S S0 (pl + 1) cs1 sk1 cl (Int32.ofInt 0) nc1 sg false bh o1 na1) R Q
    exact K7 _ _ _ _ _ _ false i1 c1 j1 k1
  · show w_T L xs (d + 6) m_X12_condition 70 [(1, .int u), (0, .ref 100)] [.int (Int32.ofInt 0)] (p_S S0 pl cs sk cl b67 nc sg false bh op na) R Q
    refine w_st rfl (fun _ => rfl) ?_
    refine w_st rfl (fun _ => rfl) ?_
    show w_T L xs (d + 6) m_X12_condition 37 [(1, .int (Int32.ofInt 0)), (0, .ref 100)] [] (p_S S0 pl cs sk cl b67 nc sg false bh op na) R Q
    refine w_st rfl (fun _ => rfl) ?_
    show w_T L xs (d + 6) m_X12_condition 38 [(1, .int (Int32.ofInt 0)), (0, .ref 100)] [.ref 100] (p_S S0 pl cs sk cl b67 nc sg false bh op na) R Q
    refine w_cv rfl (by decide) mt_X12_isGood v_tyM rfl rfl rfl (Nat.le_of_ble_eq_true rfl) (Nat.le_of_ble_eq_true rfl) (Nat.le_of_ble_eq_true rfl) ?_
    show w_T L xs _ m_X12_isGood 0 (lv_args 0 [.ref 100]) [] (p_S S0 pl cs sk cl b67 nc sg false bh op na) R _
    refine h_isGF hb67 ?_
    show w_T L xs (d + 6) m_X12_condition 41 [(1, .int (Int32.ofInt 0)), (0, .ref 100)] [.int (Int32.ofInt 0)] (p_S S0 pl cs sk cl b67 nc sg false bh op na) R Q
    refine w_st rfl (fun _ => rfl) ?_
    show w_T L xs (d + 6) m_X12_condition 74 [(1, .int (Int32.ofInt 0)), (0, .ref 100)] [] (p_S S0 pl cs sk cl b67 nc sg false bh op na) R Q
    refine w_ret rfl rfl ?_
    exact Kb _ _ _ _ _ _ _ _ _ hb67 (by omega) (by omega)
theorem h_coS {q pl0 : Nat} {nc0 : Nat → Int32} (mo : Bool) (he : (S0 99 4).toInt ≤ 240) (hI : p_I q nc0 cs sk nc sg (bif mo then 0 else 1)) (hC : p_C sk sg) (hb : cs + sk ≤ pl) (hp : pl ≤ 240) (hgt : pl0 ≤ pl) (K7 : ∀ (pl' cs' sk' : Nat) (nc' sg' na' : Nat → Int32) (o : Int32) (mo h' : Bool), pl < pl' → p_I q nc0 cs' sk' nc' sg' (bif mo then 0 else 1) → p_C sk' sg' → cs' + sk' ≤ pl' → pl' ≤ 240 → w_T L xs (d + 6) m_X12_condition 37 [(1, .int (p_b mo)), (0, .ref 100)] [] (p_S S0 (pl') (cs') (sk') cl (Int32.ofInt 0) (nc') (sg') false (h') o (na')) R Q) (Kg : ∀ (pl' cs' sk' : Nat) (nc' sg' na' : Nat → Int32) (o : Int32) (h' : Bool), pl0 ≤ pl' → p_I q nc0 cs' sk' nc' sg' 1 → cs' + sk' ≤ pl' → pl' ≤ 240 → Q none (p_S S0 (pl') (cs') (sk') cl (Int32.ofInt 0) (nc') (sg') true (h') o (na')) R) (Kb : ∀ (pl' cs' sk' : Nat) (b' : Int32) (nc' sg' na' : Nat → Int32) (o : Int32) (h' : Bool), b'.toInt < 0 → cs' + sk' ≤ pl' → pl' ≤ 240 → Q none (p_S S0 (pl') (cs') (sk') cl (b') (nc') (sg') false (h') o (na')) R) : w_T L xs (d + 6) m_X12_condition 37 [(1, .int (p_b mo)), (0, .ref 100)] [] (p_S S0 pl cs sk cl (Int32.ofInt 0) nc sg false bh op na) R Q := by
  cases mo with
  | true =>
    refine w_st rfl (fun _ => rfl) ?_
    show w_T L xs (d + 6) m_X12_condition 38 [(1, .int (Int32.ofInt 1)), (0, .ref 100)] [.ref 100] (p_S S0 pl cs sk cl (Int32.ofInt 0) nc sg false bh op na) R Q
    refine w_cv rfl (by decide) mt_X12_isGood v_tyM rfl rfl rfl (Nat.le_of_ble_eq_true rfl) (Nat.le_of_ble_eq_true rfl) (Nat.le_of_ble_eq_true rfl) ?_
    show w_T L xs _ m_X12_isGood 0 (lv_args 0 [.ref 100]) [] (p_S S0 pl cs sk cl (Int32.ofInt 0) nc sg false bh op na) R _
    refine h_isGT ?_
    show w_T L xs (d + 6) m_X12_condition 41 [(1, .int (Int32.ofInt 1)), (0, .ref 100)] [.int (Int32.ofInt 1)] (p_S S0 pl cs sk cl (Int32.ofInt 0) nc sg false bh op na) R Q
    refine w_st rfl (fun _ => rfl) ?_
    refine w_st rfl (fun _ => rfl) ?_
    show w_T L xs (d + 6) m_X12_condition 45 [(1, .int (Int32.ofInt 1)), (0, .ref 100)] [.ref 100] (p_S S0 pl cs sk cl (Int32.ofInt 0) nc sg false bh op na) R Q
    refine w_get rfl v_tyM rfl ?_
    show w_T L xs (d + 6) m_X12_condition 48 [(1, .int (Int32.ofInt 1)), (0, .ref 100)] [.int (Int32.ofInt 0)] (p_S S0 pl cs sk cl (Int32.ofInt 0) nc sg false bh op na) R Q
    refine w_st rfl (fun _ => rfl) ?_
    refine w_st rfl (fun _ => rfl) ?_
    show w_T L xs (d + 6) m_X12_condition 52 [(1, .int (Int32.ofInt 1)), (0, .ref 100)] [.int (Int32.ofInt 1)] (p_S S0 pl cs sk cl (Int32.ofInt 0) nc sg false bh op na) R Q
    refine w_st rfl (fun _ => rfl) ?_
    refine w_st rfl (fun _ => rfl) ?_
    show w_T L xs (d + 6) m_X12_condition 56 [(1, .int (Int32.ofInt 1)), (0, .ref 100)] [.ref 100] (p_S S0 pl cs sk cl (Int32.ofInt 0) nc sg false bh op na) R Q
    refine w_cv rfl (by decide) mt_X12_pieceOfC v_tyM rfl rfl rfl (Nat.le_of_ble_eq_true rfl) (Nat.le_of_ble_eq_true rfl) (Nat.le_of_ble_eq_true rfl) ?_
    show w_T L xs _ m_X12_pieceOfC 0 (lv_args 0 [.ref 100]) [] (p_S S0 pl cs sk cl (Int32.ofInt 0) nc sg false bh op na) R _
    refine h_piece q nc0 he 240 pl sk sg op (by omega) hI hC hb hp (fun pl1 cs1 sk1 nc1 sg1 na1 o1 h1 l1 i1 c1 j1 k1 => ?_) (fun pl1 cs1 sk1 b56 nc1 sg1 na1 o1 h1 hb56 j1 k1 => ?_)
    · show w_T L xs (d + 6) m_X12_condition 59 [(1, .int (Int32.ofInt 1)), (0, .ref 100)] [] (p_S S0 pl1 cs1 sk1 cl (Int32.ofInt 0) nc1 sg1 false h1 o1 na1) R Q
      refine w_st rfl (fun _ => rfl) ?_
      show w_T L xs (d + 6) m_X12_condition 60 [(1, .int (Int32.ofInt 1)), (0, .ref 100)] [.ref 100] (p_S S0 pl1 cs1 sk1 cl (Int32.ofInt 0) nc1 sg1 false h1 o1 na1) R Q
      refine w_cv rfl (by decide) mt_X12_isGood v_tyM rfl rfl rfl (Nat.le_of_ble_eq_true rfl) (Nat.le_of_ble_eq_true rfl) (Nat.le_of_ble_eq_true rfl) ?_
      show w_T L xs _ m_X12_isGood 0 (lv_args 0 [.ref 100]) [] (p_S S0 pl1 cs1 sk1 cl (Int32.ofInt 0) nc1 sg1 false h1 o1 na1) R _
      refine h_isGT ?_
      show w_T L xs (d + 6) m_X12_condition 63 [(1, .int (Int32.ofInt 1)), (0, .ref 100)] [.int (Int32.ofInt 1)] (p_S S0 pl1 cs1 sk1 cl (Int32.ofInt 0) nc1 sg1 false h1 o1 na1) R Q
      refine w_st rfl (fun _ => rfl) ?_
      show w_T L xs (d + 6) m_X12_condition 66 [(1, .int (Int32.ofInt 1)), (0, .ref 100)] [] (p_S S0 pl1 cs1 sk1 cl (Int32.ofInt 0) nc1 sg1 false h1 o1 na1) R Q
      exact h_coT he i1 c1 j1 k1 _ (by omega) (fun cs' sk' nc' sg' na' o mo a1 a2 a3 a4 => K7 _ cs' sk' nc' sg' na' o mo _ (by omega) a1 a2 a3 a4) Kg Kb
    · show w_T L xs (d + 6) m_X12_condition 59 [(1, .int (Int32.ofInt 1)), (0, .ref 100)] [] (p_S S0 pl1 cs1 sk1 cl b56 nc1 sg1 false h1 o1 na1) R Q
      refine w_st rfl (fun _ => rfl) ?_
      show w_T L xs (d + 6) m_X12_condition 60 [(1, .int (Int32.ofInt 1)), (0, .ref 100)] [.ref 100] (p_S S0 pl1 cs1 sk1 cl b56 nc1 sg1 false h1 o1 na1) R Q
      refine w_cv rfl (by decide) mt_X12_isGood v_tyM rfl rfl rfl (Nat.le_of_ble_eq_true rfl) (Nat.le_of_ble_eq_true rfl) (Nat.le_of_ble_eq_true rfl) ?_
      show w_T L xs _ m_X12_isGood 0 (lv_args 0 [.ref 100]) [] (p_S S0 pl1 cs1 sk1 cl b56 nc1 sg1 false h1 o1 na1) R _
      refine h_isGF hb56 ?_
      show w_T L xs (d + 6) m_X12_condition 63 [(1, .int (Int32.ofInt 1)), (0, .ref 100)] [.int (Int32.ofInt 0)] (p_S S0 pl1 cs1 sk1 cl b56 nc1 sg1 false h1 o1 na1) R Q
      refine w_st rfl (fun _ => rfl) ?_
      show w_T L xs (d + 6) m_X12_condition 37 [(1, .int (Int32.ofInt 1)), (0, .ref 100)] [] (p_S S0 pl1 cs1 sk1 cl b56 nc1 sg1 false h1 o1 na1) R Q
      refine w_st rfl (fun _ => rfl) ?_
      show w_T L xs (d + 6) m_X12_condition 38 [(1, .int (Int32.ofInt 1)), (0, .ref 100)] [.ref 100] (p_S S0 pl1 cs1 sk1 cl b56 nc1 sg1 false h1 o1 na1) R Q
      refine w_cv rfl (by decide) mt_X12_isGood v_tyM rfl rfl rfl (Nat.le_of_ble_eq_true rfl) (Nat.le_of_ble_eq_true rfl) (Nat.le_of_ble_eq_true rfl) ?_
      show w_T L xs _ m_X12_isGood 0 (lv_args 0 [.ref 100]) [] (p_S S0 pl1 cs1 sk1 cl b56 nc1 sg1 false h1 o1 na1) R _
      refine h_isGF hb56 ?_
      show w_T L xs (d + 6) m_X12_condition 41 [(1, .int (Int32.ofInt 1)), (0, .ref 100)] [.int (Int32.ofInt 0)] (p_S S0 pl1 cs1 sk1 cl b56 nc1 sg1 false h1 o1 na1) R Q
      refine w_st rfl (fun _ => rfl) ?_
      show w_T L xs (d + 6) m_X12_condition 74 [(1, .int (Int32.ofInt 1)), (0, .ref 100)] [] (p_S S0 pl1 cs1 sk1 cl b56 nc1 sg1 false h1 o1 na1) R Q
      refine w_ret rfl rfl ?_
      exact Kb _ _ _ _ _ _ _ _ _ hb56 (by omega) (by omega)
  | false =>
    refine w_st rfl (fun _ => rfl) ?_
    show w_T L xs (d + 6) m_X12_condition 38 [(1, .int (Int32.ofInt 0)), (0, .ref 100)] [.ref 100] (p_S S0 pl cs sk cl (Int32.ofInt 0) nc sg false bh op na) R Q
    refine w_cv rfl (by decide) mt_X12_isGood v_tyM rfl rfl rfl (Nat.le_of_ble_eq_true rfl) (Nat.le_of_ble_eq_true rfl) (Nat.le_of_ble_eq_true rfl) ?_
    show w_T L xs _ m_X12_isGood 0 (lv_args 0 [.ref 100]) [] (p_S S0 pl cs sk cl (Int32.ofInt 0) nc sg false bh op na) R _
    refine h_isGT ?_
    show w_T L xs (d + 6) m_X12_condition 41 [(1, .int (Int32.ofInt 0)), (0, .ref 100)] [.int (Int32.ofInt 1)] (p_S S0 pl cs sk cl (Int32.ofInt 0) nc sg false bh op na) R Q
    refine w_st rfl (fun _ => rfl) ?_
    refine w_st rfl (fun _ => rfl) ?_
    show w_T L xs (d + 6) m_X12_condition 45 [(1, .int (Int32.ofInt 0)), (0, .ref 100)] [.ref 100] (p_S S0 pl cs sk cl (Int32.ofInt 0) nc sg false bh op na) R Q
    refine w_get rfl v_tyM rfl ?_
    show w_T L xs (d + 6) m_X12_condition 48 [(1, .int (Int32.ofInt 0)), (0, .ref 100)] [.int (Int32.ofInt 0)] (p_S S0 pl cs sk cl (Int32.ofInt 0) nc sg false bh op na) R Q
    refine w_st rfl (fun _ => rfl) ?_
    refine w_st rfl (fun _ => rfl) ?_
    show w_T L xs (d + 6) m_X12_condition 52 [(1, .int (Int32.ofInt 0)), (0, .ref 100)] [.int (Int32.ofInt 0)] (p_S S0 pl cs sk cl (Int32.ofInt 0) nc sg false bh op na) R Q
    refine w_st rfl (fun _ => rfl) ?_
    refine w_st rfl (fun _ => rfl) ?_
    show w_T L xs (d + 6) m_X12_condition 60 [(1, .int (Int32.ofInt 0)), (0, .ref 100)] [.ref 100] (p_S S0 pl cs sk cl (Int32.ofInt 0) nc sg false bh op na) R Q
    refine w_cv rfl (by decide) mt_X12_isGood v_tyM rfl rfl rfl (Nat.le_of_ble_eq_true rfl) (Nat.le_of_ble_eq_true rfl) (Nat.le_of_ble_eq_true rfl) ?_
    show w_T L xs _ m_X12_isGood 0 (lv_args 0 [.ref 100]) [] (p_S S0 pl cs sk cl (Int32.ofInt 0) nc sg false bh op na) R _
    refine h_isGT ?_
    show w_T L xs (d + 6) m_X12_condition 63 [(1, .int (Int32.ofInt 0)), (0, .ref 100)] [.int (Int32.ofInt 1)] (p_S S0 pl cs sk cl (Int32.ofInt 0) nc sg false bh op na) R Q
    refine w_st rfl (fun _ => rfl) ?_
    show w_T L xs (d + 6) m_X12_condition 66 [(1, .int (Int32.ofInt 0)), (0, .ref 100)] [] (p_S S0 pl cs sk cl (Int32.ofInt 0) nc sg false bh op na) R Q
    exact h_coT he hI hC hb hp _ (by omega) (fun cs' sk' nc' sg' na' o mo a1 a2 a3 a4 => K7 _ cs' sk' nc' sg' na' o mo _ (by omega) a1 a2 a3 a4) Kg Kb
theorem h_coL (q pl0 : Nat) (nc0 : Nat → Int32) (he : (S0 99 4).toInt ≤ 240) (Kg : ∀ (pl' cs' sk' : Nat) (nc' sg' na' : Nat → Int32) (o : Int32) (h' : Bool), pl0 ≤ pl' → p_I q nc0 cs' sk' nc' sg' 1 → cs' + sk' ≤ pl' → pl' ≤ 240 → Q none (p_S S0 (pl') (cs') (sk') cl (Int32.ofInt 0) (nc') (sg') true (h') o (na')) R) (Kb : ∀ (pl' cs' sk' : Nat) (b' : Int32) (nc' sg' na' : Nat → Int32) (o : Int32) (h' : Bool), b'.toInt < 0 → cs' + sk' ≤ pl' → pl' ≤ 240 → Q none (p_S S0 (pl') (cs') (sk') cl (b') (nc') (sg') false (h') o (na')) R) : ∀ (n pl cs sk : Nat) (nc sg na : Nat → Int32) (op : Int32) (mo bh : Bool), 240 ≤ pl + n → pl0 ≤ pl → p_I q nc0 cs sk nc sg (bif mo then 0 else 1) → p_C sk sg → cs + sk ≤ pl → pl ≤ 240 → w_T L xs (d + 6) m_X12_condition 37 [(1, .int (p_b mo)), (0, .ref 100)] [] (p_S S0 pl cs sk cl (Int32.ofInt 0) nc sg false bh op na) R Q := by
  intro n
  induction n with
  | zero =>
    intro pl cs sk nc sg na op mo bh hn hgt hI hC hb hp
    exact h_coS mo he hI hC hb hp hgt (fun pl' cs' sk' nc' sg' na' o mo h' l _ _ _ hh => absurd hh (by omega)) Kg Kb
  | succ n ih =>
    intro pl cs sk nc sg na op mo bh hn hgt hI hC hb hp
    exact h_coS mo he hI hC hb hp hgt (fun pl' cs' sk' nc' sg' na' o mo h' l a1 a2 a3 a4 => ih pl' cs' sk' nc' sg' na' o mo h' (by omega) (by omega) a1 a2 a3 a4) Kg Kb
theorem h_cond (he : (S0 99 4).toInt ≤ 240) (hb : cs ≤ pl) (hp : pl ≤ 240) (Kg : ∀ (pl' cs' sk' : Nat) (nc' sg' na' : Nat → Int32) (o : Int32) (h' : Bool), pl ≤ pl' → p_I cs nc cs' sk' nc' sg' 1 → cs' + sk' ≤ pl' → pl' ≤ 240 → Q none (p_S S0 (pl') (cs') (sk') cl (Int32.ofInt 0) (nc') (sg') true (h') o (na')) R) (Kb : ∀ (pl' cs' sk' : Nat) (b' : Int32) (nc' sg' na' : Nat → Int32) (o : Int32) (h' : Bool), b'.toInt < 0 → cs' + sk' ≤ pl' → pl' ≤ 240 → Q none (p_S S0 (pl') (cs') (sk') cl (b') (nc') (sg') false (h') o (na')) R) : w_T L xs (d + 6) m_X12_condition 0 (lv_args 0 [.ref 100]) [] (p_S S0 pl cs 0 cl (Int32.ofInt 0) nc sg ov bh op na) R Q := by
  have hI : p_I cs nc cs 0 nc sg 0 := ⟨Nat.le_refl _, fun _ _ => rfl, by rw [Nat.sub_self]; trivial, by rw [Nat.sub_self]; rfl⟩
  refine w_st rfl (fun _ => rfl) ?_
  refine w_st rfl (fun _ => rfl) ?_
  show w_T L xs (d + 6) m_X12_condition 2 [(0, .ref 100)] [.int (Int32.ofInt 0), .ref 100] (p_S S0 pl cs 0 cl (Int32.ofInt 0) nc sg ov bh op na) R Q
  refine w_put rfl v_tyM rfl rfl rfl ?_
  refine w_eqS (p_wov (b := false) rfl) ?_
  refine w_st rfl (fun _ => rfl) ?_
  show w_T L xs (d + 6) m_X12_condition 6 [(0, .ref 100)] [.ref 100] (p_S S0 pl cs 0 cl (Int32.ofInt 0) nc sg false bh op na) R Q
  refine w_cv rfl (by decide) mt_X12_here v_tyM rfl rfl rfl (Nat.le_of_ble_eq_true rfl) (Nat.le_of_ble_eq_true rfl) (Nat.le_of_ble_eq_true rfl) ?_
  show w_T L xs _ m_X12_here 0 (lv_args 0 [.ref 100]) [] (p_S S0 pl cs 0 cl (Int32.ofInt 0) nc sg false bh op na) R _
  refine h_here (by omega) ?_
  refine w_st rfl (fun _ => rfl) ?_
  show w_T L xs (d + 6) m_X12_condition 11 [(0, .ref 100)] [.int (Int32.ofInt 40), .int (p_h S0 pl)] (p_S S0 pl cs 0 cl (Int32.ofInt 0) nc sg false bh op na) R Q
  refine w_br (P := (p_h S0 pl) = (Int32.ofInt 40)) rfl (fun _ => rfl) (fun h11 => ?_) (fun h11 => ?_)
  · have hlt := p_h_lt (S0 := S0) (pl := pl) (by rw [h11]; decide)
    refine w_st rfl (fun _ => rfl) ?_
    show w_T L xs (d + 6) m_X12_condition 24 [(0, .ref 100)] [.ref 100] (p_S S0 pl cs 0 cl (Int32.ofInt 0) nc sg false bh op na) R Q
    refine w_cv rfl (by decide) mt_X12_isGood v_tyM rfl rfl rfl (Nat.le_of_ble_eq_true rfl) (Nat.le_of_ble_eq_true rfl) (Nat.le_of_ble_eq_true rfl) ?_
    show w_T L xs _ m_X12_isGood 0 (lv_args 0 [.ref 100]) [] (p_S S0 pl cs 0 cl (Int32.ofInt 0) nc sg false bh op na) R _
    refine h_isGT ?_
    show w_T L xs (d + 6) m_X12_condition 27 [(0, .ref 100)] [.int (Int32.ofInt 1)] (p_S S0 pl cs 0 cl (Int32.ofInt 0) nc sg false bh op na) R Q
    refine w_st rfl (fun _ => rfl) ?_
    refine w_st rfl (fun _ => rfl) ?_
    show w_T L xs (d + 6) m_X12_condition 32 [(0, .ref 100)] [.ref 100] (p_S S0 pl cs 0 cl (Int32.ofInt 0) nc sg false bh op na) R Q
    refine w_cv rfl (by decide) mt_X12_opens v_tyM rfl rfl rfl (Nat.le_of_ble_eq_true rfl) (Nat.le_of_ble_eq_true rfl) (Nat.le_of_ble_eq_true rfl) ?_
    show w_T L xs _ m_X12_opens 0 (lv_args 0 [.ref 100]) [] (p_S S0 pl cs 0 cl (Int32.ofInt 0) nc sg false bh op na) R _
    refine h_opens (by omega) (by omega) (fun o32 => ?_) (fun o32 b32 hb32 => ?_)
    · show w_T L xs (d + 6) m_X12_condition 35 [(0, .ref 100)] [] (p_S S0 (pl + 1) cs (0 + 1) cl (Int32.ofInt 0) nc (upd sg 0 (p_h S0 pl)) false bh o32 na) R Q
      refine w_st rfl (fun _ => rfl) ?_
      refine w_st rfl (fun _ => rfl) ?_
      show w_T L xs (d + 6) m_X12_condition 37 [(1, .int (Int32.ofInt 1)), (0, .ref 100)] [] (p_S S0 (pl + 1) cs (0 + 1) cl (Int32.ofInt 0) nc (upd sg 0 (p_h S0 pl)) false bh o32 na) R Q
      exact h_coL cs pl nc he Kg Kb 240 (pl + 1) cs (0 + 1) nc _ na _ true bh (by omega) (by omega) (p_I_pn hI (by rw [h11]; decide)) ⟨by omega, by rw [p_upe]; exact h11, fun k hk => by rw [show k = 0 by omega, p_upe]; exact Or.inr (Or.inl h11)⟩ (by omega) (by omega)
    · show w_T L xs (d + 6) m_X12_condition 35 [(0, .ref 100)] [] (p_S S0 (pl + 1) cs (0 + 1) cl b32 nc (upd sg 0 (p_h S0 pl)) false bh o32 na) R Q
      refine w_st rfl (fun _ => rfl) ?_
      refine w_st rfl (fun _ => rfl) ?_
      show w_T L xs (d + 6) m_X12_condition 37 [(1, .int (Int32.ofInt 1)), (0, .ref 100)] [] (p_S S0 (pl + 1) cs (0 + 1) cl b32 nc (upd sg 0 (p_h S0 pl)) false bh o32 na) R Q
      refine w_st rfl (fun _ => rfl) ?_
      show w_T L xs (d + 6) m_X12_condition 38 [(1, .int (Int32.ofInt 1)), (0, .ref 100)] [.ref 100] (p_S S0 (pl + 1) cs (0 + 1) cl b32 nc (upd sg 0 (p_h S0 pl)) false bh o32 na) R Q
      refine w_cv rfl (by decide) mt_X12_isGood v_tyM rfl rfl rfl (Nat.le_of_ble_eq_true rfl) (Nat.le_of_ble_eq_true rfl) (Nat.le_of_ble_eq_true rfl) ?_
      show w_T L xs _ m_X12_isGood 0 (lv_args 0 [.ref 100]) [] (p_S S0 (pl + 1) cs (0 + 1) cl b32 nc (upd sg 0 (p_h S0 pl)) false bh o32 na) R _
      refine h_isGF hb32 ?_
      show w_T L xs (d + 6) m_X12_condition 41 [(1, .int (Int32.ofInt 1)), (0, .ref 100)] [.int (Int32.ofInt 0)] (p_S S0 (pl + 1) cs (0 + 1) cl b32 nc (upd sg 0 (p_h S0 pl)) false bh o32 na) R Q
      refine w_st rfl (fun _ => rfl) ?_
      show w_T L xs (d + 6) m_X12_condition 74 [(1, .int (Int32.ofInt 1)), (0, .ref 100)] [] (p_S S0 (pl + 1) cs (0 + 1) cl b32 nc (upd sg 0 (p_h S0 pl)) false bh o32 na) R Q
      refine w_ret rfl rfl ?_
      exact Kb _ _ _ _ _ _ _ _ _ hb32 (by omega) (by omega)
  · refine w_st rfl (fun _ => rfl) ?_
    refine w_st rfl (fun _ => rfl) ?_
    refine w_st rfl (fun _ => rfl) ?_
    show w_T L xs (d + 6) m_X12_condition 17 [(0, .ref 100)] [.ref 100, .int (Int32.ofInt 1), .ref 100] (p_S S0 pl cs 0 cl (Int32.ofInt 0) nc sg false bh op na) R Q
    refine w_get rfl v_tyM rfl ?_
    show w_T L xs (d + 6) m_X12_condition 20 [(0, .ref 100)] [.int (Int32.ofInt (pl : Int)), .int (Int32.ofInt 1), .ref 100] (p_S S0 pl cs 0 cl (Int32.ofInt 0) nc sg false bh op na) R Q
    refine w_cv rfl (by decide) mt_X12_wrongs v_tyM rfl rfl rfl (Nat.le_of_ble_eq_true rfl) (Nat.le_of_ble_eq_true rfl) (Nat.le_of_ble_eq_true rfl) ?_
    show w_T L xs _ m_X12_wrongs 0 (lv_args 0 [.ref 100, .int (Int32.ofInt 1), .int (Int32.ofInt (pl : Int))]) [] (p_S S0 pl cs 0 cl (Int32.ofInt 0) nc sg false bh op na) R _
    refine h_wr (by decide) (by decide) (by rw [w_nat (by omega)]; omega) (by rw [w_nat (by omega)]; omega) (fun b20 hb20 => ?_)
    refine w_st rfl (fun _ => rfl) ?_
    show w_T L xs (d + 6) m_X12_condition 24 [(0, .ref 100)] [.ref 100] (p_S S0 pl cs 0 cl b20 nc sg false bh op na) R Q
    refine w_cv rfl (by decide) mt_X12_isGood v_tyM rfl rfl rfl (Nat.le_of_ble_eq_true rfl) (Nat.le_of_ble_eq_true rfl) (Nat.le_of_ble_eq_true rfl) ?_
    show w_T L xs _ m_X12_isGood 0 (lv_args 0 [.ref 100]) [] (p_S S0 pl cs 0 cl b20 nc sg false bh op na) R _
    refine h_isGF hb20 ?_
    show w_T L xs (d + 6) m_X12_condition 27 [(0, .ref 100)] [.int (Int32.ofInt 0)] (p_S S0 pl cs 0 cl b20 nc sg false bh op na) R Q
    refine w_st rfl (fun _ => rfl) ?_
    show w_T L xs (d + 6) m_X12_condition 30 [(0, .ref 100)] [] (p_S S0 pl cs 0 cl b20 nc sg false bh op na) R Q
    refine w_ret rfl rfl ?_
    exact Kb _ _ _ _ _ _ _ _ _ hb20 (by omega) (by omega)
end PG
end Prt39g
section Prt39h
/-! the reader: clauses, the whole text -/
noncomputable def p_F (S S1 : v_Sf) : Prop := ∀ a j, ¬ (107 ≤ a ∧ a ≤ 110 ∧ j ≤ 16) → S1 a j = S a j
theorem p_F_rf (S : v_Sf) : p_F S S := fun _ _ _ => rfl
theorem p_F_tr {S S1 S2 : v_Sf} (h1 : p_F S S1) (h2 : p_F S1 S2) : p_F S S2 := fun a j h => (h2 a j h).trans (h1 a j h)
theorem p_F_ur {S S1 : v_Sf} (h : p_F S S1) {a j : Nat} {v : Int32} (hm : 107 ≤ a ∧ a ≤ 110 ∧ j ≤ 16) : p_F S (v_ur S1 a (upd (S1 a) j v)) := fun a' j' hn => by
  rw [w_urn (fun e => hn (by rw [e.1, e.2]; exact hm))]
  exact h a' j' hn
noncomputable def p_Z (S : v_Sf) (cl cs : Nat) (nc : Nat → Int32) : Prop := ∀ k, k < cl → ∃ a b c : Nat, S 108 k = Int32.ofInt (a : Int) ∧ S 109 k = Int32.ofInt (b : Int) ∧ S 110 k = Int32.ofInt (c : Int) ∧ a ≤ b ∧ b ≤ c ∧ c ≤ cs ∧ v_seg nc (b - a) a 0 ∧ v_seg nc (c - b) b 0
theorem p_Z_add {S S1 : v_Sf} {cl cs cs1 cs2 : Nat} {nc nc2 : Nat → Int32} (h : p_Z S cl cs nc) (e1 : ∀ k, k < cl → S1 108 k = S 108 k ∧ S1 109 k = S 109 k ∧ S1 110 k = S 110 k) (e2 : S1 108 cl = Int32.ofInt (cs : Int)) (e3 : S1 109 cl = Int32.ofInt (cs1 : Int)) (e4 : S1 110 cl = Int32.ofInt (cs2 : Int)) (h1 : cs ≤ cs1) (h2 : cs1 ≤ cs2) (hn : ∀ k, k < cs → nc2 k = nc k) (g1 : v_seg nc2 (cs1 - cs) cs 0) (g2 : v_seg nc2 (cs2 - cs1) cs1 0) : p_Z S1 (cl + 1) cs2 nc2 := by
  intro k hk
  by_cases e : k = cl
  · subst e
    exact ⟨cs, cs1, cs2, e2, e3, e4, h1, h2, Nat.le_refl _, g1, g2⟩
  · obtain ⟨a, b, c, k1, k2, k3, k4, k5, k6, k7, k8⟩ := h k (by omega)
    obtain ⟨f1, f2, f3⟩ := e1 k (by omega)
    exact ⟨a, b, c, by rw [f1, k1], by rw [f2, k2], by rw [f3, k3], k4, k5, by omega, v_seg_c (fun j j1 j2 => hn j (by omega)) k7, v_seg_c (fun j j1 j2 => hn j (by omega)) k8⟩
theorem p_I_of {q cs sk m : Nat} {nc0 nc sg : Nat → Int32} (h : p_I q nc0 cs sk nc sg m) : q ≤ cs ∧ (∀ k, k < q → nc k = nc0 k) ∧ v_seg nc (cs - q) q 0 := ⟨h.1, h.2.1, h.2.2.1⟩
theorem p_I_0 {cs : Nat} {nc sg : Nat → Int32} : p_I cs nc cs 0 nc sg 0 := ⟨Nat.le_refl _, fun _ _ => rfl, by rw [Nat.sub_self]; trivial, by rw [Nat.sub_self]; rfl⟩
theorem p_Tw {S : v_Sf} {R : v_Rf} (hT : v_Tb v_ty S R) {a n j : Nat} {v : Int32} (hg : v_ty a = some (.inl (0, n, (-2147483648), 2147483647))) : v_Tb v_ty (v_ur S a (upd (S a) j v)) R := w_TbR hT hg (q_rng _).1 (q_rng _).2
section PK
variable {L : Nat} {xs : Nat → Int32} {d : Nat} {R : v_Rf} {Q : Option Value → v_Sf → v_Rf → Prop} {S0 : v_Sf} {pl cs sk cl : Nat} {bd : Int32} {nc sg : Nat → Int32} {ov bh : Bool} {op : Int32} {na : Nat → Int32}
theorem h_clL (he : (S0 99 4).toInt ≤ 240) (hT : v_Tb v_ty S0 R) (hZ : p_Z S0 cl cs nc) (hb : cs ≤ pl) (hp : pl ≤ 240) (hsk : sk ≤ 240) (hcl : cl ≤ 16) (Kg : ∀ (S1 : v_Sf) (pl' cs' sk' : Nat) (nc' sg' na' : Nat → Int32) (o : Int32) (v' h' : Bool), p_F S0 S1 → v_Tb v_ty S1 R → p_Z S1 (cl + 1) cs' nc' → pl ≤ pl' → cs' ≤ pl' → pl' ≤ 240 → sk' ≤ 240 → cl < 16 → Q none (p_S S1 (pl') (cs') (sk') (cl + 1) (Int32.ofInt 0) (nc') (sg') (v') (h') o (na')) R) (Kb : ∀ (S1 : v_Sf) (pl' cs' sk' cl' : Nat) (b' : Int32) (nc' sg' na' : Nat → Int32) (o : Int32) (v' h' : Bool), p_F S0 S1 → v_Tb v_ty S1 R → b'.toInt < 0 → cs' ≤ 240 → pl' ≤ 240 → sk' ≤ 240 → cl' ≤ 16 → Q none (p_S S1 (pl') (cs') (sk') (cl') (b') (nc') (sg') (v') (h') o (na')) R) : w_T L xs (d + 7) m_X12_clause 0 (lv_args 0 [.ref 100, .int (Int32.ofInt 0)]) [] (p_S S0 pl cs sk cl (Int32.ofInt 0) nc sg ov bh op na) R Q := by
  refine w_st rfl (fun _ => rfl) ?_
  show w_T L xs (d + 7) m_X12_clause 1 [(0, .ref 100), (1, .int (Int32.ofInt 0))] [.ref 100] (p_S S0 pl cs sk cl (Int32.ofInt 0) nc sg ov bh op na) R Q
  refine w_cv rfl (by decide) mt_X12_here v_tyM rfl rfl rfl (Nat.le_of_ble_eq_true rfl) (Nat.le_of_ble_eq_true rfl) (Nat.le_of_ble_eq_true rfl) ?_
  show w_T L xs _ m_X12_here 0 (lv_args 0 [.ref 100]) [] (p_S S0 pl cs sk cl (Int32.ofInt 0) nc sg ov bh op na) R _
  refine h_here (by omega) ?_
  refine w_st rfl (fun _ => rfl) ?_
  refine w_st rfl (fun _ => rfl) ?_
  show w_T L xs (d + 7) m_X12_clause 6 [(2, .int (p_h S0 pl)), (0, .ref 100), (1, .int (Int32.ofInt 0))] [.int (Int32.ofInt 0)] (p_S S0 pl cs sk cl (Int32.ofInt 0) nc sg ov bh op na) R Q
  refine w_st rfl (fun _ => rfl) ?_
  refine w_st rfl (fun _ => rfl) ?_
  show w_T L xs (d + 7) m_X12_clause 19 [(2, .int (p_h S0 pl)), (0, .ref 100), (1, .int (Int32.ofInt 0))] [.int (p_h S0 pl)] (p_S S0 pl cs sk cl (Int32.ofInt 0) nc sg ov bh op na) R Q
  refine w_cs rfl (by decide) mt_X12_isClause (fun _ => rfl) (Nat.le_of_ble_eq_true rfl) (Nat.le_of_ble_eq_true rfl) ?_
  show w_T L xs _ m_X12_isClause 0 (lv_args 0 [.int (p_h S0 pl)]) [] (p_S S0 pl cs sk cl (Int32.ofInt 0) nc sg ov bh op na) R _
  refine h_isClause _ (fun c19 => ?_) (fun _ => ?_)
  · have hlt := p_h_lt c19
    show w_T L xs (d + 7) m_X12_clause 22 [(2, .int (p_h S0 pl)), (0, .ref 100), (1, .int (Int32.ofInt 0))] [.int (Int32.ofInt 1)] (p_S S0 pl cs sk cl (Int32.ofInt 0) nc sg ov bh op na) R Q
    refine w_st rfl (fun _ => rfl) ?_
    refine w_st rfl (fun _ => rfl) ?_
    show w_T L xs (d + 7) m_X12_clause 38 [(2, .int (p_h S0 pl)), (0, .ref 100), (1, .int (Int32.ofInt 0))] [.ref 100] (p_S S0 pl cs sk cl (Int32.ofInt 0) nc sg ov bh op na) R Q
    refine w_get rfl v_tyM rfl ?_
    refine w_st rfl (fun _ => rfl) ?_
    show w_T L xs (d + 7) m_X12_clause 42 [(2, .int (p_h S0 pl)), (0, .ref 100), (1, .int (Int32.ofInt 0))] [.int (Int32.ofInt 0), .int (Int32.ofInt (cl : Int))] (p_S S0 pl cs sk cl (Int32.ofInt 0) nc sg ov bh op na) R Q
    refine w_st rfl (fun _ => rfl) ?_
    refine w_st rfl (fun _ => rfl) ?_
    show w_T L xs (d + 7) m_X12_clause 52 [(2, .int (p_h S0 pl)), (0, .ref 100), (1, .int (Int32.ofInt 0))] [.int (Int32.ofInt 16), .int (Int32.ofInt (cl : Int))] (p_S S0 pl cs sk cl (Int32.ofInt 0) nc sg ov bh op na) R Q
    refine w_br (P := ¬ (Int32.ofInt (cl : Int)) = (Int32.ofInt 16)) rfl (fun _ => rfl) (fun h52 => ?_) (fun h52 => ?_)
    · have hcl3 : cl < 16 := by
        refine Nat.lt_of_le_of_ne hcl (fun e => h52 ?_)
        rw [e]
        rfl
      refine w_st rfl (fun _ => rfl) ?_
      show w_T L xs (d + 7) m_X12_clause 65 [(2, .int (p_h S0 pl)), (0, .ref 100), (1, .int (Int32.ofInt 0))] [.ref 100] (p_S S0 pl cs sk cl (Int32.ofInt 0) nc sg ov bh op na) R Q
      refine w_cv rfl (by decide) mt_X12_isGood v_tyM rfl rfl rfl (Nat.le_of_ble_eq_true rfl) (Nat.le_of_ble_eq_true rfl) (Nat.le_of_ble_eq_true rfl) ?_
      show w_T L xs _ m_X12_isGood 0 (lv_args 0 [.ref 100]) [] (p_S S0 pl cs sk cl (Int32.ofInt 0) nc sg ov bh op na) R _
      refine h_isGT ?_
      show w_T L xs (d + 7) m_X12_clause 68 [(2, .int (p_h S0 pl)), (0, .ref 100), (1, .int (Int32.ofInt 0))] [.int (Int32.ofInt 1)] (p_S S0 pl cs sk cl (Int32.ofInt 0) nc sg ov bh op na) R Q
      refine w_st rfl (fun _ => rfl) ?_
      refine w_st rfl (fun _ => rfl) ?_
      show w_T L xs (d + 7) m_X12_clause 73 [(2, .int (p_h S0 pl)), (0, .ref 100), (1, .int (Int32.ofInt 0))] [.ref 100] (p_S S0 pl cs sk cl (Int32.ofInt 0) nc sg ov bh op na) R Q
      refine w_getr rfl v_tyM rfl ?_
      refine w_st rfl (fun _ => rfl) ?_
      show w_T L xs (d + 7) m_X12_clause 77 [(2, .int (p_h S0 pl)), (0, .ref 100), (1, .int (Int32.ofInt 0))] [.ref 100, .ref 108] (p_S S0 pl cs sk cl (Int32.ofInt 0) nc sg ov bh op na) R Q
      refine w_get rfl v_tyM rfl ?_
      refine w_st rfl (fun _ => rfl) ?_
      show w_T L xs (d + 7) m_X12_clause 81 [(2, .int (p_h S0 pl)), (0, .ref 100), (1, .int (Int32.ofInt 0))] [.int (p_h S0 pl), .int (Int32.ofInt (cl : Int)), .ref 108] (p_S S0 pl cs sk cl (Int32.ofInt 0) nc sg ov bh op na) R Q
      refine w_iast rfl rfl (by rw [w_nat (by omega)]; omega) (by rw [w_nat (by omega)]; omega) ?_
      refine w_eqS (p_wor (by decide) (w_natn (by omega))) ?_
      refine w_st rfl (fun _ => rfl) ?_
      show w_T L xs (d + 7) m_X12_clause 83 [(2, .int (p_h S0 pl)), (0, .ref 100), (1, .int (Int32.ofInt 0))] [.ref 100] (p_S (v_ur S0 107 (upd (S0 107) cl (p_h S0 pl))) pl cs sk cl (Int32.ofInt 0) nc sg ov bh op na) R Q
      refine w_getr rfl v_tyM rfl ?_
      refine w_st rfl (fun _ => rfl) ?_
      show w_T L xs (d + 7) m_X12_clause 87 [(2, .int (p_h S0 pl)), (0, .ref 100), (1, .int (Int32.ofInt 0))] [.ref 100, .ref 109] (p_S (v_ur S0 107 (upd (S0 107) cl (p_h S0 pl))) pl cs sk cl (Int32.ofInt 0) nc sg ov bh op na) R Q
      refine w_get rfl v_tyM rfl ?_
      refine w_st rfl (fun _ => rfl) ?_
      show w_T L xs (d + 7) m_X12_clause 91 [(2, .int (p_h S0 pl)), (0, .ref 100), (1, .int (Int32.ofInt 0))] [.ref 100, .int (Int32.ofInt (cl : Int)), .ref 109] (p_S (v_ur S0 107 (upd (S0 107) cl (p_h S0 pl))) pl cs sk cl (Int32.ofInt 0) nc sg ov bh op na) R Q
      refine w_get rfl v_tyM rfl ?_
      show w_T L xs (d + 7) m_X12_clause 94 [(2, .int (p_h S0 pl)), (0, .ref 100), (1, .int (Int32.ofInt 0))] [.int (Int32.ofInt (cs : Int)), .int (Int32.ofInt (cl : Int)), .ref 109] (p_S (v_ur S0 107 (upd (S0 107) cl (p_h S0 pl))) pl cs sk cl (Int32.ofInt 0) nc sg ov bh op na) R Q
      refine w_iast rfl rfl (by rw [w_nat (by omega)]; omega) (by rw [w_nat (by omega)]; omega) ?_
      refine w_eqS (p_wor (by decide) (w_natn (by omega))) ?_
      refine w_st rfl (fun _ => rfl) ?_
      refine w_st rfl (fun _ => rfl) ?_
      show w_T L xs (d + 7) m_X12_clause 97 [(2, .int (p_h S0 pl)), (0, .ref 100), (1, .int (Int32.ofInt 0))] [.ref 100, .ref 100] (p_S (v_ur (v_ur S0 107 (upd (S0 107) cl (p_h S0 pl))) 108 (upd ((v_ur S0 107 (upd (S0 107) cl (p_h S0 pl))) 108) cl (Int32.ofInt (cs : Int)))) pl cs sk cl (Int32.ofInt 0) nc sg ov bh op na) R Q
      refine w_get rfl v_tyM rfl ?_
      refine w_st rfl (fun _ => rfl) ?_
      show w_T L xs (d + 7) m_X12_clause 101 [(2, .int (p_h S0 pl)), (0, .ref 100), (1, .int (Int32.ofInt 0))] [.int (Int32.ofInt 0), .int (Int32.ofInt (pl : Int)), .ref 100] (p_S (v_ur (v_ur S0 107 (upd (S0 107) cl (p_h S0 pl))) 108 (upd ((v_ur S0 107 (upd (S0 107) cl (p_h S0 pl))) 108) cl (Int32.ofInt (cs : Int)))) pl cs sk cl (Int32.ofInt 0) nc sg ov bh op na) R Q
      refine w_st rfl (fun _ => rfl) ?_
      refine w_st rfl (fun _ => rfl) ?_
      refine w_st rfl (fun _ => rfl) ?_
      show w_T L xs (d + 7) m_X12_clause 110 [(2, .int (p_h S0 pl)), (0, .ref 100), (1, .int (Int32.ofInt 0))] [.int ((Int32.ofInt (pl : Int)) + (Int32.ofInt 1)), .ref 100] (p_S (v_ur (v_ur S0 107 (upd (S0 107) cl (p_h S0 pl))) 108 (upd ((v_ur S0 107 (upd (S0 107) cl (p_h S0 pl))) 108) cl (Int32.ofInt (cs : Int)))) pl cs sk cl (Int32.ofInt 0) nc sg ov bh op na) R Q
      refine w_put rfl v_tyM rfl rfl rfl ?_
      refine w_eqS (p_wpl (w_inc _)) ?_
      refine w_st rfl (fun _ => rfl) ?_
      refine w_st rfl (fun _ => rfl) ?_
      show w_T L xs (d + 7) m_X12_clause 115 [(2, .int (p_h S0 pl)), (0, .ref 100), (1, .int (Int32.ofInt 0))] [.int (Int32.ofInt 0), .ref 100] (p_S (v_ur (v_ur S0 107 (upd (S0 107) cl (p_h S0 pl))) 108 (upd ((v_ur S0 107 (upd (S0 107) cl (p_h S0 pl))) 108) cl (Int32.ofInt (cs : Int)))) (pl + 1) cs sk cl (Int32.ofInt 0) nc sg ov bh op na) R Q
      refine w_put rfl v_tyM rfl rfl rfl ?_
      refine w_eqS (p_wsk (k := 0) rfl) ?_
      refine w_st rfl (fun _ => rfl) ?_
      refine w_st rfl (fun _ => rfl) ?_
      show w_T L xs (d + 7) m_X12_clause 120 [(2, .int (p_h S0 pl)), (0, .ref 100), (1, .int (Int32.ofInt 0))] [.int (Int32.ofInt 0), .ref 100] (p_S (v_ur (v_ur S0 107 (upd (S0 107) cl (p_h S0 pl))) 108 (upd ((v_ur S0 107 (upd (S0 107) cl (p_h S0 pl))) 108) cl (Int32.ofInt (cs : Int)))) (pl + 1) cs 0 cl (Int32.ofInt 0) nc sg ov bh op na) R Q
      refine w_put rfl v_tyM rfl rfl rfl ?_
      refine w_eqS p_wop ?_
      refine w_st rfl (fun _ => rfl) ?_
      show w_T L xs (d + 7) m_X12_clause 124 [(2, .int (p_h S0 pl)), (0, .ref 100), (1, .int (Int32.ofInt 0))] [.int (Int32.ofInt 0)] (p_S (v_ur (v_ur S0 107 (upd (S0 107) cl (p_h S0 pl))) 108 (upd ((v_ur S0 107 (upd (S0 107) cl (p_h S0 pl))) 108) cl (Int32.ofInt (cs : Int)))) (pl + 1) cs 0 cl (Int32.ofInt 0) nc sg ov bh (Int32.ofInt 0) na) R Q
      refine w_st rfl (fun _ => rfl) ?_
      refine w_st rfl (fun _ => rfl) ?_
      refine w_st rfl (fun _ => rfl) ?_
      show w_T L xs (d + 7) m_X12_clause 130 [(2, .int (p_h S0 pl)), (0, .ref 100), (1, .int (Int32.ofInt 0))] [.int (Int32.ofInt 101), .int (p_h S0 pl)] (p_S (v_ur (v_ur S0 107 (upd (S0 107) cl (p_h S0 pl))) 108 (upd ((v_ur S0 107 (upd (S0 107) cl (p_h S0 pl))) 108) cl (Int32.ofInt (cs : Int)))) (pl + 1) cs 0 cl (Int32.ofInt 0) nc sg ov bh (Int32.ofInt 0) na) R Q
      refine w_br (P := (p_h S0 pl) = (Int32.ofInt 101)) rfl (fun _ => rfl) (fun h130 => ?_) (fun h130 => ?_)
      · refine w_st rfl (fun _ => rfl) ?_
        show w_T L xs (d + 7) m_X12_clause 144 [(2, .int (p_h S0 pl)), (0, .ref 100), (1, .int (Int32.ofInt 0))] [.ref 100] (p_S (v_ur (v_ur S0 107 (upd (S0 107) cl (p_h S0 pl))) 108 (upd ((v_ur S0 107 (upd (S0 107) cl (p_h S0 pl))) 108) cl (Int32.ofInt (cs : Int)))) (pl + 1) cs 0 cl (Int32.ofInt 0) nc sg ov bh (Int32.ofInt 0) na) R Q
        refine w_getr rfl v_tyM rfl ?_
        refine w_st rfl (fun _ => rfl) ?_
        show w_T L xs (d + 7) m_X12_clause 148 [(2, .int (p_h S0 pl)), (0, .ref 100), (1, .int (Int32.ofInt 0))] [.ref 100, .ref 110] (p_S (v_ur (v_ur S0 107 (upd (S0 107) cl (p_h S0 pl))) 108 (upd ((v_ur S0 107 (upd (S0 107) cl (p_h S0 pl))) 108) cl (Int32.ofInt (cs : Int)))) (pl + 1) cs 0 cl (Int32.ofInt 0) nc sg ov bh (Int32.ofInt 0) na) R Q
        refine w_get rfl v_tyM rfl ?_
        refine w_st rfl (fun _ => rfl) ?_
        show w_T L xs (d + 7) m_X12_clause 152 [(2, .int (p_h S0 pl)), (0, .ref 100), (1, .int (Int32.ofInt 0))] [.ref 100, .int (Int32.ofInt (cl : Int)), .ref 110] (p_S (v_ur (v_ur S0 107 (upd (S0 107) cl (p_h S0 pl))) 108 (upd ((v_ur S0 107 (upd (S0 107) cl (p_h S0 pl))) 108) cl (Int32.ofInt (cs : Int)))) (pl + 1) cs 0 cl (Int32.ofInt 0) nc sg ov bh (Int32.ofInt 0) na) R Q
        refine w_get rfl v_tyM rfl ?_
        show w_T L xs (d + 7) m_X12_clause 155 [(2, .int (p_h S0 pl)), (0, .ref 100), (1, .int (Int32.ofInt 0))] [.int (Int32.ofInt (cs : Int)), .int (Int32.ofInt (cl : Int)), .ref 110] (p_S (v_ur (v_ur S0 107 (upd (S0 107) cl (p_h S0 pl))) 108 (upd ((v_ur S0 107 (upd (S0 107) cl (p_h S0 pl))) 108) cl (Int32.ofInt (cs : Int)))) (pl + 1) cs 0 cl (Int32.ofInt 0) nc sg ov bh (Int32.ofInt 0) na) R Q
        refine w_iast rfl rfl (by rw [w_nat (by omega)]; omega) (by rw [w_nat (by omega)]; omega) ?_
        refine w_eqS (p_wor (by decide) (w_natn (by omega))) ?_
        refine w_st rfl (fun _ => rfl) ?_
        show w_T L xs (d + 7) m_X12_clause 157 [(2, .int (p_h S0 pl)), (0, .ref 100), (1, .int (Int32.ofInt 0))] [.ref 100] (p_S (v_ur (v_ur (v_ur S0 107 (upd (S0 107) cl (p_h S0 pl))) 108 (upd ((v_ur S0 107 (upd (S0 107) cl (p_h S0 pl))) 108) cl (Int32.ofInt (cs : Int)))) 109 (upd ((v_ur (v_ur S0 107 (upd (S0 107) cl (p_h S0 pl))) 108 (upd ((v_ur S0 107 (upd (S0 107) cl (p_h S0 pl))) 108) cl (Int32.ofInt (cs : Int)))) 109) cl (Int32.ofInt (cs : Int)))) (pl + 1) cs 0 cl (Int32.ofInt 0) nc sg ov bh (Int32.ofInt 0) na) R Q
        refine w_cv rfl (by decide) mt_X12_isGood v_tyM rfl rfl rfl (Nat.le_of_ble_eq_true rfl) (Nat.le_of_ble_eq_true rfl) (Nat.le_of_ble_eq_true rfl) ?_
        show w_T L xs _ m_X12_isGood 0 (lv_args 0 [.ref 100]) [] (p_S (v_ur (v_ur (v_ur S0 107 (upd (S0 107) cl (p_h S0 pl))) 108 (upd ((v_ur S0 107 (upd (S0 107) cl (p_h S0 pl))) 108) cl (Int32.ofInt (cs : Int)))) 109 (upd ((v_ur (v_ur S0 107 (upd (S0 107) cl (p_h S0 pl))) 108 (upd ((v_ur S0 107 (upd (S0 107) cl (p_h S0 pl))) 108) cl (Int32.ofInt (cs : Int)))) 109) cl (Int32.ofInt (cs : Int)))) (pl + 1) cs 0 cl (Int32.ofInt 0) nc sg ov bh (Int32.ofInt 0) na) R _
        refine h_isGT ?_
        show w_T L xs (d + 7) m_X12_clause 160 [(2, .int (p_h S0 pl)), (0, .ref 100), (1, .int (Int32.ofInt 0))] [.int (Int32.ofInt 1)] (p_S (v_ur (v_ur (v_ur S0 107 (upd (S0 107) cl (p_h S0 pl))) 108 (upd ((v_ur S0 107 (upd (S0 107) cl (p_h S0 pl))) 108) cl (Int32.ofInt (cs : Int)))) 109 (upd ((v_ur (v_ur S0 107 (upd (S0 107) cl (p_h S0 pl))) 108 (upd ((v_ur S0 107 (upd (S0 107) cl (p_h S0 pl))) 108) cl (Int32.ofInt (cs : Int)))) 109) cl (Int32.ofInt (cs : Int)))) (pl + 1) cs 0 cl (Int32.ofInt 0) nc sg ov bh (Int32.ofInt 0) na) R Q
        refine w_st rfl (fun _ => rfl) ?_
        refine w_st rfl (fun _ => rfl) ?_
        show w_T L xs (d + 7) m_X12_clause 164 [(2, .int (p_h S0 pl)), (0, .ref 100), (1, .int (Int32.ofInt 0))] [.ref 100] (p_S (v_ur (v_ur (v_ur S0 107 (upd (S0 107) cl (p_h S0 pl))) 108 (upd ((v_ur S0 107 (upd (S0 107) cl (p_h S0 pl))) 108) cl (Int32.ofInt (cs : Int)))) 109 (upd ((v_ur (v_ur S0 107 (upd (S0 107) cl (p_h S0 pl))) 108 (upd ((v_ur S0 107 (upd (S0 107) cl (p_h S0 pl))) 108) cl (Int32.ofInt (cs : Int)))) 109) cl (Int32.ofInt (cs : Int)))) (pl + 1) cs 0 cl (Int32.ofInt 0) nc sg ov bh (Int32.ofInt 0) na) R Q
        refine w_cv rfl (by decide) mt_X12_condition v_tyM rfl rfl rfl (Nat.le_of_ble_eq_true rfl) (Nat.le_of_ble_eq_true rfl) (Nat.le_of_ble_eq_true rfl) ?_
        show w_T L xs _ m_X12_condition 0 (lv_args 0 [.ref 100]) [] (p_S (v_ur (v_ur (v_ur S0 107 (upd (S0 107) cl (p_h S0 pl))) 108 (upd ((v_ur S0 107 (upd (S0 107) cl (p_h S0 pl))) 108) cl (Int32.ofInt (cs : Int)))) 109 (upd ((v_ur (v_ur S0 107 (upd (S0 107) cl (p_h S0 pl))) 108 (upd ((v_ur S0 107 (upd (S0 107) cl (p_h S0 pl))) 108) cl (Int32.ofInt (cs : Int)))) 109) cl (Int32.ofInt (cs : Int)))) (pl + 1) cs 0 cl (Int32.ofInt 0) nc sg ov bh (Int32.ofInt 0) na) R _
        refine h_cond (S0 := (v_ur (v_ur (v_ur S0 107 (upd (S0 107) cl (p_h S0 pl))) 108 (upd ((v_ur S0 107 (upd (S0 107) cl (p_h S0 pl))) 108) cl (Int32.ofInt (cs : Int)))) 109 (upd ((v_ur (v_ur S0 107 (upd (S0 107) cl (p_h S0 pl))) 108 (upd ((v_ur S0 107 (upd (S0 107) cl (p_h S0 pl))) 108) cl (Int32.ofInt (cs : Int)))) 109) cl (Int32.ofInt (cs : Int))))) he (by omega) (by omega) (fun pl2 cs2 sk2 nc2 sg2 na2 o2 h2 l2 i2 j2 k2 => ?_) (fun pl2 cs2 sk2 b164 nc2 sg2 na2 o2 h2 hb164 j2 k2 => ?_)
        · obtain ⟨r1, r2, r3⟩ := p_I_of i2
          show w_T L xs (d + 7) m_X12_clause 167 [(2, .int (p_h S0 pl)), (0, .ref 100), (1, .int (Int32.ofInt 0))] [] (p_S (v_ur (v_ur (v_ur S0 107 (upd (S0 107) cl (p_h S0 pl))) 108 (upd ((v_ur S0 107 (upd (S0 107) cl (p_h S0 pl))) 108) cl (Int32.ofInt (cs : Int)))) 109 (upd ((v_ur (v_ur S0 107 (upd (S0 107) cl (p_h S0 pl))) 108 (upd ((v_ur S0 107 (upd (S0 107) cl (p_h S0 pl))) 108) cl (Int32.ofInt (cs : Int)))) 109) cl (Int32.ofInt (cs : Int)))) pl2 cs2 sk2 cl (Int32.ofInt 0) nc2 sg2 true h2 o2 na2) R Q
          refine w_st rfl (fun _ => rfl) ?_
          show w_T L xs (d + 7) m_X12_clause 168 [(2, .int (p_h S0 pl)), (0, .ref 100), (1, .int (Int32.ofInt 0))] [.ref 100] (p_S (v_ur (v_ur (v_ur S0 107 (upd (S0 107) cl (p_h S0 pl))) 108 (upd ((v_ur S0 107 (upd (S0 107) cl (p_h S0 pl))) 108) cl (Int32.ofInt (cs : Int)))) 109 (upd ((v_ur (v_ur S0 107 (upd (S0 107) cl (p_h S0 pl))) 108 (upd ((v_ur S0 107 (upd (S0 107) cl (p_h S0 pl))) 108) cl (Int32.ofInt (cs : Int)))) 109) cl (Int32.ofInt (cs : Int)))) pl2 cs2 sk2 cl (Int32.ofInt 0) nc2 sg2 true h2 o2 na2) R Q
          refine w_getr rfl v_tyM rfl ?_
          refine w_st rfl (fun _ => rfl) ?_
          show w_T L xs (d + 7) m_X12_clause 172 [(2, .int (p_h S0 pl)), (0, .ref 100), (1, .int (Int32.ofInt 0))] [.ref 100, .ref 111] (p_S (v_ur (v_ur (v_ur S0 107 (upd (S0 107) cl (p_h S0 pl))) 108 (upd ((v_ur S0 107 (upd (S0 107) cl (p_h S0 pl))) 108) cl (Int32.ofInt (cs : Int)))) 109 (upd ((v_ur (v_ur S0 107 (upd (S0 107) cl (p_h S0 pl))) 108 (upd ((v_ur S0 107 (upd (S0 107) cl (p_h S0 pl))) 108) cl (Int32.ofInt (cs : Int)))) 109) cl (Int32.ofInt (cs : Int)))) pl2 cs2 sk2 cl (Int32.ofInt 0) nc2 sg2 true h2 o2 na2) R Q
          refine w_get rfl v_tyM rfl ?_
          refine w_st rfl (fun _ => rfl) ?_
          show w_T L xs (d + 7) m_X12_clause 176 [(2, .int (p_h S0 pl)), (0, .ref 100), (1, .int (Int32.ofInt 0))] [.ref 100, .int (Int32.ofInt (cl : Int)), .ref 111] (p_S (v_ur (v_ur (v_ur S0 107 (upd (S0 107) cl (p_h S0 pl))) 108 (upd ((v_ur S0 107 (upd (S0 107) cl (p_h S0 pl))) 108) cl (Int32.ofInt (cs : Int)))) 109 (upd ((v_ur (v_ur S0 107 (upd (S0 107) cl (p_h S0 pl))) 108 (upd ((v_ur S0 107 (upd (S0 107) cl (p_h S0 pl))) 108) cl (Int32.ofInt (cs : Int)))) 109) cl (Int32.ofInt (cs : Int)))) pl2 cs2 sk2 cl (Int32.ofInt 0) nc2 sg2 true h2 o2 na2) R Q
          refine w_get rfl v_tyM rfl ?_
          show w_T L xs (d + 7) m_X12_clause 179 [(2, .int (p_h S0 pl)), (0, .ref 100), (1, .int (Int32.ofInt 0))] [.int (Int32.ofInt (cs2 : Int)), .int (Int32.ofInt (cl : Int)), .ref 111] (p_S (v_ur (v_ur (v_ur S0 107 (upd (S0 107) cl (p_h S0 pl))) 108 (upd ((v_ur S0 107 (upd (S0 107) cl (p_h S0 pl))) 108) cl (Int32.ofInt (cs : Int)))) 109 (upd ((v_ur (v_ur S0 107 (upd (S0 107) cl (p_h S0 pl))) 108 (upd ((v_ur S0 107 (upd (S0 107) cl (p_h S0 pl))) 108) cl (Int32.ofInt (cs : Int)))) 109) cl (Int32.ofInt (cs : Int)))) pl2 cs2 sk2 cl (Int32.ofInt 0) nc2 sg2 true h2 o2 na2) R Q
          refine w_iast rfl rfl (by rw [w_nat (by omega)]; omega) (by rw [w_nat (by omega)]; omega) ?_
          refine w_eqS (p_wor (by decide) (w_natn (by omega))) ?_
          refine w_st rfl (fun _ => rfl) ?_
          refine w_st rfl (fun _ => rfl) ?_
          show w_T L xs (d + 7) m_X12_clause 182 [(2, .int (p_h S0 pl)), (0, .ref 100), (1, .int (Int32.ofInt 0))] [.ref 100, .ref 100] (p_S (v_ur (v_ur (v_ur (v_ur S0 107 (upd (S0 107) cl (p_h S0 pl))) 108 (upd ((v_ur S0 107 (upd (S0 107) cl (p_h S0 pl))) 108) cl (Int32.ofInt (cs : Int)))) 109 (upd ((v_ur (v_ur S0 107 (upd (S0 107) cl (p_h S0 pl))) 108 (upd ((v_ur S0 107 (upd (S0 107) cl (p_h S0 pl))) 108) cl (Int32.ofInt (cs : Int)))) 109) cl (Int32.ofInt (cs : Int)))) 110 (upd ((v_ur (v_ur (v_ur S0 107 (upd (S0 107) cl (p_h S0 pl))) 108 (upd ((v_ur S0 107 (upd (S0 107) cl (p_h S0 pl))) 108) cl (Int32.ofInt (cs : Int)))) 109 (upd ((v_ur (v_ur S0 107 (upd (S0 107) cl (p_h S0 pl))) 108 (upd ((v_ur S0 107 (upd (S0 107) cl (p_h S0 pl))) 108) cl (Int32.ofInt (cs : Int)))) 109) cl (Int32.ofInt (cs : Int)))) 110) cl (Int32.ofInt (cs2 : Int)))) pl2 cs2 sk2 cl (Int32.ofInt 0) nc2 sg2 true h2 o2 na2) R Q
          refine w_get rfl v_tyM rfl ?_
          refine w_st rfl (fun _ => rfl) ?_
          refine w_st rfl (fun _ => rfl) ?_
          show w_T L xs (d + 7) m_X12_clause 187 [(2, .int (p_h S0 pl)), (0, .ref 100), (1, .int (Int32.ofInt 0))] [.int ((Int32.ofInt (cl : Int)) + (Int32.ofInt 1)), .ref 100] (p_S (v_ur (v_ur (v_ur (v_ur S0 107 (upd (S0 107) cl (p_h S0 pl))) 108 (upd ((v_ur S0 107 (upd (S0 107) cl (p_h S0 pl))) 108) cl (Int32.ofInt (cs : Int)))) 109 (upd ((v_ur (v_ur S0 107 (upd (S0 107) cl (p_h S0 pl))) 108 (upd ((v_ur S0 107 (upd (S0 107) cl (p_h S0 pl))) 108) cl (Int32.ofInt (cs : Int)))) 109) cl (Int32.ofInt (cs : Int)))) 110 (upd ((v_ur (v_ur (v_ur S0 107 (upd (S0 107) cl (p_h S0 pl))) 108 (upd ((v_ur S0 107 (upd (S0 107) cl (p_h S0 pl))) 108) cl (Int32.ofInt (cs : Int)))) 109 (upd ((v_ur (v_ur S0 107 (upd (S0 107) cl (p_h S0 pl))) 108 (upd ((v_ur S0 107 (upd (S0 107) cl (p_h S0 pl))) 108) cl (Int32.ofInt (cs : Int)))) 109) cl (Int32.ofInt (cs : Int)))) 110) cl (Int32.ofInt (cs2 : Int)))) pl2 cs2 sk2 cl (Int32.ofInt 0) nc2 sg2 true h2 o2 na2) R Q
          refine w_put rfl v_tyM rfl rfl rfl ?_
          refine w_eqS (p_wcl (w_inc _)) ?_
          show w_T L xs (d + 7) m_X12_clause 190 [(2, .int (p_h S0 pl)), (0, .ref 100), (1, .int (Int32.ofInt 0))] [] (p_S (v_ur (v_ur (v_ur (v_ur S0 107 (upd (S0 107) cl (p_h S0 pl))) 108 (upd ((v_ur S0 107 (upd (S0 107) cl (p_h S0 pl))) 108) cl (Int32.ofInt (cs : Int)))) 109 (upd ((v_ur (v_ur S0 107 (upd (S0 107) cl (p_h S0 pl))) 108 (upd ((v_ur S0 107 (upd (S0 107) cl (p_h S0 pl))) 108) cl (Int32.ofInt (cs : Int)))) 109) cl (Int32.ofInt (cs : Int)))) 110 (upd ((v_ur (v_ur (v_ur S0 107 (upd (S0 107) cl (p_h S0 pl))) 108 (upd ((v_ur S0 107 (upd (S0 107) cl (p_h S0 pl))) 108) cl (Int32.ofInt (cs : Int)))) 109 (upd ((v_ur (v_ur S0 107 (upd (S0 107) cl (p_h S0 pl))) 108 (upd ((v_ur S0 107 (upd (S0 107) cl (p_h S0 pl))) 108) cl (Int32.ofInt (cs : Int)))) 109) cl (Int32.ofInt (cs : Int)))) 110) cl (Int32.ofInt (cs2 : Int)))) pl2 cs2 sk2 (cl + 1) (Int32.ofInt 0) nc2 sg2 true h2 o2 na2) R Q
          refine w_ret rfl rfl ?_
          refine Kg _ _ _ _ _ _ _ _ _ _ (p_F_ur (p_F_ur (p_F_ur (p_F_ur (p_F_rf _) (by omega)) (by omega)) (by omega)) (by omega)) (p_Tw (p_Tw (p_Tw (p_Tw hT (a := 107) rfl) (a := 108) rfl) (a := 109) rfl) (a := 110) rfl) (p_Z_add (cs1 := cs) hZ (fun k hk => ?_) ?_ ?_ ?_ (by omega) (by omega) (fun k hk => r2 k hk) (by rw [Nat.sub_self]; trivial) r3) (by omega) (by omega) (by omega) (by omega) (by omega)
          · have hne : ¬ k = cl := by omega
            simp [v_ur, upd, hne]
          · simp [v_ur, upd]
          · simp [v_ur, upd]
          · simp [v_ur, upd]
        · show w_T L xs (d + 7) m_X12_clause 167 [(2, .int (p_h S0 pl)), (0, .ref 100), (1, .int (Int32.ofInt 0))] [] (p_S (v_ur (v_ur (v_ur S0 107 (upd (S0 107) cl (p_h S0 pl))) 108 (upd ((v_ur S0 107 (upd (S0 107) cl (p_h S0 pl))) 108) cl (Int32.ofInt (cs : Int)))) 109 (upd ((v_ur (v_ur S0 107 (upd (S0 107) cl (p_h S0 pl))) 108 (upd ((v_ur S0 107 (upd (S0 107) cl (p_h S0 pl))) 108) cl (Int32.ofInt (cs : Int)))) 109) cl (Int32.ofInt (cs : Int)))) pl2 cs2 sk2 cl b164 nc2 sg2 false h2 o2 na2) R Q
          refine w_st rfl (fun _ => rfl) ?_
          show w_T L xs (d + 7) m_X12_clause 168 [(2, .int (p_h S0 pl)), (0, .ref 100), (1, .int (Int32.ofInt 0))] [.ref 100] (p_S (v_ur (v_ur (v_ur S0 107 (upd (S0 107) cl (p_h S0 pl))) 108 (upd ((v_ur S0 107 (upd (S0 107) cl (p_h S0 pl))) 108) cl (Int32.ofInt (cs : Int)))) 109 (upd ((v_ur (v_ur S0 107 (upd (S0 107) cl (p_h S0 pl))) 108 (upd ((v_ur S0 107 (upd (S0 107) cl (p_h S0 pl))) 108) cl (Int32.ofInt (cs : Int)))) 109) cl (Int32.ofInt (cs : Int)))) pl2 cs2 sk2 cl b164 nc2 sg2 false h2 o2 na2) R Q
          refine w_getr rfl v_tyM rfl ?_
          refine w_st rfl (fun _ => rfl) ?_
          show w_T L xs (d + 7) m_X12_clause 172 [(2, .int (p_h S0 pl)), (0, .ref 100), (1, .int (Int32.ofInt 0))] [.ref 100, .ref 111] (p_S (v_ur (v_ur (v_ur S0 107 (upd (S0 107) cl (p_h S0 pl))) 108 (upd ((v_ur S0 107 (upd (S0 107) cl (p_h S0 pl))) 108) cl (Int32.ofInt (cs : Int)))) 109 (upd ((v_ur (v_ur S0 107 (upd (S0 107) cl (p_h S0 pl))) 108 (upd ((v_ur S0 107 (upd (S0 107) cl (p_h S0 pl))) 108) cl (Int32.ofInt (cs : Int)))) 109) cl (Int32.ofInt (cs : Int)))) pl2 cs2 sk2 cl b164 nc2 sg2 false h2 o2 na2) R Q
          refine w_get rfl v_tyM rfl ?_
          refine w_st rfl (fun _ => rfl) ?_
          show w_T L xs (d + 7) m_X12_clause 176 [(2, .int (p_h S0 pl)), (0, .ref 100), (1, .int (Int32.ofInt 0))] [.ref 100, .int (Int32.ofInt (cl : Int)), .ref 111] (p_S (v_ur (v_ur (v_ur S0 107 (upd (S0 107) cl (p_h S0 pl))) 108 (upd ((v_ur S0 107 (upd (S0 107) cl (p_h S0 pl))) 108) cl (Int32.ofInt (cs : Int)))) 109 (upd ((v_ur (v_ur S0 107 (upd (S0 107) cl (p_h S0 pl))) 108 (upd ((v_ur S0 107 (upd (S0 107) cl (p_h S0 pl))) 108) cl (Int32.ofInt (cs : Int)))) 109) cl (Int32.ofInt (cs : Int)))) pl2 cs2 sk2 cl b164 nc2 sg2 false h2 o2 na2) R Q
          refine w_get rfl v_tyM rfl ?_
          show w_T L xs (d + 7) m_X12_clause 179 [(2, .int (p_h S0 pl)), (0, .ref 100), (1, .int (Int32.ofInt 0))] [.int (Int32.ofInt (cs2 : Int)), .int (Int32.ofInt (cl : Int)), .ref 111] (p_S (v_ur (v_ur (v_ur S0 107 (upd (S0 107) cl (p_h S0 pl))) 108 (upd ((v_ur S0 107 (upd (S0 107) cl (p_h S0 pl))) 108) cl (Int32.ofInt (cs : Int)))) 109 (upd ((v_ur (v_ur S0 107 (upd (S0 107) cl (p_h S0 pl))) 108 (upd ((v_ur S0 107 (upd (S0 107) cl (p_h S0 pl))) 108) cl (Int32.ofInt (cs : Int)))) 109) cl (Int32.ofInt (cs : Int)))) pl2 cs2 sk2 cl b164 nc2 sg2 false h2 o2 na2) R Q
          refine w_iast rfl rfl (by rw [w_nat (by omega)]; omega) (by rw [w_nat (by omega)]; omega) ?_
          refine w_eqS (p_wor (by decide) (w_natn (by omega))) ?_
          refine w_st rfl (fun _ => rfl) ?_
          refine w_st rfl (fun _ => rfl) ?_
          show w_T L xs (d + 7) m_X12_clause 182 [(2, .int (p_h S0 pl)), (0, .ref 100), (1, .int (Int32.ofInt 0))] [.ref 100, .ref 100] (p_S (v_ur (v_ur (v_ur (v_ur S0 107 (upd (S0 107) cl (p_h S0 pl))) 108 (upd ((v_ur S0 107 (upd (S0 107) cl (p_h S0 pl))) 108) cl (Int32.ofInt (cs : Int)))) 109 (upd ((v_ur (v_ur S0 107 (upd (S0 107) cl (p_h S0 pl))) 108 (upd ((v_ur S0 107 (upd (S0 107) cl (p_h S0 pl))) 108) cl (Int32.ofInt (cs : Int)))) 109) cl (Int32.ofInt (cs : Int)))) 110 (upd ((v_ur (v_ur (v_ur S0 107 (upd (S0 107) cl (p_h S0 pl))) 108 (upd ((v_ur S0 107 (upd (S0 107) cl (p_h S0 pl))) 108) cl (Int32.ofInt (cs : Int)))) 109 (upd ((v_ur (v_ur S0 107 (upd (S0 107) cl (p_h S0 pl))) 108 (upd ((v_ur S0 107 (upd (S0 107) cl (p_h S0 pl))) 108) cl (Int32.ofInt (cs : Int)))) 109) cl (Int32.ofInt (cs : Int)))) 110) cl (Int32.ofInt (cs2 : Int)))) pl2 cs2 sk2 cl b164 nc2 sg2 false h2 o2 na2) R Q
          refine w_get rfl v_tyM rfl ?_
          refine w_st rfl (fun _ => rfl) ?_
          refine w_st rfl (fun _ => rfl) ?_
          show w_T L xs (d + 7) m_X12_clause 187 [(2, .int (p_h S0 pl)), (0, .ref 100), (1, .int (Int32.ofInt 0))] [.int ((Int32.ofInt (cl : Int)) + (Int32.ofInt 1)), .ref 100] (p_S (v_ur (v_ur (v_ur (v_ur S0 107 (upd (S0 107) cl (p_h S0 pl))) 108 (upd ((v_ur S0 107 (upd (S0 107) cl (p_h S0 pl))) 108) cl (Int32.ofInt (cs : Int)))) 109 (upd ((v_ur (v_ur S0 107 (upd (S0 107) cl (p_h S0 pl))) 108 (upd ((v_ur S0 107 (upd (S0 107) cl (p_h S0 pl))) 108) cl (Int32.ofInt (cs : Int)))) 109) cl (Int32.ofInt (cs : Int)))) 110 (upd ((v_ur (v_ur (v_ur S0 107 (upd (S0 107) cl (p_h S0 pl))) 108 (upd ((v_ur S0 107 (upd (S0 107) cl (p_h S0 pl))) 108) cl (Int32.ofInt (cs : Int)))) 109 (upd ((v_ur (v_ur S0 107 (upd (S0 107) cl (p_h S0 pl))) 108 (upd ((v_ur S0 107 (upd (S0 107) cl (p_h S0 pl))) 108) cl (Int32.ofInt (cs : Int)))) 109) cl (Int32.ofInt (cs : Int)))) 110) cl (Int32.ofInt (cs2 : Int)))) pl2 cs2 sk2 cl b164 nc2 sg2 false h2 o2 na2) R Q
          refine w_put rfl v_tyM rfl rfl rfl ?_
          refine w_eqS (p_wcl (w_inc _)) ?_
          show w_T L xs (d + 7) m_X12_clause 190 [(2, .int (p_h S0 pl)), (0, .ref 100), (1, .int (Int32.ofInt 0))] [] (p_S (v_ur (v_ur (v_ur (v_ur S0 107 (upd (S0 107) cl (p_h S0 pl))) 108 (upd ((v_ur S0 107 (upd (S0 107) cl (p_h S0 pl))) 108) cl (Int32.ofInt (cs : Int)))) 109 (upd ((v_ur (v_ur S0 107 (upd (S0 107) cl (p_h S0 pl))) 108 (upd ((v_ur S0 107 (upd (S0 107) cl (p_h S0 pl))) 108) cl (Int32.ofInt (cs : Int)))) 109) cl (Int32.ofInt (cs : Int)))) 110 (upd ((v_ur (v_ur (v_ur S0 107 (upd (S0 107) cl (p_h S0 pl))) 108 (upd ((v_ur S0 107 (upd (S0 107) cl (p_h S0 pl))) 108) cl (Int32.ofInt (cs : Int)))) 109 (upd ((v_ur (v_ur S0 107 (upd (S0 107) cl (p_h S0 pl))) 108 (upd ((v_ur S0 107 (upd (S0 107) cl (p_h S0 pl))) 108) cl (Int32.ofInt (cs : Int)))) 109) cl (Int32.ofInt (cs : Int)))) 110) cl (Int32.ofInt (cs2 : Int)))) pl2 cs2 sk2 (cl + 1) b164 nc2 sg2 false h2 o2 na2) R Q
          refine w_ret rfl rfl ?_
          exact Kb _ _ _ _ _ _ _ _ _ _ _ _ (p_F_ur (p_F_ur (p_F_ur (p_F_ur (p_F_rf _) (by omega)) (by omega)) (by omega)) (by omega)) (p_Tw (p_Tw (p_Tw (p_Tw hT (a := 107) rfl) (a := 108) rfl) (a := 109) rfl) (a := 110) rfl) hb164 (by omega) (by omega) (by omega) (by omega)
      · refine w_st rfl (fun _ => rfl) ?_
        refine w_st rfl (fun _ => rfl) ?_
        show w_T L xs (d + 7) m_X12_clause 136 [(2, .int (p_h S0 pl)), (0, .ref 100), (1, .int (Int32.ofInt 0))] [.int (Int32.ofInt 120), .int (p_h S0 pl)] (p_S (v_ur (v_ur S0 107 (upd (S0 107) cl (p_h S0 pl))) 108 (upd ((v_ur S0 107 (upd (S0 107) cl (p_h S0 pl))) 108) cl (Int32.ofInt (cs : Int)))) (pl + 1) cs 0 cl (Int32.ofInt 0) nc sg ov bh (Int32.ofInt 0) na) R Q
        refine w_br (P := (p_h S0 pl) = (Int32.ofInt 120)) rfl (fun _ => rfl) (fun h136 => ?_) (fun h136 => ?_)
        · refine w_st rfl (fun _ => rfl) ?_
          show w_T L xs (d + 7) m_X12_clause 144 [(2, .int (p_h S0 pl)), (0, .ref 100), (1, .int (Int32.ofInt 0))] [.ref 100] (p_S (v_ur (v_ur S0 107 (upd (S0 107) cl (p_h S0 pl))) 108 (upd ((v_ur S0 107 (upd (S0 107) cl (p_h S0 pl))) 108) cl (Int32.ofInt (cs : Int)))) (pl + 1) cs 0 cl (Int32.ofInt 0) nc sg ov bh (Int32.ofInt 0) na) R Q
          refine w_getr rfl v_tyM rfl ?_
          refine w_st rfl (fun _ => rfl) ?_
          show w_T L xs (d + 7) m_X12_clause 148 [(2, .int (p_h S0 pl)), (0, .ref 100), (1, .int (Int32.ofInt 0))] [.ref 100, .ref 110] (p_S (v_ur (v_ur S0 107 (upd (S0 107) cl (p_h S0 pl))) 108 (upd ((v_ur S0 107 (upd (S0 107) cl (p_h S0 pl))) 108) cl (Int32.ofInt (cs : Int)))) (pl + 1) cs 0 cl (Int32.ofInt 0) nc sg ov bh (Int32.ofInt 0) na) R Q
          refine w_get rfl v_tyM rfl ?_
          refine w_st rfl (fun _ => rfl) ?_
          show w_T L xs (d + 7) m_X12_clause 152 [(2, .int (p_h S0 pl)), (0, .ref 100), (1, .int (Int32.ofInt 0))] [.ref 100, .int (Int32.ofInt (cl : Int)), .ref 110] (p_S (v_ur (v_ur S0 107 (upd (S0 107) cl (p_h S0 pl))) 108 (upd ((v_ur S0 107 (upd (S0 107) cl (p_h S0 pl))) 108) cl (Int32.ofInt (cs : Int)))) (pl + 1) cs 0 cl (Int32.ofInt 0) nc sg ov bh (Int32.ofInt 0) na) R Q
          refine w_get rfl v_tyM rfl ?_
          show w_T L xs (d + 7) m_X12_clause 155 [(2, .int (p_h S0 pl)), (0, .ref 100), (1, .int (Int32.ofInt 0))] [.int (Int32.ofInt (cs : Int)), .int (Int32.ofInt (cl : Int)), .ref 110] (p_S (v_ur (v_ur S0 107 (upd (S0 107) cl (p_h S0 pl))) 108 (upd ((v_ur S0 107 (upd (S0 107) cl (p_h S0 pl))) 108) cl (Int32.ofInt (cs : Int)))) (pl + 1) cs 0 cl (Int32.ofInt 0) nc sg ov bh (Int32.ofInt 0) na) R Q
          refine w_iast rfl rfl (by rw [w_nat (by omega)]; omega) (by rw [w_nat (by omega)]; omega) ?_
          refine w_eqS (p_wor (by decide) (w_natn (by omega))) ?_
          refine w_st rfl (fun _ => rfl) ?_
          show w_T L xs (d + 7) m_X12_clause 157 [(2, .int (p_h S0 pl)), (0, .ref 100), (1, .int (Int32.ofInt 0))] [.ref 100] (p_S (v_ur (v_ur (v_ur S0 107 (upd (S0 107) cl (p_h S0 pl))) 108 (upd ((v_ur S0 107 (upd (S0 107) cl (p_h S0 pl))) 108) cl (Int32.ofInt (cs : Int)))) 109 (upd ((v_ur (v_ur S0 107 (upd (S0 107) cl (p_h S0 pl))) 108 (upd ((v_ur S0 107 (upd (S0 107) cl (p_h S0 pl))) 108) cl (Int32.ofInt (cs : Int)))) 109) cl (Int32.ofInt (cs : Int)))) (pl + 1) cs 0 cl (Int32.ofInt 0) nc sg ov bh (Int32.ofInt 0) na) R Q
          refine w_cv rfl (by decide) mt_X12_isGood v_tyM rfl rfl rfl (Nat.le_of_ble_eq_true rfl) (Nat.le_of_ble_eq_true rfl) (Nat.le_of_ble_eq_true rfl) ?_
          show w_T L xs _ m_X12_isGood 0 (lv_args 0 [.ref 100]) [] (p_S (v_ur (v_ur (v_ur S0 107 (upd (S0 107) cl (p_h S0 pl))) 108 (upd ((v_ur S0 107 (upd (S0 107) cl (p_h S0 pl))) 108) cl (Int32.ofInt (cs : Int)))) 109 (upd ((v_ur (v_ur S0 107 (upd (S0 107) cl (p_h S0 pl))) 108 (upd ((v_ur S0 107 (upd (S0 107) cl (p_h S0 pl))) 108) cl (Int32.ofInt (cs : Int)))) 109) cl (Int32.ofInt (cs : Int)))) (pl + 1) cs 0 cl (Int32.ofInt 0) nc sg ov bh (Int32.ofInt 0) na) R _
          refine h_isGT ?_
          show w_T L xs (d + 7) m_X12_clause 160 [(2, .int (p_h S0 pl)), (0, .ref 100), (1, .int (Int32.ofInt 0))] [.int (Int32.ofInt 1)] (p_S (v_ur (v_ur (v_ur S0 107 (upd (S0 107) cl (p_h S0 pl))) 108 (upd ((v_ur S0 107 (upd (S0 107) cl (p_h S0 pl))) 108) cl (Int32.ofInt (cs : Int)))) 109 (upd ((v_ur (v_ur S0 107 (upd (S0 107) cl (p_h S0 pl))) 108 (upd ((v_ur S0 107 (upd (S0 107) cl (p_h S0 pl))) 108) cl (Int32.ofInt (cs : Int)))) 109) cl (Int32.ofInt (cs : Int)))) (pl + 1) cs 0 cl (Int32.ofInt 0) nc sg ov bh (Int32.ofInt 0) na) R Q
          refine w_st rfl (fun _ => rfl) ?_
          refine w_st rfl (fun _ => rfl) ?_
          show w_T L xs (d + 7) m_X12_clause 164 [(2, .int (p_h S0 pl)), (0, .ref 100), (1, .int (Int32.ofInt 0))] [.ref 100] (p_S (v_ur (v_ur (v_ur S0 107 (upd (S0 107) cl (p_h S0 pl))) 108 (upd ((v_ur S0 107 (upd (S0 107) cl (p_h S0 pl))) 108) cl (Int32.ofInt (cs : Int)))) 109 (upd ((v_ur (v_ur S0 107 (upd (S0 107) cl (p_h S0 pl))) 108 (upd ((v_ur S0 107 (upd (S0 107) cl (p_h S0 pl))) 108) cl (Int32.ofInt (cs : Int)))) 109) cl (Int32.ofInt (cs : Int)))) (pl + 1) cs 0 cl (Int32.ofInt 0) nc sg ov bh (Int32.ofInt 0) na) R Q
          refine w_cv rfl (by decide) mt_X12_condition v_tyM rfl rfl rfl (Nat.le_of_ble_eq_true rfl) (Nat.le_of_ble_eq_true rfl) (Nat.le_of_ble_eq_true rfl) ?_
          show w_T L xs _ m_X12_condition 0 (lv_args 0 [.ref 100]) [] (p_S (v_ur (v_ur (v_ur S0 107 (upd (S0 107) cl (p_h S0 pl))) 108 (upd ((v_ur S0 107 (upd (S0 107) cl (p_h S0 pl))) 108) cl (Int32.ofInt (cs : Int)))) 109 (upd ((v_ur (v_ur S0 107 (upd (S0 107) cl (p_h S0 pl))) 108 (upd ((v_ur S0 107 (upd (S0 107) cl (p_h S0 pl))) 108) cl (Int32.ofInt (cs : Int)))) 109) cl (Int32.ofInt (cs : Int)))) (pl + 1) cs 0 cl (Int32.ofInt 0) nc sg ov bh (Int32.ofInt 0) na) R _
          refine h_cond (S0 := (v_ur (v_ur (v_ur S0 107 (upd (S0 107) cl (p_h S0 pl))) 108 (upd ((v_ur S0 107 (upd (S0 107) cl (p_h S0 pl))) 108) cl (Int32.ofInt (cs : Int)))) 109 (upd ((v_ur (v_ur S0 107 (upd (S0 107) cl (p_h S0 pl))) 108 (upd ((v_ur S0 107 (upd (S0 107) cl (p_h S0 pl))) 108) cl (Int32.ofInt (cs : Int)))) 109) cl (Int32.ofInt (cs : Int))))) he (by omega) (by omega) (fun pl2 cs2 sk2 nc2 sg2 na2 o2 h2 l2 i2 j2 k2 => ?_) (fun pl2 cs2 sk2 b164 nc2 sg2 na2 o2 h2 hb164 j2 k2 => ?_)
          · obtain ⟨r1, r2, r3⟩ := p_I_of i2
            show w_T L xs (d + 7) m_X12_clause 167 [(2, .int (p_h S0 pl)), (0, .ref 100), (1, .int (Int32.ofInt 0))] [] (p_S (v_ur (v_ur (v_ur S0 107 (upd (S0 107) cl (p_h S0 pl))) 108 (upd ((v_ur S0 107 (upd (S0 107) cl (p_h S0 pl))) 108) cl (Int32.ofInt (cs : Int)))) 109 (upd ((v_ur (v_ur S0 107 (upd (S0 107) cl (p_h S0 pl))) 108 (upd ((v_ur S0 107 (upd (S0 107) cl (p_h S0 pl))) 108) cl (Int32.ofInt (cs : Int)))) 109) cl (Int32.ofInt (cs : Int)))) pl2 cs2 sk2 cl (Int32.ofInt 0) nc2 sg2 true h2 o2 na2) R Q
            refine w_st rfl (fun _ => rfl) ?_
            show w_T L xs (d + 7) m_X12_clause 168 [(2, .int (p_h S0 pl)), (0, .ref 100), (1, .int (Int32.ofInt 0))] [.ref 100] (p_S (v_ur (v_ur (v_ur S0 107 (upd (S0 107) cl (p_h S0 pl))) 108 (upd ((v_ur S0 107 (upd (S0 107) cl (p_h S0 pl))) 108) cl (Int32.ofInt (cs : Int)))) 109 (upd ((v_ur (v_ur S0 107 (upd (S0 107) cl (p_h S0 pl))) 108 (upd ((v_ur S0 107 (upd (S0 107) cl (p_h S0 pl))) 108) cl (Int32.ofInt (cs : Int)))) 109) cl (Int32.ofInt (cs : Int)))) pl2 cs2 sk2 cl (Int32.ofInt 0) nc2 sg2 true h2 o2 na2) R Q
            refine w_getr rfl v_tyM rfl ?_
            refine w_st rfl (fun _ => rfl) ?_
            show w_T L xs (d + 7) m_X12_clause 172 [(2, .int (p_h S0 pl)), (0, .ref 100), (1, .int (Int32.ofInt 0))] [.ref 100, .ref 111] (p_S (v_ur (v_ur (v_ur S0 107 (upd (S0 107) cl (p_h S0 pl))) 108 (upd ((v_ur S0 107 (upd (S0 107) cl (p_h S0 pl))) 108) cl (Int32.ofInt (cs : Int)))) 109 (upd ((v_ur (v_ur S0 107 (upd (S0 107) cl (p_h S0 pl))) 108 (upd ((v_ur S0 107 (upd (S0 107) cl (p_h S0 pl))) 108) cl (Int32.ofInt (cs : Int)))) 109) cl (Int32.ofInt (cs : Int)))) pl2 cs2 sk2 cl (Int32.ofInt 0) nc2 sg2 true h2 o2 na2) R Q
            refine w_get rfl v_tyM rfl ?_
            refine w_st rfl (fun _ => rfl) ?_
            show w_T L xs (d + 7) m_X12_clause 176 [(2, .int (p_h S0 pl)), (0, .ref 100), (1, .int (Int32.ofInt 0))] [.ref 100, .int (Int32.ofInt (cl : Int)), .ref 111] (p_S (v_ur (v_ur (v_ur S0 107 (upd (S0 107) cl (p_h S0 pl))) 108 (upd ((v_ur S0 107 (upd (S0 107) cl (p_h S0 pl))) 108) cl (Int32.ofInt (cs : Int)))) 109 (upd ((v_ur (v_ur S0 107 (upd (S0 107) cl (p_h S0 pl))) 108 (upd ((v_ur S0 107 (upd (S0 107) cl (p_h S0 pl))) 108) cl (Int32.ofInt (cs : Int)))) 109) cl (Int32.ofInt (cs : Int)))) pl2 cs2 sk2 cl (Int32.ofInt 0) nc2 sg2 true h2 o2 na2) R Q
            refine w_get rfl v_tyM rfl ?_
            show w_T L xs (d + 7) m_X12_clause 179 [(2, .int (p_h S0 pl)), (0, .ref 100), (1, .int (Int32.ofInt 0))] [.int (Int32.ofInt (cs2 : Int)), .int (Int32.ofInt (cl : Int)), .ref 111] (p_S (v_ur (v_ur (v_ur S0 107 (upd (S0 107) cl (p_h S0 pl))) 108 (upd ((v_ur S0 107 (upd (S0 107) cl (p_h S0 pl))) 108) cl (Int32.ofInt (cs : Int)))) 109 (upd ((v_ur (v_ur S0 107 (upd (S0 107) cl (p_h S0 pl))) 108 (upd ((v_ur S0 107 (upd (S0 107) cl (p_h S0 pl))) 108) cl (Int32.ofInt (cs : Int)))) 109) cl (Int32.ofInt (cs : Int)))) pl2 cs2 sk2 cl (Int32.ofInt 0) nc2 sg2 true h2 o2 na2) R Q
            refine w_iast rfl rfl (by rw [w_nat (by omega)]; omega) (by rw [w_nat (by omega)]; omega) ?_
            refine w_eqS (p_wor (by decide) (w_natn (by omega))) ?_
            refine w_st rfl (fun _ => rfl) ?_
            refine w_st rfl (fun _ => rfl) ?_
            show w_T L xs (d + 7) m_X12_clause 182 [(2, .int (p_h S0 pl)), (0, .ref 100), (1, .int (Int32.ofInt 0))] [.ref 100, .ref 100] (p_S (v_ur (v_ur (v_ur (v_ur S0 107 (upd (S0 107) cl (p_h S0 pl))) 108 (upd ((v_ur S0 107 (upd (S0 107) cl (p_h S0 pl))) 108) cl (Int32.ofInt (cs : Int)))) 109 (upd ((v_ur (v_ur S0 107 (upd (S0 107) cl (p_h S0 pl))) 108 (upd ((v_ur S0 107 (upd (S0 107) cl (p_h S0 pl))) 108) cl (Int32.ofInt (cs : Int)))) 109) cl (Int32.ofInt (cs : Int)))) 110 (upd ((v_ur (v_ur (v_ur S0 107 (upd (S0 107) cl (p_h S0 pl))) 108 (upd ((v_ur S0 107 (upd (S0 107) cl (p_h S0 pl))) 108) cl (Int32.ofInt (cs : Int)))) 109 (upd ((v_ur (v_ur S0 107 (upd (S0 107) cl (p_h S0 pl))) 108 (upd ((v_ur S0 107 (upd (S0 107) cl (p_h S0 pl))) 108) cl (Int32.ofInt (cs : Int)))) 109) cl (Int32.ofInt (cs : Int)))) 110) cl (Int32.ofInt (cs2 : Int)))) pl2 cs2 sk2 cl (Int32.ofInt 0) nc2 sg2 true h2 o2 na2) R Q
            refine w_get rfl v_tyM rfl ?_
            refine w_st rfl (fun _ => rfl) ?_
            refine w_st rfl (fun _ => rfl) ?_
            show w_T L xs (d + 7) m_X12_clause 187 [(2, .int (p_h S0 pl)), (0, .ref 100), (1, .int (Int32.ofInt 0))] [.int ((Int32.ofInt (cl : Int)) + (Int32.ofInt 1)), .ref 100] (p_S (v_ur (v_ur (v_ur (v_ur S0 107 (upd (S0 107) cl (p_h S0 pl))) 108 (upd ((v_ur S0 107 (upd (S0 107) cl (p_h S0 pl))) 108) cl (Int32.ofInt (cs : Int)))) 109 (upd ((v_ur (v_ur S0 107 (upd (S0 107) cl (p_h S0 pl))) 108 (upd ((v_ur S0 107 (upd (S0 107) cl (p_h S0 pl))) 108) cl (Int32.ofInt (cs : Int)))) 109) cl (Int32.ofInt (cs : Int)))) 110 (upd ((v_ur (v_ur (v_ur S0 107 (upd (S0 107) cl (p_h S0 pl))) 108 (upd ((v_ur S0 107 (upd (S0 107) cl (p_h S0 pl))) 108) cl (Int32.ofInt (cs : Int)))) 109 (upd ((v_ur (v_ur S0 107 (upd (S0 107) cl (p_h S0 pl))) 108 (upd ((v_ur S0 107 (upd (S0 107) cl (p_h S0 pl))) 108) cl (Int32.ofInt (cs : Int)))) 109) cl (Int32.ofInt (cs : Int)))) 110) cl (Int32.ofInt (cs2 : Int)))) pl2 cs2 sk2 cl (Int32.ofInt 0) nc2 sg2 true h2 o2 na2) R Q
            refine w_put rfl v_tyM rfl rfl rfl ?_
            refine w_eqS (p_wcl (w_inc _)) ?_
            show w_T L xs (d + 7) m_X12_clause 190 [(2, .int (p_h S0 pl)), (0, .ref 100), (1, .int (Int32.ofInt 0))] [] (p_S (v_ur (v_ur (v_ur (v_ur S0 107 (upd (S0 107) cl (p_h S0 pl))) 108 (upd ((v_ur S0 107 (upd (S0 107) cl (p_h S0 pl))) 108) cl (Int32.ofInt (cs : Int)))) 109 (upd ((v_ur (v_ur S0 107 (upd (S0 107) cl (p_h S0 pl))) 108 (upd ((v_ur S0 107 (upd (S0 107) cl (p_h S0 pl))) 108) cl (Int32.ofInt (cs : Int)))) 109) cl (Int32.ofInt (cs : Int)))) 110 (upd ((v_ur (v_ur (v_ur S0 107 (upd (S0 107) cl (p_h S0 pl))) 108 (upd ((v_ur S0 107 (upd (S0 107) cl (p_h S0 pl))) 108) cl (Int32.ofInt (cs : Int)))) 109 (upd ((v_ur (v_ur S0 107 (upd (S0 107) cl (p_h S0 pl))) 108 (upd ((v_ur S0 107 (upd (S0 107) cl (p_h S0 pl))) 108) cl (Int32.ofInt (cs : Int)))) 109) cl (Int32.ofInt (cs : Int)))) 110) cl (Int32.ofInt (cs2 : Int)))) pl2 cs2 sk2 (cl + 1) (Int32.ofInt 0) nc2 sg2 true h2 o2 na2) R Q
            refine w_ret rfl rfl ?_
            refine Kg _ _ _ _ _ _ _ _ _ _ (p_F_ur (p_F_ur (p_F_ur (p_F_ur (p_F_rf _) (by omega)) (by omega)) (by omega)) (by omega)) (p_Tw (p_Tw (p_Tw (p_Tw hT (a := 107) rfl) (a := 108) rfl) (a := 109) rfl) (a := 110) rfl) (p_Z_add (cs1 := cs) hZ (fun k hk => ?_) ?_ ?_ ?_ (by omega) (by omega) (fun k hk => r2 k hk) (by rw [Nat.sub_self]; trivial) r3) (by omega) (by omega) (by omega) (by omega) (by omega)
            · have hne : ¬ k = cl := by omega
              simp [v_ur, upd, hne]
            · simp [v_ur, upd]
            · simp [v_ur, upd]
            · simp [v_ur, upd]
          · show w_T L xs (d + 7) m_X12_clause 167 [(2, .int (p_h S0 pl)), (0, .ref 100), (1, .int (Int32.ofInt 0))] [] (p_S (v_ur (v_ur (v_ur S0 107 (upd (S0 107) cl (p_h S0 pl))) 108 (upd ((v_ur S0 107 (upd (S0 107) cl (p_h S0 pl))) 108) cl (Int32.ofInt (cs : Int)))) 109 (upd ((v_ur (v_ur S0 107 (upd (S0 107) cl (p_h S0 pl))) 108 (upd ((v_ur S0 107 (upd (S0 107) cl (p_h S0 pl))) 108) cl (Int32.ofInt (cs : Int)))) 109) cl (Int32.ofInt (cs : Int)))) pl2 cs2 sk2 cl b164 nc2 sg2 false h2 o2 na2) R Q
            refine w_st rfl (fun _ => rfl) ?_
            show w_T L xs (d + 7) m_X12_clause 168 [(2, .int (p_h S0 pl)), (0, .ref 100), (1, .int (Int32.ofInt 0))] [.ref 100] (p_S (v_ur (v_ur (v_ur S0 107 (upd (S0 107) cl (p_h S0 pl))) 108 (upd ((v_ur S0 107 (upd (S0 107) cl (p_h S0 pl))) 108) cl (Int32.ofInt (cs : Int)))) 109 (upd ((v_ur (v_ur S0 107 (upd (S0 107) cl (p_h S0 pl))) 108 (upd ((v_ur S0 107 (upd (S0 107) cl (p_h S0 pl))) 108) cl (Int32.ofInt (cs : Int)))) 109) cl (Int32.ofInt (cs : Int)))) pl2 cs2 sk2 cl b164 nc2 sg2 false h2 o2 na2) R Q
            refine w_getr rfl v_tyM rfl ?_
            refine w_st rfl (fun _ => rfl) ?_
            show w_T L xs (d + 7) m_X12_clause 172 [(2, .int (p_h S0 pl)), (0, .ref 100), (1, .int (Int32.ofInt 0))] [.ref 100, .ref 111] (p_S (v_ur (v_ur (v_ur S0 107 (upd (S0 107) cl (p_h S0 pl))) 108 (upd ((v_ur S0 107 (upd (S0 107) cl (p_h S0 pl))) 108) cl (Int32.ofInt (cs : Int)))) 109 (upd ((v_ur (v_ur S0 107 (upd (S0 107) cl (p_h S0 pl))) 108 (upd ((v_ur S0 107 (upd (S0 107) cl (p_h S0 pl))) 108) cl (Int32.ofInt (cs : Int)))) 109) cl (Int32.ofInt (cs : Int)))) pl2 cs2 sk2 cl b164 nc2 sg2 false h2 o2 na2) R Q
            refine w_get rfl v_tyM rfl ?_
            refine w_st rfl (fun _ => rfl) ?_
            show w_T L xs (d + 7) m_X12_clause 176 [(2, .int (p_h S0 pl)), (0, .ref 100), (1, .int (Int32.ofInt 0))] [.ref 100, .int (Int32.ofInt (cl : Int)), .ref 111] (p_S (v_ur (v_ur (v_ur S0 107 (upd (S0 107) cl (p_h S0 pl))) 108 (upd ((v_ur S0 107 (upd (S0 107) cl (p_h S0 pl))) 108) cl (Int32.ofInt (cs : Int)))) 109 (upd ((v_ur (v_ur S0 107 (upd (S0 107) cl (p_h S0 pl))) 108 (upd ((v_ur S0 107 (upd (S0 107) cl (p_h S0 pl))) 108) cl (Int32.ofInt (cs : Int)))) 109) cl (Int32.ofInt (cs : Int)))) pl2 cs2 sk2 cl b164 nc2 sg2 false h2 o2 na2) R Q
            refine w_get rfl v_tyM rfl ?_
            show w_T L xs (d + 7) m_X12_clause 179 [(2, .int (p_h S0 pl)), (0, .ref 100), (1, .int (Int32.ofInt 0))] [.int (Int32.ofInt (cs2 : Int)), .int (Int32.ofInt (cl : Int)), .ref 111] (p_S (v_ur (v_ur (v_ur S0 107 (upd (S0 107) cl (p_h S0 pl))) 108 (upd ((v_ur S0 107 (upd (S0 107) cl (p_h S0 pl))) 108) cl (Int32.ofInt (cs : Int)))) 109 (upd ((v_ur (v_ur S0 107 (upd (S0 107) cl (p_h S0 pl))) 108 (upd ((v_ur S0 107 (upd (S0 107) cl (p_h S0 pl))) 108) cl (Int32.ofInt (cs : Int)))) 109) cl (Int32.ofInt (cs : Int)))) pl2 cs2 sk2 cl b164 nc2 sg2 false h2 o2 na2) R Q
            refine w_iast rfl rfl (by rw [w_nat (by omega)]; omega) (by rw [w_nat (by omega)]; omega) ?_
            refine w_eqS (p_wor (by decide) (w_natn (by omega))) ?_
            refine w_st rfl (fun _ => rfl) ?_
            refine w_st rfl (fun _ => rfl) ?_
            show w_T L xs (d + 7) m_X12_clause 182 [(2, .int (p_h S0 pl)), (0, .ref 100), (1, .int (Int32.ofInt 0))] [.ref 100, .ref 100] (p_S (v_ur (v_ur (v_ur (v_ur S0 107 (upd (S0 107) cl (p_h S0 pl))) 108 (upd ((v_ur S0 107 (upd (S0 107) cl (p_h S0 pl))) 108) cl (Int32.ofInt (cs : Int)))) 109 (upd ((v_ur (v_ur S0 107 (upd (S0 107) cl (p_h S0 pl))) 108 (upd ((v_ur S0 107 (upd (S0 107) cl (p_h S0 pl))) 108) cl (Int32.ofInt (cs : Int)))) 109) cl (Int32.ofInt (cs : Int)))) 110 (upd ((v_ur (v_ur (v_ur S0 107 (upd (S0 107) cl (p_h S0 pl))) 108 (upd ((v_ur S0 107 (upd (S0 107) cl (p_h S0 pl))) 108) cl (Int32.ofInt (cs : Int)))) 109 (upd ((v_ur (v_ur S0 107 (upd (S0 107) cl (p_h S0 pl))) 108 (upd ((v_ur S0 107 (upd (S0 107) cl (p_h S0 pl))) 108) cl (Int32.ofInt (cs : Int)))) 109) cl (Int32.ofInt (cs : Int)))) 110) cl (Int32.ofInt (cs2 : Int)))) pl2 cs2 sk2 cl b164 nc2 sg2 false h2 o2 na2) R Q
            refine w_get rfl v_tyM rfl ?_
            refine w_st rfl (fun _ => rfl) ?_
            refine w_st rfl (fun _ => rfl) ?_
            show w_T L xs (d + 7) m_X12_clause 187 [(2, .int (p_h S0 pl)), (0, .ref 100), (1, .int (Int32.ofInt 0))] [.int ((Int32.ofInt (cl : Int)) + (Int32.ofInt 1)), .ref 100] (p_S (v_ur (v_ur (v_ur (v_ur S0 107 (upd (S0 107) cl (p_h S0 pl))) 108 (upd ((v_ur S0 107 (upd (S0 107) cl (p_h S0 pl))) 108) cl (Int32.ofInt (cs : Int)))) 109 (upd ((v_ur (v_ur S0 107 (upd (S0 107) cl (p_h S0 pl))) 108 (upd ((v_ur S0 107 (upd (S0 107) cl (p_h S0 pl))) 108) cl (Int32.ofInt (cs : Int)))) 109) cl (Int32.ofInt (cs : Int)))) 110 (upd ((v_ur (v_ur (v_ur S0 107 (upd (S0 107) cl (p_h S0 pl))) 108 (upd ((v_ur S0 107 (upd (S0 107) cl (p_h S0 pl))) 108) cl (Int32.ofInt (cs : Int)))) 109 (upd ((v_ur (v_ur S0 107 (upd (S0 107) cl (p_h S0 pl))) 108 (upd ((v_ur S0 107 (upd (S0 107) cl (p_h S0 pl))) 108) cl (Int32.ofInt (cs : Int)))) 109) cl (Int32.ofInt (cs : Int)))) 110) cl (Int32.ofInt (cs2 : Int)))) pl2 cs2 sk2 cl b164 nc2 sg2 false h2 o2 na2) R Q
            refine w_put rfl v_tyM rfl rfl rfl ?_
            refine w_eqS (p_wcl (w_inc _)) ?_
            show w_T L xs (d + 7) m_X12_clause 190 [(2, .int (p_h S0 pl)), (0, .ref 100), (1, .int (Int32.ofInt 0))] [] (p_S (v_ur (v_ur (v_ur (v_ur S0 107 (upd (S0 107) cl (p_h S0 pl))) 108 (upd ((v_ur S0 107 (upd (S0 107) cl (p_h S0 pl))) 108) cl (Int32.ofInt (cs : Int)))) 109 (upd ((v_ur (v_ur S0 107 (upd (S0 107) cl (p_h S0 pl))) 108 (upd ((v_ur S0 107 (upd (S0 107) cl (p_h S0 pl))) 108) cl (Int32.ofInt (cs : Int)))) 109) cl (Int32.ofInt (cs : Int)))) 110 (upd ((v_ur (v_ur (v_ur S0 107 (upd (S0 107) cl (p_h S0 pl))) 108 (upd ((v_ur S0 107 (upd (S0 107) cl (p_h S0 pl))) 108) cl (Int32.ofInt (cs : Int)))) 109 (upd ((v_ur (v_ur S0 107 (upd (S0 107) cl (p_h S0 pl))) 108 (upd ((v_ur S0 107 (upd (S0 107) cl (p_h S0 pl))) 108) cl (Int32.ofInt (cs : Int)))) 109) cl (Int32.ofInt (cs : Int)))) 110) cl (Int32.ofInt (cs2 : Int)))) pl2 cs2 sk2 (cl + 1) b164 nc2 sg2 false h2 o2 na2) R Q
            refine w_ret rfl rfl ?_
            exact Kb _ _ _ _ _ _ _ _ _ _ _ _ (p_F_ur (p_F_ur (p_F_ur (p_F_ur (p_F_rf _) (by omega)) (by omega)) (by omega)) (by omega)) (p_Tw (p_Tw (p_Tw (p_Tw hT (a := 107) rfl) (a := 108) rfl) (a := 109) rfl) (a := 110) rfl) hb164 (by omega) (by omega) (by omega) (by omega)
        · refine w_st rfl (fun _ => rfl) ?_
          show w_T L xs (d + 7) m_X12_clause 140 [(2, .int (p_h S0 pl)), (0, .ref 100), (1, .int (Int32.ofInt 0))] [.ref 100] (p_S (v_ur (v_ur S0 107 (upd (S0 107) cl (p_h S0 pl))) 108 (upd ((v_ur S0 107 (upd (S0 107) cl (p_h S0 pl))) 108) cl (Int32.ofInt (cs : Int)))) (pl + 1) cs 0 cl (Int32.ofInt 0) nc sg ov bh (Int32.ofInt 0) na) R Q
          refine w_cv rfl (by decide) mt_X12_value v_tyM rfl rfl rfl (Nat.le_of_ble_eq_true rfl) (Nat.le_of_ble_eq_true rfl) (Nat.le_of_ble_eq_true rfl) ?_
          show w_T L xs _ m_X12_value 0 (lv_args 0 [.ref 100]) [] (p_S (v_ur (v_ur S0 107 (upd (S0 107) cl (p_h S0 pl))) 108 (upd ((v_ur S0 107 (upd (S0 107) cl (p_h S0 pl))) 108) cl (Int32.ofInt (cs : Int)))) (pl + 1) cs 0 cl (Int32.ofInt 0) nc sg ov bh (Int32.ofInt 0) na) R _
          refine h_value (S0 := (v_ur (v_ur S0 107 (upd (S0 107) cl (p_h S0 pl))) 108 (upd ((v_ur S0 107 (upd (S0 107) cl (p_h S0 pl))) 108) cl (Int32.ofInt (cs : Int))))) he p_I_0 (fun h => absurd h (by omega)) (by omega) (by omega) (fun pl1 cs1 nc1 sg1 na1 o1 h1 l1 i1 e1 j1 k1 => ?_) (fun pl1 cs1 sk1 b140 nc1 sg1 na1 o1 h1 hb140 j1 k1 => ?_)
          · obtain ⟨q1, q2, q3⟩ := p_I_of i1
            show w_T L xs (d + 7) m_X12_clause 143 [(2, .int (p_h S0 pl)), (0, .ref 100), (1, .int (Int32.ofInt 0))] [] (p_S (v_ur (v_ur S0 107 (upd (S0 107) cl (p_h S0 pl))) 108 (upd ((v_ur S0 107 (upd (S0 107) cl (p_h S0 pl))) 108) cl (Int32.ofInt (cs : Int)))) pl1 cs1 0 cl (Int32.ofInt 0) nc1 sg1 ov h1 o1 na1) R Q
            refine w_st rfl (fun _ => rfl) ?_
            show w_T L xs (d + 7) m_X12_clause 144 [(2, .int (p_h S0 pl)), (0, .ref 100), (1, .int (Int32.ofInt 0))] [.ref 100] (p_S (v_ur (v_ur S0 107 (upd (S0 107) cl (p_h S0 pl))) 108 (upd ((v_ur S0 107 (upd (S0 107) cl (p_h S0 pl))) 108) cl (Int32.ofInt (cs : Int)))) pl1 cs1 0 cl (Int32.ofInt 0) nc1 sg1 ov h1 o1 na1) R Q
            refine w_getr rfl v_tyM rfl ?_
            refine w_st rfl (fun _ => rfl) ?_
            show w_T L xs (d + 7) m_X12_clause 148 [(2, .int (p_h S0 pl)), (0, .ref 100), (1, .int (Int32.ofInt 0))] [.ref 100, .ref 110] (p_S (v_ur (v_ur S0 107 (upd (S0 107) cl (p_h S0 pl))) 108 (upd ((v_ur S0 107 (upd (S0 107) cl (p_h S0 pl))) 108) cl (Int32.ofInt (cs : Int)))) pl1 cs1 0 cl (Int32.ofInt 0) nc1 sg1 ov h1 o1 na1) R Q
            refine w_get rfl v_tyM rfl ?_
            refine w_st rfl (fun _ => rfl) ?_
            show w_T L xs (d + 7) m_X12_clause 152 [(2, .int (p_h S0 pl)), (0, .ref 100), (1, .int (Int32.ofInt 0))] [.ref 100, .int (Int32.ofInt (cl : Int)), .ref 110] (p_S (v_ur (v_ur S0 107 (upd (S0 107) cl (p_h S0 pl))) 108 (upd ((v_ur S0 107 (upd (S0 107) cl (p_h S0 pl))) 108) cl (Int32.ofInt (cs : Int)))) pl1 cs1 0 cl (Int32.ofInt 0) nc1 sg1 ov h1 o1 na1) R Q
            refine w_get rfl v_tyM rfl ?_
            show w_T L xs (d + 7) m_X12_clause 155 [(2, .int (p_h S0 pl)), (0, .ref 100), (1, .int (Int32.ofInt 0))] [.int (Int32.ofInt (cs1 : Int)), .int (Int32.ofInt (cl : Int)), .ref 110] (p_S (v_ur (v_ur S0 107 (upd (S0 107) cl (p_h S0 pl))) 108 (upd ((v_ur S0 107 (upd (S0 107) cl (p_h S0 pl))) 108) cl (Int32.ofInt (cs : Int)))) pl1 cs1 0 cl (Int32.ofInt 0) nc1 sg1 ov h1 o1 na1) R Q
            refine w_iast rfl rfl (by rw [w_nat (by omega)]; omega) (by rw [w_nat (by omega)]; omega) ?_
            refine w_eqS (p_wor (by decide) (w_natn (by omega))) ?_
            refine w_st rfl (fun _ => rfl) ?_
            show w_T L xs (d + 7) m_X12_clause 157 [(2, .int (p_h S0 pl)), (0, .ref 100), (1, .int (Int32.ofInt 0))] [.ref 100] (p_S (v_ur (v_ur (v_ur S0 107 (upd (S0 107) cl (p_h S0 pl))) 108 (upd ((v_ur S0 107 (upd (S0 107) cl (p_h S0 pl))) 108) cl (Int32.ofInt (cs : Int)))) 109 (upd ((v_ur (v_ur S0 107 (upd (S0 107) cl (p_h S0 pl))) 108 (upd ((v_ur S0 107 (upd (S0 107) cl (p_h S0 pl))) 108) cl (Int32.ofInt (cs : Int)))) 109) cl (Int32.ofInt (cs1 : Int)))) pl1 cs1 0 cl (Int32.ofInt 0) nc1 sg1 ov h1 o1 na1) R Q
            refine w_cv rfl (by decide) mt_X12_isGood v_tyM rfl rfl rfl (Nat.le_of_ble_eq_true rfl) (Nat.le_of_ble_eq_true rfl) (Nat.le_of_ble_eq_true rfl) ?_
            show w_T L xs _ m_X12_isGood 0 (lv_args 0 [.ref 100]) [] (p_S (v_ur (v_ur (v_ur S0 107 (upd (S0 107) cl (p_h S0 pl))) 108 (upd ((v_ur S0 107 (upd (S0 107) cl (p_h S0 pl))) 108) cl (Int32.ofInt (cs : Int)))) 109 (upd ((v_ur (v_ur S0 107 (upd (S0 107) cl (p_h S0 pl))) 108 (upd ((v_ur S0 107 (upd (S0 107) cl (p_h S0 pl))) 108) cl (Int32.ofInt (cs : Int)))) 109) cl (Int32.ofInt (cs1 : Int)))) pl1 cs1 0 cl (Int32.ofInt 0) nc1 sg1 ov h1 o1 na1) R _
            refine h_isGT ?_
            show w_T L xs (d + 7) m_X12_clause 160 [(2, .int (p_h S0 pl)), (0, .ref 100), (1, .int (Int32.ofInt 0))] [.int (Int32.ofInt 1)] (p_S (v_ur (v_ur (v_ur S0 107 (upd (S0 107) cl (p_h S0 pl))) 108 (upd ((v_ur S0 107 (upd (S0 107) cl (p_h S0 pl))) 108) cl (Int32.ofInt (cs : Int)))) 109 (upd ((v_ur (v_ur S0 107 (upd (S0 107) cl (p_h S0 pl))) 108 (upd ((v_ur S0 107 (upd (S0 107) cl (p_h S0 pl))) 108) cl (Int32.ofInt (cs : Int)))) 109) cl (Int32.ofInt (cs1 : Int)))) pl1 cs1 0 cl (Int32.ofInt 0) nc1 sg1 ov h1 o1 na1) R Q
            refine w_st rfl (fun _ => rfl) ?_
            refine w_st rfl (fun _ => rfl) ?_
            show w_T L xs (d + 7) m_X12_clause 164 [(2, .int (p_h S0 pl)), (0, .ref 100), (1, .int (Int32.ofInt 0))] [.ref 100] (p_S (v_ur (v_ur (v_ur S0 107 (upd (S0 107) cl (p_h S0 pl))) 108 (upd ((v_ur S0 107 (upd (S0 107) cl (p_h S0 pl))) 108) cl (Int32.ofInt (cs : Int)))) 109 (upd ((v_ur (v_ur S0 107 (upd (S0 107) cl (p_h S0 pl))) 108 (upd ((v_ur S0 107 (upd (S0 107) cl (p_h S0 pl))) 108) cl (Int32.ofInt (cs : Int)))) 109) cl (Int32.ofInt (cs1 : Int)))) pl1 cs1 0 cl (Int32.ofInt 0) nc1 sg1 ov h1 o1 na1) R Q
            refine w_cv rfl (by decide) mt_X12_condition v_tyM rfl rfl rfl (Nat.le_of_ble_eq_true rfl) (Nat.le_of_ble_eq_true rfl) (Nat.le_of_ble_eq_true rfl) ?_
            show w_T L xs _ m_X12_condition 0 (lv_args 0 [.ref 100]) [] (p_S (v_ur (v_ur (v_ur S0 107 (upd (S0 107) cl (p_h S0 pl))) 108 (upd ((v_ur S0 107 (upd (S0 107) cl (p_h S0 pl))) 108) cl (Int32.ofInt (cs : Int)))) 109 (upd ((v_ur (v_ur S0 107 (upd (S0 107) cl (p_h S0 pl))) 108 (upd ((v_ur S0 107 (upd (S0 107) cl (p_h S0 pl))) 108) cl (Int32.ofInt (cs : Int)))) 109) cl (Int32.ofInt (cs1 : Int)))) pl1 cs1 0 cl (Int32.ofInt 0) nc1 sg1 ov h1 o1 na1) R _
            refine h_cond (S0 := (v_ur (v_ur (v_ur S0 107 (upd (S0 107) cl (p_h S0 pl))) 108 (upd ((v_ur S0 107 (upd (S0 107) cl (p_h S0 pl))) 108) cl (Int32.ofInt (cs : Int)))) 109 (upd ((v_ur (v_ur S0 107 (upd (S0 107) cl (p_h S0 pl))) 108 (upd ((v_ur S0 107 (upd (S0 107) cl (p_h S0 pl))) 108) cl (Int32.ofInt (cs : Int)))) 109) cl (Int32.ofInt (cs1 : Int))))) he (by omega) (by omega) (fun pl2 cs2 sk2 nc2 sg2 na2 o2 h2 l2 i2 j2 k2 => ?_) (fun pl2 cs2 sk2 b164 nc2 sg2 na2 o2 h2 hb164 j2 k2 => ?_)
            · obtain ⟨r1, r2, r3⟩ := p_I_of i2
              show w_T L xs (d + 7) m_X12_clause 167 [(2, .int (p_h S0 pl)), (0, .ref 100), (1, .int (Int32.ofInt 0))] [] (p_S (v_ur (v_ur (v_ur S0 107 (upd (S0 107) cl (p_h S0 pl))) 108 (upd ((v_ur S0 107 (upd (S0 107) cl (p_h S0 pl))) 108) cl (Int32.ofInt (cs : Int)))) 109 (upd ((v_ur (v_ur S0 107 (upd (S0 107) cl (p_h S0 pl))) 108 (upd ((v_ur S0 107 (upd (S0 107) cl (p_h S0 pl))) 108) cl (Int32.ofInt (cs : Int)))) 109) cl (Int32.ofInt (cs1 : Int)))) pl2 cs2 sk2 cl (Int32.ofInt 0) nc2 sg2 true h2 o2 na2) R Q
              refine w_st rfl (fun _ => rfl) ?_
              show w_T L xs (d + 7) m_X12_clause 168 [(2, .int (p_h S0 pl)), (0, .ref 100), (1, .int (Int32.ofInt 0))] [.ref 100] (p_S (v_ur (v_ur (v_ur S0 107 (upd (S0 107) cl (p_h S0 pl))) 108 (upd ((v_ur S0 107 (upd (S0 107) cl (p_h S0 pl))) 108) cl (Int32.ofInt (cs : Int)))) 109 (upd ((v_ur (v_ur S0 107 (upd (S0 107) cl (p_h S0 pl))) 108 (upd ((v_ur S0 107 (upd (S0 107) cl (p_h S0 pl))) 108) cl (Int32.ofInt (cs : Int)))) 109) cl (Int32.ofInt (cs1 : Int)))) pl2 cs2 sk2 cl (Int32.ofInt 0) nc2 sg2 true h2 o2 na2) R Q
              refine w_getr rfl v_tyM rfl ?_
              refine w_st rfl (fun _ => rfl) ?_
              show w_T L xs (d + 7) m_X12_clause 172 [(2, .int (p_h S0 pl)), (0, .ref 100), (1, .int (Int32.ofInt 0))] [.ref 100, .ref 111] (p_S (v_ur (v_ur (v_ur S0 107 (upd (S0 107) cl (p_h S0 pl))) 108 (upd ((v_ur S0 107 (upd (S0 107) cl (p_h S0 pl))) 108) cl (Int32.ofInt (cs : Int)))) 109 (upd ((v_ur (v_ur S0 107 (upd (S0 107) cl (p_h S0 pl))) 108 (upd ((v_ur S0 107 (upd (S0 107) cl (p_h S0 pl))) 108) cl (Int32.ofInt (cs : Int)))) 109) cl (Int32.ofInt (cs1 : Int)))) pl2 cs2 sk2 cl (Int32.ofInt 0) nc2 sg2 true h2 o2 na2) R Q
              refine w_get rfl v_tyM rfl ?_
              refine w_st rfl (fun _ => rfl) ?_
              show w_T L xs (d + 7) m_X12_clause 176 [(2, .int (p_h S0 pl)), (0, .ref 100), (1, .int (Int32.ofInt 0))] [.ref 100, .int (Int32.ofInt (cl : Int)), .ref 111] (p_S (v_ur (v_ur (v_ur S0 107 (upd (S0 107) cl (p_h S0 pl))) 108 (upd ((v_ur S0 107 (upd (S0 107) cl (p_h S0 pl))) 108) cl (Int32.ofInt (cs : Int)))) 109 (upd ((v_ur (v_ur S0 107 (upd (S0 107) cl (p_h S0 pl))) 108 (upd ((v_ur S0 107 (upd (S0 107) cl (p_h S0 pl))) 108) cl (Int32.ofInt (cs : Int)))) 109) cl (Int32.ofInt (cs1 : Int)))) pl2 cs2 sk2 cl (Int32.ofInt 0) nc2 sg2 true h2 o2 na2) R Q
              refine w_get rfl v_tyM rfl ?_
              show w_T L xs (d + 7) m_X12_clause 179 [(2, .int (p_h S0 pl)), (0, .ref 100), (1, .int (Int32.ofInt 0))] [.int (Int32.ofInt (cs2 : Int)), .int (Int32.ofInt (cl : Int)), .ref 111] (p_S (v_ur (v_ur (v_ur S0 107 (upd (S0 107) cl (p_h S0 pl))) 108 (upd ((v_ur S0 107 (upd (S0 107) cl (p_h S0 pl))) 108) cl (Int32.ofInt (cs : Int)))) 109 (upd ((v_ur (v_ur S0 107 (upd (S0 107) cl (p_h S0 pl))) 108 (upd ((v_ur S0 107 (upd (S0 107) cl (p_h S0 pl))) 108) cl (Int32.ofInt (cs : Int)))) 109) cl (Int32.ofInt (cs1 : Int)))) pl2 cs2 sk2 cl (Int32.ofInt 0) nc2 sg2 true h2 o2 na2) R Q
              refine w_iast rfl rfl (by rw [w_nat (by omega)]; omega) (by rw [w_nat (by omega)]; omega) ?_
              refine w_eqS (p_wor (by decide) (w_natn (by omega))) ?_
              refine w_st rfl (fun _ => rfl) ?_
              refine w_st rfl (fun _ => rfl) ?_
              show w_T L xs (d + 7) m_X12_clause 182 [(2, .int (p_h S0 pl)), (0, .ref 100), (1, .int (Int32.ofInt 0))] [.ref 100, .ref 100] (p_S (v_ur (v_ur (v_ur (v_ur S0 107 (upd (S0 107) cl (p_h S0 pl))) 108 (upd ((v_ur S0 107 (upd (S0 107) cl (p_h S0 pl))) 108) cl (Int32.ofInt (cs : Int)))) 109 (upd ((v_ur (v_ur S0 107 (upd (S0 107) cl (p_h S0 pl))) 108 (upd ((v_ur S0 107 (upd (S0 107) cl (p_h S0 pl))) 108) cl (Int32.ofInt (cs : Int)))) 109) cl (Int32.ofInt (cs1 : Int)))) 110 (upd ((v_ur (v_ur (v_ur S0 107 (upd (S0 107) cl (p_h S0 pl))) 108 (upd ((v_ur S0 107 (upd (S0 107) cl (p_h S0 pl))) 108) cl (Int32.ofInt (cs : Int)))) 109 (upd ((v_ur (v_ur S0 107 (upd (S0 107) cl (p_h S0 pl))) 108 (upd ((v_ur S0 107 (upd (S0 107) cl (p_h S0 pl))) 108) cl (Int32.ofInt (cs : Int)))) 109) cl (Int32.ofInt (cs1 : Int)))) 110) cl (Int32.ofInt (cs2 : Int)))) pl2 cs2 sk2 cl (Int32.ofInt 0) nc2 sg2 true h2 o2 na2) R Q
              refine w_get rfl v_tyM rfl ?_
              refine w_st rfl (fun _ => rfl) ?_
              refine w_st rfl (fun _ => rfl) ?_
              show w_T L xs (d + 7) m_X12_clause 187 [(2, .int (p_h S0 pl)), (0, .ref 100), (1, .int (Int32.ofInt 0))] [.int ((Int32.ofInt (cl : Int)) + (Int32.ofInt 1)), .ref 100] (p_S (v_ur (v_ur (v_ur (v_ur S0 107 (upd (S0 107) cl (p_h S0 pl))) 108 (upd ((v_ur S0 107 (upd (S0 107) cl (p_h S0 pl))) 108) cl (Int32.ofInt (cs : Int)))) 109 (upd ((v_ur (v_ur S0 107 (upd (S0 107) cl (p_h S0 pl))) 108 (upd ((v_ur S0 107 (upd (S0 107) cl (p_h S0 pl))) 108) cl (Int32.ofInt (cs : Int)))) 109) cl (Int32.ofInt (cs1 : Int)))) 110 (upd ((v_ur (v_ur (v_ur S0 107 (upd (S0 107) cl (p_h S0 pl))) 108 (upd ((v_ur S0 107 (upd (S0 107) cl (p_h S0 pl))) 108) cl (Int32.ofInt (cs : Int)))) 109 (upd ((v_ur (v_ur S0 107 (upd (S0 107) cl (p_h S0 pl))) 108 (upd ((v_ur S0 107 (upd (S0 107) cl (p_h S0 pl))) 108) cl (Int32.ofInt (cs : Int)))) 109) cl (Int32.ofInt (cs1 : Int)))) 110) cl (Int32.ofInt (cs2 : Int)))) pl2 cs2 sk2 cl (Int32.ofInt 0) nc2 sg2 true h2 o2 na2) R Q
              refine w_put rfl v_tyM rfl rfl rfl ?_
              refine w_eqS (p_wcl (w_inc _)) ?_
              show w_T L xs (d + 7) m_X12_clause 190 [(2, .int (p_h S0 pl)), (0, .ref 100), (1, .int (Int32.ofInt 0))] [] (p_S (v_ur (v_ur (v_ur (v_ur S0 107 (upd (S0 107) cl (p_h S0 pl))) 108 (upd ((v_ur S0 107 (upd (S0 107) cl (p_h S0 pl))) 108) cl (Int32.ofInt (cs : Int)))) 109 (upd ((v_ur (v_ur S0 107 (upd (S0 107) cl (p_h S0 pl))) 108 (upd ((v_ur S0 107 (upd (S0 107) cl (p_h S0 pl))) 108) cl (Int32.ofInt (cs : Int)))) 109) cl (Int32.ofInt (cs1 : Int)))) 110 (upd ((v_ur (v_ur (v_ur S0 107 (upd (S0 107) cl (p_h S0 pl))) 108 (upd ((v_ur S0 107 (upd (S0 107) cl (p_h S0 pl))) 108) cl (Int32.ofInt (cs : Int)))) 109 (upd ((v_ur (v_ur S0 107 (upd (S0 107) cl (p_h S0 pl))) 108 (upd ((v_ur S0 107 (upd (S0 107) cl (p_h S0 pl))) 108) cl (Int32.ofInt (cs : Int)))) 109) cl (Int32.ofInt (cs1 : Int)))) 110) cl (Int32.ofInt (cs2 : Int)))) pl2 cs2 sk2 (cl + 1) (Int32.ofInt 0) nc2 sg2 true h2 o2 na2) R Q
              refine w_ret rfl rfl ?_
              refine Kg _ _ _ _ _ _ _ _ _ _ (p_F_ur (p_F_ur (p_F_ur (p_F_ur (p_F_rf _) (by omega)) (by omega)) (by omega)) (by omega)) (p_Tw (p_Tw (p_Tw (p_Tw hT (a := 107) rfl) (a := 108) rfl) (a := 109) rfl) (a := 110) rfl) (p_Z_add (cs1 := cs1) hZ (fun k hk => ?_) ?_ ?_ ?_ (by omega) (by omega) (fun k hk => by rw [r2 k (by omega), q2 k hk]) (v_seg_c (fun j x1 x2 => r2 j (by omega)) q3) r3) (by omega) (by omega) (by omega) (by omega) (by omega)
              · have hne : ¬ k = cl := by omega
                simp [v_ur, upd, hne]
              · simp [v_ur, upd]
              · simp [v_ur, upd]
              · simp [v_ur, upd]
            · show w_T L xs (d + 7) m_X12_clause 167 [(2, .int (p_h S0 pl)), (0, .ref 100), (1, .int (Int32.ofInt 0))] [] (p_S (v_ur (v_ur (v_ur S0 107 (upd (S0 107) cl (p_h S0 pl))) 108 (upd ((v_ur S0 107 (upd (S0 107) cl (p_h S0 pl))) 108) cl (Int32.ofInt (cs : Int)))) 109 (upd ((v_ur (v_ur S0 107 (upd (S0 107) cl (p_h S0 pl))) 108 (upd ((v_ur S0 107 (upd (S0 107) cl (p_h S0 pl))) 108) cl (Int32.ofInt (cs : Int)))) 109) cl (Int32.ofInt (cs1 : Int)))) pl2 cs2 sk2 cl b164 nc2 sg2 false h2 o2 na2) R Q
              refine w_st rfl (fun _ => rfl) ?_
              show w_T L xs (d + 7) m_X12_clause 168 [(2, .int (p_h S0 pl)), (0, .ref 100), (1, .int (Int32.ofInt 0))] [.ref 100] (p_S (v_ur (v_ur (v_ur S0 107 (upd (S0 107) cl (p_h S0 pl))) 108 (upd ((v_ur S0 107 (upd (S0 107) cl (p_h S0 pl))) 108) cl (Int32.ofInt (cs : Int)))) 109 (upd ((v_ur (v_ur S0 107 (upd (S0 107) cl (p_h S0 pl))) 108 (upd ((v_ur S0 107 (upd (S0 107) cl (p_h S0 pl))) 108) cl (Int32.ofInt (cs : Int)))) 109) cl (Int32.ofInt (cs1 : Int)))) pl2 cs2 sk2 cl b164 nc2 sg2 false h2 o2 na2) R Q
              refine w_getr rfl v_tyM rfl ?_
              refine w_st rfl (fun _ => rfl) ?_
              show w_T L xs (d + 7) m_X12_clause 172 [(2, .int (p_h S0 pl)), (0, .ref 100), (1, .int (Int32.ofInt 0))] [.ref 100, .ref 111] (p_S (v_ur (v_ur (v_ur S0 107 (upd (S0 107) cl (p_h S0 pl))) 108 (upd ((v_ur S0 107 (upd (S0 107) cl (p_h S0 pl))) 108) cl (Int32.ofInt (cs : Int)))) 109 (upd ((v_ur (v_ur S0 107 (upd (S0 107) cl (p_h S0 pl))) 108 (upd ((v_ur S0 107 (upd (S0 107) cl (p_h S0 pl))) 108) cl (Int32.ofInt (cs : Int)))) 109) cl (Int32.ofInt (cs1 : Int)))) pl2 cs2 sk2 cl b164 nc2 sg2 false h2 o2 na2) R Q
              refine w_get rfl v_tyM rfl ?_
              refine w_st rfl (fun _ => rfl) ?_
              show w_T L xs (d + 7) m_X12_clause 176 [(2, .int (p_h S0 pl)), (0, .ref 100), (1, .int (Int32.ofInt 0))] [.ref 100, .int (Int32.ofInt (cl : Int)), .ref 111] (p_S (v_ur (v_ur (v_ur S0 107 (upd (S0 107) cl (p_h S0 pl))) 108 (upd ((v_ur S0 107 (upd (S0 107) cl (p_h S0 pl))) 108) cl (Int32.ofInt (cs : Int)))) 109 (upd ((v_ur (v_ur S0 107 (upd (S0 107) cl (p_h S0 pl))) 108 (upd ((v_ur S0 107 (upd (S0 107) cl (p_h S0 pl))) 108) cl (Int32.ofInt (cs : Int)))) 109) cl (Int32.ofInt (cs1 : Int)))) pl2 cs2 sk2 cl b164 nc2 sg2 false h2 o2 na2) R Q
              refine w_get rfl v_tyM rfl ?_
              show w_T L xs (d + 7) m_X12_clause 179 [(2, .int (p_h S0 pl)), (0, .ref 100), (1, .int (Int32.ofInt 0))] [.int (Int32.ofInt (cs2 : Int)), .int (Int32.ofInt (cl : Int)), .ref 111] (p_S (v_ur (v_ur (v_ur S0 107 (upd (S0 107) cl (p_h S0 pl))) 108 (upd ((v_ur S0 107 (upd (S0 107) cl (p_h S0 pl))) 108) cl (Int32.ofInt (cs : Int)))) 109 (upd ((v_ur (v_ur S0 107 (upd (S0 107) cl (p_h S0 pl))) 108 (upd ((v_ur S0 107 (upd (S0 107) cl (p_h S0 pl))) 108) cl (Int32.ofInt (cs : Int)))) 109) cl (Int32.ofInt (cs1 : Int)))) pl2 cs2 sk2 cl b164 nc2 sg2 false h2 o2 na2) R Q
              refine w_iast rfl rfl (by rw [w_nat (by omega)]; omega) (by rw [w_nat (by omega)]; omega) ?_
              refine w_eqS (p_wor (by decide) (w_natn (by omega))) ?_
              refine w_st rfl (fun _ => rfl) ?_
              refine w_st rfl (fun _ => rfl) ?_
              show w_T L xs (d + 7) m_X12_clause 182 [(2, .int (p_h S0 pl)), (0, .ref 100), (1, .int (Int32.ofInt 0))] [.ref 100, .ref 100] (p_S (v_ur (v_ur (v_ur (v_ur S0 107 (upd (S0 107) cl (p_h S0 pl))) 108 (upd ((v_ur S0 107 (upd (S0 107) cl (p_h S0 pl))) 108) cl (Int32.ofInt (cs : Int)))) 109 (upd ((v_ur (v_ur S0 107 (upd (S0 107) cl (p_h S0 pl))) 108 (upd ((v_ur S0 107 (upd (S0 107) cl (p_h S0 pl))) 108) cl (Int32.ofInt (cs : Int)))) 109) cl (Int32.ofInt (cs1 : Int)))) 110 (upd ((v_ur (v_ur (v_ur S0 107 (upd (S0 107) cl (p_h S0 pl))) 108 (upd ((v_ur S0 107 (upd (S0 107) cl (p_h S0 pl))) 108) cl (Int32.ofInt (cs : Int)))) 109 (upd ((v_ur (v_ur S0 107 (upd (S0 107) cl (p_h S0 pl))) 108 (upd ((v_ur S0 107 (upd (S0 107) cl (p_h S0 pl))) 108) cl (Int32.ofInt (cs : Int)))) 109) cl (Int32.ofInt (cs1 : Int)))) 110) cl (Int32.ofInt (cs2 : Int)))) pl2 cs2 sk2 cl b164 nc2 sg2 false h2 o2 na2) R Q
              refine w_get rfl v_tyM rfl ?_
              refine w_st rfl (fun _ => rfl) ?_
              refine w_st rfl (fun _ => rfl) ?_
              show w_T L xs (d + 7) m_X12_clause 187 [(2, .int (p_h S0 pl)), (0, .ref 100), (1, .int (Int32.ofInt 0))] [.int ((Int32.ofInt (cl : Int)) + (Int32.ofInt 1)), .ref 100] (p_S (v_ur (v_ur (v_ur (v_ur S0 107 (upd (S0 107) cl (p_h S0 pl))) 108 (upd ((v_ur S0 107 (upd (S0 107) cl (p_h S0 pl))) 108) cl (Int32.ofInt (cs : Int)))) 109 (upd ((v_ur (v_ur S0 107 (upd (S0 107) cl (p_h S0 pl))) 108 (upd ((v_ur S0 107 (upd (S0 107) cl (p_h S0 pl))) 108) cl (Int32.ofInt (cs : Int)))) 109) cl (Int32.ofInt (cs1 : Int)))) 110 (upd ((v_ur (v_ur (v_ur S0 107 (upd (S0 107) cl (p_h S0 pl))) 108 (upd ((v_ur S0 107 (upd (S0 107) cl (p_h S0 pl))) 108) cl (Int32.ofInt (cs : Int)))) 109 (upd ((v_ur (v_ur S0 107 (upd (S0 107) cl (p_h S0 pl))) 108 (upd ((v_ur S0 107 (upd (S0 107) cl (p_h S0 pl))) 108) cl (Int32.ofInt (cs : Int)))) 109) cl (Int32.ofInt (cs1 : Int)))) 110) cl (Int32.ofInt (cs2 : Int)))) pl2 cs2 sk2 cl b164 nc2 sg2 false h2 o2 na2) R Q
              refine w_put rfl v_tyM rfl rfl rfl ?_
              refine w_eqS (p_wcl (w_inc _)) ?_
              show w_T L xs (d + 7) m_X12_clause 190 [(2, .int (p_h S0 pl)), (0, .ref 100), (1, .int (Int32.ofInt 0))] [] (p_S (v_ur (v_ur (v_ur (v_ur S0 107 (upd (S0 107) cl (p_h S0 pl))) 108 (upd ((v_ur S0 107 (upd (S0 107) cl (p_h S0 pl))) 108) cl (Int32.ofInt (cs : Int)))) 109 (upd ((v_ur (v_ur S0 107 (upd (S0 107) cl (p_h S0 pl))) 108 (upd ((v_ur S0 107 (upd (S0 107) cl (p_h S0 pl))) 108) cl (Int32.ofInt (cs : Int)))) 109) cl (Int32.ofInt (cs1 : Int)))) 110 (upd ((v_ur (v_ur (v_ur S0 107 (upd (S0 107) cl (p_h S0 pl))) 108 (upd ((v_ur S0 107 (upd (S0 107) cl (p_h S0 pl))) 108) cl (Int32.ofInt (cs : Int)))) 109 (upd ((v_ur (v_ur S0 107 (upd (S0 107) cl (p_h S0 pl))) 108 (upd ((v_ur S0 107 (upd (S0 107) cl (p_h S0 pl))) 108) cl (Int32.ofInt (cs : Int)))) 109) cl (Int32.ofInt (cs1 : Int)))) 110) cl (Int32.ofInt (cs2 : Int)))) pl2 cs2 sk2 (cl + 1) b164 nc2 sg2 false h2 o2 na2) R Q
              refine w_ret rfl rfl ?_
              exact Kb _ _ _ _ _ _ _ _ _ _ _ _ (p_F_ur (p_F_ur (p_F_ur (p_F_ur (p_F_rf _) (by omega)) (by omega)) (by omega)) (by omega)) (p_Tw (p_Tw (p_Tw (p_Tw hT (a := 107) rfl) (a := 108) rfl) (a := 109) rfl) (a := 110) rfl) hb164 (by omega) (by omega) (by omega) (by omega)
          · show w_T L xs (d + 7) m_X12_clause 143 [(2, .int (p_h S0 pl)), (0, .ref 100), (1, .int (Int32.ofInt 0))] [] (p_S (v_ur (v_ur S0 107 (upd (S0 107) cl (p_h S0 pl))) 108 (upd ((v_ur S0 107 (upd (S0 107) cl (p_h S0 pl))) 108) cl (Int32.ofInt (cs : Int)))) pl1 cs1 sk1 cl b140 nc1 sg1 ov h1 o1 na1) R Q
            refine w_st rfl (fun _ => rfl) ?_
            show w_T L xs (d + 7) m_X12_clause 144 [(2, .int (p_h S0 pl)), (0, .ref 100), (1, .int (Int32.ofInt 0))] [.ref 100] (p_S (v_ur (v_ur S0 107 (upd (S0 107) cl (p_h S0 pl))) 108 (upd ((v_ur S0 107 (upd (S0 107) cl (p_h S0 pl))) 108) cl (Int32.ofInt (cs : Int)))) pl1 cs1 sk1 cl b140 nc1 sg1 ov h1 o1 na1) R Q
            refine w_getr rfl v_tyM rfl ?_
            refine w_st rfl (fun _ => rfl) ?_
            show w_T L xs (d + 7) m_X12_clause 148 [(2, .int (p_h S0 pl)), (0, .ref 100), (1, .int (Int32.ofInt 0))] [.ref 100, .ref 110] (p_S (v_ur (v_ur S0 107 (upd (S0 107) cl (p_h S0 pl))) 108 (upd ((v_ur S0 107 (upd (S0 107) cl (p_h S0 pl))) 108) cl (Int32.ofInt (cs : Int)))) pl1 cs1 sk1 cl b140 nc1 sg1 ov h1 o1 na1) R Q
            refine w_get rfl v_tyM rfl ?_
            refine w_st rfl (fun _ => rfl) ?_
            show w_T L xs (d + 7) m_X12_clause 152 [(2, .int (p_h S0 pl)), (0, .ref 100), (1, .int (Int32.ofInt 0))] [.ref 100, .int (Int32.ofInt (cl : Int)), .ref 110] (p_S (v_ur (v_ur S0 107 (upd (S0 107) cl (p_h S0 pl))) 108 (upd ((v_ur S0 107 (upd (S0 107) cl (p_h S0 pl))) 108) cl (Int32.ofInt (cs : Int)))) pl1 cs1 sk1 cl b140 nc1 sg1 ov h1 o1 na1) R Q
            refine w_get rfl v_tyM rfl ?_
            show w_T L xs (d + 7) m_X12_clause 155 [(2, .int (p_h S0 pl)), (0, .ref 100), (1, .int (Int32.ofInt 0))] [.int (Int32.ofInt (cs1 : Int)), .int (Int32.ofInt (cl : Int)), .ref 110] (p_S (v_ur (v_ur S0 107 (upd (S0 107) cl (p_h S0 pl))) 108 (upd ((v_ur S0 107 (upd (S0 107) cl (p_h S0 pl))) 108) cl (Int32.ofInt (cs : Int)))) pl1 cs1 sk1 cl b140 nc1 sg1 ov h1 o1 na1) R Q
            refine w_iast rfl rfl (by rw [w_nat (by omega)]; omega) (by rw [w_nat (by omega)]; omega) ?_
            refine w_eqS (p_wor (by decide) (w_natn (by omega))) ?_
            refine w_st rfl (fun _ => rfl) ?_
            show w_T L xs (d + 7) m_X12_clause 157 [(2, .int (p_h S0 pl)), (0, .ref 100), (1, .int (Int32.ofInt 0))] [.ref 100] (p_S (v_ur (v_ur (v_ur S0 107 (upd (S0 107) cl (p_h S0 pl))) 108 (upd ((v_ur S0 107 (upd (S0 107) cl (p_h S0 pl))) 108) cl (Int32.ofInt (cs : Int)))) 109 (upd ((v_ur (v_ur S0 107 (upd (S0 107) cl (p_h S0 pl))) 108 (upd ((v_ur S0 107 (upd (S0 107) cl (p_h S0 pl))) 108) cl (Int32.ofInt (cs : Int)))) 109) cl (Int32.ofInt (cs1 : Int)))) pl1 cs1 sk1 cl b140 nc1 sg1 ov h1 o1 na1) R Q
            refine w_cv rfl (by decide) mt_X12_isGood v_tyM rfl rfl rfl (Nat.le_of_ble_eq_true rfl) (Nat.le_of_ble_eq_true rfl) (Nat.le_of_ble_eq_true rfl) ?_
            show w_T L xs _ m_X12_isGood 0 (lv_args 0 [.ref 100]) [] (p_S (v_ur (v_ur (v_ur S0 107 (upd (S0 107) cl (p_h S0 pl))) 108 (upd ((v_ur S0 107 (upd (S0 107) cl (p_h S0 pl))) 108) cl (Int32.ofInt (cs : Int)))) 109 (upd ((v_ur (v_ur S0 107 (upd (S0 107) cl (p_h S0 pl))) 108 (upd ((v_ur S0 107 (upd (S0 107) cl (p_h S0 pl))) 108) cl (Int32.ofInt (cs : Int)))) 109) cl (Int32.ofInt (cs1 : Int)))) pl1 cs1 sk1 cl b140 nc1 sg1 ov h1 o1 na1) R _
            refine h_isGF hb140 ?_
            show w_T L xs (d + 7) m_X12_clause 160 [(2, .int (p_h S0 pl)), (0, .ref 100), (1, .int (Int32.ofInt 0))] [.int (Int32.ofInt 0)] (p_S (v_ur (v_ur (v_ur S0 107 (upd (S0 107) cl (p_h S0 pl))) 108 (upd ((v_ur S0 107 (upd (S0 107) cl (p_h S0 pl))) 108) cl (Int32.ofInt (cs : Int)))) 109 (upd ((v_ur (v_ur S0 107 (upd (S0 107) cl (p_h S0 pl))) 108 (upd ((v_ur S0 107 (upd (S0 107) cl (p_h S0 pl))) 108) cl (Int32.ofInt (cs : Int)))) 109) cl (Int32.ofInt (cs1 : Int)))) pl1 cs1 sk1 cl b140 nc1 sg1 ov h1 o1 na1) R Q
            refine w_st rfl (fun _ => rfl) ?_
            refine w_st rfl (fun _ => rfl) ?_
            show w_T L xs (d + 7) m_X12_clause 168 [(2, .int (p_h S0 pl)), (0, .ref 100), (1, .int (Int32.ofInt 0))] [.ref 100] (p_S (v_ur (v_ur (v_ur S0 107 (upd (S0 107) cl (p_h S0 pl))) 108 (upd ((v_ur S0 107 (upd (S0 107) cl (p_h S0 pl))) 108) cl (Int32.ofInt (cs : Int)))) 109 (upd ((v_ur (v_ur S0 107 (upd (S0 107) cl (p_h S0 pl))) 108 (upd ((v_ur S0 107 (upd (S0 107) cl (p_h S0 pl))) 108) cl (Int32.ofInt (cs : Int)))) 109) cl (Int32.ofInt (cs1 : Int)))) pl1 cs1 sk1 cl b140 nc1 sg1 ov h1 o1 na1) R Q
            refine w_getr rfl v_tyM rfl ?_
            refine w_st rfl (fun _ => rfl) ?_
            show w_T L xs (d + 7) m_X12_clause 172 [(2, .int (p_h S0 pl)), (0, .ref 100), (1, .int (Int32.ofInt 0))] [.ref 100, .ref 111] (p_S (v_ur (v_ur (v_ur S0 107 (upd (S0 107) cl (p_h S0 pl))) 108 (upd ((v_ur S0 107 (upd (S0 107) cl (p_h S0 pl))) 108) cl (Int32.ofInt (cs : Int)))) 109 (upd ((v_ur (v_ur S0 107 (upd (S0 107) cl (p_h S0 pl))) 108 (upd ((v_ur S0 107 (upd (S0 107) cl (p_h S0 pl))) 108) cl (Int32.ofInt (cs : Int)))) 109) cl (Int32.ofInt (cs1 : Int)))) pl1 cs1 sk1 cl b140 nc1 sg1 ov h1 o1 na1) R Q
            refine w_get rfl v_tyM rfl ?_
            refine w_st rfl (fun _ => rfl) ?_
            show w_T L xs (d + 7) m_X12_clause 176 [(2, .int (p_h S0 pl)), (0, .ref 100), (1, .int (Int32.ofInt 0))] [.ref 100, .int (Int32.ofInt (cl : Int)), .ref 111] (p_S (v_ur (v_ur (v_ur S0 107 (upd (S0 107) cl (p_h S0 pl))) 108 (upd ((v_ur S0 107 (upd (S0 107) cl (p_h S0 pl))) 108) cl (Int32.ofInt (cs : Int)))) 109 (upd ((v_ur (v_ur S0 107 (upd (S0 107) cl (p_h S0 pl))) 108 (upd ((v_ur S0 107 (upd (S0 107) cl (p_h S0 pl))) 108) cl (Int32.ofInt (cs : Int)))) 109) cl (Int32.ofInt (cs1 : Int)))) pl1 cs1 sk1 cl b140 nc1 sg1 ov h1 o1 na1) R Q
            refine w_get rfl v_tyM rfl ?_
            show w_T L xs (d + 7) m_X12_clause 179 [(2, .int (p_h S0 pl)), (0, .ref 100), (1, .int (Int32.ofInt 0))] [.int (Int32.ofInt (cs1 : Int)), .int (Int32.ofInt (cl : Int)), .ref 111] (p_S (v_ur (v_ur (v_ur S0 107 (upd (S0 107) cl (p_h S0 pl))) 108 (upd ((v_ur S0 107 (upd (S0 107) cl (p_h S0 pl))) 108) cl (Int32.ofInt (cs : Int)))) 109 (upd ((v_ur (v_ur S0 107 (upd (S0 107) cl (p_h S0 pl))) 108 (upd ((v_ur S0 107 (upd (S0 107) cl (p_h S0 pl))) 108) cl (Int32.ofInt (cs : Int)))) 109) cl (Int32.ofInt (cs1 : Int)))) pl1 cs1 sk1 cl b140 nc1 sg1 ov h1 o1 na1) R Q
            refine w_iast rfl rfl (by rw [w_nat (by omega)]; omega) (by rw [w_nat (by omega)]; omega) ?_
            refine w_eqS (p_wor (by decide) (w_natn (by omega))) ?_
            refine w_st rfl (fun _ => rfl) ?_
            refine w_st rfl (fun _ => rfl) ?_
            show w_T L xs (d + 7) m_X12_clause 182 [(2, .int (p_h S0 pl)), (0, .ref 100), (1, .int (Int32.ofInt 0))] [.ref 100, .ref 100] (p_S (v_ur (v_ur (v_ur (v_ur S0 107 (upd (S0 107) cl (p_h S0 pl))) 108 (upd ((v_ur S0 107 (upd (S0 107) cl (p_h S0 pl))) 108) cl (Int32.ofInt (cs : Int)))) 109 (upd ((v_ur (v_ur S0 107 (upd (S0 107) cl (p_h S0 pl))) 108 (upd ((v_ur S0 107 (upd (S0 107) cl (p_h S0 pl))) 108) cl (Int32.ofInt (cs : Int)))) 109) cl (Int32.ofInt (cs1 : Int)))) 110 (upd ((v_ur (v_ur (v_ur S0 107 (upd (S0 107) cl (p_h S0 pl))) 108 (upd ((v_ur S0 107 (upd (S0 107) cl (p_h S0 pl))) 108) cl (Int32.ofInt (cs : Int)))) 109 (upd ((v_ur (v_ur S0 107 (upd (S0 107) cl (p_h S0 pl))) 108 (upd ((v_ur S0 107 (upd (S0 107) cl (p_h S0 pl))) 108) cl (Int32.ofInt (cs : Int)))) 109) cl (Int32.ofInt (cs1 : Int)))) 110) cl (Int32.ofInt (cs1 : Int)))) pl1 cs1 sk1 cl b140 nc1 sg1 ov h1 o1 na1) R Q
            refine w_get rfl v_tyM rfl ?_
            refine w_st rfl (fun _ => rfl) ?_
            refine w_st rfl (fun _ => rfl) ?_
            show w_T L xs (d + 7) m_X12_clause 187 [(2, .int (p_h S0 pl)), (0, .ref 100), (1, .int (Int32.ofInt 0))] [.int ((Int32.ofInt (cl : Int)) + (Int32.ofInt 1)), .ref 100] (p_S (v_ur (v_ur (v_ur (v_ur S0 107 (upd (S0 107) cl (p_h S0 pl))) 108 (upd ((v_ur S0 107 (upd (S0 107) cl (p_h S0 pl))) 108) cl (Int32.ofInt (cs : Int)))) 109 (upd ((v_ur (v_ur S0 107 (upd (S0 107) cl (p_h S0 pl))) 108 (upd ((v_ur S0 107 (upd (S0 107) cl (p_h S0 pl))) 108) cl (Int32.ofInt (cs : Int)))) 109) cl (Int32.ofInt (cs1 : Int)))) 110 (upd ((v_ur (v_ur (v_ur S0 107 (upd (S0 107) cl (p_h S0 pl))) 108 (upd ((v_ur S0 107 (upd (S0 107) cl (p_h S0 pl))) 108) cl (Int32.ofInt (cs : Int)))) 109 (upd ((v_ur (v_ur S0 107 (upd (S0 107) cl (p_h S0 pl))) 108 (upd ((v_ur S0 107 (upd (S0 107) cl (p_h S0 pl))) 108) cl (Int32.ofInt (cs : Int)))) 109) cl (Int32.ofInt (cs1 : Int)))) 110) cl (Int32.ofInt (cs1 : Int)))) pl1 cs1 sk1 cl b140 nc1 sg1 ov h1 o1 na1) R Q
            refine w_put rfl v_tyM rfl rfl rfl ?_
            refine w_eqS (p_wcl (w_inc _)) ?_
            show w_T L xs (d + 7) m_X12_clause 190 [(2, .int (p_h S0 pl)), (0, .ref 100), (1, .int (Int32.ofInt 0))] [] (p_S (v_ur (v_ur (v_ur (v_ur S0 107 (upd (S0 107) cl (p_h S0 pl))) 108 (upd ((v_ur S0 107 (upd (S0 107) cl (p_h S0 pl))) 108) cl (Int32.ofInt (cs : Int)))) 109 (upd ((v_ur (v_ur S0 107 (upd (S0 107) cl (p_h S0 pl))) 108 (upd ((v_ur S0 107 (upd (S0 107) cl (p_h S0 pl))) 108) cl (Int32.ofInt (cs : Int)))) 109) cl (Int32.ofInt (cs1 : Int)))) 110 (upd ((v_ur (v_ur (v_ur S0 107 (upd (S0 107) cl (p_h S0 pl))) 108 (upd ((v_ur S0 107 (upd (S0 107) cl (p_h S0 pl))) 108) cl (Int32.ofInt (cs : Int)))) 109 (upd ((v_ur (v_ur S0 107 (upd (S0 107) cl (p_h S0 pl))) 108 (upd ((v_ur S0 107 (upd (S0 107) cl (p_h S0 pl))) 108) cl (Int32.ofInt (cs : Int)))) 109) cl (Int32.ofInt (cs1 : Int)))) 110) cl (Int32.ofInt (cs1 : Int)))) pl1 cs1 sk1 (cl + 1) b140 nc1 sg1 ov h1 o1 na1) R Q
            refine w_ret rfl rfl ?_
            exact Kb _ _ _ _ _ _ _ _ _ _ _ _ (p_F_ur (p_F_ur (p_F_ur (p_F_ur (p_F_rf _) (by omega)) (by omega)) (by omega)) (by omega)) (p_Tw (p_Tw (p_Tw (p_Tw hT (a := 107) rfl) (a := 108) rfl) (a := 109) rfl) (a := 110) rfl) hb140 (by omega) (by omega) (by omega) (by omega)
    · refine w_st rfl (fun _ => rfl) ?_
      refine w_st rfl (fun _ => rfl) ?_
      refine w_st rfl (fun _ => rfl) ?_
      show w_T L xs (d + 7) m_X12_clause 58 [(2, .int (p_h S0 pl)), (0, .ref 100), (1, .int (Int32.ofInt 0))] [.ref 100, .int (Int32.ofInt 4), .ref 100] (p_S S0 pl cs sk cl (Int32.ofInt 0) nc sg ov bh op na) R Q
      refine w_get rfl v_tyM rfl ?_
      show w_T L xs (d + 7) m_X12_clause 61 [(2, .int (p_h S0 pl)), (0, .ref 100), (1, .int (Int32.ofInt 0))] [.int (Int32.ofInt (pl : Int)), .int (Int32.ofInt 4), .ref 100] (p_S S0 pl cs sk cl (Int32.ofInt 0) nc sg ov bh op na) R Q
      refine w_cv rfl (by decide) mt_X12_wrongs v_tyM rfl rfl rfl (Nat.le_of_ble_eq_true rfl) (Nat.le_of_ble_eq_true rfl) (Nat.le_of_ble_eq_true rfl) ?_
      show w_T L xs _ m_X12_wrongs 0 (lv_args 0 [.ref 100, .int (Int32.ofInt 4), .int (Int32.ofInt (pl : Int))]) [] (p_S S0 pl cs sk cl (Int32.ofInt 0) nc sg ov bh op na) R _
      refine h_wr (by decide) (by decide) (by rw [w_nat (by omega)]; omega) (by rw [w_nat (by omega)]; omega) (fun b61 hb61 => ?_)
      refine w_st rfl (fun _ => rfl) ?_
      show w_T L xs (d + 7) m_X12_clause 65 [(2, .int (p_h S0 pl)), (0, .ref 100), (1, .int (Int32.ofInt 0))] [.ref 100] (p_S S0 pl cs sk cl b61 nc sg ov bh op na) R Q
      refine w_cv rfl (by decide) mt_X12_isGood v_tyM rfl rfl rfl (Nat.le_of_ble_eq_true rfl) (Nat.le_of_ble_eq_true rfl) (Nat.le_of_ble_eq_true rfl) ?_
      show w_T L xs _ m_X12_isGood 0 (lv_args 0 [.ref 100]) [] (p_S S0 pl cs sk cl b61 nc sg ov bh op na) R _
      refine h_isGF hb61 ?_
      show w_T L xs (d + 7) m_X12_clause 68 [(2, .int (p_h S0 pl)), (0, .ref 100), (1, .int (Int32.ofInt 0))] [.int (Int32.ofInt 0)] (p_S S0 pl cs sk cl b61 nc sg ov bh op na) R Q
      refine w_st rfl (fun _ => rfl) ?_
      show w_T L xs (d + 7) m_X12_clause 71 [(2, .int (p_h S0 pl)), (0, .ref 100), (1, .int (Int32.ofInt 0))] [] (p_S S0 pl cs sk cl b61 nc sg ov bh op na) R Q
      refine w_ret rfl rfl ?_
      exact Kb _ _ _ _ _ _ _ _ _ _ _ _ (p_F_rf _) hT hb61 (by omega) (by omega) (by omega) (by omega)
  · show w_T L xs (d + 7) m_X12_clause 22 [(2, .int (p_h S0 pl)), (0, .ref 100), (1, .int (Int32.ofInt 0))] [.int (Int32.ofInt 0)] (p_S S0 pl cs sk cl (Int32.ofInt 0) nc sg ov bh op na) R Q
    refine w_st rfl (fun _ => rfl) ?_
    refine w_st rfl (fun _ => rfl) ?_
    refine w_st rfl (fun _ => rfl) ?_
    refine w_st rfl (fun _ => rfl) ?_
    show w_T L xs (d + 7) m_X12_clause 28 [(2, .int (p_h S0 pl)), (0, .ref 100), (1, .int (Int32.ofInt 0))] [.ref 100, .int (Int32.ofInt 1), .ref 100] (p_S S0 pl cs sk cl (Int32.ofInt 0) nc sg ov bh op na) R Q
    refine w_get rfl v_tyM rfl ?_
    show w_T L xs (d + 7) m_X12_clause 31 [(2, .int (p_h S0 pl)), (0, .ref 100), (1, .int (Int32.ofInt 0))] [.int (Int32.ofInt (pl : Int)), .int (Int32.ofInt 1), .ref 100] (p_S S0 pl cs sk cl (Int32.ofInt 0) nc sg ov bh op na) R Q
    refine w_cv rfl (by decide) mt_X12_wrongs v_tyM rfl rfl rfl (Nat.le_of_ble_eq_true rfl) (Nat.le_of_ble_eq_true rfl) (Nat.le_of_ble_eq_true rfl) ?_
    show w_T L xs _ m_X12_wrongs 0 (lv_args 0 [.ref 100, .int (Int32.ofInt 1), .int (Int32.ofInt (pl : Int))]) [] (p_S S0 pl cs sk cl (Int32.ofInt 0) nc sg ov bh op na) R _
    refine h_wr (by decide) (by decide) (by rw [w_nat (by omega)]; omega) (by rw [w_nat (by omega)]; omega) (fun b31 hb31 => ?_)
    refine w_st rfl (fun _ => rfl) ?_
    refine w_st rfl (fun _ => rfl) ?_
    show w_T L xs (d + 7) m_X12_clause 65 [(2, .int (p_h S0 pl)), (0, .ref 100), (1, .int (Int32.ofInt 0))] [.ref 100] (p_S S0 pl cs sk cl b31 nc sg ov bh op na) R Q
    refine w_cv rfl (by decide) mt_X12_isGood v_tyM rfl rfl rfl (Nat.le_of_ble_eq_true rfl) (Nat.le_of_ble_eq_true rfl) (Nat.le_of_ble_eq_true rfl) ?_
    show w_T L xs _ m_X12_isGood 0 (lv_args 0 [.ref 100]) [] (p_S S0 pl cs sk cl b31 nc sg ov bh op na) R _
    refine h_isGF hb31 ?_
    show w_T L xs (d + 7) m_X12_clause 68 [(2, .int (p_h S0 pl)), (0, .ref 100), (1, .int (Int32.ofInt 0))] [.int (Int32.ofInt 0)] (p_S S0 pl cs sk cl b31 nc sg ov bh op na) R Q
    refine w_st rfl (fun _ => rfl) ?_
    show w_T L xs (d + 7) m_X12_clause 71 [(2, .int (p_h S0 pl)), (0, .ref 100), (1, .int (Int32.ofInt 0))] [] (p_S S0 pl cs sk cl b31 nc sg ov bh op na) R Q
    refine w_ret rfl rfl ?_
    exact Kb _ _ _ _ _ _ _ _ _ _ _ _ (p_F_rf _) hT hb31 (by omega) (by omega) (by omega) (by omega)
theorem h_clR (he : (S0 99 4).toInt ≤ 240) (hT : v_Tb v_ty S0 R) (hZ : p_Z S0 cl cs nc) (hb : cs ≤ pl) (hp : pl ≤ 240) (hsk : sk ≤ 240) (hcl : cl ≤ 12) (Kg : ∀ (S1 : v_Sf) (pl' cs' sk' : Nat) (nc' sg' na' : Nat → Int32) (o : Int32) (v' h' : Bool), p_F S0 S1 → v_Tb v_ty S1 R → p_Z S1 (cl + 1) cs' nc' → pl ≤ pl' → cs' ≤ pl' → pl' ≤ 240 → sk' ≤ 240 → cl < 12 → Q none (p_S S1 (pl') (cs') (sk') (cl + 1) (Int32.ofInt 0) (nc') (sg') (v') (h') o (na')) R) (Kb : ∀ (S1 : v_Sf) (pl' cs' sk' cl' : Nat) (b' : Int32) (nc' sg' na' : Nat → Int32) (o : Int32) (v' h' : Bool), p_F S0 S1 → v_Tb v_ty S1 R → b'.toInt < 0 → cs' ≤ 240 → pl' ≤ 240 → sk' ≤ 240 → cl' ≤ 16 → Q none (p_S S1 (pl') (cs') (sk') (cl') (b') (nc') (sg') (v') (h') o (na')) R) : w_T L xs (d + 7) m_X12_clause 0 (lv_args 0 [.ref 100, .int (Int32.ofInt 1)]) [] (p_S S0 pl cs sk cl (Int32.ofInt 0) nc sg ov bh op na) R Q := by
  refine w_st rfl (fun _ => rfl) ?_
  show w_T L xs (d + 7) m_X12_clause 1 [(0, .ref 100), (1, .int (Int32.ofInt 1))] [.ref 100] (p_S S0 pl cs sk cl (Int32.ofInt 0) nc sg ov bh op na) R Q
  refine w_cv rfl (by decide) mt_X12_here v_tyM rfl rfl rfl (Nat.le_of_ble_eq_true rfl) (Nat.le_of_ble_eq_true rfl) (Nat.le_of_ble_eq_true rfl) ?_
  show w_T L xs _ m_X12_here 0 (lv_args 0 [.ref 100]) [] (p_S S0 pl cs sk cl (Int32.ofInt 0) nc sg ov bh op na) R _
  refine h_here (by omega) ?_
  refine w_st rfl (fun _ => rfl) ?_
  refine w_st rfl (fun _ => rfl) ?_
  show w_T L xs (d + 7) m_X12_clause 6 [(2, .int (p_h S0 pl)), (0, .ref 100), (1, .int (Int32.ofInt 1))] [.int (Int32.ofInt 1)] (p_S S0 pl cs sk cl (Int32.ofInt 0) nc sg ov bh op na) R Q
  refine w_st rfl (fun _ => rfl) ?_
  refine w_st rfl (fun _ => rfl) ?_
  refine w_st rfl (fun _ => rfl) ?_
  show w_T L xs (d + 7) m_X12_clause 12 [(2, .int (p_h S0 pl)), (0, .ref 100), (1, .int (Int32.ofInt 1))] [.int (Int32.ofInt 40), .int (p_h S0 pl)] (p_S S0 pl cs sk cl (Int32.ofInt 0) nc sg ov bh op na) R Q
  refine w_br (P := (p_h S0 pl) = (Int32.ofInt 40)) rfl (fun _ => rfl) (fun h12 => ?_) (fun h12 => ?_)
  · have hlt := p_h_lt (S0 := S0) (pl := pl) (by rw [h12]; decide)
    refine w_st rfl (fun _ => rfl) ?_
    show w_T L xs (d + 7) m_X12_clause 38 [(2, .int (p_h S0 pl)), (0, .ref 100), (1, .int (Int32.ofInt 1))] [.ref 100] (p_S S0 pl cs sk cl (Int32.ofInt 0) nc sg ov bh op na) R Q
    refine w_get rfl v_tyM rfl ?_
    refine w_st rfl (fun _ => rfl) ?_
    show w_T L xs (d + 7) m_X12_clause 42 [(2, .int (p_h S0 pl)), (0, .ref 100), (1, .int (Int32.ofInt 1))] [.int (Int32.ofInt 1), .int (Int32.ofInt (cl : Int))] (p_S S0 pl cs sk cl (Int32.ofInt 0) nc sg ov bh op na) R Q
    refine w_st rfl (fun _ => rfl) ?_
    refine w_st rfl (fun _ => rfl) ?_
    refine w_st rfl (fun _ => rfl) ?_
    show w_T L xs (d + 7) m_X12_clause 52 [(2, .int (p_h S0 pl)), (0, .ref 100), (1, .int (Int32.ofInt 1))] [.int (Int32.ofInt 12), .int (Int32.ofInt (cl : Int))] (p_S S0 pl cs sk cl (Int32.ofInt 0) nc sg ov bh op na) R Q
    refine w_br (P := ¬ (Int32.ofInt (cl : Int)) = (Int32.ofInt 12)) rfl (fun _ => rfl) (fun h52 => ?_) (fun h52 => ?_)
    · have hcl3 : cl < 12 := by
        refine Nat.lt_of_le_of_ne hcl (fun e => h52 ?_)
        rw [e]
        rfl
      refine w_st rfl (fun _ => rfl) ?_
      show w_T L xs (d + 7) m_X12_clause 65 [(2, .int (p_h S0 pl)), (0, .ref 100), (1, .int (Int32.ofInt 1))] [.ref 100] (p_S S0 pl cs sk cl (Int32.ofInt 0) nc sg ov bh op na) R Q
      refine w_cv rfl (by decide) mt_X12_isGood v_tyM rfl rfl rfl (Nat.le_of_ble_eq_true rfl) (Nat.le_of_ble_eq_true rfl) (Nat.le_of_ble_eq_true rfl) ?_
      show w_T L xs _ m_X12_isGood 0 (lv_args 0 [.ref 100]) [] (p_S S0 pl cs sk cl (Int32.ofInt 0) nc sg ov bh op na) R _
      refine h_isGT ?_
      show w_T L xs (d + 7) m_X12_clause 68 [(2, .int (p_h S0 pl)), (0, .ref 100), (1, .int (Int32.ofInt 1))] [.int (Int32.ofInt 1)] (p_S S0 pl cs sk cl (Int32.ofInt 0) nc sg ov bh op na) R Q
      refine w_st rfl (fun _ => rfl) ?_
      refine w_st rfl (fun _ => rfl) ?_
      show w_T L xs (d + 7) m_X12_clause 73 [(2, .int (p_h S0 pl)), (0, .ref 100), (1, .int (Int32.ofInt 1))] [.ref 100] (p_S S0 pl cs sk cl (Int32.ofInt 0) nc sg ov bh op na) R Q
      refine w_getr rfl v_tyM rfl ?_
      refine w_st rfl (fun _ => rfl) ?_
      show w_T L xs (d + 7) m_X12_clause 77 [(2, .int (p_h S0 pl)), (0, .ref 100), (1, .int (Int32.ofInt 1))] [.ref 100, .ref 108] (p_S S0 pl cs sk cl (Int32.ofInt 0) nc sg ov bh op na) R Q
      refine w_get rfl v_tyM rfl ?_
      refine w_st rfl (fun _ => rfl) ?_
      show w_T L xs (d + 7) m_X12_clause 81 [(2, .int (p_h S0 pl)), (0, .ref 100), (1, .int (Int32.ofInt 1))] [.int (p_h S0 pl), .int (Int32.ofInt (cl : Int)), .ref 108] (p_S S0 pl cs sk cl (Int32.ofInt 0) nc sg ov bh op na) R Q
      refine w_iast rfl rfl (by rw [w_nat (by omega)]; omega) (by rw [w_nat (by omega)]; omega) ?_
      refine w_eqS (p_wor (by decide) (w_natn (by omega))) ?_
      refine w_st rfl (fun _ => rfl) ?_
      show w_T L xs (d + 7) m_X12_clause 83 [(2, .int (p_h S0 pl)), (0, .ref 100), (1, .int (Int32.ofInt 1))] [.ref 100] (p_S (v_ur S0 107 (upd (S0 107) cl (p_h S0 pl))) pl cs sk cl (Int32.ofInt 0) nc sg ov bh op na) R Q
      refine w_getr rfl v_tyM rfl ?_
      refine w_st rfl (fun _ => rfl) ?_
      show w_T L xs (d + 7) m_X12_clause 87 [(2, .int (p_h S0 pl)), (0, .ref 100), (1, .int (Int32.ofInt 1))] [.ref 100, .ref 109] (p_S (v_ur S0 107 (upd (S0 107) cl (p_h S0 pl))) pl cs sk cl (Int32.ofInt 0) nc sg ov bh op na) R Q
      refine w_get rfl v_tyM rfl ?_
      refine w_st rfl (fun _ => rfl) ?_
      show w_T L xs (d + 7) m_X12_clause 91 [(2, .int (p_h S0 pl)), (0, .ref 100), (1, .int (Int32.ofInt 1))] [.ref 100, .int (Int32.ofInt (cl : Int)), .ref 109] (p_S (v_ur S0 107 (upd (S0 107) cl (p_h S0 pl))) pl cs sk cl (Int32.ofInt 0) nc sg ov bh op na) R Q
      refine w_get rfl v_tyM rfl ?_
      show w_T L xs (d + 7) m_X12_clause 94 [(2, .int (p_h S0 pl)), (0, .ref 100), (1, .int (Int32.ofInt 1))] [.int (Int32.ofInt (cs : Int)), .int (Int32.ofInt (cl : Int)), .ref 109] (p_S (v_ur S0 107 (upd (S0 107) cl (p_h S0 pl))) pl cs sk cl (Int32.ofInt 0) nc sg ov bh op na) R Q
      refine w_iast rfl rfl (by rw [w_nat (by omega)]; omega) (by rw [w_nat (by omega)]; omega) ?_
      refine w_eqS (p_wor (by decide) (w_natn (by omega))) ?_
      refine w_st rfl (fun _ => rfl) ?_
      refine w_st rfl (fun _ => rfl) ?_
      show w_T L xs (d + 7) m_X12_clause 97 [(2, .int (p_h S0 pl)), (0, .ref 100), (1, .int (Int32.ofInt 1))] [.ref 100, .ref 100] (p_S (v_ur (v_ur S0 107 (upd (S0 107) cl (p_h S0 pl))) 108 (upd ((v_ur S0 107 (upd (S0 107) cl (p_h S0 pl))) 108) cl (Int32.ofInt (cs : Int)))) pl cs sk cl (Int32.ofInt 0) nc sg ov bh op na) R Q
      refine w_get rfl v_tyM rfl ?_
      refine w_st rfl (fun _ => rfl) ?_
      show w_T L xs (d + 7) m_X12_clause 101 [(2, .int (p_h S0 pl)), (0, .ref 100), (1, .int (Int32.ofInt 1))] [.int (Int32.ofInt 1), .int (Int32.ofInt (pl : Int)), .ref 100] (p_S (v_ur (v_ur S0 107 (upd (S0 107) cl (p_h S0 pl))) 108 (upd ((v_ur S0 107 (upd (S0 107) cl (p_h S0 pl))) 108) cl (Int32.ofInt (cs : Int)))) pl cs sk cl (Int32.ofInt 0) nc sg ov bh op na) R Q
      refine w_st rfl (fun _ => rfl) ?_
      refine w_st rfl (fun _ => rfl) ?_
      refine w_st rfl (fun _ => rfl) ?_
      refine w_st rfl (fun _ => rfl) ?_
      show w_T L xs (d + 7) m_X12_clause 110 [(2, .int (p_h S0 pl)), (0, .ref 100), (1, .int (Int32.ofInt 1))] [.int ((Int32.ofInt (pl : Int)) + (Int32.ofInt 0)), .ref 100] (p_S (v_ur (v_ur S0 107 (upd (S0 107) cl (p_h S0 pl))) 108 (upd ((v_ur S0 107 (upd (S0 107) cl (p_h S0 pl))) 108) cl (Int32.ofInt (cs : Int)))) pl cs sk cl (Int32.ofInt 0) nc sg ov bh op na) R Q
      refine w_put rfl v_tyM rfl rfl rfl ?_
      refine w_eqS (p_wpl (w_add0 _)) ?_
      refine w_st rfl (fun _ => rfl) ?_
      refine w_st rfl (fun _ => rfl) ?_
      show w_T L xs (d + 7) m_X12_clause 115 [(2, .int (p_h S0 pl)), (0, .ref 100), (1, .int (Int32.ofInt 1))] [.int (Int32.ofInt 0), .ref 100] (p_S (v_ur (v_ur S0 107 (upd (S0 107) cl (p_h S0 pl))) 108 (upd ((v_ur S0 107 (upd (S0 107) cl (p_h S0 pl))) 108) cl (Int32.ofInt (cs : Int)))) pl cs sk cl (Int32.ofInt 0) nc sg ov bh op na) R Q
      refine w_put rfl v_tyM rfl rfl rfl ?_
      refine w_eqS (p_wsk (k := 0) rfl) ?_
      refine w_st rfl (fun _ => rfl) ?_
      refine w_st rfl (fun _ => rfl) ?_
      show w_T L xs (d + 7) m_X12_clause 120 [(2, .int (p_h S0 pl)), (0, .ref 100), (1, .int (Int32.ofInt 1))] [.int (Int32.ofInt 0), .ref 100] (p_S (v_ur (v_ur S0 107 (upd (S0 107) cl (p_h S0 pl))) 108 (upd ((v_ur S0 107 (upd (S0 107) cl (p_h S0 pl))) 108) cl (Int32.ofInt (cs : Int)))) pl cs 0 cl (Int32.ofInt 0) nc sg ov bh op na) R Q
      refine w_put rfl v_tyM rfl rfl rfl ?_
      refine w_eqS p_wop ?_
      refine w_st rfl (fun _ => rfl) ?_
      show w_T L xs (d + 7) m_X12_clause 124 [(2, .int (p_h S0 pl)), (0, .ref 100), (1, .int (Int32.ofInt 1))] [.int (Int32.ofInt 1)] (p_S (v_ur (v_ur S0 107 (upd (S0 107) cl (p_h S0 pl))) 108 (upd ((v_ur S0 107 (upd (S0 107) cl (p_h S0 pl))) 108) cl (Int32.ofInt (cs : Int)))) pl cs 0 cl (Int32.ofInt 0) nc sg ov bh (Int32.ofInt 0) na) R Q
      refine w_st rfl (fun _ => rfl) ?_
      refine w_st rfl (fun _ => rfl) ?_
      show w_T L xs (d + 7) m_X12_clause 144 [(2, .int (p_h S0 pl)), (0, .ref 100), (1, .int (Int32.ofInt 1))] [.ref 100] (p_S (v_ur (v_ur S0 107 (upd (S0 107) cl (p_h S0 pl))) 108 (upd ((v_ur S0 107 (upd (S0 107) cl (p_h S0 pl))) 108) cl (Int32.ofInt (cs : Int)))) pl cs 0 cl (Int32.ofInt 0) nc sg ov bh (Int32.ofInt 0) na) R Q
      refine w_getr rfl v_tyM rfl ?_
      refine w_st rfl (fun _ => rfl) ?_
      show w_T L xs (d + 7) m_X12_clause 148 [(2, .int (p_h S0 pl)), (0, .ref 100), (1, .int (Int32.ofInt 1))] [.ref 100, .ref 110] (p_S (v_ur (v_ur S0 107 (upd (S0 107) cl (p_h S0 pl))) 108 (upd ((v_ur S0 107 (upd (S0 107) cl (p_h S0 pl))) 108) cl (Int32.ofInt (cs : Int)))) pl cs 0 cl (Int32.ofInt 0) nc sg ov bh (Int32.ofInt 0) na) R Q
      refine w_get rfl v_tyM rfl ?_
      refine w_st rfl (fun _ => rfl) ?_
      show w_T L xs (d + 7) m_X12_clause 152 [(2, .int (p_h S0 pl)), (0, .ref 100), (1, .int (Int32.ofInt 1))] [.ref 100, .int (Int32.ofInt (cl : Int)), .ref 110] (p_S (v_ur (v_ur S0 107 (upd (S0 107) cl (p_h S0 pl))) 108 (upd ((v_ur S0 107 (upd (S0 107) cl (p_h S0 pl))) 108) cl (Int32.ofInt (cs : Int)))) pl cs 0 cl (Int32.ofInt 0) nc sg ov bh (Int32.ofInt 0) na) R Q
      refine w_get rfl v_tyM rfl ?_
      show w_T L xs (d + 7) m_X12_clause 155 [(2, .int (p_h S0 pl)), (0, .ref 100), (1, .int (Int32.ofInt 1))] [.int (Int32.ofInt (cs : Int)), .int (Int32.ofInt (cl : Int)), .ref 110] (p_S (v_ur (v_ur S0 107 (upd (S0 107) cl (p_h S0 pl))) 108 (upd ((v_ur S0 107 (upd (S0 107) cl (p_h S0 pl))) 108) cl (Int32.ofInt (cs : Int)))) pl cs 0 cl (Int32.ofInt 0) nc sg ov bh (Int32.ofInt 0) na) R Q
      refine w_iast rfl rfl (by rw [w_nat (by omega)]; omega) (by rw [w_nat (by omega)]; omega) ?_
      refine w_eqS (p_wor (by decide) (w_natn (by omega))) ?_
      refine w_st rfl (fun _ => rfl) ?_
      show w_T L xs (d + 7) m_X12_clause 157 [(2, .int (p_h S0 pl)), (0, .ref 100), (1, .int (Int32.ofInt 1))] [.ref 100] (p_S (v_ur (v_ur (v_ur S0 107 (upd (S0 107) cl (p_h S0 pl))) 108 (upd ((v_ur S0 107 (upd (S0 107) cl (p_h S0 pl))) 108) cl (Int32.ofInt (cs : Int)))) 109 (upd ((v_ur (v_ur S0 107 (upd (S0 107) cl (p_h S0 pl))) 108 (upd ((v_ur S0 107 (upd (S0 107) cl (p_h S0 pl))) 108) cl (Int32.ofInt (cs : Int)))) 109) cl (Int32.ofInt (cs : Int)))) pl cs 0 cl (Int32.ofInt 0) nc sg ov bh (Int32.ofInt 0) na) R Q
      refine w_cv rfl (by decide) mt_X12_isGood v_tyM rfl rfl rfl (Nat.le_of_ble_eq_true rfl) (Nat.le_of_ble_eq_true rfl) (Nat.le_of_ble_eq_true rfl) ?_
      show w_T L xs _ m_X12_isGood 0 (lv_args 0 [.ref 100]) [] (p_S (v_ur (v_ur (v_ur S0 107 (upd (S0 107) cl (p_h S0 pl))) 108 (upd ((v_ur S0 107 (upd (S0 107) cl (p_h S0 pl))) 108) cl (Int32.ofInt (cs : Int)))) 109 (upd ((v_ur (v_ur S0 107 (upd (S0 107) cl (p_h S0 pl))) 108 (upd ((v_ur S0 107 (upd (S0 107) cl (p_h S0 pl))) 108) cl (Int32.ofInt (cs : Int)))) 109) cl (Int32.ofInt (cs : Int)))) pl cs 0 cl (Int32.ofInt 0) nc sg ov bh (Int32.ofInt 0) na) R _
      refine h_isGT ?_
      show w_T L xs (d + 7) m_X12_clause 160 [(2, .int (p_h S0 pl)), (0, .ref 100), (1, .int (Int32.ofInt 1))] [.int (Int32.ofInt 1)] (p_S (v_ur (v_ur (v_ur S0 107 (upd (S0 107) cl (p_h S0 pl))) 108 (upd ((v_ur S0 107 (upd (S0 107) cl (p_h S0 pl))) 108) cl (Int32.ofInt (cs : Int)))) 109 (upd ((v_ur (v_ur S0 107 (upd (S0 107) cl (p_h S0 pl))) 108 (upd ((v_ur S0 107 (upd (S0 107) cl (p_h S0 pl))) 108) cl (Int32.ofInt (cs : Int)))) 109) cl (Int32.ofInt (cs : Int)))) pl cs 0 cl (Int32.ofInt 0) nc sg ov bh (Int32.ofInt 0) na) R Q
      refine w_st rfl (fun _ => rfl) ?_
      refine w_st rfl (fun _ => rfl) ?_
      show w_T L xs (d + 7) m_X12_clause 164 [(2, .int (p_h S0 pl)), (0, .ref 100), (1, .int (Int32.ofInt 1))] [.ref 100] (p_S (v_ur (v_ur (v_ur S0 107 (upd (S0 107) cl (p_h S0 pl))) 108 (upd ((v_ur S0 107 (upd (S0 107) cl (p_h S0 pl))) 108) cl (Int32.ofInt (cs : Int)))) 109 (upd ((v_ur (v_ur S0 107 (upd (S0 107) cl (p_h S0 pl))) 108 (upd ((v_ur S0 107 (upd (S0 107) cl (p_h S0 pl))) 108) cl (Int32.ofInt (cs : Int)))) 109) cl (Int32.ofInt (cs : Int)))) pl cs 0 cl (Int32.ofInt 0) nc sg ov bh (Int32.ofInt 0) na) R Q
      refine w_cv rfl (by decide) mt_X12_condition v_tyM rfl rfl rfl (Nat.le_of_ble_eq_true rfl) (Nat.le_of_ble_eq_true rfl) (Nat.le_of_ble_eq_true rfl) ?_
      show w_T L xs _ m_X12_condition 0 (lv_args 0 [.ref 100]) [] (p_S (v_ur (v_ur (v_ur S0 107 (upd (S0 107) cl (p_h S0 pl))) 108 (upd ((v_ur S0 107 (upd (S0 107) cl (p_h S0 pl))) 108) cl (Int32.ofInt (cs : Int)))) 109 (upd ((v_ur (v_ur S0 107 (upd (S0 107) cl (p_h S0 pl))) 108 (upd ((v_ur S0 107 (upd (S0 107) cl (p_h S0 pl))) 108) cl (Int32.ofInt (cs : Int)))) 109) cl (Int32.ofInt (cs : Int)))) pl cs 0 cl (Int32.ofInt 0) nc sg ov bh (Int32.ofInt 0) na) R _
      refine h_cond (S0 := (v_ur (v_ur (v_ur S0 107 (upd (S0 107) cl (p_h S0 pl))) 108 (upd ((v_ur S0 107 (upd (S0 107) cl (p_h S0 pl))) 108) cl (Int32.ofInt (cs : Int)))) 109 (upd ((v_ur (v_ur S0 107 (upd (S0 107) cl (p_h S0 pl))) 108 (upd ((v_ur S0 107 (upd (S0 107) cl (p_h S0 pl))) 108) cl (Int32.ofInt (cs : Int)))) 109) cl (Int32.ofInt (cs : Int))))) he (by omega) (by omega) (fun pl2 cs2 sk2 nc2 sg2 na2 o2 h2 l2 i2 j2 k2 => ?_) (fun pl2 cs2 sk2 b164 nc2 sg2 na2 o2 h2 hb164 j2 k2 => ?_)
      · obtain ⟨r1, r2, r3⟩ := p_I_of i2
        show w_T L xs (d + 7) m_X12_clause 167 [(2, .int (p_h S0 pl)), (0, .ref 100), (1, .int (Int32.ofInt 1))] [] (p_S (v_ur (v_ur (v_ur S0 107 (upd (S0 107) cl (p_h S0 pl))) 108 (upd ((v_ur S0 107 (upd (S0 107) cl (p_h S0 pl))) 108) cl (Int32.ofInt (cs : Int)))) 109 (upd ((v_ur (v_ur S0 107 (upd (S0 107) cl (p_h S0 pl))) 108 (upd ((v_ur S0 107 (upd (S0 107) cl (p_h S0 pl))) 108) cl (Int32.ofInt (cs : Int)))) 109) cl (Int32.ofInt (cs : Int)))) pl2 cs2 sk2 cl (Int32.ofInt 0) nc2 sg2 true h2 o2 na2) R Q
        refine w_st rfl (fun _ => rfl) ?_
        show w_T L xs (d + 7) m_X12_clause 168 [(2, .int (p_h S0 pl)), (0, .ref 100), (1, .int (Int32.ofInt 1))] [.ref 100] (p_S (v_ur (v_ur (v_ur S0 107 (upd (S0 107) cl (p_h S0 pl))) 108 (upd ((v_ur S0 107 (upd (S0 107) cl (p_h S0 pl))) 108) cl (Int32.ofInt (cs : Int)))) 109 (upd ((v_ur (v_ur S0 107 (upd (S0 107) cl (p_h S0 pl))) 108 (upd ((v_ur S0 107 (upd (S0 107) cl (p_h S0 pl))) 108) cl (Int32.ofInt (cs : Int)))) 109) cl (Int32.ofInt (cs : Int)))) pl2 cs2 sk2 cl (Int32.ofInt 0) nc2 sg2 true h2 o2 na2) R Q
        refine w_getr rfl v_tyM rfl ?_
        refine w_st rfl (fun _ => rfl) ?_
        show w_T L xs (d + 7) m_X12_clause 172 [(2, .int (p_h S0 pl)), (0, .ref 100), (1, .int (Int32.ofInt 1))] [.ref 100, .ref 111] (p_S (v_ur (v_ur (v_ur S0 107 (upd (S0 107) cl (p_h S0 pl))) 108 (upd ((v_ur S0 107 (upd (S0 107) cl (p_h S0 pl))) 108) cl (Int32.ofInt (cs : Int)))) 109 (upd ((v_ur (v_ur S0 107 (upd (S0 107) cl (p_h S0 pl))) 108 (upd ((v_ur S0 107 (upd (S0 107) cl (p_h S0 pl))) 108) cl (Int32.ofInt (cs : Int)))) 109) cl (Int32.ofInt (cs : Int)))) pl2 cs2 sk2 cl (Int32.ofInt 0) nc2 sg2 true h2 o2 na2) R Q
        refine w_get rfl v_tyM rfl ?_
        refine w_st rfl (fun _ => rfl) ?_
        show w_T L xs (d + 7) m_X12_clause 176 [(2, .int (p_h S0 pl)), (0, .ref 100), (1, .int (Int32.ofInt 1))] [.ref 100, .int (Int32.ofInt (cl : Int)), .ref 111] (p_S (v_ur (v_ur (v_ur S0 107 (upd (S0 107) cl (p_h S0 pl))) 108 (upd ((v_ur S0 107 (upd (S0 107) cl (p_h S0 pl))) 108) cl (Int32.ofInt (cs : Int)))) 109 (upd ((v_ur (v_ur S0 107 (upd (S0 107) cl (p_h S0 pl))) 108 (upd ((v_ur S0 107 (upd (S0 107) cl (p_h S0 pl))) 108) cl (Int32.ofInt (cs : Int)))) 109) cl (Int32.ofInt (cs : Int)))) pl2 cs2 sk2 cl (Int32.ofInt 0) nc2 sg2 true h2 o2 na2) R Q
        refine w_get rfl v_tyM rfl ?_
        show w_T L xs (d + 7) m_X12_clause 179 [(2, .int (p_h S0 pl)), (0, .ref 100), (1, .int (Int32.ofInt 1))] [.int (Int32.ofInt (cs2 : Int)), .int (Int32.ofInt (cl : Int)), .ref 111] (p_S (v_ur (v_ur (v_ur S0 107 (upd (S0 107) cl (p_h S0 pl))) 108 (upd ((v_ur S0 107 (upd (S0 107) cl (p_h S0 pl))) 108) cl (Int32.ofInt (cs : Int)))) 109 (upd ((v_ur (v_ur S0 107 (upd (S0 107) cl (p_h S0 pl))) 108 (upd ((v_ur S0 107 (upd (S0 107) cl (p_h S0 pl))) 108) cl (Int32.ofInt (cs : Int)))) 109) cl (Int32.ofInt (cs : Int)))) pl2 cs2 sk2 cl (Int32.ofInt 0) nc2 sg2 true h2 o2 na2) R Q
        refine w_iast rfl rfl (by rw [w_nat (by omega)]; omega) (by rw [w_nat (by omega)]; omega) ?_
        refine w_eqS (p_wor (by decide) (w_natn (by omega))) ?_
        refine w_st rfl (fun _ => rfl) ?_
        refine w_st rfl (fun _ => rfl) ?_
        show w_T L xs (d + 7) m_X12_clause 182 [(2, .int (p_h S0 pl)), (0, .ref 100), (1, .int (Int32.ofInt 1))] [.ref 100, .ref 100] (p_S (v_ur (v_ur (v_ur (v_ur S0 107 (upd (S0 107) cl (p_h S0 pl))) 108 (upd ((v_ur S0 107 (upd (S0 107) cl (p_h S0 pl))) 108) cl (Int32.ofInt (cs : Int)))) 109 (upd ((v_ur (v_ur S0 107 (upd (S0 107) cl (p_h S0 pl))) 108 (upd ((v_ur S0 107 (upd (S0 107) cl (p_h S0 pl))) 108) cl (Int32.ofInt (cs : Int)))) 109) cl (Int32.ofInt (cs : Int)))) 110 (upd ((v_ur (v_ur (v_ur S0 107 (upd (S0 107) cl (p_h S0 pl))) 108 (upd ((v_ur S0 107 (upd (S0 107) cl (p_h S0 pl))) 108) cl (Int32.ofInt (cs : Int)))) 109 (upd ((v_ur (v_ur S0 107 (upd (S0 107) cl (p_h S0 pl))) 108 (upd ((v_ur S0 107 (upd (S0 107) cl (p_h S0 pl))) 108) cl (Int32.ofInt (cs : Int)))) 109) cl (Int32.ofInt (cs : Int)))) 110) cl (Int32.ofInt (cs2 : Int)))) pl2 cs2 sk2 cl (Int32.ofInt 0) nc2 sg2 true h2 o2 na2) R Q
        refine w_get rfl v_tyM rfl ?_
        refine w_st rfl (fun _ => rfl) ?_
        refine w_st rfl (fun _ => rfl) ?_
        show w_T L xs (d + 7) m_X12_clause 187 [(2, .int (p_h S0 pl)), (0, .ref 100), (1, .int (Int32.ofInt 1))] [.int ((Int32.ofInt (cl : Int)) + (Int32.ofInt 1)), .ref 100] (p_S (v_ur (v_ur (v_ur (v_ur S0 107 (upd (S0 107) cl (p_h S0 pl))) 108 (upd ((v_ur S0 107 (upd (S0 107) cl (p_h S0 pl))) 108) cl (Int32.ofInt (cs : Int)))) 109 (upd ((v_ur (v_ur S0 107 (upd (S0 107) cl (p_h S0 pl))) 108 (upd ((v_ur S0 107 (upd (S0 107) cl (p_h S0 pl))) 108) cl (Int32.ofInt (cs : Int)))) 109) cl (Int32.ofInt (cs : Int)))) 110 (upd ((v_ur (v_ur (v_ur S0 107 (upd (S0 107) cl (p_h S0 pl))) 108 (upd ((v_ur S0 107 (upd (S0 107) cl (p_h S0 pl))) 108) cl (Int32.ofInt (cs : Int)))) 109 (upd ((v_ur (v_ur S0 107 (upd (S0 107) cl (p_h S0 pl))) 108 (upd ((v_ur S0 107 (upd (S0 107) cl (p_h S0 pl))) 108) cl (Int32.ofInt (cs : Int)))) 109) cl (Int32.ofInt (cs : Int)))) 110) cl (Int32.ofInt (cs2 : Int)))) pl2 cs2 sk2 cl (Int32.ofInt 0) nc2 sg2 true h2 o2 na2) R Q
        refine w_put rfl v_tyM rfl rfl rfl ?_
        refine w_eqS (p_wcl (w_inc _)) ?_
        show w_T L xs (d + 7) m_X12_clause 190 [(2, .int (p_h S0 pl)), (0, .ref 100), (1, .int (Int32.ofInt 1))] [] (p_S (v_ur (v_ur (v_ur (v_ur S0 107 (upd (S0 107) cl (p_h S0 pl))) 108 (upd ((v_ur S0 107 (upd (S0 107) cl (p_h S0 pl))) 108) cl (Int32.ofInt (cs : Int)))) 109 (upd ((v_ur (v_ur S0 107 (upd (S0 107) cl (p_h S0 pl))) 108 (upd ((v_ur S0 107 (upd (S0 107) cl (p_h S0 pl))) 108) cl (Int32.ofInt (cs : Int)))) 109) cl (Int32.ofInt (cs : Int)))) 110 (upd ((v_ur (v_ur (v_ur S0 107 (upd (S0 107) cl (p_h S0 pl))) 108 (upd ((v_ur S0 107 (upd (S0 107) cl (p_h S0 pl))) 108) cl (Int32.ofInt (cs : Int)))) 109 (upd ((v_ur (v_ur S0 107 (upd (S0 107) cl (p_h S0 pl))) 108 (upd ((v_ur S0 107 (upd (S0 107) cl (p_h S0 pl))) 108) cl (Int32.ofInt (cs : Int)))) 109) cl (Int32.ofInt (cs : Int)))) 110) cl (Int32.ofInt (cs2 : Int)))) pl2 cs2 sk2 (cl + 1) (Int32.ofInt 0) nc2 sg2 true h2 o2 na2) R Q
        refine w_ret rfl rfl ?_
        refine Kg _ _ _ _ _ _ _ _ _ _ (p_F_ur (p_F_ur (p_F_ur (p_F_ur (p_F_rf _) (by omega)) (by omega)) (by omega)) (by omega)) (p_Tw (p_Tw (p_Tw (p_Tw hT (a := 107) rfl) (a := 108) rfl) (a := 109) rfl) (a := 110) rfl) (p_Z_add (cs1 := cs) hZ (fun k hk => ?_) ?_ ?_ ?_ (by omega) (by omega) (fun k hk => r2 k hk) (by rw [Nat.sub_self]; trivial) r3) (by omega) (by omega) (by omega) (by omega) (by omega)
        · have hne : ¬ k = cl := by omega
          simp [v_ur, upd, hne]
        · simp [v_ur, upd]
        · simp [v_ur, upd]
        · simp [v_ur, upd]
      · show w_T L xs (d + 7) m_X12_clause 167 [(2, .int (p_h S0 pl)), (0, .ref 100), (1, .int (Int32.ofInt 1))] [] (p_S (v_ur (v_ur (v_ur S0 107 (upd (S0 107) cl (p_h S0 pl))) 108 (upd ((v_ur S0 107 (upd (S0 107) cl (p_h S0 pl))) 108) cl (Int32.ofInt (cs : Int)))) 109 (upd ((v_ur (v_ur S0 107 (upd (S0 107) cl (p_h S0 pl))) 108 (upd ((v_ur S0 107 (upd (S0 107) cl (p_h S0 pl))) 108) cl (Int32.ofInt (cs : Int)))) 109) cl (Int32.ofInt (cs : Int)))) pl2 cs2 sk2 cl b164 nc2 sg2 false h2 o2 na2) R Q
        refine w_st rfl (fun _ => rfl) ?_
        show w_T L xs (d + 7) m_X12_clause 168 [(2, .int (p_h S0 pl)), (0, .ref 100), (1, .int (Int32.ofInt 1))] [.ref 100] (p_S (v_ur (v_ur (v_ur S0 107 (upd (S0 107) cl (p_h S0 pl))) 108 (upd ((v_ur S0 107 (upd (S0 107) cl (p_h S0 pl))) 108) cl (Int32.ofInt (cs : Int)))) 109 (upd ((v_ur (v_ur S0 107 (upd (S0 107) cl (p_h S0 pl))) 108 (upd ((v_ur S0 107 (upd (S0 107) cl (p_h S0 pl))) 108) cl (Int32.ofInt (cs : Int)))) 109) cl (Int32.ofInt (cs : Int)))) pl2 cs2 sk2 cl b164 nc2 sg2 false h2 o2 na2) R Q
        refine w_getr rfl v_tyM rfl ?_
        refine w_st rfl (fun _ => rfl) ?_
        show w_T L xs (d + 7) m_X12_clause 172 [(2, .int (p_h S0 pl)), (0, .ref 100), (1, .int (Int32.ofInt 1))] [.ref 100, .ref 111] (p_S (v_ur (v_ur (v_ur S0 107 (upd (S0 107) cl (p_h S0 pl))) 108 (upd ((v_ur S0 107 (upd (S0 107) cl (p_h S0 pl))) 108) cl (Int32.ofInt (cs : Int)))) 109 (upd ((v_ur (v_ur S0 107 (upd (S0 107) cl (p_h S0 pl))) 108 (upd ((v_ur S0 107 (upd (S0 107) cl (p_h S0 pl))) 108) cl (Int32.ofInt (cs : Int)))) 109) cl (Int32.ofInt (cs : Int)))) pl2 cs2 sk2 cl b164 nc2 sg2 false h2 o2 na2) R Q
        refine w_get rfl v_tyM rfl ?_
        refine w_st rfl (fun _ => rfl) ?_
        show w_T L xs (d + 7) m_X12_clause 176 [(2, .int (p_h S0 pl)), (0, .ref 100), (1, .int (Int32.ofInt 1))] [.ref 100, .int (Int32.ofInt (cl : Int)), .ref 111] (p_S (v_ur (v_ur (v_ur S0 107 (upd (S0 107) cl (p_h S0 pl))) 108 (upd ((v_ur S0 107 (upd (S0 107) cl (p_h S0 pl))) 108) cl (Int32.ofInt (cs : Int)))) 109 (upd ((v_ur (v_ur S0 107 (upd (S0 107) cl (p_h S0 pl))) 108 (upd ((v_ur S0 107 (upd (S0 107) cl (p_h S0 pl))) 108) cl (Int32.ofInt (cs : Int)))) 109) cl (Int32.ofInt (cs : Int)))) pl2 cs2 sk2 cl b164 nc2 sg2 false h2 o2 na2) R Q
        refine w_get rfl v_tyM rfl ?_
        show w_T L xs (d + 7) m_X12_clause 179 [(2, .int (p_h S0 pl)), (0, .ref 100), (1, .int (Int32.ofInt 1))] [.int (Int32.ofInt (cs2 : Int)), .int (Int32.ofInt (cl : Int)), .ref 111] (p_S (v_ur (v_ur (v_ur S0 107 (upd (S0 107) cl (p_h S0 pl))) 108 (upd ((v_ur S0 107 (upd (S0 107) cl (p_h S0 pl))) 108) cl (Int32.ofInt (cs : Int)))) 109 (upd ((v_ur (v_ur S0 107 (upd (S0 107) cl (p_h S0 pl))) 108 (upd ((v_ur S0 107 (upd (S0 107) cl (p_h S0 pl))) 108) cl (Int32.ofInt (cs : Int)))) 109) cl (Int32.ofInt (cs : Int)))) pl2 cs2 sk2 cl b164 nc2 sg2 false h2 o2 na2) R Q
        refine w_iast rfl rfl (by rw [w_nat (by omega)]; omega) (by rw [w_nat (by omega)]; omega) ?_
        refine w_eqS (p_wor (by decide) (w_natn (by omega))) ?_
        refine w_st rfl (fun _ => rfl) ?_
        refine w_st rfl (fun _ => rfl) ?_
        show w_T L xs (d + 7) m_X12_clause 182 [(2, .int (p_h S0 pl)), (0, .ref 100), (1, .int (Int32.ofInt 1))] [.ref 100, .ref 100] (p_S (v_ur (v_ur (v_ur (v_ur S0 107 (upd (S0 107) cl (p_h S0 pl))) 108 (upd ((v_ur S0 107 (upd (S0 107) cl (p_h S0 pl))) 108) cl (Int32.ofInt (cs : Int)))) 109 (upd ((v_ur (v_ur S0 107 (upd (S0 107) cl (p_h S0 pl))) 108 (upd ((v_ur S0 107 (upd (S0 107) cl (p_h S0 pl))) 108) cl (Int32.ofInt (cs : Int)))) 109) cl (Int32.ofInt (cs : Int)))) 110 (upd ((v_ur (v_ur (v_ur S0 107 (upd (S0 107) cl (p_h S0 pl))) 108 (upd ((v_ur S0 107 (upd (S0 107) cl (p_h S0 pl))) 108) cl (Int32.ofInt (cs : Int)))) 109 (upd ((v_ur (v_ur S0 107 (upd (S0 107) cl (p_h S0 pl))) 108 (upd ((v_ur S0 107 (upd (S0 107) cl (p_h S0 pl))) 108) cl (Int32.ofInt (cs : Int)))) 109) cl (Int32.ofInt (cs : Int)))) 110) cl (Int32.ofInt (cs2 : Int)))) pl2 cs2 sk2 cl b164 nc2 sg2 false h2 o2 na2) R Q
        refine w_get rfl v_tyM rfl ?_
        refine w_st rfl (fun _ => rfl) ?_
        refine w_st rfl (fun _ => rfl) ?_
        show w_T L xs (d + 7) m_X12_clause 187 [(2, .int (p_h S0 pl)), (0, .ref 100), (1, .int (Int32.ofInt 1))] [.int ((Int32.ofInt (cl : Int)) + (Int32.ofInt 1)), .ref 100] (p_S (v_ur (v_ur (v_ur (v_ur S0 107 (upd (S0 107) cl (p_h S0 pl))) 108 (upd ((v_ur S0 107 (upd (S0 107) cl (p_h S0 pl))) 108) cl (Int32.ofInt (cs : Int)))) 109 (upd ((v_ur (v_ur S0 107 (upd (S0 107) cl (p_h S0 pl))) 108 (upd ((v_ur S0 107 (upd (S0 107) cl (p_h S0 pl))) 108) cl (Int32.ofInt (cs : Int)))) 109) cl (Int32.ofInt (cs : Int)))) 110 (upd ((v_ur (v_ur (v_ur S0 107 (upd (S0 107) cl (p_h S0 pl))) 108 (upd ((v_ur S0 107 (upd (S0 107) cl (p_h S0 pl))) 108) cl (Int32.ofInt (cs : Int)))) 109 (upd ((v_ur (v_ur S0 107 (upd (S0 107) cl (p_h S0 pl))) 108 (upd ((v_ur S0 107 (upd (S0 107) cl (p_h S0 pl))) 108) cl (Int32.ofInt (cs : Int)))) 109) cl (Int32.ofInt (cs : Int)))) 110) cl (Int32.ofInt (cs2 : Int)))) pl2 cs2 sk2 cl b164 nc2 sg2 false h2 o2 na2) R Q
        refine w_put rfl v_tyM rfl rfl rfl ?_
        refine w_eqS (p_wcl (w_inc _)) ?_
        show w_T L xs (d + 7) m_X12_clause 190 [(2, .int (p_h S0 pl)), (0, .ref 100), (1, .int (Int32.ofInt 1))] [] (p_S (v_ur (v_ur (v_ur (v_ur S0 107 (upd (S0 107) cl (p_h S0 pl))) 108 (upd ((v_ur S0 107 (upd (S0 107) cl (p_h S0 pl))) 108) cl (Int32.ofInt (cs : Int)))) 109 (upd ((v_ur (v_ur S0 107 (upd (S0 107) cl (p_h S0 pl))) 108 (upd ((v_ur S0 107 (upd (S0 107) cl (p_h S0 pl))) 108) cl (Int32.ofInt (cs : Int)))) 109) cl (Int32.ofInt (cs : Int)))) 110 (upd ((v_ur (v_ur (v_ur S0 107 (upd (S0 107) cl (p_h S0 pl))) 108 (upd ((v_ur S0 107 (upd (S0 107) cl (p_h S0 pl))) 108) cl (Int32.ofInt (cs : Int)))) 109 (upd ((v_ur (v_ur S0 107 (upd (S0 107) cl (p_h S0 pl))) 108 (upd ((v_ur S0 107 (upd (S0 107) cl (p_h S0 pl))) 108) cl (Int32.ofInt (cs : Int)))) 109) cl (Int32.ofInt (cs : Int)))) 110) cl (Int32.ofInt (cs2 : Int)))) pl2 cs2 sk2 (cl + 1) b164 nc2 sg2 false h2 o2 na2) R Q
        refine w_ret rfl rfl ?_
        exact Kb _ _ _ _ _ _ _ _ _ _ _ _ (p_F_ur (p_F_ur (p_F_ur (p_F_ur (p_F_rf _) (by omega)) (by omega)) (by omega)) (by omega)) (p_Tw (p_Tw (p_Tw (p_Tw hT (a := 107) rfl) (a := 108) rfl) (a := 109) rfl) (a := 110) rfl) hb164 (by omega) (by omega) (by omega) (by omega)
    · refine w_st rfl (fun _ => rfl) ?_
      refine w_st rfl (fun _ => rfl) ?_
      refine w_st rfl (fun _ => rfl) ?_
      show w_T L xs (d + 7) m_X12_clause 58 [(2, .int (p_h S0 pl)), (0, .ref 100), (1, .int (Int32.ofInt 1))] [.ref 100, .int (Int32.ofInt 4), .ref 100] (p_S S0 pl cs sk cl (Int32.ofInt 0) nc sg ov bh op na) R Q
      refine w_get rfl v_tyM rfl ?_
      show w_T L xs (d + 7) m_X12_clause 61 [(2, .int (p_h S0 pl)), (0, .ref 100), (1, .int (Int32.ofInt 1))] [.int (Int32.ofInt (pl : Int)), .int (Int32.ofInt 4), .ref 100] (p_S S0 pl cs sk cl (Int32.ofInt 0) nc sg ov bh op na) R Q
      refine w_cv rfl (by decide) mt_X12_wrongs v_tyM rfl rfl rfl (Nat.le_of_ble_eq_true rfl) (Nat.le_of_ble_eq_true rfl) (Nat.le_of_ble_eq_true rfl) ?_
      show w_T L xs _ m_X12_wrongs 0 (lv_args 0 [.ref 100, .int (Int32.ofInt 4), .int (Int32.ofInt (pl : Int))]) [] (p_S S0 pl cs sk cl (Int32.ofInt 0) nc sg ov bh op na) R _
      refine h_wr (by decide) (by decide) (by rw [w_nat (by omega)]; omega) (by rw [w_nat (by omega)]; omega) (fun b61 hb61 => ?_)
      refine w_st rfl (fun _ => rfl) ?_
      show w_T L xs (d + 7) m_X12_clause 65 [(2, .int (p_h S0 pl)), (0, .ref 100), (1, .int (Int32.ofInt 1))] [.ref 100] (p_S S0 pl cs sk cl b61 nc sg ov bh op na) R Q
      refine w_cv rfl (by decide) mt_X12_isGood v_tyM rfl rfl rfl (Nat.le_of_ble_eq_true rfl) (Nat.le_of_ble_eq_true rfl) (Nat.le_of_ble_eq_true rfl) ?_
      show w_T L xs _ m_X12_isGood 0 (lv_args 0 [.ref 100]) [] (p_S S0 pl cs sk cl b61 nc sg ov bh op na) R _
      refine h_isGF hb61 ?_
      show w_T L xs (d + 7) m_X12_clause 68 [(2, .int (p_h S0 pl)), (0, .ref 100), (1, .int (Int32.ofInt 1))] [.int (Int32.ofInt 0)] (p_S S0 pl cs sk cl b61 nc sg ov bh op na) R Q
      refine w_st rfl (fun _ => rfl) ?_
      show w_T L xs (d + 7) m_X12_clause 71 [(2, .int (p_h S0 pl)), (0, .ref 100), (1, .int (Int32.ofInt 1))] [] (p_S S0 pl cs sk cl b61 nc sg ov bh op na) R Q
      refine w_ret rfl rfl ?_
      exact Kb _ _ _ _ _ _ _ _ _ _ _ _ (p_F_rf _) hT hb61 (by omega) (by omega) (by omega) (by omega)
  · refine w_st rfl (fun _ => rfl) ?_
    refine w_st rfl (fun _ => rfl) ?_
    refine w_st rfl (fun _ => rfl) ?_
    refine w_st rfl (fun _ => rfl) ?_
    show w_T L xs (d + 7) m_X12_clause 28 [(2, .int (p_h S0 pl)), (0, .ref 100), (1, .int (Int32.ofInt 1))] [.ref 100, .int (Int32.ofInt 1), .ref 100] (p_S S0 pl cs sk cl (Int32.ofInt 0) nc sg ov bh op na) R Q
    refine w_get rfl v_tyM rfl ?_
    show w_T L xs (d + 7) m_X12_clause 31 [(2, .int (p_h S0 pl)), (0, .ref 100), (1, .int (Int32.ofInt 1))] [.int (Int32.ofInt (pl : Int)), .int (Int32.ofInt 1), .ref 100] (p_S S0 pl cs sk cl (Int32.ofInt 0) nc sg ov bh op na) R Q
    refine w_cv rfl (by decide) mt_X12_wrongs v_tyM rfl rfl rfl (Nat.le_of_ble_eq_true rfl) (Nat.le_of_ble_eq_true rfl) (Nat.le_of_ble_eq_true rfl) ?_
    show w_T L xs _ m_X12_wrongs 0 (lv_args 0 [.ref 100, .int (Int32.ofInt 1), .int (Int32.ofInt (pl : Int))]) [] (p_S S0 pl cs sk cl (Int32.ofInt 0) nc sg ov bh op na) R _
    refine h_wr (by decide) (by decide) (by rw [w_nat (by omega)]; omega) (by rw [w_nat (by omega)]; omega) (fun b31 hb31 => ?_)
    refine w_st rfl (fun _ => rfl) ?_
    refine w_st rfl (fun _ => rfl) ?_
    show w_T L xs (d + 7) m_X12_clause 65 [(2, .int (p_h S0 pl)), (0, .ref 100), (1, .int (Int32.ofInt 1))] [.ref 100] (p_S S0 pl cs sk cl b31 nc sg ov bh op na) R Q
    refine w_cv rfl (by decide) mt_X12_isGood v_tyM rfl rfl rfl (Nat.le_of_ble_eq_true rfl) (Nat.le_of_ble_eq_true rfl) (Nat.le_of_ble_eq_true rfl) ?_
    show w_T L xs _ m_X12_isGood 0 (lv_args 0 [.ref 100]) [] (p_S S0 pl cs sk cl b31 nc sg ov bh op na) R _
    refine h_isGF hb31 ?_
    show w_T L xs (d + 7) m_X12_clause 68 [(2, .int (p_h S0 pl)), (0, .ref 100), (1, .int (Int32.ofInt 1))] [.int (Int32.ofInt 0)] (p_S S0 pl cs sk cl b31 nc sg ov bh op na) R Q
    refine w_st rfl (fun _ => rfl) ?_
    show w_T L xs (d + 7) m_X12_clause 71 [(2, .int (p_h S0 pl)), (0, .ref 100), (1, .int (Int32.ofInt 1))] [] (p_S S0 pl cs sk cl b31 nc sg ov bh op na) R Q
    refine w_ret rfl rfl ?_
    exact Kb _ _ _ _ _ _ _ _ _ _ _ _ (p_F_rf _) hT hb31 (by omega) (by omega) (by omega) (by omega)
end PK
end Prt39h
