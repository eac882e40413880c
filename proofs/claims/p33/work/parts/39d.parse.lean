/-! the reader of law and rules: what its calls do, over a shadow of the places that change -/
noncomputable abbrev m_X12_here : g_M := (g_cn 12, yX12_here, cX12_here, 1, (some .int), g_look2 ttX12_here)
set_option maxRecDepth 20000 in
theorem mt_X12_here : g_mt 167 = some m_X12_here := rfl
noncomputable abbrev m_X12_wrongs : g_M := (g_cn 12, yX12_wrongs, cX12_wrongs, 3, none, g_look2 ttX12_wrongs)
set_option maxRecDepth 20000 in
theorem mt_X12_wrongs : g_mt 168 = some m_X12_wrongs := rfl
noncomputable abbrev m_X12_isGood : g_M := (g_cn 12, yX12_isGood, cX12_isGood, 1, (some .boolean), g_look2 ttX12_isGood)
set_option maxRecDepth 20000 in
theorem mt_X12_isGood : g_mt 169 = some m_X12_isGood := rfl
noncomputable abbrev m_X12_seesDigit : g_M := (g_cn 12, yX12_seesDigit, cX12_seesDigit, 1, (some .boolean), g_look2 ttX12_seesDigit)
set_option maxRecDepth 20000 in
theorem mt_X12_seesDigit : g_mt 170 = some m_X12_seesDigit := rfl
noncomputable abbrev m_X12_begins : g_M := (g_cn 12, yX12_begins, cX12_begins, 2, none, g_look2 ttX12_begins)
set_option maxRecDepth 20000 in
theorem mt_X12_begins : g_mt 171 = some m_X12_begins := rfl
noncomputable abbrev m_X12_emit : g_M := (g_cn 12, yX12_emit, cX12_emit, 3, none, g_look2 ttX12_emit)
set_option maxRecDepth 20000 in
theorem mt_X12_emit : g_mt 172 = some m_X12_emit := rfl
noncomputable abbrev m_X12_top : g_M := (g_cn 12, yX12_top, cX12_top, 1, (some .int), g_look2 ttX12_top)
set_option maxRecDepth 20000 in
theorem mt_X12_top : g_mt 173 = some m_X12_top := rfl
noncomputable abbrev m_X12_puts : g_M := (g_cn 12, yX12_puts, cX12_puts, 2, none, g_look2 ttX12_puts)
set_option maxRecDepth 20000 in
theorem mt_X12_puts : g_mt 174 = some m_X12_puts := rfl
noncomputable abbrev m_X12_opens : g_M := (g_cn 12, yX12_opens, cX12_opens, 1, none, g_look2 ttX12_opens)
set_option maxRecDepth 20000 in
theorem mt_X12_opens : g_mt 175 = some m_X12_opens := rfl
noncomputable abbrev m_X12_reads : g_M := (g_cn 12, yX12_reads, cX12_reads, 3, (some .int), g_look2 ttX12_reads)
set_option maxRecDepth 20000 in
theorem mt_X12_reads : g_mt 176 = some m_X12_reads := rfl
noncomputable abbrev m_X12_isTimes : g_M := (g_cn 12, yX12_isTimes, cX12_isTimes, 1, (some .boolean), g_look2 ttX12_isTimes)
set_option maxRecDepth 20000 in
theorem mt_X12_isTimes : g_mt 177 = some m_X12_isTimes := rfl
noncomputable abbrev m_X12_isPlus : g_M := (g_cn 12, yX12_isPlus, cX12_isPlus, 1, (some .boolean), g_look2 ttX12_isPlus)
set_option maxRecDepth 20000 in
theorem mt_X12_isPlus : g_mt 178 = some m_X12_isPlus := rfl
noncomputable abbrev m_X12_isCompared : g_M := (g_cn 12, yX12_isCompared, cX12_isCompared, 1, (some .boolean), g_look2 ttX12_isCompared)
set_option maxRecDepth 20000 in
theorem mt_X12_isCompared : g_mt 179 = some m_X12_isCompared := rfl
noncomputable abbrev m_X12_isValue : g_M := (g_cn 12, yX12_isValue, cX12_isValue, 1, (some .boolean), g_look2 ttX12_isValue)
set_option maxRecDepth 20000 in
theorem mt_X12_isValue : g_mt 180 = some m_X12_isValue := rfl
noncomputable abbrev m_X12_isClause : g_M := (g_cn 12, yX12_isClause, cX12_isClause, 1, (some .boolean), g_look2 ttX12_isClause)
set_option maxRecDepth 20000 in
theorem mt_X12_isClause : g_mt 190 = some m_X12_isClause := rfl
noncomputable abbrev m_X12_sums : g_M := (g_cn 12, yX12_sums, cX12_sums, 2, none, g_look2 ttX12_sums)
set_option maxRecDepth 20000 in
theorem mt_X12_sums : g_mt 181 = some m_X12_sums := rfl
noncomputable abbrev m_X12_joins : g_M := (g_cn 12, yX12_joins, cX12_joins, 2, none, g_look2 ttX12_joins)
set_option maxRecDepth 20000 in
theorem mt_X12_joins : g_mt 182 = some m_X12_joins := rfl
noncomputable abbrev m_X12_ends : g_M := (g_cn 12, yX12_ends, cX12_ends, 1, none, g_look2 ttX12_ends)
set_option maxRecDepth 20000 in
theorem mt_X12_ends : g_mt 183 = some m_X12_ends := rfl
noncomputable abbrev m_X12_factor : g_M := (g_cn 12, yX12_factor, cX12_factor, 1, none, g_look2 ttX12_factor)
set_option maxRecDepth 20000 in
theorem mt_X12_factor : g_mt 184 = some m_X12_factor := rfl
noncomputable abbrev m_X12_stays : g_M := (g_cn 12, yX12_stays, cX12_stays, 2, (some .boolean), g_look2 ttX12_stays)
set_option maxRecDepth 20000 in
theorem mt_X12_stays : g_mt 185 = some m_X12_stays := rfl
noncomputable abbrev m_X12_value : g_M := (g_cn 12, yX12_value, cX12_value, 2, none, g_look2 ttX12_value)
set_option maxRecDepth 20000 in
theorem mt_X12_value : g_mt 186 = some m_X12_value := rfl
noncomputable abbrev m_X12_pieceOfC : g_M := (g_cn 12, yX12_pieceOfC, cX12_pieceOfC, 2, none, g_look2 ttX12_pieceOfC)
set_option maxRecDepth 20000 in
theorem mt_X12_pieceOfC : g_mt 187 = some m_X12_pieceOfC := rfl
noncomputable abbrev m_X12_goesBehind : g_M := (g_cn 12, yX12_goesBehind, cX12_goesBehind, 2, (some .boolean), g_look2 ttX12_goesBehind)
set_option maxRecDepth 20000 in
theorem mt_X12_goesBehind : g_mt 188 = some m_X12_goesBehind := rfl
noncomputable abbrev m_X12_condition : g_M := (g_cn 12, yX12_condition, cX12_condition, 2, none, g_look2 ttX12_condition)
set_option maxRecDepth 20000 in
theorem mt_X12_condition : g_mt 189 = some m_X12_condition := rfl
noncomputable abbrev m_X12_clause : g_M := (g_cn 12, yX12_clause, cX12_clause, 3, none, g_look2 ttX12_clause)
set_option maxRecDepth 20000 in
theorem mt_X12_clause : g_mt 191 = some m_X12_clause := rfl
noncomputable abbrev m_X12_takesText : g_M := (g_cn 12, yX12_takesText, cX12_takesText, 7, (some .int), g_look2 ttX12_takesText)
set_option maxRecDepth 20000 in
theorem mt_X12_takesText : g_mt 192 = some m_X12_takesText := rfl
noncomputable abbrev m_X12_law : g_M := (g_cn 12, yX12_law, cX12_law, 3, (some .int), g_look2 ttX12_law)
set_option maxRecDepth 20000 in
theorem mt_X12_law : g_mt 193 = some m_X12_law := rfl
noncomputable abbrev m_X12_rules : g_M := (g_cn 12, yX12_rules, cX12_rules, 3, (some .int), g_look2 ttX12_rules)
set_option maxRecDepth 20000 in
theorem mt_X12_rules : g_mt 194 = some m_X12_rules := rfl
def p_b (b : Bool) : Int32 := bif b then Int32.ofInt 1 else Int32.ofInt 0
def p_S (S0 : v_Sf) (pl cs sk cl : Nat) (bd : Int32) (nc sg : Nat → Int32) (ov bh : Bool) (op : Int32) (na : Nat → Int32) : v_Sf := fun a j =>
  bif Nat.beq a 99 then (bif Nat.beq j 3 then Int32.ofInt (pl : Int) else bif Nat.beq j 7 then Int32.ofInt (cs : Int) else bif Nat.beq j 9 then Int32.ofInt (sk : Int) else bif Nat.beq j 6 then Int32.ofInt (cl : Int) else bif Nat.beq j 5 then bd else bif Nat.beq j 24 then p_b ov else bif Nat.beq j 25 then p_b bh else bif Nat.beq j 8 then op else S0 99 j) else bif Nat.beq a 111 && Nat.blt j 240 then nc j else bif Nat.beq a 113 && Nat.blt j 240 then sg j else bif Nat.beq a 112 && Nat.blt j 240 then na j else S0 a j
theorem p_bq {a b : Nat} (h : ¬ a = b) : Nat.beq a b = false := by
  cases e : Nat.beq a b with
  | false => rfl
  | true => exact absurd (Nat.eq_of_beq_eq_true e) h
theorem p_ext {S : v_Sf} {a j : Nat} {v : Int32} {S1 : v_Sf} (h1 : S1 a j = v) (h2 : ∀ a' j', ¬ (a' = a ∧ j' = j) → S1 a' j' = S a' j') : v_ur S a (upd (S a) j v) = S1 := by
  funext a' j'
  by_cases h : a' = a ∧ j' = j
  · rw [h.1, h.2, w_urs, h1]
  · rw [w_urn h, h2 a' j' h]
section PW
variable {S0 : v_Sf} {pl cs sk cl : Nat} {bd : Int32} {nc sg : Nat → Int32} {ov bh : Bool} {op : Int32} {na : Nat → Int32}
theorem p_wpl {v : Int32} {k : Nat} (hv : v = Int32.ofInt (k : Int)) : v_ur (p_S S0 pl cs sk cl bd nc sg ov bh op na) 99 (upd ((p_S S0 pl cs sk cl bd nc sg ov bh op na) 99) 3 v) = p_S S0 k cs sk cl bd nc sg ov bh op na := by
  refine p_ext hv.symm (fun a' j' h => ?_)
  unfold p_S
  by_cases ha : a' = 99
  · have hj : ¬ j' = 3 := fun e => h ⟨ha, e⟩
    rw [ha, p_bq hj]
    rfl
  · rw [p_bq ha]
    rfl
theorem p_wcs {v : Int32} {k : Nat} (hv : v = Int32.ofInt (k : Int)) : v_ur (p_S S0 pl cs sk cl bd nc sg ov bh op na) 99 (upd ((p_S S0 pl cs sk cl bd nc sg ov bh op na) 99) 7 v) = p_S S0 pl k sk cl bd nc sg ov bh op na := by
  refine p_ext hv.symm (fun a' j' h => ?_)
  unfold p_S
  by_cases ha : a' = 99
  · have hj : ¬ j' = 7 := fun e => h ⟨ha, e⟩
    rw [ha, p_bq hj]
    rfl
  · rw [p_bq ha]
    rfl
theorem p_wsk {v : Int32} {k : Nat} (hv : v = Int32.ofInt (k : Int)) : v_ur (p_S S0 pl cs sk cl bd nc sg ov bh op na) 99 (upd ((p_S S0 pl cs sk cl bd nc sg ov bh op na) 99) 9 v) = p_S S0 pl cs k cl bd nc sg ov bh op na := by
  refine p_ext hv.symm (fun a' j' h => ?_)
  unfold p_S
  by_cases ha : a' = 99
  · have hj : ¬ j' = 9 := fun e => h ⟨ha, e⟩
    rw [ha, p_bq hj]
    rfl
  · rw [p_bq ha]
    rfl
theorem p_wcl {v : Int32} {k : Nat} (hv : v = Int32.ofInt (k : Int)) : v_ur (p_S S0 pl cs sk cl bd nc sg ov bh op na) 99 (upd ((p_S S0 pl cs sk cl bd nc sg ov bh op na) 99) 6 v) = p_S S0 pl cs sk k bd nc sg ov bh op na := by
  refine p_ext hv.symm (fun a' j' h => ?_)
  unfold p_S
  by_cases ha : a' = 99
  · have hj : ¬ j' = 6 := fun e => h ⟨ha, e⟩
    rw [ha, p_bq hj]
    rfl
  · rw [p_bq ha]
    rfl
theorem p_wbd {v : Int32} : v_ur (p_S S0 pl cs sk cl bd nc sg ov bh op na) 99 (upd ((p_S S0 pl cs sk cl bd nc sg ov bh op na) 99) 5 v) = p_S S0 pl cs sk cl v nc sg ov bh op na := by
  refine p_ext rfl (fun a' j' h => ?_)
  unfold p_S
  by_cases ha : a' = 99
  · have hj : ¬ j' = 5 := fun e => h ⟨ha, e⟩
    rw [ha, p_bq hj]
    rfl
  · rw [p_bq ha]
    rfl
theorem p_wop {v : Int32} : v_ur (p_S S0 pl cs sk cl bd nc sg ov bh op na) 99 (upd ((p_S S0 pl cs sk cl bd nc sg ov bh op na) 99) 8 v) = p_S S0 pl cs sk cl bd nc sg ov bh v na := by
  refine p_ext rfl (fun a' j' h => ?_)
  unfold p_S
  by_cases ha : a' = 99
  · have hj : ¬ j' = 8 := fun e => h ⟨ha, e⟩
    rw [ha, p_bq hj]
    rfl
  · rw [p_bq ha]
    rfl
theorem p_wov {v : Int32} {b : Bool} (hv : v = p_b b) : v_ur (p_S S0 pl cs sk cl bd nc sg ov bh op na) 99 (upd ((p_S S0 pl cs sk cl bd nc sg ov bh op na) 99) 24 v) = p_S S0 pl cs sk cl bd nc sg b bh op na := by
  refine p_ext hv.symm (fun a' j' h => ?_)
  unfold p_S
  by_cases ha : a' = 99
  · have hj : ¬ j' = 24 := fun e => h ⟨ha, e⟩
    rw [ha, p_bq hj]
    rfl
  · rw [p_bq ha]
    rfl
theorem p_wbh {v : Int32} {b : Bool} (hv : v = p_b b) : v_ur (p_S S0 pl cs sk cl bd nc sg ov bh op na) 99 (upd ((p_S S0 pl cs sk cl bd nc sg ov bh op na) 99) 25 v) = p_S S0 pl cs sk cl bd nc sg ov b op na := by
  refine p_ext hv.symm (fun a' j' h => ?_)
  unfold p_S
  by_cases ha : a' = 99
  · have hj : ¬ j' = 25 := fun e => h ⟨ha, e⟩
    rw [ha, p_bq hj]
    rfl
  · rw [p_bq ha]
    rfl
theorem p_blt {j n : Nat} (h : j < n) : Nat.blt j n = true := Nat.ble_eq.mpr h
theorem p_blf {j n : Nat} (h : ¬ j < n) : Nat.blt j n = false := by
  cases e : Nat.blt j n with
  | false => rfl
  | true => exact absurd (Nat.le_of_ble_eq_true e) h
theorem p_rnc {k : Nat} (hk : k < 240) : (p_S S0 pl cs sk cl bd nc sg ov bh op na) 111 k = nc k := by
  unfold p_S
  rw [p_blt hk]
  rfl
theorem p_wnc {i k : Nat} {v : Int32} (hi : i = k) (hk : k < 240) : v_ur (p_S S0 pl cs sk cl bd nc sg ov bh op na) 111 (upd ((p_S S0 pl cs sk cl bd nc sg ov bh op na) 111) i v) = p_S S0 pl cs sk cl bd (upd nc k v) sg ov bh op na := by
  subst hi
  refine p_ext ?_ (fun a' j' h => ?_)
  · unfold p_S
    rw [p_blt hk]
    show upd nc i v i = v
    simp [upd]
  · unfold p_S
    by_cases ha : a' = 111
    · have hj : ¬ j' = i := fun e => h ⟨ha, e⟩
      have e : upd nc i v j' = nc j' := by simp [upd, hj]
      rw [e]
    · rw [p_bq ha]
      rfl
theorem p_rsg {k : Nat} (hk : k < 240) : (p_S S0 pl cs sk cl bd nc sg ov bh op na) 113 k = sg k := by
  unfold p_S
  rw [p_blt hk]
  rfl
theorem p_wsg {i k : Nat} {v : Int32} (hi : i = k) (hk : k < 240) : v_ur (p_S S0 pl cs sk cl bd nc sg ov bh op na) 113 (upd ((p_S S0 pl cs sk cl bd nc sg ov bh op na) 113) i v) = p_S S0 pl cs sk cl bd nc (upd sg k v) ov bh op na := by
  subst hi
  refine p_ext ?_ (fun a' j' h => ?_)
  · unfold p_S
    rw [p_blt hk]
    show upd sg i v i = v
    simp [upd]
  · unfold p_S
    by_cases ha : a' = 113
    · have hj : ¬ j' = i := fun e => h ⟨ha, e⟩
      have e : upd sg i v j' = sg j' := by simp [upd, hj]
      rw [e]
    · rw [p_bq ha]
      rfl
theorem p_rna {k : Nat} (hk : k < 240) : (p_S S0 pl cs sk cl bd nc sg ov bh op na) 112 k = na k := by
  unfold p_S
  rw [p_blt hk]
  rfl
theorem p_wna {i k : Nat} {v : Int32} (hi : i = k) (hk : k < 240) : v_ur (p_S S0 pl cs sk cl bd nc sg ov bh op na) 112 (upd ((p_S S0 pl cs sk cl bd nc sg ov bh op na) 112) i v) = p_S S0 pl cs sk cl bd nc sg ov bh op (upd na k v) := by
  subst hi
  refine p_ext ?_ (fun a' j' h => ?_)
  · unfold p_S
    rw [p_blt hk]
    show upd na i v i = v
    simp [upd]
  · unfold p_S
    by_cases ha : a' = 112
    · have hj : ¬ j' = i := fun e => h ⟨ha, e⟩
      have e : upd na i v j' = na j' := by simp [upd, hj]
      rw [e]
    · rw [p_bq ha]
      rfl
theorem p_wo99 {y : Nat} {v : Int32} (hy : y ≠ 3 ∧ y ≠ 7 ∧ y ≠ 9 ∧ y ≠ 6 ∧ y ≠ 5 ∧ y ≠ 24 ∧ y ≠ 25 ∧ y ≠ 8) : v_ur (p_S S0 pl cs sk cl bd nc sg ov bh op na) 99 (upd ((p_S S0 pl cs sk cl bd nc sg ov bh op na) 99) y v) = p_S (v_ur S0 99 (upd (S0 99) y v)) pl cs sk cl bd nc sg ov bh op na := by
  obtain ⟨y1, y2, y3, y8, y4, y5, y6, y7⟩ := hy
  refine p_ext ?_ (fun a' j' h => ?_)
  · unfold p_S
    rw [p_bq y1, p_bq y2, p_bq y3, p_bq y8, p_bq y4, p_bq y5, p_bq y6, p_bq y7]
    show v_ur S0 99 (upd (S0 99) y v) 99 y = v
    exact w_urs
  · unfold p_S
    by_cases ha : a' = 99
    · have hj : ¬ (99 = 99 ∧ j' = y) := fun e => h ⟨ha, e.2⟩
      rw [w_urn hj]
      by_cases h11 : a' = 111
      · omega
      · by_cases h13 : a' = 113
        · omega
        · by_cases h12 : a' = 112
          · omega
          · rw [w_urn h]
    · rw [w_urn h, p_bq ha]
      rfl
theorem p_wor {a i k : Nat} {v : Int32} (ha : a ≠ 99 ∧ a ≠ 111 ∧ a ≠ 113 ∧ a ≠ 112) (hi : i = k) : v_ur (p_S S0 pl cs sk cl bd nc sg ov bh op na) a (upd ((p_S S0 pl cs sk cl bd nc sg ov bh op na) a) i v) = p_S (v_ur S0 a (upd (S0 a) k v)) pl cs sk cl bd nc sg ov bh op na := by
  subst hi
  obtain ⟨a1, a2, a3, a4⟩ := ha
  refine p_ext ?_ (fun a' j' h => ?_)
  · unfold p_S
    rw [p_bq a1, p_bq a2, p_bq a3, p_bq a4]
    show v_ur S0 a (upd (S0 a) i v) a i = v
    exact w_urs
  · unfold p_S
    rw [w_urn h, w_urn (fun e => a1 e.1.symm)]
theorem w_add0 (k : Nat) : Int32.ofInt (k : Int) + Int32.ofInt 0 = Int32.ofInt (k : Int) := by rw [← Int32.ofInt_add]; rfl
theorem w_natn {k : Nat} (h : k < 2000000000) : (Int32.ofInt (k : Int)).toInt.toNat = k := by rw [w_nat h]; omega
theorem w_eqS {L : Nat} {xs : Nat → Int32} {d : Nat} {M : g_M} {pc : Nat} {lc : g_Lc} {sc : List Value} {S S1 : v_Sf} {R : v_Rf} {Q : Option Value → v_Sf → v_Rf → Prop} (h : S = S1) (k : w_T L xs d M pc lc sc S1 R Q) : w_T L xs d M pc lc sc S R Q := by
  rw [h]
  exact k
end PW
def p_h (S0 : v_Sf) (pl : Nat) : Int32 := if (pl : Int) < (S0 99 4).toInt then S0 100 pl &&& Int32.ofInt 255 else Int32.ofInt 0
def p_tp (sg : Nat → Int32) (sk : Nat) : Int32 := if 0 < sk then sg (sk - 1) else Int32.ofInt 0
def p_ti (c : Int32) : Prop := c = Int32.ofInt 42 ∨ c = Int32.ofInt 47 ∨ c = Int32.ofInt 37
def p_pl (c : Int32) : Prop := c = Int32.ofInt 43 ∨ c = Int32.ofInt 45
def p_cm (c : Int32) : Prop := c = Int32.ofInt 60 ∨ c = Int32.ofInt 62 ∨ c = Int32.ofInt 61
def p_vs (c : Int32) : Prop := p_ti c ∨ p_pl c ∨ c = Int32.ofInt 91
def p_jo (c : Int32) : Prop := c = Int32.ofInt 38 ∨ c = Int32.ofInt 124
def p_cc (c : Int32) : Prop := p_jo c ∨ c = Int32.ofInt 40 ∨ c = Int32.ofInt 33
def p_bi (c : Int32) : Bool := [42, 47, 37, 43, 45, 60, 62, 61, 38, 124].any (fun k => c == Int32.ofInt k)
theorem p_h_lt {S0 : v_Sf} {pl : Nat} (h : ¬ p_h S0 pl = Int32.ofInt 0) : (pl : Int) < (S0 99 4).toInt := by
  unfold p_h at h
  split at h
  · assumption
  · exact absurd rfl h
section PH
variable {L : Nat} {xs : Nat → Int32} {d : Nat} {R : v_Rf} {Q : Option Value → v_Sf → v_Rf → Prop} {S0 : v_Sf} {pl cs sk cl : Nat} {bd : Int32} {nc sg : Nat → Int32} {ov bh : Bool} {op : Int32} {na : Nat → Int32}
theorem h_isTimes {S : v_Sf} (c : Int32) (k1 : p_ti c → Q (some (.int (Int32.ofInt 1))) S R) (k0 : ¬ p_ti c → Q (some (.int (Int32.ofInt 0))) S R) : w_T L xs d m_X12_isTimes 0 (lv_args 0 [.int c]) [] S R Q := by
  refine w_st rfl (fun _ => rfl) ?_
  refine w_st rfl (fun _ => rfl) ?_
  show w_T L xs d m_X12_isTimes 3 [(0, .int c)] [.int (Int32.ofInt 42), .int c] S R Q
  refine w_br (P := c = (Int32.ofInt 42)) rfl (fun _ => rfl) (fun h3 => ?_) (fun h3 => ?_)
  · have hh : p_ti c := Or.inl h3
    refine w_st rfl (fun _ => rfl) ?_
    refine w_st rfl (fun _ => rfl) ?_
    show w_T L xs d m_X12_isTimes 23 [(0, .int c)] [.int (Int32.ofInt 1)] S R Q
    refine w_ret rfl (by rfl) ?_
    exact k1 hh
  · refine w_st rfl (fun _ => rfl) ?_
    refine w_st rfl (fun _ => rfl) ?_
    show w_T L xs d m_X12_isTimes 9 [(0, .int c)] [.int (Int32.ofInt 47), .int c] S R Q
    refine w_br (P := c = (Int32.ofInt 47)) rfl (fun _ => rfl) (fun h9 => ?_) (fun h9 => ?_)
    · have hh : p_ti c := Or.inr (Or.inl h9)
      refine w_st rfl (fun _ => rfl) ?_
      refine w_st rfl (fun _ => rfl) ?_
      show w_T L xs d m_X12_isTimes 23 [(0, .int c)] [.int (Int32.ofInt 1)] S R Q
      refine w_ret rfl (by rfl) ?_
      exact k1 hh
    · refine w_st rfl (fun _ => rfl) ?_
      refine w_st rfl (fun _ => rfl) ?_
      show w_T L xs d m_X12_isTimes 15 [(0, .int c)] [.int (Int32.ofInt 37), .int c] S R Q
      refine w_br (P := ¬ c = (Int32.ofInt 37)) rfl (fun _ => rfl) (fun h15 => ?_) (fun h15 => ?_)
      · refine w_st rfl (fun _ => rfl) ?_
        show w_T L xs d m_X12_isTimes 23 [(0, .int c)] [.int (Int32.ofInt 0)] S R Q
        refine w_ret rfl (by rfl) ?_
        exact k0 (fun hh => by rcases hh with hh | hh | hh <;> contradiction)
      · have hh : p_ti c := Or.inr (Or.inr (Decidable.of_not_not h15))
        refine w_st rfl (fun _ => rfl) ?_
        refine w_st rfl (fun _ => rfl) ?_
        show w_T L xs d m_X12_isTimes 23 [(0, .int c)] [.int (Int32.ofInt 1)] S R Q
        refine w_ret rfl (by rfl) ?_
        exact k1 hh
theorem h_isPlus {S : v_Sf} (c : Int32) (k1 : p_pl c → Q (some (.int (Int32.ofInt 1))) S R) (k0 : ¬ p_pl c → Q (some (.int (Int32.ofInt 0))) S R) : w_T L xs d m_X12_isPlus 0 (lv_args 0 [.int c]) [] S R Q := by
  refine w_st rfl (fun _ => rfl) ?_
  refine w_st rfl (fun _ => rfl) ?_
  show w_T L xs d m_X12_isPlus 3 [(0, .int c)] [.int (Int32.ofInt 43), .int c] S R Q
  refine w_br (P := c = (Int32.ofInt 43)) rfl (fun _ => rfl) (fun h3 => ?_) (fun h3 => ?_)
  · have hh : p_pl c := Or.inl h3
    refine w_st rfl (fun _ => rfl) ?_
    refine w_st rfl (fun _ => rfl) ?_
    show w_T L xs d m_X12_isPlus 17 [(0, .int c)] [.int (Int32.ofInt 1)] S R Q
    refine w_ret rfl (by rfl) ?_
    exact k1 hh
  · refine w_st rfl (fun _ => rfl) ?_
    refine w_st rfl (fun _ => rfl) ?_
    show w_T L xs d m_X12_isPlus 9 [(0, .int c)] [.int (Int32.ofInt 45), .int c] S R Q
    refine w_br (P := ¬ c = (Int32.ofInt 45)) rfl (fun _ => rfl) (fun h9 => ?_) (fun h9 => ?_)
    · refine w_st rfl (fun _ => rfl) ?_
      show w_T L xs d m_X12_isPlus 17 [(0, .int c)] [.int (Int32.ofInt 0)] S R Q
      refine w_ret rfl (by rfl) ?_
      exact k0 (fun hh => by rcases hh with hh | hh <;> contradiction)
    · have hh : p_pl c := Or.inr (Decidable.of_not_not h9)
      refine w_st rfl (fun _ => rfl) ?_
      refine w_st rfl (fun _ => rfl) ?_
      show w_T L xs d m_X12_isPlus 17 [(0, .int c)] [.int (Int32.ofInt 1)] S R Q
      refine w_ret rfl (by rfl) ?_
      exact k1 hh
theorem h_isCompared {S : v_Sf} (c : Int32) (k1 : p_cm c → Q (some (.int (Int32.ofInt 1))) S R) (k0 : ¬ p_cm c → Q (some (.int (Int32.ofInt 0))) S R) : w_T L xs d m_X12_isCompared 0 (lv_args 0 [.int c]) [] S R Q := by
  refine w_st rfl (fun _ => rfl) ?_
  refine w_st rfl (fun _ => rfl) ?_
  show w_T L xs d m_X12_isCompared 3 [(0, .int c)] [.int (Int32.ofInt 60), .int c] S R Q
  refine w_br (P := c = (Int32.ofInt 60)) rfl (fun _ => rfl) (fun h3 => ?_) (fun h3 => ?_)
  · have hh : p_cm c := Or.inl h3
    refine w_st rfl (fun _ => rfl) ?_
    refine w_st rfl (fun _ => rfl) ?_
    show w_T L xs d m_X12_isCompared 23 [(0, .int c)] [.int (Int32.ofInt 1)] S R Q
    refine w_ret rfl (by rfl) ?_
    exact k1 hh
  · refine w_st rfl (fun _ => rfl) ?_
    refine w_st rfl (fun _ => rfl) ?_
    show w_T L xs d m_X12_isCompared 9 [(0, .int c)] [.int (Int32.ofInt 62), .int c] S R Q
    refine w_br (P := c = (Int32.ofInt 62)) rfl (fun _ => rfl) (fun h9 => ?_) (fun h9 => ?_)
    · have hh : p_cm c := Or.inr (Or.inl h9)
      refine w_st rfl (fun _ => rfl) ?_
      refine w_st rfl (fun _ => rfl) ?_
      show w_T L xs d m_X12_isCompared 23 [(0, .int c)] [.int (Int32.ofInt 1)] S R Q
      refine w_ret rfl (by rfl) ?_
      exact k1 hh
    · refine w_st rfl (fun _ => rfl) ?_
      refine w_st rfl (fun _ => rfl) ?_
      show w_T L xs d m_X12_isCompared 15 [(0, .int c)] [.int (Int32.ofInt 61), .int c] S R Q
      refine w_br (P := ¬ c = (Int32.ofInt 61)) rfl (fun _ => rfl) (fun h15 => ?_) (fun h15 => ?_)
      · refine w_st rfl (fun _ => rfl) ?_
        show w_T L xs d m_X12_isCompared 23 [(0, .int c)] [.int (Int32.ofInt 0)] S R Q
        refine w_ret rfl (by rfl) ?_
        exact k0 (fun hh => by rcases hh with hh | hh | hh <;> contradiction)
      · have hh : p_cm c := Or.inr (Or.inr (Decidable.of_not_not h15))
        refine w_st rfl (fun _ => rfl) ?_
        refine w_st rfl (fun _ => rfl) ?_
        show w_T L xs d m_X12_isCompared 23 [(0, .int c)] [.int (Int32.ofInt 1)] S R Q
        refine w_ret rfl (by rfl) ?_
        exact k1 hh
theorem h_isValue {S : v_Sf} (c : Int32) (k1 : ¬ c = Int32.ofInt 0 → Q (some (.int (Int32.ofInt 1))) S R) (k0 : True → Q (some (.int (Int32.ofInt 0))) S R) : w_T L xs d m_X12_isValue 0 (lv_args 0 [.int c]) [] S R Q := by
  refine w_st rfl (fun _ => rfl) ?_
  refine w_st rfl (fun _ => rfl) ?_
  show w_T L xs d m_X12_isValue 3 [(0, .int c)] [.int (Int32.ofInt 115), .int c] S R Q
  refine w_br (P := c = (Int32.ofInt 115)) rfl (fun _ => rfl) (fun h3 => ?_) (fun h3 => ?_)
  · have hh : ¬ c = Int32.ofInt 0 := by rw [h3]; decide
    refine w_st rfl (fun _ => rfl) ?_
    refine w_st rfl (fun _ => rfl) ?_
    show w_T L xs d m_X12_isValue 95 [(0, .int c)] [.int (Int32.ofInt 1)] S R Q
    refine w_ret rfl (by rfl) ?_
    exact k1 hh
  · refine w_st rfl (fun _ => rfl) ?_
    refine w_st rfl (fun _ => rfl) ?_
    show w_T L xs d m_X12_isValue 9 [(0, .int c)] [.int (Int32.ofInt 113), .int c] S R Q
    refine w_br (P := c = (Int32.ofInt 113)) rfl (fun _ => rfl) (fun h9 => ?_) (fun h9 => ?_)
    · have hh : ¬ c = Int32.ofInt 0 := by rw [h9]; decide
      refine w_st rfl (fun _ => rfl) ?_
      refine w_st rfl (fun _ => rfl) ?_
      show w_T L xs d m_X12_isValue 95 [(0, .int c)] [.int (Int32.ofInt 1)] S R Q
      refine w_ret rfl (by rfl) ?_
      exact k1 hh
    · refine w_st rfl (fun _ => rfl) ?_
      refine w_st rfl (fun _ => rfl) ?_
      show w_T L xs d m_X12_isValue 15 [(0, .int c)] [.int (Int32.ofInt 116), .int c] S R Q
      refine w_br (P := c = (Int32.ofInt 116)) rfl (fun _ => rfl) (fun h15 => ?_) (fun h15 => ?_)
      · have hh : ¬ c = Int32.ofInt 0 := by rw [h15]; decide
        refine w_st rfl (fun _ => rfl) ?_
        refine w_st rfl (fun _ => rfl) ?_
        show w_T L xs d m_X12_isValue 95 [(0, .int c)] [.int (Int32.ofInt 1)] S R Q
        refine w_ret rfl (by rfl) ?_
        exact k1 hh
      · refine w_st rfl (fun _ => rfl) ?_
        refine w_st rfl (fun _ => rfl) ?_
        show w_T L xs d m_X12_isValue 21 [(0, .int c)] [.int (Int32.ofInt 104), .int c] S R Q
        refine w_br (P := c = (Int32.ofInt 104)) rfl (fun _ => rfl) (fun h21 => ?_) (fun h21 => ?_)
        · have hh : ¬ c = Int32.ofInt 0 := by rw [h21]; decide
          refine w_st rfl (fun _ => rfl) ?_
          refine w_st rfl (fun _ => rfl) ?_
          show w_T L xs d m_X12_isValue 95 [(0, .int c)] [.int (Int32.ofInt 1)] S R Q
          refine w_ret rfl (by rfl) ?_
          exact k1 hh
        · refine w_st rfl (fun _ => rfl) ?_
          refine w_st rfl (fun _ => rfl) ?_
          show w_T L xs d m_X12_isValue 27 [(0, .int c)] [.int (Int32.ofInt 100), .int c] S R Q
          refine w_br (P := c = (Int32.ofInt 100)) rfl (fun _ => rfl) (fun h27 => ?_) (fun h27 => ?_)
          · have hh : ¬ c = Int32.ofInt 0 := by rw [h27]; decide
            refine w_st rfl (fun _ => rfl) ?_
            refine w_st rfl (fun _ => rfl) ?_
            show w_T L xs d m_X12_isValue 95 [(0, .int c)] [.int (Int32.ofInt 1)] S R Q
            refine w_ret rfl (by rfl) ?_
            exact k1 hh
          · refine w_st rfl (fun _ => rfl) ?_
            refine w_st rfl (fun _ => rfl) ?_
            show w_T L xs d m_X12_isValue 33 [(0, .int c)] [.int (Int32.ofInt 119), .int c] S R Q
            refine w_br (P := c = (Int32.ofInt 119)) rfl (fun _ => rfl) (fun h33 => ?_) (fun h33 => ?_)
            · have hh : ¬ c = Int32.ofInt 0 := by rw [h33]; decide
              refine w_st rfl (fun _ => rfl) ?_
              refine w_st rfl (fun _ => rfl) ?_
              show w_T L xs d m_X12_isValue 95 [(0, .int c)] [.int (Int32.ofInt 1)] S R Q
              refine w_ret rfl (by rfl) ?_
              exact k1 hh
            · refine w_st rfl (fun _ => rfl) ?_
              refine w_st rfl (fun _ => rfl) ?_
              show w_T L xs d m_X12_isValue 39 [(0, .int c)] [.int (Int32.ofInt 111), .int c] S R Q
              refine w_br (P := c = (Int32.ofInt 111)) rfl (fun _ => rfl) (fun h39 => ?_) (fun h39 => ?_)
              · have hh : ¬ c = Int32.ofInt 0 := by rw [h39]; decide
                refine w_st rfl (fun _ => rfl) ?_
                refine w_st rfl (fun _ => rfl) ?_
                show w_T L xs d m_X12_isValue 95 [(0, .int c)] [.int (Int32.ofInt 1)] S R Q
                refine w_ret rfl (by rfl) ?_
                exact k1 hh
              · refine w_st rfl (fun _ => rfl) ?_
                refine w_st rfl (fun _ => rfl) ?_
                show w_T L xs d m_X12_isValue 45 [(0, .int c)] [.int (Int32.ofInt 112), .int c] S R Q
                refine w_br (P := c = (Int32.ofInt 112)) rfl (fun _ => rfl) (fun h45 => ?_) (fun h45 => ?_)
                · have hh : ¬ c = Int32.ofInt 0 := by rw [h45]; decide
                  refine w_st rfl (fun _ => rfl) ?_
                  refine w_st rfl (fun _ => rfl) ?_
                  show w_T L xs d m_X12_isValue 95 [(0, .int c)] [.int (Int32.ofInt 1)] S R Q
                  refine w_ret rfl (by rfl) ?_
                  exact k1 hh
                · refine w_st rfl (fun _ => rfl) ?_
                  refine w_st rfl (fun _ => rfl) ?_
                  show w_T L xs d m_X12_isValue 51 [(0, .int c)] [.int (Int32.ofInt 108), .int c] S R Q
                  refine w_br (P := c = (Int32.ofInt 108)) rfl (fun _ => rfl) (fun h51 => ?_) (fun h51 => ?_)
                  · have hh : ¬ c = Int32.ofInt 0 := by rw [h51]; decide
                    refine w_st rfl (fun _ => rfl) ?_
                    refine w_st rfl (fun _ => rfl) ?_
                    show w_T L xs d m_X12_isValue 95 [(0, .int c)] [.int (Int32.ofInt 1)] S R Q
                    refine w_ret rfl (by rfl) ?_
                    exact k1 hh
                  · refine w_st rfl (fun _ => rfl) ?_
                    refine w_st rfl (fun _ => rfl) ?_
                    show w_T L xs d m_X12_isValue 57 [(0, .int c)] [.int (Int32.ofInt 97), .int c] S R Q
                    refine w_br (P := c = (Int32.ofInt 97)) rfl (fun _ => rfl) (fun h57 => ?_) (fun h57 => ?_)
                    · have hh : ¬ c = Int32.ofInt 0 := by rw [h57]; decide
                      refine w_st rfl (fun _ => rfl) ?_
                      refine w_st rfl (fun _ => rfl) ?_
                      show w_T L xs d m_X12_isValue 95 [(0, .int c)] [.int (Int32.ofInt 1)] S R Q
                      refine w_ret rfl (by rfl) ?_
                      exact k1 hh
                    · refine w_st rfl (fun _ => rfl) ?_
                      refine w_st rfl (fun _ => rfl) ?_
                      show w_T L xs d m_X12_isValue 63 [(0, .int c)] [.int (Int32.ofInt 110), .int c] S R Q
                      refine w_br (P := c = (Int32.ofInt 110)) rfl (fun _ => rfl) (fun h63 => ?_) (fun h63 => ?_)
                      · have hh : ¬ c = Int32.ofInt 0 := by rw [h63]; decide
                        refine w_st rfl (fun _ => rfl) ?_
                        refine w_st rfl (fun _ => rfl) ?_
                        show w_T L xs d m_X12_isValue 95 [(0, .int c)] [.int (Int32.ofInt 1)] S R Q
                        refine w_ret rfl (by rfl) ?_
                        exact k1 hh
                      · refine w_st rfl (fun _ => rfl) ?_
                        refine w_st rfl (fun _ => rfl) ?_
                        show w_T L xs d m_X12_isValue 69 [(0, .int c)] [.int (Int32.ofInt 118), .int c] S R Q
                        refine w_br (P := c = (Int32.ofInt 118)) rfl (fun _ => rfl) (fun h69 => ?_) (fun h69 => ?_)
                        · have hh : ¬ c = Int32.ofInt 0 := by rw [h69]; decide
                          refine w_st rfl (fun _ => rfl) ?_
                          refine w_st rfl (fun _ => rfl) ?_
                          show w_T L xs d m_X12_isValue 95 [(0, .int c)] [.int (Int32.ofInt 1)] S R Q
                          refine w_ret rfl (by rfl) ?_
                          exact k1 hh
                        · refine w_st rfl (fun _ => rfl) ?_
                          refine w_st rfl (fun _ => rfl) ?_
                          show w_T L xs d m_X12_isValue 75 [(0, .int c)] [.int (Int32.ofInt 117), .int c] S R Q
                          refine w_br (P := c = (Int32.ofInt 117)) rfl (fun _ => rfl) (fun h75 => ?_) (fun h75 => ?_)
                          · have hh : ¬ c = Int32.ofInt 0 := by rw [h75]; decide
                            refine w_st rfl (fun _ => rfl) ?_
                            refine w_st rfl (fun _ => rfl) ?_
                            show w_T L xs d m_X12_isValue 95 [(0, .int c)] [.int (Int32.ofInt 1)] S R Q
                            refine w_ret rfl (by rfl) ?_
                            exact k1 hh
                          · refine w_st rfl (fun _ => rfl) ?_
                            refine w_st rfl (fun _ => rfl) ?_
                            show w_T L xs d m_X12_isValue 81 [(0, .int c)] [.int (Int32.ofInt 122), .int c] S R Q
                            refine w_br (P := c = (Int32.ofInt 122)) rfl (fun _ => rfl) (fun h81 => ?_) (fun h81 => ?_)
                            · have hh : ¬ c = Int32.ofInt 0 := by rw [h81]; decide
                              refine w_st rfl (fun _ => rfl) ?_
                              refine w_st rfl (fun _ => rfl) ?_
                              show w_T L xs d m_X12_isValue 95 [(0, .int c)] [.int (Int32.ofInt 1)] S R Q
                              refine w_ret rfl (by rfl) ?_
                              exact k1 hh
                            · refine w_st rfl (fun _ => rfl) ?_
                              refine w_st rfl (fun _ => rfl) ?_
                              show w_T L xs d m_X12_isValue 87 [(0, .int c)] [.int (Int32.ofInt 109), .int c] S R Q
                              refine w_br (P := ¬ c = (Int32.ofInt 109)) rfl (fun _ => rfl) (fun h87 => ?_) (fun h87 => ?_)
                              · refine w_st rfl (fun _ => rfl) ?_
                                show w_T L xs d m_X12_isValue 95 [(0, .int c)] [.int (Int32.ofInt 0)] S R Q
                                refine w_ret rfl (by rfl) ?_
                                exact k0 trivial
                              · have hh : ¬ c = Int32.ofInt 0 := by rw [(Decidable.of_not_not h87)]; decide
                                refine w_st rfl (fun _ => rfl) ?_
                                refine w_st rfl (fun _ => rfl) ?_
                                show w_T L xs d m_X12_isValue 95 [(0, .int c)] [.int (Int32.ofInt 1)] S R Q
                                refine w_ret rfl (by rfl) ?_
                                exact k1 hh
theorem h_isClause {S : v_Sf} (c : Int32) (k1 : ¬ c = Int32.ofInt 0 → Q (some (.int (Int32.ofInt 1))) S R) (k0 : True → Q (some (.int (Int32.ofInt 0))) S R) : w_T L xs d m_X12_isClause 0 (lv_args 0 [.int c]) [] S R Q := by
  refine w_st rfl (fun _ => rfl) ?_
  refine w_st rfl (fun _ => rfl) ?_
  show w_T L xs d m_X12_isClause 3 [(0, .int c)] [.int (Int32.ofInt 102), .int c] S R Q
  refine w_br (P := c = (Int32.ofInt 102)) rfl (fun _ => rfl) (fun h3 => ?_) (fun h3 => ?_)
  · have hh : ¬ c = Int32.ofInt 0 := by rw [h3]; decide
    refine w_st rfl (fun _ => rfl) ?_
    refine w_st rfl (fun _ => rfl) ?_
    show w_T L xs d m_X12_isClause 41 [(0, .int c)] [.int (Int32.ofInt 1)] S R Q
    refine w_ret rfl (by rfl) ?_
    exact k1 hh
  · refine w_st rfl (fun _ => rfl) ?_
    refine w_st rfl (fun _ => rfl) ?_
    show w_T L xs d m_X12_isClause 9 [(0, .int c)] [.int (Int32.ofInt 103), .int c] S R Q
    refine w_br (P := c = (Int32.ofInt 103)) rfl (fun _ => rfl) (fun h9 => ?_) (fun h9 => ?_)
    · have hh : ¬ c = Int32.ofInt 0 := by rw [h9]; decide
      refine w_st rfl (fun _ => rfl) ?_
      refine w_st rfl (fun _ => rfl) ?_
      show w_T L xs d m_X12_isClause 41 [(0, .int c)] [.int (Int32.ofInt 1)] S R Q
      refine w_ret rfl (by rfl) ?_
      exact k1 hh
    · refine w_st rfl (fun _ => rfl) ?_
      refine w_st rfl (fun _ => rfl) ?_
      show w_T L xs d m_X12_isClause 15 [(0, .int c)] [.int (Int32.ofInt 98), .int c] S R Q
      refine w_br (P := c = (Int32.ofInt 98)) rfl (fun _ => rfl) (fun h15 => ?_) (fun h15 => ?_)
      · have hh : ¬ c = Int32.ofInt 0 := by rw [h15]; decide
        refine w_st rfl (fun _ => rfl) ?_
        refine w_st rfl (fun _ => rfl) ?_
        show w_T L xs d m_X12_isClause 41 [(0, .int c)] [.int (Int32.ofInt 1)] S R Q
        refine w_ret rfl (by rfl) ?_
        exact k1 hh
      · refine w_st rfl (fun _ => rfl) ?_
        refine w_st rfl (fun _ => rfl) ?_
        show w_T L xs d m_X12_isClause 21 [(0, .int c)] [.int (Int32.ofInt 105), .int c] S R Q
        refine w_br (P := c = (Int32.ofInt 105)) rfl (fun _ => rfl) (fun h21 => ?_) (fun h21 => ?_)
        · have hh : ¬ c = Int32.ofInt 0 := by rw [h21]; decide
          refine w_st rfl (fun _ => rfl) ?_
          refine w_st rfl (fun _ => rfl) ?_
          show w_T L xs d m_X12_isClause 41 [(0, .int c)] [.int (Int32.ofInt 1)] S R Q
          refine w_ret rfl (by rfl) ?_
          exact k1 hh
        · refine w_st rfl (fun _ => rfl) ?_
          refine w_st rfl (fun _ => rfl) ?_
          show w_T L xs d m_X12_isClause 27 [(0, .int c)] [.int (Int32.ofInt 101), .int c] S R Q
          refine w_br (P := c = (Int32.ofInt 101)) rfl (fun _ => rfl) (fun h27 => ?_) (fun h27 => ?_)
          · have hh : ¬ c = Int32.ofInt 0 := by rw [h27]; decide
            refine w_st rfl (fun _ => rfl) ?_
            refine w_st rfl (fun _ => rfl) ?_
            show w_T L xs d m_X12_isClause 41 [(0, .int c)] [.int (Int32.ofInt 1)] S R Q
            refine w_ret rfl (by rfl) ?_
            exact k1 hh
          · refine w_st rfl (fun _ => rfl) ?_
            refine w_st rfl (fun _ => rfl) ?_
            show w_T L xs d m_X12_isClause 33 [(0, .int c)] [.int (Int32.ofInt 120), .int c] S R Q
            refine w_br (P := ¬ c = (Int32.ofInt 120)) rfl (fun _ => rfl) (fun h33 => ?_) (fun h33 => ?_)
            · refine w_st rfl (fun _ => rfl) ?_
              show w_T L xs d m_X12_isClause 41 [(0, .int c)] [.int (Int32.ofInt 0)] S R Q
              refine w_ret rfl (by rfl) ?_
              exact k0 trivial
            · have hh : ¬ c = Int32.ofInt 0 := by rw [(Decidable.of_not_not h33)]; decide
              refine w_st rfl (fun _ => rfl) ?_
              refine w_st rfl (fun _ => rfl) ?_
              show w_T L xs d m_X12_isClause 41 [(0, .int c)] [.int (Int32.ofInt 1)] S R Q
              refine w_ret rfl (by rfl) ?_
              exact k1 hh
theorem h_here (hpl : pl ≤ 240) (hq : Q (some (.int (p_h S0 pl))) (p_S S0 pl cs sk cl bd nc sg ov bh op na) R) : w_T L xs d m_X12_here 0 (lv_args 0 [.ref 100]) [] (p_S S0 pl cs sk cl bd nc sg ov bh op na) R Q := by
  have e := w_nat (k := pl) (by omega)
  refine w_st rfl (fun _ => rfl) ?_
  show w_T L xs d m_X12_here 1 [(0, .ref 100)] [.ref 100] (p_S S0 pl cs sk cl bd nc sg ov bh op na) R Q
  refine w_get rfl v_tyM rfl ?_
  refine w_st rfl (fun _ => rfl) ?_
  show w_T L xs d m_X12_here 5 [(0, .ref 100)] [.ref 100, .int (Int32.ofInt (pl : Int))] (p_S S0 pl cs sk cl bd nc sg ov bh op na) R Q
  refine w_get rfl v_tyM rfl ?_
  show w_T L xs d m_X12_here 8 [(0, .ref 100)] [.int (S0 99 4), .int (Int32.ofInt (pl : Int))] (p_S S0 pl cs sk cl bd nc sg ov bh op na) R Q
  refine w_br (P := (S0 99 4) ≤ (Int32.ofInt (pl : Int))) rfl (fun _ => rfl) (fun h8 => ?_) (fun h8 => ?_)
  · have hh : p_h S0 pl = Int32.ofInt 0 := if_neg (by rw [q_le32, e] at h8; omega)
    refine w_st rfl (fun _ => rfl) ?_
    show w_T L xs d m_X12_here 28 [(0, .ref 100)] [.int (Int32.ofInt 0)] (p_S S0 pl cs sk cl bd nc sg ov bh op na) R Q
    refine w_ret rfl (by rfl) ?_
    rw [hh] at hq; exact hq
  · have hh : p_h S0 pl = S0 100 pl &&& Int32.ofInt 255 := if_pos (by rw [q_le32, e] at h8; omega)
    refine w_st rfl (fun _ => rfl) ?_
    show w_T L xs d m_X12_here 12 [(0, .ref 100)] [.ref 100] (p_S S0 pl cs sk cl bd nc sg ov bh op na) R Q
    refine w_getr rfl v_tyM rfl ?_
    refine w_st rfl (fun _ => rfl) ?_
    show w_T L xs d m_X12_here 16 [(0, .ref 100)] [.ref 100, .ref 101] (p_S S0 pl cs sk cl bd nc sg ov bh op na) R Q
    refine w_get rfl v_tyM rfl ?_
    show w_T L xs d m_X12_here 19 [(0, .ref 100)] [.int (Int32.ofInt (pl : Int)), .ref 101] (p_S S0 pl cs sk cl bd nc sg ov bh op na) R Q
    refine w_bald rfl rfl (by decide) (by rw [w_nat (by omega)]; omega) (by rw [w_nat (by omega)]; omega) ?_
    rw [w_natn (by omega)]
    refine w_st rfl (fun _ => rfl) ?_
    refine w_st rfl (fun _ => rfl) ?_
    refine w_st rfl (fun _ => rfl) ?_
    show w_T L xs d m_X12_here 28 [(0, .ref 100)] [.int ((S0 100 pl) &&& (Int32.ofInt 255))] (p_S S0 pl cs sk cl bd nc sg ov bh op na) R Q
    refine w_ret rfl (by rfl) ?_
    rw [hh] at hq; exact hq
theorem h_isGT (hq : Q (some (.int (Int32.ofInt 1))) (p_S S0 pl cs sk cl (Int32.ofInt 0) nc sg ov bh op na) R) : w_T L xs d m_X12_isGood 0 (lv_args 0 [.ref 100]) [] (p_S S0 pl cs sk cl (Int32.ofInt 0) nc sg ov bh op na) R Q := by
  refine w_st rfl (fun _ => rfl) ?_
  show w_T L xs d m_X12_isGood 1 [(0, .ref 100)] [.ref 100] (p_S S0 pl cs sk cl (Int32.ofInt 0) nc sg ov bh op na) R Q
  refine w_get rfl v_tyM rfl ?_
  show w_T L xs d m_X12_isGood 4 [(0, .ref 100)] [.int (Int32.ofInt 0)] (p_S S0 pl cs sk cl (Int32.ofInt 0) nc sg ov bh op na) R Q
  refine w_st rfl (fun _ => rfl) ?_
  refine w_st rfl (fun _ => rfl) ?_
  refine w_st rfl (fun _ => rfl) ?_
  show w_T L xs d m_X12_isGood 12 [(0, .ref 100)] [.int (Int32.ofInt 1)] (p_S S0 pl cs sk cl (Int32.ofInt 0) nc sg ov bh op na) R Q
  refine w_ret rfl (by rfl) ?_
  exact hq
theorem h_isGF (hb : bd.toInt < 0) (hq : Q (some (.int (Int32.ofInt 0))) (p_S S0 pl cs sk cl bd nc sg ov bh op na) R) : w_T L xs d m_X12_isGood 0 (lv_args 0 [.ref 100]) [] (p_S S0 pl cs sk cl bd nc sg ov bh op na) R Q := by
  refine w_st rfl (fun _ => rfl) ?_
  show w_T L xs d m_X12_isGood 1 [(0, .ref 100)] [.ref 100] (p_S S0 pl cs sk cl bd nc sg ov bh op na) R Q
  refine w_get rfl v_tyM rfl ?_
  show w_T L xs d m_X12_isGood 4 [(0, .ref 100)] [.int bd] (p_S S0 pl cs sk cl bd nc sg ov bh op na) R Q
  refine w_br (P := ¬ bd = 0) rfl (fun _ => rfl) (fun h4 => ?_) (fun h4 => ?_)
  · refine w_st rfl (fun _ => rfl) ?_
    show w_T L xs d m_X12_isGood 12 [(0, .ref 100)] [.int (Int32.ofInt 0)] (p_S S0 pl cs sk cl bd nc sg ov bh op na) R Q
    refine w_ret rfl (by rfl) ?_
    exact hq
  · exfalso; have e := Decidable.of_not_not h4; rw [e] at hb; exact absurd hb (by decide)
theorem h_wr {f w : Int32} (f1 : 1 ≤ f.toInt) (f2 : f.toInt ≤ 9) (w1 : 0 ≤ w.toInt) (w2 : w.toInt ≤ 1000) (hq : ∀ b : Int32, b.toInt < 0 → Q none (p_S S0 pl cs sk cl b nc sg ov bh op na) R) : w_T L xs d m_X12_wrongs 0 (lv_args 0 [.ref 100, .int f, .int w]) [] (p_S S0 pl cs sk cl (Int32.ofInt 0) nc sg ov bh op na) R Q := by
  have e : (Int32.ofInt (-1000) * f - w).toInt < 0 := by
    have e1 : Int32.ofInt (-1000) * f - w = Int32.ofInt ((-1000) * f.toInt - w.toInt) := by
      rw [Int32.ofInt_sub, Int32.ofInt_mul, q_of, q_of]
    rw [e1, q_ofr (by omega) (by omega)]
    omega
  refine w_st rfl (fun _ => rfl) ?_
  refine w_st rfl (fun _ => rfl) ?_
  show w_T L xs d m_X12_wrongs 2 [(0, .ref 100), (1, .int f), (2, .int w)] [.ref 100, .ref 100] (p_S S0 pl cs sk cl (Int32.ofInt 0) nc sg ov bh op na) R Q
  refine w_get rfl v_tyM rfl ?_
  show w_T L xs d m_X12_wrongs 5 [(0, .ref 100), (1, .int f), (2, .int w)] [.int (Int32.ofInt 0), .ref 100] (p_S S0 pl cs sk cl (Int32.ofInt 0) nc sg ov bh op na) R Q
  refine w_st rfl (fun _ => rfl) ?_
  refine w_st rfl (fun _ => rfl) ?_
  refine w_st rfl (fun _ => rfl) ?_
  refine w_st rfl (fun _ => rfl) ?_
  refine w_st rfl (fun _ => rfl) ?_
  refine w_st rfl (fun _ => rfl) ?_
  show w_T L xs d m_X12_wrongs 22 [(0, .ref 100), (1, .int f), (2, .int w)] [.int (((Int32.ofInt (-1000)) * f) - w), .ref 100] (p_S S0 pl cs sk cl (Int32.ofInt 0) nc sg ov bh op na) R Q
  refine w_put rfl v_tyM rfl rfl rfl ?_
  refine w_eqS p_wbd ?_
  show w_T L xs d m_X12_wrongs 25 [(0, .ref 100), (1, .int f), (2, .int w)] [] (p_S S0 pl cs sk cl (((Int32.ofInt (-1000)) * f) - w) nc sg ov bh op na) R Q
  refine w_ret rfl rfl ?_
  exact hq _ e
theorem h_emG {c a : Int32} (hcs : cs < 240) (hq : Q none (p_S S0 pl (cs + 1) sk cl (Int32.ofInt 0) (upd nc cs c) sg ov bh op (upd na cs a)) R) : w_T L xs (d + 1) m_X12_emit 0 (lv_args 0 [.ref 100, .int c, .int a]) [] (p_S S0 pl cs sk cl (Int32.ofInt 0) nc sg ov bh op na) R Q := by
  refine w_st rfl (fun _ => rfl) ?_
  show w_T L xs (d + 1) m_X12_emit 1 [(0, .ref 100), (1, .int c), (2, .int a)] [.ref 100] (p_S S0 pl cs sk cl (Int32.ofInt 0) nc sg ov bh op na) R Q
  refine w_cv rfl (by decide) mt_X12_isGood v_tyM rfl rfl rfl (Nat.le_of_ble_eq_true rfl) (Nat.le_of_ble_eq_true rfl) (Nat.le_of_ble_eq_true rfl) ?_
  show w_T L xs _ m_X12_isGood 0 (lv_args 0 [.ref 100]) [] (p_S S0 pl cs sk cl (Int32.ofInt 0) nc sg ov bh op na) R _
  refine h_isGT ?_
  show w_T L xs (d + 1) m_X12_emit 4 [(0, .ref 100), (1, .int c), (2, .int a)] [.int (Int32.ofInt 1)] (p_S S0 pl cs sk cl (Int32.ofInt 0) nc sg ov bh op na) R Q
  refine w_st rfl (fun _ => rfl) ?_
  refine w_st rfl (fun _ => rfl) ?_
  show w_T L xs (d + 1) m_X12_emit 9 [(0, .ref 100), (1, .int c), (2, .int a)] [.ref 100] (p_S S0 pl cs sk cl (Int32.ofInt 0) nc sg ov bh op na) R Q
  refine w_getr rfl v_tyM rfl ?_
  refine w_st rfl (fun _ => rfl) ?_
  show w_T L xs (d + 1) m_X12_emit 13 [(0, .ref 100), (1, .int c), (2, .int a)] [.ref 100, .ref 112] (p_S S0 pl cs sk cl (Int32.ofInt 0) nc sg ov bh op na) R Q
  refine w_get rfl v_tyM rfl ?_
  refine w_st rfl (fun _ => rfl) ?_
  show w_T L xs (d + 1) m_X12_emit 17 [(0, .ref 100), (1, .int c), (2, .int a)] [.int c, .int (Int32.ofInt (cs : Int)), .ref 112] (p_S S0 pl cs sk cl (Int32.ofInt 0) nc sg ov bh op na) R Q
  refine w_iast rfl rfl (by rw [w_nat (by omega)]; omega) (by rw [w_nat (by omega)]; omega) ?_
  refine w_eqS (p_wnc (w_natn (by omega)) (by omega)) ?_
  refine w_st rfl (fun _ => rfl) ?_
  show w_T L xs (d + 1) m_X12_emit 19 [(0, .ref 100), (1, .int c), (2, .int a)] [.ref 100] (p_S S0 pl cs sk cl (Int32.ofInt 0) (upd nc cs c) sg ov bh op na) R Q
  refine w_getr rfl v_tyM rfl ?_
  refine w_st rfl (fun _ => rfl) ?_
  show w_T L xs (d + 1) m_X12_emit 23 [(0, .ref 100), (1, .int c), (2, .int a)] [.ref 100, .ref 113] (p_S S0 pl cs sk cl (Int32.ofInt 0) (upd nc cs c) sg ov bh op na) R Q
  refine w_get rfl v_tyM rfl ?_
  refine w_st rfl (fun _ => rfl) ?_
  show w_T L xs (d + 1) m_X12_emit 27 [(0, .ref 100), (1, .int c), (2, .int a)] [.int a, .int (Int32.ofInt (cs : Int)), .ref 113] (p_S S0 pl cs sk cl (Int32.ofInt 0) (upd nc cs c) sg ov bh op na) R Q
  refine w_iast rfl rfl (by rw [w_nat (by omega)]; omega) (by rw [w_nat (by omega)]; omega) ?_
  refine w_eqS (p_wna (w_natn (by omega)) (by omega)) ?_
  refine w_st rfl (fun _ => rfl) ?_
  refine w_st rfl (fun _ => rfl) ?_
  show w_T L xs (d + 1) m_X12_emit 30 [(0, .ref 100), (1, .int c), (2, .int a)] [.ref 100, .ref 100] (p_S S0 pl cs sk cl (Int32.ofInt 0) (upd nc cs c) sg ov bh op (upd na cs a)) R Q
  refine w_get rfl v_tyM rfl ?_
  refine w_st rfl (fun _ => rfl) ?_
  refine w_st rfl (fun _ => rfl) ?_
  show w_T L xs (d + 1) m_X12_emit 35 [(0, .ref 100), (1, .int c), (2, .int a)] [.int ((Int32.ofInt (cs : Int)) + (Int32.ofInt 1)), .ref 100] (p_S S0 pl cs sk cl (Int32.ofInt 0) (upd nc cs c) sg ov bh op (upd na cs a)) R Q
  refine w_put rfl v_tyM rfl rfl rfl ?_
  refine w_eqS (p_wcs (w_inc _)) ?_
  show w_T L xs (d + 1) m_X12_emit 38 [(0, .ref 100), (1, .int c), (2, .int a)] [] (p_S S0 pl (cs + 1) sk cl (Int32.ofInt 0) (upd nc cs c) sg ov bh op (upd na cs a)) R Q
  refine w_ret rfl rfl ?_
  exact hq
theorem h_emB {c a : Int32} (hbd : bd.toInt < 0) (hq : Q none (p_S S0 pl cs sk cl bd nc sg ov bh op na) R) : w_T L xs (d + 1) m_X12_emit 0 (lv_args 0 [.ref 100, .int c, .int a]) [] (p_S S0 pl cs sk cl bd nc sg ov bh op na) R Q := by
  refine w_st rfl (fun _ => rfl) ?_
  show w_T L xs (d + 1) m_X12_emit 1 [(0, .ref 100), (1, .int c), (2, .int a)] [.ref 100] (p_S S0 pl cs sk cl bd nc sg ov bh op na) R Q
  refine w_cv rfl (by decide) mt_X12_isGood v_tyM rfl rfl rfl (Nat.le_of_ble_eq_true rfl) (Nat.le_of_ble_eq_true rfl) (Nat.le_of_ble_eq_true rfl) ?_
  show w_T L xs _ m_X12_isGood 0 (lv_args 0 [.ref 100]) [] (p_S S0 pl cs sk cl bd nc sg ov bh op na) R _
  refine h_isGF hbd ?_
  show w_T L xs (d + 1) m_X12_emit 4 [(0, .ref 100), (1, .int c), (2, .int a)] [.int (Int32.ofInt 0)] (p_S S0 pl cs sk cl bd nc sg ov bh op na) R Q
  refine w_st rfl (fun _ => rfl) ?_
  show w_T L xs (d + 1) m_X12_emit 7 [(0, .ref 100), (1, .int c), (2, .int a)] [] (p_S S0 pl cs sk cl bd nc sg ov bh op na) R Q
  refine w_ret rfl rfl ?_
  exact hq
theorem h_top (hsk : sk ≤ 240) (hq : Q (some (.int (p_tp sg sk))) (p_S S0 pl cs sk cl bd nc sg ov bh op na) R) : w_T L xs d m_X12_top 0 (lv_args 0 [.ref 100]) [] (p_S S0 pl cs sk cl bd nc sg ov bh op na) R Q := by
  have e := w_nat (k := sk) (by omega)
  have z0 : (0 : Int32).toInt = 0 := rfl
  refine w_st rfl (fun _ => rfl) ?_
  show w_T L xs d m_X12_top 1 [(0, .ref 100)] [.ref 100] (p_S S0 pl cs sk cl bd nc sg ov bh op na) R Q
  refine w_get rfl v_tyM rfl ?_
  show w_T L xs d m_X12_top 4 [(0, .ref 100)] [.int (Int32.ofInt (sk : Int))] (p_S S0 pl cs sk cl bd nc sg ov bh op na) R Q
  refine w_br (P := (Int32.ofInt (sk : Int)) ≤ 0) rfl (fun _ => rfl) (fun h4 => ?_) (fun h4 => ?_)
  · have hh : p_tp sg sk = Int32.ofInt 0 := if_neg (by rw [q_le32, e] at h4; omega)
    refine w_st rfl (fun _ => rfl) ?_
    show w_T L xs d m_X12_top 22 [(0, .ref 100)] [.int (Int32.ofInt 0)] (p_S S0 pl cs sk cl bd nc sg ov bh op na) R Q
    refine w_ret rfl (by rfl) ?_
    rw [hh] at hq; exact hq
  · have hp : 0 < sk := by rw [q_le32, e] at h4; omega
    have hh : p_tp sg sk = sg (sk - 1) := if_pos hp
    refine w_st rfl (fun _ => rfl) ?_
    show w_T L xs d m_X12_top 8 [(0, .ref 100)] [.ref 100] (p_S S0 pl cs sk cl bd nc sg ov bh op na) R Q
    refine w_getr rfl v_tyM rfl ?_
    refine w_st rfl (fun _ => rfl) ?_
    show w_T L xs d m_X12_top 12 [(0, .ref 100)] [.ref 100, .ref 114] (p_S S0 pl cs sk cl bd nc sg ov bh op na) R Q
    refine w_get rfl v_tyM rfl ?_
    refine w_st rfl (fun _ => rfl) ?_
    refine w_st rfl (fun _ => rfl) ?_
    show w_T L xs d m_X12_top 17 [(0, .ref 100)] [.int ((Int32.ofInt (sk : Int)) - (Int32.ofInt 1)), .ref 114] (p_S S0 pl cs sk cl bd nc sg ov bh op na) R Q
    refine w_iald rfl rfl (by rw [w_dec2 hp, w_nat (by omega)]; omega) (by rw [w_dec2 hp, w_nat (by omega)]; omega) ?_
    rw [w_dec2 hp, w_natn (by omega), p_rsg (by omega)]
    refine w_st rfl (fun _ => rfl) ?_
    show w_T L xs d m_X12_top 22 [(0, .ref 100)] [.int (sg (sk - 1))] (p_S S0 pl cs sk cl bd nc sg ov bh op na) R Q
    refine w_ret rfl (by rfl) ?_
    rw [hh] at hq; exact hq
theorem h_puts {c : Int32} (h1 : sk < 240) (h2 : pl < 1000) (hq : Q none (p_S S0 (pl + 1) cs (sk + 1) cl bd nc (upd sg sk c) ov bh op na) R) : w_T L xs d m_X12_puts 0 (lv_args 0 [.ref 100, .int c]) [] (p_S S0 pl cs sk cl bd nc sg ov bh op na) R Q := by
  refine w_st rfl (fun _ => rfl) ?_
  show w_T L xs d m_X12_puts 1 [(0, .ref 100), (1, .int c)] [.ref 100] (p_S S0 pl cs sk cl bd nc sg ov bh op na) R Q
  refine w_getr rfl v_tyM rfl ?_
  refine w_st rfl (fun _ => rfl) ?_
  show w_T L xs d m_X12_puts 5 [(0, .ref 100), (1, .int c)] [.ref 100, .ref 114] (p_S S0 pl cs sk cl bd nc sg ov bh op na) R Q
  refine w_get rfl v_tyM rfl ?_
  refine w_st rfl (fun _ => rfl) ?_
  show w_T L xs d m_X12_puts 9 [(0, .ref 100), (1, .int c)] [.int c, .int (Int32.ofInt (sk : Int)), .ref 114] (p_S S0 pl cs sk cl bd nc sg ov bh op na) R Q
  refine w_iast rfl rfl (by rw [w_nat (by omega)]; omega) (by rw [w_nat (by omega)]; omega) ?_
  refine w_eqS (p_wsg (w_natn (by omega)) (by omega)) ?_
  refine w_st rfl (fun _ => rfl) ?_
  refine w_st rfl (fun _ => rfl) ?_
  show w_T L xs d m_X12_puts 12 [(0, .ref 100), (1, .int c)] [.ref 100, .ref 100] (p_S S0 pl cs sk cl bd nc (upd sg sk c) ov bh op na) R Q
  refine w_get rfl v_tyM rfl ?_
  refine w_st rfl (fun _ => rfl) ?_
  refine w_st rfl (fun _ => rfl) ?_
  show w_T L xs d m_X12_puts 17 [(0, .ref 100), (1, .int c)] [.int ((Int32.ofInt (sk : Int)) + (Int32.ofInt 1)), .ref 100] (p_S S0 pl cs sk cl bd nc (upd sg sk c) ov bh op na) R Q
  refine w_put rfl v_tyM rfl rfl rfl ?_
  refine w_eqS (p_wsk (w_inc _)) ?_
  refine w_st rfl (fun _ => rfl) ?_
  refine w_st rfl (fun _ => rfl) ?_
  show w_T L xs d m_X12_puts 22 [(0, .ref 100), (1, .int c)] [.ref 100, .ref 100] (p_S S0 pl cs (sk + 1) cl bd nc (upd sg sk c) ov bh op na) R Q
  refine w_get rfl v_tyM rfl ?_
  refine w_st rfl (fun _ => rfl) ?_
  refine w_st rfl (fun _ => rfl) ?_
  show w_T L xs d m_X12_puts 27 [(0, .ref 100), (1, .int c)] [.int ((Int32.ofInt (pl : Int)) + (Int32.ofInt 1)), .ref 100] (p_S S0 pl cs (sk + 1) cl bd nc (upd sg sk c) ov bh op na) R Q
  refine w_put rfl v_tyM rfl rfl rfl ?_
  refine w_eqS (p_wpl (w_inc _)) ?_
  show w_T L xs d m_X12_puts 30 [(0, .ref 100), (1, .int c)] [] (p_S S0 (pl + 1) cs (sk + 1) cl bd nc (upd sg sk c) ov bh op na) R Q
  refine w_ret rfl rfl ?_
  exact hq
theorem h_opens (h1 : sk < 240) (h2 : pl ≤ 240) (kg : ∀ o, Q none (p_S S0 (pl + 1) cs (sk + 1) cl (Int32.ofInt 0) nc (upd sg sk (p_h S0 pl)) ov bh o na) R) (kb : ∀ o (b : Int32), b.toInt < 0 → Q none (p_S S0 (pl + 1) cs (sk + 1) cl b nc (upd sg sk (p_h S0 pl)) ov bh o na) R) : w_T L xs (d + 1) m_X12_opens 0 (lv_args 0 [.ref 100]) [] (p_S S0 pl cs sk cl (Int32.ofInt 0) nc sg ov bh op na) R Q := by
  refine w_st rfl (fun _ => rfl) ?_
  show w_T L xs (d + 1) m_X12_opens 1 [(0, .ref 100)] [.ref 100] (p_S S0 pl cs sk cl (Int32.ofInt 0) nc sg ov bh op na) R Q
  refine w_get rfl v_tyM rfl ?_
  refine w_st rfl (fun _ => rfl) ?_
  show w_T L xs (d + 1) m_X12_opens 6 [(0, .ref 100)] [.int (Int32.ofInt 6), .int op] (p_S S0 pl cs sk cl (Int32.ofInt 0) nc sg ov bh op na) R Q
  refine w_br (P := ¬ op = (Int32.ofInt 6)) rfl (fun _ => rfl) (fun h6 => ?_) (fun h6 => ?_)
  · refine w_st rfl (fun _ => rfl) ?_
    refine w_st rfl (fun _ => rfl) ?_
    show w_T L xs (d + 1) m_X12_opens 20 [(0, .ref 100)] [.ref 100, .ref 100] (p_S S0 pl cs sk cl (Int32.ofInt 0) nc sg ov bh op na) R Q
    refine w_get rfl v_tyM rfl ?_
    refine w_st rfl (fun _ => rfl) ?_
    refine w_st rfl (fun _ => rfl) ?_
    show w_T L xs (d + 1) m_X12_opens 25 [(0, .ref 100)] [.int (op + (Int32.ofInt 1)), .ref 100] (p_S S0 pl cs sk cl (Int32.ofInt 0) nc sg ov bh op na) R Q
    refine w_put rfl v_tyM rfl rfl rfl ?_
    refine w_eqS p_wop ?_
    refine w_st rfl (fun _ => rfl) ?_
    refine w_st rfl (fun _ => rfl) ?_
    show w_T L xs (d + 1) m_X12_opens 30 [(0, .ref 100)] [.ref 100, .ref 100] (p_S S0 pl cs sk cl (Int32.ofInt 0) nc sg ov bh (op + (Int32.ofInt 1)) na) R Q
    refine w_cv rfl (by decide) mt_X12_here v_tyM rfl rfl rfl (Nat.le_of_ble_eq_true rfl) (Nat.le_of_ble_eq_true rfl) (Nat.le_of_ble_eq_true rfl) ?_
    show w_T L xs _ m_X12_here 0 (lv_args 0 [.ref 100]) [] (p_S S0 pl cs sk cl (Int32.ofInt 0) nc sg ov bh (op + (Int32.ofInt 1)) na) R _
    refine h_here (by omega) ?_
    show w_T L xs (d + 1) m_X12_opens 33 [(0, .ref 100)] [.int (p_h S0 pl), .ref 100] (p_S S0 pl cs sk cl (Int32.ofInt 0) nc sg ov bh (op + (Int32.ofInt 1)) na) R Q
    refine w_cv rfl (by decide) mt_X12_puts v_tyM rfl rfl rfl (Nat.le_of_ble_eq_true rfl) (Nat.le_of_ble_eq_true rfl) (Nat.le_of_ble_eq_true rfl) ?_
    show w_T L xs _ m_X12_puts 0 (lv_args 0 [.ref 100, .int (p_h S0 pl)]) [] (p_S S0 pl cs sk cl (Int32.ofInt 0) nc sg ov bh (op + (Int32.ofInt 1)) na) R _
    refine h_puts (by omega) (by omega) ?_
    show w_T L xs (d + 1) m_X12_opens 36 [(0, .ref 100)] [] (p_S S0 (pl + 1) cs (sk + 1) cl (Int32.ofInt 0) nc (upd sg sk (p_h S0 pl)) ov bh (op + (Int32.ofInt 1)) na) R Q
    refine w_ret rfl rfl ?_
    exact kg _
  · refine w_st rfl (fun _ => rfl) ?_
    refine w_st rfl (fun _ => rfl) ?_
    refine w_st rfl (fun _ => rfl) ?_
    show w_T L xs (d + 1) m_X12_opens 12 [(0, .ref 100)] [.ref 100, .int (Int32.ofInt 5), .ref 100] (p_S S0 pl cs sk cl (Int32.ofInt 0) nc sg ov bh op na) R Q
    refine w_get rfl v_tyM rfl ?_
    show w_T L xs (d + 1) m_X12_opens 15 [(0, .ref 100)] [.int (Int32.ofInt (pl : Int)), .int (Int32.ofInt 5), .ref 100] (p_S S0 pl cs sk cl (Int32.ofInt 0) nc sg ov bh op na) R Q
    refine w_cv rfl (by decide) mt_X12_wrongs v_tyM rfl rfl rfl (Nat.le_of_ble_eq_true rfl) (Nat.le_of_ble_eq_true rfl) (Nat.le_of_ble_eq_true rfl) ?_
    show w_T L xs _ m_X12_wrongs 0 (lv_args 0 [.ref 100, .int (Int32.ofInt 5), .int (Int32.ofInt (pl : Int))]) [] (p_S S0 pl cs sk cl (Int32.ofInt 0) nc sg ov bh op na) R _
    refine h_wr (by decide) (by decide) (by rw [w_nat (by omega)]; omega) (by rw [w_nat (by omega)]; omega) (fun b15 hb15 => ?_)
    refine w_st rfl (fun _ => rfl) ?_
    refine w_st rfl (fun _ => rfl) ?_
    show w_T L xs (d + 1) m_X12_opens 20 [(0, .ref 100)] [.ref 100, .ref 100] (p_S S0 pl cs sk cl b15 nc sg ov bh op na) R Q
    refine w_get rfl v_tyM rfl ?_
    refine w_st rfl (fun _ => rfl) ?_
    refine w_st rfl (fun _ => rfl) ?_
    show w_T L xs (d + 1) m_X12_opens 25 [(0, .ref 100)] [.int (op + (Int32.ofInt 1)), .ref 100] (p_S S0 pl cs sk cl b15 nc sg ov bh op na) R Q
    refine w_put rfl v_tyM rfl rfl rfl ?_
    refine w_eqS p_wop ?_
    refine w_st rfl (fun _ => rfl) ?_
    refine w_st rfl (fun _ => rfl) ?_
    show w_T L xs (d + 1) m_X12_opens 30 [(0, .ref 100)] [.ref 100, .ref 100] (p_S S0 pl cs sk cl b15 nc sg ov bh (op + (Int32.ofInt 1)) na) R Q
    refine w_cv rfl (by decide) mt_X12_here v_tyM rfl rfl rfl (Nat.le_of_ble_eq_true rfl) (Nat.le_of_ble_eq_true rfl) (Nat.le_of_ble_eq_true rfl) ?_
    show w_T L xs _ m_X12_here 0 (lv_args 0 [.ref 100]) [] (p_S S0 pl cs sk cl b15 nc sg ov bh (op + (Int32.ofInt 1)) na) R _
    refine h_here (by omega) ?_
    show w_T L xs (d + 1) m_X12_opens 33 [(0, .ref 100)] [.int (p_h S0 pl), .ref 100] (p_S S0 pl cs sk cl b15 nc sg ov bh (op + (Int32.ofInt 1)) na) R Q
    refine w_cv rfl (by decide) mt_X12_puts v_tyM rfl rfl rfl (Nat.le_of_ble_eq_true rfl) (Nat.le_of_ble_eq_true rfl) (Nat.le_of_ble_eq_true rfl) ?_
    show w_T L xs _ m_X12_puts 0 (lv_args 0 [.ref 100, .int (p_h S0 pl)]) [] (p_S S0 pl cs sk cl b15 nc sg ov bh (op + (Int32.ofInt 1)) na) R _
    refine h_puts (by omega) (by omega) ?_
    show w_T L xs (d + 1) m_X12_opens 36 [(0, .ref 100)] [] (p_S S0 (pl + 1) cs (sk + 1) cl b15 nc (upd sg sk (p_h S0 pl)) ov bh (op + (Int32.ofInt 1)) na) R Q
    refine w_ret rfl rfl ?_
    exact kb _ _ hb15
theorem h_dig (hpl : pl ≤ 240) (k1 : 48 ≤ (p_h S0 pl).toInt ∧ (p_h S0 pl).toInt ≤ 57 → Q (some (.int (Int32.ofInt 1))) (p_S S0 pl cs sk cl bd nc sg ov bh op na) R) (k0 : ¬ (48 ≤ (p_h S0 pl).toInt ∧ (p_h S0 pl).toInt ≤ 57) → Q (some (.int (Int32.ofInt 0))) (p_S S0 pl cs sk cl bd nc sg ov bh op na) R) : w_T L xs (d + 1) m_X12_seesDigit 0 (lv_args 0 [.ref 100]) [] (p_S S0 pl cs sk cl bd nc sg ov bh op na) R Q := by
  have e48 : (Int64.ofInt 48).toInt = 48 := by decide
  have e57 : (Int64.ofInt 57).toInt = 57 := by decide
  have e0 := Int32.toInt_toInt64 (p_h S0 pl)
  refine w_st rfl (fun _ => rfl) ?_
  show w_T L xs (d + 1) m_X12_seesDigit 1 [(0, .ref 100)] [.ref 100] (p_S S0 pl cs sk cl bd nc sg ov bh op na) R Q
  refine w_cv rfl (by decide) mt_X12_here v_tyM rfl rfl rfl (Nat.le_of_ble_eq_true rfl) (Nat.le_of_ble_eq_true rfl) (Nat.le_of_ble_eq_true rfl) ?_
  show w_T L xs _ m_X12_here 0 (lv_args 0 [.ref 100]) [] (p_S S0 pl cs sk cl bd nc sg ov bh op na) R _
  refine h_here (by omega) ?_
  refine w_st rfl (fun _ => rfl) ?_
  refine w_st rfl (fun _ => rfl) ?_
  refine w_st rfl (fun _ => rfl) ?_
  show w_T L xs (d + 1) m_X12_seesDigit 11 [(0, .ref 100)] [.long (Int64.ofInt 57), .long (Int64.ofInt 48), .long ((p_h S0 pl).toInt64)] (p_S S0 pl cs sk cl bd nc sg ov bh op na) R Q
  refine w_cs rfl (by decide) mt_X12_lies (fun _ => rfl) (Nat.le_of_ble_eq_true rfl) (Nat.le_of_ble_eq_true rfl) ?_
  show w_T L xs _ m_X12_lies 0 (lv_args 0 [.long ((p_h S0 pl).toInt64), .long (Int64.ofInt 48), .long (Int64.ofInt 57)]) [] (p_S S0 pl cs sk cl bd nc sg ov bh op na) R _
  refine h_lies _ _ _ ?_
  rw [e48, e57, e0]
  by_cases hd : 48 ≤ (p_h S0 pl).toInt ∧ (p_h S0 pl).toInt ≤ 57
  · rw [if_pos hd]
    show w_T L xs (d + 1) m_X12_seesDigit 14 [(0, .ref 100)] [.int (Int32.ofInt 1)] (p_S S0 pl cs sk cl bd nc sg ov bh op na) R Q
    refine w_ret rfl (by rfl) ?_
    exact k1 hd
  · rw [if_neg hd]
    show w_T L xs (d + 1) m_X12_seesDigit 14 [(0, .ref 100)] [.int (Int32.ofInt 0)] (p_S S0 pl cs sk cl bd nc sg ov bh op na) R Q
    refine w_ret rfl (by rfl) ?_
    exact k0 hd
end PH
