/-! timetable -/
noncomputable abbrev m_X12_monthTold : g_M := (g_cn 12, yX12_monthTold, cX12_monthTold, 4, none, g_look2 ttX12_monthTold)
set_option maxRecDepth 20000 in
theorem mt_X12_monthTold : g_mt 224 = some m_X12_monthTold := rfl
noncomputable abbrev m_X12_repeats : g_M := (g_cn 12, yX12_repeats, cX12_repeats, 6, none, g_look2 ttX12_repeats)
set_option maxRecDepth 20000 in
theorem mt_X12_repeats : g_mt 222 = some m_X12_repeats := rfl
noncomputable abbrev m_X12_timesTold : g_M := (g_cn 12, yX12_timesTold, cX12_timesTold, 1, (some .int), g_look2 ttX12_timesTold)
set_option maxRecDepth 20000 in
theorem mt_X12_timesTold : g_mt 223 = some m_X12_timesTold := rfl
noncomputable abbrev m_X12_timetable : g_M := (g_cn 12, yX12_timetable, cX12_timetable, 4, (some .int), g_look2 ttX12_timetable)
set_option maxRecDepth 20000 in
theorem mt_X12_timetable : g_mt 225 = some m_X12_timetable := rfl
theorem w_irem {L : Nat} {xs : Nat → Int32} {d : Nat} {M : g_M} {pc : Nat} {lc : g_Lc} {S : v_Sf} {R : v_Rf} {Q : Option Value → v_Sf → v_Rf → Prop} {len x y : Nat} {z : Int} {t : List Value} {a b : Int32} (hen : M.2.2.2.2.2 pc = some ((.irem, len), x, y, z)) (hb : ¬ b = 0) (k : w_T L xs d M (pc + len) lc (.int (a - a / b * b) :: t) S R Q) : w_T L xs d M pc lc (.int b :: .int a :: t) S R Q := by
  refine w_one hen (g_st_stk (en := ((.irem, len), x, y, z)) ?_) k
  simp only [g_stk, g_d2, if_neg hb]
def t_S (T0 : v_Sf) (nm om : Nat) (bg : Bool) (nt fo ot pp : Nat → Int32) : v_Sf := fun a j =>
  bif Nat.beq a 99 then (bif Nat.beq j 64 then Int32.ofInt (nm : Int) else bif Nat.beq j 65 then Int32.ofInt (om : Int) else bif Nat.beq j 66 then p_b bg else T0 99 j) else bif Nat.beq a 133 && Nat.blt j 48 then nt j else bif Nat.beq a 134 && Nat.blt j 2 then fo j else bif Nat.beq a 135 && Nat.blt j 2 then ot j else bif Nat.beq a 136 && Nat.blt j 2 then pp j else T0 a j
section TW
variable {T0 : v_Sf} {nm om : Nat} {bg : Bool} {nt fo ot pp : Nat → Int32} {S0 S1 : v_Sf} {pl cs sk cl : Nat} {bd : Int32} {nc sg : Nat → Int32} {ov bh : Bool} {op : Int32} {na : Nat → Int32}
theorem p_in (h : S0 = S1) : p_S S0 pl cs sk cl bd nc sg ov bh op na = p_S S1 pl cs sk cl bd nc sg ov bh op na := by rw [h]
theorem t_wnm {v : Int32} {k : Nat} (hv : v = Int32.ofInt (k : Int)) : v_ur (t_S T0 nm om bg nt fo ot pp) 99 (upd ((t_S T0 nm om bg nt fo ot pp) 99) 64 v) = t_S T0 k om bg nt fo ot pp := by
  refine p_ext hv.symm (fun a' j' h => ?_)
  unfold t_S
  by_cases ha : a' = 99
  · have hj : ¬ j' = 64 := fun e => h ⟨ha, e⟩
    rw [ha, p_bq hj]
    rfl
  · rw [p_bq ha]
    rfl
theorem t_wom {v : Int32} {k : Nat} (hv : v = Int32.ofInt (k : Int)) : v_ur (t_S T0 nm om bg nt fo ot pp) 99 (upd ((t_S T0 nm om bg nt fo ot pp) 99) 65 v) = t_S T0 nm k bg nt fo ot pp := by
  refine p_ext hv.symm (fun a' j' h => ?_)
  unfold t_S
  by_cases ha : a' = 99
  · have hj : ¬ j' = 65 := fun e => h ⟨ha, e⟩
    rw [ha, p_bq hj]
    rfl
  · rw [p_bq ha]
    rfl
theorem t_wbg {v : Int32} {b : Bool} (hv : v = p_b b) : v_ur (t_S T0 nm om bg nt fo ot pp) 99 (upd ((t_S T0 nm om bg nt fo ot pp) 99) 66 v) = t_S T0 nm om b nt fo ot pp := by
  refine p_ext hv.symm (fun a' j' h => ?_)
  unfold t_S
  by_cases ha : a' = 99
  · have hj : ¬ j' = 66 := fun e => h ⟨ha, e⟩
    rw [ha, p_bq hj]
    rfl
  · rw [p_bq ha]
    rfl
theorem pt_rnt {k : Nat} (hk : k < 48) : (p_S (t_S T0 nm om bg nt fo ot pp) pl cs sk cl bd nc sg ov bh op na) 133 k = nt k := by
  unfold p_S t_S
  rw [p_blt hk]
  rfl
theorem t_rnt {k : Nat} (hk : k < 48) : (t_S T0 nm om bg nt fo ot pp) 133 k = nt k := by
  unfold t_S
  rw [p_blt hk]
  rfl
theorem t_wnt {k : Nat} {v : Int32} (hk : k < 48) : v_ur (t_S T0 nm om bg nt fo ot pp) 133 (upd ((t_S T0 nm om bg nt fo ot pp) 133) k v) = t_S T0 nm om bg (upd nt k v) fo ot pp := by
  refine p_ext ?_ (fun a' j' h => ?_)
  · unfold t_S
    rw [p_blt hk]
    show upd nt k v k = v
    simp [upd]
  · unfold t_S
    by_cases ha : a' = 133
    · have hj : ¬ j' = k := fun e => h ⟨ha, e⟩
      have e : upd nt k v j' = nt j' := by simp [upd, hj]
      rw [e]
    · rw [p_bq ha]
      rfl
theorem pt_rfo {k : Nat} (hk : k < 2) : (p_S (t_S T0 nm om bg nt fo ot pp) pl cs sk cl bd nc sg ov bh op na) 134 k = fo k := by
  unfold p_S t_S
  rw [p_blt hk]
  rfl
theorem t_rfo {k : Nat} (hk : k < 2) : (t_S T0 nm om bg nt fo ot pp) 134 k = fo k := by
  unfold t_S
  rw [p_blt hk]
  rfl
theorem t_wfo {k : Nat} {v : Int32} (hk : k < 2) : v_ur (t_S T0 nm om bg nt fo ot pp) 134 (upd ((t_S T0 nm om bg nt fo ot pp) 134) k v) = t_S T0 nm om bg nt (upd fo k v) ot pp := by
  refine p_ext ?_ (fun a' j' h => ?_)
  · unfold t_S
    rw [p_blt hk]
    show upd fo k v k = v
    simp [upd]
  · unfold t_S
    by_cases ha : a' = 134
    · have hj : ¬ j' = k := fun e => h ⟨ha, e⟩
      have e : upd fo k v j' = fo j' := by simp [upd, hj]
      rw [e]
    · rw [p_bq ha]
      rfl
theorem pt_rot {k : Nat} (hk : k < 2) : (p_S (t_S T0 nm om bg nt fo ot pp) pl cs sk cl bd nc sg ov bh op na) 135 k = ot k := by
  unfold p_S t_S
  rw [p_blt hk]
  rfl
theorem t_rot {k : Nat} (hk : k < 2) : (t_S T0 nm om bg nt fo ot pp) 135 k = ot k := by
  unfold t_S
  rw [p_blt hk]
  rfl
theorem t_wot {k : Nat} {v : Int32} (hk : k < 2) : v_ur (t_S T0 nm om bg nt fo ot pp) 135 (upd ((t_S T0 nm om bg nt fo ot pp) 135) k v) = t_S T0 nm om bg nt fo (upd ot k v) pp := by
  refine p_ext ?_ (fun a' j' h => ?_)
  · unfold t_S
    rw [p_blt hk]
    show upd ot k v k = v
    simp [upd]
  · unfold t_S
    by_cases ha : a' = 135
    · have hj : ¬ j' = k := fun e => h ⟨ha, e⟩
      have e : upd ot k v j' = ot j' := by simp [upd, hj]
      rw [e]
    · rw [p_bq ha]
      rfl
theorem pt_rpp {k : Nat} (hk : k < 2) : (p_S (t_S T0 nm om bg nt fo ot pp) pl cs sk cl bd nc sg ov bh op na) 136 k = pp k := by
  unfold p_S t_S
  rw [p_blt hk]
  rfl
theorem t_rpp {k : Nat} (hk : k < 2) : (t_S T0 nm om bg nt fo ot pp) 136 k = pp k := by
  unfold t_S
  rw [p_blt hk]
  rfl
theorem t_wpp {k : Nat} {v : Int32} (hk : k < 2) : v_ur (t_S T0 nm om bg nt fo ot pp) 136 (upd ((t_S T0 nm om bg nt fo ot pp) 136) k v) = t_S T0 nm om bg nt fo ot (upd pp k v) := by
  refine p_ext ?_ (fun a' j' h => ?_)
  · unfold t_S
    rw [p_blt hk]
    show upd pp k v k = v
    simp [upd]
  · unfold t_S
    by_cases ha : a' = 136
    · have hj : ¬ j' = k := fun e => h ⟨ha, e⟩
      have e : upd pp k v j' = pp j' := by simp [upd, hj]
      rw [e]
    · rw [p_bq ha]
      rfl
theorem t_wo {a k : Nat} {v : Int32} (ha : a ≠ 99 ∧ a ≠ 133 ∧ a ≠ 134 ∧ a ≠ 135 ∧ a ≠ 136) : v_ur (t_S T0 nm om bg nt fo ot pp) a (upd ((t_S T0 nm om bg nt fo ot pp) a) k v) = t_S (v_ur T0 a (upd (T0 a) k v)) nm om bg nt fo ot pp := by
  obtain ⟨a1, a2, a3, a4, a5⟩ := ha
  refine p_ext ?_ (fun a' j' h => ?_)
  · unfold t_S
    rw [p_bq a1, p_bq a2, p_bq a3, p_bq a4, p_bq a5]
    show v_ur T0 a (upd (T0 a) k v) a k = v
    exact w_urs
  · unfold t_S
    rw [w_urn h, w_urn (fun e => a1 e.1.symm)]
theorem t_at {a j : Nat} (h1 : a = 99 → ¬ j = 64 ∧ ¬ j = 65 ∧ ¬ j = 66) (h2 : a = 133 → ¬ j < 48) (h3 : (a = 134 ∨ a = 135 ∨ a = 136) → ¬ j < 2) : (t_S T0 nm om bg nt fo ot pp) a j = T0 a j := by
  unfold t_S
  by_cases ha : a = 99
  · obtain ⟨y1, y2, y3⟩ := h1 ha
    rw [p_bq y1, p_bq y2, p_bq y3, ha]
    rfl
  · rw [p_bq ha]
    by_cases hr : a = 133
    · rw [p_blf (h2 hr), hr, Bool.and_false]
      rfl
    · rw [p_bq hr]
      by_cases hs : a = 134 ∨ a = 135 ∨ a = 136
      · rw [p_blf (h3 hs), Bool.and_false, Bool.and_false, Bool.and_false]
        rfl
      · rw [p_bq (show ¬ a = 134 by omega), p_bq (show ¬ a = 135 by omega), p_bq (show ¬ a = 136 by omega)]
        rfl
def t_M (nm om : Nat) (nt fo ot pp : Nat → Int32) : Prop := nm ≤ 48 ∧ om ≤ 2 ∧ (∀ j, j < 48 → -1 ≤ (nt j).toInt ∧ (nt j).toInt ≤ 9) ∧ (∀ j, j < 2 → 0 ≤ (fo j).toInt ∧ (fo j).toInt ≤ 48 ∧ 0 ≤ (ot j).toInt ∧ (ot j).toInt ≤ 9) ∧ (∀ j, j < om → (fo j).toInt ≤ (nm : Int) ∧ 1 ≤ (ot j).toInt ∧ 0 ≤ (pp j).toInt ∧ (pp j).toInt ≤ 1000)
theorem t_Tb {R : v_Rf} (hT : v_Tb v_ty T0 R) (hM : t_M nm om nt fo ot pp) : v_Tb v_ty (t_S T0 nm om bg nt fo ot pp) R := by
  obtain ⟨m1, m2, m3, m4, m5⟩ := hM
  intro a c hc
  by_cases ha : a = 99
  · subst ha
    rw [v_tyM] at hc
    cases hc
    intro j ft hj
    by_cases y1 : j = 64
    · subst y1
      cases (Option.some.inj (show some (.inl (0, 48)) = some ft from hj))
      exact ⟨by show (0 : Int) ≤ (Int32.ofInt (nm : Int)).toInt; rw [w_nat (by omega)]; omega, by show (Int32.ofInt (nm : Int)).toInt ≤ (48 : Int); rw [w_nat (by omega)]; omega⟩
    · by_cases y2 : j = 65
      · subst y2
        cases (Option.some.inj (show some (.inl (0, 2)) = some ft from hj))
        exact ⟨by show (0 : Int) ≤ (Int32.ofInt (om : Int)).toInt; rw [w_nat (by omega)]; omega, by show (Int32.ofInt (om : Int)).toInt ≤ (2 : Int); rw [w_nat (by omega)]; omega⟩
      · by_cases y3 : j = 66
        · subst y3
          cases (Option.some.inj (show some (.inl (0, 1)) = some ft from hj))
          exact p_b01 bg
        · exact p_TF (t_at (fun _ => ⟨y1, y2, y3⟩) (fun h => by omega) (fun h => by omega)) (hT 99 _ v_tyM j ft hj)
  · by_cases h1 : a = 133
    · subst h1
      cases (Option.some.inj ((show v_ty 133 = some (.inl (0, 48, (-1), 9)) from rfl).symm.trans hc))
      exact fun j hj => by rw [t_rnt hj]; exact m3 j hj
    · by_cases h2 : a = 134
      · subst h2
        cases (Option.some.inj ((show v_ty 134 = some (.inl (0, 2, 0, 48)) from rfl).symm.trans hc))
        exact fun j hj => by rw [t_rfo hj]; exact ⟨(m4 j hj).1, (m4 j hj).2.1⟩
      · by_cases h3 : a = 135
        · subst h3
          cases (Option.some.inj ((show v_ty 135 = some (.inl (0, 2, 0, 9)) from rfl).symm.trans hc))
          exact fun j hj => by rw [t_rot hj]; exact ⟨(m4 j hj).2.2.1, (m4 j hj).2.2.2⟩
        · by_cases h4 : a = 136
          · subst h4
            cases (Option.some.inj ((show v_ty 136 = some (.inl (0, 2, (-2147483648), 2147483647)) from rfl).symm.trans hc))
            exact fun j _ => q_rng _
          · exact p_TC (fun j => t_at (fun h => absurd h ha) (fun h => absurd h h1) (fun h => by omega)) (hT a c hc)
theorem t_of {R : v_Rf} (hT : v_Tb v_ty T0 R) : ∃ (nm om : Nat) (bg : Bool), T0 = t_S T0 nm om bg (T0 133) (T0 134) (T0 135) (T0 136) := by
  have h3 : 0 ≤ (T0 99 64).toInt ∧ (T0 99 64).toInt ≤ 48 := hT 99 _ v_tyM 64 _ rfl
  have h7 : 0 ≤ (T0 99 65).toInt ∧ (T0 99 65).toInt ≤ 2 := hT 99 _ v_tyM 65 _ rfl
  have h9 : 0 ≤ (T0 99 66).toInt ∧ (T0 99 66).toInt ≤ 1 := hT 99 _ v_tyM 66 _ rfl
  obtain ⟨o, ho⟩ := p_bof h9.1 h9.2
  refine ⟨(T0 99 64).toInt.toNat, (T0 99 65).toInt.toNat, o, ?_⟩
  funext a j
  by_cases ha : a = 99
  · subst ha
    by_cases y1 : j = 64
    · subst y1; exact p_nof h3.1
    · by_cases y2 : j = 65
      · subst y2; exact p_nof h7.1
      · by_cases y3 : j = 66
        · subst y3; exact ho
        · exact (t_at (fun _ => ⟨y1, y2, y3⟩) (fun h => by omega) (fun h => by omega)).symm
  · by_cases g1 : a = 133 ∧ j < 48
    · rw [g1.1]; exact (t_rnt g1.2).symm
    · by_cases g2 : a = 134 ∧ j < 2
      · rw [g2.1]; exact (t_rfo g2.2).symm
      · by_cases g3 : a = 135 ∧ j < 2
        · rw [g3.1]; exact (t_rot g3.2).symm
        · by_cases g4 : a = 136 ∧ j < 2
          · rw [g4.1]; exact (t_rpp g4.2).symm
          · exact (t_at (fun h => absurd h ha) (fun h => by omega) (fun h => by omega)).symm
end TW
theorem t_dg0 : ∀ i : Fin 256, 50 ≤ (Int32.ofInt (((i : Nat) : Int) - 128) &&& Int32.ofInt 255).toInt → (Int32.ofInt (((i : Nat) : Int) - 128) &&& Int32.ofInt 255).toInt ≤ 57 → 2 ≤ (Int32.ofInt (((i : Nat) : Int) - 128) - Int32.ofInt 48).toInt ∧ (Int32.ofInt (((i : Nat) : Int) - 128) - Int32.ofInt 48).toInt ≤ 9 := by decide +kernel
theorem t_dig {x : Int32} (h1 : -128 ≤ x.toInt) (h2 : x.toInt ≤ 127) (h3 : 50 ≤ (x &&& Int32.ofInt 255).toInt ∧ (x &&& Int32.ofInt 255).toInt ≤ 57) : 2 ≤ (x - Int32.ofInt 48).toInt ∧ (x - Int32.ofInt 48).toInt ≤ 9 := by
  have e : x = Int32.ofInt ((((x.toInt + 128).toNat : Nat) : Int) - 128) := by rw [show (((x.toInt + 128).toNat : Nat) : Int) - 128 = x.toInt by omega, q_of]
  have k := t_dg0 ⟨(x.toInt + 128).toNat, by omega⟩
  dsimp only at k
  rw [← e] at k
  exact k h3.1 h3.2
section TT
variable {L : Nat} {xs : Nat → Int32} {d : Nat} {R : v_Rf} {Q : Option Value → v_Sf → v_Rf → Prop} {S0 : v_Sf} {pl cs sk cl : Nat} {bd : Int32} {nc sg : Nat → Int32} {ov bh : Bool} {op : Int32} {na : Nat → Int32}
variable {T0 : v_Sf} {nm om : Nat} {bg : Bool} {nt fo ot pp : Nat → Int32}
theorem h_times (hpl : pl ≤ 240) (he : (S0 99 4).toInt ≤ 240) (htp : ∀ j, j < 260 → -128 ≤ (S0 100 j).toInt ∧ (S0 100 j).toInt ≤ 127) (K : ∀ m pl' : Nat, 1 ≤ m → m ≤ 9 → pl ≤ pl' → pl' ≤ 240 → Q (some (.int (Int32.ofInt (m : Int)))) (p_S S0 (pl') cs sk cl bd nc sg ov bh op na) R) : w_T L xs (d + 1) m_X12_timesTold 0 (lv_args 0 [.ref 100]) [] (p_S S0 pl cs sk cl bd nc sg ov bh op na) R Q := by
  have e50 : (Int64.ofInt 50).toInt = 50 := by decide
  have e57 : (Int64.ofInt 57).toInt = 57 := by decide
  have e0 := Int32.toInt_toInt64 (p_h S0 pl)
  refine w_st rfl (fun _ => rfl) ?_
  show w_T L xs (d + 1) m_X12_timesTold 1 [(0, .ref 100)] [.ref 100] (p_S S0 pl cs sk cl bd nc sg ov bh op na) R Q
  refine w_cv rfl (by decide) mt_X12_here v_tyM rfl rfl rfl (Nat.le_of_ble_eq_true rfl) (Nat.le_of_ble_eq_true rfl) (Nat.le_of_ble_eq_true rfl) ?_
  show w_T L xs _ m_X12_here 0 (lv_args 0 [.ref 100]) [] (p_S S0 pl cs sk cl bd nc sg ov bh op na) R _
  refine h_here (by omega) ?_
  refine w_st rfl (fun _ => rfl) ?_
  refine w_st rfl (fun _ => rfl) ?_
  refine w_st rfl (fun _ => rfl) ?_
  show w_T L xs (d + 1) m_X12_timesTold 11 [(0, .ref 100)] [.long (Int64.ofInt 57), .long (Int64.ofInt 50), .long ((p_h S0 pl).toInt64)] (p_S S0 pl cs sk cl bd nc sg ov bh op na) R Q
  refine w_cs rfl (by decide) mt_X12_lies (fun _ => rfl) (Nat.le_of_ble_eq_true rfl) (Nat.le_of_ble_eq_true rfl) ?_
  show w_T L xs _ m_X12_lies 0 (lv_args 0 [.long ((p_h S0 pl).toInt64), .long (Int64.ofInt 50), .long (Int64.ofInt 57)]) [] (p_S S0 pl cs sk cl bd nc sg ov bh op na) R _
  refine h_lies _ _ _ ?_
  rw [e50, e57, e0]
  by_cases hd : 50 ≤ (p_h S0 pl).toInt ∧ (p_h S0 pl).toInt ≤ 57
  · rw [if_pos hd]
    show w_T L xs (d + 1) m_X12_timesTold 14 [(0, .ref 100)] [.int (Int32.ofInt 1)] (p_S S0 pl cs sk cl bd nc sg ov bh op na) R Q
    refine w_st rfl (fun _ => rfl) ?_
    show w_T L xs (d + 1) m_X12_timesTold 19 [(0, .ref 100)] [] (p_S S0 pl cs sk cl bd nc sg ov bh op na) R Q
    have hne : ¬ p_h S0 pl = Int32.ofInt 0 := fun e => by
      rw [e] at hd
      exact absurd hd.1 (by decide)
    have hlt := p_h_lt hne
    have hx : p_h S0 pl = S0 100 pl &&& Int32.ofInt 255 := if_pos hlt
    rw [hx] at hd
    have hdg := t_dig (htp pl (by omega)).1 (htp pl (by omega)).2 hd
    refine w_st rfl (fun _ => rfl) ?_
    refine w_st rfl (fun _ => rfl) ?_
    show w_T L xs (d + 1) m_X12_timesTold 21 [(0, .ref 100)] [.ref 100, .ref 100] (p_S S0 pl cs sk cl bd nc sg ov bh op na) R Q
    refine w_get rfl v_tyM rfl ?_
    refine w_st rfl (fun _ => rfl) ?_
    refine w_st rfl (fun _ => rfl) ?_
    show w_T L xs (d + 1) m_X12_timesTold 26 [(0, .ref 100)] [.int ((Int32.ofInt (pl : Int)) + (Int32.ofInt 1)), .ref 100] (p_S S0 pl cs sk cl bd nc sg ov bh op na) R Q
    refine w_put rfl v_tyM rfl rfl rfl ?_
    refine w_eqS (p_wpl (w_inc _)) ?_
    refine w_st rfl (fun _ => rfl) ?_
    show w_T L xs (d + 1) m_X12_timesTold 30 [(0, .ref 100)] [.ref 100] (p_S S0 (pl + 1) cs sk cl bd nc sg ov bh op na) R Q
    refine w_getr rfl v_tyM rfl ?_
    refine w_st rfl (fun _ => rfl) ?_
    show w_T L xs (d + 1) m_X12_timesTold 34 [(0, .ref 100)] [.ref 100, .ref 101] (p_S S0 (pl + 1) cs sk cl bd nc sg ov bh op na) R Q
    refine w_get rfl v_tyM rfl ?_
    refine w_st rfl (fun _ => rfl) ?_
    refine w_st rfl (fun _ => rfl) ?_
    show w_T L xs (d + 1) m_X12_timesTold 39 [(0, .ref 100)] [.int ((Int32.ofInt ((pl + 1 : Nat) : Int)) - (Int32.ofInt 1)), .ref 101] (p_S S0 (pl + 1) cs sk cl bd nc sg ov bh op na) R Q
    refine w_bald rfl rfl (by decide) (by rw [w_dec2 (by omega), w_nat (by omega)]; omega) (by rw [w_dec2 (by omega), w_nat (by omega)]; omega) ?_
    rw [w_dec2 (by omega), w_natn (by omega), Nat.add_sub_cancel]
    refine w_st rfl (fun _ => rfl) ?_
    refine w_st rfl (fun _ => rfl) ?_
    show w_T L xs (d + 1) m_X12_timesTold 43 [(0, .ref 100)] [.int ((S0 100 pl) - (Int32.ofInt 48))] (p_S S0 (pl + 1) cs sk cl bd nc sg ov bh op na) R Q
    refine w_ret rfl (by rfl) ?_
    rw [p_nof (show 0 ≤ (S0 100 pl - Int32.ofInt 48).toInt by omega)]
    exact K _ (pl + 1) (by omega) (by omega) (by omega) (by omega)
  · rw [if_neg hd]
    show w_T L xs (d + 1) m_X12_timesTold 14 [(0, .ref 100)] [.int (Int32.ofInt 0)] (p_S S0 pl cs sk cl bd nc sg ov bh op na) R Q
    refine w_st rfl (fun _ => rfl) ?_
    refine w_st rfl (fun _ => rfl) ?_
    show w_T L xs (d + 1) m_X12_timesTold 18 [(0, .ref 100)] [.int (Int32.ofInt 1)] (p_S S0 pl cs sk cl bd nc sg ov bh op na) R Q
    refine w_ret rfl (by rfl) ?_
    exact K 1 pl (by omega) (by omega) (by omega) (by omega)
theorem h_rp1 {f z m p : Nat} {wh : Int32} (hp : z * m = p) (hfp : f + p ≤ 48) (hfz : f + z ≤ 48) (K : ∀ nt' : Nat → Int32, (∀ j, j < 48 → -1 ≤ (nt' j).toInt ∧ (nt' j).toInt ≤ 9) → Q none (p_S (t_S T0 (f + p) om bg (nt') fo ot pp) pl cs sk cl (Int32.ofInt 0) nc sg ov bh op na) R) : ∀ (c k : Nat) (nt : Nat → Int32), k + c = p → (∀ j, j < 48 → -1 ≤ (nt j).toInt ∧ (nt j).toInt ≤ 9) → w_T L xs (d + 1) m_X12_repeats 38 [(5, .int (Int32.ofInt (k : Int))), (4, .int (Int32.ofInt (z : Int))), (0, .ref 100), (1, .int (Int32.ofInt (f : Int))), (2, .int (Int32.ofInt (m : Int))), (3, .int wh)] [] (p_S (t_S T0 nm om bg nt fo ot pp) pl cs sk cl (Int32.ofInt 0) nc sg ov bh op na) R Q := by
  have em : Int32.ofInt (z : Int) * Int32.ofInt (m : Int) = Int32.ofInt (p : Int) := by rw [← Int32.ofInt_mul, ← hp]; rfl
  have ea : Int32.ofInt (f : Int) + Int32.ofInt (z : Int) * Int32.ofInt (m : Int) = Int32.ofInt ((f + p : Nat) : Int) := by rw [em, w_addn]
  intro c
  induction c with
  | zero =>
    intro k nt hk hn
    have ek := w_nat (k := k) (by omega)
    have ep := w_nat (k := p) (by omega)
    refine w_st rfl (fun _ => rfl) ?_
    refine w_st rfl (fun _ => rfl) ?_
    refine w_st rfl (fun _ => rfl) ?_
    refine w_st rfl (fun _ => rfl) ?_
    show w_T L xs (d + 1) m_X12_repeats 44 [(5, .int (Int32.ofInt (k : Int))), (4, .int (Int32.ofInt (z : Int))), (0, .ref 100), (1, .int (Int32.ofInt (f : Int))), (2, .int (Int32.ofInt (m : Int))), (3, .int wh)] [.int ((Int32.ofInt (z : Int)) * (Int32.ofInt (m : Int))), .int (Int32.ofInt (k : Int))] (p_S (t_S T0 nm om bg nt fo ot pp) pl cs sk cl (Int32.ofInt 0) nc sg ov bh op na) R Q
    refine w_br (P := ((Int32.ofInt (z : Int)) * (Int32.ofInt (m : Int))) ≤ (Int32.ofInt (k : Int))) rfl (fun _ => rfl) (fun h44 => ?_) (fun h44 => ?_)
    · refine w_st rfl (fun _ => rfl) ?_
      refine w_st rfl (fun _ => rfl) ?_
      refine w_st rfl (fun _ => rfl) ?_
      refine w_st rfl (fun _ => rfl) ?_
      refine w_st rfl (fun _ => rfl) ?_
      refine w_st rfl (fun _ => rfl) ?_
      show w_T L xs (d + 1) m_X12_repeats 81 [(5, .int (Int32.ofInt (k : Int))), (4, .int (Int32.ofInt (z : Int))), (0, .ref 100), (1, .int (Int32.ofInt (f : Int))), (2, .int (Int32.ofInt (m : Int))), (3, .int wh)] [.int ((Int32.ofInt (f : Int)) + ((Int32.ofInt (z : Int)) * (Int32.ofInt (m : Int)))), .ref 100] (p_S (t_S T0 nm om bg nt fo ot pp) pl cs sk cl (Int32.ofInt 0) nc sg ov bh op na) R Q
      refine w_put rfl v_tyM rfl rfl rfl ?_
      refine w_eqS (p_wo99 (by decide)) ?_
      refine w_eqS (p_in (t_wnm ea)) ?_
      show w_T L xs (d + 1) m_X12_repeats 84 [(5, .int (Int32.ofInt (k : Int))), (4, .int (Int32.ofInt (z : Int))), (0, .ref 100), (1, .int (Int32.ofInt (f : Int))), (2, .int (Int32.ofInt (m : Int))), (3, .int wh)] [] (p_S (t_S T0 (f + p) om bg nt fo ot pp) pl cs sk cl (Int32.ofInt 0) nc sg ov bh op na) R Q
      refine w_ret rfl rfl ?_
      exact K _ hn
    · exfalso; rw [em, q_le32, ek, ep] at h44; omega
  | succ c ih =>
    intro k nt hk hn
    have ek := w_nat (k := k) (by omega)
    have ep := w_nat (k := p) (by omega)
    have hz : 0 < z := Nat.pos_of_ne_zero (fun e => by rw [e, Nat.zero_mul] at hp; omega)
    have ez := w_nat (k := z) (by omega)
    have hnz : ¬ Int32.ofInt (z : Int) = 0 := fun e => by
      rw [e] at ez
      have z0 : (0 : Int32).toInt = 0 := rfl
      omega
    have hr := v_rem_ok (x := Int32.ofInt (k : Int)) (y := Int32.ofInt (z : Int)) (p := (0, 48)) (q := (1, (z : Int))) ⟨by rw [ek]; show (0 : Int) ≤ _; omega, by rw [ek]; show _ ≤ (48 : Int); omega⟩ ⟨by rw [ez]; show (1 : Int) ≤ _; omega, by rw [ez]; exact Int.le_refl _⟩ (Int.le_refl _) (Int.le_refl _)
    generalize hrI : Int32.ofInt (k : Int) - Int32.ofInt (k : Int) / Int32.ofInt (z : Int) * Int32.ofInt (z : Int) = rI at hr
    have hr2 : rI.toInt ≤ (z : Int) - 1 := by
      exact Int.le_trans hr.2 (v_mn_r _ _)
    obtain ⟨r, er, hrz⟩ : ∃ r : Nat, rI = Int32.ofInt (r : Int) ∧ r < z := ⟨rI.toInt.toNat, p_nof hr.1, by have := hr.1; omega⟩
    refine w_st rfl (fun _ => rfl) ?_
    refine w_st rfl (fun _ => rfl) ?_
    refine w_st rfl (fun _ => rfl) ?_
    refine w_st rfl (fun _ => rfl) ?_
    show w_T L xs (d + 1) m_X12_repeats 44 [(5, .int (Int32.ofInt (k : Int))), (4, .int (Int32.ofInt (z : Int))), (0, .ref 100), (1, .int (Int32.ofInt (f : Int))), (2, .int (Int32.ofInt (m : Int))), (3, .int wh)] [.int ((Int32.ofInt (z : Int)) * (Int32.ofInt (m : Int))), .int (Int32.ofInt (k : Int))] (p_S (t_S T0 nm om bg nt fo ot pp) pl cs sk cl (Int32.ofInt 0) nc sg ov bh op na) R Q
    refine w_br (P := ((Int32.ofInt (z : Int)) * (Int32.ofInt (m : Int))) ≤ (Int32.ofInt (k : Int))) rfl (fun _ => rfl) (fun h44 => ?_) (fun h44 => ?_)
    · exfalso; rw [em, q_le32, ek, ep] at h44; omega
    · refine w_st rfl (fun _ => rfl) ?_
      show w_T L xs (d + 1) m_X12_repeats 48 [(5, .int (Int32.ofInt (k : Int))), (4, .int (Int32.ofInt (z : Int))), (0, .ref 100), (1, .int (Int32.ofInt (f : Int))), (2, .int (Int32.ofInt (m : Int))), (3, .int wh)] [.ref 100] (p_S (t_S T0 nm om bg nt fo ot pp) pl cs sk cl (Int32.ofInt 0) nc sg ov bh op na) R Q
      refine w_getr rfl v_tyM rfl ?_
      refine w_st rfl (fun _ => rfl) ?_
      refine w_st rfl (fun _ => rfl) ?_
      refine w_st rfl (fun _ => rfl) ?_
      refine w_st rfl (fun _ => rfl) ?_
      show w_T L xs (d + 1) m_X12_repeats 56 [(5, .int (Int32.ofInt (k : Int))), (4, .int (Int32.ofInt (z : Int))), (0, .ref 100), (1, .int (Int32.ofInt (f : Int))), (2, .int (Int32.ofInt (m : Int))), (3, .int wh)] [.ref 100, .int ((Int32.ofInt (f : Int)) + (Int32.ofInt (k : Int))), .ref 134] (p_S (t_S T0 nm om bg nt fo ot pp) pl cs sk cl (Int32.ofInt 0) nc sg ov bh op na) R Q
      refine w_getr rfl v_tyM rfl ?_
      refine w_st rfl (fun _ => rfl) ?_
      refine w_st rfl (fun _ => rfl) ?_
      refine w_st rfl (fun _ => rfl) ?_
      show w_T L xs (d + 1) m_X12_repeats 64 [(5, .int (Int32.ofInt (k : Int))), (4, .int (Int32.ofInt (z : Int))), (0, .ref 100), (1, .int (Int32.ofInt (f : Int))), (2, .int (Int32.ofInt (m : Int))), (3, .int wh)] [.int (Int32.ofInt (z : Int)), .int (Int32.ofInt (k : Int)), .int (Int32.ofInt (f : Int)), .ref 134, .int ((Int32.ofInt (f : Int)) + (Int32.ofInt (k : Int))), .ref 134] (p_S (t_S T0 nm om bg nt fo ot pp) pl cs sk cl (Int32.ofInt 0) nc sg ov bh op na) R Q
      refine w_irem rfl hnz ?_
      rw [hrI, er]
      refine w_st rfl (fun _ => rfl) ?_
      show w_T L xs (d + 1) m_X12_repeats 66 [(5, .int (Int32.ofInt (k : Int))), (4, .int (Int32.ofInt (z : Int))), (0, .ref 100), (1, .int (Int32.ofInt (f : Int))), (2, .int (Int32.ofInt (m : Int))), (3, .int wh)] [.int ((Int32.ofInt (f : Int)) + (Int32.ofInt (r : Int))), .ref 134, .int ((Int32.ofInt (f : Int)) + (Int32.ofInt (k : Int))), .ref 134] (p_S (t_S T0 nm om bg nt fo ot pp) pl cs sk cl (Int32.ofInt 0) nc sg ov bh op na) R Q
      refine w_iald rfl rfl (by rw [w_addn, w_nat (by omega)]; omega) (by rw [w_addn, w_nat (by omega)]; omega) ?_
      rw [w_addn, w_natn (by omega), pt_rnt (by omega)]
      show w_T L xs (d + 1) m_X12_repeats 67 [(5, .int (Int32.ofInt (k : Int))), (4, .int (Int32.ofInt (z : Int))), (0, .ref 100), (1, .int (Int32.ofInt (f : Int))), (2, .int (Int32.ofInt (m : Int))), (3, .int wh)] [.int (nt (f + r)), .int ((Int32.ofInt (f : Int)) + (Int32.ofInt (k : Int))), .ref 134] (p_S (t_S T0 nm om bg nt fo ot pp) pl cs sk cl (Int32.ofInt 0) nc sg ov bh op na) R Q
      refine w_iast rfl rfl (by rw [w_addn, w_nat (by omega)]; omega) (by rw [w_addn, w_nat (by omega)]; omega) ?_
      refine w_eqS (p_wor (by decide) (by rw [w_addn, w_natn (by omega)])) ?_
      refine w_eqS (p_in (t_wnt (by omega))) ?_
      refine w_st rfl (fun _ => rfl) ?_
      refine w_st rfl (fun _ => rfl) ?_
      show w_T L xs (d + 1) m_X12_repeats 38 [(5, .int ((Int32.ofInt (k : Int)) + (Int32.ofInt 1))), (4, .int (Int32.ofInt (z : Int))), (0, .ref 100), (1, .int (Int32.ofInt (f : Int))), (2, .int (Int32.ofInt (m : Int))), (3, .int wh)] [] (p_S (t_S T0 nm om bg (upd nt (f + k) (nt (f + r))) fo ot pp) pl cs sk cl (Int32.ofInt 0) nc sg ov bh op na) R Q
      rw [w_inc]
      refine ih (k + 1) _ (by omega) (fun j hj => ?_)
      by_cases e : j = f + k
      · rw [e, p_upe]; exact hn _ (by omega)
      · rw [p_upn e]; exact hn j hj
theorem h_rp8 {f z m : Nat} {wh : Int32} (hz : f + z = nm) (hm1 : 1 ≤ m) (hm : m ≤ 9) (hnm : nm ≤ 48) (w1 : 0 ≤ wh.toInt) (w2 : wh.toInt ≤ 1000) (hn : ∀ j, j < 48 → -1 ≤ (nt j).toInt ∧ (nt j).toInt ≤ 9) (K : ∀ (nm' : Nat) (nt' : Nat → Int32), nm ≤ nm' → nm' ≤ 48 → (∀ j, j < 48 → -1 ≤ (nt' j).toInt ∧ (nt' j).toInt ≤ 9) → Q none (p_S (t_S T0 (nm') om bg (nt') fo ot pp) pl cs sk cl (Int32.ofInt 0) nc sg ov bh op na) R) (Kb : ∀ b : Int32, b.toInt < 0 → Q none (p_S (t_S T0 nm om bg nt fo ot pp) pl cs sk cl b nc sg ov bh op na) R) : w_T L xs (d + 1) m_X12_repeats 8 [(4, .int (Int32.ofInt (z : Int))), (0, .ref 100), (1, .int (Int32.ofInt (f : Int))), (2, .int (Int32.ofInt (m : Int))), (3, .int wh)] [] (p_S (t_S T0 nm om bg nt fo ot pp) pl cs sk cl (Int32.ofInt 0) nc sg ov bh op na) R Q := by
  obtain ⟨p, hp⟩ : ∃ p, z * m = p := ⟨_, rfl⟩
  have hp1 : z ≤ p := by rw [← hp]; exact Nat.le_mul_of_pos_right z hm1
  have hp2 : p ≤ 48 * 9 := by rw [← hp]; exact Nat.mul_le_mul (by omega) hm
  have em : Int32.ofInt (z : Int) * Int32.ofInt (m : Int) = Int32.ofInt (p : Int) := by rw [← Int32.ofInt_mul, ← hp]; rfl
  have ea : Int32.ofInt (f : Int) + Int32.ofInt (z : Int) * Int32.ofInt (m : Int) = Int32.ofInt ((f + p : Nat) : Int) := by rw [em, w_addn]
  have e48 : (Int32.ofInt 48).toInt = 48 := by decide
  refine w_st rfl (fun _ => rfl) ?_
  refine w_st rfl (fun _ => rfl) ?_
  refine w_st rfl (fun _ => rfl) ?_
  refine w_st rfl (fun _ => rfl) ?_
  refine w_st rfl (fun _ => rfl) ?_
  refine w_st rfl (fun _ => rfl) ?_
  show w_T L xs (d + 1) m_X12_repeats 16 [(4, .int (Int32.ofInt (z : Int))), (0, .ref 100), (1, .int (Int32.ofInt (f : Int))), (2, .int (Int32.ofInt (m : Int))), (3, .int wh)] [.int (Int32.ofInt 48), .int ((Int32.ofInt (f : Int)) + ((Int32.ofInt (z : Int)) * (Int32.ofInt (m : Int))))] (p_S (t_S T0 nm om bg nt fo ot pp) pl cs sk cl (Int32.ofInt 0) nc sg ov bh op na) R Q
  refine w_br (P := ((Int32.ofInt (f : Int)) + ((Int32.ofInt (z : Int)) * (Int32.ofInt (m : Int)))) ≤ (Int32.ofInt 48)) rfl (fun _ => rfl) (fun h16 => ?_) (fun h16 => ?_)
  · have h48 : f + p ≤ 48 := by
      rw [ea, q_le32, w_nat (by omega), e48] at h16
      omega
    refine w_st rfl (fun _ => rfl) ?_
    show w_T L xs (d + 1) m_X12_repeats 27 [(4, .int (Int32.ofInt (z : Int))), (0, .ref 100), (1, .int (Int32.ofInt (f : Int))), (2, .int (Int32.ofInt (m : Int))), (3, .int wh)] [.ref 100] (p_S (t_S T0 nm om bg nt fo ot pp) pl cs sk cl (Int32.ofInt 0) nc sg ov bh op na) R Q
    refine w_cv rfl (by decide) mt_X12_isGood v_tyM rfl rfl rfl (Nat.le_of_ble_eq_true rfl) (Nat.le_of_ble_eq_true rfl) (Nat.le_of_ble_eq_true rfl) ?_
    show w_T L xs _ m_X12_isGood 0 (lv_args 0 [.ref 100]) [] (p_S (t_S T0 nm om bg nt fo ot pp) pl cs sk cl (Int32.ofInt 0) nc sg ov bh op na) R _
    refine h_isGT ?_
    show w_T L xs (d + 1) m_X12_repeats 30 [(4, .int (Int32.ofInt (z : Int))), (0, .ref 100), (1, .int (Int32.ofInt (f : Int))), (2, .int (Int32.ofInt (m : Int))), (3, .int wh)] [.int (Int32.ofInt 1)] (p_S (t_S T0 nm om bg nt fo ot pp) pl cs sk cl (Int32.ofInt 0) nc sg ov bh op na) R Q
    refine w_st rfl (fun _ => rfl) ?_
    refine w_st rfl (fun _ => rfl) ?_
    refine w_st rfl (fun _ => rfl) ?_
    show w_T L xs (d + 1) m_X12_repeats 38 [(5, .int (Int32.ofInt (z : Int))), (4, .int (Int32.ofInt (z : Int))), (0, .ref 100), (1, .int (Int32.ofInt (f : Int))), (2, .int (Int32.ofInt (m : Int))), (3, .int wh)] [] (p_S (t_S T0 nm om bg nt fo ot pp) pl cs sk cl (Int32.ofInt 0) nc sg ov bh op na) R Q
    refine h_rp1 hp h48 (by omega) (fun nt' hn' => K _ nt' (by omega) h48 hn') (p - z) z nt (by omega) hn
  · refine w_st rfl (fun _ => rfl) ?_
    refine w_st rfl (fun _ => rfl) ?_
    refine w_st rfl (fun _ => rfl) ?_
    show w_T L xs (d + 1) m_X12_repeats 23 [(4, .int (Int32.ofInt (z : Int))), (0, .ref 100), (1, .int (Int32.ofInt (f : Int))), (2, .int (Int32.ofInt (m : Int))), (3, .int wh)] [.int wh, .int (Int32.ofInt 6), .ref 100] (p_S (t_S T0 nm om bg nt fo ot pp) pl cs sk cl (Int32.ofInt 0) nc sg ov bh op na) R Q
    refine w_cv rfl (by decide) mt_X12_wrongs v_tyM rfl rfl rfl (Nat.le_of_ble_eq_true rfl) (Nat.le_of_ble_eq_true rfl) (Nat.le_of_ble_eq_true rfl) ?_
    show w_T L xs _ m_X12_wrongs 0 (lv_args 0 [.ref 100, .int (Int32.ofInt 6), .int wh]) [] (p_S (t_S T0 nm om bg nt fo ot pp) pl cs sk cl (Int32.ofInt 0) nc sg ov bh op na) R _
    refine h_wr (by decide) (by decide) w1 w2 (fun b23 hb23 => ?_)
    refine w_st rfl (fun _ => rfl) ?_
    show w_T L xs (d + 1) m_X12_repeats 27 [(4, .int (Int32.ofInt (z : Int))), (0, .ref 100), (1, .int (Int32.ofInt (f : Int))), (2, .int (Int32.ofInt (m : Int))), (3, .int wh)] [.ref 100] (p_S (t_S T0 nm om bg nt fo ot pp) pl cs sk cl b23 nc sg ov bh op na) R Q
    refine w_cv rfl (by decide) mt_X12_isGood v_tyM rfl rfl rfl (Nat.le_of_ble_eq_true rfl) (Nat.le_of_ble_eq_true rfl) (Nat.le_of_ble_eq_true rfl) ?_
    show w_T L xs _ m_X12_isGood 0 (lv_args 0 [.ref 100]) [] (p_S (t_S T0 nm om bg nt fo ot pp) pl cs sk cl b23 nc sg ov bh op na) R _
    refine h_isGF hb23 ?_
    show w_T L xs (d + 1) m_X12_repeats 30 [(4, .int (Int32.ofInt (z : Int))), (0, .ref 100), (1, .int (Int32.ofInt (f : Int))), (2, .int (Int32.ofInt (m : Int))), (3, .int wh)] [.int (Int32.ofInt 0)] (p_S (t_S T0 nm om bg nt fo ot pp) pl cs sk cl b23 nc sg ov bh op na) R Q
    refine w_st rfl (fun _ => rfl) ?_
    show w_T L xs (d + 1) m_X12_repeats 33 [(4, .int (Int32.ofInt (z : Int))), (0, .ref 100), (1, .int (Int32.ofInt (f : Int))), (2, .int (Int32.ofInt (m : Int))), (3, .int wh)] [] (p_S (t_S T0 nm om bg nt fo ot pp) pl cs sk cl b23 nc sg ov bh op na) R Q
    refine w_ret rfl rfl ?_
    exact Kb _ hb23
theorem h_repeats {fr tm wh : Int32} (f1 : 0 ≤ fr.toInt) (f2 : fr.toInt ≤ (nm : Int)) (t1 : 1 ≤ tm.toInt) (t2 : tm.toInt ≤ 9) (hnm : nm ≤ 48) (w1 : 0 ≤ wh.toInt) (w2 : wh.toInt ≤ 1000) (hn : ∀ j, j < 48 → -1 ≤ (nt j).toInt ∧ (nt j).toInt ≤ 9) (K : ∀ (nm' : Nat) (nt' : Nat → Int32), nm ≤ nm' → nm' ≤ 48 → (∀ j, j < 48 → -1 ≤ (nt' j).toInt ∧ (nt' j).toInt ≤ 9) → Q none (p_S (t_S T0 (nm') om bg (nt') fo ot pp) pl cs sk cl (Int32.ofInt 0) nc sg ov bh op na) R) (Kb : ∀ b : Int32, b.toInt < 0 → Q none (p_S (t_S T0 nm om bg nt fo ot pp) pl cs sk cl b nc sg ov bh op na) R) : w_T L xs (d + 1) m_X12_repeats 0 (lv_args 0 [.ref 100, .int fr, .int tm, .int wh]) [] (p_S (t_S T0 nm om bg nt fo ot pp) pl cs sk cl (Int32.ofInt 0) nc sg ov bh op na) R Q := by
  obtain ⟨f, rfl, hf⟩ : ∃ f : Nat, fr = Int32.ofInt (f : Int) ∧ f ≤ nm := ⟨_, p_nof f1, by omega⟩
  obtain ⟨m, rfl, hm1, hm2⟩ : ∃ m : Nat, tm = Int32.ofInt (m : Int) ∧ 1 ≤ m ∧ m ≤ 9 := ⟨_, p_nof (by omega), by omega, by omega⟩
  obtain ⟨z, hz⟩ : ∃ z, f + z = nm := ⟨nm - f, by omega⟩
  have es : Int32.ofInt (nm : Int) - Int32.ofInt (f : Int) = Int32.ofInt (z : Int) := by
    rw [← Int32.ofInt_sub]
    congr 1
    omega
  refine w_st rfl (fun _ => rfl) ?_
  show w_T L xs (d + 1) m_X12_repeats 1 [(0, .ref 100), (1, .int (Int32.ofInt (f : Int))), (2, .int (Int32.ofInt (m : Int))), (3, .int wh)] [.ref 100] (p_S (t_S T0 nm om bg nt fo ot pp) pl cs sk cl (Int32.ofInt 0) nc sg ov bh op na) R Q
  refine w_get rfl v_tyM rfl ?_
  refine w_st rfl (fun _ => rfl) ?_
  refine w_st rfl (fun _ => rfl) ?_
  refine w_st rfl (fun _ => rfl) ?_
  show w_T L xs (d + 1) m_X12_repeats 8 [(4, .int ((Int32.ofInt (nm : Int)) - (Int32.ofInt (f : Int)))), (0, .ref 100), (1, .int (Int32.ofInt (f : Int))), (2, .int (Int32.ofInt (m : Int))), (3, .int wh)] [] (p_S (t_S T0 nm om bg nt fo ot pp) pl cs sk cl (Int32.ofInt 0) nc sg ov bh op na) R Q
  rw [es]
  exact h_rp8 hz hm1 hm2 hnm w1 w2 hn K Kb
theorem h_ml {m : Nat} {wh : Int32} (hpl : pl ≤ 240) (hm : nm + m ≤ 48) (hh : p_h T0 pl = Int32.ofInt 46 ∨ (65 ≤ (p_h T0 pl).toInt ∧ (p_h T0 pl).toInt ≤ 74)) (K : ∀ nt' : Nat → Int32, (∀ j, j < 48 → -1 ≤ (nt' j).toInt ∧ (nt' j).toInt ≤ 9) → w_T L xs (d + 2) m_X12_monthTold 286 [(3, .int (Int32.ofInt (m : Int))), (2, .int (Int32.ofInt (m : Int))), (1, .int wh), (0, .ref 100)] [] (p_S (t_S T0 nm om bg (nt') fo ot pp) pl cs sk cl (Int32.ofInt 0) nc sg ov bh op na) R Q) : ∀ (c k : Nat) (nt : Nat → Int32), k + c = m → (∀ j, j < 48 → -1 ≤ (nt j).toInt ∧ (nt j).toInt ≤ 9) → w_T L xs (d + 2) m_X12_monthTold 244 [(3, .int (Int32.ofInt (k : Int))), (2, .int (Int32.ofInt (m : Int))), (1, .int wh), (0, .ref 100)] [] (p_S (t_S T0 nm om bg nt fo ot pp) pl cs sk cl (Int32.ofInt 0) nc sg ov bh op na) R Q := by
  intro c
  induction c with
  | zero =>
    intro k nt hk hn
    obtain rfl : k = m := by omega
    refine w_st rfl (fun _ => rfl) ?_
    refine w_st rfl (fun _ => rfl) ?_
    show w_T L xs (d + 2) m_X12_monthTold 246 [(3, .int (Int32.ofInt (k : Int))), (2, .int (Int32.ofInt (k : Int))), (1, .int wh), (0, .ref 100)] [.int (Int32.ofInt (k : Int)), .int (Int32.ofInt (k : Int))] (p_S (t_S T0 nm om bg nt fo ot pp) pl cs sk cl (Int32.ofInt 0) nc sg ov bh op na) R Q
    refine w_br (P := (Int32.ofInt (k : Int)) ≤ (Int32.ofInt (k : Int))) rfl (fun _ => rfl) (fun h246 => ?_) (fun h246 => ?_)
    · exact K _ hn
    · exfalso; rw [q_le32] at h246; omega
  | succ c ih =>
    intro k nt hk hn
    have ek := w_nat (k := k) (by omega)
    have em := w_nat (k := m) (by omega)
    refine w_st rfl (fun _ => rfl) ?_
    refine w_st rfl (fun _ => rfl) ?_
    show w_T L xs (d + 2) m_X12_monthTold 246 [(3, .int (Int32.ofInt (k : Int))), (2, .int (Int32.ofInt (m : Int))), (1, .int wh), (0, .ref 100)] [.int (Int32.ofInt (m : Int)), .int (Int32.ofInt (k : Int))] (p_S (t_S T0 nm om bg nt fo ot pp) pl cs sk cl (Int32.ofInt 0) nc sg ov bh op na) R Q
    refine w_br (P := (Int32.ofInt (m : Int)) ≤ (Int32.ofInt (k : Int))) rfl (fun _ => rfl) (fun h246 => ?_) (fun h246 => ?_)
    · exfalso; rw [q_le32, em, ek] at h246; omega
    · refine w_st rfl (fun _ => rfl) ?_
      show w_T L xs (d + 2) m_X12_monthTold 250 [(3, .int (Int32.ofInt (k : Int))), (2, .int (Int32.ofInt (m : Int))), (1, .int wh), (0, .ref 100)] [.ref 100] (p_S (t_S T0 nm om bg nt fo ot pp) pl cs sk cl (Int32.ofInt 0) nc sg ov bh op na) R Q
      refine w_getr rfl v_tyM rfl ?_
      refine w_st rfl (fun _ => rfl) ?_
      show w_T L xs (d + 2) m_X12_monthTold 254 [(3, .int (Int32.ofInt (k : Int))), (2, .int (Int32.ofInt (m : Int))), (1, .int wh), (0, .ref 100)] [.ref 100, .ref 134] (p_S (t_S T0 nm om bg nt fo ot pp) pl cs sk cl (Int32.ofInt 0) nc sg ov bh op na) R Q
      refine w_get rfl v_tyM rfl ?_
      refine w_st rfl (fun _ => rfl) ?_
      refine w_st rfl (fun _ => rfl) ?_
      refine w_st rfl (fun _ => rfl) ?_
      show w_T L xs (d + 2) m_X12_monthTold 260 [(3, .int (Int32.ofInt (k : Int))), (2, .int (Int32.ofInt (m : Int))), (1, .int wh), (0, .ref 100)] [.ref 100, .int ((Int32.ofInt (nm : Int)) + (Int32.ofInt (k : Int))), .ref 134] (p_S (t_S T0 nm om bg nt fo ot pp) pl cs sk cl (Int32.ofInt 0) nc sg ov bh op na) R Q
      refine w_cv rfl (by decide) mt_X12_here v_tyM rfl rfl rfl (Nat.le_of_ble_eq_true rfl) (Nat.le_of_ble_eq_true rfl) (Nat.le_of_ble_eq_true rfl) ?_
      show w_T L xs _ m_X12_here 0 (lv_args 0 [.ref 100]) [] (p_S (t_S T0 nm om bg nt fo ot pp) pl cs sk cl (Int32.ofInt 0) nc sg ov bh op na) R _
      refine h_here (by omega) ?_
      refine w_st rfl (fun _ => rfl) ?_
      show w_T L xs (d + 2) m_X12_monthTold 265 [(3, .int (Int32.ofInt (k : Int))), (2, .int (Int32.ofInt (m : Int))), (1, .int wh), (0, .ref 100)] [.int (Int32.ofInt 46), .int (p_h T0 pl), .int ((Int32.ofInt (nm : Int)) + (Int32.ofInt (k : Int))), .ref 134] (p_S (t_S T0 nm om bg nt fo ot pp) pl cs sk cl (Int32.ofInt 0) nc sg ov bh op na) R Q
      refine w_br (P := ¬ (p_h T0 pl) = (Int32.ofInt 46)) rfl (fun _ => rfl) (fun h265 => ?_) (fun h265 => ?_)
      · have h65 := hh.resolve_left h265
        have hv : -1 ≤ (p_h T0 pl - Int32.ofInt 65).toInt ∧ (p_h T0 pl - Int32.ofInt 65).toInt ≤ 9 := by
          have e1 : p_h T0 pl - Int32.ofInt 65 = Int32.ofInt ((p_h T0 pl).toInt - 65) := by rw [Int32.ofInt_sub, q_of]
          rw [e1, q_ofr (by omega) (by omega)]
          omega
        refine w_st rfl (fun _ => rfl) ?_
        show w_T L xs (d + 2) m_X12_monthTold 273 [(3, .int (Int32.ofInt (k : Int))), (2, .int (Int32.ofInt (m : Int))), (1, .int wh), (0, .ref 100)] [.ref 100, .int ((Int32.ofInt (nm : Int)) + (Int32.ofInt (k : Int))), .ref 134] (p_S (t_S T0 nm om bg nt fo ot pp) pl cs sk cl (Int32.ofInt 0) nc sg ov bh op na) R Q
        refine w_cv rfl (by decide) mt_X12_here v_tyM rfl rfl rfl (Nat.le_of_ble_eq_true rfl) (Nat.le_of_ble_eq_true rfl) (Nat.le_of_ble_eq_true rfl) ?_
        show w_T L xs _ m_X12_here 0 (lv_args 0 [.ref 100]) [] (p_S (t_S T0 nm om bg nt fo ot pp) pl cs sk cl (Int32.ofInt 0) nc sg ov bh op na) R _
        refine h_here (by omega) ?_
        refine w_st rfl (fun _ => rfl) ?_
        refine w_st rfl (fun _ => rfl) ?_
        show w_T L xs (d + 2) m_X12_monthTold 279 [(3, .int (Int32.ofInt (k : Int))), (2, .int (Int32.ofInt (m : Int))), (1, .int wh), (0, .ref 100)] [.int ((p_h T0 pl) - (Int32.ofInt 65)), .int ((Int32.ofInt (nm : Int)) + (Int32.ofInt (k : Int))), .ref 134] (p_S (t_S T0 nm om bg nt fo ot pp) pl cs sk cl (Int32.ofInt 0) nc sg ov bh op na) R Q
        refine w_iast rfl rfl (by rw [w_addn, w_nat (by omega)]; omega) (by rw [w_addn, w_nat (by omega)]; omega) ?_
        refine w_eqS (p_wor (by decide) (by rw [w_addn, w_natn (by omega)])) ?_
        refine w_eqS (p_in (t_wnt (by omega))) ?_
        refine w_st rfl (fun _ => rfl) ?_
        refine w_st rfl (fun _ => rfl) ?_
        show w_T L xs (d + 2) m_X12_monthTold 244 [(3, .int ((Int32.ofInt (k : Int)) + (Int32.ofInt 1))), (2, .int (Int32.ofInt (m : Int))), (1, .int wh), (0, .ref 100)] [] (p_S (t_S T0 nm om bg (upd nt (nm + k) ((p_h T0 pl) - (Int32.ofInt 65))) fo ot pp) pl cs sk cl (Int32.ofInt 0) nc sg ov bh op na) R Q
        rw [w_inc]
        refine ih (k + 1) _ (by omega) (fun j hj => ?_)
        by_cases e : j = nm + k
        · rw [e, p_upe]; exact hv
        · rw [p_upn e]; exact hn j hj
      · have hv : -1 ≤ (Int32.ofInt (-1)).toInt ∧ (Int32.ofInt (-1)).toInt ≤ 9 := by decide
        refine w_st rfl (fun _ => rfl) ?_
        refine w_st rfl (fun _ => rfl) ?_
        show w_T L xs (d + 2) m_X12_monthTold 279 [(3, .int (Int32.ofInt (k : Int))), (2, .int (Int32.ofInt (m : Int))), (1, .int wh), (0, .ref 100)] [.int (Int32.ofInt (-1)), .int ((Int32.ofInt (nm : Int)) + (Int32.ofInt (k : Int))), .ref 134] (p_S (t_S T0 nm om bg nt fo ot pp) pl cs sk cl (Int32.ofInt 0) nc sg ov bh op na) R Q
        refine w_iast rfl rfl (by rw [w_addn, w_nat (by omega)]; omega) (by rw [w_addn, w_nat (by omega)]; omega) ?_
        refine w_eqS (p_wor (by decide) (by rw [w_addn, w_natn (by omega)])) ?_
        refine w_eqS (p_in (t_wnt (by omega))) ?_
        refine w_st rfl (fun _ => rfl) ?_
        refine w_st rfl (fun _ => rfl) ?_
        show w_T L xs (d + 2) m_X12_monthTold 244 [(3, .int ((Int32.ofInt (k : Int)) + (Int32.ofInt 1))), (2, .int (Int32.ofInt (m : Int))), (1, .int wh), (0, .ref 100)] [] (p_S (t_S T0 nm om bg (upd nt (nm + k) (Int32.ofInt (-1))) fo ot pp) pl cs sk cl (Int32.ofInt 0) nc sg ov bh op na) R Q
        rw [w_inc]
        refine ih (k + 1) _ (by omega) (fun j hj => ?_)
        by_cases e : j = nm + k
        · rw [e, p_upe]; exact hv
        · rw [p_upn e]; exact hn j hj
theorem h_month (he : (T0 99 4).toInt ≤ 240) (htp : ∀ j, j < 260 → -128 ≤ (T0 100 j).toInt ∧ (T0 100 j).toInt ≤ 127) (hlt : (pl : Int) < (T0 99 4).toInt) (hM : t_M nm om nt fo ot pp) (Kg : ∀ (pl' nm' om' : Nat) (g' : Bool) (nt' fo' ot' pp' : Nat → Int32), pl < pl' → pl' ≤ 240 → t_M nm' om' nt' fo' ot' pp' → Q none (p_S (t_S T0 (nm') (om') (g') (nt') (fo') (ot') (pp')) (pl') cs sk cl (Int32.ofInt 0) nc sg ov bh op na) R) (Kb : ∀ (pl' nm' om' : Nat) (b' : Int32) (g' : Bool) (nt' fo' ot' pp' : Nat → Int32), b'.toInt < 0 → pl' ≤ 240 → t_M nm' om' nt' fo' ot' pp' → Q none (p_S (t_S T0 (nm') (om') (g') (nt') (fo') (ot') (pp')) (pl') cs sk cl (b') nc sg ov bh op na) R) : w_T L xs (d + 2) m_X12_monthTold 0 (lv_args 0 [.ref 100]) [] (p_S (t_S T0 nm om bg nt fo ot pp) pl cs sk cl (Int32.ofInt 0) nc sg ov bh op na) R Q := by
  obtain ⟨m1, m2, m3, m4, m5⟩ := hM
  have e65 : (Int64.ofInt 65).toInt = 65 := by decide
  have e74 : (Int64.ofInt 74).toInt = 74 := by decide
  have eom := w_nat (k := om) (by omega)
  have z0 : (0 : Int32).toInt = 0 := rfl
  refine w_st rfl (fun _ => rfl) ?_
  show w_T L xs (d + 2) m_X12_monthTold 1 [(0, .ref 100)] [.ref 100] (p_S (t_S T0 nm om bg nt fo ot pp) pl cs sk cl (Int32.ofInt 0) nc sg ov bh op na) R Q
  refine w_get rfl v_tyM rfl ?_
  refine w_st rfl (fun _ => rfl) ?_
  refine w_st rfl (fun _ => rfl) ?_
  show w_T L xs (d + 2) m_X12_monthTold 6 [(1, .int (Int32.ofInt (pl : Int))), (0, .ref 100)] [.ref 100] (p_S (t_S T0 nm om bg nt fo ot pp) pl cs sk cl (Int32.ofInt 0) nc sg ov bh op na) R Q
  refine w_cv rfl (by decide) mt_X12_here v_tyM rfl rfl rfl (Nat.le_of_ble_eq_true rfl) (Nat.le_of_ble_eq_true rfl) (Nat.le_of_ble_eq_true rfl) ?_
  show w_T L xs _ m_X12_here 0 (lv_args 0 [.ref 100]) [] (p_S (t_S T0 nm om bg nt fo ot pp) pl cs sk cl (Int32.ofInt 0) nc sg ov bh op na) R _
  refine h_here (by omega) ?_
  refine w_st rfl (fun _ => rfl) ?_
  show w_T L xs (d + 2) m_X12_monthTold 11 [(1, .int (Int32.ofInt (pl : Int))), (0, .ref 100)] [.int (Int32.ofInt 41), .int (p_h T0 pl)] (p_S (t_S T0 nm om bg nt fo ot pp) pl cs sk cl (Int32.ofInt 0) nc sg ov bh op na) R Q
  refine w_br (P := ¬ (p_h T0 pl) = (Int32.ofInt 41)) rfl (fun _ => rfl) (fun h11 => ?_) (fun h11 => ?_)
  · refine w_st rfl (fun _ => rfl) ?_
    show w_T L xs (d + 2) m_X12_monthTold 81 [(1, .int (Int32.ofInt (pl : Int))), (0, .ref 100)] [.ref 100] (p_S (t_S T0 nm om bg nt fo ot pp) pl cs sk cl (Int32.ofInt 0) nc sg ov bh op na) R Q
    refine w_cv rfl (by decide) mt_X12_timesTold v_tyM rfl rfl rfl (Nat.le_of_ble_eq_true rfl) (Nat.le_of_ble_eq_true rfl) (Nat.le_of_ble_eq_true rfl) ?_
    show w_T L xs _ m_X12_timesTold 0 (lv_args 0 [.ref 100]) [] (p_S (t_S T0 nm om bg nt fo ot pp) pl cs sk cl (Int32.ofInt 0) nc sg ov bh op na) R _
    refine h_times (by omega) he htp (fun mo1 pl1 y1 y2 y3 y4 => ?_)
    refine w_st rfl (fun _ => rfl) ?_
    refine w_st rfl (fun _ => rfl) ?_
    show w_T L xs (d + 2) m_X12_monthTold 86 [(2, .int (Int32.ofInt (mo1 : Int))), (1, .int (Int32.ofInt (pl : Int))), (0, .ref 100)] [.ref 100] (p_S (t_S T0 nm om bg nt fo ot pp) pl1 cs sk cl (Int32.ofInt 0) nc sg ov bh op na) R Q
    refine w_cv rfl (by decide) mt_X12_here v_tyM rfl rfl rfl (Nat.le_of_ble_eq_true rfl) (Nat.le_of_ble_eq_true rfl) (Nat.le_of_ble_eq_true rfl) ?_
    show w_T L xs _ m_X12_here 0 (lv_args 0 [.ref 100]) [] (p_S (t_S T0 nm om bg nt fo ot pp) pl1 cs sk cl (Int32.ofInt 0) nc sg ov bh op na) R _
    refine h_here (by omega) ?_
    refine w_st rfl (fun _ => rfl) ?_
    show w_T L xs (d + 2) m_X12_monthTold 91 [(2, .int (Int32.ofInt (mo1 : Int))), (1, .int (Int32.ofInt (pl : Int))), (0, .ref 100)] [.int (Int32.ofInt 40), .int (p_h T0 pl1)] (p_S (t_S T0 nm om bg nt fo ot pp) pl1 cs sk cl (Int32.ofInt 0) nc sg ov bh op na) R Q
    refine w_br (P := ¬ (p_h T0 pl1) = (Int32.ofInt 40)) rfl (fun _ => rfl) (fun h91 => ?_) (fun h91 => ?_)
    · refine w_st rfl (fun _ => rfl) ?_
      show w_T L xs (d + 2) m_X12_monthTold 179 [(2, .int (Int32.ofInt (mo1 : Int))), (1, .int (Int32.ofInt (pl : Int))), (0, .ref 100)] [.ref 100] (p_S (t_S T0 nm om bg nt fo ot pp) pl1 cs sk cl (Int32.ofInt 0) nc sg ov bh op na) R Q
      refine w_cv rfl (by decide) mt_X12_here v_tyM rfl rfl rfl (Nat.le_of_ble_eq_true rfl) (Nat.le_of_ble_eq_true rfl) (Nat.le_of_ble_eq_true rfl) ?_
      show w_T L xs _ m_X12_here 0 (lv_args 0 [.ref 100]) [] (p_S (t_S T0 nm om bg nt fo ot pp) pl1 cs sk cl (Int32.ofInt 0) nc sg ov bh op na) R _
      refine h_here (by omega) ?_
      refine w_st rfl (fun _ => rfl) ?_
      show w_T L xs (d + 2) m_X12_monthTold 184 [(2, .int (Int32.ofInt (mo1 : Int))), (1, .int (Int32.ofInt (pl : Int))), (0, .ref 100)] [.int (Int32.ofInt 46), .int (p_h T0 pl1)] (p_S (t_S T0 nm om bg nt fo ot pp) pl1 cs sk cl (Int32.ofInt 0) nc sg ov bh op na) R Q
      refine w_br (P := (p_h T0 pl1) = (Int32.ofInt 46)) rfl (fun _ => rfl) (fun h184 => ?_) (fun h184 => ?_)
      · have hh : p_h T0 pl1 = Int32.ofInt 46 ∨ (65 ≤ (p_h T0 pl1).toInt ∧ (p_h T0 pl1).toInt ≤ 74) := Or.inl h184
        refine w_st rfl (fun _ => rfl) ?_
        show w_T L xs (d + 2) m_X12_monthTold 217 [(2, .int (Int32.ofInt (mo1 : Int))), (1, .int (Int32.ofInt (pl : Int))), (0, .ref 100)] [.ref 100] (p_S (t_S T0 nm om bg nt fo ot pp) pl1 cs sk cl (Int32.ofInt 0) nc sg ov bh op na) R Q
        refine w_get rfl v_tyM rfl ?_
        refine w_st rfl (fun _ => rfl) ?_
        refine w_st rfl (fun _ => rfl) ?_
        refine w_st rfl (fun _ => rfl) ?_
        show w_T L xs (d + 2) m_X12_monthTold 224 [(2, .int (Int32.ofInt (mo1 : Int))), (1, .int (Int32.ofInt (pl : Int))), (0, .ref 100)] [.int (Int32.ofInt 48), .int ((Int32.ofInt (nm : Int)) + (Int32.ofInt (mo1 : Int)))] (p_S (t_S T0 nm om bg nt fo ot pp) pl1 cs sk cl (Int32.ofInt 0) nc sg ov bh op na) R Q
        refine w_br (P := ((Int32.ofInt (nm : Int)) + (Int32.ofInt (mo1 : Int))) ≤ (Int32.ofInt 48)) rfl (fun _ => rfl) (fun h224 => ?_) (fun h224 => ?_)
        · refine w_st rfl (fun _ => rfl) ?_
          show w_T L xs (d + 2) m_X12_monthTold 235 [(2, .int (Int32.ofInt (mo1 : Int))), (1, .int (Int32.ofInt (pl : Int))), (0, .ref 100)] [.ref 100] (p_S (t_S T0 nm om bg nt fo ot pp) pl1 cs sk cl (Int32.ofInt 0) nc sg ov bh op na) R Q
          refine w_cv rfl (by decide) mt_X12_isGood v_tyM rfl rfl rfl (Nat.le_of_ble_eq_true rfl) (Nat.le_of_ble_eq_true rfl) (Nat.le_of_ble_eq_true rfl) ?_
          show w_T L xs _ m_X12_isGood 0 (lv_args 0 [.ref 100]) [] (p_S (t_S T0 nm om bg nt fo ot pp) pl1 cs sk cl (Int32.ofInt 0) nc sg ov bh op na) R _
          refine h_isGT ?_
          show w_T L xs (d + 2) m_X12_monthTold 238 [(2, .int (Int32.ofInt (mo1 : Int))), (1, .int (Int32.ofInt (pl : Int))), (0, .ref 100)] [.int (Int32.ofInt 1)] (p_S (t_S T0 nm om bg nt fo ot pp) pl1 cs sk cl (Int32.ofInt 0) nc sg ov bh op na) R Q
          refine w_st rfl (fun _ => rfl) ?_
          refine w_st rfl (fun _ => rfl) ?_
          refine w_st rfl (fun _ => rfl) ?_
          show w_T L xs (d + 2) m_X12_monthTold 244 [(3, .int (Int32.ofInt 0)), (2, .int (Int32.ofInt (mo1 : Int))), (1, .int (Int32.ofInt (pl : Int))), (0, .ref 100)] [] (p_S (t_S T0 nm om bg nt fo ot pp) pl1 cs sk cl (Int32.ofInt 0) nc sg ov bh op na) R Q
          have h48 : nm + mo1 ≤ 48 := by
            rw [w_addn, q_le32, w_nat (by omega)] at h224
            have e48 : (Int32.ofInt 48).toInt = 48 := by decide
            omega
          have hlt1 := p_h_lt (S0 := T0) (pl := pl1) (fun e => by
            rw [e] at hh
            revert hh
            decide)
          refine h_ml (by omega) h48 hh (fun nt1 x3 => ?_) mo1 0 nt (by omega) m3
          refine w_st rfl (fun _ => rfl) ?_
          refine w_st rfl (fun _ => rfl) ?_
          show w_T L xs (d + 2) m_X12_monthTold 288 [(3, .int (Int32.ofInt (mo1 : Int))), (2, .int (Int32.ofInt (mo1 : Int))), (1, .int (Int32.ofInt (pl : Int))), (0, .ref 100)] [.ref 100, .ref 100] (p_S (t_S T0 nm om bg nt1 fo ot pp) pl1 cs sk cl (Int32.ofInt 0) nc sg ov bh op na) R Q
          refine w_get rfl v_tyM rfl ?_
          refine w_st rfl (fun _ => rfl) ?_
          refine w_st rfl (fun _ => rfl) ?_
          show w_T L xs (d + 2) m_X12_monthTold 293 [(3, .int (Int32.ofInt (mo1 : Int))), (2, .int (Int32.ofInt (mo1 : Int))), (1, .int (Int32.ofInt (pl : Int))), (0, .ref 100)] [.int ((Int32.ofInt (nm : Int)) + (Int32.ofInt (mo1 : Int))), .ref 100] (p_S (t_S T0 nm om bg nt1 fo ot pp) pl1 cs sk cl (Int32.ofInt 0) nc sg ov bh op na) R Q
          refine w_put rfl v_tyM rfl rfl rfl ?_
          refine w_eqS (p_wo99 (by decide)) ?_
          refine w_eqS (p_in (t_wnm (w_addn _ _))) ?_
          refine w_st rfl (fun _ => rfl) ?_
          refine w_st rfl (fun _ => rfl) ?_
          show w_T L xs (d + 2) m_X12_monthTold 298 [(3, .int (Int32.ofInt (mo1 : Int))), (2, .int (Int32.ofInt (mo1 : Int))), (1, .int (Int32.ofInt (pl : Int))), (0, .ref 100)] [.int (Int32.ofInt 1), .ref 100] (p_S (t_S T0 (nm + mo1) om bg nt1 fo ot pp) pl1 cs sk cl (Int32.ofInt 0) nc sg ov bh op na) R Q
          refine w_put rfl v_tyM rfl rfl rfl ?_
          refine w_eqS (p_wo99 (by decide)) ?_
          refine w_eqS (p_in (t_wbg (b := true) rfl)) ?_
          refine w_st rfl (fun _ => rfl) ?_
          refine w_st rfl (fun _ => rfl) ?_
          show w_T L xs (d + 2) m_X12_monthTold 303 [(3, .int (Int32.ofInt (mo1 : Int))), (2, .int (Int32.ofInt (mo1 : Int))), (1, .int (Int32.ofInt (pl : Int))), (0, .ref 100)] [.ref 100, .ref 100] (p_S (t_S T0 (nm + mo1) om true nt1 fo ot pp) pl1 cs sk cl (Int32.ofInt 0) nc sg ov bh op na) R Q
          refine w_get rfl v_tyM rfl ?_
          refine w_st rfl (fun _ => rfl) ?_
          refine w_st rfl (fun _ => rfl) ?_
          show w_T L xs (d + 2) m_X12_monthTold 308 [(3, .int (Int32.ofInt (mo1 : Int))), (2, .int (Int32.ofInt (mo1 : Int))), (1, .int (Int32.ofInt (pl : Int))), (0, .ref 100)] [.int ((Int32.ofInt (pl1 : Int)) + (Int32.ofInt 1)), .ref 100] (p_S (t_S T0 (nm + mo1) om true nt1 fo ot pp) pl1 cs sk cl (Int32.ofInt 0) nc sg ov bh op na) R Q
          refine w_put rfl v_tyM rfl rfl rfl ?_
          refine w_eqS (p_wpl (w_inc _)) ?_
          show w_T L xs (d + 2) m_X12_monthTold 311 [(3, .int (Int32.ofInt (mo1 : Int))), (2, .int (Int32.ofInt (mo1 : Int))), (1, .int (Int32.ofInt (pl : Int))), (0, .ref 100)] [] (p_S (t_S T0 (nm + mo1) om true nt1 fo ot pp) (pl1 + 1) cs sk cl (Int32.ofInt 0) nc sg ov bh op na) R Q
          refine w_ret rfl rfl ?_
          exact Kg _ _ _ _ _ _ _ _ (by omega) (by omega) ⟨by omega, m2, x3, m4, fun j hj => by have := m5 j hj; omega⟩
        · refine w_st rfl (fun _ => rfl) ?_
          refine w_st rfl (fun _ => rfl) ?_
          refine w_st rfl (fun _ => rfl) ?_
          show w_T L xs (d + 2) m_X12_monthTold 231 [(2, .int (Int32.ofInt (mo1 : Int))), (1, .int (Int32.ofInt (pl : Int))), (0, .ref 100)] [.int (Int32.ofInt (pl : Int)), .int (Int32.ofInt 6), .ref 100] (p_S (t_S T0 nm om bg nt fo ot pp) pl1 cs sk cl (Int32.ofInt 0) nc sg ov bh op na) R Q
          refine w_cv rfl (by decide) mt_X12_wrongs v_tyM rfl rfl rfl (Nat.le_of_ble_eq_true rfl) (Nat.le_of_ble_eq_true rfl) (Nat.le_of_ble_eq_true rfl) ?_
          show w_T L xs _ m_X12_wrongs 0 (lv_args 0 [.ref 100, .int (Int32.ofInt 6), .int (Int32.ofInt (pl : Int))]) [] (p_S (t_S T0 nm om bg nt fo ot pp) pl1 cs sk cl (Int32.ofInt 0) nc sg ov bh op na) R _
          refine h_wr (by decide) (by decide) (by rw [w_nat (by omega)]; omega) (by rw [w_nat (by omega)]; omega) (fun b231 hb231 => ?_)
          refine w_st rfl (fun _ => rfl) ?_
          show w_T L xs (d + 2) m_X12_monthTold 235 [(2, .int (Int32.ofInt (mo1 : Int))), (1, .int (Int32.ofInt (pl : Int))), (0, .ref 100)] [.ref 100] (p_S (t_S T0 nm om bg nt fo ot pp) pl1 cs sk cl b231 nc sg ov bh op na) R Q
          refine w_cv rfl (by decide) mt_X12_isGood v_tyM rfl rfl rfl (Nat.le_of_ble_eq_true rfl) (Nat.le_of_ble_eq_true rfl) (Nat.le_of_ble_eq_true rfl) ?_
          show w_T L xs _ m_X12_isGood 0 (lv_args 0 [.ref 100]) [] (p_S (t_S T0 nm om bg nt fo ot pp) pl1 cs sk cl b231 nc sg ov bh op na) R _
          refine h_isGF hb231 ?_
          show w_T L xs (d + 2) m_X12_monthTold 238 [(2, .int (Int32.ofInt (mo1 : Int))), (1, .int (Int32.ofInt (pl : Int))), (0, .ref 100)] [.int (Int32.ofInt 0)] (p_S (t_S T0 nm om bg nt fo ot pp) pl1 cs sk cl b231 nc sg ov bh op na) R Q
          refine w_st rfl (fun _ => rfl) ?_
          show w_T L xs (d + 2) m_X12_monthTold 241 [(2, .int (Int32.ofInt (mo1 : Int))), (1, .int (Int32.ofInt (pl : Int))), (0, .ref 100)] [] (p_S (t_S T0 nm om bg nt fo ot pp) pl1 cs sk cl b231 nc sg ov bh op na) R Q
          refine w_ret rfl rfl ?_
          exact Kb _ _ _ _ _ _ _ _ _ hb231 (by omega) ⟨m1, m2, m3, m4, m5⟩
      · refine w_st rfl (fun _ => rfl) ?_
        show w_T L xs (d + 2) m_X12_monthTold 188 [(2, .int (Int32.ofInt (mo1 : Int))), (1, .int (Int32.ofInt (pl : Int))), (0, .ref 100)] [.ref 100] (p_S (t_S T0 nm om bg nt fo ot pp) pl1 cs sk cl (Int32.ofInt 0) nc sg ov bh op na) R Q
        refine w_cv rfl (by decide) mt_X12_here v_tyM rfl rfl rfl (Nat.le_of_ble_eq_true rfl) (Nat.le_of_ble_eq_true rfl) (Nat.le_of_ble_eq_true rfl) ?_
        show w_T L xs _ m_X12_here 0 (lv_args 0 [.ref 100]) [] (p_S (t_S T0 nm om bg nt fo ot pp) pl1 cs sk cl (Int32.ofInt 0) nc sg ov bh op na) R _
        refine h_here (by omega) ?_
        refine w_st rfl (fun _ => rfl) ?_
        refine w_st rfl (fun _ => rfl) ?_
        refine w_st rfl (fun _ => rfl) ?_
        show w_T L xs (d + 2) m_X12_monthTold 198 [(2, .int (Int32.ofInt (mo1 : Int))), (1, .int (Int32.ofInt (pl : Int))), (0, .ref 100)] [.long (Int64.ofInt 74), .long (Int64.ofInt 65), .long ((p_h T0 pl1).toInt64)] (p_S (t_S T0 nm om bg nt fo ot pp) pl1 cs sk cl (Int32.ofInt 0) nc sg ov bh op na) R Q
        refine w_cs rfl (by decide) mt_X12_lies (fun _ => rfl) (Nat.le_of_ble_eq_true rfl) (Nat.le_of_ble_eq_true rfl) ?_
        show w_T L xs _ m_X12_lies 0 (lv_args 0 [.long ((p_h T0 pl1).toInt64), .long (Int64.ofInt 65), .long (Int64.ofInt 74)]) [] (p_S (t_S T0 nm om bg nt fo ot pp) pl1 cs sk cl (Int32.ofInt 0) nc sg ov bh op na) R _
        refine h_lies _ _ _ ?_
        rw [e65, e74, Int32.toInt_toInt64]
        by_cases hd : 65 ≤ (p_h T0 pl1).toInt ∧ (p_h T0 pl1).toInt ≤ 74
        · rw [if_pos hd]
          have hh : p_h T0 pl1 = Int32.ofInt 46 ∨ (65 ≤ (p_h T0 pl1).toInt ∧ (p_h T0 pl1).toInt ≤ 74) := Or.inr hd
          show w_T L xs (d + 2) m_X12_monthTold 201 [(2, .int (Int32.ofInt (mo1 : Int))), (1, .int (Int32.ofInt (pl : Int))), (0, .ref 100)] [.int (Int32.ofInt 1)] (p_S (t_S T0 nm om bg nt fo ot pp) pl1 cs sk cl (Int32.ofInt 0) nc sg ov bh op na) R Q
          refine w_st rfl (fun _ => rfl) ?_
          refine w_st rfl (fun _ => rfl) ?_
          show w_T L xs (d + 2) m_X12_monthTold 217 [(2, .int (Int32.ofInt (mo1 : Int))), (1, .int (Int32.ofInt (pl : Int))), (0, .ref 100)] [.ref 100] (p_S (t_S T0 nm om bg nt fo ot pp) pl1 cs sk cl (Int32.ofInt 0) nc sg ov bh op na) R Q
          refine w_get rfl v_tyM rfl ?_
          refine w_st rfl (fun _ => rfl) ?_
          refine w_st rfl (fun _ => rfl) ?_
          refine w_st rfl (fun _ => rfl) ?_
          show w_T L xs (d + 2) m_X12_monthTold 224 [(2, .int (Int32.ofInt (mo1 : Int))), (1, .int (Int32.ofInt (pl : Int))), (0, .ref 100)] [.int (Int32.ofInt 48), .int ((Int32.ofInt (nm : Int)) + (Int32.ofInt (mo1 : Int)))] (p_S (t_S T0 nm om bg nt fo ot pp) pl1 cs sk cl (Int32.ofInt 0) nc sg ov bh op na) R Q
          refine w_br (P := ((Int32.ofInt (nm : Int)) + (Int32.ofInt (mo1 : Int))) ≤ (Int32.ofInt 48)) rfl (fun _ => rfl) (fun h224 => ?_) (fun h224 => ?_)
          · refine w_st rfl (fun _ => rfl) ?_
            show w_T L xs (d + 2) m_X12_monthTold 235 [(2, .int (Int32.ofInt (mo1 : Int))), (1, .int (Int32.ofInt (pl : Int))), (0, .ref 100)] [.ref 100] (p_S (t_S T0 nm om bg nt fo ot pp) pl1 cs sk cl (Int32.ofInt 0) nc sg ov bh op na) R Q
            refine w_cv rfl (by decide) mt_X12_isGood v_tyM rfl rfl rfl (Nat.le_of_ble_eq_true rfl) (Nat.le_of_ble_eq_true rfl) (Nat.le_of_ble_eq_true rfl) ?_
            show w_T L xs _ m_X12_isGood 0 (lv_args 0 [.ref 100]) [] (p_S (t_S T0 nm om bg nt fo ot pp) pl1 cs sk cl (Int32.ofInt 0) nc sg ov bh op na) R _
            refine h_isGT ?_
            show w_T L xs (d + 2) m_X12_monthTold 238 [(2, .int (Int32.ofInt (mo1 : Int))), (1, .int (Int32.ofInt (pl : Int))), (0, .ref 100)] [.int (Int32.ofInt 1)] (p_S (t_S T0 nm om bg nt fo ot pp) pl1 cs sk cl (Int32.ofInt 0) nc sg ov bh op na) R Q
            refine w_st rfl (fun _ => rfl) ?_
            refine w_st rfl (fun _ => rfl) ?_
            refine w_st rfl (fun _ => rfl) ?_
            show w_T L xs (d + 2) m_X12_monthTold 244 [(3, .int (Int32.ofInt 0)), (2, .int (Int32.ofInt (mo1 : Int))), (1, .int (Int32.ofInt (pl : Int))), (0, .ref 100)] [] (p_S (t_S T0 nm om bg nt fo ot pp) pl1 cs sk cl (Int32.ofInt 0) nc sg ov bh op na) R Q
            have h48 : nm + mo1 ≤ 48 := by
              rw [w_addn, q_le32, w_nat (by omega)] at h224
              have e48 : (Int32.ofInt 48).toInt = 48 := by decide
              omega
            have hlt1 := p_h_lt (S0 := T0) (pl := pl1) (fun e => by
              rw [e] at hh
              revert hh
              decide)
            refine h_ml (by omega) h48 hh (fun nt1 x3 => ?_) mo1 0 nt (by omega) m3
            refine w_st rfl (fun _ => rfl) ?_
            refine w_st rfl (fun _ => rfl) ?_
            show w_T L xs (d + 2) m_X12_monthTold 288 [(3, .int (Int32.ofInt (mo1 : Int))), (2, .int (Int32.ofInt (mo1 : Int))), (1, .int (Int32.ofInt (pl : Int))), (0, .ref 100)] [.ref 100, .ref 100] (p_S (t_S T0 nm om bg nt1 fo ot pp) pl1 cs sk cl (Int32.ofInt 0) nc sg ov bh op na) R Q
            refine w_get rfl v_tyM rfl ?_
            refine w_st rfl (fun _ => rfl) ?_
            refine w_st rfl (fun _ => rfl) ?_
            show w_T L xs (d + 2) m_X12_monthTold 293 [(3, .int (Int32.ofInt (mo1 : Int))), (2, .int (Int32.ofInt (mo1 : Int))), (1, .int (Int32.ofInt (pl : Int))), (0, .ref 100)] [.int ((Int32.ofInt (nm : Int)) + (Int32.ofInt (mo1 : Int))), .ref 100] (p_S (t_S T0 nm om bg nt1 fo ot pp) pl1 cs sk cl (Int32.ofInt 0) nc sg ov bh op na) R Q
            refine w_put rfl v_tyM rfl rfl rfl ?_
            refine w_eqS (p_wo99 (by decide)) ?_
            refine w_eqS (p_in (t_wnm (w_addn _ _))) ?_
            refine w_st rfl (fun _ => rfl) ?_
            refine w_st rfl (fun _ => rfl) ?_
            show w_T L xs (d + 2) m_X12_monthTold 298 [(3, .int (Int32.ofInt (mo1 : Int))), (2, .int (Int32.ofInt (mo1 : Int))), (1, .int (Int32.ofInt (pl : Int))), (0, .ref 100)] [.int (Int32.ofInt 1), .ref 100] (p_S (t_S T0 (nm + mo1) om bg nt1 fo ot pp) pl1 cs sk cl (Int32.ofInt 0) nc sg ov bh op na) R Q
            refine w_put rfl v_tyM rfl rfl rfl ?_
            refine w_eqS (p_wo99 (by decide)) ?_
            refine w_eqS (p_in (t_wbg (b := true) rfl)) ?_
            refine w_st rfl (fun _ => rfl) ?_
            refine w_st rfl (fun _ => rfl) ?_
            show w_T L xs (d + 2) m_X12_monthTold 303 [(3, .int (Int32.ofInt (mo1 : Int))), (2, .int (Int32.ofInt (mo1 : Int))), (1, .int (Int32.ofInt (pl : Int))), (0, .ref 100)] [.ref 100, .ref 100] (p_S (t_S T0 (nm + mo1) om true nt1 fo ot pp) pl1 cs sk cl (Int32.ofInt 0) nc sg ov bh op na) R Q
            refine w_get rfl v_tyM rfl ?_
            refine w_st rfl (fun _ => rfl) ?_
            refine w_st rfl (fun _ => rfl) ?_
            show w_T L xs (d + 2) m_X12_monthTold 308 [(3, .int (Int32.ofInt (mo1 : Int))), (2, .int (Int32.ofInt (mo1 : Int))), (1, .int (Int32.ofInt (pl : Int))), (0, .ref 100)] [.int ((Int32.ofInt (pl1 : Int)) + (Int32.ofInt 1)), .ref 100] (p_S (t_S T0 (nm + mo1) om true nt1 fo ot pp) pl1 cs sk cl (Int32.ofInt 0) nc sg ov bh op na) R Q
            refine w_put rfl v_tyM rfl rfl rfl ?_
            refine w_eqS (p_wpl (w_inc _)) ?_
            show w_T L xs (d + 2) m_X12_monthTold 311 [(3, .int (Int32.ofInt (mo1 : Int))), (2, .int (Int32.ofInt (mo1 : Int))), (1, .int (Int32.ofInt (pl : Int))), (0, .ref 100)] [] (p_S (t_S T0 (nm + mo1) om true nt1 fo ot pp) (pl1 + 1) cs sk cl (Int32.ofInt 0) nc sg ov bh op na) R Q
            refine w_ret rfl rfl ?_
            exact Kg _ _ _ _ _ _ _ _ (by omega) (by omega) ⟨by omega, m2, x3, m4, fun j hj => by have := m5 j hj; omega⟩
          · refine w_st rfl (fun _ => rfl) ?_
            refine w_st rfl (fun _ => rfl) ?_
            refine w_st rfl (fun _ => rfl) ?_
            show w_T L xs (d + 2) m_X12_monthTold 231 [(2, .int (Int32.ofInt (mo1 : Int))), (1, .int (Int32.ofInt (pl : Int))), (0, .ref 100)] [.int (Int32.ofInt (pl : Int)), .int (Int32.ofInt 6), .ref 100] (p_S (t_S T0 nm om bg nt fo ot pp) pl1 cs sk cl (Int32.ofInt 0) nc sg ov bh op na) R Q
            refine w_cv rfl (by decide) mt_X12_wrongs v_tyM rfl rfl rfl (Nat.le_of_ble_eq_true rfl) (Nat.le_of_ble_eq_true rfl) (Nat.le_of_ble_eq_true rfl) ?_
            show w_T L xs _ m_X12_wrongs 0 (lv_args 0 [.ref 100, .int (Int32.ofInt 6), .int (Int32.ofInt (pl : Int))]) [] (p_S (t_S T0 nm om bg nt fo ot pp) pl1 cs sk cl (Int32.ofInt 0) nc sg ov bh op na) R _
            refine h_wr (by decide) (by decide) (by rw [w_nat (by omega)]; omega) (by rw [w_nat (by omega)]; omega) (fun b231 hb231 => ?_)
            refine w_st rfl (fun _ => rfl) ?_
            show w_T L xs (d + 2) m_X12_monthTold 235 [(2, .int (Int32.ofInt (mo1 : Int))), (1, .int (Int32.ofInt (pl : Int))), (0, .ref 100)] [.ref 100] (p_S (t_S T0 nm om bg nt fo ot pp) pl1 cs sk cl b231 nc sg ov bh op na) R Q
            refine w_cv rfl (by decide) mt_X12_isGood v_tyM rfl rfl rfl (Nat.le_of_ble_eq_true rfl) (Nat.le_of_ble_eq_true rfl) (Nat.le_of_ble_eq_true rfl) ?_
            show w_T L xs _ m_X12_isGood 0 (lv_args 0 [.ref 100]) [] (p_S (t_S T0 nm om bg nt fo ot pp) pl1 cs sk cl b231 nc sg ov bh op na) R _
            refine h_isGF hb231 ?_
            show w_T L xs (d + 2) m_X12_monthTold 238 [(2, .int (Int32.ofInt (mo1 : Int))), (1, .int (Int32.ofInt (pl : Int))), (0, .ref 100)] [.int (Int32.ofInt 0)] (p_S (t_S T0 nm om bg nt fo ot pp) pl1 cs sk cl b231 nc sg ov bh op na) R Q
            refine w_st rfl (fun _ => rfl) ?_
            show w_T L xs (d + 2) m_X12_monthTold 241 [(2, .int (Int32.ofInt (mo1 : Int))), (1, .int (Int32.ofInt (pl : Int))), (0, .ref 100)] [] (p_S (t_S T0 nm om bg nt fo ot pp) pl1 cs sk cl b231 nc sg ov bh op na) R Q
            refine w_ret rfl rfl ?_
            exact Kb _ _ _ _ _ _ _ _ _ hb231 (by omega) ⟨m1, m2, m3, m4, m5⟩
        · rw [if_neg hd]
          show w_T L xs (d + 2) m_X12_monthTold 201 [(2, .int (Int32.ofInt (mo1 : Int))), (1, .int (Int32.ofInt (pl : Int))), (0, .ref 100)] [.int (Int32.ofInt 0)] (p_S (t_S T0 nm om bg nt fo ot pp) pl1 cs sk cl (Int32.ofInt 0) nc sg ov bh op na) R Q
          refine w_st rfl (fun _ => rfl) ?_
          refine w_st rfl (fun _ => rfl) ?_
          refine w_st rfl (fun _ => rfl) ?_
          refine w_st rfl (fun _ => rfl) ?_
          show w_T L xs (d + 2) m_X12_monthTold 207 [(2, .int (Int32.ofInt (mo1 : Int))), (1, .int (Int32.ofInt (pl : Int))), (0, .ref 100)] [.ref 100, .int (Int32.ofInt 1), .ref 100] (p_S (t_S T0 nm om bg nt fo ot pp) pl1 cs sk cl (Int32.ofInt 0) nc sg ov bh op na) R Q
          refine w_get rfl v_tyM rfl ?_
          show w_T L xs (d + 2) m_X12_monthTold 210 [(2, .int (Int32.ofInt (mo1 : Int))), (1, .int (Int32.ofInt (pl : Int))), (0, .ref 100)] [.int (Int32.ofInt (pl1 : Int)), .int (Int32.ofInt 1), .ref 100] (p_S (t_S T0 nm om bg nt fo ot pp) pl1 cs sk cl (Int32.ofInt 0) nc sg ov bh op na) R Q
          refine w_cv rfl (by decide) mt_X12_wrongs v_tyM rfl rfl rfl (Nat.le_of_ble_eq_true rfl) (Nat.le_of_ble_eq_true rfl) (Nat.le_of_ble_eq_true rfl) ?_
          show w_T L xs _ m_X12_wrongs 0 (lv_args 0 [.ref 100, .int (Int32.ofInt 1), .int (Int32.ofInt (pl1 : Int))]) [] (p_S (t_S T0 nm om bg nt fo ot pp) pl1 cs sk cl (Int32.ofInt 0) nc sg ov bh op na) R _
          refine h_wr (by decide) (by decide) (by rw [w_nat (by omega)]; omega) (by rw [w_nat (by omega)]; omega) (fun b210 hb210 => ?_)
          refine w_st rfl (fun _ => rfl) ?_
          refine w_st rfl (fun _ => rfl) ?_
          show w_T L xs (d + 2) m_X12_monthTold 235 [(2, .int (Int32.ofInt (mo1 : Int))), (1, .int (Int32.ofInt (pl : Int))), (0, .ref 100)] [.ref 100] (p_S (t_S T0 nm om bg nt fo ot pp) pl1 cs sk cl b210 nc sg ov bh op na) R Q
          refine w_cv rfl (by decide) mt_X12_isGood v_tyM rfl rfl rfl (Nat.le_of_ble_eq_true rfl) (Nat.le_of_ble_eq_true rfl) (Nat.le_of_ble_eq_true rfl) ?_
          show w_T L xs _ m_X12_isGood 0 (lv_args 0 [.ref 100]) [] (p_S (t_S T0 nm om bg nt fo ot pp) pl1 cs sk cl b210 nc sg ov bh op na) R _
          refine h_isGF hb210 ?_
          show w_T L xs (d + 2) m_X12_monthTold 238 [(2, .int (Int32.ofInt (mo1 : Int))), (1, .int (Int32.ofInt (pl : Int))), (0, .ref 100)] [.int (Int32.ofInt 0)] (p_S (t_S T0 nm om bg nt fo ot pp) pl1 cs sk cl b210 nc sg ov bh op na) R Q
          refine w_st rfl (fun _ => rfl) ?_
          show w_T L xs (d + 2) m_X12_monthTold 241 [(2, .int (Int32.ofInt (mo1 : Int))), (1, .int (Int32.ofInt (pl : Int))), (0, .ref 100)] [] (p_S (t_S T0 nm om bg nt fo ot pp) pl1 cs sk cl b210 nc sg ov bh op na) R Q
          refine w_ret rfl rfl ?_
          exact Kb _ _ _ _ _ _ _ _ _ hb210 (by omega) ⟨m1, m2, m3, m4, m5⟩
    · have e91 := Decidable.of_not_not h91
      have hlt1 := p_h_lt (S0 := T0) (pl := pl1) (by rw [e91]; decide)
      refine w_st rfl (fun _ => rfl) ?_
      show w_T L xs (d + 2) m_X12_monthTold 95 [(2, .int (Int32.ofInt (mo1 : Int))), (1, .int (Int32.ofInt (pl : Int))), (0, .ref 100)] [.ref 100] (p_S (t_S T0 nm om bg nt fo ot pp) pl1 cs sk cl (Int32.ofInt 0) nc sg ov bh op na) R Q
      refine w_get rfl v_tyM rfl ?_
      refine w_st rfl (fun _ => rfl) ?_
      show w_T L xs (d + 2) m_X12_monthTold 99 [(2, .int (Int32.ofInt (mo1 : Int))), (1, .int (Int32.ofInt (pl : Int))), (0, .ref 100)] [.int (Int32.ofInt 2), .int (Int32.ofInt (om : Int))] (p_S (t_S T0 nm om bg nt fo ot pp) pl1 cs sk cl (Int32.ofInt 0) nc sg ov bh op na) R Q
      refine w_br (P := ¬ (Int32.ofInt (om : Int)) = (Int32.ofInt 2)) rfl (fun _ => rfl) (fun h99 => ?_) (fun h99 => ?_)
      · have hom2 : om < 2 := Nat.lt_of_le_of_ne m2 (fun e => h99 (by rw [e]; rfl))
        refine w_st rfl (fun _ => rfl) ?_
        show w_T L xs (d + 2) m_X12_monthTold 112 [(2, .int (Int32.ofInt (mo1 : Int))), (1, .int (Int32.ofInt (pl : Int))), (0, .ref 100)] [.ref 100] (p_S (t_S T0 nm om bg nt fo ot pp) pl1 cs sk cl (Int32.ofInt 0) nc sg ov bh op na) R Q
        refine w_cv rfl (by decide) mt_X12_isGood v_tyM rfl rfl rfl (Nat.le_of_ble_eq_true rfl) (Nat.le_of_ble_eq_true rfl) (Nat.le_of_ble_eq_true rfl) ?_
        show w_T L xs _ m_X12_isGood 0 (lv_args 0 [.ref 100]) [] (p_S (t_S T0 nm om bg nt fo ot pp) pl1 cs sk cl (Int32.ofInt 0) nc sg ov bh op na) R _
        refine h_isGT ?_
        show w_T L xs (d + 2) m_X12_monthTold 115 [(2, .int (Int32.ofInt (mo1 : Int))), (1, .int (Int32.ofInt (pl : Int))), (0, .ref 100)] [.int (Int32.ofInt 1)] (p_S (t_S T0 nm om bg nt fo ot pp) pl1 cs sk cl (Int32.ofInt 0) nc sg ov bh op na) R Q
        refine w_st rfl (fun _ => rfl) ?_
        refine w_st rfl (fun _ => rfl) ?_
        show w_T L xs (d + 2) m_X12_monthTold 120 [(2, .int (Int32.ofInt (mo1 : Int))), (1, .int (Int32.ofInt (pl : Int))), (0, .ref 100)] [.ref 100] (p_S (t_S T0 nm om bg nt fo ot pp) pl1 cs sk cl (Int32.ofInt 0) nc sg ov bh op na) R Q
        refine w_getr rfl v_tyM rfl ?_
        refine w_st rfl (fun _ => rfl) ?_
        show w_T L xs (d + 2) m_X12_monthTold 124 [(2, .int (Int32.ofInt (mo1 : Int))), (1, .int (Int32.ofInt (pl : Int))), (0, .ref 100)] [.ref 100, .ref 135] (p_S (t_S T0 nm om bg nt fo ot pp) pl1 cs sk cl (Int32.ofInt 0) nc sg ov bh op na) R Q
        refine w_get rfl v_tyM rfl ?_
        refine w_st rfl (fun _ => rfl) ?_
        show w_T L xs (d + 2) m_X12_monthTold 128 [(2, .int (Int32.ofInt (mo1 : Int))), (1, .int (Int32.ofInt (pl : Int))), (0, .ref 100)] [.ref 100, .int (Int32.ofInt (om : Int)), .ref 135] (p_S (t_S T0 nm om bg nt fo ot pp) pl1 cs sk cl (Int32.ofInt 0) nc sg ov bh op na) R Q
        refine w_get rfl v_tyM rfl ?_
        show w_T L xs (d + 2) m_X12_monthTold 131 [(2, .int (Int32.ofInt (mo1 : Int))), (1, .int (Int32.ofInt (pl : Int))), (0, .ref 100)] [.int (Int32.ofInt (nm : Int)), .int (Int32.ofInt (om : Int)), .ref 135] (p_S (t_S T0 nm om bg nt fo ot pp) pl1 cs sk cl (Int32.ofInt 0) nc sg ov bh op na) R Q
        refine w_iast rfl rfl (by rw [w_nat (by omega)]; omega) (by rw [w_nat (by omega)]; omega) ?_
        refine w_eqS (p_wor (by decide) (w_natn (by omega))) ?_
        refine w_eqS (p_in (t_wfo (by omega))) ?_
        refine w_st rfl (fun _ => rfl) ?_
        show w_T L xs (d + 2) m_X12_monthTold 133 [(2, .int (Int32.ofInt (mo1 : Int))), (1, .int (Int32.ofInt (pl : Int))), (0, .ref 100)] [.ref 100] (p_S (t_S T0 nm om bg nt (upd fo om (Int32.ofInt (nm : Int))) ot pp) pl1 cs sk cl (Int32.ofInt 0) nc sg ov bh op na) R Q
        refine w_getr rfl v_tyM rfl ?_
        refine w_st rfl (fun _ => rfl) ?_
        show w_T L xs (d + 2) m_X12_monthTold 137 [(2, .int (Int32.ofInt (mo1 : Int))), (1, .int (Int32.ofInt (pl : Int))), (0, .ref 100)] [.ref 100, .ref 136] (p_S (t_S T0 nm om bg nt (upd fo om (Int32.ofInt (nm : Int))) ot pp) pl1 cs sk cl (Int32.ofInt 0) nc sg ov bh op na) R Q
        refine w_get rfl v_tyM rfl ?_
        refine w_st rfl (fun _ => rfl) ?_
        show w_T L xs (d + 2) m_X12_monthTold 141 [(2, .int (Int32.ofInt (mo1 : Int))), (1, .int (Int32.ofInt (pl : Int))), (0, .ref 100)] [.int (Int32.ofInt (mo1 : Int)), .int (Int32.ofInt (om : Int)), .ref 136] (p_S (t_S T0 nm om bg nt (upd fo om (Int32.ofInt (nm : Int))) ot pp) pl1 cs sk cl (Int32.ofInt 0) nc sg ov bh op na) R Q
        refine w_iast rfl rfl (by rw [w_nat (by omega)]; omega) (by rw [w_nat (by omega)]; omega) ?_
        refine w_eqS (p_wor (by decide) (w_natn (by omega))) ?_
        refine w_eqS (p_in (t_wot (by omega))) ?_
        refine w_st rfl (fun _ => rfl) ?_
        show w_T L xs (d + 2) m_X12_monthTold 143 [(2, .int (Int32.ofInt (mo1 : Int))), (1, .int (Int32.ofInt (pl : Int))), (0, .ref 100)] [.ref 100] (p_S (t_S T0 nm om bg nt (upd fo om (Int32.ofInt (nm : Int))) (upd ot om (Int32.ofInt (mo1 : Int))) pp) pl1 cs sk cl (Int32.ofInt 0) nc sg ov bh op na) R Q
        refine w_getr rfl v_tyM rfl ?_
        refine w_st rfl (fun _ => rfl) ?_
        show w_T L xs (d + 2) m_X12_monthTold 147 [(2, .int (Int32.ofInt (mo1 : Int))), (1, .int (Int32.ofInt (pl : Int))), (0, .ref 100)] [.ref 100, .ref 137] (p_S (t_S T0 nm om bg nt (upd fo om (Int32.ofInt (nm : Int))) (upd ot om (Int32.ofInt (mo1 : Int))) pp) pl1 cs sk cl (Int32.ofInt 0) nc sg ov bh op na) R Q
        refine w_get rfl v_tyM rfl ?_
        refine w_st rfl (fun _ => rfl) ?_
        show w_T L xs (d + 2) m_X12_monthTold 151 [(2, .int (Int32.ofInt (mo1 : Int))), (1, .int (Int32.ofInt (pl : Int))), (0, .ref 100)] [.int (Int32.ofInt (pl : Int)), .int (Int32.ofInt (om : Int)), .ref 137] (p_S (t_S T0 nm om bg nt (upd fo om (Int32.ofInt (nm : Int))) (upd ot om (Int32.ofInt (mo1 : Int))) pp) pl1 cs sk cl (Int32.ofInt 0) nc sg ov bh op na) R Q
        refine w_iast rfl rfl (by rw [w_nat (by omega)]; omega) (by rw [w_nat (by omega)]; omega) ?_
        refine w_eqS (p_wor (by decide) (w_natn (by omega))) ?_
        refine w_eqS (p_in (t_wpp (by omega))) ?_
        refine w_st rfl (fun _ => rfl) ?_
        refine w_st rfl (fun _ => rfl) ?_
        show w_T L xs (d + 2) m_X12_monthTold 154 [(2, .int (Int32.ofInt (mo1 : Int))), (1, .int (Int32.ofInt (pl : Int))), (0, .ref 100)] [.ref 100, .ref 100] (p_S (t_S T0 nm om bg nt (upd fo om (Int32.ofInt (nm : Int))) (upd ot om (Int32.ofInt (mo1 : Int))) (upd pp om (Int32.ofInt (pl : Int)))) pl1 cs sk cl (Int32.ofInt 0) nc sg ov bh op na) R Q
        refine w_get rfl v_tyM rfl ?_
        refine w_st rfl (fun _ => rfl) ?_
        refine w_st rfl (fun _ => rfl) ?_
        show w_T L xs (d + 2) m_X12_monthTold 159 [(2, .int (Int32.ofInt (mo1 : Int))), (1, .int (Int32.ofInt (pl : Int))), (0, .ref 100)] [.int ((Int32.ofInt (om : Int)) + (Int32.ofInt 1)), .ref 100] (p_S (t_S T0 nm om bg nt (upd fo om (Int32.ofInt (nm : Int))) (upd ot om (Int32.ofInt (mo1 : Int))) (upd pp om (Int32.ofInt (pl : Int)))) pl1 cs sk cl (Int32.ofInt 0) nc sg ov bh op na) R Q
        refine w_put rfl v_tyM rfl rfl rfl ?_
        refine w_eqS (p_wo99 (by decide)) ?_
        refine w_eqS (p_in (t_wom (w_inc _))) ?_
        refine w_st rfl (fun _ => rfl) ?_
        refine w_st rfl (fun _ => rfl) ?_
        show w_T L xs (d + 2) m_X12_monthTold 164 [(2, .int (Int32.ofInt (mo1 : Int))), (1, .int (Int32.ofInt (pl : Int))), (0, .ref 100)] [.int (Int32.ofInt 0), .ref 100] (p_S (t_S T0 nm (om + 1) bg nt (upd fo om (Int32.ofInt (nm : Int))) (upd ot om (Int32.ofInt (mo1 : Int))) (upd pp om (Int32.ofInt (pl : Int)))) pl1 cs sk cl (Int32.ofInt 0) nc sg ov bh op na) R Q
        refine w_put rfl v_tyM rfl rfl rfl ?_
        refine w_eqS (p_wo99 (by decide)) ?_
        refine w_eqS (p_in (t_wbg (b := false) rfl)) ?_
        refine w_st rfl (fun _ => rfl) ?_
        refine w_st rfl (fun _ => rfl) ?_
        show w_T L xs (d + 2) m_X12_monthTold 169 [(2, .int (Int32.ofInt (mo1 : Int))), (1, .int (Int32.ofInt (pl : Int))), (0, .ref 100)] [.ref 100, .ref 100] (p_S (t_S T0 nm (om + 1) false nt (upd fo om (Int32.ofInt (nm : Int))) (upd ot om (Int32.ofInt (mo1 : Int))) (upd pp om (Int32.ofInt (pl : Int)))) pl1 cs sk cl (Int32.ofInt 0) nc sg ov bh op na) R Q
        refine w_get rfl v_tyM rfl ?_
        refine w_st rfl (fun _ => rfl) ?_
        refine w_st rfl (fun _ => rfl) ?_
        show w_T L xs (d + 2) m_X12_monthTold 174 [(2, .int (Int32.ofInt (mo1 : Int))), (1, .int (Int32.ofInt (pl : Int))), (0, .ref 100)] [.int ((Int32.ofInt (pl1 : Int)) + (Int32.ofInt 1)), .ref 100] (p_S (t_S T0 nm (om + 1) false nt (upd fo om (Int32.ofInt (nm : Int))) (upd ot om (Int32.ofInt (mo1 : Int))) (upd pp om (Int32.ofInt (pl : Int)))) pl1 cs sk cl (Int32.ofInt 0) nc sg ov bh op na) R Q
        refine w_put rfl v_tyM rfl rfl rfl ?_
        refine w_eqS (p_wpl (w_inc _)) ?_
        show w_T L xs (d + 2) m_X12_monthTold 177 [(2, .int (Int32.ofInt (mo1 : Int))), (1, .int (Int32.ofInt (pl : Int))), (0, .ref 100)] [] (p_S (t_S T0 nm (om + 1) false nt (upd fo om (Int32.ofInt (nm : Int))) (upd ot om (Int32.ofInt (mo1 : Int))) (upd pp om (Int32.ofInt (pl : Int)))) (pl1 + 1) cs sk cl (Int32.ofInt 0) nc sg ov bh op na) R Q
        refine w_ret rfl rfl ?_
        refine Kg _ _ _ _ _ _ _ _ (by omega) (by omega) ⟨m1, by omega, m3, fun j hj => ?_, fun j hj => ?_⟩
        · by_cases e : j = om
          · rw [e, p_upe, p_upe, w_nat (by omega), w_nat (by omega)]; omega
          · rw [p_upn e, p_upn e]; exact m4 j hj
        · by_cases e : j = om
          · rw [e, p_upe, p_upe, p_upe, w_nat (by omega), w_nat (by omega), w_nat (by omega)]; omega
          · rw [p_upn e, p_upn e, p_upn e]; exact m5 j (by omega)
      · refine w_st rfl (fun _ => rfl) ?_
        refine w_st rfl (fun _ => rfl) ?_
        refine w_st rfl (fun _ => rfl) ?_
        show w_T L xs (d + 2) m_X12_monthTold 105 [(2, .int (Int32.ofInt (mo1 : Int))), (1, .int (Int32.ofInt (pl : Int))), (0, .ref 100)] [.ref 100, .int (Int32.ofInt 5), .ref 100] (p_S (t_S T0 nm om bg nt fo ot pp) pl1 cs sk cl (Int32.ofInt 0) nc sg ov bh op na) R Q
        refine w_get rfl v_tyM rfl ?_
        show w_T L xs (d + 2) m_X12_monthTold 108 [(2, .int (Int32.ofInt (mo1 : Int))), (1, .int (Int32.ofInt (pl : Int))), (0, .ref 100)] [.int (Int32.ofInt (pl1 : Int)), .int (Int32.ofInt 5), .ref 100] (p_S (t_S T0 nm om bg nt fo ot pp) pl1 cs sk cl (Int32.ofInt 0) nc sg ov bh op na) R Q
        refine w_cv rfl (by decide) mt_X12_wrongs v_tyM rfl rfl rfl (Nat.le_of_ble_eq_true rfl) (Nat.le_of_ble_eq_true rfl) (Nat.le_of_ble_eq_true rfl) ?_
        show w_T L xs _ m_X12_wrongs 0 (lv_args 0 [.ref 100, .int (Int32.ofInt 5), .int (Int32.ofInt (pl1 : Int))]) [] (p_S (t_S T0 nm om bg nt fo ot pp) pl1 cs sk cl (Int32.ofInt 0) nc sg ov bh op na) R _
        refine h_wr (by decide) (by decide) (by rw [w_nat (by omega)]; omega) (by rw [w_nat (by omega)]; omega) (fun b108 hb108 => ?_)
        refine w_st rfl (fun _ => rfl) ?_
        show w_T L xs (d + 2) m_X12_monthTold 112 [(2, .int (Int32.ofInt (mo1 : Int))), (1, .int (Int32.ofInt (pl : Int))), (0, .ref 100)] [.ref 100] (p_S (t_S T0 nm om bg nt fo ot pp) pl1 cs sk cl b108 nc sg ov bh op na) R Q
        refine w_cv rfl (by decide) mt_X12_isGood v_tyM rfl rfl rfl (Nat.le_of_ble_eq_true rfl) (Nat.le_of_ble_eq_true rfl) (Nat.le_of_ble_eq_true rfl) ?_
        show w_T L xs _ m_X12_isGood 0 (lv_args 0 [.ref 100]) [] (p_S (t_S T0 nm om bg nt fo ot pp) pl1 cs sk cl b108 nc sg ov bh op na) R _
        refine h_isGF hb108 ?_
        show w_T L xs (d + 2) m_X12_monthTold 115 [(2, .int (Int32.ofInt (mo1 : Int))), (1, .int (Int32.ofInt (pl : Int))), (0, .ref 100)] [.int (Int32.ofInt 0)] (p_S (t_S T0 nm om bg nt fo ot pp) pl1 cs sk cl b108 nc sg ov bh op na) R Q
        refine w_st rfl (fun _ => rfl) ?_
        show w_T L xs (d + 2) m_X12_monthTold 118 [(2, .int (Int32.ofInt (mo1 : Int))), (1, .int (Int32.ofInt (pl : Int))), (0, .ref 100)] [] (p_S (t_S T0 nm om bg nt fo ot pp) pl1 cs sk cl b108 nc sg ov bh op na) R Q
        refine w_ret rfl rfl ?_
        exact Kb _ _ _ _ _ _ _ _ _ hb108 (by omega) ⟨m1, m2, m3, m4, m5⟩
  · refine w_st rfl (fun _ => rfl) ?_
    show w_T L xs (d + 2) m_X12_monthTold 15 [(1, .int (Int32.ofInt (pl : Int))), (0, .ref 100)] [.ref 100] (p_S (t_S T0 nm om bg nt fo ot pp) pl cs sk cl (Int32.ofInt 0) nc sg ov bh op na) R Q
    refine w_get rfl v_tyM rfl ?_
    show w_T L xs (d + 2) m_X12_monthTold 18 [(1, .int (Int32.ofInt (pl : Int))), (0, .ref 100)] [.int (Int32.ofInt (om : Int))] (p_S (t_S T0 nm om bg nt fo ot pp) pl cs sk cl (Int32.ofInt 0) nc sg ov bh op na) R Q
    refine w_br (P := (Int32.ofInt (om : Int)) ≤ 0) rfl (fun _ => rfl) (fun h18 => ?_) (fun h18 => ?_)
    · refine w_st rfl (fun _ => rfl) ?_
      show w_T L xs (d + 2) m_X12_monthTold 81 [(1, .int (Int32.ofInt (pl : Int))), (0, .ref 100)] [.ref 100] (p_S (t_S T0 nm om bg nt fo ot pp) pl cs sk cl (Int32.ofInt 0) nc sg ov bh op na) R Q
      refine w_cv rfl (by decide) mt_X12_timesTold v_tyM rfl rfl rfl (Nat.le_of_ble_eq_true rfl) (Nat.le_of_ble_eq_true rfl) (Nat.le_of_ble_eq_true rfl) ?_
      show w_T L xs _ m_X12_timesTold 0 (lv_args 0 [.ref 100]) [] (p_S (t_S T0 nm om bg nt fo ot pp) pl cs sk cl (Int32.ofInt 0) nc sg ov bh op na) R _
      refine h_times (by omega) he htp (fun mo1 pl1 y1 y2 y3 y4 => ?_)
      refine w_st rfl (fun _ => rfl) ?_
      refine w_st rfl (fun _ => rfl) ?_
      show w_T L xs (d + 2) m_X12_monthTold 86 [(2, .int (Int32.ofInt (mo1 : Int))), (1, .int (Int32.ofInt (pl : Int))), (0, .ref 100)] [.ref 100] (p_S (t_S T0 nm om bg nt fo ot pp) pl1 cs sk cl (Int32.ofInt 0) nc sg ov bh op na) R Q
      refine w_cv rfl (by decide) mt_X12_here v_tyM rfl rfl rfl (Nat.le_of_ble_eq_true rfl) (Nat.le_of_ble_eq_true rfl) (Nat.le_of_ble_eq_true rfl) ?_
      show w_T L xs _ m_X12_here 0 (lv_args 0 [.ref 100]) [] (p_S (t_S T0 nm om bg nt fo ot pp) pl1 cs sk cl (Int32.ofInt 0) nc sg ov bh op na) R _
      refine h_here (by omega) ?_
      refine w_st rfl (fun _ => rfl) ?_
      show w_T L xs (d + 2) m_X12_monthTold 91 [(2, .int (Int32.ofInt (mo1 : Int))), (1, .int (Int32.ofInt (pl : Int))), (0, .ref 100)] [.int (Int32.ofInt 40), .int (p_h T0 pl1)] (p_S (t_S T0 nm om bg nt fo ot pp) pl1 cs sk cl (Int32.ofInt 0) nc sg ov bh op na) R Q
      refine w_br (P := ¬ (p_h T0 pl1) = (Int32.ofInt 40)) rfl (fun _ => rfl) (fun h91 => ?_) (fun h91 => ?_)
      · refine w_st rfl (fun _ => rfl) ?_
        show w_T L xs (d + 2) m_X12_monthTold 179 [(2, .int (Int32.ofInt (mo1 : Int))), (1, .int (Int32.ofInt (pl : Int))), (0, .ref 100)] [.ref 100] (p_S (t_S T0 nm om bg nt fo ot pp) pl1 cs sk cl (Int32.ofInt 0) nc sg ov bh op na) R Q
        refine w_cv rfl (by decide) mt_X12_here v_tyM rfl rfl rfl (Nat.le_of_ble_eq_true rfl) (Nat.le_of_ble_eq_true rfl) (Nat.le_of_ble_eq_true rfl) ?_
        show w_T L xs _ m_X12_here 0 (lv_args 0 [.ref 100]) [] (p_S (t_S T0 nm om bg nt fo ot pp) pl1 cs sk cl (Int32.ofInt 0) nc sg ov bh op na) R _
        refine h_here (by omega) ?_
        refine w_st rfl (fun _ => rfl) ?_
        show w_T L xs (d + 2) m_X12_monthTold 184 [(2, .int (Int32.ofInt (mo1 : Int))), (1, .int (Int32.ofInt (pl : Int))), (0, .ref 100)] [.int (Int32.ofInt 46), .int (p_h T0 pl1)] (p_S (t_S T0 nm om bg nt fo ot pp) pl1 cs sk cl (Int32.ofInt 0) nc sg ov bh op na) R Q
        refine w_br (P := (p_h T0 pl1) = (Int32.ofInt 46)) rfl (fun _ => rfl) (fun h184 => ?_) (fun h184 => ?_)
        · have hh : p_h T0 pl1 = Int32.ofInt 46 ∨ (65 ≤ (p_h T0 pl1).toInt ∧ (p_h T0 pl1).toInt ≤ 74) := Or.inl h184
          refine w_st rfl (fun _ => rfl) ?_
          show w_T L xs (d + 2) m_X12_monthTold 217 [(2, .int (Int32.ofInt (mo1 : Int))), (1, .int (Int32.ofInt (pl : Int))), (0, .ref 100)] [.ref 100] (p_S (t_S T0 nm om bg nt fo ot pp) pl1 cs sk cl (Int32.ofInt 0) nc sg ov bh op na) R Q
          refine w_get rfl v_tyM rfl ?_
          refine w_st rfl (fun _ => rfl) ?_
          refine w_st rfl (fun _ => rfl) ?_
          refine w_st rfl (fun _ => rfl) ?_
          show w_T L xs (d + 2) m_X12_monthTold 224 [(2, .int (Int32.ofInt (mo1 : Int))), (1, .int (Int32.ofInt (pl : Int))), (0, .ref 100)] [.int (Int32.ofInt 48), .int ((Int32.ofInt (nm : Int)) + (Int32.ofInt (mo1 : Int)))] (p_S (t_S T0 nm om bg nt fo ot pp) pl1 cs sk cl (Int32.ofInt 0) nc sg ov bh op na) R Q
          refine w_br (P := ((Int32.ofInt (nm : Int)) + (Int32.ofInt (mo1 : Int))) ≤ (Int32.ofInt 48)) rfl (fun _ => rfl) (fun h224 => ?_) (fun h224 => ?_)
          · refine w_st rfl (fun _ => rfl) ?_
            show w_T L xs (d + 2) m_X12_monthTold 235 [(2, .int (Int32.ofInt (mo1 : Int))), (1, .int (Int32.ofInt (pl : Int))), (0, .ref 100)] [.ref 100] (p_S (t_S T0 nm om bg nt fo ot pp) pl1 cs sk cl (Int32.ofInt 0) nc sg ov bh op na) R Q
            refine w_cv rfl (by decide) mt_X12_isGood v_tyM rfl rfl rfl (Nat.le_of_ble_eq_true rfl) (Nat.le_of_ble_eq_true rfl) (Nat.le_of_ble_eq_true rfl) ?_
            show w_T L xs _ m_X12_isGood 0 (lv_args 0 [.ref 100]) [] (p_S (t_S T0 nm om bg nt fo ot pp) pl1 cs sk cl (Int32.ofInt 0) nc sg ov bh op na) R _
            refine h_isGT ?_
            show w_T L xs (d + 2) m_X12_monthTold 238 [(2, .int (Int32.ofInt (mo1 : Int))), (1, .int (Int32.ofInt (pl : Int))), (0, .ref 100)] [.int (Int32.ofInt 1)] (p_S (t_S T0 nm om bg nt fo ot pp) pl1 cs sk cl (Int32.ofInt 0) nc sg ov bh op na) R Q
            refine w_st rfl (fun _ => rfl) ?_
            refine w_st rfl (fun _ => rfl) ?_
            refine w_st rfl (fun _ => rfl) ?_
            show w_T L xs (d + 2) m_X12_monthTold 244 [(3, .int (Int32.ofInt 0)), (2, .int (Int32.ofInt (mo1 : Int))), (1, .int (Int32.ofInt (pl : Int))), (0, .ref 100)] [] (p_S (t_S T0 nm om bg nt fo ot pp) pl1 cs sk cl (Int32.ofInt 0) nc sg ov bh op na) R Q
            have h48 : nm + mo1 ≤ 48 := by
              rw [w_addn, q_le32, w_nat (by omega)] at h224
              have e48 : (Int32.ofInt 48).toInt = 48 := by decide
              omega
            have hlt1 := p_h_lt (S0 := T0) (pl := pl1) (fun e => by
              rw [e] at hh
              revert hh
              decide)
            refine h_ml (by omega) h48 hh (fun nt1 x3 => ?_) mo1 0 nt (by omega) m3
            refine w_st rfl (fun _ => rfl) ?_
            refine w_st rfl (fun _ => rfl) ?_
            show w_T L xs (d + 2) m_X12_monthTold 288 [(3, .int (Int32.ofInt (mo1 : Int))), (2, .int (Int32.ofInt (mo1 : Int))), (1, .int (Int32.ofInt (pl : Int))), (0, .ref 100)] [.ref 100, .ref 100] (p_S (t_S T0 nm om bg nt1 fo ot pp) pl1 cs sk cl (Int32.ofInt 0) nc sg ov bh op na) R Q
            refine w_get rfl v_tyM rfl ?_
            refine w_st rfl (fun _ => rfl) ?_
            refine w_st rfl (fun _ => rfl) ?_
            show w_T L xs (d + 2) m_X12_monthTold 293 [(3, .int (Int32.ofInt (mo1 : Int))), (2, .int (Int32.ofInt (mo1 : Int))), (1, .int (Int32.ofInt (pl : Int))), (0, .ref 100)] [.int ((Int32.ofInt (nm : Int)) + (Int32.ofInt (mo1 : Int))), .ref 100] (p_S (t_S T0 nm om bg nt1 fo ot pp) pl1 cs sk cl (Int32.ofInt 0) nc sg ov bh op na) R Q
            refine w_put rfl v_tyM rfl rfl rfl ?_
            refine w_eqS (p_wo99 (by decide)) ?_
            refine w_eqS (p_in (t_wnm (w_addn _ _))) ?_
            refine w_st rfl (fun _ => rfl) ?_
            refine w_st rfl (fun _ => rfl) ?_
            show w_T L xs (d + 2) m_X12_monthTold 298 [(3, .int (Int32.ofInt (mo1 : Int))), (2, .int (Int32.ofInt (mo1 : Int))), (1, .int (Int32.ofInt (pl : Int))), (0, .ref 100)] [.int (Int32.ofInt 1), .ref 100] (p_S (t_S T0 (nm + mo1) om bg nt1 fo ot pp) pl1 cs sk cl (Int32.ofInt 0) nc sg ov bh op na) R Q
            refine w_put rfl v_tyM rfl rfl rfl ?_
            refine w_eqS (p_wo99 (by decide)) ?_
            refine w_eqS (p_in (t_wbg (b := true) rfl)) ?_
            refine w_st rfl (fun _ => rfl) ?_
            refine w_st rfl (fun _ => rfl) ?_
            show w_T L xs (d + 2) m_X12_monthTold 303 [(3, .int (Int32.ofInt (mo1 : Int))), (2, .int (Int32.ofInt (mo1 : Int))), (1, .int (Int32.ofInt (pl : Int))), (0, .ref 100)] [.ref 100, .ref 100] (p_S (t_S T0 (nm + mo1) om true nt1 fo ot pp) pl1 cs sk cl (Int32.ofInt 0) nc sg ov bh op na) R Q
            refine w_get rfl v_tyM rfl ?_
            refine w_st rfl (fun _ => rfl) ?_
            refine w_st rfl (fun _ => rfl) ?_
            show w_T L xs (d + 2) m_X12_monthTold 308 [(3, .int (Int32.ofInt (mo1 : Int))), (2, .int (Int32.ofInt (mo1 : Int))), (1, .int (Int32.ofInt (pl : Int))), (0, .ref 100)] [.int ((Int32.ofInt (pl1 : Int)) + (Int32.ofInt 1)), .ref 100] (p_S (t_S T0 (nm + mo1) om true nt1 fo ot pp) pl1 cs sk cl (Int32.ofInt 0) nc sg ov bh op na) R Q
            refine w_put rfl v_tyM rfl rfl rfl ?_
            refine w_eqS (p_wpl (w_inc _)) ?_
            show w_T L xs (d + 2) m_X12_monthTold 311 [(3, .int (Int32.ofInt (mo1 : Int))), (2, .int (Int32.ofInt (mo1 : Int))), (1, .int (Int32.ofInt (pl : Int))), (0, .ref 100)] [] (p_S (t_S T0 (nm + mo1) om true nt1 fo ot pp) (pl1 + 1) cs sk cl (Int32.ofInt 0) nc sg ov bh op na) R Q
            refine w_ret rfl rfl ?_
            exact Kg _ _ _ _ _ _ _ _ (by omega) (by omega) ⟨by omega, m2, x3, m4, fun j hj => by have := m5 j hj; omega⟩
          · refine w_st rfl (fun _ => rfl) ?_
            refine w_st rfl (fun _ => rfl) ?_
            refine w_st rfl (fun _ => rfl) ?_
            show w_T L xs (d + 2) m_X12_monthTold 231 [(2, .int (Int32.ofInt (mo1 : Int))), (1, .int (Int32.ofInt (pl : Int))), (0, .ref 100)] [.int (Int32.ofInt (pl : Int)), .int (Int32.ofInt 6), .ref 100] (p_S (t_S T0 nm om bg nt fo ot pp) pl1 cs sk cl (Int32.ofInt 0) nc sg ov bh op na) R Q
            refine w_cv rfl (by decide) mt_X12_wrongs v_tyM rfl rfl rfl (Nat.le_of_ble_eq_true rfl) (Nat.le_of_ble_eq_true rfl) (Nat.le_of_ble_eq_true rfl) ?_
            show w_T L xs _ m_X12_wrongs 0 (lv_args 0 [.ref 100, .int (Int32.ofInt 6), .int (Int32.ofInt (pl : Int))]) [] (p_S (t_S T0 nm om bg nt fo ot pp) pl1 cs sk cl (Int32.ofInt 0) nc sg ov bh op na) R _
            refine h_wr (by decide) (by decide) (by rw [w_nat (by omega)]; omega) (by rw [w_nat (by omega)]; omega) (fun b231 hb231 => ?_)
            refine w_st rfl (fun _ => rfl) ?_
            show w_T L xs (d + 2) m_X12_monthTold 235 [(2, .int (Int32.ofInt (mo1 : Int))), (1, .int (Int32.ofInt (pl : Int))), (0, .ref 100)] [.ref 100] (p_S (t_S T0 nm om bg nt fo ot pp) pl1 cs sk cl b231 nc sg ov bh op na) R Q
            refine w_cv rfl (by decide) mt_X12_isGood v_tyM rfl rfl rfl (Nat.le_of_ble_eq_true rfl) (Nat.le_of_ble_eq_true rfl) (Nat.le_of_ble_eq_true rfl) ?_
            show w_T L xs _ m_X12_isGood 0 (lv_args 0 [.ref 100]) [] (p_S (t_S T0 nm om bg nt fo ot pp) pl1 cs sk cl b231 nc sg ov bh op na) R _
            refine h_isGF hb231 ?_
            show w_T L xs (d + 2) m_X12_monthTold 238 [(2, .int (Int32.ofInt (mo1 : Int))), (1, .int (Int32.ofInt (pl : Int))), (0, .ref 100)] [.int (Int32.ofInt 0)] (p_S (t_S T0 nm om bg nt fo ot pp) pl1 cs sk cl b231 nc sg ov bh op na) R Q
            refine w_st rfl (fun _ => rfl) ?_
            show w_T L xs (d + 2) m_X12_monthTold 241 [(2, .int (Int32.ofInt (mo1 : Int))), (1, .int (Int32.ofInt (pl : Int))), (0, .ref 100)] [] (p_S (t_S T0 nm om bg nt fo ot pp) pl1 cs sk cl b231 nc sg ov bh op na) R Q
            refine w_ret rfl rfl ?_
            exact Kb _ _ _ _ _ _ _ _ _ hb231 (by omega) ⟨m1, m2, m3, m4, m5⟩
        · refine w_st rfl (fun _ => rfl) ?_
          show w_T L xs (d + 2) m_X12_monthTold 188 [(2, .int (Int32.ofInt (mo1 : Int))), (1, .int (Int32.ofInt (pl : Int))), (0, .ref 100)] [.ref 100] (p_S (t_S T0 nm om bg nt fo ot pp) pl1 cs sk cl (Int32.ofInt 0) nc sg ov bh op na) R Q
          refine w_cv rfl (by decide) mt_X12_here v_tyM rfl rfl rfl (Nat.le_of_ble_eq_true rfl) (Nat.le_of_ble_eq_true rfl) (Nat.le_of_ble_eq_true rfl) ?_
          show w_T L xs _ m_X12_here 0 (lv_args 0 [.ref 100]) [] (p_S (t_S T0 nm om bg nt fo ot pp) pl1 cs sk cl (Int32.ofInt 0) nc sg ov bh op na) R _
          refine h_here (by omega) ?_
          refine w_st rfl (fun _ => rfl) ?_
          refine w_st rfl (fun _ => rfl) ?_
          refine w_st rfl (fun _ => rfl) ?_
          show w_T L xs (d + 2) m_X12_monthTold 198 [(2, .int (Int32.ofInt (mo1 : Int))), (1, .int (Int32.ofInt (pl : Int))), (0, .ref 100)] [.long (Int64.ofInt 74), .long (Int64.ofInt 65), .long ((p_h T0 pl1).toInt64)] (p_S (t_S T0 nm om bg nt fo ot pp) pl1 cs sk cl (Int32.ofInt 0) nc sg ov bh op na) R Q
          refine w_cs rfl (by decide) mt_X12_lies (fun _ => rfl) (Nat.le_of_ble_eq_true rfl) (Nat.le_of_ble_eq_true rfl) ?_
          show w_T L xs _ m_X12_lies 0 (lv_args 0 [.long ((p_h T0 pl1).toInt64), .long (Int64.ofInt 65), .long (Int64.ofInt 74)]) [] (p_S (t_S T0 nm om bg nt fo ot pp) pl1 cs sk cl (Int32.ofInt 0) nc sg ov bh op na) R _
          refine h_lies _ _ _ ?_
          rw [e65, e74, Int32.toInt_toInt64]
          by_cases hd : 65 ≤ (p_h T0 pl1).toInt ∧ (p_h T0 pl1).toInt ≤ 74
          · rw [if_pos hd]
            have hh : p_h T0 pl1 = Int32.ofInt 46 ∨ (65 ≤ (p_h T0 pl1).toInt ∧ (p_h T0 pl1).toInt ≤ 74) := Or.inr hd
            show w_T L xs (d + 2) m_X12_monthTold 201 [(2, .int (Int32.ofInt (mo1 : Int))), (1, .int (Int32.ofInt (pl : Int))), (0, .ref 100)] [.int (Int32.ofInt 1)] (p_S (t_S T0 nm om bg nt fo ot pp) pl1 cs sk cl (Int32.ofInt 0) nc sg ov bh op na) R Q
            refine w_st rfl (fun _ => rfl) ?_
            refine w_st rfl (fun _ => rfl) ?_
            show w_T L xs (d + 2) m_X12_monthTold 217 [(2, .int (Int32.ofInt (mo1 : Int))), (1, .int (Int32.ofInt (pl : Int))), (0, .ref 100)] [.ref 100] (p_S (t_S T0 nm om bg nt fo ot pp) pl1 cs sk cl (Int32.ofInt 0) nc sg ov bh op na) R Q
            refine w_get rfl v_tyM rfl ?_
            refine w_st rfl (fun _ => rfl) ?_
            refine w_st rfl (fun _ => rfl) ?_
            refine w_st rfl (fun _ => rfl) ?_
            show w_T L xs (d + 2) m_X12_monthTold 224 [(2, .int (Int32.ofInt (mo1 : Int))), (1, .int (Int32.ofInt (pl : Int))), (0, .ref 100)] [.int (Int32.ofInt 48), .int ((Int32.ofInt (nm : Int)) + (Int32.ofInt (mo1 : Int)))] (p_S (t_S T0 nm om bg nt fo ot pp) pl1 cs sk cl (Int32.ofInt 0) nc sg ov bh op na) R Q
            refine w_br (P := ((Int32.ofInt (nm : Int)) + (Int32.ofInt (mo1 : Int))) ≤ (Int32.ofInt 48)) rfl (fun _ => rfl) (fun h224 => ?_) (fun h224 => ?_)
            · refine w_st rfl (fun _ => rfl) ?_
              show w_T L xs (d + 2) m_X12_monthTold 235 [(2, .int (Int32.ofInt (mo1 : Int))), (1, .int (Int32.ofInt (pl : Int))), (0, .ref 100)] [.ref 100] (p_S (t_S T0 nm om bg nt fo ot pp) pl1 cs sk cl (Int32.ofInt 0) nc sg ov bh op na) R Q
              refine w_cv rfl (by decide) mt_X12_isGood v_tyM rfl rfl rfl (Nat.le_of_ble_eq_true rfl) (Nat.le_of_ble_eq_true rfl) (Nat.le_of_ble_eq_true rfl) ?_
              show w_T L xs _ m_X12_isGood 0 (lv_args 0 [.ref 100]) [] (p_S (t_S T0 nm om bg nt fo ot pp) pl1 cs sk cl (Int32.ofInt 0) nc sg ov bh op na) R _
              refine h_isGT ?_
              show w_T L xs (d + 2) m_X12_monthTold 238 [(2, .int (Int32.ofInt (mo1 : Int))), (1, .int (Int32.ofInt (pl : Int))), (0, .ref 100)] [.int (Int32.ofInt 1)] (p_S (t_S T0 nm om bg nt fo ot pp) pl1 cs sk cl (Int32.ofInt 0) nc sg ov bh op na) R Q
              refine w_st rfl (fun _ => rfl) ?_
              refine w_st rfl (fun _ => rfl) ?_
              refine w_st rfl (fun _ => rfl) ?_
              show w_T L xs (d + 2) m_X12_monthTold 244 [(3, .int (Int32.ofInt 0)), (2, .int (Int32.ofInt (mo1 : Int))), (1, .int (Int32.ofInt (pl : Int))), (0, .ref 100)] [] (p_S (t_S T0 nm om bg nt fo ot pp) pl1 cs sk cl (Int32.ofInt 0) nc sg ov bh op na) R Q
              have h48 : nm + mo1 ≤ 48 := by
                rw [w_addn, q_le32, w_nat (by omega)] at h224
                have e48 : (Int32.ofInt 48).toInt = 48 := by decide
                omega
              have hlt1 := p_h_lt (S0 := T0) (pl := pl1) (fun e => by
                rw [e] at hh
                revert hh
                decide)
              refine h_ml (by omega) h48 hh (fun nt1 x3 => ?_) mo1 0 nt (by omega) m3
              refine w_st rfl (fun _ => rfl) ?_
              refine w_st rfl (fun _ => rfl) ?_
              show w_T L xs (d + 2) m_X12_monthTold 288 [(3, .int (Int32.ofInt (mo1 : Int))), (2, .int (Int32.ofInt (mo1 : Int))), (1, .int (Int32.ofInt (pl : Int))), (0, .ref 100)] [.ref 100, .ref 100] (p_S (t_S T0 nm om bg nt1 fo ot pp) pl1 cs sk cl (Int32.ofInt 0) nc sg ov bh op na) R Q
              refine w_get rfl v_tyM rfl ?_
              refine w_st rfl (fun _ => rfl) ?_
              refine w_st rfl (fun _ => rfl) ?_
              show w_T L xs (d + 2) m_X12_monthTold 293 [(3, .int (Int32.ofInt (mo1 : Int))), (2, .int (Int32.ofInt (mo1 : Int))), (1, .int (Int32.ofInt (pl : Int))), (0, .ref 100)] [.int ((Int32.ofInt (nm : Int)) + (Int32.ofInt (mo1 : Int))), .ref 100] (p_S (t_S T0 nm om bg nt1 fo ot pp) pl1 cs sk cl (Int32.ofInt 0) nc sg ov bh op na) R Q
              refine w_put rfl v_tyM rfl rfl rfl ?_
              refine w_eqS (p_wo99 (by decide)) ?_
              refine w_eqS (p_in (t_wnm (w_addn _ _))) ?_
              refine w_st rfl (fun _ => rfl) ?_
              refine w_st rfl (fun _ => rfl) ?_
              show w_T L xs (d + 2) m_X12_monthTold 298 [(3, .int (Int32.ofInt (mo1 : Int))), (2, .int (Int32.ofInt (mo1 : Int))), (1, .int (Int32.ofInt (pl : Int))), (0, .ref 100)] [.int (Int32.ofInt 1), .ref 100] (p_S (t_S T0 (nm + mo1) om bg nt1 fo ot pp) pl1 cs sk cl (Int32.ofInt 0) nc sg ov bh op na) R Q
              refine w_put rfl v_tyM rfl rfl rfl ?_
              refine w_eqS (p_wo99 (by decide)) ?_
              refine w_eqS (p_in (t_wbg (b := true) rfl)) ?_
              refine w_st rfl (fun _ => rfl) ?_
              refine w_st rfl (fun _ => rfl) ?_
              show w_T L xs (d + 2) m_X12_monthTold 303 [(3, .int (Int32.ofInt (mo1 : Int))), (2, .int (Int32.ofInt (mo1 : Int))), (1, .int (Int32.ofInt (pl : Int))), (0, .ref 100)] [.ref 100, .ref 100] (p_S (t_S T0 (nm + mo1) om true nt1 fo ot pp) pl1 cs sk cl (Int32.ofInt 0) nc sg ov bh op na) R Q
              refine w_get rfl v_tyM rfl ?_
              refine w_st rfl (fun _ => rfl) ?_
              refine w_st rfl (fun _ => rfl) ?_
              show w_T L xs (d + 2) m_X12_monthTold 308 [(3, .int (Int32.ofInt (mo1 : Int))), (2, .int (Int32.ofInt (mo1 : Int))), (1, .int (Int32.ofInt (pl : Int))), (0, .ref 100)] [.int ((Int32.ofInt (pl1 : Int)) + (Int32.ofInt 1)), .ref 100] (p_S (t_S T0 (nm + mo1) om true nt1 fo ot pp) pl1 cs sk cl (Int32.ofInt 0) nc sg ov bh op na) R Q
              refine w_put rfl v_tyM rfl rfl rfl ?_
              refine w_eqS (p_wpl (w_inc _)) ?_
              show w_T L xs (d + 2) m_X12_monthTold 311 [(3, .int (Int32.ofInt (mo1 : Int))), (2, .int (Int32.ofInt (mo1 : Int))), (1, .int (Int32.ofInt (pl : Int))), (0, .ref 100)] [] (p_S (t_S T0 (nm + mo1) om true nt1 fo ot pp) (pl1 + 1) cs sk cl (Int32.ofInt 0) nc sg ov bh op na) R Q
              refine w_ret rfl rfl ?_
              exact Kg _ _ _ _ _ _ _ _ (by omega) (by omega) ⟨by omega, m2, x3, m4, fun j hj => by have := m5 j hj; omega⟩
            · refine w_st rfl (fun _ => rfl) ?_
              refine w_st rfl (fun _ => rfl) ?_
              refine w_st rfl (fun _ => rfl) ?_
              show w_T L xs (d + 2) m_X12_monthTold 231 [(2, .int (Int32.ofInt (mo1 : Int))), (1, .int (Int32.ofInt (pl : Int))), (0, .ref 100)] [.int (Int32.ofInt (pl : Int)), .int (Int32.ofInt 6), .ref 100] (p_S (t_S T0 nm om bg nt fo ot pp) pl1 cs sk cl (Int32.ofInt 0) nc sg ov bh op na) R Q
              refine w_cv rfl (by decide) mt_X12_wrongs v_tyM rfl rfl rfl (Nat.le_of_ble_eq_true rfl) (Nat.le_of_ble_eq_true rfl) (Nat.le_of_ble_eq_true rfl) ?_
              show w_T L xs _ m_X12_wrongs 0 (lv_args 0 [.ref 100, .int (Int32.ofInt 6), .int (Int32.ofInt (pl : Int))]) [] (p_S (t_S T0 nm om bg nt fo ot pp) pl1 cs sk cl (Int32.ofInt 0) nc sg ov bh op na) R _
              refine h_wr (by decide) (by decide) (by rw [w_nat (by omega)]; omega) (by rw [w_nat (by omega)]; omega) (fun b231 hb231 => ?_)
              refine w_st rfl (fun _ => rfl) ?_
              show w_T L xs (d + 2) m_X12_monthTold 235 [(2, .int (Int32.ofInt (mo1 : Int))), (1, .int (Int32.ofInt (pl : Int))), (0, .ref 100)] [.ref 100] (p_S (t_S T0 nm om bg nt fo ot pp) pl1 cs sk cl b231 nc sg ov bh op na) R Q
              refine w_cv rfl (by decide) mt_X12_isGood v_tyM rfl rfl rfl (Nat.le_of_ble_eq_true rfl) (Nat.le_of_ble_eq_true rfl) (Nat.le_of_ble_eq_true rfl) ?_
              show w_T L xs _ m_X12_isGood 0 (lv_args 0 [.ref 100]) [] (p_S (t_S T0 nm om bg nt fo ot pp) pl1 cs sk cl b231 nc sg ov bh op na) R _
              refine h_isGF hb231 ?_
              show w_T L xs (d + 2) m_X12_monthTold 238 [(2, .int (Int32.ofInt (mo1 : Int))), (1, .int (Int32.ofInt (pl : Int))), (0, .ref 100)] [.int (Int32.ofInt 0)] (p_S (t_S T0 nm om bg nt fo ot pp) pl1 cs sk cl b231 nc sg ov bh op na) R Q
              refine w_st rfl (fun _ => rfl) ?_
              show w_T L xs (d + 2) m_X12_monthTold 241 [(2, .int (Int32.ofInt (mo1 : Int))), (1, .int (Int32.ofInt (pl : Int))), (0, .ref 100)] [] (p_S (t_S T0 nm om bg nt fo ot pp) pl1 cs sk cl b231 nc sg ov bh op na) R Q
              refine w_ret rfl rfl ?_
              exact Kb _ _ _ _ _ _ _ _ _ hb231 (by omega) ⟨m1, m2, m3, m4, m5⟩
          · rw [if_neg hd]
            show w_T L xs (d + 2) m_X12_monthTold 201 [(2, .int (Int32.ofInt (mo1 : Int))), (1, .int (Int32.ofInt (pl : Int))), (0, .ref 100)] [.int (Int32.ofInt 0)] (p_S (t_S T0 nm om bg nt fo ot pp) pl1 cs sk cl (Int32.ofInt 0) nc sg ov bh op na) R Q
            refine w_st rfl (fun _ => rfl) ?_
            refine w_st rfl (fun _ => rfl) ?_
            refine w_st rfl (fun _ => rfl) ?_
            refine w_st rfl (fun _ => rfl) ?_
            show w_T L xs (d + 2) m_X12_monthTold 207 [(2, .int (Int32.ofInt (mo1 : Int))), (1, .int (Int32.ofInt (pl : Int))), (0, .ref 100)] [.ref 100, .int (Int32.ofInt 1), .ref 100] (p_S (t_S T0 nm om bg nt fo ot pp) pl1 cs sk cl (Int32.ofInt 0) nc sg ov bh op na) R Q
            refine w_get rfl v_tyM rfl ?_
            show w_T L xs (d + 2) m_X12_monthTold 210 [(2, .int (Int32.ofInt (mo1 : Int))), (1, .int (Int32.ofInt (pl : Int))), (0, .ref 100)] [.int (Int32.ofInt (pl1 : Int)), .int (Int32.ofInt 1), .ref 100] (p_S (t_S T0 nm om bg nt fo ot pp) pl1 cs sk cl (Int32.ofInt 0) nc sg ov bh op na) R Q
            refine w_cv rfl (by decide) mt_X12_wrongs v_tyM rfl rfl rfl (Nat.le_of_ble_eq_true rfl) (Nat.le_of_ble_eq_true rfl) (Nat.le_of_ble_eq_true rfl) ?_
            show w_T L xs _ m_X12_wrongs 0 (lv_args 0 [.ref 100, .int (Int32.ofInt 1), .int (Int32.ofInt (pl1 : Int))]) [] (p_S (t_S T0 nm om bg nt fo ot pp) pl1 cs sk cl (Int32.ofInt 0) nc sg ov bh op na) R _
            refine h_wr (by decide) (by decide) (by rw [w_nat (by omega)]; omega) (by rw [w_nat (by omega)]; omega) (fun b210 hb210 => ?_)
            refine w_st rfl (fun _ => rfl) ?_
            refine w_st rfl (fun _ => rfl) ?_
            show w_T L xs (d + 2) m_X12_monthTold 235 [(2, .int (Int32.ofInt (mo1 : Int))), (1, .int (Int32.ofInt (pl : Int))), (0, .ref 100)] [.ref 100] (p_S (t_S T0 nm om bg nt fo ot pp) pl1 cs sk cl b210 nc sg ov bh op na) R Q
            refine w_cv rfl (by decide) mt_X12_isGood v_tyM rfl rfl rfl (Nat.le_of_ble_eq_true rfl) (Nat.le_of_ble_eq_true rfl) (Nat.le_of_ble_eq_true rfl) ?_
            show w_T L xs _ m_X12_isGood 0 (lv_args 0 [.ref 100]) [] (p_S (t_S T0 nm om bg nt fo ot pp) pl1 cs sk cl b210 nc sg ov bh op na) R _
            refine h_isGF hb210 ?_
            show w_T L xs (d + 2) m_X12_monthTold 238 [(2, .int (Int32.ofInt (mo1 : Int))), (1, .int (Int32.ofInt (pl : Int))), (0, .ref 100)] [.int (Int32.ofInt 0)] (p_S (t_S T0 nm om bg nt fo ot pp) pl1 cs sk cl b210 nc sg ov bh op na) R Q
            refine w_st rfl (fun _ => rfl) ?_
            show w_T L xs (d + 2) m_X12_monthTold 241 [(2, .int (Int32.ofInt (mo1 : Int))), (1, .int (Int32.ofInt (pl : Int))), (0, .ref 100)] [] (p_S (t_S T0 nm om bg nt fo ot pp) pl1 cs sk cl b210 nc sg ov bh op na) R Q
            refine w_ret rfl rfl ?_
            exact Kb _ _ _ _ _ _ _ _ _ hb210 (by omega) ⟨m1, m2, m3, m4, m5⟩
      · have e91 := Decidable.of_not_not h91
        have hlt1 := p_h_lt (S0 := T0) (pl := pl1) (by rw [e91]; decide)
        refine w_st rfl (fun _ => rfl) ?_
        show w_T L xs (d + 2) m_X12_monthTold 95 [(2, .int (Int32.ofInt (mo1 : Int))), (1, .int (Int32.ofInt (pl : Int))), (0, .ref 100)] [.ref 100] (p_S (t_S T0 nm om bg nt fo ot pp) pl1 cs sk cl (Int32.ofInt 0) nc sg ov bh op na) R Q
        refine w_get rfl v_tyM rfl ?_
        refine w_st rfl (fun _ => rfl) ?_
        show w_T L xs (d + 2) m_X12_monthTold 99 [(2, .int (Int32.ofInt (mo1 : Int))), (1, .int (Int32.ofInt (pl : Int))), (0, .ref 100)] [.int (Int32.ofInt 2), .int (Int32.ofInt (om : Int))] (p_S (t_S T0 nm om bg nt fo ot pp) pl1 cs sk cl (Int32.ofInt 0) nc sg ov bh op na) R Q
        refine w_br (P := ¬ (Int32.ofInt (om : Int)) = (Int32.ofInt 2)) rfl (fun _ => rfl) (fun h99 => ?_) (fun h99 => ?_)
        · have hom2 : om < 2 := Nat.lt_of_le_of_ne m2 (fun e => h99 (by rw [e]; rfl))
          refine w_st rfl (fun _ => rfl) ?_
          show w_T L xs (d + 2) m_X12_monthTold 112 [(2, .int (Int32.ofInt (mo1 : Int))), (1, .int (Int32.ofInt (pl : Int))), (0, .ref 100)] [.ref 100] (p_S (t_S T0 nm om bg nt fo ot pp) pl1 cs sk cl (Int32.ofInt 0) nc sg ov bh op na) R Q
          refine w_cv rfl (by decide) mt_X12_isGood v_tyM rfl rfl rfl (Nat.le_of_ble_eq_true rfl) (Nat.le_of_ble_eq_true rfl) (Nat.le_of_ble_eq_true rfl) ?_
          show w_T L xs _ m_X12_isGood 0 (lv_args 0 [.ref 100]) [] (p_S (t_S T0 nm om bg nt fo ot pp) pl1 cs sk cl (Int32.ofInt 0) nc sg ov bh op na) R _
          refine h_isGT ?_
          show w_T L xs (d + 2) m_X12_monthTold 115 [(2, .int (Int32.ofInt (mo1 : Int))), (1, .int (Int32.ofInt (pl : Int))), (0, .ref 100)] [.int (Int32.ofInt 1)] (p_S (t_S T0 nm om bg nt fo ot pp) pl1 cs sk cl (Int32.ofInt 0) nc sg ov bh op na) R Q
          refine w_st rfl (fun _ => rfl) ?_
          refine w_st rfl (fun _ => rfl) ?_
          show w_T L xs (d + 2) m_X12_monthTold 120 [(2, .int (Int32.ofInt (mo1 : Int))), (1, .int (Int32.ofInt (pl : Int))), (0, .ref 100)] [.ref 100] (p_S (t_S T0 nm om bg nt fo ot pp) pl1 cs sk cl (Int32.ofInt 0) nc sg ov bh op na) R Q
          refine w_getr rfl v_tyM rfl ?_
          refine w_st rfl (fun _ => rfl) ?_
          show w_T L xs (d + 2) m_X12_monthTold 124 [(2, .int (Int32.ofInt (mo1 : Int))), (1, .int (Int32.ofInt (pl : Int))), (0, .ref 100)] [.ref 100, .ref 135] (p_S (t_S T0 nm om bg nt fo ot pp) pl1 cs sk cl (Int32.ofInt 0) nc sg ov bh op na) R Q
          refine w_get rfl v_tyM rfl ?_
          refine w_st rfl (fun _ => rfl) ?_
          show w_T L xs (d + 2) m_X12_monthTold 128 [(2, .int (Int32.ofInt (mo1 : Int))), (1, .int (Int32.ofInt (pl : Int))), (0, .ref 100)] [.ref 100, .int (Int32.ofInt (om : Int)), .ref 135] (p_S (t_S T0 nm om bg nt fo ot pp) pl1 cs sk cl (Int32.ofInt 0) nc sg ov bh op na) R Q
          refine w_get rfl v_tyM rfl ?_
          show w_T L xs (d + 2) m_X12_monthTold 131 [(2, .int (Int32.ofInt (mo1 : Int))), (1, .int (Int32.ofInt (pl : Int))), (0, .ref 100)] [.int (Int32.ofInt (nm : Int)), .int (Int32.ofInt (om : Int)), .ref 135] (p_S (t_S T0 nm om bg nt fo ot pp) pl1 cs sk cl (Int32.ofInt 0) nc sg ov bh op na) R Q
          refine w_iast rfl rfl (by rw [w_nat (by omega)]; omega) (by rw [w_nat (by omega)]; omega) ?_
          refine w_eqS (p_wor (by decide) (w_natn (by omega))) ?_
          refine w_eqS (p_in (t_wfo (by omega))) ?_
          refine w_st rfl (fun _ => rfl) ?_
          show w_T L xs (d + 2) m_X12_monthTold 133 [(2, .int (Int32.ofInt (mo1 : Int))), (1, .int (Int32.ofInt (pl : Int))), (0, .ref 100)] [.ref 100] (p_S (t_S T0 nm om bg nt (upd fo om (Int32.ofInt (nm : Int))) ot pp) pl1 cs sk cl (Int32.ofInt 0) nc sg ov bh op na) R Q
          refine w_getr rfl v_tyM rfl ?_
          refine w_st rfl (fun _ => rfl) ?_
          show w_T L xs (d + 2) m_X12_monthTold 137 [(2, .int (Int32.ofInt (mo1 : Int))), (1, .int (Int32.ofInt (pl : Int))), (0, .ref 100)] [.ref 100, .ref 136] (p_S (t_S T0 nm om bg nt (upd fo om (Int32.ofInt (nm : Int))) ot pp) pl1 cs sk cl (Int32.ofInt 0) nc sg ov bh op na) R Q
          refine w_get rfl v_tyM rfl ?_
          refine w_st rfl (fun _ => rfl) ?_
          show w_T L xs (d + 2) m_X12_monthTold 141 [(2, .int (Int32.ofInt (mo1 : Int))), (1, .int (Int32.ofInt (pl : Int))), (0, .ref 100)] [.int (Int32.ofInt (mo1 : Int)), .int (Int32.ofInt (om : Int)), .ref 136] (p_S (t_S T0 nm om bg nt (upd fo om (Int32.ofInt (nm : Int))) ot pp) pl1 cs sk cl (Int32.ofInt 0) nc sg ov bh op na) R Q
          refine w_iast rfl rfl (by rw [w_nat (by omega)]; omega) (by rw [w_nat (by omega)]; omega) ?_
          refine w_eqS (p_wor (by decide) (w_natn (by omega))) ?_
          refine w_eqS (p_in (t_wot (by omega))) ?_
          refine w_st rfl (fun _ => rfl) ?_
          show w_T L xs (d + 2) m_X12_monthTold 143 [(2, .int (Int32.ofInt (mo1 : Int))), (1, .int (Int32.ofInt (pl : Int))), (0, .ref 100)] [.ref 100] (p_S (t_S T0 nm om bg nt (upd fo om (Int32.ofInt (nm : Int))) (upd ot om (Int32.ofInt (mo1 : Int))) pp) pl1 cs sk cl (Int32.ofInt 0) nc sg ov bh op na) R Q
          refine w_getr rfl v_tyM rfl ?_
          refine w_st rfl (fun _ => rfl) ?_
          show w_T L xs (d + 2) m_X12_monthTold 147 [(2, .int (Int32.ofInt (mo1 : Int))), (1, .int (Int32.ofInt (pl : Int))), (0, .ref 100)] [.ref 100, .ref 137] (p_S (t_S T0 nm om bg nt (upd fo om (Int32.ofInt (nm : Int))) (upd ot om (Int32.ofInt (mo1 : Int))) pp) pl1 cs sk cl (Int32.ofInt 0) nc sg ov bh op na) R Q
          refine w_get rfl v_tyM rfl ?_
          refine w_st rfl (fun _ => rfl) ?_
          show w_T L xs (d + 2) m_X12_monthTold 151 [(2, .int (Int32.ofInt (mo1 : Int))), (1, .int (Int32.ofInt (pl : Int))), (0, .ref 100)] [.int (Int32.ofInt (pl : Int)), .int (Int32.ofInt (om : Int)), .ref 137] (p_S (t_S T0 nm om bg nt (upd fo om (Int32.ofInt (nm : Int))) (upd ot om (Int32.ofInt (mo1 : Int))) pp) pl1 cs sk cl (Int32.ofInt 0) nc sg ov bh op na) R Q
          refine w_iast rfl rfl (by rw [w_nat (by omega)]; omega) (by rw [w_nat (by omega)]; omega) ?_
          refine w_eqS (p_wor (by decide) (w_natn (by omega))) ?_
          refine w_eqS (p_in (t_wpp (by omega))) ?_
          refine w_st rfl (fun _ => rfl) ?_
          refine w_st rfl (fun _ => rfl) ?_
          show w_T L xs (d + 2) m_X12_monthTold 154 [(2, .int (Int32.ofInt (mo1 : Int))), (1, .int (Int32.ofInt (pl : Int))), (0, .ref 100)] [.ref 100, .ref 100] (p_S (t_S T0 nm om bg nt (upd fo om (Int32.ofInt (nm : Int))) (upd ot om (Int32.ofInt (mo1 : Int))) (upd pp om (Int32.ofInt (pl : Int)))) pl1 cs sk cl (Int32.ofInt 0) nc sg ov bh op na) R Q
          refine w_get rfl v_tyM rfl ?_
          refine w_st rfl (fun _ => rfl) ?_
          refine w_st rfl (fun _ => rfl) ?_
          show w_T L xs (d + 2) m_X12_monthTold 159 [(2, .int (Int32.ofInt (mo1 : Int))), (1, .int (Int32.ofInt (pl : Int))), (0, .ref 100)] [.int ((Int32.ofInt (om : Int)) + (Int32.ofInt 1)), .ref 100] (p_S (t_S T0 nm om bg nt (upd fo om (Int32.ofInt (nm : Int))) (upd ot om (Int32.ofInt (mo1 : Int))) (upd pp om (Int32.ofInt (pl : Int)))) pl1 cs sk cl (Int32.ofInt 0) nc sg ov bh op na) R Q
          refine w_put rfl v_tyM rfl rfl rfl ?_
          refine w_eqS (p_wo99 (by decide)) ?_
          refine w_eqS (p_in (t_wom (w_inc _))) ?_
          refine w_st rfl (fun _ => rfl) ?_
          refine w_st rfl (fun _ => rfl) ?_
          show w_T L xs (d + 2) m_X12_monthTold 164 [(2, .int (Int32.ofInt (mo1 : Int))), (1, .int (Int32.ofInt (pl : Int))), (0, .ref 100)] [.int (Int32.ofInt 0), .ref 100] (p_S (t_S T0 nm (om + 1) bg nt (upd fo om (Int32.ofInt (nm : Int))) (upd ot om (Int32.ofInt (mo1 : Int))) (upd pp om (Int32.ofInt (pl : Int)))) pl1 cs sk cl (Int32.ofInt 0) nc sg ov bh op na) R Q
          refine w_put rfl v_tyM rfl rfl rfl ?_
          refine w_eqS (p_wo99 (by decide)) ?_
          refine w_eqS (p_in (t_wbg (b := false) rfl)) ?_
          refine w_st rfl (fun _ => rfl) ?_
          refine w_st rfl (fun _ => rfl) ?_
          show w_T L xs (d + 2) m_X12_monthTold 169 [(2, .int (Int32.ofInt (mo1 : Int))), (1, .int (Int32.ofInt (pl : Int))), (0, .ref 100)] [.ref 100, .ref 100] (p_S (t_S T0 nm (om + 1) false nt (upd fo om (Int32.ofInt (nm : Int))) (upd ot om (Int32.ofInt (mo1 : Int))) (upd pp om (Int32.ofInt (pl : Int)))) pl1 cs sk cl (Int32.ofInt 0) nc sg ov bh op na) R Q
          refine w_get rfl v_tyM rfl ?_
          refine w_st rfl (fun _ => rfl) ?_
          refine w_st rfl (fun _ => rfl) ?_
          show w_T L xs (d + 2) m_X12_monthTold 174 [(2, .int (Int32.ofInt (mo1 : Int))), (1, .int (Int32.ofInt (pl : Int))), (0, .ref 100)] [.int ((Int32.ofInt (pl1 : Int)) + (Int32.ofInt 1)), .ref 100] (p_S (t_S T0 nm (om + 1) false nt (upd fo om (Int32.ofInt (nm : Int))) (upd ot om (Int32.ofInt (mo1 : Int))) (upd pp om (Int32.ofInt (pl : Int)))) pl1 cs sk cl (Int32.ofInt 0) nc sg ov bh op na) R Q
          refine w_put rfl v_tyM rfl rfl rfl ?_
          refine w_eqS (p_wpl (w_inc _)) ?_
          show w_T L xs (d + 2) m_X12_monthTold 177 [(2, .int (Int32.ofInt (mo1 : Int))), (1, .int (Int32.ofInt (pl : Int))), (0, .ref 100)] [] (p_S (t_S T0 nm (om + 1) false nt (upd fo om (Int32.ofInt (nm : Int))) (upd ot om (Int32.ofInt (mo1 : Int))) (upd pp om (Int32.ofInt (pl : Int)))) (pl1 + 1) cs sk cl (Int32.ofInt 0) nc sg ov bh op na) R Q
          refine w_ret rfl rfl ?_
          refine Kg _ _ _ _ _ _ _ _ (by omega) (by omega) ⟨m1, by omega, m3, fun j hj => ?_, fun j hj => ?_⟩
          · by_cases e : j = om
            · rw [e, p_upe, p_upe, w_nat (by omega), w_nat (by omega)]; omega
            · rw [p_upn e, p_upn e]; exact m4 j hj
          · by_cases e : j = om
            · rw [e, p_upe, p_upe, p_upe, w_nat (by omega), w_nat (by omega), w_nat (by omega)]; omega
            · rw [p_upn e, p_upn e, p_upn e]; exact m5 j (by omega)
        · refine w_st rfl (fun _ => rfl) ?_
          refine w_st rfl (fun _ => rfl) ?_
          refine w_st rfl (fun _ => rfl) ?_
          show w_T L xs (d + 2) m_X12_monthTold 105 [(2, .int (Int32.ofInt (mo1 : Int))), (1, .int (Int32.ofInt (pl : Int))), (0, .ref 100)] [.ref 100, .int (Int32.ofInt 5), .ref 100] (p_S (t_S T0 nm om bg nt fo ot pp) pl1 cs sk cl (Int32.ofInt 0) nc sg ov bh op na) R Q
          refine w_get rfl v_tyM rfl ?_
          show w_T L xs (d + 2) m_X12_monthTold 108 [(2, .int (Int32.ofInt (mo1 : Int))), (1, .int (Int32.ofInt (pl : Int))), (0, .ref 100)] [.int (Int32.ofInt (pl1 : Int)), .int (Int32.ofInt 5), .ref 100] (p_S (t_S T0 nm om bg nt fo ot pp) pl1 cs sk cl (Int32.ofInt 0) nc sg ov bh op na) R Q
          refine w_cv rfl (by decide) mt_X12_wrongs v_tyM rfl rfl rfl (Nat.le_of_ble_eq_true rfl) (Nat.le_of_ble_eq_true rfl) (Nat.le_of_ble_eq_true rfl) ?_
          show w_T L xs _ m_X12_wrongs 0 (lv_args 0 [.ref 100, .int (Int32.ofInt 5), .int (Int32.ofInt (pl1 : Int))]) [] (p_S (t_S T0 nm om bg nt fo ot pp) pl1 cs sk cl (Int32.ofInt 0) nc sg ov bh op na) R _
          refine h_wr (by decide) (by decide) (by rw [w_nat (by omega)]; omega) (by rw [w_nat (by omega)]; omega) (fun b108 hb108 => ?_)
          refine w_st rfl (fun _ => rfl) ?_
          show w_T L xs (d + 2) m_X12_monthTold 112 [(2, .int (Int32.ofInt (mo1 : Int))), (1, .int (Int32.ofInt (pl : Int))), (0, .ref 100)] [.ref 100] (p_S (t_S T0 nm om bg nt fo ot pp) pl1 cs sk cl b108 nc sg ov bh op na) R Q
          refine w_cv rfl (by decide) mt_X12_isGood v_tyM rfl rfl rfl (Nat.le_of_ble_eq_true rfl) (Nat.le_of_ble_eq_true rfl) (Nat.le_of_ble_eq_true rfl) ?_
          show w_T L xs _ m_X12_isGood 0 (lv_args 0 [.ref 100]) [] (p_S (t_S T0 nm om bg nt fo ot pp) pl1 cs sk cl b108 nc sg ov bh op na) R _
          refine h_isGF hb108 ?_
          show w_T L xs (d + 2) m_X12_monthTold 115 [(2, .int (Int32.ofInt (mo1 : Int))), (1, .int (Int32.ofInt (pl : Int))), (0, .ref 100)] [.int (Int32.ofInt 0)] (p_S (t_S T0 nm om bg nt fo ot pp) pl1 cs sk cl b108 nc sg ov bh op na) R Q
          refine w_st rfl (fun _ => rfl) ?_
          show w_T L xs (d + 2) m_X12_monthTold 118 [(2, .int (Int32.ofInt (mo1 : Int))), (1, .int (Int32.ofInt (pl : Int))), (0, .ref 100)] [] (p_S (t_S T0 nm om bg nt fo ot pp) pl1 cs sk cl b108 nc sg ov bh op na) R Q
          refine w_ret rfl rfl ?_
          exact Kb _ _ _ _ _ _ _ _ _ hb108 (by omega) ⟨m1, m2, m3, m4, m5⟩
    · have hom : 0 < om := by
        rw [q_le32, z0, eom] at h18
        omega
      have q4 := m4 (om - 1) (by omega)
      have q5 := m5 (om - 1) (by omega)
      refine w_st rfl (fun _ => rfl) ?_
      show w_T L xs (d + 2) m_X12_monthTold 22 [(1, .int (Int32.ofInt (pl : Int))), (0, .ref 100)] [.ref 100] (p_S (t_S T0 nm om bg nt fo ot pp) pl cs sk cl (Int32.ofInt 0) nc sg ov bh op na) R Q
      refine w_get rfl v_tyM rfl ?_
      show w_T L xs (d + 2) m_X12_monthTold 25 [(1, .int (Int32.ofInt (pl : Int))), (0, .ref 100)] [.int (p_b bg)] (p_S (t_S T0 nm om bg nt fo ot pp) pl cs sk cl (Int32.ofInt 0) nc sg ov bh op na) R Q
      refine w_br (P := (p_b bg) = 0) rfl (fun _ => rfl) (fun h25 => ?_) (fun h25 => ?_)
      · refine w_st rfl (fun _ => rfl) ?_
        show w_T L xs (d + 2) m_X12_monthTold 81 [(1, .int (Int32.ofInt (pl : Int))), (0, .ref 100)] [.ref 100] (p_S (t_S T0 nm om bg nt fo ot pp) pl cs sk cl (Int32.ofInt 0) nc sg ov bh op na) R Q
        refine w_cv rfl (by decide) mt_X12_timesTold v_tyM rfl rfl rfl (Nat.le_of_ble_eq_true rfl) (Nat.le_of_ble_eq_true rfl) (Nat.le_of_ble_eq_true rfl) ?_
        show w_T L xs _ m_X12_timesTold 0 (lv_args 0 [.ref 100]) [] (p_S (t_S T0 nm om bg nt fo ot pp) pl cs sk cl (Int32.ofInt 0) nc sg ov bh op na) R _
        refine h_times (by omega) he htp (fun mo1 pl1 y1 y2 y3 y4 => ?_)
        refine w_st rfl (fun _ => rfl) ?_
        refine w_st rfl (fun _ => rfl) ?_
        show w_T L xs (d + 2) m_X12_monthTold 86 [(2, .int (Int32.ofInt (mo1 : Int))), (1, .int (Int32.ofInt (pl : Int))), (0, .ref 100)] [.ref 100] (p_S (t_S T0 nm om bg nt fo ot pp) pl1 cs sk cl (Int32.ofInt 0) nc sg ov bh op na) R Q
        refine w_cv rfl (by decide) mt_X12_here v_tyM rfl rfl rfl (Nat.le_of_ble_eq_true rfl) (Nat.le_of_ble_eq_true rfl) (Nat.le_of_ble_eq_true rfl) ?_
        show w_T L xs _ m_X12_here 0 (lv_args 0 [.ref 100]) [] (p_S (t_S T0 nm om bg nt fo ot pp) pl1 cs sk cl (Int32.ofInt 0) nc sg ov bh op na) R _
        refine h_here (by omega) ?_
        refine w_st rfl (fun _ => rfl) ?_
        show w_T L xs (d + 2) m_X12_monthTold 91 [(2, .int (Int32.ofInt (mo1 : Int))), (1, .int (Int32.ofInt (pl : Int))), (0, .ref 100)] [.int (Int32.ofInt 40), .int (p_h T0 pl1)] (p_S (t_S T0 nm om bg nt fo ot pp) pl1 cs sk cl (Int32.ofInt 0) nc sg ov bh op na) R Q
        refine w_br (P := ¬ (p_h T0 pl1) = (Int32.ofInt 40)) rfl (fun _ => rfl) (fun h91 => ?_) (fun h91 => ?_)
        · refine w_st rfl (fun _ => rfl) ?_
          show w_T L xs (d + 2) m_X12_monthTold 179 [(2, .int (Int32.ofInt (mo1 : Int))), (1, .int (Int32.ofInt (pl : Int))), (0, .ref 100)] [.ref 100] (p_S (t_S T0 nm om bg nt fo ot pp) pl1 cs sk cl (Int32.ofInt 0) nc sg ov bh op na) R Q
          refine w_cv rfl (by decide) mt_X12_here v_tyM rfl rfl rfl (Nat.le_of_ble_eq_true rfl) (Nat.le_of_ble_eq_true rfl) (Nat.le_of_ble_eq_true rfl) ?_
          show w_T L xs _ m_X12_here 0 (lv_args 0 [.ref 100]) [] (p_S (t_S T0 nm om bg nt fo ot pp) pl1 cs sk cl (Int32.ofInt 0) nc sg ov bh op na) R _
          refine h_here (by omega) ?_
          refine w_st rfl (fun _ => rfl) ?_
          show w_T L xs (d + 2) m_X12_monthTold 184 [(2, .int (Int32.ofInt (mo1 : Int))), (1, .int (Int32.ofInt (pl : Int))), (0, .ref 100)] [.int (Int32.ofInt 46), .int (p_h T0 pl1)] (p_S (t_S T0 nm om bg nt fo ot pp) pl1 cs sk cl (Int32.ofInt 0) nc sg ov bh op na) R Q
          refine w_br (P := (p_h T0 pl1) = (Int32.ofInt 46)) rfl (fun _ => rfl) (fun h184 => ?_) (fun h184 => ?_)
          · have hh : p_h T0 pl1 = Int32.ofInt 46 ∨ (65 ≤ (p_h T0 pl1).toInt ∧ (p_h T0 pl1).toInt ≤ 74) := Or.inl h184
            refine w_st rfl (fun _ => rfl) ?_
            show w_T L xs (d + 2) m_X12_monthTold 217 [(2, .int (Int32.ofInt (mo1 : Int))), (1, .int (Int32.ofInt (pl : Int))), (0, .ref 100)] [.ref 100] (p_S (t_S T0 nm om bg nt fo ot pp) pl1 cs sk cl (Int32.ofInt 0) nc sg ov bh op na) R Q
            refine w_get rfl v_tyM rfl ?_
            refine w_st rfl (fun _ => rfl) ?_
            refine w_st rfl (fun _ => rfl) ?_
            refine w_st rfl (fun _ => rfl) ?_
            show w_T L xs (d + 2) m_X12_monthTold 224 [(2, .int (Int32.ofInt (mo1 : Int))), (1, .int (Int32.ofInt (pl : Int))), (0, .ref 100)] [.int (Int32.ofInt 48), .int ((Int32.ofInt (nm : Int)) + (Int32.ofInt (mo1 : Int)))] (p_S (t_S T0 nm om bg nt fo ot pp) pl1 cs sk cl (Int32.ofInt 0) nc sg ov bh op na) R Q
            refine w_br (P := ((Int32.ofInt (nm : Int)) + (Int32.ofInt (mo1 : Int))) ≤ (Int32.ofInt 48)) rfl (fun _ => rfl) (fun h224 => ?_) (fun h224 => ?_)
            · refine w_st rfl (fun _ => rfl) ?_
              show w_T L xs (d + 2) m_X12_monthTold 235 [(2, .int (Int32.ofInt (mo1 : Int))), (1, .int (Int32.ofInt (pl : Int))), (0, .ref 100)] [.ref 100] (p_S (t_S T0 nm om bg nt fo ot pp) pl1 cs sk cl (Int32.ofInt 0) nc sg ov bh op na) R Q
              refine w_cv rfl (by decide) mt_X12_isGood v_tyM rfl rfl rfl (Nat.le_of_ble_eq_true rfl) (Nat.le_of_ble_eq_true rfl) (Nat.le_of_ble_eq_true rfl) ?_
              show w_T L xs _ m_X12_isGood 0 (lv_args 0 [.ref 100]) [] (p_S (t_S T0 nm om bg nt fo ot pp) pl1 cs sk cl (Int32.ofInt 0) nc sg ov bh op na) R _
              refine h_isGT ?_
              show w_T L xs (d + 2) m_X12_monthTold 238 [(2, .int (Int32.ofInt (mo1 : Int))), (1, .int (Int32.ofInt (pl : Int))), (0, .ref 100)] [.int (Int32.ofInt 1)] (p_S (t_S T0 nm om bg nt fo ot pp) pl1 cs sk cl (Int32.ofInt 0) nc sg ov bh op na) R Q
              refine w_st rfl (fun _ => rfl) ?_
              refine w_st rfl (fun _ => rfl) ?_
              refine w_st rfl (fun _ => rfl) ?_
              show w_T L xs (d + 2) m_X12_monthTold 244 [(3, .int (Int32.ofInt 0)), (2, .int (Int32.ofInt (mo1 : Int))), (1, .int (Int32.ofInt (pl : Int))), (0, .ref 100)] [] (p_S (t_S T0 nm om bg nt fo ot pp) pl1 cs sk cl (Int32.ofInt 0) nc sg ov bh op na) R Q
              have h48 : nm + mo1 ≤ 48 := by
                rw [w_addn, q_le32, w_nat (by omega)] at h224
                have e48 : (Int32.ofInt 48).toInt = 48 := by decide
                omega
              have hlt1 := p_h_lt (S0 := T0) (pl := pl1) (fun e => by
                rw [e] at hh
                revert hh
                decide)
              refine h_ml (by omega) h48 hh (fun nt1 x3 => ?_) mo1 0 nt (by omega) m3
              refine w_st rfl (fun _ => rfl) ?_
              refine w_st rfl (fun _ => rfl) ?_
              show w_T L xs (d + 2) m_X12_monthTold 288 [(3, .int (Int32.ofInt (mo1 : Int))), (2, .int (Int32.ofInt (mo1 : Int))), (1, .int (Int32.ofInt (pl : Int))), (0, .ref 100)] [.ref 100, .ref 100] (p_S (t_S T0 nm om bg nt1 fo ot pp) pl1 cs sk cl (Int32.ofInt 0) nc sg ov bh op na) R Q
              refine w_get rfl v_tyM rfl ?_
              refine w_st rfl (fun _ => rfl) ?_
              refine w_st rfl (fun _ => rfl) ?_
              show w_T L xs (d + 2) m_X12_monthTold 293 [(3, .int (Int32.ofInt (mo1 : Int))), (2, .int (Int32.ofInt (mo1 : Int))), (1, .int (Int32.ofInt (pl : Int))), (0, .ref 100)] [.int ((Int32.ofInt (nm : Int)) + (Int32.ofInt (mo1 : Int))), .ref 100] (p_S (t_S T0 nm om bg nt1 fo ot pp) pl1 cs sk cl (Int32.ofInt 0) nc sg ov bh op na) R Q
              refine w_put rfl v_tyM rfl rfl rfl ?_
              refine w_eqS (p_wo99 (by decide)) ?_
              refine w_eqS (p_in (t_wnm (w_addn _ _))) ?_
              refine w_st rfl (fun _ => rfl) ?_
              refine w_st rfl (fun _ => rfl) ?_
              show w_T L xs (d + 2) m_X12_monthTold 298 [(3, .int (Int32.ofInt (mo1 : Int))), (2, .int (Int32.ofInt (mo1 : Int))), (1, .int (Int32.ofInt (pl : Int))), (0, .ref 100)] [.int (Int32.ofInt 1), .ref 100] (p_S (t_S T0 (nm + mo1) om bg nt1 fo ot pp) pl1 cs sk cl (Int32.ofInt 0) nc sg ov bh op na) R Q
              refine w_put rfl v_tyM rfl rfl rfl ?_
              refine w_eqS (p_wo99 (by decide)) ?_
              refine w_eqS (p_in (t_wbg (b := true) rfl)) ?_
              refine w_st rfl (fun _ => rfl) ?_
              refine w_st rfl (fun _ => rfl) ?_
              show w_T L xs (d + 2) m_X12_monthTold 303 [(3, .int (Int32.ofInt (mo1 : Int))), (2, .int (Int32.ofInt (mo1 : Int))), (1, .int (Int32.ofInt (pl : Int))), (0, .ref 100)] [.ref 100, .ref 100] (p_S (t_S T0 (nm + mo1) om true nt1 fo ot pp) pl1 cs sk cl (Int32.ofInt 0) nc sg ov bh op na) R Q
              refine w_get rfl v_tyM rfl ?_
              refine w_st rfl (fun _ => rfl) ?_
              refine w_st rfl (fun _ => rfl) ?_
              show w_T L xs (d + 2) m_X12_monthTold 308 [(3, .int (Int32.ofInt (mo1 : Int))), (2, .int (Int32.ofInt (mo1 : Int))), (1, .int (Int32.ofInt (pl : Int))), (0, .ref 100)] [.int ((Int32.ofInt (pl1 : Int)) + (Int32.ofInt 1)), .ref 100] (p_S (t_S T0 (nm + mo1) om true nt1 fo ot pp) pl1 cs sk cl (Int32.ofInt 0) nc sg ov bh op na) R Q
              refine w_put rfl v_tyM rfl rfl rfl ?_
              refine w_eqS (p_wpl (w_inc _)) ?_
              show w_T L xs (d + 2) m_X12_monthTold 311 [(3, .int (Int32.ofInt (mo1 : Int))), (2, .int (Int32.ofInt (mo1 : Int))), (1, .int (Int32.ofInt (pl : Int))), (0, .ref 100)] [] (p_S (t_S T0 (nm + mo1) om true nt1 fo ot pp) (pl1 + 1) cs sk cl (Int32.ofInt 0) nc sg ov bh op na) R Q
              refine w_ret rfl rfl ?_
              exact Kg _ _ _ _ _ _ _ _ (by omega) (by omega) ⟨by omega, m2, x3, m4, fun j hj => by have := m5 j hj; omega⟩
            · refine w_st rfl (fun _ => rfl) ?_
              refine w_st rfl (fun _ => rfl) ?_
              refine w_st rfl (fun _ => rfl) ?_
              show w_T L xs (d + 2) m_X12_monthTold 231 [(2, .int (Int32.ofInt (mo1 : Int))), (1, .int (Int32.ofInt (pl : Int))), (0, .ref 100)] [.int (Int32.ofInt (pl : Int)), .int (Int32.ofInt 6), .ref 100] (p_S (t_S T0 nm om bg nt fo ot pp) pl1 cs sk cl (Int32.ofInt 0) nc sg ov bh op na) R Q
              refine w_cv rfl (by decide) mt_X12_wrongs v_tyM rfl rfl rfl (Nat.le_of_ble_eq_true rfl) (Nat.le_of_ble_eq_true rfl) (Nat.le_of_ble_eq_true rfl) ?_
              show w_T L xs _ m_X12_wrongs 0 (lv_args 0 [.ref 100, .int (Int32.ofInt 6), .int (Int32.ofInt (pl : Int))]) [] (p_S (t_S T0 nm om bg nt fo ot pp) pl1 cs sk cl (Int32.ofInt 0) nc sg ov bh op na) R _
              refine h_wr (by decide) (by decide) (by rw [w_nat (by omega)]; omega) (by rw [w_nat (by omega)]; omega) (fun b231 hb231 => ?_)
              refine w_st rfl (fun _ => rfl) ?_
              show w_T L xs (d + 2) m_X12_monthTold 235 [(2, .int (Int32.ofInt (mo1 : Int))), (1, .int (Int32.ofInt (pl : Int))), (0, .ref 100)] [.ref 100] (p_S (t_S T0 nm om bg nt fo ot pp) pl1 cs sk cl b231 nc sg ov bh op na) R Q
              refine w_cv rfl (by decide) mt_X12_isGood v_tyM rfl rfl rfl (Nat.le_of_ble_eq_true rfl) (Nat.le_of_ble_eq_true rfl) (Nat.le_of_ble_eq_true rfl) ?_
              show w_T L xs _ m_X12_isGood 0 (lv_args 0 [.ref 100]) [] (p_S (t_S T0 nm om bg nt fo ot pp) pl1 cs sk cl b231 nc sg ov bh op na) R _
              refine h_isGF hb231 ?_
              show w_T L xs (d + 2) m_X12_monthTold 238 [(2, .int (Int32.ofInt (mo1 : Int))), (1, .int (Int32.ofInt (pl : Int))), (0, .ref 100)] [.int (Int32.ofInt 0)] (p_S (t_S T0 nm om bg nt fo ot pp) pl1 cs sk cl b231 nc sg ov bh op na) R Q
              refine w_st rfl (fun _ => rfl) ?_
              show w_T L xs (d + 2) m_X12_monthTold 241 [(2, .int (Int32.ofInt (mo1 : Int))), (1, .int (Int32.ofInt (pl : Int))), (0, .ref 100)] [] (p_S (t_S T0 nm om bg nt fo ot pp) pl1 cs sk cl b231 nc sg ov bh op na) R Q
              refine w_ret rfl rfl ?_
              exact Kb _ _ _ _ _ _ _ _ _ hb231 (by omega) ⟨m1, m2, m3, m4, m5⟩
          · refine w_st rfl (fun _ => rfl) ?_
            show w_T L xs (d + 2) m_X12_monthTold 188 [(2, .int (Int32.ofInt (mo1 : Int))), (1, .int (Int32.ofInt (pl : Int))), (0, .ref 100)] [.ref 100] (p_S (t_S T0 nm om bg nt fo ot pp) pl1 cs sk cl (Int32.ofInt 0) nc sg ov bh op na) R Q
            refine w_cv rfl (by decide) mt_X12_here v_tyM rfl rfl rfl (Nat.le_of_ble_eq_true rfl) (Nat.le_of_ble_eq_true rfl) (Nat.le_of_ble_eq_true rfl) ?_
            show w_T L xs _ m_X12_here 0 (lv_args 0 [.ref 100]) [] (p_S (t_S T0 nm om bg nt fo ot pp) pl1 cs sk cl (Int32.ofInt 0) nc sg ov bh op na) R _
            refine h_here (by omega) ?_
            refine w_st rfl (fun _ => rfl) ?_
            refine w_st rfl (fun _ => rfl) ?_
            refine w_st rfl (fun _ => rfl) ?_
            show w_T L xs (d + 2) m_X12_monthTold 198 [(2, .int (Int32.ofInt (mo1 : Int))), (1, .int (Int32.ofInt (pl : Int))), (0, .ref 100)] [.long (Int64.ofInt 74), .long (Int64.ofInt 65), .long ((p_h T0 pl1).toInt64)] (p_S (t_S T0 nm om bg nt fo ot pp) pl1 cs sk cl (Int32.ofInt 0) nc sg ov bh op na) R Q
            refine w_cs rfl (by decide) mt_X12_lies (fun _ => rfl) (Nat.le_of_ble_eq_true rfl) (Nat.le_of_ble_eq_true rfl) ?_
            show w_T L xs _ m_X12_lies 0 (lv_args 0 [.long ((p_h T0 pl1).toInt64), .long (Int64.ofInt 65), .long (Int64.ofInt 74)]) [] (p_S (t_S T0 nm om bg nt fo ot pp) pl1 cs sk cl (Int32.ofInt 0) nc sg ov bh op na) R _
            refine h_lies _ _ _ ?_
            rw [e65, e74, Int32.toInt_toInt64]
            by_cases hd : 65 ≤ (p_h T0 pl1).toInt ∧ (p_h T0 pl1).toInt ≤ 74
            · rw [if_pos hd]
              have hh : p_h T0 pl1 = Int32.ofInt 46 ∨ (65 ≤ (p_h T0 pl1).toInt ∧ (p_h T0 pl1).toInt ≤ 74) := Or.inr hd
              show w_T L xs (d + 2) m_X12_monthTold 201 [(2, .int (Int32.ofInt (mo1 : Int))), (1, .int (Int32.ofInt (pl : Int))), (0, .ref 100)] [.int (Int32.ofInt 1)] (p_S (t_S T0 nm om bg nt fo ot pp) pl1 cs sk cl (Int32.ofInt 0) nc sg ov bh op na) R Q
              refine w_st rfl (fun _ => rfl) ?_
              refine w_st rfl (fun _ => rfl) ?_
              show w_T L xs (d + 2) m_X12_monthTold 217 [(2, .int (Int32.ofInt (mo1 : Int))), (1, .int (Int32.ofInt (pl : Int))), (0, .ref 100)] [.ref 100] (p_S (t_S T0 nm om bg nt fo ot pp) pl1 cs sk cl (Int32.ofInt 0) nc sg ov bh op na) R Q
              refine w_get rfl v_tyM rfl ?_
              refine w_st rfl (fun _ => rfl) ?_
              refine w_st rfl (fun _ => rfl) ?_
              refine w_st rfl (fun _ => rfl) ?_
              show w_T L xs (d + 2) m_X12_monthTold 224 [(2, .int (Int32.ofInt (mo1 : Int))), (1, .int (Int32.ofInt (pl : Int))), (0, .ref 100)] [.int (Int32.ofInt 48), .int ((Int32.ofInt (nm : Int)) + (Int32.ofInt (mo1 : Int)))] (p_S (t_S T0 nm om bg nt fo ot pp) pl1 cs sk cl (Int32.ofInt 0) nc sg ov bh op na) R Q
              refine w_br (P := ((Int32.ofInt (nm : Int)) + (Int32.ofInt (mo1 : Int))) ≤ (Int32.ofInt 48)) rfl (fun _ => rfl) (fun h224 => ?_) (fun h224 => ?_)
              · refine w_st rfl (fun _ => rfl) ?_
                show w_T L xs (d + 2) m_X12_monthTold 235 [(2, .int (Int32.ofInt (mo1 : Int))), (1, .int (Int32.ofInt (pl : Int))), (0, .ref 100)] [.ref 100] (p_S (t_S T0 nm om bg nt fo ot pp) pl1 cs sk cl (Int32.ofInt 0) nc sg ov bh op na) R Q
                refine w_cv rfl (by decide) mt_X12_isGood v_tyM rfl rfl rfl (Nat.le_of_ble_eq_true rfl) (Nat.le_of_ble_eq_true rfl) (Nat.le_of_ble_eq_true rfl) ?_
                show w_T L xs _ m_X12_isGood 0 (lv_args 0 [.ref 100]) [] (p_S (t_S T0 nm om bg nt fo ot pp) pl1 cs sk cl (Int32.ofInt 0) nc sg ov bh op na) R _
                refine h_isGT ?_
                show w_T L xs (d + 2) m_X12_monthTold 238 [(2, .int (Int32.ofInt (mo1 : Int))), (1, .int (Int32.ofInt (pl : Int))), (0, .ref 100)] [.int (Int32.ofInt 1)] (p_S (t_S T0 nm om bg nt fo ot pp) pl1 cs sk cl (Int32.ofInt 0) nc sg ov bh op na) R Q
                refine w_st rfl (fun _ => rfl) ?_
                refine w_st rfl (fun _ => rfl) ?_
                refine w_st rfl (fun _ => rfl) ?_
                show w_T L xs (d + 2) m_X12_monthTold 244 [(3, .int (Int32.ofInt 0)), (2, .int (Int32.ofInt (mo1 : Int))), (1, .int (Int32.ofInt (pl : Int))), (0, .ref 100)] [] (p_S (t_S T0 nm om bg nt fo ot pp) pl1 cs sk cl (Int32.ofInt 0) nc sg ov bh op na) R Q
                have h48 : nm + mo1 ≤ 48 := by
                  rw [w_addn, q_le32, w_nat (by omega)] at h224
                  have e48 : (Int32.ofInt 48).toInt = 48 := by decide
                  omega
                have hlt1 := p_h_lt (S0 := T0) (pl := pl1) (fun e => by
                  rw [e] at hh
                  revert hh
                  decide)
                refine h_ml (by omega) h48 hh (fun nt1 x3 => ?_) mo1 0 nt (by omega) m3
                refine w_st rfl (fun _ => rfl) ?_
                refine w_st rfl (fun _ => rfl) ?_
                show w_T L xs (d + 2) m_X12_monthTold 288 [(3, .int (Int32.ofInt (mo1 : Int))), (2, .int (Int32.ofInt (mo1 : Int))), (1, .int (Int32.ofInt (pl : Int))), (0, .ref 100)] [.ref 100, .ref 100] (p_S (t_S T0 nm om bg nt1 fo ot pp) pl1 cs sk cl (Int32.ofInt 0) nc sg ov bh op na) R Q
                refine w_get rfl v_tyM rfl ?_
                refine w_st rfl (fun _ => rfl) ?_
                refine w_st rfl (fun _ => rfl) ?_
                show w_T L xs (d + 2) m_X12_monthTold 293 [(3, .int (Int32.ofInt (mo1 : Int))), (2, .int (Int32.ofInt (mo1 : Int))), (1, .int (Int32.ofInt (pl : Int))), (0, .ref 100)] [.int ((Int32.ofInt (nm : Int)) + (Int32.ofInt (mo1 : Int))), .ref 100] (p_S (t_S T0 nm om bg nt1 fo ot pp) pl1 cs sk cl (Int32.ofInt 0) nc sg ov bh op na) R Q
                refine w_put rfl v_tyM rfl rfl rfl ?_
                refine w_eqS (p_wo99 (by decide)) ?_
                refine w_eqS (p_in (t_wnm (w_addn _ _))) ?_
                refine w_st rfl (fun _ => rfl) ?_
                refine w_st rfl (fun _ => rfl) ?_
                show w_T L xs (d + 2) m_X12_monthTold 298 [(3, .int (Int32.ofInt (mo1 : Int))), (2, .int (Int32.ofInt (mo1 : Int))), (1, .int (Int32.ofInt (pl : Int))), (0, .ref 100)] [.int (Int32.ofInt 1), .ref 100] (p_S (t_S T0 (nm + mo1) om bg nt1 fo ot pp) pl1 cs sk cl (Int32.ofInt 0) nc sg ov bh op na) R Q
                refine w_put rfl v_tyM rfl rfl rfl ?_
                refine w_eqS (p_wo99 (by decide)) ?_
                refine w_eqS (p_in (t_wbg (b := true) rfl)) ?_
                refine w_st rfl (fun _ => rfl) ?_
                refine w_st rfl (fun _ => rfl) ?_
                show w_T L xs (d + 2) m_X12_monthTold 303 [(3, .int (Int32.ofInt (mo1 : Int))), (2, .int (Int32.ofInt (mo1 : Int))), (1, .int (Int32.ofInt (pl : Int))), (0, .ref 100)] [.ref 100, .ref 100] (p_S (t_S T0 (nm + mo1) om true nt1 fo ot pp) pl1 cs sk cl (Int32.ofInt 0) nc sg ov bh op na) R Q
                refine w_get rfl v_tyM rfl ?_
                refine w_st rfl (fun _ => rfl) ?_
                refine w_st rfl (fun _ => rfl) ?_
                show w_T L xs (d + 2) m_X12_monthTold 308 [(3, .int (Int32.ofInt (mo1 : Int))), (2, .int (Int32.ofInt (mo1 : Int))), (1, .int (Int32.ofInt (pl : Int))), (0, .ref 100)] [.int ((Int32.ofInt (pl1 : Int)) + (Int32.ofInt 1)), .ref 100] (p_S (t_S T0 (nm + mo1) om true nt1 fo ot pp) pl1 cs sk cl (Int32.ofInt 0) nc sg ov bh op na) R Q
                refine w_put rfl v_tyM rfl rfl rfl ?_
                refine w_eqS (p_wpl (w_inc _)) ?_
                show w_T L xs (d + 2) m_X12_monthTold 311 [(3, .int (Int32.ofInt (mo1 : Int))), (2, .int (Int32.ofInt (mo1 : Int))), (1, .int (Int32.ofInt (pl : Int))), (0, .ref 100)] [] (p_S (t_S T0 (nm + mo1) om true nt1 fo ot pp) (pl1 + 1) cs sk cl (Int32.ofInt 0) nc sg ov bh op na) R Q
                refine w_ret rfl rfl ?_
                exact Kg _ _ _ _ _ _ _ _ (by omega) (by omega) ⟨by omega, m2, x3, m4, fun j hj => by have := m5 j hj; omega⟩
              · refine w_st rfl (fun _ => rfl) ?_
                refine w_st rfl (fun _ => rfl) ?_
                refine w_st rfl (fun _ => rfl) ?_
                show w_T L xs (d + 2) m_X12_monthTold 231 [(2, .int (Int32.ofInt (mo1 : Int))), (1, .int (Int32.ofInt (pl : Int))), (0, .ref 100)] [.int (Int32.ofInt (pl : Int)), .int (Int32.ofInt 6), .ref 100] (p_S (t_S T0 nm om bg nt fo ot pp) pl1 cs sk cl (Int32.ofInt 0) nc sg ov bh op na) R Q
                refine w_cv rfl (by decide) mt_X12_wrongs v_tyM rfl rfl rfl (Nat.le_of_ble_eq_true rfl) (Nat.le_of_ble_eq_true rfl) (Nat.le_of_ble_eq_true rfl) ?_
                show w_T L xs _ m_X12_wrongs 0 (lv_args 0 [.ref 100, .int (Int32.ofInt 6), .int (Int32.ofInt (pl : Int))]) [] (p_S (t_S T0 nm om bg nt fo ot pp) pl1 cs sk cl (Int32.ofInt 0) nc sg ov bh op na) R _
                refine h_wr (by decide) (by decide) (by rw [w_nat (by omega)]; omega) (by rw [w_nat (by omega)]; omega) (fun b231 hb231 => ?_)
                refine w_st rfl (fun _ => rfl) ?_
                show w_T L xs (d + 2) m_X12_monthTold 235 [(2, .int (Int32.ofInt (mo1 : Int))), (1, .int (Int32.ofInt (pl : Int))), (0, .ref 100)] [.ref 100] (p_S (t_S T0 nm om bg nt fo ot pp) pl1 cs sk cl b231 nc sg ov bh op na) R Q
                refine w_cv rfl (by decide) mt_X12_isGood v_tyM rfl rfl rfl (Nat.le_of_ble_eq_true rfl) (Nat.le_of_ble_eq_true rfl) (Nat.le_of_ble_eq_true rfl) ?_
                show w_T L xs _ m_X12_isGood 0 (lv_args 0 [.ref 100]) [] (p_S (t_S T0 nm om bg nt fo ot pp) pl1 cs sk cl b231 nc sg ov bh op na) R _
                refine h_isGF hb231 ?_
                show w_T L xs (d + 2) m_X12_monthTold 238 [(2, .int (Int32.ofInt (mo1 : Int))), (1, .int (Int32.ofInt (pl : Int))), (0, .ref 100)] [.int (Int32.ofInt 0)] (p_S (t_S T0 nm om bg nt fo ot pp) pl1 cs sk cl b231 nc sg ov bh op na) R Q
                refine w_st rfl (fun _ => rfl) ?_
                show w_T L xs (d + 2) m_X12_monthTold 241 [(2, .int (Int32.ofInt (mo1 : Int))), (1, .int (Int32.ofInt (pl : Int))), (0, .ref 100)] [] (p_S (t_S T0 nm om bg nt fo ot pp) pl1 cs sk cl b231 nc sg ov bh op na) R Q
                refine w_ret rfl rfl ?_
                exact Kb _ _ _ _ _ _ _ _ _ hb231 (by omega) ⟨m1, m2, m3, m4, m5⟩
            · rw [if_neg hd]
              show w_T L xs (d + 2) m_X12_monthTold 201 [(2, .int (Int32.ofInt (mo1 : Int))), (1, .int (Int32.ofInt (pl : Int))), (0, .ref 100)] [.int (Int32.ofInt 0)] (p_S (t_S T0 nm om bg nt fo ot pp) pl1 cs sk cl (Int32.ofInt 0) nc sg ov bh op na) R Q
              refine w_st rfl (fun _ => rfl) ?_
              refine w_st rfl (fun _ => rfl) ?_
              refine w_st rfl (fun _ => rfl) ?_
              refine w_st rfl (fun _ => rfl) ?_
              show w_T L xs (d + 2) m_X12_monthTold 207 [(2, .int (Int32.ofInt (mo1 : Int))), (1, .int (Int32.ofInt (pl : Int))), (0, .ref 100)] [.ref 100, .int (Int32.ofInt 1), .ref 100] (p_S (t_S T0 nm om bg nt fo ot pp) pl1 cs sk cl (Int32.ofInt 0) nc sg ov bh op na) R Q
              refine w_get rfl v_tyM rfl ?_
              show w_T L xs (d + 2) m_X12_monthTold 210 [(2, .int (Int32.ofInt (mo1 : Int))), (1, .int (Int32.ofInt (pl : Int))), (0, .ref 100)] [.int (Int32.ofInt (pl1 : Int)), .int (Int32.ofInt 1), .ref 100] (p_S (t_S T0 nm om bg nt fo ot pp) pl1 cs sk cl (Int32.ofInt 0) nc sg ov bh op na) R Q
              refine w_cv rfl (by decide) mt_X12_wrongs v_tyM rfl rfl rfl (Nat.le_of_ble_eq_true rfl) (Nat.le_of_ble_eq_true rfl) (Nat.le_of_ble_eq_true rfl) ?_
              show w_T L xs _ m_X12_wrongs 0 (lv_args 0 [.ref 100, .int (Int32.ofInt 1), .int (Int32.ofInt (pl1 : Int))]) [] (p_S (t_S T0 nm om bg nt fo ot pp) pl1 cs sk cl (Int32.ofInt 0) nc sg ov bh op na) R _
              refine h_wr (by decide) (by decide) (by rw [w_nat (by omega)]; omega) (by rw [w_nat (by omega)]; omega) (fun b210 hb210 => ?_)
              refine w_st rfl (fun _ => rfl) ?_
              refine w_st rfl (fun _ => rfl) ?_
              show w_T L xs (d + 2) m_X12_monthTold 235 [(2, .int (Int32.ofInt (mo1 : Int))), (1, .int (Int32.ofInt (pl : Int))), (0, .ref 100)] [.ref 100] (p_S (t_S T0 nm om bg nt fo ot pp) pl1 cs sk cl b210 nc sg ov bh op na) R Q
              refine w_cv rfl (by decide) mt_X12_isGood v_tyM rfl rfl rfl (Nat.le_of_ble_eq_true rfl) (Nat.le_of_ble_eq_true rfl) (Nat.le_of_ble_eq_true rfl) ?_
              show w_T L xs _ m_X12_isGood 0 (lv_args 0 [.ref 100]) [] (p_S (t_S T0 nm om bg nt fo ot pp) pl1 cs sk cl b210 nc sg ov bh op na) R _
              refine h_isGF hb210 ?_
              show w_T L xs (d + 2) m_X12_monthTold 238 [(2, .int (Int32.ofInt (mo1 : Int))), (1, .int (Int32.ofInt (pl : Int))), (0, .ref 100)] [.int (Int32.ofInt 0)] (p_S (t_S T0 nm om bg nt fo ot pp) pl1 cs sk cl b210 nc sg ov bh op na) R Q
              refine w_st rfl (fun _ => rfl) ?_
              show w_T L xs (d + 2) m_X12_monthTold 241 [(2, .int (Int32.ofInt (mo1 : Int))), (1, .int (Int32.ofInt (pl : Int))), (0, .ref 100)] [] (p_S (t_S T0 nm om bg nt fo ot pp) pl1 cs sk cl b210 nc sg ov bh op na) R Q
              refine w_ret rfl rfl ?_
              exact Kb _ _ _ _ _ _ _ _ _ hb210 (by omega) ⟨m1, m2, m3, m4, m5⟩
        · have e91 := Decidable.of_not_not h91
          have hlt1 := p_h_lt (S0 := T0) (pl := pl1) (by rw [e91]; decide)
          refine w_st rfl (fun _ => rfl) ?_
          show w_T L xs (d + 2) m_X12_monthTold 95 [(2, .int (Int32.ofInt (mo1 : Int))), (1, .int (Int32.ofInt (pl : Int))), (0, .ref 100)] [.ref 100] (p_S (t_S T0 nm om bg nt fo ot pp) pl1 cs sk cl (Int32.ofInt 0) nc sg ov bh op na) R Q
          refine w_get rfl v_tyM rfl ?_
          refine w_st rfl (fun _ => rfl) ?_
          show w_T L xs (d + 2) m_X12_monthTold 99 [(2, .int (Int32.ofInt (mo1 : Int))), (1, .int (Int32.ofInt (pl : Int))), (0, .ref 100)] [.int (Int32.ofInt 2), .int (Int32.ofInt (om : Int))] (p_S (t_S T0 nm om bg nt fo ot pp) pl1 cs sk cl (Int32.ofInt 0) nc sg ov bh op na) R Q
          refine w_br (P := ¬ (Int32.ofInt (om : Int)) = (Int32.ofInt 2)) rfl (fun _ => rfl) (fun h99 => ?_) (fun h99 => ?_)
          · have hom2 : om < 2 := Nat.lt_of_le_of_ne m2 (fun e => h99 (by rw [e]; rfl))
            refine w_st rfl (fun _ => rfl) ?_
            show w_T L xs (d + 2) m_X12_monthTold 112 [(2, .int (Int32.ofInt (mo1 : Int))), (1, .int (Int32.ofInt (pl : Int))), (0, .ref 100)] [.ref 100] (p_S (t_S T0 nm om bg nt fo ot pp) pl1 cs sk cl (Int32.ofInt 0) nc sg ov bh op na) R Q
            refine w_cv rfl (by decide) mt_X12_isGood v_tyM rfl rfl rfl (Nat.le_of_ble_eq_true rfl) (Nat.le_of_ble_eq_true rfl) (Nat.le_of_ble_eq_true rfl) ?_
            show w_T L xs _ m_X12_isGood 0 (lv_args 0 [.ref 100]) [] (p_S (t_S T0 nm om bg nt fo ot pp) pl1 cs sk cl (Int32.ofInt 0) nc sg ov bh op na) R _
            refine h_isGT ?_
            show w_T L xs (d + 2) m_X12_monthTold 115 [(2, .int (Int32.ofInt (mo1 : Int))), (1, .int (Int32.ofInt (pl : Int))), (0, .ref 100)] [.int (Int32.ofInt 1)] (p_S (t_S T0 nm om bg nt fo ot pp) pl1 cs sk cl (Int32.ofInt 0) nc sg ov bh op na) R Q
            refine w_st rfl (fun _ => rfl) ?_
            refine w_st rfl (fun _ => rfl) ?_
            show w_T L xs (d + 2) m_X12_monthTold 120 [(2, .int (Int32.ofInt (mo1 : Int))), (1, .int (Int32.ofInt (pl : Int))), (0, .ref 100)] [.ref 100] (p_S (t_S T0 nm om bg nt fo ot pp) pl1 cs sk cl (Int32.ofInt 0) nc sg ov bh op na) R Q
            refine w_getr rfl v_tyM rfl ?_
            refine w_st rfl (fun _ => rfl) ?_
            show w_T L xs (d + 2) m_X12_monthTold 124 [(2, .int (Int32.ofInt (mo1 : Int))), (1, .int (Int32.ofInt (pl : Int))), (0, .ref 100)] [.ref 100, .ref 135] (p_S (t_S T0 nm om bg nt fo ot pp) pl1 cs sk cl (Int32.ofInt 0) nc sg ov bh op na) R Q
            refine w_get rfl v_tyM rfl ?_
            refine w_st rfl (fun _ => rfl) ?_
            show w_T L xs (d + 2) m_X12_monthTold 128 [(2, .int (Int32.ofInt (mo1 : Int))), (1, .int (Int32.ofInt (pl : Int))), (0, .ref 100)] [.ref 100, .int (Int32.ofInt (om : Int)), .ref 135] (p_S (t_S T0 nm om bg nt fo ot pp) pl1 cs sk cl (Int32.ofInt 0) nc sg ov bh op na) R Q
            refine w_get rfl v_tyM rfl ?_
            show w_T L xs (d + 2) m_X12_monthTold 131 [(2, .int (Int32.ofInt (mo1 : Int))), (1, .int (Int32.ofInt (pl : Int))), (0, .ref 100)] [.int (Int32.ofInt (nm : Int)), .int (Int32.ofInt (om : Int)), .ref 135] (p_S (t_S T0 nm om bg nt fo ot pp) pl1 cs sk cl (Int32.ofInt 0) nc sg ov bh op na) R Q
            refine w_iast rfl rfl (by rw [w_nat (by omega)]; omega) (by rw [w_nat (by omega)]; omega) ?_
            refine w_eqS (p_wor (by decide) (w_natn (by omega))) ?_
            refine w_eqS (p_in (t_wfo (by omega))) ?_
            refine w_st rfl (fun _ => rfl) ?_
            show w_T L xs (d + 2) m_X12_monthTold 133 [(2, .int (Int32.ofInt (mo1 : Int))), (1, .int (Int32.ofInt (pl : Int))), (0, .ref 100)] [.ref 100] (p_S (t_S T0 nm om bg nt (upd fo om (Int32.ofInt (nm : Int))) ot pp) pl1 cs sk cl (Int32.ofInt 0) nc sg ov bh op na) R Q
            refine w_getr rfl v_tyM rfl ?_
            refine w_st rfl (fun _ => rfl) ?_
            show w_T L xs (d + 2) m_X12_monthTold 137 [(2, .int (Int32.ofInt (mo1 : Int))), (1, .int (Int32.ofInt (pl : Int))), (0, .ref 100)] [.ref 100, .ref 136] (p_S (t_S T0 nm om bg nt (upd fo om (Int32.ofInt (nm : Int))) ot pp) pl1 cs sk cl (Int32.ofInt 0) nc sg ov bh op na) R Q
            refine w_get rfl v_tyM rfl ?_
            refine w_st rfl (fun _ => rfl) ?_
            show w_T L xs (d + 2) m_X12_monthTold 141 [(2, .int (Int32.ofInt (mo1 : Int))), (1, .int (Int32.ofInt (pl : Int))), (0, .ref 100)] [.int (Int32.ofInt (mo1 : Int)), .int (Int32.ofInt (om : Int)), .ref 136] (p_S (t_S T0 nm om bg nt (upd fo om (Int32.ofInt (nm : Int))) ot pp) pl1 cs sk cl (Int32.ofInt 0) nc sg ov bh op na) R Q
            refine w_iast rfl rfl (by rw [w_nat (by omega)]; omega) (by rw [w_nat (by omega)]; omega) ?_
            refine w_eqS (p_wor (by decide) (w_natn (by omega))) ?_
            refine w_eqS (p_in (t_wot (by omega))) ?_
            refine w_st rfl (fun _ => rfl) ?_
            show w_T L xs (d + 2) m_X12_monthTold 143 [(2, .int (Int32.ofInt (mo1 : Int))), (1, .int (Int32.ofInt (pl : Int))), (0, .ref 100)] [.ref 100] (p_S (t_S T0 nm om bg nt (upd fo om (Int32.ofInt (nm : Int))) (upd ot om (Int32.ofInt (mo1 : Int))) pp) pl1 cs sk cl (Int32.ofInt 0) nc sg ov bh op na) R Q
            refine w_getr rfl v_tyM rfl ?_
            refine w_st rfl (fun _ => rfl) ?_
            show w_T L xs (d + 2) m_X12_monthTold 147 [(2, .int (Int32.ofInt (mo1 : Int))), (1, .int (Int32.ofInt (pl : Int))), (0, .ref 100)] [.ref 100, .ref 137] (p_S (t_S T0 nm om bg nt (upd fo om (Int32.ofInt (nm : Int))) (upd ot om (Int32.ofInt (mo1 : Int))) pp) pl1 cs sk cl (Int32.ofInt 0) nc sg ov bh op na) R Q
            refine w_get rfl v_tyM rfl ?_
            refine w_st rfl (fun _ => rfl) ?_
            show w_T L xs (d + 2) m_X12_monthTold 151 [(2, .int (Int32.ofInt (mo1 : Int))), (1, .int (Int32.ofInt (pl : Int))), (0, .ref 100)] [.int (Int32.ofInt (pl : Int)), .int (Int32.ofInt (om : Int)), .ref 137] (p_S (t_S T0 nm om bg nt (upd fo om (Int32.ofInt (nm : Int))) (upd ot om (Int32.ofInt (mo1 : Int))) pp) pl1 cs sk cl (Int32.ofInt 0) nc sg ov bh op na) R Q
            refine w_iast rfl rfl (by rw [w_nat (by omega)]; omega) (by rw [w_nat (by omega)]; omega) ?_
            refine w_eqS (p_wor (by decide) (w_natn (by omega))) ?_
            refine w_eqS (p_in (t_wpp (by omega))) ?_
            refine w_st rfl (fun _ => rfl) ?_
            refine w_st rfl (fun _ => rfl) ?_
            show w_T L xs (d + 2) m_X12_monthTold 154 [(2, .int (Int32.ofInt (mo1 : Int))), (1, .int (Int32.ofInt (pl : Int))), (0, .ref 100)] [.ref 100, .ref 100] (p_S (t_S T0 nm om bg nt (upd fo om (Int32.ofInt (nm : Int))) (upd ot om (Int32.ofInt (mo1 : Int))) (upd pp om (Int32.ofInt (pl : Int)))) pl1 cs sk cl (Int32.ofInt 0) nc sg ov bh op na) R Q
            refine w_get rfl v_tyM rfl ?_
            refine w_st rfl (fun _ => rfl) ?_
            refine w_st rfl (fun _ => rfl) ?_
            show w_T L xs (d + 2) m_X12_monthTold 159 [(2, .int (Int32.ofInt (mo1 : Int))), (1, .int (Int32.ofInt (pl : Int))), (0, .ref 100)] [.int ((Int32.ofInt (om : Int)) + (Int32.ofInt 1)), .ref 100] (p_S (t_S T0 nm om bg nt (upd fo om (Int32.ofInt (nm : Int))) (upd ot om (Int32.ofInt (mo1 : Int))) (upd pp om (Int32.ofInt (pl : Int)))) pl1 cs sk cl (Int32.ofInt 0) nc sg ov bh op na) R Q
            refine w_put rfl v_tyM rfl rfl rfl ?_
            refine w_eqS (p_wo99 (by decide)) ?_
            refine w_eqS (p_in (t_wom (w_inc _))) ?_
            refine w_st rfl (fun _ => rfl) ?_
            refine w_st rfl (fun _ => rfl) ?_
            show w_T L xs (d + 2) m_X12_monthTold 164 [(2, .int (Int32.ofInt (mo1 : Int))), (1, .int (Int32.ofInt (pl : Int))), (0, .ref 100)] [.int (Int32.ofInt 0), .ref 100] (p_S (t_S T0 nm (om + 1) bg nt (upd fo om (Int32.ofInt (nm : Int))) (upd ot om (Int32.ofInt (mo1 : Int))) (upd pp om (Int32.ofInt (pl : Int)))) pl1 cs sk cl (Int32.ofInt 0) nc sg ov bh op na) R Q
            refine w_put rfl v_tyM rfl rfl rfl ?_
            refine w_eqS (p_wo99 (by decide)) ?_
            refine w_eqS (p_in (t_wbg (b := false) rfl)) ?_
            refine w_st rfl (fun _ => rfl) ?_
            refine w_st rfl (fun _ => rfl) ?_
            show w_T L xs (d + 2) m_X12_monthTold 169 [(2, .int (Int32.ofInt (mo1 : Int))), (1, .int (Int32.ofInt (pl : Int))), (0, .ref 100)] [.ref 100, .ref 100] (p_S (t_S T0 nm (om + 1) false nt (upd fo om (Int32.ofInt (nm : Int))) (upd ot om (Int32.ofInt (mo1 : Int))) (upd pp om (Int32.ofInt (pl : Int)))) pl1 cs sk cl (Int32.ofInt 0) nc sg ov bh op na) R Q
            refine w_get rfl v_tyM rfl ?_
            refine w_st rfl (fun _ => rfl) ?_
            refine w_st rfl (fun _ => rfl) ?_
            show w_T L xs (d + 2) m_X12_monthTold 174 [(2, .int (Int32.ofInt (mo1 : Int))), (1, .int (Int32.ofInt (pl : Int))), (0, .ref 100)] [.int ((Int32.ofInt (pl1 : Int)) + (Int32.ofInt 1)), .ref 100] (p_S (t_S T0 nm (om + 1) false nt (upd fo om (Int32.ofInt (nm : Int))) (upd ot om (Int32.ofInt (mo1 : Int))) (upd pp om (Int32.ofInt (pl : Int)))) pl1 cs sk cl (Int32.ofInt 0) nc sg ov bh op na) R Q
            refine w_put rfl v_tyM rfl rfl rfl ?_
            refine w_eqS (p_wpl (w_inc _)) ?_
            show w_T L xs (d + 2) m_X12_monthTold 177 [(2, .int (Int32.ofInt (mo1 : Int))), (1, .int (Int32.ofInt (pl : Int))), (0, .ref 100)] [] (p_S (t_S T0 nm (om + 1) false nt (upd fo om (Int32.ofInt (nm : Int))) (upd ot om (Int32.ofInt (mo1 : Int))) (upd pp om (Int32.ofInt (pl : Int)))) (pl1 + 1) cs sk cl (Int32.ofInt 0) nc sg ov bh op na) R Q
            refine w_ret rfl rfl ?_
            refine Kg _ _ _ _ _ _ _ _ (by omega) (by omega) ⟨m1, by omega, m3, fun j hj => ?_, fun j hj => ?_⟩
            · by_cases e : j = om
              · rw [e, p_upe, p_upe, w_nat (by omega), w_nat (by omega)]; omega
              · rw [p_upn e, p_upn e]; exact m4 j hj
            · by_cases e : j = om
              · rw [e, p_upe, p_upe, p_upe, w_nat (by omega), w_nat (by omega), w_nat (by omega)]; omega
              · rw [p_upn e, p_upn e, p_upn e]; exact m5 j (by omega)
          · refine w_st rfl (fun _ => rfl) ?_
            refine w_st rfl (fun _ => rfl) ?_
            refine w_st rfl (fun _ => rfl) ?_
            show w_T L xs (d + 2) m_X12_monthTold 105 [(2, .int (Int32.ofInt (mo1 : Int))), (1, .int (Int32.ofInt (pl : Int))), (0, .ref 100)] [.ref 100, .int (Int32.ofInt 5), .ref 100] (p_S (t_S T0 nm om bg nt fo ot pp) pl1 cs sk cl (Int32.ofInt 0) nc sg ov bh op na) R Q
            refine w_get rfl v_tyM rfl ?_
            show w_T L xs (d + 2) m_X12_monthTold 108 [(2, .int (Int32.ofInt (mo1 : Int))), (1, .int (Int32.ofInt (pl : Int))), (0, .ref 100)] [.int (Int32.ofInt (pl1 : Int)), .int (Int32.ofInt 5), .ref 100] (p_S (t_S T0 nm om bg nt fo ot pp) pl1 cs sk cl (Int32.ofInt 0) nc sg ov bh op na) R Q
            refine w_cv rfl (by decide) mt_X12_wrongs v_tyM rfl rfl rfl (Nat.le_of_ble_eq_true rfl) (Nat.le_of_ble_eq_true rfl) (Nat.le_of_ble_eq_true rfl) ?_
            show w_T L xs _ m_X12_wrongs 0 (lv_args 0 [.ref 100, .int (Int32.ofInt 5), .int (Int32.ofInt (pl1 : Int))]) [] (p_S (t_S T0 nm om bg nt fo ot pp) pl1 cs sk cl (Int32.ofInt 0) nc sg ov bh op na) R _
            refine h_wr (by decide) (by decide) (by rw [w_nat (by omega)]; omega) (by rw [w_nat (by omega)]; omega) (fun b108 hb108 => ?_)
            refine w_st rfl (fun _ => rfl) ?_
            show w_T L xs (d + 2) m_X12_monthTold 112 [(2, .int (Int32.ofInt (mo1 : Int))), (1, .int (Int32.ofInt (pl : Int))), (0, .ref 100)] [.ref 100] (p_S (t_S T0 nm om bg nt fo ot pp) pl1 cs sk cl b108 nc sg ov bh op na) R Q
            refine w_cv rfl (by decide) mt_X12_isGood v_tyM rfl rfl rfl (Nat.le_of_ble_eq_true rfl) (Nat.le_of_ble_eq_true rfl) (Nat.le_of_ble_eq_true rfl) ?_
            show w_T L xs _ m_X12_isGood 0 (lv_args 0 [.ref 100]) [] (p_S (t_S T0 nm om bg nt fo ot pp) pl1 cs sk cl b108 nc sg ov bh op na) R _
            refine h_isGF hb108 ?_
            show w_T L xs (d + 2) m_X12_monthTold 115 [(2, .int (Int32.ofInt (mo1 : Int))), (1, .int (Int32.ofInt (pl : Int))), (0, .ref 100)] [.int (Int32.ofInt 0)] (p_S (t_S T0 nm om bg nt fo ot pp) pl1 cs sk cl b108 nc sg ov bh op na) R Q
            refine w_st rfl (fun _ => rfl) ?_
            show w_T L xs (d + 2) m_X12_monthTold 118 [(2, .int (Int32.ofInt (mo1 : Int))), (1, .int (Int32.ofInt (pl : Int))), (0, .ref 100)] [] (p_S (t_S T0 nm om bg nt fo ot pp) pl1 cs sk cl b108 nc sg ov bh op na) R Q
            refine w_ret rfl rfl ?_
            exact Kb _ _ _ _ _ _ _ _ _ hb108 (by omega) ⟨m1, m2, m3, m4, m5⟩
      · refine w_st rfl (fun _ => rfl) ?_
        refine w_st rfl (fun _ => rfl) ?_
        show w_T L xs (d + 2) m_X12_monthTold 30 [(1, .int (Int32.ofInt (pl : Int))), (0, .ref 100)] [.ref 100, .ref 100] (p_S (t_S T0 nm om bg nt fo ot pp) pl cs sk cl (Int32.ofInt 0) nc sg ov bh op na) R Q
        refine w_get rfl v_tyM rfl ?_
        refine w_st rfl (fun _ => rfl) ?_
        refine w_st rfl (fun _ => rfl) ?_
        show w_T L xs (d + 2) m_X12_monthTold 35 [(1, .int (Int32.ofInt (pl : Int))), (0, .ref 100)] [.int ((Int32.ofInt (om : Int)) - (Int32.ofInt 1)), .ref 100] (p_S (t_S T0 nm om bg nt fo ot pp) pl cs sk cl (Int32.ofInt 0) nc sg ov bh op na) R Q
        refine w_put rfl v_tyM rfl rfl rfl ?_
        refine w_eqS (p_wo99 (by decide)) ?_
        refine w_eqS (p_in (t_wom (w_dec2 (by omega)))) ?_
        refine w_st rfl (fun _ => rfl) ?_
        refine w_st rfl (fun _ => rfl) ?_
        show w_T L xs (d + 2) m_X12_monthTold 40 [(1, .int (Int32.ofInt (pl : Int))), (0, .ref 100)] [.ref 100, .ref 100] (p_S (t_S T0 nm (om - 1) bg nt fo ot pp) pl cs sk cl (Int32.ofInt 0) nc sg ov bh op na) R Q
        refine w_get rfl v_tyM rfl ?_
        refine w_st rfl (fun _ => rfl) ?_
        refine w_st rfl (fun _ => rfl) ?_
        show w_T L xs (d + 2) m_X12_monthTold 45 [(1, .int (Int32.ofInt (pl : Int))), (0, .ref 100)] [.int ((Int32.ofInt (pl : Int)) + (Int32.ofInt 1)), .ref 100] (p_S (t_S T0 nm (om - 1) bg nt fo ot pp) pl cs sk cl (Int32.ofInt 0) nc sg ov bh op na) R Q
        refine w_put rfl v_tyM rfl rfl rfl ?_
        refine w_eqS (p_wpl (w_inc _)) ?_
        refine w_st rfl (fun _ => rfl) ?_
        refine w_st rfl (fun _ => rfl) ?_
        show w_T L xs (d + 2) m_X12_monthTold 50 [(1, .int (Int32.ofInt (pl : Int))), (0, .ref 100)] [.ref 100, .ref 100] (p_S (t_S T0 nm (om - 1) bg nt fo ot pp) (pl + 1) cs sk cl (Int32.ofInt 0) nc sg ov bh op na) R Q
        refine w_getr rfl v_tyM rfl ?_
        refine w_st rfl (fun _ => rfl) ?_
        show w_T L xs (d + 2) m_X12_monthTold 54 [(1, .int (Int32.ofInt (pl : Int))), (0, .ref 100)] [.ref 100, .ref 135, .ref 100] (p_S (t_S T0 nm (om - 1) bg nt fo ot pp) (pl + 1) cs sk cl (Int32.ofInt 0) nc sg ov bh op na) R Q
        refine w_get rfl v_tyM rfl ?_
        show w_T L xs (d + 2) m_X12_monthTold 57 [(1, .int (Int32.ofInt (pl : Int))), (0, .ref 100)] [.int (Int32.ofInt ((om - 1 : Nat) : Int)), .ref 135, .ref 100] (p_S (t_S T0 nm (om - 1) bg nt fo ot pp) (pl + 1) cs sk cl (Int32.ofInt 0) nc sg ov bh op na) R Q
        refine w_iald rfl rfl (by rw [w_nat (by omega)]; omega) (by rw [w_nat (by omega)]; omega) ?_
        rw [w_natn (by omega), pt_rfo (by omega)]
        refine w_st rfl (fun _ => rfl) ?_
        show w_T L xs (d + 2) m_X12_monthTold 59 [(1, .int (Int32.ofInt (pl : Int))), (0, .ref 100)] [.ref 100, .int (fo (om - 1)), .ref 100] (p_S (t_S T0 nm (om - 1) bg nt fo ot pp) (pl + 1) cs sk cl (Int32.ofInt 0) nc sg ov bh op na) R Q
        refine w_getr rfl v_tyM rfl ?_
        refine w_st rfl (fun _ => rfl) ?_
        show w_T L xs (d + 2) m_X12_monthTold 63 [(1, .int (Int32.ofInt (pl : Int))), (0, .ref 100)] [.ref 100, .ref 136, .int (fo (om - 1)), .ref 100] (p_S (t_S T0 nm (om - 1) bg nt fo ot pp) (pl + 1) cs sk cl (Int32.ofInt 0) nc sg ov bh op na) R Q
        refine w_get rfl v_tyM rfl ?_
        show w_T L xs (d + 2) m_X12_monthTold 66 [(1, .int (Int32.ofInt (pl : Int))), (0, .ref 100)] [.int (Int32.ofInt ((om - 1 : Nat) : Int)), .ref 136, .int (fo (om - 1)), .ref 100] (p_S (t_S T0 nm (om - 1) bg nt fo ot pp) (pl + 1) cs sk cl (Int32.ofInt 0) nc sg ov bh op na) R Q
        refine w_iald rfl rfl (by rw [w_nat (by omega)]; omega) (by rw [w_nat (by omega)]; omega) ?_
        rw [w_natn (by omega), pt_rot (by omega)]
        refine w_st rfl (fun _ => rfl) ?_
        show w_T L xs (d + 2) m_X12_monthTold 68 [(1, .int (Int32.ofInt (pl : Int))), (0, .ref 100)] [.ref 100, .int (ot (om - 1)), .int (fo (om - 1)), .ref 100] (p_S (t_S T0 nm (om - 1) bg nt fo ot pp) (pl + 1) cs sk cl (Int32.ofInt 0) nc sg ov bh op na) R Q
        refine w_getr rfl v_tyM rfl ?_
        refine w_st rfl (fun _ => rfl) ?_
        show w_T L xs (d + 2) m_X12_monthTold 72 [(1, .int (Int32.ofInt (pl : Int))), (0, .ref 100)] [.ref 100, .ref 137, .int (ot (om - 1)), .int (fo (om - 1)), .ref 100] (p_S (t_S T0 nm (om - 1) bg nt fo ot pp) (pl + 1) cs sk cl (Int32.ofInt 0) nc sg ov bh op na) R Q
        refine w_get rfl v_tyM rfl ?_
        show w_T L xs (d + 2) m_X12_monthTold 75 [(1, .int (Int32.ofInt (pl : Int))), (0, .ref 100)] [.int (Int32.ofInt ((om - 1 : Nat) : Int)), .ref 137, .int (ot (om - 1)), .int (fo (om - 1)), .ref 100] (p_S (t_S T0 nm (om - 1) bg nt fo ot pp) (pl + 1) cs sk cl (Int32.ofInt 0) nc sg ov bh op na) R Q
        refine w_iald rfl rfl (by rw [w_nat (by omega)]; omega) (by rw [w_nat (by omega)]; omega) ?_
        rw [w_natn (by omega), pt_rpp (by omega)]
        show w_T L xs (d + 2) m_X12_monthTold 76 [(1, .int (Int32.ofInt (pl : Int))), (0, .ref 100)] [.int (pp (om - 1)), .int (ot (om - 1)), .int (fo (om - 1)), .ref 100] (p_S (t_S T0 nm (om - 1) bg nt fo ot pp) (pl + 1) cs sk cl (Int32.ofInt 0) nc sg ov bh op na) R Q
        refine w_cv rfl (by decide) mt_X12_repeats v_tyM rfl rfl rfl (Nat.le_of_ble_eq_true rfl) (Nat.le_of_ble_eq_true rfl) (Nat.le_of_ble_eq_true rfl) ?_
        show w_T L xs _ m_X12_repeats 0 (lv_args 0 [.ref 100, .int (fo (om - 1)), .int (ot (om - 1)), .int (pp (om - 1))]) [] (p_S (t_S T0 nm (om - 1) bg nt fo ot pp) (pl + 1) cs sk cl (Int32.ofInt 0) nc sg ov bh op na) R _
        refine h_repeats (d := d) (by omega) (by omega) (by omega) (by omega) (by omega) (by omega) (by omega) m3 (fun nm1 nt1 x1 x2 x3 => ?_) (fun b76 hb76 => ?_)
        · show w_T L xs (d + 2) m_X12_monthTold 79 [(1, .int (Int32.ofInt (pl : Int))), (0, .ref 100)] [] (p_S (t_S T0 nm1 (om - 1) bg nt1 fo ot pp) (pl + 1) cs sk cl (Int32.ofInt 0) nc sg ov bh op na) R Q
          refine w_ret rfl rfl ?_
          exact Kg _ _ _ _ _ _ _ _ (by omega) (by omega) ⟨x2, by omega, x3, m4, fun j hj => by have := m5 j (by omega); omega⟩
        · show w_T L xs (d + 2) m_X12_monthTold 79 [(1, .int (Int32.ofInt (pl : Int))), (0, .ref 100)] [] (p_S (t_S T0 nm (om - 1) bg nt fo ot pp) (pl + 1) cs sk cl b76 nc sg ov bh op na) R Q
          refine w_ret rfl rfl ?_
          exact Kb _ _ _ _ _ _ _ _ _ hb76 (by omega) ⟨m1, by omega, m3, m4, fun j hj => m5 j (by omega)⟩
end TT
