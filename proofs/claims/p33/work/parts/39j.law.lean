/-! law and rules: their rows -/
section PM
variable {R : v_Rf} {S0 : v_Sf} {pl cs sk cl : Nat} {bd : Int32} {nc sg : Nat → Int32} {ov bh : Bool} {op : Int32} {na : Nat → Int32}
theorem p_S_at {a j : Nat} (h1 : a = 99 → ¬ j = 3 ∧ ¬ j = 7 ∧ ¬ j = 9 ∧ ¬ j = 6 ∧ ¬ j = 5 ∧ ¬ j = 24 ∧ ¬ j = 25 ∧ ¬ j = 8) (h2 : (a = 111 ∨ a = 112 ∨ a = 113) → ¬ j < 240) : (p_S S0 pl cs sk cl bd nc sg ov bh op na) a j = S0 a j := by
  unfold p_S
  by_cases ha : a = 99
  · obtain ⟨y1, y2, y3, y8, y4, y5, y6, y7⟩ := h1 ha
    rw [p_bq y1, p_bq y2, p_bq y3, p_bq y8, p_bq y4, p_bq y5, p_bq y6, p_bq y7, ha]
    rfl
  · rw [p_bq ha]
    by_cases hr : a = 111 ∨ a = 112 ∨ a = 113
    · rw [p_blf (h2 hr)]
      show (bif Nat.beq a 111 && false then nc j else bif Nat.beq a 113 && false then sg j else bif Nat.beq a 112 && false then na j else S0 a j) = S0 a j
      rw [Bool.and_false, Bool.and_false, Bool.and_false]
      rfl
    · rw [p_bq (show ¬ a = 111 by omega), p_bq (show ¬ a = 112 by omega), p_bq (show ¬ a = 113 by omega)]
      rfl
theorem p_TF {S S' : v_Sf} {a j : Nat} {ft : v_Ft} (e : S' a j = S a j) (h : v_TbF S R a j ft) : v_TbF S' R a j ft := by
  unfold v_TbF at h ⊢
  split
  · rw [e]; exact h
  · trivial
  · exact h
theorem p_TC {S S' : v_Sf} {a : Nat} {c : v_Ct} (e : ∀ j, S' a j = S a j) (h : v_TbC S R a c) : v_TbC S' R a c := by
  unfold v_TbC at h ⊢
  split
  · intro j hj
    rw [e]
    exact h j hj
  · exact h
  · exact fun j ft hj => p_TF (e j) (h j ft hj)
theorem p_b01 (b : Bool) : 0 ≤ (p_b b).toInt ∧ (p_b b).toInt ≤ 1 := by cases b <;> decide
theorem p_Tb (hT : v_Tb v_ty S0 R) (h1 : pl ≤ 1000) (h2 : cs ≤ 240) (h3 : sk ≤ 240) (h4 : cl ≤ 16) : v_Tb v_ty (p_S S0 pl cs sk cl bd nc sg ov bh op na) R := by
  intro a c hc
  by_cases ha : a = 99
  · subst ha
    rw [v_tyM] at hc
    cases hc
    intro j ft hj
    by_cases y1 : j = 3
    · subst y1
      cases (Option.some.inj (show some (.inl (0, 1000)) = some ft from hj))
      exact ⟨by show (0 : Int) ≤ (Int32.ofInt (pl : Int)).toInt; rw [w_nat (by omega)]; omega, by show (Int32.ofInt (pl : Int)).toInt ≤ (1000 : Int); rw [w_nat (by omega)]; omega⟩
    · by_cases y2 : j = 7
      · subst y2
        cases (Option.some.inj (show some (.inl (0, 240)) = some ft from hj))
        exact ⟨by show (0 : Int) ≤ (Int32.ofInt (cs : Int)).toInt; rw [w_nat (by omega)]; omega, by show (Int32.ofInt (cs : Int)).toInt ≤ (240 : Int); rw [w_nat (by omega)]; omega⟩
      · by_cases y3 : j = 9
        · subst y3
          cases (Option.some.inj (show some (.inl (0, 240)) = some ft from hj))
          exact ⟨by show (0 : Int) ≤ (Int32.ofInt (sk : Int)).toInt; rw [w_nat (by omega)]; omega, by show (Int32.ofInt (sk : Int)).toInt ≤ (240 : Int); rw [w_nat (by omega)]; omega⟩
        · by_cases y8 : j = 6
          · subst y8
            cases (Option.some.inj (show some (.inl (0, 16)) = some ft from hj))
            exact ⟨by show (0 : Int) ≤ (Int32.ofInt (cl : Int)).toInt; rw [w_nat (by omega)]; omega, by show (Int32.ofInt (cl : Int)).toInt ≤ (16 : Int); rw [w_nat (by omega)]; omega⟩
          · by_cases y4 : j = 5
            · subst y4
              cases (Option.some.inj (show some (.inl ((-2147483648), 2147483647)) = some ft from hj))
              exact q_rng _
            · by_cases y5 : j = 24
              · subst y5
                cases (Option.some.inj (show some (.inl (0, 1)) = some ft from hj))
                exact p_b01 ov
              · by_cases y6 : j = 25
                · subst y6
                  cases (Option.some.inj (show some (.inl (0, 1)) = some ft from hj))
                  exact p_b01 bh
                · by_cases y7 : j = 8
                  · subst y7
                    cases (Option.some.inj (show some (.inl ((-2147483648), 2147483647)) = some ft from hj))
                    exact q_rng _
                  · exact p_TF (p_S_at (fun _ => ⟨y1, y2, y3, y8, y4, y5, y6, y7⟩) (fun h => by omega)) (hT 99 _ v_tyM j ft hj)
  · by_cases h11 : a = 111
    · subst h11
      cases (Option.some.inj ((show v_ty 111 = some (.inl (0, 240, (-2147483648), 2147483647)) from rfl).symm.trans hc))
      exact fun j _ => q_rng _
    · by_cases h12 : a = 112
      · subst h12
        cases (Option.some.inj ((show v_ty 112 = some (.inl (0, 240, (-2147483648), 2147483647)) from rfl).symm.trans hc))
        exact fun j _ => q_rng _
      · by_cases h13 : a = 113
        · subst h13
          cases (Option.some.inj ((show v_ty 113 = some (.inl (0, 240, (-2147483648), 2147483647)) from rfl).symm.trans hc))
          exact fun j _ => q_rng _
        · exact p_TC (fun j => p_S_at (fun h => absurd h ha) (fun h => by omega)) (hT a c hc)
theorem p_bof {x : Int32} (h1 : 0 ≤ x.toInt) (h2 : x.toInt ≤ 1) : ∃ b, x = p_b b := by
  have e := q_of x
  by_cases h : x.toInt = 0
  · exact ⟨false, by rw [← e, h]; rfl⟩
  · exact ⟨true, by rw [← e, show x.toInt = 1 by omega]; rfl⟩
theorem p_nof {x : Int32} (h1 : 0 ≤ x.toInt) : x = Int32.ofInt ((x.toInt.toNat : Nat) : Int) := by
  rw [show ((x.toInt.toNat : Nat) : Int) = x.toInt by omega, q_of]
theorem p_S_of {S : v_Sf} (hT : v_Tb v_ty S R) : ∃ (pl cs sk cl : Nat) (ov bh : Bool), S = p_S S pl cs sk cl (S 99 5) (S 111) (S 113) ov bh (S 99 8) (S 112) ∧ sk ≤ 240 ∧ pl ≤ 1000 ∧ cs ≤ 240 ∧ cl ≤ 16 := by
  have h3 : 0 ≤ (S 99 3).toInt ∧ (S 99 3).toInt ≤ 1000 := hT 99 _ v_tyM 3 _ rfl
  have h7 : 0 ≤ (S 99 7).toInt ∧ (S 99 7).toInt ≤ 240 := hT 99 _ v_tyM 7 _ rfl
  have h9 : 0 ≤ (S 99 9).toInt ∧ (S 99 9).toInt ≤ 240 := hT 99 _ v_tyM 9 _ rfl
  have h6 : 0 ≤ (S 99 6).toInt ∧ (S 99 6).toInt ≤ 16 := hT 99 _ v_tyM 6 _ rfl
  have h24 : 0 ≤ (S 99 24).toInt ∧ (S 99 24).toInt ≤ 1 := hT 99 _ v_tyM 24 _ rfl
  have h25 : 0 ≤ (S 99 25).toInt ∧ (S 99 25).toInt ≤ 1 := hT 99 _ v_tyM 25 _ rfl
  obtain ⟨o, ho⟩ := p_bof h24.1 h24.2
  obtain ⟨b, hb⟩ := p_bof h25.1 h25.2
  refine ⟨(S 99 3).toInt.toNat, (S 99 7).toInt.toNat, (S 99 9).toInt.toNat, (S 99 6).toInt.toNat, o, b, ?_, by omega, by omega, by omega, by omega⟩
  funext a j
  by_cases ha : a = 99
  · subst ha
    by_cases y1 : j = 3
    · subst y1; exact p_nof h3.1
    · by_cases y2 : j = 7
      · subst y2; exact p_nof h7.1
      · by_cases y3 : j = 9
        · subst y3; exact p_nof h9.1
        · by_cases y8 : j = 6
          · subst y8; exact p_nof h6.1
          · by_cases y4 : j = 5
            · subst y4; rfl
            · by_cases y5 : j = 24
              · subst y5; exact ho
              · by_cases y6 : j = 25
                · subst y6; exact hb
                · by_cases y7 : j = 8
                  · subst y7; rfl
                  · exact (p_S_at (fun _ => ⟨y1, y2, y3, y8, y4, y5, y6, y7⟩) (fun h => by omega)).symm
  · by_cases hj : j < 240
    · by_cases h11 : a = 111
      · subst h11; exact (p_rnc hj).symm
      · by_cases h12 : a = 112
        · subst h12; exact (p_rna hj).symm
        · by_cases h13 : a = 113
          · subst h13; exact (p_rsg hj).symm
          · exact (p_S_at (fun h => absurd h ha) (fun h => by omega)).symm
    · exact (p_S_at (fun h => absurd h ha) (fun _ => hj)).symm
theorem p_str_c {c c' : Nat → Int32} {a b : Int32} (h : ∀ j : Nat, a.toInt ≤ (j : Int) → (j : Int) < b.toInt → c' j = c j) (hs : v_stretch c a b) : v_stretch c' a b := by
  obtain ⟨h1, h2, h3, h4, h5⟩ := hs
  exact ⟨h1, h2, h3, h4, v_seg_c (fun j g1 g2 => h j (by omega) (by omega)) h5⟩
theorem p_nmd {m : List (Nat × Nat × Nat)} {a a0 lo hi j : Nat} (hk : v_md m a0 lo hi = true) (hm : v_md m a j j = false) : ¬ (a = a0 ∧ lo ≤ j ∧ j ≤ hi) := fun e => by
  have k := v_md_mono hk e.2.1 e.2.2
  rw [← e.1, hm] at k
  cases k
end PM
theorem p_frL {R : v_Rf} {S S3 : v_Sf} {pl cs sk cl : Nat} {bd : Int32} {nc sg : Nat → Int32} {ov bh : Bool} {op : Int32} {na : Nat → Int32} (hX : ∀ a j, ¬ (a = 99 ∧ (j = 1 ∨ j = 4 ∨ j = 16)) → ¬ (107 ≤ a ∧ a ≤ 110 ∧ j ≤ 16) → ¬ (101 ≤ a ∧ a ≤ 104 ∧ 0 ≤ j ∧ j < 16) → ¬ ((a = 105 ∨ a = 106) ∧ 0 ≤ j ∧ j < 240) → S3 a j = S a j) : v_Fr [(99, 1, 1), (99, 3, 9), (99, 16, 16), (99, 24, 25), (101, 0, 28), (102, 0, 28), (103, 0, 28), (104, 0, 28), (105, 0, 480), (106, 0, 480), (107, 0, 16), (108, 0, 16), (109, 0, 16), (110, 0, 16), (111, 0, 240), (112, 0, 240), (113, 0, 240)] S R (p_S S3 pl cs sk cl bd nc sg ov bh op na) R := by
  intro a j hm
  have n0 := p_nmd (a0 := 99) (lo := 1) (hi := 1) (by decide +kernel) hm
  have n1 := p_nmd (a0 := 99) (lo := 3) (hi := 9) (by decide +kernel) hm
  have n2 := p_nmd (a0 := 99) (lo := 16) (hi := 16) (by decide +kernel) hm
  have n3 := p_nmd (a0 := 99) (lo := 24) (hi := 25) (by decide +kernel) hm
  have n4 := p_nmd (a0 := 101) (lo := 0) (hi := 28) (by decide +kernel) hm
  have n5 := p_nmd (a0 := 102) (lo := 0) (hi := 28) (by decide +kernel) hm
  have n6 := p_nmd (a0 := 103) (lo := 0) (hi := 28) (by decide +kernel) hm
  have n7 := p_nmd (a0 := 104) (lo := 0) (hi := 28) (by decide +kernel) hm
  have n8 := p_nmd (a0 := 105) (lo := 0) (hi := 480) (by decide +kernel) hm
  have n9 := p_nmd (a0 := 106) (lo := 0) (hi := 480) (by decide +kernel) hm
  have n10 := p_nmd (a0 := 107) (lo := 0) (hi := 16) (by decide +kernel) hm
  have n11 := p_nmd (a0 := 108) (lo := 0) (hi := 16) (by decide +kernel) hm
  have n12 := p_nmd (a0 := 109) (lo := 0) (hi := 16) (by decide +kernel) hm
  have n13 := p_nmd (a0 := 110) (lo := 0) (hi := 16) (by decide +kernel) hm
  have n14 := p_nmd (a0 := 111) (lo := 0) (hi := 240) (by decide +kernel) hm
  have n15 := p_nmd (a0 := 112) (lo := 0) (hi := 240) (by decide +kernel) hm
  have n16 := p_nmd (a0 := 113) (lo := 0) (hi := 240) (by decide +kernel) hm
  refine ⟨?_, rfl⟩
  rw [p_S_at (by omega) (by omega)]
  exact hX a j (by omega) (by omega) (by omega) (by omega)
theorem p_opL {R : v_Rf} {S S3 : v_Sf} {pl cs sk cl : Nat} {bd : Int32} {nc sg : Nat → Int32} {ov bh : Bool} {op : Int32} {na : Nat → Int32} (hT0 : v_Tb v_ty S R) (hO : v_Op S) (hc : cl ≤ 16) (hX : p_X 0 0 16 S S3) (hY : p_Y 0 0 cl S3) : v_Op (p_S (v_ur S3 99 (upd (S3 99) 16 (Int32.ofInt (cl : Int)))) pl cs sk cl bd nc sg ov bh op na) := by
  have at1 : ∀ a j, ¬ a = 99 → ¬ (a = 111 ∨ a = 112 ∨ a = 113) → p_S (v_ur S3 99 (upd (S3 99) 16 (Int32.ofInt (cl : Int)))) pl cs sk cl bd nc sg ov bh op na a j = S3 a j := fun a j h1 h2 => by
    rw [p_S_at (fun h => absurd h h1) (fun h => absurd h h2), w_urn (fun e => h1 e.1)]
  have a102 := fun j => at1 102 j (by decide) (by decide)
  have a103 := fun j => at1 103 j (by decide) (by decide)
  have a104 := fun j => at1 104 j (by decide) (by decide)
  have a105 := fun j => at1 105 j (by decide) (by decide)
  have a16 : p_S (v_ur S3 99 (upd (S3 99) 16 (Int32.ofInt (cl : Int)))) pl cs sk cl bd nc sg ov bh op na 99 16 = Int32.ofInt (cl : Int) := by rw [p_S_at (by omega) (by omega)]; exact w_urs
  have a17 : p_S (v_ur S3 99 (upd (S3 99) 16 (Int32.ofInt (cl : Int)))) pl cs sk cl bd nc sg ov bh op na 99 17 = S3 99 17 := by rw [p_S_at (by omega) (by omega)]; exact w_urn (by decide)
  refine ⟨fun k hk => ?_, fun k hk => ?_⟩
  · rw [a16, w_nat (by omega)] at hk
    obtain ⟨g1, g2, g3, g4⟩ := hY k (by omega)
    rw [Nat.zero_add] at g1 g2 g3 g4
    rw [a102, a103, a104]
    exact ⟨v_stretch_c (fun j _ => a105 j) g1, v_stretch_c (fun j _ => a105 j) g2, by omega⟩
  · rw [a17, hX 99 17 (by omega) (by omega) (by omega) (by omega)] at hk
    obtain ⟨g1, g2⟩ := hO.2 k hk
    rw [a103, a104, hX 103 (16 + k) (by omega) (by omega) (by omega) (by omega), hX 104 (16 + k) (by omega) (by omega) (by omega) (by omega)]
    exact ⟨p_str_c (fun j j1 j2 => by rw [a105, hX 105 j (by omega) (by omega) (by omega) (by omega)]) g1, g2⟩
set_option maxHeartbeats 2000000 in
theorem hr_X12_law {L : Nat} {xs : Nat → Int32} (ih : ∀ x, ∀ w ∈ v_rw x, w.1 < rw_183.1 → v_Met L xs v_ty v_Op x w) : v_Met L xs v_ty v_Op 193 rw_183 := by
  intro M hM ac S R ha hT hO
  rw [mt_X12_law] at hM
  cases hM
  match ac, ha with
  | [r0, w1], ⟨h0, ⟨n, hg, _, _⟩, _⟩ =>
  have h0 : r0 = .ref 100 := h0
  subst h0 hg
  show w_T L xs (0 + 9) m_X12_law 0 (lv_args 0 [.ref 100, .int n]) [] S R (fun (r : Option Value) (S' : v_Sf) (R' : v_Rf) => v_Tb v_ty S' R' ∧ v_Op S' ∧ v_rk1 (some ((-2147483648), 2147483647)) r ∧ v_Fr [(99, 1, 1), (99, 3, 9), (99, 16, 16), (99, 24, 25), (101, 0, 28), (102, 0, 28), (103, 0, 28), (104, 0, 28), (105, 0, 480), (106, 0, 480), (107, 0, 16), (108, 0, 16), (109, 0, 16), (110, 0, 16), (111, 0, 240), (112, 0, 240), (113, 0, 240)] S R S' R')
  generalize hQ : (fun (r : Option Value) (S' : v_Sf) (R' : v_Rf) => v_Tb v_ty S' R' ∧ v_Op S' ∧ v_rk1 (some ((-2147483648), 2147483647)) r ∧ v_Fr [(99, 1, 1), (99, 3, 9), (99, 16, 16), (99, 24, 25), (101, 0, 28), (102, 0, 28), (103, 0, 28), (104, 0, 28), (105, 0, 480), (106, 0, 480), (107, 0, 16), (108, 0, 16), (109, 0, 16), (110, 0, 16), (111, 0, 240), (112, 0, 240), (113, 0, 240)] S R S' R') = Q
  have hq : ∀ (S' : v_Sf) (v : Int32), v_Tb v_ty S' R → v_Op S' → v_Fr [(99, 1, 1), (99, 3, 9), (99, 16, 16), (99, 24, 25), (101, 0, 28), (102, 0, 28), (103, 0, 28), (104, 0, 28), (105, 0, 480), (106, 0, 480), (107, 0, 16), (108, 0, 16), (109, 0, 16), (110, 0, 16), (111, 0, 240), (112, 0, 240), (113, 0, 240)] S R S' R → Q (some (.int v)) S' R := fun S' v a1 a2 a3 => by
    rw [← hQ]
    exact ⟨a1, a2, ⟨v, rfl, (q_rng v).1, (q_rng v).2⟩, a3⟩
  have e1 : (Int64.ofNat 1).toInt = 1 := by decide
  have e240 : (Int64.ofInt 240).toInt = 240 := by decide
  have e0 := Int32.toInt_toInt64 n
  have z0 : (0 : Int32).toInt = 0 := rfl
  obtain ⟨pl, cs, sk, cl, ov, bh, hS, hsk, _⟩ := p_S_of hT
  refine w_eqS hS ?_
  have hq0 : ∀ v, Q (some (.int v)) (p_S S pl cs sk cl (S 99 5) (S 111) (S 113) ov bh (S 99 8) (S 112)) R := fun v => by
    rw [← hS]
    exact hq S v hT hO (v_Fr_rf _ _ _)
  refine w_st rfl (fun _ => rfl) ?_
  refine w_st rfl (fun _ => rfl) ?_
  refine w_st rfl (fun _ => rfl) ?_
  refine w_st rfl (fun _ => rfl) ?_
  show w_T L xs (0 + 9) m_X12_law 6 [(0, .ref 100), (1, .int n)] [.long (Int64.ofInt 240), .long (Int64.ofNat 1), .long n.toInt64] (p_S S pl cs sk cl (S 99 5) (S 111) (S 113) ov bh (S 99 8) (S 112)) R Q
  refine w_cs rfl (by decide) mt_X12_lies (fun _ => rfl) (Nat.le_of_ble_eq_true rfl) (Nat.le_of_ble_eq_true rfl) ?_
  show w_T L xs _ m_X12_lies 0 (lv_args 0 [.long n.toInt64, .long (Int64.ofNat 1), .long (Int64.ofInt 240)]) [] (p_S S pl cs sk cl (S 99 5) (S 111) (S 113) ov bh (S 99 8) (S 112)) R _
  refine h_lies _ _ _ ?_
  rw [e1, e240, e0]
  by_cases hd : 1 ≤ n.toInt ∧ n.toInt ≤ 240
  · rw [if_pos hd]
    show w_T L xs (0 + 9) m_X12_law 9 [(0, .ref 100), (1, .int n)] [.int (Int32.ofInt 1)] (p_S S pl cs sk cl (S 99 5) (S 111) (S 113) ov bh (S 99 8) (S 112)) R Q
    refine w_st rfl (fun _ => rfl) ?_
    refine w_st rfl (fun _ => rfl) ?_
    refine w_st rfl (fun _ => rfl) ?_
    show w_T L xs (0 + 9) m_X12_law 14 [(0, .ref 100), (1, .int n)] [.ref 100, .int n] (p_S S pl cs sk cl (S 99 5) (S 111) (S 113) ov bh (S 99 8) (S 112)) R Q
    refine w_get rfl v_tyM rfl ?_
    show w_T L xs (0 + 9) m_X12_law 17 [(0, .ref 100), (1, .int n)] [.int (S 99 1), .int n] (p_S S pl cs sk cl (S 99 5) (S 111) (S 113) ov bh (S 99 8) (S 112)) R Q
    refine w_br (P := n ≤ (S 99 1)) rfl (fun _ => rfl) (fun h17 => ?_) (fun h17 => ?_)
    · refine w_st rfl (fun _ => rfl) ?_
      refine w_st rfl (fun _ => rfl) ?_
      refine w_st rfl (fun _ => rfl) ?_
      show w_T L xs (0 + 9) m_X12_law 25 [(0, .ref 100), (1, .int n)] [.int (Int32.ofInt 0), .int n, .ref 100] (p_S S pl cs sk cl (S 99 5) (S 111) (S 113) ov bh (S 99 8) (S 112)) R Q
      refine w_cv rfl (by decide) mt_X12_takesText v_tyM rfl rfl rfl (Nat.le_of_ble_eq_true rfl) (Nat.le_of_ble_eq_true rfl) (Nat.le_of_ble_eq_true rfl) ?_
      show w_T L xs _ m_X12_takesText 0 (lv_args 0 [.ref 100, .int n, .int (Int32.ofInt 0)]) [] (p_S S pl cs sk cl (S 99 5) (S 111) (S 113) ov bh (S 99 8) (S 112)) R _
      refine h_textL hd.1 hd.2 hT hsk (fun S3 pl1 cs1 sk1 cl1 nc1 sg1 na1 o1 v1 h1 f1 f2 f3 f4 f5 f6 f7 => ?_) (fun S3 pl1 cs1 sk1 cl1 b25 nc1 sg1 na1 o1 v1 h1 f1 f2 hb25 f4 f5 f6 f7 => ?_)
      · show w_T L xs (0 + 9) m_X12_law 28 [(0, .ref 100), (1, .int n)] [.int (Int32.ofInt (cl1 : Int))] (p_S S3 pl1 cs1 sk1 cl1 (Int32.ofInt 0) nc1 sg1 v1 h1 o1 na1) R Q
        refine w_st rfl (fun _ => rfl) ?_
        refine w_st rfl (fun _ => rfl) ?_
        show w_T L xs (0 + 9) m_X12_law 30 [(2, .int (Int32.ofInt (cl1 : Int))), (0, .ref 100), (1, .int n)] [.int (Int32.ofInt (cl1 : Int))] (p_S S3 pl1 cs1 sk1 cl1 (Int32.ofInt 0) nc1 sg1 v1 h1 o1 na1) R Q
        refine w_br (P := (Int32.ofInt (cl1 : Int)) < 0) rfl (fun _ => rfl) (fun h30 => ?_) (fun h30 => ?_)
        · exfalso; rw [q_lt32, z0, w_nat (by omega)] at h30; omega
        · refine w_st rfl (fun _ => rfl) ?_
          refine w_st rfl (fun _ => rfl) ?_
          show w_T L xs (0 + 9) m_X12_law 35 [(2, .int (Int32.ofInt (cl1 : Int))), (0, .ref 100), (1, .int n)] [.int (Int32.ofInt (cl1 : Int)), .ref 100] (p_S S3 pl1 cs1 sk1 cl1 (Int32.ofInt 0) nc1 sg1 v1 h1 o1 na1) R Q
          refine w_put rfl v_tyM rfl rfl rfl ?_
          refine w_eqS (p_wo99 (by decide)) ?_
          refine w_st rfl (fun _ => rfl) ?_
          show w_T L xs (0 + 9) m_X12_law 39 [(2, .int (Int32.ofInt (cl1 : Int))), (0, .ref 100), (1, .int n)] [.int (Int32.ofInt (cl1 : Int))] (p_S (v_ur S3 99 (upd (S3 99) 16 (Int32.ofInt (cl1 : Int)))) pl1 cs1 sk1 cl1 (Int32.ofInt 0) nc1 sg1 v1 h1 o1 na1) R Q
          refine w_ret rfl (by rfl) ?_
          refine hq _ _ (p_Tb (w_TbF f3 v_tyM rfl (by show (0 : Int) ≤ (Int32.ofInt (cl1 : Int)).toInt; rw [w_nat (by omega)]; omega) (by show (Int32.ofInt (cl1 : Int)).toInt ≤ (16 : Int); rw [w_nat (by omega)]; omega)) (by omega) (by omega) (by omega) (by omega)) (p_opL hT hO f7 f1 f2) (p_frL (fun a j x1 x2 x3 x4 => ?_))
          rw [w_urn (by omega)]
          exact f1 a j (by omega) (by omega) (by omega) (by omega)
      · show w_T L xs (0 + 9) m_X12_law 28 [(0, .ref 100), (1, .int n)] [.int b25] (p_S S3 pl1 cs1 sk1 cl1 b25 nc1 sg1 v1 h1 o1 na1) R Q
        refine w_st rfl (fun _ => rfl) ?_
        refine w_st rfl (fun _ => rfl) ?_
        show w_T L xs (0 + 9) m_X12_law 30 [(2, .int b25), (0, .ref 100), (1, .int n)] [.int b25] (p_S S3 pl1 cs1 sk1 cl1 b25 nc1 sg1 v1 h1 o1 na1) R Q
        refine w_br (P := b25 < 0) rfl (fun _ => rfl) (fun h30 => ?_) (fun h30 => ?_)
        · refine w_st rfl (fun _ => rfl) ?_
          show w_T L xs (0 + 9) m_X12_law 39 [(2, .int b25), (0, .ref 100), (1, .int n)] [.int b25] (p_S S3 pl1 cs1 sk1 cl1 b25 nc1 sg1 v1 h1 o1 na1) R Q
          refine w_ret rfl (by rfl) ?_
          refine hq _ _ (p_Tb f2 (by omega) (by omega) (by omega) (by omega)) (v_fz_ok.1 S _ (fun a j hz => ?_) hO) (p_frL (fun a j x1 x2 x3 x4 => ?_))
          · have hz : v_md v_fz a j j = true := by
              unfold v_frz at hz
              rw [v_hit_jj] at hz
              exact hz
            obtain ⟨q, q1, q2, q3, q4⟩ := v_md_lt hz
            simp only [v_fz, List.mem_cons, List.not_mem_nil, or_false] at q1
            have hq1 : (a = 99 ∧ (j = 16 ∨ j = 17)) ∨ (102 ≤ a ∧ a ≤ 105) := by rcases q1 with rfl | rfl | rfl | rfl | rfl | rfl <;> (dsimp only at q2 q3 q4; omega)
            rw [p_S_at (by omega) (by omega), f1 a j (by omega), p_bgF (by omega)]
          · rw [f1 a j (by omega), p_bgF (by omega)]
        · exfalso; rw [q_lt32, z0] at h30; omega
    · refine w_st rfl (fun _ => rfl) ?_
      show w_T L xs (0 + 9) m_X12_law 21 [(0, .ref 100), (1, .int n)] [.int (Int32.ofInt (-1))] (p_S S pl cs sk cl (S 99 5) (S 111) (S 113) ov bh (S 99 8) (S 112)) R Q
      refine w_ret rfl (by rfl) ?_
      exact hq0 _
  · rw [if_neg hd]
    show w_T L xs (0 + 9) m_X12_law 9 [(0, .ref 100), (1, .int n)] [.int (Int32.ofInt 0)] (p_S S pl cs sk cl (S 99 5) (S 111) (S 113) ov bh (S 99 8) (S 112)) R Q
    refine w_st rfl (fun _ => rfl) ?_
    refine w_st rfl (fun _ => rfl) ?_
    show w_T L xs (0 + 9) m_X12_law 21 [(0, .ref 100), (1, .int n)] [.int (Int32.ofInt (-1))] (p_S S pl cs sk cl (S 99 5) (S 111) (S 113) ov bh (S 99 8) (S 112)) R Q
    refine w_ret rfl (by rfl) ?_
    exact hq0 _
theorem p_frR {R : v_Rf} {S S3 : v_Sf} {pl cs sk cl : Nat} {bd : Int32} {nc sg : Nat → Int32} {ov bh : Bool} {op : Int32} {na : Nat → Int32} (hX : ∀ a j, ¬ (a = 99 ∧ (j = 1 ∨ j = 4 ∨ j = 17)) → ¬ (107 ≤ a ∧ a ≤ 110 ∧ j ≤ 16) → ¬ (101 ≤ a ∧ a ≤ 104 ∧ 16 ≤ j ∧ j < 28) → ¬ ((a = 105 ∨ a = 106) ∧ 240 ≤ j ∧ j < 480) → S3 a j = S a j) : v_Fr [(99, 1, 1), (99, 3, 9), (99, 17, 17), (99, 24, 25), (101, 0, 28), (102, 0, 28), (103, 0, 28), (104, 0, 28), (105, 0, 480), (106, 0, 480), (107, 0, 16), (108, 0, 16), (109, 0, 16), (110, 0, 16), (111, 0, 240), (112, 0, 240), (113, 0, 240)] S R (p_S S3 pl cs sk cl bd nc sg ov bh op na) R := by
  intro a j hm
  have n0 := p_nmd (a0 := 99) (lo := 1) (hi := 1) (by decide +kernel) hm
  have n1 := p_nmd (a0 := 99) (lo := 3) (hi := 9) (by decide +kernel) hm
  have n2 := p_nmd (a0 := 99) (lo := 17) (hi := 17) (by decide +kernel) hm
  have n3 := p_nmd (a0 := 99) (lo := 24) (hi := 25) (by decide +kernel) hm
  have n4 := p_nmd (a0 := 101) (lo := 0) (hi := 28) (by decide +kernel) hm
  have n5 := p_nmd (a0 := 102) (lo := 0) (hi := 28) (by decide +kernel) hm
  have n6 := p_nmd (a0 := 103) (lo := 0) (hi := 28) (by decide +kernel) hm
  have n7 := p_nmd (a0 := 104) (lo := 0) (hi := 28) (by decide +kernel) hm
  have n8 := p_nmd (a0 := 105) (lo := 0) (hi := 480) (by decide +kernel) hm
  have n9 := p_nmd (a0 := 106) (lo := 0) (hi := 480) (by decide +kernel) hm
  have n10 := p_nmd (a0 := 107) (lo := 0) (hi := 16) (by decide +kernel) hm
  have n11 := p_nmd (a0 := 108) (lo := 0) (hi := 16) (by decide +kernel) hm
  have n12 := p_nmd (a0 := 109) (lo := 0) (hi := 16) (by decide +kernel) hm
  have n13 := p_nmd (a0 := 110) (lo := 0) (hi := 16) (by decide +kernel) hm
  have n14 := p_nmd (a0 := 111) (lo := 0) (hi := 240) (by decide +kernel) hm
  have n15 := p_nmd (a0 := 112) (lo := 0) (hi := 240) (by decide +kernel) hm
  have n16 := p_nmd (a0 := 113) (lo := 0) (hi := 240) (by decide +kernel) hm
  refine ⟨?_, rfl⟩
  rw [p_S_at (by omega) (by omega)]
  exact hX a j (by omega) (by omega) (by omega) (by omega)
theorem p_opR {R : v_Rf} {S S3 : v_Sf} {pl cs sk cl : Nat} {bd : Int32} {nc sg : Nat → Int32} {ov bh : Bool} {op : Int32} {na : Nat → Int32} (hT0 : v_Tb v_ty S R) (hO : v_Op S) (hc : cl ≤ 12) (hX : p_X 16 240 12 S S3) (hY : p_Y 16 240 cl S3) : v_Op (p_S (v_ur S3 99 (upd (S3 99) 17 (Int32.ofInt (cl : Int)))) pl cs sk cl bd nc sg ov bh op na) := by
  have at1 : ∀ a j, ¬ a = 99 → ¬ (a = 111 ∨ a = 112 ∨ a = 113) → p_S (v_ur S3 99 (upd (S3 99) 17 (Int32.ofInt (cl : Int)))) pl cs sk cl bd nc sg ov bh op na a j = S3 a j := fun a j h1 h2 => by
    rw [p_S_at (fun h => absurd h h1) (fun h => absurd h h2), w_urn (fun e => h1 e.1)]
  have a102 := fun j => at1 102 j (by decide) (by decide)
  have a103 := fun j => at1 103 j (by decide) (by decide)
  have a104 := fun j => at1 104 j (by decide) (by decide)
  have a105 := fun j => at1 105 j (by decide) (by decide)
  have a16 : p_S (v_ur S3 99 (upd (S3 99) 17 (Int32.ofInt (cl : Int)))) pl cs sk cl bd nc sg ov bh op na 99 16 = S3 99 16 := by rw [p_S_at (by omega) (by omega)]; exact w_urn (by decide)
  have a17 : p_S (v_ur S3 99 (upd (S3 99) 17 (Int32.ofInt (cl : Int)))) pl cs sk cl bd nc sg ov bh op na 99 17 = Int32.ofInt (cl : Int) := by rw [p_S_at (by omega) (by omega)]; exact w_urs
  have h16 : 0 ≤ (S 99 16).toInt ∧ (S 99 16).toInt ≤ 16 := hT0 99 _ v_tyM 16 _ rfl
  refine ⟨fun k hk => ?_, fun k hk => ?_⟩
  · rw [a16, hX 99 16 (by omega) (by omega) (by omega) (by omega)] at hk
    obtain ⟨g1, g2, g3⟩ := hO.1 k hk
    obtain ⟨z1, z2, z3, z4, z5⟩ := g2
    rw [a102, a103, a104, hX 102 k (by omega) (by omega) (by omega) (by omega), hX 103 k (by omega) (by omega) (by omega) (by omega), hX 104 k (by omega) (by omega) (by omega) (by omega)]
    exact ⟨p_str_c (fun j j1 j2 => by rw [a105, hX 105 j (by omega) (by omega) (by omega) (by omega)]) g1, p_str_c (fun j j1 j2 => by rw [a105, hX 105 j (by omega) (by omega) (by omega) (by omega)]) ⟨z1, z2, z3, z4, z5⟩, g3⟩
  · rw [a17, w_nat (by omega)] at hk
    obtain ⟨g1, g2, g3, g4⟩ := hY k (by omega)
    rw [a103, a104]
    exact ⟨v_stretch_c (fun j _ => a105 j) g2, by omega⟩
set_option maxHeartbeats 2000000 in
theorem hr_X12_rules {L : Nat} {xs : Nat → Int32} (ih : ∀ x, ∀ w ∈ v_rw x, w.1 < rw_184.1 → v_Met L xs v_ty v_Op x w) : v_Met L xs v_ty v_Op 194 rw_184 := by
  intro M hM ac S R ha hT hO
  rw [mt_X12_rules] at hM
  cases hM
  match ac, ha with
  | [r0, w1], ⟨h0, ⟨n, hg, _, _⟩, _⟩ =>
  have h0 : r0 = .ref 100 := h0
  subst h0 hg
  show w_T L xs (0 + 9) m_X12_rules 0 (lv_args 0 [.ref 100, .int n]) [] S R (fun (r : Option Value) (S' : v_Sf) (R' : v_Rf) => v_Tb v_ty S' R' ∧ v_Op S' ∧ v_rk1 (some ((-2147483648), 2147483647)) r ∧ v_Fr [(99, 1, 1), (99, 3, 9), (99, 17, 17), (99, 24, 25), (101, 0, 28), (102, 0, 28), (103, 0, 28), (104, 0, 28), (105, 0, 480), (106, 0, 480), (107, 0, 16), (108, 0, 16), (109, 0, 16), (110, 0, 16), (111, 0, 240), (112, 0, 240), (113, 0, 240)] S R S' R')
  generalize hQ : (fun (r : Option Value) (S' : v_Sf) (R' : v_Rf) => v_Tb v_ty S' R' ∧ v_Op S' ∧ v_rk1 (some ((-2147483648), 2147483647)) r ∧ v_Fr [(99, 1, 1), (99, 3, 9), (99, 17, 17), (99, 24, 25), (101, 0, 28), (102, 0, 28), (103, 0, 28), (104, 0, 28), (105, 0, 480), (106, 0, 480), (107, 0, 16), (108, 0, 16), (109, 0, 16), (110, 0, 16), (111, 0, 240), (112, 0, 240), (113, 0, 240)] S R S' R') = Q
  have hq : ∀ (S' : v_Sf) (v : Int32), v_Tb v_ty S' R → v_Op S' → v_Fr [(99, 1, 1), (99, 3, 9), (99, 17, 17), (99, 24, 25), (101, 0, 28), (102, 0, 28), (103, 0, 28), (104, 0, 28), (105, 0, 480), (106, 0, 480), (107, 0, 16), (108, 0, 16), (109, 0, 16), (110, 0, 16), (111, 0, 240), (112, 0, 240), (113, 0, 240)] S R S' R → Q (some (.int v)) S' R := fun S' v a1 a2 a3 => by
    rw [← hQ]
    exact ⟨a1, a2, ⟨v, rfl, (q_rng v).1, (q_rng v).2⟩, a3⟩
  have e1 : (Int64.ofNat 1).toInt = 1 := by decide
  have e240 : (Int64.ofInt 240).toInt = 240 := by decide
  have e0 := Int32.toInt_toInt64 n
  have z0 : (0 : Int32).toInt = 0 := rfl
  obtain ⟨pl, cs, sk, cl, ov, bh, hS, hsk, _⟩ := p_S_of hT
  refine w_eqS hS ?_
  have hq0 : ∀ v, Q (some (.int v)) (p_S S pl cs sk cl (S 99 5) (S 111) (S 113) ov bh (S 99 8) (S 112)) R := fun v => by
    rw [← hS]
    exact hq S v hT hO (v_Fr_rf _ _ _)
  refine w_st rfl (fun _ => rfl) ?_
  refine w_st rfl (fun _ => rfl) ?_
  refine w_st rfl (fun _ => rfl) ?_
  refine w_st rfl (fun _ => rfl) ?_
  show w_T L xs (0 + 9) m_X12_rules 6 [(0, .ref 100), (1, .int n)] [.long (Int64.ofInt 240), .long (Int64.ofNat 1), .long n.toInt64] (p_S S pl cs sk cl (S 99 5) (S 111) (S 113) ov bh (S 99 8) (S 112)) R Q
  refine w_cs rfl (by decide) mt_X12_lies (fun _ => rfl) (Nat.le_of_ble_eq_true rfl) (Nat.le_of_ble_eq_true rfl) ?_
  show w_T L xs _ m_X12_lies 0 (lv_args 0 [.long n.toInt64, .long (Int64.ofNat 1), .long (Int64.ofInt 240)]) [] (p_S S pl cs sk cl (S 99 5) (S 111) (S 113) ov bh (S 99 8) (S 112)) R _
  refine h_lies _ _ _ ?_
  rw [e1, e240, e0]
  by_cases hd : 1 ≤ n.toInt ∧ n.toInt ≤ 240
  · rw [if_pos hd]
    show w_T L xs (0 + 9) m_X12_rules 9 [(0, .ref 100), (1, .int n)] [.int (Int32.ofInt 1)] (p_S S pl cs sk cl (S 99 5) (S 111) (S 113) ov bh (S 99 8) (S 112)) R Q
    refine w_st rfl (fun _ => rfl) ?_
    refine w_st rfl (fun _ => rfl) ?_
    refine w_st rfl (fun _ => rfl) ?_
    show w_T L xs (0 + 9) m_X12_rules 14 [(0, .ref 100), (1, .int n)] [.ref 100, .int n] (p_S S pl cs sk cl (S 99 5) (S 111) (S 113) ov bh (S 99 8) (S 112)) R Q
    refine w_get rfl v_tyM rfl ?_
    show w_T L xs (0 + 9) m_X12_rules 17 [(0, .ref 100), (1, .int n)] [.int (S 99 1), .int n] (p_S S pl cs sk cl (S 99 5) (S 111) (S 113) ov bh (S 99 8) (S 112)) R Q
    refine w_br (P := n ≤ (S 99 1)) rfl (fun _ => rfl) (fun h17 => ?_) (fun h17 => ?_)
    · refine w_st rfl (fun _ => rfl) ?_
      refine w_st rfl (fun _ => rfl) ?_
      refine w_st rfl (fun _ => rfl) ?_
      show w_T L xs (0 + 9) m_X12_rules 25 [(0, .ref 100), (1, .int n)] [.int (Int32.ofInt 1), .int n, .ref 100] (p_S S pl cs sk cl (S 99 5) (S 111) (S 113) ov bh (S 99 8) (S 112)) R Q
      refine w_cv rfl (by decide) mt_X12_takesText v_tyM rfl rfl rfl (Nat.le_of_ble_eq_true rfl) (Nat.le_of_ble_eq_true rfl) (Nat.le_of_ble_eq_true rfl) ?_
      show w_T L xs _ m_X12_takesText 0 (lv_args 0 [.ref 100, .int n, .int (Int32.ofInt 1)]) [] (p_S S pl cs sk cl (S 99 5) (S 111) (S 113) ov bh (S 99 8) (S 112)) R _
      refine h_textR hd.1 hd.2 hT hsk (fun S3 pl1 cs1 sk1 cl1 nc1 sg1 na1 o1 v1 h1 f1 f2 f3 f4 f5 f6 f7 => ?_) (fun S3 pl1 cs1 sk1 cl1 b25 nc1 sg1 na1 o1 v1 h1 f1 f2 hb25 f4 f5 f6 f7 => ?_)
      · show w_T L xs (0 + 9) m_X12_rules 28 [(0, .ref 100), (1, .int n)] [.int (Int32.ofInt (cl1 : Int))] (p_S S3 pl1 cs1 sk1 cl1 (Int32.ofInt 0) nc1 sg1 v1 h1 o1 na1) R Q
        refine w_st rfl (fun _ => rfl) ?_
        refine w_st rfl (fun _ => rfl) ?_
        show w_T L xs (0 + 9) m_X12_rules 30 [(2, .int (Int32.ofInt (cl1 : Int))), (0, .ref 100), (1, .int n)] [.int (Int32.ofInt (cl1 : Int))] (p_S S3 pl1 cs1 sk1 cl1 (Int32.ofInt 0) nc1 sg1 v1 h1 o1 na1) R Q
        refine w_br (P := (Int32.ofInt (cl1 : Int)) < 0) rfl (fun _ => rfl) (fun h30 => ?_) (fun h30 => ?_)
        · exfalso; rw [q_lt32, z0, w_nat (by omega)] at h30; omega
        · refine w_st rfl (fun _ => rfl) ?_
          refine w_st rfl (fun _ => rfl) ?_
          show w_T L xs (0 + 9) m_X12_rules 35 [(2, .int (Int32.ofInt (cl1 : Int))), (0, .ref 100), (1, .int n)] [.int (Int32.ofInt (cl1 : Int)), .ref 100] (p_S S3 pl1 cs1 sk1 cl1 (Int32.ofInt 0) nc1 sg1 v1 h1 o1 na1) R Q
          refine w_put rfl v_tyM rfl rfl rfl ?_
          refine w_eqS (p_wo99 (by decide)) ?_
          refine w_st rfl (fun _ => rfl) ?_
          show w_T L xs (0 + 9) m_X12_rules 39 [(2, .int (Int32.ofInt (cl1 : Int))), (0, .ref 100), (1, .int n)] [.int (Int32.ofInt (cl1 : Int))] (p_S (v_ur S3 99 (upd (S3 99) 17 (Int32.ofInt (cl1 : Int)))) pl1 cs1 sk1 cl1 (Int32.ofInt 0) nc1 sg1 v1 h1 o1 na1) R Q
          refine w_ret rfl (by rfl) ?_
          refine hq _ _ (p_Tb (w_TbF f3 v_tyM rfl (by show (0 : Int) ≤ (Int32.ofInt (cl1 : Int)).toInt; rw [w_nat (by omega)]; omega) (by show (Int32.ofInt (cl1 : Int)).toInt ≤ (12 : Int); rw [w_nat (by omega)]; omega)) (by omega) (by omega) (by omega) (by omega)) (p_opR hT hO f7 f1 f2) (p_frR (fun a j x1 x2 x3 x4 => ?_))
          rw [w_urn (by omega)]
          exact f1 a j (by omega) (by omega) (by omega) (by omega)
      · show w_T L xs (0 + 9) m_X12_rules 28 [(0, .ref 100), (1, .int n)] [.int b25] (p_S S3 pl1 cs1 sk1 cl1 b25 nc1 sg1 v1 h1 o1 na1) R Q
        refine w_st rfl (fun _ => rfl) ?_
        refine w_st rfl (fun _ => rfl) ?_
        show w_T L xs (0 + 9) m_X12_rules 30 [(2, .int b25), (0, .ref 100), (1, .int n)] [.int b25] (p_S S3 pl1 cs1 sk1 cl1 b25 nc1 sg1 v1 h1 o1 na1) R Q
        refine w_br (P := b25 < 0) rfl (fun _ => rfl) (fun h30 => ?_) (fun h30 => ?_)
        · refine w_st rfl (fun _ => rfl) ?_
          show w_T L xs (0 + 9) m_X12_rules 39 [(2, .int b25), (0, .ref 100), (1, .int n)] [.int b25] (p_S S3 pl1 cs1 sk1 cl1 b25 nc1 sg1 v1 h1 o1 na1) R Q
          refine w_ret rfl (by rfl) ?_
          refine hq _ _ (p_Tb f2 (by omega) (by omega) (by omega) (by omega)) (v_fz_ok.1 S _ (fun a j hz => ?_) hO) (p_frR (fun a j x1 x2 x3 x4 => ?_))
          · have hz : v_md v_fz a j j = true := by
              unfold v_frz at hz
              rw [v_hit_jj] at hz
              exact hz
            obtain ⟨q, q1, q2, q3, q4⟩ := v_md_lt hz
            simp only [v_fz, List.mem_cons, List.not_mem_nil, or_false] at q1
            have hq1 : (a = 99 ∧ (j = 16 ∨ j = 17)) ∨ (102 ≤ a ∧ a ≤ 105) := by rcases q1 with rfl | rfl | rfl | rfl | rfl | rfl <;> (dsimp only at q2 q3 q4; omega)
            rw [p_S_at (by omega) (by omega), f1 a j (by omega), p_bgF (by omega)]
          · rw [f1 a j (by omega), p_bgF (by omega)]
        · exfalso; rw [q_lt32, z0] at h30; omega
    · refine w_st rfl (fun _ => rfl) ?_
      show w_T L xs (0 + 9) m_X12_rules 21 [(0, .ref 100), (1, .int n)] [.int (Int32.ofInt (-1))] (p_S S pl cs sk cl (S 99 5) (S 111) (S 113) ov bh (S 99 8) (S 112)) R Q
      refine w_ret rfl (by rfl) ?_
      exact hq0 _
  · rw [if_neg hd]
    show w_T L xs (0 + 9) m_X12_rules 9 [(0, .ref 100), (1, .int n)] [.int (Int32.ofInt 0)] (p_S S pl cs sk cl (S 99 5) (S 111) (S 113) ov bh (S 99 8) (S 112)) R Q
    refine w_st rfl (fun _ => rfl) ?_
    refine w_st rfl (fun _ => rfl) ?_
    show w_T L xs (0 + 9) m_X12_rules 21 [(0, .ref 100), (1, .int n)] [.int (Int32.ofInt (-1))] (p_S S pl cs sk cl (S 99 5) (S 111) (S 113) ov bh (S 99 8) (S 112)) R Q
    refine w_ret rfl (by rfl) ?_
    exact hq0 _
