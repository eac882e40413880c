section Prt37
/-! bitCount, laysLessons -/
noncomputable def v_bc (v : Int32) : Int32 := (((((((v - (((v.toUInt32 >>> ((Int32.ofInt 1).toUInt32 &&& Int32.toUInt32 31)).toInt32) &&& (Int32.ofInt 1431655765))) &&& (Int32.ofInt 858993459)) + ((((v - (((v.toUInt32 >>> ((Int32.ofInt 1).toUInt32 &&& Int32.toUInt32 31)).toInt32) &&& (Int32.ofInt 1431655765))).toUInt32 >>> ((Int32.ofInt 2).toUInt32 &&& Int32.toUInt32 31)).toInt32) &&& (Int32.ofInt 858993459))) + (((((v - (((v.toUInt32 >>> ((Int32.ofInt 1).toUInt32 &&& Int32.toUInt32 31)).toInt32) &&& (Int32.ofInt 1431655765))) &&& (Int32.ofInt 858993459)) + ((((v - (((v.toUInt32 >>> ((Int32.ofInt 1).toUInt32 &&& Int32.toUInt32 31)).toInt32) &&& (Int32.ofInt 1431655765))).toUInt32 >>> ((Int32.ofInt 2).toUInt32 &&& Int32.toUInt32 31)).toInt32) &&& (Int32.ofInt 858993459))).toUInt32 >>> ((Int32.ofInt 4).toUInt32 &&& Int32.toUInt32 31)).toInt32)) &&& (Int32.ofInt 252645135)) + (((((((v - (((v.toUInt32 >>> ((Int32.ofInt 1).toUInt32 &&& Int32.toUInt32 31)).toInt32) &&& (Int32.ofInt 1431655765))) &&& (Int32.ofInt 858993459)) + ((((v - (((v.toUInt32 >>> ((Int32.ofInt 1).toUInt32 &&& Int32.toUInt32 31)).toInt32) &&& (Int32.ofInt 1431655765))).toUInt32 >>> ((Int32.ofInt 2).toUInt32 &&& Int32.toUInt32 31)).toInt32) &&& (Int32.ofInt 858993459))) + (((((v - (((v.toUInt32 >>> ((Int32.ofInt 1).toUInt32 &&& Int32.toUInt32 31)).toInt32) &&& (Int32.ofInt 1431655765))) &&& (Int32.ofInt 858993459)) + ((((v - (((v.toUInt32 >>> ((Int32.ofInt 1).toUInt32 &&& Int32.toUInt32 31)).toInt32) &&& (Int32.ofInt 1431655765))).toUInt32 >>> ((Int32.ofInt 2).toUInt32 &&& Int32.toUInt32 31)).toInt32) &&& (Int32.ofInt 858993459))).toUInt32 >>> ((Int32.ofInt 4).toUInt32 &&& Int32.toUInt32 31)).toInt32)) &&& (Int32.ofInt 252645135)).toUInt32 >>> ((Int32.ofInt 8).toUInt32 &&& Int32.toUInt32 31)).toInt32)) + ((((((((v - (((v.toUInt32 >>> ((Int32.ofInt 1).toUInt32 &&& Int32.toUInt32 31)).toInt32) &&& (Int32.ofInt 1431655765))) &&& (Int32.ofInt 858993459)) + ((((v - (((v.toUInt32 >>> ((Int32.ofInt 1).toUInt32 &&& Int32.toUInt32 31)).toInt32) &&& (Int32.ofInt 1431655765))).toUInt32 >>> ((Int32.ofInt 2).toUInt32 &&& Int32.toUInt32 31)).toInt32) &&& (Int32.ofInt 858993459))) + (((((v - (((v.toUInt32 >>> ((Int32.ofInt 1).toUInt32 &&& Int32.toUInt32 31)).toInt32) &&& (Int32.ofInt 1431655765))) &&& (Int32.ofInt 858993459)) + ((((v - (((v.toUInt32 >>> ((Int32.ofInt 1).toUInt32 &&& Int32.toUInt32 31)).toInt32) &&& (Int32.ofInt 1431655765))).toUInt32 >>> ((Int32.ofInt 2).toUInt32 &&& Int32.toUInt32 31)).toInt32) &&& (Int32.ofInt 858993459))).toUInt32 >>> ((Int32.ofInt 4).toUInt32 &&& Int32.toUInt32 31)).toInt32)) &&& (Int32.ofInt 252645135)) + (((((((v - (((v.toUInt32 >>> ((Int32.ofInt 1).toUInt32 &&& Int32.toUInt32 31)).toInt32) &&& (Int32.ofInt 1431655765))) &&& (Int32.ofInt 858993459)) + ((((v - (((v.toUInt32 >>> ((Int32.ofInt 1).toUInt32 &&& Int32.toUInt32 31)).toInt32) &&& (Int32.ofInt 1431655765))).toUInt32 >>> ((Int32.ofInt 2).toUInt32 &&& Int32.toUInt32 31)).toInt32) &&& (Int32.ofInt 858993459))) + (((((v - (((v.toUInt32 >>> ((Int32.ofInt 1).toUInt32 &&& Int32.toUInt32 31)).toInt32) &&& (Int32.ofInt 1431655765))) &&& (Int32.ofInt 858993459)) + ((((v - (((v.toUInt32 >>> ((Int32.ofInt 1).toUInt32 &&& Int32.toUInt32 31)).toInt32) &&& (Int32.ofInt 1431655765))).toUInt32 >>> ((Int32.ofInt 2).toUInt32 &&& Int32.toUInt32 31)).toInt32) &&& (Int32.ofInt 858993459))).toUInt32 >>> ((Int32.ofInt 4).toUInt32 &&& Int32.toUInt32 31)).toInt32)) &&& (Int32.ofInt 252645135)).toUInt32 >>> ((Int32.ofInt 8).toUInt32 &&& Int32.toUInt32 31)).toInt32)).toUInt32 >>> ((Int32.ofInt 16).toUInt32 &&& Int32.toUInt32 31)).toInt32)) &&& (Int32.ofInt 63)
theorem v_bc_b : ∀ k : Fin 1024, (q_ile 0 (v_bc (Int32.ofInt ((k : Nat) : Int))).toInt && q_ile (v_bc (Int32.ofInt ((k : Nat) : Int))).toInt 10) = true := by decide +kernel
theorem h_bc {L : Nat} {xs : Nat → Int32} {d : Nat} {S : v_Sf} {R : v_Rf} {Q : Option Value → v_Sf → v_Rf → Prop} (v : Int32) (hq : Q (some (.int (v_bc v))) S R) : w_T L xs d m_J6_bitCount_0f7a4 0 (lv_args 0 [.int v]) [] S R Q := by
  refine w_st rfl (fun _ => rfl) ?_
  refine w_st rfl (fun _ => rfl) ?_
  refine w_st rfl (fun _ => rfl) ?_
  refine w_st rfl (fun _ => rfl) ?_
  refine w_st rfl (fun _ => rfl) ?_
  refine w_st rfl (fun _ => rfl) ?_
  refine w_st rfl (fun _ => rfl) ?_
  refine w_st rfl (fun _ => rfl) ?_
  refine w_st rfl (fun _ => rfl) ?_
  refine w_st rfl (fun _ => rfl) ?_
  refine w_st rfl (fun _ => rfl) ?_
  refine w_st rfl (fun _ => rfl) ?_
  refine w_st rfl (fun _ => rfl) ?_
  refine w_st rfl (fun _ => rfl) ?_
  refine w_st rfl (fun _ => rfl) ?_
  refine w_st rfl (fun _ => rfl) ?_
  refine w_st rfl (fun _ => rfl) ?_
  refine w_st rfl (fun _ => rfl) ?_
  refine w_st rfl (fun _ => rfl) ?_
  refine w_st rfl (fun _ => rfl) ?_
  refine w_st rfl (fun _ => rfl) ?_
  refine w_st rfl (fun _ => rfl) ?_
  refine w_st rfl (fun _ => rfl) ?_
  refine w_st rfl (fun _ => rfl) ?_
  refine w_st rfl (fun _ => rfl) ?_
  refine w_st rfl (fun _ => rfl) ?_
  refine w_st rfl (fun _ => rfl) ?_
  refine w_st rfl (fun _ => rfl) ?_
  refine w_st rfl (fun _ => rfl) ?_
  refine w_st rfl (fun _ => rfl) ?_
  refine w_st rfl (fun _ => rfl) ?_
  refine w_st rfl (fun _ => rfl) ?_
  refine w_st rfl (fun _ => rfl) ?_
  refine w_st rfl (fun _ => rfl) ?_
  refine w_st rfl (fun _ => rfl) ?_
  refine w_st rfl (fun _ => rfl) ?_
  refine w_st rfl (fun _ => rfl) ?_
  refine w_st rfl (fun _ => rfl) ?_
  refine w_st rfl (fun _ => rfl) ?_
  refine w_st rfl (fun _ => rfl) ?_
  refine w_st rfl (fun _ => rfl) ?_
  show w_T L xs d m_J6_bitCount_0f7a4 52 [(0, .int (((((((v - (((v.toUInt32 >>> ((Int32.ofInt 1).toUInt32 &&& Int32.toUInt32 31)).toInt32) &&& (Int32.ofInt 1431655765))) &&& (Int32.ofInt 858993459)) + ((((v - (((v.toUInt32 >>> ((Int32.ofInt 1).toUInt32 &&& Int32.toUInt32 31)).toInt32) &&& (Int32.ofInt 1431655765))).toUInt32 >>> ((Int32.ofInt 2).toUInt32 &&& Int32.toUInt32 31)).toInt32) &&& (Int32.ofInt 858993459))) + (((((v - (((v.toUInt32 >>> ((Int32.ofInt 1).toUInt32 &&& Int32.toUInt32 31)).toInt32) &&& (Int32.ofInt 1431655765))) &&& (Int32.ofInt 858993459)) + ((((v - (((v.toUInt32 >>> ((Int32.ofInt 1).toUInt32 &&& Int32.toUInt32 31)).toInt32) &&& (Int32.ofInt 1431655765))).toUInt32 >>> ((Int32.ofInt 2).toUInt32 &&& Int32.toUInt32 31)).toInt32) &&& (Int32.ofInt 858993459))).toUInt32 >>> ((Int32.ofInt 4).toUInt32 &&& Int32.toUInt32 31)).toInt32)) &&& (Int32.ofInt 252645135)) + (((((((v - (((v.toUInt32 >>> ((Int32.ofInt 1).toUInt32 &&& Int32.toUInt32 31)).toInt32) &&& (Int32.ofInt 1431655765))) &&& (Int32.ofInt 858993459)) + ((((v - (((v.toUInt32 >>> ((Int32.ofInt 1).toUInt32 &&& Int32.toUInt32 31)).toInt32) &&& (Int32.ofInt 1431655765))).toUInt32 >>> ((Int32.ofInt 2).toUInt32 &&& Int32.toUInt32 31)).toInt32) &&& (Int32.ofInt 858993459))) + (((((v - (((v.toUInt32 >>> ((Int32.ofInt 1).toUInt32 &&& Int32.toUInt32 31)).toInt32) &&& (Int32.ofInt 1431655765))) &&& (Int32.ofInt 858993459)) + ((((v - (((v.toUInt32 >>> ((Int32.ofInt 1).toUInt32 &&& Int32.toUInt32 31)).toInt32) &&& (Int32.ofInt 1431655765))).toUInt32 >>> ((Int32.ofInt 2).toUInt32 &&& Int32.toUInt32 31)).toInt32) &&& (Int32.ofInt 858993459))).toUInt32 >>> ((Int32.ofInt 4).toUInt32 &&& Int32.toUInt32 31)).toInt32)) &&& (Int32.ofInt 252645135)).toUInt32 >>> ((Int32.ofInt 8).toUInt32 &&& Int32.toUInt32 31)).toInt32)) + ((((((((v - (((v.toUInt32 >>> ((Int32.ofInt 1).toUInt32 &&& Int32.toUInt32 31)).toInt32) &&& (Int32.ofInt 1431655765))) &&& (Int32.ofInt 858993459)) + ((((v - (((v.toUInt32 >>> ((Int32.ofInt 1).toUInt32 &&& Int32.toUInt32 31)).toInt32) &&& (Int32.ofInt 1431655765))).toUInt32 >>> ((Int32.ofInt 2).toUInt32 &&& Int32.toUInt32 31)).toInt32) &&& (Int32.ofInt 858993459))) + (((((v - (((v.toUInt32 >>> ((Int32.ofInt 1).toUInt32 &&& Int32.toUInt32 31)).toInt32) &&& (Int32.ofInt 1431655765))) &&& (Int32.ofInt 858993459)) + ((((v - (((v.toUInt32 >>> ((Int32.ofInt 1).toUInt32 &&& Int32.toUInt32 31)).toInt32) &&& (Int32.ofInt 1431655765))).toUInt32 >>> ((Int32.ofInt 2).toUInt32 &&& Int32.toUInt32 31)).toInt32) &&& (Int32.ofInt 858993459))).toUInt32 >>> ((Int32.ofInt 4).toUInt32 &&& Int32.toUInt32 31)).toInt32)) &&& (Int32.ofInt 252645135)) + (((((((v - (((v.toUInt32 >>> ((Int32.ofInt 1).toUInt32 &&& Int32.toUInt32 31)).toInt32) &&& (Int32.ofInt 1431655765))) &&& (Int32.ofInt 858993459)) + ((((v - (((v.toUInt32 >>> ((Int32.ofInt 1).toUInt32 &&& Int32.toUInt32 31)).toInt32) &&& (Int32.ofInt 1431655765))).toUInt32 >>> ((Int32.ofInt 2).toUInt32 &&& Int32.toUInt32 31)).toInt32) &&& (Int32.ofInt 858993459))) + (((((v - (((v.toUInt32 >>> ((Int32.ofInt 1).toUInt32 &&& Int32.toUInt32 31)).toInt32) &&& (Int32.ofInt 1431655765))) &&& (Int32.ofInt 858993459)) + ((((v - (((v.toUInt32 >>> ((Int32.ofInt 1).toUInt32 &&& Int32.toUInt32 31)).toInt32) &&& (Int32.ofInt 1431655765))).toUInt32 >>> ((Int32.ofInt 2).toUInt32 &&& Int32.toUInt32 31)).toInt32) &&& (Int32.ofInt 858993459))).toUInt32 >>> ((Int32.ofInt 4).toUInt32 &&& Int32.toUInt32 31)).toInt32)) &&& (Int32.ofInt 252645135)).toUInt32 >>> ((Int32.ofInt 8).toUInt32 &&& Int32.toUInt32 31)).toInt32)).toUInt32 >>> ((Int32.ofInt 16).toUInt32 &&& Int32.toUInt32 31)).toInt32)))] [.int ((((((((v - (((v.toUInt32 >>> ((Int32.ofInt 1).toUInt32 &&& Int32.toUInt32 31)).toInt32) &&& (Int32.ofInt 1431655765))) &&& (Int32.ofInt 858993459)) + ((((v - (((v.toUInt32 >>> ((Int32.ofInt 1).toUInt32 &&& Int32.toUInt32 31)).toInt32) &&& (Int32.ofInt 1431655765))).toUInt32 >>> ((Int32.ofInt 2).toUInt32 &&& Int32.toUInt32 31)).toInt32) &&& (Int32.ofInt 858993459))) + (((((v - (((v.toUInt32 >>> ((Int32.ofInt 1).toUInt32 &&& Int32.toUInt32 31)).toInt32) &&& (Int32.ofInt 1431655765))) &&& (Int32.ofInt 858993459)) + ((((v - (((v.toUInt32 >>> ((Int32.ofInt 1).toUInt32 &&& Int32.toUInt32 31)).toInt32) &&& (Int32.ofInt 1431655765))).toUInt32 >>> ((Int32.ofInt 2).toUInt32 &&& Int32.toUInt32 31)).toInt32) &&& (Int32.ofInt 858993459))).toUInt32 >>> ((Int32.ofInt 4).toUInt32 &&& Int32.toUInt32 31)).toInt32)) &&& (Int32.ofInt 252645135)) + (((((((v - (((v.toUInt32 >>> ((Int32.ofInt 1).toUInt32 &&& Int32.toUInt32 31)).toInt32) &&& (Int32.ofInt 1431655765))) &&& (Int32.ofInt 858993459)) + ((((v - (((v.toUInt32 >>> ((Int32.ofInt 1).toUInt32 &&& Int32.toUInt32 31)).toInt32) &&& (Int32.ofInt 1431655765))).toUInt32 >>> ((Int32.ofInt 2).toUInt32 &&& Int32.toUInt32 31)).toInt32) &&& (Int32.ofInt 858993459))) + (((((v - (((v.toUInt32 >>> ((Int32.ofInt 1).toUInt32 &&& Int32.toUInt32 31)).toInt32) &&& (Int32.ofInt 1431655765))) &&& (Int32.ofInt 858993459)) + ((((v - (((v.toUInt32 >>> ((Int32.ofInt 1).toUInt32 &&& Int32.toUInt32 31)).toInt32) &&& (Int32.ofInt 1431655765))).toUInt32 >>> ((Int32.ofInt 2).toUInt32 &&& Int32.toUInt32 31)).toInt32) &&& (Int32.ofInt 858993459))).toUInt32 >>> ((Int32.ofInt 4).toUInt32 &&& Int32.toUInt32 31)).toInt32)) &&& (Int32.ofInt 252645135)).toUInt32 >>> ((Int32.ofInt 8).toUInt32 &&& Int32.toUInt32 31)).toInt32)) + ((((((((v - (((v.toUInt32 >>> ((Int32.ofInt 1).toUInt32 &&& Int32.toUInt32 31)).toInt32) &&& (Int32.ofInt 1431655765))) &&& (Int32.ofInt 858993459)) + ((((v - (((v.toUInt32 >>> ((Int32.ofInt 1).toUInt32 &&& Int32.toUInt32 31)).toInt32) &&& (Int32.ofInt 1431655765))).toUInt32 >>> ((Int32.ofInt 2).toUInt32 &&& Int32.toUInt32 31)).toInt32) &&& (Int32.ofInt 858993459))) + (((((v - (((v.toUInt32 >>> ((Int32.ofInt 1).toUInt32 &&& Int32.toUInt32 31)).toInt32) &&& (Int32.ofInt 1431655765))) &&& (Int32.ofInt 858993459)) + ((((v - (((v.toUInt32 >>> ((Int32.ofInt 1).toUInt32 &&& Int32.toUInt32 31)).toInt32) &&& (Int32.ofInt 1431655765))).toUInt32 >>> ((Int32.ofInt 2).toUInt32 &&& Int32.toUInt32 31)).toInt32) &&& (Int32.ofInt 858993459))).toUInt32 >>> ((Int32.ofInt 4).toUInt32 &&& Int32.toUInt32 31)).toInt32)) &&& (Int32.ofInt 252645135)) + (((((((v - (((v.toUInt32 >>> ((Int32.ofInt 1).toUInt32 &&& Int32.toUInt32 31)).toInt32) &&& (Int32.ofInt 1431655765))) &&& (Int32.ofInt 858993459)) + ((((v - (((v.toUInt32 >>> ((Int32.ofInt 1).toUInt32 &&& Int32.toUInt32 31)).toInt32) &&& (Int32.ofInt 1431655765))).toUInt32 >>> ((Int32.ofInt 2).toUInt32 &&& Int32.toUInt32 31)).toInt32) &&& (Int32.ofInt 858993459))) + (((((v - (((v.toUInt32 >>> ((Int32.ofInt 1).toUInt32 &&& Int32.toUInt32 31)).toInt32) &&& (Int32.ofInt 1431655765))) &&& (Int32.ofInt 858993459)) + ((((v - (((v.toUInt32 >>> ((Int32.ofInt 1).toUInt32 &&& Int32.toUInt32 31)).toInt32) &&& (Int32.ofInt 1431655765))).toUInt32 >>> ((Int32.ofInt 2).toUInt32 &&& Int32.toUInt32 31)).toInt32) &&& (Int32.ofInt 858993459))).toUInt32 >>> ((Int32.ofInt 4).toUInt32 &&& Int32.toUInt32 31)).toInt32)) &&& (Int32.ofInt 252645135)).toUInt32 >>> ((Int32.ofInt 8).toUInt32 &&& Int32.toUInt32 31)).toInt32)).toUInt32 >>> ((Int32.ofInt 16).toUInt32 &&& Int32.toUInt32 31)).toInt32)) &&& (Int32.ofInt 63))] S R Q
  refine w_ret rfl rfl ?_
  exact hq
theorem hr_J6_bitCount_0f7a4 {L : Nat} {xs : Nat → Int32} (ih : ∀ x, ∀ w ∈ v_rw x, w.1 < rw_276.1 → v_Met L xs v_ty v_Op x w) : v_Met L xs v_ty v_Op 299 rw_276 := by
  intro M hM ac S R ha hT hO
  rw [mt_J6_bitCount_0f7a4] at hM
  cases hM
  match ac, ha with
  | [w], ⟨⟨u, hu, b1, b2⟩, _⟩ =>
    subst hu
    have b1 : 0 ≤ u.toInt := b1
    have b2 : u.toInt ≤ 1023 := b2
    have h := v_bc_b ⟨u.toInt.toNat, by omega⟩
    have e : Int32.ofInt ((u.toInt.toNat : Nat) : Int) = u := by rw [show ((u.toInt.toNat : Nat) : Int) = u.toInt by omega, q_of]
    dsimp only at h
    rw [e, Bool.and_eq_true, q_ile_ok, q_ile_ok] at h
    exact h_bc u ⟨hT, hO, ⟨_, rfl, h.1, h.2⟩, v_Fr_rf _ _ _⟩
noncomputable abbrev m_X12_laysLessons : g_M := (g_cn 12, yX12_laysLessons, cX12_laysLessons, 7, (some .boolean), g_look2 ttX12_laysLessons)
set_option maxRecDepth 20000 in
theorem mt_X12_laysLessons : g_mt 270 = some m_X12_laysLessons := rfl
section LL
variable {L : Nat} {xs : Nat → Int32} {d : Nat} {Q : Option Value → v_Sf → v_Rf → Prop}
theorem w_orb {x y : Int32} (h1 : 0 ≤ x.toInt) (h2 : x.toInt ≤ 1023) (h3 : 0 ≤ y.toInt) (h4 : y.toInt ≤ 1023) : x.toInt ≤ (x ||| y).toInt ∧ (x ||| y).toInt ≤ 1023 := by
  have h := v_or_ok (x := x) (y := y) (p := (x.toInt, 1023)) (q := (0, 1023)) ⟨Int.le_refl _, h2⟩ ⟨h3, h4⟩ h1 (Int.le_refl _)
  have e : v_cap 1023 1023 = 1023 := by decide
  have m1 := v_mx_l x.toInt 0
  dsimp only at h
  rw [e] at h
  omega
theorem w_andl {x y : Int32} (h1 : 0 ≤ x.toInt) : 0 ≤ (x &&& y).toInt ∧ (x &&& y).toInt ≤ x.toInt := by
  rw [q_and_comm]
  exact q_and_iv h1
theorem h_ll1 (S : v_Sf) (R : v_Rf) (g hb was more : Int32) (g1 : 0 ≤ g.toInt) (g2 : g.toInt ≤ 11) (hT : v_Tb v_ty S R) : ∀ (m h : Nat) (due : Int32), h + m = 10 → 0 ≤ due.toInt → due.toInt ≤ 1023 → was.toInt ≤ due.toInt → (∀ due' : Int32, 0 ≤ due'.toInt → due'.toInt ≤ 1023 → was.toInt ≤ due'.toInt → w_T L xs (d + 3) m_X12_laysLessons 66 [(6, .int (Int32.ofInt 10)), (3, .int (due')), (5, .int was), (4, .int more), (0, .ref 100), (1, .int g), (2, .int hb)] [] S R Q) → w_T L xs (d + 3) m_X12_laysLessons 25 [(6, .int (Int32.ofInt (h : Int))), (3, .int due), (5, .int was), (4, .int more), (0, .ref 100), (1, .int g), (2, .int hb)] [] S R Q := by
  have hN : v_TbC S R 132 _ := hT 132 _ rfl
  have e10 : (Int32.ofInt 10).toInt = 10 := by decide
  intro m
  induction m with
  | zero =>
    intro h due hm d1 d2 d3 k
    have eh := w_nat (k := h) (by omega)
    obtain rfl : h = 10 := by omega
    refine w_st rfl (fun _ => rfl) ?_
    refine w_st rfl (fun _ => rfl) ?_
    show w_T L xs (d + 3) m_X12_laysLessons 29 [(6, .int (Int32.ofInt ((10 : Nat) : Int))), (3, .int due), (5, .int was), (4, .int more), (0, .ref 100), (1, .int g), (2, .int hb)] [.int (Int32.ofInt 10), .int (Int32.ofInt ((10 : Nat) : Int))] S R Q
    refine w_st rfl (fun _ => rfl) ?_
    show w_T L xs (d + 3) m_X12_laysLessons 66 [(6, .int (Int32.ofInt ((10 : Nat) : Int))), (3, .int due), (5, .int was), (4, .int more), (0, .ref 100), (1, .int g), (2, .int hb)] [] S R Q
    exact k due d1 d2 d3
  | succ m ih =>
    intro h due hm d1 d2 d3 k
    have eh := w_nat (k := h) (by omega)
    have ehn : (Int32.ofInt (h : Int)).toInt.toNat = h := by rw [eh]; omega
    have hn := hN h (by omega)
    refine w_st rfl (fun _ => rfl) ?_
    refine w_st rfl (fun _ => rfl) ?_
    show w_T L xs (d + 3) m_X12_laysLessons 29 [(6, .int (Int32.ofInt (h : Int))), (3, .int due), (5, .int was), (4, .int more), (0, .ref 100), (1, .int g), (2, .int hb)] [.int (Int32.ofInt 10), .int (Int32.ofInt (h : Int))] S R Q
    refine w_br (P := (Int32.ofInt 10) ≤ (Int32.ofInt (h : Int))) rfl (fun _ => rfl) (fun h29 => ?_) (fun h29 => ?_)
    · exfalso; rw [q_le32, e10, eh] at h29; omega
    · refine w_st rfl (fun _ => rfl) ?_
      refine w_st rfl (fun _ => rfl) ?_
      show w_T L xs (d + 3) m_X12_laysLessons 35 [(6, .int (Int32.ofInt (h : Int))), (3, .int due), (5, .int was), (4, .int more), (0, .ref 100), (1, .int g), (2, .int hb)] [.int (Int32.ofInt (h : Int)), .int due] S R Q
      refine w_cs rfl (by decide) mt_X12_has (fun _ => rfl) (Nat.le_of_ble_eq_true rfl) (Nat.le_of_ble_eq_true rfl) ?_
      show w_T L xs _ m_X12_has 0 (lv_args 0 [.int due, .int (Int32.ofInt (h : Int))]) [] S R _
      refine h_has _ _ ?_
      show w_T L xs (d + 3) m_X12_laysLessons 38 [(6, .int (Int32.ofInt (h : Int))), (3, .int due), (5, .int was), (4, .int more), (0, .ref 100), (1, .int g), (2, .int hb)] [.int (if (due >>> ((Int32.ofInt (h : Int)) &&& 31)) &&& 1 = 1 then (1 : Int32) else 0)] S R Q
      refine w_br (P := (if (due >>> ((Int32.ofInt (h : Int)) &&& 31)) &&& 1 = 1 then (1 : Int32) else 0) = 0) rfl (fun _ => rfl) (fun h38 => ?_) (fun h38 => ?_)
      · refine w_st rfl (fun _ => rfl) ?_
        refine w_st rfl (fun _ => rfl) ?_
        show w_T L xs (d + 3) m_X12_laysLessons 25 [(6, .int ((Int32.ofInt (h : Int)) + Int32.ofInt 1)), (3, .int due), (5, .int was), (4, .int more), (0, .ref 100), (1, .int g), (2, .int hb)] [] S R Q
        rw [w_inc]
        exact ih (h + 1) due (by omega) d1 d2 d3 k
      · refine w_st rfl (fun _ => rfl) ?_
        refine w_st rfl (fun _ => rfl) ?_
        show w_T L xs (d + 3) m_X12_laysLessons 43 [(6, .int (Int32.ofInt (h : Int))), (3, .int due), (5, .int was), (4, .int more), (0, .ref 100), (1, .int g), (2, .int hb)] [.ref 100, .int due] S R Q
        refine w_getr rfl v_tyM rfl ?_
        refine w_st rfl (fun _ => rfl) ?_
        show w_T L xs (d + 3) m_X12_laysLessons 48 [(6, .int (Int32.ofInt (h : Int))), (3, .int due), (5, .int was), (4, .int more), (0, .ref 100), (1, .int g), (2, .int hb)] [.int (Int32.ofInt (h : Int)), .ref 133, .int due] S R Q
        refine w_iald rfl rfl (by rw [eh]; omega) (by rw [eh]; omega) ?_
        rw [ehn]
        refine w_st rfl (fun _ => rfl) ?_
        show w_T L xs (d + 3) m_X12_laysLessons 50 [(6, .int (Int32.ofInt (h : Int))), (3, .int due), (5, .int was), (4, .int more), (0, .ref 100), (1, .int g), (2, .int hb)] [.ref 100, .int (S 132 h), .int due] S R Q
        refine w_getr rfl v_tyM rfl ?_
        refine w_st rfl (fun _ => rfl) ?_
        show w_T L xs (d + 3) m_X12_laysLessons 54 [(6, .int (Int32.ofInt (h : Int))), (3, .int due), (5, .int was), (4, .int more), (0, .ref 100), (1, .int g), (2, .int hb)] [.int g, .ref 123, .int (S 132 h), .int due] S R Q
        refine w_iald rfl rfl (by omega) (by omega) ?_
        refine w_st rfl (fun _ => rfl) ?_
        refine w_st rfl (fun _ => rfl) ?_
        refine w_st rfl (fun _ => rfl) ?_
        refine w_st rfl (fun _ => rfl) ?_
        refine w_st rfl (fun _ => rfl) ?_
        refine w_st rfl (fun _ => rfl) ?_
        refine w_st rfl (fun _ => rfl) ?_
        show w_T L xs (d + 3) m_X12_laysLessons 25 [(6, .int ((Int32.ofInt (h : Int)) + Int32.ofInt 1)), (3, .int (due ||| ((S 132 h) &&& ((S 122 g.toInt.toNat) ^^^ (Int32.ofInt (-1)))))), (5, .int was), (4, .int more), (0, .ref 100), (1, .int g), (2, .int hb)] [] S R Q
        rw [w_inc]
        have hx := w_andl (x := S 132 h) (y := S 122 g.toInt.toNat ^^^ Int32.ofInt (-1)) hn.1
        have ho := w_orb d1 d2 hx.1 (by have := hn.2; omega)
        exact ih (h + 1) _ (by omega) (by omega) ho.2 (by omega) k
theorem h_ll2 (S : v_Sf) (R : v_Rf) (g hb : Int32) (g1 : 0 ≤ g.toInt) (g2 : g.toInt ≤ 11) (hT : v_Tb v_ty S R) : ∀ (m : Nat) (due more a b : Int32), (more = Int32.ofInt 0 ∧ 2 * (1023 - due.toInt).toNat < m ∨ more = Int32.ofInt 1 ∧ 2 * (1023 - due.toInt).toNat + 1 < m) → 0 ≤ due.toInt → due.toInt ≤ 1023 → (∀ due' a' b' : Int32, 0 ≤ due'.toInt → due'.toInt ≤ 1023 → w_T L xs (d + 3) m_X12_laysLessons 82 [(4, .int (Int32.ofInt 0)), (3, .int (due')), (5, .int (a')), (6, .int (b')), (0, .ref 100), (1, .int g), (2, .int hb)] [] S R Q) → w_T L xs (d + 3) m_X12_laysLessons 14 [(4, .int more), (3, .int due), (5, .int a), (6, .int b), (0, .ref 100), (1, .int g), (2, .int hb)] [] S R Q := by
  intro m
  induction m with
  | zero =>
    intro due more a b hm
    omega
  | succ m ih =>
    intro due more a b hm d1 d2 k
    rcases hm with ⟨rfl, hm⟩ | ⟨rfl, hm⟩
    · refine w_st rfl (fun _ => rfl) ?_
      show w_T L xs (d + 3) m_X12_laysLessons 16 [(4, .int (Int32.ofInt 0)), (3, .int due), (5, .int a), (6, .int b), (0, .ref 100), (1, .int g), (2, .int hb)] [.int (Int32.ofInt 0)] S R Q
      refine w_st rfl (fun _ => rfl) ?_
      show w_T L xs (d + 3) m_X12_laysLessons 82 [(4, .int (Int32.ofInt 0)), (3, .int due), (5, .int a), (6, .int b), (0, .ref 100), (1, .int g), (2, .int hb)] [] S R Q
      exact k due a b d1 d2
    · refine w_st rfl (fun _ => rfl) ?_
      show w_T L xs (d + 3) m_X12_laysLessons 16 [(4, .int (Int32.ofInt 1)), (3, .int due), (5, .int a), (6, .int b), (0, .ref 100), (1, .int g), (2, .int hb)] [.int (Int32.ofInt 1)] S R Q
      refine w_st rfl (fun _ => rfl) ?_
      refine w_st rfl (fun _ => rfl) ?_
      refine w_st rfl (fun _ => rfl) ?_
      refine w_st rfl (fun _ => rfl) ?_
      refine w_st rfl (fun _ => rfl) ?_
      show w_T L xs (d + 3) m_X12_laysLessons 25 [(6, .int (Int32.ofInt 0)), (5, .int due), (4, .int (Int32.ofInt 1)), (3, .int due), (0, .ref 100), (1, .int g), (2, .int hb)] [] S R Q
      refine w_lc (b := [(6, .int (Int32.ofInt 0)), (3, .int due), (5, .int due), (4, .int (Int32.ofInt 1)), (0, .ref 100), (1, .int g), (2, .int hb)]) (show ([6, 5, 4, 3, 0, 1, 2] : List Nat).Nodup by decide) (show ([6, 3, 5, 4, 0, 1, 2] : List Nat).Nodup by decide) (fun i => match i with | 0 => rfl | 1 => rfl | 2 => rfl | 3 => rfl | 4 => rfl | 5 => rfl | 6 => rfl | _ + 7 => rfl) ?_
      refine h_ll1 S R g hb _ _ g1 g2 hT 10 0 _ rfl d1 d2 (Int.le_refl _) (fun due' k1 k2 k3 => ?_)
      refine w_st rfl (fun _ => rfl) ?_
      refine w_st rfl (fun _ => rfl) ?_
      show w_T L xs (d + 3) m_X12_laysLessons 69 [(6, .int (Int32.ofInt 10)), (3, .int (due')), (5, .int due), (4, .int (Int32.ofInt 1)), (0, .ref 100), (1, .int g), (2, .int hb)] [.int due, .int (due')] S R Q
      refine w_br (P := (due') = due) rfl (fun _ => rfl) (fun h69 => ?_) (fun h69 => ?_)
      · refine w_st rfl (fun _ => rfl) ?_
        refine w_st rfl (fun _ => rfl) ?_
        refine w_st rfl (fun _ => rfl) ?_
        show w_T L xs (d + 3) m_X12_laysLessons 14 [(4, .int (Int32.ofInt 0)), (6, .int (Int32.ofInt 10)), (3, .int (due')), (5, .int due), (0, .ref 100), (1, .int g), (2, .int hb)] [] S R Q
        refine w_lc (b := [(4, .int (Int32.ofInt 0)), (3, .int (due')), (5, .int due), (6, .int (Int32.ofInt 10)), (0, .ref 100), (1, .int g), (2, .int hb)]) (show ([4, 6, 3, 5, 0, 1, 2] : List Nat).Nodup by decide) (show ([4, 3, 5, 6, 0, 1, 2] : List Nat).Nodup by decide) (fun i => match i with | 0 => rfl | 1 => rfl | 2 => rfl | 3 => rfl | 4 => rfl | 5 => rfl | 6 => rfl | _ + 7 => rfl) ?_
        exact ih due' _ _ _ (Or.inl ⟨rfl, by omega⟩) k1 k2 k
      · refine w_st rfl (fun _ => rfl) ?_
        refine w_st rfl (fun _ => rfl) ?_
        refine w_st rfl (fun _ => rfl) ?_
        refine w_st rfl (fun _ => rfl) ?_
        show w_T L xs (d + 3) m_X12_laysLessons 14 [(4, .int (Int32.ofInt 1)), (6, .int (Int32.ofInt 10)), (3, .int (due')), (5, .int due), (0, .ref 100), (1, .int g), (2, .int hb)] [] S R Q
        refine w_lc (b := [(4, .int (Int32.ofInt 1)), (3, .int (due')), (5, .int due), (6, .int (Int32.ofInt 10)), (0, .ref 100), (1, .int g), (2, .int hb)]) (show ([4, 6, 3, 5, 0, 1, 2] : List Nat).Nodup by decide) (show ([4, 3, 5, 6, 0, 1, 2] : List Nat).Nodup by decide) (fun i => match i with | 0 => rfl | 1 => rfl | 2 => rfl | 3 => rfl | 4 => rfl | 5 => rfl | 6 => rfl | _ + 7 => rfl) ?_
        have hne : ¬ due'.toInt = due.toInt := fun e => h69 (q_inj e)
        exact ih due' _ _ _ (Or.inr ⟨rfl, by omega⟩) k1 k2 k
theorem h_ll3 (S : v_Sf) (R : v_Rf) (g hb had due mo : Int32) (hT : v_Tb v_ty S R) (k : ∀ q : Nat, q ≤ 10 → (q < 10 → (due >>> (Int32.ofInt (q : Int) &&& 31)) &&& 1 = 1) → w_T L xs (d + 3) m_X12_laysLessons 139 [(6, .int (Int32.ofInt (q : Int))), (5, .int had), (3, .int due), (4, .int mo), (0, .ref 100), (1, .int g), (2, .int hb)] [] S R Q) : ∀ (m h : Nat), h + m = 10 → w_T L xs (d + 3) m_X12_laysLessons 102 [(6, .int (Int32.ofInt (h : Int))), (5, .int had), (3, .int due), (4, .int mo), (0, .ref 100), (1, .int g), (2, .int hb)] [] S R Q := by
  have e10 : (Int32.ofInt 10).toInt = 10 := by decide
  intro m
  induction m with
  | zero =>
    intro h hm
    obtain rfl : h = 10 := by omega
    refine w_st rfl (fun _ => rfl) ?_
    refine w_st rfl (fun _ => rfl) ?_
    show w_T L xs (d + 3) m_X12_laysLessons 106 [(6, .int (Int32.ofInt ((10 : Nat) : Int))), (5, .int had), (3, .int due), (4, .int mo), (0, .ref 100), (1, .int g), (2, .int hb)] [.int (Int32.ofInt 10), .int (Int32.ofInt ((10 : Nat) : Int))] S R Q
    refine w_st rfl (fun _ => rfl) ?_
    show w_T L xs (d + 3) m_X12_laysLessons 139 [(6, .int (Int32.ofInt ((10 : Nat) : Int))), (5, .int had), (3, .int due), (4, .int mo), (0, .ref 100), (1, .int g), (2, .int hb)] [] S R Q
    exact k 10 (Nat.le_refl _) (fun h => by omega)
  | succ m ih =>
    intro h hm
    have eh := w_nat (k := h) (by omega)
    have ehn : (Int32.ofInt (h : Int)).toInt.toNat = h := by rw [eh]; omega
    refine w_st rfl (fun _ => rfl) ?_
    refine w_st rfl (fun _ => rfl) ?_
    show w_T L xs (d + 3) m_X12_laysLessons 106 [(6, .int (Int32.ofInt (h : Int))), (5, .int had), (3, .int due), (4, .int mo), (0, .ref 100), (1, .int g), (2, .int hb)] [.int (Int32.ofInt 10), .int (Int32.ofInt (h : Int))] S R Q
    refine w_br (P := (Int32.ofInt 10) ≤ (Int32.ofInt (h : Int))) rfl (fun _ => rfl) (fun h106 => ?_) (fun h106 => ?_)
    · exfalso; rw [q_le32, e10, eh] at h106; omega
    · refine w_st rfl (fun _ => rfl) ?_
      refine w_st rfl (fun _ => rfl) ?_
      show w_T L xs (d + 3) m_X12_laysLessons 112 [(6, .int (Int32.ofInt (h : Int))), (5, .int had), (3, .int due), (4, .int mo), (0, .ref 100), (1, .int g), (2, .int hb)] [.int (Int32.ofInt (h : Int)), .int due] S R Q
      refine w_cs rfl (by decide) mt_X12_has (fun _ => rfl) (Nat.le_of_ble_eq_true rfl) (Nat.le_of_ble_eq_true rfl) ?_
      show w_T L xs _ m_X12_has 0 (lv_args 0 [.int due, .int (Int32.ofInt (h : Int))]) [] S R _
      refine h_has _ _ ?_
      show w_T L xs (d + 3) m_X12_laysLessons 115 [(6, .int (Int32.ofInt (h : Int))), (5, .int had), (3, .int due), (4, .int mo), (0, .ref 100), (1, .int g), (2, .int hb)] [.int (if (due >>> ((Int32.ofInt (h : Int)) &&& 31)) &&& 1 = 1 then (1 : Int32) else 0)] S R Q
      refine w_br (P := (if (due >>> ((Int32.ofInt (h : Int)) &&& 31)) &&& 1 = 1 then (1 : Int32) else 0) = 0) rfl (fun _ => rfl) (fun h115 => ?_) (fun h115 => ?_)
      · refine w_st rfl (fun _ => rfl) ?_
        refine w_st rfl (fun _ => rfl) ?_
        show w_T L xs (d + 3) m_X12_laysLessons 102 [(6, .int ((Int32.ofInt (h : Int)) + Int32.ofInt 1)), (5, .int had), (3, .int due), (4, .int mo), (0, .ref 100), (1, .int g), (2, .int hb)] [] S R Q
        rw [w_inc]
        exact ih (h + 1) (by omega)
      · have hbit : (due >>> (Int32.ofInt (h : Int) &&& 31)) &&& 1 = 1 := Decidable.byContradiction (fun hn => h115 (by rw [if_neg hn]))
        refine w_st rfl (fun _ => rfl) ?_
        show w_T L xs (d + 3) m_X12_laysLessons 119 [(6, .int (Int32.ofInt (h : Int))), (5, .int had), (3, .int due), (4, .int mo), (0, .ref 100), (1, .int g), (2, .int hb)] [.ref 100] S R Q
        refine w_getr rfl v_tyM rfl ?_
        refine w_st rfl (fun _ => rfl) ?_
        show w_T L xs (d + 3) m_X12_laysLessons 124 [(6, .int (Int32.ofInt (h : Int))), (5, .int had), (3, .int due), (4, .int mo), (0, .ref 100), (1, .int g), (2, .int hb)] [.int (Int32.ofInt (h : Int)), .ref 133] S R Q
        refine w_iald rfl rfl (by rw [eh]; omega) (by rw [eh]; omega) ?_
        refine w_st rfl (fun _ => rfl) ?_
        refine w_st rfl (fun _ => rfl) ?_
        refine w_st rfl (fun _ => rfl) ?_
        refine w_st rfl (fun _ => rfl) ?_
        show w_T L xs (d + 3) m_X12_laysLessons 130 [(6, .int (Int32.ofInt (h : Int))), (5, .int had), (3, .int due), (4, .int mo), (0, .ref 100), (1, .int g), (2, .int hb)] [.int ((S 132 (Int32.ofInt (h : Int)).toInt.toNat) &&& (had ^^^ (Int32.ofInt (-1))))] S R Q
        refine w_br (P := ((S 132 (Int32.ofInt (h : Int)).toInt.toNat) &&& (had ^^^ (Int32.ofInt (-1)))) = 0) rfl (fun _ => rfl) (fun h130 => ?_) (fun h130 => ?_)
        · exact k h (by omega) (fun _ => hbit)
        · refine w_st rfl (fun _ => rfl) ?_
          refine w_st rfl (fun _ => rfl) ?_
          show w_T L xs (d + 3) m_X12_laysLessons 102 [(6, .int ((Int32.ofInt (h : Int)) + Int32.ofInt 1)), (5, .int had), (3, .int due), (4, .int mo), (0, .ref 100), (1, .int g), (2, .int hb)] [] S R Q
          rw [w_inc]
          exact ih (h + 1) (by omega)
noncomputable def v_clr (k h : Nat) : Bool := bif decide ((Int32.ofInt (k : Int) >>> (Int32.ofInt (h : Int) &&& 31)) &&& 1 = 1) then (q_ile 0 (Int32.ofInt (k : Int) &&& ((Int32.ofInt 1 <<< (Int32.ofInt (h : Int) &&& 31)) ^^^ Int32.ofInt (-1))).toInt && q_ile (Int32.ofInt (k : Int) &&& ((Int32.ofInt 1 <<< (Int32.ofInt (h : Int) &&& 31)) ^^^ Int32.ofInt (-1))).toInt 1023) && Nat.beq (v_popN 10 (Int32.ofInt (k : Int) &&& ((Int32.ofInt 1 <<< (Int32.ofInt (h : Int) &&& 31)) ^^^ Int32.ofInt (-1))).toInt.toNat + 1) (v_popN 10 k) else true
set_option maxRecDepth 100000 in
theorem v_clr_ok : ((List.range 1024).all (fun k => (List.range 10).all (fun h => v_clr k h))) = true := by decide +kernel
theorem w_clr {due : Int32} {h : Nat} (d1 : 0 ≤ due.toInt) (d2 : due.toInt ≤ 1023) (hh : h < 10) (hb : (due >>> (Int32.ofInt (h : Int) &&& 31)) &&& 1 = 1) : 0 ≤ (due &&& ((Int32.ofInt 1 <<< (Int32.ofInt (h : Int) &&& 31)) ^^^ Int32.ofInt (-1))).toInt ∧ (due &&& ((Int32.ofInt 1 <<< (Int32.ofInt (h : Int) &&& 31)) ^^^ Int32.ofInt (-1))).toInt ≤ 1023 ∧ v_popN 10 (due &&& ((Int32.ofInt 1 <<< (Int32.ofInt (h : Int) &&& 31)) ^^^ Int32.ofInt (-1))).toInt.toNat + 1 = v_popN 10 due.toInt.toNat := by
  have h1 := List.all_eq_true.mp v_clr_ok due.toInt.toNat (List.mem_range.mpr (by omega))
  have h2 := List.all_eq_true.mp h1 h (List.mem_range.mpr hh)
  have e : Int32.ofInt ((due.toInt.toNat : Nat) : Int) = due := by rw [show ((due.toInt.toNat : Nat) : Int) = due.toInt by omega, q_of]
  unfold v_clr at h2
  rw [e, decide_eq_true hb] at h2
  simp only [cond_true, Bool.and_eq_true, q_ile_ok, Nat.beq_eq] at h2
  exact ⟨h2.1.1, h2.1.2, h2.2⟩
set_option maxHeartbeats 2000000 in
theorem h_ll4 (R : v_Rf) (g hb mo : Int32) : ∀ (m : Nat) (S : v_Sf) (due had b : Int32) (k : Nat), v_popN 10 due.toInt.toNat = m → 0 ≤ due.toInt → due.toInt ≤ 1023 → S 99 107 = Int32.ofInt (k : Int) → k + m ≤ 10 → v_Tb v_ty S R → v_Op S → (∀ S' u, v_Tb v_ty S' R → v_Op S' → v_Fr [(99, 107, 107), (161, 0, 10)] S R S' R → (u = Int32.ofInt 0 ∨ u = Int32.ofInt 1) → Q (some (.int u)) S' R) → w_T L xs (d + 3) m_X12_laysLessons 95 [(5, .int had), (3, .int due), (6, .int b), (4, .int mo), (0, .ref 100), (1, .int g), (2, .int hb)] [] S R Q := by
  have e10 : (Int32.ofInt 10).toInt = 10 := by decide
  have f1 : v_frz 99 107 107 = false := by decide +kernel
  have f2 : ∀ j, v_frz 161 j j = false := fun j => rfl
  have c1 : v_md [(99, 107, 107), (161, 0, 10)] 99 107 107 = true := by decide +kernel
  have c2 : ∀ j, j ≤ 10 → v_md [(99, 107, 107), (161, 0, 10)] 161 j j = true := fun j hj => v_md_mono (lo := 0) (hi := 10) (by decide +kernel) (Nat.zero_le _) hj
  intro m
  induction m with
  | zero =>
    intro S due had b k hp d1 d2 hk hkm hT hO hq
    have hz : due = 0 := by
      apply q_inj
      show due.toInt = 0
      rcases Int.lt_or_eq_of_le d1 with h | h
      · have := v_popN_pos 10 due.toInt.toNat (by omega) (by omega)
        omega
      · omega
    refine w_st rfl (fun _ => rfl) ?_
    show w_T L xs (d + 3) m_X12_laysLessons 96 [(5, .int had), (3, .int due), (6, .int b), (4, .int mo), (0, .ref 100), (1, .int g), (2, .int hb)] [.int due] S R Q
    refine w_br (P := due = 0) rfl (fun _ => rfl) (fun h96 => ?_) (fun h96 => ?_)
    · refine w_st rfl (fun _ => rfl) ?_
      show w_T L xs (d + 3) m_X12_laysLessons 191 [(5, .int had), (3, .int due), (6, .int b), (4, .int mo), (0, .ref 100), (1, .int g), (2, .int hb)] [.int (Int32.ofInt 1)] S R Q
      refine w_ret rfl (by rfl) ?_
      exact hq S _ hT hO (v_Fr_rf _ _ _) (Or.inr rfl)
    · exact absurd hz h96
  | succ m ih =>
    intro S due had b k hp d1 d2 hk hkm hT hO hq
    refine w_st rfl (fun _ => rfl) ?_
    show w_T L xs (d + 3) m_X12_laysLessons 96 [(5, .int had), (3, .int due), (6, .int b), (4, .int mo), (0, .ref 100), (1, .int g), (2, .int hb)] [.int due] S R Q
    refine w_br (P := due = 0) rfl (fun _ => rfl) (fun h96 => ?_) (fun h96 => ?_)
    · refine w_st rfl (fun _ => rfl) ?_
      show w_T L xs (d + 3) m_X12_laysLessons 191 [(5, .int had), (3, .int due), (6, .int b), (4, .int mo), (0, .ref 100), (1, .int g), (2, .int hb)] [.int (Int32.ofInt 1)] S R Q
      refine w_ret rfl (by rfl) ?_
      exfalso
      have : v_popN 10 due.toInt.toNat = 0 := by rw [h96]; decide
      omega
    · refine w_st rfl (fun _ => rfl) ?_
      refine w_st rfl (fun _ => rfl) ?_
      show w_T L xs (d + 3) m_X12_laysLessons 102 [(6, .int (Int32.ofInt 0)), (5, .int had), (3, .int due), (4, .int mo), (0, .ref 100), (1, .int g), (2, .int hb)] [] S R Q
      refine h_ll3 S R g hb had due mo hT (fun q hq1 hq2 => ?_) 10 0 rfl
      have eq := w_nat (k := q) (by omega)
      have ek := w_nat (k := k) (by omega)
      have ekn : (Int32.ofInt (k : Int)).toInt.toNat = k := by rw [ek]; omega
      refine w_st rfl (fun _ => rfl) ?_
      refine w_st rfl (fun _ => rfl) ?_
      show w_T L xs (d + 3) m_X12_laysLessons 143 [(6, .int (Int32.ofInt (q : Int))), (5, .int had), (3, .int due), (4, .int mo), (0, .ref 100), (1, .int g), (2, .int hb)] [.int (Int32.ofInt 10), .int (Int32.ofInt (q : Int))] S R Q
      refine w_br (P := ¬ (Int32.ofInt (q : Int)) = (Int32.ofInt 10)) rfl (fun _ => rfl) (fun h143 => ?_) (fun h143 => ?_)
      · have hq10 : q < 10 := by
          rcases Nat.lt_or_eq_of_le hq1 with h | h
          · exact h
          · exact absurd (by rw [h]; rfl) h143
        refine w_st rfl (fun _ => rfl) ?_
        show w_T L xs (d + 3) m_X12_laysLessons 149 [(6, .int (Int32.ofInt (q : Int))), (5, .int had), (3, .int due), (4, .int mo), (0, .ref 100), (1, .int g), (2, .int hb)] [.ref 100] S R Q
        refine w_getr rfl v_tyM rfl ?_
        refine w_st rfl (fun _ => rfl) ?_
        show w_T L xs (d + 3) m_X12_laysLessons 153 [(6, .int (Int32.ofInt (q : Int))), (5, .int had), (3, .int due), (4, .int mo), (0, .ref 100), (1, .int g), (2, .int hb)] [.ref 100, .ref 162] S R Q
        refine w_get rfl v_tyM rfl ?_
        rw [hk]
        refine w_st rfl (fun _ => rfl) ?_
        show w_T L xs (d + 3) m_X12_laysLessons 158 [(6, .int (Int32.ofInt (q : Int))), (5, .int had), (3, .int due), (4, .int mo), (0, .ref 100), (1, .int g), (2, .int hb)] [.int (Int32.ofInt (q : Int)), .int (Int32.ofInt (k : Int)), .ref 162] S R Q
        refine w_iast rfl rfl (by rw [ek]; omega) (by rw [ek]; omega) ?_
        refine w_st rfl (fun _ => rfl) ?_
        refine w_st rfl (fun _ => rfl) ?_
        show w_T L xs (d + 3) m_X12_laysLessons 161 [(6, .int (Int32.ofInt (q : Int))), (5, .int had), (3, .int due), (4, .int mo), (0, .ref 100), (1, .int g), (2, .int hb)] [.ref 100, .ref 100] (v_ur S 161 (upd (S 161) (Int32.ofInt (k : Int)).toInt.toNat (Int32.ofInt (q : Int)))) R Q
        refine w_get rfl v_tyM rfl ?_
        rw [w_urn (fun e => absurd e.1 (by decide)), hk]
        refine w_st rfl (fun _ => rfl) ?_
        refine w_st rfl (fun _ => rfl) ?_
        show w_T L xs (d + 3) m_X12_laysLessons 166 [(6, .int (Int32.ofInt (q : Int))), (5, .int had), (3, .int due), (4, .int mo), (0, .ref 100), (1, .int g), (2, .int hb)] [.int ((Int32.ofInt (k : Int)) + (Int32.ofInt 1)), .ref 100] (v_ur S 161 (upd (S 161) (Int32.ofInt (k : Int)).toInt.toNat (Int32.ofInt (q : Int)))) R Q
        refine w_put rfl v_tyM rfl rfl rfl ?_
        refine w_st rfl (fun _ => rfl) ?_
        refine w_st rfl (fun _ => rfl) ?_
        refine w_st rfl (fun _ => rfl) ?_
        refine w_st rfl (fun _ => rfl) ?_
        refine w_st rfl (fun _ => rfl) ?_
        refine w_st rfl (fun _ => rfl) ?_
        refine w_st rfl (fun _ => rfl) ?_
        refine w_st rfl (fun _ => rfl) ?_
        refine w_st rfl (fun _ => rfl) ?_
        refine w_st rfl (fun _ => rfl) ?_
        refine w_st rfl (fun _ => rfl) ?_
        refine w_st rfl (fun _ => rfl) ?_
        refine w_st rfl (fun _ => rfl) ?_
        refine w_st rfl (fun _ => rfl) ?_
        refine w_st rfl (fun _ => rfl) ?_
        show w_T L xs (d + 3) m_X12_laysLessons 95 [(3, .int (due &&& (((Int32.ofInt 1) <<< ((Int32.ofInt (q : Int)) &&& 31)) ^^^ (Int32.ofInt (-1))))), (5, .int (had ||| ((Int32.ofInt 1) <<< ((Int32.ofInt (q : Int)) &&& 31)))), (6, .int (Int32.ofInt (q : Int))), (4, .int mo), (0, .ref 100), (1, .int g), (2, .int hb)] [] (v_ur (v_ur S 161 (upd (S 161) (Int32.ofInt (k : Int)).toInt.toNat (Int32.ofInt (q : Int)))) 99 (upd ((v_ur S 161 (upd (S 161) (Int32.ofInt (k : Int)).toInt.toNat (Int32.ofInt (q : Int)))) 99) 107 ((Int32.ofInt (k : Int)) + (Int32.ofInt 1)))) R Q
        refine w_lc (b := [(5, .int (had ||| ((Int32.ofInt 1) <<< ((Int32.ofInt (q : Int)) &&& 31)))), (3, .int (due &&& (((Int32.ofInt 1) <<< ((Int32.ofInt (q : Int)) &&& 31)) ^^^ (Int32.ofInt (-1))))), (6, .int (Int32.ofInt (q : Int))), (4, .int mo), (0, .ref 100), (1, .int g), (2, .int hb)]) (show ([3, 5, 6, 4, 0, 1, 2] : List Nat).Nodup by decide) (show ([5, 3, 6, 4, 0, 1, 2] : List Nat).Nodup by decide) (fun i => match i with | 0 => rfl | 1 => rfl | 2 => rfl | 3 => rfl | 4 => rfl | 5 => rfl | 6 => rfl | _ + 7 => rfl) ?_
        have hc := w_clr d1 d2 hq10 (hq2 hq10)
        refine ih _ _ _ _ (k + 1) (by omega) hc.1 hc.2.1 (by rw [w_urs, w_inc]) (by omega) (w_TbF (w_TbR hT (a := 161) rfl (by rw [eq]; omega) (by rw [eq]; show _ ≤ (9 : Int); omega)) v_tyM rfl (by rw [w_inc, w_nat (by omega)]; show (0 : Int) ≤ _; omega) (by rw [w_inc, w_nat (by omega)]; show _ ≤ (10 : Int); omega)) (w_Op_ur f1 (w_Op_ur (f2 _) hO)) (fun S' u k1 k2 k3 k4 => hq S' u k1 k2 (v_Fr_tr (v_Fr_tr (v_Fr_ur _ _ _ (c2 _ (by rw [ekn]; omega))) (v_Fr_ur _ _ _ c1)) k3) k4)
      · refine w_st rfl (fun _ => rfl) ?_
        show w_T L xs (d + 3) m_X12_laysLessons 147 [(6, .int (Int32.ofInt (q : Int))), (5, .int had), (3, .int due), (4, .int mo), (0, .ref 100), (1, .int g), (2, .int hb)] [.int (Int32.ofInt 0)] S R Q
        refine w_ret rfl (by rfl) ?_
        exact hq S _ hT hO (v_Fr_rf _ _ _) (Or.inl rfl)
theorem hr_X12_laysLessons {L : Nat} {xs : Nat → Int32} (ih : ∀ x, ∀ w ∈ v_rw x, w.1 < rw_238.1 → v_Met L xs v_ty v_Op x w) : v_Met L xs v_ty v_Op 270 rw_238 := by
  intro M hM ac S R ha hT hO
  rw [mt_X12_laysLessons] at hM
  cases hM
  match ac, ha with
  | [r0, w1, w2], ⟨h0, ⟨g, hg, g1, g2⟩, ⟨hb, hhb, b1, b2⟩, _⟩ =>
  have h0 : r0 = .ref 100 := h0
  subst h0 hg hhb
  have g1 : 0 ≤ g.toInt := g1
  have g2 : g.toInt ≤ 11 := g2
  have b1 : 0 ≤ hb.toInt := b1
  have b2 : hb.toInt ≤ 1023 := b2
  show w_T L xs 3 m_X12_laysLessons 0 (lv_args 0 [.ref 100, .int g, .int hb]) [] S R (fun r S' R' => v_Tb v_ty S' R' ∧ v_Op S' ∧ v_rk1 (some (0, 1)) r ∧ v_Fr [(99, 107, 107), (161, 0, 10)] S R S' R')
  generalize hQ : (fun (r : Option Value) (S' : v_Sf) (R' : v_Rf) => v_Tb v_ty S' R' ∧ v_Op S' ∧ v_rk1 (some (0, 1)) r ∧ v_Fr [(99, 107, 107), (161, 0, 10)] S R S' R') = Q
  have c1 : v_md [(99, 107, 107), (161, 0, 10)] 99 107 107 = true := by decide +kernel
  have f1 : v_frz 99 107 107 = false := by decide +kernel
  have hd := w_andl (x := hb) (y := S 122 g.toInt.toNat ^^^ Int32.ofInt (-1)) b1
  refine w_st rfl (fun _ => rfl) ?_
  refine w_st rfl (fun _ => rfl) ?_
  show w_T L xs 3 m_X12_laysLessons 2 [(0, .ref 100), (1, .int g), (2, .int hb)] [.ref 100, .int hb] S R Q
  refine w_getr rfl v_tyM rfl ?_
  refine w_st rfl (fun _ => rfl) ?_
  show w_T L xs 3 m_X12_laysLessons 6 [(0, .ref 100), (1, .int g), (2, .int hb)] [.int g, .ref 123, .int hb] S R Q
  refine w_iald rfl rfl (by omega) (by omega) ?_
  refine w_st rfl (fun _ => rfl) ?_
  refine w_st rfl (fun _ => rfl) ?_
  refine w_st rfl (fun _ => rfl) ?_
  refine w_st rfl (fun _ => rfl) ?_
  refine w_st rfl (fun _ => rfl) ?_
  refine w_st rfl (fun _ => rfl) ?_
  refine w_st rfl (fun _ => rfl) ?_
  show w_T L xs 3 m_X12_laysLessons 16 [(4, .int (Int32.ofInt 1)), (3, .int (hb &&& ((S 122 g.toInt.toNat) ^^^ (Int32.ofInt (-1))))), (0, .ref 100), (1, .int g), (2, .int hb)] [.int (Int32.ofInt 1)] S R Q
  refine w_st rfl (fun _ => rfl) ?_
  refine w_st rfl (fun _ => rfl) ?_
  refine w_st rfl (fun _ => rfl) ?_
  refine w_st rfl (fun _ => rfl) ?_
  refine w_st rfl (fun _ => rfl) ?_
  show w_T L xs 3 m_X12_laysLessons 25 [(6, .int (Int32.ofInt 0)), (5, .int (hb &&& ((S 122 g.toInt.toNat) ^^^ (Int32.ofInt (-1))))), (4, .int (Int32.ofInt 1)), (3, .int (hb &&& ((S 122 g.toInt.toNat) ^^^ (Int32.ofInt (-1))))), (0, .ref 100), (1, .int g), (2, .int hb)] [] S R Q
  refine w_lc (b := [(6, .int (Int32.ofInt 0)), (3, .int (hb &&& ((S 122 g.toInt.toNat) ^^^ (Int32.ofInt (-1))))), (5, .int (hb &&& ((S 122 g.toInt.toNat) ^^^ (Int32.ofInt (-1))))), (4, .int (Int32.ofInt 1)), (0, .ref 100), (1, .int g), (2, .int hb)]) (show ([6, 5, 4, 3, 0, 1, 2] : List Nat).Nodup by decide) (show ([6, 3, 5, 4, 0, 1, 2] : List Nat).Nodup by decide) (fun i => match i with | 0 => rfl | 1 => rfl | 2 => rfl | 3 => rfl | 4 => rfl | 5 => rfl | 6 => rfl | _ + 7 => rfl) ?_
  refine h_ll1 (d := 0) S R g hb _ _ g1 g2 hT 10 0 _ rfl hd.1 (by omega) (Int.le_refl _) (fun due' k1 k2 k3 => ?_)
  refine w_st rfl (fun _ => rfl) ?_
  refine w_st rfl (fun _ => rfl) ?_
  show w_T L xs 3 m_X12_laysLessons 69 [(6, .int (Int32.ofInt 10)), (3, .int (due')), (5, .int (hb &&& (S 122 g.toInt.toNat ^^^ Int32.ofInt (-1)))), (4, .int (Int32.ofInt 1)), (0, .ref 100), (1, .int g), (2, .int hb)] [.int (hb &&& (S 122 g.toInt.toNat ^^^ Int32.ofInt (-1))), .int (due')] S R Q
  refine w_br (P := (due') = (hb &&& (S 122 g.toInt.toNat ^^^ Int32.ofInt (-1)))) rfl (fun _ => rfl) (fun h69 => ?_) (fun h69 => ?_)
  · refine w_st rfl (fun _ => rfl) ?_
    refine w_st rfl (fun _ => rfl) ?_
    refine w_st rfl (fun _ => rfl) ?_
    show w_T L xs 3 m_X12_laysLessons 14 [(4, .int (Int32.ofInt 0)), (6, .int (Int32.ofInt 10)), (3, .int (due')), (5, .int (hb &&& (S 122 g.toInt.toNat ^^^ Int32.ofInt (-1)))), (0, .ref 100), (1, .int g), (2, .int hb)] [] S R Q
    refine w_lc (b := [(4, .int (Int32.ofInt 0)), (3, .int (due')), (5, .int (hb &&& (S 122 g.toInt.toNat ^^^ Int32.ofInt (-1)))), (6, .int (Int32.ofInt 10)), (0, .ref 100), (1, .int g), (2, .int hb)]) (show ([4, 6, 3, 5, 0, 1, 2] : List Nat).Nodup by decide) (show ([4, 3, 5, 6, 0, 1, 2] : List Nat).Nodup by decide) (fun i => match i with | 0 => rfl | 1 => rfl | 2 => rfl | 3 => rfl | 4 => rfl | 5 => rfl | 6 => rfl | _ + 7 => rfl) ?_
    refine h_ll2 (d := 0) S R g hb g1 g2 hT 3000 due' _ _ _ (Or.inl ⟨rfl, by omega⟩) k1 k2 (fun due2 a2 b2' m1 m2 => ?_)
    refine w_st rfl (fun _ => rfl) ?_
    refine w_st rfl (fun _ => rfl) ?_
    show w_T L xs 3 m_X12_laysLessons 84 [(4, .int (Int32.ofInt 0)), (3, .int due2), (5, .int a2), (6, .int (b2')), (0, .ref 100), (1, .int g), (2, .int hb)] [.int (Int32.ofInt 0), .ref 100] S R Q
    refine w_put rfl v_tyM rfl rfl rfl ?_
    refine w_st rfl (fun _ => rfl) ?_
    show w_T L xs 3 m_X12_laysLessons 88 [(4, .int (Int32.ofInt 0)), (3, .int due2), (5, .int a2), (6, .int (b2')), (0, .ref 100), (1, .int g), (2, .int hb)] [.ref 100] (v_ur S 99 (upd (S 99) 107 (Int32.ofInt 0))) R Q
    refine w_getr rfl v_tyM rfl ?_
    refine w_st rfl (fun _ => rfl) ?_
    show w_T L xs 3 m_X12_laysLessons 92 [(4, .int (Int32.ofInt 0)), (3, .int due2), (5, .int a2), (6, .int (b2')), (0, .ref 100), (1, .int g), (2, .int hb)] [.int g, .ref 123] (v_ur S 99 (upd (S 99) 107 (Int32.ofInt 0))) R Q
    refine w_iald rfl rfl (by omega) (by omega) ?_
    refine w_st rfl (fun _ => rfl) ?_
    show w_T L xs 3 m_X12_laysLessons 95 [(5, .int ((v_ur S 99 (upd (S 99) 107 (Int32.ofInt 0))) 122 g.toInt.toNat)), (4, .int (Int32.ofInt 0)), (3, .int due2), (6, .int (b2')), (0, .ref 100), (1, .int g), (2, .int hb)] [] (v_ur S 99 (upd (S 99) 107 (Int32.ofInt 0))) R Q
    refine w_lc (b := [(5, .int ((v_ur S 99 (upd (S 99) 107 (Int32.ofInt 0))) 122 g.toInt.toNat)), (3, .int due2), (6, .int (b2')), (4, .int (Int32.ofInt 0)), (0, .ref 100), (1, .int g), (2, .int hb)]) (show ([5, 4, 3, 6, 0, 1, 2] : List Nat).Nodup by decide) (show ([5, 3, 6, 4, 0, 1, 2] : List Nat).Nodup by decide) (fun i => match i with | 0 => rfl | 1 => rfl | 2 => rfl | 3 => rfl | 4 => rfl | 5 => rfl | 6 => rfl | _ + 7 => rfl) ?_
    refine h_ll4 (d := 0) R g hb _ _ _ due2 _ _ 0 rfl m1 m2 (by rw [w_urs]; rfl) (by have := v_popN_f 10 due2.toInt.toNat; omega) (w_TbF hT v_tyM rfl (by decide) (by decide)) (w_Op_ur f1 hO) (fun S' u k1 k2 k3 k4 => ?_)
    rw [← hQ]
    refine ⟨k1, k2, ?_, v_Fr_tr (v_Fr_ur _ _ _ c1) k3⟩
    rcases k4 with rfl | rfl
    · exact ⟨_, rfl, by decide, by decide⟩
    · exact ⟨_, rfl, by decide, by decide⟩
  · refine w_st rfl (fun _ => rfl) ?_
    refine w_st rfl (fun _ => rfl) ?_
    refine w_st rfl (fun _ => rfl) ?_
    refine w_st rfl (fun _ => rfl) ?_
    show w_T L xs 3 m_X12_laysLessons 14 [(4, .int (Int32.ofInt 1)), (6, .int (Int32.ofInt 10)), (3, .int (due')), (5, .int (hb &&& (S 122 g.toInt.toNat ^^^ Int32.ofInt (-1)))), (0, .ref 100), (1, .int g), (2, .int hb)] [] S R Q
    refine w_lc (b := [(4, .int (Int32.ofInt 1)), (3, .int (due')), (5, .int (hb &&& (S 122 g.toInt.toNat ^^^ Int32.ofInt (-1)))), (6, .int (Int32.ofInt 10)), (0, .ref 100), (1, .int g), (2, .int hb)]) (show ([4, 6, 3, 5, 0, 1, 2] : List Nat).Nodup by decide) (show ([4, 3, 5, 6, 0, 1, 2] : List Nat).Nodup by decide) (fun i => match i with | 0 => rfl | 1 => rfl | 2 => rfl | 3 => rfl | 4 => rfl | 5 => rfl | 6 => rfl | _ + 7 => rfl) ?_
    refine h_ll2 (d := 0) S R g hb g1 g2 hT 3000 due' _ _ _ (Or.inr ⟨rfl, by omega⟩) k1 k2 (fun due2 a2 b2' m1 m2 => ?_)
    refine w_st rfl (fun _ => rfl) ?_
    refine w_st rfl (fun _ => rfl) ?_
    show w_T L xs 3 m_X12_laysLessons 84 [(4, .int (Int32.ofInt 0)), (3, .int due2), (5, .int a2), (6, .int (b2')), (0, .ref 100), (1, .int g), (2, .int hb)] [.int (Int32.ofInt 0), .ref 100] S R Q
    refine w_put rfl v_tyM rfl rfl rfl ?_
    refine w_st rfl (fun _ => rfl) ?_
    show w_T L xs 3 m_X12_laysLessons 88 [(4, .int (Int32.ofInt 0)), (3, .int due2), (5, .int a2), (6, .int (b2')), (0, .ref 100), (1, .int g), (2, .int hb)] [.ref 100] (v_ur S 99 (upd (S 99) 107 (Int32.ofInt 0))) R Q
    refine w_getr rfl v_tyM rfl ?_
    refine w_st rfl (fun _ => rfl) ?_
    show w_T L xs 3 m_X12_laysLessons 92 [(4, .int (Int32.ofInt 0)), (3, .int due2), (5, .int a2), (6, .int (b2')), (0, .ref 100), (1, .int g), (2, .int hb)] [.int g, .ref 123] (v_ur S 99 (upd (S 99) 107 (Int32.ofInt 0))) R Q
    refine w_iald rfl rfl (by omega) (by omega) ?_
    refine w_st rfl (fun _ => rfl) ?_
    show w_T L xs 3 m_X12_laysLessons 95 [(5, .int ((v_ur S 99 (upd (S 99) 107 (Int32.ofInt 0))) 122 g.toInt.toNat)), (4, .int (Int32.ofInt 0)), (3, .int due2), (6, .int (b2')), (0, .ref 100), (1, .int g), (2, .int hb)] [] (v_ur S 99 (upd (S 99) 107 (Int32.ofInt 0))) R Q
    refine w_lc (b := [(5, .int ((v_ur S 99 (upd (S 99) 107 (Int32.ofInt 0))) 122 g.toInt.toNat)), (3, .int due2), (6, .int (b2')), (4, .int (Int32.ofInt 0)), (0, .ref 100), (1, .int g), (2, .int hb)]) (show ([5, 4, 3, 6, 0, 1, 2] : List Nat).Nodup by decide) (show ([5, 3, 6, 4, 0, 1, 2] : List Nat).Nodup by decide) (fun i => match i with | 0 => rfl | 1 => rfl | 2 => rfl | 3 => rfl | 4 => rfl | 5 => rfl | 6 => rfl | _ + 7 => rfl) ?_
    refine h_ll4 (d := 0) R g hb _ _ _ due2 _ _ 0 rfl m1 m2 (by rw [w_urs]; rfl) (by have := v_popN_f 10 due2.toInt.toNat; omega) (w_TbF hT v_tyM rfl (by decide) (by decide)) (w_Op_ur f1 hO) (fun S' u k1 k2 k3 k4 => ?_)
    rw [← hQ]
    refine ⟨k1, k2, ?_, v_Fr_tr (v_Fr_ur _ _ _ c1) k3⟩
    rcases k4 with rfl | rfl
    · exact ⟨_, rfl, by decide, by decide⟩
    · exact ⟨_, rfl, by decide, by decide⟩
end LL
end Prt37
section Prt38
/-! laysPlaces -/
noncomputable abbrev m_X12_laysPlaces : g_M := (g_cn 12, yX12_laysPlaces, cX12_laysPlaces, 6, none, g_look2 ttX12_laysPlaces)
set_option maxRecDepth 20000 in
theorem mt_X12_laysPlaces : g_mt 277 = some m_X12_laysPlaces := rfl
noncomputable abbrev m_X12_asksNext : g_M := (g_cn 12, yX12_asksNext, cX12_asksNext, 4, (some .int), g_look2 ttX12_asksNext)
set_option maxRecDepth 20000 in
theorem mt_X12_asksNext : g_mt 275 = some m_X12_asksNext := rfl
noncomputable abbrev m_X12_isAnywhere : g_M := (g_cn 12, yX12_isAnywhere, cX12_isAnywhere, 3, (some .boolean), g_look2 ttX12_isAnywhere)
set_option maxRecDepth 20000 in
theorem mt_X12_isAnywhere : g_mt 276 = some m_X12_isAnywhere := rfl
noncomputable abbrev m_X12_isLiked : g_M := (g_cn 12, yX12_isLiked, cX12_isLiked, 6, (some .boolean), g_look2 ttX12_isLiked)
set_option maxRecDepth 20000 in
theorem mt_X12_isLiked : g_mt 274 = some m_X12_isLiked := rfl
noncomputable abbrev m_X12_isHigher : g_M := (g_cn 12, yX12_isHigher, cX12_isHigher, 3, (some .boolean), g_look2 ttX12_isHigher)
set_option maxRecDepth 20000 in
theorem mt_X12_isHigher : g_mt 273 = some m_X12_isHigher := rfl
theorem v_Fr_nil {S S1 : v_Sf} {R R1 : v_Rf} (h : v_Fr [] S R S1 R1) : S = S1 ∧ R = R1 := ⟨funext (fun a => funext (fun j => (h a j rfl).1.symm)), funext (fun a => funext (fun j => (h a j rfl).2.symm))⟩
section LP
variable {L : Nat} {xs : Nat → Int32} {d : Nat} {Q : Option Value → v_Sf → v_Rf → Prop}
theorem h_asks1 (hH : v_Met L xs v_ty v_Op 273 rw_241) (S : v_Sf) (R : v_Rf) (g : Int32) (g1 : 0 ≤ g.toInt) (g2 : g.toInt ≤ 11) (hT : v_Tb v_ty S R) (hO : v_Op S) (hq : ∀ b, (b = Int32.ofInt (-1) ∨ 0 ≤ b.toInt ∧ b.toInt ≤ 4 ∧ ¬ (S 166 g.toInt.toNat >>> (b &&& 31)) &&& 1 = 1) → Q (some (.int b)) S R) : ∀ (m k : Nat) (b : Int32), k + m = 5 → (b = Int32.ofInt (-1) ∨ 0 ≤ b.toInt ∧ b.toInt ≤ 4 ∧ ¬ (S 166 g.toInt.toNat >>> (b &&& 31)) &&& 1 = 1) → w_T L xs (d + 2) m_X12_asksNext 4 [(3, .int (Int32.ofInt (k : Int))), (2, .int b), (0, .ref 100), (1, .int g)] [] S R Q := by
  have e5 : (Int32.ofInt 5).toInt = 5 := by decide
  intro m
  induction m with
  | zero =>
    intro k b hk hb
    obtain rfl : k = 5 := by omega
    refine w_st rfl (fun _ => rfl) ?_
    refine w_st rfl (fun _ => rfl) ?_
    show w_T L xs (d + 2) m_X12_asksNext 6 [(3, .int (Int32.ofInt ((5 : Nat) : Int))), (2, .int b), (0, .ref 100), (1, .int g)] [.int (Int32.ofInt 5), .int (Int32.ofInt ((5 : Nat) : Int))] S R Q
    refine w_st rfl (fun _ => rfl) ?_
    refine w_st rfl (fun _ => rfl) ?_
    show w_T L xs (d + 2) m_X12_asksNext 49 [(3, .int (Int32.ofInt ((5 : Nat) : Int))), (2, .int b), (0, .ref 100), (1, .int g)] [.int b] S R Q
    refine w_ret rfl rfl ?_
    exact hq b hb
  | succ m ih =>
    intro k b hk hb
    have ek := w_nat (k := k) (by omega)
    have b9 : -1 ≤ b.toInt ∧ b.toInt ≤ 4 := by
      rcases hb with h | h
      · rw [h]; decide
      · omega
    refine w_st rfl (fun _ => rfl) ?_
    refine w_st rfl (fun _ => rfl) ?_
    show w_T L xs (d + 2) m_X12_asksNext 6 [(3, .int (Int32.ofInt (k : Int))), (2, .int b), (0, .ref 100), (1, .int g)] [.int (Int32.ofInt 5), .int (Int32.ofInt (k : Int))] S R Q
    refine w_br (P := (Int32.ofInt 5) ≤ (Int32.ofInt (k : Int))) rfl (fun _ => rfl) (fun h6 => ?_) (fun h6 => ?_)
    · exfalso; rw [q_le32, e5, ek] at h6; omega
    · refine w_st rfl (fun _ => rfl) ?_
      show w_T L xs (d + 2) m_X12_asksNext 10 [(3, .int (Int32.ofInt (k : Int))), (2, .int b), (0, .ref 100), (1, .int g)] [.ref 100] S R Q
      refine w_getr rfl v_tyM rfl ?_
      refine w_st rfl (fun _ => rfl) ?_
      show w_T L xs (d + 2) m_X12_asksNext 14 [(3, .int (Int32.ofInt (k : Int))), (2, .int b), (0, .ref 100), (1, .int g)] [.int (Int32.ofInt (k : Int)), .ref 163] S R Q
      refine w_bald rfl rfl (by decide) (by rw [ek]; omega) (by rw [ek]; omega) ?_
      show w_T L xs (d + 2) m_X12_asksNext 15 [(3, .int (Int32.ofInt (k : Int))), (2, .int b), (0, .ref 100), (1, .int g)] [.int (S 162 (Int32.ofInt (k : Int)).toInt.toNat)] S R Q
      refine w_br (P := (S 162 (Int32.ofInt (k : Int)).toInt.toNat) = 0) rfl (fun _ => rfl) (fun h15 => ?_) (fun h15 => ?_)
      · refine w_st rfl (fun _ => rfl) ?_
        refine w_st rfl (fun _ => rfl) ?_
        show w_T L xs (d + 2) m_X12_asksNext 4 [(3, .int ((Int32.ofInt (k : Int)) + Int32.ofInt 1)), (2, .int b), (0, .ref 100), (1, .int g)] [] S R Q
        rw [w_inc]
        exact ih (k + 1) b (by omega) hb
      · refine w_st rfl (fun _ => rfl) ?_
        show w_T L xs (d + 2) m_X12_asksNext 19 [(3, .int (Int32.ofInt (k : Int))), (2, .int b), (0, .ref 100), (1, .int g)] [.ref 100] S R Q
        refine w_getr rfl v_tyM rfl ?_
        refine w_st rfl (fun _ => rfl) ?_
        show w_T L xs (d + 2) m_X12_asksNext 23 [(3, .int (Int32.ofInt (k : Int))), (2, .int b), (0, .ref 100), (1, .int g)] [.int g, .ref 167] S R Q
        refine w_iald rfl rfl (by omega) (by omega) ?_
        refine w_st rfl (fun _ => rfl) ?_
        show w_T L xs (d + 2) m_X12_asksNext 25 [(3, .int (Int32.ofInt (k : Int))), (2, .int b), (0, .ref 100), (1, .int g)] [.int (Int32.ofInt (k : Int)), .int (S 166 g.toInt.toNat)] S R Q
        refine w_cs rfl (by decide) mt_X12_has (fun _ => rfl) (Nat.le_of_ble_eq_true rfl) (Nat.le_of_ble_eq_true rfl) ?_
        show w_T L xs _ m_X12_has 0 (lv_args 0 [.int (S 166 g.toInt.toNat), .int (Int32.ofInt (k : Int))]) [] S R _
        refine h_has _ _ ?_
        show w_T L xs (d + 2) m_X12_asksNext 28 [(3, .int (Int32.ofInt (k : Int))), (2, .int b), (0, .ref 100), (1, .int g)] [.int (if ((S 166 g.toInt.toNat) >>> ((Int32.ofInt (k : Int)) &&& 31)) &&& 1 = 1 then (1 : Int32) else 0)] S R Q
        refine w_br (P := ¬ (if ((S 166 g.toInt.toNat) >>> ((Int32.ofInt (k : Int)) &&& 31)) &&& 1 = 1 then (1 : Int32) else 0) = 0) rfl (fun _ => rfl) (fun h28 => ?_) (fun h28 => ?_)
        · refine w_st rfl (fun _ => rfl) ?_
          refine w_st rfl (fun _ => rfl) ?_
          show w_T L xs (d + 2) m_X12_asksNext 4 [(3, .int ((Int32.ofInt (k : Int)) + Int32.ofInt 1)), (2, .int b), (0, .ref 100), (1, .int g)] [] S R Q
          rw [w_inc]
          exact ih (k + 1) b (by omega) hb
        · have hbit : ¬ (S 166 g.toInt.toNat >>> (Int32.ofInt (k : Int) &&& 31)) &&& 1 = 1 := fun hh => h28 (by rw [if_pos hh]; decide)
          refine w_st rfl (fun _ => rfl) ?_
          refine w_st rfl (fun _ => rfl) ?_
          refine w_st rfl (fun _ => rfl) ?_
          show w_T L xs (d + 2) m_X12_asksNext 34 [(3, .int (Int32.ofInt (k : Int))), (2, .int b), (0, .ref 100), (1, .int g)] [.int b, .int (Int32.ofInt (k : Int)), .ref 100] S R Q
          refine w_cv rfl (by decide) mt_X12_isHigher v_tyM rfl rfl rfl (Nat.le_of_ble_eq_true rfl) (Nat.le_of_ble_eq_true rfl) (Nat.le_of_ble_eq_true rfl) ?_
          show w_T L xs _ m_X12_isHigher 0 (lv_args 0 [.ref 100, .int (Int32.ofInt (k : Int)), .int b]) [] S R _
          refine w_met hH (Nat.zero_le _) mt_X12_isHigher ⟨rfl, ⟨_, rfl, by rw [ek]; show (0 : Int) ≤ _; omega, by rw [ek]; show _ ≤ (4 : Int); omega⟩, ⟨_, rfl, b9.1, b9.2⟩, trivial⟩ hT hO (fun r S1 R1 hT1 hO1 hr hF => ?_)
          obtain ⟨u, hr, -, -⟩ := hr
          subst hr
          obtain ⟨rfl, rfl⟩ := v_Fr_nil hF
          show w_T L xs (d + 2) m_X12_asksNext 37 [(3, .int (Int32.ofInt (k : Int))), (2, .int b), (0, .ref 100), (1, .int g)] [.int u] S R Q
          refine w_br (P := u = 0) rfl (fun _ => rfl) (fun h37 => ?_) (fun h37 => ?_)
          · refine w_st rfl (fun _ => rfl) ?_
            refine w_st rfl (fun _ => rfl) ?_
            show w_T L xs (d + 2) m_X12_asksNext 4 [(3, .int ((Int32.ofInt (k : Int)) + Int32.ofInt 1)), (2, .int b), (0, .ref 100), (1, .int g)] [] S R Q
            rw [w_inc]
            exact ih (k + 1) b (by omega) hb
          · refine w_st rfl (fun _ => rfl) ?_
            refine w_st rfl (fun _ => rfl) ?_
            refine w_st rfl (fun _ => rfl) ?_
            refine w_st rfl (fun _ => rfl) ?_
            show w_T L xs (d + 2) m_X12_asksNext 4 [(3, .int ((Int32.ofInt (k : Int)) + Int32.ofInt 1)), (2, .int (Int32.ofInt (k : Int))), (0, .ref 100), (1, .int g)] [] S R Q
            rw [w_inc]
            exact ih (k + 1) _ (by omega) (Or.inr ⟨by rw [ek]; omega, by rw [ek]; omega, hbit⟩)
theorem h_asks (hH : v_Met L xs v_ty v_Op 273 rw_241) (S : v_Sf) (R : v_Rf) (g : Int32) (g1 : 0 ≤ g.toInt) (g2 : g.toInt ≤ 11) (hT : v_Tb v_ty S R) (hO : v_Op S) (hq : ∀ b, (b = Int32.ofInt (-1) ∨ 0 ≤ b.toInt ∧ b.toInt ≤ 4 ∧ ¬ (S 166 g.toInt.toNat >>> (b &&& 31)) &&& 1 = 1) → Q (some (.int b)) S R) : w_T L xs (d + 2) m_X12_asksNext 0 (lv_args 0 [.ref 100, .int g]) [] S R Q := by
  refine w_st rfl (fun _ => rfl) ?_
  refine w_st rfl (fun _ => rfl) ?_
  refine w_st rfl (fun _ => rfl) ?_
  refine w_st rfl (fun _ => rfl) ?_
  show w_T L xs (d + 2) m_X12_asksNext 4 [(3, .int (Int32.ofInt 0)), (2, .int (Int32.ofInt (-1))), (0, .ref 100), (1, .int g)] [] S R Q
  exact h_asks1 hH S R g g1 g2 hT hO hq 5 0 _ rfl (Or.inl rfl)
noncomputable def v_mu : Nat → (Nat → Int32) → Nat
  | 0, _ => 0
  | c + 1, f => v_mu c f + (31 - (f c).toInt).toNat
theorem v_mu_ge {f : Nat → Int32} {j : Nat} {v : Int32} : ∀ {c : Nat}, c ≤ j → v_mu c (upd f j v) = v_mu c f
  | 0, _ => rfl
  | c + 1, h => by
    show v_mu c (upd f j v) + _ = v_mu c f + _
    rw [v_mu_ge (by omega)]
    have : upd f j v c = f c := by rw [upd, if_neg (by omega)]
    rw [this]
theorem v_mu_lt {f : Nat → Int32} {j : Nat} {v : Int32} (h1 : (f j).toInt < v.toInt) (h2 : v.toInt ≤ 31) : ∀ {c : Nat}, j < c → v_mu c (upd f j v) < v_mu c f
  | 0, h => by omega
  | c + 1, h => by
    show v_mu c (upd f j v) + (31 - (upd f j v c).toInt).toNat < v_mu c f + (31 - (f c).toInt).toNat
    by_cases hj : j = c
    · subst hj
      rw [v_mu_ge (Nat.le_refl _)]
      have : upd f j v j = v := by rw [upd, if_pos rfl]
      rw [this]
      omega
    · have := v_mu_lt (f := f) (j := j) (v := v) h1 h2 (c := c) (by omega)
      have e : upd f j v c = f c := by rw [upd, if_neg (fun e => hj e.symm)]
      rw [e]
      omega
noncomputable def v_orc (x k : Nat) : Bool := bif decide ((Int32.ofInt (x : Int) >>> (Int32.ofInt (k : Int) &&& 31)) &&& 1 = 1) then true else q_ilt (x : Int) (Int32.ofInt (x : Int) ||| (Int32.ofInt 1 <<< (Int32.ofInt (k : Int) &&& 31))).toInt && q_ile (Int32.ofInt (x : Int) ||| (Int32.ofInt 1 <<< (Int32.ofInt (k : Int) &&& 31))).toInt 31
theorem v_orc_ok : ((List.range 32).all (fun x => (List.range 5).all (fun k => v_orc x k))) = true := by decide +kernel
theorem w_orc {x b : Int32} (h1 : 0 ≤ x.toInt) (h2 : x.toInt ≤ 31) (h3 : 0 ≤ b.toInt) (h4 : b.toInt ≤ 4) (hb : ¬ (x >>> (b &&& 31)) &&& 1 = 1) : x.toInt < (x ||| (Int32.ofInt 1 <<< (b &&& 31))).toInt ∧ (x ||| (Int32.ofInt 1 <<< (b &&& 31))).toInt ≤ 31 := by
  have k1 := List.all_eq_true.mp v_orc_ok x.toInt.toNat (List.mem_range.mpr (by omega))
  have k2 := List.all_eq_true.mp k1 b.toInt.toNat (List.mem_range.mpr (by omega))
  have e1 : Int32.ofInt ((x.toInt.toNat : Nat) : Int) = x := by rw [show ((x.toInt.toNat : Nat) : Int) = x.toInt by omega, q_of]
  have e2 : Int32.ofInt ((b.toInt.toNat : Nat) : Int) = b := by rw [show ((b.toInt.toNat : Nat) : Int) = b.toInt by omega, q_of]
  unfold v_orc at k2
  rw [e1, e2, decide_eq_false hb] at k2
  simp only [cond_false, Bool.and_eq_true, q_ilt_ok, q_ile_ok] at k2
  omega
set_option maxHeartbeats 1000000 in
theorem h_lpbA (hH : v_Met L xs v_ty v_Op 273 rw_241) (hA : v_Met L xs v_ty v_Op 276 rw_244) (hK : v_Met L xs v_ty v_Op 274 rw_242) (S : v_Sf) (R : v_Rf) (nn more g0 k0 : Int32) (m : Nat) (hm : (m : Int) < nn.toInt) (hn : nn.toInt ≤ 6) (hT : v_Tb v_ty S R) (hO : v_Op S) (K : ∀ (S' : v_Sf) (more' g' k' : Int32), v_Tb v_ty S' R → v_Op S' → v_Fr [(165, 0, 5), (166, 0, 12)] S R S' R → (more' = Int32.ofInt 1 ∧ v_mu 12 (S' 166) < v_mu 12 (S 166) ∨ more' = more ∧ S' = S) → w_T L xs (d + 4) m_X12_laysPlaces 55 [(3, .int (Int32.ofInt ((m + 1 : Nat) : Int))), (2, .int more'), (5, .int k'), (4, .int g'), (0, .ref 100), (1, .int nn)] [] S' R Q) : w_T L xs (d + 4) m_X12_laysPlaces 55 [(3, .int (Int32.ofInt (m : Int))), (2, .int more), (0, .ref 100), (1, .int nn)] [] S R Q := by
  have em := w_nat (k := m) (by omega)
  have emn : (Int32.ofInt (m : Int)).toInt.toNat = m := by rw [em]; omega
  have tS : v_TbC S R 152 _ := hT 152 _ rfl
  have tA : v_TbC S R 166 _ := hT 166 _ rfl
  have gb : 0 ≤ (S 152 (Int32.ofInt (m : Int)).toInt.toNat).toInt ∧ (S 152 (Int32.ofInt (m : Int)).toInt.toNat).toInt ≤ 11 := tS _ (by rw [emn]; omega)
  have f1 : ∀ j, v_frz 165 j j = false := fun j => rfl
  have f2 : ∀ j, v_frz 166 j j = false := fun j => rfl
  have c1 : ∀ j, j ≤ 5 → v_md [(165, 0, 5), (166, 0, 12)] 165 j j = true := fun j hj => v_md_mono (lo := 0) (hi := 5) (by decide +kernel) (Nat.zero_le _) hj
  have c2 : ∀ j, j ≤ 12 → v_md [(165, 0, 5), (166, 0, 12)] 166 j j = true := fun j hj => v_md_mono (lo := 0) (hi := 12) (by decide +kernel) (Nat.zero_le _) hj
  refine w_st rfl (fun _ => rfl) ?_
  refine w_st rfl (fun _ => rfl) ?_
  show w_T L xs (d + 4) m_X12_laysPlaces 57 [(3, .int (Int32.ofInt (m : Int))), (2, .int more), (0, .ref 100), (1, .int nn)] [.int nn, .int (Int32.ofInt (m : Int))] S R Q
  refine w_br (P := nn ≤ (Int32.ofInt (m : Int))) rfl (fun _ => rfl) (fun h57 => ?_) (fun h57 => ?_)
  · exfalso; rw [q_le32, em] at h57; omega
  · refine w_st rfl (fun _ => rfl) ?_
    show w_T L xs (d + 4) m_X12_laysPlaces 61 [(3, .int (Int32.ofInt (m : Int))), (2, .int more), (0, .ref 100), (1, .int nn)] [.ref 100] S R Q
    refine w_getr rfl v_tyM rfl ?_
    refine w_st rfl (fun _ => rfl) ?_
    show w_T L xs (d + 4) m_X12_laysPlaces 65 [(3, .int (Int32.ofInt (m : Int))), (2, .int more), (0, .ref 100), (1, .int nn)] [.int (Int32.ofInt (m : Int)), .ref 153] S R Q
    refine w_iald rfl rfl (by rw [em]; omega) (by rw [em]; omega) ?_
    refine w_st rfl (fun _ => rfl) ?_
    refine w_st rfl (fun _ => rfl) ?_
    refine w_st rfl (fun _ => rfl) ?_
    show w_T L xs (d + 4) m_X12_laysPlaces 71 [(4, .int (S 152 (Int32.ofInt (m : Int)).toInt.toNat)), (3, .int (Int32.ofInt (m : Int))), (2, .int more), (0, .ref 100), (1, .int nn)] [.int (S 152 (Int32.ofInt (m : Int)).toInt.toNat), .ref 100] S R Q
    refine w_cv rfl (by decide) mt_X12_isAnywhere v_tyM rfl rfl rfl (Nat.le_of_ble_eq_true rfl) (Nat.le_of_ble_eq_true rfl) (Nat.le_of_ble_eq_true rfl) ?_
    show w_T L xs _ m_X12_isAnywhere 0 (lv_args 0 [.ref 100, .int (S 152 (Int32.ofInt (m : Int)).toInt.toNat)]) [] S R _
    refine w_met hA (Nat.zero_le _) mt_X12_isAnywhere ⟨rfl, ⟨_, rfl, (q_rng _).1, (q_rng _).2⟩, trivial⟩ hT hO (fun r S1 R1 hT1 hO1 hr hF => ?_)
    obtain ⟨u, hr, -, -⟩ := hr
    subst hr
    obtain ⟨rfl, rfl⟩ := v_Fr_nil hF
    show w_T L xs (d + 4) m_X12_laysPlaces 74 [(4, .int (S 152 (Int32.ofInt (m : Int)).toInt.toNat)), (3, .int (Int32.ofInt (m : Int))), (2, .int more), (0, .ref 100), (1, .int nn)] [.int u] S R Q
    refine w_br (P := u = 0) rfl (fun _ => rfl) (fun h74 => ?_) (fun h74 => ?_)
    · refine w_st rfl (fun _ => rfl) ?_
      refine w_st rfl (fun _ => rfl) ?_
      show w_T L xs (d + 4) m_X12_laysPlaces 84 [(4, .int (S 152 (Int32.ofInt (m : Int)).toInt.toNat)), (3, .int (Int32.ofInt (m : Int))), (2, .int more), (0, .ref 100), (1, .int nn)] [.int (S 152 (Int32.ofInt (m : Int)).toInt.toNat), .ref 100] S R Q
      refine w_cv rfl (by decide) mt_X12_asksNext v_tyM rfl rfl rfl (Nat.le_of_ble_eq_true rfl) (Nat.le_of_ble_eq_true rfl) (Nat.le_of_ble_eq_true rfl) ?_
      show w_T L xs _ m_X12_asksNext 0 (lv_args 0 [.ref 100, .int (S 152 (Int32.ofInt (m : Int)).toInt.toNat)]) [] S R _
      refine h_asks (d := d + 1) hH S R _ gb.1 gb.2 hT hO (fun b hb => ?_)
      refine w_st rfl (fun _ => rfl) ?_
      refine w_st rfl (fun _ => rfl) ?_
      refine w_st rfl (fun _ => rfl) ?_
      show w_T L xs (d + 4) m_X12_laysPlaces 92 [(5, .int b), (4, .int (S 152 (Int32.ofInt (m : Int)).toInt.toNat)), (3, .int (Int32.ofInt (m : Int))), (2, .int more), (0, .ref 100), (1, .int nn)] [.int (Int32.ofInt (-1)), .int b] S R Q
      refine w_br (P := ¬ b = (Int32.ofInt (-1))) rfl (fun _ => rfl) (fun h92 => ?_) (fun h92 => ?_)
      · have bb : 0 ≤ b.toInt ∧ b.toInt ≤ 4 ∧ _ := (hb.resolve_left h92)
        refine w_st rfl (fun _ => rfl) ?_
        show w_T L xs (d + 4) m_X12_laysPlaces 99 [(5, .int b), (4, .int (S 152 (Int32.ofInt (m : Int)).toInt.toNat)), (3, .int (Int32.ofInt (m : Int))), (2, .int more), (0, .ref 100), (1, .int nn)] [.ref 100] S R Q
        refine w_getr rfl v_tyM rfl ?_
        refine w_st rfl (fun _ => rfl) ?_
        refine w_st rfl (fun _ => rfl) ?_
        show w_T L xs (d + 4) m_X12_laysPlaces 105 [(5, .int b), (4, .int (S 152 (Int32.ofInt (m : Int)).toInt.toNat)), (3, .int (Int32.ofInt (m : Int))), (2, .int more), (0, .ref 100), (1, .int nn)] [.int (S 152 (Int32.ofInt (m : Int)).toInt.toNat), .ref 167, .int (S 152 (Int32.ofInt (m : Int)).toInt.toNat), .ref 167] S R Q
        refine w_iald rfl rfl (by omega) (by omega) ?_
        refine w_st rfl (fun _ => rfl) ?_
        refine w_st rfl (fun _ => rfl) ?_
        refine w_st rfl (fun _ => rfl) ?_
        refine w_st rfl (fun _ => rfl) ?_
        show w_T L xs (d + 4) m_X12_laysPlaces 111 [(5, .int b), (4, .int (S 152 (Int32.ofInt (m : Int)).toInt.toNat)), (3, .int (Int32.ofInt (m : Int))), (2, .int more), (0, .ref 100), (1, .int nn)] [.int ((S 166 (S 152 (Int32.ofInt (m : Int)).toInt.toNat).toInt.toNat) ||| ((Int32.ofInt 1) <<< (b &&& 31))), .int (S 152 (Int32.ofInt (m : Int)).toInt.toNat), .ref 167] S R Q
        refine w_iast rfl rfl (by omega) (by omega) ?_
        have hor := w_orc (tA _ (by omega)).1 (tA _ (by omega)).2 bb.1 bb.2.1 bb.2.2
        have hT3 : v_Tb v_ty (v_ur S 166 (upd (S 166) (S 152 (Int32.ofInt (m : Int)).toInt.toNat).toInt.toNat ((S 166 (S 152 (Int32.ofInt (m : Int)).toInt.toNat).toInt.toNat) ||| ((Int32.ofInt 1) <<< (b &&& 31))))) R := w_TbR hT (a := 166) rfl (by have := (tA (S 152 (Int32.ofInt (m : Int)).toInt.toNat).toInt.toNat (by omega)).1; omega) hor.2
        have hO3 : v_Op (v_ur S 166 (upd (S 166) (S 152 (Int32.ofInt (m : Int)).toInt.toNat).toInt.toNat ((S 166 (S 152 (Int32.ofInt (m : Int)).toInt.toNat).toInt.toNat) ||| ((Int32.ofInt 1) <<< (b &&& 31))))) := w_Op_ur (f2 _) hO
        have hF3 : v_Fr [(165, 0, 5), (166, 0, 12)] S R (v_ur S 166 (upd (S 166) (S 152 (Int32.ofInt (m : Int)).toInt.toNat).toInt.toNat ((S 166 (S 152 (Int32.ofInt (m : Int)).toInt.toNat).toInt.toNat) ||| ((Int32.ofInt 1) <<< (b &&& 31))))) R := v_Fr_ur _ _ _ (c2 _ (by omega))
        have hmu : v_mu 12 ((v_ur S 166 (upd (S 166) (S 152 (Int32.ofInt (m : Int)).toInt.toNat).toInt.toNat ((S 166 (S 152 (Int32.ofInt (m : Int)).toInt.toNat).toInt.toNat) ||| ((Int32.ofInt 1) <<< (b &&& 31))))) 166) < v_mu 12 (S 166) := by
          rw [v_ur_s]
          exact v_mu_lt hor.1 hor.2 (by omega)
        have tK : v_TbC (v_ur S 166 (upd (S 166) (S 152 (Int32.ofInt (m : Int)).toInt.toNat).toInt.toNat ((S 166 (S 152 (Int32.ofInt (m : Int)).toInt.toNat).toInt.toNat) ||| ((Int32.ofInt 1) <<< (b &&& 31))))) R 165 _ := hT3 165 _ rfl
        have kb := tK b.toInt.toNat (by omega)
        refine w_st rfl (fun _ => rfl) ?_
        refine w_st rfl (fun _ => rfl) ?_
        refine w_st rfl (fun _ => rfl) ?_
        refine w_st rfl (fun _ => rfl) ?_
        show w_T L xs (d + 4) m_X12_laysPlaces 118 [(5, .int b), (4, .int (S 152 (Int32.ofInt (m : Int)).toInt.toNat)), (3, .int (Int32.ofInt (m : Int))), (2, .int more), (0, .ref 100), (1, .int nn)] [.ref 100, .int (S 152 (Int32.ofInt (m : Int)).toInt.toNat), .int b, .ref 100] (v_ur S 166 (upd (S 166) (S 152 (Int32.ofInt (m : Int)).toInt.toNat).toInt.toNat ((S 166 (S 152 (Int32.ofInt (m : Int)).toInt.toNat).toInt.toNat) ||| ((Int32.ofInt 1) <<< (b &&& 31))))) R Q
        refine w_getr rfl v_tyM rfl ?_
        refine w_st rfl (fun _ => rfl) ?_
        show w_T L xs (d + 4) m_X12_laysPlaces 123 [(5, .int b), (4, .int (S 152 (Int32.ofInt (m : Int)).toInt.toNat)), (3, .int (Int32.ofInt (m : Int))), (2, .int more), (0, .ref 100), (1, .int nn)] [.int b, .ref 166, .int (S 152 (Int32.ofInt (m : Int)).toInt.toNat), .int b, .ref 100] (v_ur S 166 (upd (S 166) (S 152 (Int32.ofInt (m : Int)).toInt.toNat).toInt.toNat ((S 166 (S 152 (Int32.ofInt (m : Int)).toInt.toNat).toInt.toNat) ||| ((Int32.ofInt 1) <<< (b &&& 31))))) R Q
        refine w_iald rfl rfl (by omega) (by omega) ?_
        show w_T L xs (d + 4) m_X12_laysPlaces 124 [(5, .int b), (4, .int (S 152 (Int32.ofInt (m : Int)).toInt.toNat)), (3, .int (Int32.ofInt (m : Int))), (2, .int more), (0, .ref 100), (1, .int nn)] [.int ((v_ur S 166 (upd (S 166) (S 152 (Int32.ofInt (m : Int)).toInt.toNat).toInt.toNat ((S 166 (S 152 (Int32.ofInt (m : Int)).toInt.toNat).toInt.toNat) ||| ((Int32.ofInt 1) <<< (b &&& 31))))) 165 b.toInt.toNat), .int (S 152 (Int32.ofInt (m : Int)).toInt.toNat), .int b, .ref 100] (v_ur S 166 (upd (S 166) (S 152 (Int32.ofInt (m : Int)).toInt.toNat).toInt.toNat ((S 166 (S 152 (Int32.ofInt (m : Int)).toInt.toNat).toInt.toNat) ||| ((Int32.ofInt 1) <<< (b &&& 31))))) R Q
        refine w_cv rfl (by decide) mt_X12_isLiked v_tyM rfl rfl rfl (Nat.le_of_ble_eq_true rfl) (Nat.le_of_ble_eq_true rfl) (Nat.le_of_ble_eq_true rfl) ?_
        show w_T L xs _ m_X12_isLiked 0 (lv_args 0 [.ref 100, .int b, .int (S 152 (Int32.ofInt (m : Int)).toInt.toNat), .int ((v_ur S 166 (upd (S 166) (S 152 (Int32.ofInt (m : Int)).toInt.toNat).toInt.toNat ((S 166 (S 152 (Int32.ofInt (m : Int)).toInt.toNat).toInt.toNat) ||| ((Int32.ofInt 1) <<< (b &&& 31))))) 165 b.toInt.toNat)]) [] (v_ur S 166 (upd (S 166) (S 152 (Int32.ofInt (m : Int)).toInt.toNat).toInt.toNat ((S 166 (S 152 (Int32.ofInt (m : Int)).toInt.toNat).toInt.toNat) ||| ((Int32.ofInt 1) <<< (b &&& 31))))) R _
        refine w_met hK (Nat.le_of_ble_eq_true rfl) mt_X12_isLiked ⟨rfl, ⟨_, rfl, bb.1, bb.2.1⟩, ⟨_, rfl, gb.1, gb.2⟩, ⟨_, rfl, kb.1, kb.2⟩, trivial⟩ hT3 hO3 (fun r S1 R1 hT1 hO1 hr hF => ?_)
        obtain ⟨u2, hr, -, -⟩ := hr
        subst hr
        obtain ⟨rfl, rfl⟩ := v_Fr_nil hF
        show w_T L xs (d + 4) m_X12_laysPlaces 127 [(5, .int b), (4, .int (S 152 (Int32.ofInt (m : Int)).toInt.toNat)), (3, .int (Int32.ofInt (m : Int))), (2, .int more), (0, .ref 100), (1, .int nn)] [.int u2] (v_ur S 166 (upd (S 166) (S 152 (Int32.ofInt (m : Int)).toInt.toNat).toInt.toNat ((S 166 (S 152 (Int32.ofInt (m : Int)).toInt.toNat).toInt.toNat) ||| ((Int32.ofInt 1) <<< (b &&& 31))))) R Q
        refine w_br (P := u2 = 0) rfl (fun _ => rfl) (fun h127 => ?_) (fun h127 => ?_)
        · refine w_st rfl (fun _ => rfl) ?_
          refine w_st rfl (fun _ => rfl) ?_
          refine w_st rfl (fun _ => rfl) ?_
          refine w_st rfl (fun _ => rfl) ?_
          show w_T L xs (d + 4) m_X12_laysPlaces 55 [(3, .int ((Int32.ofInt (m : Int)) + Int32.ofInt 1)), (2, .int (Int32.ofInt 1)), (5, .int b), (4, .int (S 152 (Int32.ofInt (m : Int)).toInt.toNat)), (0, .ref 100), (1, .int nn)] [] (v_ur S 166 (upd (S 166) (S 152 (Int32.ofInt (m : Int)).toInt.toNat).toInt.toNat ((S 166 (S 152 (Int32.ofInt (m : Int)).toInt.toNat).toInt.toNat) ||| ((Int32.ofInt 1) <<< (b &&& 31))))) R Q
          rw [w_inc]
          exact K _ _ _ _ hT3 hO3 hF3 (Or.inl ⟨rfl, hmu⟩)
        · refine w_st rfl (fun _ => rfl) ?_
          show w_T L xs (d + 4) m_X12_laysPlaces 131 [(5, .int b), (4, .int (S 152 (Int32.ofInt (m : Int)).toInt.toNat)), (3, .int (Int32.ofInt (m : Int))), (2, .int more), (0, .ref 100), (1, .int nn)] [.ref 100] (v_ur S 166 (upd (S 166) (S 152 (Int32.ofInt (m : Int)).toInt.toNat).toInt.toNat ((S 166 (S 152 (Int32.ofInt (m : Int)).toInt.toNat).toInt.toNat) ||| ((Int32.ofInt 1) <<< (b &&& 31))))) R Q
          refine w_getr rfl v_tyM rfl ?_
          refine w_st rfl (fun _ => rfl) ?_
          refine w_st rfl (fun _ => rfl) ?_
          show w_T L xs (d + 4) m_X12_laysPlaces 138 [(5, .int b), (4, .int (S 152 (Int32.ofInt (m : Int)).toInt.toNat)), (3, .int (Int32.ofInt (m : Int))), (2, .int more), (0, .ref 100), (1, .int nn)] [.int (S 152 (Int32.ofInt (m : Int)).toInt.toNat), .int b, .ref 166] (v_ur S 166 (upd (S 166) (S 152 (Int32.ofInt (m : Int)).toInt.toNat).toInt.toNat ((S 166 (S 152 (Int32.ofInt (m : Int)).toInt.toNat).toInt.toNat) ||| ((Int32.ofInt 1) <<< (b &&& 31))))) R Q
          refine w_iast rfl rfl (by omega) (by omega) ?_
          refine w_st rfl (fun _ => rfl) ?_
          refine w_st rfl (fun _ => rfl) ?_
          refine w_st rfl (fun _ => rfl) ?_
          refine w_st rfl (fun _ => rfl) ?_
          show w_T L xs (d + 4) m_X12_laysPlaces 55 [(3, .int ((Int32.ofInt (m : Int)) + Int32.ofInt 1)), (2, .int (Int32.ofInt 1)), (5, .int b), (4, .int (S 152 (Int32.ofInt (m : Int)).toInt.toNat)), (0, .ref 100), (1, .int nn)] [] (v_ur (v_ur S 166 (upd (S 166) (S 152 (Int32.ofInt (m : Int)).toInt.toNat).toInt.toNat ((S 166 (S 152 (Int32.ofInt (m : Int)).toInt.toNat).toInt.toNat) ||| ((Int32.ofInt 1) <<< (b &&& 31))))) 165 (upd ((v_ur S 166 (upd (S 166) (S 152 (Int32.ofInt (m : Int)).toInt.toNat).toInt.toNat ((S 166 (S 152 (Int32.ofInt (m : Int)).toInt.toNat).toInt.toNat) ||| ((Int32.ofInt 1) <<< (b &&& 31))))) 165) b.toInt.toNat (S 152 (Int32.ofInt (m : Int)).toInt.toNat))) R Q
          rw [w_inc]
          exact K _ _ _ _ (w_TbR hT3 (a := 165) rfl (by omega) gb.2) (w_Op_ur (f1 _) hO3) (v_Fr_tr hF3 (v_Fr_ur _ _ _ (c1 _ (by omega)))) (Or.inl ⟨rfl, by rw [v_ur_n _ _ (by decide)]; exact hmu⟩)
      · refine w_st rfl (fun _ => rfl) ?_
        refine w_st rfl (fun _ => rfl) ?_
        refine w_st rfl (fun _ => rfl) ?_
        show w_T L xs (d + 4) m_X12_laysPlaces 55 [(3, .int ((Int32.ofInt (m : Int)) + Int32.ofInt 1)), (5, .int b), (4, .int (S 152 (Int32.ofInt (m : Int)).toInt.toNat)), (2, .int more), (0, .ref 100), (1, .int nn)] [] S R Q
        refine w_lc (b := [(3, .int ((Int32.ofInt (m : Int)) + Int32.ofInt 1)), (2, .int more), (5, .int b), (4, .int (S 152 (Int32.ofInt (m : Int)).toInt.toNat)), (0, .ref 100), (1, .int nn)]) (show ([3, 5, 4, 2, 0, 1] : List Nat).Nodup by decide) (show ([3, 2, 5, 4, 0, 1] : List Nat).Nodup by decide) (fun i => match i with | 0 => rfl | 1 => rfl | 2 => rfl | 3 => rfl | 4 => rfl | 5 => rfl | _ + 6 => rfl) ?_
        rw [w_inc]
        exact K _ _ _ _ hT hO (v_Fr_rf _ _ _) (Or.inr ⟨rfl, rfl⟩)
    · refine w_st rfl (fun _ => rfl) ?_
      refine w_st rfl (fun _ => rfl) ?_
      refine w_st rfl (fun _ => rfl) ?_
      refine w_st rfl (fun _ => rfl) ?_
      refine w_st rfl (fun _ => rfl) ?_
      show w_T L xs (d + 4) m_X12_laysPlaces 92 [(5, .int (Int32.ofInt (-1))), (4, .int (S 152 (Int32.ofInt (m : Int)).toInt.toNat)), (3, .int (Int32.ofInt (m : Int))), (2, .int more), (0, .ref 100), (1, .int nn)] [.int (Int32.ofInt (-1)), .int (Int32.ofInt (-1))] S R Q
      refine w_st rfl (fun _ => rfl) ?_
      refine w_st rfl (fun _ => rfl) ?_
      refine w_st rfl (fun _ => rfl) ?_
      refine w_st rfl (fun _ => rfl) ?_
      show w_T L xs (d + 4) m_X12_laysPlaces 55 [(3, .int ((Int32.ofInt (m : Int)) + Int32.ofInt 1)), (5, .int (Int32.ofInt (-1))), (4, .int (S 152 (Int32.ofInt (m : Int)).toInt.toNat)), (2, .int more), (0, .ref 100), (1, .int nn)] [] S R Q
      refine w_lc (b := [(3, .int ((Int32.ofInt (m : Int)) + Int32.ofInt 1)), (2, .int more), (5, .int (Int32.ofInt (-1))), (4, .int (S 152 (Int32.ofInt (m : Int)).toInt.toNat)), (0, .ref 100), (1, .int nn)]) (show ([3, 5, 4, 2, 0, 1] : List Nat).Nodup by decide) (show ([3, 2, 5, 4, 0, 1] : List Nat).Nodup by decide) (fun i => match i with | 0 => rfl | 1 => rfl | 2 => rfl | 3 => rfl | 4 => rfl | 5 => rfl | _ + 6 => rfl) ?_
      rw [w_inc]
      exact K _ _ _ _ hT hO (v_Fr_rf _ _ _) (Or.inr ⟨rfl, rfl⟩)
set_option maxHeartbeats 1000000 in
theorem h_lpbB (hH : v_Met L xs v_ty v_Op 273 rw_241) (hA : v_Met L xs v_ty v_Op 276 rw_244) (hK : v_Met L xs v_ty v_Op 274 rw_242) (S : v_Sf) (R : v_Rf) (nn more g0 k0 : Int32) (m : Nat) (hm : (m : Int) < nn.toInt) (hn : nn.toInt ≤ 6) (hT : v_Tb v_ty S R) (hO : v_Op S) (K : ∀ (S' : v_Sf) (more' g' k' : Int32), v_Tb v_ty S' R → v_Op S' → v_Fr [(165, 0, 5), (166, 0, 12)] S R S' R → (more' = Int32.ofInt 1 ∧ v_mu 12 (S' 166) < v_mu 12 (S 166) ∨ more' = more ∧ S' = S) → w_T L xs (d + 4) m_X12_laysPlaces 55 [(3, .int (Int32.ofInt ((m + 1 : Nat) : Int))), (2, .int more'), (5, .int k'), (4, .int g'), (0, .ref 100), (1, .int nn)] [] S' R Q) : w_T L xs (d + 4) m_X12_laysPlaces 55 [(3, .int (Int32.ofInt (m : Int))), (2, .int more), (5, .int k0), (4, .int g0), (0, .ref 100), (1, .int nn)] [] S R Q := by
  have em := w_nat (k := m) (by omega)
  have emn : (Int32.ofInt (m : Int)).toInt.toNat = m := by rw [em]; omega
  have tS : v_TbC S R 152 _ := hT 152 _ rfl
  have tA : v_TbC S R 166 _ := hT 166 _ rfl
  have gb : 0 ≤ (S 152 (Int32.ofInt (m : Int)).toInt.toNat).toInt ∧ (S 152 (Int32.ofInt (m : Int)).toInt.toNat).toInt ≤ 11 := tS _ (by rw [emn]; omega)
  have f1 : ∀ j, v_frz 165 j j = false := fun j => rfl
  have f2 : ∀ j, v_frz 166 j j = false := fun j => rfl
  have c1 : ∀ j, j ≤ 5 → v_md [(165, 0, 5), (166, 0, 12)] 165 j j = true := fun j hj => v_md_mono (lo := 0) (hi := 5) (by decide +kernel) (Nat.zero_le _) hj
  have c2 : ∀ j, j ≤ 12 → v_md [(165, 0, 5), (166, 0, 12)] 166 j j = true := fun j hj => v_md_mono (lo := 0) (hi := 12) (by decide +kernel) (Nat.zero_le _) hj
  refine w_st rfl (fun _ => rfl) ?_
  refine w_st rfl (fun _ => rfl) ?_
  show w_T L xs (d + 4) m_X12_laysPlaces 57 [(3, .int (Int32.ofInt (m : Int))), (2, .int more), (5, .int k0), (4, .int g0), (0, .ref 100), (1, .int nn)] [.int nn, .int (Int32.ofInt (m : Int))] S R Q
  refine w_br (P := nn ≤ (Int32.ofInt (m : Int))) rfl (fun _ => rfl) (fun h57 => ?_) (fun h57 => ?_)
  · exfalso; rw [q_le32, em] at h57; omega
  · refine w_st rfl (fun _ => rfl) ?_
    show w_T L xs (d + 4) m_X12_laysPlaces 61 [(3, .int (Int32.ofInt (m : Int))), (2, .int more), (5, .int k0), (4, .int g0), (0, .ref 100), (1, .int nn)] [.ref 100] S R Q
    refine w_getr rfl v_tyM rfl ?_
    refine w_st rfl (fun _ => rfl) ?_
    show w_T L xs (d + 4) m_X12_laysPlaces 65 [(3, .int (Int32.ofInt (m : Int))), (2, .int more), (5, .int k0), (4, .int g0), (0, .ref 100), (1, .int nn)] [.int (Int32.ofInt (m : Int)), .ref 153] S R Q
    refine w_iald rfl rfl (by rw [em]; omega) (by rw [em]; omega) ?_
    refine w_st rfl (fun _ => rfl) ?_
    refine w_st rfl (fun _ => rfl) ?_
    refine w_st rfl (fun _ => rfl) ?_
    show w_T L xs (d + 4) m_X12_laysPlaces 71 [(4, .int (S 152 (Int32.ofInt (m : Int)).toInt.toNat)), (3, .int (Int32.ofInt (m : Int))), (2, .int more), (5, .int k0), (0, .ref 100), (1, .int nn)] [.int (S 152 (Int32.ofInt (m : Int)).toInt.toNat), .ref 100] S R Q
    refine w_cv rfl (by decide) mt_X12_isAnywhere v_tyM rfl rfl rfl (Nat.le_of_ble_eq_true rfl) (Nat.le_of_ble_eq_true rfl) (Nat.le_of_ble_eq_true rfl) ?_
    show w_T L xs _ m_X12_isAnywhere 0 (lv_args 0 [.ref 100, .int (S 152 (Int32.ofInt (m : Int)).toInt.toNat)]) [] S R _
    refine w_met hA (Nat.zero_le _) mt_X12_isAnywhere ⟨rfl, ⟨_, rfl, (q_rng _).1, (q_rng _).2⟩, trivial⟩ hT hO (fun r S1 R1 hT1 hO1 hr hF => ?_)
    obtain ⟨u, hr, -, -⟩ := hr
    subst hr
    obtain ⟨rfl, rfl⟩ := v_Fr_nil hF
    show w_T L xs (d + 4) m_X12_laysPlaces 74 [(4, .int (S 152 (Int32.ofInt (m : Int)).toInt.toNat)), (3, .int (Int32.ofInt (m : Int))), (2, .int more), (5, .int k0), (0, .ref 100), (1, .int nn)] [.int u] S R Q
    refine w_br (P := u = 0) rfl (fun _ => rfl) (fun h74 => ?_) (fun h74 => ?_)
    · refine w_st rfl (fun _ => rfl) ?_
      refine w_st rfl (fun _ => rfl) ?_
      show w_T L xs (d + 4) m_X12_laysPlaces 84 [(4, .int (S 152 (Int32.ofInt (m : Int)).toInt.toNat)), (3, .int (Int32.ofInt (m : Int))), (2, .int more), (5, .int k0), (0, .ref 100), (1, .int nn)] [.int (S 152 (Int32.ofInt (m : Int)).toInt.toNat), .ref 100] S R Q
      refine w_cv rfl (by decide) mt_X12_asksNext v_tyM rfl rfl rfl (Nat.le_of_ble_eq_true rfl) (Nat.le_of_ble_eq_true rfl) (Nat.le_of_ble_eq_true rfl) ?_
      show w_T L xs _ m_X12_asksNext 0 (lv_args 0 [.ref 100, .int (S 152 (Int32.ofInt (m : Int)).toInt.toNat)]) [] S R _
      refine h_asks (d := d + 1) hH S R _ gb.1 gb.2 hT hO (fun b hb => ?_)
      refine w_st rfl (fun _ => rfl) ?_
      refine w_st rfl (fun _ => rfl) ?_
      refine w_st rfl (fun _ => rfl) ?_
      show w_T L xs (d + 4) m_X12_laysPlaces 92 [(5, .int b), (4, .int (S 152 (Int32.ofInt (m : Int)).toInt.toNat)), (3, .int (Int32.ofInt (m : Int))), (2, .int more), (0, .ref 100), (1, .int nn)] [.int (Int32.ofInt (-1)), .int b] S R Q
      refine w_br (P := ¬ b = (Int32.ofInt (-1))) rfl (fun _ => rfl) (fun h92 => ?_) (fun h92 => ?_)
      · have bb : 0 ≤ b.toInt ∧ b.toInt ≤ 4 ∧ _ := (hb.resolve_left h92)
        refine w_st rfl (fun _ => rfl) ?_
        show w_T L xs (d + 4) m_X12_laysPlaces 99 [(5, .int b), (4, .int (S 152 (Int32.ofInt (m : Int)).toInt.toNat)), (3, .int (Int32.ofInt (m : Int))), (2, .int more), (0, .ref 100), (1, .int nn)] [.ref 100] S R Q
        refine w_getr rfl v_tyM rfl ?_
        refine w_st rfl (fun _ => rfl) ?_
        refine w_st rfl (fun _ => rfl) ?_
        show w_T L xs (d + 4) m_X12_laysPlaces 105 [(5, .int b), (4, .int (S 152 (Int32.ofInt (m : Int)).toInt.toNat)), (3, .int (Int32.ofInt (m : Int))), (2, .int more), (0, .ref 100), (1, .int nn)] [.int (S 152 (Int32.ofInt (m : Int)).toInt.toNat), .ref 167, .int (S 152 (Int32.ofInt (m : Int)).toInt.toNat), .ref 167] S R Q
        refine w_iald rfl rfl (by omega) (by omega) ?_
        refine w_st rfl (fun _ => rfl) ?_
        refine w_st rfl (fun _ => rfl) ?_
        refine w_st rfl (fun _ => rfl) ?_
        refine w_st rfl (fun _ => rfl) ?_
        show w_T L xs (d + 4) m_X12_laysPlaces 111 [(5, .int b), (4, .int (S 152 (Int32.ofInt (m : Int)).toInt.toNat)), (3, .int (Int32.ofInt (m : Int))), (2, .int more), (0, .ref 100), (1, .int nn)] [.int ((S 166 (S 152 (Int32.ofInt (m : Int)).toInt.toNat).toInt.toNat) ||| ((Int32.ofInt 1) <<< (b &&& 31))), .int (S 152 (Int32.ofInt (m : Int)).toInt.toNat), .ref 167] S R Q
        refine w_iast rfl rfl (by omega) (by omega) ?_
        have hor := w_orc (tA _ (by omega)).1 (tA _ (by omega)).2 bb.1 bb.2.1 bb.2.2
        have hT3 : v_Tb v_ty (v_ur S 166 (upd (S 166) (S 152 (Int32.ofInt (m : Int)).toInt.toNat).toInt.toNat ((S 166 (S 152 (Int32.ofInt (m : Int)).toInt.toNat).toInt.toNat) ||| ((Int32.ofInt 1) <<< (b &&& 31))))) R := w_TbR hT (a := 166) rfl (by have := (tA (S 152 (Int32.ofInt (m : Int)).toInt.toNat).toInt.toNat (by omega)).1; omega) hor.2
        have hO3 : v_Op (v_ur S 166 (upd (S 166) (S 152 (Int32.ofInt (m : Int)).toInt.toNat).toInt.toNat ((S 166 (S 152 (Int32.ofInt (m : Int)).toInt.toNat).toInt.toNat) ||| ((Int32.ofInt 1) <<< (b &&& 31))))) := w_Op_ur (f2 _) hO
        have hF3 : v_Fr [(165, 0, 5), (166, 0, 12)] S R (v_ur S 166 (upd (S 166) (S 152 (Int32.ofInt (m : Int)).toInt.toNat).toInt.toNat ((S 166 (S 152 (Int32.ofInt (m : Int)).toInt.toNat).toInt.toNat) ||| ((Int32.ofInt 1) <<< (b &&& 31))))) R := v_Fr_ur _ _ _ (c2 _ (by omega))
        have hmu : v_mu 12 ((v_ur S 166 (upd (S 166) (S 152 (Int32.ofInt (m : Int)).toInt.toNat).toInt.toNat ((S 166 (S 152 (Int32.ofInt (m : Int)).toInt.toNat).toInt.toNat) ||| ((Int32.ofInt 1) <<< (b &&& 31))))) 166) < v_mu 12 (S 166) := by
          rw [v_ur_s]
          exact v_mu_lt hor.1 hor.2 (by omega)
        have tK : v_TbC (v_ur S 166 (upd (S 166) (S 152 (Int32.ofInt (m : Int)).toInt.toNat).toInt.toNat ((S 166 (S 152 (Int32.ofInt (m : Int)).toInt.toNat).toInt.toNat) ||| ((Int32.ofInt 1) <<< (b &&& 31))))) R 165 _ := hT3 165 _ rfl
        have kb := tK b.toInt.toNat (by omega)
        refine w_st rfl (fun _ => rfl) ?_
        refine w_st rfl (fun _ => rfl) ?_
        refine w_st rfl (fun _ => rfl) ?_
        refine w_st rfl (fun _ => rfl) ?_
        show w_T L xs (d + 4) m_X12_laysPlaces 118 [(5, .int b), (4, .int (S 152 (Int32.ofInt (m : Int)).toInt.toNat)), (3, .int (Int32.ofInt (m : Int))), (2, .int more), (0, .ref 100), (1, .int nn)] [.ref 100, .int (S 152 (Int32.ofInt (m : Int)).toInt.toNat), .int b, .ref 100] (v_ur S 166 (upd (S 166) (S 152 (Int32.ofInt (m : Int)).toInt.toNat).toInt.toNat ((S 166 (S 152 (Int32.ofInt (m : Int)).toInt.toNat).toInt.toNat) ||| ((Int32.ofInt 1) <<< (b &&& 31))))) R Q
        refine w_getr rfl v_tyM rfl ?_
        refine w_st rfl (fun _ => rfl) ?_
        show w_T L xs (d + 4) m_X12_laysPlaces 123 [(5, .int b), (4, .int (S 152 (Int32.ofInt (m : Int)).toInt.toNat)), (3, .int (Int32.ofInt (m : Int))), (2, .int more), (0, .ref 100), (1, .int nn)] [.int b, .ref 166, .int (S 152 (Int32.ofInt (m : Int)).toInt.toNat), .int b, .ref 100] (v_ur S 166 (upd (S 166) (S 152 (Int32.ofInt (m : Int)).toInt.toNat).toInt.toNat ((S 166 (S 152 (Int32.ofInt (m : Int)).toInt.toNat).toInt.toNat) ||| ((Int32.ofInt 1) <<< (b &&& 31))))) R Q
        refine w_iald rfl rfl (by omega) (by omega) ?_
        show w_T L xs (d + 4) m_X12_laysPlaces 124 [(5, .int b), (4, .int (S 152 (Int32.ofInt (m : Int)).toInt.toNat)), (3, .int (Int32.ofInt (m : Int))), (2, .int more), (0, .ref 100), (1, .int nn)] [.int ((v_ur S 166 (upd (S 166) (S 152 (Int32.ofInt (m : Int)).toInt.toNat).toInt.toNat ((S 166 (S 152 (Int32.ofInt (m : Int)).toInt.toNat).toInt.toNat) ||| ((Int32.ofInt 1) <<< (b &&& 31))))) 165 b.toInt.toNat), .int (S 152 (Int32.ofInt (m : Int)).toInt.toNat), .int b, .ref 100] (v_ur S 166 (upd (S 166) (S 152 (Int32.ofInt (m : Int)).toInt.toNat).toInt.toNat ((S 166 (S 152 (Int32.ofInt (m : Int)).toInt.toNat).toInt.toNat) ||| ((Int32.ofInt 1) <<< (b &&& 31))))) R Q
        refine w_cv rfl (by decide) mt_X12_isLiked v_tyM rfl rfl rfl (Nat.le_of_ble_eq_true rfl) (Nat.le_of_ble_eq_true rfl) (Nat.le_of_ble_eq_true rfl) ?_
        show w_T L xs _ m_X12_isLiked 0 (lv_args 0 [.ref 100, .int b, .int (S 152 (Int32.ofInt (m : Int)).toInt.toNat), .int ((v_ur S 166 (upd (S 166) (S 152 (Int32.ofInt (m : Int)).toInt.toNat).toInt.toNat ((S 166 (S 152 (Int32.ofInt (m : Int)).toInt.toNat).toInt.toNat) ||| ((Int32.ofInt 1) <<< (b &&& 31))))) 165 b.toInt.toNat)]) [] (v_ur S 166 (upd (S 166) (S 152 (Int32.ofInt (m : Int)).toInt.toNat).toInt.toNat ((S 166 (S 152 (Int32.ofInt (m : Int)).toInt.toNat).toInt.toNat) ||| ((Int32.ofInt 1) <<< (b &&& 31))))) R _
        refine w_met hK (Nat.le_of_ble_eq_true rfl) mt_X12_isLiked ⟨rfl, ⟨_, rfl, bb.1, bb.2.1⟩, ⟨_, rfl, gb.1, gb.2⟩, ⟨_, rfl, kb.1, kb.2⟩, trivial⟩ hT3 hO3 (fun r S1 R1 hT1 hO1 hr hF => ?_)
        obtain ⟨u2, hr, -, -⟩ := hr
        subst hr
        obtain ⟨rfl, rfl⟩ := v_Fr_nil hF
        show w_T L xs (d + 4) m_X12_laysPlaces 127 [(5, .int b), (4, .int (S 152 (Int32.ofInt (m : Int)).toInt.toNat)), (3, .int (Int32.ofInt (m : Int))), (2, .int more), (0, .ref 100), (1, .int nn)] [.int u2] (v_ur S 166 (upd (S 166) (S 152 (Int32.ofInt (m : Int)).toInt.toNat).toInt.toNat ((S 166 (S 152 (Int32.ofInt (m : Int)).toInt.toNat).toInt.toNat) ||| ((Int32.ofInt 1) <<< (b &&& 31))))) R Q
        refine w_br (P := u2 = 0) rfl (fun _ => rfl) (fun h127 => ?_) (fun h127 => ?_)
        · refine w_st rfl (fun _ => rfl) ?_
          refine w_st rfl (fun _ => rfl) ?_
          refine w_st rfl (fun _ => rfl) ?_
          refine w_st rfl (fun _ => rfl) ?_
          show w_T L xs (d + 4) m_X12_laysPlaces 55 [(3, .int ((Int32.ofInt (m : Int)) + Int32.ofInt 1)), (2, .int (Int32.ofInt 1)), (5, .int b), (4, .int (S 152 (Int32.ofInt (m : Int)).toInt.toNat)), (0, .ref 100), (1, .int nn)] [] (v_ur S 166 (upd (S 166) (S 152 (Int32.ofInt (m : Int)).toInt.toNat).toInt.toNat ((S 166 (S 152 (Int32.ofInt (m : Int)).toInt.toNat).toInt.toNat) ||| ((Int32.ofInt 1) <<< (b &&& 31))))) R Q
          rw [w_inc]
          exact K _ _ _ _ hT3 hO3 hF3 (Or.inl ⟨rfl, hmu⟩)
        · refine w_st rfl (fun _ => rfl) ?_
          show w_T L xs (d + 4) m_X12_laysPlaces 131 [(5, .int b), (4, .int (S 152 (Int32.ofInt (m : Int)).toInt.toNat)), (3, .int (Int32.ofInt (m : Int))), (2, .int more), (0, .ref 100), (1, .int nn)] [.ref 100] (v_ur S 166 (upd (S 166) (S 152 (Int32.ofInt (m : Int)).toInt.toNat).toInt.toNat ((S 166 (S 152 (Int32.ofInt (m : Int)).toInt.toNat).toInt.toNat) ||| ((Int32.ofInt 1) <<< (b &&& 31))))) R Q
          refine w_getr rfl v_tyM rfl ?_
          refine w_st rfl (fun _ => rfl) ?_
          refine w_st rfl (fun _ => rfl) ?_
          show w_T L xs (d + 4) m_X12_laysPlaces 138 [(5, .int b), (4, .int (S 152 (Int32.ofInt (m : Int)).toInt.toNat)), (3, .int (Int32.ofInt (m : Int))), (2, .int more), (0, .ref 100), (1, .int nn)] [.int (S 152 (Int32.ofInt (m : Int)).toInt.toNat), .int b, .ref 166] (v_ur S 166 (upd (S 166) (S 152 (Int32.ofInt (m : Int)).toInt.toNat).toInt.toNat ((S 166 (S 152 (Int32.ofInt (m : Int)).toInt.toNat).toInt.toNat) ||| ((Int32.ofInt 1) <<< (b &&& 31))))) R Q
          refine w_iast rfl rfl (by omega) (by omega) ?_
          refine w_st rfl (fun _ => rfl) ?_
          refine w_st rfl (fun _ => rfl) ?_
          refine w_st rfl (fun _ => rfl) ?_
          refine w_st rfl (fun _ => rfl) ?_
          show w_T L xs (d + 4) m_X12_laysPlaces 55 [(3, .int ((Int32.ofInt (m : Int)) + Int32.ofInt 1)), (2, .int (Int32.ofInt 1)), (5, .int b), (4, .int (S 152 (Int32.ofInt (m : Int)).toInt.toNat)), (0, .ref 100), (1, .int nn)] [] (v_ur (v_ur S 166 (upd (S 166) (S 152 (Int32.ofInt (m : Int)).toInt.toNat).toInt.toNat ((S 166 (S 152 (Int32.ofInt (m : Int)).toInt.toNat).toInt.toNat) ||| ((Int32.ofInt 1) <<< (b &&& 31))))) 165 (upd ((v_ur S 166 (upd (S 166) (S 152 (Int32.ofInt (m : Int)).toInt.toNat).toInt.toNat ((S 166 (S 152 (Int32.ofInt (m : Int)).toInt.toNat).toInt.toNat) ||| ((Int32.ofInt 1) <<< (b &&& 31))))) 165) b.toInt.toNat (S 152 (Int32.ofInt (m : Int)).toInt.toNat))) R Q
          rw [w_inc]
          exact K _ _ _ _ (w_TbR hT3 (a := 165) rfl (by omega) gb.2) (w_Op_ur (f1 _) hO3) (v_Fr_tr hF3 (v_Fr_ur _ _ _ (c1 _ (by omega)))) (Or.inl ⟨rfl, by rw [v_ur_n _ _ (by decide)]; exact hmu⟩)
      · refine w_st rfl (fun _ => rfl) ?_
        refine w_st rfl (fun _ => rfl) ?_
        refine w_st rfl (fun _ => rfl) ?_
        show w_T L xs (d + 4) m_X12_laysPlaces 55 [(3, .int ((Int32.ofInt (m : Int)) + Int32.ofInt 1)), (5, .int b), (4, .int (S 152 (Int32.ofInt (m : Int)).toInt.toNat)), (2, .int more), (0, .ref 100), (1, .int nn)] [] S R Q
        refine w_lc (b := [(3, .int ((Int32.ofInt (m : Int)) + Int32.ofInt 1)), (2, .int more), (5, .int b), (4, .int (S 152 (Int32.ofInt (m : Int)).toInt.toNat)), (0, .ref 100), (1, .int nn)]) (show ([3, 5, 4, 2, 0, 1] : List Nat).Nodup by decide) (show ([3, 2, 5, 4, 0, 1] : List Nat).Nodup by decide) (fun i => match i with | 0 => rfl | 1 => rfl | 2 => rfl | 3 => rfl | 4 => rfl | 5 => rfl | _ + 6 => rfl) ?_
        rw [w_inc]
        exact K _ _ _ _ hT hO (v_Fr_rf _ _ _) (Or.inr ⟨rfl, rfl⟩)
    · refine w_st rfl (fun _ => rfl) ?_
      refine w_st rfl (fun _ => rfl) ?_
      refine w_st rfl (fun _ => rfl) ?_
      refine w_st rfl (fun _ => rfl) ?_
      refine w_st rfl (fun _ => rfl) ?_
      show w_T L xs (d + 4) m_X12_laysPlaces 92 [(5, .int (Int32.ofInt (-1))), (4, .int (S 152 (Int32.ofInt (m : Int)).toInt.toNat)), (3, .int (Int32.ofInt (m : Int))), (2, .int more), (0, .ref 100), (1, .int nn)] [.int (Int32.ofInt (-1)), .int (Int32.ofInt (-1))] S R Q
      refine w_st rfl (fun _ => rfl) ?_
      refine w_st rfl (fun _ => rfl) ?_
      refine w_st rfl (fun _ => rfl) ?_
      refine w_st rfl (fun _ => rfl) ?_
      show w_T L xs (d + 4) m_X12_laysPlaces 55 [(3, .int ((Int32.ofInt (m : Int)) + Int32.ofInt 1)), (5, .int (Int32.ofInt (-1))), (4, .int (S 152 (Int32.ofInt (m : Int)).toInt.toNat)), (2, .int more), (0, .ref 100), (1, .int nn)] [] S R Q
      refine w_lc (b := [(3, .int ((Int32.ofInt (m : Int)) + Int32.ofInt 1)), (2, .int more), (5, .int (Int32.ofInt (-1))), (4, .int (S 152 (Int32.ofInt (m : Int)).toInt.toNat)), (0, .ref 100), (1, .int nn)]) (show ([3, 5, 4, 2, 0, 1] : List Nat).Nodup by decide) (show ([3, 2, 5, 4, 0, 1] : List Nat).Nodup by decide) (fun i => match i with | 0 => rfl | 1 => rfl | 2 => rfl | 3 => rfl | 4 => rfl | 5 => rfl | _ + 6 => rfl) ?_
      rw [w_inc]
      exact K _ _ _ _ hT hO (v_Fr_rf _ _ _) (Or.inr ⟨rfl, rfl⟩)
theorem h_lpf (hH : v_Met L xs v_ty v_Op 273 rw_241) (hA : v_Met L xs v_ty v_Op 276 rw_244) (hK : v_Met L xs v_ty v_Op 274 rw_242) (R : v_Rf) (nn : Int32) (n1 : 1 ≤ nn.toInt) (hn : nn.toInt ≤ 6) (μ : Nat) : ∀ (c m : Nat) (S : v_Sf) (more g0 k0 : Int32), ((m + c : Nat) : Int) = nn.toInt → v_Tb v_ty S R → v_Op S → (more = Int32.ofInt 1 ∧ v_mu 12 (S 166) < μ ∨ more = Int32.ofInt 0 ∧ v_mu 12 (S 166) ≤ μ) → (∀ (S' : v_Sf) (more' mm g' k' : Int32), v_Tb v_ty S' R → v_Op S' → v_Fr [(165, 0, 5), (166, 0, 12)] S R S' R → (more' = Int32.ofInt 1 ∧ v_mu 12 (S' 166) < μ ∨ more' = Int32.ofInt 0) → w_T L xs (d + 4) m_X12_laysPlaces 47 [(2, .int (more')), (3, .int mm), (5, .int (k')), (4, .int (g')), (0, .ref 100), (1, .int nn)] [] S' R Q) → w_T L xs (d + 4) m_X12_laysPlaces 55 [(3, .int (Int32.ofInt (m : Int))), (2, .int more), (5, .int k0), (4, .int g0), (0, .ref 100), (1, .int nn)] [] S R Q := by
  intro c
  induction c with
  | zero =>
    intro m S more g0 k0 hc hT hO hmu K
    have em := w_nat (k := m) (by omega)
    refine w_st rfl (fun _ => rfl) ?_
    refine w_st rfl (fun _ => rfl) ?_
    show w_T L xs (d + 4) m_X12_laysPlaces 57 [(3, .int (Int32.ofInt (m : Int))), (2, .int more), (5, .int k0), (4, .int g0), (0, .ref 100), (1, .int nn)] [.int nn, .int (Int32.ofInt (m : Int))] S R Q
    refine w_br (P := nn ≤ (Int32.ofInt (m : Int))) rfl (fun _ => rfl) (fun h57 => ?_) (fun h57 => ?_)
    · refine w_st rfl (fun _ => rfl) ?_
      show w_T L xs (d + 4) m_X12_laysPlaces 47 [(3, .int (Int32.ofInt (m : Int))), (2, .int more), (5, .int k0), (4, .int g0), (0, .ref 100), (1, .int nn)] [] S R Q
      refine w_lc (b := [(2, .int more), (3, .int (Int32.ofInt (m : Int))), (5, .int k0), (4, .int g0), (0, .ref 100), (1, .int nn)]) (show ([3, 2, 5, 4, 0, 1] : List Nat).Nodup by decide) (show ([2, 3, 5, 4, 0, 1] : List Nat).Nodup by decide) (fun i => match i with | 0 => rfl | 1 => rfl | 2 => rfl | 3 => rfl | 4 => rfl | 5 => rfl | _ + 6 => rfl) ?_
      exact K S _ _ _ _ hT hO (v_Fr_rf _ _ _) (hmu.imp id (fun h => h.1))
    · exfalso; rw [q_le32, em] at h57; omega
  | succ c ih =>
    intro m S more g0 k0 hc hT hO hmu K
    refine h_lpbB hH hA hK S R nn more g0 k0 m (by omega) hn hT hO (fun S' more' g' k' k1 k2 k3 k4 => ?_)
    refine ih (m + 1) S' more' g' k' (by omega) k1 k2 ?_ (fun S2 m2 mm g2 k2' q1 q2 q3 q4 => K S2 m2 mm g2 k2' q1 q2 (v_Fr_tr k3 q3) q4)
    rcases k4 with ⟨e, h⟩ | ⟨e, h⟩
    · refine Or.inl ⟨e, ?_⟩
      rcases hmu with h2 | h2
      · omega
      · omega
    · subst h
      rw [e]
      exact hmu
theorem h_lpw (hH : v_Met L xs v_ty v_Op 273 rw_241) (hA : v_Met L xs v_ty v_Op 276 rw_244) (hK : v_Met L xs v_ty v_Op 274 rw_242) (R : v_Rf) (nn : Int32) (n1 : 1 ≤ nn.toInt) (hn : nn.toInt ≤ 6) : ∀ (μ : Nat) (S : v_Sf) (more' mm g' k' : Int32), v_mu 12 (S 166) ≤ μ → (more' = Int32.ofInt 1 ∨ more' = Int32.ofInt 0) → v_Tb v_ty S R → v_Op S → (∀ S', v_Tb v_ty S' R → v_Op S' → v_Fr [(165, 0, 5), (166, 0, 12)] S R S' R → Q none S' R) → w_T L xs (d + 4) m_X12_laysPlaces 47 [(2, .int (more')), (3, .int mm), (5, .int (k')), (4, .int (g')), (0, .ref 100), (1, .int nn)] [] S R Q := by
  intro μ
  induction μ with
  | zero =>
    intro S more' mm g' k' hmu hmo hT hO hq
    rcases hmo with rfl | rfl
    · refine w_st rfl (fun _ => rfl) ?_
      show w_T L xs (d + 4) m_X12_laysPlaces 48 [(2, .int (Int32.ofInt 1)), (3, .int mm), (5, .int (k')), (4, .int (g')), (0, .ref 100), (1, .int nn)] [.int (Int32.ofInt 1)] S R Q
      refine w_st rfl (fun _ => rfl) ?_
      refine w_st rfl (fun _ => rfl) ?_
      refine w_st rfl (fun _ => rfl) ?_
      refine w_st rfl (fun _ => rfl) ?_
      refine w_st rfl (fun _ => rfl) ?_
      show w_T L xs (d + 4) m_X12_laysPlaces 55 [(3, .int (Int32.ofInt 0)), (2, .int (Int32.ofInt 0)), (5, .int (k')), (4, .int (g')), (0, .ref 100), (1, .int nn)] [] S R Q
      refine h_lpf hH hA hK R nn n1 hn (v_mu 12 (S 166)) nn.toInt.toNat 0 S _ _ _ (by omega) hT hO (Or.inr ⟨rfl, Nat.le_refl _⟩) (fun S1 m1 m2 g1 k1 q1 q2 q3 q4 => ?_)
      rcases q4 with ⟨e, h⟩ | e
      · omega
      · subst e
        refine w_st rfl (fun _ => rfl) ?_
        show w_T L xs (d + 4) m_X12_laysPlaces 48 [(2, .int (Int32.ofInt 0)), (3, .int m2), (5, .int k1), (4, .int g1), (0, .ref 100), (1, .int nn)] [.int (Int32.ofInt 0)] S1 R Q
        refine w_st rfl (fun _ => rfl) ?_
        show w_T L xs (d + 4) m_X12_laysPlaces 150 [(2, .int (Int32.ofInt 0)), (3, .int m2), (5, .int k1), (4, .int g1), (0, .ref 100), (1, .int nn)] [] S1 R Q
        refine w_ret rfl rfl ?_
        exact hq S1 q1 q2 q3
    · refine w_st rfl (fun _ => rfl) ?_
      show w_T L xs (d + 4) m_X12_laysPlaces 48 [(2, .int (Int32.ofInt 0)), (3, .int mm), (5, .int (k')), (4, .int (g')), (0, .ref 100), (1, .int nn)] [.int (Int32.ofInt 0)] S R Q
      refine w_st rfl (fun _ => rfl) ?_
      show w_T L xs (d + 4) m_X12_laysPlaces 150 [(2, .int (Int32.ofInt 0)), (3, .int mm), (5, .int (k')), (4, .int (g')), (0, .ref 100), (1, .int nn)] [] S R Q
      refine w_ret rfl rfl ?_
      exact hq S hT hO (v_Fr_rf _ _ _)
  | succ μ ih =>
    intro S more' mm g' k' hmu hmo hT hO hq
    rcases hmo with rfl | rfl
    · refine w_st rfl (fun _ => rfl) ?_
      show w_T L xs (d + 4) m_X12_laysPlaces 48 [(2, .int (Int32.ofInt 1)), (3, .int mm), (5, .int (k')), (4, .int (g')), (0, .ref 100), (1, .int nn)] [.int (Int32.ofInt 1)] S R Q
      refine w_st rfl (fun _ => rfl) ?_
      refine w_st rfl (fun _ => rfl) ?_
      refine w_st rfl (fun _ => rfl) ?_
      refine w_st rfl (fun _ => rfl) ?_
      refine w_st rfl (fun _ => rfl) ?_
      show w_T L xs (d + 4) m_X12_laysPlaces 55 [(3, .int (Int32.ofInt 0)), (2, .int (Int32.ofInt 0)), (5, .int (k')), (4, .int (g')), (0, .ref 100), (1, .int nn)] [] S R Q
      refine h_lpf hH hA hK R nn n1 hn (v_mu 12 (S 166)) nn.toInt.toNat 0 S _ _ _ (by omega) hT hO (Or.inr ⟨rfl, Nat.le_refl _⟩) (fun S1 m1 m2 g1 k1 q1 q2 q3 q4 => ?_)
      rcases q4 with ⟨e, h⟩ | e
      · exact ih S1 m1 m2 g1 k1 (by omega) (Or.inl e) q1 q2 (fun S2 a1 a2 a3 => hq S2 a1 a2 (v_Fr_tr q3 a3))
      · subst e
        refine w_st rfl (fun _ => rfl) ?_
        show w_T L xs (d + 4) m_X12_laysPlaces 48 [(2, .int (Int32.ofInt 0)), (3, .int m2), (5, .int k1), (4, .int g1), (0, .ref 100), (1, .int nn)] [.int (Int32.ofInt 0)] S1 R Q
        refine w_st rfl (fun _ => rfl) ?_
        show w_T L xs (d + 4) m_X12_laysPlaces 150 [(2, .int (Int32.ofInt 0)), (3, .int m2), (5, .int k1), (4, .int g1), (0, .ref 100), (1, .int nn)] [] S1 R Q
        refine w_ret rfl rfl ?_
        exact hq S1 q1 q2 q3
    · refine w_st rfl (fun _ => rfl) ?_
      show w_T L xs (d + 4) m_X12_laysPlaces 48 [(2, .int (Int32.ofInt 0)), (3, .int mm), (5, .int (k')), (4, .int (g')), (0, .ref 100), (1, .int nn)] [.int (Int32.ofInt 0)] S R Q
      refine w_st rfl (fun _ => rfl) ?_
      show w_T L xs (d + 4) m_X12_laysPlaces 150 [(2, .int (Int32.ofInt 0)), (3, .int mm), (5, .int (k')), (4, .int (g')), (0, .ref 100), (1, .int nn)] [] S R Q
      refine w_ret rfl rfl ?_
      exact hq S hT hO (v_Fr_rf _ _ _)
theorem h_lpA (R : v_Rf) (nn : Int32) : ∀ (c k : Nat) (S : v_Sf), k + c = 5 → v_Tb v_ty S R → v_Op S → (∀ S', v_Tb v_ty S' R → v_Op S' → v_Fr [(165, 0, 5), (166, 0, 12)] S R S' R → w_T L xs (d + 4) m_X12_laysPlaces 20 [(2, .int (Int32.ofInt 5)), (0, .ref 100), (1, .int nn)] [] S' R Q) → w_T L xs (d + 4) m_X12_laysPlaces 2 [(2, .int (Int32.ofInt (k : Int))), (0, .ref 100), (1, .int nn)] [] S R Q := by
  have e5 : (Int32.ofInt 5).toInt = 5 := by decide
  have f1 : ∀ j, v_frz 165 j j = false := fun j => rfl
  have c1 : ∀ j, j ≤ 5 → v_md [(165, 0, 5), (166, 0, 12)] 165 j j = true := fun j hj => v_md_mono (lo := 0) (hi := 5) (by decide +kernel) (Nat.zero_le _) hj
  intro c
  induction c with
  | zero =>
    intro k S hk hT hO K
    obtain rfl : k = 5 := by omega
    refine w_st rfl (fun _ => rfl) ?_
    refine w_st rfl (fun _ => rfl) ?_
    show w_T L xs (d + 4) m_X12_laysPlaces 4 [(2, .int (Int32.ofInt ((5 : Nat) : Int))), (0, .ref 100), (1, .int nn)] [.int (Int32.ofInt 5), .int (Int32.ofInt ((5 : Nat) : Int))] S R Q
    refine w_st rfl (fun _ => rfl) ?_
    show w_T L xs (d + 4) m_X12_laysPlaces 20 [(2, .int (Int32.ofInt ((5 : Nat) : Int))), (0, .ref 100), (1, .int nn)] [] S R Q
    exact K S hT hO (v_Fr_rf _ _ _)
  | succ c ih =>
    intro k S hk hT hO K
    have ek := w_nat (k := k) (by omega)
    refine w_st rfl (fun _ => rfl) ?_
    refine w_st rfl (fun _ => rfl) ?_
    show w_T L xs (d + 4) m_X12_laysPlaces 4 [(2, .int (Int32.ofInt (k : Int))), (0, .ref 100), (1, .int nn)] [.int (Int32.ofInt 5), .int (Int32.ofInt (k : Int))] S R Q
    refine w_br (P := (Int32.ofInt 5) ≤ (Int32.ofInt (k : Int))) rfl (fun _ => rfl) (fun h4 => ?_) (fun h4 => ?_)
    · exfalso; rw [q_le32, e5, ek] at h4; omega
    · refine w_st rfl (fun _ => rfl) ?_
      show w_T L xs (d + 4) m_X12_laysPlaces 8 [(2, .int (Int32.ofInt (k : Int))), (0, .ref 100), (1, .int nn)] [.ref 100] S R Q
      refine w_getr rfl v_tyM rfl ?_
      refine w_st rfl (fun _ => rfl) ?_
      refine w_st rfl (fun _ => rfl) ?_
      show w_T L xs (d + 4) m_X12_laysPlaces 13 [(2, .int (Int32.ofInt (k : Int))), (0, .ref 100), (1, .int nn)] [.int (Int32.ofInt (-1)), .int (Int32.ofInt (k : Int)), .ref 166] S R Q
      refine w_iast rfl rfl (by rw [ek]; omega) (by rw [ek]; omega) ?_
      refine w_st rfl (fun _ => rfl) ?_
      refine w_st rfl (fun _ => rfl) ?_
      show w_T L xs (d + 4) m_X12_laysPlaces 2 [(2, .int ((Int32.ofInt (k : Int)) + Int32.ofInt 1)), (0, .ref 100), (1, .int nn)] [] (v_ur S 165 (upd (S 165) (Int32.ofInt (k : Int)).toInt.toNat (Int32.ofInt (-1)))) R Q
      rw [w_inc]
      exact ih (k + 1) _ (by omega) (w_TbR hT (a := 165) rfl (by decide) (by decide)) (w_Op_ur (f1 _) hO) (fun S' a1 a2 a3 => K S' a1 a2 (v_Fr_tr (v_Fr_ur _ _ _ (c1 _ (by rw [ek]; omega))) a3))
theorem h_lpB (R : v_Rf) (nn : Int32) (hn : nn.toInt ≤ 6) : ∀ (c k : Nat) (S : v_Sf), ((k + c : Nat) : Int) = nn.toInt → v_Tb v_ty S R → v_Op S → (∀ S' (u : Int32), v_Tb v_ty S' R → v_Op S' → v_Fr [(165, 0, 5), (166, 0, 12)] S R S' R → w_T L xs (d + 4) m_X12_laysPlaces 45 [(2, .int u), (0, .ref 100), (1, .int nn)] [] S' R Q) → w_T L xs (d + 4) m_X12_laysPlaces 22 [(2, .int (Int32.ofInt (k : Int))), (0, .ref 100), (1, .int nn)] [] S R Q := by
  have f2 : ∀ j, v_frz 166 j j = false := fun j => rfl
  have c2 : ∀ j, j ≤ 12 → v_md [(165, 0, 5), (166, 0, 12)] 166 j j = true := fun j hj => v_md_mono (lo := 0) (hi := 12) (by decide +kernel) (Nat.zero_le _) hj
  intro c
  induction c with
  | zero =>
    intro k S hk hT hO K
    have ek := w_nat (k := k) (by omega)
    refine w_st rfl (fun _ => rfl) ?_
    refine w_st rfl (fun _ => rfl) ?_
    show w_T L xs (d + 4) m_X12_laysPlaces 24 [(2, .int (Int32.ofInt (k : Int))), (0, .ref 100), (1, .int nn)] [.int nn, .int (Int32.ofInt (k : Int))] S R Q
    refine w_br (P := nn ≤ (Int32.ofInt (k : Int))) rfl (fun _ => rfl) (fun h24 => ?_) (fun h24 => ?_)
    · exact K S _ hT hO (v_Fr_rf _ _ _)
    · exfalso; rw [q_le32, ek] at h24; omega
  | succ c ih =>
    intro k S hk hT hO K
    have ek := w_nat (k := k) (by omega)
    have ekn : (Int32.ofInt (k : Int)).toInt.toNat = k := by rw [ek]; omega
    have tS : v_TbC S R 152 _ := hT 152 _ rfl
    have gb := tS k (by omega)
    refine w_st rfl (fun _ => rfl) ?_
    refine w_st rfl (fun _ => rfl) ?_
    show w_T L xs (d + 4) m_X12_laysPlaces 24 [(2, .int (Int32.ofInt (k : Int))), (0, .ref 100), (1, .int nn)] [.int nn, .int (Int32.ofInt (k : Int))] S R Q
    refine w_br (P := nn ≤ (Int32.ofInt (k : Int))) rfl (fun _ => rfl) (fun h24 => ?_) (fun h24 => ?_)
    · exfalso; rw [q_le32, ek] at h24; omega
    · refine w_st rfl (fun _ => rfl) ?_
      show w_T L xs (d + 4) m_X12_laysPlaces 28 [(2, .int (Int32.ofInt (k : Int))), (0, .ref 100), (1, .int nn)] [.ref 100] S R Q
      refine w_getr rfl v_tyM rfl ?_
      refine w_st rfl (fun _ => rfl) ?_
      show w_T L xs (d + 4) m_X12_laysPlaces 32 [(2, .int (Int32.ofInt (k : Int))), (0, .ref 100), (1, .int nn)] [.ref 100, .ref 167] S R Q
      refine w_getr rfl v_tyM rfl ?_
      refine w_st rfl (fun _ => rfl) ?_
      show w_T L xs (d + 4) m_X12_laysPlaces 36 [(2, .int (Int32.ofInt (k : Int))), (0, .ref 100), (1, .int nn)] [.int (Int32.ofInt (k : Int)), .ref 153, .ref 167] S R Q
      refine w_iald rfl rfl (by rw [ek]; omega) (by rw [ek]; omega) ?_
      rw [ekn]
      refine w_st rfl (fun _ => rfl) ?_
      show w_T L xs (d + 4) m_X12_laysPlaces 38 [(2, .int (Int32.ofInt (k : Int))), (0, .ref 100), (1, .int nn)] [.int (Int32.ofInt 0), .int (S 152 k), .ref 167] S R Q
      refine w_iast rfl rfl (by omega) (by omega) ?_
      refine w_st rfl (fun _ => rfl) ?_
      refine w_st rfl (fun _ => rfl) ?_
      show w_T L xs (d + 4) m_X12_laysPlaces 22 [(2, .int ((Int32.ofInt (k : Int)) + Int32.ofInt 1)), (0, .ref 100), (1, .int nn)] [] (v_ur S 166 (upd (S 166) (S 152 k).toInt.toNat (Int32.ofInt 0))) R Q
      rw [w_inc]
      exact ih (k + 1) _ (by omega) (w_TbR hT (a := 166) rfl (by decide) (by decide)) (w_Op_ur (f2 _) hO) (fun S' u a1 a2 a3 => K S' u a1 a2 (v_Fr_tr (v_Fr_ur _ _ _ (c2 _ (by omega))) a3))
theorem hr_X12_laysPlaces {L : Nat} {xs : Nat → Int32} (ih : ∀ x, ∀ w ∈ v_rw x, w.1 < rw_245.1 → v_Met L xs v_ty v_Op x w) : v_Met L xs v_ty v_Op 277 rw_245 := by
  have hH := ih 273 rw_241 (List.mem_of_getElem? (i := 0) rfl) (Nat.le_of_ble_eq_true rfl)
  have hA := ih 276 rw_244 (List.mem_of_getElem? (i := 0) rfl) (Nat.le_of_ble_eq_true rfl)
  have hK := ih 274 rw_242 (List.mem_of_getElem? (i := 0) rfl) (Nat.le_of_ble_eq_true rfl)
  intro M hM ac S R ha hT hO
  rw [mt_X12_laysPlaces] at hM
  cases hM
  match ac, ha with
  | [r0, w1], ⟨h0, ⟨nn, hg, n1, n2⟩, _⟩ =>
  have h0 : r0 = .ref 100 := h0
  subst h0 hg
  have n1 : 1 ≤ nn.toInt := n1
  have n2 : nn.toInt ≤ 6 := n2
  show w_T L xs 4 m_X12_laysPlaces 0 (lv_args 0 [.ref 100, .int nn]) [] S R (fun r S' R' => v_Tb v_ty S' R' ∧ v_Op S' ∧ v_rk1 none r ∧ v_Fr [(165, 0, 5), (166, 0, 12)] S R S' R')
  generalize hQ : (fun (r : Option Value) (S' : v_Sf) (R' : v_Rf) => v_Tb v_ty S' R' ∧ v_Op S' ∧ v_rk1 none r ∧ v_Fr [(165, 0, 5), (166, 0, 12)] S R S' R') = Q
  refine w_st rfl (fun _ => rfl) ?_
  refine w_st rfl (fun _ => rfl) ?_
  show w_T L xs 4 m_X12_laysPlaces 2 [(2, .int (Int32.ofInt 0)), (0, .ref 100), (1, .int nn)] [] S R Q
  refine h_lpA (d := 0) R nn 5 0 S rfl hT hO (fun S1 a1 a2 a3 => ?_)
  refine w_st rfl (fun _ => rfl) ?_
  refine w_st rfl (fun _ => rfl) ?_
  show w_T L xs 4 m_X12_laysPlaces 22 [(2, .int (Int32.ofInt 0)), (0, .ref 100), (1, .int nn)] [] S1 R Q
  refine h_lpB (d := 0) R nn n2 nn.toInt.toNat 0 S1 (by omega) a1 a2 (fun S2 u b1 b2 b3 => ?_)
  refine w_st rfl (fun _ => rfl) ?_
  refine w_st rfl (fun _ => rfl) ?_
  refine w_st rfl (fun _ => rfl) ?_
  show w_T L xs 4 m_X12_laysPlaces 48 [(2, .int (Int32.ofInt 1)), (0, .ref 100), (1, .int nn)] [.int (Int32.ofInt 1)] S2 R Q
  refine w_st rfl (fun _ => rfl) ?_
  refine w_st rfl (fun _ => rfl) ?_
  refine w_st rfl (fun _ => rfl) ?_
  refine w_st rfl (fun _ => rfl) ?_
  refine w_st rfl (fun _ => rfl) ?_
  show w_T L xs 4 m_X12_laysPlaces 55 [(3, .int (Int32.ofInt 0)), (2, .int (Int32.ofInt 0)), (0, .ref 100), (1, .int nn)] [] S2 R Q
  have hz : (0 : Int) < nn.toInt := by omega
  refine h_lpbA (d := 0) hH hA hK S2 R nn _ nn nn 0 hz n2 b1 b2 (fun S3 mo g3 k3 c1 c2 c3 c4 => ?_)
  refine h_lpf (d := 0) hH hA hK R nn n1 n2 (v_mu 12 (S2 166)) (nn.toInt.toNat - 1) 1 S3 mo g3 k3 (by omega) c1 c2 ?_ (fun S4 m4 mm g4 k4 e1 e2 e3 e4 => ?_)
  · rcases c4 with ⟨e, h⟩ | ⟨e, h⟩
    · exact Or.inl ⟨e, h⟩
    · exact Or.inr ⟨e, by rw [h]; exact Nat.le_refl _⟩
  · refine h_lpw (d := 0) hH hA hK R nn n1 n2 (v_mu 12 (S4 166)) S4 m4 mm g4 k4 (Nat.le_refl _) (e4.imp (fun h => h.1) id) e1 e2 (fun S5 f1 f2 f3 => ?_)
    rw [← hQ]
    exact ⟨f1, f2, rfl, v_Fr_tr a3 (v_Fr_tr b3 (v_Fr_tr c3 (v_Fr_tr e3 f3)))⟩
end LP
end Prt38
section Prt38b
/-! the law: rules for the script, exact answers, the loop -/
noncomputable def v_fsC : List v_Ft := [.inr (.inl 46), .inr (.inl 67), .inr (.inl 33), .inr (.inl 51), .inr (.inl 76), .inr (.inl 77), .inr (.inl 87), .inr (.inl 95), .inr (.inl 48), .inr (.inl 2), .inr (.inl 12), .inr (.inl 22), .inr (.inl 32), .inl ((-2147483648), 2147483647), .inl (0, 1)]
theorem v_tyC : v_ty 0 = some (.inr (.inr (11, v_fsC))) := rfl
section WS
variable {L : Nat} {xs : Nat → Int32} {d : Nat} {M : g_M} {pc : Nat} {lc : g_Lc} {S : v_Sf} {R : v_Rf} {Q : Option Value → v_Sf → v_Rf → Prop}
theorem w_sal {len x y : Nat} {z : Int} {t : List Value} (hen : M.2.2.2.2.2 pc = some ((.arraylength, len), x, y, z)) (k : w_T L xs d M (pc + len) lc (.int (Int32.ofNat L) :: t) S R Q) : w_T L xs d M pc lc (.ref 0 :: t) S R Q := w_one hen (g_st_hp (en := ((.arraylength, len), x, y, z)) rfl rfl rfl (q := (.int (Int32.ofNat L) :: t, v_mk v_ty S R)) rfl) k
theorem w_sld {len x y : Nat} {z : Int} {t : List Value} {i : Int32} (hen : M.2.2.2.2.2 pc = some ((.iaload, len), x, y, z)) (h1 : 0 ≤ i.toInt) (h2 : i.toInt < (L : Int)) (k : w_T L xs d M (pc + len) lc (.int (xs i.toInt.toNat) :: t) S R Q) : w_T L xs d M pc lc (.int i :: .ref 0 :: t) S R Q := by
  obtain ⟨o1, o2⟩ := q_in32 h1 h2
  refine w_one hen (g_st_hp (en := ((.iaload, len), x, y, z)) rfl rfl rfl (q := (.int (xs i.toInt.toNat) :: t, v_mk v_ty S R)) ?_) k
  simp only [g_hp, g_ia, o1, cond_false, o2]
theorem w_ts {df lo hi : Int} {offs : Array Int} {len x y : Nat} {z : Int} {t : List Value} {v : Int32} (hen : M.2.2.2.2.2 pc = some ((.tableswitch df lo hi offs, len), x, y, z)) (hhi : hi = lo + (offs.toList.length : Int) - 1) {nd : Nat} (hnd : (pc : Int) + df = (nd : Int)) (kc : ∀ (k : Nat) (o : Int), offs.toList[k]? = some o → v.toInt = lo + (k : Int) → ∃ n : Nat, (pc : Int) + o = (n : Int) ∧ w_T L xs d M n lc t S R Q) (kd : w_T L xs d M nd lc t S R Q) : w_T L xs d M pc lc (.int v :: t) S R Q := by
  have tg : ∀ (o : Int) (n : Nat), (pc : Int) + o = (n : Int) → ∀ rr, g_tg pc (some o) rr = some (n, rr) := by
    intro o n ho rr
    unfold g_tg
    dsimp only
    rw [ho]
  by_cases hc : v.toInt < lo ∨ hi < v.toInt
  · refine w_one hen (g_st_jmp (en := ((.tableswitch df lo hi offs, len), x, y, z)) rfl rfl (q := (nd, t)) ?_) kd
    simp only [g_jmp, if_pos hc]
    exact tg df nd hnd t
  · have hl : (v.toInt - lo).toNat < offs.toList.length := by omega
    obtain ⟨n, hn, k⟩ := kc (v.toInt - lo).toNat offs.toList[(v.toInt - lo).toNat] (List.getElem?_eq_getElem hl) (by omega)
    refine w_one hen (g_st_jmp (en := ((.tableswitch df lo hi offs, len), x, y, z)) rfl rfl (q := (n, t)) ?_) k
    have g2 : offs[(v.toInt - lo).toNat]? = some offs.toList[(v.toInt - lo).toNat] := by rw [← Array.getElem?_toList, List.getElem?_eq_getElem hl]
    simp only [g_jmp, if_neg hc, g2]
    exact tg _ n hn t
end WS
theorem lg_n {a b : Int64} : lg_cmp a b < 0 ↔ a.toInt < b.toInt := by
  have e1 : a > b ↔ b.toInt < a.toInt := Int64.lt_iff_toInt_lt
  have e2 : a = b ↔ a.toInt = b.toInt := ⟨fun h => by rw [h], Int64.toInt_inj.mp⟩
  unfold lg_cmp
  by_cases h1 : a > b
  · rw [if_pos h1]
    rw [e1] at h1
    exact ⟨fun h => absurd h (by decide), fun h => by omega⟩
  · rw [if_neg h1]
    rw [e1] at h1
    by_cases h2 : a = b
    · rw [if_pos h2]
      rw [e2] at h2
      exact ⟨fun h => absurd h (by decide), fun h => by omega⟩
    · rw [if_neg h2]
      rw [e2] at h2
      exact ⟨fun _ => by omega, fun _ => by decide⟩
theorem lg_p {a b : Int64} : 0 < lg_cmp a b ↔ b.toInt < a.toInt := by
  have e1 : a > b ↔ b.toInt < a.toInt := Int64.lt_iff_toInt_lt
  unfold lg_cmp
  by_cases h1 : a > b
  · rw [if_pos h1]
    rw [e1] at h1
    exact ⟨fun _ => h1, fun _ => by decide⟩
  · rw [if_neg h1]
    rw [e1] at h1
    by_cases h2 : a = b
    · rw [if_pos h2]
      exact ⟨fun h => absurd h (by decide), fun h => absurd h h1⟩
    · rw [if_neg h2]
      exact ⟨fun h => absurd h (by decide), fun h => absurd h h1⟩
noncomputable abbrev m_X11_within : g_M := (g_cn 11, yX11_within, cX11_within, 2, (some .boolean), g_look2 ttX11_within)
set_option maxRecDepth 20000 in
theorem mt_X11_within : g_mt 147 = some m_X11_within := rfl
noncomputable abbrev m_X12_lies : g_M := (g_cn 12, yX12_lies, cX12_lies, 6, (some .boolean), g_look2 ttX12_lies)
set_option maxRecDepth 20000 in
theorem mt_X12_lies : g_mt 160 = some m_X12_lies := rfl
section HA
variable {L : Nat} {xs : Nat → Int32} {d : Nat} {S : v_Sf} {R : v_Rf} {Q : Option Value → v_Sf → v_Rf → Prop}
theorem h_within (x m : Int32) (hq : Q (some (.int (if 0 ≤ x.toInt ∧ x.toInt ≤ m.toInt then 1 else 0))) S R) : w_T L xs d m_X11_within 0 (lv_args 0 [.int x, .int m]) [] S R Q := by
  have z0 : (0 : Int32).toInt = 0 := rfl
  refine w_st rfl (fun _ => rfl) ?_
  show w_T L xs d m_X11_within 1 [(0, .int x), (1, .int m)] [.int x] S R Q
  refine w_br (P := x < 0) rfl (fun _ => rfl) (fun h1 => ?_) (fun h1 => ?_)
  · rw [if_neg (fun h => by rw [q_lt32] at h1; omega)] at hq
    refine w_st rfl (fun _ => rfl) ?_
    show w_T L xs d m_X11_within 14 [(0, .int x), (1, .int m)] [.int (Int32.ofInt 0)] S R Q
    refine w_ret rfl (by rfl) ?_
    exact hq
  · refine w_st rfl (fun _ => rfl) ?_
    refine w_st rfl (fun _ => rfl) ?_
    show w_T L xs d m_X11_within 6 [(0, .int x), (1, .int m)] [.int m, .int x] S R Q
    refine w_br (P := m < x) rfl (fun _ => rfl) (fun h6 => ?_) (fun h6 => ?_)
    · rw [if_neg (fun h => by rw [q_lt32] at h6; omega)] at hq
      refine w_st rfl (fun _ => rfl) ?_
      show w_T L xs d m_X11_within 14 [(0, .int x), (1, .int m)] [.int (Int32.ofInt 0)] S R Q
      refine w_ret rfl (by rfl) ?_
      exact hq
    · rw [if_pos (by rw [q_lt32] at h1 h6; omega)] at hq
      refine w_st rfl (fun _ => rfl) ?_
      refine w_st rfl (fun _ => rfl) ?_
      show w_T L xs d m_X11_within 14 [(0, .int x), (1, .int m)] [.int (Int32.ofInt 1)] S R Q
      refine w_ret rfl (by rfl) ?_
      exact hq
theorem h_lies (a b c : Int64) (hq : Q (some (.int (if b.toInt ≤ a.toInt ∧ a.toInt ≤ c.toInt then 1 else 0))) S R) : w_T L xs d m_X12_lies 0 (lv_args 0 [.long a, .long b, .long c]) [] S R Q := by
  refine w_st rfl (fun _ => rfl) ?_
  refine w_st rfl (fun _ => rfl) ?_
  refine w_st rfl (fun _ => rfl) ?_
  show w_T L xs d m_X12_lies 3 [(0, .long a), (2, .long b), (4, .long c)] [.int (lg_cmp a b)] S R Q
  refine w_br (P := (lg_cmp a b) < 0) rfl (fun _ => rfl) (fun h3 => ?_) (fun h3 => ?_)
  · rw [if_neg (fun h => by rw [lg_n] at h3; omega)] at hq
    refine w_st rfl (fun _ => rfl) ?_
    show w_T L xs d m_X12_lies 18 [(0, .long a), (2, .long b), (4, .long c)] [.int (Int32.ofInt 0)] S R Q
    refine w_ret rfl (by rfl) ?_
    exact hq
  · refine w_st rfl (fun _ => rfl) ?_
    refine w_st rfl (fun _ => rfl) ?_
    refine w_st rfl (fun _ => rfl) ?_
    show w_T L xs d m_X12_lies 10 [(0, .long a), (2, .long b), (4, .long c)] [.int (lg_cmp a c)] S R Q
    refine w_br (P := 0 < (lg_cmp a c)) rfl (fun _ => rfl) (fun h10 => ?_) (fun h10 => ?_)
    · rw [if_neg (fun h => by rw [lg_p] at h10; omega)] at hq
      refine w_st rfl (fun _ => rfl) ?_
      show w_T L xs d m_X12_lies 18 [(0, .long a), (2, .long b), (4, .long c)] [.int (Int32.ofInt 0)] S R Q
      refine w_ret rfl (by rfl) ?_
      exact hq
    · rw [if_pos (by rw [lg_n] at h3; rw [lg_p] at h10; omega)] at hq
      refine w_st rfl (fun _ => rfl) ?_
      refine w_st rfl (fun _ => rfl) ?_
      show w_T L xs d m_X12_lies 18 [(0, .long a), (2, .long b), (4, .long c)] [.int (Int32.ofInt 1)] S R Q
      refine w_ret rfl (by rfl) ?_
      exact hq
end HA
end Prt38b
