/-! bitCount, laysLessons -/
def v_bc (v : Int32) : Int32 := (((((((v - (((v.toUInt32 >>> ((Int32.ofInt 1).toUInt32 &&& Int32.toUInt32 31)).toInt32) &&& (Int32.ofInt 1431655765))) &&& (Int32.ofInt 858993459)) + ((((v - (((v.toUInt32 >>> ((Int32.ofInt 1).toUInt32 &&& Int32.toUInt32 31)).toInt32) &&& (Int32.ofInt 1431655765))).toUInt32 >>> ((Int32.ofInt 2).toUInt32 &&& Int32.toUInt32 31)).toInt32) &&& (Int32.ofInt 858993459))) + (((((v - (((v.toUInt32 >>> ((Int32.ofInt 1).toUInt32 &&& Int32.toUInt32 31)).toInt32) &&& (Int32.ofInt 1431655765))) &&& (Int32.ofInt 858993459)) + ((((v - (((v.toUInt32 >>> ((Int32.ofInt 1).toUInt32 &&& Int32.toUInt32 31)).toInt32) &&& (Int32.ofInt 1431655765))).toUInt32 >>> ((Int32.ofInt 2).toUInt32 &&& Int32.toUInt32 31)).toInt32) &&& (Int32.ofInt 858993459))).toUInt32 >>> ((Int32.ofInt 4).toUInt32 &&& Int32.toUInt32 31)).toInt32)) &&& (Int32.ofInt 252645135)) + (((((((v - (((v.toUInt32 >>> ((Int32.ofInt 1).toUInt32 &&& Int32.toUInt32 31)).toInt32) &&& (Int32.ofInt 1431655765))) &&& (Int32.ofInt 858993459)) + ((((v - (((v.toUInt32 >>> ((Int32.ofInt 1).toUInt32 &&& Int32.toUInt32 31)).toInt32) &&& (Int32.ofInt 1431655765))).toUInt32 >>> ((Int32.ofInt 2).toUInt32 &&& Int32.toUInt32 31)).toInt32) &&& (Int32.ofInt 858993459))) + (((((v - (((v.toUInt32 >>> ((Int32.ofInt 1).toUInt32 &&& Int32.toUInt32 31)).toInt32) &&& (Int32.ofInt 1431655765))) &&& (Int32.ofInt 858993459)) + ((((v - (((v.toUInt32 >>> ((Int32.ofInt 1).toUInt32 &&& Int32.toUInt32 31)).toInt32) &&& (Int32.ofInt 1431655765))).toUInt32 >>> ((Int32.ofInt 2).toUInt32 &&& Int32.toUInt32 31)).toInt32) &&& (Int32.ofInt 858993459))).toUInt32 >>> ((Int32.ofInt 4).toUInt32 &&& Int32.toUInt32 31)).toInt32)) &&& (Int32.ofInt 252645135)).toUInt32 >>> ((Int32.ofInt 8).toUInt32 &&& Int32.toUInt32 31)).toInt32)) + ((((((((v - (((v.toUInt32 >>> ((Int32.ofInt 1).toUInt32 &&& Int32.toUInt32 31)).toInt32) &&& (Int32.ofInt 1431655765))) &&& (Int32.ofInt 858993459)) + ((((v - (((v.toUInt32 >>> ((Int32.ofInt 1).toUInt32 &&& Int32.toUInt32 31)).toInt32) &&& (Int32.ofInt 1431655765))).toUInt32 >>> ((Int32.ofInt 2).toUInt32 &&& Int32.toUInt32 31)).toInt32) &&& (Int32.ofInt 858993459))) + (((((v - (((v.toUInt32 >>> ((Int32.ofInt 1).toUInt32 &&& Int32.toUInt32 31)).toInt32) &&& (Int32.ofInt 1431655765))) &&& (Int32.ofInt 858993459)) + ((((v - (((v.toUInt32 >>> ((Int32.ofInt 1).toUInt32 &&& Int32.toUInt32 31)).toInt32) &&& (Int32.ofInt 1431655765))).toUInt32 >>> ((Int32.ofInt 2).toUInt32 &&& Int32.toUInt32 31)).toInt32) &&& (Int32.ofInt 858993459))).toUInt32 >>> ((Int32.ofInt 4).toUInt32 &&& Int32.toUInt32 31)).toInt32)) &&& (Int32.ofInt 252645135)) + (((((((v - (((v.toUInt32 >>> ((Int32.ofInt 1).toUInt32 &&& Int32.toUInt32 31)).toInt32) &&& (Int32.ofInt 1431655765))) &&& (Int32.ofInt 858993459)) + ((((v - (((v.toUInt32 >>> ((Int32.ofInt 1).toUInt32 &&& Int32.toUInt32 31)).toInt32) &&& (Int32.ofInt 1431655765))).toUInt32 >>> ((Int32.ofInt 2).toUInt32 &&& Int32.toUInt32 31)).toInt32) &&& (Int32.ofInt 858993459))) + (((((v - (((v.toUInt32 >>> ((Int32.ofInt 1).toUInt32 &&& Int32.toUInt32 31)).toInt32) &&& (Int32.ofInt 1431655765))) &&& (Int32.ofInt 858993459)) + ((((v - (((v.toUInt32 >>> ((Int32.ofInt 1).toUInt32 &&& Int32.toUInt32 31)).toInt32) &&& (Int32.ofInt 1431655765))).toUInt32 >>> ((Int32.ofInt 2).toUInt32 &&& Int32.toUInt32 31)).toInt32) &&& (Int32.ofInt 858993459))).toUInt32 >>> ((Int32.ofInt 4).toUInt32 &&& Int32.toUInt32 31)).toInt32)) &&& (Int32.ofInt 252645135)).toUInt32 >>> ((Int32.ofInt 8).toUInt32 &&& Int32.toUInt32 31)).toInt32)).toUInt32 >>> ((Int32.ofInt 16).toUInt32 &&& Int32.toUInt32 31)).toInt32)) &&& (Int32.ofInt 63)
theorem v_bc_b : ∀ k : Fin 1024, (q_ile 0 (v_bc (Int32.ofInt ((k : Nat) : Int))).toInt && q_ile (v_bc (Int32.ofInt ((k : Nat) : Int))).toInt 10) = true := by decide +kernel
theorem h_bc {L : Nat} {xs : Nat → Int32} {d : Nat} {S : v_Sf} {R : v_Rf} {Q : Option Value → v_Sf → v_Rf → Prop} (v : Int32) (hq : Q (some (.int (v_bc v))) S R) : w_T L xs d m_J6_bitCount_0f7a4 0 (lv_args 0 [.int v]) [] S R Q := by
  refine w_st rfl (fun _ => rfl) ?_
  refine w_st rfl (fun _ => rfl) ?_
  refine w_st rfl (fun _ => rfl) ?_
  refine w_st rfl (fun _ => rfl) ?_
  refine w_st rfl (fun _ => rfl) ?_
  refine w_st rfl (fun _ => rfl) ?_
  refine w_st rfl (fun _ => rfl) ?_
  refine w_st rfl (fun _ => rfl) ?_
  refine w_st rfl (fun _ => rfl) ?_
  refine w_st rfl (fun _ => rfl) ?_
  refine w_st rfl (fun _ => rfl) ?_
  refine w_st rfl (fun _ => rfl) ?_
  refine w_st rfl (fun _ => rfl) ?_
  refine w_st rfl (fun _ => rfl) ?_
  refine w_st rfl (fun _ => rfl) ?_
  refine w_st rfl (fun _ => rfl) ?_
  refine w_st rfl (fun _ => rfl) ?_
  refine w_st rfl (fun _ => rfl) ?_
  refine w_st rfl (fun _ => rfl) ?_
  refine w_st rfl (fun _ => rfl) ?_
  refine w_st rfl (fun _ => rfl) ?_
  refine w_st rfl (fun _ => rfl) ?_
  refine w_st rfl (fun _ => rfl) ?_
  refine w_st rfl (fun _ => rfl) ?_
  refine w_st rfl (fun _ => rfl) ?_
  refine w_st rfl (fun _ => rfl) ?_
  refine w_st rfl (fun _ => rfl) ?_
  refine w_st rfl (fun _ => rfl) ?_
  refine w_st rfl (fun _ => rfl) ?_
  refine w_st rfl (fun _ => rfl) ?_
  refine w_st rfl (fun _ => rfl) ?_
  refine w_st rfl (fun _ => rfl) ?_
  refine w_st rfl (fun _ => rfl) ?_
  refine w_st rfl (fun _ => rfl) ?_
  refine w_st rfl (fun _ => rfl) ?_
  refine w_st rfl (fun _ => rfl) ?_
  refine w_st rfl (fun _ => rfl) ?_
  refine w_st rfl (fun _ => rfl) ?_
  refine w_st rfl (fun _ => rfl) ?_
  refine w_st rfl (fun _ => rfl) ?_
  refine w_st rfl (fun _ => rfl) ?_
  show w_T L xs d m_J6_bitCount_0f7a4 52 [(0, .int (((((((v - (((v.toUInt32 >>> ((Int32.ofInt 1).toUInt32 &&& Int32.toUInt32 31)).toInt32) &&& (Int32.ofInt 1431655765))) &&& (Int32.ofInt 858993459)) + ((((v - (((v.toUInt32 >>> ((Int32.ofInt 1).toUInt32 &&& Int32.toUInt32 31)).toInt32) &&& (Int32.ofInt 1431655765))).toUInt32 >>> ((Int32.ofInt 2).toUInt32 &&& Int32.toUInt32 31)).toInt32) &&& (Int32.ofInt 858993459))) + (((((v - (((v.toUInt32 >>> ((Int32.ofInt 1).toUInt32 &&& Int32.toUInt32 31)).toInt32) &&& (Int32.ofInt 1431655765))) &&& (Int32.ofInt 858993459)) + ((((v - (((v.toUInt32 >>> ((Int32.ofInt 1).toUInt32 &&& Int32.toUInt32 31)).toInt32) &&& (Int32.ofInt 1431655765))).toUInt32 >>> ((Int32.ofInt 2).toUInt32 &&& Int32.toUInt32 31)).toInt32) &&& (Int32.ofInt 858993459))).toUInt32 >>> ((Int32.ofInt 4).toUInt32 &&& Int32.toUInt32 31)).toInt32)) &&& (Int32.ofInt 252645135)) + (((((((v - (((v.toUInt32 >>> ((Int32.ofInt 1).toUInt32 &&& Int32.toUInt32 31)).toInt32) &&& (Int32.ofInt 1431655765))) &&& (Int32.ofInt 858993459)) + ((((v - (((v.toUInt32 >>> ((Int32.ofInt 1).toUInt32 &&& Int32.toUInt32 31)).toInt32) &&& (Int32.ofInt 1431655765))).toUInt32 >>> ((Int32.ofInt 2).toUInt32 &&& Int32.toUInt32 31)).toInt32) &&& (Int32.ofInt 858993459))) + (((((v - (((v.toUInt32 >>> ((Int32.ofInt 1).toUInt32 &&& Int32.toUInt32 31)).toInt32) &&& (Int32.ofInt 1431655765))) &&& (Int32.ofInt 858993459)) + ((((v - (((v.toUInt32 >>> ((Int32.ofInt 1).toUInt32 &&& Int32.toUInt32 31)).toInt32) &&& (Int32.ofInt 1431655765))).toUInt32 >>> ((Int32.ofInt 2).toUInt32 &&& Int32.toUInt32 31)).toInt32) &&& (Int32.ofInt 858993459))).toUInt32 >>> ((Int32.ofInt 4).toUInt32 &&& Int32.toUInt32 31)).toInt32)) &&& (Int32.ofInt 252645135)).toUInt32 >>> ((Int32.ofInt 8).toUInt32 &&& Int32.toUInt32 31)).toInt32)) + ((((((((v - (((v.toUInt32 >>> ((Int32.ofInt 1).toUInt32 &&& Int32.toUInt32 31)).toInt32) &&& (Int32.ofInt 1431655765))) &&& (Int32.ofInt 858993459)) + ((((v - (((v.toUInt32 >>> ((Int32.ofInt 1).toUInt32 &&& Int32.toUInt32 31)).toInt32) &&& (Int32.ofInt 1431655765))).toUInt32 >>> ((Int32.ofInt 2).toUInt32 &&& Int32.toUInt32 31)).toInt32) &&& (Int32.ofInt 858993459))) + (((((v - (((v.toUInt32 >>> ((Int32.ofInt 1).toUInt32 &&& Int32.toUInt32 31)).toInt32) &&& (Int32.ofInt 1431655765))) &&& (Int32.ofInt 858993459)) + ((((v - (((v.toUInt32 >>> ((Int32.ofInt 1).toUInt32 &&& Int32.toUInt32 31)).toInt32) &&& (Int32.ofInt 1431655765))).toUInt32 >>> ((Int32.ofInt 2).toUInt32 &&& Int32.toUInt32 31)).toInt32) &&& (Int32.ofInt 858993459))).toUInt32 >>> ((Int32.ofInt 4).toUInt32 &&& Int32.toUInt32 31)).toInt32)) &&& (Int32.ofInt 252645135)) + (((((((v - (((v.toUInt32 >>> ((Int32.ofInt 1).toUInt32 &&& Int32.toUInt32 31)).toInt32) &&& (Int32.ofInt 1431655765))) &&& (Int32.ofInt 858993459)) + ((((v - (((v.toUInt32 >>> ((Int32.ofInt 1).toUInt32 &&& Int32.toUInt32 31)).toInt32) &&& (Int32.ofInt 1431655765))).toUInt32 >>> ((Int32.ofInt 2).toUInt32 &&& Int32.toUInt32 31)).toInt32) &&& (Int32.ofInt 858993459))) + (((((v - (((v.toUInt32 >>> ((Int32.ofInt 1).toUInt32 &&& Int32.toUInt32 31)).toInt32) &&& (Int32.ofInt 1431655765))) &&& (Int32.ofInt 858993459)) + ((((v - (((v.toUInt32 >>> ((Int32.ofInt 1).toUInt32 &&& Int32.toUInt32 31)).toInt32) &&& (Int32.ofInt 1431655765))).toUInt32 >>> ((Int32.ofInt 2).toUInt32 &&& Int32.toUInt32 31)).toInt32) &&& (Int32.ofInt 858993459))).toUInt32 >>> ((Int32.ofInt 4).toUInt32 &&& Int32.toUInt32 31)).toInt32)) &&& (Int32.ofInt 252645135)).toUInt32 >>> ((Int32.ofInt 8).toUInt32 &&& Int32.toUInt32 31)).toInt32)).toUInt32 >>> ((Int32.ofInt 16).toUInt32 &&& Int32.toUInt32 31)).toInt32)))] [.int ((((((((v - (((v.toUInt32 >>> ((Int32.ofInt 1).toUInt32 &&& Int32.toUInt32 31)).toInt32) &&& (Int32.ofInt 1431655765))) &&& (Int32.ofInt 858993459)) + ((((v - (((v.toUInt32 >>> ((Int32.ofInt 1).toUInt32 &&& Int32.toUInt32 31)).toInt32) &&& (Int32.ofInt 1431655765))).toUInt32 >>> ((Int32.ofInt 2).toUInt32 &&& Int32.toUInt32 31)).toInt32) &&& (Int32.ofInt 858993459))) + (((((v - (((v.toUInt32 >>> ((Int32.ofInt 1).toUInt32 &&& Int32.toUInt32 31)).toInt32) &&& (Int32.ofInt 1431655765))) &&& (Int32.ofInt 858993459)) + ((((v - (((v.toUInt32 >>> ((Int32.ofInt 1).toUInt32 &&& Int32.toUInt32 31)).toInt32) &&& (Int32.ofInt 1431655765))).toUInt32 >>> ((Int32.ofInt 2).toUInt32 &&& Int32.toUInt32 31)).toInt32) &&& (Int32.ofInt 858993459))).toUInt32 >>> ((Int32.ofInt 4).toUInt32 &&& Int32.toUInt32 31)).toInt32)) &&& (Int32.ofInt 252645135)) + (((((((v - (((v.toUInt32 >>> ((Int32.ofInt 1).toUInt32 &&& Int32.toUInt32 31)).toInt32) &&& (Int32.ofInt 1431655765))) &&& (Int32.ofInt 858993459)) + ((((v - (((v.toUInt32 >>> ((Int32.ofInt 1).toUInt32 &&& Int32.toUInt32 31)).toInt32) &&& (Int32.ofInt 1431655765))).toUInt32 >>> ((Int32.ofInt 2).toUInt32 &&& Int32.toUInt32 31)).toInt32) &&& (Int32.ofInt 858993459))) + (((((v - (((v.toUInt32 >>> ((Int32.ofInt 1).toUInt32 &&& Int32.toUInt32 31)).toInt32) &&& (Int32.ofInt 1431655765))) &&& (Int32.ofInt 858993459)) + ((((v - (((v.toUInt32 >>> ((Int32.ofInt 1).toUInt32 &&& Int32.toUInt32 31)).toInt32) &&& (Int32.ofInt 1431655765))).toUInt32 >>> ((Int32.ofInt 2).toUInt32 &&& Int32.toUInt32 31)).toInt32) &&& (Int32.ofInt 858993459))).toUInt32 >>> ((Int32.ofInt 4).toUInt32 &&& Int32.toUInt32 31)).toInt32)) &&& (Int32.ofInt 252645135)).toUInt32 >>> ((Int32.ofInt 8).toUInt32 &&& Int32.toUInt32 31)).toInt32)) + ((((((((v - (((v.toUInt32 >>> ((Int32.ofInt 1).toUInt32 &&& Int32.toUInt32 31)).toInt32) &&& (Int32.ofInt 1431655765))) &&& (Int32.ofInt 858993459)) + ((((v - (((v.toUInt32 >>> ((Int32.ofInt 1).toUInt32 &&& Int32.toUInt32 31)).toInt32) &&& (Int32.ofInt 1431655765))).toUInt32 >>> ((Int32.ofInt 2).toUInt32 &&& Int32.toUInt32 31)).toInt32) &&& (Int32.ofInt 858993459))) + (((((v - (((v.toUInt32 >>> ((Int32.ofInt 1).toUInt32 &&& Int32.toUInt32 31)).toInt32) &&& (Int32.ofInt 1431655765))) &&& (Int32.ofInt 858993459)) + ((((v - (((v.toUInt32 >>> ((Int32.ofInt 1).toUInt32 &&& Int32.toUInt32 31)).toInt32) &&& (Int32.ofInt 1431655765))).toUInt32 >>> ((Int32.ofInt 2).toUInt32 &&& Int32.toUInt32 31)).toInt32) &&& (Int32.ofInt 858993459))).toUInt32 >>> ((Int32.ofInt 4).toUInt32 &&& Int32.toUInt32 31)).toInt32)) &&& (Int32.ofInt 252645135)) + (((((((v - (((v.toUInt32 >>> ((Int32.ofInt 1).toUInt32 &&& Int32.toUInt32 31)).toInt32) &&& (Int32.ofInt 1431655765))) &&& (Int32.ofInt 858993459)) + ((((v - (((v.toUInt32 >>> ((Int32.ofInt 1).toUInt32 &&& Int32.toUInt32 31)).toInt32) &&& (Int32.ofInt 1431655765))).toUInt32 >>> ((Int32.ofInt 2).toUInt32 &&& Int32.toUInt32 31)).toInt32) &&& (Int32.ofInt 858993459))) + (((((v - (((v.toUInt32 >>> ((Int32.ofInt 1).toUInt32 &&& Int32.toUInt32 31)).toInt32) &&& (Int32.ofInt 1431655765))) &&& (Int32.ofInt 858993459)) + ((((v - (((v.toUInt32 >>> ((Int32.ofInt 1).toUInt32 &&& Int32.toUInt32 31)).toInt32) &&& (Int32.ofInt 1431655765))).toUInt32 >>> ((Int32.ofInt 2).toUInt32 &&& Int32.toUInt32 31)).toInt32) &&& (Int32.ofInt 858993459))).toUInt32 >>> ((Int32.ofInt 4).toUInt32 &&& Int32.toUInt32 31)).toInt32)) &&& (Int32.ofInt 252645135)).toUInt32 >>> ((Int32.ofInt 8).toUInt32 &&& Int32.toUInt32 31)).toInt32)).toUInt32 >>> ((Int32.ofInt 16).toUInt32 &&& Int32.toUInt32 31)).toInt32)) &&& (Int32.ofInt 63))] S R Q
  refine w_ret rfl rfl ?_
  exact hq
theorem hr_J6_bitCount_0f7a4 {L : Nat} {xs : Nat → Int32} (ih : ∀ x, ∀ w ∈ v_rw x, w.1 < rw_276.1 → v_Met L xs v_ty v_Op x w) : v_Met L xs v_ty v_Op 299 rw_276 := by
  intro M hM ac S R ha hT hO
  rw [mt_J6_bitCount_0f7a4] at hM
  cases hM
  match ac, ha with
  | [w], ⟨⟨u, hu, b1, b2⟩, _⟩ =>
    subst hu
    have b1 : 0 ≤ u.toInt := b1
    have b2 : u.toInt ≤ 1023 := b2
    have h := v_bc_b ⟨u.toInt.toNat, by omega⟩
    have e : Int32.ofInt ((u.toInt.toNat : Nat) : Int) = u := by rw [show ((u.toInt.toNat : Nat) : Int) = u.toInt by omega, q_of]
    dsimp only at h
    rw [e, Bool.and_eq_true, q_ile_ok, q_ile_ok] at h
    exact h_bc u ⟨hT, hO, ⟨_, rfl, h.1, h.2⟩, v_Fr_rf _ _ _⟩
noncomputable abbrev m_X12_laysLessons : g_M := (g_cn 12, yX12_laysLessons, cX12_laysLessons, 7, (some .boolean), g_look2 ttX12_laysLessons)
set_option maxRecDepth 20000 in
theorem mt_X12_laysLessons : g_mt 270 = some m_X12_laysLessons := rfl
section LL
variable {L : Nat} {xs : Nat → Int32} {d : Nat} {Q : Option Value → v_Sf → v_Rf → Prop}
theorem w_orb {x y : Int32} (h1 : 0 ≤ x.toInt) (h2 : x.toInt ≤ 1023) (h3 : 0 ≤ y.toInt) (h4 : y.toInt ≤ 1023) : x.toInt ≤ (x ||| y).toInt ∧ (x ||| y).toInt ≤ 1023 := by
  have h := v_or_ok (x := x) (y := y) (p := (x.toInt, 1023)) (q := (0, 1023)) ⟨Int.le_refl _, h2⟩ ⟨h3, h4⟩ h1 (Int.le_refl _)
  have e : v_cap 1023 1023 = 1023 := by decide
  have m1 := v_mx_l x.toInt 0
  dsimp only at h
  rw [e] at h
  omega
theorem w_andl {x y : Int32} (h1 : 0 ≤ x.toInt) : 0 ≤ (x &&& y).toInt ∧ (x &&& y).toInt ≤ x.toInt := by
  rw [q_and_comm]
  exact q_and_iv h1
theorem h_ll1 (S : v_Sf) (R : v_Rf) (g hb was more : Int32) (g1 : 0 ≤ g.toInt) (g2 : g.toInt ≤ 11) (hT : v_Tb v_ty S R) : ∀ (m h : Nat) (due : Int32), h + m = 10 → 0 ≤ due.toInt → due.toInt ≤ 1023 → was.toInt ≤ due.toInt → (∀ due' : Int32, 0 ≤ due'.toInt → due'.toInt ≤ 1023 → was.toInt ≤ due'.toInt → w_T L xs (d + 3) m_X12_laysLessons 66 [(6, .int (Int32.ofInt 10)), (3, .int (due')), (5, .int was), (4, .int more), (0, .ref 100), (1, .int g), (2, .int hb)] [] S R Q) → w_T L xs (d + 3) m_X12_laysLessons 25 [(6, .int (Int32.ofInt (h : Int))), (3, .int due), (5, .int was), (4, .int more), (0, .ref 100), (1, .int g), (2, .int hb)] [] S R Q := by
  have hN : v_TbC S R 132 _ := hT 132 _ rfl
  have e10 : (Int32.ofInt 10).toInt = 10 := by decide
  intro m
  induction m with
  | zero =>
    intro h due hm d1 d2 d3 k
    have eh := w_nat (k := h) (by omega)
    obtain rfl : h = 10 := by omega
    refine w_st rfl (fun _ => rfl) ?_
    refine w_st rfl (fun _ => rfl) ?_
    show w_T L xs (d + 3) m_X12_laysLessons 29 [(6, .int (Int32.ofInt ((10 : Nat) : Int))), (3, .int due), (5, .int was), (4, .int more), (0, .ref 100), (1, .int g), (2, .int hb)] [.int (Int32.ofInt 10), .int (Int32.ofInt ((10 : Nat) : Int))] S R Q
    refine w_st rfl (fun _ => rfl) ?_
    show w_T L xs (d + 3) m_X12_laysLessons 66 [(6, .int (Int32.ofInt ((10 : Nat) : Int))), (3, .int due), (5, .int was), (4, .int more), (0, .ref 100), (1, .int g), (2, .int hb)] [] S R Q
    exact k due d1 d2 d3
  | succ m ih =>
    intro h due hm d1 d2 d3 k
    have eh := w_nat (k := h) (by omega)
    have ehn : (Int32.ofInt (h : Int)).toInt.toNat = h := by rw [eh]; omega
    have hn := hN h (by omega)
    refine w_st rfl (fun _ => rfl) ?_
    refine w_st rfl (fun _ => rfl) ?_
    show w_T L xs (d + 3) m_X12_laysLessons 29 [(6, .int (Int32.ofInt (h : Int))), (3, .int due), (5, .int was), (4, .int more), (0, .ref 100), (1, .int g), (2, .int hb)] [.int (Int32.ofInt 10), .int (Int32.ofInt (h : Int))] S R Q
    refine w_br (P := (Int32.ofInt 10) ≤ (Int32.ofInt (h : Int))) rfl (fun _ => rfl) (fun h29 => ?_) (fun h29 => ?_)
    · exfalso; rw [q_le32, e10, eh] at h29; omega
    · refine w_st rfl (fun _ => rfl) ?_
      refine w_st rfl (fun _ => rfl) ?_
      show w_T L xs (d + 3) m_X12_laysLessons 35 [(6, .int (Int32.ofInt (h : Int))), (3, .int due), (5, .int was), (4, .int more), (0, .ref 100), (1, .int g), (2, .int hb)] [.int (Int32.ofInt (h : Int)), .int due] S R Q
      refine w_cs rfl (by decide) mt_X12_has (fun _ => rfl) (Nat.le_of_ble_eq_true rfl) (Nat.le_of_ble_eq_true rfl) ?_
      show w_T L xs _ m_X12_has 0 (lv_args 0 [.int due, .int (Int32.ofInt (h : Int))]) [] S R _
      refine h_has _ _ ?_
      show w_T L xs (d + 3) m_X12_laysLessons 38 [(6, .int (Int32.ofInt (h : Int))), (3, .int due), (5, .int was), (4, .int more), (0, .ref 100), (1, .int g), (2, .int hb)] [.int (if (due >>> ((Int32.ofInt (h : Int)) &&& 31)) &&& 1 = 1 then (1 : Int32) else 0)] S R Q
      refine w_br (P := (if (due >>> ((Int32.ofInt (h : Int)) &&& 31)) &&& 1 = 1 then (1 : Int32) else 0) = 0) rfl (fun _ => rfl) (fun h38 => ?_) (fun h38 => ?_)
      · refine w_st rfl (fun _ => rfl) ?_
        refine w_st rfl (fun _ => rfl) ?_
        show w_T L xs (d + 3) m_X12_laysLessons 25 [(6, .int ((Int32.ofInt (h : Int)) + Int32.ofInt 1)), (3, .int due), (5, .int was), (4, .int more), (0, .ref 100), (1, .int g), (2, .int hb)] [] S R Q
        rw [w_inc]
        exact ih (h + 1) due (by omega) d1 d2 d3 k
      · refine w_st rfl (fun _ => rfl) ?_
        refine w_st rfl (fun _ => rfl) ?_
        show w_T L xs (d + 3) m_X12_laysLessons 43 [(6, .int (Int32.ofInt (h : Int))), (3, .int due), (5, .int was), (4, .int more), (0, .ref 100), (1, .int g), (2, .int hb)] [.ref 100, .int due] S R Q
        refine w_getr rfl v_tyM rfl ?_
        refine w_st rfl (fun _ => rfl) ?_
        show w_T L xs (d + 3) m_X12_laysLessons 48 [(6, .int (Int32.ofInt (h : Int))), (3, .int due), (5, .int was), (4, .int more), (0, .ref 100), (1, .int g), (2, .int hb)] [.int (Int32.ofInt (h : Int)), .ref 133, .int due] S R Q
        refine w_iald rfl rfl (by rw [eh]; omega) (by rw [eh]; omega) ?_
        rw [ehn]
        refine w_st rfl (fun _ => rfl) ?_
        show w_T L xs (d + 3) m_X12_laysLessons 50 [(6, .int (Int32.ofInt (h : Int))), (3, .int due), (5, .int was), (4, .int more), (0, .ref 100), (1, .int g), (2, .int hb)] [.ref 100, .int (S 132 h), .int due] S R Q
        refine w_getr rfl v_tyM rfl ?_
        refine w_st rfl (fun _ => rfl) ?_
        show w_T L xs (d + 3) m_X12_laysLessons 54 [(6, .int (Int32.ofInt (h : Int))), (3, .int due), (5, .int was), (4, .int more), (0, .ref 100), (1, .int g), (2, .int hb)] [.int g, .ref 123, .int (S 132 h), .int due] S R Q
        refine w_iald rfl rfl (by omega) (by omega) ?_
        refine w_st rfl (fun _ => rfl) ?_
        refine w_st rfl (fun _ => rfl) ?_
        refine w_st rfl (fun _ => rfl) ?_
        refine w_st rfl (fun _ => rfl) ?_
        refine w_st rfl (fun _ => rfl) ?_
        refine w_st rfl (fun _ => rfl) ?_
        refine w_st rfl (fun _ => rfl) ?_
        show w_T L xs (d + 3) m_X12_laysLessons 25 [(6, .int ((Int32.ofInt (h : Int)) + Int32.ofInt 1)), (3, .int (due ||| ((S 132 h) &&& ((S 122 g.toInt.toNat) ^^^ (Int32.ofInt (-1)))))), (5, .int was), (4, .int more), (0, .ref 100), (1, .int g), (2, .int hb)] [] S R Q
        rw [w_inc]
        have hx := w_andl (x := S 132 h) (y := S 122 g.toInt.toNat ^^^ Int32.ofInt (-1)) hn.1
        have ho := w_orb d1 d2 hx.1 (by have := hn.2; omega)
        exact ih (h + 1) _ (by omega) (by omega) ho.2 (by omega) k
theorem h_ll2 (S : v_Sf) (R : v_Rf) (g hb : Int32) (g1 : 0 ≤ g.toInt) (g2 : g.toInt ≤ 11) (hT : v_Tb v_ty S R) : ∀ (m : Nat) (due more a b : Int32), (more = Int32.ofInt 0 ∧ 2 * (1023 - due.toInt).toNat < m ∨ more = Int32.ofInt 1 ∧ 2 * (1023 - due.toInt).toNat + 1 < m) → 0 ≤ due.toInt → due.toInt ≤ 1023 → (∀ due' a' b' : Int32, 0 ≤ due'.toInt → due'.toInt ≤ 1023 → w_T L xs (d + 3) m_X12_laysLessons 82 [(4, .int (Int32.ofInt 0)), (3, .int (due')), (5, .int (a')), (6, .int (b')), (0, .ref 100), (1, .int g), (2, .int hb)] [] S R Q) → w_T L xs (d + 3) m_X12_laysLessons 14 [(4, .int more), (3, .int due), (5, .int a), (6, .int b), (0, .ref 100), (1, .int g), (2, .int hb)] [] S R Q := by
  intro m
  induction m with
  | zero =>
    intro due more a b hm
    omega
  | succ m ih =>
    intro due more a b hm d1 d2 k
    rcases hm with ⟨rfl, hm⟩ | ⟨rfl, hm⟩
    · refine w_st rfl (fun _ => rfl) ?_
      show w_T L xs (d + 3) m_X12_laysLessons 16 [(4, .int (Int32.ofInt 0)), (3, .int due), (5, .int a), (6, .int b), (0, .ref 100), (1, .int g), (2, .int hb)] [.int (Int32.ofInt 0)] S R Q
      refine w_st rfl (fun _ => rfl) ?_
      show w_T L xs (d + 3) m_X12_laysLessons 82 [(4, .int (Int32.ofInt 0)), (3, .int due), (5, .int a), (6, .int b), (0, .ref 100), (1, .int g), (2, .int hb)] [] S R Q
      exact k due a b d1 d2
    · refine w_st rfl (fun _ => rfl) ?_
      show w_T L xs (d + 3) m_X12_laysLessons 16 [(4, .int (Int32.ofInt 1)), (3, .int due), (5, .int a), (6, .int b), (0, .ref 100), (1, .int g), (2, .int hb)] [.int (Int32.ofInt 1)] S R Q
      refine w_st rfl (fun _ => rfl) ?_
      refine w_st rfl (fun _ => rfl) ?_
      refine w_st rfl (fun _ => rfl) ?_
      refine w_st rfl (fun _ => rfl) ?_
      refine w_st rfl (fun _ => rfl) ?_
      show w_T L xs (d + 3) m_X12_laysLessons 25 [(6, .int (Int32.ofInt 0)), (5, .int due), (4, .int (Int32.ofInt 1)), (3, .int due), (0, .ref 100), (1, .int g), (2, .int hb)] [] S R Q
      refine w_lc (b := [(6, .int (Int32.ofInt 0)), (3, .int due), (5, .int due), (4, .int (Int32.ofInt 1)), (0, .ref 100), (1, .int g), (2, .int hb)]) (show ([6, 5, 4, 3, 0, 1, 2] : List Nat).Nodup by decide) (show ([6, 3, 5, 4, 0, 1, 2] : List Nat).Nodup by decide) (fun i => match i with | 0 => rfl | 1 => rfl | 2 => rfl | 3 => rfl | 4 => rfl | 5 => rfl | 6 => rfl | _ + 7 => rfl) ?_
      refine h_ll1 S R g hb _ _ g1 g2 hT 10 0 _ rfl d1 d2 (Int.le_refl _) (fun due' k1 k2 k3 => ?_)
      refine w_st rfl (fun _ => rfl) ?_
      refine w_st rfl (fun _ => rfl) ?_
      show w_T L xs (d + 3) m_X12_laysLessons 69 [(6, .int (Int32.ofInt 10)), (3, .int (due')), (5, .int due), (4, .int (Int32.ofInt 1)), (0, .ref 100), (1, .int g), (2, .int hb)] [.int due, .int (due')] S R Q
      refine w_br (P := (due') = due) rfl (fun _ => rfl) (fun h69 => ?_) (fun h69 => ?_)
      · refine w_st rfl (fun _ => rfl) ?_
        refine w_st rfl (fun _ => rfl) ?_
        refine w_st rfl (fun _ => rfl) ?_
        show w_T L xs (d + 3) m_X12_laysLessons 14 [(4, .int (Int32.ofInt 0)), (6, .int (Int32.ofInt 10)), (3, .int (due')), (5, .int due), (0, .ref 100), (1, .int g), (2, .int hb)] [] S R Q
        refine w_lc (b := [(4, .int (Int32.ofInt 0)), (3, .int (due')), (5, .int due), (6, .int (Int32.ofInt 10)), (0, .ref 100), (1, .int g), (2, .int hb)]) (show ([4, 6, 3, 5, 0, 1, 2] : List Nat).Nodup by decide) (show ([4, 3, 5, 6, 0, 1, 2] : List Nat).Nodup by decide) (fun i => match i with | 0 => rfl | 1 => rfl | 2 => rfl | 3 => rfl | 4 => rfl | 5 => rfl | 6 => rfl | _ + 7 => rfl) ?_
        exact ih due' _ _ _ (Or.inl ⟨rfl, by omega⟩) k1 k2 k
      · refine w_st rfl (fun _ => rfl) ?_
        refine w_st rfl (fun _ => rfl) ?_
        refine w_st rfl (fun _ => rfl) ?_
        refine w_st rfl (fun _ => rfl) ?_
        show w_T L xs (d + 3) m_X12_laysLessons 14 [(4, .int (Int32.ofInt 1)), (6, .int (Int32.ofInt 10)), (3, .int (due')), (5, .int due), (0, .ref 100), (1, .int g), (2, .int hb)] [] S R Q
        refine w_lc (b := [(4, .int (Int32.ofInt 1)), (3, .int (due')), (5, .int due), (6, .int (Int32.ofInt 10)), (0, .ref 100), (1, .int g), (2, .int hb)]) (show ([4, 6, 3, 5, 0, 1, 2] : List Nat).Nodup by decide) (show ([4, 3, 5, 6, 0, 1, 2] : List Nat).Nodup by decide) (fun i => match i with | 0 => rfl | 1 => rfl | 2 => rfl | 3 => rfl | 4 => rfl | 5 => rfl | 6 => rfl | _ + 7 => rfl) ?_
        have hne : ¬ due'.toInt = due.toInt := fun e => h69 (q_inj e)
        exact ih due' _ _ _ (Or.inr ⟨rfl, by omega⟩) k1 k2 k
theorem h_ll3 (S : v_Sf) (R : v_Rf) (g hb had due mo : Int32) (hT : v_Tb v_ty S R) (k : ∀ q : Nat, q ≤ 10 → (q < 10 → (due >>> (Int32.ofInt (q : Int) &&& 31)) &&& 1 = 1) → w_T L xs (d + 3) m_X12_laysLessons 139 [(6, .int (Int32.ofInt (q : Int))), (5, .int had), (3, .int due), (4, .int mo), (0, .ref 100), (1, .int g), (2, .int hb)] [] S R Q) : ∀ (m h : Nat), h + m = 10 → w_T L xs (d + 3) m_X12_laysLessons 102 [(6, .int (Int32.ofInt (h : Int))), (5, .int had), (3, .int due), (4, .int mo), (0, .ref 100), (1, .int g), (2, .int hb)] [] S R Q := by
  have e10 : (Int32.ofInt 10).toInt = 10 := by decide
  intro m
  induction m with
  | zero =>
    intro h hm
    obtain rfl : h = 10 := by omega
    refine w_st rfl (fun _ => rfl) ?_
    refine w_st rfl (fun _ => rfl) ?_
    show w_T L xs (d + 3) m_X12_laysLessons 106 [(6, .int (Int32.ofInt ((10 : Nat) : Int))), (5, .int had), (3, .int due), (4, .int mo), (0, .ref 100), (1, .int g), (2, .int hb)] [.int (Int32.ofInt 10), .int (Int32.ofInt ((10 : Nat) : Int))] S R Q
    refine w_st rfl (fun _ => rfl) ?_
    show w_T L xs (d + 3) m_X12_laysLessons 139 [(6, .int (Int32.ofInt ((10 : Nat) : Int))), (5, .int had), (3, .int due), (4, .int mo), (0, .ref 100), (1, .int g), (2, .int hb)] [] S R Q
    exact k 10 (Nat.le_refl _) (fun h => by omega)
  | succ m ih =>
    intro h hm
    have eh := w_nat (k := h) (by omega)
    have ehn : (Int32.ofInt (h : Int)).toInt.toNat = h := by rw [eh]; omega
    refine w_st rfl (fun _ => rfl) ?_
    refine w_st rfl (fun _ => rfl) ?_
    show w_T L xs (d + 3) m_X12_laysLessons 106 [(6, .int (Int32.ofInt (h : Int))), (5, .int had), (3, .int due), (4, .int mo), (0, .ref 100), (1, .int g), (2, .int hb)] [.int (Int32.ofInt 10), .int (Int32.ofInt (h : Int))] S R Q
    refine w_br (P := (Int32.ofInt 10) ≤ (Int32.ofInt (h : Int))) rfl (fun _ => rfl) (fun h106 => ?_) (fun h106 => ?_)
    · exfalso; rw [q_le32, e10, eh] at h106; omega
    · refine w_st rfl (fun _ => rfl) ?_
      refine w_st rfl (fun _ => rfl) ?_
      show w_T L xs (d + 3) m_X12_laysLessons 112 [(6, .int (Int32.ofInt (h : Int))), (5, .int had), (3, .int due), (4, .int mo), (0, .ref 100), (1, .int g), (2, .int hb)] [.int (Int32.ofInt (h : Int)), .int due] S R Q
      refine w_cs rfl (by decide) mt_X12_has (fun _ => rfl) (Nat.le_of_ble_eq_true rfl) (Nat.le_of_ble_eq_true rfl) ?_
      show w_T L xs _ m_X12_has 0 (lv_args 0 [.int due, .int (Int32.ofInt (h : Int))]) [] S R _
      refine h_has _ _ ?_
      show w_T L xs (d + 3) m_X12_laysLessons 115 [(6, .int (Int32.ofInt (h : Int))), (5, .int had), (3, .int due), (4, .int mo), (0, .ref 100), (1, .int g), (2, .int hb)] [.int (if (due >>> ((Int32.ofInt (h : Int)) &&& 31)) &&& 1 = 1 then (1 : Int32) else 0)] S R Q
      refine w_br (P := (if (due >>> ((Int32.ofInt (h : Int)) &&& 31)) &&& 1 = 1 then (1 : Int32) else 0) = 0) rfl (fun _ => rfl) (fun h115 => ?_) (fun h115 => ?_)
      · refine w_st rfl (fun _ => rfl) ?_
        refine w_st rfl (fun _ => rfl) ?_
        show w_T L xs (d + 3) m_X12_laysLessons 102 [(6, .int ((Int32.ofInt (h : Int)) + Int32.ofInt 1)), (5, .int had), (3, .int due), (4, .int mo), (0, .ref 100), (1, .int g), (2, .int hb)] [] S R Q
        rw [w_inc]
        exact ih (h + 1) (by omega)
      · have hbit : (due >>> (Int32.ofInt (h : Int) &&& 31)) &&& 1 = 1 := Decidable.byContradiction (fun hn => h115 (by rw [if_neg hn]))
        refine w_st rfl (fun _ => rfl) ?_
        show w_T L xs (d + 3) m_X12_laysLessons 119 [(6, .int (Int32.ofInt (h : Int))), (5, .int had), (3, .int due), (4, .int mo), (0, .ref 100), (1, .int g), (2, .int hb)] [.ref 100] S R Q
        refine w_getr rfl v_tyM rfl ?_
        refine w_st rfl (fun _ => rfl) ?_
        show w_T L xs (d + 3) m_X12_laysLessons 124 [(6, .int (Int32.ofInt (h : Int))), (5, .int had), (3, .int due), (4, .int mo), (0, .ref 100), (1, .int g), (2, .int hb)] [.int (Int32.ofInt (h : Int)), .ref 133] S R Q
        refine w_iald rfl rfl (by rw [eh]; omega) (by rw [eh]; omega) ?_
        refine w_st rfl (fun _ => rfl) ?_
        refine w_st rfl (fun _ => rfl) ?_
        refine w_st rfl (fun _ => rfl) ?_
        refine w_st rfl (fun _ => rfl) ?_
        show w_T L xs (d + 3) m_X12_laysLessons 130 [(6, .int (Int32.ofInt (h : Int))), (5, .int had), (3, .int due), (4, .int mo), (0, .ref 100), (1, .int g), (2, .int hb)] [.int ((S 132 (Int32.ofInt (h : Int)).toInt.toNat) &&& (had ^^^ (Int32.ofInt (-1))))] S R Q
        refine w_br (P := ((S 132 (Int32.ofInt (h : Int)).toInt.toNat) &&& (had ^^^ (Int32.ofInt (-1)))) = 0) rfl (fun _ => rfl) (fun h130 => ?_) (fun h130 => ?_)
        · exact k h (by omega) (fun _ => hbit)
        · refine w_st rfl (fun _ => rfl) ?_
          refine w_st rfl (fun _ => rfl) ?_
          show w_T L xs (d + 3) m_X12_laysLessons 102 [(6, .int ((Int32.ofInt (h : Int)) + Int32.ofInt 1)), (5, .int had), (3, .int due), (4, .int mo), (0, .ref 100), (1, .int g), (2, .int hb)] [] S R Q
          rw [w_inc]
          exact ih (h + 1) (by omega)
def v_clr (k h : Nat) : Bool := bif decide ((Int32.ofInt (k : Int) >>> (Int32.ofInt (h : Int) &&& 31)) &&& 1 = 1) then (q_ile 0 (Int32.ofInt (k : Int) &&& ((Int32.ofInt 1 <<< (Int32.ofInt (h : Int) &&& 31)) ^^^ Int32.ofInt (-1))).toInt && q_ile (Int32.ofInt (k : Int) &&& ((Int32.ofInt 1 <<< (Int32.ofInt (h : Int) &&& 31)) ^^^ Int32.ofInt (-1))).toInt 1023) && Nat.beq (v_popN 10 (Int32.ofInt (k : Int) &&& ((Int32.ofInt 1 <<< (Int32.ofInt (h : Int) &&& 31)) ^^^ Int32.ofInt (-1))).toInt.toNat + 1) (v_popN 10 k) else true
set_option maxRecDepth 100000 in
theorem v_clr_ok : ((List.range 1024).all (fun k => (List.range 10).all (fun h => v_clr k h))) = true := by decide +kernel
theorem w_clr {due : Int32} {h : Nat} (d1 : 0 ≤ due.toInt) (d2 : due.toInt ≤ 1023) (hh : h < 10) (hb : (due >>> (Int32.ofInt (h : Int) &&& 31)) &&& 1 = 1) : 0 ≤ (due &&& ((Int32.ofInt 1 <<< (Int32.ofInt (h : Int) &&& 31)) ^^^ Int32.ofInt (-1))).toInt ∧ (due &&& ((Int32.ofInt 1 <<< (Int32.ofInt (h : Int) &&& 31)) ^^^ Int32.ofInt (-1))).toInt ≤ 1023 ∧ v_popN 10 (due &&& ((Int32.ofInt 1 <<< (Int32.ofInt (h : Int) &&& 31)) ^^^ Int32.ofInt (-1))).toInt.toNat + 1 = v_popN 10 due.toInt.toNat := by
  have h1 := List.all_eq_true.mp v_clr_ok due.toInt.toNat (List.mem_range.mpr (by omega))
  have h2 := List.all_eq_true.mp h1 h (List.mem_range.mpr hh)
  have e : Int32.ofInt ((due.toInt.toNat : Nat) : Int) = due := by rw [show ((due.toInt.toNat : Nat) : Int) = due.toInt by omega, q_of]
  unfold v_clr at h2
  rw [e, decide_eq_true hb] at h2
  simp only [cond_true, Bool.and_eq_true, q_ile_ok, Nat.beq_eq] at h2
  exact ⟨h2.1.1, h2.1.2, h2.2⟩
set_option maxHeartbeats 2000000 in
theorem h_ll4 (R : v_Rf) (g hb mo : Int32) : ∀ (m : Nat) (S : v_Sf) (due had b : Int32) (k : Nat), v_popN 10 due.toInt.toNat = m → 0 ≤ due.toInt → due.toInt ≤ 1023 → S 99 107 = Int32.ofInt (k : Int) → k + m ≤ 10 → v_Tb v_ty S R → v_Op S → (∀ S' u, v_Tb v_ty S' R → v_Op S' → v_Fr [(99, 107, 107), (161, 0, 10)] S R S' R → (u = Int32.ofInt 0 ∨ u = Int32.ofInt 1) → Q (some (.int u)) S' R) → w_T L xs (d + 3) m_X12_laysLessons 95 [(5, .int had), (3, .int due), (6, .int b), (4, .int mo), (0, .ref 100), (1, .int g), (2, .int hb)] [] S R Q := by
  have e10 : (Int32.ofInt 10).toInt = 10 := by decide
  have f1 : v_frz 99 107 107 = false := by decide +kernel
  have f2 : ∀ j, v_frz 161 j j = false := fun j => rfl
  have c1 : v_md [(99, 107, 107), (161, 0, 10)] 99 107 107 = true := by decide +kernel
  have c2 : ∀ j, j ≤ 10 → v_md [(99, 107, 107), (161, 0, 10)] 161 j j = true := fun j hj => v_md_mono (lo := 0) (hi := 10) (by decide +kernel) (Nat.zero_le _) hj
  intro m
  induction m with
  | zero =>
    intro S due had b k hp d1 d2 hk hkm hT hO hq
    have hz : due = 0 := by
      apply q_inj
      show due.toInt = 0
      rcases Int.lt_or_eq_of_le d1 with h | h
      · have := v_popN_pos 10 due.toInt.toNat (by omega) (by omega)
        omega
      · omega
    refine w_st rfl (fun _ => rfl) ?_
    show w_T L xs (d + 3) m_X12_laysLessons 96 [(5, .int had), (3, .int due), (6, .int b), (4, .int mo), (0, .ref 100), (1, .int g), (2, .int hb)] [.int due] S R Q
    refine w_br (P := due = 0) rfl (fun _ => rfl) (fun h96 => ?_) (fun h96 => ?_)
    · refine w_st rfl (fun _ => rfl) ?_
      show w_T L xs (d + 3) m_X12_laysLessons 191 [(5, .int had), (3, .int due), (6, .int b), (4, .int mo), (0, .ref 100), (1, .int g), (2, .int hb)] [.int (Int32.ofInt 1)] S R Q
      refine w_ret rfl (by rfl) ?_
      exact hq S _ hT hO (v_Fr_rf _ _ _) (Or.inr rfl)
    · exact absurd hz h96
  | succ m ih =>
    intro S due had b k hp d1 d2 hk hkm hT hO hq
    refine w_st rfl (fun _ => rfl) ?_
    show w_T L xs (d + 3) m_X12_laysLessons 96 [(5, .int had), (3, .int due), (6, .int b), (4, .int mo), (0, .ref 100), (1, .int g), (2, .int hb)] [.int due] S R Q
    refine w_br (P := due = 0) rfl (fun _ => rfl) (fun h96 => ?_) (fun h96 => ?_)
    · refine w_st rfl (fun _ => rfl) ?_
      show w_T L xs (d + 3) m_X12_laysLessons 191 [(5, .int had), (3, .int due), (6, .int b), (4, .int mo), (0, .ref 100), (1, .int g), (2, .int hb)] [.int (Int32.ofInt 1)] S R Q
      refine w_ret rfl (by rfl) ?_
      exfalso
      have : v_popN 10 due.toInt.toNat = 0 := by rw [h96]; decide
      omega
    · refine w_st rfl (fun _ => rfl) ?_
      refine w_st rfl (fun _ => rfl) ?_
      show w_T L xs (d + 3) m_X12_laysLessons 102 [(6, .int (Int32.ofInt 0)), (5, .int had), (3, .int due), (4, .int mo), (0, .ref 100), (1, .int g), (2, .int hb)] [] S R Q
      refine h_ll3 S R g hb had due mo hT (fun q hq1 hq2 => ?_) 10 0 rfl
      have eq := w_nat (k := q) (by omega)
      have ek := w_nat (k := k) (by omega)
      have ekn : (Int32.ofInt (k : Int)).toInt.toNat = k := by rw [ek]; omega
      refine w_st rfl (fun _ => rfl) ?_
      refine w_st rfl (fun _ => rfl) ?_
      show w_T L xs (d + 3) m_X12_laysLessons 143 [(6, .int (Int32.ofInt (q : Int))), (5, .int had), (3, .int due), (4, .int mo), (0, .ref 100), (1, .int g), (2, .int hb)] [.int (Int32.ofInt 10), .int (Int32.ofInt (q : Int))] S R Q
      refine w_br (P := ¬ (Int32.ofInt (q : Int)) = (Int32.ofInt 10)) rfl (fun _ => rfl) (fun h143 => ?_) (fun h143 => ?_)
      · have hq10 : q < 10 := by
          rcases Nat.lt_or_eq_of_le hq1 with h | h
          · exact h
          · exact absurd (by rw [h]; rfl) h143
        refine w_st rfl (fun _ => rfl) ?_
        show w_T L xs (d + 3) m_X12_laysLessons 149 [(6, .int (Int32.ofInt (q : Int))), (5, .int had), (3, .int due), (4, .int mo), (0, .ref 100), (1, .int g), (2, .int hb)] [.ref 100] S R Q
        refine w_getr rfl v_tyM rfl ?_
        refine w_st rfl (fun _ => rfl) ?_
        show w_T L xs (d + 3) m_X12_laysLessons 153 [(6, .int (Int32.ofInt (q : Int))), (5, .int had), (3, .int due), (4, .int mo), (0, .ref 100), (1, .int g), (2, .int hb)] [.ref 100, .ref 162] S R Q
        refine w_get rfl v_tyM rfl ?_
        rw [hk]
        refine w_st rfl (fun _ => rfl) ?_
        show w_T L xs (d + 3) m_X12_laysLessons 158 [(6, .int (Int32.ofInt (q : Int))), (5, .int had), (3, .int due), (4, .int mo), (0, .ref 100), (1, .int g), (2, .int hb)] [.int (Int32.ofInt (q : Int)), .int (Int32.ofInt (k : Int)), .ref 162] S R Q
        refine w_iast rfl rfl (by rw [ek]; omega) (by rw [ek]; omega) ?_
        refine w_st rfl (fun _ => rfl) ?_
        refine w_st rfl (fun _ => rfl) ?_
        show w_T L xs (d + 3) m_X12_laysLessons 161 [(6, .int (Int32.ofInt (q : Int))), (5, .int had), (3, .int due), (4, .int mo), (0, .ref 100), (1, .int g), (2, .int hb)] [.ref 100, .ref 100] (v_ur S 161 (upd (S 161) (Int32.ofInt (k : Int)).toInt.toNat (Int32.ofInt (q : Int)))) R Q
        refine w_get rfl v_tyM rfl ?_
        rw [w_urn (fun e => absurd e.1 (by decide)), hk]
        refine w_st rfl (fun _ => rfl) ?_
        refine w_st rfl (fun _ => rfl) ?_
        show w_T L xs (d + 3) m_X12_laysLessons 166 [(6, .int (Int32.ofInt (q : Int))), (5, .int had), (3, .int due), (4, .int mo), (0, .ref 100), (1, .int g), (2, .int hb)] [.int ((Int32.ofInt (k : Int)) + (Int32.ofInt 1)), .ref 100] (v_ur S 161 (upd (S 161) (Int32.ofInt (k : Int)).toInt.toNat (Int32.ofInt (q : Int)))) R Q
        refine w_put rfl v_tyM rfl rfl rfl ?_
        refine w_st rfl (fun _ => rfl) ?_
        refine w_st rfl (fun _ => rfl) ?_
        refine w_st rfl (fun _ => rfl) ?_
        refine w_st rfl (fun _ => rfl) ?_
        refine w_st rfl (fun _ => rfl) ?_
        refine w_st rfl (fun _ => rfl) ?_
        refine w_st rfl (fun _ => rfl) ?_
        refine w_st rfl (fun _ => rfl) ?_
        refine w_st rfl (fun _ => rfl) ?_
        refine w_st rfl (fun _ => rfl) ?_
        refine w_st rfl (fun _ => rfl) ?_
        refine w_st rfl (fun _ => rfl) ?_
        refine w_st rfl (fun _ => rfl) ?_
        refine w_st rfl (fun _ => rfl) ?_
        refine w_st rfl (fun _ => rfl) ?_
        show w_T L xs (d + 3) m_X12_laysLessons 95 [(3, .int (due &&& (((Int32.ofInt 1) <<< ((Int32.ofInt (q : Int)) &&& 31)) ^^^ (Int32.ofInt (-1))))), (5, .int (had ||| ((Int32.ofInt 1) <<< ((Int32.ofInt (q : Int)) &&& 31)))), (6, .int (Int32.ofInt (q : Int))), (4, .int mo), (0, .ref 100), (1, .int g), (2, .int hb)] [] (v_ur (v_ur S 161 (upd (S 161) (Int32.ofInt (k : Int)).toInt.toNat (Int32.ofInt (q : Int)))) 99 (upd ((v_ur S 161 (upd (S 161) (Int32.ofInt (k : Int)).toInt.toNat (Int32.ofInt (q : Int)))) 99) 107 ((Int32.ofInt (k : Int)) + (Int32.ofInt 1)))) R Q
        refine w_lc (b := [(5, .int (had ||| ((Int32.ofInt 1) <<< ((Int32.ofInt (q : Int)) &&& 31)))), (3, .int (due &&& (((Int32.ofInt 1) <<< ((Int32.ofInt (q : Int)) &&& 31)) ^^^ (Int32.ofInt (-1))))), (6, .int (Int32.ofInt (q : Int))), (4, .int mo), (0, .ref 100), (1, .int g), (2, .int hb)]) (show ([3, 5, 6, 4, 0, 1, 2] : List Nat).Nodup by decide) (show ([5, 3, 6, 4, 0, 1, 2] : List Nat).Nodup by decide) (fun i => match i with | 0 => rfl | 1 => rfl | 2 => rfl | 3 => rfl | 4 => rfl | 5 => rfl | 6 => rfl | _ + 7 => rfl) ?_
        have hc := w_clr d1 d2 hq10 (hq2 hq10)
        refine ih _ _ _ _ (k + 1) (by omega) hc.1 hc.2.1 (by rw [w_urs, w_inc]) (by omega) (w_TbF (w_TbR hT (a := 161) rfl (by rw [eq]; omega) (by rw [eq]; show _ ≤ (9 : Int); omega)) v_tyM rfl (by rw [w_inc, w_nat (by omega)]; show (0 : Int) ≤ _; omega) (by rw [w_inc, w_nat (by omega)]; show _ ≤ (10 : Int); omega)) (w_Op_ur f1 (w_Op_ur (f2 _) hO)) (fun S' u k1 k2 k3 k4 => hq S' u k1 k2 (v_Fr_tr (v_Fr_tr (v_Fr_ur _ _ _ (c2 _ (by rw [ekn]; omega))) (v_Fr_ur _ _ _ c1)) k3) k4)
      · refine w_st rfl (fun _ => rfl) ?_
        show w_T L xs (d + 3) m_X12_laysLessons 147 [(6, .int (Int32.ofInt (q : Int))), (5, .int had), (3, .int due), (4, .int mo), (0, .ref 100), (1, .int g), (2, .int hb)] [.int (Int32.ofInt 0)] S R Q
        refine w_ret rfl (by rfl) ?_
        exact hq S _ hT hO (v_Fr_rf _ _ _) (Or.inl rfl)
theorem hr_X12_laysLessons {L : Nat} {xs : Nat → Int32} (ih : ∀ x, ∀ w ∈ v_rw x, w.1 < rw_238.1 → v_Met L xs v_ty v_Op x w) : v_Met L xs v_ty v_Op 270 rw_238 := by
  intro M hM ac S R ha hT hO
  rw [mt_X12_laysLessons] at hM
  cases hM
  match ac, ha with
  | [r0, w1, w2], ⟨h0, ⟨g, hg, g1, g2⟩, ⟨hb, hhb, b1, b2⟩, _⟩ =>
  have h0 : r0 = .ref 100 := h0
  subst h0 hg hhb
  have g1 : 0 ≤ g.toInt := g1
  have g2 : g.toInt ≤ 11 := g2
  have b1 : 0 ≤ hb.toInt := b1
  have b2 : hb.toInt ≤ 1023 := b2
  show w_T L xs 3 m_X12_laysLessons 0 (lv_args 0 [.ref 100, .int g, .int hb]) [] S R (fun r S' R' => v_Tb v_ty S' R' ∧ v_Op S' ∧ v_rk1 (some (0, 1)) r ∧ v_Fr [(99, 107, 107), (161, 0, 10)] S R S' R')
  generalize hQ : (fun (r : Option Value) (S' : v_Sf) (R' : v_Rf) => v_Tb v_ty S' R' ∧ v_Op S' ∧ v_rk1 (some (0, 1)) r ∧ v_Fr [(99, 107, 107), (161, 0, 10)] S R S' R') = Q
  have c1 : v_md [(99, 107, 107), (161, 0, 10)] 99 107 107 = true := by decide +kernel
  have f1 : v_frz 99 107 107 = false := by decide +kernel
  have hd := w_andl (x := hb) (y := S 122 g.toInt.toNat ^^^ Int32.ofInt (-1)) b1
  refine w_st rfl (fun _ => rfl) ?_
  refine w_st rfl (fun _ => rfl) ?_
  show w_T L xs 3 m_X12_laysLessons 2 [(0, .ref 100), (1, .int g), (2, .int hb)] [.ref 100, .int hb] S R Q
  refine w_getr rfl v_tyM rfl ?_
  refine w_st rfl (fun _ => rfl) ?_
  show w_T L xs 3 m_X12_laysLessons 6 [(0, .ref 100), (1, .int g), (2, .int hb)] [.int g, .ref 123, .int hb] S R Q
  refine w_iald rfl rfl (by omega) (by omega) ?_
  refine w_st rfl (fun _ => rfl) ?_
  refine w_st rfl (fun _ => rfl) ?_
  refine w_st rfl (fun _ => rfl) ?_
  refine w_st rfl (fun _ => rfl) ?_
  refine w_st rfl (fun _ => rfl) ?_
  refine w_st rfl (fun _ => rfl) ?_
  refine w_st rfl (fun _ => rfl) ?_
  show w_T L xs 3 m_X12_laysLessons 16 [(4, .int (Int32.ofInt 1)), (3, .int (hb &&& ((S 122 g.toInt.toNat) ^^^ (Int32.ofInt (-1))))), (0, .ref 100), (1, .int g), (2, .int hb)] [.int (Int32.ofInt 1)] S R Q
  refine w_st rfl (fun _ => rfl) ?_
  refine w_st rfl (fun _ => rfl) ?_
  refine w_st rfl (fun _ => rfl) ?_
  refine w_st rfl (fun _ => rfl) ?_
  refine w_st rfl (fun _ => rfl) ?_
  show w_T L xs 3 m_X12_laysLessons 25 [(6, .int (Int32.ofInt 0)), (5, .int (hb &&& ((S 122 g.toInt.toNat) ^^^ (Int32.ofInt (-1))))), (4, .int (Int32.ofInt 1)), (3, .int (hb &&& ((S 122 g.toInt.toNat) ^^^ (Int32.ofInt (-1))))), (0, .ref 100), (1, .int g), (2, .int hb)] [] S R Q
  refine w_lc (b := [(6, .int (Int32.ofInt 0)), (3, .int (hb &&& ((S 122 g.toInt.toNat) ^^^ (Int32.ofInt (-1))))), (5, .int (hb &&& ((S 122 g.toInt.toNat) ^^^ (Int32.ofInt (-1))))), (4, .int (Int32.ofInt 1)), (0, .ref 100), (1, .int g), (2, .int hb)]) (show ([6, 5, 4, 3, 0, 1, 2] : List Nat).Nodup by decide) (show ([6, 3, 5, 4, 0, 1, 2] : List Nat).Nodup by decide) (fun i => match i with | 0 => rfl | 1 => rfl | 2 => rfl | 3 => rfl | 4 => rfl | 5 => rfl | 6 => rfl | _ + 7 => rfl) ?_
  refine h_ll1 (d := 0) S R g hb _ _ g1 g2 hT 10 0 _ rfl hd.1 (by omega) (Int.le_refl _) (fun due' k1 k2 k3 => ?_)
  refine w_st rfl (fun _ => rfl) ?_
  refine w_st rfl (fun _ => rfl) ?_
  show w_T L xs 3 m_X12_laysLessons 69 [(6, .int (Int32.ofInt 10)), (3, .int (due')), (5, .int (hb &&& (S 122 g.toInt.toNat ^^^ Int32.ofInt (-1)))), (4, .int (Int32.ofInt 1)), (0, .ref 100), (1, .int g), (2, .int hb)] [.int (hb &&& (S 122 g.toInt.toNat ^^^ Int32.ofInt (-1))), .int (due')] S R Q
  refine w_br (P := (due') = (hb &&& (S 122 g.toInt.toNat ^^^ Int32.ofInt (-1)))) rfl (fun _ => rfl) (fun h69 => ?_) (fun h69 => ?_)
  · refine w_st rfl (fun _ => rfl) ?_
    refine w_st rfl (fun _ => rfl) ?_
    refine w_st rfl (fun _ => rfl) ?_
    show w_T L xs 3 m_X12_laysLessons 14 [(4, .int (Int32.ofInt 0)), (6, .int (Int32.ofInt 10)), (3, .int (due')), (5, .int (hb &&& (S 122 g.toInt.toNat ^^^ Int32.ofInt (-1)))), (0, .ref 100), (1, .int g), (2, .int hb)] [] S R Q
    refine w_lc (b := [(4, .int (Int32.ofInt 0)), (3, .int (due')), (5, .int (hb &&& (S 122 g.toInt.toNat ^^^ Int32.ofInt (-1)))), (6, .int (Int32.ofInt 10)), (0, .ref 100), (1, .int g), (2, .int hb)]) (show ([4, 6, 3, 5, 0, 1, 2] : List Nat).Nodup by decide) (show ([4, 3, 5, 6, 0, 1, 2] : List Nat).Nodup by decide) (fun i => match i with | 0 => rfl | 1 => rfl | 2 => rfl | 3 => rfl | 4 => rfl | 5 => rfl | 6 => rfl | _ + 7 => rfl) ?_
    refine h_ll2 (d := 0) S R g hb g1 g2 hT 3000 due' _ _ _ (Or.inl ⟨rfl, by omega⟩) k1 k2 (fun due2 a2 b2' m1 m2 => ?_)
    refine w_st rfl (fun _ => rfl) ?_
    refine w_st rfl (fun _ => rfl) ?_
    show w_T L xs 3 m_X12_laysLessons 84 [(4, .int (Int32.ofInt 0)), (3, .int due2), (5, .int a2), (6, .int (b2')), (0, .ref 100), (1, .int g), (2, .int hb)] [.int (Int32.ofInt 0), .ref 100] S R Q
    refine w_put rfl v_tyM rfl rfl rfl ?_
    refine w_st rfl (fun _ => rfl) ?_
    show w_T L xs 3 m_X12_laysLessons 88 [(4, .int (Int32.ofInt 0)), (3, .int due2), (5, .int a2), (6, .int (b2')), (0, .ref 100), (1, .int g), (2, .int hb)] [.ref 100] (v_ur S 99 (upd (S 99) 107 (Int32.ofInt 0))) R Q
    refine w_getr rfl v_tyM rfl ?_
    refine w_st rfl (fun _ => rfl) ?_
    show w_T L xs 3 m_X12_laysLessons 92 [(4, .int (Int32.ofInt 0)), (3, .int due2), (5, .int a2), (6, .int (b2')), (0, .ref 100), (1, .int g), (2, .int hb)] [.int g, .ref 123] (v_ur S 99 (upd (S 99) 107 (Int32.ofInt 0))) R Q
    refine w_iald rfl rfl (by omega) (by omega) ?_
    refine w_st rfl (fun _ => rfl) ?_
    show w_T L xs 3 m_X12_laysLessons 95 [(5, .int ((v_ur S 99 (upd (S 99) 107 (Int32.ofInt 0))) 122 g.toInt.toNat)), (4, .int (Int32.ofInt 0)), (3, .int due2), (6, .int (b2')), (0, .ref 100), (1, .int g), (2, .int hb)] [] (v_ur S 99 (upd (S 99) 107 (Int32.ofInt 0))) R Q
    refine w_lc (b := [(5, .int ((v_ur S 99 (upd (S 99) 107 (Int32.ofInt 0))) 122 g.toInt.toNat)), (3, .int due2), (6, .int (b2')), (4, .int (Int32.ofInt 0)), (0, .ref 100), (1, .int g), (2, .int hb)]) (show ([5, 4, 3, 6, 0, 1, 2] : List Nat).Nodup by decide) (show ([5, 3, 6, 4, 0, 1, 2] : List Nat).Nodup by decide) (fun i => match i with | 0 => rfl | 1 => rfl | 2 => rfl | 3 => rfl | 4 => rfl | 5 => rfl | 6 => rfl | _ + 7 => rfl) ?_
    refine h_ll4 (d := 0) R g hb _ _ _ due2 _ _ 0 rfl m1 m2 (by rw [w_urs]; rfl) (by have := v_popN_f 10 due2.toInt.toNat; omega) (w_TbF hT v_tyM rfl (by decide) (by decide)) (w_Op_ur f1 hO) (fun S' u k1 k2 k3 k4 => ?_)
    rw [← hQ]
    refine ⟨k1, k2, ?_, v_Fr_tr (v_Fr_ur _ _ _ c1) k3⟩
    rcases k4 with rfl | rfl
    · exact ⟨_, rfl, by decide, by decide⟩
    · exact ⟨_, rfl, by decide, by decide⟩
  · refine w_st rfl (fun _ => rfl) ?_
    refine w_st rfl (fun _ => rfl) ?_
    refine w_st rfl (fun _ => rfl) ?_
    refine w_st rfl (fun _ => rfl) ?_
    show w_T L xs 3 m_X12_laysLessons 14 [(4, .int (Int32.ofInt 1)), (6, .int (Int32.ofInt 10)), (3, .int (due')), (5, .int (hb &&& (S 122 g.toInt.toNat ^^^ Int32.ofInt (-1)))), (0, .ref 100), (1, .int g), (2, .int hb)] [] S R Q
    refine w_lc (b := [(4, .int (Int32.ofInt 1)), (3, .int (due')), (5, .int (hb &&& (S 122 g.toInt.toNat ^^^ Int32.ofInt (-1)))), (6, .int (Int32.ofInt 10)), (0, .ref 100), (1, .int g), (2, .int hb)]) (show ([4, 6, 3, 5, 0, 1, 2] : List Nat).Nodup by decide) (show ([4, 3, 5, 6, 0, 1, 2] : List Nat).Nodup by decide) (fun i => match i with | 0 => rfl | 1 => rfl | 2 => rfl | 3 => rfl | 4 => rfl | 5 => rfl | 6 => rfl | _ + 7 => rfl) ?_
    refine h_ll2 (d := 0) S R g hb g1 g2 hT 3000 due' _ _ _ (Or.inr ⟨rfl, by omega⟩) k1 k2 (fun due2 a2 b2' m1 m2 => ?_)
    refine w_st rfl (fun _ => rfl) ?_
    refine w_st rfl (fun _ => rfl) ?_
    show w_T L xs 3 m_X12_laysLessons 84 [(4, .int (Int32.ofInt 0)), (3, .int due2), (5, .int a2), (6, .int (b2')), (0, .ref 100), (1, .int g), (2, .int hb)] [.int (Int32.ofInt 0), .ref 100] S R Q
    refine w_put rfl v_tyM rfl rfl rfl ?_
    refine w_st rfl (fun _ => rfl) ?_
    show w_T L xs 3 m_X12_laysLessons 88 [(4, .int (Int32.ofInt 0)), (3, .int due2), (5, .int a2), (6, .int (b2')), (0, .ref 100), (1, .int g), (2, .int hb)] [.ref 100] (v_ur S 99 (upd (S 99) 107 (Int32.ofInt 0))) R Q
    refine w_getr rfl v_tyM rfl ?_
    refine w_st rfl (fun _ => rfl) ?_
    show w_T L xs 3 m_X12_laysLessons 92 [(4, .int (Int32.ofInt 0)), (3, .int due2), (5, .int a2), (6, .int (b2')), (0, .ref 100), (1, .int g), (2, .int hb)] [.int g, .ref 123] (v_ur S 99 (upd (S 99) 107 (Int32.ofInt 0))) R Q
    refine w_iald rfl rfl (by omega) (by omega) ?_
    refine w_st rfl (fun _ => rfl) ?_
    show w_T L xs 3 m_X12_laysLessons 95 [(5, .int ((v_ur S 99 (upd (S 99) 107 (Int32.ofInt 0))) 122 g.toInt.toNat)), (4, .int (Int32.ofInt 0)), (3, .int due2), (6, .int (b2')), (0, .ref 100), (1, .int g), (2, .int hb)] [] (v_ur S 99 (upd (S 99) 107 (Int32.ofInt 0))) R Q
    refine w_lc (b := [(5, .int ((v_ur S 99 (upd (S 99) 107 (Int32.ofInt 0))) 122 g.toInt.toNat)), (3, .int due2), (6, .int (b2')), (4, .int (Int32.ofInt 0)), (0, .ref 100), (1, .int g), (2, .int hb)]) (show ([5, 4, 3, 6, 0, 1, 2] : List Nat).Nodup by decide) (show ([5, 3, 6, 4, 0, 1, 2] : List Nat).Nodup by decide) (fun i => match i with | 0 => rfl | 1 => rfl | 2 => rfl | 3 => rfl | 4 => rfl | 5 => rfl | 6 => rfl | _ + 7 => rfl) ?_
    refine h_ll4 (d := 0) R g hb _ _ _ due2 _ _ 0 rfl m1 m2 (by rw [w_urs]; rfl) (by have := v_popN_f 10 due2.toInt.toNat; omega) (w_TbF hT v_tyM rfl (by decide) (by decide)) (w_Op_ur f1 hO) (fun S' u k1 k2 k3 k4 => ?_)
    rw [← hQ]
    refine ⟨k1, k2, ?_, v_Fr_tr (v_Fr_ur _ _ _ c1) k3⟩
    rcases k4 with rfl | rfl
    · exact ⟨_, rfl, by decide, by decide⟩
    · exact ⟨_, rfl, by decide, by decide⟩
end LL
