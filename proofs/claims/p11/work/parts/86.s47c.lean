/-! both objects are alike when they are made -/
noncomputable def z_cob (n : Nat) (A B : Nat → Int32) (lo hi : Int) : Bool := decide (∀ g : Fin n, A g.val = B g.val ∧ lo ≤ (B g.val).toInt ∧ (B g.val).toInt ≤ hi)
noncomputable def z_tob (n : Nat) (m : Int) (b : Int32) (I : Nat → Int32) : Bool := decide ((0 ≤ b.toInt ∧ b.toInt ≤ m) ∧ ∀ g : Fin n, (¬ (b >>> (z_i g.val &&& 31)) &&& Int32.ofInt 1 = 0 ↔ ¬ I g.val = 0))
theorem z_cob_ok {n : Nat} {A B : Nat → Int32} {lo hi : Int} (h : z_cob n A B lo hi = true) : z_co n A B lo hi := by
  have k := of_decide_eq_true h
  exact fun g hg => k ⟨g, hg⟩
theorem z_tob_ok {n : Nat} {m : Int} {b : Int32} {I : Nat → Int32} (h : z_tob n m b I = true) : z_told n m b I := by
  have k := of_decide_eq_true h
  exact ⟨k.1, fun g hg => k.2 ⟨g, hg⟩⟩
noncomputable def z_S0b : Bool := z_tob 12 4095 (v_S0 1 0) (v_S0 116) && (z_cob 12 (v_S0 2) (v_S0 117) 0 99 && (decide (∀ g : Fin 12, v_S0 116 g.val = 0) && (z_cob 12 (v_S0 4) (v_S0 119) 0 9 && (z_cob 12 (v_S0 5) (v_S0 120) 0 5 && (z_cob 12 (v_S0 6) (v_S0 121) 0 9 && (z_cob 12 (v_S0 7) (v_S0 122) 0 1023 && (z_tob 5 31 (v_S0 1 7) (v_S0 129) && (z_cob 5 (v_S0 8) (v_S0 130) 0 9 && (z_cob 5 (v_S0 9) (v_S0 131) 0 10 && (decide (v_S0 1 11 = v_S0 99 60 ∧ 0 ≤ (v_S0 99 60).toInt ∧ (v_S0 99 60).toInt ≤ 9999) && (decide (v_S0 1 12 = v_S0 99 61) && (decide (v_S0 1 13 = v_S0 99 62) && (decide (∀ w : Fin 6, v_S0 (33 + 2 * w.val) 1 = v_S0 127 w.val ∧ (0 ≤ (v_S0 127 w.val).toInt ∧ (v_S0 127 w.val).toInt ≤ 0) ∧ v_S0 (33 + 2 * w.val) 2 = v_S0 123 w.val ∧ v_S0 (33 + 2 * w.val) 3 = v_S0 124 w.val ∧ v_S0 (33 + 2 * w.val) 4 = v_S0 125 w.val ∧ (-1 ≤ (v_S0 125 w.val).toInt ∧ (v_S0 125 w.val).toInt ≤ 4)) && (z_cob 10 (v_S0 48) (v_S0 132) 0 1023 && (decide (v_S0 52 7 = z_i 0 ∧ v_S0 52 6 = z_i 0 ∧ v_S0 99 16 = z_i 0) && (z_cob 6 (v_S0 10) (v_S0 128) 0 47 && (decide (∀ w : Fin 6, v_S0 128 w.val = 0 ∨ (v_S0 128 w.val).toInt < (v_S0 127 w.val).toInt) && (decide (v_S0 1 14 = v_S0 99 2 ∧ 0 ≤ (v_S0 99 2).toInt ∧ (v_S0 99 2).toInt ≤ 65535) && (decide (∀ i : Fin 260, v_S0 46 i.val = v_S0 100 i.val &&& Int32.ofInt 255 ∧ -128 ≤ (v_S0 100 i.val).toInt ∧ (v_S0 100 i.val).toInt ≤ 127) && (decide (v_S0 45 1 = v_S0 99 1 ∧ 0 ≤ (v_S0 99 1).toInt ∧ (v_S0 99 1).toInt ≤ 260) && (decide (v_S0 0 14 = v_S0 99 92 ∧ v_S0 99 92 = 0) && (z_tob 4 ((2 ^ 4 - 1 : Nat) : Int) (v_S0 86 0) (v_S0 156) && (z_cob 4 (v_S0 87) (v_S0 157) 0 7 && (z_cob 4 (v_S0 88) (v_S0 158) 0 255 && (z_tob 10 ((2 ^ 10 - 1 : Nat) : Int) (v_S0 0 13) (v_S0 159) && (z_cob 10 (v_S0 31) (v_S0 160) 0 1023 && (z_tob 5 ((2 ^ 5 - 1 : Nat) : Int) (v_S0 94 0) (v_S0 162) && (z_cob 5 (v_S0 95) (v_S0 163) 0 99 && (z_cob 5 (v_S0 96) (v_S0 164) 0 1023 && (decide (v_S0 59 7 = v_S0 99 17 ∧ v_S0 99 25 = 0) && (decide (v_R0 50 2 = some 53 ∧ v_R0 50 3 = some 60 ∧ v_R0 66 1 = some 68 ∧ ∀ i : Fin 6, v_R0 32 i.val = some (33 + 2 * i.val + 1)))))))))))))))))))))))))))))))))
set_option maxRecDepth 100000 in
theorem z_S0c : z_S0b = true := by decide +kernel
theorem z_K0 : z_K v_S0 v_R0 := by
  have h := z_S0c
  unfold z_S0b at h
  simp only [Bool.and_eq_true] at h
  obtain ⟨h0, h1, h2, h3, h4, h5, h6, h7, h8, h9, h10, h11, h12, h13, h14, h15, h16, h17, h18, h19, h20, h21, h22, h23, h24, h25, h26, h27, h28, h29, h30, h31⟩ := h
  have k0 := z_tob_ok h0
  have k1 := z_cob_ok h1
  have k2 := of_decide_eq_true h2
  have k3 := z_cob_ok h3
  have k4 := z_cob_ok h4
  have k5 := z_cob_ok h5
  have k6 := z_cob_ok h6
  have k7 := z_tob_ok h7
  have k8 := z_cob_ok h8
  have k9 := z_cob_ok h9
  have k10 := of_decide_eq_true h10
  have k11 := of_decide_eq_true h11
  have k12 := of_decide_eq_true h12
  have k13 := of_decide_eq_true h13
  have k14 := z_cob_ok h14
  have k15 := of_decide_eq_true h15
  have k16 := z_cob_ok h16
  have k17 := of_decide_eq_true h17
  have k18 := of_decide_eq_true h18
  have k19 := of_decide_eq_true h19
  have k20 := of_decide_eq_true h20
  have k21 := of_decide_eq_true h21
  have k22 := z_tob_ok h22
  have k23 := z_cob_ok h23
  have k24 := z_cob_ok h24
  have k25 := z_tob_ok h25
  have k26 := z_cob_ok h26
  have k27 := z_tob_ok h27
  have k28 := z_cob_ok h28
  have k29 := z_cob_ok h29
  have k30 := of_decide_eq_true h30
  have k31 := of_decide_eq_true h31
  obtain ⟨l1, l2, l3⟩ := k15
  obtain ⟨r1, r2, r3, r4⟩ := k31
  refine ⟨52, 59, 67, ⟨Or.inl rfl, Or.inr (Or.inl rfl), Or.inr (Or.inr rfl), ⟨by decide, by decide, by decide⟩, r1, r2, r3, fun i hi => r4 ⟨i, hi⟩⟩, ⟨0, ⟨k0, k1, fun g hg q => absurd (k2 ⟨g, hg⟩) q, k3, k4, k5, k6, k7, k8, k9, k10, k11, k12⟩, fun w hw => ?_, k14, ⟨l1, by decide, 0, l2, by decide, fun j hj => absurd hj (Nat.not_lt_zero j)⟩, l3⟩, ⟨k16, fun w hw => k17 ⟨w, hw⟩, k18⟩, ⟨fun i hi => k19 ⟨i, hi⟩, k20⟩, ⟨k21.1, fun q => absurd k21.2 q⟩, ⟨k22, k23, k24, k25, k26, k27, k28, k29⟩, k30.1, k30.2⟩
  have kk := k13 ⟨w, hw⟩
  dsimp only at kk
  obtain ⟨a1, a2, a3, a4, a5, a6⟩ := kk
  exact ⟨a1, ⟨a2.1, by have := a2.2; omega⟩, a3, a4, a5, a6, fun j hj => by omega⟩
