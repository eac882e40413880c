section PrtS43p
/-! the state: what both sides hold alike -/
/-! bitCount by numbers -/
theorem z_bzb (k : Nat) : (z_i k).toBitVec = BitVec.ofNat 32 k := rfl
theorem z_bsub {a b : Nat} (h : b ≤ a) : z_i a - z_i b = z_i (a - b) := by
  obtain ⟨c, rfl⟩ : ∃ c, a = c + b := ⟨a - b, by omega⟩
  rw [← z_iadd, Int32.add_sub_cancel, Nat.add_sub_cancel]
theorem z_band (a m : Nat) : z_i a &&& z_i m = z_i (Nat.land a m) := by
  refine Int32.toBitVec_inj.mp ?_
  rw [Int32.toBitVec_and, z_bzb, z_bzb, z_bzb]
  exact BitVec.ofNat_and.symm
theorem z_bor (a m : Nat) : z_i a ||| z_i m = z_i (Nat.lor a m) := by
  refine Int32.toBitVec_inj.mp ?_
  rw [Int32.toBitVec_or, z_bzb, z_bzb, z_bzb]
  exact BitVec.ofNat_or.symm
theorem z_bshr {a k : Nat} {s : UInt32} (hs : s.toNat % 32 = k) (ha : a < 4294967296) : ((z_i a).toUInt32 >>> s).toInt32 = z_i (Nat.shiftRight a k) := by
  refine Int32.toBitVec_inj.mp (BitVec.eq_of_toNat_eq ?_)
  show ((z_i a).toUInt32 >>> s).toNat = _
  rw [UInt32.toNat_shiftRight, hs]
  show (BitVec.ofNat 32 a).toNat >>> k = (BitVec.ofNat 32 (Nat.shiftRight a k)).toNat
  have e : Nat.shiftRight a k < 2 ^ 32 := Nat.lt_of_le_of_lt (Nat.shiftRight_le a k) (by omega)
  rw [BitVec.toNat_ofNat, BitVec.toNat_ofNat, Nat.mod_eq_of_lt (show a < 2 ^ 32 by omega), Nat.mod_eq_of_lt e]
  rfl
theorem z_bone : ∀ k : Fin 12, Int32.ofInt 1 <<< (z_i k.val &&& 31) = z_i (2 ^ k.val) := by decide +kernel
noncomputable def z_bN0 (x : Nat) : Nat := Nat.sub x (Nat.land (Nat.shiftRight x 1) 1431655765)
noncomputable def z_bN1 (a : Nat) : Nat := Nat.add (Nat.land a 858993459) (Nat.land (Nat.shiftRight a 2) 858993459)
noncomputable def z_bN2 (b : Nat) : Nat := Nat.land (Nat.add b (Nat.shiftRight b 4)) 252645135
noncomputable def z_bN3 (c : Nat) : Nat := Nat.add c (Nat.shiftRight c 8)
noncomputable def z_bN4 (d : Nat) : Nat := Nat.add d (Nat.shiftRight d 16)
noncomputable def z_bN (x : Nat) : Nat := Nat.land (z_bN4 (z_bN3 (z_bN2 (z_bN1 (z_bN0 x))))) 63
theorem z_bcq {X : Nat} (hX : X < 4096) : f_J6_bitCount_0f7a4 (z_i X) = z_i (z_bN X) := by
  have s1 : ((Int32.ofInt 1).toUInt32 &&& Int32.toUInt32 31).toNat % 32 = 1 := by decide +kernel
  have s2 : ((Int32.ofInt 2).toUInt32 &&& Int32.toUInt32 31).toNat % 32 = 2 := by decide +kernel
  have s4 : ((Int32.ofInt 4).toUInt32 &&& Int32.toUInt32 31).toNat % 32 = 4 := by decide +kernel
  have s8 : ((Int32.ofInt 8).toUInt32 &&& Int32.toUInt32 31).toNat % 32 = 8 := by decide +kernel
  have s16 : ((Int32.ofInt 16).toUInt32 &&& Int32.toUInt32 31).toNat % 32 = 16 := by decide +kernel
  have m1 : Int32.ofInt 1431655765 = z_i 1431655765 := rfl
  have m2 : Int32.ofInt 858993459 = z_i 858993459 := rfl
  have m4 : Int32.ofInt 252645135 = z_i 252645135 := rfl
  have m6 : Int32.ofInt 63 = z_i 63 := rfl
  unfold f_J6_bitCount_0f7a4 z_bN
  have h0 : z_i X - (((z_i X).toUInt32 >>> ((Int32.ofInt 1).toUInt32 &&& Int32.toUInt32 31)).toInt32 &&& Int32.ofInt 1431655765) = z_i (z_bN0 X) := by
    have hb : Nat.land (Nat.shiftRight X 1) 1431655765 ≤ X := Nat.le_trans (Nat.and_le_left (n := Nat.shiftRight X 1)) (Nat.shiftRight_le X 1)
    rw [z_bshr s1 (show X < 4294967296 by omega), m1, z_band, z_bsub hb]
    rfl
  rw [h0]
  have hA : z_bN0 X ≤ 4095 := Nat.le_trans (Nat.sub_le X (Nat.land (Nat.shiftRight X 1) 1431655765)) (by omega)
  generalize z_bN0 X = A at hA ⊢
  have h1 : (z_i A &&& Int32.ofInt 858993459) + (((z_i A).toUInt32 >>> ((Int32.ofInt 2).toUInt32 &&& Int32.toUInt32 31)).toInt32 &&& Int32.ofInt 858993459) = z_i (z_bN1 A) := by
    rw [z_bshr s2 (show A < 4294967296 by omega), m2, z_band, z_band, z_iadd]
    rfl
  rw [h1]
  have hB : z_bN1 A ≤ 8190 := by
    have a1 : Nat.land A 858993459 ≤ A := Nat.and_le_left
    have a2 : Nat.land (Nat.shiftRight A 2) 858993459 ≤ A := Nat.le_trans (Nat.and_le_left (n := Nat.shiftRight A 2)) (Nat.shiftRight_le A 2)
    show Nat.land A 858993459 + Nat.land (Nat.shiftRight A 2) 858993459 ≤ 8190
    omega
  generalize z_bN1 A = B at hB ⊢
  have h2 : (z_i B + ((z_i B).toUInt32 >>> ((Int32.ofInt 4).toUInt32 &&& Int32.toUInt32 31)).toInt32) &&& Int32.ofInt 252645135 = z_i (z_bN2 B) := by
    rw [z_bshr s4 (show B < 4294967296 by omega), m4, z_iadd, z_band]
    rfl
  rw [h2]
  have hC : z_bN2 B ≤ 16380 := by
    have a1 : Nat.land (B + Nat.shiftRight B 4) 252645135 ≤ B + Nat.shiftRight B 4 := Nat.and_le_left
    have a2 : Nat.shiftRight B 4 ≤ B := Nat.shiftRight_le B 4
    show Nat.land (B + Nat.shiftRight B 4) 252645135 ≤ 16380
    omega
  generalize z_bN2 B = C at hC ⊢
  have h3 : z_i C + ((z_i C).toUInt32 >>> ((Int32.ofInt 8).toUInt32 &&& Int32.toUInt32 31)).toInt32 = z_i (z_bN3 C) := by
    rw [z_bshr s8 (show C < 4294967296 by omega), z_iadd]
    rfl
  rw [h3]
  have hD : z_bN3 C ≤ 32760 := by
    have a2 : Nat.shiftRight C 8 ≤ C := Nat.shiftRight_le C 8
    show C + Nat.shiftRight C 8 ≤ 32760
    omega
  generalize z_bN3 C = D at hD ⊢
  have h4 : z_i D + ((z_i D).toUInt32 >>> ((Int32.ofInt 16).toUInt32 &&& Int32.toUInt32 31)).toInt32 = z_i (z_bN4 D) := by
    rw [z_bshr s16 (show D < 4294967296 by omega), z_iadd]
    rfl
  rw [h4, m6, z_band]
theorem z_pz : ∀ f, v_popN f 0 = 0
  | 0 => rfl
  | f + 1 => by
    have a := z_pz f
    show 0 % 2 + v_popN f 0 = 0
    omega
theorem z_pgo (g : Nat) : ∀ (f X : Nat), X < 2 ^ f → v_popN (f + g) X = v_popN f X
  | 0, X, h => by
    have e : X = 0 := Nat.lt_one_iff.mp h
    subst e
    exact (z_pz _).trans (z_pz 0).symm
  | f + 1, X, h => by
    have ih := z_pgo g f (X / 2) (by rw [Nat.pow_succ] at h; omega)
    rw [show f + 1 + g = f + g + 1 by omega]
    show X % 2 + v_popN (f + g) (X / 2) = X % 2 + v_popN f (X / 2)
    rw [ih]
theorem z_pad : ∀ (k f X : Nat), k < f → X < 2 ^ k → v_popN f (X + 2 ^ k) = v_popN f X + 1
  | k, 0, _, h, _ => absurd h (Nat.not_lt_zero k)
  | 0, f + 1, X, _, hX => by
    have e : X = 0 := Nat.lt_one_iff.mp hX
    subst e
    show 1 + v_popN f 0 = 0 + v_popN f 0 + 1
    omega
  | k + 1, f + 1, X, hk, hX => by
    have ih := z_pad k f (X / 2) (by omega) (by rw [Nat.pow_succ] at hX; omega)
    have e1 : (X + 2 ^ (k + 1)) / 2 = X / 2 + 2 ^ k := by rw [Nat.pow_succ]; omega
    have e2 : (X + 2 ^ (k + 1)) % 2 = X % 2 := by rw [Nat.pow_succ]; omega
    show (X + 2 ^ (k + 1)) % 2 + v_popN f ((X + 2 ^ (k + 1)) / 2) = X % 2 + v_popN f (X / 2) + 1
    rw [e1, e2, ih, Nat.add_assoc]
noncomputable def z_pq (x : Nat) : Nat := Nat.add (Nat.mod x 2) (Nat.add (Nat.mod (Nat.div x 2) 2) (Nat.add (Nat.mod (Nat.div (Nat.div x 2) 2) 2) (Nat.add (Nat.mod (Nat.div (Nat.div (Nat.div x 2) 2) 2) 2) (Nat.add (Nat.mod (Nat.div (Nat.div (Nat.div (Nat.div x 2) 2) 2) 2) 2) (Nat.add (Nat.mod (Nat.div (Nat.div (Nat.div (Nat.div (Nat.div x 2) 2) 2) 2) 2) 2) (Nat.add (Nat.mod (Nat.div (Nat.div (Nat.div (Nat.div (Nat.div (Nat.div x 2) 2) 2) 2) 2) 2) 2) (Nat.add (Nat.mod (Nat.div (Nat.div (Nat.div (Nat.div (Nat.div (Nat.div (Nat.div x 2) 2) 2) 2) 2) 2) 2) 2) (Nat.add (Nat.mod (Nat.div (Nat.div (Nat.div (Nat.div (Nat.div (Nat.div (Nat.div (Nat.div x 2) 2) 2) 2) 2) 2) 2) 2) 2) (Nat.add (Nat.mod (Nat.div (Nat.div (Nat.div (Nat.div (Nat.div (Nat.div (Nat.div (Nat.div (Nat.div x 2) 2) 2) 2) 2) 2) 2) 2) 2) 2) (Nat.add (Nat.mod (Nat.div (Nat.div (Nat.div (Nat.div (Nat.div (Nat.div (Nat.div (Nat.div (Nat.div (Nat.div x 2) 2) 2) 2) 2) 2) 2) 2) 2) 2) 2) (Nat.add (Nat.mod (Nat.div (Nat.div (Nat.div (Nat.div (Nat.div (Nat.div (Nat.div (Nat.div (Nat.div (Nat.div (Nat.div x 2) 2) 2) 2) 2) 2) 2) 2) 2) 2) 2) 2) 0)))))))))))
theorem z_pq_ok (x : Nat) : v_popN 12 x = z_pq x := rfl
set_option maxRecDepth 100000 in
theorem z_bcp_l : (List.range 4096).all (fun X => Nat.beq (z_bN X) (z_pq X)) = true := by decide +kernel
theorem z_bcp {X : Nat} (h : X < 4096) : z_bN X = v_popN 12 X := (Nat.eq_of_beq_eq_true (List.all_eq_true.mp z_bcp_l X (List.mem_range.mpr h))).trans (z_pq_ok X).symm
theorem z_sr {S : v_Sf} {a i : Nat} {v : Int32} {b : Nat} (h : b ≠ a) : z_s S a i v b = S b := by
  funext j
  exact z_sn (fun q => h q.1)
noncomputable def z_co (n : Nat) (A B : Nat → Int32) (lo hi : Int) : Prop := ∀ g, g < n → A g = B g ∧ lo ≤ (B g).toInt ∧ (B g).toInt ≤ hi
theorem z_co_u {n : Nat} {S T : v_Sf} {a b i : Nat} {lo hi : Int} {v : Int32} (h : z_co n (S a) (T b) lo hi) (hv : lo ≤ v.toInt ∧ v.toInt ≤ hi) : z_co n (z_s S a i v a) (z_s T b i v b) lo hi := by
  intro g hg
  by_cases q : g = i
  · rw [q, z_ss, z_ss]
    exact ⟨rfl, hv⟩
  · rw [z_sn (by omega), z_sn (by omega)]
    exact h g hg
noncomputable def z_bit (b : Int32) (g : Nat) : Prop := ¬ (b >>> (z_i g &&& 31)) &&& Int32.ofInt 1 = 0
noncomputable def z_told (n : Nat) (m : Int) (b : Int32) (I : Nat → Int32) : Prop := (0 ≤ b.toInt ∧ b.toInt ≤ m) ∧ ∀ g, g < n → (z_bit b g ↔ ¬ I g = 0)
noncomputable def z_qr (a b : Int32) : Prop := a = Int32.ofInt 8 ∧ b = Int32.ofInt (-1) ∨ a = b ∧ 0 ≤ b.toInt ∧ b.toInt ≤ 7
noncomputable def z_St (s : Nat) (S T : v_Sf) : Prop := z_told 12 4095 (S s 0) (T 116) ∧ z_co 12 (S (s + 1)) (T 117) 0 99 ∧ (∀ g, g < 12 → ¬ T 116 g = 0 → z_qr (S (s + 2) g) (T 118 g)) ∧ z_co 12 (S (s + 3)) (T 119) 0 9 ∧ z_co 12 (S (s + 4)) (T 120) 0 5 ∧ z_co 12 (S (s + 5)) (T 121) 0 9 ∧ z_co 12 (S (s + 6)) (T 122) 0 1023 ∧ z_told 5 31 (S s 7) (T 129) ∧ z_co 5 (S (s + 7)) (T 130) 0 9 ∧ z_co 5 (S (s + 8)) (T 131) 0 10 ∧ (S s 11 = T 99 60 ∧ 0 ≤ (T 99 60).toInt ∧ (T 99 60).toInt ≤ 9999) ∧ S s 12 = T 99 61 ∧ S s 13 = T 99 62
noncomputable def z_ls (a b : Int32) : Prop := a = Int32.ofInt (-2) ∧ b = Int32.ofInt (-1) ∨ a = b ∧ 0 ≤ b.toInt ∧ b.toInt ≤ 9
noncomputable def z_Wa (S T : v_Sf) : Prop := ∀ w, w < 6 → S (33 + 2 * w) 1 = T 127 w ∧ (0 ≤ (T 127 w).toInt ∧ (T 127 w).toInt ≤ 48) ∧ S (33 + 2 * w) 2 = T 123 w ∧ S (33 + 2 * w) 3 = T 124 w ∧ S (33 + 2 * w) 4 = T 125 w ∧ (-1 ≤ (T 125 w).toInt ∧ (T 125 w).toInt ≤ 4) ∧ ∀ j, j < (T 127 w).toInt.toNat → z_ls (S (33 + 2 * w + 1) j) (T 126 (48 * w + j))
noncomputable def z_Pl (T : v_Sf) : Prop := ∀ w, w < 6 → T 128 w = 0 ∨ (T 128 w).toInt < (T 127 w).toInt
/-- places in timetables, and X -/
noncomputable def z_PX (s : Nat) (S T : v_Sf) : Prop := z_co 6 (S (s + 9)) (T 128) 0 47 ∧ z_Pl T ∧ (S s 14 = T 99 2 ∧ 0 ≤ (T 99 2).toInt ∧ (T 99 2).toInt ≤ 65535)
noncomputable def z_Mo (c s nc : Nat) (S T : v_Sf) : Prop := z_St s S T ∧ z_Wa S T ∧ z_co 10 (S 48) (T 132) 0 1023 ∧ z_LawR c S T nc ∧ T 99 16 = z_i nc ∧ S 75 3 = T 99 70
theorem z_Mo_f {c s nc : Nat} {S T S' T' : v_Sf} (h : z_Mo c s nc S T) (f : ∀ a, (s < a ∧ a ≤ s + 8 ∨ 33 ≤ a ∧ a ≤ 44 ∨ a = 48 ∨ c ≤ a ∧ a ≤ c + 6 ∧ a ≠ c + 3) → S' a = S a) (fs : ∀ j, (j = 0 ∨ j = 7 ∨ j = 11 ∨ j = 12 ∨ j = 13) → S' s j = S s j) (f75 : S' 75 3 = S 75 3) (g : ∀ a j, (a = 99 ∧ (j = 16 ∨ j = 60 ∨ j = 61 ∨ j = 62 ∨ j = 70) ∨ 101 ≤ a ∧ a ≤ 106 ∨ 116 ≤ a ∧ a ≤ 132 ∧ a ≠ 128) → T' a j = T a j) : z_Mo c s nc S' T' := by
  obtain ⟨⟨a1, a2, a3, a4, a5, a6, a7, a8, a9, a10, a12, a13, a14⟩, b1, b3, b4, b5, b6⟩ := h
  have gr : ∀ a, (101 ≤ a ∧ a ≤ 106 ∨ 116 ≤ a ∧ a ≤ 132 ∧ a ≠ 128) → T' a = T a := fun a q => funext (fun j => g a j (by omega))
  have g99 : ∀ j, (j = 16 ∨ j = 60 ∨ j = 61 ∨ j = 62 ∨ j = 70) → T' 99 j = T 99 j := fun j q => g 99 j (by omega)
  refine ⟨⟨?_, ?_, ?_, ?_, ?_, ?_, ?_, ?_, ?_, ?_, ?_, ?_, ?_⟩, ?_, ?_, ?_, ?_, ?_⟩
  · rw [fs 0 (by omega), gr 116 (by omega)]
    exact a1
  · rw [f (s + 1) (by omega), gr 117 (by omega)]
    exact a2
  · rw [f (s + 2) (by omega), gr 116 (by omega), gr 118 (by omega)]
    exact a3
  · rw [f (s + 3) (by omega), gr 119 (by omega)]
    exact a4
  · rw [f (s + 4) (by omega), gr 120 (by omega)]
    exact a5
  · rw [f (s + 5) (by omega), gr 121 (by omega)]
    exact a6
  · rw [f (s + 6) (by omega), gr 122 (by omega)]
    exact a7
  · rw [fs 7 (by omega), gr 129 (by omega)]
    exact a8
  · rw [f (s + 7) (by omega), gr 130 (by omega)]
    exact a9
  · rw [f (s + 8) (by omega), gr 131 (by omega)]
    exact a10
  · rw [fs 11 (by omega), g99 60 (by omega)]
    exact a12
  · rw [fs 12 (by omega), g99 61 (by omega)]
    exact a13
  · rw [fs 13 (by omega), g99 62 (by omega)]
    exact a14
  · intro w hw
    rw [f (33 + 2 * w) (by omega), f (33 + 2 * w + 1) (by omega), gr 127 (by omega), gr 123 (by omega), gr 124 (by omega), gr 125 (by omega), gr 126 (by omega)]
    exact b1 w hw
  · rw [f 48 (by omega), gr 132 (by omega)]
    exact b3
  · exact z_LawR_t b4 (f _ (by omega)) (f _ (by omega)) (f _ (by omega)) (f _ (by omega)) (f _ (by omega)) (f _ (by omega)) (fun a j q => g a j (by omega))
  · rw [g99 16 (by omega)]
    exact b5
  · rw [f75, g99 70 (by omega)]
    exact b6
/-! what is asked of the law -/
theorem z_bc_all : ∀ i : Fin 1024, f_J6_bitCount_0f7a4 (z_i i.val) = v_pop (z_i i.val) := fun i => by
  have hi := i.isLt
  rw [z_bcq (show i.val < 4096 by omega)]
  have e : (z_i i.val).toUInt32.toNat = i.val := by
    show (BitVec.ofNat 32 i.val).toNat = i.val
    rw [BitVec.toNat_ofNat, Nat.mod_eq_of_lt (show i.val < 2 ^ 32 by omega)]
  unfold v_pop
  rw [e]
  have e2 : v_popN 32 i.val = v_popN 12 i.val := z_pgo 20 12 i.val (show i.val < 2 ^ 12 by omega)
  exact congrArg z_i ((z_bcp (show i.val < 4096 by omega)).trans e2.symm)
theorem z_bc {x : Int32} (h : 0 ≤ x.toInt ∧ x.toInt ≤ 1023) : f_J6_bitCount_0f7a4 x = v_pop x := by
  have e : z_i x.toInt.toNat = x := by
    unfold z_i
    rw [show ((x.toInt.toNat : Nat) : Int) = x.toInt by omega, Int32.ofInt_toInt]
  have h2 : f_J6_bitCount_0f7a4 (z_i x.toInt.toNat) = v_pop (z_i x.toInt.toNat) := z_bc_all ⟨x.toInt.toNat, by omega⟩
  rw [e] at h2
  exact h2
theorem z_fill51 (v : Int32) (S : v_Sf) : ∀ a j, g_fill51 v S a j = if a = 51 ∧ j < 15 then v else S a j := by
  have lp : ∀ (r k : Nat) (S : v_Sf) (a j : Nat), r + k = 15 → r_fill51_5 v (Int32.ofNat 15) r k S a j = if a = 51 ∧ k ≤ j ∧ j < 15 then v else S a j := by
    intro r
    induction r with
    | zero =>
      intro k S a j h
      rw [r_fill51_5, if_neg (by omega)]
    | succ r ih =>
      intro k S a j h
      rw [r_fill51_5, ih (k + 1) _ a j (by omega), z_iin (by omega), z_s_eq]
      by_cases q : a = 51 ∧ k ≤ j ∧ j < 15
      · rw [if_pos q]
        by_cases q2 : j = k
        · rw [if_neg (by omega), if_pos (by omega)]
        · rw [if_pos (by omega)]
      · rw [if_neg q, if_neg (by omega), if_neg (by omega)]
  intro a j
  have := lp 15 0 S a j (by omega)
  unfold g_fill51 F_fill51
  rw [show ((Int32.ofNat 15)).toInt.toNat - 0 = 15 from rfl, this]
  by_cases q : a = 51 ∧ j < 15
  · rw [if_pos q, if_pos (by omega)]
  · rw [if_neg q, if_neg (by omega)]
theorem z_noth (T : v_Sf) : (∀ a j, ¬ (a = 99 ∧ 27 ≤ j ∧ j ≤ 40) → g_X12_nothingStands T a j = T a j) ∧ ∀ j, 27 ≤ j → j ≤ 40 → g_X12_nothingStands T 99 j = Int32.ofInt 0 := by
  unfold g_X12_nothingStands
  refine ⟨fun a j q => ?_, fun j h1 h2 => ?_⟩
  · simp only [z_s_eq]
    rw [if_neg (by omega), if_neg (by omega), if_neg (by omega), if_neg (by omega), if_neg (by omega), if_neg (by omega), if_neg (by omega), if_neg (by omega), if_neg (by omega), if_neg (by omega), if_neg (by omega), if_neg (by omega), if_neg (by omega), if_neg (by omega)]
  · have : j = 27 ∨ j = 28 ∨ j = 29 ∨ j = 30 ∨ j = 31 ∨ j = 32 ∨ j = 33 ∨ j = 34 ∨ j = 35 ∨ j = 36 ∨ j = 37 ∨ j = 38 ∨ j = 39 ∨ j = 40 := by omega
    rcases this with rfl | rfl | rfl | rfl | rfl | rfl | rfl | rfl | rfl | rfl | rfl | rfl | rfl | rfl <;> simp [z_s_eq]
theorem z_vw_mk {S T : v_Sf} (h : ∀ i, i < 14 → S 51 i = T 99 (27 + i)) (h14 : S 51 14 = T 99 60 - T 99 60 / Int32.ofInt 12 * Int32.ofInt 12) : z_vw (fun a => f_X1_valueAt a S) (fun a => f_X12_valueOf a T) := by
  have va : ∀ i, i < 15 → f_X1_valueAt (z_i i) S = S 51 i := by
    intro i hi
    unfold f_X1_valueAt
    rw [if_neg (by rw [show (0 : Int32) = z_i 0 from rfl, z_ilt (by omega) (by omega)]; omega), if_neg (by rw [show Int32.ofNat 15 = z_i 15 by decide, z_ile (by omega) (by omega)]; omega), z_iin (by omega)]
  intro ch hc
  show f_X12_valueOf ch T = f_X1_valueAt (g_ixo ch) S
  have cs : ch = Int32.ofInt 115 ∨ ch = Int32.ofInt 113 ∨ ch = Int32.ofInt 116 ∨ ch = Int32.ofInt 104 ∨ ch = Int32.ofInt 100 ∨ ch = Int32.ofInt 119 ∨ ch = Int32.ofInt 111 ∨ ch = Int32.ofInt 112 ∨ ch = Int32.ofInt 108 ∨ ch = Int32.ofInt 97 ∨ ch = Int32.ofInt 110 ∨ ch = Int32.ofInt 118 ∨ ch = Int32.ofInt 117 ∨ ch = Int32.ofInt 122 ∨ ch = Int32.ofInt 109 := by
    refine Classical.byContradiction (fun n => hc ?_)
    simp only [not_or] at n
    obtain ⟨n1, n2, n3, n4, n5, n6, n7, n8, n9, n10, n11, n12, n13, n14, n15⟩ := n
    unfold f_X12_isValue
    rw [if_neg n1, if_neg n2, if_neg n3, if_neg n4, if_neg n5, if_neg n6, if_neg n7, if_neg n8, if_neg n9, if_neg n10, if_neg n11, if_neg n12, if_neg n13, if_neg n14, if_pos n15]
    rfl
  rcases cs with rfl | rfl | rfl | rfl | rfl | rfl | rfl | rfl | rfl | rfl | rfl | rfl | rfl | rfl | rfl
  · rw [show g_ixo (Int32.ofInt 115) = z_i 0 by decide, va 0 (by omega), h 0 (by omega)]
    rfl
  · rw [show g_ixo (Int32.ofInt 113) = z_i 1 by decide, va 1 (by omega), h 1 (by omega)]
    rfl
  · rw [show g_ixo (Int32.ofInt 116) = z_i 2 by decide, va 2 (by omega), h 2 (by omega)]
    rfl
  · rw [show g_ixo (Int32.ofInt 104) = z_i 3 by decide, va 3 (by omega), h 3 (by omega)]
    rfl
  · rw [show g_ixo (Int32.ofInt 100) = z_i 4 by decide, va 4 (by omega), h 4 (by omega)]
    rfl
  · rw [show g_ixo (Int32.ofInt 119) = z_i 5 by decide, va 5 (by omega), h 5 (by omega)]
    rfl
  · rw [show g_ixo (Int32.ofInt 111) = z_i 6 by decide, va 6 (by omega), h 6 (by omega)]
    rfl
  · rw [show g_ixo (Int32.ofInt 112) = z_i 7 by decide, va 7 (by omega), h 7 (by omega)]
    rfl
  · rw [show g_ixo (Int32.ofInt 108) = z_i 8 by decide, va 8 (by omega), h 8 (by omega)]
    rfl
  · rw [show g_ixo (Int32.ofInt 97) = z_i 9 by decide, va 9 (by omega), h 9 (by omega)]
    rfl
  · rw [show g_ixo (Int32.ofInt 110) = z_i 10 by decide, va 10 (by omega), h 10 (by omega)]
    rfl
  · rw [show g_ixo (Int32.ofInt 118) = z_i 11 by decide, va 11 (by omega), h 11 (by omega)]
    rfl
  · rw [show g_ixo (Int32.ofInt 117) = z_i 12 by decide, va 12 (by omega), h 12 (by omega)]
    rfl
  · rw [show g_ixo (Int32.ofInt 122) = z_i 13 by decide, va 13 (by omega), h 13 (by omega)]
    rfl
  · rw [show g_ixo (Int32.ofInt 109) = z_i 14 by decide, va 14 (by omega), h14]
    rfl
theorem z_hasG {s g : Nat} (S : v_Sf) (hg : g < 12) : (f_X7_hasGust s (z_i g) S = 0) ↔ ¬ z_bit (S s 0) g := by
  unfold f_X7_hasGust z_bit
  rw [if_neg (by rw [show (0 : Int32) = z_i 0 from rfl, z_ilt (by omega) (by omega)]; omega), if_neg (by rw [show Int32.ofInt 12 = z_i 12 from rfl, z_ile (by omega) (by omega)]; omega)]
  by_cases q : (S s 0 >>> (z_i g &&& 31)) &&& Int32.ofInt 1 = 0
  · rw [if_pos q]
    exact ⟨fun _ n => n q, fun _ => rfl⟩
  · rw [if_neg q]
    exact ⟨fun n => absurd n (by decide), fun n => absurd q n⟩
theorem z_hasG2 {s g : Nat} {S T : v_Sf} (h : z_St s S T) (hg : g < 12) : (f_X7_hasGust s (z_i g) S = 0) ↔ T 116 g = 0 := by
  rw [z_hasG S hg, h.1.2 g hg]
  exact Classical.not_not
theorem z_stn {s : Nat} (hs : z_st s) : 1 ≤ s ∧ s ≤ 21 ∧ s + 9 ≤ 30 := by rcases hs with rfl | rfl | rfl <;> decide
/-- a gust is looked at -/
theorem z_lookG {s g : Nat} (hs : z_st s) {S T : v_Sf} (h : z_St s S T) (hw : z_Wa S T) (hg : g < 12) (ht : ¬ T 116 g = 0) : (∀ a, a ≠ 51 → g_X3_lookAtGust s (z_i g) S a = S a) ∧ (∀ a j, ¬ (a = 99 ∧ 27 ≤ j ∧ j ≤ 40) → g_X12_gustStands (z_i g) T a j = T a j) ∧ (∀ i, i < 14 → g_X3_lookAtGust s (z_i g) S 51 i = g_X12_gustStands (z_i g) T 99 (27 + i)) ∧ g_X3_lookAtGust s (z_i g) S 51 14 = T 99 60 - T 99 60 / Int32.ofInt 12 * Int32.ofInt 12 ∧ (∀ i, 6 ≤ i → i < 14 → g_X12_gustStands (z_i g) T 99 (27 + i) = Int32.ofInt 0) := by
  have hsn := z_stn hs
  have eg : (z_i g).toInt.toNat = g := z_iin (by omega)
  obtain ⟨a1, a2, a3, a4, a5, a6, a7, a8, a9, a10, a12, a13, a14⟩ := h
  have fl := z_fill51 (Int32.ofInt 0) S
  have fr : ∀ a j, a ≠ 51 → g_fill51 (Int32.ofInt 0) S a j = S a j := fun a j q => by rw [fl, if_neg (by omega)]
  have no := z_noth T
  have hh : ¬ f_X7_hasGust s (z_i g) (z_s (g_fill51 (Int32.ofInt 0) S) 51 14 (((g_fill51 (Int32.ofInt 0) S) s 11) - ((g_fill51 (Int32.ofInt 0) S) s 11) / (Int32.ofInt 12) * (Int32.ofInt 12))) = 0 := by
    rw [z_hasG _ hg, z_sn (by omega), fr _ _ (by omega)]
    exact not_not_intro ((a1.2 g hg).mpr ht)
  have w5 := a5 g hg
  have ew : S (s + 4) g = T 120 g := w5.1
  have n1 : ¬ T 120 g < 0 := by
    rw [Int32.lt_iff_toInt_lt]
    have e0 : (0 : Int32).toInt = 0 := rfl
    omega
  have n2 : ¬ Int32.ofNat 6 ≤ T 120 g := by
    rw [Int32.le_iff_toInt_le]
    have e0 : (Int32.ofNat 6).toInt = 6 := rfl
    omega
  have wd := (hw (T 120 g).toInt.toNat (by omega)).2.2.2.1
  have E : g_X3_lookAtGust s (z_i g) S = z_s (z_s (z_s (z_s (z_s (z_s (z_s (g_fill51 (Int32.ofInt 0) S) 51 14 (T 99 60 - T 99 60 / Int32.ofInt 12 * Int32.ofInt 12)) 51 0 (T 117 g)) 51 1 (S (s + 2) g)) 51 2 (T 119 g)) 51 3 (v_pop (T 122 g))) 51 4 (T 124 (T 120 g).toInt.toNat)) 51 5 (T 120 g) := by
    unfold g_X3_lookAtGust
    rw [if_pos hh, eg, fr (s + 4) _ (by omega), ew, if_neg n1, if_neg n2, fr s _ (by omega), fr (s + 1) _ (by omega), fr (s + 2) _ (by omega), fr (s + 3) _ (by omega), fr (s + 6) _ (by omega), fr (33 + 2 * (T 120 g).toInt.toNat) _ (by omega), a12.1, (a2 g hg).1, (a4 g hg).1, (a7 g hg).1, wd, z_bc (a7 g hg).2]
  have q := a3 g hg ht
  have E2 : g_X12_gustStands (z_i g) T = z_s (z_s (z_s (z_s (z_s (z_s (g_X12_nothingStands T) 99 27 (T 117 g)) 99 28 (S (s + 2) g)) 99 29 (T 119 g)) 99 30 (v_pop (T 122 g))) 99 31 (T 124 (T 120 g).toInt.toNat)) 99 32 (T 120 g) := by
    unfold g_X12_gustStands f_X12_sizeOf
    rw [eg, no.1 118 _ (by omega), no.1 117 _ (by omega), no.1 119 _ (by omega), no.1 122 _ (by omega), no.1 120 _ (by omega), no.1 124 _ (by omega)]
    rcases q with ⟨q1, q2⟩ | ⟨q1, q2, q3⟩
    · rw [if_neg (not_not_intro q2), q1]
    · rw [if_pos, q1]
      intro e
      rw [e] at q2
      exact absurd q2 (by decide)
  rw [E, E2]
  refine ⟨fun a ha => ?_, fun a j q => ?_, fun i hi => ?_, ?_, fun i h1 h2 => ?_⟩
  · funext j
    rw [z_sn (by omega), z_sn (by omega), z_sn (by omega), z_sn (by omega), z_sn (by omega), z_sn (by omega), z_sn (by omega), fr a j ha]
  · rw [z_sn (by omega), z_sn (by omega), z_sn (by omega), z_sn (by omega), z_sn (by omega), z_sn (by omega), no.1 a j q]
  · have cs : i = 0 ∨ i = 1 ∨ i = 2 ∨ i = 3 ∨ i = 4 ∨ i = 5 ∨ 6 ≤ i := by omega
    rcases cs with rfl | rfl | rfl | rfl | rfl | rfl | h6
    · rw [z_sn (by omega), z_sn (by omega), z_sn (by omega), z_sn (by omega), z_sn (by omega), z_ss, z_sn (by omega), z_sn (by omega), z_sn (by omega), z_sn (by omega), z_sn (by omega), z_ss]
    · rw [z_sn (by omega), z_sn (by omega), z_sn (by omega), z_sn (by omega), z_ss, z_sn (by omega), z_sn (by omega), z_sn (by omega), z_sn (by omega), z_ss]
    · rw [z_sn (by omega), z_sn (by omega), z_sn (by omega), z_ss, z_sn (by omega), z_sn (by omega), z_sn (by omega), z_ss]
    · rw [z_sn (by omega), z_sn (by omega), z_ss, z_sn (by omega), z_sn (by omega), z_ss]
    · rw [z_sn (by omega), z_ss, z_sn (by omega), z_ss]
    · rw [z_ss, z_ss]
    · rw [z_sn (by omega), z_sn (by omega), z_sn (by omega), z_sn (by omega), z_sn (by omega), z_sn (by omega), z_sn (by omega), fl, if_pos (by omega), z_sn (by omega), z_sn (by omega), z_sn (by omega), z_sn (by omega), z_sn (by omega), z_sn (by omega), no.2 _ (by omega) (by omega)]
  · rw [z_sn (by omega), z_sn (by omega), z_sn (by omega), z_sn (by omega), z_sn (by omega), z_sn (by omega), z_ss]
  · rw [z_sn (by omega), z_sn (by omega), z_sn (by omega), z_sn (by omega), z_sn (by omega), z_sn (by omega), no.2 _ (by omega) (by omega)]
end PrtS43p
section PrtS43q
/-! months: numbers, writes of the state -/
theorem z_subI {a b : Int32} (h : -2147483648 ≤ a.toInt - b.toInt ∧ a.toInt - b.toInt ≤ 2147483647) : (a - b).toInt = a.toInt - b.toInt := by
  have e : a - b = Int32.ofInt (a.toInt - b.toInt) := by rw [Int32.ofInt_sub, Int32.ofInt_toInt, Int32.ofInt_toInt]
  rw [e]
  exact q_ofr h.1 h.2
theorem z_addI {a b : Int32} (h : -2147483648 ≤ a.toInt + b.toInt ∧ a.toInt + b.toInt ≤ 2147483647) : (a + b).toInt = a.toInt + b.toInt := by
  have e : a + b = Int32.ofInt (a.toInt + b.toInt) := by rw [Int32.ofInt_add, Int32.ofInt_toInt, Int32.ofInt_toInt]
  rw [e]
  exact q_ofr h.1 h.2
theorem z_ltI2 {a b : Int32} : (a < b) ↔ a.toInt < b.toInt := Int32.lt_iff_toInt_lt
theorem z_leI2 {a b : Int32} : (a ≤ b) ↔ a.toInt ≤ b.toInt := Int32.le_iff_toInt_le
theorem z_inj2 {a b : Int32} (h : a.toInt = b.toInt) : a = b := Int32.toInt_inj.mp h
theorem z_maxI (a b : Int32) : (z_max a b).toInt = max a.toInt b.toInt := by
  unfold z_max
  split
  · rename_i h
    have := z_ltI2.mp h
    omega
  · rename_i h
    have : ¬ a.toInt < b.toInt := fun q => h (z_ltI2.mpr q)
    omega
theorem z_minI (a b : Int32) : (z_min a b).toInt = min a.toInt b.toInt := by
  unfold z_min
  split
  · rename_i h
    have := z_ltI2.mp h
    omega
  · rename_i h
    have : ¬ b.toInt < a.toInt := fun q => h (z_ltI2.mpr q)
    omega
theorem z_heldI (a b : Int32) : (f_X12_held a b).toInt = if 0 ≤ a.toInt then min a.toInt b.toInt else 0 := by
  have e0 : (0 : Int32).toInt = 0 := rfl
  unfold f_X12_held
  by_cases h : 0 ≤ a
  · have h' := z_leI2.mp h
    rw [if_pos h, if_pos (show (0 : Int) ≤ a.toInt by omega)]
    split
    · rename_i g
      have := z_leI2.mp g
      omega
    · rename_i g
      have : ¬ a.toInt ≤ b.toInt := fun q => g (z_leI2.mpr q)
      omega
  · have h' : ¬ (0 : Int32).toInt ≤ a.toInt := fun q => h (z_leI2.mpr q)
    rw [if_neg h, if_neg (show ¬ (0 : Int) ≤ a.toInt by omega)]
    rfl
theorem z_n99 : (Int32.ofInt 99).toInt = 99 := rfl
theorem z_n9 : (Int32.ofInt 9).toInt = 9 := rfl
theorem z_n0 : (Int32.ofInt 0).toInt = 0 := rfl
theorem z_n1 : (Int32.ofInt 1).toInt = 1 := rfl
theorem z_weakN {a v : Int32} (ha : 0 ≤ a.toInt ∧ a.toInt ≤ 99) (hv : 0 ≤ v.toInt ∧ v.toInt ≤ 20) : z_max (Int32.ofInt 0) (a - v) = f_X12_held (a - v) (Int32.ofInt 99) ∧ 0 ≤ (f_X12_held (a - v) (Int32.ofInt 99)).toInt ∧ (f_X12_held (a - v) (Int32.ofInt 99)).toInt ≤ 99 := by
  have e := z_subI (a := a) (b := v) (by omega)
  have h := z_heldI (a - v) (Int32.ofInt 99)
  rw [e, z_n99] at h
  have m := z_maxI (Int32.ofInt 0) (a - v)
  rw [e, z_n0] at m
  refine ⟨z_inj2 ?_, ?_, ?_⟩
  · rw [h, m]
    split <;> omega
  · rw [h]
    split <;> omega
  · rw [h]
    split <;> omega
theorem z_feedN {a v : Int32} (ha : 0 ≤ a.toInt ∧ a.toInt ≤ 99) (hv : 0 ≤ v.toInt ∧ v.toInt ≤ 20) : z_min (Int32.ofInt 99) (a + v) = f_X12_held (a + v) (Int32.ofInt 99) ∧ 0 ≤ (f_X12_held (a + v) (Int32.ofInt 99)).toInt ∧ (f_X12_held (a + v) (Int32.ofInt 99)).toInt ≤ 99 := by
  have e := z_addI (a := a) (b := v) (by omega)
  have h := z_heldI (a + v) (Int32.ofInt 99)
  rw [e, z_n99] at h
  have m := z_minI (Int32.ofInt 99) (a + v)
  rw [e, z_n99] at m
  refine ⟨z_inj2 ?_, ?_, ?_⟩
  · rw [h, m]
    split <;> omega
  · rw [h]
    split <;> omega
  · rw [h]
    split <;> omega
theorem z_tempN {a : Int32} (ha : 0 ≤ a.toInt ∧ a.toInt ≤ 9) : z_min (Int32.ofInt 9) (a + Int32.ofInt 1) = f_X12_held (a + Int32.ofInt 1) (Int32.ofInt 9) ∧ 0 ≤ (f_X12_held (a + Int32.ofInt 1) (Int32.ofInt 9)).toInt ∧ (f_X12_held (a + Int32.ofInt 1) (Int32.ofInt 9)).toInt ≤ 9 := by
  have e := z_addI (a := a) (b := Int32.ofInt 1) (by rw [z_n1]; omega)
  have h := z_heldI (a + Int32.ofInt 1) (Int32.ofInt 9)
  rw [e, z_n9, z_n1] at h
  have m := z_minI (Int32.ofInt 9) (a + Int32.ofInt 1)
  rw [e, z_n9, z_n1] at m
  refine ⟨z_inj2 ?_, ?_, ?_⟩
  · rw [h, m]
    split <;> omega
  · rw [h]
    split <;> omega
  · rw [h]
    split <;> omega
theorem z_tells_r {L most : Int32} (hm : 0 ≤ most.toInt) : ∀ (r k : Nat) (T : v_Sf), 0 ≤ (r_X12_tells_2 L most r k T).1.toInt ∧ (r_X12_tells_2 L most r k T).1.toInt ≤ most.toInt := by
  have z : 0 ≤ (Int32.ofInt 0).toInt ∧ (Int32.ofInt 0).toInt ≤ most.toInt := by
    rw [z_n0]
    omega
  intro r
  induction r with
  | zero =>
    intro k T
    rw [r_X12_tells_2]
    exact z
  | succ r ih =>
    intro k T
    rw [r_X12_tells_2]
    split
    · exact z
    · split
      · exact ih _ _
      · split
        · split
          · show 0 ≤ (f_X12_held _ most).toInt ∧ (f_X12_held _ most).toInt ≤ most.toInt
            rw [z_heldI]
            split <;> omega
          · exact z
        · exact ih _ _
theorem z_St_str {s : Nat} (hs : z_st s) {S T : v_Sf} (h : z_St s S T) (i : Nat) {v : Int32} (hv : 0 ≤ v.toInt ∧ v.toInt ≤ 99) : z_St s (z_s S (s + 1) i v) (z_s T 117 i v) := by
  have hsn := z_stn hs
  obtain ⟨a1, a2, a3, a4, a5, a6, a7, a8, a9, a10, a12, a13, a14⟩ := h
  refine ⟨?_, ?_, ?_, ?_, ?_, ?_, ?_, ?_, ?_, ?_, ?_, ?_, ?_⟩
  · rw [z_sn (by omega), z_sr (show 116 ≠ 117 by decide)]
    exact a1
  · exact z_co_u a2 hv
  · rw [z_sr (show s + 2 ≠ s + 1 by omega), z_sr (show 116 ≠ 117 by decide), z_sr (show 118 ≠ 117 by decide)]
    exact a3
  · rw [z_sr (show s + 3 ≠ s + 1 by omega), z_sr (show 119 ≠ 117 by decide)]
    exact a4
  · rw [z_sr (show s + 4 ≠ s + 1 by omega), z_sr (show 120 ≠ 117 by decide)]
    exact a5
  · rw [z_sr (show s + 5 ≠ s + 1 by omega), z_sr (show 121 ≠ 117 by decide)]
    exact a6
  · rw [z_sr (show s + 6 ≠ s + 1 by omega), z_sr (show 122 ≠ 117 by decide)]
    exact a7
  · rw [z_sn (by omega), z_sr (show 129 ≠ 117 by decide)]
    exact a8
  · rw [z_sr (show s + 7 ≠ s + 1 by omega), z_sr (show 130 ≠ 117 by decide)]
    exact a9
  · rw [z_sr (show s + 8 ≠ s + 1 by omega), z_sr (show 131 ≠ 117 by decide)]
    exact a10
  · rw [z_sn (by omega), z_sn (by omega)]
    exact a12
  · rw [z_sn (by omega), z_sn (by omega)]
    exact a13
  · rw [z_sn (by omega), z_sn (by omega)]
    exact a14
theorem z_Mo_str {c s nc : Nat} (hc : z_cd c) (hs : z_st s) {S T : v_Sf} (h : z_Mo c s nc S T) (i : Nat) {v : Int32} (hv : 0 ≤ v.toInt ∧ v.toInt ≤ 99) : z_Mo c s nc (z_s S (s + 1) i v) (z_s T 117 i v) := by
  have hsn := z_stn hs
  have hcn := z_cdn hc
  obtain ⟨a, b1, b3, b4, b5, b6⟩ := h
  have fS : ∀ b, b ≠ s + 1 → (z_s S (s + 1) i v) b = S b := fun b q => z_sr q
  have fT : ∀ b, b ≠ 117 → (z_s T 117 i v) b = T b := fun b q => z_sr q
  refine ⟨z_St_str hs a i hv, ?_, ?_, ?_, ?_, ?_⟩
  · intro w hw
    rw [fS (33 + 2 * w) (by omega), fS (33 + 2 * w + 1) (by omega), fT 127 (by decide), fT 123 (by decide), fT 124 (by decide), fT 125 (by decide), fT 126 (by decide)]
    exact b1 w hw
  · rw [fS 48 (by omega), fT 132 (by decide)]
    exact b3
  · exact z_LawR_t b4 (fS _ (by omega)) (fS _ (by omega)) (fS _ (by omega)) (fS _ (by omega)) (fS _ (by omega)) (fS _ (by omega)) (fun a j q => by rw [fT a (by omega)])
  · rw [fT 99 (by decide)]
    exact b5
  · rw [fS 75 (by omega), fT 99 (by decide)]
    exact b6
theorem z_St_tem {s : Nat} (hs : z_st s) {S T : v_Sf} (h : z_St s S T) (i : Nat) {v : Int32} (hv : 0 ≤ v.toInt ∧ v.toInt ≤ 9) : z_St s (z_s S (s + 3) i v) (z_s T 119 i v) := by
  have hsn := z_stn hs
  obtain ⟨a1, a2, a3, a4, a5, a6, a7, a8, a9, a10, a12, a13, a14⟩ := h
  refine ⟨?_, ?_, ?_, ?_, ?_, ?_, ?_, ?_, ?_, ?_, ?_, ?_, ?_⟩
  · rw [z_sn (by omega), z_sr (show 116 ≠ 119 by decide)]
    exact a1
  · rw [z_sr (show s + 1 ≠ s + 3 by omega), z_sr (show 117 ≠ 119 by decide)]
    exact a2
  · rw [z_sr (show s + 2 ≠ s + 3 by omega), z_sr (show 116 ≠ 119 by decide), z_sr (show 118 ≠ 119 by decide)]
    exact a3
  · exact z_co_u a4 hv
  · rw [z_sr (show s + 4 ≠ s + 3 by omega), z_sr (show 120 ≠ 119 by decide)]
    exact a5
  · rw [z_sr (show s + 5 ≠ s + 3 by omega), z_sr (show 121 ≠ 119 by decide)]
    exact a6
  · rw [z_sr (show s + 6 ≠ s + 3 by omega), z_sr (show 122 ≠ 119 by decide)]
    exact a7
  · rw [z_sn (by omega), z_sr (show 129 ≠ 119 by decide)]
    exact a8
  · rw [z_sr (show s + 7 ≠ s + 3 by omega), z_sr (show 130 ≠ 119 by decide)]
    exact a9
  · rw [z_sr (show s + 8 ≠ s + 3 by omega), z_sr (show 131 ≠ 119 by decide)]
    exact a10
  · rw [z_sn (by omega), z_sn (by omega)]
    exact a12
  · rw [z_sn (by omega), z_sn (by omega)]
    exact a13
  · rw [z_sn (by omega), z_sn (by omega)]
    exact a14
theorem z_Mo_tem {c s nc : Nat} (hc : z_cd c) (hs : z_st s) {S T : v_Sf} (h : z_Mo c s nc S T) (i : Nat) {v : Int32} (hv : 0 ≤ v.toInt ∧ v.toInt ≤ 9) : z_Mo c s nc (z_s S (s + 3) i v) (z_s T 119 i v) := by
  have hsn := z_stn hs
  have hcn := z_cdn hc
  obtain ⟨a, b1, b3, b4, b5, b6⟩ := h
  have fS : ∀ b, b ≠ s + 3 → (z_s S (s + 3) i v) b = S b := fun b q => z_sr q
  have fT : ∀ b, b ≠ 119 → (z_s T 119 i v) b = T b := fun b q => z_sr q
  refine ⟨z_St_tem hs a i hv, ?_, ?_, ?_, ?_, ?_⟩
  · intro w hw
    rw [fS (33 + 2 * w) (by omega), fS (33 + 2 * w + 1) (by omega), fT 127 (by decide), fT 123 (by decide), fT 124 (by decide), fT 125 (by decide), fT 126 (by decide)]
    exact b1 w hw
  · rw [fS 48 (by omega), fT 132 (by decide)]
    exact b3
  · exact z_LawR_t b4 (fS _ (by omega)) (fS _ (by omega)) (fS _ (by omega)) (fS _ (by omega)) (fS _ (by omega)) (fS _ (by omega)) (fun a j q => by rw [fT a (by omega)])
  · rw [fT 99 (by decide)]
    exact b5
  · rw [fS 75 (by omega), fT 99 (by decide)]
    exact b6
theorem z_St_hab {s : Nat} (hs : z_st s) {S T : v_Sf} (h : z_St s S T) (i : Nat) {v : Int32} (hv : 0 ≤ v.toInt ∧ v.toInt ≤ 1023) : z_St s (z_s S (s + 6) i v) (z_s T 122 i v) := by
  have hsn := z_stn hs
  obtain ⟨a1, a2, a3, a4, a5, a6, a7, a8, a9, a10, a12, a13, a14⟩ := h
  refine ⟨?_, ?_, ?_, ?_, ?_, ?_, ?_, ?_, ?_, ?_, ?_, ?_, ?_⟩
  · rw [z_sn (by omega), z_sr (show 116 ≠ 122 by decide)]
    exact a1
  · rw [z_sr (show s + 1 ≠ s + 6 by omega), z_sr (show 117 ≠ 122 by decide)]
    exact a2
  · rw [z_sr (show s + 2 ≠ s + 6 by omega), z_sr (show 116 ≠ 122 by decide), z_sr (show 118 ≠ 122 by decide)]
    exact a3
  · rw [z_sr (show s + 3 ≠ s + 6 by omega), z_sr (show 119 ≠ 122 by decide)]
    exact a4
  · rw [z_sr (show s + 4 ≠ s + 6 by omega), z_sr (show 120 ≠ 122 by decide)]
    exact a5
  · rw [z_sr (show s + 5 ≠ s + 6 by omega), z_sr (show 121 ≠ 122 by decide)]
    exact a6
  · exact z_co_u a7 hv
  · rw [z_sn (by omega), z_sr (show 129 ≠ 122 by decide)]
    exact a8
  · rw [z_sr (show s + 7 ≠ s + 6 by omega), z_sr (show 130 ≠ 122 by decide)]
    exact a9
  · rw [z_sr (show s + 8 ≠ s + 6 by omega), z_sr (show 131 ≠ 122 by decide)]
    exact a10
  · rw [z_sn (by omega), z_sn (by omega)]
    exact a12
  · rw [z_sn (by omega), z_sn (by omega)]
    exact a13
  · rw [z_sn (by omega), z_sn (by omega)]
    exact a14
theorem z_Mo_hab {c s nc : Nat} (hc : z_cd c) (hs : z_st s) {S T : v_Sf} (h : z_Mo c s nc S T) (i : Nat) {v : Int32} (hv : 0 ≤ v.toInt ∧ v.toInt ≤ 1023) : z_Mo c s nc (z_s S (s + 6) i v) (z_s T 122 i v) := by
  have hsn := z_stn hs
  have hcn := z_cdn hc
  obtain ⟨a, b1, b3, b4, b5, b6⟩ := h
  have fS : ∀ b, b ≠ s + 6 → (z_s S (s + 6) i v) b = S b := fun b q => z_sr q
  have fT : ∀ b, b ≠ 122 → (z_s T 122 i v) b = T b := fun b q => z_sr q
  refine ⟨z_St_hab hs a i hv, ?_, ?_, ?_, ?_, ?_⟩
  · intro w hw
    rw [fS (33 + 2 * w) (by omega), fS (33 + 2 * w + 1) (by omega), fT 127 (by decide), fT 123 (by decide), fT 124 (by decide), fT 125 (by decide), fT 126 (by decide)]
    exact b1 w hw
  · rw [fS 48 (by omega), fT 132 (by decide)]
    exact b3
  · exact z_LawR_t b4 (fS _ (by omega)) (fS _ (by omega)) (fS _ (by omega)) (fS _ (by omega)) (fS _ (by omega)) (fS _ (by omega)) (fun a j q => by rw [fT a (by omega)])
  · rw [fT 99 (by decide)]
    exact b5
  · rw [fS 75 (by omega), fT 99 (by decide)]
    exact b6
theorem z_St_ill {s : Nat} (hs : z_st s) {S T : v_Sf} (h : z_St s S T) (i : Nat) {v : Int32} (hv : 0 ≤ v.toInt ∧ v.toInt ≤ 10) : z_St s (z_s S (s + 8) i v) (z_s T 131 i v) := by
  have hsn := z_stn hs
  obtain ⟨a1, a2, a3, a4, a5, a6, a7, a8, a9, a10, a12, a13, a14⟩ := h
  refine ⟨?_, ?_, ?_, ?_, ?_, ?_, ?_, ?_, ?_, ?_, ?_, ?_, ?_⟩
  · rw [z_sn (by omega), z_sr (show 116 ≠ 131 by decide)]
    exact a1
  · rw [z_sr (show s + 1 ≠ s + 8 by omega), z_sr (show 117 ≠ 131 by decide)]
    exact a2
  · rw [z_sr (show s + 2 ≠ s + 8 by omega), z_sr (show 116 ≠ 131 by decide), z_sr (show 118 ≠ 131 by decide)]
    exact a3
  · rw [z_sr (show s + 3 ≠ s + 8 by omega), z_sr (show 119 ≠ 131 by decide)]
    exact a4
  · rw [z_sr (show s + 4 ≠ s + 8 by omega), z_sr (show 120 ≠ 131 by decide)]
    exact a5
  · rw [z_sr (show s + 5 ≠ s + 8 by omega), z_sr (show 121 ≠ 131 by decide)]
    exact a6
  · rw [z_sr (show s + 6 ≠ s + 8 by omega), z_sr (show 122 ≠ 131 by decide)]
    exact a7
  · rw [z_sn (by omega), z_sr (show 129 ≠ 131 by decide)]
    exact a8
  · rw [z_sr (show s + 7 ≠ s + 8 by omega), z_sr (show 130 ≠ 131 by decide)]
    exact a9
  · exact z_co_u a10 hv
  · rw [z_sn (by omega), z_sn (by omega)]
    exact a12
  · rw [z_sn (by omega), z_sn (by omega)]
    exact a13
  · rw [z_sn (by omega), z_sn (by omega)]
    exact a14
theorem z_Mo_ill {c s nc : Nat} (hc : z_cd c) (hs : z_st s) {S T : v_Sf} (h : z_Mo c s nc S T) (i : Nat) {v : Int32} (hv : 0 ≤ v.toInt ∧ v.toInt ≤ 10) : z_Mo c s nc (z_s S (s + 8) i v) (z_s T 131 i v) := by
  have hsn := z_stn hs
  have hcn := z_cdn hc
  obtain ⟨a, b1, b3, b4, b5, b6⟩ := h
  have fS : ∀ b, b ≠ s + 8 → (z_s S (s + 8) i v) b = S b := fun b q => z_sr q
  have fT : ∀ b, b ≠ 131 → (z_s T 131 i v) b = T b := fun b q => z_sr q
  refine ⟨z_St_ill hs a i hv, ?_, ?_, ?_, ?_, ?_⟩
  · intro w hw
    rw [fS (33 + 2 * w) (by omega), fS (33 + 2 * w + 1) (by omega), fT 127 (by decide), fT 123 (by decide), fT 124 (by decide), fT 125 (by decide), fT 126 (by decide)]
    exact b1 w hw
  · rw [fS 48 (by omega), fT 132 (by decide)]
    exact b3
  · exact z_LawR_t b4 (fS _ (by omega)) (fS _ (by omega)) (fS _ (by omega)) (fS _ (by omega)) (fS _ (by omega)) (fS _ (by omega)) (fun a j q => by rw [fT a (by omega)])
  · rw [fT 99 (by decide)]
    exact b5
  · rw [fS 75 (by omega), fT 99 (by decide)]
    exact b6
theorem z_St_toy {s : Nat} (hs : z_st s) {S T : v_Sf} (h : z_St s S T) {v : Int32} : z_St s (z_s S s 12 v) (z_s T 99 61 v) := by
  have hsn := z_stn hs
  obtain ⟨a1, a2, a3, a4, a5, a6, a7, a8, a9, a10, a12, a13, a14⟩ := h
  refine ⟨?_, ?_, ?_, ?_, ?_, ?_, ?_, ?_, ?_, ?_, ?_, ?_, ?_⟩
  · rw [z_sn (by omega), z_sr (show 116 ≠ 99 by decide)]
    exact a1
  · rw [z_sr (show s + 1 ≠ s by omega), z_sr (show 117 ≠ 99 by decide)]
    exact a2
  · rw [z_sr (show s + 2 ≠ s by omega), z_sr (show 116 ≠ 99 by decide), z_sr (show 118 ≠ 99 by decide)]
    exact a3
  · rw [z_sr (show s + 3 ≠ s by omega), z_sr (show 119 ≠ 99 by decide)]
    exact a4
  · rw [z_sr (show s + 4 ≠ s by omega), z_sr (show 120 ≠ 99 by decide)]
    exact a5
  · rw [z_sr (show s + 5 ≠ s by omega), z_sr (show 121 ≠ 99 by decide)]
    exact a6
  · rw [z_sr (show s + 6 ≠ s by omega), z_sr (show 122 ≠ 99 by decide)]
    exact a7
  · rw [z_sn (by omega), z_sr (show 129 ≠ 99 by decide)]
    exact a8
  · rw [z_sr (show s + 7 ≠ s by omega), z_sr (show 130 ≠ 99 by decide)]
    exact a9
  · rw [z_sr (show s + 8 ≠ s by omega), z_sr (show 131 ≠ 99 by decide)]
    exact a10
  · rw [z_sn (by omega), z_sn (by omega)]
    exact a12
  · rw [z_ss, z_ss]
  · rw [z_sn (by omega), z_sn (by omega)]
    exact a14
theorem z_Mo_toy {c s nc : Nat} (hc : z_cd c) (hs : z_st s) {S T : v_Sf} (h : z_Mo c s nc S T) {v : Int32} : z_Mo c s nc (z_s S s 12 v) (z_s T 99 61 v) := by
  have hsn := z_stn hs
  have hcn := z_cdn hc
  obtain ⟨a, b1, b3, b4, b5, b6⟩ := h
  have fS : ∀ b, b ≠ s → (z_s S s 12 v) b = S b := fun b q => z_sr q
  have fT : ∀ b, b ≠ 99 → (z_s T 99 61 v) b = T b := fun b q => z_sr q
  refine ⟨z_St_toy hs a , ?_, ?_, ?_, ?_, ?_⟩
  · intro w hw
    rw [fS (33 + 2 * w) (by omega), fS (33 + 2 * w + 1) (by omega), fT 127 (by decide), fT 123 (by decide), fT 124 (by decide), fT 125 (by decide), fT 126 (by decide)]
    exact b1 w hw
  · rw [fS 48 (by omega), fT 132 (by decide)]
    exact b3
  · exact z_LawR_t b4 (fS _ (by omega)) (fS _ (by omega)) (fS _ (by omega)) (fS _ (by omega)) (fS _ (by omega)) (fS _ (by omega)) (fun a j q => by rw [fT a (by omega)])
  · rw [z_sn (by omega)]
    exact b5
  · rw [fS 75 (by omega), z_sn (by omega)]
    exact b6
theorem z_St_whi {s : Nat} (hs : z_st s) {S T : v_Sf} (h : z_St s S T) {v : Int32} : z_St s (z_s S s 13 v) (z_s T 99 62 v) := by
  have hsn := z_stn hs
  obtain ⟨a1, a2, a3, a4, a5, a6, a7, a8, a9, a10, a12, a13, a14⟩ := h
  refine ⟨?_, ?_, ?_, ?_, ?_, ?_, ?_, ?_, ?_, ?_, ?_, ?_, ?_⟩
  · rw [z_sn (by omega), z_sr (show 116 ≠ 99 by decide)]
    exact a1
  · rw [z_sr (show s + 1 ≠ s by omega), z_sr (show 117 ≠ 99 by decide)]
    exact a2
  · rw [z_sr (show s + 2 ≠ s by omega), z_sr (show 116 ≠ 99 by decide), z_sr (show 118 ≠ 99 by decide)]
    exact a3
  · rw [z_sr (show s + 3 ≠ s by omega), z_sr (show 119 ≠ 99 by decide)]
    exact a4
  · rw [z_sr (show s + 4 ≠ s by omega), z_sr (show 120 ≠ 99 by decide)]
    exact a5
  · rw [z_sr (show s + 5 ≠ s by omega), z_sr (show 121 ≠ 99 by decide)]
    exact a6
  · rw [z_sr (show s + 6 ≠ s by omega), z_sr (show 122 ≠ 99 by decide)]
    exact a7
  · rw [z_sn (by omega), z_sr (show 129 ≠ 99 by decide)]
    exact a8
  · rw [z_sr (show s + 7 ≠ s by omega), z_sr (show 130 ≠ 99 by decide)]
    exact a9
  · rw [z_sr (show s + 8 ≠ s by omega), z_sr (show 131 ≠ 99 by decide)]
    exact a10
  · rw [z_sn (by omega), z_sn (by omega)]
    exact a12
  · rw [z_sn (by omega), z_sn (by omega)]
    exact a13
  · rw [z_ss, z_ss]
theorem z_Mo_whi {c s nc : Nat} (hc : z_cd c) (hs : z_st s) {S T : v_Sf} (h : z_Mo c s nc S T) {v : Int32} : z_Mo c s nc (z_s S s 13 v) (z_s T 99 62 v) := by
  have hsn := z_stn hs
  have hcn := z_cdn hc
  obtain ⟨a, b1, b3, b4, b5, b6⟩ := h
  have fS : ∀ b, b ≠ s → (z_s S s 13 v) b = S b := fun b q => z_sr q
  have fT : ∀ b, b ≠ 99 → (z_s T 99 62 v) b = T b := fun b q => z_sr q
  refine ⟨z_St_whi hs a , ?_, ?_, ?_, ?_, ?_⟩
  · intro w hw
    rw [fS (33 + 2 * w) (by omega), fS (33 + 2 * w + 1) (by omega), fT 127 (by decide), fT 123 (by decide), fT 124 (by decide), fT 125 (by decide), fT 126 (by decide)]
    exact b1 w hw
  · rw [fS 48 (by omega), fT 132 (by decide)]
    exact b3
  · exact z_LawR_t b4 (fS _ (by omega)) (fS _ (by omega)) (fS _ (by omega)) (fS _ (by omega)) (fS _ (by omega)) (fS _ (by omega)) (fun a j q => by rw [fT a (by omega)])
  · rw [z_sn (by omega)]
    exact b5
  · rw [fS 75 (by omega), z_sn (by omega)]
    exact b6
theorem z_St_mon {s : Nat} (hs : z_st s) {S T : v_Sf} (h : z_St s S T) {v : Int32} (hv : 0 ≤ v.toInt ∧ v.toInt ≤ 9999) : z_St s (z_s S s 11 v) (z_s T 99 60 v) := by
  have hsn := z_stn hs
  obtain ⟨a1, a2, a3, a4, a5, a6, a7, a8, a9, a10, a12, a13, a14⟩ := h
  refine ⟨?_, ?_, ?_, ?_, ?_, ?_, ?_, ?_, ?_, ?_, ?_, ?_, ?_⟩
  · rw [z_sn (by omega), z_sr (show 116 ≠ 99 by decide)]
    exact a1
  · rw [z_sr (show s + 1 ≠ s by omega), z_sr (show 117 ≠ 99 by decide)]
    exact a2
  · rw [z_sr (show s + 2 ≠ s by omega), z_sr (show 116 ≠ 99 by decide), z_sr (show 118 ≠ 99 by decide)]
    exact a3
  · rw [z_sr (show s + 3 ≠ s by omega), z_sr (show 119 ≠ 99 by decide)]
    exact a4
  · rw [z_sr (show s + 4 ≠ s by omega), z_sr (show 120 ≠ 99 by decide)]
    exact a5
  · rw [z_sr (show s + 5 ≠ s by omega), z_sr (show 121 ≠ 99 by decide)]
    exact a6
  · rw [z_sr (show s + 6 ≠ s by omega), z_sr (show 122 ≠ 99 by decide)]
    exact a7
  · rw [z_sn (by omega), z_sr (show 129 ≠ 99 by decide)]
    exact a8
  · rw [z_sr (show s + 7 ≠ s by omega), z_sr (show 130 ≠ 99 by decide)]
    exact a9
  · rw [z_sr (show s + 8 ≠ s by omega), z_sr (show 131 ≠ 99 by decide)]
    exact a10
  · rw [z_ss, z_ss]
    exact ⟨rfl, hv⟩
  · rw [z_sn (by omega), z_sn (by omega)]
    exact a13
  · rw [z_sn (by omega), z_sn (by omega)]
    exact a14
theorem z_Mo_mon {c s nc : Nat} (hc : z_cd c) (hs : z_st s) {S T : v_Sf} (h : z_Mo c s nc S T) {v : Int32} (hv : 0 ≤ v.toInt ∧ v.toInt ≤ 9999) : z_Mo c s nc (z_s S s 11 v) (z_s T 99 60 v) := by
  have hsn := z_stn hs
  have hcn := z_cdn hc
  obtain ⟨a, b1, b3, b4, b5, b6⟩ := h
  have fS : ∀ b, b ≠ s → (z_s S s 11 v) b = S b := fun b q => z_sr q
  have fT : ∀ b, b ≠ 99 → (z_s T 99 60 v) b = T b := fun b q => z_sr q
  refine ⟨z_St_mon hs a hv, ?_, ?_, ?_, ?_, ?_⟩
  · intro w hw
    rw [fS (33 + 2 * w) (by omega), fS (33 + 2 * w + 1) (by omega), fT 127 (by decide), fT 123 (by decide), fT 124 (by decide), fT 125 (by decide), fT 126 (by decide)]
    exact b1 w hw
  · rw [fS 48 (by omega), fT 132 (by decide)]
    exact b3
  · exact z_LawR_t b4 (fS _ (by omega)) (fS _ (by omega)) (fS _ (by omega)) (fS _ (by omega)) (fS _ (by omega)) (fS _ (by omega)) (fun a j q => by rw [fT a (by omega)])
  · rw [z_sn (by omega)]
    exact b5
  · rw [fS 75 (by omega), z_sn (by omega)]
    exact b6
theorem z_Mo_lea {c s nc : Nat} (hc : z_cd c) (hs : z_st s) {S T : v_Sf} (h : z_Mo c s nc S T) {v : Int32} : z_Mo c s nc (z_s S 75 3 v) (z_s T 99 70 v) := by
  have hsn := z_stn hs
  have hcn := z_cdn hc
  obtain ⟨a, b1, b3, b4, b5, b6⟩ := h
  obtain ⟨a1, a2, a3, a4, a5, a6, a7, a8, a9, a10, a12, a13, a14⟩ := a
  refine ⟨⟨?_, ?_, ?_, ?_, ?_, ?_, ?_, ?_, ?_, ?_, ?_, ?_, ?_⟩, ?_, ?_, ?_, ?_, ?_⟩
  · rw [z_sr (by omega), z_sr (by decide)]
    exact a1
  · rw [z_sr (by omega), z_sr (by decide)]
    exact a2
  · rw [z_sr (show s + 2 ≠ 75 by omega), z_sr (show 116 ≠ 99 by decide), z_sr (show 118 ≠ 99 by decide)]
    exact a3
  · rw [z_sr (by omega), z_sr (by decide)]
    exact a4
  · rw [z_sr (by omega), z_sr (by decide)]
    exact a5
  · rw [z_sr (by omega), z_sr (by decide)]
    exact a6
  · rw [z_sr (by omega), z_sr (by decide)]
    exact a7
  · rw [z_sr (by omega), z_sr (by decide)]
    exact a8
  · rw [z_sr (by omega), z_sr (by decide)]
    exact a9
  · rw [z_sr (by omega), z_sr (by decide)]
    exact a10
  · rw [z_sn (by omega), z_sn (by omega)]
    exact a12
  · rw [z_sn (by omega), z_sn (by omega)]
    exact a13
  · rw [z_sn (by omega), z_sn (by omega)]
    exact a14
  · intro w hw
    rw [z_sr (show 33 + 2 * w ≠ 75 by omega), z_sr (show 33 + 2 * w + 1 ≠ 75 by omega), z_sr (show 127 ≠ 99 by decide), z_sr (show 123 ≠ 99 by decide), z_sr (show 124 ≠ 99 by decide), z_sr (show 125 ≠ 99 by decide), z_sr (show 126 ≠ 99 by decide)]
    exact b1 w hw
  · rw [z_sr (show 48 ≠ 75 by decide), z_sr (show 132 ≠ 99 by decide)]
    exact b3
  · exact z_LawR_t b4 (z_sr (by omega)) (z_sr (by omega)) (z_sr (by omega)) (z_sr (by omega)) (z_sr (by omega)) (z_sr (by omega)) (fun a j q => z_sn (by omega))
  · rw [z_sn (by omega)]
    exact b5
  · rw [z_ss, z_ss]
/-! the law asked of a gust -/
theorem z_ofG {c s nc : Nat} (hc : z_cd c) (hs : z_st s) {S T : v_Sf} (h : z_Mo c s nc S T) {g : Nat} (hg : g < 12) (ht : ¬ T 116 g = 0) {L : Int32} (hL : ¬ z_aln L) : f_X3_ofGust c s (z_i g) L S = f_X12_tells L (Int32.ofInt 20) (g_X12_gustStands (z_i g) T) ∧ z_Mo c s nc (g_X3_ofGust c s (z_i g) L S) (g_X12_tells L (Int32.ofInt 20) (g_X12_gustStands (z_i g) T)) ∧ (0 ≤ (f_X12_tells L (Int32.ofInt 20) (g_X12_gustStands (z_i g) T)).toInt ∧ (f_X12_tells L (Int32.ofInt 20) (g_X12_gustStands (z_i g) T)).toInt ≤ 20) ∧ (∀ a, a ≠ 51 → a ≠ c + 3 → g_X3_ofGust c s (z_i g) L S a = S a) ∧ ∀ a j, ¬ (a = 99 ∧ 27 ≤ j ∧ j ≤ 40) → a ≠ 114 → a ≠ 115 → g_X12_tells L (Int32.ofInt 20) (g_X12_gustStands (z_i g) T) a j = T a j := by
  have hsn := z_stn hs
  have hcl := z_cdl hc
  have lk := z_lookG hs h.1 h.2.1 hg ht
  have hv := z_vw_mk lk.2.2.1 (by rw [lk.2.2.2.1, lk.2.1 99 60 (by omega)])
  have h1 : z_Mo c s nc (g_X3_lookAtGust s (z_i g) S) (g_X12_gustStands (z_i g) T) := z_Mo_f h (fun a q => lk.1 a (by omega)) (fun j _ => by rw [lk.1 s (by omega)]) (by rw [lk.1 75 (by decide)]) (fun a j q => lk.2.1 a j (by omega))
  have am := z_amount hc (L := L) (most := Int32.ofInt 20) hL (by decide) h1.2.2.2.1 h1.2.2.2.2.1 hv
  have fS : ∀ a, a ≠ 51 → a ≠ c + 3 → g_X3_ofGust c s (z_i g) L S a = S a := fun a q1 q2 => (am.2.1 a q2).trans (lk.1 a q1)
  have fT : ∀ a j, ¬ (a = 99 ∧ 27 ≤ j ∧ j ≤ 40) → a ≠ 114 → a ≠ 115 → g_X12_tells L (Int32.ofInt 20) (g_X12_gustStands (z_i g) T) a j = T a j := fun a j q1 q2 q3 => by
    rw [am.2.2 a q2 q3]
    exact lk.2.1 a j q1
  exact ⟨am.1, z_Mo_f h (fun a q => fS a (by omega) (by omega)) (fun j _ => by rw [fS s (by omega) (by omega)]) (by rw [fS 75 (by decide) (by omega)]) (fun a j q => fT a j (by omega) (by omega) (by omega)), z_tells_r (by decide) _ _ _, fS, fT⟩
noncomputable def z_fj (A : Nat → Nat → Prop) (S S' : v_Sf) : Prop := ∀ a j, ¬ A a j → S' a j = S a j
theorem z_fj_t {A : Nat → Nat → Prop} {S S' S'' : v_Sf} (h1 : z_fj A S S') (h2 : z_fj A S' S'') : z_fj A S S'' := fun a j q => (h2 a j q).trans (h1 a j q)
noncomputable def z_mc (c s a j : Nat) : Prop := a = 51 ∨ a = c + 3 ∨ a = s + 1 ∨ a = s + 3 ∨ a = s + 6 ∨ a = s ∧ (j = 12 ∨ j = 13) ∨ a = 75 ∧ j = 3
noncomputable def z_mm (a j : Nat) : Prop := a = 99 ∧ (27 ≤ j ∧ j ≤ 40 ∨ j = 61 ∨ j = 62 ∨ 70 ≤ j ∧ j ≤ 76) ∨ a = 114 ∨ a = 115 ∨ a = 117 ∨ a = 119 ∨ a = 122
/-- alike, and what has changed since -/
noncomputable def z_R (c s nc : Nat) (S0 T0 S T : v_Sf) : Prop := z_Mo c s nc S T ∧ z_fj (z_mc c s) S0 S ∧ z_fj z_mm T0 T
theorem z_R_i {c s nc : Nat} {S0 T0 S T S' T' : v_Sf} (h : z_R c s nc S0 T0 S T) (h1 : z_Mo c s nc S' T') (f1 : z_fj (z_mc c s) S S') (f2 : z_fj z_mm T T') : z_R c s nc S0 T0 S' T' := ⟨h1, z_fj_t h.2.1 f1, z_fj_t h.2.2 f2⟩
theorem z_na {c : Int32} (h1 : ¬ c = Int32.ofInt 101) (h2 : ¬ c = Int32.ofInt 120) : ¬ z_aln c := fun q => q.elim h1 h2
theorem z_weaken_l {c s nc : Nat} (hc : z_cd c) (hs : z_st s) {S0 T0 : v_Sf} : ∀ (r k : Nat) (S T : v_Sf), r + k = 12 → z_R c s nc S0 T0 S T → z_R c s nc S0 T0 (r_X0_weaken_26 c s r k S) (r_X12_weakens_22 r k T) := by
  have hsn := z_stn hs
  have hcl := z_cdl hc
  intro r
  induction r with
  | zero =>
    intro k S T _ h
    rw [r_X0_weaken_26, r_X12_weakens_22]
    exact h
  | succ r ih =>
    intro k S T hk h0
    have h := h0.1
    have ek : (z_i k).toInt.toNat = k := z_iin (by omega)
    rw [r_X0_weaken_26, r_X12_weakens_22, ek]
    by_cases ht : T 116 k = 0
    · rw [if_pos ((z_hasG2 h.1 (by omega)).mpr ht), if_neg (not_not_intro ht)]
      exact ih (k + 1) S T (by omega) h0
    · rw [if_neg (fun q => ht ((z_hasG2 h.1 (by omega)).mp q)), if_pos ht]
      obtain ⟨o1, o2, o3, o4, o5⟩ := z_ofG hc hs h (g := k) (by omega) ht (L := Int32.ofInt 103) (z_na (by decide) (by decide))
      have st := h.1.2.1 k (by omega)
      have lk := z_lookG hs h.1 h.2.1 (g := k) (by omega) ht
      rw [o1, st.1, lk.2.1 117 k (by omega)]
      have w := z_weakN st.2 o3
      rw [w.1]
      exact ih (k + 1) _ _ (by omega) (z_R_i h0 (z_Mo_str hc hs o2 k w.2) (fun a j q => by unfold z_mc at q; rw [z_sn (by omega), o4 a (by omega) (by omega)]) (fun a j q => by unfold z_mm at q; rw [z_sn (by omega), o5 a j (by omega) (by omega) (by omega)]))
theorem z_feed_l {c s nc : Nat} (hc : z_cd c) (hs : z_st s) {S0 T0 : v_Sf} {w : Nat} (hw : w < 6) : ∀ (r k : Nat) (S T : v_Sf) (u : Int32), r + k = 12 → u = T 124 w → z_R c s nc S0 T0 S T → z_R c s nc S0 T0 (r_X0_strengthen_3 c s (z_i w) u r k S) (r_X12_feeds_2 (z_i w) r k T) := by
  have hsn := z_stn hs
  have hcl := z_cdl hc
  have ew : (z_i w).toInt.toNat = w := z_iin (by omega)
  intro r
  induction r with
  | zero =>
    intro k S T u _ _ h
    rw [r_X0_strengthen_3, r_X12_feeds_2]
    exact h
  | succ r ih =>
    intro k S T u hk hu h0
    have h := h0.1
    have ek : (z_i k).toInt.toNat = k := z_iin (by omega)
    rw [r_X0_strengthen_3, r_X12_feeds_2, ew, ← hu, ek]
    by_cases g0 : u ≤ 0
    · rw [if_pos g0, if_pos g0]
      exact h0
    · rw [if_neg g0, if_neg g0]
      have wd := h.1.2.2.2.2.1 k (by omega)
      by_cases ht : T 116 k = 0
      · rw [if_pos ((z_hasG2 h.1 (by omega)).mpr ht), if_neg (by unfold f_X12_isIn; rw [ek, if_pos ht]; decide)]
        exact ih (k + 1) S T u (by omega) hu h0
      · rw [if_neg (fun q => ht ((z_hasG2 h.1 (by omega)).mp q)), wd.1]
        by_cases hin : T 120 k = z_i w
        · rw [if_neg (not_not_intro hin), if_pos (by unfold f_X12_isIn; rw [ek, if_neg ht, if_neg (not_not_intro hin)]; decide)]
          obtain ⟨o1, o2, o3, o4, o5⟩ := z_ofG hc hs h (g := k) (by omega) ht (L := Int32.ofInt 102) (z_na (by decide) (by decide))
          have st := h.1.2.1 k (by omega)
          have lk := z_lookG hs h.1 h.2.1 (g := k) (by omega) ht
          rw [o1, st.1, lk.2.1 117 k (by omega)]
          have w2 := z_feedN st.2 o3
          rw [w2.1]
          exact ih (k + 1) _ _ u (by omega) (by rw [z_sn (by omega), o5 124 w (by omega) (by omega) (by omega)]; exact hu) (z_R_i h0 (z_Mo_str hc hs o2 k w2.2) (fun a j q => by unfold z_mc at q; rw [z_sn (by omega), o4 a (by omega) (by omega)]) (fun a j q => by unfold z_mm at q; rw [z_sn (by omega), o5 a j (by omega) (by omega) (by omega)]))
        · rw [if_pos hin, if_neg (by unfold f_X12_isIn; rw [ek, if_neg ht, if_pos hin]; decide)]
          exact ih (k + 1) S T u (by omega) hu h0
theorem z_break_l {c s nc : Nat} (hc : z_cd c) (hs : z_st s) {S0 T0 : v_Sf} : ∀ (r k : Nat) (S T : v_Sf), r + k = 12 → z_R c s nc S0 T0 S T → z_R c s nc S0 T0 (r_X0_breakToys_2 c s r k S) (r_X12_breaks_2 r k T) := by
  have hsn := z_stn hs
  have hcl := z_cdl hc
  intro r
  induction r with
  | zero =>
    intro k S T _ h
    rw [r_X0_breakToys_2, r_X12_breaks_2]
    exact h
  | succ r ih =>
    intro k S T hk h0
    have h := h0.1
    have ek : (z_i k).toInt.toNat = k := z_iin (by omega)
    rw [r_X0_breakToys_2, r_X12_breaks_2, ek]
    by_cases ht : T 116 k = 0
    · rw [if_pos ((z_hasG2 h.1 (by omega)).mpr ht), if_neg (not_not_intro ht)]
      exact ih (k + 1) S T (by omega) h0
    · rw [if_neg (fun q => ht ((z_hasG2 h.1 (by omega)).mp q)), if_pos ht]
      obtain ⟨o1, o2, o3, o4, o5⟩ := z_ofG hc hs h (g := k) (by omega) ht (L := Int32.ofInt 98) (z_na (by decide) (by decide))
      rw [o1, h.1.2.2.2.2.2.2.2.2.2.2.2.1, o5 99 61 (by omega) (by omega) (by omega)]
      refine ih (k + 1) _ _ (by omega) (z_R_i h0 (z_Mo_f (z_Mo_toy hc hs o2 (v := T 99 61 + f_X12_tells (Int32.ofInt 98) (Int32.ofInt 20) (g_X12_gustStands (z_i k) T))) (fun _ _ => rfl) (fun _ _ => rfl) rfl (fun a j q => z_sn (by omega))) (fun a j q => by unfold z_mc at q; rw [z_sn (by omega), o4 a (by omega) (by omega)]) (fun a j q => by unfold z_mm at q; rw [z_sn (by omega), z_sn (by omega), o5 a j (by omega) (by omega) (by omega)]))
end PrtS43q
section PrtS43r
/-! months: teaching and quarrels -/
theorem z_and1 (x : Int32) : x &&& Int32.ofInt 1 = 0 ∨ x &&& Int32.ofInt 1 = Int32.ofInt 1 := by
  have h : (x &&& Int32.ofInt 1).toBitVec.toNat = x.toBitVec.toNat % 2 := by
    rw [Int32.toBitVec_and, BitVec.toNat_and, show (Int32.ofInt 1).toBitVec.toNat = 1 from rfl, Nat.and_one_is_mod]
  rcases Nat.mod_two_eq_zero_or_one x.toBitVec.toNat with q | q
  · left
    refine Int32.toBitVec_inj.mp (BitVec.eq_of_toNat_eq ?_)
    rw [h, q]
    rfl
  · right
    refine Int32.toBitVec_inj.mp (BitVec.eq_of_toNat_eq ?_)
    rw [h, q]
    rfl
theorem z_has {h l : Int32} (hl : 0 ≤ l.toInt ∧ l.toInt ≤ 30) : (f_X11_isIn h l = 0) ↔ (f_X12_has h l = 0) := by
  unfold f_X11_isIn f_X12_has
  rw [if_neg (by rw [z_ltI2]; have e0 : (0 : Int32).toInt = 0 := rfl; omega), if_neg (by rw [z_leI2]; have e0 : (Int32.ofInt 31).toInt = 31 := rfl; omega)]
  rcases z_and1 (h >>> (l &&& 31)) with q | q
  · rw [q, if_pos rfl, if_pos (by decide)]
  · rw [q, if_neg (by decide), if_neg (by decide)]
set_option maxRecDepth 100000 in
theorem z_or_all : ∀ h : Fin 1024, ∀ l : Fin 10, decide (0 ≤ (z_i h.val ||| (Int32.ofInt 1 <<< (z_i l.val &&& 31))).toInt ∧ (z_i h.val ||| (Int32.ofInt 1 <<< (z_i l.val &&& 31))).toInt ≤ 1023) = true := fun h l => by
  have hh := h.isLt
  have hl := l.isLt
  have e : Int32.ofInt 1 <<< (z_i l.val &&& 31) = z_i (2 ^ l.val) := z_bone ⟨l.val, by omega⟩
  have q : Nat.lor h.val (2 ^ l.val) < 2 ^ 10 := Nat.or_lt_two_pow (show h.val < 2 ^ 10 by omega) (Nat.pow_lt_pow_right (by decide) hl)
  have q2 : Nat.lor h.val (2 ^ l.val) < 2147483648 := by omega
  rw [e, z_bor, z_it3 q2]
  exact decide_eq_true ⟨by omega, by omega⟩
theorem z_ofN {x : Int32} (h : 0 ≤ x.toInt) : z_i x.toInt.toNat = x := by
  unfold z_i
  rw [show ((x.toInt.toNat : Nat) : Int) = x.toInt by omega, Int32.ofInt_toInt]
theorem z_orR {h l : Int32} (hh : 0 ≤ h.toInt ∧ h.toInt ≤ 1023) (hl : 0 ≤ l.toInt ∧ l.toInt ≤ 9) : 0 ≤ (h ||| (Int32.ofInt 1 <<< (l &&& 31))).toInt ∧ (h ||| (Int32.ofInt 1 <<< (l &&& 31))).toInt ≤ 1023 := by
  have := of_decide_eq_true (z_or_all ⟨h.toInt.toNat, by omega⟩ ⟨l.toInt.toNat, by omega⟩)
  simp only [z_ofN hh.1, z_ofN hl.1] at this
  exact this
theorem z_any01 {L : Int32} : ∀ (r k : Nat) (T : v_Sf), (r_X12_says_2 L r k T).1 = Int32.ofInt 0 ∨ (r_X12_says_2 L r k T).1 = Int32.ofInt 1 := by
  intro r
  induction r with
  | zero =>
    intro k T
    rw [r_X12_says_2]
    exact Or.inl rfl
  | succ r ih =>
    intro k T
    rw [r_X12_says_2]
    split
    · exact Or.inl rfl
    · split
      · exact ih _ _
      · split
        · exact ih _ _
        · exact Or.inr rfl
theorem z_lrn {c s nc : Nat} (hc : z_cd c) (hs : z_st s) {S T : v_Sf} (h : z_Mo c s nc S T) {g : Nat} (hg : g < 12) (ht : ¬ T 116 g = 0) (l : Int32) : f_X3_learns c s (z_i g) l S = f_X12_says (Int32.ofInt 101) (z_s (g_X12_gustStands (z_i g) T) 99 35 l) ∧ z_Mo c s nc (g_X3_learns c s (z_i g) l S) (g_X12_says (Int32.ofInt 101) (z_s (g_X12_gustStands (z_i g) T) 99 35 l)) ∧ (∀ a, a ≠ 51 → a ≠ c + 3 → g_X3_learns c s (z_i g) l S a = S a) ∧ ∀ a j, ¬ (a = 99 ∧ 27 ≤ j ∧ j ≤ 40) → a ≠ 114 → a ≠ 115 → g_X12_says (Int32.ofInt 101) (z_s (g_X12_gustStands (z_i g) T) 99 35 l) a j = T a j := by
  have hsn := z_stn hs
  have hcl := z_cdl hc
  have lk := z_lookG hs h.1 h.2.1 hg ht
  have hv : z_vw (fun a => f_X1_valueAt a (z_s (g_X3_lookAtGust s (z_i g) S) 51 8 l)) (fun a => f_X12_valueOf a (z_s (g_X12_gustStands (z_i g) T) 99 35 l)) := by
    refine z_vw_mk (fun i hi => ?_) ?_
    · by_cases q : i = 8
      · rw [q, z_ss, z_ss]
      · rw [z_sn (by omega), z_sn (by omega)]
        exact lk.2.2.1 i hi
    · rw [z_sn (by omega), z_sn (by omega), lk.2.2.2.1, lk.2.1 99 60 (by omega)]
  have f1 : ∀ a, a ≠ 51 → z_s (g_X3_lookAtGust s (z_i g) S) 51 8 l a = S a := fun a q => (z_sr q).trans (lk.1 a q)
  have f2 : ∀ a j, ¬ (a = 99 ∧ 27 ≤ j ∧ j ≤ 40) → z_s (g_X12_gustStands (z_i g) T) 99 35 l a j = T a j := fun a j q => (z_sn (by omega)).trans (lk.2.1 a j q)
  have h1 : z_Mo c s nc (z_s (g_X3_lookAtGust s (z_i g) S) 51 8 l) (z_s (g_X12_gustStands (z_i g) T) 99 35 l) := z_Mo_f h (fun a q => f1 a (by omega)) (fun j _ => by rw [f1 s (by omega)]) (by rw [f1 75 (by decide)]) (fun a j q => f2 a j (by omega))
  have am := z_holds hc (L := Int32.ofInt 101) h1.2.2.2.1 h1.2.2.2.2.1 hv
  exact ⟨am.1, z_Mo_f h1 (fun a q => am.2.1 a (by omega)) (fun j _ => by show g_X3_anyHolds _ _ _ s j = _; rw [am.2.1 s (by omega)]) (by show g_X3_anyHolds _ _ _ 75 3 = _; rw [am.2.1 75 (by omega)]) (fun a j q => by rw [am.2.2 a (by omega) (by omega)]), fun a q1 q2 => (am.2.1 a q2).trans (f1 a q1), fun a j q1 q2 q3 => by rw [am.2.2 a q2 q3]; exact f2 a j q1⟩
theorem z_teach_l {c s nc : Nat} (hc : z_cd c) (hs : z_st s) {S0 T0 : v_Sf} {w : Nat} (hw : w < 6) {l : Int32} (hl : 0 ≤ l.toInt ∧ l.toInt ≤ 9) : ∀ (r k : Nat) (S T : v_Sf), r + k = 12 → z_R c s nc S0 T0 S T → z_R c s nc S0 T0 (r_X0_teach_14 c s (z_i w) l r k S) (r_X12_teaches_8 (z_i w) l r k T) := by
  have hsn := z_stn hs
  have hcl := z_cdl hc
  have nl : ¬ l = Int32.ofInt (-1) := by
    intro e
    rw [e] at hl
    exact absurd hl.1 (by decide)
  intro r
  induction r with
  | zero =>
    intro k S T _ h
    rw [r_X0_teach_14, r_X12_teaches_8]
    exact h
  | succ r ih =>
    intro k S T hk h0
    have h := h0.1
    have ek : (z_i k).toInt.toNat = k := z_iin (by omega)
    rw [r_X0_teach_14, r_X12_teaches_8, ek, if_neg nl]
    have wd := h.1.2.2.2.2.1 k (by omega)
    have hb := h.1.2.2.2.2.2.2.1 k (by omega)
    have nd := h.2.2.1 l.toInt.toNat (by omega)
    by_cases ht : T 116 k = 0
    · rw [if_pos ((z_hasG2 h.1 (by omega)).mpr ht), if_pos (by unfold f_X12_isIn; rw [ek, if_pos ht]; decide)]
      exact ih (k + 1) S T (by omega) h0
    · rw [if_neg (fun q => ht ((z_hasG2 h.1 (by omega)).mp q)), wd.1]
      by_cases hin : T 120 k = z_i w
      · rw [if_neg (not_not_intro hin), if_neg (show ¬ f_X12_isIn (z_i k) (z_i w) T = 0 by unfold f_X12_isIn; rw [ek, if_neg ht, if_neg (not_not_intro hin)]; decide), hb.1, nd.1]
        by_cases hh : f_X12_has (T 122 k) l = 0
        · have hh2 := (z_has (h := T 122 k) (l := l) (by omega)).mpr hh
          rw [if_neg (not_not_intro hh2), if_neg (not_not_intro hh)]
          by_cases hd : T 132 l.toInt.toNat &&& (T 122 k ^^^ Int32.ofInt (-1)) = 0
          · rw [if_neg (not_not_intro hd), if_pos hd]
            have lr := z_lrn hc hs h (g := k) (by omega) ht l
            rw [lr.1]
            by_cases hx : f_X12_says (Int32.ofInt 101) (z_s (g_X12_gustStands (z_i k) T) 99 35 l) = 0
            · rw [if_pos hx, if_neg (not_not_intro hx)]
              exact ih (k + 1) _ _ (by omega) (z_R_i h0 lr.2.1 (fun a j q => by unfold z_mc at q; rw [lr.2.2.1 a (by omega) (by omega)]) (fun a j q => by unfold z_mm at q; rw [lr.2.2.2 a j (by omega) (by omega) (by omega)]))
            · rw [if_neg hx, if_pos hx]
              have hb2 := lr.2.1.1.2.2.2.2.2.2.1 k (by omega)
              rw [hb2.1, lr.2.1.2.2.2.2.2]
              exact ih (k + 1) _ _ (by omega) (z_R_i h0 (z_Mo_lea hc hs (z_Mo_hab hc hs lr.2.1 k (z_orR hb2.2 hl))) (fun a j q => by unfold z_mc at q; rw [z_sn (by omega), z_sn (by omega), lr.2.2.1 a (by omega) (by omega)]) (fun a j q => by unfold z_mm at q; rw [z_sn (by omega), z_sn (by omega), lr.2.2.2 a j (by omega) (by omega) (by omega)]))
          · rw [if_pos hd, if_neg hd]
            exact ih (k + 1) S T (by omega) h0
        · have hh2 : ¬ f_X11_isIn (T 122 k) l = 0 := fun q => hh ((z_has (h := T 122 k) (l := l) (by omega)).mp q)
          rw [if_pos hh2, if_pos hh]
          exact ih (k + 1) S T (by omega) h0
      · rw [if_pos hin, if_pos (by unfold f_X12_isIn; rw [ek, if_neg ht, if_pos hin]; decide)]
        exact ih (k + 1) S T (by omega) h0
/-- one is angry with another one -/
theorem z_angry {c s nc : Nat} (hc : z_cd c) (hs : z_st s) {S T : v_Sf} (h : z_Mo c s nc S T) {g j : Nat} (hg : g < 12) (hj : j < 12) (ht : ¬ T 116 g = 0) (hu : ¬ T 116 j = 0) : f_X3_anyHolds c (Int32.ofInt 120) (g_X3_lookAtTwo s (z_i g) (z_i j) S) = f_X12_isAngry (z_i g) (z_i j) T ∧ z_Mo c s nc (g_X3_anyHolds c (Int32.ofInt 120) (g_X3_lookAtTwo s (z_i g) (z_i j) S)) (g_X12_isAngry (z_i g) (z_i j) T) ∧ (f_X12_isAngry (z_i g) (z_i j) T = Int32.ofInt 0 ∨ f_X12_isAngry (z_i g) (z_i j) T = Int32.ofInt 1) ∧ (∀ a, a ≠ 51 → a ≠ c + 3 → g_X3_anyHolds c (Int32.ofInt 120) (g_X3_lookAtTwo s (z_i g) (z_i j) S) a = S a) ∧ ∀ a i, ¬ (a = 99 ∧ 27 ≤ i ∧ i ≤ 40) → a ≠ 114 → a ≠ 115 → g_X12_isAngry (z_i g) (z_i j) T a i = T a i := by
  have hsn := z_stn hs
  have hcl := z_cdl hc
  have ej : (z_i j).toInt.toNat = j := z_iin (by omega)
  have lk := z_lookG hs h.1 h.2.1 hg ht
  have st := h.1.2.1 j hj
  have qr := h.1.2.2.1 j hj hu
  have E1 : g_X3_lookAtTwo s (z_i g) (z_i j) S = z_s (z_s (g_X3_lookAtGust s (z_i g) S) 51 6 (T 117 j)) 51 7 (S (s + 2) j) := by
    have hh : ¬ f_X7_hasGust s (z_i j) (g_X3_lookAtGust s (z_i g) S) = 0 := by
      rw [z_hasG _ hj, lk.1 s (by omega)]
      exact not_not_intro ((h.1.1.2 j hj).mpr hu)
    unfold g_X3_lookAtTwo
    rw [if_neg hh, ej, lk.1 (s + 1) (by omega), lk.1 (s + 2) (by omega), st.1]
  have E2 : f_X12_isAngry (z_i g) (z_i j) T = f_X12_says (Int32.ofInt 120) (z_s (z_s (g_X12_gustStands (z_i g) T) 99 33 (T 117 j)) 99 34 (S (s + 2) j)) ∧ g_X12_isAngry (z_i g) (z_i j) T = g_X12_says (Int32.ofInt 120) (z_s (z_s (g_X12_gustStands (z_i g) T) 99 33 (T 117 j)) 99 34 (S (s + 2) j)) := by
    unfold f_X12_isAngry g_X12_isAngry
    rw [ej, lk.2.1 118 j (by omega), lk.2.1 117 j (by omega)]
    rcases qr with ⟨q1, q2⟩ | ⟨q1, q2, q3⟩
    · rw [if_neg (not_not_intro q2), if_neg (not_not_intro q2), q1]
      exact ⟨rfl, rfl⟩
    · have n : ¬ T 118 j = Int32.ofInt (-1) := by
        intro e
        rw [e] at q2
        exact absurd q2 (by decide)
      rw [if_pos n, if_pos n, q1]
      exact ⟨rfl, rfl⟩
  have f1 : ∀ a, a ≠ 51 → z_s (z_s (g_X3_lookAtGust s (z_i g) S) 51 6 (T 117 j)) 51 7 (S (s + 2) j) a = S a := fun a q => (z_sr q).trans ((z_sr q).trans (lk.1 a q))
  have f2 : ∀ a i, ¬ (a = 99 ∧ 27 ≤ i ∧ i ≤ 40) → z_s (z_s (g_X12_gustStands (z_i g) T) 99 33 (T 117 j)) 99 34 (S (s + 2) j) a i = T a i := fun a i q => (z_sn (by omega)).trans ((z_sn (by omega)).trans (lk.2.1 a i q))
  have hv : z_vw (fun a => f_X1_valueAt a (z_s (z_s (g_X3_lookAtGust s (z_i g) S) 51 6 (T 117 j)) 51 7 (S (s + 2) j))) (fun a => f_X12_valueOf a (z_s (z_s (g_X12_gustStands (z_i g) T) 99 33 (T 117 j)) 99 34 (S (s + 2) j))) := by
    refine z_vw_mk (fun i hi => ?_) ?_
    · by_cases q : i = 7
      · rw [q, z_ss, z_ss]
      · by_cases q2 : i = 6
        · rw [q2, z_sn (by omega), z_ss, z_sn (by omega), z_ss]
        · rw [z_sn (by omega), z_sn (by omega), z_sn (by omega), z_sn (by omega)]
          exact lk.2.2.1 i hi
    · rw [z_sn (by omega), z_sn (by omega), z_sn (by omega), z_sn (by omega), lk.2.2.2.1, lk.2.1 99 60 (by omega)]
  have h1 : z_Mo c s nc (z_s (z_s (g_X3_lookAtGust s (z_i g) S) 51 6 (T 117 j)) 51 7 (S (s + 2) j)) (z_s (z_s (g_X12_gustStands (z_i g) T) 99 33 (T 117 j)) 99 34 (S (s + 2) j)) := z_Mo_f h (fun a q => f1 a (by omega)) (fun j _ => by rw [f1 s (by omega)]) (by rw [f1 75 (by decide)]) (fun a i q => f2 a i (by omega))
  have am := z_holds hc (L := Int32.ofInt 120) h1.2.2.2.1 h1.2.2.2.2.1 hv
  rw [E1, E2.1, E2.2]
  refine ⟨am.1, z_Mo_f h1 (fun a q => am.2.1 a (by omega)) (fun j _ => by rw [am.2.1 s (by omega)]) (by rw [am.2.1 75 (by omega)]) (fun a i q => by rw [am.2.2 a (by omega) (by omega)]), z_any01 _ _ _, fun a q1 q2 => (am.2.1 a q2).trans (f1 a q1), fun a i q1 q2 q3 => by rw [am.2.2 a q2 q3]; exact f2 a i q1⟩
theorem z_odds {c s nc : Nat} (hc : z_cd c) (hs : z_st s) {S T : v_Sf} (h : z_Mo c s nc S T) {g j : Nat} (hg : g < 12) (hj : j < 12) (ht : ¬ T 116 g = 0) (hu : ¬ T 116 j = 0) : f_X3_atOdds c s (z_i g) (z_i j) S = f_X12_doQuarrel (z_i g) (z_i j) T ∧ z_Mo c s nc (g_X3_atOdds c s (z_i g) (z_i j) S) (g_X12_doQuarrel (z_i g) (z_i j) T) ∧ (∀ a, a ≠ 51 → a ≠ c + 3 → g_X3_atOdds c s (z_i g) (z_i j) S a = S a) ∧ ∀ a i, ¬ (a = 99 ∧ 27 ≤ i ∧ i ≤ 40) → a ≠ 114 → a ≠ 115 → g_X12_doQuarrel (z_i g) (z_i j) T a i = T a i := by
  have a1 := z_angry hc hs h hg hj ht hu
  have a2 := z_angry hc hs a1.2.1 hj hg (by rw [a1.2.2.2.2 116 _ (by omega) (by omega) (by omega)]; exact hu) (by rw [a1.2.2.2.2 116 _ (by omega) (by omega) (by omega)]; exact ht)
  unfold f_X3_atOdds g_X3_atOdds f_X12_doQuarrel g_X12_doQuarrel
  rw [a1.1, a2.1]
  by_cases q : f_X12_isAngry (z_i g) (z_i j) T = 0
  · simp only [if_pos q, if_neg (not_not_intro q)]
    refine ⟨?_, a2.2.1, fun a q1 q2 => (a2.2.2.2.1 a q1 q2).trans (a1.2.2.2.1 a q1 q2), fun a i q1 q2 q3 => (a2.2.2.2.2 a i q1 q2 q3).trans (a1.2.2.2.2 a i q1 q2 q3)⟩
    rcases a2.2.2.1 with e | e
    · rw [e]
      rfl
    · rw [e]
      rfl
  · simp only [if_neg q, if_pos q]
    exact ⟨trivial, a1.2.1, a1.2.2.2.1, a1.2.2.2.2⟩
theorem z_quar_in {c s nc : Nat} (hc : z_cd c) (hs : z_st s) {S0 T0 : v_Sf} {k2 : Nat} (hk2 : k2 < 12) {κ κ' : v_Sf → v_Sf} (hκ : ∀ S T, z_R c s nc S0 T0 S T → z_R c s nc S0 T0 (κ S) (κ' T)) : ∀ (r k : Nat) (S T : v_Sf), r + k = 12 → k2 < k → z_R c s nc S0 T0 S T → z_R c s nc S0 T0 (r_X0_quarrelAll_12 c s κ k2 r k S) (r_X12_whistle_12 κ' k2 r k T) := by
  have hsn := z_stn hs
  have hcl := z_cdl hc
  have e2 : (z_i k2).toInt.toNat = k2 := z_iin (by omega)
  intro r
  induction r with
  | zero =>
    intro k S T _ _ h
    rw [r_X0_quarrelAll_12, r_X12_whistle_12]
    exact hκ S T h
  | succ r ih =>
    intro k S T hk hk12 h0
    have h := h0.1
    have ek : (z_i k).toInt.toNat = k := z_iin (by omega)
    rw [r_X0_quarrelAll_12, r_X12_whistle_12, ek, e2]
    by_cases ht : T 116 k2 = 0
    · rw [if_pos ((z_hasG2 h.1 hk2).mpr ht), if_pos ht]
      exact ih (k + 1) S T (by omega) (by omega) h0
    · rw [if_neg (fun q => ht ((z_hasG2 h.1 hk2).mp q)), if_neg ht]
      by_cases hu : T 116 k = 0
      · rw [if_pos ((z_hasG2 h.1 (by omega)).mpr hu), if_pos hu]
        exact ih (k + 1) S T (by omega) (by omega) h0
      · rw [if_neg (fun q => hu ((z_hasG2 h.1 (by omega)).mp q)), if_neg hu, (h.1.2.2.2.2.1 k2 hk2).1, (h.1.2.2.2.2.1 k (by omega)).1]
        by_cases hw : T 120 k2 = T 120 k
        · rw [if_neg (not_not_intro hw), if_neg (not_not_intro hw)]
          have od := z_odds hc hs h hk2 (show k < 12 by omega) ht hu
          rw [od.1]
          by_cases hx : f_X12_doQuarrel (z_i k2) (z_i k) T = 0
          · rw [if_pos hx, if_neg (not_not_intro hx)]
            exact ih (k + 1) _ _ (by omega) (by omega) (z_R_i h0 od.2.1 (fun a j q => by unfold z_mc at q; rw [od.2.2.1 a (by omega) (by omega)]) (fun a j q => by unfold z_mm at q; rw [od.2.2.2 a j (by omega) (by omega) (by omega)]))
          · rw [if_neg hx, if_pos hx]
            generalize g_X3_atOdds c s (z_i k2) (z_i k) S = S1 at od ⊢
            generalize g_X12_doQuarrel (z_i k2) (z_i k) T = T1 at od ⊢
            have m1 := od.2.1
            have e13 : S1 s 13 = T1 99 62 := m1.1.2.2.2.2.2.2.2.2.2.2.2.2
            have t1 := m1.1.2.2.2.1 k2 hk2
            have m2 : z_Mo c s nc (z_s S1 s 13 (T1 99 62 + Int32.ofInt 1)) (z_s (z_s T1 99 62 (T1 99 62 + Int32.ofInt 1)) 99 72 ((T1 99 72) + Int32.ofInt 1)) := z_Mo_f (z_Mo_whi hc hs m1 (v := T1 99 62 + Int32.ofInt 1)) (fun _ _ => rfl) (fun _ _ => rfl) rfl (fun a j q => z_sn (by omega))
            have w1 := z_tempN t1.2
            have m3 := z_Mo_tem hc hs m2 k2 w1.2
            have t2 := m3.1.2.2.2.1 k (by omega)
            have w2 := z_tempN t2.2
            rw [e13, t1.1, w1.1, t2.1, w2.1]
            exact ih (k + 1) _ _ (by omega) (by omega) (z_R_i h0 (z_Mo_tem hc hs m3 k w2.2) (fun a j q => by unfold z_mc at q; rw [z_sn (by omega), z_sn (by omega), z_sn (by omega), od.2.2.1 a (by omega) (by omega)]) (fun a j q => by unfold z_mm at q; rw [z_sn (by omega), z_sn (by omega), z_sn (by omega), z_sn (by omega), od.2.2.2 a j (by omega) (by omega) (by omega)]))
        · rw [if_pos hw, if_pos hw]
          exact ih (k + 1) S T (by omega) (by omega) h0
theorem z_quar_l {c s nc : Nat} (hc : z_cd c) (hs : z_st s) {S0 T0 : v_Sf} : ∀ (r k : Nat) (S T : v_Sf), r + k = 12 → z_R c s nc S0 T0 S T → z_R c s nc S0 T0 (r_X0_quarrelAll_2 c s r k S) (r_X12_whistle_2 r k T) := by
  intro r
  induction r with
  | zero =>
    intro k S T _ h
    rw [r_X0_quarrelAll_2, r_X12_whistle_2]
    exact h
  | succ r ih =>
    intro k S T hk h
    rw [r_X0_quarrelAll_2, r_X12_whistle_2]
    exact z_quar_in hc hs (k2 := k) (by omega) (fun S T h => ih (k + 1) S T (by omega) h) _ _ _ _ (by omega) (by omega) h
end PrtS43r
section PrtS43s
/-! months: wards, and nurses that are ill -/
theorem z_remE {x y : Int32} (h1 : 0 ≤ x.toInt) (h2 : 1 ≤ y.toInt) : (x - x / y * y).toInt = x.toInt % y.toInt := by
  obtain ⟨e1, n1, n2⟩ := v_div_e (x := x) (y := y) h1 h2
  have t0 : x.toInt.tmod y.toInt = x.toInt - y.toInt * x.toInt.tdiv y.toInt := Int.tmod_def _ _
  have t1 : 0 ≤ x.toInt.tmod y.toInt := Int.tmod_nonneg _ h1
  have n3 : 0 ≤ y.toInt * x.toInt.tdiv y.toInt := Int.mul_nonneg (by omega) n1
  have r1 := q_rng x
  have em : (x / y * y).toInt = y.toInt * x.toInt.tdiv y.toInt := by
    rw [← q_of (x / y), ← q_of y, ← Int32.ofInt_mul, q_of, e1, Int.mul_comm]
    exact q_ofr (by omega) (by omega)
  have es : (x - x / y * y).toInt = x.toInt.tmod y.toInt := by
    rw [← q_of x, ← q_of (Int32.ofInt x.toInt / y * y), ← Int32.ofInt_sub, q_of, em, ← t0]
    exact q_ofr (by omega) (by omega)
  rw [es, Int.tmod_eq_emod_of_nonneg h1]
noncomputable def z_mcB (c b s a j : Nat) : Prop := z_mc c s a j ∨ a = s + 8 ∨ a = s + 9 ∨ a = s ∧ j = 14 ∨ a = 75 ∨ a = b + 3
noncomputable def z_mmB (a j : Nat) : Prop := z_mm a j ∨ a = 99 ∧ j = 2 ∨ a = 128 ∨ a = 131
noncomputable def z_RB (c b s nc : Nat) (S0 T0 S T : v_Sf) : Prop := z_Mo c s nc S T ∧ z_PX s S T ∧ z_fj (z_mcB c b s) S0 S ∧ z_fj z_mmB T0 T
theorem z_PX_f {s : Nat} {S T S' T' : v_Sf} (h : z_PX s S T) (f1 : S' (s + 9) = S (s + 9)) (f2 : S' s 14 = S s 14) (g1 : T' 128 = T 128) (g2 : T' 127 = T 127) (g3 : T' 99 2 = T 99 2) : z_PX s S' T' := by
  obtain ⟨a, b, c⟩ := h
  refine ⟨by rw [f1, g1]; exact a, fun w hw => by rw [g1, g2]; exact b w hw, by rw [f2, g3]; exact c⟩
theorem z_R_r {c s nc : Nat} {S T : v_Sf} (h : z_Mo c s nc S T) : z_R c s nc S T S T := ⟨h, fun _ _ _ => rfl, fun _ _ _ => rfl⟩
theorem z_RB_in {c b s nc : Nat} (hc : z_cd c) (hs : z_st s) {S0 T0 S T S' T' : v_Sf} (h : z_RB c b s nc S0 T0 S T) (h1 : z_R c s nc S T S' T') : z_RB c b s nc S0 T0 S' T' := by
  have hsn := z_stn hs
  have hcl := z_cdl hc
  obtain ⟨a, b1, d, e⟩ := h
  obtain ⟨a1, f1, f2⟩ := h1
  refine ⟨a1, z_PX_f b1 (funext fun j => f1 _ _ (by unfold z_mc; omega)) (f1 _ _ (by unfold z_mc; omega)) (funext fun j => f2 _ _ (by unfold z_mm; omega)) (funext fun j => f2 _ _ (by unfold z_mm; omega)) (f2 _ _ (by unfold z_mm; omega)), fun a j q => ?_, fun a j q => ?_⟩
  · rw [f1 a j (fun n => q (Or.inl n))]
    exact d a j q
  · rw [f2 a j (fun n => q (Or.inl n))]
    exact e a j q
theorem z_weaken_ok {c b s nc : Nat} (hc : z_cd c) (hs : z_st s) {S0 T0 S T : v_Sf} (h : z_RB c b s nc S0 T0 S T) : z_RB c b s nc S0 T0 (g_X0_weaken c s S) (g_X12_weakens T) := by
  have mo := h.1.1.2.2.2.2.2.2.2.2.2.2.1
  have lp := z_RB_in hc hs h (z_weaken_l hc hs 12 0 S T (by omega) (z_R_r h.1))
  have r := z_remE (x := T 99 60) (y := Int32.ofInt 12) mo.2.1 (by decide)
  rw [show (Int32.ofInt 12).toInt = 12 from rfl] at r
  unfold g_X0_weaken F_X0_weaken g_X12_weakens F_X12_weakens
  rw [mo.1]
  generalize T 99 60 - T 99 60 / Int32.ofInt 12 * Int32.ofInt 12 = m at r
  by_cases q1 : m = Int32.ofInt 11
  · rw [if_pos q1, if_pos q1]
    exact lp
  · rw [if_neg q1, if_neg q1]
    by_cases q2 : m = 0
    · rw [if_pos q2, if_pos (by rw [q2]; decide)]
      exact lp
    · rw [if_neg q2]
      by_cases q3 : m = Int32.ofInt 1
      · rw [if_pos q3, if_pos (by rw [q3]; decide)]
        exact lp
      · rw [if_neg q3, if_neg]
        · exact h
        · intro n
          have n' := z_leI2.mp n
          rw [z_n1] at n'
          have m0 : 0 ≤ m.toInt := by omega
          have cs : m.toInt = 0 ∨ m.toInt = 1 := by omega
          rcases cs with e | e
          · exact q2 (z_inj2 e)
          · exact q3 (z_inj2 e)
/-- the place in a timetable goes on -/
theorem z_place {s k : Nat} (hk : k < 6) {S T : v_Sf} (hw : z_Wa S T) (hp : z_PX s S T) : f_X9_placeAfter (33 + 2 * k) (S (s + 9) k) S = (if T 127 k ≤ 0 then T 128 k else (T 128 k + Int32.ofInt 1) - (T 128 k + Int32.ofInt 1) / T 127 k * T 127 k) ∧ (0 ≤ (f_X9_placeAfter (33 + 2 * k) (S (s + 9) k) S).toInt ∧ (f_X9_placeAfter (33 + 2 * k) (S (s + 9) k) S).toInt ≤ 47) ∧ (f_X9_placeAfter (33 + 2 * k) (S (s + 9) k) S = 0 ∨ (f_X9_placeAfter (33 + 2 * k) (S (s + 9) k) S).toInt < (T 127 k).toInt) := by
  obtain ⟨w1, w2, _⟩ := hw k hk
  have p1 := hp.1 k hk
  have p2 := hp.2.1 k hk
  have e0 : (0 : Int32).toInt = 0 := rfl
  have e1 : (T 128 k + Int32.ofInt 1).toInt = (T 128 k).toInt + 1 := z_addI (by rw [z_n1]; omega)
  unfold f_X9_placeAfter
  rw [p1.1, w1]
  by_cases g : T 127 k ≤ T 128 k + Int32.ofInt 1
  · have g' := z_leI2.mp g
    rw [if_pos g]
    refine ⟨?_, by decide, Or.inl (by decide)⟩
    by_cases q : T 127 k ≤ 0
    · have q' := z_leI2.mp q
      rw [if_pos q]
      rcases p2 with p2 | p2
      · rw [p2]
        rfl
      · omega
    · have q' : ¬ (T 127 k).toInt ≤ (0 : Int32).toInt := fun n => q (z_leI2.mpr n)
      rw [if_neg q]
      refine z_inj2 ?_
      rw [z_remE (by omega) (by omega), e1, z_n0]
      rcases p2 with p2 | p2
      · rw [p2] at e1 g' ⊢
        have : (T 127 k).toInt = 1 := by omega
        rw [this]
        rfl
      · have : (T 128 k).toInt + 1 = (T 127 k).toInt := by omega
        rw [this, Int.emod_self]
  · have g' : ¬ (T 127 k).toInt ≤ (T 128 k + Int32.ofInt 1).toInt := fun n => g (z_leI2.mpr n)
    rw [if_neg g]
    refine ⟨?_, by omega, Or.inr (by omega)⟩
    rw [if_neg (by rw [z_leI2]; omega)]
    refine z_inj2 ?_
    rw [z_remE (by omega) (by omega), e1, Int.emod_eq_of_lt (by omega) (by omega)]
theorem z_lesson {s k : Nat} (hk : k < 6) {S T : v_Sf} (hw : z_Wa S T) (hp : z_PX s S T) : z_ls (f_X9_lessonAt (33 + 2 * k) (S (s + 9) k) S) (f_X12_lessonOf (z_i k) T) := by
  obtain ⟨w1, w2, _, _, _, _, w7⟩ := hw k hk
  have p1 := hp.1 k hk
  have p2 := hp.2.1 k hk
  have e0 : (0 : Int32).toInt = 0 := rfl
  have ek : (z_i k).toInt.toNat = k := z_iin (by omega)
  unfold f_X9_lessonAt f_X12_lessonOf
  rw [p1.1, w1, ek, if_neg (by rw [z_ltI2]; omega)]
  by_cases g : T 127 k ≤ T 128 k
  · have g' := z_leI2.mp g
    have z : T 127 k = 0 := by
      refine z_inj2 ?_
      rcases p2 with p2 | p2
      · rw [p2] at g'
        omega
      · omega
    rw [if_pos g, if_neg (not_not_intro z)]
    exact Or.inl ⟨rfl, rfl⟩
  · have g' : ¬ (T 127 k).toInt ≤ (T 128 k).toInt := fun n => g (z_leI2.mpr n)
    rw [if_neg g, if_pos (by intro n; rw [n] at g'; omega)]
    have e : ((Int32.ofInt 48) * (z_i k) + T 128 k).toInt.toNat = 48 * k + (T 128 k).toInt.toNat := by
      have e3 : (Int32.ofInt 48) * (z_i k) = z_i (48 * k) := by
        unfold z_i
        rw [← Int32.ofInt_mul]
        rfl
      rw [e3, ← z_ofN p1.2.1, z_iadd, z_iin (by omega)]
      rw [z_iin (by omega)]
    rw [e]
    exact w7 _ (by omega)
theorem z_works {s k : Nat} (hs : z_st s) (hk : k < 6) {S T : v_Sf} (h : z_St s S T) (hw : z_Wa S T) : (f_X7_works s (T 125 k) S = 0 ↔ f_X12_isWell (z_i k) T = 0) ∧ (¬ f_X12_isWell (z_i k) T = 0 → 0 ≤ (T 125 k).toInt) := by
  obtain ⟨_, _, _, _, _, w6, _⟩ := hw k hk
  have e0 : (0 : Int32).toInt = 0 := rfl
  have ek : (z_i k).toInt.toNat = k := z_iin (by omega)
  have nu := h.2.2.2.2.2.2.2.1
  have il := h.2.2.2.2.2.2.2.2.2.1
  unfold f_X7_works f_X7_hasNurse f_X12_isWell f_X12_isThere
  rw [ek]
  by_cases g : (T 125 k).toInt < 0
  · rw [if_pos (show T 125 k < 0 by rw [z_ltI2]; omega), if_pos (show Int32.ofInt 0 = 0 by decide), if_pos (show z_in (T 125 k) 0 4 = 0 by unfold z_in; rw [z_pb0, decide_eq_false_iff_not]; omega), if_pos (show Int32.ofInt 0 = 0 by decide)]
    exact ⟨Iff.rfl, fun n => absurd rfl n⟩
  · obtain ⟨n, hn, e⟩ : ∃ n, n < 5 ∧ T 125 k = z_i n := ⟨(T 125 k).toInt.toNat, by omega, (z_ofN (by omega)).symm⟩
    have en : (z_i n).toInt.toNat = n := z_iin (by omega)
    have nb := nu.2 n hn
    unfold z_bit at nb
    rw [e, if_neg (show ¬ z_i n < 0 by rw [show (0 : Int32) = z_i 0 from rfl, z_ilt (by omega) (by omega)]; omega), if_neg (show ¬ Int32.ofInt 5 ≤ z_i n by rw [show Int32.ofInt 5 = z_i 5 from rfl, z_ile (by omega) (by omega)]; omega), if_neg (show ¬ z_in (z_i n) 0 4 = 0 by unfold z_in; rw [z_pb0, decide_eq_false_iff_not, z_it3 (by omega)]; omega), en, (il n hn).1]
    refine ⟨?_, fun _ => by rw [z_it3 (by omega)]; omega⟩
    by_cases q : T 129 n = 0
    · have q2 : (S s 7 >>> (z_i n &&& 31)) &&& Int32.ofInt 1 = 0 := Classical.byContradiction (fun m => nb.mp m q)
      rw [if_pos q2, if_pos q]
    · have q2 : ¬ (S s 7 >>> (z_i n &&& 31)) &&& Int32.ofInt 1 = 0 := nb.mpr q
      rw [if_neg q2, if_neg q]
/-- one ward's month -/
theorem z_ward_l {c b s nc : Nat} (hc : z_cd c) (hs : z_st s) {S0 T0 : v_Sf} : ∀ (r k : Nat) (S T : v_Sf), r + k = 6 → z_RB c b s nc S0 T0 S T → ∃ S', r_X0_pass_7 c b s r k S = r_X0_pass_114 c b s 6 0 (g_X0_recover s (g_X0_quarrelAll c s (g_X0_breakToys c s S'))) ∧ z_RB c b s nc S0 T0 S' (r_X12_wardsGo_2 r k T) := by
  have hsn := z_stn hs
  have hcl := z_cdl hc
  intro r
  induction r with
  | zero =>
    intro k S T _ h
    refine ⟨S, ?_, ?_⟩
    · rw [r_X0_pass_7]
    · rw [r_X12_wardsGo_2]
      exact h
  | succ r ih =>
    intro k S T hk h
    have ek : (z_i k).toInt.toNat = k := z_iin (by omega)
    obtain ⟨hM, hP, hF, hG⟩ := h
    have wa := hM.2.1 k (by omega)
    have pl := z_place (s := s) (show k < 6 by omega) hM.2.1 hP
    have ls := z_lesson (s := s) (show k < 6 by omega) hM.2.1 hP
    have wk := z_works hs (show k < 6 by omega) hM.1 hM.2.1
    generalize hv : f_X9_placeAfter (33 + 2 * k) (S (s + 9) k) S = v at *
    generalize hl : f_X9_lessonAt (33 + 2 * k) (S (s + 9) k) S = l at *
    rw [r_X0_pass_7, r_X12_wardsGo_2, ek, hv, hl, wa.2.2.2.2.1, wa.2.2.2.1]
    -- the class's place is written first
    have m1 : z_Mo c s nc (z_s S (s + 9) k v) T := z_Mo_f hM (fun a q => z_sr (by omega)) (fun j _ => z_sn (by omega)) (z_sn (by omega)) (fun _ _ _ => rfl)
    have ew : f_X7_works s (T 125 k) (z_s S (s + 9) k v) = f_X7_works s (T 125 k) S := by
      unfold f_X7_works f_X7_hasNurse
      rw [z_sn (by omega), z_sn (by omega)]
    -- what is owed when the ward is through
    have fin : ∀ S2 T2, z_R c s nc (z_s S (s + 9) k v) T S2 T2 → z_RB c b s nc S0 T0 S2 (if T2 127 k ≤ 0 then T2 else z_s T2 128 k ((T2 128 k + Int32.ofInt 1) - (T2 128 k + Int32.ofInt 1) / T2 127 k * T2 127 k)) := by
      intro S2 T2 hR
      obtain ⟨r1, r2, r3⟩ := hR
      have e127 : T2 127 = T 127 := funext fun j => r3 _ _ (by unfold z_mm; omega)
      have e128 : T2 128 = T 128 := funext fun j => r3 _ _ (by unfold z_mm; omega)
      have e2 : T2 99 2 = T 99 2 := r3 _ _ (by unfold z_mm; omega)
      have s9 : S2 (s + 9) = z_s S (s + 9) k v (s + 9) := funext fun j => r2 _ _ (by unfold z_mc; omega)
      have s14 : S2 s 14 = S s 14 := by
        rw [r2 _ _ (by unfold z_mc; omega), z_sn (by omega)]
      rw [e127, e128]
      have key : ∀ T3 : v_Sf, (∀ a j, ¬ (a = 128 ∧ j = k) → T3 a j = T2 a j) → T3 128 k = v → z_RB c b s nc S0 T0 S2 T3 := by
        intro T3 f3 g3
        refine ⟨z_Mo_f r1 (fun _ _ => rfl) (fun _ _ => rfl) rfl (fun a j q => f3 a j (by omega)), ⟨?_, ?_, ?_⟩, fun a j q => ?_, fun a j q => ?_⟩
        · intro w hw
          rw [s9]
          by_cases q : w = k
          · rw [q, z_ss, g3]
            exact ⟨rfl, pl.2.1⟩
          · rw [z_sn (by omega), f3 _ _ (by omega), e128]
            exact hP.1 w hw
        · intro w hw
          rw [f3 127 w (by omega), e127]
          by_cases q : w = k
          · rw [q, g3]
            exact pl.2.2
          · rw [f3 _ _ (by omega), e128]
            exact hP.2.1 w hw
        · rw [f3 99 2 (by omega), e2, s14]
          exact hP.2.2
        · have q1 : ¬ z_mc c s a j := fun n => q (Or.inl n)
          have q2 : ¬ a = s + 9 := fun n => q (Or.inr (Or.inr (Or.inl n)))
          rw [r2 a j q1, z_sn (by omega)]
          exact hF a j q
        · have q1 : ¬ z_mm a j := fun n => q (Or.inl n)
          have q2 : ¬ a = 128 := fun n => q (Or.inr (Or.inr (Or.inl n)))
          rw [f3 a j (by omega), r3 a j q1]
          exact hG a j q
      by_cases q : T 127 k ≤ 0
      · rw [if_pos q]
        refine key T2 (fun _ _ _ => rfl) ?_
        rw [e128, pl.1, if_pos q]
      · rw [if_neg q]
        refine key _ (fun a j n => z_sn n) ?_
        rw [z_ss, pl.1, if_neg q]
    by_cases g : f_X12_isWell (z_i k) T = 0
    · rw [ew, if_pos (wk.1.mpr g), if_pos g]
      have f := fin _ _ (z_R_r m1)
      by_cases q : T 127 k ≤ 0
      · rw [if_pos q] at f ⊢
        exact ih (k + 1) _ _ (by omega) f
      · rw [if_neg q] at f ⊢
        exact ih (k + 1) _ _ (by omega) f
    · rw [ew, if_neg (fun n => g (wk.1.mp n)), if_neg g]
      have fd := z_feed_l hc hs (show k < 6 by omega) 12 0 _ T (T 124 k) (by omega) rfl (z_R_r m1)
      have fd' : z_R c s nc (z_s S (s + 9) k v) T (g_X0_strengthen c s (z_i k) (T 124 k) (z_s S (s + 9) k v)) (g_X12_feeds (z_i k) T) := fd
      have tc : z_R c s nc (z_s S (s + 9) k v) T (g_X0_teach c s (z_i k) l (g_X0_strengthen c s (z_i k) (T 124 k) (z_s S (s + 9) k v))) (g_X12_teaches (z_i k) (g_X12_feeds (z_i k) T)) := by
        have el : f_X12_lessonOf (z_i k) (g_X12_feeds (z_i k) T) = f_X12_lessonOf (z_i k) T := by
          have r3 := fd'.2.2
          unfold f_X12_lessonOf
          rw [show g_X12_feeds (z_i k) T 127 = T 127 from funext fun j => r3 _ _ (by unfold z_mm; omega), show g_X12_feeds (z_i k) T 128 = T 128 from funext fun j => r3 _ _ (by unfold z_mm; omega), show g_X12_feeds (z_i k) T 126 = T 126 from funext fun j => r3 _ _ (by unfold z_mm; omega)]
        unfold g_X0_teach F_X0_teach g_X12_teaches F_X12_teaches
        rw [el]
        rcases ls with ⟨q1, q2⟩ | ⟨q1, q2, q3⟩
        · rw [q1, q2, if_pos (by decide), show (12 - 0 : Nat) = 11 + 1 from rfl, r_X12_teaches_8, if_pos rfl]
          exact fd'
        · rw [← q1] at q2 q3 ⊢
          rw [if_neg (by rw [z_ltI2]; have e0 : (0 : Int32).toInt = 0 := rfl; omega), if_pos (by rw [z_ltI2]; have e0 : (Int32.ofInt 10).toInt = 10 := rfl; omega)]
          exact z_teach_l hc hs (show k < 6 by omega) ⟨q2, q3⟩ 12 0 _ _ (by omega) fd'
      have f := fin _ _ tc
      by_cases q : g_X12_teaches (z_i k) (g_X12_feeds (z_i k) T) 127 k ≤ 0
      · rw [if_pos q] at f ⊢
        exact ih (k + 1) _ _ (by omega) f
      · rw [if_neg q] at f ⊢
        exact ih (k + 1) _ _ (by omega) f
/-- the ill ones get better -/
theorem z_rec_l {c b s nc : Nat} (hc : z_cd c) (hs : z_st s) {S0 T0 : v_Sf} : ∀ (r k : Nat) (S T : v_Sf), r + k = 5 → z_RB c b s nc S0 T0 S T → ∃ T', r_X12_nursesGo_2 r k T = r_X12_nursesGo_34 6 0 T' ∧ z_RB c b s nc S0 T0 (r_X0_recover_2 s r k S) T' := by
  have hsn := z_stn hs
  have hcl := z_cdl hc
  intro r
  induction r with
  | zero =>
    intro k S T _ h
    refine ⟨T, by rw [r_X12_nursesGo_2], ?_⟩
    rw [r_X0_recover_2]
    exact h
  | succ r ih =>
    intro k S T hk h
    have ek : (z_i k).toInt.toNat = k := z_iin (by omega)
    obtain ⟨hM, hP, hF, hG⟩ := h
    have il := hM.1.2.2.2.2.2.2.2.2.2.1 k (by omega)
    have e0 : (0 : Int32).toInt = 0 := rfl
    have e1 : (T 131 k - Int32.ofInt 1).toInt = (T 131 k).toInt - 1 := z_subI (by rw [z_n1]; omega)
    have mx := z_maxI (Int32.ofInt 0) (T 131 k - Int32.ofInt 1)
    rw [z_n0, e1] at mx
    rw [r_X0_recover_2, r_X12_nursesGo_2, ek, il.1]
    have key : ∀ v T3, z_max (Int32.ofInt 0) (T 131 k - Int32.ofInt 1) = v → T3 = z_s T 131 k v → z_RB c b s nc S0 T0 (z_s S (s + 8) k v) T3 := by
      intro v T3 hv h3
      rw [h3]
      have hv' : 0 ≤ v.toInt ∧ v.toInt ≤ 10 := by
        rw [← hv, mx]
        omega
      exact ⟨z_Mo_ill hc hs hM k hv', z_PX_f hP (z_sr (by omega)) (z_sn (by omega)) (z_sr (by decide)) (z_sr (by decide)) (z_sn (by omega)), fun a j q => (z_sn (by unfold z_mcB at q; omega)).trans (hF a j q), fun a j q => (z_sn (by unfold z_mmB at q; omega)).trans (hG a j q)⟩
    by_cases q : T 131 k ≤ 0
    · have q' := z_leI2.mp q
      rw [if_pos q]
      have z : z_max (Int32.ofInt 0) (T 131 k - Int32.ofInt 1) = T 131 k := z_inj2 (by rw [mx]; omega)
      rw [z]
      exact ih (k + 1) _ _ (by omega) (key _ _ z (z_s_id rfl).symm)
    · have q' : ¬ (T 131 k).toInt ≤ (0 : Int32).toInt := fun n => q (z_leI2.mpr n)
      rw [if_neg q]
      have z : z_max (Int32.ofInt 0) (T 131 k - Int32.ofInt 1) = T 131 k - Int32.ofInt 1 := z_inj2 (by rw [mx, e1]; omega)
      rw [z]
      exact ih (k + 1) _ _ (by omega) (key _ _ z rfl)
end PrtS43s
section PrtS43t
/-! months: who is in a ward, who falls ill -/
theorem z_bcb_all : ∀ X : Fin 4096, f_J6_bitCount_0f7a4 (z_i X.val) = z_i (v_popN 12 X.val) := fun X => (z_bcq X.isLt).trans (congrArg z_i (z_bcp X.isLt))
theorem z_nbs_all : ∀ k : Fin 12, ∀ X : Fin (2 ^ k.val), v_popN 12 (X.val + 2 ^ k.val) = v_popN 12 X.val + 1 := fun k X => z_pad k.val 12 X.val k.isLt X.isLt
theorem z_nbz_all : ∀ X : Fin 4096, v_popN 12 X.val ≤ 12 ∧ (v_popN 12 X.val = 0 ↔ X.val = 0) := fun X => by
  refine ⟨v_popN_f 12 X.val, fun h => ?_, fun h => ?_⟩
  · rcases Nat.eq_zero_or_pos X.val with q | q
    · exact q
    · have := v_popN_pos 12 X.val X.isLt q
      omega
  · rw [h]
    exact z_pz 12
theorem z_bcs_all : ∀ k : Fin 12, ∀ X : Fin (2 ^ k.val), f_J6_bitCount_0f7a4 (z_i (X.val + 2 ^ k.val)) = f_J6_bitCount_0f7a4 (z_i X.val) + Int32.ofInt 1 := fun k X => by
  have p : 2 ^ k.val ≤ 2 ^ 11 := Nat.pow_le_pow_right (by decide) (by omega)
  have hX := X.isLt
  have a : f_J6_bitCount_0f7a4 (z_i (X.val + 2 ^ k.val)) = z_i (v_popN 12 (X.val + 2 ^ k.val)) := z_bcb_all ⟨X.val + 2 ^ k.val, by omega⟩
  have b : f_J6_bitCount_0f7a4 (z_i X.val) = z_i (v_popN 12 X.val) := z_bcb_all ⟨X.val, by omega⟩
  rw [a, b, z_nbs_all k X, z_i1]
theorem z_bcz_all : ∀ X : Fin 4096, decide (f_J6_bitCount_0f7a4 (z_i X.val) = 0) = decide (X.val = 0) := fun X => by
  obtain ⟨l, e⟩ := z_nbz_all X
  rw [z_bcb_all X]
  refine decide_eq_decide.mpr ⟨fun m => e.mp ?_, fun m => by rw [e.mpr m]; rfl⟩
  have := congrArg (fun z => z.toInt.toNat) m
  simp only [z_iin (show v_popN 12 X.val < 2147483648 by omega)] at this
  exact this
theorem z_ors_all : ∀ k : Fin 12, ∀ X : Fin (2 ^ k.val), z_i X.val ||| (Int32.ofInt 1 <<< (z_i k.val &&& 31)) = z_i (X.val + 2 ^ k.val) := fun k X => by
  rw [z_bone k, z_bor]
  refine congrArg z_i ?_
  have h := Nat.two_pow_add_eq_or_of_lt X.isLt 1
  simp only [Nat.mul_one] at h
  show X.val ||| 2 ^ k.val = X.val + 2 ^ k.val
  rw [Nat.or_comm, ← h, Nat.add_comm]
theorem z_addz (x : Int32) : x + Int32.ofInt 0 = x := by
  rw [show Int32.ofInt 0 = 0 by decide, Int32.add_zero]
theorem z_many {s : Nat} {S T : v_Sf} (h1 : z_told 12 4095 (S s 0) (T 116)) (h2 : z_co 12 (S (s + 4)) (T 120) 0 5) (w : Int32) : ∃ X, X < 4096 ∧ f_X7_inWard s w S = z_i X ∧ f_X12_manyIn w T = f_J6_bitCount_0f7a4 (z_i X) := by
  have lp : ∀ (r k X : Nat), r + k = 12 → X < 2 ^ k → ∃ Y, Y < 4096 ∧ r_X7_inWard_4 s w S r k (z_i X) = z_i Y ∧ r_X12_manyIn_4 w T r k (f_J6_bitCount_0f7a4 (z_i X)) = f_J6_bitCount_0f7a4 (z_i Y) := by
    intro r
    induction r with
    | zero =>
      intro k X hk hX
      obtain rfl : k = 12 := by omega
      refine ⟨X, hX, ?_, ?_⟩
      · rw [r_X7_inWard_4]
      · rw [r_X12_manyIn_4]
    | succ r ih =>
      intro k X hk hX
      have ek : (z_i k).toInt.toNat = k := z_iin (by omega)
      have hX2 : X < 2 ^ (k + 1) := by
        rw [Nat.pow_succ]
        omega
      have hb : (f_X7_hasGust s (z_i k) S = 0) ↔ T 116 k = 0 := by
        rw [z_hasG S (by omega), h1.2 k (by omega)]
        exact Classical.not_not
      rw [r_X7_inWard_4, r_X12_manyIn_4, ek, (h2 k (by omega)).1]
      by_cases ht : T 116 k = 0
      · rw [if_pos (hb.mpr ht), if_pos (by unfold f_X12_isIn; rw [ek, if_pos ht]; decide), z_addz]
        exact ih (k + 1) X (by omega) hX2
      · rw [if_neg (fun q => ht (hb.mp q))]
        by_cases hin : T 120 k = w
        · rw [if_neg (not_not_intro hin), if_neg (by unfold f_X12_isIn; rw [ek, if_neg ht, if_neg (not_not_intro hin)]; decide)]
          have a1 := z_ors_all ⟨k, by omega⟩ ⟨X, hX⟩
          have a2 := z_bcs_all ⟨k, by omega⟩ ⟨X, hX⟩
          simp only at a1 a2
          rw [a1, ← a2]
          exact ih (k + 1) (X + 2 ^ k) (by omega) (by rw [Nat.pow_succ]; omega)
        · rw [if_pos hin, if_pos (by unfold f_X12_isIn; rw [ek, if_neg ht, if_pos hin]; decide), z_addz]
          exact ih (k + 1) X (by omega) hX2
  obtain ⟨Y, y1, y2, y3⟩ := lp 12 0 0 (by omega) (by decide)
  refine ⟨Y, y1, y2, ?_⟩
  rw [← y3]
  rfl
theorem z_many0 {s : Nat} {S T : v_Sf} (h1 : z_told 12 4095 (S s 0) (T 116)) (h2 : z_co 12 (S (s + 4)) (T 120) 0 5) (w : Int32) : (f_X7_inWard s w S = 0 ↔ f_X12_manyIn w T = 0) ∧ f_J6_bitCount_0f7a4 (f_X7_inWard s w S) = f_X12_manyIn w T := by
  obtain ⟨X, hX, e1, e2⟩ := z_many h1 h2 w
  rw [e1, e2]
  refine ⟨?_, rfl⟩
  have := decide_eq_decide.mp (z_bcz_all ⟨X, hX⟩)
  simp only at this
  rw [this, show (0 : Int32) = z_i 0 from rfl, z_inj (by omega) (by omega)]
theorem z_inW_c {s : Nat} {S S' : v_Sf} (h0 : S' s 0 = S s 0) (h4 : S' (s + 4) = S (s + 4)) (w : Int32) : f_X7_inWard s w S' = f_X7_inWard s w S := by
  have lp : ∀ (r k : Nat) (x : Int32), r_X7_inWard_4 s w S' r k x = r_X7_inWard_4 s w S r k x := by
    intro r
    induction r with
    | zero =>
      intro k x
      rw [r_X7_inWard_4, r_X7_inWard_4]
    | succ r ih =>
      intro k x
      have e : f_X7_hasGust s (z_i k) S' = f_X7_hasGust s (z_i k) S := by
        unfold f_X7_hasGust
        rw [h0]
      rw [r_X7_inWard_4, r_X7_inWard_4, e, h4, ih, ih]
  exact lp _ _ _
theorem z_man_c {T T' : v_Sf} (h0 : T' 116 = T 116) (h4 : T' 120 = T 120) (w : Int32) : f_X12_manyIn w T' = f_X12_manyIn w T := by
  have lp : ∀ (r k : Nat) (x : Int32), r_X12_manyIn_4 w T' r k x = r_X12_manyIn_4 w T r k x := by
    intro r
    induction r with
    | zero =>
      intro k x
      rw [r_X12_manyIn_4, r_X12_manyIn_4]
    | succ r ih =>
      intro k x
      have e : f_X12_isIn (z_i k) w T' = f_X12_isIn (z_i k) w T := by
        unfold f_X12_isIn
        rw [h0, h4]
      rw [r_X12_manyIn_4, r_X12_manyIn_4, e, ih, ih]
  exact lp _ _ _
theorem z_look90 {s : Nat} (hs : z_st s) (x : Int32) : ∀ (r k : Nat) (S : v_Sf), (∀ a j, ¬ (a = 51 ∧ 11 ≤ j ∧ j ≤ 14) → r_X3_lookAtWard_90 s x r k S a j = S a j) ∧ r_X3_lookAtWard_90 s x r k S 51 14 = S s 11 - S s 11 / Int32.ofInt 12 * Int32.ofInt 12 := by
  have hsn := z_stn hs
  intro r
  induction r with
  | zero =>
    intro k S
    rw [r_X3_lookAtWard_90]
    refine ⟨fun a j q => ?_, z_ss⟩
    rw [z_sn (by omega), z_sn (by omega), z_sn (by omega)]
  | succ r ih =>
    intro k S
    rw [r_X3_lookAtWard_90]
    split
    · refine ⟨fun a j q => ?_, ?_⟩
      · rw [(ih _ _).1 a j q, z_sn (by omega)]
      · rw [(ih _ _).2, z_sn (by omega)]
    · refine ⟨fun a j q => ?_, ?_⟩
      · rw [(ih _ _).1 a j q, z_sn (by omega)]
      · rw [(ih _ _).2, z_sn (by omega)]
/-- a ward is looked at -/
theorem z_lookW {s w : Nat} (hs : z_st s) (hw : w < 6) (S : v_Sf) : (∀ a, a ≠ 51 → g_X3_lookAtWard s (z_i w) S a = S a) ∧ (∀ j, j < 15 → ¬ (j = 5 ∨ j = 9 ∨ j = 10 ∨ 11 ≤ j) → g_X3_lookAtWard s (z_i w) S 51 j = Int32.ofInt 0) ∧ g_X3_lookAtWard s (z_i w) S 51 5 = z_i w ∧ g_X3_lookAtWard s (z_i w) S 51 10 = f_J6_bitCount_0f7a4 (f_X7_inWard s (z_i w) S) ∧ g_X3_lookAtWard s (z_i w) S 51 14 = S s 11 - S s 11 / Int32.ofInt 12 * Int32.ofInt 12 := by
  have hsn := z_stn hs
  have fl := z_fill51 (Int32.ofInt 0) S
  have fr : ∀ a j, a ≠ 51 → g_fill51 (Int32.ofInt 0) S a j = S a j := fun a j q => by rw [fl, if_neg (by omega)]
  have iw : f_X7_inWard s (z_i w) (g_fill51 (Int32.ofInt 0) S) = f_X7_inWard s (z_i w) S := z_inW_c (fr _ _ (by omega)) (funext fun j => fr _ _ (by omega)) _
  have E : ∃ x, g_X3_lookAtWard s (z_i w) S = r_X3_lookAtWard_90 s (f_X7_inWard s (z_i w) S) 12 0 (z_s (z_s (z_s (g_fill51 (Int32.ofInt 0) S) 51 5 (z_i w)) 51 9 x) 51 10 (f_J6_bitCount_0f7a4 (f_X7_inWard s (z_i w) S))) := by
    unfold g_X3_lookAtWard F_X3_lookAtWard
    rw [if_neg (by rw [show (0 : Int32) = z_i 0 from rfl, z_ilt (by omega) (by omega)]; omega), if_neg (by rw [show Int32.ofNat 6 = z_i 6 by decide, z_ile (by omega) (by omega)]; omega), iw]
    split
    · exact ⟨_, rfl⟩
    · exact ⟨_, rfl⟩
  obtain ⟨x, E⟩ := E
  rw [E]
  have l := z_look90 hs (f_X7_inWard s (z_i w) S) 12 0 (z_s (z_s (z_s (g_fill51 (Int32.ofInt 0) S) 51 5 (z_i w)) 51 9 x) 51 10 (f_J6_bitCount_0f7a4 (f_X7_inWard s (z_i w) S)))
  refine ⟨fun a ha => ?_, fun j hj q => ?_, ?_, ?_, ?_⟩
  · funext j
    rw [l.1 a j (by omega), z_sn (by omega), z_sn (by omega), z_sn (by omega), fr a j ha]
  · rw [l.1 51 j (by omega), z_sn (by omega), z_sn (by omega), z_sn (by omega), fl, if_pos (by omega)]
  · rw [l.1 51 5 (by omega), z_sn (by omega), z_sn (by omega), z_ss]
  · rw [l.1 51 10 (by omega), z_ss]
  · rw [l.2, z_sn (by omega), z_sn (by omega), z_sn (by omega), fr _ _ (by omega)]
theorem z_hasN {s n : Nat} {S T : v_Sf} (h : z_told 5 31 (S s 7) (T 129)) (hn : n < 5) : (f_X7_hasNurse s (z_i n) S = 0) ↔ T 129 n = 0 := by
  have nb := h.2 n hn
  unfold z_bit at nb
  unfold f_X7_hasNurse
  rw [if_neg (show ¬ z_i n < 0 by rw [show (0 : Int32) = z_i 0 from rfl, z_ilt (by omega) (by omega)]; omega), if_neg (show ¬ Int32.ofInt 5 ≤ z_i n by rw [show Int32.ofInt 5 = z_i 5 from rfl, z_ile (by omega) (by omega)]; omega)]
  by_cases q : T 129 n = 0
  · rw [if_pos (Classical.byContradiction (fun m => nb.mp m q))]
    exact ⟨fun _ => q, fun _ => by decide⟩
  · rw [if_neg (nb.mpr q)]
    exact ⟨fun m => absurd m (by decide), fun m => absurd m q⟩
/-- a nurse in a ward -/
theorem z_ill {c s nc : Nat} (hc : z_cd c) (hs : z_st s) {S T : v_Sf} (h : z_Mo c s nc S T) {w n : Nat} (hw : w < 6) (hn : n < 5) (ht : ¬ T 129 n = 0) : f_X3_illness c s (z_i w) (z_i n) S = f_X12_falling (z_i n) (z_i w) T ∧ z_Mo c s nc (g_X3_illness c s (z_i w) (z_i n) S) (g_X12_falling (z_i n) (z_i w) T) ∧ (∀ a, a ≠ 51 → a ≠ c + 3 → g_X3_illness c s (z_i w) (z_i n) S a = S a) ∧ ∀ a j, ¬ (a = 99 ∧ 27 ≤ j ∧ j ≤ 40) → a ≠ 114 → a ≠ 115 → g_X12_falling (z_i n) (z_i w) T a j = T a j := by
  have hsn := z_stn hs
  have hcl := z_cdl hc
  have en : (z_i n).toInt.toNat = n := z_iin (by omega)
  have lk := z_lookW hs hw S
  have no := z_noth T
  have mo := h.1.2.2.2.2.2.2.2.2.2.2.1
  have as := h.1.2.2.2.2.2.2.2.2.1 n hn
  have my := z_many0 h.1.1 h.1.2.2.2.2.1 (z_i w)
  generalize hL : g_X3_lookAtWard s (z_i w) S = L at lk
  generalize hN : g_X12_nothingStands T = N at no
  generalize hS1 : z_s (z_s (z_s (z_s L 51 11 (Int32.ofInt 0)) 51 12 (Int32.ofInt 0)) 51 13 (Int32.ofInt 0)) 51 9 (T 130 n) = S1
  generalize hT1 : z_s (z_s (z_s N 99 32 (z_i w)) 99 36 (T 130 n)) 99 37 (f_X12_manyIn (z_i w) T) = T1
  have E1 : f_X3_illness c s (z_i w) (z_i n) S = f_X3_firstAmount c (Int32.ofInt 105) (Int32.ofInt 10) S1 ∧ g_X3_illness c s (z_i w) (z_i n) S = g_X3_firstAmount c (Int32.ofInt 105) (Int32.ofInt 10) S1 := by
    have hh : ¬ f_X7_hasNurse s (z_i n) (z_s (z_s (z_s L 51 11 (Int32.ofInt 0)) 51 12 (Int32.ofInt 0)) 51 13 (Int32.ofInt 0)) = 0 := by
      intro q
      have q2 : f_X7_hasNurse s (z_i n) S = 0 := by
        unfold f_X7_hasNurse at q ⊢
        rw [z_sn (by omega), z_sn (by omega), z_sn (by omega), lk.1 s (by omega)] at q
        exact q
      exact ht ((z_hasN h.1.2.2.2.2.2.2.2.1 hn).mp q2)
    unfold f_X3_illness g_X3_illness
    rw [hL, if_neg hh, if_neg hh, lk.1 (s + 7) (by omega), en, as.1, hS1]
    exact ⟨rfl, rfl⟩
  have E2 : f_X12_falling (z_i n) (z_i w) T = f_X12_tells (Int32.ofInt 105) (Int32.ofInt 10) T1 ∧ g_X12_falling (z_i n) (z_i w) T = g_X12_tells (Int32.ofInt 105) (Int32.ofInt 10) T1 := by
    have em : f_X12_manyIn (z_i w) (z_s (z_s N 99 32 (z_i w)) 99 36 (T 130 n)) = f_X12_manyIn (z_i w) T := z_man_c (funext fun j => by rw [z_sn (by omega), z_sn (by omega), no.1 _ _ (by omega)]) (funext fun j => by rw [z_sn (by omega), z_sn (by omega), no.1 _ _ (by omega)]) _
    unfold f_X12_falling g_X12_falling
    rw [hN, en, no.1 130 n (by omega), em, hT1]
    exact ⟨rfl, rfl⟩
  have f1 : ∀ a, a ≠ 51 → S1 a = S a := by
    intro a q
    rw [← hS1]
    exact (z_sr q).trans ((z_sr q).trans ((z_sr q).trans ((z_sr q).trans (lk.1 a q))))
  have f2 : ∀ a j, ¬ (a = 99 ∧ 27 ≤ j ∧ j ≤ 40) → T1 a j = T a j := by
    intro a j q
    rw [← hT1, z_sn (by omega), z_sn (by omega), z_sn (by omega), no.1 a j q]
  have hv : z_vw (fun a => f_X1_valueAt a S1) (fun a => f_X12_valueOf a T1) := by
    refine z_vw_mk (fun i hi => ?_) ?_
    · rw [← hS1, ← hT1]
      have cs : i = 5 ∨ i = 9 ∨ i = 10 ∨ i = 11 ∨ i = 12 ∨ i = 13 ∨ (i < 11 ∧ i ≠ 5 ∧ i ≠ 9 ∧ i ≠ 10) := by omega
      rcases cs with rfl | rfl | rfl | rfl | rfl | rfl | q
      · rw [z_sn (by omega), z_sn (by omega), z_sn (by omega), z_sn (by omega), lk.2.2.1, z_sn (by omega), z_sn (by omega), z_ss]
      · rw [z_ss, z_sn (by omega), z_ss]
      · rw [z_sn (by omega), z_sn (by omega), z_sn (by omega), z_sn (by omega), lk.2.2.2.1, z_ss, my.2]
      · rw [z_sn (by omega), z_sn (by omega), z_sn (by omega), z_ss, z_sn (by omega), z_sn (by omega), z_sn (by omega), no.2 _ (by omega) (by omega)]
      · rw [z_sn (by omega), z_sn (by omega), z_ss, z_sn (by omega), z_sn (by omega), z_sn (by omega), no.2 _ (by omega) (by omega)]
      · rw [z_sn (by omega), z_ss, z_sn (by omega), z_sn (by omega), z_sn (by omega), no.2 _ (by omega) (by omega)]
      · rw [z_sn (by omega), z_sn (by omega), z_sn (by omega), z_sn (by omega), lk.2.1 i (by omega) (by omega), z_sn (by omega), z_sn (by omega), z_sn (by omega), no.2 _ (by omega) (by omega)]
    · rw [f2 99 60 (by omega), ← hS1, z_sn (by omega), z_sn (by omega), z_sn (by omega), z_sn (by omega), lk.2.2.2.2, mo.1]
  have h1 : z_Mo c s nc S1 T1 := z_Mo_f h (fun a q => f1 a (by omega)) (fun j _ => by rw [f1 s (by omega)]) (by rw [f1 75 (by decide)]) (fun a j q => f2 a j (by omega))
  have am := z_amount hc (L := Int32.ofInt 105) (most := Int32.ofInt 10) (z_na (by decide) (by decide)) (by decide) h1.2.2.2.1 h1.2.2.2.2.1 hv
  rw [E1.1, E1.2, E2.1, E2.2]
  exact ⟨am.1, z_Mo_f h1 (fun a q => am.2.1 a (by omega)) (fun j _ => by rw [am.2.1 s (by omega)]) (by rw [am.2.1 75 (by omega)]) (fun a j q => by rw [am.2.2 a (by omega) (by omega)]), fun a q1 q2 => (am.2.1 a q2).trans (f1 a q1), fun a j q1 q2 q3 => by rw [am.2.2 a q2 q3]; exact f2 a j q1⟩
/-- a drawn number -/
theorem z_drawN {x : Int32} (hx : 0 ≤ x.toInt ∧ x.toInt ≤ 65535) : (Int32.ofInt 25173 * x + Int32.ofInt 13849) &&& Int32.ofInt 65535 = (Int32.ofInt 25173 * x + Int32.ofInt 13849) - (Int32.ofInt 25173 * x + Int32.ofInt 13849) / Int32.ofInt 65536 * Int32.ofInt 65536 ∧ 0 ≤ ((Int32.ofInt 25173 * x + Int32.ofInt 13849) &&& Int32.ofInt 65535).toInt ∧ ((Int32.ofInt 25173 * x + Int32.ofInt 13849) &&& Int32.ofInt 65535).toInt ≤ 65535 := by
  have ev : (Int32.ofInt 25173 * x + Int32.ofInt 13849).toInt = 25173 * x.toInt + 13849 := by
    have e : Int32.ofInt 25173 * x + Int32.ofInt 13849 = Int32.ofInt (25173 * x.toInt + 13849) := by rw [Int32.ofInt_add, Int32.ofInt_mul, Int32.ofInt_toInt]
    rw [e]
    exact q_ofr (by omega) (by omega)
  generalize Int32.ofInt 25173 * x + Int32.ofInt 13849 = v at ev
  have hv : 0 ≤ v.toInt := by omega
  have r := z_remE (x := v) (y := Int32.ofInt 65536) hv (by decide)
  rw [show (Int32.ofInt 65536).toInt = 65536 from rfl] at r
  have hn : v.toBitVec.toNat = v.toInt.toNat := by
    have e := z_ofN hv
    have e2 : v.toBitVec = BitVec.ofInt 32 ((v.toInt.toNat : Nat) : Int) := by
      conv => lhs; rw [← e]
      rfl
    rw [e2, BitVec.ofInt_natCast, BitVec.toNat_ofNat, Nat.mod_eq_of_lt]
    have := Int32.toInt_lt v
    omega
  have a : (v &&& Int32.ofInt 65535) = z_i (v.toInt.toNat % 65536) := by
    refine Int32.toBitVec_inj.mp (BitVec.eq_of_toNat_eq ?_)
    rw [Int32.toBitVec_and, BitVec.toNat_and, hn, show (Int32.ofInt 65535).toBitVec.toNat = 2 ^ 16 - 1 from rfl, Nat.and_two_pow_sub_one_eq_mod]
    show _ = (BitVec.ofInt 32 ((v.toInt.toNat % 65536 : Nat) : Int)).toNat
    rw [BitVec.ofInt_natCast, BitVec.toNat_ofNat, Nat.mod_eq_of_lt (show v.toInt.toNat % 65536 < 2 ^ 32 by omega)]
  have a2 : (v &&& Int32.ofInt 65535).toInt = v.toInt % 65536 := by
    rw [a, z_it3 (by omega)]
    omega
  exact ⟨z_inj2 (by rw [a2, r]), by omega, by omega⟩
theorem z_sick_l {c b s nc : Nat} (hc : z_cd c) (hs : z_st s) {S0 T0 : v_Sf} : ∀ (r k : Nat) (S T : v_Sf), r + k = 6 → z_RB c b s nc S0 T0 S T → ∃ S', r_X0_pass_114 c b s r k S = z_s (g_X0_askRules b s S') s 11 (((g_X0_askRules b s S') s 11) + (Int32.ofInt 1)) ∧ z_RB c b s nc S0 T0 S' (r_X12_nursesGo_34 r k T) := by
  have hsn := z_stn hs
  have hcl := z_cdl hc
  intro r
  induction r with
  | zero =>
    intro k S T _ h
    refine ⟨S, by rw [r_X0_pass_114], ?_⟩
    rw [r_X12_nursesGo_34]
    exact h
  | succ r ih =>
    intro k S T hk h
    have hk6 : k < 6 := by omega
    have ek : (z_i k).toInt.toNat = k := z_iin (by omega)
    have h0 := h
    obtain ⟨hM, hP, hF, hG⟩ := h
    have wa := hM.2.1 k hk6
    have wk := z_works hs hk6 hM.1 hM.2.1
    have my := z_many0 hM.1.1 hM.1.2.2.2.2.1 (z_i k)
    rw [r_X0_pass_114, r_X12_nursesGo_34, ek, wa.2.2.2.2.1]
    by_cases g : f_X12_isWell (z_i k) T = 0
    · rw [if_pos g]
      have e : g_X0_sicken c s (z_i k) (T 125 k) S = S := by
        unfold g_X0_sicken
        rw [if_pos (wk.1.mpr g)]
      rw [e]
      exact ih (k + 1) S T (by omega) h0
    · rw [if_neg g]
      by_cases g2 : f_X12_manyIn (z_i k) T = 0
      · rw [if_neg (not_not_intro g2)]
        have e : g_X0_sicken c s (z_i k) (T 125 k) S = S := by
          unfold g_X0_sicken
          rw [if_neg (fun q => g (wk.1.mp q)), if_neg (not_not_intro (my.1.mpr g2))]
        rw [e]
        exact ih (k + 1) S T (by omega) h0
      · rw [if_pos g2]
        have n0 := wk.2 g
        obtain ⟨n, hn, en⟩ : ∃ n, n < 5 ∧ T 125 k = z_i n := ⟨(T 125 k).toInt.toNat, by have := wa.2.2.2.2.2.1; omega, (z_ofN n0).symm⟩
        have ein : (z_i n).toInt.toNat = n := z_iin (by omega)
        have ht : ¬ T 129 n = 0 := by
          intro q
          apply g
          unfold f_X12_isWell f_X12_isThere
          rw [ek, en, ein, if_neg (show ¬ z_in (z_i n) 0 4 = 0 by unfold z_in; rw [z_pb0, decide_eq_false_iff_not, z_it3 (by omega)]; omega), if_pos q, if_pos (by decide)]
          rfl
        have dr := z_drawN hP.2.2.2
        have ex : S s 14 = T 99 2 := hP.2.2.1
        have m1 : z_Mo c s nc (g_X7_draw s S) T := z_Mo_f hM (fun a q => z_sr (by omega)) (fun j q => z_sn (by omega)) (z_sn (by omega)) (fun _ _ _ => rfl)
        obtain ⟨i1, i2, i3, i4⟩ := z_ill hc hs m1 hk6 hn ht
        have e2 : g_X12_falling (z_i n) (z_i k) T 99 2 = T 99 2 := i4 _ _ (by omega) (by omega) (by omega)
        have edr : f_X12_draw (g_X12_falling (z_i n) (z_i k) T) = f_X7_draw s S := by
          unfold f_X12_draw f_X7_draw
          rw [e2, ex, dr.1]
        have es : g_X0_sicken c s (z_i k) (z_i n) S = (if (f_X3_illness c s (z_i k) (z_i n) (g_X7_draw s S)) ≤ (f_X7_draw s S) then g_X3_illness c s (z_i k) (z_i n) (g_X7_draw s S) else z_s (z_s (g_X3_illness c s (z_i k) (z_i n) (g_X7_draw s S)) (s + 8) n (((g_X3_illness c s (z_i k) (z_i n) (g_X7_draw s S)) (s + 7) n) + (Int32.ofInt 1))) 75 4 (((g_X3_illness c s (z_i k) (z_i n) (g_X7_draw s S)) 75 4) + (Int32.ofInt 1))) := by
          unfold g_X0_sicken
          rw [if_neg (fun q => g (wk.1.mp (by rw [en]; exact q))), if_pos (fun q => g2 (my.1.mp q)), ein]
        rw [en, es, i1, edr]
        generalize hA : g_X3_illness c s (z_i k) (z_i n) (g_X7_draw s S) = A at i2 i3 ⊢
        generalize hB : g_X12_falling (z_i n) (z_i k) T = B at i2 i4 e2 ⊢
        -- behind the draw
        have mB : z_Mo c s nc A (g_X12_draw B) := z_Mo_f i2 (fun _ _ => rfl) (fun _ _ => rfl) rfl (fun a j q => z_sn (by omega))
        have pB : z_PX s A (g_X12_draw B) := by
          refine ⟨?_, ?_, ?_⟩
          · intro w hw
            rw [i3 (s + 9) (by omega) (by omega), show g_X7_draw s S (s + 9) = S (s + 9) from z_sr (by omega), show g_X12_draw B 128 w = T 128 w by unfold g_X12_draw; rw [z_sn (by omega)]; exact i4 _ _ (by omega) (by omega) (by omega)]
            exact hP.1 w hw
          · intro w hw
            rw [show g_X12_draw B 128 w = T 128 w by unfold g_X12_draw; rw [z_sn (by omega)]; exact i4 _ _ (by omega) (by omega) (by omega), show g_X12_draw B 127 w = T 127 w by unfold g_X12_draw; rw [z_sn (by omega)]; exact i4 _ _ (by omega) (by omega) (by omega)]
            exact hP.2.1 w hw
          · rw [i3 s (by omega) (by omega)]
            unfold g_X7_draw g_X12_draw
            rw [z_ss, z_ss, e2, ex, ← dr.1]
            exact ⟨rfl, dr.2⟩
        have fA : z_fj (z_mcB c b s) S0 A := fun a j q => by
          have q' := q
          unfold z_mcB z_mc at q'
          rw [i3 a (by omega) (by omega)]
          unfold g_X7_draw
          rw [z_sn (by omega)]
          exact hF a j q
        have fB : z_fj z_mmB T0 (g_X12_draw B) := fun a j q => by
          have q' := q
          unfold z_mmB z_mm at q'
          unfold g_X12_draw
          rw [z_sn (by omega), i4 a j (by omega) (by omega) (by omega)]
          exact hG a j q
        have d125 : g_X12_draw B 125 k = z_i n := by
          unfold g_X12_draw
          rw [z_sn (by omega), i4 _ _ (by omega) (by omega) (by omega), en]
        rw [d125, ein]
        by_cases gi : f_X12_falling (z_i n) (z_i k) T ≤ f_X7_draw s S
        · have gi' := z_leI2.mp gi
          rw [if_pos gi, if_neg (by rw [z_ltI2]; omega)]
          exact ih (k + 1) _ _ (by omega) ⟨mB, pB, fA, fB⟩
        · have gi' : ¬ (f_X12_falling (z_i n) (z_i k) T).toInt ≤ (f_X7_draw s S).toInt := fun q => gi (z_leI2.mpr q)
          rw [if_neg gi, if_pos (by rw [z_ltI2]; omega)]
          have as := mB.1.2.2.2.2.2.2.2.2.1 n hn
          rw [as.1]
          have av : (g_X12_draw B 130 n + Int32.ofInt 1).toInt = (g_X12_draw B 130 n).toInt + 1 := z_addI (by rw [z_n1]; omega)
          have m5 := z_Mo_ill hc hs mB n (v := g_X12_draw B 130 n + Int32.ofInt 1) (by omega)
          refine ih (k + 1) _ _ (by omega) ⟨z_Mo_f m5 (fun a q => z_sr (by omega)) (fun j q => z_sn (by omega)) (z_sn (by omega)) (fun a j q => z_sn (by omega)), z_PX_f pB ?_ ?_ ?_ ?_ ?_, fun a j q => ?_, fun a j q => ?_⟩
          · exact (z_sr (by omega)).trans (z_sr (by omega))
          · rw [z_sn (by omega), z_sn (by omega)]
          · exact (z_sr (by decide)).trans (z_sr (by decide))
          · exact (z_sr (by decide)).trans (z_sr (by decide))
          · rw [z_sn (by omega), z_sn (by omega)]
          · have q' := q
            unfold z_mcB at q'
            rw [z_sn (by omega), z_sn (by omega)]
            exact fA a j q
          · have q' := q
            unfold z_mmB z_mm at q'
            rw [z_sn (by omega), z_sn (by omega)]
            exact fB a j q
end PrtS43t
section PrtS43u
/-! months: rules, the month, all of them -/
noncomputable def z_Bs (c s nc : Nat) (S T : v_Sf) : Prop := z_St s S T ∧ z_Wa S T ∧ z_co 10 (S 48) (T 132) 0 1023 ∧ z_LawR c S T nc ∧ T 99 16 = z_i nc
theorem z_Mo_bs {c s nc : Nat} {S T : v_Sf} (h : z_Mo c s nc S T) : z_Bs c s nc S T := ⟨h.1, h.2.1, h.2.2.1, h.2.2.2.1, h.2.2.2.2.1⟩
theorem z_Mo_b {c s nc : Nat} {S T S' T' : v_Sf} (h : z_Bs c s nc S T) (f : ∀ a, (s < a ∧ a ≤ s + 8 ∨ 33 ≤ a ∧ a ≤ 44 ∨ a = 48 ∨ c ≤ a ∧ a ≤ c + 6 ∧ a ≠ c + 3) → S' a = S a) (fs : ∀ j, (j = 0 ∨ j = 7 ∨ j = 11 ∨ j = 12 ∨ j = 13) → S' s j = S s j) (f75 : S' 75 3 = T' 99 70) (g : ∀ a j, (a = 99 ∧ (j = 16 ∨ j = 60 ∨ j = 61 ∨ j = 62) ∨ 101 ≤ a ∧ a ≤ 106 ∨ 116 ≤ a ∧ a ≤ 132 ∧ a ≠ 128) → T' a j = T a j) : z_Mo c s nc S' T' := by
  obtain ⟨⟨a1, a2, a3, a4, a5, a6, a7, a8, a9, a10, a12, a13, a14⟩, b1, b3, b4, b5⟩ := h
  have gr : ∀ a, (101 ≤ a ∧ a ≤ 106 ∨ 116 ≤ a ∧ a ≤ 132 ∧ a ≠ 128) → T' a = T a := fun a q => funext (fun j => g a j (by omega))
  have g99 : ∀ j, (j = 16 ∨ j = 60 ∨ j = 61 ∨ j = 62) → T' 99 j = T 99 j := fun j q => g 99 j (by omega)
  refine ⟨⟨?_, ?_, ?_, ?_, ?_, ?_, ?_, ?_, ?_, ?_, ?_, ?_, ?_⟩, ?_, ?_, ?_, ?_, ?_⟩
  · rw [fs 0 (by omega), gr 116 (by omega)]
    exact a1
  · rw [f (s + 1) (by omega), gr 117 (by omega)]
    exact a2
  · rw [f (s + 2) (by omega), gr 116 (by omega), gr 118 (by omega)]
    exact a3
  · rw [f (s + 3) (by omega), gr 119 (by omega)]
    exact a4
  · rw [f (s + 4) (by omega), gr 120 (by omega)]
    exact a5
  · rw [f (s + 5) (by omega), gr 121 (by omega)]
    exact a6
  · rw [f (s + 6) (by omega), gr 122 (by omega)]
    exact a7
  · rw [fs 7 (by omega), gr 129 (by omega)]
    exact a8
  · rw [f (s + 7) (by omega), gr 130 (by omega)]
    exact a9
  · rw [f (s + 8) (by omega), gr 131 (by omega)]
    exact a10
  · rw [fs 11 (by omega), g99 60 (by omega)]
    exact a12
  · rw [fs 12 (by omega), g99 61 (by omega)]
    exact a13
  · rw [fs 13 (by omega), g99 62 (by omega)]
    exact a14
  · intro w hw
    rw [f (33 + 2 * w) (by omega), f (33 + 2 * w + 1) (by omega), gr 127 (by omega), gr 123 (by omega), gr 124 (by omega), gr 125 (by omega), gr 126 (by omega)]
    exact b1 w hw
  · rw [f 48 (by omega), gr 132 (by omega)]
    exact b3
  · exact z_LawR_t b4 (f _ (by omega)) (f _ (by omega)) (f _ (by omega)) (f _ (by omega)) (f _ (by omega)) (f _ (by omega)) (fun a j q => g a j (by omega))
  · rw [g99 16 (by omega)]
    exact b5
  · exact f75
theorem z_run_f {b : Nat} (hb : z_cd b) (i : Int32) (S : v_Sf) : ∀ a, a ≠ b + 3 → g_X1_run b i S a = S a := (z_run_eq hb S 256 0 0 i S (by omega) (fun _ _ => rfl)).2
theorem z_does_f (x b : Int32) (S : v_Sf) : ∀ a, a ≠ 114 → a ≠ 115 → g_X12_does x b S a = S a := by
  intro a h1 h2
  have w1 : ∀ i v j u, z_s (z_s S 114 i v) 115 j u a = S a := fun i v j u => (z_sr h2).trans (z_sr h1)
  have w2 : ∀ i v j u, z_s (z_s S 115 i v) 114 j u a = S a := fun i v j u => (z_sr h1).trans (z_sr h2)
  unfold g_X12_does
  repeat' split
  all_goals first | rfl | exact w1 _ _ _ _ | exact w2 _ _ _ _
theorem z_wks_f (x2 : Int32) : ∀ (r : Nat) (x3 x4 : Int32) (S : v_Sf) (a : Nat), a ≠ 114 → a ≠ 115 → r_X12_works_5 x2 r x3 x4 S a = S a := by
  intro r
  induction r with
  | zero =>
    intro x3 x4 S a _ _
    rw [r_X12_works_5]
  | succ r ih =>
    intro x3 x4 S a h1 h2
    rw [r_X12_works_5]
    split
    · split
      · split
        · rw [ih _ _ _ a h1 h2, z_sr h1, z_sr h2]
        · rw [ih _ _ _ a h1 h2, z_sr h1, z_sr h2]
      · rw [ih _ _ _ a h1 h2, z_sr h1]
    · rw [ih _ _ _ a h1 h2, z_does_f _ _ _ a h1 h2]
theorem z_kept_f (x w : Int32) (T : v_Sf) : ∀ a j, ¬ (a = 99 ∧ 27 ≤ j ∧ j ≤ 40) → a ≠ 114 → a ≠ 115 → g_X12_isKeptBy x w T a j = T a j := by
  intro a j q h1 h2
  have no := z_noth T
  unfold g_X12_isKeptBy g_X12_isSo g_X12_works F_X12_works
  rw [z_wks_f _ _ _ _ _ a h1 h2, z_sn (by omega), z_sn (by omega), z_sn (by omega), z_sn (by omega), z_sn (by omega), no.1 a j q]
noncomputable def z_mj (a j : Nat) : Prop := a = 99 ∧ (27 ≤ j ∧ j ≤ 40 ∨ 74 ≤ j ∧ j ≤ 76) ∨ a = 114 ∨ a = 115
theorem z_judg_f : ∀ (r k : Nat) (T : v_Sf), z_fj z_mj T (r_X12_judges_2 r k T) := by
  have inn : ∀ (κ : v_Sf → v_Sf) (k2 : Nat), (∀ X, z_fj z_mj X (κ X)) → ∀ (r k : Nat) (T : v_Sf), z_fj z_mj T (r_X12_judges_12 κ k2 r k T) := by
    intro κ k2 hκ r
    induction r with
    | zero =>
      intro k T
      rw [r_X12_judges_12]
      exact hκ T
    | succ r ih =>
      intro k T
      have kf : z_fj z_mj T (g_X12_isKeptBy (z_i k2) (z_i k) T) := fun a j q => by
        unfold z_mj at q
        exact z_kept_f _ _ T a j (by omega) (by omega) (by omega)
      rw [r_X12_judges_12]
      split
      · split
        · refine fun a j q => ?_
          rw [← kf a j q]
          unfold z_mj at q
          exact z_sn (by omega)
        · refine fun a j q => ?_
          rw [← kf a j q]
          unfold z_mj at q
          rw [z_sn (by omega), z_sn (by omega), z_sn (by omega)]
      · exact z_fj_t kf (ih _ _)
  intro r
  induction r with
  | zero =>
    intro k T a j q
    rw [r_X12_judges_2]
  | succ r ih =>
    intro k T
    rw [r_X12_judges_2]
    split
    · exact fun _ _ _ => rfl
    · exact inn _ k (fun X => ih (k + 1) X) _ _ _
noncomputable def z_mr (b a j : Nat) : Prop := a = 51 ∨ a = b + 3 ∨ a = 75 ∧ 5 ≤ j
theorem z_fb_f {b s : Nat} (hb : z_cd b) (hs : z_st s) {w : Nat} (hw : w < 6) (S : v_Sf) : z_fj (z_mr b) S (g_X3_firstBroken b s (z_i w) S) := by
  have lp : ∀ (r k : Nat) (S : v_Sf) (a : Nat), a ≠ b + 3 → (r_X3_firstBroken_8 b s r k S).2 a = S a := by
    intro r
    induction r with
    | zero =>
      intro k S a _
      rw [r_X3_firstBroken_8]
    | succ r ih =>
      intro k S a ha
      rw [r_X3_firstBroken_8]
      split
      · rfl
      · split
        · rw [ih _ _ a ha, z_run_f hb _ _ a ha]
        · exact z_run_f hb _ _ a ha
  intro a j q
  unfold z_mr at q
  unfold g_X3_firstBroken F_X3_firstBroken
  rw [lp _ _ _ a (by omega), (z_lookW hs hw S).1 a (by omega)]
theorem z_ask_f {b s : Nat} (hb : z_cd b) (hs : z_st s) : ∀ (r k : Nat) (x y : Int32) (S : v_Sf), r + k = 6 → z_fj (z_mr b) S (r_X0_askRules_9 b s r k x y S) := by
  intro r
  induction r with
  | zero =>
    intro k x y S _
    rw [r_X0_askRules_9]
    split
    · exact fun a j q => z_sn (by unfold z_mr at q; omega)
    · split
      · exact fun a j q => z_sn (by unfold z_mr at q; omega)
      · refine fun a j q => ?_
        unfold z_mr at q
        rw [z_sn (by omega), z_sn (by omega), z_sn (by omega)]
  | succ r ih =>
    intro k x y S hk
    have f := z_fb_f hb hs (show k < 6 by omega) S
    rw [r_X0_askRules_9]
    split
    · exact z_fj_t f (ih _ _ _ _ (by omega))
    · split
      · exact z_fj_t f (ih _ _ _ _ (by omega))
      · split
        · exact z_fj_t f (ih _ _ _ _ (by omega))
        · exact z_fj_t f (ih _ _ _ _ (by omega))
noncomputable def z_mcG (c b s a j : Nat) : Prop := z_mcB c b s a j ∨ a = s ∧ j = 11
noncomputable def z_mmG (a j : Nat) : Prop := z_mmB a j ∨ a = 99 ∧ j = 60
noncomputable def z_RG (c b s nc : Nat) (S0 T0 S T : v_Sf) : Prop := z_Mo c s nc S T ∧ z_PX s S T ∧ z_fj (z_mcG c b s) S0 S ∧ z_fj z_mmG T0 T
/-- rules are asked, the month is over -/
theorem z_month_end {c b s nc : Nat} (hc : z_cd c) (hb : z_cd b) (hs : z_st s) {S0 T0 S T : v_Sf} (h : z_RB c b s nc S0 T0 S T) (h9 : (T 99 60).toInt < 9999) : z_RG c b s nc S0 T0 (z_s (g_X0_askRules b s S) s 11 (((g_X0_askRules b s S) s 11) + (Int32.ofInt 1))) (z_s (g_X12_judges T) 99 60 (((g_X12_judges T) 99 60) + (Int32.ofInt 1))) := by
  have hsn := z_stn hs
  have hcl := z_cdl hc
  have hbl := z_cdl hb
  have fa : z_fj (z_mr b) S (g_X0_askRules b s S) := by
    unfold g_X0_askRules F_X0_askRules
    exact z_ask_f hb hs (6 - 0) 0 (Int32.ofInt (-2)) (Int32.ofInt (-2)) S (by omega)
  have fj : z_fj z_mj T (g_X12_judges T) := by
    unfold g_X12_judges F_X12_judges
    exact z_judg_f _ _ T
  obtain ⟨hM, hP, hF, hG⟩ := h
  generalize g_X0_askRules b s S = A at fa
  generalize g_X12_judges T = B at fj
  have mA : z_Mo c s nc A B := z_Mo_f hM (fun a q => funext fun j => fa a j (by unfold z_mr; omega)) (fun j q => fa s j (by unfold z_mr; omega)) (fa 75 3 (by unfold z_mr; omega)) (fun a j q => fj a j (by unfold z_mj; omega))
  have mo := mA.1.2.2.2.2.2.2.2.2.2.2.1
  have b60 : B 99 60 = T 99 60 := fj 99 60 (by unfold z_mj; omega)
  have av : (B 99 60 + Int32.ofInt 1).toInt = (B 99 60).toInt + 1 := z_addI (by rw [z_n1]; omega)
  rw [mo.1]
  refine ⟨z_Mo_mon hc hs mA (by rw [b60] at av mo ⊢; omega), z_PX_f hP ?_ ?_ ?_ ?_ ?_, fun a j q => ?_, fun a j q => ?_⟩
  · exact (z_sr (by omega)).trans (funext fun j => fa _ _ (by unfold z_mr; omega))
  · rw [z_sn (by omega), fa _ _ (by unfold z_mr; omega)]
  · exact (z_sr (by decide)).trans (funext fun j => fj _ _ (by unfold z_mj; omega))
  · exact (z_sr (by decide)).trans (funext fun j => fj _ _ (by unfold z_mj; omega))
  · rw [z_sn (by omega), fj _ _ (by unfold z_mj; omega)]
  · have q' := q
    unfold z_mcG z_mcB z_mc at q'
    rw [z_sn (by omega), fa a j (by unfold z_mr; omega)]
    exact hF a j (fun n => q (Or.inl n))
  · have q' := q
    unfold z_mmG z_mmB z_mm at q'
    rw [z_sn (by omega), fj a j (by unfold z_mj; omega)]
    exact hG a j (fun n => q (Or.inl n))
/-- a month on both sides -/
theorem z_pass_ok {c b s nc : Nat} (hc : z_cd c) (hb : z_cd b) (hs : z_st s) {S0 T0 S T : v_Sf} (h : z_RG c b s nc S0 T0 S T) (h9 : (T 99 60).toInt < 9999) : z_RG c b s nc S0 T0 (g_X0_pass c b s S) (z_s (g_X12_judges (g_X12_nursesGo (g_X12_whistle (g_X12_breaks (g_X12_wardsGo (g_X12_weakens T)))))) 99 60 (((g_X12_judges (g_X12_nursesGo (g_X12_whistle (g_X12_breaks (g_X12_wardsGo (g_X12_weakens T)))))) 99 60) + (Int32.ofInt 1))) := by
  have hw := z_weaken_ok hc hs (b := b) (S0 := S) (T0 := T) ⟨h.1, h.2.1, fun _ _ _ => rfl, fun _ _ _ => rfl⟩
  obtain ⟨S1, e1, h1⟩ := z_ward_l hc hs 6 0 _ _ (by omega) hw
  have h2 := z_RB_in hc hs h1 (z_break_l hc hs 12 0 _ _ (by omega) (z_R_r h1.1))
  have h3 := z_RB_in hc hs h2 (z_quar_l hc hs 12 0 _ _ (by omega) (z_R_r h2.1))
  obtain ⟨T4, e4, h4⟩ := z_rec_l hc hs 5 0 _ _ (by omega) h3
  obtain ⟨S5, e5, h5⟩ := z_sick_l hc hs 6 0 _ _ (by omega) h4
  -- the month as it was
  have e60 : (r_X12_nursesGo_34 6 0 T4) 99 60 = T 99 60 := by
    exact h5.2.2.2 99 60 (by unfold z_mmB z_mm; omega)
  have eP : g_X0_pass c b s S = z_s (g_X0_askRules b s S5) s 11 (((g_X0_askRules b s S5) s 11) + (Int32.ofInt 1)) := by
    show r_X0_pass_7 c b s 6 0 (g_X0_weaken c s S) = _
    rw [e1]
    exact e5
  have eN : g_X12_nursesGo (g_X12_whistle (g_X12_breaks (g_X12_wardsGo (g_X12_weakens T)))) = r_X12_nursesGo_34 6 0 T4 := e4
  rw [eP, eN]
  have h6 := z_month_end hc hb hs h5 (by rw [e60]; exact h9)
  exact ⟨h6.1, h6.2.1, z_fj_t h.2.2.1 h6.2.2.1, z_fj_t h.2.2.2 h6.2.2.2⟩
theorem z_go_l {c b s nc : Nat} (hc : z_cd c) (hb : z_cd b) (hs : z_st s) {S0 T0 : v_Sf} (x x' : Int32) : ∀ (r k : Nat) (S T : v_Sf), z_RG c b s nc S0 T0 S T → z_RG c b s nc S0 T0 (r_X0_go_29 c b s x r k S) (r_X12_go_39 x' r k T) := by
  intro r
  induction r with
  | zero =>
    intro k S T h
    rw [r_X0_go_29, r_X12_go_39]
    exact h
  | succ r ih =>
    intro k S T h
    have mo := h.1.1.2.2.2.2.2.2.2.2.2.2.1
    rw [r_X0_go_29, r_X12_go_39, mo.1]
    by_cases q : Int32.ofInt 9999 ≤ T 99 60
    · rw [if_pos q, if_pos q]
      exact h
    · have q' : ¬ (Int32.ofInt 9999).toInt ≤ (T 99 60).toInt := fun n => q (z_leI2.mpr n)
      rw [show (Int32.ofInt 9999).toInt = 9999 from rfl] at q'
      rw [if_neg q, if_neg q]
      exact ih (k + 1) _ _ (z_pass_ok hc hb hs h (by omega))
/-- all months -/
theorem z_go_ok {c b s nc : Nat} (hc : z_cd c) (hb : z_cd b) (hs : z_st s) {S T : v_Sf} (h : z_Bs c s nc S T) (hp : z_PX s S T) (m : Int32) : z_RG c b s nc S T (g_X0_go c b s m S) (g_X12_go m T) := by
  have hsn := z_stn hs
  have hcl := z_cdl hc
  unfold g_X0_go F_X0_go g_X12_go F_X12_go
  refine z_go_l hc hb hs m m _ _ _ _ ⟨z_Mo_b h (fun a q => ?_) (fun j q => ?_) ?_ (fun a j q => ?_), z_PX_f hp ?_ ?_ ?_ ?_ ?_, fun a j q => ?_, fun a j q => ?_⟩
  · rw [z_sr (by omega), z_sr (by omega), z_sr (by omega), z_sr (by omega), z_sr (by omega)]
  · rw [z_sn (by omega), z_sn (by omega), z_sn (by omega), z_sn (by omega), z_sn (by omega)]
  · rw [z_sn (by omega), z_sn (by omega), z_sn (by omega), z_sn (by omega), z_ss, z_sn (by omega), z_sn (by omega), z_sn (by omega), z_sn (by omega), z_sn (by omega), z_sn (by omega), z_ss]
  · rw [z_sn (by omega), z_sn (by omega), z_sn (by omega), z_sn (by omega), z_sn (by omega), z_sn (by omega), z_sn (by omega)]
  · rw [z_sr (by omega), z_sr (by omega), z_sr (by omega), z_sr (by omega), z_sr (by omega)]
  · rw [z_sn (by omega), z_sn (by omega), z_sn (by omega), z_sn (by omega), z_sn (by omega)]
  · rw [z_sr (by decide), z_sr (by decide), z_sr (by decide), z_sr (by decide), z_sr (by decide), z_sr (by decide), z_sr (by decide)]
  · rw [z_sr (by decide), z_sr (by decide), z_sr (by decide), z_sr (by decide), z_sr (by decide), z_sr (by decide), z_sr (by decide)]
  · rw [z_sn (by omega), z_sn (by omega), z_sn (by omega), z_sn (by omega), z_sn (by omega), z_sn (by omega), z_sn (by omega)]
  · unfold z_mcG z_mcB at q
    rw [z_sn (by omega), z_sn (by omega), z_sn (by omega), z_sn (by omega), z_sn (by omega)]
  · unfold z_mmG z_mmB z_mm at q
    rw [z_sn (by omega), z_sn (by omega), z_sn (by omega), z_sn (by omega), z_sn (by omega), z_sn (by omega), z_sn (by omega)]
/-- the call months -/
theorem z_months_ok {c b nc : Nat} (hc : z_cd c) (hb : z_cd b) {S T : v_Sf} (h : z_Bs c 1 nc S T) (hp : z_PX 1 S T) (m : Int32) : f_X11_months c b m S = f_X12_months m T ∧ (z_Bs c 1 nc (g_X11_months c b m S) (g_X12_months m T) ∧ z_PX 1 (g_X11_months c b m S) (g_X12_months m T)) ∧ z_fj (z_mcG c b 1) S (g_X11_months c b m S) ∧ z_fj z_mmG T (g_X12_months m T) := by
  have e1 : (Int32.ofInt 1).toInt = 1 := rfl
  have e60 : (Int32.ofInt 60).toInt = 60 := rfl
  have g := z_go_ok hc hb (s := 1) (Or.inl rfl) h hp m
  unfold f_X11_months g_X11_months f_X12_months g_X12_months
  by_cases q : 1 ≤ m.toInt ∧ m.toInt ≤ 60
  · have n1 : ¬ m < Int32.ofInt 1 := by
      rw [z_ltI2]
      omega
    have n2 : m ≤ Int32.ofInt 60 := by
      rw [z_leI2]
      omega
    have n3 : ¬ z_in m 1 60 = 0 := by
      unfold z_in
      rw [z_pb0, decide_eq_false_iff_not]
      exact not_not_intro q
    simp only [if_neg n1, if_pos n2, if_pos n3]
    exact ⟨g.1.2.2.2.2.2, ⟨z_Mo_bs g.1, g.2.1⟩, g.2.2.1, g.2.2.2⟩
  · have n3 : ¬ ¬ z_in m 1 60 = 0 := by
      unfold z_in
      rw [z_pb0, decide_eq_false_iff_not]
      exact not_not_intro q
    simp only [if_neg n3]
    by_cases n1 : m < Int32.ofInt 1
    · simp only [if_pos n1]
      exact ⟨trivial, ⟨h, hp⟩, fun _ _ _ => rfl, fun _ _ _ => rfl⟩
    · have n2 : ¬ m ≤ Int32.ofInt 60 := by
        intro n
        rw [z_ltI2] at n1
        rw [z_leI2] at n
        omega
      simp only [if_neg n1, if_neg n2]
      exact ⟨trivial, ⟨h, hp⟩, fun _ _ _ => rfl, fun _ _ _ => rfl⟩
end PrtS43u
section PrtS43v
/-! timetables: both readers -/
theorem z_mulI (a b : Nat) : z_i a * z_i b = z_i (a * b) := by
  unfold z_i
  rw [← Int32.ofInt_mul]
  rfl
theorem z_sbI {a b : Nat} (h : b ≤ a) : z_i a - z_i b = z_i (a - b) := by
  unfold z_i
  rw [← Int32.ofInt_sub, show ((a : Nat) : Int) - ((b : Nat) : Int) = ((a - b : Nat) : Int) by omega]
noncomputable def z_tc (w : Nat → Int32) (S : v_Sf) (p n M : Nat) : Prop := (∀ i, i < 260 → S 46 i = w i) ∧ z_i n ≤ S 45 1 ∧ S 66 4 = z_i p ∧ S 66 5 = z_i n ∧ S 66 6 = 0 ∧ S 66 3 = z_i M ∧ p ≤ n ∧ n ≤ 60 ∧ M ≤ 49
noncomputable def z_tm (w : Nat → Int32) (T : v_Sf) (p n M a : Nat) (bg : Int32) : Prop := (∀ i, i < 260 → T 100 i &&& Int32.ofInt 255 = w i ∧ -128 ≤ (T 100 i).toInt ∧ (T 100 i).toInt ≤ 127) ∧ T 99 3 = z_i p ∧ T 99 4 = z_i n ∧ T 99 5 = 0 ∧ T 99 64 = z_i M ∧ T 99 65 = z_i a ∧ T 99 66 = bg ∧ p ≤ n ∧ n ≤ 60 ∧ M ≤ 48 ∧ a ≤ 2
noncomputable def z_tb (S T : v_Sf) (M : Nat) : Prop := ∀ j, j < M → z_ls (S 74 j) (T 133 j)
noncomputable def z_gC (M : Nat) (S S' : v_Sf) : Prop := ∀ a j, ¬ (a = 66 ∧ (j = 3 ∨ j = 4 ∨ j = 5 ∨ j = 6)) → ¬ (a = 74 ∧ M ≤ j) → S' a j = S a j
noncomputable def z_gM (M d : Nat) (T T' : v_Sf) : Prop := ∀ b j, ¬ (b = 99 ∧ (j = 3 ∨ j = 5 ∨ j = 64 ∨ j = 65 ∨ j = 66)) → ¬ (b = 133 ∧ M ≤ j) → ¬ ((b = 134 ∨ b = 135 ∨ b = 136) ∧ d ≤ j) → T' b j = T b j
noncomputable def z_gF (T U : v_Sf) : Prop := ∀ b j, ¬ (b = 99 ∧ (j = 3 ∨ j = 5 ∨ j = 64 ∨ j = 65 ∨ j = 66)) → ¬ (133 ≤ b ∧ b ≤ 136) → U b j = T b j
theorem z_gF_M {M d : Nat} {T T' U : v_Sf} (h1 : z_gM M d T T') (h2 : z_gF T' U) : z_gF T U := fun b j q1 q2 => (h2 b j q1 q2).trans (h1 b j q1 (fun m => q2 ⟨by have := m.1; omega, by have := m.1; omega⟩) (fun m => q2 (by rcases m.1 with e | e | e <;> exact ⟨by omega, by omega⟩)))
theorem z_gC_t {M M' : Nat} {S S' S'' : v_Sf} (h1 : z_gC M S S') (h2 : z_gC M' S' S'') (h : M ≤ M') : z_gC M S S'' := fun a j q1 q2 => (h2 a j q1 (fun m => q2 ⟨m.1, Nat.le_trans h m.2⟩)).trans (h1 a j q1 q2)
theorem z_gM_t {M M' d d' : Nat} {T T' T'' : v_Sf} (h1 : z_gM M d T T') (h2 : z_gM M' d' T' T'') (h : M ≤ M') (hd : d ≤ d') : z_gM M d T T'' := fun b j q1 q2 q3 => (h2 b j q1 (fun m => q2 ⟨m.1, Nat.le_trans h m.2⟩) (fun m => q3 ⟨m.1, Nat.le_trans hd m.2⟩)).trans (h1 b j q1 q2 q3)
theorem z_tc_here {w : Nat → Int32} {S : v_Sf} {p n M : Nat} (h : z_tc w S p n M) : f_X5_here S = z_hc w p n := by
  obtain ⟨h1, h2, h3, h4, h5, h6, h7, h8, h9⟩ := h
  unfold f_X5_here f_X8_at z_hc
  rw [h3, h4]
  by_cases g : p < n
  · have g1 : ¬ z_i n ≤ z_i p := by
      rw [z_ile (by omega) (by omega)]
      omega
    have g2 : ¬ z_i p < 0 := by
      rw [show (0 : Int32) = z_i 0 from rfl, z_ilt (by omega) (by omega)]
      omega
    have g3 : ¬ S 45 1 ≤ z_i p := by
      have a1 := Int32.le_iff_toInt_le.mp h2
      rw [z_it3 (by omega)] at a1
      rw [Int32.le_iff_toInt_le, z_it3 (by omega)]
      omega
    rw [if_neg g1, if_neg g2, if_neg g3, if_pos g, z_iin (by omega)]
    exact h1 p (by omega)
  · rw [if_pos (by rw [z_ile (by omega) (by omega)]; omega), if_neg g]
theorem z_tm_here {w : Nat → Int32} {T : v_Sf} {p n M a : Nat} {bg : Int32} (h : z_tm w T p n M a bg) : f_X12_here T = z_hm w p n := by
  obtain ⟨h1, h2, h3, h4, h5, h6, h7, h8, h9, h10, h11⟩ := h
  unfold f_X12_here z_hm
  rw [h2, h3]
  by_cases g : p < n
  · have g1 : ¬ z_i n ≤ z_i p := by
      rw [z_ile (by omega) (by omega)]
      omega
    rw [if_neg g1, if_pos g, z_iin (by omega)]
    exact (h1 p (by omega)).1
  · rw [if_pos (by rw [z_ile (by omega) (by omega)]; omega), if_neg g]
theorem z_tc_adv {w : Nat → Int32} {S : v_Sf} {p n M : Nat} (h : z_tc w S p n M) (hp : p < n) : z_tc w (z_s S 66 4 (S 66 4 + Int32.ofInt 1)) (p + 1) n M := by
  obtain ⟨h1, h2, h3, h4, h5, h6, h7, h8, h9⟩ := h
  refine ⟨fun i hi => ?_, ?_, ?_, ?_, ?_, ?_, by omega, h8, h9⟩
  · rw [z_sn (by omega)]
    exact h1 i hi
  · rw [z_sn (by omega)]
    exact h2
  · rw [z_ss, h3, z_i1]
  · rw [z_sn (by omega)]
    exact h4
  · rw [z_sn (by omega)]
    exact h5
  · rw [z_sn (by omega)]
    exact h6
theorem z_tc_fail {w : Nat → Int32} {S : v_Sf} {p n M : Nat} (h : z_tc w S p n M) (c : Int) (i : Nat) : g_X5_fail (Int32.ofInt c) (z_i i) S 66 6 = z_phi c i := by
  unfold g_X5_fail z_phi
  rw [if_neg (not_not_intro h.2.2.2.2.1), z_sn (by omega), z_ss]
theorem z_tm_wrong {w : Nat → Int32} {T : v_Sf} {p n M a : Nat} {bg : Int32} (h : z_tm w T p n M a bg) (c : Int) (i : Nat) : g_X12_wrongs (Int32.ofInt c) (z_i i) T = z_s T 99 5 (z_phi c i) := by
  unfold g_X12_wrongs z_phi
  rw [if_pos (by rw [h.2.2.2.1]; decide)]
theorem z_tm_w {w : Nat → Int32} {T T' : v_Sf} {p n M a p' M' a' : Nat} {bg bg' : Int32} (h : z_tm w T p n M a bg) (f : ∀ b j, (b = 100 ∨ b = 99 ∧ (j = 4 ∨ j = 5)) → T' b j = T b j) (h3 : T' 99 3 = z_i p') (h64 : T' 99 64 = z_i M') (h65 : T' 99 65 = z_i a') (h66 : T' 99 66 = bg') (hp : p' ≤ n) (hM : M' ≤ 48) (ha : a' ≤ 2) : z_tm w T' p' n M' a' bg' := by
  obtain ⟨h1, h2, h3', h4, h5, h6, h7, h8, h9, h10, h11⟩ := h
  refine ⟨fun i hi => ?_, h3, ?_, ?_, h64, h65, h66, hp, h9, hM, ha⟩
  · rw [f _ _ (by omega)]
    exact h1 i hi
  · rw [f _ _ (by omega)]
    exact h3'
  · rw [f _ _ (by omega)]
    exact h4
/-! the class repeats -/
theorem z_rep_cl {once all : Nat} (ho : 1 ≤ once) (ha : all ≤ 48) : ∀ (r k : Nat) (S : v_Sf), k + r = all → once ≤ k → (∀ a j, ¬ (a = 66 ∧ j = 3) → ¬ (a = 74 ∧ k ≤ j ∧ j < all) → r_X5_repeat_37 (z_i once) (z_i all) r (z_i k) S a j = S a j) ∧ r_X5_repeat_37 (z_i once) (z_i all) r (z_i k) S 66 3 = z_i all ∧ ∀ j, k ≤ j → j < all → r_X5_repeat_37 (z_i once) (z_i all) r (z_i k) S 74 j = r_X5_repeat_37 (z_i once) (z_i all) r (z_i k) S 74 (j - once) := by
  intro r
  induction r with
  | zero =>
    intro k S hk hok
    rw [r_X5_repeat_37]
    exact ⟨fun a j q1 q2 => z_sn q1, z_ss, fun j h1 h2 => by omega⟩
  | succ r ih =>
    intro k S hk hok
    rw [r_X5_repeat_37, if_neg (by rw [z_ilt (by omega) (by omega)]; omega), if_neg (by rw [show Int32.ofNat 49 = z_i 49 by decide, z_ile (by omega) (by omega)]; omega), z_i1, z_iin (by omega), z_sbI hok, z_iin (by omega)]
    obtain ⟨f1, f2, f3⟩ := ih (k + 1) (z_s S 74 k (S 74 (k - once))) (by omega) (by omega)
    refine ⟨fun a j q1 q2 => ?_, f2, fun j h1 h2 => ?_⟩
    · rw [f1 a j q1 (by omega), z_sn (by omega)]
    · by_cases q : j = k
      · rw [q, f1 74 k (by omega) (by omega), z_ss, f1 74 (k - once) (by omega) (by omega), z_sn (by omega)]
      · exact f3 j (by omega) h2
theorem z_per {once all : Nat} (ho : 1 ≤ once) {A B : Nat → Int32} {M : Nat} (h0 : ∀ j, j < M + once → A j = B j) (h1 : ∀ j, M + once ≤ j → j < all → A j = A (j - once)) : ∀ k, M + k < all → A (M + k) = B (M + k % once) := by
  intro k
  induction k using Nat.strongRecOn with
  | _ k ih =>
    intro hk
    by_cases q : k < once
    · rw [h0 _ (by omega), Nat.mod_eq_of_lt q]
    · rw [h1 (M + k) (by omega) hk, show M + k - once = M + (k - once) by omega, ih (k - once) (by omega) (by omega), ← Nat.mod_eq_sub_mod (by omega)]
theorem z_rep_c {w : Nat → Int32} {S : v_Sf} {p n M once times i : Nat} (h : z_tc w S p n (M + once)) (ho : 1 ≤ once) (ht : 1 ≤ times ∧ times ≤ 9) (hi : i ≤ 60) : (M + once * times ≤ 48 ∧ z_tc w (g_X5_repeat (z_i M) (z_i times) (z_i i) S) p n (M + once * times) ∧ z_gC (M + once) S (g_X5_repeat (z_i M) (z_i times) (z_i i) S) ∧ ∀ k, k < once * times → g_X5_repeat (z_i M) (z_i times) (z_i i) S 74 (M + k) = S 74 (M + k % once)) ∨ (¬ M + once * times ≤ 48 ∧ g_X5_repeat (z_i M) (z_i times) (z_i i) S 66 6 = z_phi 6 i) := by
  have h' := h
  obtain ⟨h1, h2, h3, h4, h5, h6, h7, h8, h9⟩ := h
  have hle : once ≤ once * times := Nat.le_mul_of_pos_right once (by omega)
  have hub : once * times ≤ 49 * 9 := Nat.mul_le_mul (by omega) ht.2
  have E : z_i M + (S 66 3 - z_i M) * z_i times = z_i (M + once * times) := by
    rw [h6, z_sbI (by omega), show M + once - M = once by omega, z_mulI, z_iadd]
  have E0 : S 66 3 - z_i M = z_i once := by rw [h6, z_sbI (by omega), show M + once - M = once by omega]
  unfold g_X5_repeat F_X5_repeat
  rw [E, E0, h6]
  by_cases q : M + once * times ≤ 48
  · refine Or.inl ⟨q, ?_⟩
    rw [if_pos (by rw [show Int32.ofInt 48 = z_i 48 from rfl, z_ile (by omega) (by omega)]; exact q), z_it3 (by omega), z_it3 (by omega), show (((M + once * times : Nat) : Int) - ((M + once : Nat) : Int)).toNat = M + once * times - (M + once) by omega]
    obtain ⟨f1, f2, f3⟩ := z_rep_cl ho q (M + once * times - (M + once)) (M + once) S (by omega) (by omega)
    refine ⟨⟨fun i hi => ?_, ?_, ?_, ?_, ?_, f2, h7, h8, by omega⟩, fun a j q1 q2 => f1 a j (by omega) (by omega), fun k hk => ?_⟩
    · rw [f1 _ _ (by omega) (by omega)]
      exact h1 i hi
    · rw [f1 _ _ (by omega) (by omega)]
      exact h2
    · rw [f1 _ _ (by omega) (by omega)]
      exact h3
    · rw [f1 _ _ (by omega) (by omega)]
      exact h4
    · rw [f1 _ _ (by omega) (by omega)]
      exact h5
    · exact z_per (all := M + once * times) ho (fun j hj => f1 74 j (by omega) (by omega)) (fun j a b => f3 j a b) k (by omega)
  · refine Or.inr ⟨q, ?_⟩
    rw [if_neg (by rw [show Int32.ofInt 48 = z_i 48 from rfl, z_ile (by omega) (by omega)]; exact q)]
    exact z_tc_fail h' 6 i
/-! the reference repeats -/
theorem z_rep_ml {M once times : Nat} (ho : 1 ≤ once) (hq : M + once * times ≤ 48) : ∀ (r k : Nat) (T : v_Sf), k + r = once * times → once ≤ k → ∃ U, (∃ N, z_itr (fun p : Int32 × v_Sf => s_X12_repeats_38 (z_i M) (z_i times) (z_i once) p.1 p.2) N (z_i k, T) = some U) ∧ (∀ a j, ¬ (a = 99 ∧ j = 64) → ¬ (a = 133 ∧ M + k ≤ j) → U a j = T a j) ∧ U 99 64 = z_i (M + once * times) ∧ ∀ j, k ≤ j → j < once * times → U 133 (M + j) = T 133 (M + j % once) := by
  intro r
  induction r with
  | zero =>
    intro k T hk hok
    refine ⟨z_s T 99 64 (z_i M + z_i once * z_i times), ⟨1, z_itr_r (s := fun p : Int32 × v_Sf => s_X12_repeats_38 (z_i M) (z_i times) (z_i once) p.1 p.2) ?_⟩, fun a j q1 q2 => z_sn q1, ?_, fun j h1 h2 => by omega⟩
    · show s_X12_repeats_38 _ _ _ _ _ = _
      unfold s_X12_repeats_38
      rw [if_pos (by rw [z_mulI, z_ile (by omega) (by omega)]; omega)]
    · rw [z_ss, z_mulI, z_iadd]
  | succ r ih =>
    intro k T hk hok
    have em : z_i k - z_i k / z_i once * z_i once = z_i (k % once) := by
      refine z_inj2 ?_
      rw [z_remE (by rw [z_it3 (by omega)]; omega) (by rw [z_it3 (by omega)]; omega), z_it3 (by omega), z_it3 (by omega), z_it3 (by have := Nat.mod_lt k (show 0 < once by omega); omega)]
      omega
    have hm := Nat.mod_lt k (show 0 < once by omega)
    have s1 : s_X12_repeats_38 (z_i M) (z_i times) (z_i once) (z_i k) T = Sum.inl (z_i (k + 1), z_s T 133 (M + k) (T 133 (M + k % once))) := by
      unfold s_X12_repeats_38
      rw [if_neg (by rw [z_mulI, z_ile (by omega) (by omega)]; omega), z_i1, em, z_iadd, z_iadd, z_iin (by omega), z_iin (by omega)]
    obtain ⟨U, ⟨N, hN⟩, f1, f2, f3⟩ := ih (k + 1) (z_s T 133 (M + k) (T 133 (M + k % once))) (by omega) (by omega)
    refine ⟨U, ⟨N + 1, (z_itr_l (s := fun p : Int32 × v_Sf => s_X12_repeats_38 (z_i M) (z_i times) (z_i once) p.1 p.2) s1).trans hN⟩, fun a j q1 q2 => ?_, f2, fun j h1 h2 => ?_⟩
    · rw [f1 a j q1 (by omega), z_sn (by omega)]
    · have hj := Nat.mod_lt j (show 0 < once by omega)
      by_cases q : j = k
      · rw [q, f1 133 (M + k) (by omega) (by omega), z_ss]
      · rw [f3 j (by omega) h2, z_sn (by omega)]
theorem z_rep_m {w : Nat → Int32} {T : v_Sf} {p n M once times i a : Nat} {bg : Int32} (h : z_tm w T p n (M + once) a bg) (ho : 1 ≤ once) (ht : 1 ≤ times ∧ times ≤ 9) : (M + once * times ≤ 48 → z_tm w (g_X12_repeats (z_i M) (z_i times) (z_i i) T) p n (M + once * times) a bg ∧ z_gM (M + once) 3 T (g_X12_repeats (z_i M) (z_i times) (z_i i) T) ∧ ∀ k, k < once * times → g_X12_repeats (z_i M) (z_i times) (z_i i) T 133 (M + k) = T 133 (M + k % once)) ∧ (¬ M + once * times ≤ 48 → i ≤ 60 → g_X12_repeats (z_i M) (z_i times) (z_i i) T = z_s T 99 5 (z_phi 6 i)) := by
  have h' := h
  obtain ⟨h1, h2, h3, h4, h5, h6, h7, h8, h9, h10, h11⟩ := h
  have hle : once ≤ once * times := Nat.le_mul_of_pos_right once (by omega)
  have hub : once * times ≤ 49 * 9 := Nat.mul_le_mul (by omega) ht.2
  have E : z_i M + (T 99 64 - z_i M) * z_i times = z_i (M + once * times) := by
    rw [h5, z_sbI (by omega), show M + once - M = once by omega, z_mulI, z_iadd]
  have E0 : T 99 64 - z_i M = z_i once := by rw [h5, z_sbI (by omega), show M + once - M = once by omega]
  unfold g_X12_repeats F_X12_repeats
  rw [E, E0]
  refine ⟨fun q => ?_, fun q hi => ?_⟩
  · rw [if_pos (by rw [show Int32.ofInt 48 = z_i 48 from rfl, z_ile (by omega) (by omega)]; exact q), if_pos (z_good1 h4)]
    obtain ⟨U, ⟨N, hN⟩, f1, f2, f3⟩ := z_rep_ml ho q (once * times - once) once T (by omega) (Nat.le_refl _)
    rw [z_lim_eq hN]
    refine ⟨z_tm_w h' (fun b j q => f1 b j (by omega) (by omega)) ?_ f2 ?_ ?_ h8 q h11, fun b j q1 q2 q3 => f1 b j (by omega) (by omega), fun k hk => ?_⟩
    · rw [f1 _ _ (by omega) (by omega)]
      exact h2
    · rw [f1 _ _ (by omega) (by omega)]
      exact h6
    · rw [f1 _ _ (by omega) (by omega)]
      exact h7
    · by_cases g : k < once
      · rw [f1 133 (M + k) (by omega) (by omega), Nat.mod_eq_of_lt g]
      · exact f3 k (by omega) hk
  · have n6 := z_phi_n (c := 6) (p := i) (by decide) (by omega)
    rw [if_neg (by rw [show Int32.ofInt 48 = z_i 48 from rfl, z_ile (by omega) (by omega)]; exact q), z_tm_wrong h' 6 i, if_neg (not_not_intro (z_bad (by rw [z_ss]; exact z_ng n6)))]
end PrtS43v
section PrtS43w
/-! timetables: months and groups -/
noncomputable def z_mZ (φG : Int32 → v_Sf → v_Sf) (a : Int32) (S : v_Sf) : v_Sf := (if ¬ (f_X5_here S) = (Int32.ofInt 40) then (if ¬ (f_X5_here S) = (Int32.ofInt 46) then (if (f_X5_here S) < (Int32.ofInt 65) then g_X5_fail (Int32.ofInt 1) (S 66 4) S else (if (Int32.ofInt 74) < (f_X5_here S) then g_X5_fail (Int32.ofInt 1) (S 66 4) S else g_X5_writeMonth ((f_X5_here S) - (Int32.ofInt 65)) S)) else g_X5_writeMonth (Int32.ofInt (-2)) S) else g_readGroupF φG a S)
noncomputable def z_mW (φG : Int32 → v_Sf → v_Sf) (a M times first : Int32) (S : v_Sf) : v_Sf := if ¬ (z_mZ φG a S) 66 6 = 0 then z_mZ φG a S else g_X5_repeat M times first (z_mZ φG a S)
theorem z_rm1 {φG : Int32 → v_Sf → v_Sf} {a : Int32} {S : v_Sf} (h : f_X5_here S < Int32.ofInt 50 ∨ Int32.ofInt 57 < f_X5_here S) : g_readMonthF φG a S = z_mW φG a (S 66 3) (Int32.ofInt 1) (S 66 4) S := by
  unfold g_readMonthF F_readMonthF z_mW z_mZ
  by_cases c0 : f_X5_here S < Int32.ofInt 50
  · simp only [if_pos c0]
    by_cases c1 : f_X5_here S = Int32.ofInt 40
    · simp only [if_neg (not_not_intro c1)]
    · simp only [if_pos c1]
      by_cases c2 : f_X5_here S = Int32.ofInt 46
      · simp only [if_neg (not_not_intro c2)]
      · simp only [if_pos c2]
        by_cases c3 : f_X5_here S < Int32.ofInt 65
        · simp only [if_pos c3]
        · simp only [if_neg c3]
          by_cases c4 : Int32.ofInt 74 < f_X5_here S
          · simp only [if_pos c4]
          · simp only [if_neg c4]
  · have c9 := h.resolve_left c0
    simp only [if_neg c0, if_pos c9]
    by_cases c1 : f_X5_here S = Int32.ofInt 40
    · simp only [if_neg (not_not_intro c1)]
    · simp only [if_pos c1]
      by_cases c2 : f_X5_here S = Int32.ofInt 46
      · simp only [if_neg (not_not_intro c2)]
      · simp only [if_pos c2]
        by_cases c3 : f_X5_here S < Int32.ofInt 65
        · simp only [if_pos c3]
        · simp only [if_neg c3]
          by_cases c4 : Int32.ofInt 74 < f_X5_here S
          · simp only [if_pos c4]
          · simp only [if_neg c4]
theorem z_rm2 {φG : Int32 → v_Sf → v_Sf} {a : Int32} {S : v_Sf} (h1 : ¬ f_X5_here S < Int32.ofInt 50) (h2 : ¬ Int32.ofInt 57 < f_X5_here S) : g_readMonthF φG a S = z_mW φG a (S 66 3) (f_X5_here S - Int32.ofInt 48) (S 66 4) (z_s S 66 4 ((S 66 4) + (Int32.ofInt 1))) := by
  have e : z_s S 66 4 ((S 66 4) + (Int32.ofInt 1)) 66 4 = (S 66 4) + (Int32.ofInt 1) := z_ss
  unfold g_readMonthF F_readMonthF z_mW z_mZ
  rw [if_neg h1, if_neg h2, e]
  generalize hX : z_s S 66 4 ((S 66 4) + (Int32.ofInt 1)) = X
  by_cases c1 : f_X5_here X = Int32.ofInt 40
  · simp only [if_neg (not_not_intro c1)]
  · simp only [if_pos c1]
    by_cases c2 : f_X5_here X = Int32.ofInt 46
    · simp only [if_neg (not_not_intro c2)]
    · simp only [if_pos c2]
      by_cases c3 : f_X5_here X < Int32.ofInt 65
      · simp only [if_pos c3]
      · simp only [if_neg c3]
        by_cases c4 : Int32.ofInt 74 < f_X5_here X
        · simp only [if_pos c4]
        · simp only [if_neg c4]
noncomputable def z_mtR (T : v_Sf) : v_Sf := (if ¬ (f_X12_here (g_X12_timesTold T)) = (Int32.ofInt 40) then (if (f_X12_here (g_X12_timesTold T)) = (Int32.ofInt 46) then (if (((g_X12_timesTold T) 99 64) + (f_X12_timesTold T)) ≤ (Int32.ofInt 48) then (if ¬ (f_X12_isGood (g_X12_timesTold T)) = 0 then z_lim (fun p => s_X12_monthTold_244 (f_X12_timesTold T) p.1 p.2) T ((Int32.ofInt 0), (g_X12_timesTold T)) else g_X12_timesTold T) else (if ¬ (f_X12_isGood (g_X12_wrongs (Int32.ofInt 6) (T 99 3) (g_X12_timesTold T))) = 0 then z_lim (fun p => s_X12_monthTold_244 (f_X12_timesTold T) p.1 p.2) T ((Int32.ofInt 0), (g_X12_wrongs (Int32.ofInt 6) (T 99 3) (g_X12_timesTold T))) else g_X12_wrongs (Int32.ofInt 6) (T 99 3) (g_X12_timesTold T))) else (if ¬ (z_in ((f_X12_here (g_X12_timesTold T))) 65 74) = 0 then (if (((g_X12_timesTold T) 99 64) + (f_X12_timesTold T)) ≤ (Int32.ofInt 48) then (if ¬ (f_X12_isGood (g_X12_timesTold T)) = 0 then z_lim (fun p => s_X12_monthTold_244 (f_X12_timesTold T) p.1 p.2) T ((Int32.ofInt 0), (g_X12_timesTold T)) else g_X12_timesTold T) else (if ¬ (f_X12_isGood (g_X12_wrongs (Int32.ofInt 6) (T 99 3) (g_X12_timesTold T))) = 0 then z_lim (fun p => s_X12_monthTold_244 (f_X12_timesTold T) p.1 p.2) T ((Int32.ofInt 0), (g_X12_wrongs (Int32.ofInt 6) (T 99 3) (g_X12_timesTold T))) else g_X12_wrongs (Int32.ofInt 6) (T 99 3) (g_X12_timesTold T))) else (if ¬ (f_X12_isGood (g_X12_wrongs (Int32.ofInt 1) ((g_X12_timesTold T) 99 3) (g_X12_timesTold T))) = 0 then z_lim (fun p => s_X12_monthTold_244 (f_X12_timesTold T) p.1 p.2) T ((Int32.ofInt 0), (g_X12_wrongs (Int32.ofInt 1) ((g_X12_timesTold T) 99 3) (g_X12_timesTold T))) else g_X12_wrongs (Int32.ofInt 1) ((g_X12_timesTold T) 99 3) (g_X12_timesTold T)))) else (if ¬ ((g_X12_timesTold T) 99 65) = (Int32.ofInt 2) then (if ¬ (f_X12_isGood (g_X12_timesTold T)) = 0 then z_s (z_s (z_s (z_s (z_s (z_s (g_X12_timesTold T) 134 (((g_X12_timesTold T) 99 65).toInt.toNat) ((g_X12_timesTold T) 99 64)) 135 (((g_X12_timesTold T) 99 65).toInt.toNat) (f_X12_timesTold T)) 136 (((g_X12_timesTold T) 99 65).toInt.toNat) (T 99 3)) 99 65 (((g_X12_timesTold T) 99 65) + (Int32.ofInt 1))) 99 66 (Int32.ofInt 0)) 99 3 (((g_X12_timesTold T) 99 3) + (Int32.ofInt 1)) else g_X12_timesTold T) else (if ¬ (f_X12_isGood (g_X12_wrongs (Int32.ofInt 5) ((g_X12_timesTold T) 99 3) (g_X12_timesTold T))) = 0 then z_s (z_s (z_s (z_s (z_s (z_s (g_X12_wrongs (Int32.ofInt 5) ((g_X12_timesTold T) 99 3) (g_X12_timesTold T)) 134 (((g_X12_wrongs (Int32.ofInt 5) ((g_X12_timesTold T) 99 3) (g_X12_timesTold T)) 99 65).toInt.toNat) ((g_X12_wrongs (Int32.ofInt 5) ((g_X12_timesTold T) 99 3) (g_X12_timesTold T)) 99 64)) 135 (((g_X12_wrongs (Int32.ofInt 5) ((g_X12_timesTold T) 99 3) (g_X12_timesTold T)) 99 65).toInt.toNat) (f_X12_timesTold T)) 136 (((g_X12_wrongs (Int32.ofInt 5) ((g_X12_timesTold T) 99 3) (g_X12_timesTold T)) 99 65).toInt.toNat) (T 99 3)) 99 65 (((g_X12_wrongs (Int32.ofInt 5) ((g_X12_timesTold T) 99 3) (g_X12_timesTold T)) 99 65) + (Int32.ofInt 1))) 99 66 (Int32.ofInt 0)) 99 3 (((g_X12_wrongs (Int32.ofInt 5) ((g_X12_timesTold T) 99 3) (g_X12_timesTold T)) 99 3) + (Int32.ofInt 1)) else g_X12_wrongs (Int32.ofInt 5) ((g_X12_timesTold T) 99 3) (g_X12_timesTold T))))
theorem z_mt_R {T : v_Sf} (h : ¬ f_X12_here T = Int32.ofInt 41 ∨ T 99 65 ≤ 0 ∨ T 99 66 = 0) : g_X12_monthTold T = z_mtR T := by
  unfold g_X12_monthTold F_X12_monthTold
  by_cases c1 : f_X12_here T = Int32.ofInt 41
  · rw [if_neg (not_not_intro c1)]
    have h' := h.resolve_left (not_not_intro c1)
    by_cases c2 : T 99 65 ≤ 0
    · rw [if_pos c2]
      rfl
    · rw [if_neg c2, if_pos (h'.resolve_left c2)]
      rfl
  · rw [if_pos c1]
    rfl
theorem z_mt_C {T : v_Sf} (c1 : f_X12_here T = Int32.ofInt 41) (c2 : ¬ T 99 65 ≤ 0) (c3 : ¬ T 99 66 = 0) : g_X12_monthTold T = g_X12_repeats (T 134 (((T 99 65) - (Int32.ofInt 1)).toInt.toNat)) (T 135 (((T 99 65) - (Int32.ofInt 1)).toInt.toNat)) (T 136 (((T 99 65) - (Int32.ofInt 1)).toInt.toNat)) (z_s (z_s T 99 65 ((T 99 65) - (Int32.ofInt 1))) 99 3 ((T 99 3) + (Int32.ofInt 1))) := by
  unfold g_X12_monthTold F_X12_monthTold
  rw [if_neg (not_not_intro c1), if_neg c2, if_neg c3]
set_option maxRecDepth 100000 in
theorem z_byt_all : ∀ i : Fin 256, decide ((Int32.ofInt ((i.val : Int) - 128) &&& Int32.ofInt 255).toInt ≤ 127 → Int32.ofInt ((i.val : Int) - 128) &&& Int32.ofInt 255 = Int32.ofInt ((i.val : Int) - 128)) = true := by decide +kernel
theorem z_byt {x : Int32} (h : -128 ≤ x.toInt ∧ x.toInt ≤ 127) (h2 : (x &&& Int32.ofInt 255).toInt ≤ 127) : x &&& Int32.ofInt 255 = x := by
  have e : Int32.ofInt (((x.toInt + 128).toNat : Int) - 128) = x := by
    rw [show (((x.toInt + 128).toNat : Nat) : Int) - 128 = x.toInt by omega, Int32.ofInt_toInt]
  have := of_decide_eq_true (z_byt_all ⟨(x.toInt + 128).toNat, by omega⟩)
  simp only [e] at this
  exact this h2
noncomputable def z_zT (x : Int32) (T : v_Sf) (Y : Int32 × v_Sf) : Prop := ∃ N, z_itr (fun p => s_X12_timetable_49 x p) N T = some Y
theorem z_zT_m {w : Nat → Int32} {x : Int32} {T : v_Sf} {p n M a : Nat} {bg : Int32} {Y : Int32 × v_Sf} (h : z_tm w T p n M a bg) (hp : p < n) (hY : z_zT x (g_X12_monthTold T) Y) : z_zT x T Y := by
  obtain ⟨N, hN⟩ := hY
  have s1 : s_X12_timetable_49 x T = Sum.inl (g_X12_monthTold T) := by
    unfold s_X12_timetable_49
    rw [if_neg (z_good1 h.2.2.2.1), if_neg (by rw [h.2.1, h.2.2.1, z_ile (by have := h.2.2.2.2.2.2.2.2.1; omega) (by have := h.2.2.2.2.2.2.2.2.1; omega)]; omega)]
  exact ⟨N + 1, (z_itr_l (s := fun p => s_X12_timetable_49 x p) s1).trans hN⟩
theorem z_zT_b {x : Int32} {T : v_Sf} (h : T 99 5 < 0) : z_zT x T (T 99 5, T) := by
  refine ⟨1, z_itr_r (s := fun p => s_X12_timetable_49 x p) ?_⟩
  show s_X12_timetable_49 x T = _
  unfold s_X12_timetable_49
  rw [if_pos (z_bad (z_ng h)), if_neg]
  intro q
  have a := z_leI2.mp q
  have b := z_ltI2.mp h
  omega
/-- the end comes inside a group -/
theorem z_zT_e {w : Nat → Int32} {x : Int32} {T : v_Sf} {n M a : Nat} {bg : Int32} (h : z_tm w T n n M (a + 1) bg) : z_zT x T (z_phi 1 n, z_s T 99 5 (z_phi 1 n)) := by
  have hn := h.2.2.2.2.2.2.2.2
  have n1 := z_phi_n (c := 1) (p := n) (by decide) (by omega)
  refine ⟨1, z_itr_r (s := fun p => s_X12_timetable_49 x p) ?_⟩
  show s_X12_timetable_49 x T = _
  unfold s_X12_timetable_49
  rw [if_neg (z_good1 h.2.2.2.1), if_pos (by rw [h.2.1, h.2.2.1]; exact Int32.le_refl _), if_neg (by rw [h.2.2.2.2.2.1, show (0 : Int32) = z_i 0 from rfl, z_ile (by omega) (by omega)]; omega), h.2.1, z_tm_wrong h 1 n, z_ss, if_neg]
  intro q
  have a := z_leI2.mp q
  have b := z_ltI2.mp n1
  omega
/-- how many times -/
theorem z_times {w : Nat → Int32} (hw : z_by w) {φG : Int32 → v_Sf → v_Sf} {a' : Int32} {S T : v_Sf} {p n M a : Nat} {bg : Int32} (hC : z_tc w S p n M) (hM : z_tm w T p n M a bg) : ∃ S1 T1 p1 tm, g_readMonthF φG a' S = z_mW φG a' (z_i M) (z_i tm) (z_i p) S1 ∧ z_tc w S1 p1 n M ∧ z_gC M S S1 ∧ g_X12_timesTold T = T1 ∧ f_X12_timesTold T = z_i tm ∧ z_tm w T1 p1 n M a bg ∧ (∀ b j, ¬ (b = 99 ∧ j = 3) → T1 b j = T b j) ∧ (1 ≤ tm ∧ tm ≤ 9) ∧ p ≤ p1 ∧ p1 ≤ p + 1 ∧ S1 74 = S 74 := by
  have hhC := z_tc_here hC
  have hhM := z_tm_here hM
  have hn := hC.2.2.2.2.2.2
  by_cases g : p < n ∧ 50 ≤ (w p).toInt ∧ (w p).toInt ≤ 57
  · have ec : z_hc w p n = w p := z_hcl g.1
    have em : z_hm w p n = w p := z_hml g.1
    have i1 : ¬ f_X5_here S < Int32.ofInt 50 := by
      rw [hhC, ec, z_ltI2, show (Int32.ofInt 50).toInt = 50 from rfl]
      omega
    have i2 : ¬ Int32.ofInt 57 < f_X5_here S := by
      rw [hhC, ec, z_ltI2, show (Int32.ofInt 57).toInt = 57 from rfl]
      omega
    have hz : ¬ z_in (f_X12_here T) 50 57 = 0 := by
      unfold z_in
      rw [hhM, em, z_pb0, decide_eq_false_iff_not]
      exact not_not_intro g.2
    have e48 : w p - Int32.ofInt 48 = z_i ((w p).toInt - 48).toNat := by
      refine z_inj2 ?_
      rw [z_subI (by rw [show (Int32.ofInt 48).toInt = 48 from rfl]; omega), z_it3 (by omega), show (Int32.ofInt 48).toInt = 48 from rfl]
      omega
    have eb : T 100 p = w p := by
      have := hM.1 p (by omega)
      rw [← this.1]
      exact (z_byt this.2 (by rw [this.1]; omega)).symm
    refine ⟨_, _, p + 1, ((w p).toInt - 48).toNat, ?_, z_tc_adv hC g.1, fun a j q1 q2 => z_sn (by omega), rfl, ?_, ?_, fun b j q => ?_, by omega, by omega, by omega, z_sr (by decide)⟩
    · rw [z_rm2 i1 i2, hhC, ec, e48, hC.2.2.2.2.2.1, hC.2.2.1]
    · unfold f_X12_timesTold
      rw [if_pos hz, hM.2.1, z_i1, z_isub, z_iin (by omega), eb, e48]
    · unfold g_X12_timesTold
      rw [if_pos hz]
      exact z_tm_w hM (fun b j q => z_sn (by omega)) (by rw [z_ss, hM.2.1, z_i1]) (by rw [z_sn (by omega)]; exact hM.2.2.2.2.1) (by rw [z_sn (by omega)]; exact hM.2.2.2.2.2.1) (by rw [z_sn (by omega)]; exact hM.2.2.2.2.2.2.1) (by omega) hM.2.2.2.2.2.2.2.2.2.1 hM.2.2.2.2.2.2.2.2.2.2
    · unfold g_X12_timesTold
      rw [if_pos hz]
      exact z_sn q
  · have i1 : f_X5_here S < Int32.ofInt 50 ∨ Int32.ofInt 57 < f_X5_here S := by
      rw [hhC, z_ltI2, z_ltI2, show (Int32.ofInt 50).toInt = 50 from rfl, show (Int32.ofInt 57).toInt = 57 from rfl]
      by_cases q : p < n
      · rw [z_hcl q]
        omega
      · left
        rw [show z_hc w p n = Int32.ofInt (-1) from if_neg q]
        decide
    have hz : ¬ ¬ z_in (f_X12_here T) 50 57 = 0 := by
      unfold z_in
      rw [hhM, z_pb0, decide_eq_false_iff_not]
      refine not_not_intro ?_
      by_cases q : p < n
      · rw [z_hml q]
        omega
      · rw [show z_hm w p n = Int32.ofInt 0 from if_neg q]
        decide
    refine ⟨S, T, p, 1, ?_, hC, fun _ _ _ _ => rfl, ?_, ?_, hM, fun _ _ _ => rfl, by omega, by omega, by omega, rfl⟩
    · rw [z_rm1 i1, hC.2.2.2.2.2.1, hC.2.2.1]
      rfl
    · unfold g_X12_timesTold
      rw [if_neg hz]
    · unfold f_X12_timesTold
      rw [if_neg hz]
      rfl
/-- a month, told so many times, in the reference -/
theorem z_244 {w : Nat → Int32} {n M a p tm : Nat} {bg : Int32} (hp : p < n) (ht : M + tm ≤ 48) : ∀ (d i : Nat) (T : v_Sf), i + d = tm → z_tm w T p n M a bg → ∃ U, (∃ N, z_itr (fun p : Int32 × v_Sf => s_X12_monthTold_244 (z_i tm) p.1 p.2) N (z_i i, T) = some U) ∧ (∀ b j, ¬ (b = 99 ∧ (j = 3 ∨ j = 64 ∨ j = 66)) → ¬ (b = 133 ∧ M + i ≤ j) → U b j = T b j) ∧ U 99 64 = z_i (M + tm) ∧ U 99 66 = Int32.ofInt 1 ∧ U 99 3 = z_i (p + 1) ∧ ∀ k, i ≤ k → k < tm → (w p = Int32.ofInt 46 → U 133 (M + k) = Int32.ofInt (-1)) ∧ (¬ w p = Int32.ofInt 46 → U 133 (M + k) = w p - Int32.ofInt 65) := by
  intro d
  induction d with
  | zero =>
    intro i T hi h
    refine ⟨z_s (z_s (z_s T 99 64 (T 99 64 + z_i tm)) 99 66 (Int32.ofInt 1)) 99 3 (T 99 3 + Int32.ofInt 1), ⟨1, z_itr_r (s := fun p : Int32 × v_Sf => s_X12_monthTold_244 (z_i tm) p.1 p.2) ?_⟩, fun b j q1 q2 => ?_, ?_, ?_, ?_, fun k h1 h2 => by omega⟩
    · show s_X12_monthTold_244 (z_i tm) (z_i i) T = _
      unfold s_X12_monthTold_244
      rw [if_pos (by rw [z_ile (by omega) (by omega)]; omega)]
    · rw [z_sn (by omega), z_sn (by omega), z_sn (by omega)]
    · rw [z_sn (by omega), z_sn (by omega), z_ss, h.2.2.2.2.1, z_iadd]
    · rw [z_sn (by omega), z_ss]
    · rw [z_ss, h.2.1, z_i1]
  | succ d ih =>
    intro i T hi h
    have hh : f_X12_here T = w p := by rw [z_tm_here h, z_hml hp]
    obtain ⟨v, hv1, hv2, s1⟩ : ∃ v, (w p = Int32.ofInt 46 → v = Int32.ofInt (-1)) ∧ (¬ w p = Int32.ofInt 46 → v = w p - Int32.ofInt 65) ∧ s_X12_monthTold_244 (z_i tm) (z_i i) T = Sum.inl (z_i (i + 1), z_s T 133 (M + i) v) := by
      by_cases q : w p = Int32.ofInt 46
      · refine ⟨Int32.ofInt (-1), fun _ => rfl, fun m => absurd q m, ?_⟩
        unfold s_X12_monthTold_244
        rw [if_neg (by rw [z_ile (by omega) (by omega)]; omega), hh, if_neg (not_not_intro q), h.2.2.2.2.1, z_iadd, z_iin (by omega), z_i1]
      · refine ⟨w p - Int32.ofInt 65, fun m => absurd m q, fun _ => rfl, ?_⟩
        unfold s_X12_monthTold_244
        rw [if_neg (by rw [z_ile (by omega) (by omega)]; omega), hh, if_pos q, h.2.2.2.2.1, z_iadd, z_iin (by omega), z_i1]
    have h2 : z_tm w (z_s T 133 (M + i) v) p n M a bg := z_tm_w h (fun b j q => z_sn (by omega)) (by rw [z_sn (by omega)]; exact h.2.1) (by rw [z_sn (by omega)]; exact h.2.2.2.2.1) (by rw [z_sn (by omega)]; exact h.2.2.2.2.2.1) (by rw [z_sn (by omega)]; exact h.2.2.2.2.2.2.1) (by omega) h.2.2.2.2.2.2.2.2.2.1 h.2.2.2.2.2.2.2.2.2.2
    obtain ⟨U, ⟨N, hN⟩, f1, f2, f3, f4, f5⟩ := ih (i + 1) _ (by omega) h2
    refine ⟨U, ⟨N + 1, (z_itr_l (s := fun p : Int32 × v_Sf => s_X12_monthTold_244 (z_i tm) p.1 p.2) s1).trans hN⟩, fun b j q1 q2 => ?_, f2, f3, f4, fun k h1 h2 => ?_⟩
    · rw [f1 b j q1 (by omega), z_sn (by omega)]
    · by_cases q : k = i
      · rw [q, f1 133 (M + i) (by omega) (by omega), z_ss]
        exact ⟨hv1, hv2⟩
      · exact f5 k (by omega) h2
noncomputable def z_MON (w : Nat → Int32) (x : Int32) (n : Nat) (g : v_Sf → v_Sf) (a : Nat) : Prop := ∀ (S T : v_Sf) (p M : Nat) (bg : Int32), z_tc w S p n M → z_tm w T p n M a bg → z_tb S T M → ¬ (z_hc w p n = Int32.ofInt 41 ∧ 0 < a ∧ ¬ bg = 0) → (p = n → 0 < a) →
  (g S 66 6 < 0 ∧ ∃ U, z_zT x T (g S 66 6, U) ∧ z_gF T U) ∨ (∃ T' p' M', z_tc w (g S) p' n M' ∧ z_tm w T' p' n M' a (Int32.ofInt 1) ∧ z_tb (g S) T' M' ∧ p < p' ∧ M < M' ∧ z_gC M S (g S) ∧ z_gM M a T T' ∧ ∀ Y, z_zT x T' Y → z_zT x T Y)
noncomputable def z_MONS (w : Nat → Int32) (x : Int32) (n : Nat) (g : v_Sf → v_Sf) (a : Nat) : Prop := ∀ (S T : v_Sf) (p M : Nat) (bg : Int32), z_tc w S p n M → z_tm w T p n M a bg → z_tb S T M → ¬ (z_hc w p n = Int32.ofInt 41 ∧ 0 < a ∧ ¬ bg = 0) → (p = n → 0 < a) →
  (g S 66 6 < 0 ∧ ∃ U, z_zT x T (g S 66 6, U) ∧ z_gF T U) ∨ (∃ T' p' M', z_tc w (g S) p' n M' ∧ z_tm w T' p' n M' a (Int32.ofInt 1) ∧ z_tb (g S) T' M' ∧ p < p' ∧ M < M' ∧ z_gC M S (g S) ∧ z_gM M a T T' ∧ (p' = n ∨ z_hc w p' n = Int32.ofInt 41) ∧ ∀ Y, z_zT x T' Y → z_zT x T Y)
/-- a single month -/
theorem z_one {w : Nat → Int32} (hw : z_by w) {x : Int32} {S1 T T1 : v_Sf} {p p1 n M a tm : Nat} {bg bg1 : Int32} (hC : z_tc w S1 p1 n M) (hT : z_tm w T p n M a bg) (hM : z_tm w T1 p1 n M a bg1) (htb : z_tb S1 T1 M) (ht : 1 ≤ tm ∧ tm ≤ 9) (hp1 : p1 < n) (hpp : p ≤ p1) (fT : ∀ b j, ¬ (b = 99 ∧ j = 3) → T1 b j = T b j) {l : Int32} (hl : (w p1 = Int32.ofInt 46 ∧ l = Int32.ofInt (-2)) ∨ (¬ w p1 = Int32.ofInt 46 ∧ l = w p1 - Int32.ofInt 65 ∧ 65 ≤ (w p1).toInt ∧ (w p1).toInt ≤ 74)) (hmt : g_X12_monthTold T = (if (T1 99 64 + z_i tm) ≤ Int32.ofInt 48 then (if ¬ (f_X12_isGood T1) = 0 then z_lim (fun p => s_X12_monthTold_244 (z_i tm) p.1 p.2) T ((Int32.ofInt 0), T1) else T1) else (if ¬ (f_X12_isGood (g_X12_wrongs (Int32.ofInt 6) (T 99 3) T1)) = 0 then z_lim (fun p => s_X12_monthTold_244 (z_i tm) p.1 p.2) T ((Int32.ofInt 0), (g_X12_wrongs (Int32.ofInt 6) (T 99 3) T1)) else g_X12_wrongs (Int32.ofInt 6) (T 99 3) T1))) {S' : v_Sf} (hS' : S' = (if ¬ g_X5_writeMonth l S1 66 6 = 0 then g_X5_writeMonth l S1 else g_X5_repeat (z_i M) (z_i tm) (z_i p) (g_X5_writeMonth l S1))) : (S' 66 6 < 0 ∧ ∃ U, z_zT x T (S' 66 6, U) ∧ z_gF T U) ∨ (∃ T' p' M', z_tc w S' p' n M' ∧ z_tm w T' p' n M' a (Int32.ofInt 1) ∧ z_tb S' T' M' ∧ p < p' ∧ M < M' ∧ z_gC M S1 S' ∧ z_gM M a T T' ∧ ∀ Y, z_zT x T' Y → z_zT x T Y) := by
  have hn := hT.2.2.2.2.2.2.2
  have E : g_X5_writeMonth l S1 = z_s (z_s (z_s S1 66 4 ((S1 66 4) + (Int32.ofInt 1))) 74 M l) 66 3 (z_i (M + 1)) := by
    unfold g_X5_writeMonth
    rw [hC.2.2.2.2.2.1, if_neg (by rw [show Int32.ofNat 49 = z_i 49 by decide, z_ile (by omega) (by omega)]; omega), z_iin (by omega), z_i1]
  have cZ : z_tc w (g_X5_writeMonth l S1) (p1 + 1) n (M + 1) := by
    rw [E]
    have ad := z_tc_adv hC hp1
    obtain ⟨h1, h2, h3, h4, h5, h6, h7, h8, h9⟩ := ad
    refine ⟨fun i hi => ?_, ?_, ?_, ?_, ?_, z_ss, h7, h8, by omega⟩
    · rw [z_sn (by omega), z_sn (by omega)]
      exact h1 i hi
    · rw [z_sn (by omega), z_sn (by omega)]
      exact h2
    · rw [z_sn (by omega), z_sn (by omega)]
      exact h3
    · rw [z_sn (by omega), z_sn (by omega)]
      exact h4
    · rw [z_sn (by omega), z_sn (by omega)]
      exact h5
  have fZ : z_gC M S1 (g_X5_writeMonth l S1) := by
    rw [E]
    exact fun a j q1 q2 => by rw [z_sn (by omega), z_sn (by omega), z_sn (by omega)]
  have vZ : g_X5_writeMonth l S1 74 M = l := by rw [E, z_sn (by omega), z_ss]
  rw [if_neg (not_not_intro cZ.2.2.2.2.1)] at hS'
  have e64 : T1 99 64 + z_i tm = z_i (M + tm) := by rw [hM.2.2.2.2.1, z_iadd]
  rw [e64, hT.2.1] at hmt
  rcases z_rep_c (M := M) (once := 1) (times := tm) (i := p) cZ (Nat.le_refl _) ht (by omega) with ⟨q, r1, r2, r3⟩ | ⟨q, r1⟩
  · rw [Nat.one_mul] at q r1 r3
    rw [if_pos (by rw [show Int32.ofInt 48 = z_i 48 from rfl, z_ile (by omega) (by omega)]; exact q), if_pos (z_good1 hM.2.2.2.1)] at hmt
    obtain ⟨U, ⟨N, hN⟩, f1, f2, f3, f4, f5⟩ := z_244 hp1 q tm 0 T1 (by omega) hM
    have hU : g_X12_monthTold T = U := by
      rw [hmt]
      exact z_lim_eq hN
    rw [hS']
    refine Or.inr ⟨U, p1 + 1, M + tm, r1, z_tm_w hM (fun b j q => f1 b j (by omega) (by omega)) f4 f2 ?_ f3 (by omega) q hM.2.2.2.2.2.2.2.2.2.2, ?_, by omega, by omega, z_gC_t fZ r2 (by omega), fun b j q1 q2 q3 => ?_, fun Y hY => z_zT_m hT (by omega) (by rw [hU]; exact hY)⟩
    · rw [f1 _ _ (by omega) (by omega)]
      exact hM.2.2.2.2.2.1
    · intro j hj
      by_cases g : j < M
      · rw [r2 74 j (by omega) (by omega), fZ 74 j (by omega) (by omega), f1 133 j (by omega) (by omega)]
        exact htb j g
      · have k := r3 (j - M) (by omega)
        have k2 := f5 (j - M) (by omega) (by omega)
        rw [show M + (j - M) = j by omega] at k k2
        rw [Nat.mod_one, Nat.add_zero, vZ] at k
        rw [k]
        rcases hl with ⟨l1, l2⟩ | ⟨l1, l2, l3⟩
        · rw [l2, k2.1 l1]
          exact Or.inl ⟨rfl, rfl⟩
        · rw [l2, k2.2 l1]
          have es : (w p1 - Int32.ofInt 65).toInt = (w p1).toInt - 65 := z_subI (by rw [show (Int32.ofInt 65).toInt = 65 from rfl]; omega)
          exact Or.inr ⟨rfl, by omega, by omega⟩
    · rw [f1 b j (by omega) (by omega), fT b j (by omega)]
  · rw [Nat.one_mul] at q
    have n6 := z_phi_n (c := 6) (p := p) (by decide) (by omega)
    rw [if_neg (by rw [show Int32.ofInt 48 = z_i 48 from rfl, z_ile (by omega) (by omega)]; exact q), z_tm_wrong hM 6 p, if_neg (not_not_intro (z_bad (by rw [z_ss]; exact z_ng n6)))] at hmt
    rw [hS', r1]
    refine Or.inl ⟨n6, _, z_zT_m hT (by omega) (Y := (z_phi 6 p, z_s T1 99 5 (z_phi 6 p))) ?_, fun b j q1 q2 => ?_⟩
    · rw [hmt]
      have := z_zT_b (x := x) (T := z_s T1 99 5 (z_phi 6 p)) (by rw [z_ss]; exact n6)
      rw [z_ss] at this
      exact this
    · rw [z_sn (by omega), fT b j (by omega)]
end PrtS43w
section PrtS43x
/-! timetables: groups, all months -/
theorem z_sk_wrm (l : Int32) (S : v_Sf) : g_X5_writeMonth l S 66 6 = S 66 6 := by
  unfold g_X5_writeMonth
  split
  · exact z_sk_adv _ _
  · rw [z_sn (by omega), z_sn (by omega), z_sk_adv]
theorem z_sk_rpl (x4 x5 : Int32) : ∀ (r : Nat) (x6 : Int32) (S : v_Sf), r_X5_repeat_37 x4 x5 r x6 S 66 6 = S 66 6 := by
  intro r
  induction r with
  | zero =>
    intro x6 S
    rw [r_X5_repeat_37, z_sn (by omega)]
  | succ r ih =>
    intro x6 S
    rw [r_X5_repeat_37]
    split
    · rw [z_sn (by omega)]
    · split
      · rw [z_sn (by omega)]
      · rw [ih, z_sn (by omega)]
theorem z_sk_rpt {a b i : Int32} {S : v_Sf} (h : S 66 6 < 0) : g_X5_repeat a b i S 66 6 = S 66 6 := by
  unfold g_X5_repeat F_X5_repeat
  split
  · exact z_sk_rpl _ _ _ _ _
  · exact z_sk_fail h
theorem z_sk_grp {φG : Int32 → v_Sf → v_Sf} (hk : ∀ b, z_sk (φG b)) (a : Int32) : z_sk (g_readGroupF φG a) := by
  intro S h
  unfold g_readGroupF F_readGroupF
  split
  · have k := hk (a + Int32.ofInt 1) (z_s S 66 4 ((S 66 4) + (Int32.ofInt 1))) (by rw [z_sk_adv]; exact h)
    rw [z_sk_adv] at k
    rw [z_sk_expect (by rw [k]; exact h), k]
  · exact z_sk_fail h
theorem z_sk_mZ {φG : Int32 → v_Sf → v_Sf} (hk : ∀ b, z_sk (φG b)) (a : Int32) : z_sk (z_mZ φG a) := by
  intro S h
  unfold z_mZ
  split
  · split
    · split
      · exact z_sk_fail h
      · split
        · exact z_sk_fail h
        · exact z_sk_wrm _ _
    · exact z_sk_wrm _ _
  · exact z_sk_grp hk a S h
theorem z_sk_mW {φG : Int32 → v_Sf → v_Sf} (hk : ∀ b, z_sk (φG b)) (a M t f : Int32) : z_sk (z_mW φG a M t f) := by
  intro S h
  have k := z_sk_mZ hk a S h
  unfold z_mW
  split
  · exact k
  · rw [z_sk_rpt (by rw [k]; exact h), k]
theorem z_sk_mon {φG : Int32 → v_Sf → v_Sf} (hk : ∀ b, z_sk (φG b)) (a : Int32) : z_sk (g_readMonthF φG a) := by
  intro S h
  by_cases c : f_X5_here S < Int32.ofInt 50 ∨ Int32.ofInt 57 < f_X5_here S
  · rw [z_rm1 c]
    exact z_sk_mW hk _ _ _ _ S h
  · rw [z_rm2 (fun q => c (Or.inl q)) (fun q => c (Or.inr q)), z_sk_mW hk _ _ _ _ _ (by rw [z_sk_adv]; exact h), z_sk_adv]
theorem z_sk_mns {φG : Int32 → v_Sf → v_Sf} (hk : ∀ b, z_sk (φG b)) (a : Int32) : ∀ (r k : Nat), z_sk (r_readMonthsF_2 φG a r k) := by
  intro r
  induction r with
  | zero =>
    intro k S h
    rw [r_readMonthsF_2]
  | succ r ih =>
    intro k S h
    have m := z_sk_mon hk a S h
    rw [r_readMonthsF_2]
    split
    · exact m
    · split
      · rw [ih _ _ (by rw [m]; exact h), m]
      · exact m
theorem z_sk_rdM : ∀ (f : Nat) (a : Int32), z_sk (g_rdM f a) := by
  intro f
  induction f with
  | zero =>
    intro a
    rw [g_rdM]
    exact z_sk_mns (fun _ _ _ => rfl) a _ _
  | succ f ih =>
    intro a
    rw [g_rdM]
    exact z_sk_mns ih a _ _
theorem z_mon_ok {w : Nat → Int32} (hw : z_by w) {x : Int32} {n : Nat} {φG : Int32 → v_Sf → v_Sf} {a : Nat} (ha : a ≤ 2) (hk : ∀ b, z_sk (φG b)) (hG : a < 2 → z_MONS w x n (φG (z_i (a + 1))) (a + 1)) : z_MON w x n (g_readMonthF φG (z_i a)) a := by
  intro S T p M bg hC hM htb h41 hpn
  obtain ⟨S1, T1, p1, tm, e1, c1, f1, t1, t2, m1, ft, htm, hp, hp1, e74⟩ := z_times hw (φG := φG) (a' := z_i a) hC hM
  have hn := hC.2.2.2.2.2.2
  have hn1 := c1.2.2.2.2.2.2
  have hhC := z_tc_here c1
  have hhM := z_tm_here m1
  have tb1 : z_tb S1 T1 M := fun j hj => by
    rw [e74, ft 133 j (by omega)]
    exact htb j hj
  rw [e1]
  by_cases hlt : p < n
  · have hR : g_X12_monthTold T = z_mtR T := by
      refine z_mt_R ?_
      by_cases q : z_hc w p n = Int32.ofInt 41
      · right
        by_cases q2 : 0 < a
        · right
          rw [hM.2.2.2.2.2.2.1]
          exact Classical.byContradiction (fun m => h41 ⟨q, q2, m⟩)
        · left
          rw [hM.2.2.2.2.2.1, show a = 0 by omega]
          decide
      · left
        rw [z_tm_here hM]
        exact fun m => q ((z_hcm (by decide)).mpr m)
    unfold z_mtR at hR
    rw [t1, t2, hhM] at hR
    by_cases c40 : z_hc w p1 n = Int32.ofInt 40
    · have m40 := (z_hcm (by decide)).mp c40
      have hlt1 := z_hlt (by decide) c40
      have eZ : z_mZ φG (z_i a) S1 = g_readGroupF φG (z_i a) S1 := by
        unfold z_mZ
        rw [hhC, if_neg (not_not_intro c40)]
      rw [if_neg (not_not_intro m40)] at hR
      rcases Nat.lt_or_ge a 2 with h2 | h2
      · have n2 : ¬ T1 99 65 = Int32.ofInt 2 := by
          rw [m1.2.2.2.2.2.1, show Int32.ofInt 2 = z_i 2 from rfl, z_inj (by omega) (by omega)]
          omega
        rw [if_pos n2, if_pos (z_good1 m1.2.2.2.1), m1.2.2.2.2.2.1, m1.2.2.2.2.1, m1.2.1, hM.2.1, z_i1, z_i1, z_iin (by omega)] at hR
        generalize hT2 : z_s (z_s (z_s (z_s (z_s (z_s T1 134 a (z_i M)) 135 a (z_i tm)) 136 a (z_i p)) 99 65 (z_i (a + 1))) 99 66 (Int32.ofInt 0)) 99 3 (z_i (p1 + 1)) = T2 at hR
        have eG : g_readGroupF φG (z_i a) S1 = g_X5_expect (Int32.ofInt 41) (φG (z_i (a + 1)) (z_s S1 66 4 ((S1 66 4) + (Int32.ofInt 1)))) := by
          unfold g_readGroupF F_readGroupF
          rw [if_pos (by rw [show Int32.ofInt 2 = z_i 2 from rfl, z_ilt (by omega) (by omega)]; exact h2), z_i1]
        have fT2 : ∀ b j, ¬ (b = 99 ∧ (j = 3 ∨ j = 65 ∨ j = 66)) → ¬ ((b = 134 ∨ b = 135 ∨ b = 136) ∧ j = a) → T2 b j = T b j := by
          intro b j q1 q2
          rw [← hT2, z_sn (by omega), z_sn (by omega), z_sn (by omega), z_sn (by omega), z_sn (by omega), z_sn (by omega), ft b j (by omega)]
        have mT2 : z_tm w T2 (p1 + 1) n M (a + 1) (Int32.ofInt 0) := by
          refine z_tm_w m1 (fun b j q => ?_) ?_ ?_ ?_ ?_ (by omega) m1.2.2.2.2.2.2.2.2.2.1 (by omega)
          · rw [← hT2, z_sn (by omega), z_sn (by omega), z_sn (by omega), z_sn (by omega), z_sn (by omega), z_sn (by omega)]
          · rw [← hT2, z_ss]
          · rw [← hT2, z_sn (by omega), z_sn (by omega), z_sn (by omega), z_sn (by omega), z_sn (by omega), z_sn (by omega)]
            exact m1.2.2.2.2.1
          · rw [← hT2, z_sn (by omega), z_sn (by omega), z_ss]
          · rw [← hT2, z_sn (by omega), z_ss]
        have g134 : T2 134 a = z_i M := by rw [← hT2, z_sn (by omega), z_sn (by omega), z_sn (by omega), z_sn (by omega), z_sn (by omega), z_ss]
        have g135 : T2 135 a = z_i tm := by rw [← hT2, z_sn (by omega), z_sn (by omega), z_sn (by omega), z_sn (by omega), z_ss]
        have g136 : T2 136 a = z_i p := by rw [← hT2, z_sn (by omega), z_sn (by omega), z_sn (by omega), z_ss]
        have up : ∀ Y, z_zT x T2 Y → z_zT x T Y := fun Y hY => z_zT_m hM hlt (by rw [hR]; exact hY)
        have cA := z_tc_adv c1 hlt1
        have gF2 : z_gF T T2 := fun b j q1 q2 => fT2 b j (by omega) (by omega)
        rcases hG h2 _ _ (p1 + 1) M _ cA mT2 (fun j hj => by rw [z_sn (by omega), e74, fT2 133 j (by omega) (by omega)]; exact htb j hj) (fun q => q.2.2 (by decide)) (fun _ => by omega) with ⟨g1, U, g2, g3⟩ | ⟨T3, p3, M3, d1, d2, d3, d4, d5, d6, d7, d8, d9⟩
        · have k := z_sk_expect (c := Int32.ofInt 41) g1
          have eW : z_mW φG (z_i a) (z_i M) (z_i tm) (z_i p) S1 = g_X5_expect (Int32.ofInt 41) (φG (z_i (a + 1)) (z_s S1 66 4 ((S1 66 4) + (Int32.ofInt 1)))) := by
            unfold z_mW
            rw [eZ, eG, if_pos (by rw [k]; exact z_ng g1)]
          rw [eW, k]
          exact Or.inl ⟨g1, U, up _ g2, fun b j q1 q2 => (g3 b j q1 q2).trans (gF2 b j q1 q2)⟩
        · have hd3 := d2.2.2.2.2.2.2.2
          generalize hB : φG (z_i (a + 1)) (z_s S1 66 4 ((S1 66 4) + (Int32.ofInt 1))) = B at *
          have fB : z_gC M S1 B := fun b j q1 q2 => (d6 b j q1 q2).trans (z_sn (by omega))
          by_cases c41 : z_hc w p3 n = Int32.ofInt 41
          · have hlt3 := z_hlt (by decide) c41
            have cZ := z_tc_adv d1 hlt3
            have eE : g_X5_expect (Int32.ofInt 41) B = z_s B 66 4 (B 66 4 + Int32.ofInt 1) := by
              unfold g_X5_expect
              rw [z_tc_here d1, if_neg (not_not_intro c41)]
            have eW : z_mW φG (z_i a) (z_i M) (z_i tm) (z_i p) S1 = g_X5_repeat (z_i M) (z_i tm) (z_i p) (z_s B 66 4 (B 66 4 + Int32.ofInt 1)) := by
              unfold z_mW
              rw [eZ, eG, eE, if_neg (not_not_intro cZ.2.2.2.2.1)]
            rw [eW]
            have h134 : T3 134 a = z_i M := by rw [d7 134 a (by omega) (by omega) (by omega), g134]
            have h135 : T3 135 a = z_i tm := by rw [d7 135 a (by omega) (by omega) (by omega), g135]
            have h136 : T3 136 a = z_i p := by rw [d7 136 a (by omega) (by omega) (by omega), g136]
            have hCl : g_X12_monthTold T3 = g_X12_repeats (z_i M) (z_i tm) (z_i p) (z_s (z_s T3 99 65 (z_i a)) 99 3 (z_i (p3 + 1))) := by
              rw [z_mt_C (by rw [z_tm_here d2]; exact (z_hcm (by decide)).mp c41) (by rw [d2.2.2.2.2.2.1, show (0 : Int32) = z_i 0 from rfl, z_ile (by omega) (by omega)]; omega) (by rw [d2.2.2.2.2.2.2.1]; decide), d2.2.2.2.2.2.1, d2.2.1, z_isub, z_i1, z_iin (by omega), h134, h135, h136]
            have mT4 : z_tm w (z_s (z_s T3 99 65 (z_i a)) 99 3 (z_i (p3 + 1))) (p3 + 1) n M3 a (Int32.ofInt 1) := by
              refine z_tm_w d2 (fun b j q => ?_) z_ss ?_ ?_ ?_ (by omega) hd3.2.2.1 (by omega)
              · rw [z_sn (by omega), z_sn (by omega)]
              · rw [z_sn (by omega), z_sn (by omega)]
                exact d2.2.2.2.2.1
              · rw [z_sn (by omega), z_ss]
              · rw [z_sn (by omega), z_sn (by omega)]
                exact d2.2.2.2.2.2.2.1
            obtain ⟨o, ho⟩ : ∃ o, M3 = M + o := ⟨M3 - M, by omega⟩
            subst ho
            have rm := z_rep_m (i := p) mT4 (show 1 ≤ o by omega) htm
            rcases z_rep_c (i := p) cZ (show 1 ≤ o by omega) htm (by omega) with ⟨q, r1, r2, r3⟩ | ⟨q, r1⟩
            · obtain ⟨s1, s2, s3⟩ := rm.1 q
              have hle : o ≤ o * tm := Nat.le_mul_of_pos_right o (by omega)
              refine Or.inr ⟨_, p3 + 1, M + o * tm, r1, s1, fun j hj => ?_, by omega, by omega, z_gC_t (z_gC_t f1 (fun b j q1 q2 => (z_sn (by omega)).trans (fB b j q1 q2)) (Nat.le_refl _)) r2 (by omega), fun b j q1 q2 q3 => ?_, fun Y hY => up Y (d9 Y (z_zT_m d2 hlt3 (by rw [hCl]; exact hY)))⟩
              · by_cases g : j < M
                · rw [r2 74 j (by omega) (by omega), z_sn (by omega), s2 133 j (by omega) (by omega) (by omega), z_sn (by omega), z_sn (by omega)]
                  exact d3 j (by omega)
                · have k1 := r3 (j - M) (by omega)
                  have k2 := s3 (j - M) (by omega)
                  have hm := Nat.mod_lt (j - M) (show 0 < o by omega)
                  rw [show M + (j - M) = j by omega] at k1 k2
                  rw [k1, k2, z_sn (by omega), z_sn (by omega), z_sn (by omega)]
                  exact d3 _ (by omega)
              · rw [s2 b j q1 (by omega) (by have := hd3; omega), z_sn (by omega), z_sn (by omega), d7 b j q1 q2 (by omega), fT2 b j (by omega) (by omega)]
            · have n6 := z_phi_n (c := 6) (p := p) (by decide) (by omega)
              have e6 := rm.2 q (by omega)
              rw [r1]
              refine Or.inl ⟨n6, _, up _ (d9 _ (z_zT_m d2 hlt3 (Y := (z_phi 6 p, z_s (z_s (z_s T3 99 65 (z_i a)) 99 3 (z_i (p3 + 1))) 99 5 (z_phi 6 p))) ?_)), fun b j q1 q2 => ?_⟩
              · rw [hCl, e6]
                have := z_zT_b (x := x) (T := z_s (z_s (z_s T3 99 65 (z_i a)) 99 3 (z_i (p3 + 1))) 99 5 (z_phi 6 p)) (by rw [z_ss]; exact n6)
                rw [z_ss] at this
                exact this
              · rw [z_sn (by omega), z_sn (by omega), z_sn (by omega), d7 b j q1 (by omega) (by omega)]
                exact gF2 b j q1 q2
          · have ep : p3 = n := d8.resolve_right c41
            have n1 := z_phi_n (c := 1) (p := n) (by decide) (by omega)
            have eE : g_X5_expect (Int32.ofInt 41) B 66 6 = z_phi 1 n := by
              unfold g_X5_expect
              rw [z_tc_here d1, if_pos c41, d1.2.2.1, ep]
              exact z_tc_fail d1 1 n
            have eW : z_mW φG (z_i a) (z_i M) (z_i tm) (z_i p) S1 = g_X5_expect (Int32.ofInt 41) B := by
              unfold z_mW
              rw [eZ, eG, if_pos (by rw [eE]; exact z_ng n1)]
            rw [eW, eE]
            rw [ep] at d2
            refine Or.inl ⟨n1, _, up _ (d9 _ (z_zT_e d2)), fun b j q1 q2 => ?_⟩
            rw [z_sn (by omega), d7 b j q1 (by omega) (by omega)]
            exact gF2 b j q1 q2
      · obtain rfl : a = 2 := by omega
        have n5 := z_phi_n (c := 5) (p := p1) (by decide) (by omega)
        have e65 : T1 99 65 = Int32.ofInt 2 := m1.2.2.2.2.2.1
        rw [if_neg (not_not_intro e65), m1.2.1, z_tm_wrong m1 5 p1, if_neg (not_not_intro (z_bad (by rw [z_ss]; exact z_ng n5)))] at hR
        have eG : g_readGroupF φG (z_i 2) S1 66 6 = z_phi 5 p1 := by
          unfold g_readGroupF F_readGroupF
          rw [if_neg (by decide), c1.2.2.1]
          exact z_tc_fail c1 5 p1
        have eW : z_mW φG (z_i 2) (z_i M) (z_i tm) (z_i p) S1 = g_readGroupF φG (z_i 2) S1 := by
          unfold z_mW
          rw [eZ, if_pos (by rw [eG]; exact z_ng n5)]
        rw [eW, eG]
        refine Or.inl ⟨n5, _, z_zT_m hM hlt (Y := (z_phi 5 p1, z_s T1 99 5 (z_phi 5 p1))) ?_, fun b j q1 q2 => ?_⟩
        · rw [hR]
          have := z_zT_b (x := x) (T := z_s T1 99 5 (z_phi 5 p1)) (by rw [z_ss]; exact n5)
          rw [z_ss] at this
          exact this
        · rw [z_sn (by omega), ft b j (by omega)]
    · have m40 : ¬ z_hm w p1 n = Int32.ofInt 40 := fun q => c40 ((z_hcm (by decide)).mpr q)
      rw [if_pos m40] at hR
      have ext : ∀ {S' : v_Sf}, (S' 66 6 < 0 ∧ ∃ U, z_zT x T (S' 66 6, U) ∧ z_gF T U) ∨ (∃ T' p' M', z_tc w S' p' n M' ∧ z_tm w T' p' n M' a (Int32.ofInt 1) ∧ z_tb S' T' M' ∧ p < p' ∧ M < M' ∧ z_gC M S1 S' ∧ z_gM M a T T' ∧ ∀ Y, z_zT x T' Y → z_zT x T Y) → (S' 66 6 < 0 ∧ ∃ U, z_zT x T (S' 66 6, U) ∧ z_gF T U) ∨ (∃ T' p' M', z_tc w S' p' n M' ∧ z_tm w T' p' n M' a (Int32.ofInt 1) ∧ z_tb S' T' M' ∧ p < p' ∧ M < M' ∧ z_gC M S S' ∧ z_gM M a T T' ∧ ∀ Y, z_zT x T' Y → z_zT x T Y) := by
        intro S' q
        rcases q with q | ⟨T', p', M', q1, q2, q3, q4, q5, q6, q7, q8⟩
        · exact Or.inl q
        · exact Or.inr ⟨T', p', M', q1, q2, q3, q4, q5, z_gC_t f1 q6 (Nat.le_refl _), q7, q8⟩
      by_cases c46 : z_hc w p1 n = Int32.ofInt 46
      · have m46 := (z_hcm (by decide)).mp c46
        have hlt1 := z_hlt (by decide) c46
        have w46 : w p1 = Int32.ofInt 46 := by rw [← c46, z_hcl hlt1]
        rw [if_pos m46] at hR
        refine ext (z_one hw c1 hM m1 tb1 htm hlt1 hp ft (l := Int32.ofInt (-2)) (Or.inl ⟨w46, rfl⟩) hR ?_)
        unfold z_mW z_mZ
        rw [hhC, if_pos c40, if_neg (not_not_intro c46)]
      · have m46 : ¬ z_hm w p1 n = Int32.ofInt 46 := fun q => c46 ((z_hcm (by decide)).mpr q)
        rw [if_neg m46] at hR
        by_cases cl : p1 < n ∧ 65 ≤ (w p1).toInt ∧ (w p1).toInt ≤ 74
        · have hlt1 := cl.1
          have w46 : ¬ w p1 = Int32.ofInt 46 := by
            rw [← z_hcl (w := w) hlt1]
            exact c46
          rw [if_pos (by unfold z_in; rw [z_hml hlt1, z_pb0, decide_eq_false_iff_not]; exact not_not_intro cl.2)] at hR
          refine ext (z_one hw c1 hM m1 tb1 htm hlt1 hp ft (l := w p1 - Int32.ofInt 65) (Or.inr ⟨w46, rfl, cl.2⟩) hR ?_)
          have eZ : z_mZ φG (z_i a) S1 = g_X5_writeMonth (w p1 - Int32.ofInt 65) S1 := by
            unfold z_mZ
            rw [hhC, if_pos c40, if_pos c46, z_hcl hlt1, if_neg (show ¬ w p1 < Int32.ofInt 65 by rw [z_ltI2, show (Int32.ofInt 65).toInt = 65 from rfl]; omega), if_neg (show ¬ Int32.ofInt 74 < w p1 by rw [z_ltI2, show (Int32.ofInt 74).toInt = 74 from rfl]; omega)]
          unfold z_mW
          rw [eZ]
        · have n1 := z_phi_n (c := 1) (p := p1) (by decide) (by omega)
          have hz : ¬ ¬ z_in (z_hm w p1 n) 65 74 = 0 := by
            unfold z_in
            rw [z_pb0, decide_eq_false_iff_not]
            refine not_not_intro ?_
            by_cases q : p1 < n
            · rw [z_hml q]
              omega
            · rw [show z_hm w p1 n = Int32.ofInt 0 from if_neg q]
              decide
          rw [if_neg hz, m1.2.1, z_tm_wrong m1 1 p1, if_neg (not_not_intro (z_bad (by rw [z_ss]; exact z_ng n1)))] at hR
          have eZ : z_mZ φG (z_i a) S1 = g_X5_fail (Int32.ofInt 1) (S1 66 4) S1 := by
            unfold z_mZ
            rw [hhC, if_pos c40, if_pos c46]
            by_cases q1 : z_hc w p1 n < Int32.ofInt 65
            · rw [if_pos q1]
            · rw [if_neg q1, if_pos]
              rw [z_ltI2, show (Int32.ofInt 74).toInt = 74 from rfl]
              rw [z_ltI2, show (Int32.ofInt 65).toInt = 65 from rfl] at q1
              by_cases q : p1 < n
              · rw [z_hcl q] at q1 ⊢
                omega
              · rw [show z_hc w p1 n = Int32.ofInt (-1) from if_neg q] at q1
                exact absurd (show (Int32.ofInt (-1)).toInt < 65 by decide) q1
          have eF : g_X5_fail (Int32.ofInt 1) (S1 66 4) S1 66 6 = z_phi 1 p1 := by
            rw [c1.2.2.1]
            exact z_tc_fail c1 1 p1
          have eW : z_mW φG (z_i a) (z_i M) (z_i tm) (z_i p) S1 = g_X5_fail (Int32.ofInt 1) (S1 66 4) S1 := by
            unfold z_mW
            rw [eZ, if_pos (by rw [eF]; exact z_ng n1)]
          rw [eW, eF]
          refine Or.inl ⟨n1, _, z_zT_m hM hlt (Y := (z_phi 1 p1, z_s T1 99 5 (z_phi 1 p1))) ?_, fun b j q1 q2 => ?_⟩
          · rw [hR]
            have := z_zT_b (x := x) (T := z_s T1 99 5 (z_phi 1 p1)) (by rw [z_ss]; exact n1)
            rw [z_ss] at this
            exact this
          · rw [z_sn (by omega), ft b j (by omega)]
  · obtain rfl : p = n := by omega
    obtain rfl : p1 = p := by omega
    obtain ⟨a0, rfl⟩ : ∃ a0, a = a0 + 1 := ⟨a - 1, by have := hpn rfl; omega⟩
    have n1 := z_phi_n (c := 1) (p := p1) (by decide) (by omega)
    have hm1 : f_X5_here S1 = Int32.ofInt (-1) := by
      rw [hhC]
      exact if_neg (by omega)
    have eF : g_X5_fail (Int32.ofInt 1) (S1 66 4) S1 66 6 = z_phi 1 p1 := by
      rw [c1.2.2.1]
      exact z_tc_fail c1 1 p1
    have eZ : z_mZ φG (z_i (a0 + 1)) S1 = g_X5_fail (Int32.ofInt 1) (S1 66 4) S1 := by
      unfold z_mZ
      rw [hm1, if_pos (by decide), if_pos (by decide), if_pos (by decide)]
    have eW : z_mW φG (z_i (a0 + 1)) (z_i M) (z_i tm) (z_i p1) S1 = g_X5_fail (Int32.ofInt 1) (S1 66 4) S1 := by
      unfold z_mW
      rw [eZ, if_pos (by rw [eF]; exact z_ng n1)]
    rw [eW, eF]
    exact Or.inl ⟨n1, _, z_zT_e hM, fun b j q1 q2 => z_sn (by omega)⟩
theorem z_mons_l {w : Nat → Int32} {x : Int32} {n : Nat} {φG : Int32 → v_Sf → v_Sf} {a : Nat} (hk : ∀ b, z_sk (φG b)) (hF : z_MON w x n (g_readMonthF φG (z_i a)) a) : ∀ (r k : Nat) (S T : v_Sf) (p M : Nat) (bg : Int32), n - p ≤ r → 1 ≤ r → z_tc w S p n M → z_tm w T p n M a bg → z_tb S T M → ¬ (z_hc w p n = Int32.ofInt 41 ∧ 0 < a ∧ ¬ bg = 0) → (p = n → 0 < a) →
    (r_readMonthsF_2 φG (z_i a) r k S 66 6 < 0 ∧ ∃ U, z_zT x T (r_readMonthsF_2 φG (z_i a) r k S 66 6, U) ∧ z_gF T U) ∨ (∃ T' p' M', z_tc w (r_readMonthsF_2 φG (z_i a) r k S) p' n M' ∧ z_tm w T' p' n M' a (Int32.ofInt 1) ∧ z_tb (r_readMonthsF_2 φG (z_i a) r k S) T' M' ∧ p < p' ∧ M < M' ∧ z_gC M S (r_readMonthsF_2 φG (z_i a) r k S) ∧ z_gM M a T T' ∧ (p' = n ∨ z_hc w p' n = Int32.ofInt 41) ∧ ∀ Y, z_zT x T' Y → z_zT x T Y) := by
  intro r
  induction r with
  | zero =>
    intro k S T p M bg _ h1
    omega
  | succ r ih =>
    intro k S T p M bg hr _ hC hM htb h41 hpn
    have E := r_readMonthsF_2.eq_2 φG (z_i a) k S r
    rcases hF S T p M bg hC hM htb h41 hpn with ⟨g1, U, g2, g3⟩ | ⟨T', p', M', d1, d2, d3, d4, d5, d6, d7, d9⟩
    · have e : r_readMonthsF_2 φG (z_i a) (r + 1) k S 66 6 = g_readMonthF φG (z_i a) S 66 6 := by
        rw [E]
        split
        · rfl
        · split
          · exact z_sk_mns hk _ _ _ _ g1
          · rfl
      rw [e]
      exact Or.inl ⟨g1, U, g2, g3⟩
    · have hn' := d1.2.2.2.2.2.2
      rw [d1.2.2.1, d1.2.2.2.1, z_tc_here d1] at E
      by_cases q : p' = n
      · rw [if_pos (by rw [z_ile (by omega) (by omega)]; omega)] at E
        rw [E]
        exact Or.inr ⟨T', p', M', d1, d2, d3, d4, d5, d6, d7, Or.inl q, d9⟩
      · rw [if_neg (by rw [z_ile (by omega) (by omega)]; omega)] at E
        by_cases q2 : z_hc w p' n = Int32.ofInt 41
        · rw [if_neg (not_not_intro q2)] at E
          rw [E]
          exact Or.inr ⟨T', p', M', d1, d2, d3, d4, d5, d6, d7, Or.inr q2, d9⟩
        · rw [if_pos q2] at E
          rw [E]
          rcases ih (k + 1) _ T' p' M' (Int32.ofInt 1) (by omega) (by omega) d1 d2 d3 (fun m => q2 m.1) (fun m => absurd m q) with ⟨g1, U, g2, g3⟩ | ⟨T2, p2, M2, e1, e2, e3, e4, e5, e6, e7, e8, e9⟩
          · exact Or.inl ⟨g1, U, d9 _ g2, z_gF_M d7 g3⟩
          · exact Or.inr ⟨T2, p2, M2, e1, e2, e3, by omega, by omega, z_gC_t d6 e6 (by omega), z_gM_t d7 e7 (by omega) (Nat.le_refl _), e8, fun Y hY => d9 Y (e9 Y hY)⟩
theorem z_rdM_ok {w : Nat → Int32} (hw : z_by w) {x : Int32} {n : Nat} : ∀ (f a : Nat), a ≤ 2 → 2 ≤ a + f → z_MONS w x n (g_rdM f (z_i a)) a := by
  intro f
  induction f with
  | zero =>
    intro a ha h2 S T p M bg hC hM htb h41 hpn
    have k0 : ∀ b : Int32, z_sk ((fun (_ : Int32) (S : v_Sf) => S) b) := fun _ _ _ => rfl
    rw [g_rdM]
    exact z_mons_l k0 (z_mon_ok hw ha k0 (fun q => by omega)) 60 0 S T p M bg (by have := hC.2.2.2.2.2.2; omega) (by omega) hC hM htb h41 hpn
  | succ f ih =>
    intro a ha h2 S T p M bg hC hM htb h41 hpn
    rw [g_rdM]
    exact z_mons_l (z_sk_rdM f) (z_mon_ok hw ha (z_sk_rdM f) (fun q => ih (a + 1) (by omega) (by omega))) 60 0 S T p M bg (by have := hC.2.2.2.2.2.2; omega) (by omega) hC hM htb h41 hpn
end PrtS43x
section PrtS43y
/-! timetables: the whole text -/
theorem z_111 {wd M : Nat} (hw : wd < 6) (hM : M ≤ 48) : ∀ (d i : Nat) (T : v_Sf), i + d = M → T 99 64 = z_i M → ∃ U, (∃ N, z_itr (fun p : Int32 × v_Sf => s_X12_timetable_111 (z_i wd) p.1 p.2) N (z_i i, T) = some (z_i M, U)) ∧ (∀ b j, ¬ (b = 126 ∧ 48 * wd + i ≤ j ∧ j < 48 * wd + M) → ¬ ((b = 127 ∨ b = 128) ∧ j = wd) → U b j = T b j) ∧ U 127 wd = z_i M ∧ U 128 wd = Int32.ofInt 0 ∧ ∀ j, i ≤ j → j < M → U 126 (48 * wd + j) = T 133 j := by
  have ew : (z_i wd).toInt.toNat = wd := z_iin (by omega)
  intro d
  induction d with
  | zero =>
    intro i T hi h
    refine ⟨z_s (z_s T 127 wd (z_i M)) 128 wd (Int32.ofInt 0), ⟨1, z_itr_r (s := fun p : Int32 × v_Sf => s_X12_timetable_111 (z_i wd) p.1 p.2) ?_⟩, fun b j q1 q2 => ?_, ?_, z_ss, fun j h1 h2 => by omega⟩
    · show s_X12_timetable_111 (z_i wd) (z_i i) T = _
      unfold s_X12_timetable_111
      rw [h, if_pos (by rw [z_ile (by omega) (by omega)]; omega), ew]
    · rw [z_sn (by omega), z_sn (by omega)]
    · rw [z_sn (by omega), z_ss]
  | succ d ih =>
    intro i T hi h
    have s1 : s_X12_timetable_111 (z_i wd) (z_i i) T = Sum.inl (z_i (i + 1), z_s T 126 (48 * wd + i) (T 133 i)) := by
      unfold s_X12_timetable_111
      rw [h, if_neg (by rw [z_ile (by omega) (by omega)]; omega), z_i1, show Int32.ofInt 48 = z_i 48 from rfl, z_mulI, z_iadd, z_iin (by omega), z_iin (by omega)]
    obtain ⟨U, ⟨N, hN⟩, f1, f2, f3, f4⟩ := ih (i + 1) (z_s T 126 (48 * wd + i) (T 133 i)) (by omega) (by rw [z_sn (by omega)]; exact h)
    refine ⟨U, ⟨N + 1, (z_itr_l (s := fun p : Int32 × v_Sf => s_X12_timetable_111 (z_i wd) p.1 p.2) s1).trans hN⟩, fun b j q1 q2 => ?_, f2, f3, fun j h1 h2 => ?_⟩
    · rw [f1 b j (by omega) q2, z_sn (by omega)]
    · by_cases q : j = i
      · rw [q, f1 _ _ (by omega) (by omega), z_ss]
      · rw [f4 j (by omega) h2, z_sn (by omega)]
theorem z_tt_ok {e : Nat} (he : z_cd e) {w : Nat → Int32} (hw : z_by w) {S T : v_Sf} {n wd : Nat} (h46 : ∀ i, i < 260 → S 46 i = w i) (h100 : ∀ i, i < 260 → T 100 i &&& Int32.ofInt 255 = w i ∧ -128 ≤ (T 100 i).toInt ∧ (T 100 i).toInt ≤ 127) (hn : 1 ≤ n ∧ n ≤ 60) (hs : z_i n ≤ S 45 1) (hs2 : z_i n ≤ T 99 1) (hwd : wd < 6) :
    (f_X5_readTimetable e (z_i n) S < 0 ∧ ∃ U, F_X12_timetable (z_i wd) (z_i n) T = (f_X5_readTimetable e (z_i n) S, U) ∧ (∀ b j, ¬ (b = 99 ∧ (j = 1 ∨ j = 3 ∨ j = 4 ∨ j = 5 ∨ j = 64 ∨ j = 65 ∨ j = 66)) → ¬ (133 ≤ b ∧ b ≤ 136) → U b j = T b j) ∧ U 99 1 = 0) ∨
    (∃ M U, 1 ≤ M ∧ M ≤ 48 ∧ f_X5_readTimetable e (z_i n) S = z_i M ∧ F_X12_timetable (z_i wd) (z_i n) T = (z_i M, U) ∧ (∀ j, j < M → z_ls (g_X5_readTimetable e (z_i n) S 74 j) (U 126 (48 * wd + j))) ∧ U 127 wd = z_i M ∧ U 128 wd = Int32.ofInt 0 ∧ (∀ b j, ¬ (b = 99 ∧ (j = 1 ∨ j = 3 ∨ j = 4 ∨ j = 5 ∨ j = 64 ∨ j = 65 ∨ j = 66)) → ¬ (133 ≤ b ∧ b ≤ 136) → ¬ (b = 126 ∧ 48 * wd ≤ j ∧ j < 48 * wd + M) → ¬ ((b = 127 ∨ b = 128) ∧ j = wd) → U b j = T b j) ∧ U 99 1 = 0) := by
  have hcd := z_cdn he
  generalize hS0 : g_X5_begin e (z_i n) S = S0
  generalize hT0 : z_s (z_s (z_s (g_X12_begins (z_i n) T) 99 64 (Int32.ofInt 0)) 99 65 (Int32.ofInt 0)) 99 66 (Int32.ofInt 0) = T0
  have c0 : z_tc w S0 0 n 0 := by
    rw [← hS0]
    unfold g_X5_begin g_X1_clear
    refine ⟨fun i hi => ?_, ?_, ?_, ?_, ?_, ?_, by omega, by omega, by omega⟩
    · rw [z_sn (by omega), z_sn (by omega), z_sn (by omega), z_sn (by omega), z_sn (by omega), z_sn (by omega)]
      exact h46 i hi
    · rw [z_sn (by omega), z_sn (by omega), z_sn (by omega), z_sn (by omega), z_sn (by omega), z_sn (by omega)]
      exact hs
    · rw [z_sn (by omega), z_sn (by omega), z_ss]
      rfl
    · rw [z_sn (by omega), z_ss]
    · rw [z_ss]
      rfl
    · rw [z_sn (by omega), z_sn (by omega), z_sn (by omega), z_ss]
      rfl
  have fT0 : ∀ b j, ¬ (b = 99 ∧ (j = 1 ∨ j = 3 ∨ j = 4 ∨ j = 5 ∨ j = 64 ∨ j = 65 ∨ j = 66)) → T0 b j = T b j := by
    intro b j q
    rw [← hT0]
    unfold g_X12_begins
    rw [z_sn (by omega), z_sn (by omega), z_sn (by omega), z_sn (by omega), z_sn (by omega), z_sn (by omega), z_sn (by omega)]
  have t1 : T0 99 1 = 0 := by
    rw [← hT0]
    unfold g_X12_begins
    rw [z_sn (by omega), z_sn (by omega), z_sn (by omega), z_sn (by omega), z_sn (by omega), z_sn (by omega), z_ss]
    rfl
  have m0 : z_tm w T0 0 n 0 0 (Int32.ofInt 0) := by
    refine ⟨fun i hi => ?_, ?_, ?_, ?_, ?_, ?_, ?_, by omega, by omega, by omega, by omega⟩
    · rw [fT0 100 i (by omega)]
      exact h100 i hi
    · rw [← hT0]
      unfold g_X12_begins
      rw [z_sn (by omega), z_sn (by omega), z_sn (by omega), z_sn (by omega), z_sn (by omega), z_ss]
      rfl
    · rw [← hT0]
      unfold g_X12_begins
      rw [z_sn (by omega), z_sn (by omega), z_sn (by omega), z_sn (by omega), z_ss]
    · rw [← hT0]
      unfold g_X12_begins
      rw [z_sn (by omega), z_sn (by omega), z_sn (by omega), z_ss]
      rfl
    · rw [← hT0, z_sn (by omega), z_sn (by omega), z_ss]
      rfl
    · rw [← hT0, z_sn (by omega), z_ss]
      rfl
    · rw [← hT0, z_ss]
  have EM : ∀ Y, z_zT (z_i wd) T0 Y → F_X12_timetable (z_i wd) (z_i n) T = Y := by
    rintro Y ⟨N, hN⟩
    unfold F_X12_timetable
    rw [if_neg (by unfold f_X12_isWard z_in; rw [z_it3 (by omega), decide_eq_true (by omega)]; decide), if_neg (by unfold z_in; rw [z_pb0, decide_eq_false_iff_not, z_it3 (by omega)]; omega), if_pos hs2, hT0]
    exact z_lim_eq hN
  have ef : f_X5_readTimetable e (z_i n) S = (if (g_rdM 2 (z_i 0) S0 66 5) ≤ (g_rdM 2 (z_i 0) S0 66 4) then (if (g_rdM 2 (z_i 0) S0 66 6) = 0 then g_rdM 2 (z_i 0) S0 66 3 else g_rdM 2 (z_i 0) S0 66 6) else (if ((g_X5_fail (Int32.ofInt 1) (g_rdM 2 (z_i 0) S0 66 4) (g_rdM 2 (z_i 0) S0)) 66 6) = 0 then (g_X5_fail (Int32.ofInt 1) (g_rdM 2 (z_i 0) S0 66 4) (g_rdM 2 (z_i 0) S0)) 66 3 else (g_X5_fail (Int32.ofInt 1) (g_rdM 2 (z_i 0) S0 66 4) (g_rdM 2 (z_i 0) S0)) 66 6)) := by
    rw [← hS0]
    rfl
  have eg : g_X5_readTimetable e (z_i n) S = (if (g_rdM 2 (z_i 0) S0 66 5) ≤ (g_rdM 2 (z_i 0) S0 66 4) then g_rdM 2 (z_i 0) S0 else g_X5_fail (Int32.ofInt 1) (g_rdM 2 (z_i 0) S0 66 4) (g_rdM 2 (z_i 0) S0)) := by
    rw [← hS0]
    rfl
  rcases z_rdM_ok hw (x := z_i wd) (n := n) 2 0 (by omega) (by omega) S0 T0 0 0 (Int32.ofInt 0) c0 m0 (fun j hj => by omega) (fun q => by omega) (fun q => by omega) with ⟨g1, U, g2, g3⟩ | ⟨T', p', M', d1, d2, d3, d4, d5, d6, d7, d8, d9⟩
  · have e1 : f_X5_readTimetable e (z_i n) S = g_rdM 2 (z_i 0) S0 66 6 := by
      rw [ef]
      split
      · rw [if_neg (z_ng g1)]
      · rw [z_sk_fail g1, if_neg (z_ng g1)]
    rw [e1]
    refine Or.inl ⟨g1, U, EM _ g2, fun b j q1 q2 => (g3 b j (by omega) q2).trans (fT0 b j q1), ?_⟩
    rw [g3 99 1 (by omega) (by omega), t1]
  · have hn' := d1.2.2.2.2.2.2
    by_cases q : p' = n
    · subst q
      have le : (g_rdM 2 (z_i 0) S0 66 5) ≤ (g_rdM 2 (z_i 0) S0 66 4) := by
        rw [d1.2.2.1, d1.2.2.2.1]
        exact Int32.le_refl _
      rw [if_pos le, if_pos d1.2.2.2.2.1, d1.2.2.2.2.2.1] at ef
      rw [if_pos le] at eg
      obtain ⟨U, ⟨N, hN⟩, f1, f2, f3, f4⟩ := z_111 hwd d2.2.2.2.2.2.2.2.2.2.1 M' 0 T' (by omega) d2.2.2.2.2.1
      have hz : z_zT (z_i wd) T' (z_i M', U) := by
        refine ⟨1, z_itr_r (s := fun p => s_X12_timetable_49 (z_i wd) p) ?_⟩
        show s_X12_timetable_49 (z_i wd) T' = _
        unfold s_X12_timetable_49
        rw [if_neg (z_good1 d2.2.2.2.1), if_pos (by rw [d2.2.1, d2.2.2.1]; exact Int32.le_refl _), if_pos (by rw [d2.2.2.2.2.2.1]; decide), if_pos (by rw [d2.2.2.2.1]; decide)]
        exact congrArg Sum.inr (z_lim_eq hN)
      refine Or.inr ⟨M', U, by omega, d2.2.2.2.2.2.2.2.2.2.1, ef, EM _ (d9 _ hz), fun j hj => ?_, f2, f3, fun b j q1 q2 q3 q4 => ?_, ?_⟩
      · rw [eg, f4 j (by omega) hj]
        exact d3 j hj
      · rw [f1 b j (by omega) q4, d7 b j (by omega) (by omega) (by omega), fT0 b j q1]
      · rw [f1 99 1 (by omega) (by omega), d7 99 1 (by omega) (by omega) (by omega), t1]
    · have c41 := d8.resolve_left q
      have m41 := (z_hcm (by decide)).mp c41
      have n1 := z_phi_n (c := 1) (p := p') (by decide) (by omega)
      have le : ¬ (g_rdM 2 (z_i 0) S0 66 5) ≤ (g_rdM 2 (z_i 0) S0 66 4) := by
        rw [d1.2.2.1, d1.2.2.2.1, z_ile (by omega) (by omega)]
        omega
      have eF : g_X5_fail (Int32.ofInt 1) (g_rdM 2 (z_i 0) S0 66 4) (g_rdM 2 (z_i 0) S0) 66 6 = z_phi 1 p' := by
        rw [d1.2.2.1]
        exact z_tc_fail d1 1 p'
      rw [if_neg le, eF, if_neg (z_ng n1)] at ef
      have hR : g_X12_monthTold T' = z_s T' 99 5 (z_phi 1 p') := by
        rw [z_mt_R (Or.inr (Or.inl (by rw [d2.2.2.2.2.2.1]; decide)))]
        have ht : ¬ ¬ z_in (f_X12_here T') 50 57 = 0 := by
          rw [z_tm_here d2, m41]
          decide
        have et : g_X12_timesTold T' = T' := by
          unfold g_X12_timesTold
          rw [if_neg ht]
        unfold z_mtR
        rw [et, z_tm_here d2, m41, if_pos (by decide), if_neg (by decide), if_neg (by decide), d2.2.1, z_tm_wrong d2 1 p', if_neg (not_not_intro (z_bad (by rw [z_ss]; exact z_ng n1)))]
      rw [ef]
      refine Or.inl ⟨n1, z_s T' 99 5 (z_phi 1 p'), EM _ (d9 _ (z_zT_m d2 (by omega) ?_)), fun b j q1 q2 => ?_, ?_⟩
      · rw [hR]
        have := z_zT_b (x := z_i wd) (T := z_s T' 99 5 (z_phi 1 p')) (by rw [z_ss]; exact n1)
        rw [z_ss] at this
        exact this
      · rw [z_sn (by omega), d7 b j (by omega) (by omega) (by omega), fT0 b j q1]
      · rw [z_sn (by omega), d7 99 1 (by omega) (by omega) (by omega), t1]
end PrtS43y
