/-! taught: the reference's words, and both together -/
theorem z_ieqN {a b : Nat} (ha : a < 2147483648) (hb : b < 2147483648) (h : z_i a = z_i b) : a = b := by
  have := congrArg (fun z => z.toInt.toNat) h
  simp only [z_iin ha, z_iin hb] at this
  exact this
theorem z_hasM {X g : Nat} (hg : g < 12) : (f_X12_has (z_i X) (z_i g) = 0) ↔ X.testBit g = false := by
  have e : (z_i g).toInt = (g : Int) := z_it3 (by omega)
  exact Iff.trans (z_has (h := z_i X) (l := z_i g) (by rw [e]; omega)).symm (z_isInN hg)
def z_I14 (N : Nat → Nat) (hb w g : Nat) (S0 : v_Sf) (x1 x3 x4 : Int32) (S : v_Sf) : Prop := S = S0 ∧ x1 = z_i g ∧ ∃ m, x3 = z_i (z_tur (fun k => z_nt (N k) hb) m (z_nt w hb)) ∧ (x4 = 0 → z_ps (fun k => z_nt (N k) hb) 10 0 (z_tur (fun k => z_nt (N k) hb) m (z_nt w hb)) = z_tur (fun k => z_nt (N k) hb) m (z_nt w hb))
def z_I25 (N : Nat → Nat) (hb w g : Nat) (S0 : v_Sf) (x1 x3 x5 x6 : Int32) (S : v_Sf) : Prop := S = S0 ∧ x1 = z_i g ∧ ∃ m k y, k ≤ 10 ∧ y < 1024 ∧ x6 = z_i k ∧ x5 = z_i (z_tur (fun k => z_nt (N k) hb) m (z_nt w hb)) ∧ x3 = z_i y ∧ z_ps (fun k => z_nt (N k) hb) (10 - k) k y = z_ps (fun k => z_nt (N k) hb) 10 0 (z_tur (fun k => z_nt (N k) hb) m (z_nt w hb))
def z_Ifr (S0 S : v_Sf) : Prop := ∀ a j, ¬ (a = 99 ∧ j = 107) → a ≠ 161 → S a j = S0 a j
def z_I95 (N : Nat → Nat) (due hb : Nat) (S0 : v_Sf) (x3 x5 : Int32) (S : v_Sf) : Prop := z_Ifr S0 S ∧ ∃ k, S 99 107 = z_i k ∧ x3 = z_i (z_stq N due hb k).1 ∧ x5 = z_i (z_stq N due hb k).2 ∧ (∀ j, j < k → z_ord1 N due hb j < 10) ∧ ∀ j, j < k → S 161 j = z_i (z_ord1 N due hb j)
def z_I102 (N : Nat → Nat) (due hb : Nat) (S0 : v_Sf) (x3 x5 x6 : Int32) (S : v_Sf) : Prop := z_Ifr S0 S ∧ ∃ k h, S 99 107 = z_i k ∧ x3 = z_i (z_stq N due hb k).1 ∧ x5 = z_i (z_stq N due hb k).2 ∧ (∀ j, j < k → z_ord1 N due hb j < 10) ∧ (∀ j, j < k → S 161 j = z_i (z_ord1 N due hb j)) ∧ ¬ (z_stq N due hb k).1 = 0 ∧ h ≤ 10 ∧ x6 = z_i h ∧ z_fr N (z_stq N due hb k).1 (z_stq N due hb k).2 (10 - h) h = z_ord1 N due hb k
def z_KL (N : Nat → Nat) (due hb : Nat) (v : Int32) (S1 : v_Sf) : Prop := (v = Int32.ofInt 1 ∧ S1 99 107 = z_i (z_cn due 10) ∧ (∀ j, j < z_cn due 10 → z_ord1 N due hb j < 10) ∧ ∀ j, j < z_cn due 10 → S1 161 j = z_i (z_ord1 N due hb j)) ∨ (v = Int32.ofInt 0 ∧ ¬ ∀ j, j < z_cn due 10 → z_ord1 N due hb j < 10)
section TR
variable {N : Nat → Nat} {hb w g due : Nat} {S0 : v_Sf}
theorem z_l14 (hg : g < 12) (hw : w < 1024) (hN : ∀ k, k < 10 → N k < 1024 ∧ S0 132 k = z_i (N k)) (h122 : S0 122 g = z_i hb) (hdue : due = z_tur (fun k => z_nt (N k) hb) 10 (z_nt w hb)) (x1 x3 x4 : Int32) (S : v_Sf) (h : z_I14 N hb w g S0 x1 x3 x4 S) : D_X12_laysLessons_14 (z_I14 N hb w g S0) (z_I25 N hb w g S0) (z_I95 N due hb S0) (z_I102 N due hb S0) (z_KL N due hb) x1 x3 x4 S := by
  have hM : ∀ k, k < 10 → (fun k => z_nt (N k) hb) k < 1024 := fun k hk => z_nt_lt hb (hN k hk).1
  have hx : z_nt w hb < 1024 := z_nt_lt hb hw
  obtain ⟨rfl, rfl, m, rfl, h4⟩ := h
  unfold D_X12_laysLessons_14
  refine ⟨fun q _ _ => ?_, fun _ => ?_⟩
  · have e := z_tur_eq hM hx (h4 q)
    rw [e, ← hdue, z_iin (show g < 2147483648 by omega), h122]
    exact ⟨fun a j h1 _ => z_sn h1, 0, z_ss, rfl, rfl, fun j hj => absurd hj (Nat.not_lt_zero j), fun j hj => absurd hj (Nat.not_lt_zero j)⟩
  · exact ⟨rfl, rfl, m, 0, _, Nat.zero_le 10, z_tur_lt hM m _ hx, rfl, rfl, rfl, rfl⟩
theorem z_l25 (hg : g < 12) (hw : w < 1024) (hN : ∀ k, k < 10 → N k < 1024 ∧ S0 132 k = z_i (N k)) (h122 : S0 122 g = z_i hb) (x1 x3 x5 x6 : Int32) (S : v_Sf) (h : z_I25 N hb w g S0 x1 x3 x5 x6 S) : D_X12_laysLessons_25 (z_I14 N hb w g S0) (z_I25 N hb w g S0) (z_I95 N due hb S0) (z_I102 N due hb S0) (z_KL N due hb) x1 x3 x5 x6 S := by
  have hM : ∀ k, k < 10 → (fun k => z_nt (N k) hb) k < 1024 := fun k hk => z_nt_lt hb (hN k hk).1
  have hx : z_nt w hb < 1024 := z_nt_lt hb hw
  obtain ⟨rfl, rfl, m, k, y, hk, hy, rfl, rfl, rfl, e⟩ := h
  have hl := z_tur_lt hM m _ hx
  unfold D_X12_laysLessons_25
  rw [show Int32.ofInt 10 = z_i 10 from rfl, z_ile (by omega) (by omega)]
  refine ⟨fun q => ?_, fun q => ?_⟩
  · obtain rfl : k = 10 := by omega
    have e1 : y = z_ps (fun k => z_nt (N k) hb) 10 0 (z_tur (fun k => z_nt (N k) hb) m (z_nt w hb)) := e
    have e2 : y = z_tur (fun k => z_nt (N k) hb) (m + 1) (z_nt w hb) := e1.trans (z_tur_s m _).symm
    refine ⟨fun r => ⟨rfl, rfl, m + 1, congrArg z_i e2, fun _ => ?_⟩, fun r => ⟨rfl, rfl, m + 1, congrArg z_i e2, fun z => absurd z (by decide)⟩⟩
    have r2 : y = z_tur (fun k => z_nt (N k) hb) m (z_nt w hb) := z_ieqN (by omega) (by omega) r
    rw [← e2]
    exact (congrArg (z_ps (fun k => z_nt (N k) hb) 10 0) r2).trans e1.symm
  · rw [show 10 - k = (10 - (k + 1)) + 1 by omega, z_ps] at e
    have hh := z_hasM (X := y) (g := k) (by omega)
    refine ⟨fun r => ?_, fun r _ _ _ _ => ?_⟩
    · have t := hh.mp r
      rw [if_neg (by rw [t]; exact fun m => Bool.noConfusion m)] at e
      exact ⟨rfl, rfl, m, k + 1, y, by omega, hy, z_i1 k, rfl, rfl, e⟩
    · have t : y.testBit k = true := by
        have : ¬ y.testBit k = false := fun z => r (hh.mpr z)
        simpa using this
      rw [if_pos t] at e
      refine ⟨rfl, rfl, m, k + 1, y ||| z_nt (N k) hb, by omega, Nat.or_lt_two_pow (n := 10) hy (z_nt_lt hb (hN k (by omega)).1), z_i1 k, rfl, ?_, e⟩
      rw [z_iin (show k < 2147483648 by omega), z_iin (show g < 2147483648 by omega), (hN k (by omega)).2, h122, z_anot, z_orN]
theorem z_l95 (hd : due < 1024) (x3 x5 : Int32) (S : v_Sf) (h : z_I95 N due hb S0 x3 x5 S) : D_X12_laysLessons_95 (z_I14 N hb w g S0) (z_I25 N hb w g S0) (z_I95 N due hb S0) (z_I102 N due hb S0) (z_KL N due hb) x3 x5 S := by
  obtain ⟨hf, k, h107, rfl, rfl, ho, h161⟩ := h
  have lt := z_stq_lt (N := N) (had := hb) hd k
  unfold D_X12_laysLessons_95
  refine ⟨fun q => ?_, fun q => ⟨hf, k, 0, h107, rfl, rfl, ho, h161, fun z => q (by rw [z]; rfl), Nat.zero_le 10, rfl, rfl⟩⟩
  have d0 : (z_stq N due hb k).1 = 0 := z_ieqN (by omega) (by omega) (show z_i _ = z_i 0 from q)
  have c := z_stq_cn k ho
  rw [d0, show z_cn 0 10 = 0 from rfl] at c
  have ek : z_cn due 10 = k := by omega
  unfold z_KL
  rw [ek]
  exact Or.inl ⟨rfl, h107, ho, h161⟩
theorem z_l102 (hd : due < 1024) (hN : ∀ k, k < 10 → N k < 1024 ∧ S0 132 k = z_i (N k)) (x3 x5 x6 : Int32) (S : v_Sf) (h : z_I102 N due hb S0 x3 x5 x6 S) : D_X12_laysLessons_102 (z_I14 N hb w g S0) (z_I25 N hb w g S0) (z_I95 N due hb S0) (z_I102 N due hb S0) (z_KL N due hb) x3 x5 x6 S := by
  obtain ⟨hf, k, h, h107, rfl, rfl, ho, h161, n0, hh, rfl, hfr⟩ := h
  have lt := z_stq_lt (N := N) (had := hb) hd k
  have c := z_stq_cn k ho
  have cd := z_cnkU due 10
  have kL : k < z_cn due 10 := by
    obtain ⟨i, hi⟩ := Nat.exists_testBit_of_ne_zero n0
    have := z_cn_lt (z_hi10 lt hi) hi
    omega
  have h10 : (z_i h = Int32.ofInt 10) ↔ h = 10 := ⟨fun z => z_ieqN (by omega) (by omega) (show z_i h = z_i 10 from z), fun z => by rw [z]; rfl⟩
  unfold D_X12_laysLessons_102
  rw [h10, show Int32.ofInt 10 = z_i 10 from rfl, z_ile (by omega) (by omega)]
  refine ⟨fun q => ⟨fun r => absurd (show h = 10 by omega) r, fun _ => Or.inr ⟨rfl, fun z => ?_⟩⟩, fun q => ?_⟩
  · obtain rfl : h = 10 := by omega
    have z2 := z k kL
    rw [← hfr] at z2
    exact absurd (show (10 : Nat) < 10 from z2) (by decide)
  · rw [show 10 - h = (10 - (h + 1)) + 1 by omega, z_fr] at hfr
    have hb2 := z_hasM (X := (z_stq N due hb k).1) (g := h) (by omega)
    have s132 : S 132 h = z_i (N h) := (hf 132 h (by omega) (by omega)).trans (hN h (by omega)).2
    have lt2 := z_nt_lt (z_stq N due hb k).2 (hN h (by omega)).1
    rw [z_iin (show h < 2147483648 by omega), s132, z_anot, h107, z_iin (show k < 2147483648 by omega)]
    refine ⟨fun r => ?_, fun r _ _ => ⟨fun s => ⟨fun _ _ _ => ?_, fun t => absurd (show ¬ h = 10 by omega) t⟩, fun s => ?_⟩⟩
    · have t := hb2.mp r
      rw [if_neg (fun m => by rw [t] at m; exact Bool.noConfusion m.1)] at hfr
      exact ⟨hf, k, h + 1, h107, rfl, rfl, ho, h161, n0, by omega, z_i1 h, hfr⟩
    · have t : (z_stq N due hb k).1.testBit h = true := by
        have : ¬ (z_stq N due hb k).1.testBit h = false := fun z => r (hb2.mpr z)
        simpa using this
      have s2 : z_nt (N h) (z_stq N due hb k).2 = 0 := z_ieqN (by omega) (by omega) (show z_i _ = z_i 0 from s)
      rw [if_pos ⟨t, s2⟩] at hfr
      have e3 : Int32.ofInt 1 <<< (z_i h &&& 31) = z_i (2 ^ h) := z_sh_all ⟨h, by omega⟩
      rw [e3, z_anot, z_orN, z_i1]
      refine ⟨fun a j h1 h2 => by rw [z_sn h1, z_sn (by omega)]; exact hf a j h1 h2, k + 1, z_ss, ?_, ?_, fun j hj => ?_, fun j hj => ?_⟩
      · exact congrArg z_i (congrArg (fun q => z_nt (z_stq N due hb k).1 (2 ^ q)) hfr)
      · exact congrArg z_i (congrArg (fun q => (z_stq N due hb k).2 ||| 2 ^ q) hfr)
      · by_cases e : j = k
        · rw [e, ← hfr]
          omega
        · exact ho j (by omega)
      · by_cases e : j = k
        · rw [e, z_sn (by omega), z_ss, hfr]
        · rw [z_sn (by omega), z_sn (by omega)]
          exact h161 j (by omega)
    · have s2 : ¬ z_nt (N h) (z_stq N due hb k).2 = 0 := fun z => s (by rw [z]; rfl)
      rw [if_neg (fun m => s2 m.2)] at hfr
      exact ⟨hf, k, h + 1, h107, rfl, rfl, ho, h161, n0, by omega, z_i1 h, hfr⟩
theorem z_lays (L : Nat) (xs : Nat → Int32) (n d : Nat) {R : v_Rf} (hg : g < 12) (hw : w < 1024) (hN : ∀ k, k < 10 → N k < 1024 ∧ S0 132 k = z_i (N k)) (h122 : S0 122 g = z_i hb) (hdue : due = z_tur (fun k => z_nt (N k) hb) 10 (z_nt w hb)) : u_P L xs n d m_X12_laysLessons 0 (lv_args 0 [.ref 100, .int (z_i g), .int (z_i w)]) [] S0 R (z_Q R (z_KL N due hb)) := by
  have hd : due < 1024 := by
    rw [hdue]
    exact z_tur_lt (fun k hk => z_nt_lt hb (hN k hk).1) 10 _ (z_nt_lt hb hw)
  refine w_X12_laysLessons L xs (z_i g) (z_i w) (z_I14 N hb w g S0) (z_I25 N hb w g S0) (z_I95 N due hb S0) (z_I102 N due hb S0) (z_KL N due hb) (z_l14 hg hw hN h122 hdue) (z_l25 hg hw hN h122) (z_l95 hd) (z_l102 hd hN) n d S0 ?_
  unfold D_X12_laysLessons
  intro _ _
  refine ⟨rfl, rfl, 0, ?_, fun z => absurd z (by decide)⟩
  rw [z_iin (show g < 2147483648 by omega), h122, z_anot]
  rfl
end TR
theorem z_laysT (L : Nat) (xs : Nat → Int32) (n d : Nat) (a b : Int32) (S : v_Sf) (R : v_Rf) : u_P L xs n d m_X12_laysLessons 0 (lv_args 0 [.ref 100, .int a, .int b]) [] S R (z_Q R (fun _ _ => True)) :=
  w_X12_laysLessons L xs a b (fun _ _ _ _ => True) (fun _ _ _ _ _ => True) (fun _ _ _ => True) (fun _ _ _ _ => True) (fun _ _ => True) (fun x1 x3 x4 S _ => ⟨fun _ _ _ => trivial, fun _ => trivial⟩) (fun x1 x3 x5 x6 S _ => ⟨fun _ => ⟨fun _ => trivial, fun _ => trivial⟩, fun _ => ⟨fun _ => trivial, fun _ _ _ _ _ => trivial⟩⟩) (fun x3 x5 S _ => ⟨fun _ => trivial, fun _ => trivial⟩) (fun x3 x5 x6 S _ => ⟨fun _ => ⟨fun _ _ _ => trivial, fun _ => trivial⟩, fun _ => ⟨fun _ => trivial, fun _ _ _ => ⟨fun _ => ⟨fun _ _ _ => trivial, fun _ => trivial⟩, fun _ => trivial⟩⟩⟩) n d S (fun _ _ => trivial)
def z_Hy (g a : Int32) (S : v_Sf) : Prop := (0 ≤ g.toInt ∧ g.toInt ≤ 11) ∧ (0 ≤ a.toInt ∧ a.toInt ≤ 1023) ∧ (0 ≤ (S 122 g.toInt.toNat).toInt ∧ (S 122 g.toInt.toNat).toInt ≤ 1023) ∧ ∀ k, k < 10 → 0 ≤ (S 132 k).toInt ∧ (S 132 k).toInt ≤ 1023
def z_tN (S : v_Sf) (k : Nat) : Nat := (S 132 k).toInt.toNat
def z_tH (g : Int32) (S : v_Sf) : Nat := (S 122 g.toInt.toNat).toInt.toNat
def z_tD (g a : Int32) (S : v_Sf) : Nat := z_tur (fun k => z_nt (z_tN S k) (z_tH g S)) 10 (z_nt a.toInt.toNat (z_tH g S))
def K_X12_laysLessons (g a : Int32) (S : v_Sf) (v : Int32) (S1 : v_Sf) : Prop := z_Hy g a S → z_KL (z_tN S) (z_tD g a S) (z_tH g S) v S1
theorem c_X12_laysLessons (L : Nat) (xs : Nat → Int32) (n d : Nat) (a b : Int32) (S : v_Sf) (R : v_Rf) : u_P L xs n d m_X12_laysLessons 0 (lv_args 0 [.ref 100, .int a, .int b]) [] S R (z_Q R (K_X12_laysLessons a b S)) := by
  by_cases h : z_Hy a b S
  · obtain ⟨h1, h2, h3, h4⟩ := id h
    have e1 : z_i a.toInt.toNat = a := z_ofN h1.1
    have e2 : z_i b.toInt.toNat = b := z_ofN h2.1
    have k := z_lays L xs n d (R := R) (g := a.toInt.toNat) (w := b.toInt.toNat) (hb := z_tH a S) (N := z_tN S) (S0 := S) (due := z_tD a b S) (by omega) (by omega) (fun k hk => ⟨by have := h4 k hk; unfold z_tN; omega, (z_ofN (h4 k hk).1).symm⟩) (z_ofN h3.1).symm rfl
    rw [e1, e2] at k
    exact u_mono k (fun r S1 R1 ⟨v, hv, hR, hk⟩ => ⟨v, hv, hR, fun _ => hk⟩)
  · exact u_mono (z_laysT L xs n d a b S R) (fun r S1 R1 ⟨v, hv, hR, _⟩ => ⟨v, hv, hR, fun m => absurd m h⟩)
def D_X12_taught (g : Int32) (a : Int32) (b : Int32)  (K : Int32 → v_Sf → Prop) (S : v_Sf) : Prop := (((f_X12_isTold g S) = 0 → K (Int32.ofInt (-1)) S) ∧ (¬ ((f_X12_isTold g S) = 0) → (((¬ (f_X12_areHabits a) = 0) → (∀ (v3 : Int32) (S4 : v_Sf), K_X12_laysLessons g a S v3 S4 → (((¬ v3 = 0) → ((b = (Int32.ofInt 20) → K (S4 99 107) S4) ∧ (¬ (b = (Int32.ofInt 20)) → (((¬ (z_in b 0 (((S4 99 107) - (Int32.ofInt 1))).toInt) = 0) → (0 ≤ b.toInt → b.toInt < 10 → K (S4 161 b.toInt.toNat) S4)) ∧ (¬ (¬ (z_in b 0 (((S4 99 107) - (Int32.ofInt 1))).toInt) = 0) → K (Int32.ofInt (-4)) S4))))) ∧ (¬ (¬ v3 = 0) → K (Int32.ofInt (-2)) S4)))) ∧ (¬ (¬ (f_X12_areHabits a) = 0) → K (Int32.ofInt (-1)) S))))
set_option maxRecDepth 4000 in
theorem w_X12_taught (L : Nat) (xs : Nat → Int32) {R : v_Rf} (g : Int32) (a : Int32) (b : Int32)  (K : Int32 → v_Sf → Prop)  (n d : Nat) (S : v_Sf) (hD : D_X12_taught g a b K S) : u_P L xs n d m_X12_taught 0 (lv_args 0 [.ref 100, .int g, .int a, .int b]) [] S R (z_Q R K) := by
  unfold D_X12_taught at hD
  show u_P L xs n d m_X12_taught 0 [(0, .ref 100), (1, .int g), (2, .int a), (3, .int b)] [] S R _
  refine u_st rfl (fun _ => rfl) ?_
  refine u_st rfl (fun _ => rfl) ?_
  show u_P L xs n d m_X12_taught 2 [(0, .ref 100), (1, .int g), (2, .int a), (3, .int b)] [.int g, .ref 100] S R _
  refine u_cv (rest := []) rfl (by decide) mt_X12_isTold v_tyM rfl rfl rfl (Nat.le_of_ble_eq_true rfl) (Nat.le_of_ble_eq_true rfl) (Nat.le_of_ble_eq_true rfl) (fun d' => c_X12_isTold L xs n d' g S R) ?_
  rintro _ _ _ ⟨_, rfl, rfl, rfl, rfl⟩
  show u_P L xs n d m_X12_taught 5 [(0, .ref 100), (1, .int g), (2, .int a), (3, .int b)] [.int (f_X12_isTold g S)] S R _
  refine u_if_eq rfl (fun h1 => ?_) (fun h1 => ?_)
  · have hD := hD.1 h1
    show u_P L xs n d m_X12_taught 15 [(0, .ref 100), (1, .int g), (2, .int a), (3, .int b)] [] S R _
    refine u_st rfl (fun _ => rfl) ?_
    show u_P L xs n d m_X12_taught 16 [(0, .ref 100), (1, .int g), (2, .int a), (3, .int b)] [.int (Int32.ofInt (-1))] S R _
    exact u_ret rfl rfl ⟨_, rfl, rfl, hD⟩
  · have hD := hD.2 h1
    show u_P L xs n d m_X12_taught 8 [(0, .ref 100), (1, .int g), (2, .int a), (3, .int b)] [] S R _
    refine u_st rfl (fun _ => rfl) ?_
    show u_P L xs n d m_X12_taught 9 [(0, .ref 100), (1, .int g), (2, .int a), (3, .int b)] [.int a] S R _
    refine u_cs (ac := [.int a]) (rest := []) rfl (by decide) mt_X12_areHabits (fun _ => rfl) (Nat.le_of_ble_eq_true rfl) (Nat.le_of_ble_eq_true rfl) (fun d' => c_X12_areHabits L xs n d' a S R) ?_
    rintro _ _ _ ⟨_, rfl, rfl, rfl, rfl⟩
    show u_P L xs n d m_X12_taught 12 [(0, .ref 100), (1, .int g), (2, .int a), (3, .int b)] [.int (f_X12_areHabits a)] S R _
    refine u_if_ne rfl (fun h2 => ?_) (fun h2 => ?_)
    · have hD := hD.1 h2
      show u_P L xs n d m_X12_taught 17 [(0, .ref 100), (1, .int g), (2, .int a), (3, .int b)] [] S R _
      refine u_st rfl (fun _ => rfl) ?_
      refine u_st rfl (fun _ => rfl) ?_
      refine u_st rfl (fun _ => rfl) ?_
      show u_P L xs n d m_X12_taught 20 [(0, .ref 100), (1, .int g), (2, .int a), (3, .int b)] [.int a, .int g, .ref 100] S R _
      refine u_cv (rest := []) rfl (by decide) mt_X12_laysLessons v_tyM rfl rfl rfl (Nat.le_of_ble_eq_true rfl) (Nat.le_of_ble_eq_true rfl) (Nat.le_of_ble_eq_true rfl) (fun d' => c_X12_laysLessons L xs n d' g a S R) ?_
      rintro _ S4 _ ⟨v3, rfl, rfl, q5⟩
      have hD := hD v3 S4 q5
      show u_P L xs n d m_X12_taught 23 [(0, .ref 100), (1, .int g), (2, .int a), (3, .int b)] [.int v3] S4 R _
      refine u_if_ne rfl (fun h6 => ?_) (fun h6 => ?_)
      · have hD := hD.1 h6
        show u_P L xs n d m_X12_taught 29 [(0, .ref 100), (1, .int g), (2, .int a), (3, .int b)] [] S4 R _
        refine u_st rfl (fun _ => rfl) ?_
        refine u_st rfl (fun _ => rfl) ?_
        show u_P L xs n d m_X12_taught 32 [(0, .ref 100), (1, .int g), (2, .int a), (3, .int b)] [.int (Int32.ofInt 20), .int b] S4 R _
        refine u_ic_eq rfl (fun h7 => ?_) (fun h7 => ?_)
        · have hD := hD.1 h7
          show u_P L xs n d m_X12_taught 54 [(0, .ref 100), (1, .int g), (2, .int a), (3, .int b)] [] S4 R _
          refine u_st rfl (fun _ => rfl) ?_
          refine u_st rfl (fun _ => rfl) ?_
          show u_P L xs n d m_X12_taught 57 [(0, .ref 100), (1, .int g), (2, .int a), (3, .int b)] [.int (Int32.ofInt 20), .int b] S4 R _
          refine u_ic_ne rfl (fun h8 => absurd h7 h8) (fun _ => ?_)
          show u_P L xs n d m_X12_taught 60 [(0, .ref 100), (1, .int g), (2, .int a), (3, .int b)] [] S4 R _
          refine u_st rfl (fun _ => rfl) ?_
          show u_P L xs n d m_X12_taught 61 [(0, .ref 100), (1, .int g), (2, .int a), (3, .int b)] [.ref 100] S4 R _
          refine u_getE (v := S4 99 107) rfl v_tyM rfl rfl ?_
          refine u_st rfl (fun _ => rfl) ?_
          show u_P L xs n d m_X12_taught 73 [(0, .ref 100), (1, .int g), (2, .int a), (3, .int b)] [.int (S4 99 107)] S4 R _
          exact u_ret rfl rfl ⟨_, rfl, rfl, hD⟩
        · have hD := hD.2 h7
          show u_P L xs n d m_X12_taught 35 [(0, .ref 100), (1, .int g), (2, .int a), (3, .int b)] [] S4 R _
          refine u_st rfl (fun _ => rfl) ?_
          refine u_st rfl (fun _ => rfl) ?_
          refine u_st rfl (fun _ => rfl) ?_
          refine u_st rfl (fun _ => rfl) ?_
          show u_P L xs n d m_X12_taught 39 [(0, .ref 100), (1, .int g), (2, .int a), (3, .int b)] [.ref 100, .long (Int64.ofNat 0), .long b.toInt64] S4 R _
          refine u_getE (v := S4 99 107) rfl v_tyM rfl rfl ?_
          refine u_st rfl (fun _ => rfl) ?_
          refine u_st rfl (fun _ => rfl) ?_
          refine u_st rfl (fun _ => rfl) ?_
          show u_P L xs n d m_X12_taught 45 [(0, .ref 100), (1, .int g), (2, .int a), (3, .int b)] [.long (((S4 99 107) - (Int32.ofInt 1)).toInt64), .long (Int64.ofNat 0), .long b.toInt64] S4 R _
          refine u_cs (ac := [.long b.toInt64, .long (Int64.ofNat 0), .long (((S4 99 107) - (Int32.ofInt 1)).toInt64)]) (rest := []) rfl (by decide) mt_X12_lies (fun _ => rfl) (Nat.le_of_ble_eq_true rfl) (Nat.le_of_ble_eq_true rfl) (fun d' => z_liesC L xs n d' b (Int64.ofNat 0) (((S4 99 107) - (Int32.ofInt 1)).toInt64) (lo := 0) (hi := (((S4 99 107) - (Int32.ofInt 1))).toInt) rfl (q_i2l _) S4 R) ?_
          rintro _ _ _ ⟨_, rfl, rfl, rfl, rfl⟩
          show u_P L xs n d m_X12_taught 48 [(0, .ref 100), (1, .int g), (2, .int a), (3, .int b)] [.int (z_in b 0 (((S4 99 107) - (Int32.ofInt 1))).toInt)] S4 R _
          refine u_if_ne rfl (fun h9 => ?_) (fun h9 => ?_)
          · have hD := hD.1 h9
            show u_P L xs n d m_X12_taught 54 [(0, .ref 100), (1, .int g), (2, .int a), (3, .int b)] [] S4 R _
            refine u_st rfl (fun _ => rfl) ?_
            refine u_st rfl (fun _ => rfl) ?_
            show u_P L xs n d m_X12_taught 57 [(0, .ref 100), (1, .int g), (2, .int a), (3, .int b)] [.int (Int32.ofInt 20), .int b] S4 R _
            refine u_ic_ne rfl (fun _ => ?_) (fun h10 => absurd h7 h10)
            show u_P L xs n d m_X12_taught 67 [(0, .ref 100), (1, .int g), (2, .int a), (3, .int b)] [] S4 R _
            refine u_st rfl (fun _ => rfl) ?_
            show u_P L xs n d m_X12_taught 68 [(0, .ref 100), (1, .int g), (2, .int a), (3, .int b)] [.ref 100] S4 R _
            refine u_getr rfl v_tyM rfl ?_
            refine u_st rfl (fun _ => rfl) ?_
            show u_P L xs n d m_X12_taught 72 [(0, .ref 100), (1, .int g), (2, .int a), (3, .int b)] [.int b, .ref 162] S4 R _
            refine u_ialdE (v := S4 161 b.toInt.toNat) rfl rfl rfl (fun b111 b112 => ?_)
            have hD := hD b111 b112
            show u_P L xs n d m_X12_taught 73 [(0, .ref 100), (1, .int g), (2, .int a), (3, .int b)] [.int (S4 161 b.toInt.toNat)] S4 R _
            exact u_ret rfl rfl ⟨_, rfl, rfl, hD⟩
          · have hD := hD.2 h9
            show u_P L xs n d m_X12_taught 51 [(0, .ref 100), (1, .int g), (2, .int a), (3, .int b)] [] S4 R _
            refine u_st rfl (fun _ => rfl) ?_
            show u_P L xs n d m_X12_taught 53 [(0, .ref 100), (1, .int g), (2, .int a), (3, .int b)] [.int (Int32.ofInt (-4))] S4 R _
            exact u_ret rfl rfl ⟨_, rfl, rfl, hD⟩
      · have hD := hD.2 h6
        show u_P L xs n d m_X12_taught 26 [(0, .ref 100), (1, .int g), (2, .int a), (3, .int b)] [] S4 R _
        refine u_st rfl (fun _ => rfl) ?_
        show u_P L xs n d m_X12_taught 28 [(0, .ref 100), (1, .int g), (2, .int a), (3, .int b)] [.int (Int32.ofInt (-2))] S4 R _
        exact u_ret rfl rfl ⟨_, rfl, rfl, hD⟩
    · have hD := hD.2 h2
      show u_P L xs n d m_X12_taught 15 [(0, .ref 100), (1, .int g), (2, .int a), (3, .int b)] [] S R _
      refine u_st rfl (fun _ => rfl) ?_
      show u_P L xs n d m_X12_taught 16 [(0, .ref 100), (1, .int g), (2, .int a), (3, .int b)] [.int (Int32.ofInt (-1))] S R _
      exact u_ret rfl rfl ⟨_, rfl, rfl, hD⟩

noncomputable def f_X12_taught (g a b : Int32) (V : v_Sf) : Int32 := if f_X12_isTold g V = 0 then Int32.ofInt (-1) else if f_X12_areHabits a = 0 then Int32.ofInt (-1) else @ite _ (∀ j, j < z_cn (z_tD g a V) 10 → z_ord1 (z_tN V) (z_tD g a V) (z_tH g V) j < 10) (Classical.propDecidable _) (if b = Int32.ofInt 20 then z_i (z_cn (z_tD g a V) 10) else if z_in b 0 ((z_cn (z_tD g a V) 10 : Int) - 1) = 0 then Int32.ofInt (-4) else z_i (z_ord1 (z_tN V) (z_tD g a V) (z_tH g V) b.toInt.toNat)) (Int32.ofInt (-2))
theorem z_tauM {S : v_Sf} (h122 : ∀ g, g < 12 → 0 ≤ (S 122 g).toInt ∧ (S 122 g).toInt ≤ 1023) (h132 : ∀ k, k < 10 → 0 ≤ (S 132 k).toInt ∧ (S 132 k).toInt ≤ 1023) (g a b : Int32) : D_X12_taught g a b (fun v _ => f_X12_taught g a b S = v) S := by
  unfold D_X12_taught
  refine ⟨fun q => ?_, fun q => ⟨fun q2 v S4 hK => ?_, fun q2 => ?_⟩⟩
  · show f_X12_taught g a b S = _
    unfold f_X12_taught
    rw [if_pos q]
  · have hg := (z_tld q).1
    have r : 0 ≤ a.toInt ∧ a.toInt ≤ 1023 := Classical.byContradiction (fun m => q2 (show f_X12_areHabits a = 0 from z_in0.mpr m))
    have hy : z_Hy g a S := ⟨hg, r, h122 _ (by omega), h132⟩
    have L10 := z_cnkU (z_tD g a S) 10
    rcases hK hy with ⟨rfl, h107, ho, h161⟩ | ⟨rfl, ho⟩
    · have el : (S4 99 107 - Int32.ofInt 1).toInt = (z_cn (z_tD g a S) 10 : Int) - 1 := by
        rw [h107, show z_i (z_cn (z_tD g a S) 10) = Int32.ofInt ((z_cn (z_tD g a S) 10 : Nat) : Int) from rfl, z_ois]
        exact q_ofr (by omega) (by omega)
      rw [el]
      refine ⟨fun _ => ⟨fun q3 => ?_, fun q3 => ⟨fun q4 b1 b2 => ?_, fun q4 => ?_⟩⟩, fun q3 => absurd (show ¬ Int32.ofInt 1 = 0 by decide) q3⟩
      · show f_X12_taught g a b S = _
        unfold f_X12_taught
        rw [if_neg q, if_neg q2, if_pos ho, if_pos q3]
        exact h107.symm
      · show f_X12_taught g a b S = _
        unfold f_X12_taught
        rw [if_neg q, if_neg q2, if_pos ho, if_neg q3, if_neg q4]
        have r4 : 0 ≤ b.toInt ∧ b.toInt ≤ (z_cn (z_tD g a S) 10 : Int) - 1 := Classical.byContradiction (fun m => q4 (z_in0.mpr m))
        exact (h161 _ (by omega)).symm
      · show f_X12_taught g a b S = _
        unfold f_X12_taught
        rw [if_neg q, if_neg q2, if_pos ho, if_neg q3, if_pos (Classical.not_not.mp q4)]
    · refine ⟨fun q3 => absurd rfl q3, fun _ => ?_⟩
      show f_X12_taught g a b S = _
      unfold f_X12_taught
      rw [if_neg q, if_neg q2, if_neg ho]
  · show f_X12_taught g a b S = _
    unfold f_X12_taught
    rw [if_neg q, if_pos (Classical.not_not.mp q2)]
theorem z_cnS {X : Nat} (h : X < 1024) : z_cn X 12 = z_cn X 10 := by
  have b0 : X.testBit 10 = false := Nat.testBit_lt_two_pow (by omega)
  have b1 : X.testBit 11 = false := Nat.testBit_lt_two_pow (by omega)
  rw [show z_cn X 12 = z_cn X 10 + (if X.testBit 10 then 1 else 0) + (if X.testBit 11 then 1 else 0) from rfl, b0, b1]
  rfl
theorem z_taught_ans {c b : Nat} {S T : v_Sf} (h : z_Rel c b S T) (g a w : Int32) : f_X11_taught g a w S = f_X12_taught g a w T := by
  obtain ⟨⟨nc, hB⟩, _⟩ := id h
  unfold f_X11_taught f_X12_taught
  rw [z_told_eq hB.1 g]
  by_cases t : f_X12_isTold g T = 0
  · rw [if_pos t, if_pos t]
  · rw [if_neg t, if_neg t]
    by_cases r : 0 ≤ a.toInt ∧ a.toInt ≤ 1023
    · have w1 : ¬ f_X11_within a (Int32.ofInt 1023) = 0 := fun m => z_within.mp m r
      have w2 : ¬ f_X12_areHabits a = 0 := fun m => z_in0.mp m r
      rw [if_pos w1, if_neg w2]
      have hg := (z_tld t).1
      have e7 : S 7 g.toInt.toNat = T 122 g.toInt.toNat ∧ 0 ≤ (T 122 g.toInt.toNat).toInt ∧ (T 122 g.toInt.toNat).toInt ≤ 1023 := hB.1.2.2.2.2.2.2.1 _ (by omega)
      have e8 : S 7 g.toInt.toNat = z_i (z_tH g T) := e7.1.trans (z_ofN e7.2.1).symm
      have hH : z_tH g T < 1024 := by
        unfold z_tH
        omega
      have h48 := hB.2.2.1
      have hN : ∀ k, k < 10 → S 48 k = z_i (z_tN T k) := fun k hk => (h48 k hk).1.trans (z_ofN (h48 k hk).2.1).symm
      have hl : ∀ k, k < 10 → z_tN T k < 1024 := fun k hk => by
        have := (h48 k hk).2
        unfold z_tN
        omega
      have hd : z_tD g a T < 1024 := z_tur_lt (fun k hk => z_nt_lt _ (hl k hk)) 10 _ (z_nt_lt _ (by omega))
      have ewn : f_X6_withNeeds (z_i (z_tH g T)) a S = z_i (z_tD g a T) := by
        have := z_wnC (hb := z_tH g T) (w := a.toInt.toNat) hN
        rw [z_ofN r.1] at this
        exact this
      have L10 := z_cnkU (z_tD g a T) 10
      have eF : F_X6_order (z_i (z_tH g T)) a S = r_X6_order_19 (z_i (z_cn (z_tD g a T) 10)) (z_cn (z_tD g a T) 10) 0 (z_i (z_tD g a T)) (z_i (z_tH g T)) S := by
        unfold F_X6_order
        rw [ewn, z_bcN (by omega), z_cnS hd, z_iin (by omega), Nat.sub_zero]
      rw [e8]
      rcases z_orC (N := z_tN T) (due := z_tD g a T) (had := z_tH g T) hd rfl hl (z_cn (z_tD g a T) 10) 0 S (by omega) hN (fun j hj => absurd hj (Nat.not_lt_zero j)) (fun j hj => absurd hj (Nat.not_lt_zero j)) with ⟨o1, o2, o3⟩ | ⟨o1, o2⟩
      · have fo : f_X6_order (z_i (z_tH g T)) a S = z_i (z_cn (z_tD g a T) 10) := by
          unfold f_X6_order
          rw [eF]
          exact o1
        rw [fo, if_neg (show ¬ z_i (z_cn (z_tD g a T) 10) < 0 by rw [show (0 : Int32) = z_i 0 from rfl, z_ilt (by omega) (by omega)]; omega), if_pos o2]
        by_cases q : w = Int32.ofInt 20
        · rw [if_neg (show ¬ ¬ w = Int32.ofInt 20 from fun m => m q), if_pos q]
        · rw [if_pos q, if_neg q]
          by_cases q2 : w < 0
          · have q2' := q2
            rw [z_ltI2, show (0 : Int32).toInt = 0 from rfl] at q2'
            rw [if_pos q2, if_pos (show z_in w 0 ((z_cn (z_tD g a T) 10 : Int) - 1) = 0 from z_in0.mpr (by omega))]
          · have q2' := q2
            rw [z_ltI2, show (0 : Int32).toInt = 0 from rfl] at q2'
            rw [if_neg q2]
            by_cases q3 : z_i (z_cn (z_tD g a T) 10) ≤ w
            · have q3' := q3
              rw [z_leI2, z_it3 (by omega)] at q3'
              rw [if_pos q3, if_pos (show z_in w 0 ((z_cn (z_tD g a T) 10 : Int) - 1) = 0 from z_in0.mpr (by omega))]
            · have q3' := q3
              rw [z_leI2, z_it3 (by omega)] at q3'
              rw [if_neg q3, if_neg (show ¬ z_in w 0 ((z_cn (z_tD g a T) 10 : Int) - 1) = 0 from fun m => z_in0.mp m (by omega))]
              unfold g_X6_order
              rw [eF]
              exact o3 _ (by omega)
      · have fo : f_X6_order (z_i (z_tH g T)) a S = Int32.ofInt (-2) := by
          unfold f_X6_order
          rw [eF]
          exact o1
        rw [fo, if_pos (show Int32.ofInt (-2) < 0 by decide), if_neg o2]
    · have w1 : f_X11_within a (Int32.ofInt 1023) = 0 := z_within.mpr r
      have w2 : f_X12_areHabits a = 0 := z_in0.mpr r
      rw [if_neg (show ¬ ¬ f_X11_within a (Int32.ofInt 1023) = 0 from fun m => m w1), if_pos w2]
section CA_taught
variable {L : Nat} {xs : Nat → Int32} {S : v_Sf} {R : v_Rf} {Q : Option Value → v_Sf → v_Rf → Prop}
theorem a_X11_taught (v1 v2 v3 : Int32) (hT : v_Tb v_ty S R) (hO : v_Op S) (hK : z_K S R) (hq : ∀ S' R', v_Tb v_ty S' R' → v_Op S' → z_K S' R' → Q (some (.int (f_X12_taught v1 v2 v3 S'))) S' R') : w_T L xs 59 m_X11_taught 0 (lv_args 0 [.ref 1, .int v1, .int v2, .int v3]) [] S R Q := by
  obtain ⟨c, b, e, hr, hR⟩ := id hK
  obtain ⟨hc, hb, he, hn, hL, hB, hE, hW⟩ := id hr
  refine z_use (v_met 60 138 rw_165 (List.mem_of_getElem? (i := 0) rfl) (Nat.le_of_ble_eq_true rfl)) (Nat.le_of_ble_eq_true rfl) mt_X11_taught ⟨rfl, ⟨_, rfl, (q_rng _).1, (q_rng _).2⟩, ⟨_, rfl, (q_rng _).1, (q_rng _).2⟩, ⟨_, rfl, (q_rng _).1, (q_rng _).2⟩, trivial⟩ hT hO (fun n d => c_X11_taught L xs n d v1 v2 v3 S R) (fun r S1 R1 S2 R2 hT1 hO1 hr1 hF ee q => ?_)
  have hS1 := z_K_T hc hb hR hF rfl
  obtain ⟨v, hv, hRR, hf, hg⟩ := q
  have k1 := z_taught_ans hS1 v1 v2 v3
  rw [← hv, ← hf, k1]
  exact hq S1 R1 hT1 hO1 (z_K_fr hK hF rfl)
theorem a_X12_taught (v1 v2 v3 : Int32) (hT : v_Tb v_ty S R) (hO : v_Op S) (hK : z_K S R) (hq : ∀ S' R', v_Tb v_ty S' R' → v_Op S' → z_K S' R' → Q (some (.int (f_X12_taught v1 v2 v3 S))) S' R') : w_T L xs 59 m_X12_taught 0 (lv_args 0 [.ref 100, .int v1, .int v2, .int v3]) [] S R Q := by
  obtain ⟨c, b, e, hr, hR⟩ := id hK
  obtain ⟨⟨nc, hB⟩, _⟩ := id hR
  refine z_use (v_met 60 271 rw_239 (List.mem_of_getElem? (i := 0) rfl) (Nat.le_of_ble_eq_true rfl)) (Nat.le_of_ble_eq_true rfl) mt_X12_taught ⟨rfl, ⟨_, rfl, (q_rng _).1, (q_rng _).2⟩, ⟨_, rfl, (q_rng _).1, (q_rng _).2⟩, ⟨_, rfl, (q_rng _).1, (q_rng _).2⟩, trivial⟩ hT hO (fun n d => w_X12_taught L xs v1 v2 v3 (fun v _ => f_X12_taught v1 v2 v3 S = v) n d S (z_tauM (fun g hg => (hB.1.2.2.2.2.2.2.1 g hg).2) (fun k hk => (hB.2.2.1 k hk).2) v1 v2 v3)) (fun r S1 R1 S2 R2 hT1 hO1 hr1 hF ee q => ?_)
  obtain ⟨v, hv, hRR, hf⟩ := q
  rw [← hv, ← hf]
  exact hq S1 R1 hT1 hO1 (z_K_fr hK hF rfl)
end CA_taught
