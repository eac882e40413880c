/-! escaped: both together -/
noncomputable def z_efin (x4 lo hi : Int32) : Int32 := if ¬ x4 = 0 then (if ¬ x4 = Int32.ofInt 1 then ((hi - lo) + x4) / x4 else hi) else lo
noncomputable def z_Pk (n m k i : Nat) : Prop := i < n ∧ (i < m ∧ m ≤ k ∨ m ≤ i ∧ m < k)
theorem z_hf {v X Y : Nat} {L A : Int} (hL : 0 ≤ L ∧ L ≤ 255) (hA : 0 ≤ A ∧ A ≤ 255) (hv : v ≤ 99) (hX : X ≤ 255) (hY : Y ≤ 255) : f_X12_higher (Int32.ofInt L) (Int32.ofInt A - z_i v * (z_i X - z_i Y)) = Int32.ofInt (z_zmx L (A - (((v * X : Nat) : Int) - ((v * Y : Nat) : Int)))) := by
  have h1 := Nat.mul_le_mul hv hX
  have h2 := Nat.mul_le_mul hv hY
  rw [z_vd, z_ois]
  exact z_hgh ⟨by omega, by omega⟩ ⟨by omega, by omega⟩
theorem z_lf {v X Y : Nat} {G H : Int} (hG : 0 ≤ G ∧ G ≤ 255) (hH : 0 ≤ H ∧ H ≤ 255) (hv : v ≤ 99) (hX : X ≤ 255) (hY : Y ≤ 255) : f_X12_lower (Int32.ofInt G) (Int32.ofInt H + z_i v * (z_i X - z_i Y)) = Int32.ofInt (-(z_zmx (-G) (-(H + (((v * X : Nat) : Int) - ((v * Y : Nat) : Int)))))) := by
  have h1 := Nat.mul_le_mul hv hX
  have h2 := Nat.mul_le_mul hv hY
  rw [z_vd, z_oia]
  exact z_lwr ⟨by omega, by omega⟩ ⟨by omega, by omega⟩
section EF
variable {n v T : Nat} {β : Nat → Nat}
theorem z_LoL (hb : ∀ j, β j ≤ 255) {u : Nat → Int} {U : Int} {P : Nat → Prop} {L : Int} (h : z_Lo 0 u (z_el β) U P L) : 0 ≤ L ∧ L ≤ 255 := z_Lo_r (M := 255) h (fun i => by have := hb (3 * i + 1); unfold z_el; omega) (by decide)
theorem z_LoG {u : Nat → Int} {U : Int} {P : Nat → Prop} {G : Int} (h : z_Lo (-250) u (fun i => -z_eh β i) U P (-G)) : 0 ≤ G ∧ G ≤ 255 := by
  have := z_Lo_r (M := 0) h (fun i => by show -z_eh β i ≤ 0; unfold z_eh; omega) (by decide)
  omega
theorem z_f174 (h8 : n ≤ 8) (hv : v ≤ 99) (hT : T ≤ 255) (hb : ∀ j, β j ≤ 255) {V : v_Sf} (hβ : ∀ j, j < 30 → f_X12_byteAt (z_i j) V = z_i (β j)) (hm : z_mon n (z_eu β v)) {m : Nat} (hmn : m ≤ n) (hm2 : ∀ i, i < n → (β (3 * i) ≤ T ↔ i < m)) (hA : ∀ i, i < n → z_In (z_eu β v) (z_el β) (z_eh β) 167 168 0 i i V) (hB : ∀ i, i < n → z_In (z_eu β v) (z_el β) (z_eh β) 169 170 i (n - 1) i V) (x4 : Int32) : ∀ (r k : Nat) (L G : Int), k + r = n → z_Lo 0 (z_eu β v) (z_el β) ((v * T : Nat) : Int) (z_Pk n m k) L → z_Lo (-250) (z_eu β v) (fun i => -z_eh β i) ((v * T : Nat) : Int) (z_Pk n m k) (-G) → ∃ L' G' : Int, (r_X12_escaped_174 (z_i n) (z_i v) (z_i T) x4 r k (Int32.ofInt L) (Int32.ofInt G) V).1 = z_efin x4 (Int32.ofInt L') (Int32.ofInt G') ∧ z_Lo 0 (z_eu β v) (z_el β) ((v * T : Nat) : Int) (z_Pk n m n) L' ∧ z_Lo (-250) (z_eu β v) (fun i => -z_eh β i) ((v * T : Nat) : Int) (z_Pk n m n) (-G') := by
  have hH : ∀ j, j ≤ 8 → f_X12_hourOf (z_i j) V = z_i (β (3 * j)) := fun j hj => by
    unfold f_X12_hourOf
    rw [(z_x3 j).1]
    exact hβ (3 * j) (by omega)
  intro r
  induction r with
  | zero =>
    intro k L G hk hL hG
    obtain rfl : k = n := by omega
    refine ⟨L, G, ?_, hL, hG⟩
    rw [r_X12_escaped_174]
    unfold z_efin
    by_cases a : x4 = 0
    · rw [if_neg (not_not_intro a), if_neg (not_not_intro a)]
    · rw [if_pos a, if_pos a]
      by_cases b : x4 = Int32.ofInt 1
      · rw [if_neg (not_not_intro b), if_neg (not_not_intro b)]
      · rw [if_pos b, if_pos b]
  | succ r ih =>
    intro k L G hk hL hG
    have ek : (z_i k).toInt.toNat = k := z_iin (by omega)
    have rL := z_LoL hb hL
    have rG := z_LoG hG
    have b0 := hb (3 * k)
    have b1 := hb (3 * (k + 1))
    have bp := hb (3 * (k - 1))
    obtain ⟨A, H, q1, q2, q3, q4, q5, q6, q7, q8⟩ := z_In_r hb (hA k (by omega)) (Nat.zero_le k) (Nat.le_refl k)
    obtain ⟨C, D, p1, p2, p3, p4, p5, p6, p7, p8⟩ := z_In_r hb (hB k (by omega)) (Nat.le_refl k) (by omega)
    have mt := hm2 k (by omega)
    have uk : z_eu β v k = ((v * β (3 * k) : Nat) : Int) := rfl
    have ab0 := z_abp (z_eu β v k - ((v * T : Nat) : Int))
    -- the ends
    have leafN : ¬ k + 1 = m → ¬ k = m → (∃ L' G' : Int, (r_X12_escaped_174 (z_i n) (z_i v) (z_i T) x4 r (k + 1) (Int32.ofInt L) (Int32.ofInt G) V).1 = z_efin x4 (Int32.ofInt L') (Int32.ofInt G') ∧ z_Lo 0 (z_eu β v) (z_el β) ((v * T : Nat) : Int) (z_Pk n m n) L' ∧ z_Lo (-250) (z_eu β v) (fun i => -z_eh β i) ((v * T : Nat) : Int) (z_Pk n m n) (-G')) := fun n1 n2 => by
      have e : ∀ i, z_Pk n m k i ↔ z_Pk n m (k + 1) i := fun i => by
        unfold z_Pk
        constructor <;> intro h <;> omega
      exact ih (k + 1) L G (by omega) (z_Lo_c e hL) (z_Lo_c e hG)
    have leafA : ∀ X Y : Nat, X ≤ 255 → Y ≤ 255 → k + 1 = m → ((v * X : Nat) : Int) - ((v * Y : Nat) : Int) = z_ab (z_eu β v k - ((v * T : Nat) : Int)) → (∃ L' G' : Int, (r_X12_escaped_174 (z_i n) (z_i v) (z_i T) x4 r (k + 1) (f_X12_higher (Int32.ofInt L) (Int32.ofInt A - z_i v * (z_i X - z_i Y))) (f_X12_lower (Int32.ofInt G) (Int32.ofInt H + z_i v * (z_i X - z_i Y))) V).1 = z_efin x4 (Int32.ofInt L') (Int32.ofInt G') ∧ z_Lo 0 (z_eu β v) (z_el β) ((v * T : Nat) : Int) (z_Pk n m n) L' ∧ z_Lo (-250) (z_eu β v) (fun i => -z_eh β i) ((v * T : Nat) : Int) (z_Pk n m n) (-G')) := fun X Y hX hY n1 ed => by
      have tk : β (3 * k) ≤ T := mt.mpr (by omega)
      have uT := Nat.mul_le_mul_left v tk
      have hd : ∀ i, 0 ≤ i → i ≤ k → z_ab (z_eu β v i - ((v * T : Nat) : Int)) = z_ab (z_eu β v i - z_eu β v k) + z_ab (z_eu β v k - ((v * T : Nat) : Int)) := fun i _ hi => by
        have m1 := hm i k hi (by omega)
        have a1 := z_abp (z_eu β v i - ((v * T : Nat) : Int))
        have a2 := z_abp (z_eu β v i - z_eu β v k)
        omega
      have e : ∀ i, (z_Pk n m k i ∨ 0 ≤ i ∧ i ≤ k) ↔ z_Pk n m (k + 1) i := fun i => by
        unfold z_Pk
        constructor <;> intro h <;> omega
      have s1 := z_Lo_c e (z_Lo_s hL q3 hd)
      have s2 := z_Lo_c e (z_Lo_s hG q4 hd)
      rw [z_hf rL ⟨q5, q6⟩ hv hX hY, z_lf rG ⟨q7, q8⟩ hv hX hY, ed]
      refine ih (k + 1) _ _ (by omega) s1 ?_
      rw [Int.neg_neg, show -(H + z_ab (z_eu β v k - ((v * T : Nat) : Int))) = -H - z_ab (z_eu β v k - ((v * T : Nat) : Int)) by omega]
      exact s2
    have leafB : ∀ X Y : Nat, X ≤ 255 → Y ≤ 255 → k = m → ((v * X : Nat) : Int) - ((v * Y : Nat) : Int) = z_ab (z_eu β v k - ((v * T : Nat) : Int)) → (∃ L' G' : Int, (r_X12_escaped_174 (z_i n) (z_i v) (z_i T) x4 r (k + 1) (f_X12_higher (Int32.ofInt L) (Int32.ofInt C - z_i v * (z_i X - z_i Y))) (f_X12_lower (Int32.ofInt G) (Int32.ofInt D + z_i v * (z_i X - z_i Y))) V).1 = z_efin x4 (Int32.ofInt L') (Int32.ofInt G') ∧ z_Lo 0 (z_eu β v) (z_el β) ((v * T : Nat) : Int) (z_Pk n m n) L' ∧ z_Lo (-250) (z_eu β v) (fun i => -z_eh β i) ((v * T : Nat) : Int) (z_Pk n m n) (-G')) := fun X Y hX hY n1 ed => by
      have tk : T ≤ β (3 * k) := by
        have : ¬ β (3 * k) ≤ T := fun z => by have := mt.mp z; omega
        omega
      have uT := Nat.mul_le_mul_left v tk
      have hd : ∀ i, k ≤ i → i ≤ n - 1 → z_ab (z_eu β v i - ((v * T : Nat) : Int)) = z_ab (z_eu β v i - z_eu β v k) + z_ab (z_eu β v k - ((v * T : Nat) : Int)) := fun i hi hin => by
        have m1 := hm k i hi (by omega)
        have a1 := z_abp (z_eu β v i - ((v * T : Nat) : Int))
        have a2 := z_abp (z_eu β v i - z_eu β v k)
        omega
      have e : ∀ i, (z_Pk n m k i ∨ k ≤ i ∧ i ≤ n - 1) ↔ z_Pk n m (k + 1) i := fun i => by
        unfold z_Pk
        constructor <;> intro h <;> omega
      have s1 := z_Lo_c e (z_Lo_s hL p3 hd)
      have s2 := z_Lo_c e (z_Lo_s hG p4 hd)
      rw [z_hf rL ⟨p5, p6⟩ hv hX hY, z_lf rG ⟨p7, p8⟩ hv hX hY, ed]
      refine ih (k + 1) _ _ (by omega) s1 ?_
      rw [Int.neg_neg, show -(D + z_ab (z_eu β v k - ((v * T : Nat) : Int))) = -D - z_ab (z_eu β v k - ((v * T : Nat) : Int)) by omega]
      exact s2
    rw [r_X12_escaped_174, hH k (by omega), z_i1 k, hH (k + 1) (by omega), ek, q1, q2, p1, p2]
    have c3 : (z_i (β (3 * (k + 1))) ≤ z_i T) ↔ β (3 * (k + 1)) ≤ T := z_ile (by omega) (by omega)
    have c4 : (z_i (k + 1) = z_i n) ↔ k + 1 = n := ⟨fun z => by have := congrArg (fun z => z.toInt.toNat) z; simp only [z_iin (show k + 1 < 2147483648 by omega), z_iin (show n < 2147483648 by omega)] at this; exact this, fun z => by rw [z]⟩
    have c5 : (z_i k = 0) ↔ k = 0 := ⟨fun z => by have := congrArg (fun z => z.toInt.toNat) z; simp only [ek] at this; exact this, fun z => by rw [z]; rfl⟩
    by_cases q : T < β (3 * k)
    · have i0 : z_i T ≤ z_i (β (3 * k)) := (z_ile (by omega) (by omega)).mpr (by omega)
      have i1 : z_i T < z_i (β (3 * k)) := (z_ilt (by omega) (by omega)).mpr q
      have i2 : ¬ z_i (β (3 * k)) ≤ z_i T := fun z => by have := (z_ile (by omega) (by omega)).mp z; omega
      have uT := Nat.mul_le_mul_left v (show T ≤ β (3 * k) by omega)
      rw [if_pos i0, if_pos i1, if_neg i2]
      by_cases k0 : k = 0
      · rw [if_pos (c5.mpr k0)]
        exact leafB _ _ b0 hT (by omega) (by omega)
      · rw [if_neg (fun z => k0 (c5.mp z))]
        have ep : z_i k - Int32.ofInt 1 = z_i (k - 1) := by
          have := z_isub (k - 1)
          rwa [show k - 1 + 1 = k by omega] at this
        have mp := hm2 (k - 1) (by omega)
        rw [ep, hH (k - 1) (by omega)]
        by_cases t : T < β (3 * (k - 1))
        · rw [if_pos ((z_ilt (by omega) (by omega)).mpr t)]
          exact leafN (by omega) (by omega)
        · rw [if_neg (fun z => t ((z_ilt (by omega) (by omega)).mp z))]
          exact leafB _ _ b0 hT (by omega) (by omega)
    · have i1 : ¬ z_i T < z_i (β (3 * k)) := fun z => q ((z_ilt (by omega) (by omega)).mp z)
      have i2 : z_i (β (3 * k)) ≤ z_i T := (z_ile (by omega) (by omega)).mpr (by omega)
      have uT := Nat.mul_le_mul_left v (show β (3 * k) ≤ T by omega)
      by_cases s : T ≤ β (3 * k)
      · have es : β (3 * k) = T := by omega
        have uE : v * β (3 * k) = v * T := by rw [es]
        rw [if_pos ((z_ile (by omega) (by omega)).mpr s), if_neg i1]
        by_cases d : k + 1 = n
        · rw [if_pos (c4.mpr d), if_pos i2]
          exact leafA _ _ b0 hT (by omega) (by omega)
        · rw [if_neg (fun z => d (c4.mp z))]
          have mn := hm2 (k + 1) (by omega)
          by_cases w : β (3 * (k + 1)) ≤ T
          · rw [if_pos (c3.mpr w), if_pos i2]
            exact leafN (by omega) (by omega)
          · rw [if_neg (fun z => w (c3.mp z)), if_pos i2]
            exact leafA _ _ b0 hT (by omega) (by omega)
      · rw [if_neg (fun z => s ((z_ile (by omega) (by omega)).mp z)), if_neg i1]
        by_cases d : k + 1 = n
        · rw [if_pos (c4.mpr d), if_pos i2]
          exact leafA _ _ hT b0 (by omega) (by omega)
        · rw [if_neg (fun z => d (c4.mp z))]
          have mn := hm2 (k + 1) (by omega)
          by_cases w : β (3 * (k + 1)) ≤ T
          · rw [if_pos (c3.mpr w), if_pos i2]
            exact leafN (by omega) (by omega)
          · rw [if_neg (fun z => w (c3.mp z)), if_pos i2]
            exact leafA _ _ hT b0 (by omega) (by omega)
theorem z_sgt (h8 : n ≤ 8) (hv : v ≤ 99) (hT : T ≤ 255) (hb : ∀ j, β j ≤ 255) {S : v_Sf} (hβ : ∀ j, j < 3 * n → f_X8_at (z_i j) S = z_i (β j)) {x4 : Int32} (hx : 0 ≤ x4.toInt) : ∀ (r k : Nat) (L G : Int), k + r = n → z_Lo 0 (z_eu β v) (z_el β) ((v * T : Nat) : Int) (fun i => i < k) L → z_Lo (-250) (z_eu β v) (fun i => -z_eh β i) ((v * T : Nat) : Int) (fun i => i < k) (-G) → ∃ L' G' : Int, r_X11_sought_34 (z_i n) (z_i v) (z_i T) x4 S r k (Int32.ofInt L) (Int32.ofInt G) = z_efin x4 (Int32.ofInt L') (Int32.ofInt G') ∧ z_Lo 0 (z_eu β v) (z_el β) ((v * T : Nat) : Int) (fun i => i < n) L' ∧ z_Lo (-250) (z_eu β v) (fun i => -z_eh β i) ((v * T : Nat) : Int) (fun i => i < n) (-G') := by
  intro r
  induction r with
  | zero =>
    intro k L G hk hL hG
    obtain rfl : k = n := by omega
    refine ⟨L, G, ?_, hL, hG⟩
    rw [r_X11_sought_34]
    unfold z_efin
    have z0 : (x4 = 0) ↔ x4.toInt = 0 := ⟨fun z => by rw [z]; rfl, fun z => z_inj2 (by rw [z]; rfl)⟩
    have z1 : (x4 = Int32.ofInt 1) ↔ x4.toInt = 1 := ⟨fun z => by rw [z]; rfl, fun z => z_inj2 (by rw [z]; rfl)⟩
    by_cases a : Int32.ofInt 2 ≤ x4
    · have a2 := z_leI2.mp a
      rw [show (Int32.ofInt 2).toInt = 2 from rfl] at a2
      rw [if_pos a, if_pos (show ¬ x4 = 0 from fun z => by have := z0.mp z; omega), if_pos (show ¬ x4 = Int32.ofInt 1 from fun z => by have := z1.mp z; omega)]
    · have a2 : ¬ (2 : Int) ≤ x4.toInt := fun z => a (z_leI2.mpr z)
      rw [if_neg a]
      by_cases b : x4 = 0
      · rw [if_neg (not_not_intro b), if_neg (not_not_intro b)]
      · have b2 : ¬ x4.toInt = 0 := fun z => b (z0.mpr z)
        rw [if_pos b, if_pos b, if_neg (not_not_intro (z1.mpr (by omega)))]
  | succ r ih =>
    intro k L G hk hL hG
    have rL := z_LoL hb hL
    have rG := z_LoG hG
    have b0 := hb (3 * k)
    have b1 := hb (3 * k + 1)
    have b2 := hb (3 * k + 2)
    have e : ∀ i, (i < k ∨ i = k) ↔ i < k + 1 := fun i => by omega
    have s1 := z_Lo_c e (z_Lo_1 hL k)
    have s2 := z_Lo_c e (z_Lo_1 hG k)
    have hd : (if β (3 * k) ≤ T then T - β (3 * k) else β (3 * k) - T) ≤ 255 := by
      split <;> omega
    have hm := Nat.mul_le_mul hv hd
    have ed : z_i v * z_abs (z_i T - z_i (β (3 * k))) = Int32.ofInt (z_ab (z_eu β v k - ((v * T : Nat) : Int))) := by
      rw [z_absN hT b0, z_imul]
      have e1 := z_abu v T (β (3 * k))
      have a1 := z_abp (((v * T : Nat) : Int) - ((v * β (3 * k) : Nat) : Int))
      have a2 := z_abp (z_eu β v k - ((v * T : Nat) : Int))
      have uk : z_eu β v k = ((v * β (3 * k) : Nat) : Int) := rfl
      exact congrArg Int32.ofInt (by omega)
    have a3 : 0 ≤ z_ab (z_eu β v k - ((v * T : Nat) : Int)) ∧ z_ab (z_eu β v k - ((v * T : Nat) : Int)) ≤ 25245 := by
      have e1 := z_abu v (β (3 * k)) T
      have uk : z_eu β v k = ((v * β (3 * k) : Nat) : Int) := rfl
      rw [uk, e1]
      have hd2 : (if T ≤ β (3 * k) then β (3 * k) - T else T - β (3 * k)) ≤ 255 := by
        split <;> omega
      have hm2 := Nat.mul_le_mul hv hd2
      omega
    have f1 : z_max (Int32.ofInt L) (z_i (β (3 * k + 1)) - Int32.ofInt (z_ab (z_eu β v k - ((v * T : Nat) : Int)))) = Int32.ofInt (z_zmx L (z_el β k - z_ab (z_eu β v k - ((v * T : Nat) : Int)))) := by
      have e2 : z_i (β (3 * k + 1)) - Int32.ofInt (z_ab (z_eu β v k - ((v * T : Nat) : Int))) = Int32.ofInt (z_el β k - z_ab (z_eu β v k - ((v * T : Nat) : Int))) := z_ois _ _
      have e3 : z_el β k = (β (3 * k + 1) : Int) := rfl
      rw [e2]
      exact z_mxI ⟨by omega, by omega⟩ ⟨by omega, by omega⟩
    have f2 : z_min (Int32.ofInt G) (z_i (β (3 * k + 2)) + Int32.ofInt (z_ab (z_eu β v k - ((v * T : Nat) : Int)))) = Int32.ofInt (-(z_zmx (-G) (-(z_eh β k + z_ab (z_eu β v k - ((v * T : Nat) : Int)))))) := by
      have e2 : z_i (β (3 * k + 2)) + Int32.ofInt (z_ab (z_eu β v k - ((v * T : Nat) : Int))) = Int32.ofInt (z_eh β k + z_ab (z_eu β v k - ((v * T : Nat) : Int))) := z_oia _ _
      have e3 : z_eh β k = (β (3 * k + 2) : Int) := rfl
      rw [e2]
      exact z_mnI ⟨by omega, by omega⟩ ⟨by omega, by omega⟩
    rw [r_X11_sought_34, (z_x3 k).2.2, (z_x3 k).2.1, (z_x3 k).1, hβ (3 * k) (by omega), hβ (3 * k + 1) (by omega), hβ (3 * k + 2) (by omega), ed, f1, f2]
    refine ih (k + 1) _ _ (by omega) s1 ?_
    rw [Int.neg_neg, show -(z_eh β k + z_ab (z_eu β v k - ((v * T : Nat) : Int))) = -z_eh β k - z_ab (z_eu β v k - ((v * T : Nat) : Int)) by omega]
    exact s2
end EF
theorem z_rise {n : Nat} {β : Nat → Nat} (hP : ∀ i, 0 ≤ i → i < n → z_Pe β i) : ∀ (d i : Nat), i + d < n → β (3 * i) ≤ β (3 * (i + d)) := by
  intro d
  induction d with
  | zero => intro i _; exact Nat.le_refl _
  | succ d ih =>
    intro i h
    have h1 := ih i (by omega)
    have h2 := (hP (i + (d + 1)) (Nat.zero_le _) h).2.2
    rw [show i + (d + 1) - 1 = i + d by omega] at h2
    omega
theorem z_escaped_ans {c b : Nat} {S T : v_Sf} (h : z_Rel c b S T) (a s o x : Int32) : f_X11_escaped a s o x S = f_X12_escaped a s o x T := by
  have hTp := h.2.2.1
  have hby := z_by_T hTp
  unfold f_X11_escaped f_X12_escaped F_X12_escaped
  by_cases r0 : 1 ≤ a.toInt ∧ a.toInt ≤ 8
  · have a0 : ¬ a < Int32.ofInt 1 := by
      rw [z_ltI2, show (Int32.ofInt 1).toInt = 1 from rfl]
      omega
    have a1 : ¬ Int32.ofInt 8 < a := by
      rw [z_ltI2, show (Int32.ofInt 8).toInt = 8 from rfl]
      omega
    rw [if_neg a0, if_neg a1, if_neg (show ¬ z_in a 1 8 = 0 from fun m => z_in0.mp m r0)]
    by_cases r1 : 0 ≤ s.toInt ∧ s.toInt ≤ 99
    · rw [if_neg (show ¬ f_X11_within s (Int32.ofInt 99) = 0 from fun m => z_within.mp m r1), if_neg (show ¬ z_in s 0 99 = 0 from fun m => z_in0.mp m r1)]
      by_cases r2 : 0 ≤ o.toInt ∧ o.toInt ≤ 255
      · rw [if_neg (show ¬ f_X11_within o (Int32.ofInt 255) = 0 from fun m => z_within.mp m r2), if_neg (show ¬ z_in o 0 255 = 0 from fun m => z_in0.mp m r2)]
        by_cases r3 : 0 ≤ x.toInt ∧ x.toInt ≤ 99
        · rw [if_neg (show ¬ f_X11_within x (Int32.ofInt 99) = 0 from fun m => z_within.mp m r3), if_neg (show ¬ z_in x 0 99 = 0 from fun m => z_in0.mp m r3), hTp.2.1]
          by_cases q : Int32.ofInt 3 * a ≤ T 99 1
          · rw [if_pos q, if_pos q]
            obtain ⟨n, hn, rfl⟩ : ∃ n, n ≤ 8 ∧ a = z_i n := ⟨a.toInt.toNat, by omega, (z_ofN (by omega)).symm⟩
            obtain ⟨v, hv, rfl⟩ : ∃ v, v ≤ 99 ∧ s = z_i v := ⟨s.toInt.toNat, by omega, (z_ofN r1.1).symm⟩
            obtain ⟨O, hO, rfl⟩ : ∃ O, O ≤ 255 ∧ o = z_i O := ⟨o.toInt.toNat, by omega, (z_ofN r2.1).symm⟩
            rw [z_it3 (by omega)] at r0
            rw [(z_x3 n).1, z_leI2, z_it3 (by omega)] at q
            obtain ⟨β, hβd⟩ : ∃ β : Nat → Nat, ∀ j, β j = if j < 260 then (S 46 j).toInt.toNat else 0 := ⟨_, fun j => rfl⟩
            have hb : ∀ j, β j ≤ 255 := fun j => by
              rw [hβd]
              by_cases e : j < 260
              · have := hby j e
                rw [if_pos e]
                omega
              · rw [if_neg e]
                omega
            have eβ : ∀ j, j < 260 → S 46 j = z_i (β j) := fun j hj => by
              rw [hβd, if_pos hj]
              exact (z_ofN (hby j hj).1).symm
            have hβC : ∀ j, j < 3 * n → f_X8_at (z_i j) S = z_i (β j) := fun j hj => by
              unfold f_X8_at
              rw [if_neg (show ¬ z_i j < 0 by rw [show (0 : Int32) = z_i 0 from rfl, z_ilt (by omega) (by omega)]; omega), if_neg (show ¬ S 45 1 ≤ z_i j by rw [hTp.2.1, z_leI2, z_it3 (by omega)]; omega), z_iin (by omega)]
              exact eβ j (by omega)
            have hβM : ∀ V : v_Sf, (∀ j, V 100 j = T 100 j) → ∀ j, j < 260 → f_X12_byteAt (z_i j) V = z_i (β j) := fun V hV j hj => by
              unfold f_X12_byteAt
              rw [z_iin (by omega), hV, ← (hTp.1 j hj).1]
              exact eβ j hj
            have eU : ∀ j, z_s T 99 1 (Int32.ofInt 0) 100 j = T 100 j := fun j => z_sn (by omega)
            rw [z_iin (by omega), Nat.sub_zero]
            generalize z_s T 99 1 (Int32.ofInt 0) = U at *
            have CS := z_std hn hb hβC (z_i n) n 0 (Int32.ofInt (-1)) (by omega) (if_pos rfl).symm
            have MS := z_s69 hn hb (fun j hj => hβM U eU j (by omega)) (z_i n) (z_i v) (z_i O) x (E := r_X12_escaped_69 (z_i n) (z_i v) (z_i O) x 0 n U) rfl n 0 (by omega)
            unfold f_X11_sought F_X11_sought f_X11_sightingsStand F_X11_sightingsStand
            rw [z_iin (by omega), Nat.sub_zero]
            rcases CS with ⟨cs, hP⟩ | ⟨cs, hP⟩
            · rcases MS with ⟨ms, -⟩ | ⟨-, hN⟩
              · rw [cs, ms, if_pos (show ¬ Int32.ofInt 1 = 0 by decide)]
                have hP2 : ∀ i, i < n → z_Pe β i := fun i hi => hP i (Nat.zero_le i) hi
                have ht : ∀ i j, i ≤ j → j < n → β (3 * i) ≤ β (3 * j) := fun i j h1 h2 => by
                  have := z_rise hP (j - i) i (by omega)
                  rwa [show i + (j - i) = j by omega] at this
                have hm : z_mon n (z_eu β v) := fun i j h1 h2 => by
                  have := Nat.mul_le_mul_left v (ht i j h1 h2)
                  unfold z_eu
                  omega
                rw [r_X12_escaped_69]
                unfold f_X12_laysAhead g_X12_laysAhead F_X12_laysAhead g_X12_laysBehind F_X12_laysBehind f_X11_sightingsAgree F_X11_sightingsAgree
                rw [z_iin (by omega), Nat.sub_zero]
                have CA := z_ag2 hn hv hb hβC n 0 (by omega)
                have MA := z_lah hn hv hb hP2 hm (U0 := U) (fun V hV j hj => hβM V (fun j => (hV j).trans (eU j)) j (by omega)) n 0 U (by omega) (fun a j _ _ => rfl) (fun i hi => absurd hi (Nat.not_lt_zero i)) (fun i hi => absurd hi (Nat.not_lt_zero i))
                have AG := z_ag_all (n := n) (u := z_eu β v) (lo := z_el β) (hi := z_eh β)
                rcases CA with ⟨ca, hA⟩ | ⟨ca, hA⟩
                · rcases MA with ⟨U1, ma, f1, i1, -⟩ | ⟨-, -, hN⟩
                  · rw [ca, ma, if_pos (show ¬ Int32.ofInt 1 = 0 by decide), if_pos (show ¬ Int32.ofInt 1 = 0 by decide)]
                    have e1 : z_i n - Int32.ofInt 1 = Int32.ofInt ((n : Int) - 1) := z_ois n 1
                    have e2 : ((z_i n - Int32.ofInt 1).toInt + 1).toNat = n := by
                      rw [e1, q_ofr (by omega) (by omega)]
                      omega
                    rw [e2, e1]
                    have MB := z_lbh hn (by omega) hv hb hP2 hm (U0 := U1) (fun V hV j hj => hβM V (fun j => ((hV j).trans (f1 100 j (by omega) (by omega))).trans (eU j)) j (by omega)) n U1 (Nat.le_refl n) (fun a j _ _ => rfl) (fun i h1 h2 => by omega)
                    generalize r_X12_laysBehind_4 (z_i n) (z_i v) n (Int32.ofInt ((n : Int) - 1)) U1 = V at *
                    obtain ⟨f2, i2⟩ := MB
                    obtain ⟨m, hmn, hm2⟩ := z_upto (t := fun i => β (3 * i)) O n ht
                    have P0 : ∀ i, False ↔ z_Pk n m 0 i := fun i => by
                      unfold z_Pk
                      constructor
                      · exact False.elim
                      · intro h
                        omega
                    have P0' : ∀ i, False ↔ i < 0 := fun i => ⟨False.elim, Nat.not_lt_zero i⟩
                    have Pn : ∀ i, i < n ↔ z_Pk n m n i := fun i => by
                      unfold z_Pk
                      constructor <;> intro h <;> omega
                    obtain ⟨L1, G1, w1, w2, w3⟩ := z_f174 hn hv hO hb (V := V) (fun j hj => hβM V (fun j => ((f2 100 j (by omega) (by omega)).trans (f1 100 j (by omega) (by omega))).trans (eU j)) j (by omega)) hm hmn hm2 (fun i hi => by
                      obtain ⟨A, H, y1, y2, y3, y4⟩ := i1 i hi
                      exact ⟨A, H, by rw [f2 167 i (by omega) (by omega)]; exact y1, by rw [f2 168 i (by omega) (by omega)]; exact y2, y3, y4⟩) i2 x n 0 0 250 (by omega) (z_Lo_c P0 (z_Lo_0 0 _)) (z_Lo_c P0 (z_Lo_0 (-250) _))
                    obtain ⟨L2, G2, y1, y2, y3⟩ := z_sgt hn hv hO hb hβC r3.1 n 0 0 250 (by omega) (z_Lo_c P0' (z_Lo_0 0 _)) (z_Lo_c P0' (z_Lo_0 (-250) _))
                    have eL := z_Lo_u Pn y2 w2
                    have eG := z_Lo_u Pn y3 w3
                    rw [w1, y1, eL, show G2 = G1 by omega]
                  · exact absurd (AG.mpr (fun i j h1 h2 => hA i j (Nat.zero_le i) h1 h2)) hN
                · rcases MA with ⟨U1, ma, f1, i1, hR⟩ | ⟨U1, ma, -⟩
                  · exact absurd (fun i j _ h1 h2 => AG.mp hR i j h1 h2) hA
                  · rw [ca, ma, if_neg (show ¬ ¬ Int32.ofInt 0 = 0 from fun m => m rfl), if_neg (show ¬ ¬ Int32.ofInt 0 = 0 from fun m => m rfl)]
              · exact absurd hP hN
            · rcases MS with ⟨-, hN⟩ | ⟨ms, -⟩
              · exact absurd hN hP
              · rw [cs, ms, if_neg (show ¬ ¬ Int32.ofInt 0 = 0 from fun m => m rfl)]
          · rw [if_neg q, if_neg q]
        · rw [if_pos (show f_X11_within x (Int32.ofInt 99) = 0 from z_within.mpr r3), if_pos (show z_in x 0 99 = 0 from z_in0.mpr r3)]
      · rw [if_pos (show f_X11_within o (Int32.ofInt 255) = 0 from z_within.mpr r2), if_pos (show z_in o 0 255 = 0 from z_in0.mpr r2)]
    · rw [if_pos (show f_X11_within s (Int32.ofInt 99) = 0 from z_within.mpr r1), if_pos (show z_in s 0 99 = 0 from z_in0.mpr r1)]
  · rw [if_pos (show z_in a 1 8 = 0 from z_in0.mpr r0)]
    by_cases a0 : a < Int32.ofInt 1
    · rw [if_pos a0]
    · rw [if_neg a0]
      by_cases a1 : Int32.ofInt 8 < a
      · rw [if_pos a1]
      · rw [z_ltI2, show (Int32.ofInt 1).toInt = 1 from rfl] at a0
        rw [z_ltI2, show (Int32.ofInt 8).toInt = 8 from rfl] at a1
        omega
section CA_escaped
variable {L : Nat} {xs : Nat → Int32} {S : v_Sf} {R : v_Rf} {Q : Option Value → v_Sf → v_Rf → Prop}
theorem a_X11_escaped (v1 v2 v3 v4 : Int32) (hT : v_Tb v_ty S R) (hO : v_Op S) (hK : z_K S R) (hq : ∀ S' R', v_Tb v_ty S' R' → v_Op S' → z_P S' R' (g_X12_escaped v1 v2 v3 v4 S') → Q (some (.int (f_X12_escaped v1 v2 v3 v4 S'))) S' R') : w_T L xs 59 m_X11_escaped 0 (lv_args 0 [.ref 1, .int v1, .int v2, .int v3, .int v4]) [] S R Q := by
  obtain ⟨c, b, e, hr, hR⟩ := id hK
  obtain ⟨hc, hb, he, hn, hL, hB, hE, hW⟩ := id hr
  refine z_use (v_met 60 141 rw_168 (List.mem_of_getElem? (i := 0) rfl) (Nat.le_of_ble_eq_true rfl)) (Nat.le_of_ble_eq_true rfl) mt_X11_escaped ⟨rfl, ⟨_, rfl, (q_rng _).1, (q_rng _).2⟩, ⟨_, rfl, (q_rng _).1, (q_rng _).2⟩, ⟨_, rfl, (q_rng _).1, (q_rng _).2⟩, ⟨_, rfl, (q_rng _).1, (q_rng _).2⟩, trivial⟩ hT hO (fun n d => c_X11_escaped L xs n d v1 v2 v3 v4 S R) (fun r S1 R1 S2 R2 hT1 hO1 hr1 hF ee q => ?_)
  have hS1 := z_K_T hc hb hR hF rfl
  obtain ⟨v, hv, hRR, hf, hg⟩ := q
  have k1 := z_escaped_ans hS1 v1 v2 v3 v4
  have k2 := z_esc_rel hc hb hS1 v1 v2 v3 v4
  rw [hg] at k2
  rw [← hv, ← hf, k1]
  exact hq S1 R1 hT1 hO1 (z_K_c (z_Kr_f hr (fun a j q => (hF a j (z_md_K rfl q)).2)) ee k2)
end CA_escaped
