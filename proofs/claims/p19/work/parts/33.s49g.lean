/-! housed: the reference's rows -/
theorem z_rowG {n K : Nat} {ok : (Nat → Nat) → Nat → Prop} {co : (Nat → Nat) → Nat → Int} (hok : ∀ x, ok x n → ∀ j, j < n → x j < K) : ∀ (r i : Nat) (x : Nat → Nat) (B : z_Gt), (B.1 < 1000 → ∀ j, j < n → B.2 j < K) → (z_gf K n ok co r i x B).1 < 1000 → ∀ j, j < n → (z_gf K n ok co r i x B).2 j < K := by
  intro r
  induction r with
  | zero =>
    intro i x B hB
    rw [z_gf]
    unfold z_gs
    by_cases q : ok x n ∧ co x n < B.1
    · rw [if_pos q]
      exact fun _ => hok x q.1
    · rw [if_neg q]
      exact hB
  | succ r ih =>
    intro i x B hB
    rw [z_gf]
    have lp : ∀ (q k : Nat) (B : z_Gt), (B.1 < 1000 → ∀ j, j < n → B.2 j < K) → (z_gk (fun k B => z_gf K n ok co r (i + 1) (z_u5 x i k) B) q k B).1 < 1000 → ∀ j, j < n → (z_gk (fun k B => z_gf K n ok co r (i + 1) (z_u5 x i k) B) q k B).2 j < K := by
      intro q
      induction q with
      | zero => intro k B hB; exact hB
      | succ q ih2 =>
        intro k B hB
        rw [z_gk]
        exact ih2 (k + 1) _ (ih (i + 1) _ B hB)
    exact lp K 0 B hB
section HR
variable {n K : Nat} {od : Nat → Nat → Prop} {room : Nat → Int} {V : v_Sf}
theorem z_rm13 {x : Nat → Nat} {W : v_Sf} (hn : n ≤ 6) (hx : ∀ j, j < n → x j < 6 ∧ W 154 j = z_i (x j)) (x1 x2 : Int32) (κ : Int32) {m : Nat} (hm : m < 6) (hr : (W 123 ((W 153 m).toInt.toNat)).toInt = room m) : ∀ (r i : Nat), i + r = n → r_X12_isRoomFor_13 x1 x2 W κ m r i (z_i (z_hk x m i)) = if (z_hk x m n : Int) ≤ room m then κ else Int32.ofInt 0 := by
  have em : (z_i m).toInt.toNat = m := z_iin (by omega)
  intro r
  induction r with
  | zero =>
    intro i hi
    obtain rfl : i = n := by omega
    have hb : z_hk x m i ≤ i := z_sum_le _ i
    rw [r_X12_isRoomFor_13, em]
    by_cases q : (z_hk x m i : Int) ≤ room m
    · rw [if_pos (by rw [z_leI2, hr, z_it3 (by omega)]; exact q), if_pos q]
    · rw [if_neg (by rw [z_leI2, hr, z_it3 (by omega)]; exact q), if_neg q]
  | succ r ih =>
    intro i hi
    obtain ⟨h1, h2⟩ := hx i (by omega)
    have st : z_hk x m (i + 1) = z_hk x m i + if x i = m then 1 else 0 := by
      unfold z_hk
      rw [z_sum]
      by_cases q : x i = m
      · rw [if_pos q, if_pos q]
      · rw [if_neg q, if_neg q]
    rw [r_X12_isRoomFor_13, z_iin (by omega), h2]
    by_cases q : x i = m
    · rw [if_neg (not_not_intro (by rw [q])), show z_i (z_hk x m i) + Int32.ofInt 1 = z_i (z_hk x m (i + 1)) by rw [st, if_pos q]; exact z_i1 _]
      exact ih (i + 1) (by omega)
    · rw [if_pos (fun e => q (by have := congrArg (fun z => z.toInt.toNat) e; simp only [z_iin (show x i < 2147483648 by omega), em] at this; exact this)), z_addz, show z_hk x m i = z_hk x m (i + 1) by rw [st, if_neg q, Nat.add_zero]]
      exact ih (i + 1) (by omega)
theorem z_rmA {x : Nat → Nat} {W : v_Sf} (hn : n ≤ 6) (hK : K ≤ 3) (hx : ∀ j, j < n → x j < 6 ∧ W 154 j = z_i (x j)) (hr : ∀ m, m < K → (W 123 ((W 153 m).toInt.toNat)).toInt = room m) : ∀ (r m : Nat), m + r = K → (r_X12_isRoomFor_2 (z_i n) (z_i K) W r m = Int32.ofInt 1 ∧ ∀ m', m ≤ m' → m' < K → (z_hk x m' n : Int) ≤ room m') ∨ (r_X12_isRoomFor_2 (z_i n) (z_i K) W r m = Int32.ofInt 0 ∧ ¬ ∀ m', m ≤ m' → m' < K → (z_hk x m' n : Int) ≤ room m') := by
  intro r
  induction r with
  | zero =>
    intro m hm
    exact Or.inl ⟨by rw [r_X12_isRoomFor_2], fun m' h1 h2 => by omega⟩
  | succ r ih =>
    intro m hm
    have e := z_rm13 hn hx (z_i n) (z_i K) (r_X12_isRoomFor_2 (z_i n) (z_i K) W r (m + 1)) (m := m) (by omega) (hr m (by omega)) n 0 (by omega)
    have e' : r_X12_isRoomFor_13 (z_i n) (z_i K) W (r_X12_isRoomFor_2 (z_i n) (z_i K) W r (m + 1)) m n 0 (Int32.ofInt 0) = if (z_hk x m n : Int) ≤ room m then r_X12_isRoomFor_2 (z_i n) (z_i K) W r (m + 1) else Int32.ofInt 0 := e
    rw [r_X12_isRoomFor_2, z_iin (by omega), Nat.sub_zero, e']
    by_cases q : (z_hk x m n : Int) ≤ room m
    · rw [if_pos q]
      rcases ih (m + 1) (by omega) with ⟨a, b⟩ | ⟨a, b⟩
      · refine Or.inl ⟨a, fun m' h1 h2 => ?_⟩
        by_cases e2 : m' = m
        · rw [e2]
          exact q
        · exact b m' (by omega) h2
      · exact Or.inr ⟨a, fun h => b (fun m' h1 h2 => h m' (by omega) h2)⟩
    · rw [if_neg q]
      exact Or.inr ⟨rfl, fun h => q (h m (Nat.le_refl m) (by omega))⟩
theorem z_tw12 (hq : ∀ U, z_fN V U → ∀ a b, a < n → b < n → a ≠ b → (f_X12_doQuarrel (V 152 a) (V 152 b) U = 0 ↔ ¬ od a b) ∧ ∀ a' j, ¬ (a' = 99 ∧ 27 ≤ j ∧ j ≤ 40) → a' ≠ 114 → a' ≠ 115 → g_X12_doQuarrel (V 152 a) (V 152 b) U a' j = U a' j) (hn : n ≤ 6) {x : Nat → Nat} (hx : ∀ j, j < n → x j < 6) (x1 : Int32) (κ : Int32 → v_Sf → Int32 × v_Sf) {a : Nat} (ha : a < n) (c0 : Int) : ∀ (r b : Nat) (U : v_Sf), b + r = a → z_fN V U → (∀ j, j < n → U 154 j = z_i (x j)) → ∃ U', r_X12_twosIn_12 x1 κ a r b (Int32.ofInt (c0 + (z_sum (fun b => x b = x a ∧ od a b) b : Int))) U = κ (Int32.ofInt (c0 + (z_hp od x a : Int))) U' ∧ z_fN V U' ∧ (∀ j, j < n → U' 154 j = z_i (x j)) ∧ ∀ j, U' 155 j = U 155 j := by
  have ea : (z_i a).toInt.toNat = a := z_iin (by omega)
  intro r
  induction r with
  | zero =>
    intro b U hb hU h154
    obtain rfl : b = a := by omega
    exact ⟨U, by rw [r_X12_twosIn_12]; rfl, hU, h154, fun j => rfl⟩
  | succ r ih =>
    intro b U hb hU h154
    have eb : (z_i b).toInt.toNat = b := z_iin (by omega)
    have xa := hx a ha
    have xb := hx b (by omega)
    obtain ⟨f1, f2⟩ := hq U hU a b ha (by omega) (by omega)
    rw [r_X12_twosIn_12, ea, eb, h154 a ha, h154 b (by omega), hU 152 a (by omega), hU 152 b (by omega)]
    have xe : (z_i (x a) = z_i (x b)) ↔ x a = x b := ⟨fun e => by have := congrArg (fun z => z.toInt.toNat) e; simp only [z_iin (show x a < 2147483648 by omega), z_iin (show x b < 2147483648 by omega)] at this; exact this, fun e => by rw [e]⟩
    have st : z_sum (fun b => x b = x a ∧ od a b) (b + 1) = z_sum (fun b => x b = x a ∧ od a b) b + @ite _ (x b = x a ∧ od a b) (Classical.propDecidable _) 1 0 := rfl
    by_cases q : x a = x b
    · rw [if_neg (not_not_intro (xe.mpr q))]
      generalize hG : g_X12_doQuarrel (V 152 a) (V 152 b) U = G at f2 ⊢
      have hG1 : z_fN V G := fun a' j m => by rw [f2 a' j (by omega) (by omega) (by omega)]; exact hU a' j m
      have hG2 : ∀ j, j < n → G 154 j = z_i (x j) := fun j hj => by rw [f2 154 j (by omega) (by omega) (by omega)]; exact h154 j hj
      have hG3 : ∀ j, G 155 j = U 155 j := fun j => f2 155 j (by omega) (by omega) (by omega)
      by_cases o : od a b
      · rw [if_neg (fun m => f1.mp m o), z_oia, show c0 + (z_sum (fun b => x b = x a ∧ od a b) b : Int) + 1 = c0 + (z_sum (fun b => x b = x a ∧ od a b) (b + 1) : Int) by rw [st, if_pos ⟨q.symm, o⟩]; push_cast; omega]
        obtain ⟨U', u1, u2, u3, u4⟩ := ih (b + 1) G (by omega) hG1 hG2
        exact ⟨U', u1, u2, u3, fun j => by rw [u4 j, hG3 j]⟩
      · rw [if_pos (f1.mpr o), show (z_sum (fun b => x b = x a ∧ od a b) b : Int) = (z_sum (fun b => x b = x a ∧ od a b) (b + 1) : Int) by rw [st, if_neg (fun m => o m.2), Nat.add_zero]]
        obtain ⟨U', u1, u2, u3, u4⟩ := ih (b + 1) G (by omega) hG1 hG2
        exact ⟨U', u1, u2, u3, fun j => by rw [u4 j, hG3 j]⟩
    · rw [if_pos (fun e => q (xe.mp e)), show (z_sum (fun b => x b = x a ∧ od a b) b : Int) = (z_sum (fun b => x b = x a ∧ od a b) (b + 1) : Int) by rw [st, if_neg (fun m => q m.1.symm), Nat.add_zero]]
      exact ih (b + 1) U (by omega) hU h154
theorem z_tw4 (hq : ∀ U, z_fN V U → ∀ a b, a < n → b < n → a ≠ b → (f_X12_doQuarrel (V 152 a) (V 152 b) U = 0 ↔ ¬ od a b) ∧ ∀ a' j, ¬ (a' = 99 ∧ 27 ≤ j ∧ j ≤ 40) → a' ≠ 114 → a' ≠ 115 → g_X12_doQuarrel (V 152 a) (V 152 b) U a' j = U a' j) (hn : n ≤ 6) {x : Nat → Nat} (hx : ∀ j, j < n → x j < 6) : ∀ (r a : Nat) (U : v_Sf), a + r = n → z_fN V U → (∀ j, j < n → U 154 j = z_i (x j)) → ∃ U', r_X12_twosIn_4 (z_i n) r a (Int32.ofInt (z_hsc od x a)) U = (Int32.ofInt (z_hsc od x n), U') ∧ z_fN V U' ∧ (∀ j, j < n → U' 154 j = z_i (x j)) ∧ ∀ j, U' 155 j = U 155 j := by
  intro r
  induction r with
  | zero =>
    intro a U ha hU h154
    obtain rfl : a = n := by omega
    exact ⟨U, by rw [r_X12_twosIn_4], hU, h154, fun j => rfl⟩
  | succ r ih =>
    intro a U ha hU h154
    obtain ⟨U1, u1, u2, u3, u4⟩ := z_tw12 hq hn hx (z_i n) (fun v0 S => r_X12_twosIn_4 (z_i n) r (a + 1) v0 S) (a := a) (by omega) (z_hsc od x a) a 0 U (by omega) hU h154
    have u1' : r_X12_twosIn_12 (z_i n) (fun v0 S => r_X12_twosIn_4 (z_i n) r (a + 1) v0 S) a a 0 (Int32.ofInt (z_hsc od x a)) U = r_X12_twosIn_4 (z_i n) r (a + 1) (Int32.ofInt (z_hsc od x (a + 1))) U1 := by
      have e : z_hsc od x a + ((z_sum (fun b => x b = x a ∧ od a b) 0 : Nat) : Int) = z_hsc od x a := by rw [z_sum]; simp
      rw [e] at u1
      exact u1
    rw [r_X12_twosIn_4, Nat.sub_zero, u1']
    obtain ⟨U', v1, v2, v3, v4⟩ := ih (a + 1) U1 (by omega) u2 u3
    exact ⟨U', v1, v2, v3, fun j => by rw [v4 j, u4 j]⟩
theorem z_h81 (hq : ∀ U, z_fN V U → ∀ a b, a < n → b < n → a ≠ b → (f_X12_doQuarrel (V 152 a) (V 152 b) U = 0 ↔ ¬ od a b) ∧ ∀ a' j, ¬ (a' = 99 ∧ 27 ≤ j ∧ j ≤ 40) → a' ≠ 114 → a' ≠ 115 → g_X12_doQuarrel (V 152 a) (V 152 b) U a' j = U a' j) (hn : 1 ≤ n ∧ n ≤ 6) (hK : 1 ≤ K ∧ K ≤ 3) (hr : ∀ m, m < K → (V 123 ((V 153 m).toInt.toNat)).toInt = room m) (x1 x3 : Int32) {B : z_Gt} {y : Int32} {U : v_Sf} (J : z_Jn n B V y U) {k : Nat} (hk : k < 1000000) : ∃ y' U', (∀ R, r_X12_housed_81 x1 x3 (z_i n) (z_i K) (R + 1) k y U = r_X12_housed_81 x1 x3 (z_i n) (z_i K) R (k + 1) y' U') ∧ z_Jn n (z_gs n (z_rm K room) (z_hsc od) (z_gd K n k) B) V y' U' := by
  obtain ⟨j1, j2, j3, j4, j5⟩ := id J
  have en : (z_i n).toInt.toNat = n := z_iin (by omega)
  have eK : (z_i K).toInt.toNat = K := z_iin (by omega)
  have en1 : z_i n - Int32.ofInt 1 = Int32.ofInt ((n : Int) - 1) := by
    unfold z_i
    rw [z_ois]
  obtain ⟨W, w1, w2, w3⟩ := z_opnK (K := K) (by omega) n k U (by omega) hk
  have eW : g_X12_opensRow (z_i k) (z_i n) (z_i K) U = W := by
    unfold g_X12_opensRow F_X12_opensRow
    rw [en1, q_ofr (by omega) (by omega), show ((n : Int) - 1 + 1).toNat = n by omega]
    exact w1
  have hxK : ∀ j, j < n → z_gd K n k j < K := fun j _ => Nat.mod_lt _ (by omega)
  have hx : ∀ j, j < n → z_gd K n k j < 6 := fun j hj => by have := hxK j hj; omega
  have w154 : ∀ j, j < n → W 154 j = z_i (z_gd K n k j) := fun j hj => w2 j hj
  have fW : z_fN V W := fun a j q => by rw [w3 a j (by omega)]; exact j1 a j q
  have cb := z_hc_b od (z_gd K n k) n hn.2
  have rm := z_rmA (n := n) (K := K) (room := room) (x := z_gd K n k) (W := W) hn.2 hK.2 (fun j hj => ⟨hx j hj, w154 j hj⟩) (fun m hm => by rw [fW 153 m (by omega), fW 123 _ (by omega)]; exact hr m hm) K 0 (by omega)
  obtain ⟨U2, t1, t2, t3, t4⟩ := z_tw4 hq hn.2 hx n 0 W (by omega) fW w154
  have ft : f_X12_twosIn (z_i n) W = Int32.ofInt (z_hsc od (z_gd K n k) n) ∧ g_X12_twosIn (z_i n) W = U2 := by
    unfold f_X12_twosIn g_X12_twosIn F_X12_twosIn
    have t1' : r_X12_twosIn_4 (z_i n) ((z_i n).toInt.toNat - 0) 0 (Int32.ofInt 0) W = (Int32.ofInt (z_hsc od (z_gd K n k) n), U2) := by
      rw [en, Nat.sub_zero]
      exact t1
    rw [t1']
    exact ⟨rfl, rfl⟩
  have fr : f_X12_isRoomFor (z_i n) (z_i K) W = r_X12_isRoomFor_2 (z_i n) (z_i K) W K 0 := by
    unfold f_X12_isRoomFor F_X12_isRoomFor
    rw [eK, Nat.sub_zero]
  have unf : ∀ R, r_X12_housed_81 x1 x3 (z_i n) (z_i K) (R + 1) k y U = (if ¬ (r_X12_isRoomFor_2 (z_i n) (z_i K) W K 0) = 0 then (if Int32.ofInt (z_hsc od (z_gd K n k) n) < y then r_X12_housed_81 x1 x3 (z_i n) (z_i K) R (k + 1) (Int32.ofInt (z_hsc od (z_gd K n k) n)) (g_X12_keepsRow (z_i n) U2) else r_X12_housed_81 x1 x3 (z_i n) (z_i K) R (k + 1) y U2) else r_X12_housed_81 x1 x3 (z_i n) (z_i K) R (k + 1) y W) := fun R => by
    rw [r_X12_housed_81, eW, fr, ft.1, ft.2]
  have stay : ∀ U', z_fN V U' → (∀ j, U' 155 j = W 155 j) → z_Jn n B V y U' := fun U' h1 h2 => ⟨h1, j2, fun m j hj => by rw [h2 j, w3 155 j (by omega)]; exact j3 m j hj, j4, j5⟩
  have lt_iff : (Int32.ofInt (z_hsc od (z_gd K n k) n) < y) ↔ z_hsc od (z_gd K n k) n < B.1 := by
    rw [j2]
    by_cases m : B.1 < 1000
    · rw [if_pos m]
      exact z_oil (by omega) (by omega)
    · rw [if_neg m, z_ltI2, q_ofr (by omega) (by omega), show (Int32.ofInt 1000000000).toInt = 1000000000 from rfl]
      omega
  unfold z_gs
  rcases rm with ⟨a, b⟩ | ⟨a, b⟩
  · have vo : z_rm K room (z_gd K n k) n := ⟨hxK, fun m hm => b m (by omega) hm⟩
    rw [a] at unf
    by_cases lt : z_hsc od (z_gd K n k) n < B.1
    · rw [if_pos ⟨vo, lt⟩]
      refine ⟨Int32.ofInt (z_hsc od (z_gd K n k) n), g_X12_keepsRow (z_i n) U2, fun R => by rw [unf, if_pos (show ¬ Int32.ofInt 1 = 0 by decide), if_pos (lt_iff.mpr lt)], ?_⟩
      unfold g_X12_keepsRow F_X12_keepsRow
      obtain ⟨X, y1, y2, y3, y4⟩ := z_keepR (n := n) n 0 U2 (by omega)
      rw [en, Nat.sub_zero, y1]
      refine ⟨fun a j m => by rw [y3 a j (by omega)]; exact t2 a j m, ?_, fun _ j hj => ?_, cb.1, ?_⟩
      · show _ = if z_hsc od (z_gd K n k) n < 1000 then _ else _
        rw [if_pos (by omega)]
      · rw [y2 j (by omega) (by omega)]
        exact t3 j hj
      · show z_hsc od (z_gd K n k) n ≤ 1000
        omega
    · rw [if_neg (fun m => lt m.2)]
      exact ⟨y, U2, fun R => by rw [unf, if_pos (show ¬ Int32.ofInt 1 = 0 by decide), if_neg (fun m => lt (lt_iff.mp m))], stay U2 t2 t4⟩
  · rw [a] at unf
    rw [if_neg (fun m => b (fun m' _ h => m.1.2 m' h))]
    exact ⟨y, W, fun R => by rw [unf, if_neg (show ¬ ¬ Int32.ofInt 0 = 0 from fun m => m rfl)], stay W fW (fun j => rfl)⟩
theorem z_hge (hq : ∀ U, z_fN V U → ∀ a b, a < n → b < n → a ≠ b → (f_X12_doQuarrel (V 152 a) (V 152 b) U = 0 ↔ ¬ od a b) ∧ ∀ a' j, ¬ (a' = 99 ∧ 27 ≤ j ∧ j ≤ 40) → a' ≠ 114 → a' ≠ 115 → g_X12_doQuarrel (V 152 a) (V 152 b) U a' j = U a' j) (hn : 1 ≤ n ∧ n ≤ 6) (hK : 1 ≤ K ∧ K ≤ 3) (hr : ∀ m, m < K → (V 123 ((V 153 m).toInt.toNat)).toInt = room m) (x1 x3 : Int32) : ∀ (R k : Nat) (B : z_Gt) (y : Int32) (U : v_Sf), k + R < 1000000 → z_Jn n B V y U → ∃ y' U', r_X12_housed_81 x1 x3 (z_i n) (z_i K) R k y U = r_X12_housed_81 x1 x3 (z_i n) (z_i K) 0 (k + R) y' U' ∧ z_Jn n (z_ge K n (z_rm K room) (z_hsc od) R k B) V y' U' := by
  intro R
  induction R with
  | zero =>
    intro k B y U _ J
    exact ⟨y, U, rfl, J⟩
  | succ R ih =>
    intro k B y U hk J
    obtain ⟨y1, U1, e1, J1⟩ := z_h81 hq hn hK hr x1 x3 J (k := k) (by omega)
    rw [e1, z_ge, show k + (R + 1) = k + 1 + R by omega]
    exact ih (k + 1) _ y1 U1 (by omega) J1
end HR
