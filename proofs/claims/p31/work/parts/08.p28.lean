section Prt28
/-! the cells and what each may hold -/
noncomputable def v_T0 : List v_Ct := [.inr (.inr (11, [.inr (.inl 46), .inr (.inl 67), .inr (.inl 33), .inr (.inl 51), .inr (.inl 76), .inr (.inl 77), .inr (.inl 87), .inr (.inl 95), .inr (.inl 48), .inr (.inl 2), .inr (.inl 12), .inr (.inl 22), .inr (.inl 32), .inl ((-2147483648), 2147483647), .inl (0, 1)])), .inr (.inr (7, [.inl ((-2147483648), 2147483647), .inr (.inl 3), .inr (.inl 4), .inr (.inl 5), .inr (.inl 6), .inr (.inl 7), .inr (.inl 8), .inl ((-2147483648), 2147483647), .inr (.inl 9), .inr (.inl 10), .inr (.inl 11), .inl ((-2147483648), 2147483647), .inl ((-2147483648), 2147483647), .inl ((-2147483648), 2147483647), .inl ((-2147483648), 2147483647)])), .inl (0, 12, (-2147483648), 2147483647), .inl (0, 12, (-2147483648), 2147483647), .inl (0, 12, (-2147483648), 2147483647), .inl (0, 12, (-2147483648), 2147483647), .inl (0, 12, (-2147483648), 2147483647), .inl (0, 12, (-2147483648), 2147483647), .inl (0, 5, (-2147483648), 2147483647), .inl (0, 5, (-2147483648), 2147483647), .inl (0, 6, (-2147483648), 2147483647), .inr (.inr (7, [.inl ((-2147483648), 2147483647), .inr (.inl 13), .inr (.inl 14), .inr (.inl 15), .inr (.inl 16), .inr (.inl 17), .inr (.inl 18), .inl ((-2147483648), 2147483647), .inr (.inl 19), .inr (.inl 20), .inr (.inl 21), .inl ((-2147483648), 2147483647), .inl ((-2147483648), 2147483647), .inl ((-2147483648), 2147483647), .inl ((-2147483648), 2147483647)])), .inl (0, 12, (-2147483648), 2147483647), .inl (0, 12, (-2147483648), 2147483647), .inl (0, 12, (-2147483648), 2147483647), .inl (0, 12, (-2147483648), 2147483647)]
noncomputable def v_T1 : List v_Ct := [.inl (0, 12, (-2147483648), 2147483647), .inl (0, 12, (-2147483648), 2147483647), .inl (0, 5, (-2147483648), 2147483647), .inl (0, 5, (-2147483648), 2147483647), .inl (0, 6, (-2147483648), 2147483647), .inr (.inr (7, [.inl ((-2147483648), 2147483647), .inr (.inl 23), .inr (.inl 24), .inr (.inl 25), .inr (.inl 26), .inr (.inl 27), .inr (.inl 28), .inl ((-2147483648), 2147483647), .inr (.inl 29), .inr (.inl 30), .inr (.inl 31), .inl ((-2147483648), 2147483647), .inl ((-2147483648), 2147483647), .inl ((-2147483648), 2147483647), .inl ((-2147483648), 2147483647)])), .inl (0, 12, (-2147483648), 2147483647), .inl (0, 12, (-2147483648), 2147483647), .inl (0, 12, (-2147483648), 2147483647), .inl (0, 12, (-2147483648), 2147483647), .inl (0, 12, (-2147483648), 2147483647), .inl (0, 12, (-2147483648), 2147483647), .inl (0, 5, (-2147483648), 2147483647), .inl (0, 5, (-2147483648), 2147483647), .inl (0, 6, (-2147483648), 2147483647), .inl (0, 10, (-2147483648), 2147483647)]
noncomputable def v_T2 : List v_Ct := [.inr (.inl [34, 36, 38, 40, 42, 44]), .inr (.inr (9, [.inr (.inl 35), .inl (0, 48), .inl ((-2147483648), 2147483647), .inl ((-2147483648), 2147483647), .inl ((-2147483648), 2147483647)])), .inl (0, 48, (-2147483648), 2147483647), .inr (.inr (9, [.inr (.inl 37), .inl (0, 48), .inl ((-2147483648), 2147483647), .inl ((-2147483648), 2147483647), .inl ((-2147483648), 2147483647)])), .inl (0, 48, (-2147483648), 2147483647), .inr (.inr (9, [.inr (.inl 39), .inl (0, 48), .inl ((-2147483648), 2147483647), .inl ((-2147483648), 2147483647), .inl ((-2147483648), 2147483647)])), .inl (0, 48, (-2147483648), 2147483647), .inr (.inr (9, [.inr (.inl 41), .inl (0, 48), .inl ((-2147483648), 2147483647), .inl ((-2147483648), 2147483647), .inl ((-2147483648), 2147483647)])), .inl (0, 48, (-2147483648), 2147483647), .inr (.inr (9, [.inr (.inl 43), .inl (0, 48), .inl ((-2147483648), 2147483647), .inl ((-2147483648), 2147483647), .inl ((-2147483648), 2147483647)])), .inl (0, 48, (-2147483648), 2147483647), .inr (.inr (9, [.inr (.inl 45), .inl (0, 48), .inl ((-2147483648), 2147483647), .inl ((-2147483648), 2147483647), .inl ((-2147483648), 2147483647)])), .inl (0, 48, (-2147483648), 2147483647), .inr (.inr (8, [.inr (.inl 47), .inl (0, 260)])), .inl (0, 260, (-2147483648), 2147483647), .inr (.inr (6, [.inr (.inl 49), .inr (.inl 50)]))]
noncomputable def v_T3 : List v_Ct := [.inl (0, 10, 0, 1023), .inl (0, 10, (-2147483648), 2147483647), .inr (.inr (3, [.inr (.inl 33), .inr (.inl 52), .inr (.inr [53, 60, 68]), .inr (.inr [53, 60, 68])])), .inl (0, 15, (-2147483648), 2147483647), .inr (.inr (1, [.inr (.inl 54), .inr (.inl 55), .inr (.inl 56), .inr (.inl 57), .inr (.inl 58), .inr (.inl 59), .inl (0, 256), .inl (0, 16)])), .inl (0, 256, (-2147483648), 2147483647), .inl (0, 256, (-2147483648), 2147483647), .inl (0, 32, (-2147483648), 2147483647), .inl (0, 16, (-2147483648), 2147483647), .inl (0, 16, (-2147483648), 2147483647), .inl (0, 16, (-2147483648), 2147483647), .inr (.inr (1, [.inr (.inl 61), .inr (.inl 62), .inr (.inl 63), .inr (.inl 64), .inr (.inl 65), .inr (.inl 66), .inl (0, 256), .inl (0, 16)])), .inl (0, 256, (-2147483648), 2147483647), .inl (0, 256, (-2147483648), 2147483647), .inl (0, 32, (-2147483648), 2147483647), .inl (0, 16, (-2147483648), 2147483647)]
noncomputable def v_T4 : List v_Ct := [.inl (0, 16, (-2147483648), 2147483647), .inl (0, 16, (-2147483648), 2147483647), .inr (.inr (5, [.inr (.inl 46), .inr (.inr [53, 60, 68]), .inr (.inl 75), .inl (0, 49), .inl ((-2147483648), 2147483647), .inl ((-2147483648), 2147483647), .inl ((-2147483648), 2147483647)])), .inr (.inr (1, [.inr (.inl 69), .inr (.inl 70), .inr (.inl 71), .inr (.inl 72), .inr (.inl 73), .inr (.inl 74), .inl (0, 256), .inl (0, 16)])), .inl (0, 256, (-2147483648), 2147483647), .inl (0, 256, (-2147483648), 2147483647), .inl (0, 32, (-2147483648), 2147483647), .inl (0, 16, (-2147483648), 2147483647), .inl (0, 16, (-2147483648), 2147483647), .inl (0, 16, (-2147483648), 2147483647), .inl (0, 49, (-2147483648), 2147483647), .inr (.inr (0, [.inr (.inl 33), .inr (.inl 51), .inr (.inl 48), .inl ((-2147483648), 2147483647), .inl ((-2147483648), 2147483647), .inl ((-2147483648), 2147483647), .inl ((-2147483648), 2147483647), .inl ((-2147483648), 2147483647)])), .inr (.inr (4, [.inr (.inl 33), .inr (.inl 51), .inr (.inl 78), .inr (.inl 79), .inl (0, 8), .inl (0, 8), .inr (.inl 80), .inr (.inl 81), .inr (.inl 82), .inr (.inl 83), .inr (.inl 84), .inr (.inl 85), .inl ((-2147483648), 2147483647), .inr (.inl 86)])), .inl (0, 8, 0, 11), .inl (0, 8, 0, 11), .inl (0, 8, (-2147483648), 2147483647)]
noncomputable def v_T5 : List v_Ct := [.inl (0, 8, (-2147483648), 2147483647), .inl (0, 8, (-2147483648), 2147483647), .inl (0, 64, (-2147483648), 2147483647), .inl (0, 8, (-2147483648), 2147483647), .inl (0, 8, (-2147483648), 2147483647), .inl (0, 2048, (-2147483648), 2147483647), .inr (.inr (10, [.inl ((-2147483648), 2147483647), .inr (.inl 88), .inr (.inl 89), .inr (.inl 90), .inr (.inl 91), .inl (0, 6), .inr (.inl 92), .inr (.inl 93), .inr (.inl 94), .inl ((-2147483648), 2147483647), .inl ((-2147483648), 2147483647)])), .inl (0, 4, (-2147483648), 2147483647), .inl (0, 4, (-2147483648), 2147483647), .inl (0, 4, (-2147483648), 2147483647), .inl (0, 6, 0, 11), .inl (0, 7, (-2147483648), 2147483647), .inl (0, 6, (-2147483648), 2147483647), .inl (0, 6, (-2147483648), 2147483647), .inr (.inr (2, [.inl ((-2147483648), 2147483647), .inr (.inl 96), .inr (.inl 97), .inr (.inl 98), .inr (.inl 99)])), .inl (0, 5, (-2147483648), 2147483647)]
noncomputable def v_T6 : List v_Ct := [.inl (0, 5, (-2147483648), 2147483647), .inl (0, 12, (-2147483648), 2147483647), .inl (0, 5, (-2147483648), 2147483647), .inr (.inr (12, [.inr (.inl 101), .inl (0, 260), .inl (0, 65535), .inl (0, 1000), .inl (0, 260), .inl ((-2147483648), 2147483647), .inl (0, 16), .inl (0, 240), .inl ((-2147483648), 2147483647), .inl (0, 240), .inr (.inl 102), .inr (.inl 103), .inr (.inl 104), .inr (.inl 105), .inr (.inl 106), .inr (.inl 107), .inl (0, 16), .inl (0, 12), .inr (.inl 108), .inr (.inl 109), .inr (.inl 110), .inr (.inl 111), .inr (.inl 112), .inr (.inl 113), .inl (0, 1), .inl (0, 1), .inr (.inl 114), .inl ((-2147483648), 2147483647), .inl ((-2147483648), 2147483647), .inl ((-2147483648), 2147483647), .inl ((-2147483648), 2147483647), .inl ((-2147483648), 2147483647), .inl ((-2147483648), 2147483647), .inl ((-2147483648), 2147483647), .inl ((-2147483648), 2147483647), .inl ((-2147483648), 2147483647), .inl ((-2147483648), 2147483647), .inl ((-2147483648), 2147483647), .inl ((-2147483648), 2147483647), .inl ((-2147483648), 2147483647), .inl ((-2147483648), 2147483647), .inr (.inl 115), .inr (.inl 116), .inr (.inl 117), .inr (.inl 118), .inr (.inl 119), .inr (.inl 120), .inr (.inl 121), .inr (.inl 122), .inr (.inl 123), .inr (.inl 124), .inr (.inl 125), .inr (.inl 126), .inr (.inl 127), .inr (.inl 128), .inr (.inl 129), .inr (.inl 130), .inr (.inl 131), .inr (.inl 132), .inr (.inl 133), .inl (0, 9999), .inl ((-2147483648), 2147483647), .inl ((-2147483648), 2147483647), .inr (.inl 134), .inl (0, 48), .inl (0, 2), .inl (0, 1), .inr (.inl 135), .inr (.inl 136), .inr (.inl 137), .inl ((-2147483648), 2147483647), .inl ((-2147483648), 2147483647), .inl ((-2147483648), 2147483647), .inl ((-2147483648), 2147483647), .inl ((-2147483648), 2147483647), .inl ((-2147483648), 2147483647), .inl ((-2147483648), 2147483647), .inr (.inl 138), .inr (.inl 139), .inr (.inl 140), .inr (.inl 141), .inr (.inl 142), .inr (.inl 143), .inr (.inl 144), .inr (.inl 145), .inr (.inl 146), .inr (.inl 147), .inr (.inl 148), .inr (.inl 149), .inr (.inl 150), .inr (.inl 151), .inr (.inl 152), .inl (0, 1), .inr (.inl 153), .inr (.inl 154), .inr (.inl 155), .inr (.inl 156), .inr (.inl 157), .inr (.inl 158), .inr (.inl 159), .inl ((-2147483648), 2147483647), .inl ((-2147483648), 2147483647), .inl ((-2147483648), 2147483647), .inl ((-2147483648), 2147483647), .inr (.inl 160), .inr (.inl 161), .inr (.inl 162), .inl (0, 10), .inr (.inl 163), .inr (.inl 164), .inr (.inl 165), .inr (.inl 166), .inr (.inl 167), .inr (.inl 168), .inr (.inl 169), .inr (.inl 170), .inr (.inl 171), .inr (.inl 172), .inr (.inl 173)])), .inl (1, 260, (-128), 127), .inl (0, 28, (-2147483648), 2147483647), .inl (0, 28, (-2147483648), 2147483647), .inl (0, 28, (-2147483648), 2147483647), .inl (0, 28, (-2147483648), 2147483647), .inl (0, 480, (-2147483648), 2147483647), .inl (0, 480, (-2147483648), 2147483647), .inl (0, 16, (-2147483648), 2147483647), .inl (0, 16, (-2147483648), 2147483647), .inl (0, 16, (-2147483648), 2147483647), .inl (0, 16, (-2147483648), 2147483647), .inl (0, 240, (-2147483648), 2147483647)]
noncomputable def v_T7 : List v_Ct := [.inl (0, 240, (-2147483648), 2147483647), .inl (0, 240, (-2147483648), 2147483647), .inl (0, 240, (-2147483648), 2147483647), .inl (2, 240, 0, 1), .inl (2, 12, 0, 1), .inl (0, 12, (-2147483648), 2147483647), .inl (0, 12, (-1), 7), .inl (0, 12, (-2147483648), 2147483647), .inl (0, 12, 0, 5), .inl (0, 12, (-2147483648), 2147483647), .inl (0, 12, 0, 1023), .inl (0, 6, 0, 9), .inl (0, 6, (-2147483648), 2147483647), .inl (0, 6, (-1), 4), .inl (0, 288, (-1), 9), .inl (0, 6, 0, 48)]
noncomputable def v_T8 : List v_Ct := [.inl (0, 6, 0, 47), .inl (2, 5, 0, 1), .inl (0, 5, (-2147483648), 2147483647), .inl (0, 5, (-2147483648), 2147483647), .inl (0, 10, 0, 1023), .inl (0, 48, (-1), 9), .inl (0, 2, 0, 48), .inl (0, 2, 0, 9), .inl (0, 2, (-2147483648), 2147483647), .inl (2, 24, 0, 1), .inl (0, 24, (-2147483648), 2147483647), .inl (0, 24, (-1), 7), .inl (0, 24, (-2147483648), 2147483647), .inl (0, 24, 0, 5), .inl (0, 24, (-2147483648), 2147483647), .inl (0, 24, 0, 1023)]
noncomputable def v_T9 : List v_Ct := [.inl (2, 10, 0, 1), .inl (0, 10, (-2147483648), 2147483647), .inl (0, 10, (-2147483648), 2147483647), .inl (0, 12, 0, 47), .inl (0, 2, 0, 9999), .inl (0, 2, (-2147483648), 2147483647), .inl (0, 2, (-2147483648), 2147483647), .inl (0, 2, 0, 65535), .inl (0, 12, 0, 11), .inl (0, 6, 0, 5), .inl (0, 8, 0, 4), .inl (0, 8, 0, 4), .inl (2, 4, 0, 1), .inl (0, 4, 0, 7), .inl (0, 4, (-2147483648), 2147483647), .inl (2, 10, 0, 1)]
noncomputable def v_T10 : List v_Ct := [.inl (0, 10, (-2147483648), 2147483647), .inl (0, 10, 0, 9), .inl (2, 5, 0, 1), .inl (0, 5, (-2147483648), 2147483647), .inl (0, 5, (-2147483648), 2147483647), .inl (0, 5, (-1), 11), .inl (0, 12, 0, 31), .inl (0, 8, (-2147483648), 2147483647), .inl (0, 8, (-2147483648), 2147483647), .inl (0, 8, (-2147483648), 2147483647), .inl (0, 8, (-2147483648), 2147483647), .inl (0, 2048, (-2147483648), 2147483647), .inl (2, 64, 0, 1)]
noncomputable def v_T : List (List v_Ct) := [v_T0, v_T1, v_T2, v_T3, v_T4, v_T5, v_T6, v_T7, v_T8, v_T9, v_T10]
noncomputable def v_ty (a : Nat) : Option v_Ct := match q_nth v_T (a / 16) with
  | some r => q_nth r (a % 16)
  | none => none
theorem v_T_len : ∀ i : Fin v_T.length, 16 * i.val + v_T[i].length ≤ v_N := by decide +kernel
theorem v_ty_lt (a : Nat) (t : v_Ct) (h : v_ty a = some t) : a < v_N := by
  unfold v_ty at h
  split at h
  · rename_i r hr
    rw [q_nth_eq] at hr h
    have h1 := (List.getElem?_eq_some_iff.mp hr).1
    have h2 := (List.getElem?_eq_some_iff.mp h).1
    have h3 := v_T_len ⟨a / 16, h1⟩
    have e : r = v_T[a / 16] := by
      rw [List.getElem?_eq_getElem h1] at hr
      exact (Option.some.inj hr).symm
    rw [e] at h2
    dsimp only at h3
    have h4 : v_T[(⟨a / 16, h1⟩ : Fin v_T.length)] = v_T[a / 16] := rfl
    rw [h4] at h3
    omega
  · cases h
noncomputable def v_fz : List (Nat × Nat × Nat) := [(99, 16, 16), (99, 17, 17), (102, 0, 10000000000), (103, 0, 10000000000), (104, 0, 10000000000), (105, 0, 10000000000)]
noncomputable def v_frz (a lo hi : Nat) : Bool := v_hit v_fz a lo hi
theorem v_hit_jj : ∀ (m : List (Nat × Nat × Nat)) (a j : Nat), v_hit m a j j = v_md m a j j
  | [], _, _ => rfl
  | q :: m, a, j => by
    show (bif Nat.beq q.1 a && (Nat.ble q.2.1 j && Nat.ble j q.2.2) then true else v_hit m a j j) = (bif Nat.beq q.1 a && (Nat.ble q.2.1 j && Nat.ble j q.2.2) then true else v_md m a j j)
    rw [v_hit_jj m a j]
/-- a stretch of code that never asks for more than is on its stack -/
noncomputable def v_seg (c : Nat → Int32) : Nat → Nat → Nat → Prop
  | 0, _, _ => True
  | n + 1, i, dep => if c i > 2 then 2 ≤ dep ∧ v_seg c n (i + 1) (dep - 1) else if c i = 2 then 1 ≤ dep ∧ v_seg c n (i + 1) dep else v_seg c n (i + 1) (dep + 1)
noncomputable def v_stretch (c : Nat → Int32) (a b : Int32) : Prop := 0 ≤ a.toInt ∧ a.toInt ≤ b.toInt ∧ b.toInt ≤ 480 ∧ b.toInt - a.toInt ≤ 240 ∧ v_seg c (b.toInt - a.toInt).toNat a.toInt.toNat 0
noncomputable def v_Op (S : v_Sf) : Prop := (∀ k : Nat, (k : Int) < (S 99 16).toInt → v_stretch (S 105) (S 102 k) (S 103 k) ∧ v_stretch (S 105) (S 103 k) (S 104 k) ∧ (S 104 k).toInt ≤ 240) ∧ (∀ k : Nat, (k : Int) < (S 99 17).toInt → v_stretch (S 105) (S 103 (16 + k)) (S 104 (16 + k)) ∧ 240 ≤ (S 103 (16 + k)).toInt)
theorem v_seg_c {c c' : Nat → Int32} : ∀ {n i dep : Nat}, (∀ j, i ≤ j → j < i + n → c' j = c j) → v_seg c n i dep → v_seg c' n i dep
  | 0, _, _, _, _ => trivial
  | n + 1, i, dep, h, hs => by
    unfold v_seg at hs ⊢
    rw [h i (Nat.le_refl _) (by omega)]
    split
    · rename_i h1
      rw [if_pos h1] at hs
      exact ⟨hs.1, v_seg_c (fun j h2 h3 => h j (by omega) (by omega)) hs.2⟩
    · rename_i h1
      rw [if_neg h1] at hs
      split
      · rename_i h2
        rw [if_pos h2] at hs
        exact ⟨hs.1, v_seg_c (fun j h2 h3 => h j (by omega) (by omega)) hs.2⟩
      · rename_i h2
        rw [if_neg h2] at hs
        exact v_seg_c (fun j h2 h3 => h j (by omega) (by omega)) hs
theorem v_stretch_c {c c' : Nat → Int32} {a b : Int32} (h : ∀ j, j < 480 → c' j = c j) (hs : v_stretch c a b) : v_stretch c' a b := by
  obtain ⟨h1, h2, h3, h4, h5⟩ := hs
  exact ⟨h1, h2, h3, h4, v_seg_c (fun j g1 g2 => h j (by omega)) h5⟩
theorem v_fz_ok : (∀ S S' : v_Sf, (∀ a j, v_frz a j j = true → S' a j = S a j) → v_Op S → v_Op S') ∧ (∀ a lo hi j, v_frz a lo hi = false → lo ≤ j → j ≤ hi → v_frz a j j = false) ∧ (∀ a t, v_ty a = some t → a < v_N) := by
  refine ⟨fun S S' h hO => ?_, fun a lo hi j h h1 h2 => ?_, v_ty_lt⟩
  · have row : ∀ a, v_md v_fz a 0 10000000000 = true → ∀ j, j ≤ 10000000000 → S' a j = S a j := fun a ha j hj => h a j (by unfold v_frz; rw [v_hit_jj]; exact v_md_mono ha (Nat.zero_le _) hj)
    have e1 : S' 99 16 = S 99 16 := h 99 16 (by decide +kernel)
    have e2 : S' 99 17 = S 99 17 := h 99 17 (by decide +kernel)
    have rc := row 105 (by decide +kernel)
    have r1 := row 102 (by decide +kernel)
    have r2 := row 103 (by decide +kernel)
    have r3 := row 104 (by decide +kernel)
    have bnd : ∀ x : Int32, x.toInt ≤ 2147483647 := fun x => (q_rng x).2
    refine ⟨fun k hk => ?_, fun k hk => ?_⟩
    · rw [e1] at hk
      have b := bnd (S 99 16)
      obtain ⟨g1, g2, g3⟩ := hO.1 k hk
      rw [r1 k (by omega), r2 k (by omega), r3 k (by omega)]
      exact ⟨v_stretch_c (fun j hj => rc j (by omega)) g1, v_stretch_c (fun j hj => rc j (by omega)) g2, g3⟩
    · rw [e2] at hk
      have b := bnd (S 99 17)
      obtain ⟨g1, g2⟩ := hO.2 k hk
      rw [r2 (16 + k) (by omega), r3 (16 + k) (by omega)]
      exact ⟨v_stretch_c (fun j hj => rc j (by omega)) g1, g2⟩
  · unfold v_frz at h ⊢
    rw [v_hit_jj]
    exact v_hit_md h h1 h2
end Prt28
section Prt29
/-! hooks that are proved by hand -/
noncomputable def v_pr2 (e : q_S) (s : Nat) (p : q_N) : q_S := match q_cse e 20 p (.inl 0) with
  | some z => v_bd e s 0 (q_iv e (.inr z)).2
  | none => e
noncomputable def v_pr1 (e : q_S) (v a : q_N) : q_S := match v, a with
  | .inr s, .inr t => (match q_nth e t with
    | some f => (match f.2.2.1, f.2.2.2.1, f.2.2.2.2 with
      | 4, p, q => v_pr2 (v_pr2 e s p) s q
      | _, _, _ => e)
    | none => e)
  | _, _ => e
noncomputable def v_spz (a : q_N) (A : v_A) (k : v_K) : Bool := v_bin 20 a (.inl 0) A.1 (fun v e => k (some (.inl v)) (v_pr1 e v a, A.2))
noncomputable def v_spt (hi : Int) (row n : Nat) (mods : List (Nat × Nat × Nat)) (a : q_N) (A : v_A) (k : v_K) : Bool := bif v_in (q_iv A.1 a) 0 hi && v_md mods row 0 n then v_bin 20 a (.inl 0) A.1 (fun v e => k (some (.inl v)) (e, v_ok A.1 [(row, 0, n)] A.2.1, A.2.2)) else false
noncomputable def v_less (e : q_S) (a b : q_N) : Bool := q_ilt (q_iv e a).2 (q_iv e b).1 || (match q_cse e 2 a b with
  | some z => q_ile (q_iv e (.inr z)).2 (-1) && (q_ile (-2147483648) ((q_iv e a).1 - (q_iv e b).2) && q_ile ((q_iv e a).2 - (q_iv e b).1) 2147483647)
  | none => false)
/-- a stretch of code that stands in the tables: from and to are told by the rows r1, r2 at the same place, which lies below what is there -/
noncomputable def v_wk1 (A : v_A) (i : q_N) (rule : Bool) : Bool := (match v_of A.2.1 99 (.inl 16) with
  | some c => v_less A.1 i c
  | none => false) || (bif rule then (match v_of A.2.1 99 (.inl 17) with
  | some c => (match i with
    | .inl n => q_ile 16 n && v_less A.1 (.inl (n - 16)) c
    | .inr t => (match q_nth A.1 t with
      | some f => (match f.2.2.1, f.2.2.2.1 with
        | 1, .inl n => q_ieq n 16 && (q_ile 0 (q_iv A.1 f.2.2.2.2).1 && (q_ile (q_iv A.1 f.2.2.2.2).2 100 && v_less A.1 f.2.2.2.2 c))
        | _, _ => false)
      | none => false))
  | none => false) else false)
noncomputable def v_wk (A : v_A) (r1 r2 : Nat) (rule : Bool) (a b : q_N) (ov : List (Nat × q_N × q_N)) : Bool := List.rec (motive := fun _ => Bool) false (fun h _ ih => bif Nat.beq h.1 r1 && q_nb h.2.2 a then (bif (match v_of A.2.1 r2 h.2.1 with
  | some b' => q_nb b b' && v_wk1 A h.2.1 rule
  | none => false) then true else ih) else ih) ov
noncomputable def v_spw (mods : List (Nat × Nat × Nat)) (a b : q_N) (A : v_A) (k : v_K) : Bool := bif (v_wk A 103 104 true a b A.2.1 || v_wk A 102 103 false a b A.2.1) && (v_md mods 114 0 240 && v_md mods 115 0 240) then k none (A.1, v_ok A.1 [(114, 0, 240), (115, 0, 240)] A.2.1, v_rk [(114, 0, 240), (115, 0, 240)] A.2.2) else false
noncomputable def v_sp (rw : Nat → List v_Rw) (D : Nat) (mods : List (Nat × Nat × Nat)) : v_Hk := fun d' x as A k =>
  bif Nat.beq x 162 then (match as with
    | [.inl a] => some (bif Nat.ble 1 d' then v_spz a A k else false)
    | _ => none)
  else bif Nat.beq x 251 then (match as with
    | [.inr (.inr (some 100)), .inl a] => some (bif Nat.ble 2 d' then v_spt 4095 152 12 mods a A k else false)
    | _ => none)
  else bif Nat.beq x 256 then (match as with
    | [.inr (.inr (some 100)), .inl a] => some (bif Nat.ble 2 d' then v_spt 63 153 6 mods a A k else false)
    | _ => none)
  else bif Nat.beq x 198 then (match as with
    | [.inr (.inr (some 100)), .inl a, .inl b] => some (bif Nat.ble 4 d' && Nat.blt 4 D then v_spw mods a b A k else false)
    | _ => none)
  else bif Nat.beq x 284 then (match as with
    | [r, .inl a, b] => some (v_need a A.1 (fun c e => match v_find D d' e [r, .inl (.inl c), b] (rw x) with
      | some w => v_post w mods (e, A.2) k
      | none => false))
    | _ => none)
  else none
end Prt29
section Prt30
/-! the rows: printed by a program of mine -/
noncomputable def rw_0 : v_Rw := (6, [.inr (.inl 76), .inr (.inl 2), .inl (1, 60)], none, [(1, 11, 14), (2, 0, 12), (4, 0, 12), (7, 0, 12), (9, 0, 5), (10, 0, 6), (51, 0, 15), (55, 0, 32), (62, 0, 32), (70, 0, 32), (75, 3, 7)])
noncomputable def rw_1 : v_Rw := (6, [.inr (.inl 76), .inr (.inl 22), .inl (1, 60)], none, [(21, 11, 14), (22, 0, 12), (24, 0, 12), (27, 0, 12), (29, 0, 5), (30, 0, 6), (51, 0, 15), (55, 0, 32), (62, 0, 32), (70, 0, 32), (75, 3, 7)])
noncomputable def rw_2 : v_Rw := (5, [.inr (.inl 76), .inr (.inl 2)], none, [(1, 11, 14), (2, 0, 12), (4, 0, 12), (7, 0, 12), (9, 0, 5), (10, 0, 6), (51, 0, 15), (55, 0, 32), (62, 0, 32), (70, 0, 32), (75, 3, 7)])
noncomputable def rw_3 : v_Rw := (5, [.inr (.inl 76), .inr (.inl 22)], none, [(21, 11, 14), (22, 0, 12), (24, 0, 12), (27, 0, 12), (29, 0, 5), (30, 0, 6), (51, 0, 15), (55, 0, 32), (62, 0, 32), (70, 0, 32), (75, 3, 7)])
noncomputable def rw_4 : v_Rw := (4, [.inr (.inl 76), .inr (.inl 2)], none, [(2, 0, 12), (51, 0, 15), (55, 0, 32), (62, 0, 32), (70, 0, 32)])
noncomputable def rw_5 : v_Rw := (4, [.inr (.inl 76), .inr (.inl 22)], none, [(22, 0, 12), (51, 0, 15), (55, 0, 32), (62, 0, 32), (70, 0, 32)])
noncomputable def rw_6 : v_Rw := (4, [.inr (.inl 76), .inr (.inl 2), .inl (0, 5), .inl ((-2147483648), 2147483647)], none, [(2, 0, 12), (51, 0, 15), (55, 0, 32), (62, 0, 32), (70, 0, 32)])
noncomputable def rw_7 : v_Rw := (4, [.inr (.inl 76), .inr (.inl 22), .inl (0, 5), .inl ((-2147483648), 2147483647)], none, [(22, 0, 12), (51, 0, 15), (55, 0, 32), (62, 0, 32), (70, 0, 32)])
noncomputable def rw_8 : v_Rw := (4, [.inr (.inl 76), .inr (.inl 2), .inl (0, 5), .inl ((-2147483648), 2147483647)], none, [(7, 0, 12), (51, 0, 15), (55, 0, 32), (62, 0, 32), (70, 0, 32), (75, 3, 3)])
noncomputable def rw_9 : v_Rw := (4, [.inr (.inl 76), .inr (.inl 22), .inl (0, 5), .inl ((-2147483648), 2147483647)], none, [(27, 0, 12), (51, 0, 15), (55, 0, 32), (62, 0, 32), (70, 0, 32), (75, 3, 3)])
noncomputable def rw_10 : v_Rw := (4, [.inr (.inl 76), .inr (.inl 2)], none, [(1, 12, 12), (51, 0, 15), (55, 0, 32), (62, 0, 32), (70, 0, 32)])
noncomputable def rw_11 : v_Rw := (4, [.inr (.inl 76), .inr (.inl 22)], none, [(21, 12, 12), (51, 0, 15), (55, 0, 32), (62, 0, 32), (70, 0, 32)])
noncomputable def rw_12 : v_Rw := (4, [.inr (.inl 76), .inr (.inl 2)], none, [(1, 13, 13), (4, 0, 12), (51, 0, 15), (55, 0, 32), (62, 0, 32), (70, 0, 32)])
noncomputable def rw_13 : v_Rw := (4, [.inr (.inl 76), .inr (.inl 22)], none, [(21, 13, 13), (24, 0, 12), (51, 0, 15), (55, 0, 32), (62, 0, 32), (70, 0, 32)])
noncomputable def rw_14 : v_Rw := (1, [.inr (.inl 76), .inr (.inl 2)], none, [(9, 0, 5)])
noncomputable def rw_15 : v_Rw := (1, [.inr (.inl 76), .inr (.inl 22)], none, [(29, 0, 5)])
noncomputable def rw_16 : v_Rw := (4, [.inr (.inl 76), .inr (.inl 2)], none, [(51, 0, 15), (55, 0, 32), (62, 0, 32), (70, 0, 32), (75, 5, 7)])
noncomputable def rw_17 : v_Rw := (4, [.inr (.inl 76), .inr (.inl 22)], none, [(51, 0, 15), (55, 0, 32), (62, 0, 32), (70, 0, 32), (75, 5, 7)])
noncomputable def rw_18 : v_Rw := (1, [.inr (.inl 53), .inl ((-2147483648), 2147483647), .inr (.inl 52)], some ((-2147483648), 2147483647), [(55, 0, 32)])
noncomputable def rw_19 : v_Rw := (1, [.inr (.inl 68), .inl ((-2147483648), 2147483647), .inr (.inl 52)], some ((-2147483648), 2147483647), [(70, 0, 32)])
noncomputable def rw_20 : v_Rw := (1, [.inr (.inl 60), .inl ((-2147483648), 2147483647), .inr (.inl 52)], some ((-2147483648), 2147483647), [(62, 0, 32)])
noncomputable def rw_21 : v_Rw := (0, [.inr (.inl 52), .inl ((-2147483648), 2147483647)], some ((-2147483648), 2147483647), [])
noncomputable def rw_22 : v_Rw := (0, [.inl ((-2147483648), 2147483647), .inl ((-2147483648), 2147483647), .inl ((-2147483648), 2147483647)], some ((-2147483648), 2147483647), [])
noncomputable def rw_23 : v_Rw := (3, [.inr (.inl 95), .inr (.inl 2), .inl ((-2147483648), 2147483647), .inl (0, 30)], some ((-2), 4), [])
noncomputable def rw_24 : v_Rw := (1, [.inr (.inl 95), .inr (.inl 46), .inl ((-2147483648), 2147483647)], some (0, 1), [(97, 0, 12), (98, 0, 5)])
noncomputable def rw_25 : v_Rw := (2, [.inr (.inl 95), .inr (.inl 2), .inl ((-2147483648), 2147483647)], some ((-2147483648), 2147483647), [])
noncomputable def rw_26 : v_Rw := (1, [.inr (.inl 95), .inl ((-2147483648), 2147483647)], some ((-1), 4), [])
noncomputable def rw_27 : v_Rw := (2, [.inr (.inl 95), .inr (.inl 2), .inl ((-1), 4), .inl ((-2147483648), 2147483647)], some ((-1), 11), [])
noncomputable def rw_28 : v_Rw := (1, [.inr (.inl 95), .inr (.inl 2), .inl ((-1), 4), .inl (0, 11), .inl ((-2147483648), 2147483647)], some (0, 1), [])
noncomputable def rw_29 : v_Rw := (3, [.inr (.inl 51), .inr (.inl 2), .inl (0, 5)], some ((-2), 15), [(51, 0, 15), (55, 0, 32), (62, 0, 32), (70, 0, 32)])
noncomputable def rw_30 : v_Rw := (3, [.inr (.inl 51), .inr (.inl 22), .inl (0, 5)], some ((-2), 15), [(51, 0, 15), (55, 0, 32), (62, 0, 32), (70, 0, 32)])
noncomputable def rw_31 : v_Rw := (1, [.inr (.inl 51), .inr (.inl 2), .inl (0, 11)], none, [(51, 0, 15)])
noncomputable def rw_32 : v_Rw := (1, [.inr (.inl 51), .inr (.inl 22), .inl (0, 11)], none, [(51, 0, 15)])
noncomputable def rw_33 : v_Rw := (2, [.inr (.inl 51), .inr (.inl 2), .inl (0, 11)], none, [(51, 0, 15)])
noncomputable def rw_34 : v_Rw := (2, [.inr (.inl 51), .inr (.inl 22), .inl (0, 5)], none, [(51, 0, 15)])
noncomputable def rw_35 : v_Rw := (2, [.inr (.inl 51), .inl (98, 105), .inl (0, 20)], some (0, 20), [(55, 0, 32), (62, 0, 32), (70, 0, 32)])
noncomputable def rw_36 : v_Rw := (2, [.inr (.inl 51), .inl (101, 120)], some (0, 1), [(55, 0, 32), (62, 0, 32), (70, 0, 32)])
noncomputable def rw_37 : v_Rw := (11, [.inr (.inl 77), .inr (.inl 2), .inl ((-2147483648), 2147483647), .inl (0, 63)], some (0, 1), [(51, 0, 15), (55, 0, 32), (62, 0, 32), (70, 0, 32), (76, 4, 5), (76, 12, 12), (77, 0, 8), (78, 0, 8), (79, 0, 8), (80, 0, 8), (81, 0, 8), (83, 0, 8), (84, 0, 8)])
noncomputable def rw_38 : v_Rw := (11, [.inr (.inl 77), .inr (.inl 2), .inl (0, 31), .inl (0, 63)], none, [(51, 0, 15), (55, 0, 32), (62, 0, 32), (70, 0, 32), (76, 4, 5), (76, 12, 12), (77, 0, 8), (78, 0, 8), (82, 0, 64), (83, 0, 8), (84, 0, 8)])
noncomputable def rw_39 : v_Rw := (5, [.inr (.inl 77), .inr (.inl 2), .inl ((-2147483648), 2147483647)], some ((-2147483648), 2147483647), [(51, 0, 15), (55, 0, 32), (62, 0, 32), (70, 0, 32), (76, 4, 4), (77, 0, 8), (79, 0, 8), (84, 0, 8), (85, 0, 2048)])
noncomputable def rw_40 : v_Rw := (1, [.inl ((-2147483648), 2147483647), .inr (.inl 78)], some (0, 8), [(77, 0, 8)])
noncomputable def rw_41 : v_Rw := (1, [.inl ((-2147483648), 2147483647), .inr (.inl 91)], some (0, 6), [(90, 0, 6)])
noncomputable def rw_42 : v_Rw := (1, [.inl (0, 63), .inr (.inl 79)], some (0, 8), [(78, 0, 8)])
noncomputable def rw_43 : v_Rw := (4, [.inr (.inl 77), .inr (.inl 2)], none, [(51, 0, 15), (55, 0, 32), (62, 0, 32), (70, 0, 32), (79, 0, 8)])
noncomputable def rw_44 : v_Rw := (2, [.inr (.inl 77), .inl (8, 8), .inl (0, 504)], none, [(76, 12, 12), (84, 0, 8)])
noncomputable def rw_45 : v_Rw := (3, [.inr (.inl 77), .inl (7, 7), .inl (0, 441)], none, [(76, 12, 12), (81, 0, 8), (83, 0, 8), (84, 0, 8)])
noncomputable def rw_46 : v_Rw := (4, [.inr (.inl 77), .inl (6, 6), .inl (0, 378)], none, [(76, 12, 12), (81, 0, 8), (83, 0, 8), (84, 0, 8)])
noncomputable def rw_47 : v_Rw := (5, [.inr (.inl 77), .inl (5, 5), .inl (0, 315)], none, [(76, 12, 12), (81, 0, 8), (83, 0, 8), (84, 0, 8)])
noncomputable def rw_48 : v_Rw := (6, [.inr (.inl 77), .inl (4, 4), .inl (0, 252)], none, [(76, 12, 12), (81, 0, 8), (83, 0, 8), (84, 0, 8)])
noncomputable def rw_49 : v_Rw := (7, [.inr (.inl 77), .inl (3, 3), .inl (0, 189)], none, [(76, 12, 12), (81, 0, 8), (83, 0, 8), (84, 0, 8)])
noncomputable def rw_50 : v_Rw := (8, [.inr (.inl 77), .inl (2, 2), .inl (0, 126)], none, [(76, 12, 12), (81, 0, 8), (83, 0, 8), (84, 0, 8)])
noncomputable def rw_51 : v_Rw := (9, [.inr (.inl 77), .inl (1, 1), .inl (0, 63)], none, [(76, 12, 12), (81, 0, 8), (83, 0, 8), (84, 0, 8)])
noncomputable def rw_52 : v_Rw := (10, [.inr (.inl 77), .inl (0, 0), .inl (0, 0)], none, [(76, 12, 12), (81, 0, 8), (83, 0, 8), (84, 0, 8)])
noncomputable def rw_53 : v_Rw := (2, [.inr (.inl 77), .inl (8, 8), .inl (1, 255), .inl ((-2147483648), 2147483647)], none, [(76, 12, 12), (84, 0, 8)])
noncomputable def rw_54 : v_Rw := (3, [.inr (.inl 77), .inl (7, 7), .inl (1, 255), .inl ((-2147483648), 2147483647)], none, [(76, 12, 12), (83, 0, 8), (84, 0, 8)])
noncomputable def rw_55 : v_Rw := (4, [.inr (.inl 77), .inl (6, 6), .inl (1, 255), .inl ((-2147483648), 2147483647)], none, [(76, 12, 12), (83, 0, 8), (84, 0, 8)])
noncomputable def rw_56 : v_Rw := (5, [.inr (.inl 77), .inl (5, 5), .inl (1, 255), .inl ((-2147483648), 2147483647)], none, [(76, 12, 12), (83, 0, 8), (84, 0, 8)])
noncomputable def rw_57 : v_Rw := (6, [.inr (.inl 77), .inl (4, 4), .inl (1, 255), .inl ((-2147483648), 2147483647)], none, [(76, 12, 12), (83, 0, 8), (84, 0, 8)])
noncomputable def rw_58 : v_Rw := (7, [.inr (.inl 77), .inl (3, 3), .inl (1, 255), .inl ((-2147483648), 2147483647)], none, [(76, 12, 12), (83, 0, 8), (84, 0, 8)])
noncomputable def rw_59 : v_Rw := (8, [.inr (.inl 77), .inl (2, 2), .inl (1, 255), .inl ((-2147483648), 2147483647)], none, [(76, 12, 12), (83, 0, 8), (84, 0, 8)])
noncomputable def rw_60 : v_Rw := (9, [.inr (.inl 77), .inl (1, 1), .inl (1, 255), .inl ((-2147483648), 2147483647)], none, [(76, 12, 12), (83, 0, 8), (84, 0, 8)])
noncomputable def rw_61 : v_Rw := (10, [.inr (.inl 77), .inl (0, 0), .inl (0, 0), .inl (0, 0)], none, [(76, 12, 12), (83, 0, 8), (84, 0, 8)])
noncomputable def rw_62 : v_Rw := (1, [.inr (.inl 77), .inl (1, 255), .inl (0, 7), .inl (0, 255)], some ((-2147483648), 2147483647), [])
noncomputable def rw_63 : v_Rw := (2, [.inr (.inl 77)], none, [(84, 0, 8)])
noncomputable def rw_64 : v_Rw := (1, [.inr (.inl 77), .inl (1, 255), .inl (0, 7)], some (0, 7), [])
noncomputable def rw_65 : v_Rw := (37, [.inr (.inl 67), .inl (1, 240), .inl (0, 1)], some ((-2147483648), 2147483647), [(52, 6, 7), (53, 0, 256), (54, 0, 256), (56, 0, 16), (57, 0, 16), (58, 0, 16), (59, 6, 7), (60, 0, 256), (61, 0, 256), (63, 0, 16), (64, 0, 16), (65, 0, 16), (66, 3, 6), (67, 6, 7), (68, 0, 256), (69, 0, 256), (71, 0, 16), (72, 0, 16), (73, 0, 16)])
noncomputable def rw_66 : v_Rw := (12, [.inr (.inl 67), .inl (1, 60)], some ((-2147483648), 2147483647), [(52, 6, 7), (59, 6, 7), (66, 3, 6), (67, 6, 7), (74, 0, 49)])
noncomputable def rw_67 : v_Rw := (1, [.inr (.inl 67)], some ((-2147483648), 2147483647), [])
noncomputable def rw_68 : v_Rw := (0, [.inr (.inl 67), .inl (1, 5), .inl ((-2147483648), 2147483647)], none, [(66, 5, 6)])
noncomputable def rw_69 : v_Rw := (2, [.inr (.inl 67), .inl (41, 93)], none, [(66, 4, 6)])
noncomputable def rw_70 : v_Rw := (36, [.inr (.inl 67)], none, [(52, 6, 7), (53, 0, 256), (54, 0, 256), (56, 0, 16), (57, 0, 16), (58, 0, 16), (59, 6, 7), (60, 0, 256), (61, 0, 256), (63, 0, 16), (64, 0, 16), (65, 0, 16), (66, 4, 6), (67, 6, 7), (68, 0, 256), (69, 0, 256), (71, 0, 16), (72, 0, 16), (73, 0, 16)])
noncomputable def rw_71 : v_Rw := (2, [.inr (.inl 67), .inl (6, 6)], none, [(66, 5, 6)])
noncomputable def rw_72 : v_Rw := (14, [.inr (.inl 67), .inl (5, 5)], none, [(52, 6, 6), (53, 0, 256), (54, 0, 256), (59, 6, 6), (60, 0, 256), (61, 0, 256), (66, 4, 6), (67, 6, 6), (68, 0, 256), (69, 0, 256)])
noncomputable def rw_73 : v_Rw := (18, [.inr (.inl 67), .inl (4, 4)], none, [(52, 6, 6), (53, 0, 256), (54, 0, 256), (59, 6, 6), (60, 0, 256), (61, 0, 256), (66, 4, 6), (67, 6, 6), (68, 0, 256), (69, 0, 256)])
noncomputable def rw_74 : v_Rw := (22, [.inr (.inl 67), .inl (3, 3)], none, [(52, 6, 6), (53, 0, 256), (54, 0, 256), (59, 6, 6), (60, 0, 256), (61, 0, 256), (66, 4, 6), (67, 6, 6), (68, 0, 256), (69, 0, 256)])
noncomputable def rw_75 : v_Rw := (26, [.inr (.inl 67), .inl (2, 2)], none, [(52, 6, 6), (53, 0, 256), (54, 0, 256), (59, 6, 6), (60, 0, 256), (61, 0, 256), (66, 4, 6), (67, 6, 6), (68, 0, 256), (69, 0, 256)])
noncomputable def rw_76 : v_Rw := (30, [.inr (.inl 67), .inl (1, 1)], none, [(52, 6, 6), (53, 0, 256), (54, 0, 256), (59, 6, 6), (60, 0, 256), (61, 0, 256), (66, 4, 6), (67, 6, 6), (68, 0, 256), (69, 0, 256)])
noncomputable def rw_77 : v_Rw := (34, [.inr (.inl 67), .inl (0, 0)], none, [(52, 6, 6), (53, 0, 256), (54, 0, 256), (59, 6, 6), (60, 0, 256), (61, 0, 256), (66, 4, 6), (67, 6, 6), (68, 0, 256), (69, 0, 256)])
noncomputable def rw_78 : v_Rw := (13, [.inr (.inl 67), .inl (6, 6)], none, [(52, 6, 6), (53, 0, 256), (54, 0, 256), (59, 6, 6), (60, 0, 256), (61, 0, 256), (66, 4, 6), (67, 6, 6), (68, 0, 256), (69, 0, 256)])
noncomputable def rw_79 : v_Rw := (17, [.inr (.inl 67), .inl (5, 5)], none, [(52, 6, 6), (53, 0, 256), (54, 0, 256), (59, 6, 6), (60, 0, 256), (61, 0, 256), (66, 4, 6), (67, 6, 6), (68, 0, 256), (69, 0, 256)])
noncomputable def rw_80 : v_Rw := (21, [.inr (.inl 67), .inl (4, 4)], none, [(52, 6, 6), (53, 0, 256), (54, 0, 256), (59, 6, 6), (60, 0, 256), (61, 0, 256), (66, 4, 6), (67, 6, 6), (68, 0, 256), (69, 0, 256)])
noncomputable def rw_81 : v_Rw := (25, [.inr (.inl 67), .inl (3, 3)], none, [(52, 6, 6), (53, 0, 256), (54, 0, 256), (59, 6, 6), (60, 0, 256), (61, 0, 256), (66, 4, 6), (67, 6, 6), (68, 0, 256), (69, 0, 256)])
noncomputable def rw_82 : v_Rw := (29, [.inr (.inl 67), .inl (2, 2)], none, [(52, 6, 6), (53, 0, 256), (54, 0, 256), (59, 6, 6), (60, 0, 256), (61, 0, 256), (66, 4, 6), (67, 6, 6), (68, 0, 256), (69, 0, 256)])
noncomputable def rw_83 : v_Rw := (33, [.inr (.inl 67), .inl (1, 1)], none, [(52, 6, 6), (53, 0, 256), (54, 0, 256), (59, 6, 6), (60, 0, 256), (61, 0, 256), (66, 4, 6), (67, 6, 6), (68, 0, 256), (69, 0, 256)])
noncomputable def rw_84 : v_Rw := (12, [.inr (.inl 67), .inl (6, 6)], none, [(52, 6, 6), (53, 0, 256), (54, 0, 256), (59, 6, 6), (60, 0, 256), (61, 0, 256), (66, 4, 6), (67, 6, 6), (68, 0, 256), (69, 0, 256)])
noncomputable def rw_85 : v_Rw := (16, [.inr (.inl 67), .inl (5, 5)], none, [(52, 6, 6), (53, 0, 256), (54, 0, 256), (59, 6, 6), (60, 0, 256), (61, 0, 256), (66, 4, 6), (67, 6, 6), (68, 0, 256), (69, 0, 256)])
noncomputable def rw_86 : v_Rw := (20, [.inr (.inl 67), .inl (4, 4)], none, [(52, 6, 6), (53, 0, 256), (54, 0, 256), (59, 6, 6), (60, 0, 256), (61, 0, 256), (66, 4, 6), (67, 6, 6), (68, 0, 256), (69, 0, 256)])
noncomputable def rw_87 : v_Rw := (24, [.inr (.inl 67), .inl (3, 3)], none, [(52, 6, 6), (53, 0, 256), (54, 0, 256), (59, 6, 6), (60, 0, 256), (61, 0, 256), (66, 4, 6), (67, 6, 6), (68, 0, 256), (69, 0, 256)])
noncomputable def rw_88 : v_Rw := (28, [.inr (.inl 67), .inl (2, 2)], none, [(52, 6, 6), (53, 0, 256), (54, 0, 256), (59, 6, 6), (60, 0, 256), (61, 0, 256), (66, 4, 6), (67, 6, 6), (68, 0, 256), (69, 0, 256)])
noncomputable def rw_89 : v_Rw := (32, [.inr (.inl 67), .inl (1, 1)], none, [(52, 6, 6), (53, 0, 256), (54, 0, 256), (59, 6, 6), (60, 0, 256), (61, 0, 256), (66, 4, 6), (67, 6, 6), (68, 0, 256), (69, 0, 256)])
noncomputable def rw_90 : v_Rw := (11, [.inr (.inl 67), .inl (6, 6)], none, [(52, 6, 6), (53, 0, 256), (54, 0, 256), (59, 6, 6), (60, 0, 256), (61, 0, 256), (66, 4, 6), (67, 6, 6), (68, 0, 256), (69, 0, 256)])
noncomputable def rw_91 : v_Rw := (15, [.inr (.inl 67), .inl (5, 5)], none, [(52, 6, 6), (53, 0, 256), (54, 0, 256), (59, 6, 6), (60, 0, 256), (61, 0, 256), (66, 4, 6), (67, 6, 6), (68, 0, 256), (69, 0, 256)])
noncomputable def rw_92 : v_Rw := (19, [.inr (.inl 67), .inl (4, 4)], none, [(52, 6, 6), (53, 0, 256), (54, 0, 256), (59, 6, 6), (60, 0, 256), (61, 0, 256), (66, 4, 6), (67, 6, 6), (68, 0, 256), (69, 0, 256)])
noncomputable def rw_93 : v_Rw := (23, [.inr (.inl 67), .inl (3, 3)], none, [(52, 6, 6), (53, 0, 256), (54, 0, 256), (59, 6, 6), (60, 0, 256), (61, 0, 256), (66, 4, 6), (67, 6, 6), (68, 0, 256), (69, 0, 256)])
noncomputable def rw_94 : v_Rw := (27, [.inr (.inl 67), .inl (2, 2)], none, [(52, 6, 6), (53, 0, 256), (54, 0, 256), (59, 6, 6), (60, 0, 256), (61, 0, 256), (66, 4, 6), (67, 6, 6), (68, 0, 256), (69, 0, 256)])
noncomputable def rw_95 : v_Rw := (31, [.inr (.inl 67), .inl (1, 1)], none, [(52, 6, 6), (53, 0, 256), (54, 0, 256), (59, 6, 6), (60, 0, 256), (61, 0, 256), (66, 4, 6), (67, 6, 6), (68, 0, 256), (69, 0, 256)])
noncomputable def rw_96 : v_Rw := (10, [.inr (.inl 67), .inl (6, 6)], none, [(52, 6, 6), (53, 0, 256), (54, 0, 256), (59, 6, 6), (60, 0, 256), (61, 0, 256), (66, 4, 6), (67, 6, 6), (68, 0, 256), (69, 0, 256)])
noncomputable def rw_97 : v_Rw := (13, [.inr (.inl 67), .inl (5, 5)], none, [(52, 6, 6), (53, 0, 256), (54, 0, 256), (59, 6, 6), (60, 0, 256), (61, 0, 256), (66, 4, 6), (67, 6, 6), (68, 0, 256), (69, 0, 256)])
noncomputable def rw_98 : v_Rw := (16, [.inr (.inl 67), .inl (4, 4)], none, [(52, 6, 6), (53, 0, 256), (54, 0, 256), (59, 6, 6), (60, 0, 256), (61, 0, 256), (66, 4, 6), (67, 6, 6), (68, 0, 256), (69, 0, 256)])
noncomputable def rw_99 : v_Rw := (19, [.inr (.inl 67), .inl (3, 3)], none, [(52, 6, 6), (53, 0, 256), (54, 0, 256), (59, 6, 6), (60, 0, 256), (61, 0, 256), (66, 4, 6), (67, 6, 6), (68, 0, 256), (69, 0, 256)])
noncomputable def rw_100 : v_Rw := (22, [.inr (.inl 67), .inl (2, 2)], none, [(52, 6, 6), (53, 0, 256), (54, 0, 256), (59, 6, 6), (60, 0, 256), (61, 0, 256), (66, 4, 6), (67, 6, 6), (68, 0, 256), (69, 0, 256)])
noncomputable def rw_101 : v_Rw := (25, [.inr (.inl 67), .inl (1, 1)], none, [(52, 6, 6), (53, 0, 256), (54, 0, 256), (59, 6, 6), (60, 0, 256), (61, 0, 256), (66, 4, 6), (67, 6, 6), (68, 0, 256), (69, 0, 256)])
noncomputable def rw_102 : v_Rw := (28, [.inr (.inl 67), .inl (0, 0)], none, [(52, 6, 6), (53, 0, 256), (54, 0, 256), (59, 6, 6), (60, 0, 256), (61, 0, 256), (66, 4, 6), (67, 6, 6), (68, 0, 256), (69, 0, 256)])
noncomputable def rw_103 : v_Rw := (9, [.inr (.inl 67), .inl (6, 6)], none, [(52, 6, 6), (53, 0, 256), (54, 0, 256), (59, 6, 6), (60, 0, 256), (61, 0, 256), (66, 4, 6), (67, 6, 6), (68, 0, 256), (69, 0, 256)])
noncomputable def rw_104 : v_Rw := (12, [.inr (.inl 67), .inl (5, 5)], none, [(52, 6, 6), (53, 0, 256), (54, 0, 256), (59, 6, 6), (60, 0, 256), (61, 0, 256), (66, 4, 6), (67, 6, 6), (68, 0, 256), (69, 0, 256)])
noncomputable def rw_105 : v_Rw := (15, [.inr (.inl 67), .inl (4, 4)], none, [(52, 6, 6), (53, 0, 256), (54, 0, 256), (59, 6, 6), (60, 0, 256), (61, 0, 256), (66, 4, 6), (67, 6, 6), (68, 0, 256), (69, 0, 256)])
noncomputable def rw_106 : v_Rw := (18, [.inr (.inl 67), .inl (3, 3)], none, [(52, 6, 6), (53, 0, 256), (54, 0, 256), (59, 6, 6), (60, 0, 256), (61, 0, 256), (66, 4, 6), (67, 6, 6), (68, 0, 256), (69, 0, 256)])
noncomputable def rw_107 : v_Rw := (21, [.inr (.inl 67), .inl (2, 2)], none, [(52, 6, 6), (53, 0, 256), (54, 0, 256), (59, 6, 6), (60, 0, 256), (61, 0, 256), (66, 4, 6), (67, 6, 6), (68, 0, 256), (69, 0, 256)])
noncomputable def rw_108 : v_Rw := (24, [.inr (.inl 67), .inl (1, 1)], none, [(52, 6, 6), (53, 0, 256), (54, 0, 256), (59, 6, 6), (60, 0, 256), (61, 0, 256), (66, 4, 6), (67, 6, 6), (68, 0, 256), (69, 0, 256)])
noncomputable def rw_109 : v_Rw := (27, [.inr (.inl 67), .inl (0, 0)], none, [(52, 6, 6), (53, 0, 256), (54, 0, 256), (59, 6, 6), (60, 0, 256), (61, 0, 256), (66, 4, 6), (67, 6, 6), (68, 0, 256), (69, 0, 256)])
noncomputable def rw_110 : v_Rw := (8, [.inr (.inl 67), .inl (6, 6)], none, [(52, 6, 6), (53, 0, 256), (54, 0, 256), (59, 6, 6), (60, 0, 256), (61, 0, 256), (66, 4, 6), (67, 6, 6), (68, 0, 256), (69, 0, 256)])
noncomputable def rw_111 : v_Rw := (11, [.inr (.inl 67), .inl (5, 5)], none, [(52, 6, 6), (53, 0, 256), (54, 0, 256), (59, 6, 6), (60, 0, 256), (61, 0, 256), (66, 4, 6), (67, 6, 6), (68, 0, 256), (69, 0, 256)])
noncomputable def rw_112 : v_Rw := (14, [.inr (.inl 67), .inl (4, 4)], none, [(52, 6, 6), (53, 0, 256), (54, 0, 256), (59, 6, 6), (60, 0, 256), (61, 0, 256), (66, 4, 6), (67, 6, 6), (68, 0, 256), (69, 0, 256)])
noncomputable def rw_113 : v_Rw := (17, [.inr (.inl 67), .inl (3, 3)], none, [(52, 6, 6), (53, 0, 256), (54, 0, 256), (59, 6, 6), (60, 0, 256), (61, 0, 256), (66, 4, 6), (67, 6, 6), (68, 0, 256), (69, 0, 256)])
noncomputable def rw_114 : v_Rw := (20, [.inr (.inl 67), .inl (2, 2)], none, [(52, 6, 6), (53, 0, 256), (54, 0, 256), (59, 6, 6), (60, 0, 256), (61, 0, 256), (66, 4, 6), (67, 6, 6), (68, 0, 256), (69, 0, 256)])
noncomputable def rw_115 : v_Rw := (23, [.inr (.inl 67), .inl (1, 1)], none, [(52, 6, 6), (53, 0, 256), (54, 0, 256), (59, 6, 6), (60, 0, 256), (61, 0, 256), (66, 4, 6), (67, 6, 6), (68, 0, 256), (69, 0, 256)])
noncomputable def rw_116 : v_Rw := (26, [.inr (.inl 67), .inl (0, 0)], none, [(52, 6, 6), (53, 0, 256), (54, 0, 256), (59, 6, 6), (60, 0, 256), (61, 0, 256), (66, 4, 6), (67, 6, 6), (68, 0, 256), (69, 0, 256)])
noncomputable def rw_117 : v_Rw := (2, [.inr (.inl 67)], none, [(52, 6, 6), (53, 0, 256), (54, 0, 256), (59, 6, 6), (60, 0, 256), (61, 0, 256), (66, 4, 6), (67, 6, 6), (68, 0, 256), (69, 0, 256)])
noncomputable def rw_118 : v_Rw := (2, [.inr (.inl 48), .inl ((-2147483648), 2147483647), .inl (0, 1023)], some ((-2), 10), [(49, 0, 10)])
noncomputable def rw_119 : v_Rw := (1, [.inr (.inl 48), .inl ((-2147483648), 2147483647), .inl (0, 1023)], some (0, 1023), [])
noncomputable def rw_120 : v_Rw := (1, [.inr (.inl 48), .inl (0, 1023), .inl ((-2147483648), 2147483647)], some ((-1), 9), [])
noncomputable def rw_121 : v_Rw := (1, [.inr (.inl 2), .inl (0, 11)], some (0, 4095), [])
noncomputable def rw_122 : v_Rw := (1, [.inr (.inl 22), .inl (0, 5)], some (0, 4095), [])
noncomputable def rw_123 : v_Rw := (1, [.inr (.inl 22), .inr (.inl 2)], none, [(21, 0, 0), (21, 7, 7), (21, 11, 14), (22, 0, 12), (23, 0, 12), (24, 0, 12), (25, 0, 12), (26, 0, 12), (27, 0, 12), (28, 0, 5), (29, 0, 5), (30, 0, 6)])
noncomputable def rw_124 : v_Rw := (1, [.inr (.inl 12), .inr (.inl 2)], none, [(11, 0, 0), (11, 7, 7), (11, 11, 14), (12, 0, 12), (13, 0, 12), (14, 0, 12), (15, 0, 12), (16, 0, 12), (17, 0, 12), (18, 0, 5), (19, 0, 5), (20, 0, 6)])
noncomputable def rw_125 : v_Rw := (1, [.inr (.inl 2), .inr (.inl 12)], none, [(1, 0, 0), (1, 7, 7), (1, 11, 14), (2, 0, 12), (3, 0, 12), (4, 0, 12), (5, 0, 12), (6, 0, 12), (7, 0, 12), (8, 0, 5), (9, 0, 5), (10, 0, 6)])
noncomputable def rw_126 : v_Rw := (0, [.inr (.inl 46), .inl ((-2147483648), 2147483647)], none, [(45, 1, 1), (46, 0, 260)])
noncomputable def rw_127 : v_Rw := (0, [.inr (.inl 46), .inl ((-2147483648), 2147483647)], some ((-2147483648), 2147483647), [])
noncomputable def rw_128 : v_Rw := (8, [.inr (.inl 87), .inr (.inl 2), .inl ((-2147483648), 2147483647)], none, [(86, 5, 5), (86, 9, 10), (89, 0, 4), (90, 0, 6), (91, 0, 7), (92, 0, 6), (93, 0, 6)])
noncomputable def rw_129 : v_Rw := (1, [.inr (.inl 87), .inr (.inl 2), .inl (6, 6), .inl (0, 6), .inl ((-2147483648), 2147483647)], none, [(86, 9, 10), (93, 0, 6)])
noncomputable def rw_130 : v_Rw := (2, [.inr (.inl 87), .inr (.inl 2), .inl (5, 5), .inl (0, 5), .inl ((-2147483648), 2147483647)], none, [(86, 9, 10), (89, 0, 4), (92, 0, 6), (93, 0, 6)])
noncomputable def rw_131 : v_Rw := (3, [.inr (.inl 87), .inr (.inl 2), .inl (4, 4), .inl (0, 4), .inl ((-2147483648), 2147483647)], none, [(86, 9, 10), (89, 0, 4), (92, 0, 6), (93, 0, 6)])
noncomputable def rw_132 : v_Rw := (4, [.inr (.inl 87), .inr (.inl 2), .inl (3, 3), .inl (0, 3), .inl ((-2147483648), 2147483647)], none, [(86, 9, 10), (89, 0, 4), (92, 0, 6), (93, 0, 6)])
noncomputable def rw_133 : v_Rw := (5, [.inr (.inl 87), .inr (.inl 2), .inl (2, 2), .inl (0, 2), .inl ((-2147483648), 2147483647)], none, [(86, 9, 10), (89, 0, 4), (92, 0, 6), (93, 0, 6)])
noncomputable def rw_134 : v_Rw := (6, [.inr (.inl 87), .inr (.inl 2), .inl (1, 1), .inl (0, 1), .inl ((-2147483648), 2147483647)], none, [(86, 9, 10), (89, 0, 4), (92, 0, 6), (93, 0, 6)])
noncomputable def rw_135 : v_Rw := (7, [.inr (.inl 87), .inr (.inl 2), .inl (0, 0), .inl (0, 0), .inl (0, 0)], none, [(86, 9, 10), (89, 0, 4), (92, 0, 6), (93, 0, 6)])
noncomputable def rw_136 : v_Rw := (0, [.inr (.inl 87), .inr (.inl 2), .inl (0, 5)], some ((-2147483648), 2147483647), [])
noncomputable def rw_137 : v_Rw := (1, [.inr (.inl 87), .inr (.inl 2), .inl (0, 3), .inl (0, 11)], some (0, 1), [])
noncomputable def rw_138 : v_Rw := (1, [.inr (.inl 1), .inl ((-2147483648), 2147483647), .inl ((-2147483648), 2147483647), .inl ((-2147483648), 2147483647), .inl ((-2147483648), 2147483647), .inl ((-2147483648), 2147483647)], some (0, 1), [(1, 0, 0), (2, 0, 12), (3, 0, 12), (4, 0, 12), (5, 0, 12), (6, 0, 12), (7, 0, 12)])
noncomputable def rw_139 : v_Rw := (1, [.inr (.inl 1), .inl ((-2147483648), 2147483647), .inl ((-2147483648), 2147483647)], some (0, 1), [(3, 0, 12)])
noncomputable def rw_140 : v_Rw := (2, [.inr (.inl 1), .inl ((-2147483648), 2147483647), .inl ((-2147483648), 2147483647)], some (0, 1), [(5, 0, 12)])
noncomputable def rw_141 : v_Rw := (1, [.inr (.inl 1), .inl ((-2147483648), 2147483647), .inl ((-2147483648), 2147483647), .inl (0, 1)], some (0, 1), [(7, 0, 12)])
noncomputable def rw_142 : v_Rw := (1, [.inr (.inl 1), .inl ((-2147483648), 2147483647), .inl ((-2147483648), 2147483647), .inl ((-2147483648), 2147483647), .inl ((-2147483648), 2147483647)], some (0, 1), [(33, 2, 4), (35, 2, 4), (37, 2, 4), (39, 2, 4), (41, 2, 4), (43, 2, 4)])
noncomputable def rw_143 : v_Rw := (1, [.inr (.inl 1), .inl ((-2147483648), 2147483647), .inl ((-2147483648), 2147483647)], some (0, 1), [(1, 7, 7), (8, 0, 5), (9, 0, 5)])
noncomputable def rw_144 : v_Rw := (1, [.inr (.inl 1), .inl ((-2147483648), 2147483647), .inl ((-2147483648), 2147483647)], some (0, 1), [(48, 0, 10)])
noncomputable def rw_145 : v_Rw := (1, [.inr (.inl 1), .inl ((-2147483648), 2147483647), .inl ((-2147483648), 2147483647), .inl ((-2147483648), 2147483647)], some (0, 1), [(86, 0, 0), (87, 0, 4), (88, 0, 4)])
noncomputable def rw_146 : v_Rw := (1, [.inr (.inl 1), .inl ((-2147483648), 2147483647), .inl ((-2147483648), 2147483647)], some (0, 1), [(0, 13, 13), (31, 0, 10)])
noncomputable def rw_147 : v_Rw := (1, [.inr (.inl 1), .inl ((-2147483648), 2147483647), .inl ((-2147483648), 2147483647), .inl ((-2147483648), 2147483647)], some (0, 1), [(94, 0, 0), (95, 0, 5), (96, 0, 5)])
noncomputable def rw_148 : v_Rw := (1, [.inr (.inl 1), .inl ((-2147483648), 2147483647)], some (0, 1), [(1, 14, 14)])
noncomputable def rw_149 : v_Rw := (1, [.inr (.inl 1), .inl ((-2147483648), 2147483647), .inl ((-2147483648), 2147483647), .inl ((-2147483648), 2147483647), .inl ((-2147483648), 2147483647), .inl ((-2147483648), 2147483647)], some ((-1), 260), [(45, 1, 1), (46, 0, 260)])
noncomputable def rw_150 : v_Rw := (38, [.inr (.inl 1), .inl ((-2147483648), 2147483647)], some ((-2147483648), 2147483647), [(45, 1, 1), (50, 2, 2), (52, 6, 7), (53, 0, 256), (54, 0, 256), (56, 0, 16), (57, 0, 16), (58, 0, 16), (59, 6, 7), (60, 0, 256), (61, 0, 256), (63, 0, 16), (64, 0, 16), (65, 0, 16), (66, 1, 1), (66, 3, 6), (67, 6, 7), (68, 0, 256), (69, 0, 256), (71, 0, 16), (72, 0, 16), (73, 0, 16)])
noncomputable def rw_151 : v_Rw := (38, [.inr (.inl 1), .inl ((-2147483648), 2147483647)], some ((-2147483648), 2147483647), [(45, 1, 1), (50, 3, 3), (52, 6, 7), (53, 0, 256), (54, 0, 256), (56, 0, 16), (57, 0, 16), (58, 0, 16), (59, 6, 7), (60, 0, 256), (61, 0, 256), (63, 0, 16), (64, 0, 16), (65, 0, 16), (66, 1, 1), (66, 3, 6), (67, 6, 7), (68, 0, 256), (69, 0, 256), (71, 0, 16), (72, 0, 16), (73, 0, 16)])
noncomputable def rw_152 : v_Rw := (13, [.inr (.inl 1), .inl ((-2147483648), 2147483647), .inl ((-2147483648), 2147483647)], some ((-2147483648), 2147483647), [(10, 0, 6), (33, 1, 1), (34, 0, 48), (35, 1, 1), (36, 0, 48), (37, 1, 1), (38, 0, 48), (39, 1, 1), (40, 0, 48), (41, 1, 1), (42, 0, 48), (43, 1, 1), (44, 0, 48), (45, 1, 1), (52, 6, 7), (59, 6, 7), (66, 3, 6), (67, 6, 7), (74, 0, 49)])
noncomputable def rw_153 : v_Rw := (7, [.inr (.inl 1), .inl ((-2147483648), 2147483647)], some ((-2147483648), 2147483647), [(1, 11, 14), (2, 0, 12), (4, 0, 12), (7, 0, 12), (9, 0, 5), (10, 0, 6), (51, 0, 15), (55, 0, 32), (62, 0, 32), (70, 0, 32), (75, 3, 7)])
noncomputable def rw_154 : v_Rw := (7, [.inr (.inl 1), .inl ((-2147483648), 2147483647), .inl ((-2147483648), 2147483647)], some ((-2147483648), 2147483647), [(21, 0, 0), (21, 7, 7), (21, 11, 14), (22, 0, 12), (23, 0, 12), (24, 0, 12), (25, 0, 12), (26, 0, 12), (27, 0, 12), (28, 0, 5), (29, 0, 5), (30, 0, 6), (51, 0, 15), (55, 0, 32), (62, 0, 32), (70, 0, 32), (75, 3, 7)])
noncomputable def rw_155 : v_Rw := (1, [.inr (.inl 1), .inl ((-2147483648), 2147483647), .inl ((-2147483648), 2147483647)], some ((-2147483648), 2147483647), [])
noncomputable def rw_156 : v_Rw := (4, [.inr (.inl 1), .inl ((-2147483648), 2147483647), .inl ((-2147483648), 2147483647)], some ((-2147483648), 2147483647), [(51, 0, 15), (55, 0, 32), (62, 0, 32), (70, 0, 32)])
noncomputable def rw_157 : v_Rw := (1, [.inr (.inl 1), .inl ((-2147483648), 2147483647), .inl ((-2147483648), 2147483647)], some ((-2147483648), 2147483647), [])
noncomputable def rw_158 : v_Rw := (4, [.inr (.inl 1), .inl ((-2147483648), 2147483647), .inl ((-2147483648), 2147483647)], some ((-1), 1), [(51, 0, 15), (55, 0, 32), (62, 0, 32), (70, 0, 32)])
noncomputable def rw_159 : v_Rw := (1, [.inr (.inl 1), .inl ((-2147483648), 2147483647)], some ((-2147483648), 2147483647), [])
noncomputable def rw_160 : v_Rw := (1, [.inr (.inl 1), .inl ((-2147483648), 2147483647), .inl ((-2147483648), 2147483647)], some ((-2147483648), 2147483647), [])
noncomputable def rw_161 : v_Rw := (12, [.inr (.inl 1), .inl ((-2147483648), 2147483647), .inl ((-2147483648), 2147483647), .inl ((-2147483648), 2147483647)], some ((-2147483648), 2147483647), [(51, 0, 15), (55, 0, 32), (62, 0, 32), (70, 0, 32), (76, 4, 5), (76, 12, 12), (77, 0, 8), (78, 0, 8), (79, 0, 8), (80, 0, 8), (81, 0, 8), (83, 0, 8), (84, 0, 8)])
noncomputable def rw_162 : v_Rw := (9, [.inr (.inl 1), .inl ((-2147483648), 2147483647), .inl ((-2147483648), 2147483647)], some ((-2147483648), 2147483647), [(86, 5, 5), (86, 9, 10), (89, 0, 4), (90, 0, 6), (91, 0, 7), (92, 0, 6), (93, 0, 6)])
noncomputable def rw_163 : v_Rw := (9, [.inr (.inl 1), .inl ((-2147483648), 2147483647)], some ((-1), 4095), [(1, 0, 0), (86, 5, 5), (86, 9, 10), (89, 0, 4), (90, 0, 6), (91, 0, 7), (92, 0, 6), (93, 0, 6)])
noncomputable def rw_164 : v_Rw := (3, [.inr (.inl 1), .inl ((-2147483648), 2147483647), .inl ((-2147483648), 2147483647), .inl ((-2147483648), 2147483647)], some ((-2), 1023), [])
noncomputable def rw_165 : v_Rw := (3, [.inr (.inl 1), .inl ((-2147483648), 2147483647), .inl ((-2147483648), 2147483647), .inl ((-2147483648), 2147483647)], some ((-2147483648), 2147483647), [(49, 0, 10)])
noncomputable def rw_166 : v_Rw := (4, [.inr (.inl 1), .inl ((-2147483648), 2147483647), .inl ((-2147483648), 2147483647)], some ((-2), 4), [])
noncomputable def rw_167 : v_Rw := (3, [.inr (.inl 1), .inl ((-2147483648), 2147483647)], some ((-2147483648), 2147483647), [(45, 1, 1), (97, 0, 12), (98, 0, 5)])
noncomputable def rw_168 : v_Rw := (3, [.inr (.inl 1), .inl ((-2147483648), 2147483647), .inl ((-2147483648), 2147483647), .inl ((-2147483648), 2147483647), .inl ((-2147483648), 2147483647)], some ((-2147483648), 2147483647), [(45, 1, 1)])
noncomputable def rw_169 : v_Rw := (12, [.inr (.inl 1), .inl ((-2147483648), 2147483647), .inl ((-2147483648), 2147483647), .inl ((-2147483648), 2147483647)], some ((-2147483648), 2147483647), [(51, 0, 15), (55, 0, 32), (62, 0, 32), (70, 0, 32), (76, 4, 5), (76, 12, 12), (77, 0, 8), (78, 0, 8), (82, 0, 64), (83, 0, 8), (84, 0, 8)])
noncomputable def rw_170 : v_Rw := (6, [.inr (.inl 1), .inl ((-2147483648), 2147483647), .inl ((-2147483648), 2147483647)], some ((-2147483648), 2147483647), [(51, 0, 15), (55, 0, 32), (62, 0, 32), (70, 0, 32), (76, 4, 4), (77, 0, 8), (79, 0, 8), (84, 0, 8), (85, 0, 2048)])
noncomputable def rw_171 : v_Rw := (2, [.inr (.inl 1)], some (0, 63), [(0, 14, 14), (11, 0, 0), (11, 7, 7), (11, 11, 14), (12, 0, 12), (13, 0, 12), (14, 0, 12), (15, 0, 12), (16, 0, 12), (17, 0, 12), (18, 0, 5), (19, 0, 5), (20, 0, 6)])
noncomputable def rw_172 : v_Rw := (2, [.inr (.inl 1)], some (0, 1), [(1, 0, 0), (1, 7, 7), (1, 11, 14), (2, 0, 12), (3, 0, 12), (4, 0, 12), (5, 0, 12), (6, 0, 12), (7, 0, 12), (8, 0, 5), (9, 0, 5), (10, 0, 6)])
noncomputable def rw_173 : v_Rw := (1, [.inr (.inl 1), .inl ((-2147483648), 2147483647)], some ((-2), 11), [(45, 1, 1)])
noncomputable def rw_174 : v_Rw := (1, [.inr (.inl 1), .inl ((-2147483648), 2147483647), .inl (0, 1023)], some (0, 1023), [])
noncomputable def rw_175 : v_Rw := (2, [.inr (.inl 1), .inl (0, 1023), .inl (0, 1023)], some ((-2), 9), [])
noncomputable def rw_176 : v_Rw := (1, [.inr (.inl 1), .inl (0, 1023), .inl (0, 9)], some ((-2147483648), 2147483647), [])
noncomputable def rw_177 : v_Rw := (2, [.inr (.inl 1), .inl (1, 8), .inl (0, 99), .inl (0, 255), .inl (0, 99)], some ((-2147483648), 2147483647), [])
noncomputable def rw_178 : v_Rw := (1, [.inr (.inl 1), .inl (1, 8)], some (0, 1), [])
noncomputable def rw_179 : v_Rw := (1, [.inr (.inl 1), .inl (1, 8), .inl (0, 99)], some (0, 1), [])
noncomputable def rw_180 : v_Rw := (0, [.inl ((-2147483648), 2147483647), .inl (0, 99)], some (0, 99), [])
noncomputable def rw_181 : v_Rw := (1, [.inr (.inl 100), .inl ((-2147483648), 2147483647), .inl ((-2147483648), 2147483647), .inl ((-2147483648), 2147483647), .inl ((-2147483648), 2147483647), .inl ((-2147483648), 2147483647)], some ((-1), 260), [(99, 1, 1), (100, 0, 260)])
noncomputable def rw_182 : v_Rw := (0, [.inr (.inl 100), .inl (0, 31)], some (0, 255), [])
noncomputable def rw_183 : v_Rw := (9, [.inr (.inl 100), .inl ((-2147483648), 2147483647)], some ((-2147483648), 2147483647), [(99, 1, 1), (99, 3, 9), (99, 16, 16), (99, 24, 25), (101, 0, 28), (102, 0, 28), (103, 0, 28), (104, 0, 28), (105, 0, 480), (106, 0, 480), (107, 0, 16), (108, 0, 16), (109, 0, 16), (110, 0, 16), (111, 0, 240), (112, 0, 240), (113, 0, 240)])
noncomputable def rw_184 : v_Rw := (9, [.inr (.inl 100), .inl ((-2147483648), 2147483647)], some ((-2147483648), 2147483647), [(99, 1, 1), (99, 3, 9), (99, 17, 17), (99, 24, 25), (101, 0, 28), (102, 0, 28), (103, 0, 28), (104, 0, 28), (105, 0, 480), (106, 0, 480), (107, 0, 16), (108, 0, 16), (109, 0, 16), (110, 0, 16), (111, 0, 240), (112, 0, 240), (113, 0, 240)])
noncomputable def rw_185 : v_Rw := (0, [.inr (.inl 100), .inl ((-2147483648), 2147483647)], some ((-2147483648), 2147483647), [])
noncomputable def rw_186 : v_Rw := (0, [.inl ((-2147483648), 2147483647), .inl ((-2147483648), 2147483647), .inl ((-2147483648), 2147483647)], some ((-2147483648), 2147483647), [])
noncomputable def rw_187 : v_Rw := (1, [.inr (.inl 100), .inl ((-2147483648), 2147483647), .inl (0, 238)], none, [(114, 0, 240), (115, 0, 240)])
noncomputable def rw_188 : v_Rw := (6, [.inr (.inl 100), .inl (98, 105), .inl (0, 20)], some (0, 99), [(114, 0, 240), (115, 0, 240)])
noncomputable def rw_189 : v_Rw := (6, [.inr (.inl 100), .inl (101, 120)], some (0, 1), [(114, 0, 240), (115, 0, 240)])
noncomputable def rw_190 : v_Rw := (2, [.inr (.inl 100), .inl (0, 11)], none, [(99, 27, 40)])
noncomputable def rw_191 : v_Rw := (7, [.inr (.inl 100), .inl (0, 4), .inl (0, 5)], some (0, 99), [(99, 27, 40), (114, 0, 240), (115, 0, 240)])
noncomputable def rw_192 : v_Rw := (8, [.inr (.inl 100), .inl (0, 11), .inl (0, 11)], some (0, 1), [(99, 27, 40), (114, 0, 240), (115, 0, 240)])
noncomputable def rw_193 : v_Rw := (1, [.inr (.inl 100), .inl (0, 5)], some ((-2147483648), 2147483647), [])
noncomputable def rw_194 : v_Rw := (1, [.inr (.inl 100), .inl (0, 5)], some ((-2147483648), 2147483647), [])
noncomputable def rw_195 : v_Rw := (2, [.inr (.inl 100), .inl ((-2147483648), 2147483647), .inl ((-2147483648), 2147483647), .inl ((-2147483648), 2147483647), .inl ((-2147483648), 2147483647), .inl ((-2147483648), 2147483647)], some (0, 1), [(116, 0, 12), (117, 0, 12), (118, 0, 12), (119, 0, 12), (120, 0, 12), (121, 0, 12), (122, 0, 12)])
noncomputable def rw_196 : v_Rw := (2, [.inr (.inl 100), .inl ((-2147483648), 2147483647), .inl ((-2147483648), 2147483647)], some (0, 1), [(118, 0, 12)])
noncomputable def rw_197 : v_Rw := (2, [.inr (.inl 100), .inl ((-2147483648), 2147483647), .inl ((-2147483648), 2147483647)], some (0, 1), [(120, 0, 12)])
noncomputable def rw_198 : v_Rw := (2, [.inr (.inl 100), .inl ((-2147483648), 2147483647), .inl ((-2147483648), 2147483647), .inl (0, 1)], some (0, 1), [(122, 0, 12)])
noncomputable def rw_199 : v_Rw := (2, [.inr (.inl 100), .inl ((-2147483648), 2147483647), .inl ((-2147483648), 2147483647), .inl ((-2147483648), 2147483647), .inl ((-2147483648), 2147483647)], some (0, 1), [(123, 0, 6), (124, 0, 6), (125, 0, 6)])
noncomputable def rw_200 : v_Rw := (1, [.inr (.inl 100), .inl ((-2147483648), 2147483647), .inl ((-2147483648), 2147483647)], some (0, 1), [(129, 0, 5), (130, 0, 5), (131, 0, 5)])
noncomputable def rw_201 : v_Rw := (2, [.inr (.inl 100), .inl ((-2147483648), 2147483647), .inl ((-2147483648), 2147483647)], some (0, 1), [(132, 0, 10)])
noncomputable def rw_202 : v_Rw := (6, [.inr (.inl 100), .inl ((-2147483648), 2147483647), .inl ((-2147483648), 2147483647)], some ((-2147483648), 2147483647), [(99, 1, 1), (99, 3, 5), (99, 64, 66), (126, 0, 288), (127, 0, 6), (128, 0, 6), (133, 0, 48), (134, 0, 2), (135, 0, 2), (136, 0, 2)])
noncomputable def rw_203 : v_Rw := (7, [.inr (.inl 100)], none, [(99, 27, 40), (114, 0, 240), (115, 0, 240), (117, 0, 12)])
noncomputable def rw_204 : v_Rw := (7, [.inr (.inl 100), .inl (0, 5)], none, [(99, 27, 40), (114, 0, 240), (115, 0, 240), (117, 0, 12)])
noncomputable def rw_205 : v_Rw := (7, [.inr (.inl 100), .inl (0, 5)], none, [(99, 27, 40), (99, 70, 70), (114, 0, 240), (115, 0, 240), (122, 0, 12)])
noncomputable def rw_206 : v_Rw := (8, [.inr (.inl 100)], none, [(99, 27, 40), (99, 70, 70), (114, 0, 240), (115, 0, 240), (117, 0, 12), (122, 0, 12), (128, 0, 6)])
noncomputable def rw_207 : v_Rw := (7, [.inr (.inl 100)], none, [(99, 27, 40), (99, 61, 61), (99, 71, 71), (114, 0, 240), (115, 0, 240)])
noncomputable def rw_208 : v_Rw := (9, [.inr (.inl 100)], none, [(99, 27, 40), (99, 62, 62), (99, 72, 72), (114, 0, 240), (115, 0, 240), (119, 0, 12)])
noncomputable def rw_209 : v_Rw := (8, [.inr (.inl 100)], none, [(99, 2, 2), (99, 27, 40), (99, 73, 73), (114, 0, 240), (115, 0, 240), (131, 0, 5)])
noncomputable def rw_210 : v_Rw := (7, [.inr (.inl 100)], none, [(99, 27, 40), (99, 74, 76), (114, 0, 240), (115, 0, 240)])
noncomputable def rw_211 : v_Rw := (10, [.inr (.inl 100), .inl (1, 60)], none, [(99, 2, 2), (99, 27, 40), (99, 60, 62), (99, 70, 76), (114, 0, 240), (115, 0, 240), (117, 0, 12), (119, 0, 12), (122, 0, 12), (128, 0, 6), (131, 0, 5)])
noncomputable def rw_212 : v_Rw := (11, [.inr (.inl 100), .inl ((-2147483648), 2147483647)], some ((-2147483648), 2147483647), [(99, 2, 2), (99, 27, 40), (99, 60, 62), (99, 70, 76), (114, 0, 240), (115, 0, 240), (117, 0, 12), (119, 0, 12), (122, 0, 12), (128, 0, 6), (131, 0, 5)])
noncomputable def rw_213 : v_Rw := (0, [.inr (.inl 100), .inl (0, 1)], none, [(137, 0, 24), (138, 0, 24), (139, 0, 24), (140, 0, 24), (141, 0, 24), (142, 0, 24), (143, 0, 24), (144, 0, 10), (145, 0, 10), (146, 0, 10), (147, 0, 12), (148, 0, 2), (149, 0, 2), (150, 0, 2), (151, 0, 2)])
noncomputable def rw_214 : v_Rw := (0, [.inr (.inl 100), .inl (0, 1)], none, [(99, 2, 2), (99, 60, 62), (116, 0, 12), (117, 0, 12), (118, 0, 12), (119, 0, 12), (120, 0, 12), (121, 0, 12), (122, 0, 12), (128, 0, 6), (129, 0, 5), (130, 0, 5), (131, 0, 5)])
noncomputable def rw_215 : v_Rw := (11, [.inr (.inl 100), .inl ((-2147483648), 2147483647), .inl ((-2147483648), 2147483647)], some ((-2147483648), 2147483647), [(99, 2, 2), (99, 27, 40), (99, 60, 62), (99, 70, 76), (114, 0, 240), (115, 0, 240), (116, 0, 12), (117, 0, 12), (118, 0, 12), (119, 0, 12), (120, 0, 12), (121, 0, 12), (122, 0, 12), (128, 0, 6), (129, 0, 5), (130, 0, 5), (131, 0, 5), (137, 0, 24), (138, 0, 24), (139, 0, 24), (140, 0, 24), (141, 0, 24), (142, 0, 24), (143, 0, 24), (144, 0, 10), (145, 0, 10), (146, 0, 10), (147, 0, 12), (148, 0, 2), (149, 0, 2), (150, 0, 2), (151, 0, 2)])
noncomputable def rw_216 : v_Rw := (2, [.inr (.inl 100), .inl ((-2147483648), 2147483647), .inl ((-2147483648), 2147483647)], some ((-2147483648), 2147483647), [])
noncomputable def rw_217 : v_Rw := (1, [.inr (.inl 100), .inl (0, 5)], some (0, 4095), [])
noncomputable def rw_218 : v_Rw := (7, [.inr (.inl 100), .inl (0, 5)], some ((-2), 11), [(99, 27, 40), (114, 0, 240), (115, 0, 240)])
noncomputable def rw_219 : v_Rw := (8, [.inr (.inl 100), .inl ((-2147483648), 2147483647), .inl ((-2147483648), 2147483647)], some ((-2147483648), 2147483647), [(99, 27, 40), (114, 0, 240), (115, 0, 240)])
noncomputable def rw_220 : v_Rw := (2, [.inr (.inl 100), .inl ((-2147483648), 2147483647), .inl ((-2147483648), 2147483647)], some ((-2147483648), 2147483647), [])
noncomputable def rw_221 : v_Rw := (9, [.inr (.inl 100), .inl ((-2147483648), 2147483647), .inl ((-2147483648), 2147483647)], some ((-1), 1), [(99, 27, 40), (114, 0, 240), (115, 0, 240)])
noncomputable def rw_222 : v_Rw := (0, [.inr (.inl 100)], some (0, 4095), [])
noncomputable def rw_223 : v_Rw := (0, [.inl (1, 5), .inl (1, 6)], some ((-2147483648), 2147483647), [])
noncomputable def rw_224 : v_Rw := (0, [.inr (.inl 100), .inl (0, 2147483647), .inl (1, 6), .inl (1, 5)], none, [(154, 0, 8)])
noncomputable def rw_225 : v_Rw := (0, [.inr (.inl 100), .inl (1, 6)], none, [(155, 0, 8)])
noncomputable def rw_226 : v_Rw := (0, [.inr (.inl 100), .inl (1, 6), .inl (1, 3)], some (0, 1), [])
noncomputable def rw_227 : v_Rw := (9, [.inr (.inl 100), .inl (1, 6)], some ((-2147483648), 2147483647), [(99, 27, 40), (114, 0, 240), (115, 0, 240)])
noncomputable def rw_228 : v_Rw := (10, [.inr (.inl 100), .inl ((-2147483648), 2147483647), .inl ((-2147483648), 2147483647), .inl ((-2147483648), 2147483647)], some ((-2147483648), 2147483647), [(99, 27, 40), (114, 0, 240), (115, 0, 240), (152, 0, 12), (153, 0, 6), (154, 0, 8), (155, 0, 8)])
noncomputable def rw_229 : v_Rw := (1, [.inr (.inl 100), .inl ((-2147483648), 2147483647), .inl ((-2147483648), 2147483647), .inl ((-2147483648), 2147483647)], some (0, 1), [(156, 0, 4), (157, 0, 4), (158, 0, 4)])
noncomputable def rw_230 : v_Rw := (1, [.inr (.inl 100), .inl (1, 6)], some (0, 1), [(99, 100, 101)])
noncomputable def rw_231 : v_Rw := (2, [.inr (.inl 100), .inl (1, 6)], none, [(99, 100, 103), (154, 0, 8), (155, 0, 8)])
noncomputable def rw_232 : v_Rw := (3, [.inr (.inl 100), .inl ((-2147483648), 2147483647), .inl ((-2147483648), 2147483647)], some ((-2147483648), 2147483647), [(99, 100, 103), (152, 0, 12), (154, 0, 8), (155, 0, 8)])
noncomputable def rw_233 : v_Rw := (3, [.inr (.inl 100), .inl ((-2147483648), 2147483647)], some ((-1), 4095), [(99, 100, 103), (116, 0, 12), (152, 0, 12), (154, 0, 8), (155, 0, 8)])
noncomputable def rw_234 : v_Rw := (2, [.inr (.inl 100), .inl ((-2147483648), 2147483647), .inl ((-2147483648), 2147483647)], some (0, 1), [(159, 0, 10), (160, 0, 10)])
noncomputable def rw_235 : v_Rw := (0, [.inr (.inl 100), .inl (0, 11), .inl (0, 1023)], some (0, 1023), [])
noncomputable def rw_236 : v_Rw := (2, [.inr (.inl 100), .inl (0, 1023), .inl (0, 9)], some ((-2147483648), 2147483647), [])
noncomputable def rw_237 : v_Rw := (3, [.inr (.inl 100), .inl ((-2147483648), 2147483647), .inl ((-2147483648), 2147483647), .inl ((-2147483648), 2147483647)], some ((-2), 1023), [])
noncomputable def rw_238 : v_Rw := (3, [.inr (.inl 100), .inl (0, 11), .inl (0, 1023)], some (0, 1), [(99, 107, 107), (161, 0, 10)])
noncomputable def rw_239 : v_Rw := (4, [.inr (.inl 100), .inl ((-2147483648), 2147483647), .inl ((-2147483648), 2147483647), .inl ((-2147483648), 2147483647)], some ((-128), 10), [(99, 107, 107), (161, 0, 10)])
noncomputable def rw_240 : v_Rw := (2, [.inr (.inl 100), .inl ((-2147483648), 2147483647), .inl ((-2147483648), 2147483647), .inl ((-2147483648), 2147483647)], some (0, 1), [(162, 0, 5), (163, 0, 5), (164, 0, 5)])
noncomputable def rw_241 : v_Rw := (0, [.inr (.inl 100), .inl (0, 4), .inl ((-1), 4)], some (0, 1), [])
noncomputable def rw_242 : v_Rw := (2, [.inr (.inl 100), .inl (0, 4), .inl (0, 11), .inl ((-1), 11)], some (0, 1), [])
noncomputable def rw_243 : v_Rw := (1, [.inr (.inl 100), .inl (0, 11)], some ((-1), 4), [])
noncomputable def rw_244 : v_Rw := (0, [.inr (.inl 100), .inl ((-2147483648), 2147483647)], some (0, 1), [])
noncomputable def rw_245 : v_Rw := (4, [.inr (.inl 100), .inl (1, 6)], none, [(165, 0, 5), (166, 0, 12)])
noncomputable def rw_246 : v_Rw := (5, [.inr (.inl 100), .inl ((-2147483648), 2147483647), .inl ((-2147483648), 2147483647)], some ((-2), 4), [(152, 0, 12), (165, 0, 5), (166, 0, 12)])
noncomputable def rw_247 : v_Rw := (6, [.inr (.inl 100), .inl ((-2147483648), 2147483647)], some ((-2147483648), 2147483647), [(99, 1, 1), (152, 0, 12), (165, 0, 5)])
noncomputable def rw_248 : v_Rw := (0, [.inl ((-2147483648), 255), .inl ((-2147483648), 2147483647)], some ((-2147483648), 255), [])
noncomputable def rw_249 : v_Rw := (0, [.inl (0, 2147483647), .inl ((-2147483648), 2147483647)], some (0, 2147483647), [])
noncomputable def rw_250 : v_Rw := (1, [.inr (.inl 100), .inl (0, 7)], some (0, 255), [])
noncomputable def rw_251 : v_Rw := (2, [.inr (.inl 100), .inl (1, 8), .inl (0, 99)], some (0, 1), [(167, 0, 8), (168, 0, 8)])
noncomputable def rw_252 : v_Rw := (1, [.inr (.inl 100), .inl (1, 1), .inl (0, 99)], none, [(169, 0, 8), (170, 0, 8)])
noncomputable def rw_253 : v_Rw := (2, [.inr (.inl 100), .inl (2, 2), .inl (0, 99)], none, [(169, 0, 8), (170, 0, 8)])
noncomputable def rw_254 : v_Rw := (2, [.inr (.inl 100), .inl (3, 3), .inl (0, 99)], none, [(169, 0, 8), (170, 0, 8)])
noncomputable def rw_255 : v_Rw := (2, [.inr (.inl 100), .inl (4, 4), .inl (0, 99)], none, [(169, 0, 8), (170, 0, 8)])
noncomputable def rw_256 : v_Rw := (2, [.inr (.inl 100), .inl (5, 5), .inl (0, 99)], none, [(169, 0, 8), (170, 0, 8)])
noncomputable def rw_257 : v_Rw := (2, [.inr (.inl 100), .inl (6, 6), .inl (0, 99)], none, [(169, 0, 8), (170, 0, 8)])
noncomputable def rw_258 : v_Rw := (2, [.inr (.inl 100), .inl (7, 7), .inl (0, 99)], none, [(169, 0, 8), (170, 0, 8)])
noncomputable def rw_259 : v_Rw := (2, [.inr (.inl 100), .inl (8, 8), .inl (0, 99)], none, [(169, 0, 8), (170, 0, 8)])
noncomputable def rw_260 : v_Rw := (3, [.inr (.inl 100), .inl ((-2147483648), 2147483647), .inl ((-2147483648), 2147483647), .inl ((-2147483648), 2147483647), .inl ((-2147483648), 2147483647)], some ((-2147483648), 2147483647), [(99, 1, 1), (167, 0, 8), (168, 0, 8), (169, 0, 8), (170, 0, 8)])
noncomputable def rw_261 : v_Rw := (0, [.inr (.inl 100)], some (0, 31), [])
noncomputable def rw_262 : v_Rw := (12, [.inr (.inl 100), .inl ((-2147483648), 2147483647), .inl ((-2147483648), 2147483647), .inl ((-2147483648), 2147483647)], some ((-2147483648), 2147483647), [(99, 27, 40), (114, 0, 240), (115, 0, 240), (152, 0, 12), (153, 0, 6), (154, 0, 8), (155, 0, 8)])
noncomputable def rw_263 : v_Rw := (12, [.inr (.inl 100), .inl ((-2147483648), 2147483647), .inl ((-2147483648), 2147483647)], some ((-2147483648), 2147483647), [(99, 27, 40), (114, 0, 240), (115, 0, 240), (152, 0, 12), (171, 0, 2048), (172, 0, 64)])
noncomputable def rw_264 : v_Rw := (1, [.inr (.inl 100), .inl ((-2147483648), 2147483647), .inl ((-2147483648), 2147483647)], some ((-2147483648), 2147483647), [])
noncomputable def rw_265 : v_Rw := (1, [.inr (.inl 100), .inl ((-2147483648), 2147483647)], some (0, 1), [(99, 2, 2)])
noncomputable def rw_266 : v_Rw := (2, [.inr (.inl 100)], some (0, 12), [(99, 92, 92), (137, 0, 24), (138, 0, 24), (139, 0, 24), (140, 0, 24), (141, 0, 24), (142, 0, 24), (143, 0, 24), (144, 0, 10), (145, 0, 10), (146, 0, 10), (147, 0, 12), (148, 0, 2), (149, 0, 2), (150, 0, 2), (151, 0, 2)])
noncomputable def rw_267 : v_Rw := (1, [.inr (.inl 100)], some (0, 1), [(99, 2, 2), (99, 60, 62), (116, 0, 12), (117, 0, 12), (118, 0, 12), (119, 0, 12), (120, 0, 12), (121, 0, 12), (122, 0, 12), (128, 0, 6), (129, 0, 5), (130, 0, 5), (131, 0, 5)])
noncomputable def rw_268 : v_Rw := (1, [.inr (.inl 100), .inl ((-2147483648), 2147483647)], some ((-2), 11), [(99, 1, 1)])
noncomputable def rw_269 : v_Rw := (0, [.inr (.inl 100), .inl (9, 11)], some (0, 1023), [])
noncomputable def rw_270 : v_Rw := (1, [.inr (.inl 100), .inl ((-2147483648), 2147483647)], some ((-2147483648), 2147483647), [])
noncomputable def rw_271 : v_Rw := (0, [.inr (.inl 52), .inl (0, 0)], none, [(51, 0, 15)])
noncomputable def rw_272 : v_Rw := (0, [.inr (.inl 98), .inl ((-1), (-1))], none, [(97, 0, 12)])
noncomputable def rw_273 : v_Rw := (0, [.inr (.inl 80), .inl (0, 0)], none, [(79, 0, 8)])
noncomputable def rw_274 : v_Rw := (0, [.inr (.inl 90), .inl (0, 0)], none, [(89, 0, 4)])
noncomputable def rw_275 : v_Rw := (0, [.inr (.inl 99), .inl ((-1), (-1))], none, [(98, 0, 5)])
noncomputable def rw_276 : v_Rw := (1, [.inl (0, 1023)], some (0, 10), [])
noncomputable def v_rw0 : List (List v_Rw) := [[], [], [rw_0, rw_1], [rw_2, rw_3], [rw_4, rw_5], [rw_6, rw_7], [rw_8, rw_9], [rw_10, rw_11], [rw_12, rw_13], [rw_14, rw_15], [], [rw_16, rw_17], [], [], [], []]
noncomputable def v_rw1 : List (List v_Rw) := [[], [], [], [rw_18, rw_19, rw_20], [rw_21], [rw_22], [], [rw_23], [rw_24], [rw_25], [rw_26], [rw_27], [], [rw_28], [], []]
noncomputable def v_rw2 : List (List v_Rw) := [[], [], [], [], [], [], [], [rw_29, rw_30], [rw_31, rw_32], [], [rw_33, rw_34], [rw_35], [rw_36], [], [rw_37], [rw_38]]
noncomputable def v_rw3 : List (List v_Rw) := [[], [rw_39], [], [rw_40, rw_41, rw_42], [rw_43], [rw_44, rw_45, rw_46, rw_47, rw_48, rw_49, rw_50, rw_51, rw_52], [rw_53, rw_54, rw_55, rw_56, rw_57, rw_58, rw_59, rw_60, rw_61], [], [rw_62], [rw_63], [rw_64], [], [rw_65], [rw_66], [], [rw_67]]
noncomputable def v_rw4 : List (List v_Rw) := [[rw_68], [rw_69], [], [rw_70], [], [], [rw_71, rw_72, rw_73, rw_74, rw_75, rw_76, rw_77], [rw_78, rw_79, rw_80, rw_81, rw_82, rw_83], [rw_84, rw_85, rw_86, rw_87, rw_88, rw_89], [rw_90, rw_91, rw_92, rw_93, rw_94, rw_95], [rw_96, rw_97, rw_98, rw_99, rw_100, rw_101, rw_102], [rw_103, rw_104, rw_105, rw_106, rw_107, rw_108, rw_109], [rw_110, rw_111, rw_112, rw_113, rw_114, rw_115, rw_116], [rw_117], [], []]
noncomputable def v_rw5 : List (List v_Rw) := [[], [], [], [], [rw_118], [rw_119], [rw_120], [], [], [], [], [rw_121, rw_122], [], [rw_123, rw_124, rw_125], [], []]
noncomputable def v_rw6 : List (List v_Rw) := [[rw_126], [rw_127], [], [], [], [], [], [], [rw_128], [], [rw_129, rw_130, rw_131, rw_132, rw_133, rw_134, rw_135], [], [rw_136], [rw_137], [], [rw_138]]
noncomputable def v_rw7 : List (List v_Rw) := [[rw_139], [rw_140], [rw_141], [rw_142], [rw_143], [rw_144], [rw_145], [rw_146], [rw_147], [rw_148], [rw_149], [rw_150], [rw_151], [rw_152], [rw_153], [rw_154]]
noncomputable def v_rw8 : List (List v_Rw) := [[rw_155], [rw_156], [rw_157], [rw_158], [rw_159], [rw_160], [rw_161], [rw_162], [rw_163], [rw_164], [rw_165], [rw_166], [rw_167], [rw_168], [rw_169], [rw_170]]
noncomputable def v_rw9 : List (List v_Rw) := [[rw_171], [rw_172], [rw_173], [], [], [], [], [], [], [rw_174], [rw_175], [rw_176], [rw_177], [rw_178], [rw_179], []]
noncomputable def v_rw10 : List (List v_Rw) := [[], [], [], [rw_180], [], [rw_181], [rw_182], [], [], [], [], [], [], [], [], []]
noncomputable def v_rw11 : List (List v_Rw) := [[], [], [], [], [], [], [], [], [], [], [], [], [], [], [], []]
noncomputable def v_rw12 : List (List v_Rw) := [[], [rw_183], [rw_184], [rw_185], [rw_186], [rw_187], [], [], [rw_188], [rw_189], [], [rw_190], [rw_191], [], [], [rw_192]]
noncomputable def v_rw13 : List (List v_Rw) := [[], [], [], [], [], [rw_193], [rw_194], [rw_195], [rw_196], [rw_197], [rw_198], [rw_199], [rw_200], [rw_201], [], []]
noncomputable def v_rw14 : List (List v_Rw) := [[], [rw_202], [], [], [rw_203], [], [rw_204], [rw_205], [rw_206], [rw_207], [rw_208], [rw_209], [rw_210], [rw_211], [rw_212], [rw_213]]
noncomputable def v_rw15 : List (List v_Rw) := [[rw_214], [rw_215], [], [rw_216], [rw_217], [rw_218], [rw_219], [rw_220], [rw_221], [rw_222], [], [], [], [rw_223], [rw_224], [rw_225]]
noncomputable def v_rw16 : List (List v_Rw) := [[], [rw_226], [rw_227], [rw_228], [rw_229], [], [rw_230], [rw_231], [rw_232], [rw_233], [rw_234], [rw_235], [rw_236], [rw_237], [rw_238], [rw_239]]
noncomputable def v_rw17 : List (List v_Rw) := [[rw_240], [rw_241], [rw_242], [rw_243], [rw_244], [rw_245], [rw_246], [rw_247], [rw_248], [rw_249], [rw_250], [rw_251], [rw_252, rw_253, rw_254, rw_255, rw_256, rw_257, rw_258, rw_259], [rw_260], [], [rw_261]]
noncomputable def v_rw18 : List (List v_Rw) := [[rw_262], [], [rw_263], [], [rw_264], [rw_265], [rw_266], [rw_267], [rw_268], [rw_269], [rw_270], [rw_276], [rw_271, rw_272, rw_273, rw_274, rw_275]]
noncomputable def v_rwT : List (List (List v_Rw)) := [v_rw0, v_rw1, v_rw2, v_rw3, v_rw4, v_rw5, v_rw6, v_rw7, v_rw8, v_rw9, v_rw10, v_rw11, v_rw12, v_rw13, v_rw14, v_rw15, v_rw16, v_rw17, v_rw18]
noncomputable def v_rw (x : Nat) : List v_Rw := match q_nth v_rwT (x / 16) with
  | some r => (match q_nth r (x % 16) with
    | some l => l
    | none => [])
  | none => []
noncomputable def v_C (hl : List (Nat × Nat × v_Hp)) (x : Nat) (w : v_Rw) : Bool := v_chk v_ty v_frz (v_hl hl) (v_sp v_rw w.1 w.2.2.2) v_rw 3000 x w
end Prt30
section Prt31a
set_option maxRecDepth 100000 in
theorem ck_0 : v_C [(2, 29, ([(0, none), (1, none), (2, none), (3, some (0, 60))], 3, 0, true))] 2 rw_0 = true := by decide +kernel
set_option maxRecDepth 100000 in
theorem ck_1 : v_C [(2, 29, ([(0, none), (1, none), (2, none), (3, some (0, 60))], 3, 0, true))] 2 rw_1 = true := by decide +kernel
set_option maxRecDepth 100000 in
theorem ck_2 : v_C [(3, 7, ([(0, none), (1, none), (2, some (0, 6))], 2, 0, true)), (3, 114, ([(0, none), (1, none), (2, some (0, 6))], 2, 0, true))] 3 rw_2 = true := by decide +kernel
set_option maxRecDepth 100000 in
theorem ck_3 : v_C [(3, 7, ([(0, none), (1, none), (2, some (0, 6))], 2, 0, true)), (3, 114, ([(0, none), (1, none), (2, some (0, 6))], 2, 0, true))] 3 rw_3 = true := by decide +kernel
end Prt31a
section Prt31b
set_option maxRecDepth 100000 in
theorem ck_4 : v_C [(4, 26, ([(0, none), (1, none), (3, some (0, 12))], 3, 0, true))] 4 rw_4 = true := by decide +kernel
set_option maxRecDepth 100000 in
theorem ck_5 : v_C [(4, 26, ([(0, none), (1, none), (3, some (0, 12))], 3, 0, true))] 4 rw_5 = true := by decide +kernel
set_option maxRecDepth 100000 in
theorem ck_6 : v_C [(5, 3, ([(0, none), (1, none), (2, none), (3, none), (4, some (0, 12))], 4, 0, true))] 5 rw_6 = true := by decide +kernel
set_option maxRecDepth 100000 in
theorem ck_7 : v_C [(5, 3, ([(0, none), (1, none), (2, none), (3, none), (4, some (0, 12))], 4, 0, true))] 5 rw_7 = true := by decide +kernel
set_option maxRecDepth 100000 in
theorem ck_8 : v_C [(6, 14, ([(0, none), (1, none), (2, none), (3, none), (4, some (0, 12))], 4, 0, true))] 6 rw_8 = true := by decide +kernel
set_option maxRecDepth 100000 in
theorem ck_9 : v_C [(6, 14, ([(0, none), (1, none), (2, none), (3, none), (4, some (0, 12))], 4, 0, true))] 6 rw_9 = true := by decide +kernel
set_option maxRecDepth 100000 in
theorem ck_10 : v_C [(7, 2, ([(0, none), (1, none), (2, some (0, 12))], 2, 0, true))] 7 rw_10 = true := by decide +kernel
set_option maxRecDepth 100000 in
theorem ck_11 : v_C [(7, 2, ([(0, none), (1, none), (2, some (0, 12))], 2, 0, true))] 7 rw_11 = true := by decide +kernel
set_option maxRecDepth 100000 in
theorem ck_12 : v_C [(8, 2, ([(0, none), (1, none), (2, some (0, 12))], 2, 0, true)), (8, 12, ([(0, none), (1, none), (2, none), (3, some (1, 12))], 3, 0, true))] 8 rw_12 = true := by decide +kernel
set_option maxRecDepth 100000 in
theorem ck_13 : v_C [(8, 2, ([(0, none), (1, none), (2, some (0, 12))], 2, 0, true)), (8, 12, ([(0, none), (1, none), (2, none), (3, some (1, 12))], 3, 0, true))] 8 rw_13 = true := by decide +kernel
set_option maxRecDepth 100000 in
theorem ck_14 : v_C [(9, 2, ([(1, none), (2, some (0, 5))], 2, 0, true))] 9 rw_14 = true := by decide +kernel
set_option maxRecDepth 100000 in
theorem ck_15 : v_C [(9, 2, ([(1, none), (2, some (0, 5))], 2, 0, true))] 9 rw_15 = true := by decide +kernel
set_option maxRecDepth 100000 in
theorem ck_16 : v_C [(11, 9, ([(0, none), (1, none), (2, some ((-2), 15)), (3, some ((-2), 5)), (4, some (0, 6))], 4, 0, true))] 11 rw_16 = true := by decide +kernel
set_option maxRecDepth 100000 in
theorem ck_17 : v_C [(11, 9, ([(0, none), (1, none), (2, some ((-2), 15)), (3, some ((-2), 5)), (4, some (0, 6))], 4, 0, true))] 11 rw_17 = true := by decide +kernel
set_option maxRecDepth 100000 in
theorem ck_18 : v_C [(19, 8, ([(0, none), (2, none), (3, some (0, 32)), (4, some ((-2147483648), 2147483647)), (5, some (0, 256))], 5, 0, true))] 19 rw_18 = true := by decide +kernel
set_option maxRecDepth 100000 in
theorem ck_19 : v_C [(19, 8, ([(0, none), (2, none), (3, some (0, 32)), (4, some ((-2147483648), 2147483647)), (5, some (0, 256))], 5, 0, true))] 19 rw_19 = true := by decide +kernel
set_option maxRecDepth 100000 in
theorem ck_20 : v_C [(19, 8, ([(0, none), (2, none), (3, some (0, 32)), (4, some ((-2147483648), 2147483647)), (5, some (0, 256))], 5, 0, true))] 19 rw_20 = true := by decide +kernel
set_option maxRecDepth 100000 in
theorem ck_21 : v_C [] 20 rw_21 = true := by decide +kernel
set_option maxRecDepth 100000 in
theorem ck_22 : v_C [] 21 rw_22 = true := by decide +kernel
set_option maxRecDepth 100000 in
theorem ck_23 : v_C [(23, 12, ([(0, none), (1, none), (3, none), (4, some ((-2147483648), 2147483647)), (5, some ((-2147483648), 2147483647)), (6, some (0, 5))], 6, 0, true))] 23 rw_23 = true := by decide +kernel
set_option maxRecDepth 100000 in
theorem ck_24 : v_C [(24, 21, ([(0, none), (1, none), (2, none), (3, some ((-2147483648), 2147483647)), (4, some (0, 12))], 4, 0, true))] 24 rw_24 = true := by decide +kernel
set_option maxRecDepth 100000 in
theorem ck_25 : v_C [(25, 5, ([(0, none), (1, none), (2, none), (3, some ((-2147483648), 2147483647)), (4, some (0, 12))], 4, 0, true)), (25, 15, ([(0, none), (1, none), (2, none), (3, some ((-2147483648), 2147483647)), (4, none), (5, some (0, 5))], 5, 0, true))] 25 rw_25 = true := by decide +kernel
set_option maxRecDepth 100000 in
theorem ck_26 : v_C [(26, 4, ([(0, none), (1, none), (2, some ((-1), 4)), (3, some (0, 5))], 3, 0, true))] 26 rw_26 = true := by decide +kernel
set_option maxRecDepth 100000 in
theorem ck_27 : v_C [(27, 6, ([(0, none), (1, none), (2, none), (3, none), (4, some ((-1), 11)), (5, some (0, 12))], 5, 0, true))] 27 rw_27 = true := by decide +kernel
set_option maxRecDepth 100000 in
theorem ck_28 : v_C [] 29 rw_28 = true := by decide +kernel
set_option maxRecDepth 100000 in
theorem ck_29 : v_C [(39, 8, ([(0, none), (3, some (0, 16))], 3, 0, true))] 39 rw_29 = true := by decide +kernel
set_option maxRecDepth 100000 in
theorem ck_30 : v_C [(39, 8, ([(0, none), (3, some (0, 16))], 3, 0, true))] 39 rw_30 = true := by decide +kernel
set_option maxRecDepth 100000 in
theorem ck_31 : v_C [] 40 rw_31 = true := by decide +kernel
set_option maxRecDepth 100000 in
theorem ck_32 : v_C [] 40 rw_32 = true := by decide +kernel
set_option maxRecDepth 100000 in
theorem ck_33 : v_C [(42, 90, ([(0, none), (1, none), (3, none), (5, some (0, 12))], 5, 0, true))] 42 rw_33 = true := by decide +kernel
set_option maxRecDepth 100000 in
theorem ck_34 : v_C [(42, 90, ([(0, none), (1, none), (3, none), (5, some (0, 12))], 5, 0, true))] 42 rw_34 = true := by decide +kernel
end Prt31b
section Prt31c
set_option maxRecDepth 100000 in
theorem ck_35 : v_C [(43, 2, ([(0, none), (1, none), (2, none), (3, some (0, 16))], 3, 0, true))] 43 rw_35 = true := by decide +kernel
set_option maxRecDepth 100000 in
theorem ck_36 : v_C [(44, 2, ([(0, none), (1, none), (2, some (0, 16))], 2, 0, true))] 44 rw_36 = true := by decide +kernel
set_option maxRecDepth 100000 in
theorem ck_37 : v_C [(46, 32, ([(0, none), (4, some (0, 8))], 4, 0, true))] 46 rw_37 = true := by decide +kernel
set_option maxRecDepth 100000 in
theorem ck_38 : v_C [(47, 27, ([(0, none), (1, none), (4, some (0, 8))], 4, 0, true)), (47, 46, ([(0, none), (1, none), (4, none), (5, some (0, 8))], 5, 0, true))] 47 rw_38 = true := by decide +kernel
set_option maxRecDepth 100000 in
theorem ck_39 : v_C [(49, 29, ([(0, none), (3, none), (4, some ((-1), 255))], 4, 0, false)), (49, 37, ([(0, none), (3, none), (4, none), (5, some (0, 8))], 5, 0, true))] 49 rw_39 = true := by decide +kernel
set_option maxRecDepth 100000 in
theorem ck_40 : v_C [(51, 4, ([(0, none), (1, none), (2, some (0, 8)), (3, some (0, 12))], 3, 0, true))] 51 rw_40 = true := by decide +kernel
set_option maxRecDepth 100000 in
theorem ck_41 : v_C [(51, 4, ([(0, none), (1, none), (2, some (0, 6)), (3, some (0, 12))], 3, 0, true))] 51 rw_41 = true := by decide +kernel
set_option maxRecDepth 100000 in
theorem ck_42 : v_C [(51, 4, ([(0, none), (1, none), (2, some (0, 8)), (3, some (0, 12))], 3, 0, true))] 51 rw_42 = true := by decide +kernel
set_option maxRecDepth 100000 in
theorem ck_43 : v_C [(52, 10, ([(0, none), (1, none), (2, some (0, 8))], 2, 0, true)), (52, 28, ([(0, none), (1, none), (2, none), (3, some (1, 8))], 3, 0, true))] 52 rw_43 = true := by decide +kernel
set_option maxRecDepth 100000 in
theorem ck_44 : v_C [] 53 rw_44 = true := by decide +kernel
set_option maxRecDepth 100000 in
theorem ck_45 : v_C [(53, 31, ([(0, none), (1, none), (2, none), (3, some (0, 8))], 3, 0, true))] 53 rw_45 = true := by decide +kernel
set_option maxRecDepth 100000 in
theorem ck_46 : v_C [(53, 31, ([(0, none), (1, none), (2, none), (3, some (0, 8))], 3, 0, true))] 53 rw_46 = true := by decide +kernel
set_option maxRecDepth 100000 in
theorem ck_47 : v_C [(53, 31, ([(0, none), (1, none), (2, none), (3, some (0, 8))], 3, 0, true))] 53 rw_47 = true := by decide +kernel
set_option maxRecDepth 100000 in
theorem ck_48 : v_C [(53, 31, ([(0, none), (1, none), (2, none), (3, some (0, 8))], 3, 0, true))] 53 rw_48 = true := by decide +kernel
set_option maxRecDepth 100000 in
theorem ck_49 : v_C [(53, 31, ([(0, none), (1, none), (2, none), (3, some (0, 8))], 3, 0, true))] 53 rw_49 = true := by decide +kernel
set_option maxRecDepth 100000 in
theorem ck_50 : v_C [(53, 31, ([(0, none), (1, none), (2, none), (3, some (0, 8))], 3, 0, true))] 53 rw_50 = true := by decide +kernel
set_option maxRecDepth 100000 in
theorem ck_51 : v_C [(53, 31, ([(0, none), (1, none), (2, none), (3, some (0, 8))], 3, 0, true))] 53 rw_51 = true := by decide +kernel
set_option maxRecDepth 100000 in
theorem ck_52 : v_C [(53, 31, ([(0, none), (1, none), (2, none), (3, some (0, 8))], 3, 0, true))] 53 rw_52 = true := by decide +kernel
set_option maxRecDepth 100000 in
theorem ck_53 : v_C [] 54 rw_53 = true := by decide +kernel
set_option maxRecDepth 100000 in
theorem ck_54 : v_C [(54, 32, ([(0, none), (1, none), (2, none), (3, none), (4, some (0, 8))], 4, 0, true))] 54 rw_54 = true := by decide +kernel
set_option maxRecDepth 100000 in
theorem ck_55 : v_C [(54, 32, ([(0, none), (1, none), (2, none), (3, none), (4, some (0, 8))], 4, 0, true))] 54 rw_55 = true := by decide +kernel
set_option maxRecDepth 100000 in
theorem ck_56 : v_C [(54, 32, ([(0, none), (1, none), (2, none), (3, none), (4, some (0, 8))], 4, 0, true))] 54 rw_56 = true := by decide +kernel
set_option maxRecDepth 100000 in
theorem ck_57 : v_C [(54, 32, ([(0, none), (1, none), (2, none), (3, none), (4, some (0, 8))], 4, 0, true))] 54 rw_57 = true := by decide +kernel
set_option maxRecDepth 100000 in
theorem ck_58 : v_C [(54, 32, ([(0, none), (1, none), (2, none), (3, none), (4, some (0, 8))], 4, 0, true))] 54 rw_58 = true := by decide +kernel
set_option maxRecDepth 100000 in
theorem ck_59 : v_C [(54, 32, ([(0, none), (1, none), (2, none), (3, none), (4, some (0, 8))], 4, 0, true))] 54 rw_59 = true := by decide +kernel
set_option maxRecDepth 100000 in
theorem ck_60 : v_C [(54, 32, ([(0, none), (1, none), (2, none), (3, none), (4, some (0, 8))], 4, 0, true))] 54 rw_60 = true := by decide +kernel
set_option maxRecDepth 100000 in
theorem ck_61 : v_C [(54, 32, ([(0, none), (1, none), (2, none), (3, none), (4, some (0, 8))], 4, 0, true))] 54 rw_61 = true := by decide +kernel
set_option maxRecDepth 100000 in
theorem ck_62 : v_C [(56, 30, ([(0, none), (1, none), (2, none), (4, some ((-2147483648), 2147483647)), (5, some (1, 8))], 5, 0, true))] 56 rw_62 = true := by decide +kernel
set_option maxRecDepth 100000 in
theorem ck_63 : v_C [(57, 13, ([(0, none), (1, some (1, 255)), (2, some (0, 7)), (3, some (1, 8))], 3, 0, true))] 57 rw_63 = true := by decide +kernel
set_option maxRecDepth 100000 in
theorem ck_64 : v_C [(58, 2, ([(0, none), (1, none), (2, none), (3, some (1, 8))], 3, 0, true))] 58 rw_64 = true := by decide +kernel
set_option maxRecDepth 100000 in
theorem ck_65 : v_C [(60, 7, ([(0, none), (2, none), (3, some (0, 240))], 3, 0, true))] 60 rw_65 = true := by decide +kernel
set_option maxRecDepth 100000 in
theorem ck_67 : v_C [] 63 rw_67 = true := by decide +kernel
set_option maxRecDepth 100000 in
theorem ck_68 : v_C [] 64 rw_68 = true := by decide +kernel
set_option maxRecDepth 100000 in
theorem ck_69 : v_C [] 65 rw_69 = true := by decide +kernel
set_option maxRecDepth 100000 in
theorem ck_70 : v_C [] 67 rw_70 = true := by decide +kernel
end Prt31c
section Prt31d
set_option maxRecDepth 100000 in
theorem ck_71 : v_C [] 70 rw_71 = true := by decide +kernel
set_option maxRecDepth 100000 in
theorem ck_72 : v_C [] 70 rw_72 = true := by decide +kernel
set_option maxRecDepth 100000 in
theorem ck_73 : v_C [] 70 rw_73 = true := by decide +kernel
set_option maxRecDepth 100000 in
theorem ck_74 : v_C [] 70 rw_74 = true := by decide +kernel
set_option maxRecDepth 100000 in
theorem ck_75 : v_C [] 70 rw_75 = true := by decide +kernel
set_option maxRecDepth 100000 in
theorem ck_76 : v_C [] 70 rw_76 = true := by decide +kernel
set_option maxRecDepth 100000 in
theorem ck_77 : v_C [] 70 rw_77 = true := by decide +kernel
set_option maxRecDepth 100000 in
theorem ck_78 : v_C [(71, 7, ([(0, none), (1, none), (2, some (0, 240))], 2, 0, true))] 71 rw_78 = true := by decide +kernel
set_option maxRecDepth 100000 in
theorem ck_79 : v_C [(71, 7, ([(0, none), (1, none), (2, some (0, 240))], 2, 0, true))] 71 rw_79 = true := by decide +kernel
set_option maxRecDepth 100000 in
theorem ck_80 : v_C [(71, 7, ([(0, none), (1, none), (2, some (0, 240))], 2, 0, true))] 71 rw_80 = true := by decide +kernel
set_option maxRecDepth 100000 in
theorem ck_81 : v_C [(71, 7, ([(0, none), (1, none), (2, some (0, 240))], 2, 0, true))] 71 rw_81 = true := by decide +kernel
set_option maxRecDepth 100000 in
theorem ck_82 : v_C [(71, 7, ([(0, none), (1, none), (2, some (0, 240))], 2, 0, true))] 71 rw_82 = true := by decide +kernel
set_option maxRecDepth 100000 in
theorem ck_83 : v_C [(71, 7, ([(0, none), (1, none), (2, some (0, 240))], 2, 0, true))] 71 rw_83 = true := by decide +kernel
set_option maxRecDepth 100000 in
theorem ck_84 : v_C [(72, 7, ([(0, none), (1, none), (2, some (0, 240))], 2, 0, true))] 72 rw_84 = true := by decide +kernel
set_option maxRecDepth 100000 in
theorem ck_85 : v_C [(72, 7, ([(0, none), (1, none), (2, some (0, 240))], 2, 0, true))] 72 rw_85 = true := by decide +kernel
set_option maxRecDepth 100000 in
theorem ck_86 : v_C [(72, 7, ([(0, none), (1, none), (2, some (0, 240))], 2, 0, true))] 72 rw_86 = true := by decide +kernel
set_option maxRecDepth 100000 in
theorem ck_87 : v_C [(72, 7, ([(0, none), (1, none), (2, some (0, 240))], 2, 0, true))] 72 rw_87 = true := by decide +kernel
set_option maxRecDepth 100000 in
theorem ck_88 : v_C [(72, 7, ([(0, none), (1, none), (2, some (0, 240))], 2, 0, true))] 72 rw_88 = true := by decide +kernel
set_option maxRecDepth 100000 in
theorem ck_89 : v_C [(72, 7, ([(0, none), (1, none), (2, some (0, 240))], 2, 0, true))] 72 rw_89 = true := by decide +kernel
set_option maxRecDepth 100000 in
theorem ck_90 : v_C [] 73 rw_90 = true := by decide +kernel
set_option maxRecDepth 100000 in
theorem ck_91 : v_C [] 73 rw_91 = true := by decide +kernel
set_option maxRecDepth 100000 in
theorem ck_92 : v_C [] 73 rw_92 = true := by decide +kernel
set_option maxRecDepth 100000 in
theorem ck_93 : v_C [] 73 rw_93 = true := by decide +kernel
set_option maxRecDepth 100000 in
theorem ck_94 : v_C [] 73 rw_94 = true := by decide +kernel
end Prt31d
section Prt31e
set_option maxRecDepth 100000 in
theorem ck_95 : v_C [] 73 rw_95 = true := by decide +kernel
set_option maxRecDepth 100000 in
theorem ck_96 : v_C [(74, 7, ([(0, none), (1, none), (2, some (0, 240))], 2, 0, true))] 74 rw_96 = true := by decide +kernel
set_option maxRecDepth 100000 in
theorem ck_97 : v_C [(74, 7, ([(0, none), (1, none), (2, some (0, 240))], 2, 0, true))] 74 rw_97 = true := by decide +kernel
set_option maxRecDepth 100000 in
theorem ck_98 : v_C [(74, 7, ([(0, none), (1, none), (2, some (0, 240))], 2, 0, true))] 74 rw_98 = true := by decide +kernel
set_option maxRecDepth 100000 in
theorem ck_99 : v_C [(74, 7, ([(0, none), (1, none), (2, some (0, 240))], 2, 0, true))] 74 rw_99 = true := by decide +kernel
set_option maxRecDepth 100000 in
theorem ck_100 : v_C [(74, 7, ([(0, none), (1, none), (2, some (0, 240))], 2, 0, true))] 74 rw_100 = true := by decide +kernel
set_option maxRecDepth 100000 in
theorem ck_101 : v_C [(74, 7, ([(0, none), (1, none), (2, some (0, 240))], 2, 0, true))] 74 rw_101 = true := by decide +kernel
set_option maxRecDepth 100000 in
theorem ck_102 : v_C [(74, 7, ([(0, none), (1, none), (2, some (0, 240))], 2, 0, true))] 74 rw_102 = true := by decide +kernel
set_option maxRecDepth 100000 in
theorem ck_103 : v_C [(75, 7, ([(0, none), (1, none), (2, some (0, 240))], 2, 0, true))] 75 rw_103 = true := by decide +kernel
set_option maxRecDepth 100000 in
theorem ck_104 : v_C [(75, 7, ([(0, none), (1, none), (2, some (0, 240))], 2, 0, true))] 75 rw_104 = true := by decide +kernel
set_option maxRecDepth 100000 in
theorem ck_105 : v_C [(75, 7, ([(0, none), (1, none), (2, some (0, 240))], 2, 0, true))] 75 rw_105 = true := by decide +kernel
set_option maxRecDepth 100000 in
theorem ck_106 : v_C [(75, 7, ([(0, none), (1, none), (2, some (0, 240))], 2, 0, true))] 75 rw_106 = true := by decide +kernel
set_option maxRecDepth 100000 in
theorem ck_107 : v_C [(75, 7, ([(0, none), (1, none), (2, some (0, 240))], 2, 0, true))] 75 rw_107 = true := by decide +kernel
end Prt31e
section Prt31f
set_option maxRecDepth 100000 in
theorem ck_108 : v_C [(75, 7, ([(0, none), (1, none), (2, some (0, 240))], 2, 0, true))] 75 rw_108 = true := by decide +kernel
set_option maxRecDepth 100000 in
theorem ck_109 : v_C [(75, 7, ([(0, none), (1, none), (2, some (0, 240))], 2, 0, true))] 75 rw_109 = true := by decide +kernel
set_option maxRecDepth 100000 in
theorem ck_110 : v_C [] 76 rw_110 = true := by decide +kernel
set_option maxRecDepth 100000 in
theorem ck_111 : v_C [] 76 rw_111 = true := by decide +kernel
set_option maxRecDepth 100000 in
theorem ck_112 : v_C [] 76 rw_112 = true := by decide +kernel
set_option maxRecDepth 100000 in
theorem ck_113 : v_C [] 76 rw_113 = true := by decide +kernel
set_option maxRecDepth 100000 in
theorem ck_114 : v_C [] 76 rw_114 = true := by decide +kernel
set_option maxRecDepth 100000 in
theorem ck_115 : v_C [] 76 rw_115 = true := by decide +kernel
set_option maxRecDepth 100000 in
theorem ck_116 : v_C [] 76 rw_116 = true := by decide +kernel
set_option maxRecDepth 100000 in
theorem ck_117 : v_C [(77, 4, ([(0, none), (1, some ((-2147483648), 2147483647)), (2, some (0, 5))], 2, 0, true))] 77 rw_117 = true := by decide +kernel
set_option maxRecDepth 100000 in
theorem ck_118 : v_C [(84, 19, ([(0, none), (3, some (0, 1023)), (4, some ((-2147483648), 2147483647)), (5, none), (6, some (0, 10))], 6, 0, true))] 84 rw_118 = true := by decide +kernel
set_option maxRecDepth 100000 in
theorem ck_119 : v_C [(85, 9, ([(0, none), (1, none), (3, some (0, 1023)), (4, some (0, 10))], 4, 0, true)), (85, 19, ([(0, none), (1, none), (3, some (0, 1023)), (4, none), (5, some (0, 10))], 5, 0, true))] 85 rw_119 = true := by decide +kernel
set_option maxRecDepth 100000 in
theorem ck_120 : v_C [(86, 2, ([(0, none), (1, none), (2, none), (3, some (0, 10))], 3, 0, true))] 86 rw_120 = true := by decide +kernel
set_option maxRecDepth 100000 in
theorem ck_121 : v_C [(91, 4, ([(0, none), (1, none), (2, some (0, 4095)), (3, some (0, 12))], 3, 0, true))] 91 rw_121 = true := by decide +kernel
set_option maxRecDepth 100000 in
theorem ck_122 : v_C [(91, 4, ([(0, none), (1, none), (2, some (0, 4095)), (3, some (0, 12))], 3, 0, true))] 91 rw_122 = true := by decide +kernel
set_option maxRecDepth 100000 in
theorem ck_123 : v_C [] 93 rw_123 = true := by decide +kernel
set_option maxRecDepth 100000 in
theorem ck_124 : v_C [] 93 rw_124 = true := by decide +kernel
set_option maxRecDepth 100000 in
theorem ck_125 : v_C [] 93 rw_125 = true := by decide +kernel
set_option maxRecDepth 100000 in
theorem ck_126 : v_C [(96, 3, ([(0, none), (1, none), (2, some ((-128), 24))], 2, 0, false))] 96 rw_126 = true := by decide +kernel
set_option maxRecDepth 100000 in
theorem ck_127 : v_C [] 97 rw_127 = true := by decide +kernel
set_option maxRecDepth 100000 in
theorem ck_128 : v_C [(104, 29, ([(0, none), (1, none), (3, some ((-1), 5))], 3, 0, false))] 104 rw_128 = true := by decide +kernel
set_option maxRecDepth 100000 in
theorem ck_129 : v_C [] 106 rw_129 = true := by decide +kernel
set_option maxRecDepth 100000 in
theorem ck_130 : v_C [(106, 96, ([(0, none), (1, none), (2, none), (3, none), (4, none), (5, none), (6, none), (7, some (0, 4))], 7, 0, true))] 106 rw_130 = true := by decide +kernel
set_option maxRecDepth 100000 in
theorem ck_131 : v_C [(106, 96, ([(0, none), (1, none), (2, none), (3, none), (4, none), (5, none), (6, none), (7, some (0, 4))], 7, 0, true))] 106 rw_131 = true := by decide +kernel
set_option maxRecDepth 100000 in
theorem ck_132 : v_C [(106, 96, ([(0, none), (1, none), (2, none), (3, none), (4, none), (5, none), (6, none), (7, some (0, 4))], 7, 0, true))] 106 rw_132 = true := by decide +kernel
set_option maxRecDepth 100000 in
theorem ck_133 : v_C [(106, 96, ([(0, none), (1, none), (2, none), (3, none), (4, none), (5, none), (6, none), (7, some (0, 4))], 7, 0, true))] 106 rw_133 = true := by decide +kernel
set_option maxRecDepth 100000 in
theorem ck_134 : v_C [(106, 96, ([(0, none), (1, none), (2, none), (3, none), (4, none), (5, none), (6, none), (7, some (0, 4))], 7, 0, true))] 106 rw_134 = true := by decide +kernel
end Prt31f
section Prt31g
set_option maxRecDepth 100000 in
theorem ck_135 : v_C [(106, 96, ([(0, none), (1, none), (2, none), (3, none), (4, none), (5, none), (6, none), (7, some (0, 4))], 7, 0, true))] 106 rw_135 = true := by decide +kernel
set_option maxRecDepth 100000 in
theorem ck_136 : v_C [(108, 2, ([(0, none), (1, none), (2, none), (3, some (0, 5))], 3, 0, true))] 108 rw_136 = true := by decide +kernel
set_option maxRecDepth 100000 in
theorem ck_137 : v_C [] 109 rw_137 = true := by decide +kernel
set_option maxRecDepth 100000 in
theorem ck_138 : v_C [] 111 rw_138 = true := by decide +kernel
set_option maxRecDepth 100000 in
theorem ck_139 : v_C [] 112 rw_139 = true := by decide +kernel
set_option maxRecDepth 100000 in
theorem ck_140 : v_C [] 113 rw_140 = true := by decide +kernel
set_option maxRecDepth 100000 in
theorem ck_141 : v_C [] 114 rw_141 = true := by decide +kernel
set_option maxRecDepth 100000 in
theorem ck_142 : v_C [] 115 rw_142 = true := by decide +kernel
set_option maxRecDepth 100000 in
theorem ck_143 : v_C [] 116 rw_143 = true := by decide +kernel
set_option maxRecDepth 100000 in
theorem ck_144 : v_C [] 117 rw_144 = true := by decide +kernel
set_option maxRecDepth 100000 in
theorem ck_145 : v_C [] 118 rw_145 = true := by decide +kernel
set_option maxRecDepth 100000 in
theorem ck_146 : v_C [] 119 rw_146 = true := by decide +kernel
set_option maxRecDepth 100000 in
theorem ck_147 : v_C [] 120 rw_147 = true := by decide +kernel
set_option maxRecDepth 100000 in
theorem ck_148 : v_C [] 121 rw_148 = true := by decide +kernel
set_option maxRecDepth 100000 in
theorem ck_149 : v_C [] 122 rw_149 = true := by decide +kernel
set_option maxRecDepth 100000 in
theorem ck_150 : v_C [] 123 rw_150 = true := by decide +kernel
set_option maxRecDepth 100000 in
theorem ck_151 : v_C [] 124 rw_151 = true := by decide +kernel
set_option maxRecDepth 100000 in
theorem ck_152 : v_C [] 125 rw_152 = true := by decide +kernel
set_option maxRecDepth 100000 in
theorem ck_153 : v_C [] 126 rw_153 = true := by decide +kernel
set_option maxRecDepth 100000 in
theorem ck_154 : v_C [] 127 rw_154 = true := by decide +kernel
set_option maxRecDepth 100000 in
theorem ck_155 : v_C [] 128 rw_155 = true := by decide +kernel
set_option maxRecDepth 100000 in
theorem ck_156 : v_C [] 129 rw_156 = true := by decide +kernel
set_option maxRecDepth 100000 in
theorem ck_157 : v_C [] 130 rw_157 = true := by decide +kernel
set_option maxRecDepth 100000 in
theorem ck_158 : v_C [] 131 rw_158 = true := by decide +kernel
set_option maxRecDepth 100000 in
theorem ck_159 : v_C [] 132 rw_159 = true := by decide +kernel
set_option maxRecDepth 100000 in
theorem ck_160 : v_C [(133, 24, ([(0, none), (1, none), (2, none), (3, some ((-2147483648), 2147483647)), (4, some (0, 12))], 4, 0, true))] 133 rw_160 = true := by decide +kernel
set_option maxRecDepth 100000 in
theorem ck_161 : v_C [] 134 rw_161 = true := by decide +kernel
set_option maxRecDepth 100000 in
theorem ck_162 : v_C [] 135 rw_162 = true := by decide +kernel
set_option maxRecDepth 100000 in
theorem ck_163 : v_C [(136, 29, ([(0, none), (1, none), (2, some (0, 4095)), (3, some (0, 12))], 3, 0, true))] 136 rw_163 = true := by decide +kernel
set_option maxRecDepth 100000 in
theorem ck_164 : v_C [] 137 rw_164 = true := by decide +kernel
set_option maxRecDepth 100000 in
theorem ck_165 : v_C [] 138 rw_165 = true := by decide +kernel
set_option maxRecDepth 100000 in
theorem ck_166 : v_C [] 139 rw_166 = true := by decide +kernel
set_option maxRecDepth 100000 in
theorem ck_167 : v_C [] 140 rw_167 = true := by decide +kernel
set_option maxRecDepth 100000 in
theorem ck_168 : v_C [] 141 rw_168 = true := by decide +kernel
set_option maxRecDepth 100000 in
theorem ck_169 : v_C [] 142 rw_169 = true := by decide +kernel
set_option maxRecDepth 100000 in
theorem ck_170 : v_C [] 143 rw_170 = true := by decide +kernel
set_option maxRecDepth 100000 in
theorem ck_171 : v_C [] 144 rw_171 = true := by decide +kernel
set_option maxRecDepth 100000 in
theorem ck_172 : v_C [(145, 22, ([(0, none), (1, some (0, 6))], 1, 0, true))] 145 rw_172 = true := by decide +kernel
end Prt31g
section Prt31h
set_option maxRecDepth 100000 in
theorem ck_173 : v_C [(146, 27, ([(0, none), (1, none), (2, some ((-1), 11)), (3, some (0, 12))], 3, 0, true))] 146 rw_173 = true := by decide +kernel
set_option maxRecDepth 100000 in
theorem ck_174 : v_C [(153, 5, ([(0, none), (1, none), (2, none), (3, some (0, 1023)), (4, some (0, 10))], 4, 0, true))] 153 rw_174 = true := by decide +kernel
set_option maxRecDepth 100000 in
theorem ck_175 : v_C [(154, 15, ([(0, none), (1, none), (2, none), (3, none), (4, some ((-2147483648), 10)), (5, some ((-2), 9)), (6, some (0, 10))], 6, 0, true))] 154 rw_175 = true := by decide +kernel
set_option maxRecDepth 100000 in
theorem ck_176 : v_C [(155, 5, ([(0, none), (1, none), (2, none), (3, some ((-2147483648), 2147483647)), (4, some (0, 10))], 4, 0, true))] 155 rw_176 = true := by decide +kernel
set_option maxRecDepth 100000 in
theorem ck_177 : v_C [(156, 34, ([(0, none), (1, none), (2, none), (3, none), (4, none), (5, some (0, 2147483647)), (6, some ((-2147483648), 250)), (7, some (0, 8))], 7, 0, true))] 156 rw_177 = true := by decide +kernel
set_option maxRecDepth 100000 in
theorem ck_178 : v_C [(157, 4, ([(0, none), (1, none), (2, some ((-1), 2147483647)), (3, some (0, 8))], 3, 0, true))] 157 rw_178 = true := by decide +kernel
set_option maxRecDepth 100000 in
theorem ck_179 : v_C [(158, 2, ([(0, none), (1, none), (2, none), (3, some (0, 8))], 3, 0, true)), (158, 10, ([(0, none), (1, none), (2, none), (3, none), (4, some (0, 8))], 4, 0, true))] 158 rw_179 = true := by decide +kernel
set_option maxRecDepth 100000 in
theorem ck_180 : v_C [] 163 rw_180 = true := by decide +kernel
set_option maxRecDepth 100000 in
theorem ck_181 : v_C [] 165 rw_181 = true := by decide +kernel
set_option maxRecDepth 100000 in
theorem ck_182 : v_C [] 166 rw_182 = true := by decide +kernel
set_option maxRecDepth 100000 in
theorem ck_185 : v_C [] 195 rw_185 = true := by decide +kernel
set_option maxRecDepth 100000 in
theorem ck_186 : v_C [] 196 rw_186 = true := by decide +kernel
set_option maxRecDepth 100000 in
theorem ck_187 : v_C [] 197 rw_187 = true := by decide +kernel
set_option maxRecDepth 100000 in
theorem ck_188 : v_C [(200, 2, ([(0, none), (1, none), (2, none), (3, some (0, 16))], 3, 0, true))] 200 rw_188 = true := by decide +kernel
set_option maxRecDepth 100000 in
theorem ck_189 : v_C [(201, 2, ([(0, none), (1, none), (2, some (0, 16))], 2, 0, true))] 201 rw_189 = true := by decide +kernel
set_option maxRecDepth 100000 in
theorem ck_190 : v_C [] 203 rw_190 = true := by decide +kernel
set_option maxRecDepth 100000 in
theorem ck_191 : v_C [] 204 rw_191 = true := by decide +kernel
set_option maxRecDepth 100000 in
theorem ck_192 : v_C [] 207 rw_192 = true := by decide +kernel
set_option maxRecDepth 100000 in
theorem ck_193 : v_C [(213, 4, ([(0, none), (1, none), (2, some ((-2147483648), 2147483647)), (3, some (0, 12))], 3, 0, true))] 213 rw_193 = true := by decide +kernel
set_option maxRecDepth 100000 in
theorem ck_194 : v_C [(214, 4, ([(0, none), (1, none), (2, some ((-2147483648), 2147483647)), (3, some (0, 12))], 3, 0, true))] 214 rw_194 = true := by decide +kernel
set_option maxRecDepth 100000 in
theorem ck_195 : v_C [] 215 rw_195 = true := by decide +kernel
set_option maxRecDepth 100000 in
theorem ck_196 : v_C [] 216 rw_196 = true := by decide +kernel
set_option maxRecDepth 100000 in
theorem ck_197 : v_C [] 217 rw_197 = true := by decide +kernel
set_option maxRecDepth 100000 in
theorem ck_198 : v_C [] 218 rw_198 = true := by decide +kernel
set_option maxRecDepth 100000 in
theorem ck_199 : v_C [] 219 rw_199 = true := by decide +kernel
set_option maxRecDepth 100000 in
theorem ck_200 : v_C [] 220 rw_200 = true := by decide +kernel
set_option maxRecDepth 100000 in
theorem ck_201 : v_C [] 221 rw_201 = true := by decide +kernel
set_option maxRecDepth 100000 in
theorem ck_203 : v_C [(228, 22, ([(0, none), (2, some (0, 12))], 2, 0, true))] 228 rw_203 = true := by decide +kernel
set_option maxRecDepth 100000 in
theorem ck_204 : v_C [(230, 2, ([(0, none), (1, none), (2, some (0, 12))], 2, 0, true))] 230 rw_204 = true := by decide +kernel
set_option maxRecDepth 100000 in
theorem ck_205 : v_C [(231, 8, ([(0, none), (1, none), (2, none), (3, some (0, 12))], 3, 0, true))] 231 rw_205 = true := by decide +kernel
set_option maxRecDepth 100000 in
theorem ck_206 : v_C [(232, 2, ([(0, none), (1, some (0, 6))], 1, 0, true))] 232 rw_206 = true := by decide +kernel
set_option maxRecDepth 100000 in
theorem ck_207 : v_C [(233, 2, ([(0, none), (1, some (0, 12))], 1, 0, true))] 233 rw_207 = true := by decide +kernel
set_option maxRecDepth 100000 in
theorem ck_208 : v_C [(234, 2, ([(0, none), (1, some (0, 12))], 1, 0, true)), (234, 12, ([(0, none), (1, none), (2, some (1, 12))], 2, 0, true))] 234 rw_208 = true := by decide +kernel
set_option maxRecDepth 100000 in
theorem ck_209 : v_C [(235, 2, ([(0, none), (1, some (0, 5))], 1, 0, true)), (235, 34, ([(0, none), (1, some (0, 6))], 1, 0, true))] 235 rw_209 = true := by decide +kernel
set_option maxRecDepth 100000 in
theorem ck_210 : v_C [(236, 2, ([(0, none), (1, some (0, 12))], 1, 0, true)), (236, 12, ([(0, none), (1, none), (2, some (0, 6))], 2, 0, true))] 236 rw_210 = true := by decide +kernel
set_option maxRecDepth 100000 in
theorem ck_211 : v_C [(237, 39, ([(0, none), (1, none), (2, some (0, 60))], 2, 0, true))] 237 rw_211 = true := by decide +kernel
set_option maxRecDepth 100000 in
theorem ck_212 : v_C [] 238 rw_212 = true := by decide +kernel
set_option maxRecDepth 100000 in
theorem ck_213 : v_C [(239, 2, ([(0, none), (1, none), (2, some (0, 12))], 2, 0, true)), (239, 107, ([(0, none), (1, none), (2, some (0, 5))], 2, 0, true)), (239, 168, ([(0, none), (1, none), (2, some (0, 6))], 2, 0, true))] 239 rw_213 = true := by decide +kernel
set_option maxRecDepth 100000 in
theorem ck_214 : v_C [(240, 2, ([(0, none), (1, none), (2, some (0, 12))], 2, 0, true)), (240, 107, ([(0, none), (1, none), (2, some (0, 5))], 2, 0, true)), (240, 168, ([(0, none), (1, none), (2, some (0, 6))], 2, 0, true))] 240 rw_214 = true := by decide +kernel
set_option maxRecDepth 100000 in
theorem ck_215 : v_C [] 241 rw_215 = true := by decide +kernel
set_option maxRecDepth 100000 in
theorem ck_216 : v_C [] 243 rw_216 = true := by decide +kernel
set_option maxRecDepth 100000 in
theorem ck_217 : v_C [(244, 4, ([(0, none), (1, none), (2, some (0, 4095)), (3, some (0, 12))], 3, 0, true))] 244 rw_217 = true := by decide +kernel
set_option maxRecDepth 100000 in
theorem ck_218 : v_C [(245, 2, ([(0, none), (1, none), (2, some (0, 12))], 2, 0, true))] 245 rw_218 = true := by decide +kernel
set_option maxRecDepth 100000 in
theorem ck_219 : v_C [] 246 rw_219 = true := by decide +kernel
set_option maxRecDepth 100000 in
theorem ck_220 : v_C [] 247 rw_220 = true := by decide +kernel
set_option maxRecDepth 100000 in
theorem ck_221 : v_C [] 248 rw_221 = true := by decide +kernel
set_option maxRecDepth 100000 in
theorem ck_222 : v_C [(249, 4, ([(0, none), (1, some (0, 4095)), (2, some (0, 12))], 2, 0, true))] 249 rw_222 = true := by decide +kernel
set_option maxRecDepth 100000 in
theorem ck_223 : v_C [(253, 4, ([(0, none), (1, none), (2, some ((-2147483648), 2147483647)), (3, some (0, 6))], 3, 0, true))] 253 rw_223 = true := by decide +kernel
set_option maxRecDepth 100000 in
theorem ck_224 : v_C [(254, 8, ([(0, none), (3, none), (4, some (0, 2147483647)), (5, some ((-1), 5))], 5, 0, false))] 254 rw_224 = true := by decide +kernel
set_option maxRecDepth 100000 in
theorem ck_225 : v_C [(255, 2, ([(0, none), (1, none), (2, some (0, 6))], 2, 0, true))] 255 rw_225 = true := by decide +kernel
set_option maxRecDepth 100000 in
theorem ck_226 : v_C [(257, 2, ([(0, none), (1, none), (2, none), (3, some (0, 3))], 3, 0, true)), (257, 13, ([(0, none), (1, none), (2, none), (3, none), (4, some ((-2147483648), 2147483647)), (5, some (0, 6))], 5, 0, true))] 257 rw_226 = true := by decide +kernel
set_option maxRecDepth 100000 in
theorem ck_227 : v_C [(258, 4, ([(0, none), (1, none), (2, some ((-2147483648), 2147483647)), (3, some (0, 6))], 3, 0, true)), (258, 12, ([(0, none), (1, none), (2, some ((-2147483648), 2147483647)), (3, none), (4, some (0, 5))], 4, 0, true))] 258 rw_227 = true := by decide +kernel
set_option maxRecDepth 100000 in
theorem ck_228 : v_C [(259, 81, ([(0, none), (1, none), (3, none), (4, none), (5, none), (6, some ((-2147483648), 1000000000)), (7, some (0, 2147483647))], 7, 0, true))] 259 rw_228 = true := by decide +kernel
set_option maxRecDepth 100000 in
theorem ck_229 : v_C [] 260 rw_229 = true := by decide +kernel
set_option maxRecDepth 100000 in
theorem ck_230 : v_C [(262, 12, ([(0, none), (1, none), (2, some (0, 6))], 2, 0, true)), (262, 40, ([(0, none), (1, none), (2, none), (3, some (0, 5))], 3, 0, true)), (262, 159, ([(0, none), (1, none), (2, some (0, 4))], 2, 0, true)), (262, 169, ([(0, none), (1, none), (2, none), (3, some ((-2147483648), 2147483647)), (4, some (0, 6))], 4, 0, true))] 262 rw_230 = true := by decide +kernel
set_option maxRecDepth 100000 in
theorem ck_231 : v_C [(263, 12, ([(0, none), (1, none), (2, some (0, 2147483647))], 2, 0, true))] 263 rw_231 = true := by decide +kernel
set_option maxRecDepth 100000 in
theorem ck_232 : v_C [] 264 rw_232 = true := by decide +kernel
set_option maxRecDepth 100000 in
theorem ck_233 : v_C [(265, 29, ([(0, none), (2, none), (3, some (0, 4095)), (4, some (0, 6))], 4, 0, true))] 265 rw_233 = true := by decide +kernel
set_option maxRecDepth 100000 in
theorem ck_234 : v_C [] 266 rw_234 = true := by decide +kernel
set_option maxRecDepth 100000 in
theorem ck_235 : v_C [(267, 5, ([(0, none), (1, none), (2, none), (3, some (0, 1023)), (4, some (0, 10))], 4, 0, true))] 267 rw_235 = true := by decide +kernel
set_option maxRecDepth 100000 in
theorem ck_236 : v_C [(268, 5, ([(0, none), (1, none), (2, none), (3, some ((-2147483648), 2147483647)), (4, some (0, 10))], 4, 0, true))] 268 rw_236 = true := by decide +kernel
set_option maxRecDepth 100000 in
theorem ck_237 : v_C [(269, 56, ([(0, none), (2, none), (4, none), (5, some ((-2), 9)), (6, some ((-2147483648), 2147483647)), (7, some (0, 10))], 7, 0, true))] 269 rw_237 = true := by decide +kernel
set_option maxRecDepth 100000 in
theorem ck_239 : v_C [] 271 rw_239 = true := by decide +kernel
set_option maxRecDepth 100000 in
theorem ck_240 : v_C [] 272 rw_240 = true := by decide +kernel
set_option maxRecDepth 100000 in
theorem ck_241 : v_C [] 273 rw_241 = true := by decide +kernel
set_option maxRecDepth 100000 in
theorem ck_242 : v_C [] 274 rw_242 = true := by decide +kernel
set_option maxRecDepth 100000 in
theorem ck_243 : v_C [(275, 4, ([(0, none), (1, none), (2, some ((-1), 4)), (3, some (0, 5))], 3, 0, true))] 275 rw_243 = true := by decide +kernel
set_option maxRecDepth 100000 in
theorem ck_244 : v_C [(276, 2, ([(0, none), (1, none), (2, some (0, 5))], 2, 0, true))] 276 rw_244 = true := by decide +kernel
set_option maxRecDepth 100000 in
theorem ck_246 : v_C [(278, 44, ([(0, none), (2, none), (3, some (0, 5))], 3, 0, true))] 278 rw_246 = true := by decide +kernel
set_option maxRecDepth 100000 in
theorem ck_248 : v_C [] 280 rw_248 = true := by decide +kernel
set_option maxRecDepth 100000 in
theorem ck_249 : v_C [] 281 rw_249 = true := by decide +kernel
set_option maxRecDepth 100000 in
theorem ck_250 : v_C [] 282 rw_250 = true := by decide +kernel
set_option maxRecDepth 100000 in
theorem ck_251 : v_C [(283, 2, ([(0, none), (1, none), (2, none), (3, some (0, 8))], 3, 0, true))] 283 rw_251 = true := by decide +kernel
set_option maxRecDepth 100000 in
theorem ck_252 : v_C [(284, 4, ([(0, none), (1, none), (2, none), (3, some ((-1), 0))], 3, 0, false))] 284 rw_252 = true := by decide +kernel
set_option maxRecDepth 100000 in
theorem ck_253 : v_C [(284, 4, ([(0, none), (1, none), (2, none), (3, some ((-1), 1))], 3, 0, false))] 284 rw_253 = true := by decide +kernel
set_option maxRecDepth 100000 in
theorem ck_254 : v_C [(284, 4, ([(0, none), (1, none), (2, none), (3, some ((-1), 2))], 3, 0, false))] 284 rw_254 = true := by decide +kernel
set_option maxRecDepth 100000 in
theorem ck_255 : v_C [(284, 4, ([(0, none), (1, none), (2, none), (3, some ((-1), 3))], 3, 0, false))] 284 rw_255 = true := by decide +kernel
set_option maxRecDepth 100000 in
theorem ck_256 : v_C [(284, 4, ([(0, none), (1, none), (2, none), (3, some ((-1), 4))], 3, 0, false))] 284 rw_256 = true := by decide +kernel
set_option maxRecDepth 100000 in
theorem ck_257 : v_C [(284, 4, ([(0, none), (1, none), (2, none), (3, some ((-1), 5))], 3, 0, false))] 284 rw_257 = true := by decide +kernel
set_option maxRecDepth 100000 in
theorem ck_258 : v_C [(284, 4, ([(0, none), (1, none), (2, none), (3, some ((-1), 6))], 3, 0, false))] 284 rw_258 = true := by decide +kernel
set_option maxRecDepth 100000 in
theorem ck_259 : v_C [(284, 4, ([(0, none), (1, none), (2, none), (3, some ((-1), 7))], 3, 0, false))] 284 rw_259 = true := by decide +kernel
set_option maxRecDepth 100000 in
theorem ck_260 : v_C [(285, 69, ([(0, none), (1, none), (2, none), (3, none), (4, none), (5, some (0, 8))], 5, 0, true)), (285, 174, ([(0, none), (1, none), (2, none), (3, none), (4, none), (5, some (0, 2147483647)), (6, some ((-2147483648), 255)), (7, some (0, 8))], 7, 0, true))] 285 rw_260 = true := by decide +kernel
end Prt31h
section Prt31i
set_option maxRecDepth 100000 in
theorem ck_261 : v_C [(287, 4, ([(0, none), (1, some (0, 31)), (2, some (0, 5))], 2, 0, true))] 287 rw_261 = true := by decide +kernel
set_option maxRecDepth 100000 in
theorem ck_264 : v_C [(292, 29, ([(0, none), (1, none), (2, none), (3, some ((-2147483648), 2147483647)), (4, some (0, 12))], 4, 0, true))] 292 rw_264 = true := by decide +kernel
set_option maxRecDepth 100000 in
theorem ck_265 : v_C [] 293 rw_265 = true := by decide +kernel
set_option maxRecDepth 100000 in
theorem ck_266 : v_C [] 294 rw_266 = true := by decide +kernel
set_option maxRecDepth 100000 in
theorem ck_267 : v_C [] 295 rw_267 = true := by decide +kernel
set_option maxRecDepth 100000 in
theorem ck_268 : v_C [(296, 30, ([(0, none), (1, none), (2, some (0, 12))], 2, 0, true))] 296 rw_268 = true := by decide +kernel
set_option maxRecDepth 100000 in
theorem ck_269 : v_C [(297, 4, ([(0, none), (1, none), (2, some (0, 1023)), (3, some (0, 10))], 3, 0, true))] 297 rw_269 = true := by decide +kernel
set_option maxRecDepth 100000 in
theorem ck_270 : v_C [] 298 rw_270 = true := by decide +kernel
set_option maxRecDepth 100000 in
theorem ck_271 : v_C [(300, 5, ([(0, none), (1, none), (2, some (0, 15)), (3, none)], 2, 0, true))] 300 rw_271 = true := by decide +kernel
set_option maxRecDepth 100000 in
theorem ck_272 : v_C [(300, 5, ([(0, none), (1, none), (2, some (0, 12)), (3, none)], 2, 0, true))] 300 rw_272 = true := by decide +kernel
set_option maxRecDepth 100000 in
theorem ck_273 : v_C [(300, 5, ([(0, none), (1, none), (2, some (0, 8)), (3, none)], 2, 0, true))] 300 rw_273 = true := by decide +kernel
set_option maxRecDepth 100000 in
theorem ck_274 : v_C [(300, 5, ([(0, none), (1, none), (2, some (0, 4)), (3, none)], 2, 0, true))] 300 rw_274 = true := by decide +kernel
set_option maxRecDepth 100000 in
theorem ck_275 : v_C [(300, 5, ([(0, none), (1, none), (2, some (0, 5)), (3, none)], 2, 0, true))] 300 rw_275 = true := by decide +kernel
end Prt31i
