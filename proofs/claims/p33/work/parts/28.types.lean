/-! the cells and what each may hold -/
def v_T0 : List v_Ct := [.inr (.inr (11, [.inr (.inl 46), .inr (.inl 67), .inr (.inl 33), .inr (.inl 51), .inr (.inl 76), .inr (.inl 77), .inr (.inl 87), .inr (.inl 95), .inr (.inl 48), .inr (.inl 2), .inr (.inl 12), .inr (.inl 22), .inr (.inl 32), .inl ((-2147483648), 2147483647), .inl (0, 1)])), .inr (.inr (7, [.inl ((-2147483648), 2147483647), .inr (.inl 3), .inr (.inl 4), .inr (.inl 5), .inr (.inl 6), .inr (.inl 7), .inr (.inl 8), .inl ((-2147483648), 2147483647), .inr (.inl 9), .inr (.inl 10), .inr (.inl 11), .inl ((-2147483648), 2147483647), .inl ((-2147483648), 2147483647), .inl ((-2147483648), 2147483647), .inl ((-2147483648), 2147483647)])), .inl (0, 12, (-2147483648), 2147483647), .inl (0, 12, (-2147483648), 2147483647), .inl (0, 12, (-2147483648), 2147483647), .inl (0, 12, (-2147483648), 2147483647), .inl (0, 12, (-2147483648), 2147483647), .inl (0, 12, (-2147483648), 2147483647), .inl (0, 5, (-2147483648), 2147483647), .inl (0, 5, (-2147483648), 2147483647), .inl (0, 6, (-2147483648), 2147483647), .inr (.inr (7, [.inl ((-2147483648), 2147483647), .inr (.inl 13), .inr (.inl 14), .inr (.inl 15), .inr (.inl 16), .inr (.inl 17), .inr (.inl 18), .inl ((-2147483648), 2147483647), .inr (.inl 19), .inr (.inl 20), .inr (.inl 21), .inl ((-2147483648), 2147483647), .inl ((-2147483648), 2147483647), .inl ((-2147483648), 2147483647), .inl ((-2147483648), 2147483647)])), .inl (0, 12, (-2147483648), 2147483647), .inl (0, 12, (-2147483648), 2147483647), .inl (0, 12, (-2147483648), 2147483647), .inl (0, 12, (-2147483648), 2147483647)]
def v_T1 : List v_Ct := [.inl (0, 12, (-2147483648), 2147483647), .inl (0, 12, (-2147483648), 2147483647), .inl (0, 5, (-2147483648), 2147483647), .inl (0, 5, (-2147483648), 2147483647), .inl (0, 6, (-2147483648), 2147483647), .inr (.inr (7, [.inl ((-2147483648), 2147483647), .inr (.inl 23), .inr (.inl 24), .inr (.inl 25), .inr (.inl 26), .inr (.inl 27), .inr (.inl 28), .inl ((-2147483648), 2147483647), .inr (.inl 29), .inr (.inl 30), .inr (.inl 31), .inl ((-2147483648), 2147483647), .inl ((-2147483648), 2147483647), .inl ((-2147483648), 2147483647), .inl ((-2147483648), 2147483647)])), .inl (0, 12, (-2147483648), 2147483647), .inl (0, 12, (-2147483648), 2147483647), .inl (0, 12, (-2147483648), 2147483647), .inl (0, 12, (-2147483648), 2147483647), .inl (0, 12, (-2147483648), 2147483647), .inl (0, 12, (-2147483648), 2147483647), .inl (0, 5, (-2147483648), 2147483647), .inl (0, 5, (-2147483648), 2147483647), .inl (0, 6, (-2147483648), 2147483647), .inl (0, 10, (-2147483648), 2147483647)]
def v_T2 : List v_Ct := [.inr (.inl [34, 36, 38, 40, 42, 44]), .inr (.inr (9, [.inr (.inl 35), .inl (0, 48), .inl ((-2147483648), 2147483647), .inl ((-2147483648), 2147483647), .inl ((-2147483648), 2147483647)])), .inl (0, 48, (-2147483648), 2147483647), .inr (.inr (9, [.inr (.inl 37), .inl (0, 48), .inl ((-2147483648), 2147483647), .inl ((-2147483648), 2147483647), .inl ((-2147483648), 2147483647)])), .inl (0, 48, (-2147483648), 2147483647), .inr (.inr (9, [.inr (.inl 39), .inl (0, 48), .inl ((-2147483648), 2147483647), .inl ((-2147483648), 2147483647), .inl ((-2147483648), 2147483647)])), .inl (0, 48, (-2147483648), 2147483647), .inr (.inr (9, [.inr (.inl 41), .inl (0, 48), .inl ((-2147483648), 2147483647), .inl ((-2147483648), 2147483647), .inl ((-2147483648), 2147483647)])), .inl (0, 48, (-2147483648), 2147483647), .inr (.inr (9, [.inr (.inl 43), .inl (0, 48), .inl ((-2147483648), 2147483647), .inl ((-2147483648), 2147483647), .inl ((-2147483648), 2147483647)])), .inl (0, 48, (-2147483648), 2147483647), .inr (.inr (9, [.inr (.inl 45), .inl (0, 48), .inl ((-2147483648), 2147483647), .inl ((-2147483648), 2147483647), .inl ((-2147483648), 2147483647)])), .inl (0, 48, (-2147483648), 2147483647), .inr (.inr (8, [.inr (.inl 47), .inl (0, 260)])), .inl (0, 260, (-2147483648), 2147483647), .inr (.inr (6, [.inr (.inl 49), .inr (.inl 50)]))]
def v_T3 : List v_Ct := [.inl (0, 10, 0, 1023), .inl (0, 10, (-2147483648), 2147483647), .inr (.inr (3, [.inr (.inl 33), .inr (.inl 52), .inr (.inr [53, 60, 68]), .inr (.inr [53, 60, 68])])), .inl (0, 15, (-2147483648), 2147483647), .inr (.inr (1, [.inr (.inl 54), .inr (.inl 55), .inr (.inl 56), .inr (.inl 57), .inr (.inl 58), .inr (.inl 59), .inl (0, 256), .inl (0, 16)])), .inl (0, 256, (-2147483648), 2147483647), .inl (0, 256, (-2147483648), 2147483647), .inl (0, 32, (-2147483648), 2147483647), .inl (0, 16, (-2147483648), 2147483647), .inl (0, 16, (-2147483648), 2147483647), .inl (0, 16, (-2147483648), 2147483647), .inr (.inr (1, [.inr (.inl 61), .inr (.inl 62), .inr (.inl 63), .inr (.inl 64), .inr (.inl 65), .inr (.inl 66), .inl (0, 256), .inl (0, 16)])), .inl (0, 256, (-2147483648), 2147483647), .inl (0, 256, (-2147483648), 2147483647), .inl (0, 32, (-2147483648), 2147483647), .inl (0, 16, (-2147483648), 2147483647)]
def v_T4 : List v_Ct := [.inl (0, 16, (-2147483648), 2147483647), .inl (0, 16, (-2147483648), 2147483647), .inr (.inr (5, [.inr (.inl 46), .inr (.inr [53, 60, 68]), .inr (.inl 75), .inl (0, 49), .inl ((-2147483648), 2147483647), .inl ((-2147483648), 2147483647), .inl ((-2147483648), 2147483647)])), .inr (.inr (1, [.inr (.inl 69), .inr (.inl 70), .inr (.inl 71), .inr (.inl 72), .inr (.inl 73), .inr (.inl 74), .inl (0, 256), .inl (0, 16)])), .inl (0, 256, (-2147483648), 2147483647), .inl (0, 256, (-2147483648), 2147483647), .inl (0, 32, (-2147483648), 2147483647), .inl (0, 16, (-2147483648), 2147483647), .inl (0, 16, (-2147483648), 2147483647), .inl (0, 16, (-2147483648), 2147483647), .inl (0, 49, (-2147483648), 2147483647), .inr (.inr (0, [.inr (.inl 33), .inr (.inl 51), .inr (.inl 48), .inl ((-2147483648), 2147483647), .inl ((-2147483648), 2147483647), .inl ((-2147483648), 2147483647), .inl ((-2147483648), 2147483647), .inl ((-2147483648), 2147483647)])), .inr (.inr (4, [.inr (.inl 33), .inr (.inl 51), .inr (.inl 78), .inr (.inl 79), .inl (0, 8), .inl (0, 8), .inr (.inl 80), .inr (.inl 81), .inr (.inl 82), .inr (.inl 83), .inr (.inl 84), .inr (.inl 85), .inl ((-2147483648), 2147483647), .inr (.inl 86)])), .inl (0, 8, 0, 11), .inl (0, 8, 0, 11), .inl (0, 8, (-2147483648), 2147483647)]
def v_T5 : List v_Ct := [.inl (0, 8, (-2147483648), 2147483647), .inl (0, 8, (-2147483648), 2147483647), .inl (0, 64, (-2147483648), 2147483647), .inl (0, 8, (-2147483648), 2147483647), .inl (0, 8, (-2147483648), 2147483647), .inl (0, 2048, (-2147483648), 2147483647), .inr (.inr (10, [.inl ((-2147483648), 2147483647), .inr (.inl 88), .inr (.inl 89), .inr (.inl 90), .inr (.inl 91), .inl (0, 6), .inr (.inl 92), .inr (.inl 93), .inr (.inl 94), .inl ((-2147483648), 2147483647), .inl ((-2147483648), 2147483647)])), .inl (0, 4, (-2147483648), 2147483647), .inl (0, 4, (-2147483648), 2147483647), .inl (0, 4, (-2147483648), 2147483647), .inl (0, 6, 0, 11), .inl (0, 7, (-2147483648), 2147483647), .inl (0, 6, (-2147483648), 2147483647), .inl (0, 6, (-2147483648), 2147483647), .inr (.inr (2, [.inl ((-2147483648), 2147483647), .inr (.inl 96), .inr (.inl 97), .inr (.inl 98), .inr (.inl 99)])), .inl (0, 5, (-2147483648), 2147483647)]
def v_T6 : List v_Ct := [.inl (0, 5, (-2147483648), 2147483647), .inl (0, 12, (-2147483648), 2147483647), .inl (0, 5, (-2147483648), 2147483647), .inr (.inr (12, [.inr (.inl 101), .inl (0, 260), .inl (0, 65535), .inl (0, 1000), .inl (0, 260), .inl ((-2147483648), 2147483647), .inl (0, 16), .inl (0, 240), .inl ((-2147483648), 2147483647), .inl (0, 240), .inr (.inl 102), .inr (.inl 103), .inr (.inl 104), .inr (.inl 105), .inr (.inl 106), .inr (.inl 107), .inl (0, 16), .inl (0, 12), .inr (.inl 108), .inr (.inl 109), .inr (.inl 110), .inr (.inl 111), .inr (.inl 112), .inr (.inl 113), .inl (0, 1), .inl (0, 1), .inr (.inl 114), .inl ((-2147483648), 2147483647), .inl ((-2147483648), 2147483647), .inl ((-2147483648), 2147483647), .inl ((-2147483648), 2147483647), .inl ((-2147483648), 2147483647), .inl ((-2147483648), 2147483647), .inl ((-2147483648), 2147483647), .inl ((-2147483648), 2147483647), .inl ((-2147483648), 2147483647), .inl ((-2147483648), 2147483647), .inl ((-2147483648), 2147483647), .inl ((-2147483648), 2147483647), .inl ((-2147483648), 2147483647), .inl ((-2147483648), 2147483647), .inr (.inl 115), .inr (.inl 116), .inr (.inl 117), .inr (.inl 118), .inr (.inl 119), .inr (.inl 120), .inr (.inl 121), .inr (.inl 122), .inr (.inl 123), .inr (.inl 124), .inr (.inl 125), .inr (.inl 126), .inr (.inl 127), .inr (.inl 128), .inr (.inl 129), .inr (.inl 130), .inr (.inl 131), .inr (.inl 132), .inr (.inl 133), .inl (0, 9999), .inl ((-2147483648), 2147483647), .inl ((-2147483648), 2147483647), .inr (.inl 134), .inl (0, 48), .inl (0, 2), .inl (0, 1), .inr (.inl 135), .inr (.inl 136), .inr (.inl 137), .inl ((-2147483648), 2147483647), .inl ((-2147483648), 2147483647), .inl ((-2147483648), 2147483647), .inl ((-2147483648), 2147483647), .inl ((-2147483648), 2147483647), .inl ((-2147483648), 2147483647), .inl ((-2147483648), 2147483647), .inr (.inl 138), .inr (.inl 139), .inr (.inl 140), .inr (.inl 141), .inr (.inl 142), .inr (.inl 143), .inr (.inl 144), .inr (.inl 145), .inr (.inl 146), .inr (.inl 147), .inr (.inl 148), .inr (.inl 149), .inr (.inl 150), .inr (.inl 151), .inr (.inl 152), .inl (0, 1), .inr (.inl 153), .inr (.inl 154), .inr (.inl 155), .inr (.inl 156), .inr (.inl 157), .inr (.inl 158), .inr (.inl 159), .inl ((-2147483648), 2147483647), .inl ((-2147483648), 2147483647), .inl ((-2147483648), 2147483647), .inl ((-2147483648), 2147483647), .inr (.inl 160), .inr (.inl 161), .inr (.inl 162), .inl (0, 10), .inr (.inl 163), .inr (.inl 164), .inr (.inl 165), .inr (.inl 166), .inr (.inl 167), .inr (.inl 168), .inr (.inl 169), .inr (.inl 170), .inr (.inl 171), .inr (.inl 172), .inr (.inl 173)])), .inl (1, 260, (-128), 127), .inl (0, 28, (-2147483648), 2147483647), .inl (0, 28, (-2147483648), 2147483647), .inl (0, 28, (-2147483648), 2147483647), .inl (0, 28, (-2147483648), 2147483647), .inl (0, 480, (-2147483648), 2147483647), .inl (0, 480, (-2147483648), 2147483647), .inl (0, 16, (-2147483648), 2147483647), .inl (0, 16, (-2147483648), 2147483647), .inl (0, 16, (-2147483648), 2147483647), .inl (0, 16, (-2147483648), 2147483647), .inl (0, 240, (-2147483648), 2147483647)]
def v_T7 : List v_Ct := [.inl (0, 240, (-2147483648), 2147483647), .inl (0, 240, (-2147483648), 2147483647), .inl (0, 240, (-2147483648), 2147483647), .inl (2, 240, 0, 1), .inl (2, 12, 0, 1), .inl (0, 12, (-2147483648), 2147483647), .inl (0, 12, (-1), 7), .inl (0, 12, (-2147483648), 2147483647), .inl (0, 12, 0, 5), .inl (0, 12, (-2147483648), 2147483647), .inl (0, 12, 0, 1023), .inl (0, 6, (-2147483648), 2147483647), .inl (0, 6, (-2147483648), 2147483647), .inl (0, 6, (-1), 4), .inl (0, 288, (-1), 9), .inl (0, 6, 0, 48)]
def v_T8 : List v_Ct := [.inl (0, 6, 0, 47), .inl (2, 5, 0, 1), .inl (0, 5, (-2147483648), 2147483647), .inl (0, 5, (-2147483648), 2147483647), .inl (0, 10, 0, 1023), .inl (0, 48, (-1), 9), .inl (0, 2, 0, 48), .inl (0, 2, 0, 9), .inl (0, 2, (-2147483648), 2147483647), .inl (2, 24, 0, 1), .inl (0, 24, (-2147483648), 2147483647), .inl (0, 24, (-1), 7), .inl (0, 24, (-2147483648), 2147483647), .inl (0, 24, 0, 5), .inl (0, 24, (-2147483648), 2147483647), .inl (0, 24, 0, 1023)]
def v_T9 : List v_Ct := [.inl (2, 10, 0, 1), .inl (0, 10, (-2147483648), 2147483647), .inl (0, 10, (-2147483648), 2147483647), .inl (0, 12, 0, 47), .inl (0, 2, 0, 9999), .inl (0, 2, (-2147483648), 2147483647), .inl (0, 2, (-2147483648), 2147483647), .inl (0, 2, 0, 65535), .inl (0, 12, 0, 11), .inl (0, 6, 0, 5), .inl (0, 8, 0, 4), .inl (0, 8, 0, 4), .inl (2, 4, 0, 1), .inl (0, 4, 0, 7), .inl (0, 4, (-2147483648), 2147483647), .inl (2, 10, 0, 1)]
def v_T10 : List v_Ct := [.inl (0, 10, (-2147483648), 2147483647), .inl (0, 10, 0, 9), .inl (2, 5, 0, 1), .inl (0, 5, (-2147483648), 2147483647), .inl (0, 5, (-2147483648), 2147483647), .inl (0, 5, (-1), 11), .inl (0, 12, 0, 31), .inl (0, 8, (-2147483648), 2147483647), .inl (0, 8, (-2147483648), 2147483647), .inl (0, 8, (-2147483648), 2147483647), .inl (0, 8, (-2147483648), 2147483647), .inl (0, 2048, (-2147483648), 2147483647), .inl (2, 64, 0, 1)]
def v_T : List (List v_Ct) := [v_T0, v_T1, v_T2, v_T3, v_T4, v_T5, v_T6, v_T7, v_T8, v_T9, v_T10]
noncomputable def v_ty (a : Nat) : Option v_Ct := match q_nth v_T (a / 16) with
  | some r => q_nth r (a % 16)
  | none => none
theorem v_T_len : ∀ i : Fin v_T.length, 16 * i.val + v_T[i].length ≤ v_N := by decide +kernel
theorem v_ty_lt (a : Nat) (t : v_Ct) (h : v_ty a = some t) : a < v_N := by
  unfold v_ty at h
  split at h
  · rename_i r hr
    rw [q_nth_eq] at hr h
    have h1 := (List.getElem?_eq_some_iff.mp hr).1
    have h2 := (List.getElem?_eq_some_iff.mp h).1
    have h3 := v_T_len ⟨a / 16, h1⟩
    have e : r = v_T[a / 16] := by
      rw [List.getElem?_eq_getElem h1] at hr
      exact (Option.some.inj hr).symm
    rw [e] at h2
    dsimp only at h3
    have h4 : v_T[(⟨a / 16, h1⟩ : Fin v_T.length)] = v_T[a / 16] := rfl
    rw [h4] at h3
    omega
  · cases h
def v_fz : List (Nat × Nat × Nat) := [(99, 16, 16), (99, 17, 17), (102, 0, 10000000000), (103, 0, 10000000000), (104, 0, 10000000000), (105, 0, 10000000000)]
noncomputable def v_frz (a lo hi : Nat) : Bool := v_hit v_fz a lo hi
theorem v_hit_jj : ∀ (m : List (Nat × Nat × Nat)) (a j : Nat), v_hit m a j j = v_md m a j j
  | [], _, _ => rfl
  | q :: m, a, j => by
    show (bif Nat.beq q.1 a && (Nat.ble q.2.1 j && Nat.ble j q.2.2) then true else v_hit m a j j) = (bif Nat.beq q.1 a && (Nat.ble q.2.1 j && Nat.ble j q.2.2) then true else v_md m a j j)
    rw [v_hit_jj m a j]
/-- a stretch of code that never asks for more than is on its stack -/
def v_seg (c : Nat → Int32) : Nat → Nat → Nat → Prop
  | 0, _, _ => True
  | n + 1, i, dep => if c i > 2 then 2 ≤ dep ∧ v_seg c n (i + 1) (dep - 1) else if c i = 2 then 1 ≤ dep ∧ v_seg c n (i + 1) dep else v_seg c n (i + 1) (dep + 1)
def v_stretch (c : Nat → Int32) (a b : Int32) : Prop := 0 ≤ a.toInt ∧ a.toInt ≤ b.toInt ∧ b.toInt ≤ 480 ∧ b.toInt - a.toInt ≤ 240 ∧ v_seg c (b.toInt - a.toInt).toNat a.toInt.toNat 0
def v_Op (S : v_Sf) : Prop := (∀ k : Nat, (k : Int) < (S 99 16).toInt → v_stretch (S 105) (S 102 k) (S 103 k) ∧ v_stretch (S 105) (S 103 k) (S 104 k) ∧ (S 104 k).toInt ≤ 240) ∧ (∀ k : Nat, (k : Int) < (S 99 17).toInt → v_stretch (S 105) (S 103 (16 + k)) (S 104 (16 + k)) ∧ 240 ≤ (S 103 (16 + k)).toInt)
theorem v_seg_c {c c' : Nat → Int32} : ∀ {n i dep : Nat}, (∀ j, i ≤ j → j < i + n → c' j = c j) → v_seg c n i dep → v_seg c' n i dep
  | 0, _, _, _, _ => trivial
  | n + 1, i, dep, h, hs => by
    unfold v_seg at hs ⊢
    rw [h i (Nat.le_refl _) (by omega)]
    split
    · rename_i h1
      rw [if_pos h1] at hs
      exact ⟨hs.1, v_seg_c (fun j h2 h3 => h j (by omega) (by omega)) hs.2⟩
    · rename_i h1
      rw [if_neg h1] at hs
      split
      · rename_i h2
        rw [if_pos h2] at hs
        exact ⟨hs.1, v_seg_c (fun j h2 h3 => h j (by omega) (by omega)) hs.2⟩
      · rename_i h2
        rw [if_neg h2] at hs
        exact v_seg_c (fun j h2 h3 => h j (by omega) (by omega)) hs
theorem v_stretch_c {c c' : Nat → Int32} {a b : Int32} (h : ∀ j, j < 480 → c' j = c j) (hs : v_stretch c a b) : v_stretch c' a b := by
  obtain ⟨h1, h2, h3, h4, h5⟩ := hs
  exact ⟨h1, h2, h3, h4, v_seg_c (fun j g1 g2 => h j (by omega)) h5⟩
theorem v_fz_ok : (∀ S S' : v_Sf, (∀ a j, v_frz a j j = true → S' a j = S a j) → v_Op S → v_Op S') ∧ (∀ a lo hi j, v_frz a lo hi = false → lo ≤ j → j ≤ hi → v_frz a j j = false) ∧ (∀ a t, v_ty a = some t → a < v_N) := by
  refine ⟨fun S S' h hO => ?_, fun a lo hi j h h1 h2 => ?_, v_ty_lt⟩
  · have row : ∀ a, v_md v_fz a 0 10000000000 = true → ∀ j, j ≤ 10000000000 → S' a j = S a j := fun a ha j hj => h a j (by unfold v_frz; rw [v_hit_jj]; exact v_md_mono ha (Nat.zero_le _) hj)
    have e1 : S' 99 16 = S 99 16 := h 99 16 (by decide +kernel)
    have e2 : S' 99 17 = S 99 17 := h 99 17 (by decide +kernel)
    have rc := row 105 (by decide +kernel)
    have r1 := row 102 (by decide +kernel)
    have r2 := row 103 (by decide +kernel)
    have r3 := row 104 (by decide +kernel)
    have bnd : ∀ x : Int32, x.toInt ≤ 2147483647 := fun x => (q_rng x).2
    refine ⟨fun k hk => ?_, fun k hk => ?_⟩
    · rw [e1] at hk
      have b := bnd (S 99 16)
      obtain ⟨g1, g2, g3⟩ := hO.1 k hk
      rw [r1 k (by omega), r2 k (by omega), r3 k (by omega)]
      exact ⟨v_stretch_c (fun j hj => rc j (by omega)) g1, v_stretch_c (fun j hj => rc j (by omega)) g2, g3⟩
    · rw [e2] at hk
      have b := bnd (S 99 17)
      obtain ⟨g1, g2⟩ := hO.2 k hk
      rw [r2 (16 + k) (by omega), r3 (16 + k) (by omega)]
      exact ⟨v_stretch_c (fun j hj => rc j (by omega)) g1, g2⟩
  · unfold v_frz at h ⊢
    rw [v_hit_jj]
    exact v_hit_md h h1 h2
