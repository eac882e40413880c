def D_X12_laysLessons_14  (H14 : Int32 → Int32 → Int32 → v_Sf → Prop) (H25 : Int32 → Int32 → Int32 → Int32 → v_Sf → Prop) (H95 : Int32 → Int32 → v_Sf → Prop) (H102 : Int32 → Int32 → Int32 → v_Sf → Prop) (K : Int32 → v_Sf → Prop) (x1 : Int32) (x3 : Int32) (x4 : Int32) (S : v_Sf) : Prop := ((x4 = 0 → (0 ≤ x1.toInt → x1.toInt < 12 → H95 x3 (S 122 x1.toInt.toNat) (z_s S 99 107 (Int32.ofInt 0)))) ∧ (¬ (x4 = 0) → H25 x1 x3 x3 (Int32.ofInt 0) S))
def D_X12_laysLessons_25  (H14 : Int32 → Int32 → Int32 → v_Sf → Prop) (H25 : Int32 → Int32 → Int32 → Int32 → v_Sf → Prop) (H95 : Int32 → Int32 → v_Sf → Prop) (H102 : Int32 → Int32 → Int32 → v_Sf → Prop) (K : Int32 → v_Sf → Prop) (x1 : Int32) (x3 : Int32) (x5 : Int32) (x6 : Int32) (S : v_Sf) : Prop := (((Int32.ofInt 10) ≤ x6 → ((x3 = x5 → H14 x1 x3 (Int32.ofInt 0) S) ∧ (¬ (x3 = x5) → H14 x1 x3 (Int32.ofInt 1) S))) ∧ (¬ ((Int32.ofInt 10) ≤ x6) → (((f_X12_has x3 x6) = 0 → H25 x1 x3 x5 (x6 + (Int32.ofInt 1)) S) ∧ (¬ ((f_X12_has x3 x6) = 0) → (0 ≤ x6.toInt → x6.toInt < 10 → (0 ≤ x1.toInt → x1.toInt < 12 → H25 x1 (x3 ||| ((S 132 x6.toInt.toNat) &&& ((S 122 x1.toInt.toNat) ^^^ (Int32.ofInt (-1))))) x5 (x6 + (Int32.ofInt 1)) S))))))
def D_X12_laysLessons_95  (H14 : Int32 → Int32 → Int32 → v_Sf → Prop) (H25 : Int32 → Int32 → Int32 → Int32 → v_Sf → Prop) (H95 : Int32 → Int32 → v_Sf → Prop) (H102 : Int32 → Int32 → Int32 → v_Sf → Prop) (K : Int32 → v_Sf → Prop) (x3 : Int32) (x5 : Int32) (S : v_Sf) : Prop := ((x3 = 0 → K (Int32.ofInt 1) S) ∧ (¬ (x3 = 0) → H102 x3 x5 (Int32.ofInt 0) S))
def D_X12_laysLessons_102  (H14 : Int32 → Int32 → Int32 → v_Sf → Prop) (H25 : Int32 → Int32 → Int32 → Int32 → v_Sf → Prop) (H95 : Int32 → Int32 → v_Sf → Prop) (H102 : Int32 → Int32 → Int32 → v_Sf → Prop) (K : Int32 → v_Sf → Prop) (x3 : Int32) (x5 : Int32) (x6 : Int32) (S : v_Sf) : Prop := (((Int32.ofInt 10) ≤ x6 → (((¬ x6 = (Int32.ofInt 10)) → (0 ≤ (S 99 107).toInt → (S 99 107).toInt < 10 → H95 (x3 &&& (((Int32.ofInt 1) <<< (x6 &&& 31)) ^^^ (Int32.ofInt (-1)))) (x5 ||| ((Int32.ofInt 1) <<< (x6 &&& 31))) (z_s (z_s S 161 ((S 99 107).toInt.toNat) x6) 99 107 ((S 99 107) + (Int32.ofInt 1))))) ∧ (¬ (¬ x6 = (Int32.ofInt 10)) → K (Int32.ofInt 0) S))) ∧ (¬ ((Int32.ofInt 10) ≤ x6) → (((f_X12_has x3 x6) = 0 → H102 x3 x5 (x6 + (Int32.ofInt 1)) S) ∧ (¬ ((f_X12_has x3 x6) = 0) → (0 ≤ x6.toInt → x6.toInt < 10 → ((((S 132 x6.toInt.toNat) &&& (x5 ^^^ (Int32.ofInt (-1)))) = 0 → (((¬ x6 = (Int32.ofInt 10)) → (0 ≤ (S 99 107).toInt → (S 99 107).toInt < 10 → H95 (x3 &&& (((Int32.ofInt 1) <<< (x6 &&& 31)) ^^^ (Int32.ofInt (-1)))) (x5 ||| ((Int32.ofInt 1) <<< (x6 &&& 31))) (z_s (z_s S 161 ((S 99 107).toInt.toNat) x6) 99 107 ((S 99 107) + (Int32.ofInt 1))))) ∧ (¬ (¬ x6 = (Int32.ofInt 10)) → K (Int32.ofInt 0) S))) ∧ (¬ (((S 132 x6.toInt.toNat) &&& (x5 ^^^ (Int32.ofInt (-1)))) = 0) → H102 x3 x5 (x6 + (Int32.ofInt 1)) S)))))))
def D_X12_laysLessons (a : Int32) (b : Int32) (H14 : Int32 → Int32 → Int32 → v_Sf → Prop) (H25 : Int32 → Int32 → Int32 → Int32 → v_Sf → Prop) (H95 : Int32 → Int32 → v_Sf → Prop) (H102 : Int32 → Int32 → Int32 → v_Sf → Prop) (K : Int32 → v_Sf → Prop) (S : v_Sf) : Prop := (0 ≤ a.toInt → a.toInt < 12 → H14 a (b &&& ((S 122 a.toInt.toNat) ^^^ (Int32.ofInt (-1)))) (Int32.ofInt 1) S)
set_option maxRecDepth 4000 in
theorem hd_X12_laysLessons (L : Nat) (xs : Nat → Int32) {R : v_Rf} (a : Int32) (b : Int32) (H14 : Int32 → Int32 → Int32 → v_Sf → Prop) (H25 : Int32 → Int32 → Int32 → Int32 → v_Sf → Prop) (H95 : Int32 → Int32 → v_Sf → Prop) (H102 : Int32 → Int32 → Int32 → v_Sf → Prop) (K : Int32 → v_Sf → Prop) (k14 : ∀ (x1 : Int32) (x3 : Int32) (x4 : Int32) (S : v_Sf), H14 x1 x3 x4 S → D_X12_laysLessons_14 H14 H25 H95 H102 K x1 x3 x4 S) (k25 : ∀ (x1 : Int32) (x3 : Int32) (x5 : Int32) (x6 : Int32) (S : v_Sf), H25 x1 x3 x5 x6 S → D_X12_laysLessons_25 H14 H25 H95 H102 K x1 x3 x5 x6 S) (k95 : ∀ (x3 : Int32) (x5 : Int32) (S : v_Sf), H95 x3 x5 S → D_X12_laysLessons_95 H14 H25 H95 H102 K x3 x5 S) (k102 : ∀ (x3 : Int32) (x5 : Int32) (x6 : Int32) (S : v_Sf), H102 x3 x5 x6 S → D_X12_laysLessons_102 H14 H25 H95 H102 K x3 x5 x6 S) : ∀ n, (∀ (d : Nat) (j2 : Int32) (x1 : Int32) (x3 : Int32) (x4 : Int32) (S : v_Sf), H14 x1 x3 x4 S → u_P L xs n d m_X12_laysLessons 14 [(0, .ref 100), (1, .int x1), (2, .int j2), (3, .int x3), (4, .int x4)] [] S R (z_Q R K)) ∧ (∀ (d : Nat) (j2 : Int32) (j5 : Int32) (j6 : Int32) (x1 : Int32) (x3 : Int32) (x4 : Int32) (S : v_Sf), H14 x1 x3 x4 S → u_P L xs n d m_X12_laysLessons 14 [(0, .ref 100), (1, .int x1), (2, .int j2), (3, .int x3), (4, .int x4), (5, .int j5), (6, .int j6)] [] S R (z_Q R K)) ∧ (∀ (d : Nat) (j2 : Int32) (j4 : Int32) (x1 : Int32) (x3 : Int32) (x5 : Int32) (x6 : Int32) (S : v_Sf), H25 x1 x3 x5 x6 S → u_P L xs n d m_X12_laysLessons 25 [(0, .ref 100), (1, .int x1), (2, .int j2), (3, .int x3), (4, .int j4), (5, .int x5), (6, .int x6)] [] S R (z_Q R K)) ∧ (∀ (d : Nat) (j1 : Int32) (j2 : Int32) (j4 : Int32) (x3 : Int32) (x5 : Int32) (S : v_Sf), H95 x3 x5 S → u_P L xs n d m_X12_laysLessons 95 [(0, .ref 100), (1, .int j1), (2, .int j2), (3, .int x3), (4, .int j4), (5, .int x5)] [] S R (z_Q R K)) ∧ (∀ (d : Nat) (j1 : Int32) (j2 : Int32) (j4 : Int32) (j6 : Int32) (x3 : Int32) (x5 : Int32) (S : v_Sf), H95 x3 x5 S → u_P L xs n d m_X12_laysLessons 95 [(0, .ref 100), (1, .int j1), (2, .int j2), (3, .int x3), (4, .int j4), (5, .int x5), (6, .int j6)] [] S R (z_Q R K)) ∧ (∀ (d : Nat) (j1 : Int32) (j2 : Int32) (j4 : Int32) (x3 : Int32) (x5 : Int32) (x6 : Int32) (S : v_Sf), H102 x3 x5 x6 S → u_P L xs n d m_X12_laysLessons 102 [(0, .ref 100), (1, .int j1), (2, .int j2), (3, .int x3), (4, .int j4), (5, .int x5), (6, .int x6)] [] S R (z_Q R K)) := by
  intro n
  induction n using Nat.strongRecOn with
  | ind n ih =>
    refine ⟨?_, ?_, ?_, ?_, ?_, ?_⟩
    · intro d j2 x1 x3 x4 S hD
      have hD := k14 x1 x3 x4 S hD
      unfold D_X12_laysLessons_14 at hD
      show u_P L xs n d m_X12_laysLessons 14 [(0, .ref 100), (1, .int x1), (2, .int j2), (3, .int x3), (4, .int x4)] [] S R _
      refine u_st1 rfl (fun _ => rfl) (fun m hm => ?_)
      show u_P L xs m d m_X12_laysLessons 16 [(0, .ref 100), (1, .int x1), (2, .int j2), (3, .int x3), (4, .int x4)] [.int x4] S R _
      refine u_if_eq rfl (fun h1 => ?_) (fun h1 => ?_)
      · have hD := hD.1 h1
        show u_P L xs m d m_X12_laysLessons 82 [(0, .ref 100), (1, .int x1), (2, .int j2), (3, .int x3), (4, .int x4)] [] S R _
        refine u_st rfl (fun _ => rfl) ?_
        refine u_st rfl (fun _ => rfl) ?_
        show u_P L xs m d m_X12_laysLessons 84 [(0, .ref 100), (1, .int x1), (2, .int j2), (3, .int x3), (4, .int x4)] [.int (Int32.ofInt 0), .ref 100] S R _
        refine u_put rfl v_tyM rfl ?_
        refine u_st rfl (fun _ => rfl) ?_
        show u_P L xs m d m_X12_laysLessons 88 [(0, .ref 100), (1, .int x1), (2, .int j2), (3, .int x3), (4, .int x4)] [.ref 100] (z_s S 99 107 (Int32.ofInt 0)) R _
        refine u_getr rfl v_tyM rfl ?_
        refine u_st rfl (fun _ => rfl) ?_
        show u_P L xs m d m_X12_laysLessons 92 [(0, .ref 100), (1, .int x1), (2, .int j2), (3, .int x3), (4, .int x4)] [.int x1, .ref 123] (z_s S 99 107 (Int32.ofInt 0)) R _
        refine u_ialdE (v := S 122 x1.toInt.toNat) rfl rfl (z_sn (fun h => absurd h.1 (by decide))) (fun b21 b22 => ?_)
        have hD := hD b21 b22
        show u_P L xs m d m_X12_laysLessons 93 [(0, .ref 100), (1, .int x1), (2, .int j2), (3, .int x3), (4, .int x4)] [.int (S 122 x1.toInt.toNat)] (z_s S 99 107 (Int32.ofInt 0)) R _
        refine u_st rfl (fun _ => rfl) ?_
        refine u_lc (b := [(0, .ref 100), (1, .int x1), (2, .int j2), (3, .int x3), (4, .int x4), (5, .int (S 122 x1.toInt.toNat))]) (show ([5, 0, 1, 2, 3, 4] : List Nat).Nodup by decide) (show ([0, 1, 2, 3, 4, 5] : List Nat).Nodup by decide) (fun i => match i with | 0 => rfl | 1 => rfl | 2 => rfl | 3 => rfl | 4 => rfl | 5 => rfl | _ + 6 => rfl) ?_
        exact (ih m hm).2.2.2.1 d x1 j2 x4 x3 (S 122 x1.toInt.toNat) (z_s S 99 107 (Int32.ofInt 0)) hD
      · have hD := hD.2 h1
        show u_P L xs m d m_X12_laysLessons 19 [(0, .ref 100), (1, .int x1), (2, .int j2), (3, .int x3), (4, .int x4)] [] S R _
        refine u_st rfl (fun _ => rfl) ?_
        refine u_st rfl (fun _ => rfl) ?_
        refine u_st rfl (fun _ => rfl) ?_
        refine u_st rfl (fun _ => rfl) ?_
        refine u_lc (b := [(0, .ref 100), (1, .int x1), (2, .int j2), (3, .int x3), (4, .int x4), (5, .int x3), (6, .int (Int32.ofInt 0))]) (show ([6, 5, 0, 1, 2, 3, 4] : List Nat).Nodup by decide) (show ([0, 1, 2, 3, 4, 5, 6] : List Nat).Nodup by decide) (fun i => match i with | 0 => rfl | 1 => rfl | 2 => rfl | 3 => rfl | 4 => rfl | 5 => rfl | 6 => rfl | _ + 7 => rfl) ?_
        exact (ih m hm).2.2.1 d j2 x4 x1 x3 x3 (Int32.ofInt 0) S hD
    · intro d j2 j5 j6 x1 x3 x4 S hD
      have hD := k14 x1 x3 x4 S hD
      unfold D_X12_laysLessons_14 at hD
      show u_P L xs n d m_X12_laysLessons 14 [(0, .ref 100), (1, .int x1), (2, .int j2), (3, .int x3), (4, .int x4), (5, .int j5), (6, .int j6)] [] S R _
      refine u_st1 rfl (fun _ => rfl) (fun m hm => ?_)
      show u_P L xs m d m_X12_laysLessons 16 [(0, .ref 100), (1, .int x1), (2, .int j2), (3, .int x3), (4, .int x4), (5, .int j5), (6, .int j6)] [.int x4] S R _
      refine u_if_eq rfl (fun h1 => ?_) (fun h1 => ?_)
      · have hD := hD.1 h1
        show u_P L xs m d m_X12_laysLessons 82 [(0, .ref 100), (1, .int x1), (2, .int j2), (3, .int x3), (4, .int x4), (5, .int j5), (6, .int j6)] [] S R _
        refine u_st rfl (fun _ => rfl) ?_
        refine u_st rfl (fun _ => rfl) ?_
        show u_P L xs m d m_X12_laysLessons 84 [(0, .ref 100), (1, .int x1), (2, .int j2), (3, .int x3), (4, .int x4), (5, .int j5), (6, .int j6)] [.int (Int32.ofInt 0), .ref 100] S R _
        refine u_put rfl v_tyM rfl ?_
        refine u_st rfl (fun _ => rfl) ?_
        show u_P L xs m d m_X12_laysLessons 88 [(0, .ref 100), (1, .int x1), (2, .int j2), (3, .int x3), (4, .int x4), (5, .int j5), (6, .int j6)] [.ref 100] (z_s S 99 107 (Int32.ofInt 0)) R _
        refine u_getr rfl v_tyM rfl ?_
        refine u_st rfl (fun _ => rfl) ?_
        show u_P L xs m d m_X12_laysLessons 92 [(0, .ref 100), (1, .int x1), (2, .int j2), (3, .int x3), (4, .int x4), (5, .int j5), (6, .int j6)] [.int x1, .ref 123] (z_s S 99 107 (Int32.ofInt 0)) R _
        refine u_ialdE (v := S 122 x1.toInt.toNat) rfl rfl (z_sn (fun h => absurd h.1 (by decide))) (fun b21 b22 => ?_)
        have hD := hD b21 b22
        show u_P L xs m d m_X12_laysLessons 93 [(0, .ref 100), (1, .int x1), (2, .int j2), (3, .int x3), (4, .int x4), (5, .int j5), (6, .int j6)] [.int (S 122 x1.toInt.toNat)] (z_s S 99 107 (Int32.ofInt 0)) R _
        refine u_st rfl (fun _ => rfl) ?_
        refine u_lc (b := [(0, .ref 100), (1, .int x1), (2, .int j2), (3, .int x3), (4, .int x4), (5, .int (S 122 x1.toInt.toNat)), (6, .int j6)]) (show ([5, 0, 1, 2, 3, 4, 6] : List Nat).Nodup by decide) (show ([0, 1, 2, 3, 4, 5, 6] : List Nat).Nodup by decide) (fun i => match i with | 0 => rfl | 1 => rfl | 2 => rfl | 3 => rfl | 4 => rfl | 5 => rfl | 6 => rfl | _ + 7 => rfl) ?_
        exact (ih m hm).2.2.2.2.1 d x1 j2 x4 j6 x3 (S 122 x1.toInt.toNat) (z_s S 99 107 (Int32.ofInt 0)) hD
      · have hD := hD.2 h1
        show u_P L xs m d m_X12_laysLessons 19 [(0, .ref 100), (1, .int x1), (2, .int j2), (3, .int x3), (4, .int x4), (5, .int j5), (6, .int j6)] [] S R _
        refine u_st rfl (fun _ => rfl) ?_
        refine u_st rfl (fun _ => rfl) ?_
        refine u_st rfl (fun _ => rfl) ?_
        refine u_st rfl (fun _ => rfl) ?_
        refine u_lc (b := [(0, .ref 100), (1, .int x1), (2, .int j2), (3, .int x3), (4, .int x4), (5, .int x3), (6, .int (Int32.ofInt 0))]) (show ([6, 5, 0, 1, 2, 3, 4] : List Nat).Nodup by decide) (show ([0, 1, 2, 3, 4, 5, 6] : List Nat).Nodup by decide) (fun i => match i with | 0 => rfl | 1 => rfl | 2 => rfl | 3 => rfl | 4 => rfl | 5 => rfl | 6 => rfl | _ + 7 => rfl) ?_
        exact (ih m hm).2.2.1 d j2 x4 x1 x3 x3 (Int32.ofInt 0) S hD
    · intro d j2 j4 x1 x3 x5 x6 S hD
      have hD := k25 x1 x3 x5 x6 S hD
      unfold D_X12_laysLessons_25 at hD
      show u_P L xs n d m_X12_laysLessons 25 [(0, .ref 100), (1, .int x1), (2, .int j2), (3, .int x3), (4, .int j4), (5, .int x5), (6, .int x6)] [] S R _
      refine u_st1 rfl (fun _ => rfl) (fun m hm => ?_)
      refine u_st rfl (fun _ => rfl) ?_
      show u_P L xs m d m_X12_laysLessons 29 [(0, .ref 100), (1, .int x1), (2, .int j2), (3, .int x3), (4, .int j4), (5, .int x5), (6, .int x6)] [.int (Int32.ofInt 10), .int x6] S R _
      refine u_ic_ge rfl (fun h1 => ?_) (fun h1 => ?_)
      · have hD := hD.1 h1
        show u_P L xs m d m_X12_laysLessons 66 [(0, .ref 100), (1, .int x1), (2, .int j2), (3, .int x3), (4, .int j4), (5, .int x5), (6, .int x6)] [] S R _
        refine u_st rfl (fun _ => rfl) ?_
        refine u_st rfl (fun _ => rfl) ?_
        show u_P L xs m d m_X12_laysLessons 69 [(0, .ref 100), (1, .int x1), (2, .int j2), (3, .int x3), (4, .int j4), (5, .int x5), (6, .int x6)] [.int x5, .int x3] S R _
        refine u_ic_eq rfl (fun h2 => ?_) (fun h2 => ?_)
        · have hD := hD.1 h2
          show u_P L xs m d m_X12_laysLessons 76 [(0, .ref 100), (1, .int x1), (2, .int j2), (3, .int x3), (4, .int j4), (5, .int x5), (6, .int x6)] [] S R _
          refine u_st rfl (fun _ => rfl) ?_
          refine u_st rfl (fun _ => rfl) ?_
          refine u_st rfl (fun _ => rfl) ?_
          refine u_lc (b := [(0, .ref 100), (1, .int x1), (2, .int j2), (3, .int x3), (4, .int (Int32.ofInt 0)), (5, .int x5), (6, .int x6)]) (show ([4, 0, 1, 2, 3, 5, 6] : List Nat).Nodup by decide) (show ([0, 1, 2, 3, 4, 5, 6] : List Nat).Nodup by decide) (fun i => match i with | 0 => rfl | 1 => rfl | 2 => rfl | 3 => rfl | 4 => rfl | 5 => rfl | 6 => rfl | _ + 7 => rfl) ?_
          exact (ih m hm).2.1 d j2 x5 x6 x1 x3 (Int32.ofInt 0) S hD
        · have hD := hD.2 h2
          show u_P L xs m d m_X12_laysLessons 72 [(0, .ref 100), (1, .int x1), (2, .int j2), (3, .int x3), (4, .int j4), (5, .int x5), (6, .int x6)] [] S R _
          refine u_st rfl (fun _ => rfl) ?_
          refine u_st rfl (fun _ => rfl) ?_
          refine u_st rfl (fun _ => rfl) ?_
          refine u_st rfl (fun _ => rfl) ?_
          refine u_lc (b := [(0, .ref 100), (1, .int x1), (2, .int j2), (3, .int x3), (4, .int (Int32.ofInt 1)), (5, .int x5), (6, .int x6)]) (show ([4, 0, 1, 2, 3, 5, 6] : List Nat).Nodup by decide) (show ([0, 1, 2, 3, 4, 5, 6] : List Nat).Nodup by decide) (fun i => match i with | 0 => rfl | 1 => rfl | 2 => rfl | 3 => rfl | 4 => rfl | 5 => rfl | 6 => rfl | _ + 7 => rfl) ?_
          exact (ih m hm).2.1 d j2 x5 x6 x1 x3 (Int32.ofInt 1) S hD
      · have hD := hD.2 h1
        show u_P L xs m d m_X12_laysLessons 32 [(0, .ref 100), (1, .int x1), (2, .int j2), (3, .int x3), (4, .int j4), (5, .int x5), (6, .int x6)] [] S R _
        refine u_st rfl (fun _ => rfl) ?_
        refine u_st rfl (fun _ => rfl) ?_
        show u_P L xs m d m_X12_laysLessons 35 [(0, .ref 100), (1, .int x1), (2, .int j2), (3, .int x3), (4, .int j4), (5, .int x5), (6, .int x6)] [.int x6, .int x3] S R _
        refine u_cs (ac := [.int x3, .int x6]) (rest := []) rfl (by decide) mt_X12_has (fun _ => rfl) (Nat.le_of_ble_eq_true rfl) (Nat.le_of_ble_eq_true rfl) (fun d' => c_X12_has L xs m d' x3 x6 S R) ?_
        rintro _ _ _ ⟨_, rfl, rfl, rfl, rfl⟩
        show u_P L xs m d m_X12_laysLessons 38 [(0, .ref 100), (1, .int x1), (2, .int j2), (3, .int x3), (4, .int j4), (5, .int x5), (6, .int x6)] [.int (f_X12_has x3 x6)] S R _
        refine u_if_eq rfl (fun h3 => ?_) (fun h3 => ?_)
        · have hD := hD.1 h3
          show u_P L xs m d m_X12_laysLessons 60 [(0, .ref 100), (1, .int x1), (2, .int j2), (3, .int x3), (4, .int j4), (5, .int x5), (6, .int x6)] [] S R _
          refine u_st rfl (fun _ => rfl) ?_
          refine u_st rfl (fun _ => rfl) ?_
          refine u_lc (b := [(0, .ref 100), (1, .int x1), (2, .int j2), (3, .int x3), (4, .int j4), (5, .int x5), (6, .int (x6 + (Int32.ofInt 1)))]) (show ([6, 0, 1, 2, 3, 4, 5] : List Nat).Nodup by decide) (show ([0, 1, 2, 3, 4, 5, 6] : List Nat).Nodup by decide) (fun i => match i with | 0 => rfl | 1 => rfl | 2 => rfl | 3 => rfl | 4 => rfl | 5 => rfl | 6 => rfl | _ + 7 => rfl) ?_
          exact (ih m hm).2.2.1 d j2 j4 x1 x3 x5 (x6 + (Int32.ofInt 1)) S hD
        · have hD := hD.2 h3
          show u_P L xs m d m_X12_laysLessons 41 [(0, .ref 100), (1, .int x1), (2, .int j2), (3, .int x3), (4, .int j4), (5, .int x5), (6, .int x6)] [] S R _
          refine u_st rfl (fun _ => rfl) ?_
          refine u_st rfl (fun _ => rfl) ?_
          show u_P L xs m d m_X12_laysLessons 43 [(0, .ref 100), (1, .int x1), (2, .int j2), (3, .int x3), (4, .int j4), (5, .int x5), (6, .int x6)] [.ref 100, .int x3] S R _
          refine u_getr rfl v_tyM rfl ?_
          refine u_st rfl (fun _ => rfl) ?_
          show u_P L xs m d m_X12_laysLessons 48 [(0, .ref 100), (1, .int x1), (2, .int j2), (3, .int x3), (4, .int j4), (5, .int x5), (6, .int x6)] [.int x6, .ref 133, .int x3] S R _
          refine u_ialdE (v := S 132 x6.toInt.toNat) rfl rfl rfl (fun b41 b42 => ?_)
          have hD := hD b41 b42
          show u_P L xs m d m_X12_laysLessons 49 [(0, .ref 100), (1, .int x1), (2, .int j2), (3, .int x3), (4, .int j4), (5, .int x5), (6, .int x6)] [.int (S 132 x6.toInt.toNat), .int x3] S R _
          refine u_st rfl (fun _ => rfl) ?_
          show u_P L xs m d m_X12_laysLessons 50 [(0, .ref 100), (1, .int x1), (2, .int j2), (3, .int x3), (4, .int j4), (5, .int x5), (6, .int x6)] [.ref 100, .int (S 132 x6.toInt.toNat), .int x3] S R _
          refine u_getr rfl v_tyM rfl ?_
          refine u_st rfl (fun _ => rfl) ?_
          show u_P L xs m d m_X12_laysLessons 54 [(0, .ref 100), (1, .int x1), (2, .int j2), (3, .int x3), (4, .int j4), (5, .int x5), (6, .int x6)] [.int x1, .ref 123, .int (S 132 x6.toInt.toNat), .int x3] S R _
          refine u_ialdE (v := S 122 x1.toInt.toNat) rfl rfl rfl (fun b51 b52 => ?_)
          have hD := hD b51 b52
          show u_P L xs m d m_X12_laysLessons 55 [(0, .ref 100), (1, .int x1), (2, .int j2), (3, .int x3), (4, .int j4), (5, .int x5), (6, .int x6)] [.int (S 122 x1.toInt.toNat), .int (S 132 x6.toInt.toNat), .int x3] S R _
          refine u_st rfl (fun _ => rfl) ?_
          refine u_st rfl (fun _ => rfl) ?_
          refine u_st rfl (fun _ => rfl) ?_
          refine u_st rfl (fun _ => rfl) ?_
          refine u_st rfl (fun _ => rfl) ?_
          refine u_st rfl (fun _ => rfl) ?_
          refine u_st rfl (fun _ => rfl) ?_
          refine u_lc (b := [(0, .ref 100), (1, .int x1), (2, .int j2), (3, .int (x3 ||| ((S 132 x6.toInt.toNat) &&& ((S 122 x1.toInt.toNat) ^^^ (Int32.ofInt (-1)))))), (4, .int j4), (5, .int x5), (6, .int (x6 + (Int32.ofInt 1)))]) (show ([6, 3, 0, 1, 2, 4, 5] : List Nat).Nodup by decide) (show ([0, 1, 2, 3, 4, 5, 6] : List Nat).Nodup by decide) (fun i => match i with | 0 => rfl | 1 => rfl | 2 => rfl | 3 => rfl | 4 => rfl | 5 => rfl | 6 => rfl | _ + 7 => rfl) ?_
          exact (ih m hm).2.2.1 d j2 j4 x1 (x3 ||| ((S 132 x6.toInt.toNat) &&& ((S 122 x1.toInt.toNat) ^^^ (Int32.ofInt (-1))))) x5 (x6 + (Int32.ofInt 1)) S hD
    · intro d j1 j2 j4 x3 x5 S hD
      have hD := k95 x3 x5 S hD
      unfold D_X12_laysLessons_95 at hD
      show u_P L xs n d m_X12_laysLessons 95 [(0, .ref 100), (1, .int j1), (2, .int j2), (3, .int x3), (4, .int j4), (5, .int x5)] [] S R _
      refine u_st1 rfl (fun _ => rfl) (fun m hm => ?_)
      show u_P L xs m d m_X12_laysLessons 96 [(0, .ref 100), (1, .int j1), (2, .int j2), (3, .int x3), (4, .int j4), (5, .int x5)] [.int x3] S R _
      refine u_if_eq rfl (fun h1 => ?_) (fun h1 => ?_)
      · have hD := hD.1 h1
        show u_P L xs m d m_X12_laysLessons 190 [(0, .ref 100), (1, .int j1), (2, .int j2), (3, .int x3), (4, .int j4), (5, .int x5)] [] S R _
        refine u_st rfl (fun _ => rfl) ?_
        show u_P L xs m d m_X12_laysLessons 191 [(0, .ref 100), (1, .int j1), (2, .int j2), (3, .int x3), (4, .int j4), (5, .int x5)] [.int (Int32.ofInt 1)] S R _
        exact u_retb rfl rfl ⟨_, rfl, rfl, hD⟩
      · have hD := hD.2 h1
        show u_P L xs m d m_X12_laysLessons 99 [(0, .ref 100), (1, .int j1), (2, .int j2), (3, .int x3), (4, .int j4), (5, .int x5)] [] S R _
        refine u_st rfl (fun _ => rfl) ?_
        refine u_st rfl (fun _ => rfl) ?_
        refine u_lc (b := [(0, .ref 100), (1, .int j1), (2, .int j2), (3, .int x3), (4, .int j4), (5, .int x5), (6, .int (Int32.ofInt 0))]) (show ([6, 0, 1, 2, 3, 4, 5] : List Nat).Nodup by decide) (show ([0, 1, 2, 3, 4, 5, 6] : List Nat).Nodup by decide) (fun i => match i with | 0 => rfl | 1 => rfl | 2 => rfl | 3 => rfl | 4 => rfl | 5 => rfl | 6 => rfl | _ + 7 => rfl) ?_
        exact (ih m hm).2.2.2.2.2 d j1 j2 j4 x3 x5 (Int32.ofInt 0) S hD
    · intro d j1 j2 j4 j6 x3 x5 S hD
      have hD := k95 x3 x5 S hD
      unfold D_X12_laysLessons_95 at hD
      show u_P L xs n d m_X12_laysLessons 95 [(0, .ref 100), (1, .int j1), (2, .int j2), (3, .int x3), (4, .int j4), (5, .int x5), (6, .int j6)] [] S R _
      refine u_st1 rfl (fun _ => rfl) (fun m hm => ?_)
      show u_P L xs m d m_X12_laysLessons 96 [(0, .ref 100), (1, .int j1), (2, .int j2), (3, .int x3), (4, .int j4), (5, .int x5), (6, .int j6)] [.int x3] S R _
      refine u_if_eq rfl (fun h1 => ?_) (fun h1 => ?_)
      · have hD := hD.1 h1
        show u_P L xs m d m_X12_laysLessons 190 [(0, .ref 100), (1, .int j1), (2, .int j2), (3, .int x3), (4, .int j4), (5, .int x5), (6, .int j6)] [] S R _
        refine u_st rfl (fun _ => rfl) ?_
        show u_P L xs m d m_X12_laysLessons 191 [(0, .ref 100), (1, .int j1), (2, .int j2), (3, .int x3), (4, .int j4), (5, .int x5), (6, .int j6)] [.int (Int32.ofInt 1)] S R _
        exact u_retb rfl rfl ⟨_, rfl, rfl, hD⟩
      · have hD := hD.2 h1
        show u_P L xs m d m_X12_laysLessons 99 [(0, .ref 100), (1, .int j1), (2, .int j2), (3, .int x3), (4, .int j4), (5, .int x5), (6, .int j6)] [] S R _
        refine u_st rfl (fun _ => rfl) ?_
        refine u_st rfl (fun _ => rfl) ?_
        refine u_lc (b := [(0, .ref 100), (1, .int j1), (2, .int j2), (3, .int x3), (4, .int j4), (5, .int x5), (6, .int (Int32.ofInt 0))]) (show ([6, 0, 1, 2, 3, 4, 5] : List Nat).Nodup by decide) (show ([0, 1, 2, 3, 4, 5, 6] : List Nat).Nodup by decide) (fun i => match i with | 0 => rfl | 1 => rfl | 2 => rfl | 3 => rfl | 4 => rfl | 5 => rfl | 6 => rfl | _ + 7 => rfl) ?_
        exact (ih m hm).2.2.2.2.2 d j1 j2 j4 x3 x5 (Int32.ofInt 0) S hD
    · intro d j1 j2 j4 x3 x5 x6 S hD
      have hD := k102 x3 x5 x6 S hD
      unfold D_X12_laysLessons_102 at hD
      show u_P L xs n d m_X12_laysLessons 102 [(0, .ref 100), (1, .int j1), (2, .int j2), (3, .int x3), (4, .int j4), (5, .int x5), (6, .int x6)] [] S R _
      refine u_st1 rfl (fun _ => rfl) (fun m hm => ?_)
      refine u_st rfl (fun _ => rfl) ?_
      show u_P L xs m d m_X12_laysLessons 106 [(0, .ref 100), (1, .int j1), (2, .int j2), (3, .int x3), (4, .int j4), (5, .int x5), (6, .int x6)] [.int (Int32.ofInt 10), .int x6] S R _
      refine u_ic_ge rfl (fun h1 => ?_) (fun h1 => ?_)
      · have hD := hD.1 h1
        show u_P L xs m d m_X12_laysLessons 139 [(0, .ref 100), (1, .int j1), (2, .int j2), (3, .int x3), (4, .int j4), (5, .int x5), (6, .int x6)] [] S R _
        refine u_st rfl (fun _ => rfl) ?_
        refine u_st rfl (fun _ => rfl) ?_
        show u_P L xs m d m_X12_laysLessons 143 [(0, .ref 100), (1, .int j1), (2, .int j2), (3, .int x3), (4, .int j4), (5, .int x5), (6, .int x6)] [.int (Int32.ofInt 10), .int x6] S R _
        refine u_ic_ne rfl (fun h2 => ?_) (fun h2 => ?_)
        · have hD := hD.1 h2
          show u_P L xs m d m_X12_laysLessons 148 [(0, .ref 100), (1, .int j1), (2, .int j2), (3, .int x3), (4, .int j4), (5, .int x5), (6, .int x6)] [] S R _
          refine u_st rfl (fun _ => rfl) ?_
          show u_P L xs m d m_X12_laysLessons 149 [(0, .ref 100), (1, .int j1), (2, .int j2), (3, .int x3), (4, .int j4), (5, .int x5), (6, .int x6)] [.ref 100] S R _
          refine u_getr rfl v_tyM rfl ?_
          refine u_st rfl (fun _ => rfl) ?_
          show u_P L xs m d m_X12_laysLessons 153 [(0, .ref 100), (1, .int j1), (2, .int j2), (3, .int x3), (4, .int j4), (5, .int x5), (6, .int x6)] [.ref 100, .ref 162] S R _
          refine u_getE (v := S 99 107) rfl v_tyM rfl rfl ?_
          refine u_st rfl (fun _ => rfl) ?_
          show u_P L xs m d m_X12_laysLessons 158 [(0, .ref 100), (1, .int j1), (2, .int j2), (3, .int x3), (4, .int j4), (5, .int x5), (6, .int x6)] [.int x6, .int (S 99 107), .ref 162] S R _
          refine u_iast rfl rfl (fun b31 b32 => ?_)
          have hD := hD b31 b32
          show u_P L xs m d m_X12_laysLessons 159 [(0, .ref 100), (1, .int j1), (2, .int j2), (3, .int x3), (4, .int j4), (5, .int x5), (6, .int x6)] [] (z_s S 161 ((S 99 107).toInt.toNat) x6) R _
          refine u_st rfl (fun _ => rfl) ?_
          refine u_st rfl (fun _ => rfl) ?_
          show u_P L xs m d m_X12_laysLessons 161 [(0, .ref 100), (1, .int j1), (2, .int j2), (3, .int x3), (4, .int j4), (5, .int x5), (6, .int x6)] [.ref 100, .ref 100] (z_s S 161 ((S 99 107).toInt.toNat) x6) R _
          refine u_getE (v := S 99 107) rfl v_tyM rfl (z_sn (fun h => absurd h.1 (by decide))) ?_
          refine u_st rfl (fun _ => rfl) ?_
          refine u_st rfl (fun _ => rfl) ?_
          show u_P L xs m d m_X12_laysLessons 166 [(0, .ref 100), (1, .int j1), (2, .int j2), (3, .int x3), (4, .int j4), (5, .int x5), (6, .int x6)] [.int ((S 99 107) + (Int32.ofInt 1)), .ref 100] (z_s S 161 ((S 99 107).toInt.toNat) x6) R _
          refine u_put rfl v_tyM rfl ?_
          refine u_st rfl (fun _ => rfl) ?_
          refine u_st rfl (fun _ => rfl) ?_
          refine u_st rfl (fun _ => rfl) ?_
          refine u_st rfl (fun _ => rfl) ?_
          refine u_st rfl (fun _ => rfl) ?_
          refine u_st rfl (fun _ => rfl) ?_
          refine u_st rfl (fun _ => rfl) ?_
          refine u_st rfl (fun _ => rfl) ?_
          refine u_st rfl (fun _ => rfl) ?_
          refine u_st rfl (fun _ => rfl) ?_
          refine u_st rfl (fun _ => rfl) ?_
          refine u_st rfl (fun _ => rfl) ?_
          refine u_st rfl (fun _ => rfl) ?_
          refine u_st rfl (fun _ => rfl) ?_
          refine u_st rfl (fun _ => rfl) ?_
          refine u_lc (b := [(0, .ref 100), (1, .int j1), (2, .int j2), (3, .int (x3 &&& (((Int32.ofInt 1) <<< (x6 &&& 31)) ^^^ (Int32.ofInt (-1))))), (4, .int j4), (5, .int (x5 ||| ((Int32.ofInt 1) <<< (x6 &&& 31)))), (6, .int x6)]) (show ([3, 5, 0, 1, 2, 4, 6] : List Nat).Nodup by decide) (show ([0, 1, 2, 3, 4, 5, 6] : List Nat).Nodup by decide) (fun i => match i with | 0 => rfl | 1 => rfl | 2 => rfl | 3 => rfl | 4 => rfl | 5 => rfl | 6 => rfl | _ + 7 => rfl) ?_
          exact (ih m hm).2.2.2.2.1 d j1 j2 j4 x6 (x3 &&& (((Int32.ofInt 1) <<< (x6 &&& 31)) ^^^ (Int32.ofInt (-1)))) (x5 ||| ((Int32.ofInt 1) <<< (x6 &&& 31))) (z_s (z_s S 161 ((S 99 107).toInt.toNat) x6) 99 107 ((S 99 107) + (Int32.ofInt 1))) hD
        · have hD := hD.2 h2
          show u_P L xs m d m_X12_laysLessons 146 [(0, .ref 100), (1, .int j1), (2, .int j2), (3, .int x3), (4, .int j4), (5, .int x5), (6, .int x6)] [] S R _
          refine u_st rfl (fun _ => rfl) ?_
          show u_P L xs m d m_X12_laysLessons 147 [(0, .ref 100), (1, .int j1), (2, .int j2), (3, .int x3), (4, .int j4), (5, .int x5), (6, .int x6)] [.int (Int32.ofInt 0)] S R _
          exact u_retb rfl rfl ⟨_, rfl, rfl, hD⟩
      · have hD := hD.2 h1
        show u_P L xs m d m_X12_laysLessons 109 [(0, .ref 100), (1, .int j1), (2, .int j2), (3, .int x3), (4, .int j4), (5, .int x5), (6, .int x6)] [] S R _
        refine u_st rfl (fun _ => rfl) ?_
        refine u_st rfl (fun _ => rfl) ?_
        show u_P L xs m d m_X12_laysLessons 112 [(0, .ref 100), (1, .int j1), (2, .int j2), (3, .int x3), (4, .int j4), (5, .int x5), (6, .int x6)] [.int x6, .int x3] S R _
        refine u_cs (ac := [.int x3, .int x6]) (rest := []) rfl (by decide) mt_X12_has (fun _ => rfl) (Nat.le_of_ble_eq_true rfl) (Nat.le_of_ble_eq_true rfl) (fun d' => c_X12_has L xs m d' x3 x6 S R) ?_
        rintro _ _ _ ⟨_, rfl, rfl, rfl, rfl⟩
        show u_P L xs m d m_X12_laysLessons 115 [(0, .ref 100), (1, .int j1), (2, .int j2), (3, .int x3), (4, .int j4), (5, .int x5), (6, .int x6)] [.int (f_X12_has x3 x6)] S R _
        refine u_if_eq rfl (fun h4 => ?_) (fun h4 => ?_)
        · have hD := hD.1 h4
          show u_P L xs m d m_X12_laysLessons 133 [(0, .ref 100), (1, .int j1), (2, .int j2), (3, .int x3), (4, .int j4), (5, .int x5), (6, .int x6)] [] S R _
          refine u_st rfl (fun _ => rfl) ?_
          refine u_st rfl (fun _ => rfl) ?_
          refine u_lc (b := [(0, .ref 100), (1, .int j1), (2, .int j2), (3, .int x3), (4, .int j4), (5, .int x5), (6, .int (x6 + (Int32.ofInt 1)))]) (show ([6, 0, 1, 2, 3, 4, 5] : List Nat).Nodup by decide) (show ([0, 1, 2, 3, 4, 5, 6] : List Nat).Nodup by decide) (fun i => match i with | 0 => rfl | 1 => rfl | 2 => rfl | 3 => rfl | 4 => rfl | 5 => rfl | 6 => rfl | _ + 7 => rfl) ?_
          exact (ih m hm).2.2.2.2.2 d j1 j2 j4 x3 x5 (x6 + (Int32.ofInt 1)) S hD
        · have hD := hD.2 h4
          show u_P L xs m d m_X12_laysLessons 118 [(0, .ref 100), (1, .int j1), (2, .int j2), (3, .int x3), (4, .int j4), (5, .int x5), (6, .int x6)] [] S R _
          refine u_st rfl (fun _ => rfl) ?_
          show u_P L xs m d m_X12_laysLessons 119 [(0, .ref 100), (1, .int j1), (2, .int j2), (3, .int x3), (4, .int j4), (5, .int x5), (6, .int x6)] [.ref 100] S R _
          refine u_getr rfl v_tyM rfl ?_
          refine u_st rfl (fun _ => rfl) ?_
          show u_P L xs m d m_X12_laysLessons 124 [(0, .ref 100), (1, .int j1), (2, .int j2), (3, .int x3), (4, .int j4), (5, .int x5), (6, .int x6)] [.int x6, .ref 133] S R _
          refine u_ialdE (v := S 132 x6.toInt.toNat) rfl rfl rfl (fun b51 b52 => ?_)
          have hD := hD b51 b52
          show u_P L xs m d m_X12_laysLessons 125 [(0, .ref 100), (1, .int j1), (2, .int j2), (3, .int x3), (4, .int j4), (5, .int x5), (6, .int x6)] [.int (S 132 x6.toInt.toNat)] S R _
          refine u_st rfl (fun _ => rfl) ?_
          refine u_st rfl (fun _ => rfl) ?_
          refine u_st rfl (fun _ => rfl) ?_
          refine u_st rfl (fun _ => rfl) ?_
          show u_P L xs m d m_X12_laysLessons 130 [(0, .ref 100), (1, .int j1), (2, .int j2), (3, .int x3), (4, .int j4), (5, .int x5), (6, .int x6)] [.int ((S 132 x6.toInt.toNat) &&& (x5 ^^^ (Int32.ofInt (-1))))] S R _
          refine u_if_eq rfl (fun h6 => ?_) (fun h6 => ?_)
          · have hD := hD.1 h6
            show u_P L xs m d m_X12_laysLessons 139 [(0, .ref 100), (1, .int j1), (2, .int j2), (3, .int x3), (4, .int j4), (5, .int x5), (6, .int x6)] [] S R _
            refine u_st rfl (fun _ => rfl) ?_
            refine u_st rfl (fun _ => rfl) ?_
            show u_P L xs m d m_X12_laysLessons 143 [(0, .ref 100), (1, .int j1), (2, .int j2), (3, .int x3), (4, .int j4), (5, .int x5), (6, .int x6)] [.int (Int32.ofInt 10), .int x6] S R _
            refine u_ic_ne rfl (fun h7 => ?_) (fun h7 => ?_)
            · have hD := hD.1 h7
              show u_P L xs m d m_X12_laysLessons 148 [(0, .ref 100), (1, .int j1), (2, .int j2), (3, .int x3), (4, .int j4), (5, .int x5), (6, .int x6)] [] S R _
              refine u_st rfl (fun _ => rfl) ?_
              show u_P L xs m d m_X12_laysLessons 149 [(0, .ref 100), (1, .int j1), (2, .int j2), (3, .int x3), (4, .int j4), (5, .int x5), (6, .int x6)] [.ref 100] S R _
              refine u_getr rfl v_tyM rfl ?_
              refine u_st rfl (fun _ => rfl) ?_
              show u_P L xs m d m_X12_laysLessons 153 [(0, .ref 100), (1, .int j1), (2, .int j2), (3, .int x3), (4, .int j4), (5, .int x5), (6, .int x6)] [.ref 100, .ref 162] S R _
              refine u_getE (v := S 99 107) rfl v_tyM rfl rfl ?_
              refine u_st rfl (fun _ => rfl) ?_
              show u_P L xs m d m_X12_laysLessons 158 [(0, .ref 100), (1, .int j1), (2, .int j2), (3, .int x3), (4, .int j4), (5, .int x5), (6, .int x6)] [.int x6, .int (S 99 107), .ref 162] S R _
              refine u_iast rfl rfl (fun b81 b82 => ?_)
              have hD := hD b81 b82
              show u_P L xs m d m_X12_laysLessons 159 [(0, .ref 100), (1, .int j1), (2, .int j2), (3, .int x3), (4, .int j4), (5, .int x5), (6, .int x6)] [] (z_s S 161 ((S 99 107).toInt.toNat) x6) R _
              refine u_st rfl (fun _ => rfl) ?_
              refine u_st rfl (fun _ => rfl) ?_
              show u_P L xs m d m_X12_laysLessons 161 [(0, .ref 100), (1, .int j1), (2, .int j2), (3, .int x3), (4, .int j4), (5, .int x5), (6, .int x6)] [.ref 100, .ref 100] (z_s S 161 ((S 99 107).toInt.toNat) x6) R _
              refine u_getE (v := S 99 107) rfl v_tyM rfl (z_sn (fun h => absurd h.1 (by decide))) ?_
              refine u_st rfl (fun _ => rfl) ?_
              refine u_st rfl (fun _ => rfl) ?_
              show u_P L xs m d m_X12_laysLessons 166 [(0, .ref 100), (1, .int j1), (2, .int j2), (3, .int x3), (4, .int j4), (5, .int x5), (6, .int x6)] [.int ((S 99 107) + (Int32.ofInt 1)), .ref 100] (z_s S 161 ((S 99 107).toInt.toNat) x6) R _
              refine u_put rfl v_tyM rfl ?_
              refine u_st rfl (fun _ => rfl) ?_
              refine u_st rfl (fun _ => rfl) ?_
              refine u_st rfl (fun _ => rfl) ?_
              refine u_st rfl (fun _ => rfl) ?_
              refine u_st rfl (fun _ => rfl) ?_
              refine u_st rfl (fun _ => rfl) ?_
              refine u_st rfl (fun _ => rfl) ?_
              refine u_st rfl (fun _ => rfl) ?_
              refine u_st rfl (fun _ => rfl) ?_
              refine u_st rfl (fun _ => rfl) ?_
              refine u_st rfl (fun _ => rfl) ?_
              refine u_st rfl (fun _ => rfl) ?_
              refine u_st rfl (fun _ => rfl) ?_
              refine u_st rfl (fun _ => rfl) ?_
              refine u_st rfl (fun _ => rfl) ?_
              refine u_lc (b := [(0, .ref 100), (1, .int j1), (2, .int j2), (3, .int (x3 &&& (((Int32.ofInt 1) <<< (x6 &&& 31)) ^^^ (Int32.ofInt (-1))))), (4, .int j4), (5, .int (x5 ||| ((Int32.ofInt 1) <<< (x6 &&& 31)))), (6, .int x6)]) (show ([3, 5, 0, 1, 2, 4, 6] : List Nat).Nodup by decide) (show ([0, 1, 2, 3, 4, 5, 6] : List Nat).Nodup by decide) (fun i => match i with | 0 => rfl | 1 => rfl | 2 => rfl | 3 => rfl | 4 => rfl | 5 => rfl | 6 => rfl | _ + 7 => rfl) ?_
              exact (ih m hm).2.2.2.2.1 d j1 j2 j4 x6 (x3 &&& (((Int32.ofInt 1) <<< (x6 &&& 31)) ^^^ (Int32.ofInt (-1)))) (x5 ||| ((Int32.ofInt 1) <<< (x6 &&& 31))) (z_s (z_s S 161 ((S 99 107).toInt.toNat) x6) 99 107 ((S 99 107) + (Int32.ofInt 1))) hD
            · have hD := hD.2 h7
              show u_P L xs m d m_X12_laysLessons 146 [(0, .ref 100), (1, .int j1), (2, .int j2), (3, .int x3), (4, .int j4), (5, .int x5), (6, .int x6)] [] S R _
              refine u_st rfl (fun _ => rfl) ?_
              show u_P L xs m d m_X12_laysLessons 147 [(0, .ref 100), (1, .int j1), (2, .int j2), (3, .int x3), (4, .int j4), (5, .int x5), (6, .int x6)] [.int (Int32.ofInt 0)] S R _
              exact u_retb rfl rfl ⟨_, rfl, rfl, hD⟩
          · have hD := hD.2 h6
            show u_P L xs m d m_X12_laysLessons 133 [(0, .ref 100), (1, .int j1), (2, .int j2), (3, .int x3), (4, .int j4), (5, .int x5), (6, .int x6)] [] S R _
            refine u_st rfl (fun _ => rfl) ?_
            refine u_st rfl (fun _ => rfl) ?_
            refine u_lc (b := [(0, .ref 100), (1, .int j1), (2, .int j2), (3, .int x3), (4, .int j4), (5, .int x5), (6, .int (x6 + (Int32.ofInt 1)))]) (show ([6, 0, 1, 2, 3, 4, 5] : List Nat).Nodup by decide) (show ([0, 1, 2, 3, 4, 5, 6] : List Nat).Nodup by decide) (fun i => match i with | 0 => rfl | 1 => rfl | 2 => rfl | 3 => rfl | 4 => rfl | 5 => rfl | 6 => rfl | _ + 7 => rfl) ?_
            exact (ih m hm).2.2.2.2.2 d j1 j2 j4 x3 x5 (x6 + (Int32.ofInt 1)) S hD
set_option maxRecDepth 4000 in
theorem w_X12_laysLessons (L : Nat) (xs : Nat → Int32) {R : v_Rf} (a : Int32) (b : Int32) (H14 : Int32 → Int32 → Int32 → v_Sf → Prop) (H25 : Int32 → Int32 → Int32 → Int32 → v_Sf → Prop) (H95 : Int32 → Int32 → v_Sf → Prop) (H102 : Int32 → Int32 → Int32 → v_Sf → Prop) (K : Int32 → v_Sf → Prop) (k14 : ∀ (x1 : Int32) (x3 : Int32) (x4 : Int32) (S : v_Sf), H14 x1 x3 x4 S → D_X12_laysLessons_14 H14 H25 H95 H102 K x1 x3 x4 S) (k25 : ∀ (x1 : Int32) (x3 : Int32) (x5 : Int32) (x6 : Int32) (S : v_Sf), H25 x1 x3 x5 x6 S → D_X12_laysLessons_25 H14 H25 H95 H102 K x1 x3 x5 x6 S) (k95 : ∀ (x3 : Int32) (x5 : Int32) (S : v_Sf), H95 x3 x5 S → D_X12_laysLessons_95 H14 H25 H95 H102 K x3 x5 S) (k102 : ∀ (x3 : Int32) (x5 : Int32) (x6 : Int32) (S : v_Sf), H102 x3 x5 x6 S → D_X12_laysLessons_102 H14 H25 H95 H102 K x3 x5 x6 S) (n d : Nat) (S : v_Sf) (hD : D_X12_laysLessons a b H14 H25 H95 H102 K S) : u_P L xs n d m_X12_laysLessons 0 (lv_args 0 [.ref 100, .int a, .int b]) [] S R (z_Q R K) := by
  unfold D_X12_laysLessons at hD
  show u_P L xs n d m_X12_laysLessons 0 [(0, .ref 100), (1, .int a), (2, .int b)] [] S R _
  refine u_st rfl (fun _ => rfl) ?_
  refine u_st rfl (fun _ => rfl) ?_
  show u_P L xs n d m_X12_laysLessons 2 [(0, .ref 100), (1, .int a), (2, .int b)] [.ref 100, .int b] S R _
  refine u_getr rfl v_tyM rfl ?_
  refine u_st rfl (fun _ => rfl) ?_
  show u_P L xs n d m_X12_laysLessons 6 [(0, .ref 100), (1, .int a), (2, .int b)] [.int a, .ref 123, .int b] S R _
  refine u_ialdE (v := S 122 a.toInt.toNat) rfl rfl rfl (fun b11 b12 => ?_)
  have hD := hD b11 b12
  show u_P L xs n d m_X12_laysLessons 7 [(0, .ref 100), (1, .int a), (2, .int b)] [.int (S 122 a.toInt.toNat), .int b] S R _
  refine u_st rfl (fun _ => rfl) ?_
  refine u_st rfl (fun _ => rfl) ?_
  refine u_st rfl (fun _ => rfl) ?_
  refine u_st rfl (fun _ => rfl) ?_
  refine u_st rfl (fun _ => rfl) ?_
  refine u_st rfl (fun _ => rfl) ?_
  refine u_lc (b := [(0, .ref 100), (1, .int a), (2, .int b), (3, .int (b &&& ((S 122 a.toInt.toNat) ^^^ (Int32.ofInt (-1))))), (4, .int (Int32.ofInt 1))]) (show ([4, 3, 0, 1, 2] : List Nat).Nodup by decide) (show ([0, 1, 2, 3, 4] : List Nat).Nodup by decide) (fun i => match i with | 0 => rfl | 1 => rfl | 2 => rfl | 3 => rfl | 4 => rfl | _ + 5 => rfl) ?_
  exact (hd_X12_laysLessons L xs a b H14 H25 H95 H102 K k14 k25 k95 k102 n).1 d b a (b &&& ((S 122 a.toInt.toNat) ^^^ (Int32.ofInt (-1)))) (Int32.ofInt 1) S hD
