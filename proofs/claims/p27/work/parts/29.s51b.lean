noncomputable def D_X12_laysPlaces_2  (H2 : Int32 → Int32 → v_Sf → Prop) (H22 : Int32 → Int32 → v_Sf → Prop) (H47 : Int32 → Int32 → v_Sf → Prop) (H55 : Int32 → Int32 → Int32 → v_Sf → Prop) (K : v_Sf → Prop) (x1 : Int32) (x2 : Int32) (S : v_Sf) : Prop := (((Int32.ofInt 5) ≤ x2 → H22 x1 (Int32.ofInt 0) S) ∧ (¬ ((Int32.ofInt 5) ≤ x2) → (0 ≤ x2.toInt → x2.toInt < 5 → H2 x1 (x2 + (Int32.ofInt 1)) (z_s S 165 x2.toInt.toNat (Int32.ofInt (-1))))))
noncomputable def D_X12_laysPlaces_22  (H2 : Int32 → Int32 → v_Sf → Prop) (H22 : Int32 → Int32 → v_Sf → Prop) (H47 : Int32 → Int32 → v_Sf → Prop) (H55 : Int32 → Int32 → Int32 → v_Sf → Prop) (K : v_Sf → Prop) (x1 : Int32) (x2 : Int32) (S : v_Sf) : Prop := ((x1 ≤ x2 → H47 x1 (Int32.ofInt 1) S) ∧ (¬ (x1 ≤ x2) → (0 ≤ x2.toInt → x2.toInt < 12 → (0 ≤ (S 152 x2.toInt.toNat).toInt → (S 152 x2.toInt.toNat).toInt < 12 → H22 x1 (x2 + (Int32.ofInt 1)) (z_s S 166 ((S 152 x2.toInt.toNat).toInt.toNat) (Int32.ofInt 0))))))
noncomputable def D_X12_laysPlaces_47  (H2 : Int32 → Int32 → v_Sf → Prop) (H22 : Int32 → Int32 → v_Sf → Prop) (H47 : Int32 → Int32 → v_Sf → Prop) (H55 : Int32 → Int32 → Int32 → v_Sf → Prop) (K : v_Sf → Prop) (x1 : Int32) (x2 : Int32) (S : v_Sf) : Prop := ((x2 = 0 → K S) ∧ (¬ (x2 = 0) → H55 x1 (Int32.ofInt 0) (Int32.ofInt 0) S))
noncomputable def D_X12_laysPlaces_55  (H2 : Int32 → Int32 → v_Sf → Prop) (H22 : Int32 → Int32 → v_Sf → Prop) (H47 : Int32 → Int32 → v_Sf → Prop) (H55 : Int32 → Int32 → Int32 → v_Sf → Prop) (K : v_Sf → Prop) (x1 : Int32) (x2 : Int32) (x3 : Int32) (S : v_Sf) : Prop := ((x1 ≤ x3 → H47 x1 x2 S) ∧ (¬ (x1 ≤ x3) → (0 ≤ x3.toInt → x3.toInt < 12 → (((f_X12_isAnywhere (S 152 x3.toInt.toNat) S) = 0 → (((¬ (f_X12_asksNext (S 152 x3.toInt.toNat) S) = (Int32.ofInt (-1))) → (0 ≤ (S 152 x3.toInt.toNat).toInt → (S 152 x3.toInt.toNat).toInt < 12 → (0 ≤ (S 152 x3.toInt.toNat).toInt → (S 152 x3.toInt.toNat).toInt < 12 → (0 ≤ (f_X12_asksNext (S 152 x3.toInt.toNat) S).toInt → (f_X12_asksNext (S 152 x3.toInt.toNat) S).toInt < 5 → (((f_X12_isLiked (f_X12_asksNext (S 152 x3.toInt.toNat) S) (S 152 x3.toInt.toNat) (S 165 ((f_X12_asksNext (S 152 x3.toInt.toNat) S).toInt.toNat)) (z_s S 166 ((S 152 x3.toInt.toNat).toInt.toNat) ((S 166 ((S 152 x3.toInt.toNat).toInt.toNat)) ||| ((Int32.ofInt 1) <<< ((f_X12_asksNext (S 152 x3.toInt.toNat) S) &&& 31))))) = 0 → H55 x1 (Int32.ofInt 1) (x3 + (Int32.ofInt 1)) (z_s S 166 ((S 152 x3.toInt.toNat).toInt.toNat) ((S 166 ((S 152 x3.toInt.toNat).toInt.toNat)) ||| ((Int32.ofInt 1) <<< ((f_X12_asksNext (S 152 x3.toInt.toNat) S) &&& 31))))) ∧ (¬ ((f_X12_isLiked (f_X12_asksNext (S 152 x3.toInt.toNat) S) (S 152 x3.toInt.toNat) (S 165 ((f_X12_asksNext (S 152 x3.toInt.toNat) S).toInt.toNat)) (z_s S 166 ((S 152 x3.toInt.toNat).toInt.toNat) ((S 166 ((S 152 x3.toInt.toNat).toInt.toNat)) ||| ((Int32.ofInt 1) <<< ((f_X12_asksNext (S 152 x3.toInt.toNat) S) &&& 31))))) = 0) → (0 ≤ (f_X12_asksNext (S 152 x3.toInt.toNat) S).toInt → (f_X12_asksNext (S 152 x3.toInt.toNat) S).toInt < 5 → H55 x1 (Int32.ofInt 1) (x3 + (Int32.ofInt 1)) (z_s (z_s S 166 ((S 152 x3.toInt.toNat).toInt.toNat) ((S 166 ((S 152 x3.toInt.toNat).toInt.toNat)) ||| ((Int32.ofInt 1) <<< ((f_X12_asksNext (S 152 x3.toInt.toNat) S) &&& 31)))) 165 ((f_X12_asksNext (S 152 x3.toInt.toNat) S).toInt.toNat) (S 152 x3.toInt.toNat))))))))) ∧ (¬ (¬ (f_X12_asksNext (S 152 x3.toInt.toNat) S) = (Int32.ofInt (-1))) → H55 x1 x2 (x3 + (Int32.ofInt 1)) S))) ∧ (¬ ((f_X12_isAnywhere (S 152 x3.toInt.toNat) S) = 0) → H55 x1 x2 (x3 + (Int32.ofInt 1)) S)))))
noncomputable def D_X12_laysPlaces (a : Int32) (H2 : Int32 → Int32 → v_Sf → Prop) (H22 : Int32 → Int32 → v_Sf → Prop) (H47 : Int32 → Int32 → v_Sf → Prop) (H55 : Int32 → Int32 → Int32 → v_Sf → Prop) (K : v_Sf → Prop) (S : v_Sf) : Prop := H2 a (Int32.ofInt 0) S
set_option maxRecDepth 4000 in
theorem hd_X12_laysPlaces (L : Nat) (xs : Nat → Int32) {R : v_Rf} (a : Int32) (H2 : Int32 → Int32 → v_Sf → Prop) (H22 : Int32 → Int32 → v_Sf → Prop) (H47 : Int32 → Int32 → v_Sf → Prop) (H55 : Int32 → Int32 → Int32 → v_Sf → Prop) (K : v_Sf → Prop) (k2 : ∀ (x1 : Int32) (x2 : Int32) (S : v_Sf), H2 x1 x2 S → D_X12_laysPlaces_2 H2 H22 H47 H55 K x1 x2 S) (k22 : ∀ (x1 : Int32) (x2 : Int32) (S : v_Sf), H22 x1 x2 S → D_X12_laysPlaces_22 H2 H22 H47 H55 K x1 x2 S) (k47 : ∀ (x1 : Int32) (x2 : Int32) (S : v_Sf), H47 x1 x2 S → D_X12_laysPlaces_47 H2 H22 H47 H55 K x1 x2 S) (k55 : ∀ (x1 : Int32) (x2 : Int32) (x3 : Int32) (S : v_Sf), H55 x1 x2 x3 S → D_X12_laysPlaces_55 H2 H22 H47 H55 K x1 x2 x3 S) : ∀ n, (∀ (d : Nat) (x1 : Int32) (x2 : Int32) (S : v_Sf), H2 x1 x2 S → u_P L xs n d m_X12_laysPlaces 2 [(0, .ref 100), (1, .int x1), (2, .int x2)] [] S R (z_V R K)) ∧ (∀ (d : Nat) (x1 : Int32) (x2 : Int32) (S : v_Sf), H22 x1 x2 S → u_P L xs n d m_X12_laysPlaces 22 [(0, .ref 100), (1, .int x1), (2, .int x2)] [] S R (z_V R K)) ∧ (∀ (d : Nat) (x1 : Int32) (x2 : Int32) (S : v_Sf), H47 x1 x2 S → u_P L xs n d m_X12_laysPlaces 47 [(0, .ref 100), (1, .int x1), (2, .int x2)] [] S R (z_V R K)) ∧ (∀ (d : Nat) (j3 : Int32) (x1 : Int32) (x2 : Int32) (S : v_Sf), H47 x1 x2 S → u_P L xs n d m_X12_laysPlaces 47 [(0, .ref 100), (1, .int x1), (2, .int x2), (3, .int j3)] [] S R (z_V R K)) ∧ (∀ (d : Nat) (j3 : Int32) (j4 : Int32) (j5 : Int32) (x1 : Int32) (x2 : Int32) (S : v_Sf), H47 x1 x2 S → u_P L xs n d m_X12_laysPlaces 47 [(0, .ref 100), (1, .int x1), (2, .int x2), (3, .int j3), (4, .int j4), (5, .int j5)] [] S R (z_V R K)) ∧ (∀ (d : Nat) (x1 : Int32) (x2 : Int32) (x3 : Int32) (S : v_Sf), H55 x1 x2 x3 S → u_P L xs n d m_X12_laysPlaces 55 [(0, .ref 100), (1, .int x1), (2, .int x2), (3, .int x3)] [] S R (z_V R K)) ∧ (∀ (d : Nat) (j4 : Int32) (j5 : Int32) (x1 : Int32) (x2 : Int32) (x3 : Int32) (S : v_Sf), H55 x1 x2 x3 S → u_P L xs n d m_X12_laysPlaces 55 [(0, .ref 100), (1, .int x1), (2, .int x2), (3, .int x3), (4, .int j4), (5, .int j5)] [] S R (z_V R K)) := by
  intro n
  induction n using Nat.strongRecOn with
  | ind n ih =>
    refine ⟨?_, ?_, ?_, ?_, ?_, ?_, ?_⟩
    · intro d x1 x2 S hD
      have hD := k2 x1 x2 S hD
      unfold D_X12_laysPlaces_2 at hD
      show u_P L xs n d m_X12_laysPlaces 2 [(0, .ref 100), (1, .int x1), (2, .int x2)] [] S R _
      refine u_st1 rfl (fun _ => rfl) (fun m hm => ?_)
      refine u_st rfl (fun _ => rfl) ?_
      show u_P L xs m d m_X12_laysPlaces 4 [(0, .ref 100), (1, .int x1), (2, .int x2)] [.int (Int32.ofInt 5), .int x2] S R _
      refine u_ic_ge rfl (fun h1 => ?_) (fun h1 => ?_)
      · have hD := hD.1 h1
        show u_P L xs m d m_X12_laysPlaces 20 [(0, .ref 100), (1, .int x1), (2, .int x2)] [] S R _
        refine u_st rfl (fun _ => rfl) ?_
        refine u_st rfl (fun _ => rfl) ?_
        refine u_lc (b := [(0, .ref 100), (1, .int x1), (2, .int (Int32.ofInt 0))]) (show ([2, 0, 1] : List Nat).Nodup by decide) (show ([0, 1, 2] : List Nat).Nodup by decide) (fun i => match i with | 0 => rfl | 1 => rfl | 2 => rfl | _ + 3 => rfl) ?_
        exact (ih m hm).2.1 d x1 (Int32.ofInt 0) S hD
      · have hD := hD.2 h1
        show u_P L xs m d m_X12_laysPlaces 7 [(0, .ref 100), (1, .int x1), (2, .int x2)] [] S R _
        refine u_st rfl (fun _ => rfl) ?_
        show u_P L xs m d m_X12_laysPlaces 8 [(0, .ref 100), (1, .int x1), (2, .int x2)] [.ref 100] S R _
        refine u_getr rfl v_tyM rfl ?_
        refine u_st rfl (fun _ => rfl) ?_
        refine u_st rfl (fun _ => rfl) ?_
        show u_P L xs m d m_X12_laysPlaces 13 [(0, .ref 100), (1, .int x1), (2, .int x2)] [.int (Int32.ofInt (-1)), .int x2, .ref 166] S R _
        refine u_iast rfl rfl (fun b21 b22 => ?_)
        have hD := hD b21 b22
        show u_P L xs m d m_X12_laysPlaces 14 [(0, .ref 100), (1, .int x1), (2, .int x2)] [] (z_s S 165 x2.toInt.toNat (Int32.ofInt (-1))) R _
        refine u_st rfl (fun _ => rfl) ?_
        refine u_st rfl (fun _ => rfl) ?_
        refine u_lc (b := [(0, .ref 100), (1, .int x1), (2, .int (x2 + (Int32.ofInt 1)))]) (show ([2, 0, 1] : List Nat).Nodup by decide) (show ([0, 1, 2] : List Nat).Nodup by decide) (fun i => match i with | 0 => rfl | 1 => rfl | 2 => rfl | _ + 3 => rfl) ?_
        exact (ih m hm).1 d x1 (x2 + (Int32.ofInt 1)) (z_s S 165 x2.toInt.toNat (Int32.ofInt (-1))) hD
    · intro d x1 x2 S hD
      have hD := k22 x1 x2 S hD
      unfold D_X12_laysPlaces_22 at hD
      show u_P L xs n d m_X12_laysPlaces 22 [(0, .ref 100), (1, .int x1), (2, .int x2)] [] S R _
      refine u_st1 rfl (fun _ => rfl) (fun m hm => ?_)
      refine u_st rfl (fun _ => rfl) ?_
      show u_P L xs m d m_X12_laysPlaces 24 [(0, .ref 100), (1, .int x1), (2, .int x2)] [.int x1, .int x2] S R _
      refine u_ic_ge rfl (fun h1 => ?_) (fun h1 => ?_)
      · have hD := hD.1 h1
        show u_P L xs m d m_X12_laysPlaces 45 [(0, .ref 100), (1, .int x1), (2, .int x2)] [] S R _
        refine u_st rfl (fun _ => rfl) ?_
        refine u_st rfl (fun _ => rfl) ?_
        refine u_lc (b := [(0, .ref 100), (1, .int x1), (2, .int (Int32.ofInt 1))]) (show ([2, 0, 1] : List Nat).Nodup by decide) (show ([0, 1, 2] : List Nat).Nodup by decide) (fun i => match i with | 0 => rfl | 1 => rfl | 2 => rfl | _ + 3 => rfl) ?_
        exact (ih m hm).2.2.1 d x1 (Int32.ofInt 1) S hD
      · have hD := hD.2 h1
        show u_P L xs m d m_X12_laysPlaces 27 [(0, .ref 100), (1, .int x1), (2, .int x2)] [] S R _
        refine u_st rfl (fun _ => rfl) ?_
        show u_P L xs m d m_X12_laysPlaces 28 [(0, .ref 100), (1, .int x1), (2, .int x2)] [.ref 100] S R _
        refine u_getr rfl v_tyM rfl ?_
        refine u_st rfl (fun _ => rfl) ?_
        show u_P L xs m d m_X12_laysPlaces 32 [(0, .ref 100), (1, .int x1), (2, .int x2)] [.ref 100, .ref 167] S R _
        refine u_getr rfl v_tyM rfl ?_
        refine u_st rfl (fun _ => rfl) ?_
        show u_P L xs m d m_X12_laysPlaces 36 [(0, .ref 100), (1, .int x1), (2, .int x2)] [.int x2, .ref 153, .ref 167] S R _
        refine u_ialdE (v := S 152 x2.toInt.toNat) rfl rfl rfl (fun b21 b22 => ?_)
        have hD := hD b21 b22
        show u_P L xs m d m_X12_laysPlaces 37 [(0, .ref 100), (1, .int x1), (2, .int x2)] [.int (S 152 x2.toInt.toNat), .ref 167] S R _
        refine u_st rfl (fun _ => rfl) ?_
        show u_P L xs m d m_X12_laysPlaces 38 [(0, .ref 100), (1, .int x1), (2, .int x2)] [.int (Int32.ofInt 0), .int (S 152 x2.toInt.toNat), .ref 167] S R _
        refine u_iast rfl rfl (fun b31 b32 => ?_)
        have hD := hD b31 b32
        show u_P L xs m d m_X12_laysPlaces 39 [(0, .ref 100), (1, .int x1), (2, .int x2)] [] (z_s S 166 ((S 152 x2.toInt.toNat).toInt.toNat) (Int32.ofInt 0)) R _
        refine u_st rfl (fun _ => rfl) ?_
        refine u_st rfl (fun _ => rfl) ?_
        refine u_lc (b := [(0, .ref 100), (1, .int x1), (2, .int (x2 + (Int32.ofInt 1)))]) (show ([2, 0, 1] : List Nat).Nodup by decide) (show ([0, 1, 2] : List Nat).Nodup by decide) (fun i => match i with | 0 => rfl | 1 => rfl | 2 => rfl | _ + 3 => rfl) ?_
        exact (ih m hm).2.1 d x1 (x2 + (Int32.ofInt 1)) (z_s S 166 ((S 152 x2.toInt.toNat).toInt.toNat) (Int32.ofInt 0)) hD
    · intro d x1 x2 S hD
      have hD := k47 x1 x2 S hD
      unfold D_X12_laysPlaces_47 at hD
      show u_P L xs n d m_X12_laysPlaces 47 [(0, .ref 100), (1, .int x1), (2, .int x2)] [] S R _
      refine u_st1 rfl (fun _ => rfl) (fun m hm => ?_)
      show u_P L xs m d m_X12_laysPlaces 48 [(0, .ref 100), (1, .int x1), (2, .int x2)] [.int x2] S R _
      refine u_if_eq rfl (fun h1 => ?_) (fun h1 => ?_)
      · have hD := hD.1 h1
        show u_P L xs m d m_X12_laysPlaces 150 [(0, .ref 100), (1, .int x1), (2, .int x2)] [] S R _
        exact u_ret rfl rfl ⟨rfl, rfl, hD⟩
      · have hD := hD.2 h1
        show u_P L xs m d m_X12_laysPlaces 51 [(0, .ref 100), (1, .int x1), (2, .int x2)] [] S R _
        refine u_st rfl (fun _ => rfl) ?_
        refine u_st rfl (fun _ => rfl) ?_
        refine u_st rfl (fun _ => rfl) ?_
        refine u_st rfl (fun _ => rfl) ?_
        refine u_lc (b := [(0, .ref 100), (1, .int x1), (2, .int (Int32.ofInt 0)), (3, .int (Int32.ofInt 0))]) (show ([3, 2, 0, 1] : List Nat).Nodup by decide) (show ([0, 1, 2, 3] : List Nat).Nodup by decide) (fun i => match i with | 0 => rfl | 1 => rfl | 2 => rfl | 3 => rfl | _ + 4 => rfl) ?_
        exact (ih m hm).2.2.2.2.2.1 d x1 (Int32.ofInt 0) (Int32.ofInt 0) S hD
    · intro d j3 x1 x2 S hD
      have hD := k47 x1 x2 S hD
      unfold D_X12_laysPlaces_47 at hD
      show u_P L xs n d m_X12_laysPlaces 47 [(0, .ref 100), (1, .int x1), (2, .int x2), (3, .int j3)] [] S R _
      refine u_st1 rfl (fun _ => rfl) (fun m hm => ?_)
      show u_P L xs m d m_X12_laysPlaces 48 [(0, .ref 100), (1, .int x1), (2, .int x2), (3, .int j3)] [.int x2] S R _
      refine u_if_eq rfl (fun h1 => ?_) (fun h1 => ?_)
      · have hD := hD.1 h1
        show u_P L xs m d m_X12_laysPlaces 150 [(0, .ref 100), (1, .int x1), (2, .int x2), (3, .int j3)] [] S R _
        exact u_ret rfl rfl ⟨rfl, rfl, hD⟩
      · have hD := hD.2 h1
        show u_P L xs m d m_X12_laysPlaces 51 [(0, .ref 100), (1, .int x1), (2, .int x2), (3, .int j3)] [] S R _
        refine u_st rfl (fun _ => rfl) ?_
        refine u_st rfl (fun _ => rfl) ?_
        refine u_st rfl (fun _ => rfl) ?_
        refine u_st rfl (fun _ => rfl) ?_
        refine u_lc (b := [(0, .ref 100), (1, .int x1), (2, .int (Int32.ofInt 0)), (3, .int (Int32.ofInt 0))]) (show ([3, 2, 0, 1] : List Nat).Nodup by decide) (show ([0, 1, 2, 3] : List Nat).Nodup by decide) (fun i => match i with | 0 => rfl | 1 => rfl | 2 => rfl | 3 => rfl | _ + 4 => rfl) ?_
        exact (ih m hm).2.2.2.2.2.1 d x1 (Int32.ofInt 0) (Int32.ofInt 0) S hD
    · intro d j3 j4 j5 x1 x2 S hD
      have hD := k47 x1 x2 S hD
      unfold D_X12_laysPlaces_47 at hD
      show u_P L xs n d m_X12_laysPlaces 47 [(0, .ref 100), (1, .int x1), (2, .int x2), (3, .int j3), (4, .int j4), (5, .int j5)] [] S R _
      refine u_st1 rfl (fun _ => rfl) (fun m hm => ?_)
      show u_P L xs m d m_X12_laysPlaces 48 [(0, .ref 100), (1, .int x1), (2, .int x2), (3, .int j3), (4, .int j4), (5, .int j5)] [.int x2] S R _
      refine u_if_eq rfl (fun h1 => ?_) (fun h1 => ?_)
      · have hD := hD.1 h1
        show u_P L xs m d m_X12_laysPlaces 150 [(0, .ref 100), (1, .int x1), (2, .int x2), (3, .int j3), (4, .int j4), (5, .int j5)] [] S R _
        exact u_ret rfl rfl ⟨rfl, rfl, hD⟩
      · have hD := hD.2 h1
        show u_P L xs m d m_X12_laysPlaces 51 [(0, .ref 100), (1, .int x1), (2, .int x2), (3, .int j3), (4, .int j4), (5, .int j5)] [] S R _
        refine u_st rfl (fun _ => rfl) ?_
        refine u_st rfl (fun _ => rfl) ?_
        refine u_st rfl (fun _ => rfl) ?_
        refine u_st rfl (fun _ => rfl) ?_
        refine u_lc (b := [(0, .ref 100), (1, .int x1), (2, .int (Int32.ofInt 0)), (3, .int (Int32.ofInt 0)), (4, .int j4), (5, .int j5)]) (show ([3, 2, 0, 1, 4, 5] : List Nat).Nodup by decide) (show ([0, 1, 2, 3, 4, 5] : List Nat).Nodup by decide) (fun i => match i with | 0 => rfl | 1 => rfl | 2 => rfl | 3 => rfl | 4 => rfl | 5 => rfl | _ + 6 => rfl) ?_
        exact (ih m hm).2.2.2.2.2.2 d j4 j5 x1 (Int32.ofInt 0) (Int32.ofInt 0) S hD
    · intro d x1 x2 x3 S hD
      have hD := k55 x1 x2 x3 S hD
      unfold D_X12_laysPlaces_55 at hD
      show u_P L xs n d m_X12_laysPlaces 55 [(0, .ref 100), (1, .int x1), (2, .int x2), (3, .int x3)] [] S R _
      refine u_st1 rfl (fun _ => rfl) (fun m hm => ?_)
      refine u_st rfl (fun _ => rfl) ?_
      show u_P L xs m d m_X12_laysPlaces 57 [(0, .ref 100), (1, .int x1), (2, .int x2), (3, .int x3)] [.int x1, .int x3] S R _
      refine u_ic_ge rfl (fun h1 => ?_) (fun h1 => ?_)
      · have hD := hD.1 h1
        show u_P L xs m d m_X12_laysPlaces 147 [(0, .ref 100), (1, .int x1), (2, .int x2), (3, .int x3)] [] S R _
        refine u_st rfl (fun _ => rfl) ?_
        exact (ih m hm).2.2.2.1 d x3 x1 x2 S hD
      · have hD := hD.2 h1
        show u_P L xs m d m_X12_laysPlaces 60 [(0, .ref 100), (1, .int x1), (2, .int x2), (3, .int x3)] [] S R _
        refine u_st rfl (fun _ => rfl) ?_
        show u_P L xs m d m_X12_laysPlaces 61 [(0, .ref 100), (1, .int x1), (2, .int x2), (3, .int x3)] [.ref 100] S R _
        refine u_getr rfl v_tyM rfl ?_
        refine u_st rfl (fun _ => rfl) ?_
        show u_P L xs m d m_X12_laysPlaces 65 [(0, .ref 100), (1, .int x1), (2, .int x2), (3, .int x3)] [.int x3, .ref 153] S R _
        refine u_ialdE (v := S 152 x3.toInt.toNat) rfl rfl rfl (fun b21 b22 => ?_)
        have hD := hD b21 b22
        show u_P L xs m d m_X12_laysPlaces 66 [(0, .ref 100), (1, .int x1), (2, .int x2), (3, .int x3)] [.int (S 152 x3.toInt.toNat)] S R _
        refine u_st rfl (fun _ => rfl) ?_
        refine u_st rfl (fun _ => rfl) ?_
        refine u_st rfl (fun _ => rfl) ?_
        show u_P L xs m d m_X12_laysPlaces 71 [(4, .int (S 152 x3.toInt.toNat)), (0, .ref 100), (1, .int x1), (2, .int x2), (3, .int x3)] [.int (S 152 x3.toInt.toNat), .ref 100] S R _
        refine u_cv (rest := []) rfl (by decide) mt_X12_isAnywhere v_tyM rfl rfl rfl (Nat.le_of_ble_eq_true rfl) (Nat.le_of_ble_eq_true rfl) (Nat.le_of_ble_eq_true rfl) (fun d' => c_X12_isAnywhere L xs m d' (S 152 x3.toInt.toNat) S R) ?_
        rintro _ _ _ ⟨_, rfl, rfl, rfl, rfl⟩
        show u_P L xs m d m_X12_laysPlaces 74 [(4, .int (S 152 x3.toInt.toNat)), (0, .ref 100), (1, .int x1), (2, .int x2), (3, .int x3)] [.int (f_X12_isAnywhere (S 152 x3.toInt.toNat) S)] S R _
        refine u_if_eq rfl (fun h3 => ?_) (fun h3 => ?_)
        · have hD := hD.1 h3
          show u_P L xs m d m_X12_laysPlaces 81 [(4, .int (S 152 x3.toInt.toNat)), (0, .ref 100), (1, .int x1), (2, .int x2), (3, .int x3)] [] S R _
          refine u_st rfl (fun _ => rfl) ?_
          refine u_st rfl (fun _ => rfl) ?_
          show u_P L xs m d m_X12_laysPlaces 84 [(4, .int (S 152 x3.toInt.toNat)), (0, .ref 100), (1, .int x1), (2, .int x2), (3, .int x3)] [.int (S 152 x3.toInt.toNat), .ref 100] S R _
          refine u_cv (rest := []) rfl (by decide) mt_X12_asksNext v_tyM rfl rfl rfl (Nat.le_of_ble_eq_true rfl) (Nat.le_of_ble_eq_true rfl) (Nat.le_of_ble_eq_true rfl) (fun d' => c_X12_asksNext L xs m d' (S 152 x3.toInt.toNat) S R) ?_
          rintro _ _ _ ⟨_, rfl, rfl, rfl, rfl⟩
          refine u_st rfl (fun _ => rfl) ?_
          refine u_st rfl (fun _ => rfl) ?_
          refine u_st rfl (fun _ => rfl) ?_
          show u_P L xs m d m_X12_laysPlaces 92 [(5, .int (f_X12_asksNext (S 152 x3.toInt.toNat) S)), (4, .int (S 152 x3.toInt.toNat)), (0, .ref 100), (1, .int x1), (2, .int x2), (3, .int x3)] [.int (Int32.ofInt (-1)), .int (f_X12_asksNext (S 152 x3.toInt.toNat) S)] S R _
          refine u_ic_ne rfl (fun h4 => ?_) (fun h4 => ?_)
          · have hD := hD.1 h4
            show u_P L xs m d m_X12_laysPlaces 98 [(5, .int (f_X12_asksNext (S 152 x3.toInt.toNat) S)), (4, .int (S 152 x3.toInt.toNat)), (0, .ref 100), (1, .int x1), (2, .int x2), (3, .int x3)] [] S R _
            refine u_st rfl (fun _ => rfl) ?_
            show u_P L xs m d m_X12_laysPlaces 99 [(5, .int (f_X12_asksNext (S 152 x3.toInt.toNat) S)), (4, .int (S 152 x3.toInt.toNat)), (0, .ref 100), (1, .int x1), (2, .int x2), (3, .int x3)] [.ref 100] S R _
            refine u_getr rfl v_tyM rfl ?_
            refine u_st rfl (fun _ => rfl) ?_
            refine u_st rfl (fun _ => rfl) ?_
            show u_P L xs m d m_X12_laysPlaces 105 [(5, .int (f_X12_asksNext (S 152 x3.toInt.toNat) S)), (4, .int (S 152 x3.toInt.toNat)), (0, .ref 100), (1, .int x1), (2, .int x2), (3, .int x3)] [.int (S 152 x3.toInt.toNat), .ref 167, .int (S 152 x3.toInt.toNat), .ref 167] S R _
            refine u_ialdE (v := S 166 ((S 152 x3.toInt.toNat).toInt.toNat)) rfl rfl rfl (fun b51 b52 => ?_)
            have hD := hD b51 b52
            show u_P L xs m d m_X12_laysPlaces 106 [(5, .int (f_X12_asksNext (S 152 x3.toInt.toNat) S)), (4, .int (S 152 x3.toInt.toNat)), (0, .ref 100), (1, .int x1), (2, .int x2), (3, .int x3)] [.int (S 166 ((S 152 x3.toInt.toNat).toInt.toNat)), .int (S 152 x3.toInt.toNat), .ref 167] S R _
            refine u_st rfl (fun _ => rfl) ?_
            refine u_st rfl (fun _ => rfl) ?_
            refine u_st rfl (fun _ => rfl) ?_
            refine u_st rfl (fun _ => rfl) ?_
            show u_P L xs m d m_X12_laysPlaces 111 [(5, .int (f_X12_asksNext (S 152 x3.toInt.toNat) S)), (4, .int (S 152 x3.toInt.toNat)), (0, .ref 100), (1, .int x1), (2, .int x2), (3, .int x3)] [.int ((S 166 ((S 152 x3.toInt.toNat).toInt.toNat)) ||| ((Int32.ofInt 1) <<< ((f_X12_asksNext (S 152 x3.toInt.toNat) S) &&& 31))), .int (S 152 x3.toInt.toNat), .ref 167] S R _
            refine u_iast rfl rfl (fun b61 b62 => ?_)
            have hD := hD b61 b62
            show u_P L xs m d m_X12_laysPlaces 112 [(5, .int (f_X12_asksNext (S 152 x3.toInt.toNat) S)), (4, .int (S 152 x3.toInt.toNat)), (0, .ref 100), (1, .int x1), (2, .int x2), (3, .int x3)] [] (z_s S 166 ((S 152 x3.toInt.toNat).toInt.toNat) ((S 166 ((S 152 x3.toInt.toNat).toInt.toNat)) ||| ((Int32.ofInt 1) <<< ((f_X12_asksNext (S 152 x3.toInt.toNat) S) &&& 31)))) R _
            refine u_st rfl (fun _ => rfl) ?_
            refine u_st rfl (fun _ => rfl) ?_
            refine u_st rfl (fun _ => rfl) ?_
            refine u_st rfl (fun _ => rfl) ?_
            show u_P L xs m d m_X12_laysPlaces 118 [(5, .int (f_X12_asksNext (S 152 x3.toInt.toNat) S)), (4, .int (S 152 x3.toInt.toNat)), (0, .ref 100), (1, .int x1), (2, .int x2), (3, .int x3)] [.ref 100, .int (S 152 x3.toInt.toNat), .int (f_X12_asksNext (S 152 x3.toInt.toNat) S), .ref 100] (z_s S 166 ((S 152 x3.toInt.toNat).toInt.toNat) ((S 166 ((S 152 x3.toInt.toNat).toInt.toNat)) ||| ((Int32.ofInt 1) <<< ((f_X12_asksNext (S 152 x3.toInt.toNat) S) &&& 31)))) R _
            refine u_getr rfl v_tyM rfl ?_
            refine u_st rfl (fun _ => rfl) ?_
            show u_P L xs m d m_X12_laysPlaces 123 [(5, .int (f_X12_asksNext (S 152 x3.toInt.toNat) S)), (4, .int (S 152 x3.toInt.toNat)), (0, .ref 100), (1, .int x1), (2, .int x2), (3, .int x3)] [.int (f_X12_asksNext (S 152 x3.toInt.toNat) S), .ref 166, .int (S 152 x3.toInt.toNat), .int (f_X12_asksNext (S 152 x3.toInt.toNat) S), .ref 100] (z_s S 166 ((S 152 x3.toInt.toNat).toInt.toNat) ((S 166 ((S 152 x3.toInt.toNat).toInt.toNat)) ||| ((Int32.ofInt 1) <<< ((f_X12_asksNext (S 152 x3.toInt.toNat) S) &&& 31)))) R _
            refine u_ialdE (v := S 165 ((f_X12_asksNext (S 152 x3.toInt.toNat) S).toInt.toNat)) rfl rfl (z_sn (fun h => absurd h.1 (by decide))) (fun b71 b72 => ?_)
            have hD := hD b71 b72
            show u_P L xs m d m_X12_laysPlaces 124 [(5, .int (f_X12_asksNext (S 152 x3.toInt.toNat) S)), (4, .int (S 152 x3.toInt.toNat)), (0, .ref 100), (1, .int x1), (2, .int x2), (3, .int x3)] [.int (S 165 ((f_X12_asksNext (S 152 x3.toInt.toNat) S).toInt.toNat)), .int (S 152 x3.toInt.toNat), .int (f_X12_asksNext (S 152 x3.toInt.toNat) S), .ref 100] (z_s S 166 ((S 152 x3.toInt.toNat).toInt.toNat) ((S 166 ((S 152 x3.toInt.toNat).toInt.toNat)) ||| ((Int32.ofInt 1) <<< ((f_X12_asksNext (S 152 x3.toInt.toNat) S) &&& 31)))) R _
            refine u_cv (rest := []) rfl (by decide) mt_X12_isLiked v_tyM rfl rfl rfl (Nat.le_of_ble_eq_true rfl) (Nat.le_of_ble_eq_true rfl) (Nat.le_of_ble_eq_true rfl) (fun d' => c_X12_isLiked L xs m d' (f_X12_asksNext (S 152 x3.toInt.toNat) S) (S 152 x3.toInt.toNat) (S 165 ((f_X12_asksNext (S 152 x3.toInt.toNat) S).toInt.toNat)) (z_s S 166 ((S 152 x3.toInt.toNat).toInt.toNat) ((S 166 ((S 152 x3.toInt.toNat).toInt.toNat)) ||| ((Int32.ofInt 1) <<< ((f_X12_asksNext (S 152 x3.toInt.toNat) S) &&& 31)))) R) ?_
            rintro _ _ _ ⟨_, rfl, rfl, rfl, rfl⟩
            show u_P L xs m d m_X12_laysPlaces 127 [(5, .int (f_X12_asksNext (S 152 x3.toInt.toNat) S)), (4, .int (S 152 x3.toInt.toNat)), (0, .ref 100), (1, .int x1), (2, .int x2), (3, .int x3)] [.int (f_X12_isLiked (f_X12_asksNext (S 152 x3.toInt.toNat) S) (S 152 x3.toInt.toNat) (S 165 ((f_X12_asksNext (S 152 x3.toInt.toNat) S).toInt.toNat)) (z_s S 166 ((S 152 x3.toInt.toNat).toInt.toNat) ((S 166 ((S 152 x3.toInt.toNat).toInt.toNat)) ||| ((Int32.ofInt 1) <<< ((f_X12_asksNext (S 152 x3.toInt.toNat) S) &&& 31)))))] (z_s S 166 ((S 152 x3.toInt.toNat).toInt.toNat) ((S 166 ((S 152 x3.toInt.toNat).toInt.toNat)) ||| ((Int32.ofInt 1) <<< ((f_X12_asksNext (S 152 x3.toInt.toNat) S) &&& 31)))) R _
            refine u_if_eq rfl (fun h8 => ?_) (fun h8 => ?_)
            · have hD := hD.1 h8
              show u_P L xs m d m_X12_laysPlaces 139 [(5, .int (f_X12_asksNext (S 152 x3.toInt.toNat) S)), (4, .int (S 152 x3.toInt.toNat)), (0, .ref 100), (1, .int x1), (2, .int x2), (3, .int x3)] [] (z_s S 166 ((S 152 x3.toInt.toNat).toInt.toNat) ((S 166 ((S 152 x3.toInt.toNat).toInt.toNat)) ||| ((Int32.ofInt 1) <<< ((f_X12_asksNext (S 152 x3.toInt.toNat) S) &&& 31)))) R _
              refine u_st rfl (fun _ => rfl) ?_
              refine u_st rfl (fun _ => rfl) ?_
              refine u_st rfl (fun _ => rfl) ?_
              refine u_st rfl (fun _ => rfl) ?_
              refine u_lc (b := [(0, .ref 100), (1, .int x1), (2, .int (Int32.ofInt 1)), (3, .int (x3 + (Int32.ofInt 1))), (4, .int (S 152 x3.toInt.toNat)), (5, .int (f_X12_asksNext (S 152 x3.toInt.toNat) S))]) (show ([3, 2, 5, 4, 0, 1] : List Nat).Nodup by decide) (show ([0, 1, 2, 3, 4, 5] : List Nat).Nodup by decide) (fun i => match i with | 0 => rfl | 1 => rfl | 2 => rfl | 3 => rfl | 4 => rfl | 5 => rfl | _ + 6 => rfl) ?_
              exact (ih m hm).2.2.2.2.2.2 d (S 152 x3.toInt.toNat) (f_X12_asksNext (S 152 x3.toInt.toNat) S) x1 (Int32.ofInt 1) (x3 + (Int32.ofInt 1)) (z_s S 166 ((S 152 x3.toInt.toNat).toInt.toNat) ((S 166 ((S 152 x3.toInt.toNat).toInt.toNat)) ||| ((Int32.ofInt 1) <<< ((f_X12_asksNext (S 152 x3.toInt.toNat) S) &&& 31)))) hD
            · have hD := hD.2 h8
              show u_P L xs m d m_X12_laysPlaces 130 [(5, .int (f_X12_asksNext (S 152 x3.toInt.toNat) S)), (4, .int (S 152 x3.toInt.toNat)), (0, .ref 100), (1, .int x1), (2, .int x2), (3, .int x3)] [] (z_s S 166 ((S 152 x3.toInt.toNat).toInt.toNat) ((S 166 ((S 152 x3.toInt.toNat).toInt.toNat)) ||| ((Int32.ofInt 1) <<< ((f_X12_asksNext (S 152 x3.toInt.toNat) S) &&& 31)))) R _
              refine u_st rfl (fun _ => rfl) ?_
              show u_P L xs m d m_X12_laysPlaces 131 [(5, .int (f_X12_asksNext (S 152 x3.toInt.toNat) S)), (4, .int (S 152 x3.toInt.toNat)), (0, .ref 100), (1, .int x1), (2, .int x2), (3, .int x3)] [.ref 100] (z_s S 166 ((S 152 x3.toInt.toNat).toInt.toNat) ((S 166 ((S 152 x3.toInt.toNat).toInt.toNat)) ||| ((Int32.ofInt 1) <<< ((f_X12_asksNext (S 152 x3.toInt.toNat) S) &&& 31)))) R _
              refine u_getr rfl v_tyM rfl ?_
              refine u_st rfl (fun _ => rfl) ?_
              refine u_st rfl (fun _ => rfl) ?_
              show u_P L xs m d m_X12_laysPlaces 138 [(5, .int (f_X12_asksNext (S 152 x3.toInt.toNat) S)), (4, .int (S 152 x3.toInt.toNat)), (0, .ref 100), (1, .int x1), (2, .int x2), (3, .int x3)] [.int (S 152 x3.toInt.toNat), .int (f_X12_asksNext (S 152 x3.toInt.toNat) S), .ref 166] (z_s S 166 ((S 152 x3.toInt.toNat).toInt.toNat) ((S 166 ((S 152 x3.toInt.toNat).toInt.toNat)) ||| ((Int32.ofInt 1) <<< ((f_X12_asksNext (S 152 x3.toInt.toNat) S) &&& 31)))) R _
              refine u_iast rfl rfl (fun b91 b92 => ?_)
              have hD := hD b91 b92
              show u_P L xs m d m_X12_laysPlaces 139 [(5, .int (f_X12_asksNext (S 152 x3.toInt.toNat) S)), (4, .int (S 152 x3.toInt.toNat)), (0, .ref 100), (1, .int x1), (2, .int x2), (3, .int x3)] [] (z_s (z_s S 166 ((S 152 x3.toInt.toNat).toInt.toNat) ((S 166 ((S 152 x3.toInt.toNat).toInt.toNat)) ||| ((Int32.ofInt 1) <<< ((f_X12_asksNext (S 152 x3.toInt.toNat) S) &&& 31)))) 165 ((f_X12_asksNext (S 152 x3.toInt.toNat) S).toInt.toNat) (S 152 x3.toInt.toNat)) R _
              refine u_st rfl (fun _ => rfl) ?_
              refine u_st rfl (fun _ => rfl) ?_
              refine u_st rfl (fun _ => rfl) ?_
              refine u_st rfl (fun _ => rfl) ?_
              refine u_lc (b := [(0, .ref 100), (1, .int x1), (2, .int (Int32.ofInt 1)), (3, .int (x3 + (Int32.ofInt 1))), (4, .int (S 152 x3.toInt.toNat)), (5, .int (f_X12_asksNext (S 152 x3.toInt.toNat) S))]) (show ([3, 2, 5, 4, 0, 1] : List Nat).Nodup by decide) (show ([0, 1, 2, 3, 4, 5] : List Nat).Nodup by decide) (fun i => match i with | 0 => rfl | 1 => rfl | 2 => rfl | 3 => rfl | 4 => rfl | 5 => rfl | _ + 6 => rfl) ?_
              exact (ih m hm).2.2.2.2.2.2 d (S 152 x3.toInt.toNat) (f_X12_asksNext (S 152 x3.toInt.toNat) S) x1 (Int32.ofInt 1) (x3 + (Int32.ofInt 1)) (z_s (z_s S 166 ((S 152 x3.toInt.toNat).toInt.toNat) ((S 166 ((S 152 x3.toInt.toNat).toInt.toNat)) ||| ((Int32.ofInt 1) <<< ((f_X12_asksNext (S 152 x3.toInt.toNat) S) &&& 31)))) 165 ((f_X12_asksNext (S 152 x3.toInt.toNat) S).toInt.toNat) (S 152 x3.toInt.toNat)) hD
          · have hD := hD.2 h4
            show u_P L xs m d m_X12_laysPlaces 95 [(5, .int (f_X12_asksNext (S 152 x3.toInt.toNat) S)), (4, .int (S 152 x3.toInt.toNat)), (0, .ref 100), (1, .int x1), (2, .int x2), (3, .int x3)] [] S R _
            refine u_st rfl (fun _ => rfl) ?_
            refine u_st rfl (fun _ => rfl) ?_
            refine u_st rfl (fun _ => rfl) ?_
            refine u_lc (b := [(0, .ref 100), (1, .int x1), (2, .int x2), (3, .int (x3 + (Int32.ofInt 1))), (4, .int (S 152 x3.toInt.toNat)), (5, .int (f_X12_asksNext (S 152 x3.toInt.toNat) S))]) (show ([3, 5, 4, 0, 1, 2] : List Nat).Nodup by decide) (show ([0, 1, 2, 3, 4, 5] : List Nat).Nodup by decide) (fun i => match i with | 0 => rfl | 1 => rfl | 2 => rfl | 3 => rfl | 4 => rfl | 5 => rfl | _ + 6 => rfl) ?_
            exact (ih m hm).2.2.2.2.2.2 d (S 152 x3.toInt.toNat) (f_X12_asksNext (S 152 x3.toInt.toNat) S) x1 x2 (x3 + (Int32.ofInt 1)) S hD
        · have hD := hD.2 h3
          show u_P L xs m d m_X12_laysPlaces 77 [(4, .int (S 152 x3.toInt.toNat)), (0, .ref 100), (1, .int x1), (2, .int x2), (3, .int x3)] [] S R _
          refine u_st rfl (fun _ => rfl) ?_
          refine u_st rfl (fun _ => rfl) ?_
          refine u_st rfl (fun _ => rfl) ?_
          refine u_st rfl (fun _ => rfl) ?_
          refine u_st rfl (fun _ => rfl) ?_
          show u_P L xs m d m_X12_laysPlaces 92 [(5, .int (Int32.ofInt (-1))), (4, .int (S 152 x3.toInt.toNat)), (0, .ref 100), (1, .int x1), (2, .int x2), (3, .int x3)] [.int (Int32.ofInt (-1)), .int (Int32.ofInt (-1))] S R _
          refine u_st rfl (fun _ => rfl) ?_
          refine u_st rfl (fun _ => rfl) ?_
          refine u_st rfl (fun _ => rfl) ?_
          refine u_st rfl (fun _ => rfl) ?_
          refine u_lc (b := [(0, .ref 100), (1, .int x1), (2, .int x2), (3, .int (x3 + (Int32.ofInt 1))), (4, .int (S 152 x3.toInt.toNat)), (5, .int (Int32.ofInt (-1)))]) (show ([3, 5, 4, 0, 1, 2] : List Nat).Nodup by decide) (show ([0, 1, 2, 3, 4, 5] : List Nat).Nodup by decide) (fun i => match i with | 0 => rfl | 1 => rfl | 2 => rfl | 3 => rfl | 4 => rfl | 5 => rfl | _ + 6 => rfl) ?_
          exact (ih m hm).2.2.2.2.2.2 d (S 152 x3.toInt.toNat) (Int32.ofInt (-1)) x1 x2 (x3 + (Int32.ofInt 1)) S hD
    · intro d j4 j5 x1 x2 x3 S hD
      have hD := k55 x1 x2 x3 S hD
      unfold D_X12_laysPlaces_55 at hD
      show u_P L xs n d m_X12_laysPlaces 55 [(0, .ref 100), (1, .int x1), (2, .int x2), (3, .int x3), (4, .int j4), (5, .int j5)] [] S R _
      refine u_st1 rfl (fun _ => rfl) (fun m hm => ?_)
      refine u_st rfl (fun _ => rfl) ?_
      show u_P L xs m d m_X12_laysPlaces 57 [(0, .ref 100), (1, .int x1), (2, .int x2), (3, .int x3), (4, .int j4), (5, .int j5)] [.int x1, .int x3] S R _
      refine u_ic_ge rfl (fun h1 => ?_) (fun h1 => ?_)
      · have hD := hD.1 h1
        show u_P L xs m d m_X12_laysPlaces 147 [(0, .ref 100), (1, .int x1), (2, .int x2), (3, .int x3), (4, .int j4), (5, .int j5)] [] S R _
        refine u_st rfl (fun _ => rfl) ?_
        exact (ih m hm).2.2.2.2.1 d x3 j4 j5 x1 x2 S hD
      · have hD := hD.2 h1
        show u_P L xs m d m_X12_laysPlaces 60 [(0, .ref 100), (1, .int x1), (2, .int x2), (3, .int x3), (4, .int j4), (5, .int j5)] [] S R _
        refine u_st rfl (fun _ => rfl) ?_
        show u_P L xs m d m_X12_laysPlaces 61 [(0, .ref 100), (1, .int x1), (2, .int x2), (3, .int x3), (4, .int j4), (5, .int j5)] [.ref 100] S R _
        refine u_getr rfl v_tyM rfl ?_
        refine u_st rfl (fun _ => rfl) ?_
        show u_P L xs m d m_X12_laysPlaces 65 [(0, .ref 100), (1, .int x1), (2, .int x2), (3, .int x3), (4, .int j4), (5, .int j5)] [.int x3, .ref 153] S R _
        refine u_ialdE (v := S 152 x3.toInt.toNat) rfl rfl rfl (fun b21 b22 => ?_)
        have hD := hD b21 b22
        show u_P L xs m d m_X12_laysPlaces 66 [(0, .ref 100), (1, .int x1), (2, .int x2), (3, .int x3), (4, .int j4), (5, .int j5)] [.int (S 152 x3.toInt.toNat)] S R _
        refine u_st rfl (fun _ => rfl) ?_
        refine u_st rfl (fun _ => rfl) ?_
        refine u_st rfl (fun _ => rfl) ?_
        show u_P L xs m d m_X12_laysPlaces 71 [(4, .int (S 152 x3.toInt.toNat)), (0, .ref 100), (1, .int x1), (2, .int x2), (3, .int x3), (5, .int j5)] [.int (S 152 x3.toInt.toNat), .ref 100] S R _
        refine u_cv (rest := []) rfl (by decide) mt_X12_isAnywhere v_tyM rfl rfl rfl (Nat.le_of_ble_eq_true rfl) (Nat.le_of_ble_eq_true rfl) (Nat.le_of_ble_eq_true rfl) (fun d' => c_X12_isAnywhere L xs m d' (S 152 x3.toInt.toNat) S R) ?_
        rintro _ _ _ ⟨_, rfl, rfl, rfl, rfl⟩
        show u_P L xs m d m_X12_laysPlaces 74 [(4, .int (S 152 x3.toInt.toNat)), (0, .ref 100), (1, .int x1), (2, .int x2), (3, .int x3), (5, .int j5)] [.int (f_X12_isAnywhere (S 152 x3.toInt.toNat) S)] S R _
        refine u_if_eq rfl (fun h3 => ?_) (fun h3 => ?_)
        · have hD := hD.1 h3
          show u_P L xs m d m_X12_laysPlaces 81 [(4, .int (S 152 x3.toInt.toNat)), (0, .ref 100), (1, .int x1), (2, .int x2), (3, .int x3), (5, .int j5)] [] S R _
          refine u_st rfl (fun _ => rfl) ?_
          refine u_st rfl (fun _ => rfl) ?_
          show u_P L xs m d m_X12_laysPlaces 84 [(4, .int (S 152 x3.toInt.toNat)), (0, .ref 100), (1, .int x1), (2, .int x2), (3, .int x3), (5, .int j5)] [.int (S 152 x3.toInt.toNat), .ref 100] S R _
          refine u_cv (rest := []) rfl (by decide) mt_X12_asksNext v_tyM rfl rfl rfl (Nat.le_of_ble_eq_true rfl) (Nat.le_of_ble_eq_true rfl) (Nat.le_of_ble_eq_true rfl) (fun d' => c_X12_asksNext L xs m d' (S 152 x3.toInt.toNat) S R) ?_
          rintro _ _ _ ⟨_, rfl, rfl, rfl, rfl⟩
          refine u_st rfl (fun _ => rfl) ?_
          refine u_st rfl (fun _ => rfl) ?_
          refine u_st rfl (fun _ => rfl) ?_
          show u_P L xs m d m_X12_laysPlaces 92 [(5, .int (f_X12_asksNext (S 152 x3.toInt.toNat) S)), (4, .int (S 152 x3.toInt.toNat)), (0, .ref 100), (1, .int x1), (2, .int x2), (3, .int x3)] [.int (Int32.ofInt (-1)), .int (f_X12_asksNext (S 152 x3.toInt.toNat) S)] S R _
          refine u_ic_ne rfl (fun h4 => ?_) (fun h4 => ?_)
          · have hD := hD.1 h4
            show u_P L xs m d m_X12_laysPlaces 98 [(5, .int (f_X12_asksNext (S 152 x3.toInt.toNat) S)), (4, .int (S 152 x3.toInt.toNat)), (0, .ref 100), (1, .int x1), (2, .int x2), (3, .int x3)] [] S R _
            refine u_st rfl (fun _ => rfl) ?_
            show u_P L xs m d m_X12_laysPlaces 99 [(5, .int (f_X12_asksNext (S 152 x3.toInt.toNat) S)), (4, .int (S 152 x3.toInt.toNat)), (0, .ref 100), (1, .int x1), (2, .int x2), (3, .int x3)] [.ref 100] S R _
            refine u_getr rfl v_tyM rfl ?_
            refine u_st rfl (fun _ => rfl) ?_
            refine u_st rfl (fun _ => rfl) ?_
            show u_P L xs m d m_X12_laysPlaces 105 [(5, .int (f_X12_asksNext (S 152 x3.toInt.toNat) S)), (4, .int (S 152 x3.toInt.toNat)), (0, .ref 100), (1, .int x1), (2, .int x2), (3, .int x3)] [.int (S 152 x3.toInt.toNat), .ref 167, .int (S 152 x3.toInt.toNat), .ref 167] S R _
            refine u_ialdE (v := S 166 ((S 152 x3.toInt.toNat).toInt.toNat)) rfl rfl rfl (fun b51 b52 => ?_)
            have hD := hD b51 b52
            show u_P L xs m d m_X12_laysPlaces 106 [(5, .int (f_X12_asksNext (S 152 x3.toInt.toNat) S)), (4, .int (S 152 x3.toInt.toNat)), (0, .ref 100), (1, .int x1), (2, .int x2), (3, .int x3)] [.int (S 166 ((S 152 x3.toInt.toNat).toInt.toNat)), .int (S 152 x3.toInt.toNat), .ref 167] S R _
            refine u_st rfl (fun _ => rfl) ?_
            refine u_st rfl (fun _ => rfl) ?_
            refine u_st rfl (fun _ => rfl) ?_
            refine u_st rfl (fun _ => rfl) ?_
            show u_P L xs m d m_X12_laysPlaces 111 [(5, .int (f_X12_asksNext (S 152 x3.toInt.toNat) S)), (4, .int (S 152 x3.toInt.toNat)), (0, .ref 100), (1, .int x1), (2, .int x2), (3, .int x3)] [.int ((S 166 ((S 152 x3.toInt.toNat).toInt.toNat)) ||| ((Int32.ofInt 1) <<< ((f_X12_asksNext (S 152 x3.toInt.toNat) S) &&& 31))), .int (S 152 x3.toInt.toNat), .ref 167] S R _
            refine u_iast rfl rfl (fun b61 b62 => ?_)
            have hD := hD b61 b62
            show u_P L xs m d m_X12_laysPlaces 112 [(5, .int (f_X12_asksNext (S 152 x3.toInt.toNat) S)), (4, .int (S 152 x3.toInt.toNat)), (0, .ref 100), (1, .int x1), (2, .int x2), (3, .int x3)] [] (z_s S 166 ((S 152 x3.toInt.toNat).toInt.toNat) ((S 166 ((S 152 x3.toInt.toNat).toInt.toNat)) ||| ((Int32.ofInt 1) <<< ((f_X12_asksNext (S 152 x3.toInt.toNat) S) &&& 31)))) R _
            refine u_st rfl (fun _ => rfl) ?_
            refine u_st rfl (fun _ => rfl) ?_
            refine u_st rfl (fun _ => rfl) ?_
            refine u_st rfl (fun _ => rfl) ?_
            show u_P L xs m d m_X12_laysPlaces 118 [(5, .int (f_X12_asksNext (S 152 x3.toInt.toNat) S)), (4, .int (S 152 x3.toInt.toNat)), (0, .ref 100), (1, .int x1), (2, .int x2), (3, .int x3)] [.ref 100, .int (S 152 x3.toInt.toNat), .int (f_X12_asksNext (S 152 x3.toInt.toNat) S), .ref 100] (z_s S 166 ((S 152 x3.toInt.toNat).toInt.toNat) ((S 166 ((S 152 x3.toInt.toNat).toInt.toNat)) ||| ((Int32.ofInt 1) <<< ((f_X12_asksNext (S 152 x3.toInt.toNat) S) &&& 31)))) R _
            refine u_getr rfl v_tyM rfl ?_
            refine u_st rfl (fun _ => rfl) ?_
            show u_P L xs m d m_X12_laysPlaces 123 [(5, .int (f_X12_asksNext (S 152 x3.toInt.toNat) S)), (4, .int (S 152 x3.toInt.toNat)), (0, .ref 100), (1, .int x1), (2, .int x2), (3, .int x3)] [.int (f_X12_asksNext (S 152 x3.toInt.toNat) S), .ref 166, .int (S 152 x3.toInt.toNat), .int (f_X12_asksNext (S 152 x3.toInt.toNat) S), .ref 100] (z_s S 166 ((S 152 x3.toInt.toNat).toInt.toNat) ((S 166 ((S 152 x3.toInt.toNat).toInt.toNat)) ||| ((Int32.ofInt 1) <<< ((f_X12_asksNext (S 152 x3.toInt.toNat) S) &&& 31)))) R _
            refine u_ialdE (v := S 165 ((f_X12_asksNext (S 152 x3.toInt.toNat) S).toInt.toNat)) rfl rfl (z_sn (fun h => absurd h.1 (by decide))) (fun b71 b72 => ?_)
            have hD := hD b71 b72
            show u_P L xs m d m_X12_laysPlaces 124 [(5, .int (f_X12_asksNext (S 152 x3.toInt.toNat) S)), (4, .int (S 152 x3.toInt.toNat)), (0, .ref 100), (1, .int x1), (2, .int x2), (3, .int x3)] [.int (S 165 ((f_X12_asksNext (S 152 x3.toInt.toNat) S).toInt.toNat)), .int (S 152 x3.toInt.toNat), .int (f_X12_asksNext (S 152 x3.toInt.toNat) S), .ref 100] (z_s S 166 ((S 152 x3.toInt.toNat).toInt.toNat) ((S 166 ((S 152 x3.toInt.toNat).toInt.toNat)) ||| ((Int32.ofInt 1) <<< ((f_X12_asksNext (S 152 x3.toInt.toNat) S) &&& 31)))) R _
            refine u_cv (rest := []) rfl (by decide) mt_X12_isLiked v_tyM rfl rfl rfl (Nat.le_of_ble_eq_true rfl) (Nat.le_of_ble_eq_true rfl) (Nat.le_of_ble_eq_true rfl) (fun d' => c_X12_isLiked L xs m d' (f_X12_asksNext (S 152 x3.toInt.toNat) S) (S 152 x3.toInt.toNat) (S 165 ((f_X12_asksNext (S 152 x3.toInt.toNat) S).toInt.toNat)) (z_s S 166 ((S 152 x3.toInt.toNat).toInt.toNat) ((S 166 ((S 152 x3.toInt.toNat).toInt.toNat)) ||| ((Int32.ofInt 1) <<< ((f_X12_asksNext (S 152 x3.toInt.toNat) S) &&& 31)))) R) ?_
            rintro _ _ _ ⟨_, rfl, rfl, rfl, rfl⟩
            show u_P L xs m d m_X12_laysPlaces 127 [(5, .int (f_X12_asksNext (S 152 x3.toInt.toNat) S)), (4, .int (S 152 x3.toInt.toNat)), (0, .ref 100), (1, .int x1), (2, .int x2), (3, .int x3)] [.int (f_X12_isLiked (f_X12_asksNext (S 152 x3.toInt.toNat) S) (S 152 x3.toInt.toNat) (S 165 ((f_X12_asksNext (S 152 x3.toInt.toNat) S).toInt.toNat)) (z_s S 166 ((S 152 x3.toInt.toNat).toInt.toNat) ((S 166 ((S 152 x3.toInt.toNat).toInt.toNat)) ||| ((Int32.ofInt 1) <<< ((f_X12_asksNext (S 152 x3.toInt.toNat) S) &&& 31)))))] (z_s S 166 ((S 152 x3.toInt.toNat).toInt.toNat) ((S 166 ((S 152 x3.toInt.toNat).toInt.toNat)) ||| ((Int32.ofInt 1) <<< ((f_X12_asksNext (S 152 x3.toInt.toNat) S) &&& 31)))) R _
            refine u_if_eq rfl (fun h8 => ?_) (fun h8 => ?_)
            · have hD := hD.1 h8
              show u_P L xs m d m_X12_laysPlaces 139 [(5, .int (f_X12_asksNext (S 152 x3.toInt.toNat) S)), (4, .int (S 152 x3.toInt.toNat)), (0, .ref 100), (1, .int x1), (2, .int x2), (3, .int x3)] [] (z_s S 166 ((S 152 x3.toInt.toNat).toInt.toNat) ((S 166 ((S 152 x3.toInt.toNat).toInt.toNat)) ||| ((Int32.ofInt 1) <<< ((f_X12_asksNext (S 152 x3.toInt.toNat) S) &&& 31)))) R _
              refine u_st rfl (fun _ => rfl) ?_
              refine u_st rfl (fun _ => rfl) ?_
              refine u_st rfl (fun _ => rfl) ?_
              refine u_st rfl (fun _ => rfl) ?_
              refine u_lc (b := [(0, .ref 100), (1, .int x1), (2, .int (Int32.ofInt 1)), (3, .int (x3 + (Int32.ofInt 1))), (4, .int (S 152 x3.toInt.toNat)), (5, .int (f_X12_asksNext (S 152 x3.toInt.toNat) S))]) (show ([3, 2, 5, 4, 0, 1] : List Nat).Nodup by decide) (show ([0, 1, 2, 3, 4, 5] : List Nat).Nodup by decide) (fun i => match i with | 0 => rfl | 1 => rfl | 2 => rfl | 3 => rfl | 4 => rfl | 5 => rfl | _ + 6 => rfl) ?_
              exact (ih m hm).2.2.2.2.2.2 d (S 152 x3.toInt.toNat) (f_X12_asksNext (S 152 x3.toInt.toNat) S) x1 (Int32.ofInt 1) (x3 + (Int32.ofInt 1)) (z_s S 166 ((S 152 x3.toInt.toNat).toInt.toNat) ((S 166 ((S 152 x3.toInt.toNat).toInt.toNat)) ||| ((Int32.ofInt 1) <<< ((f_X12_asksNext (S 152 x3.toInt.toNat) S) &&& 31)))) hD
            · have hD := hD.2 h8
              show u_P L xs m d m_X12_laysPlaces 130 [(5, .int (f_X12_asksNext (S 152 x3.toInt.toNat) S)), (4, .int (S 152 x3.toInt.toNat)), (0, .ref 100), (1, .int x1), (2, .int x2), (3, .int x3)] [] (z_s S 166 ((S 152 x3.toInt.toNat).toInt.toNat) ((S 166 ((S 152 x3.toInt.toNat).toInt.toNat)) ||| ((Int32.ofInt 1) <<< ((f_X12_asksNext (S 152 x3.toInt.toNat) S) &&& 31)))) R _
              refine u_st rfl (fun _ => rfl) ?_
              show u_P L xs m d m_X12_laysPlaces 131 [(5, .int (f_X12_asksNext (S 152 x3.toInt.toNat) S)), (4, .int (S 152 x3.toInt.toNat)), (0, .ref 100), (1, .int x1), (2, .int x2), (3, .int x3)] [.ref 100] (z_s S 166 ((S 152 x3.toInt.toNat).toInt.toNat) ((S 166 ((S 152 x3.toInt.toNat).toInt.toNat)) ||| ((Int32.ofInt 1) <<< ((f_X12_asksNext (S 152 x3.toInt.toNat) S) &&& 31)))) R _
              refine u_getr rfl v_tyM rfl ?_
              refine u_st rfl (fun _ => rfl) ?_
              refine u_st rfl (fun _ => rfl) ?_
              show u_P L xs m d m_X12_laysPlaces 138 [(5, .int (f_X12_asksNext (S 152 x3.toInt.toNat) S)), (4, .int (S 152 x3.toInt.toNat)), (0, .ref 100), (1, .int x1), (2, .int x2), (3, .int x3)] [.int (S 152 x3.toInt.toNat), .int (f_X12_asksNext (S 152 x3.toInt.toNat) S), .ref 166] (z_s S 166 ((S 152 x3.toInt.toNat).toInt.toNat) ((S 166 ((S 152 x3.toInt.toNat).toInt.toNat)) ||| ((Int32.ofInt 1) <<< ((f_X12_asksNext (S 152 x3.toInt.toNat) S) &&& 31)))) R _
              refine u_iast rfl rfl (fun b91 b92 => ?_)
              have hD := hD b91 b92
              show u_P L xs m d m_X12_laysPlaces 139 [(5, .int (f_X12_asksNext (S 152 x3.toInt.toNat) S)), (4, .int (S 152 x3.toInt.toNat)), (0, .ref 100), (1, .int x1), (2, .int x2), (3, .int x3)] [] (z_s (z_s S 166 ((S 152 x3.toInt.toNat).toInt.toNat) ((S 166 ((S 152 x3.toInt.toNat).toInt.toNat)) ||| ((Int32.ofInt 1) <<< ((f_X12_asksNext (S 152 x3.toInt.toNat) S) &&& 31)))) 165 ((f_X12_asksNext (S 152 x3.toInt.toNat) S).toInt.toNat) (S 152 x3.toInt.toNat)) R _
              refine u_st rfl (fun _ => rfl) ?_
              refine u_st rfl (fun _ => rfl) ?_
              refine u_st rfl (fun _ => rfl) ?_
              refine u_st rfl (fun _ => rfl) ?_
              refine u_lc (b := [(0, .ref 100), (1, .int x1), (2, .int (Int32.ofInt 1)), (3, .int (x3 + (Int32.ofInt 1))), (4, .int (S 152 x3.toInt.toNat)), (5, .int (f_X12_asksNext (S 152 x3.toInt.toNat) S))]) (show ([3, 2, 5, 4, 0, 1] : List Nat).Nodup by decide) (show ([0, 1, 2, 3, 4, 5] : List Nat).Nodup by decide) (fun i => match i with | 0 => rfl | 1 => rfl | 2 => rfl | 3 => rfl | 4 => rfl | 5 => rfl | _ + 6 => rfl) ?_
              exact (ih m hm).2.2.2.2.2.2 d (S 152 x3.toInt.toNat) (f_X12_asksNext (S 152 x3.toInt.toNat) S) x1 (Int32.ofInt 1) (x3 + (Int32.ofInt 1)) (z_s (z_s S 166 ((S 152 x3.toInt.toNat).toInt.toNat) ((S 166 ((S 152 x3.toInt.toNat).toInt.toNat)) ||| ((Int32.ofInt 1) <<< ((f_X12_asksNext (S 152 x3.toInt.toNat) S) &&& 31)))) 165 ((f_X12_asksNext (S 152 x3.toInt.toNat) S).toInt.toNat) (S 152 x3.toInt.toNat)) hD
          · have hD := hD.2 h4
            show u_P L xs m d m_X12_laysPlaces 95 [(5, .int (f_X12_asksNext (S 152 x3.toInt.toNat) S)), (4, .int (S 152 x3.toInt.toNat)), (0, .ref 100), (1, .int x1), (2, .int x2), (3, .int x3)] [] S R _
            refine u_st rfl (fun _ => rfl) ?_
            refine u_st rfl (fun _ => rfl) ?_
            refine u_st rfl (fun _ => rfl) ?_
            refine u_lc (b := [(0, .ref 100), (1, .int x1), (2, .int x2), (3, .int (x3 + (Int32.ofInt 1))), (4, .int (S 152 x3.toInt.toNat)), (5, .int (f_X12_asksNext (S 152 x3.toInt.toNat) S))]) (show ([3, 5, 4, 0, 1, 2] : List Nat).Nodup by decide) (show ([0, 1, 2, 3, 4, 5] : List Nat).Nodup by decide) (fun i => match i with | 0 => rfl | 1 => rfl | 2 => rfl | 3 => rfl | 4 => rfl | 5 => rfl | _ + 6 => rfl) ?_
            exact (ih m hm).2.2.2.2.2.2 d (S 152 x3.toInt.toNat) (f_X12_asksNext (S 152 x3.toInt.toNat) S) x1 x2 (x3 + (Int32.ofInt 1)) S hD
        · have hD := hD.2 h3
          show u_P L xs m d m_X12_laysPlaces 77 [(4, .int (S 152 x3.toInt.toNat)), (0, .ref 100), (1, .int x1), (2, .int x2), (3, .int x3), (5, .int j5)] [] S R _
          refine u_st rfl (fun _ => rfl) ?_
          refine u_st rfl (fun _ => rfl) ?_
          refine u_st rfl (fun _ => rfl) ?_
          refine u_st rfl (fun _ => rfl) ?_
          refine u_st rfl (fun _ => rfl) ?_
          show u_P L xs m d m_X12_laysPlaces 92 [(5, .int (Int32.ofInt (-1))), (4, .int (S 152 x3.toInt.toNat)), (0, .ref 100), (1, .int x1), (2, .int x2), (3, .int x3)] [.int (Int32.ofInt (-1)), .int (Int32.ofInt (-1))] S R _
          refine u_st rfl (fun _ => rfl) ?_
          refine u_st rfl (fun _ => rfl) ?_
          refine u_st rfl (fun _ => rfl) ?_
          refine u_st rfl (fun _ => rfl) ?_
          refine u_lc (b := [(0, .ref 100), (1, .int x1), (2, .int x2), (3, .int (x3 + (Int32.ofInt 1))), (4, .int (S 152 x3.toInt.toNat)), (5, .int (Int32.ofInt (-1)))]) (show ([3, 5, 4, 0, 1, 2] : List Nat).Nodup by decide) (show ([0, 1, 2, 3, 4, 5] : List Nat).Nodup by decide) (fun i => match i with | 0 => rfl | 1 => rfl | 2 => rfl | 3 => rfl | 4 => rfl | 5 => rfl | _ + 6 => rfl) ?_
          exact (ih m hm).2.2.2.2.2.2 d (S 152 x3.toInt.toNat) (Int32.ofInt (-1)) x1 x2 (x3 + (Int32.ofInt 1)) S hD
set_option maxRecDepth 4000 in
theorem w_X12_laysPlaces (L : Nat) (xs : Nat → Int32) {R : v_Rf} (a : Int32) (H2 : Int32 → Int32 → v_Sf → Prop) (H22 : Int32 → Int32 → v_Sf → Prop) (H47 : Int32 → Int32 → v_Sf → Prop) (H55 : Int32 → Int32 → Int32 → v_Sf → Prop) (K : v_Sf → Prop) (k2 : ∀ (x1 : Int32) (x2 : Int32) (S : v_Sf), H2 x1 x2 S → D_X12_laysPlaces_2 H2 H22 H47 H55 K x1 x2 S) (k22 : ∀ (x1 : Int32) (x2 : Int32) (S : v_Sf), H22 x1 x2 S → D_X12_laysPlaces_22 H2 H22 H47 H55 K x1 x2 S) (k47 : ∀ (x1 : Int32) (x2 : Int32) (S : v_Sf), H47 x1 x2 S → D_X12_laysPlaces_47 H2 H22 H47 H55 K x1 x2 S) (k55 : ∀ (x1 : Int32) (x2 : Int32) (x3 : Int32) (S : v_Sf), H55 x1 x2 x3 S → D_X12_laysPlaces_55 H2 H22 H47 H55 K x1 x2 x3 S) (n d : Nat) (S : v_Sf) (hD : D_X12_laysPlaces a H2 H22 H47 H55 K S) : u_P L xs n d m_X12_laysPlaces 0 (lv_args 0 [.ref 100, .int a]) [] S R (z_V R K) := by
  unfold D_X12_laysPlaces at hD
  show u_P L xs n d m_X12_laysPlaces 0 [(0, .ref 100), (1, .int a)] [] S R _
  refine u_st rfl (fun _ => rfl) ?_
  refine u_st rfl (fun _ => rfl) ?_
  refine u_lc (b := [(0, .ref 100), (1, .int a), (2, .int (Int32.ofInt 0))]) (show ([2, 0, 1] : List Nat).Nodup by decide) (show ([0, 1, 2] : List Nat).Nodup by decide) (fun i => match i with | 0 => rfl | 1 => rfl | 2 => rfl | _ + 3 => rfl) ?_
  exact (hd_X12_laysPlaces L xs a H2 H22 H47 H55 K k2 k22 k47 k55 n).1 d a (Int32.ofInt 0) S hD
