section PrtS42f
noncomputable abbrev m_X7_inWard : g_M := (g_cn 7, yX7_inWard, cX7_inWard, 4, (some .int), g_look2 ttX7_inWard)
set_option maxRecDepth 20000 in
theorem mt_X7_inWard : g_mt 91 = some m_X7_inWard := rfl
noncomputable def D_X7_inWard_4 (s : Nat) (H4 : Int32 → Int32 → Int32 → v_Sf → Prop) (K : Int32 → v_Sf → Prop) (x1 : Int32) (x2 : Int32) (x3 : Int32) (S : v_Sf) : Prop := (((Int32.ofInt 12) ≤ x3 → K x2 S) ∧ (¬ ((Int32.ofInt 12) ≤ x3) → (((f_X7_hasGust s x3 S) = 0 → H4 x1 x2 (x3 + (Int32.ofInt 1)) S) ∧ (¬ ((f_X7_hasGust s x3 S) = 0) → (0 ≤ x3.toInt → x3.toInt < 12 → (((¬ (S (s + 4) x3.toInt.toNat) = x1) → H4 x1 x2 (x3 + (Int32.ofInt 1)) S) ∧ (¬ (¬ (S (s + 4) x3.toInt.toNat) = x1) → H4 x1 (x2 ||| ((Int32.ofInt 1) <<< (x3 &&& 31))) (x3 + (Int32.ofInt 1)) S)))))))
noncomputable def D_X7_inWard (s : Nat) (w : Int32) (H4 : Int32 → Int32 → Int32 → v_Sf → Prop) (K : Int32 → v_Sf → Prop) (S : v_Sf) : Prop := H4 w (Int32.ofInt 0) (Int32.ofInt 0) S
set_option maxRecDepth 4000 in
theorem hd_X7_inWard (L : Nat) (xs : Nat → Int32) {R : v_Rf} (s : Nat) (hs : z_st s) (w : Int32) (H4 : Int32 → Int32 → Int32 → v_Sf → Prop) (K : Int32 → v_Sf → Prop) (k4 : ∀ (x1 : Int32) (x2 : Int32) (x3 : Int32) (S : v_Sf), H4 x1 x2 x3 S → D_X7_inWard_4 s H4 K x1 x2 x3 S) : ∀ n, (∀ (d : Nat) (x1 : Int32) (x2 : Int32) (x3 : Int32) (S : v_Sf), H4 x1 x2 x3 S → u_P L xs n d m_X7_inWard 4 [(0, .ref (s + 1)), (1, .int x1), (2, .int x2), (3, .int x3)] [] S R (z_Q R K)) := by
  intro n
  induction n using Nat.strongRecOn with
  | ind n ih =>
    intro d x1 x2 x3 S hD
    have hD := k4 x1 x2 x3 S hD
    unfold D_X7_inWard_4 at hD
    show u_P L xs n d m_X7_inWard 4 [(0, .ref (s + 1)), (1, .int x1), (2, .int x2), (3, .int x3)] [] S R _
    refine u_st1 rfl (fun _ => rfl) (fun m hm => ?_)
    refine u_st rfl (fun _ => rfl) ?_
    show u_P L xs m d m_X7_inWard 7 [(0, .ref (s + 1)), (1, .int x1), (2, .int x2), (3, .int x3)] [.int (Int32.ofInt 12), .int x3] S R _
    refine u_ic_ge rfl (fun h1 => ?_) (fun h1 => ?_)
    · have hD := hD.1 h1
      show u_P L xs m d m_X7_inWard 40 [(0, .ref (s + 1)), (1, .int x1), (2, .int x2), (3, .int x3)] [] S R _
      refine u_st rfl (fun _ => rfl) ?_
      show u_P L xs m d m_X7_inWard 41 [(0, .ref (s + 1)), (1, .int x1), (2, .int x2), (3, .int x3)] [.int x2] S R _
      exact u_ret rfl rfl ⟨_, rfl, rfl, hD⟩
    · have hD := hD.2 h1
      show u_P L xs m d m_X7_inWard 10 [(0, .ref (s + 1)), (1, .int x1), (2, .int x2), (3, .int x3)] [] S R _
      refine u_st rfl (fun _ => rfl) ?_
      refine u_st rfl (fun _ => rfl) ?_
      show u_P L xs m d m_X7_inWard 12 [(0, .ref (s + 1)), (1, .int x1), (2, .int x2), (3, .int x3)] [.int x3, .ref (s + 1)] S R _
      refine u_cv (rest := []) rfl (by decide) mt_X7_hasGust (z_st0 hs) rfl rfl rfl (Nat.le_of_ble_eq_true rfl) (Nat.le_of_ble_eq_true rfl) (Nat.le_of_ble_eq_true rfl) (fun d' => c_X7_hasGust L xs m d' s hs x3 S R) ?_
      rintro _ _ _ ⟨_, rfl, rfl, rfl, rfl⟩
      show u_P L xs m d m_X7_inWard 15 [(0, .ref (s + 1)), (1, .int x1), (2, .int x2), (3, .int x3)] [.int (f_X7_hasGust s x3 S)] S R _
      refine u_if_eq rfl (fun h2 => ?_) (fun h2 => ?_)
      · have hD := hD.1 h2
        show u_P L xs m d m_X7_inWard 34 [(0, .ref (s + 1)), (1, .int x1), (2, .int x2), (3, .int x3)] [] S R _
        refine u_st rfl (fun _ => rfl) ?_
        refine u_st rfl (fun _ => rfl) ?_
        refine u_lc (b := [(0, .ref (s + 1)), (1, .int x1), (2, .int x2), (3, .int (x3 + (Int32.ofInt 1)))]) (show ([3, 0, 1, 2] : List Nat).Nodup by decide) (show ([0, 1, 2, 3] : List Nat).Nodup by decide) (fun i => match i with | 0 => rfl | 1 => rfl | 2 => rfl | 3 => rfl | _ + 4 => rfl) ?_
        exact (ih m hm) d x1 x2 (x3 + (Int32.ofInt 1)) S hD
      · have hD := hD.2 h2
        show u_P L xs m d m_X7_inWard 18 [(0, .ref (s + 1)), (1, .int x1), (2, .int x2), (3, .int x3)] [] S R _
        refine u_st rfl (fun _ => rfl) ?_
        show u_P L xs m d m_X7_inWard 19 [(0, .ref (s + 1)), (1, .int x1), (2, .int x2), (3, .int x3)] [.ref (s + 1)] S R _
        refine u_getr rfl (z_st0 hs) rfl ?_
        refine u_st rfl (fun _ => rfl) ?_
        show u_P L xs m d m_X7_inWard 23 [(0, .ref (s + 1)), (1, .int x1), (2, .int x2), (3, .int x3)] [.int x3, .ref (s + 5)] S R _
        refine u_ialdE (v := S (s + 4) x3.toInt.toNat) rfl (z_st4 hs) rfl (fun b31 b32 => ?_)
        have hD := hD b31 b32
        show u_P L xs m d m_X7_inWard 24 [(0, .ref (s + 1)), (1, .int x1), (2, .int x2), (3, .int x3)] [.int (S (s + 4) x3.toInt.toNat)] S R _
        refine u_st rfl (fun _ => rfl) ?_
        show u_P L xs m d m_X7_inWard 25 [(0, .ref (s + 1)), (1, .int x1), (2, .int x2), (3, .int x3)] [.int x1, .int (S (s + 4) x3.toInt.toNat)] S R _
        refine u_ic_ne rfl (fun h4 => ?_) (fun h4 => ?_)
        · have hD := hD.1 h4
          show u_P L xs m d m_X7_inWard 34 [(0, .ref (s + 1)), (1, .int x1), (2, .int x2), (3, .int x3)] [] S R _
          refine u_st rfl (fun _ => rfl) ?_
          refine u_st rfl (fun _ => rfl) ?_
          refine u_lc (b := [(0, .ref (s + 1)), (1, .int x1), (2, .int x2), (3, .int (x3 + (Int32.ofInt 1)))]) (show ([3, 0, 1, 2] : List Nat).Nodup by decide) (show ([0, 1, 2, 3] : List Nat).Nodup by decide) (fun i => match i with | 0 => rfl | 1 => rfl | 2 => rfl | 3 => rfl | _ + 4 => rfl) ?_
          exact (ih m hm) d x1 x2 (x3 + (Int32.ofInt 1)) S hD
        · have hD := hD.2 h4
          show u_P L xs m d m_X7_inWard 28 [(0, .ref (s + 1)), (1, .int x1), (2, .int x2), (3, .int x3)] [] S R _
          refine u_st rfl (fun _ => rfl) ?_
          refine u_st rfl (fun _ => rfl) ?_
          refine u_st rfl (fun _ => rfl) ?_
          refine u_st rfl (fun _ => rfl) ?_
          refine u_st rfl (fun _ => rfl) ?_
          refine u_st rfl (fun _ => rfl) ?_
          refine u_st rfl (fun _ => rfl) ?_
          refine u_st rfl (fun _ => rfl) ?_
          refine u_lc (b := [(0, .ref (s + 1)), (1, .int x1), (2, .int (x2 ||| ((Int32.ofInt 1) <<< (x3 &&& 31)))), (3, .int (x3 + (Int32.ofInt 1)))]) (show ([3, 2, 0, 1] : List Nat).Nodup by decide) (show ([0, 1, 2, 3] : List Nat).Nodup by decide) (fun i => match i with | 0 => rfl | 1 => rfl | 2 => rfl | 3 => rfl | _ + 4 => rfl) ?_
          exact (ih m hm) d x1 (x2 ||| ((Int32.ofInt 1) <<< (x3 &&& 31))) (x3 + (Int32.ofInt 1)) S hD
set_option maxRecDepth 4000 in
theorem w_X7_inWard (L : Nat) (xs : Nat → Int32) {R : v_Rf} (s : Nat) (hs : z_st s) (w : Int32) (H4 : Int32 → Int32 → Int32 → v_Sf → Prop) (K : Int32 → v_Sf → Prop) (k4 : ∀ (x1 : Int32) (x2 : Int32) (x3 : Int32) (S : v_Sf), H4 x1 x2 x3 S → D_X7_inWard_4 s H4 K x1 x2 x3 S) (n d : Nat) (S : v_Sf) (hD : D_X7_inWard s w H4 K S) : u_P L xs n d m_X7_inWard 0 (lv_args 0 [.ref (s + 1), .int w]) [] S R (z_Q R K) := by
  unfold D_X7_inWard at hD
  show u_P L xs n d m_X7_inWard 0 [(0, .ref (s + 1)), (1, .int w)] [] S R _
  refine u_st rfl (fun _ => rfl) ?_
  refine u_st rfl (fun _ => rfl) ?_
  refine u_st rfl (fun _ => rfl) ?_
  refine u_st rfl (fun _ => rfl) ?_
  refine u_lc (b := [(0, .ref (s + 1)), (1, .int w), (2, .int (Int32.ofInt 0)), (3, .int (Int32.ofInt 0))]) (show ([3, 2, 0, 1] : List Nat).Nodup by decide) (show ([0, 1, 2, 3] : List Nat).Nodup by decide) (fun i => match i with | 0 => rfl | 1 => rfl | 2 => rfl | 3 => rfl | _ + 4 => rfl) ?_
  exact (hd_X7_inWard L xs s hs w H4 K k4 n) d w (Int32.ofInt 0) (Int32.ofInt 0) S hD
noncomputable def r_X7_inWard_4 (s : Nat) (x1 : Int32) (S : v_Sf) : Nat → Nat → Int32 → Int32
  | 0, k4, x2 => x2
  | r + 1, k4, x2 => (if (f_X7_hasGust s (z_i k4) S) = 0 then r_X7_inWard_4 s x1 S r (k4 + 1) x2 else (if ¬ (S (s + 4) (z_i k4).toInt.toNat) = x1 then r_X7_inWard_4 s x1 S r (k4 + 1) x2 else r_X7_inWard_4 s x1 S r (k4 + 1) (x2 ||| ((Int32.ofInt 1) <<< ((z_i k4) &&& 31)))))
noncomputable def F_X7_inWard (s : Nat) (w : Int32) (S : v_Sf) : Int32 := r_X7_inWard_4 s w S (12 - 0) 0 (Int32.ofInt 0)
noncomputable def f_X7_inWard (s : Nat) (w : Int32) (S : v_Sf) : Int32 := F_X7_inWard s w S
theorem c_X7_inWard (L : Nat) (xs : Nat → Int32) (n d : Nat) (s : Nat) (hs : z_st s) (w : Int32) (S : v_Sf) (R : v_Rf) : u_P L xs n d m_X7_inWard 0 (lv_args 0 [.ref (s + 1), .int w]) [] S R (z_Q R (fun v S1 => f_X7_inWard s w S = v ∧ S = S1)) := by
  refine w_X7_inWard L xs s hs w (fun y1 y2 y3 T => ∃ (k4 : Nat), k4 ≤ 12 ∧ z_i k4 = y3 ∧ w = y1 ∧ S = T ∧ r_X7_inWard_4 s w S (12 - k4) k4 y2 = F_X7_inWard s w S) (fun v S1 => f_X7_inWard s w S = v ∧ S = S1) ?_ n d S ?_
  · rintro _ x2 _ _ ⟨k4, hkk, rfl, rfl, rfl, e⟩
    unfold D_X7_inWard_4
    rcases Nat.lt_or_ge k4 (12) with hk | hk
    · rw [show 12 - k4 = (12 - (k4 + 1)) + 1 by omega, r_X7_inWard_4] at e
      refine ⟨fun q1 => ?_, fun q1 => ?_⟩
      · exact absurd hk (Nat.not_lt.mpr (z_leB2 (B := 12) q1 (by decide) (by omega)))
      · refine ⟨fun q2 => ?_, fun q2 => ?_⟩
        · rw [if_pos q2] at e
          exact ⟨(k4 + 1), by omega, (z_i1 k4).symm, rfl, rfl, e⟩
        · intro _ _
          refine ⟨fun q3 => ?_, fun q3 => ?_⟩
          · rw [if_neg q2, if_pos q3] at e
            exact ⟨(k4 + 1), by omega, (z_i1 k4).symm, rfl, rfl, e⟩
          · rw [if_neg q2, if_neg q3] at e
            exact ⟨(k4 + 1), by omega, (z_i1 k4).symm, rfl, rfl, e⟩
    · rw [show 12 - k4 = 0 by omega, r_X7_inWard_4] at e
      refine ⟨fun q4 => ?_, fun q4 => ?_⟩
      · exact ⟨e.symm, rfl⟩
      · exact absurd hk (Nat.not_le.mpr (z_ltB2 (B := 12) q4 (by decide) (by omega)))
  · unfold D_X7_inWard
    have e : r_X7_inWard_4 s w S (12 - 0) 0 (Int32.ofInt 0) = F_X7_inWard s w S := by rw [F_X7_inWard]
    exact ⟨0, by omega, rfl, rfl, rfl, e⟩
noncomputable abbrev m_X8_append : g_M := (g_cn 8, yX8_append, cX8_append, 3, none, g_look2 ttX8_append)
set_option maxRecDepth 20000 in
theorem mt_X8_append : g_mt 96 = some m_X8_append := rfl
noncomputable def g_X8_append (w : Int32) (S : v_Sf) : v_Sf := (if (Int32.ofNat 260) ≤ (S 45 1) then S else (if (Int32.ofNat 260) ≤ ((S 45 1) + (Int32.ofInt 1)) then z_s (z_s S 46 ((S 45 1).toInt.toNat) ((w >>> ((Int32.ofInt 24) &&& 31)) &&& (Int32.ofInt 255))) 45 1 ((S 45 1) + (Int32.ofInt 1)) else (if (Int32.ofNat 260) ≤ (((S 45 1) + (Int32.ofInt 1)) + (Int32.ofInt 1)) then z_s (z_s (z_s (z_s S 46 ((S 45 1).toInt.toNat) ((w >>> ((Int32.ofInt 24) &&& 31)) &&& (Int32.ofInt 255))) 45 1 ((S 45 1) + (Int32.ofInt 1))) 46 (((S 45 1) + (Int32.ofInt 1)).toInt.toNat) ((w >>> ((Int32.ofInt 16) &&& 31)) &&& (Int32.ofInt 255))) 45 1 (((S 45 1) + (Int32.ofInt 1)) + (Int32.ofInt 1)) else (if (Int32.ofNat 260) ≤ ((((S 45 1) + (Int32.ofInt 1)) + (Int32.ofInt 1)) + (Int32.ofInt 1)) then z_s (z_s (z_s (z_s (z_s (z_s S 46 ((S 45 1).toInt.toNat) ((w >>> ((Int32.ofInt 24) &&& 31)) &&& (Int32.ofInt 255))) 45 1 ((S 45 1) + (Int32.ofInt 1))) 46 (((S 45 1) + (Int32.ofInt 1)).toInt.toNat) ((w >>> ((Int32.ofInt 16) &&& 31)) &&& (Int32.ofInt 255))) 45 1 (((S 45 1) + (Int32.ofInt 1)) + (Int32.ofInt 1))) 46 ((((S 45 1) + (Int32.ofInt 1)) + (Int32.ofInt 1)).toInt.toNat) ((w >>> ((Int32.ofInt 8) &&& 31)) &&& (Int32.ofInt 255))) 45 1 ((((S 45 1) + (Int32.ofInt 1)) + (Int32.ofInt 1)) + (Int32.ofInt 1)) else z_s (z_s (z_s (z_s (z_s (z_s (z_s (z_s S 46 ((S 45 1).toInt.toNat) ((w >>> ((Int32.ofInt 24) &&& 31)) &&& (Int32.ofInt 255))) 45 1 ((S 45 1) + (Int32.ofInt 1))) 46 (((S 45 1) + (Int32.ofInt 1)).toInt.toNat) ((w >>> ((Int32.ofInt 16) &&& 31)) &&& (Int32.ofInt 255))) 45 1 (((S 45 1) + (Int32.ofInt 1)) + (Int32.ofInt 1))) 46 ((((S 45 1) + (Int32.ofInt 1)) + (Int32.ofInt 1)).toInt.toNat) ((w >>> ((Int32.ofInt 8) &&& 31)) &&& (Int32.ofInt 255))) 45 1 ((((S 45 1) + (Int32.ofInt 1)) + (Int32.ofInt 1)) + (Int32.ofInt 1))) 46 (((((S 45 1) + (Int32.ofInt 1)) + (Int32.ofInt 1)) + (Int32.ofInt 1)).toInt.toNat) ((w >>> ((Int32.ofInt 0) &&& 31)) &&& (Int32.ofInt 255))) 45 1 (((((S 45 1) + (Int32.ofInt 1)) + (Int32.ofInt 1)) + (Int32.ofInt 1)) + (Int32.ofInt 1))))))
set_option maxRecDepth 4000 in
theorem c_X8_append (L : Nat) (xs : Nat → Int32) (n d : Nat) (w : Int32) (S : v_Sf) (R : v_Rf) : u_P L xs n d m_X8_append 0 (lv_args 0 [.ref 46, .int w]) [] S R (z_V R (fun S1 => g_X8_append w S = S1)) := by
  show u_P L xs n d m_X8_append 0 [(0, .ref 46), (1, .int w)] [] S R _
  refine u_st rfl (fun _ => rfl) ?_
  refine u_st rfl (fun _ => rfl) ?_
  refine u_st rfl (fun _ => rfl) ?_
  show u_P L xs n d m_X8_append 4 [(2, .int (Int32.ofInt 24)), (0, .ref 46), (1, .int w)] [.int (Int32.ofInt 24)] S R _
  refine u_st rfl (fun _ => rfl) ?_
  refine u_st rfl (fun _ => rfl) ?_
  show u_P L xs n d m_X8_append 8 [(2, .int (Int32.ofInt 24)), (0, .ref 46), (1, .int w)] [.ref 46] S R _
  refine u_getE (v := S 45 1) rfl rfl rfl rfl ?_
  refine u_st rfl (fun _ => rfl) ?_
  show u_P L xs n d m_X8_append 12 [(2, .int (Int32.ofInt 24)), (0, .ref 46), (1, .int w)] [.ref 46, .int (S 45 1)] S R _
  refine u_getr rfl rfl rfl ?_
  show u_P L xs n d m_X8_append 15 [(2, .int (Int32.ofInt 24)), (0, .ref 46), (1, .int w)] [.ref 47, .int (S 45 1)] S R _
  refine u_al rfl rfl rfl ?_
  show u_P L xs n d m_X8_append 16 [(2, .int (Int32.ofInt 24)), (0, .ref 46), (1, .int w)] [.int (Int32.ofNat 260), .int (S 45 1)] S R _
  refine u_ic_ge rfl (fun h1 => ?_) (fun h1 => ?_)
  · show u_P L xs n d m_X8_append 51 [(2, .int (Int32.ofInt 24)), (0, .ref 46), (1, .int w)] [] S R _
    exact u_ret rfl rfl ⟨rfl, rfl, by rw [g_X8_append, if_pos h1]⟩
  · show u_P L xs n d m_X8_append 19 [(2, .int (Int32.ofInt 24)), (0, .ref 46), (1, .int w)] [] S R _
    refine u_st rfl (fun _ => rfl) ?_
    show u_P L xs n d m_X8_append 20 [(2, .int (Int32.ofInt 24)), (0, .ref 46), (1, .int w)] [.ref 46] S R _
    refine u_getr rfl rfl rfl ?_
    refine u_st rfl (fun _ => rfl) ?_
    show u_P L xs n d m_X8_append 24 [(2, .int (Int32.ofInt 24)), (0, .ref 46), (1, .int w)] [.ref 46, .ref 47] S R _
    refine u_getE (v := S 45 1) rfl rfl rfl rfl ?_
    refine u_st rfl (fun _ => rfl) ?_
    refine u_st rfl (fun _ => rfl) ?_
    refine u_st rfl (fun _ => rfl) ?_
    refine u_st rfl (fun _ => rfl) ?_
    refine u_st rfl (fun _ => rfl) ?_
    show u_P L xs n d m_X8_append 34 [(2, .int (Int32.ofInt 24)), (0, .ref 46), (1, .int w)] [.int ((w >>> ((Int32.ofInt 24) &&& 31)) &&& (Int32.ofInt 255)), .int (S 45 1), .ref 47] S R _
    refine u_iast rfl rfl (fun b21 b22 => ?_)
    refine u_st rfl (fun _ => rfl) ?_
    refine u_st rfl (fun _ => rfl) ?_
    show u_P L xs n d m_X8_append 37 [(2, .int (Int32.ofInt 24)), (0, .ref 46), (1, .int w)] [.ref 46, .ref 46] (z_s S 46 ((S 45 1).toInt.toNat) ((w >>> ((Int32.ofInt 24) &&& 31)) &&& (Int32.ofInt 255))) R _
    refine u_getE (v := S 45 1) rfl rfl rfl (z_sn (fun h => absurd h.1 (by decide))) ?_
    refine u_st rfl (fun _ => rfl) ?_
    refine u_st rfl (fun _ => rfl) ?_
    show u_P L xs n d m_X8_append 42 [(2, .int (Int32.ofInt 24)), (0, .ref 46), (1, .int w)] [.int ((S 45 1) + (Int32.ofInt 1)), .ref 46] (z_s S 46 ((S 45 1).toInt.toNat) ((w >>> ((Int32.ofInt 24) &&& 31)) &&& (Int32.ofInt 255))) R _
    refine u_put rfl rfl rfl ?_
    refine u_st rfl (fun _ => rfl) ?_
    refine u_st rfl (fun _ => rfl) ?_
    refine u_st rfl (fun _ => rfl) ?_
    show u_P L xs n d m_X8_append 4 [(2, .int (Int32.ofInt 16)), (0, .ref 46), (1, .int w)] [.int (Int32.ofInt 16)] (z_s (z_s S 46 ((S 45 1).toInt.toNat) ((w >>> ((Int32.ofInt 24) &&& 31)) &&& (Int32.ofInt 255))) 45 1 ((S 45 1) + (Int32.ofInt 1))) R _
    refine u_st rfl (fun _ => rfl) ?_
    refine u_st rfl (fun _ => rfl) ?_
    show u_P L xs n d m_X8_append 8 [(2, .int (Int32.ofInt 16)), (0, .ref 46), (1, .int w)] [.ref 46] (z_s (z_s S 46 ((S 45 1).toInt.toNat) ((w >>> ((Int32.ofInt 24) &&& 31)) &&& (Int32.ofInt 255))) 45 1 ((S 45 1) + (Int32.ofInt 1))) R _
    refine u_getE (v := (S 45 1) + (Int32.ofInt 1)) rfl rfl rfl z_ss ?_
    refine u_st rfl (fun _ => rfl) ?_
    show u_P L xs n d m_X8_append 12 [(2, .int (Int32.ofInt 16)), (0, .ref 46), (1, .int w)] [.ref 46, .int ((S 45 1) + (Int32.ofInt 1))] (z_s (z_s S 46 ((S 45 1).toInt.toNat) ((w >>> ((Int32.ofInt 24) &&& 31)) &&& (Int32.ofInt 255))) 45 1 ((S 45 1) + (Int32.ofInt 1))) R _
    refine u_getr rfl rfl rfl ?_
    show u_P L xs n d m_X8_append 15 [(2, .int (Int32.ofInt 16)), (0, .ref 46), (1, .int w)] [.ref 47, .int ((S 45 1) + (Int32.ofInt 1))] (z_s (z_s S 46 ((S 45 1).toInt.toNat) ((w >>> ((Int32.ofInt 24) &&& 31)) &&& (Int32.ofInt 255))) 45 1 ((S 45 1) + (Int32.ofInt 1))) R _
    refine u_al rfl rfl rfl ?_
    show u_P L xs n d m_X8_append 16 [(2, .int (Int32.ofInt 16)), (0, .ref 46), (1, .int w)] [.int (Int32.ofNat 260), .int ((S 45 1) + (Int32.ofInt 1))] (z_s (z_s S 46 ((S 45 1).toInt.toNat) ((w >>> ((Int32.ofInt 24) &&& 31)) &&& (Int32.ofInt 255))) 45 1 ((S 45 1) + (Int32.ofInt 1))) R _
    refine u_ic_ge rfl (fun h3 => ?_) (fun h3 => ?_)
    · show u_P L xs n d m_X8_append 51 [(2, .int (Int32.ofInt 16)), (0, .ref 46), (1, .int w)] [] (z_s (z_s S 46 ((S 45 1).toInt.toNat) ((w >>> ((Int32.ofInt 24) &&& 31)) &&& (Int32.ofInt 255))) 45 1 ((S 45 1) + (Int32.ofInt 1))) R _
      exact u_ret rfl rfl ⟨rfl, rfl, by rw [g_X8_append, if_neg h1, if_pos h3]⟩
    · show u_P L xs n d m_X8_append 19 [(2, .int (Int32.ofInt 16)), (0, .ref 46), (1, .int w)] [] (z_s (z_s S 46 ((S 45 1).toInt.toNat) ((w >>> ((Int32.ofInt 24) &&& 31)) &&& (Int32.ofInt 255))) 45 1 ((S 45 1) + (Int32.ofInt 1))) R _
      refine u_st rfl (fun _ => rfl) ?_
      show u_P L xs n d m_X8_append 20 [(2, .int (Int32.ofInt 16)), (0, .ref 46), (1, .int w)] [.ref 46] (z_s (z_s S 46 ((S 45 1).toInt.toNat) ((w >>> ((Int32.ofInt 24) &&& 31)) &&& (Int32.ofInt 255))) 45 1 ((S 45 1) + (Int32.ofInt 1))) R _
      refine u_getr rfl rfl rfl ?_
      refine u_st rfl (fun _ => rfl) ?_
      show u_P L xs n d m_X8_append 24 [(2, .int (Int32.ofInt 16)), (0, .ref 46), (1, .int w)] [.ref 46, .ref 47] (z_s (z_s S 46 ((S 45 1).toInt.toNat) ((w >>> ((Int32.ofInt 24) &&& 31)) &&& (Int32.ofInt 255))) 45 1 ((S 45 1) + (Int32.ofInt 1))) R _
      refine u_getE (v := (S 45 1) + (Int32.ofInt 1)) rfl rfl rfl z_ss ?_
      refine u_st rfl (fun _ => rfl) ?_
      refine u_st rfl (fun _ => rfl) ?_
      refine u_st rfl (fun _ => rfl) ?_
      refine u_st rfl (fun _ => rfl) ?_
      refine u_st rfl (fun _ => rfl) ?_
      show u_P L xs n d m_X8_append 34 [(2, .int (Int32.ofInt 16)), (0, .ref 46), (1, .int w)] [.int ((w >>> ((Int32.ofInt 16) &&& 31)) &&& (Int32.ofInt 255)), .int ((S 45 1) + (Int32.ofInt 1)), .ref 47] (z_s (z_s S 46 ((S 45 1).toInt.toNat) ((w >>> ((Int32.ofInt 24) &&& 31)) &&& (Int32.ofInt 255))) 45 1 ((S 45 1) + (Int32.ofInt 1))) R _
      refine u_iast rfl rfl (fun b41 b42 => ?_)
      refine u_st rfl (fun _ => rfl) ?_
      refine u_st rfl (fun _ => rfl) ?_
      show u_P L xs n d m_X8_append 37 [(2, .int (Int32.ofInt 16)), (0, .ref 46), (1, .int w)] [.ref 46, .ref 46] (z_s (z_s (z_s S 46 ((S 45 1).toInt.toNat) ((w >>> ((Int32.ofInt 24) &&& 31)) &&& (Int32.ofInt 255))) 45 1 ((S 45 1) + (Int32.ofInt 1))) 46 (((S 45 1) + (Int32.ofInt 1)).toInt.toNat) ((w >>> ((Int32.ofInt 16) &&& 31)) &&& (Int32.ofInt 255))) R _
      refine u_getE (v := (S 45 1) + (Int32.ofInt 1)) rfl rfl rfl ((z_sn (fun h => absurd h.1 (by decide))).trans z_ss) ?_
      refine u_st rfl (fun _ => rfl) ?_
      refine u_st rfl (fun _ => rfl) ?_
      show u_P L xs n d m_X8_append 42 [(2, .int (Int32.ofInt 16)), (0, .ref 46), (1, .int w)] [.int (((S 45 1) + (Int32.ofInt 1)) + (Int32.ofInt 1)), .ref 46] (z_s (z_s (z_s S 46 ((S 45 1).toInt.toNat) ((w >>> ((Int32.ofInt 24) &&& 31)) &&& (Int32.ofInt 255))) 45 1 ((S 45 1) + (Int32.ofInt 1))) 46 (((S 45 1) + (Int32.ofInt 1)).toInt.toNat) ((w >>> ((Int32.ofInt 16) &&& 31)) &&& (Int32.ofInt 255))) R _
      refine u_put rfl rfl rfl ?_
      refine u_st rfl (fun _ => rfl) ?_
      refine u_st rfl (fun _ => rfl) ?_
      refine u_st rfl (fun _ => rfl) ?_
      show u_P L xs n d m_X8_append 4 [(2, .int (Int32.ofInt 8)), (0, .ref 46), (1, .int w)] [.int (Int32.ofInt 8)] (z_s (z_s (z_s (z_s S 46 ((S 45 1).toInt.toNat) ((w >>> ((Int32.ofInt 24) &&& 31)) &&& (Int32.ofInt 255))) 45 1 ((S 45 1) + (Int32.ofInt 1))) 46 (((S 45 1) + (Int32.ofInt 1)).toInt.toNat) ((w >>> ((Int32.ofInt 16) &&& 31)) &&& (Int32.ofInt 255))) 45 1 (((S 45 1) + (Int32.ofInt 1)) + (Int32.ofInt 1))) R _
      refine u_st rfl (fun _ => rfl) ?_
      refine u_st rfl (fun _ => rfl) ?_
      show u_P L xs n d m_X8_append 8 [(2, .int (Int32.ofInt 8)), (0, .ref 46), (1, .int w)] [.ref 46] (z_s (z_s (z_s (z_s S 46 ((S 45 1).toInt.toNat) ((w >>> ((Int32.ofInt 24) &&& 31)) &&& (Int32.ofInt 255))) 45 1 ((S 45 1) + (Int32.ofInt 1))) 46 (((S 45 1) + (Int32.ofInt 1)).toInt.toNat) ((w >>> ((Int32.ofInt 16) &&& 31)) &&& (Int32.ofInt 255))) 45 1 (((S 45 1) + (Int32.ofInt 1)) + (Int32.ofInt 1))) R _
      refine u_getE (v := ((S 45 1) + (Int32.ofInt 1)) + (Int32.ofInt 1)) rfl rfl rfl z_ss ?_
      refine u_st rfl (fun _ => rfl) ?_
      show u_P L xs n d m_X8_append 12 [(2, .int (Int32.ofInt 8)), (0, .ref 46), (1, .int w)] [.ref 46, .int (((S 45 1) + (Int32.ofInt 1)) + (Int32.ofInt 1))] (z_s (z_s (z_s (z_s S 46 ((S 45 1).toInt.toNat) ((w >>> ((Int32.ofInt 24) &&& 31)) &&& (Int32.ofInt 255))) 45 1 ((S 45 1) + (Int32.ofInt 1))) 46 (((S 45 1) + (Int32.ofInt 1)).toInt.toNat) ((w >>> ((Int32.ofInt 16) &&& 31)) &&& (Int32.ofInt 255))) 45 1 (((S 45 1) + (Int32.ofInt 1)) + (Int32.ofInt 1))) R _
      refine u_getr rfl rfl rfl ?_
      show u_P L xs n d m_X8_append 15 [(2, .int (Int32.ofInt 8)), (0, .ref 46), (1, .int w)] [.ref 47, .int (((S 45 1) + (Int32.ofInt 1)) + (Int32.ofInt 1))] (z_s (z_s (z_s (z_s S 46 ((S 45 1).toInt.toNat) ((w >>> ((Int32.ofInt 24) &&& 31)) &&& (Int32.ofInt 255))) 45 1 ((S 45 1) + (Int32.ofInt 1))) 46 (((S 45 1) + (Int32.ofInt 1)).toInt.toNat) ((w >>> ((Int32.ofInt 16) &&& 31)) &&& (Int32.ofInt 255))) 45 1 (((S 45 1) + (Int32.ofInt 1)) + (Int32.ofInt 1))) R _
      refine u_al rfl rfl rfl ?_
      show u_P L xs n d m_X8_append 16 [(2, .int (Int32.ofInt 8)), (0, .ref 46), (1, .int w)] [.int (Int32.ofNat 260), .int (((S 45 1) + (Int32.ofInt 1)) + (Int32.ofInt 1))] (z_s (z_s (z_s (z_s S 46 ((S 45 1).toInt.toNat) ((w >>> ((Int32.ofInt 24) &&& 31)) &&& (Int32.ofInt 255))) 45 1 ((S 45 1) + (Int32.ofInt 1))) 46 (((S 45 1) + (Int32.ofInt 1)).toInt.toNat) ((w >>> ((Int32.ofInt 16) &&& 31)) &&& (Int32.ofInt 255))) 45 1 (((S 45 1) + (Int32.ofInt 1)) + (Int32.ofInt 1))) R _
      refine u_ic_ge rfl (fun h5 => ?_) (fun h5 => ?_)
      · show u_P L xs n d m_X8_append 51 [(2, .int (Int32.ofInt 8)), (0, .ref 46), (1, .int w)] [] (z_s (z_s (z_s (z_s S 46 ((S 45 1).toInt.toNat) ((w >>> ((Int32.ofInt 24) &&& 31)) &&& (Int32.ofInt 255))) 45 1 ((S 45 1) + (Int32.ofInt 1))) 46 (((S 45 1) + (Int32.ofInt 1)).toInt.toNat) ((w >>> ((Int32.ofInt 16) &&& 31)) &&& (Int32.ofInt 255))) 45 1 (((S 45 1) + (Int32.ofInt 1)) + (Int32.ofInt 1))) R _
        exact u_ret rfl rfl ⟨rfl, rfl, by rw [g_X8_append, if_neg h1, if_neg h3, if_pos h5]⟩
      · show u_P L xs n d m_X8_append 19 [(2, .int (Int32.ofInt 8)), (0, .ref 46), (1, .int w)] [] (z_s (z_s (z_s (z_s S 46 ((S 45 1).toInt.toNat) ((w >>> ((Int32.ofInt 24) &&& 31)) &&& (Int32.ofInt 255))) 45 1 ((S 45 1) + (Int32.ofInt 1))) 46 (((S 45 1) + (Int32.ofInt 1)).toInt.toNat) ((w >>> ((Int32.ofInt 16) &&& 31)) &&& (Int32.ofInt 255))) 45 1 (((S 45 1) + (Int32.ofInt 1)) + (Int32.ofInt 1))) R _
        refine u_st rfl (fun _ => rfl) ?_
        show u_P L xs n d m_X8_append 20 [(2, .int (Int32.ofInt 8)), (0, .ref 46), (1, .int w)] [.ref 46] (z_s (z_s (z_s (z_s S 46 ((S 45 1).toInt.toNat) ((w >>> ((Int32.ofInt 24) &&& 31)) &&& (Int32.ofInt 255))) 45 1 ((S 45 1) + (Int32.ofInt 1))) 46 (((S 45 1) + (Int32.ofInt 1)).toInt.toNat) ((w >>> ((Int32.ofInt 16) &&& 31)) &&& (Int32.ofInt 255))) 45 1 (((S 45 1) + (Int32.ofInt 1)) + (Int32.ofInt 1))) R _
        refine u_getr rfl rfl rfl ?_
        refine u_st rfl (fun _ => rfl) ?_
        show u_P L xs n d m_X8_append 24 [(2, .int (Int32.ofInt 8)), (0, .ref 46), (1, .int w)] [.ref 46, .ref 47] (z_s (z_s (z_s (z_s S 46 ((S 45 1).toInt.toNat) ((w >>> ((Int32.ofInt 24) &&& 31)) &&& (Int32.ofInt 255))) 45 1 ((S 45 1) + (Int32.ofInt 1))) 46 (((S 45 1) + (Int32.ofInt 1)).toInt.toNat) ((w >>> ((Int32.ofInt 16) &&& 31)) &&& (Int32.ofInt 255))) 45 1 (((S 45 1) + (Int32.ofInt 1)) + (Int32.ofInt 1))) R _
        refine u_getE (v := ((S 45 1) + (Int32.ofInt 1)) + (Int32.ofInt 1)) rfl rfl rfl z_ss ?_
        refine u_st rfl (fun _ => rfl) ?_
        refine u_st rfl (fun _ => rfl) ?_
        refine u_st rfl (fun _ => rfl) ?_
        refine u_st rfl (fun _ => rfl) ?_
        refine u_st rfl (fun _ => rfl) ?_
        show u_P L xs n d m_X8_append 34 [(2, .int (Int32.ofInt 8)), (0, .ref 46), (1, .int w)] [.int ((w >>> ((Int32.ofInt 8) &&& 31)) &&& (Int32.ofInt 255)), .int (((S 45 1) + (Int32.ofInt 1)) + (Int32.ofInt 1)), .ref 47] (z_s (z_s (z_s (z_s S 46 ((S 45 1).toInt.toNat) ((w >>> ((Int32.ofInt 24) &&& 31)) &&& (Int32.ofInt 255))) 45 1 ((S 45 1) + (Int32.ofInt 1))) 46 (((S 45 1) + (Int32.ofInt 1)).toInt.toNat) ((w >>> ((Int32.ofInt 16) &&& 31)) &&& (Int32.ofInt 255))) 45 1 (((S 45 1) + (Int32.ofInt 1)) + (Int32.ofInt 1))) R _
        refine u_iast rfl rfl (fun b61 b62 => ?_)
        refine u_st rfl (fun _ => rfl) ?_
        refine u_st rfl (fun _ => rfl) ?_
        show u_P L xs n d m_X8_append 37 [(2, .int (Int32.ofInt 8)), (0, .ref 46), (1, .int w)] [.ref 46, .ref 46] (z_s (z_s (z_s (z_s (z_s S 46 ((S 45 1).toInt.toNat) ((w >>> ((Int32.ofInt 24) &&& 31)) &&& (Int32.ofInt 255))) 45 1 ((S 45 1) + (Int32.ofInt 1))) 46 (((S 45 1) + (Int32.ofInt 1)).toInt.toNat) ((w >>> ((Int32.ofInt 16) &&& 31)) &&& (Int32.ofInt 255))) 45 1 (((S 45 1) + (Int32.ofInt 1)) + (Int32.ofInt 1))) 46 ((((S 45 1) + (Int32.ofInt 1)) + (Int32.ofInt 1)).toInt.toNat) ((w >>> ((Int32.ofInt 8) &&& 31)) &&& (Int32.ofInt 255))) R _
        refine u_getE (v := ((S 45 1) + (Int32.ofInt 1)) + (Int32.ofInt 1)) rfl rfl rfl ((z_sn (fun h => absurd h.1 (by decide))).trans z_ss) ?_
        refine u_st rfl (fun _ => rfl) ?_
        refine u_st rfl (fun _ => rfl) ?_
        show u_P L xs n d m_X8_append 42 [(2, .int (Int32.ofInt 8)), (0, .ref 46), (1, .int w)] [.int ((((S 45 1) + (Int32.ofInt 1)) + (Int32.ofInt 1)) + (Int32.ofInt 1)), .ref 46] (z_s (z_s (z_s (z_s (z_s S 46 ((S 45 1).toInt.toNat) ((w >>> ((Int32.ofInt 24) &&& 31)) &&& (Int32.ofInt 255))) 45 1 ((S 45 1) + (Int32.ofInt 1))) 46 (((S 45 1) + (Int32.ofInt 1)).toInt.toNat) ((w >>> ((Int32.ofInt 16) &&& 31)) &&& (Int32.ofInt 255))) 45 1 (((S 45 1) + (Int32.ofInt 1)) + (Int32.ofInt 1))) 46 ((((S 45 1) + (Int32.ofInt 1)) + (Int32.ofInt 1)).toInt.toNat) ((w >>> ((Int32.ofInt 8) &&& 31)) &&& (Int32.ofInt 255))) R _
        refine u_put rfl rfl rfl ?_
        refine u_st rfl (fun _ => rfl) ?_
        refine u_st rfl (fun _ => rfl) ?_
        refine u_st rfl (fun _ => rfl) ?_
        show u_P L xs n d m_X8_append 4 [(2, .int (Int32.ofInt 0)), (0, .ref 46), (1, .int w)] [.int (Int32.ofInt 0)] (z_s (z_s (z_s (z_s (z_s (z_s S 46 ((S 45 1).toInt.toNat) ((w >>> ((Int32.ofInt 24) &&& 31)) &&& (Int32.ofInt 255))) 45 1 ((S 45 1) + (Int32.ofInt 1))) 46 (((S 45 1) + (Int32.ofInt 1)).toInt.toNat) ((w >>> ((Int32.ofInt 16) &&& 31)) &&& (Int32.ofInt 255))) 45 1 (((S 45 1) + (Int32.ofInt 1)) + (Int32.ofInt 1))) 46 ((((S 45 1) + (Int32.ofInt 1)) + (Int32.ofInt 1)).toInt.toNat) ((w >>> ((Int32.ofInt 8) &&& 31)) &&& (Int32.ofInt 255))) 45 1 ((((S 45 1) + (Int32.ofInt 1)) + (Int32.ofInt 1)) + (Int32.ofInt 1))) R _
        refine u_st rfl (fun _ => rfl) ?_
        refine u_st rfl (fun _ => rfl) ?_
        show u_P L xs n d m_X8_append 8 [(2, .int (Int32.ofInt 0)), (0, .ref 46), (1, .int w)] [.ref 46] (z_s (z_s (z_s (z_s (z_s (z_s S 46 ((S 45 1).toInt.toNat) ((w >>> ((Int32.ofInt 24) &&& 31)) &&& (Int32.ofInt 255))) 45 1 ((S 45 1) + (Int32.ofInt 1))) 46 (((S 45 1) + (Int32.ofInt 1)).toInt.toNat) ((w >>> ((Int32.ofInt 16) &&& 31)) &&& (Int32.ofInt 255))) 45 1 (((S 45 1) + (Int32.ofInt 1)) + (Int32.ofInt 1))) 46 ((((S 45 1) + (Int32.ofInt 1)) + (Int32.ofInt 1)).toInt.toNat) ((w >>> ((Int32.ofInt 8) &&& 31)) &&& (Int32.ofInt 255))) 45 1 ((((S 45 1) + (Int32.ofInt 1)) + (Int32.ofInt 1)) + (Int32.ofInt 1))) R _
        refine u_getE (v := (((S 45 1) + (Int32.ofInt 1)) + (Int32.ofInt 1)) + (Int32.ofInt 1)) rfl rfl rfl z_ss ?_
        refine u_st rfl (fun _ => rfl) ?_
        show u_P L xs n d m_X8_append 12 [(2, .int (Int32.ofInt 0)), (0, .ref 46), (1, .int w)] [.ref 46, .int ((((S 45 1) + (Int32.ofInt 1)) + (Int32.ofInt 1)) + (Int32.ofInt 1))] (z_s (z_s (z_s (z_s (z_s (z_s S 46 ((S 45 1).toInt.toNat) ((w >>> ((Int32.ofInt 24) &&& 31)) &&& (Int32.ofInt 255))) 45 1 ((S 45 1) + (Int32.ofInt 1))) 46 (((S 45 1) + (Int32.ofInt 1)).toInt.toNat) ((w >>> ((Int32.ofInt 16) &&& 31)) &&& (Int32.ofInt 255))) 45 1 (((S 45 1) + (Int32.ofInt 1)) + (Int32.ofInt 1))) 46 ((((S 45 1) + (Int32.ofInt 1)) + (Int32.ofInt 1)).toInt.toNat) ((w >>> ((Int32.ofInt 8) &&& 31)) &&& (Int32.ofInt 255))) 45 1 ((((S 45 1) + (Int32.ofInt 1)) + (Int32.ofInt 1)) + (Int32.ofInt 1))) R _
        refine u_getr rfl rfl rfl ?_
        show u_P L xs n d m_X8_append 15 [(2, .int (Int32.ofInt 0)), (0, .ref 46), (1, .int w)] [.ref 47, .int ((((S 45 1) + (Int32.ofInt 1)) + (Int32.ofInt 1)) + (Int32.ofInt 1))] (z_s (z_s (z_s (z_s (z_s (z_s S 46 ((S 45 1).toInt.toNat) ((w >>> ((Int32.ofInt 24) &&& 31)) &&& (Int32.ofInt 255))) 45 1 ((S 45 1) + (Int32.ofInt 1))) 46 (((S 45 1) + (Int32.ofInt 1)).toInt.toNat) ((w >>> ((Int32.ofInt 16) &&& 31)) &&& (Int32.ofInt 255))) 45 1 (((S 45 1) + (Int32.ofInt 1)) + (Int32.ofInt 1))) 46 ((((S 45 1) + (Int32.ofInt 1)) + (Int32.ofInt 1)).toInt.toNat) ((w >>> ((Int32.ofInt 8) &&& 31)) &&& (Int32.ofInt 255))) 45 1 ((((S 45 1) + (Int32.ofInt 1)) + (Int32.ofInt 1)) + (Int32.ofInt 1))) R _
        refine u_al rfl rfl rfl ?_
        show u_P L xs n d m_X8_append 16 [(2, .int (Int32.ofInt 0)), (0, .ref 46), (1, .int w)] [.int (Int32.ofNat 260), .int ((((S 45 1) + (Int32.ofInt 1)) + (Int32.ofInt 1)) + (Int32.ofInt 1))] (z_s (z_s (z_s (z_s (z_s (z_s S 46 ((S 45 1).toInt.toNat) ((w >>> ((Int32.ofInt 24) &&& 31)) &&& (Int32.ofInt 255))) 45 1 ((S 45 1) + (Int32.ofInt 1))) 46 (((S 45 1) + (Int32.ofInt 1)).toInt.toNat) ((w >>> ((Int32.ofInt 16) &&& 31)) &&& (Int32.ofInt 255))) 45 1 (((S 45 1) + (Int32.ofInt 1)) + (Int32.ofInt 1))) 46 ((((S 45 1) + (Int32.ofInt 1)) + (Int32.ofInt 1)).toInt.toNat) ((w >>> ((Int32.ofInt 8) &&& 31)) &&& (Int32.ofInt 255))) 45 1 ((((S 45 1) + (Int32.ofInt 1)) + (Int32.ofInt 1)) + (Int32.ofInt 1))) R _
        refine u_ic_ge rfl (fun h7 => ?_) (fun h7 => ?_)
        · show u_P L xs n d m_X8_append 51 [(2, .int (Int32.ofInt 0)), (0, .ref 46), (1, .int w)] [] (z_s (z_s (z_s (z_s (z_s (z_s S 46 ((S 45 1).toInt.toNat) ((w >>> ((Int32.ofInt 24) &&& 31)) &&& (Int32.ofInt 255))) 45 1 ((S 45 1) + (Int32.ofInt 1))) 46 (((S 45 1) + (Int32.ofInt 1)).toInt.toNat) ((w >>> ((Int32.ofInt 16) &&& 31)) &&& (Int32.ofInt 255))) 45 1 (((S 45 1) + (Int32.ofInt 1)) + (Int32.ofInt 1))) 46 ((((S 45 1) + (Int32.ofInt 1)) + (Int32.ofInt 1)).toInt.toNat) ((w >>> ((Int32.ofInt 8) &&& 31)) &&& (Int32.ofInt 255))) 45 1 ((((S 45 1) + (Int32.ofInt 1)) + (Int32.ofInt 1)) + (Int32.ofInt 1))) R _
          exact u_ret rfl rfl ⟨rfl, rfl, by rw [g_X8_append, if_neg h1, if_neg h3, if_neg h5, if_pos h7]⟩
        · show u_P L xs n d m_X8_append 19 [(2, .int (Int32.ofInt 0)), (0, .ref 46), (1, .int w)] [] (z_s (z_s (z_s (z_s (z_s (z_s S 46 ((S 45 1).toInt.toNat) ((w >>> ((Int32.ofInt 24) &&& 31)) &&& (Int32.ofInt 255))) 45 1 ((S 45 1) + (Int32.ofInt 1))) 46 (((S 45 1) + (Int32.ofInt 1)).toInt.toNat) ((w >>> ((Int32.ofInt 16) &&& 31)) &&& (Int32.ofInt 255))) 45 1 (((S 45 1) + (Int32.ofInt 1)) + (Int32.ofInt 1))) 46 ((((S 45 1) + (Int32.ofInt 1)) + (Int32.ofInt 1)).toInt.toNat) ((w >>> ((Int32.ofInt 8) &&& 31)) &&& (Int32.ofInt 255))) 45 1 ((((S 45 1) + (Int32.ofInt 1)) + (Int32.ofInt 1)) + (Int32.ofInt 1))) R _
          refine u_st rfl (fun _ => rfl) ?_
          show u_P L xs n d m_X8_append 20 [(2, .int (Int32.ofInt 0)), (0, .ref 46), (1, .int w)] [.ref 46] (z_s (z_s (z_s (z_s (z_s (z_s S 46 ((S 45 1).toInt.toNat) ((w >>> ((Int32.ofInt 24) &&& 31)) &&& (Int32.ofInt 255))) 45 1 ((S 45 1) + (Int32.ofInt 1))) 46 (((S 45 1) + (Int32.ofInt 1)).toInt.toNat) ((w >>> ((Int32.ofInt 16) &&& 31)) &&& (Int32.ofInt 255))) 45 1 (((S 45 1) + (Int32.ofInt 1)) + (Int32.ofInt 1))) 46 ((((S 45 1) + (Int32.ofInt 1)) + (Int32.ofInt 1)).toInt.toNat) ((w >>> ((Int32.ofInt 8) &&& 31)) &&& (Int32.ofInt 255))) 45 1 ((((S 45 1) + (Int32.ofInt 1)) + (Int32.ofInt 1)) + (Int32.ofInt 1))) R _
          refine u_getr rfl rfl rfl ?_
          refine u_st rfl (fun _ => rfl) ?_
          show u_P L xs n d m_X8_append 24 [(2, .int (Int32.ofInt 0)), (0, .ref 46), (1, .int w)] [.ref 46, .ref 47] (z_s (z_s (z_s (z_s (z_s (z_s S 46 ((S 45 1).toInt.toNat) ((w >>> ((Int32.ofInt 24) &&& 31)) &&& (Int32.ofInt 255))) 45 1 ((S 45 1) + (Int32.ofInt 1))) 46 (((S 45 1) + (Int32.ofInt 1)).toInt.toNat) ((w >>> ((Int32.ofInt 16) &&& 31)) &&& (Int32.ofInt 255))) 45 1 (((S 45 1) + (Int32.ofInt 1)) + (Int32.ofInt 1))) 46 ((((S 45 1) + (Int32.ofInt 1)) + (Int32.ofInt 1)).toInt.toNat) ((w >>> ((Int32.ofInt 8) &&& 31)) &&& (Int32.ofInt 255))) 45 1 ((((S 45 1) + (Int32.ofInt 1)) + (Int32.ofInt 1)) + (Int32.ofInt 1))) R _
          refine u_getE (v := (((S 45 1) + (Int32.ofInt 1)) + (Int32.ofInt 1)) + (Int32.ofInt 1)) rfl rfl rfl z_ss ?_
          refine u_st rfl (fun _ => rfl) ?_
          refine u_st rfl (fun _ => rfl) ?_
          refine u_st rfl (fun _ => rfl) ?_
          refine u_st rfl (fun _ => rfl) ?_
          refine u_st rfl (fun _ => rfl) ?_
          show u_P L xs n d m_X8_append 34 [(2, .int (Int32.ofInt 0)), (0, .ref 46), (1, .int w)] [.int ((w >>> ((Int32.ofInt 0) &&& 31)) &&& (Int32.ofInt 255)), .int ((((S 45 1) + (Int32.ofInt 1)) + (Int32.ofInt 1)) + (Int32.ofInt 1)), .ref 47] (z_s (z_s (z_s (z_s (z_s (z_s S 46 ((S 45 1).toInt.toNat) ((w >>> ((Int32.ofInt 24) &&& 31)) &&& (Int32.ofInt 255))) 45 1 ((S 45 1) + (Int32.ofInt 1))) 46 (((S 45 1) + (Int32.ofInt 1)).toInt.toNat) ((w >>> ((Int32.ofInt 16) &&& 31)) &&& (Int32.ofInt 255))) 45 1 (((S 45 1) + (Int32.ofInt 1)) + (Int32.ofInt 1))) 46 ((((S 45 1) + (Int32.ofInt 1)) + (Int32.ofInt 1)).toInt.toNat) ((w >>> ((Int32.ofInt 8) &&& 31)) &&& (Int32.ofInt 255))) 45 1 ((((S 45 1) + (Int32.ofInt 1)) + (Int32.ofInt 1)) + (Int32.ofInt 1))) R _
          refine u_iast rfl rfl (fun b81 b82 => ?_)
          refine u_st rfl (fun _ => rfl) ?_
          refine u_st rfl (fun _ => rfl) ?_
          show u_P L xs n d m_X8_append 37 [(2, .int (Int32.ofInt 0)), (0, .ref 46), (1, .int w)] [.ref 46, .ref 46] (z_s (z_s (z_s (z_s (z_s (z_s (z_s S 46 ((S 45 1).toInt.toNat) ((w >>> ((Int32.ofInt 24) &&& 31)) &&& (Int32.ofInt 255))) 45 1 ((S 45 1) + (Int32.ofInt 1))) 46 (((S 45 1) + (Int32.ofInt 1)).toInt.toNat) ((w >>> ((Int32.ofInt 16) &&& 31)) &&& (Int32.ofInt 255))) 45 1 (((S 45 1) + (Int32.ofInt 1)) + (Int32.ofInt 1))) 46 ((((S 45 1) + (Int32.ofInt 1)) + (Int32.ofInt 1)).toInt.toNat) ((w >>> ((Int32.ofInt 8) &&& 31)) &&& (Int32.ofInt 255))) 45 1 ((((S 45 1) + (Int32.ofInt 1)) + (Int32.ofInt 1)) + (Int32.ofInt 1))) 46 (((((S 45 1) + (Int32.ofInt 1)) + (Int32.ofInt 1)) + (Int32.ofInt 1)).toInt.toNat) ((w >>> ((Int32.ofInt 0) &&& 31)) &&& (Int32.ofInt 255))) R _
          refine u_getE (v := (((S 45 1) + (Int32.ofInt 1)) + (Int32.ofInt 1)) + (Int32.ofInt 1)) rfl rfl rfl ((z_sn (fun h => absurd h.1 (by decide))).trans z_ss) ?_
          refine u_st rfl (fun _ => rfl) ?_
          refine u_st rfl (fun _ => rfl) ?_
          show u_P L xs n d m_X8_append 42 [(2, .int (Int32.ofInt 0)), (0, .ref 46), (1, .int w)] [.int (((((S 45 1) + (Int32.ofInt 1)) + (Int32.ofInt 1)) + (Int32.ofInt 1)) + (Int32.ofInt 1)), .ref 46] (z_s (z_s (z_s (z_s (z_s (z_s (z_s S 46 ((S 45 1).toInt.toNat) ((w >>> ((Int32.ofInt 24) &&& 31)) &&& (Int32.ofInt 255))) 45 1 ((S 45 1) + (Int32.ofInt 1))) 46 (((S 45 1) + (Int32.ofInt 1)).toInt.toNat) ((w >>> ((Int32.ofInt 16) &&& 31)) &&& (Int32.ofInt 255))) 45 1 (((S 45 1) + (Int32.ofInt 1)) + (Int32.ofInt 1))) 46 ((((S 45 1) + (Int32.ofInt 1)) + (Int32.ofInt 1)).toInt.toNat) ((w >>> ((Int32.ofInt 8) &&& 31)) &&& (Int32.ofInt 255))) 45 1 ((((S 45 1) + (Int32.ofInt 1)) + (Int32.ofInt 1)) + (Int32.ofInt 1))) 46 (((((S 45 1) + (Int32.ofInt 1)) + (Int32.ofInt 1)) + (Int32.ofInt 1)).toInt.toNat) ((w >>> ((Int32.ofInt 0) &&& 31)) &&& (Int32.ofInt 255))) R _
          refine u_put rfl rfl rfl ?_
          refine u_st rfl (fun _ => rfl) ?_
          refine u_st rfl (fun _ => rfl) ?_
          refine u_st rfl (fun _ => rfl) ?_
          show u_P L xs n d m_X8_append 4 [(2, .int (Int32.ofInt (-8))), (0, .ref 46), (1, .int w)] [.int (Int32.ofInt (-8))] (z_s (z_s (z_s (z_s (z_s (z_s (z_s (z_s S 46 ((S 45 1).toInt.toNat) ((w >>> ((Int32.ofInt 24) &&& 31)) &&& (Int32.ofInt 255))) 45 1 ((S 45 1) + (Int32.ofInt 1))) 46 (((S 45 1) + (Int32.ofInt 1)).toInt.toNat) ((w >>> ((Int32.ofInt 16) &&& 31)) &&& (Int32.ofInt 255))) 45 1 (((S 45 1) + (Int32.ofInt 1)) + (Int32.ofInt 1))) 46 ((((S 45 1) + (Int32.ofInt 1)) + (Int32.ofInt 1)).toInt.toNat) ((w >>> ((Int32.ofInt 8) &&& 31)) &&& (Int32.ofInt 255))) 45 1 ((((S 45 1) + (Int32.ofInt 1)) + (Int32.ofInt 1)) + (Int32.ofInt 1))) 46 (((((S 45 1) + (Int32.ofInt 1)) + (Int32.ofInt 1)) + (Int32.ofInt 1)).toInt.toNat) ((w >>> ((Int32.ofInt 0) &&& 31)) &&& (Int32.ofInt 255))) 45 1 (((((S 45 1) + (Int32.ofInt 1)) + (Int32.ofInt 1)) + (Int32.ofInt 1)) + (Int32.ofInt 1))) R _
          refine u_st rfl (fun _ => rfl) ?_
          show u_P L xs n d m_X8_append 51 [(2, .int (Int32.ofInt (-8))), (0, .ref 46), (1, .int w)] [] (z_s (z_s (z_s (z_s (z_s (z_s (z_s (z_s S 46 ((S 45 1).toInt.toNat) ((w >>> ((Int32.ofInt 24) &&& 31)) &&& (Int32.ofInt 255))) 45 1 ((S 45 1) + (Int32.ofInt 1))) 46 (((S 45 1) + (Int32.ofInt 1)).toInt.toNat) ((w >>> ((Int32.ofInt 16) &&& 31)) &&& (Int32.ofInt 255))) 45 1 (((S 45 1) + (Int32.ofInt 1)) + (Int32.ofInt 1))) 46 ((((S 45 1) + (Int32.ofInt 1)) + (Int32.ofInt 1)).toInt.toNat) ((w >>> ((Int32.ofInt 8) &&& 31)) &&& (Int32.ofInt 255))) 45 1 ((((S 45 1) + (Int32.ofInt 1)) + (Int32.ofInt 1)) + (Int32.ofInt 1))) 46 (((((S 45 1) + (Int32.ofInt 1)) + (Int32.ofInt 1)) + (Int32.ofInt 1)).toInt.toNat) ((w >>> ((Int32.ofInt 0) &&& 31)) &&& (Int32.ofInt 255))) 45 1 (((((S 45 1) + (Int32.ofInt 1)) + (Int32.ofInt 1)) + (Int32.ofInt 1)) + (Int32.ofInt 1))) R _
          exact u_ret rfl rfl ⟨rfl, rfl, by rw [g_X8_append, if_neg h1, if_neg h3, if_neg h5, if_neg h7]⟩
noncomputable abbrev m_X11_feed : g_M := (g_cn 11, yX11_feed, cX11_feed, 6, (some .int), g_look2 ttX11_feed)
set_option maxRecDepth 20000 in
theorem mt_X11_feed : g_mt 122 = some m_X11_feed := rfl
noncomputable def f_X11_feed (a : Int32) (b : Int32) (c : Int32) (i : Int32) (j : Int32) (S : v_Sf) : Int32 := (if ¬ (f_X8_takes (Int32.ofInt 20) S) = 0 then (g_X8_append j (g_X8_append i (g_X8_append c (g_X8_append b (g_X8_append a S))))) 45 1 else Int32.ofInt (-1))
noncomputable def g_X11_feed (a : Int32) (b : Int32) (c : Int32) (i : Int32) (j : Int32) (S : v_Sf) : v_Sf := (if ¬ (f_X8_takes (Int32.ofInt 20) S) = 0 then g_X8_append j (g_X8_append i (g_X8_append c (g_X8_append b (g_X8_append a S)))) else S)
set_option maxRecDepth 4000 in
theorem c_X11_feed (L : Nat) (xs : Nat → Int32) (n d : Nat) (a : Int32) (b : Int32) (c : Int32) (i : Int32) (j : Int32) (S : v_Sf) (R : v_Rf) : u_P L xs n d m_X11_feed 0 (lv_args 0 [.ref 1, .int a, .int b, .int c, .int i, .int j]) [] S R (z_Q R (fun v S1 => f_X11_feed a b c i j S = v ∧ g_X11_feed a b c i j S = S1)) := by
  show u_P L xs n d m_X11_feed 0 [(0, .ref 1), (1, .int a), (2, .int b), (3, .int c), (4, .int i), (5, .int j)] [] S R _
  refine u_st rfl (fun _ => rfl) ?_
  show u_P L xs n d m_X11_feed 1 [(0, .ref 1), (1, .int a), (2, .int b), (3, .int c), (4, .int i), (5, .int j)] [.ref 1] S R _
  refine u_getr rfl v_tyC rfl ?_
  refine u_st rfl (fun _ => rfl) ?_
  show u_P L xs n d m_X11_feed 6 [(0, .ref 1), (1, .int a), (2, .int b), (3, .int c), (4, .int i), (5, .int j)] [.int (Int32.ofInt 20), .ref 46] S R _
  refine u_cv (rest := []) rfl (by decide) mt_X8_takes rfl rfl rfl rfl (Nat.le_of_ble_eq_true rfl) (Nat.le_of_ble_eq_true rfl) (Nat.le_of_ble_eq_true rfl) (fun d' => c_X8_takes L xs n d' (Int32.ofInt 20) S R) ?_
  rintro _ _ _ ⟨_, rfl, rfl, rfl, rfl⟩
  show u_P L xs n d m_X11_feed 9 [(0, .ref 1), (1, .int a), (2, .int b), (3, .int c), (4, .int i), (5, .int j)] [.int (f_X8_takes (Int32.ofInt 20) S)] S R _
  refine u_if_ne rfl (fun h1 => ?_) (fun h1 => ?_)
  · show u_P L xs n d m_X11_feed 14 [(0, .ref 1), (1, .int a), (2, .int b), (3, .int c), (4, .int i), (5, .int j)] [] S R _
    refine u_st rfl (fun _ => rfl) ?_
    show u_P L xs n d m_X11_feed 15 [(0, .ref 1), (1, .int a), (2, .int b), (3, .int c), (4, .int i), (5, .int j)] [.ref 1] S R _
    refine u_getr rfl v_tyC rfl ?_
    refine u_st rfl (fun _ => rfl) ?_
    show u_P L xs n d m_X11_feed 19 [(0, .ref 1), (1, .int a), (2, .int b), (3, .int c), (4, .int i), (5, .int j)] [.int a, .ref 46] S R _
    refine u_cv (rest := []) rfl (by decide) mt_X8_append rfl rfl rfl rfl (Nat.le_of_ble_eq_true rfl) (Nat.le_of_ble_eq_true rfl) (Nat.le_of_ble_eq_true rfl) (fun d' => c_X8_append L xs n d' a S R) ?_
    rintro _ _ _ ⟨rfl, rfl, rfl⟩
    refine u_st rfl (fun _ => rfl) ?_
    show u_P L xs n d m_X11_feed 23 [(0, .ref 1), (1, .int a), (2, .int b), (3, .int c), (4, .int i), (5, .int j)] [.ref 1] (g_X8_append a S) R _
    refine u_getr rfl v_tyC rfl ?_
    refine u_st rfl (fun _ => rfl) ?_
    show u_P L xs n d m_X11_feed 27 [(0, .ref 1), (1, .int a), (2, .int b), (3, .int c), (4, .int i), (5, .int j)] [.int b, .ref 46] (g_X8_append a S) R _
    refine u_cv (rest := []) rfl (by decide) mt_X8_append rfl rfl rfl rfl (Nat.le_of_ble_eq_true rfl) (Nat.le_of_ble_eq_true rfl) (Nat.le_of_ble_eq_true rfl) (fun d' => c_X8_append L xs n d' b (g_X8_append a S) R) ?_
    rintro _ _ _ ⟨rfl, rfl, rfl⟩
    refine u_st rfl (fun _ => rfl) ?_
    show u_P L xs n d m_X11_feed 31 [(0, .ref 1), (1, .int a), (2, .int b), (3, .int c), (4, .int i), (5, .int j)] [.ref 1] (g_X8_append b (g_X8_append a S)) R _
    refine u_getr rfl v_tyC rfl ?_
    refine u_st rfl (fun _ => rfl) ?_
    show u_P L xs n d m_X11_feed 35 [(0, .ref 1), (1, .int a), (2, .int b), (3, .int c), (4, .int i), (5, .int j)] [.int c, .ref 46] (g_X8_append b (g_X8_append a S)) R _
    refine u_cv (rest := []) rfl (by decide) mt_X8_append rfl rfl rfl rfl (Nat.le_of_ble_eq_true rfl) (Nat.le_of_ble_eq_true rfl) (Nat.le_of_ble_eq_true rfl) (fun d' => c_X8_append L xs n d' c (g_X8_append b (g_X8_append a S)) R) ?_
    rintro _ _ _ ⟨rfl, rfl, rfl⟩
    refine u_st rfl (fun _ => rfl) ?_
    show u_P L xs n d m_X11_feed 39 [(0, .ref 1), (1, .int a), (2, .int b), (3, .int c), (4, .int i), (5, .int j)] [.ref 1] (g_X8_append c (g_X8_append b (g_X8_append a S))) R _
    refine u_getr rfl v_tyC rfl ?_
    refine u_st rfl (fun _ => rfl) ?_
    show u_P L xs n d m_X11_feed 44 [(0, .ref 1), (1, .int a), (2, .int b), (3, .int c), (4, .int i), (5, .int j)] [.int i, .ref 46] (g_X8_append c (g_X8_append b (g_X8_append a S))) R _
    refine u_cv (rest := []) rfl (by decide) mt_X8_append rfl rfl rfl rfl (Nat.le_of_ble_eq_true rfl) (Nat.le_of_ble_eq_true rfl) (Nat.le_of_ble_eq_true rfl) (fun d' => c_X8_append L xs n d' i (g_X8_append c (g_X8_append b (g_X8_append a S))) R) ?_
    rintro _ _ _ ⟨rfl, rfl, rfl⟩
    refine u_st rfl (fun _ => rfl) ?_
    show u_P L xs n d m_X11_feed 48 [(0, .ref 1), (1, .int a), (2, .int b), (3, .int c), (4, .int i), (5, .int j)] [.ref 1] (g_X8_append i (g_X8_append c (g_X8_append b (g_X8_append a S)))) R _
    refine u_getr rfl v_tyC rfl ?_
    refine u_st rfl (fun _ => rfl) ?_
    show u_P L xs n d m_X11_feed 53 [(0, .ref 1), (1, .int a), (2, .int b), (3, .int c), (4, .int i), (5, .int j)] [.int j, .ref 46] (g_X8_append i (g_X8_append c (g_X8_append b (g_X8_append a S)))) R _
    refine u_cv (rest := []) rfl (by decide) mt_X8_append rfl rfl rfl rfl (Nat.le_of_ble_eq_true rfl) (Nat.le_of_ble_eq_true rfl) (Nat.le_of_ble_eq_true rfl) (fun d' => c_X8_append L xs n d' j (g_X8_append i (g_X8_append c (g_X8_append b (g_X8_append a S)))) R) ?_
    rintro _ _ _ ⟨rfl, rfl, rfl⟩
    refine u_st rfl (fun _ => rfl) ?_
    show u_P L xs n d m_X11_feed 57 [(0, .ref 1), (1, .int a), (2, .int b), (3, .int c), (4, .int i), (5, .int j)] [.ref 1] (g_X8_append j (g_X8_append i (g_X8_append c (g_X8_append b (g_X8_append a S))))) R _
    refine u_getr rfl v_tyC rfl ?_
    show u_P L xs n d m_X11_feed 60 [(0, .ref 1), (1, .int a), (2, .int b), (3, .int c), (4, .int i), (5, .int j)] [.ref 46] (g_X8_append j (g_X8_append i (g_X8_append c (g_X8_append b (g_X8_append a S))))) R _
    refine u_getE (v := (g_X8_append j (g_X8_append i (g_X8_append c (g_X8_append b (g_X8_append a S))))) 45 1) rfl rfl rfl rfl ?_
    show u_P L xs n d m_X11_feed 63 [(0, .ref 1), (1, .int a), (2, .int b), (3, .int c), (4, .int i), (5, .int j)] [.int ((g_X8_append j (g_X8_append i (g_X8_append c (g_X8_append b (g_X8_append a S))))) 45 1)] (g_X8_append j (g_X8_append i (g_X8_append c (g_X8_append b (g_X8_append a S))))) R _
    exact u_ret rfl rfl ⟨_, rfl, rfl, by rw [f_X11_feed, if_pos h1], by rw [g_X11_feed, if_pos h1]⟩
  · show u_P L xs n d m_X11_feed 12 [(0, .ref 1), (1, .int a), (2, .int b), (3, .int c), (4, .int i), (5, .int j)] [] S R _
    refine u_st rfl (fun _ => rfl) ?_
    show u_P L xs n d m_X11_feed 13 [(0, .ref 1), (1, .int a), (2, .int b), (3, .int c), (4, .int i), (5, .int j)] [.int (Int32.ofInt (-1))] S R _
    exact u_ret rfl rfl ⟨_, rfl, rfl, by rw [f_X11_feed, if_neg h1], by rw [g_X11_feed, if_neg h1]⟩
noncomputable def f_J6_bitCount_0f7a4 (a : Int32) : Int32 := (((((((a - (((a.toUInt32 >>> ((Int32.ofInt 1).toUInt32 &&& Int32.toUInt32 31)).toInt32) &&& (Int32.ofInt 1431655765))) &&& (Int32.ofInt 858993459)) + ((((a - (((a.toUInt32 >>> ((Int32.ofInt 1).toUInt32 &&& Int32.toUInt32 31)).toInt32) &&& (Int32.ofInt 1431655765))).toUInt32 >>> ((Int32.ofInt 2).toUInt32 &&& Int32.toUInt32 31)).toInt32) &&& (Int32.ofInt 858993459))) + (((((a - (((a.toUInt32 >>> ((Int32.ofInt 1).toUInt32 &&& Int32.toUInt32 31)).toInt32) &&& (Int32.ofInt 1431655765))) &&& (Int32.ofInt 858993459)) + ((((a - (((a.toUInt32 >>> ((Int32.ofInt 1).toUInt32 &&& Int32.toUInt32 31)).toInt32) &&& (Int32.ofInt 1431655765))).toUInt32 >>> ((Int32.ofInt 2).toUInt32 &&& Int32.toUInt32 31)).toInt32) &&& (Int32.ofInt 858993459))).toUInt32 >>> ((Int32.ofInt 4).toUInt32 &&& Int32.toUInt32 31)).toInt32)) &&& (Int32.ofInt 252645135)) + (((((((a - (((a.toUInt32 >>> ((Int32.ofInt 1).toUInt32 &&& Int32.toUInt32 31)).toInt32) &&& (Int32.ofInt 1431655765))) &&& (Int32.ofInt 858993459)) + ((((a - (((a.toUInt32 >>> ((Int32.ofInt 1).toUInt32 &&& Int32.toUInt32 31)).toInt32) &&& (Int32.ofInt 1431655765))).toUInt32 >>> ((Int32.ofInt 2).toUInt32 &&& Int32.toUInt32 31)).toInt32) &&& (Int32.ofInt 858993459))) + (((((a - (((a.toUInt32 >>> ((Int32.ofInt 1).toUInt32 &&& Int32.toUInt32 31)).toInt32) &&& (Int32.ofInt 1431655765))) &&& (Int32.ofInt 858993459)) + ((((a - (((a.toUInt32 >>> ((Int32.ofInt 1).toUInt32 &&& Int32.toUInt32 31)).toInt32) &&& (Int32.ofInt 1431655765))).toUInt32 >>> ((Int32.ofInt 2).toUInt32 &&& Int32.toUInt32 31)).toInt32) &&& (Int32.ofInt 858993459))).toUInt32 >>> ((Int32.ofInt 4).toUInt32 &&& Int32.toUInt32 31)).toInt32)) &&& (Int32.ofInt 252645135)).toUInt32 >>> ((Int32.ofInt 8).toUInt32 &&& Int32.toUInt32 31)).toInt32)) + ((((((((a - (((a.toUInt32 >>> ((Int32.ofInt 1).toUInt32 &&& Int32.toUInt32 31)).toInt32) &&& (Int32.ofInt 1431655765))) &&& (Int32.ofInt 858993459)) + ((((a - (((a.toUInt32 >>> ((Int32.ofInt 1).toUInt32 &&& Int32.toUInt32 31)).toInt32) &&& (Int32.ofInt 1431655765))).toUInt32 >>> ((Int32.ofInt 2).toUInt32 &&& Int32.toUInt32 31)).toInt32) &&& (Int32.ofInt 858993459))) + (((((a - (((a.toUInt32 >>> ((Int32.ofInt 1).toUInt32 &&& Int32.toUInt32 31)).toInt32) &&& (Int32.ofInt 1431655765))) &&& (Int32.ofInt 858993459)) + ((((a - (((a.toUInt32 >>> ((Int32.ofInt 1).toUInt32 &&& Int32.toUInt32 31)).toInt32) &&& (Int32.ofInt 1431655765))).toUInt32 >>> ((Int32.ofInt 2).toUInt32 &&& Int32.toUInt32 31)).toInt32) &&& (Int32.ofInt 858993459))).toUInt32 >>> ((Int32.ofInt 4).toUInt32 &&& Int32.toUInt32 31)).toInt32)) &&& (Int32.ofInt 252645135)) + (((((((a - (((a.toUInt32 >>> ((Int32.ofInt 1).toUInt32 &&& Int32.toUInt32 31)).toInt32) &&& (Int32.ofInt 1431655765))) &&& (Int32.ofInt 858993459)) + ((((a - (((a.toUInt32 >>> ((Int32.ofInt 1).toUInt32 &&& Int32.toUInt32 31)).toInt32) &&& (Int32.ofInt 1431655765))).toUInt32 >>> ((Int32.ofInt 2).toUInt32 &&& Int32.toUInt32 31)).toInt32) &&& (Int32.ofInt 858993459))) + (((((a - (((a.toUInt32 >>> ((Int32.ofInt 1).toUInt32 &&& Int32.toUInt32 31)).toInt32) &&& (Int32.ofInt 1431655765))) &&& (Int32.ofInt 858993459)) + ((((a - (((a.toUInt32 >>> ((Int32.ofInt 1).toUInt32 &&& Int32.toUInt32 31)).toInt32) &&& (Int32.ofInt 1431655765))).toUInt32 >>> ((Int32.ofInt 2).toUInt32 &&& Int32.toUInt32 31)).toInt32) &&& (Int32.ofInt 858993459))).toUInt32 >>> ((Int32.ofInt 4).toUInt32 &&& Int32.toUInt32 31)).toInt32)) &&& (Int32.ofInt 252645135)).toUInt32 >>> ((Int32.ofInt 8).toUInt32 &&& Int32.toUInt32 31)).toInt32)).toUInt32 >>> ((Int32.ofInt 16).toUInt32 &&& Int32.toUInt32 31)).toInt32)) &&& (Int32.ofInt 63)
set_option maxRecDepth 4000 in
theorem c_J6_bitCount_0f7a4 (L : Nat) (xs : Nat → Int32) (n d : Nat) (a : Int32) (S : v_Sf) (R : v_Rf) : u_P L xs n d m_J6_bitCount_0f7a4 0 (lv_args 0 [.int a]) [] S R (z_Q R (fun v S1 => f_J6_bitCount_0f7a4 a = v ∧ S = S1)) := by
  show u_P L xs n d m_J6_bitCount_0f7a4 0 [(0, .int a)] [] S R _
  refine u_st rfl (fun _ => rfl) ?_
  refine u_st rfl (fun _ => rfl) ?_
  refine u_st rfl (fun _ => rfl) ?_
  refine u_st rfl (fun _ => rfl) ?_
  refine u_st rfl (fun _ => rfl) ?_
  refine u_st rfl (fun _ => rfl) ?_
  refine u_st rfl (fun _ => rfl) ?_
  refine u_st rfl (fun _ => rfl) ?_
  refine u_st rfl (fun _ => rfl) ?_
  refine u_st rfl (fun _ => rfl) ?_
  refine u_st rfl (fun _ => rfl) ?_
  refine u_st rfl (fun _ => rfl) ?_
  refine u_st rfl (fun _ => rfl) ?_
  refine u_st rfl (fun _ => rfl) ?_
  refine u_st rfl (fun _ => rfl) ?_
  refine u_st rfl (fun _ => rfl) ?_
  refine u_st rfl (fun _ => rfl) ?_
  refine u_st rfl (fun _ => rfl) ?_
  refine u_st rfl (fun _ => rfl) ?_
  refine u_st rfl (fun _ => rfl) ?_
  refine u_st rfl (fun _ => rfl) ?_
  refine u_st rfl (fun _ => rfl) ?_
  refine u_st rfl (fun _ => rfl) ?_
  refine u_st rfl (fun _ => rfl) ?_
  refine u_st rfl (fun _ => rfl) ?_
  refine u_st rfl (fun _ => rfl) ?_
  refine u_st rfl (fun _ => rfl) ?_
  refine u_st rfl (fun _ => rfl) ?_
  refine u_st rfl (fun _ => rfl) ?_
  refine u_st rfl (fun _ => rfl) ?_
  refine u_st rfl (fun _ => rfl) ?_
  refine u_st rfl (fun _ => rfl) ?_
  refine u_st rfl (fun _ => rfl) ?_
  refine u_st rfl (fun _ => rfl) ?_
  refine u_st rfl (fun _ => rfl) ?_
  refine u_st rfl (fun _ => rfl) ?_
  refine u_st rfl (fun _ => rfl) ?_
  refine u_st rfl (fun _ => rfl) ?_
  refine u_st rfl (fun _ => rfl) ?_
  refine u_st rfl (fun _ => rfl) ?_
  refine u_st rfl (fun _ => rfl) ?_
  show u_P L xs n d m_J6_bitCount_0f7a4 52 [(0, .int (((((((a - (((a.toUInt32 >>> ((Int32.ofInt 1).toUInt32 &&& Int32.toUInt32 31)).toInt32) &&& (Int32.ofInt 1431655765))) &&& (Int32.ofInt 858993459)) + ((((a - (((a.toUInt32 >>> ((Int32.ofInt 1).toUInt32 &&& Int32.toUInt32 31)).toInt32) &&& (Int32.ofInt 1431655765))).toUInt32 >>> ((Int32.ofInt 2).toUInt32 &&& Int32.toUInt32 31)).toInt32) &&& (Int32.ofInt 858993459))) + (((((a - (((a.toUInt32 >>> ((Int32.ofInt 1).toUInt32 &&& Int32.toUInt32 31)).toInt32) &&& (Int32.ofInt 1431655765))) &&& (Int32.ofInt 858993459)) + ((((a - (((a.toUInt32 >>> ((Int32.ofInt 1).toUInt32 &&& Int32.toUInt32 31)).toInt32) &&& (Int32.ofInt 1431655765))).toUInt32 >>> ((Int32.ofInt 2).toUInt32 &&& Int32.toUInt32 31)).toInt32) &&& (Int32.ofInt 858993459))).toUInt32 >>> ((Int32.ofInt 4).toUInt32 &&& Int32.toUInt32 31)).toInt32)) &&& (Int32.ofInt 252645135)) + (((((((a - (((a.toUInt32 >>> ((Int32.ofInt 1).toUInt32 &&& Int32.toUInt32 31)).toInt32) &&& (Int32.ofInt 1431655765))) &&& (Int32.ofInt 858993459)) + ((((a - (((a.toUInt32 >>> ((Int32.ofInt 1).toUInt32 &&& Int32.toUInt32 31)).toInt32) &&& (Int32.ofInt 1431655765))).toUInt32 >>> ((Int32.ofInt 2).toUInt32 &&& Int32.toUInt32 31)).toInt32) &&& (Int32.ofInt 858993459))) + (((((a - (((a.toUInt32 >>> ((Int32.ofInt 1).toUInt32 &&& Int32.toUInt32 31)).toInt32) &&& (Int32.ofInt 1431655765))) &&& (Int32.ofInt 858993459)) + ((((a - (((a.toUInt32 >>> ((Int32.ofInt 1).toUInt32 &&& Int32.toUInt32 31)).toInt32) &&& (Int32.ofInt 1431655765))).toUInt32 >>> ((Int32.ofInt 2).toUInt32 &&& Int32.toUInt32 31)).toInt32) &&& (Int32.ofInt 858993459))).toUInt32 >>> ((Int32.ofInt 4).toUInt32 &&& Int32.toUInt32 31)).toInt32)) &&& (Int32.ofInt 252645135)).toUInt32 >>> ((Int32.ofInt 8).toUInt32 &&& Int32.toUInt32 31)).toInt32)) + ((((((((a - (((a.toUInt32 >>> ((Int32.ofInt 1).toUInt32 &&& Int32.toUInt32 31)).toInt32) &&& (Int32.ofInt 1431655765))) &&& (Int32.ofInt 858993459)) + ((((a - (((a.toUInt32 >>> ((Int32.ofInt 1).toUInt32 &&& Int32.toUInt32 31)).toInt32) &&& (Int32.ofInt 1431655765))).toUInt32 >>> ((Int32.ofInt 2).toUInt32 &&& Int32.toUInt32 31)).toInt32) &&& (Int32.ofInt 858993459))) + (((((a - (((a.toUInt32 >>> ((Int32.ofInt 1).toUInt32 &&& Int32.toUInt32 31)).toInt32) &&& (Int32.ofInt 1431655765))) &&& (Int32.ofInt 858993459)) + ((((a - (((a.toUInt32 >>> ((Int32.ofInt 1).toUInt32 &&& Int32.toUInt32 31)).toInt32) &&& (Int32.ofInt 1431655765))).toUInt32 >>> ((Int32.ofInt 2).toUInt32 &&& Int32.toUInt32 31)).toInt32) &&& (Int32.ofInt 858993459))).toUInt32 >>> ((Int32.ofInt 4).toUInt32 &&& Int32.toUInt32 31)).toInt32)) &&& (Int32.ofInt 252645135)) + (((((((a - (((a.toUInt32 >>> ((Int32.ofInt 1).toUInt32 &&& Int32.toUInt32 31)).toInt32) &&& (Int32.ofInt 1431655765))) &&& (Int32.ofInt 858993459)) + ((((a - (((a.toUInt32 >>> ((Int32.ofInt 1).toUInt32 &&& Int32.toUInt32 31)).toInt32) &&& (Int32.ofInt 1431655765))).toUInt32 >>> ((Int32.ofInt 2).toUInt32 &&& Int32.toUInt32 31)).toInt32) &&& (Int32.ofInt 858993459))) + (((((a - (((a.toUInt32 >>> ((Int32.ofInt 1).toUInt32 &&& Int32.toUInt32 31)).toInt32) &&& (Int32.ofInt 1431655765))) &&& (Int32.ofInt 858993459)) + ((((a - (((a.toUInt32 >>> ((Int32.ofInt 1).toUInt32 &&& Int32.toUInt32 31)).toInt32) &&& (Int32.ofInt 1431655765))).toUInt32 >>> ((Int32.ofInt 2).toUInt32 &&& Int32.toUInt32 31)).toInt32) &&& (Int32.ofInt 858993459))).toUInt32 >>> ((Int32.ofInt 4).toUInt32 &&& Int32.toUInt32 31)).toInt32)) &&& (Int32.ofInt 252645135)).toUInt32 >>> ((Int32.ofInt 8).toUInt32 &&& Int32.toUInt32 31)).toInt32)).toUInt32 >>> ((Int32.ofInt 16).toUInt32 &&& Int32.toUInt32 31)).toInt32)))] [.int ((((((((a - (((a.toUInt32 >>> ((Int32.ofInt 1).toUInt32 &&& Int32.toUInt32 31)).toInt32) &&& (Int32.ofInt 1431655765))) &&& (Int32.ofInt 858993459)) + ((((a - (((a.toUInt32 >>> ((Int32.ofInt 1).toUInt32 &&& Int32.toUInt32 31)).toInt32) &&& (Int32.ofInt 1431655765))).toUInt32 >>> ((Int32.ofInt 2).toUInt32 &&& Int32.toUInt32 31)).toInt32) &&& (Int32.ofInt 858993459))) + (((((a - (((a.toUInt32 >>> ((Int32.ofInt 1).toUInt32 &&& Int32.toUInt32 31)).toInt32) &&& (Int32.ofInt 1431655765))) &&& (Int32.ofInt 858993459)) + ((((a - (((a.toUInt32 >>> ((Int32.ofInt 1).toUInt32 &&& Int32.toUInt32 31)).toInt32) &&& (Int32.ofInt 1431655765))).toUInt32 >>> ((Int32.ofInt 2).toUInt32 &&& Int32.toUInt32 31)).toInt32) &&& (Int32.ofInt 858993459))).toUInt32 >>> ((Int32.ofInt 4).toUInt32 &&& Int32.toUInt32 31)).toInt32)) &&& (Int32.ofInt 252645135)) + (((((((a - (((a.toUInt32 >>> ((Int32.ofInt 1).toUInt32 &&& Int32.toUInt32 31)).toInt32) &&& (Int32.ofInt 1431655765))) &&& (Int32.ofInt 858993459)) + ((((a - (((a.toUInt32 >>> ((Int32.ofInt 1).toUInt32 &&& Int32.toUInt32 31)).toInt32) &&& (Int32.ofInt 1431655765))).toUInt32 >>> ((Int32.ofInt 2).toUInt32 &&& Int32.toUInt32 31)).toInt32) &&& (Int32.ofInt 858993459))) + (((((a - (((a.toUInt32 >>> ((Int32.ofInt 1).toUInt32 &&& Int32.toUInt32 31)).toInt32) &&& (Int32.ofInt 1431655765))) &&& (Int32.ofInt 858993459)) + ((((a - (((a.toUInt32 >>> ((Int32.ofInt 1).toUInt32 &&& Int32.toUInt32 31)).toInt32) &&& (Int32.ofInt 1431655765))).toUInt32 >>> ((Int32.ofInt 2).toUInt32 &&& Int32.toUInt32 31)).toInt32) &&& (Int32.ofInt 858993459))).toUInt32 >>> ((Int32.ofInt 4).toUInt32 &&& Int32.toUInt32 31)).toInt32)) &&& (Int32.ofInt 252645135)).toUInt32 >>> ((Int32.ofInt 8).toUInt32 &&& Int32.toUInt32 31)).toInt32)) + ((((((((a - (((a.toUInt32 >>> ((Int32.ofInt 1).toUInt32 &&& Int32.toUInt32 31)).toInt32) &&& (Int32.ofInt 1431655765))) &&& (Int32.ofInt 858993459)) + ((((a - (((a.toUInt32 >>> ((Int32.ofInt 1).toUInt32 &&& Int32.toUInt32 31)).toInt32) &&& (Int32.ofInt 1431655765))).toUInt32 >>> ((Int32.ofInt 2).toUInt32 &&& Int32.toUInt32 31)).toInt32) &&& (Int32.ofInt 858993459))) + (((((a - (((a.toUInt32 >>> ((Int32.ofInt 1).toUInt32 &&& Int32.toUInt32 31)).toInt32) &&& (Int32.ofInt 1431655765))) &&& (Int32.ofInt 858993459)) + ((((a - (((a.toUInt32 >>> ((Int32.ofInt 1).toUInt32 &&& Int32.toUInt32 31)).toInt32) &&& (Int32.ofInt 1431655765))).toUInt32 >>> ((Int32.ofInt 2).toUInt32 &&& Int32.toUInt32 31)).toInt32) &&& (Int32.ofInt 858993459))).toUInt32 >>> ((Int32.ofInt 4).toUInt32 &&& Int32.toUInt32 31)).toInt32)) &&& (Int32.ofInt 252645135)) + (((((((a - (((a.toUInt32 >>> ((Int32.ofInt 1).toUInt32 &&& Int32.toUInt32 31)).toInt32) &&& (Int32.ofInt 1431655765))) &&& (Int32.ofInt 858993459)) + ((((a - (((a.toUInt32 >>> ((Int32.ofInt 1).toUInt32 &&& Int32.toUInt32 31)).toInt32) &&& (Int32.ofInt 1431655765))).toUInt32 >>> ((Int32.ofInt 2).toUInt32 &&& Int32.toUInt32 31)).toInt32) &&& (Int32.ofInt 858993459))) + (((((a - (((a.toUInt32 >>> ((Int32.ofInt 1).toUInt32 &&& Int32.toUInt32 31)).toInt32) &&& (Int32.ofInt 1431655765))) &&& (Int32.ofInt 858993459)) + ((((a - (((a.toUInt32 >>> ((Int32.ofInt 1).toUInt32 &&& Int32.toUInt32 31)).toInt32) &&& (Int32.ofInt 1431655765))).toUInt32 >>> ((Int32.ofInt 2).toUInt32 &&& Int32.toUInt32 31)).toInt32) &&& (Int32.ofInt 858993459))).toUInt32 >>> ((Int32.ofInt 4).toUInt32 &&& Int32.toUInt32 31)).toInt32)) &&& (Int32.ofInt 252645135)).toUInt32 >>> ((Int32.ofInt 8).toUInt32 &&& Int32.toUInt32 31)).toInt32)).toUInt32 >>> ((Int32.ofInt 16).toUInt32 &&& Int32.toUInt32 31)).toInt32)) &&& (Int32.ofInt 63))] S R _
  exact u_ret rfl rfl ⟨_, rfl, rfl, rfl, rfl⟩
noncomputable abbrev m_J7_fill_53178 : g_M := (g_cn 16, yJ7_fill_53178, cJ7_fill_53178, 4, none, g_look2 ttJ7_fill_53178)
set_option maxRecDepth 20000 in
theorem mt_J7_fill_53178 : g_mt 300 = some m_J7_fill_53178 := rfl
noncomputable def D_fill51_5  (H5 : Int32 → Int32 → Int32 → v_Sf → Prop) (K : v_Sf → Prop) (x1 : Int32) (x2 : Int32) (x3 : Int32) (S : v_Sf) : Prop := ((x3 ≤ x2 → K S) ∧ (¬ (x3 ≤ x2) → (0 ≤ x2.toInt → x2.toInt < 15 → H5 x1 (x2 + (Int32.ofInt 1)) x3 (z_s S 51 x2.toInt.toNat x1))))
noncomputable def D_fill51 (v : Int32) (H5 : Int32 → Int32 → Int32 → v_Sf → Prop) (K : v_Sf → Prop) (S : v_Sf) : Prop := H5 v (Int32.ofInt 0) (Int32.ofNat 15) S
set_option maxRecDepth 4000 in
theorem hd_fill51 (L : Nat) (xs : Nat → Int32) {R : v_Rf} (v : Int32) (H5 : Int32 → Int32 → Int32 → v_Sf → Prop) (K : v_Sf → Prop) (k5 : ∀ (x1 : Int32) (x2 : Int32) (x3 : Int32) (S : v_Sf), H5 x1 x2 x3 S → D_fill51_5 H5 K x1 x2 x3 S) : ∀ n, (∀ (d : Nat) (x1 : Int32) (x2 : Int32) (x3 : Int32) (S : v_Sf), H5 x1 x2 x3 S → u_P L xs n d m_J7_fill_53178 5 [(0, .ref 52), (1, .int x1), (2, .int x2), (3, .int x3)] [] S R (z_V R K)) := by
  intro n
  induction n using Nat.strongRecOn with
  | ind n ih =>
    intro d x1 x2 x3 S hD
    have hD := k5 x1 x2 x3 S hD
    unfold D_fill51_5 at hD
    show u_P L xs n d m_J7_fill_53178 5 [(0, .ref 52), (1, .int x1), (2, .int x2), (3, .int x3)] [] S R _
    refine u_st1 rfl (fun _ => rfl) (fun m hm => ?_)
    refine u_st rfl (fun _ => rfl) ?_
    show u_P L xs m d m_J7_fill_53178 7 [(0, .ref 52), (1, .int x1), (2, .int x2), (3, .int x3)] [.int x3, .int x2] S R _
    refine u_ic_ge rfl (fun h1 => ?_) (fun h1 => ?_)
    · have hD := hD.1 h1
      show u_P L xs m d m_J7_fill_53178 20 [(0, .ref 52), (1, .int x1), (2, .int x2), (3, .int x3)] [] S R _
      exact u_ret rfl rfl ⟨rfl, rfl, hD⟩
    · have hD := hD.2 h1
      show u_P L xs m d m_J7_fill_53178 10 [(0, .ref 52), (1, .int x1), (2, .int x2), (3, .int x3)] [] S R _
      refine u_st rfl (fun _ => rfl) ?_
      refine u_st rfl (fun _ => rfl) ?_
      refine u_st rfl (fun _ => rfl) ?_
      show u_P L xs m d m_J7_fill_53178 13 [(0, .ref 52), (1, .int x1), (2, .int x2), (3, .int x3)] [.int x1, .int x2, .ref 52] S R _
      refine u_iast rfl rfl (fun b21 b22 => ?_)
      have hD := hD b21 b22
      show u_P L xs m d m_J7_fill_53178 14 [(0, .ref 52), (1, .int x1), (2, .int x2), (3, .int x3)] [] (z_s S 51 x2.toInt.toNat x1) R _
      refine u_st rfl (fun _ => rfl) ?_
      refine u_st rfl (fun _ => rfl) ?_
      refine u_lc (b := [(0, .ref 52), (1, .int x1), (2, .int (x2 + (Int32.ofInt 1))), (3, .int x3)]) (show ([2, 0, 1, 3] : List Nat).Nodup by decide) (show ([0, 1, 2, 3] : List Nat).Nodup by decide) (fun i => match i with | 0 => rfl | 1 => rfl | 2 => rfl | 3 => rfl | _ + 4 => rfl) ?_
      exact (ih m hm) d x1 (x2 + (Int32.ofInt 1)) x3 (z_s S 51 x2.toInt.toNat x1) hD
set_option maxRecDepth 4000 in
theorem w_fill51 (L : Nat) (xs : Nat → Int32) {R : v_Rf} (v : Int32) (H5 : Int32 → Int32 → Int32 → v_Sf → Prop) (K : v_Sf → Prop) (k5 : ∀ (x1 : Int32) (x2 : Int32) (x3 : Int32) (S : v_Sf), H5 x1 x2 x3 S → D_fill51_5 H5 K x1 x2 x3 S) (n d : Nat) (S : v_Sf) (hD : D_fill51 v H5 K S) : u_P L xs n d m_J7_fill_53178 0 (lv_args 0 [.ref 52, .int v]) [] S R (z_V R K) := by
  unfold D_fill51 at hD
  show u_P L xs n d m_J7_fill_53178 0 [(0, .ref 52), (1, .int v)] [] S R _
  refine u_st rfl (fun _ => rfl) ?_
  refine u_st rfl (fun _ => rfl) ?_
  refine u_st rfl (fun _ => rfl) ?_
  show u_P L xs n d m_J7_fill_53178 3 [(2, .int (Int32.ofInt 0)), (0, .ref 52), (1, .int v)] [.ref 52] S R _
  refine u_al rfl rfl rfl ?_
  refine u_st rfl (fun _ => rfl) ?_
  refine u_lc (b := [(0, .ref 52), (1, .int v), (2, .int (Int32.ofInt 0)), (3, .int (Int32.ofNat 15))]) (show ([3, 2, 0, 1] : List Nat).Nodup by decide) (show ([0, 1, 2, 3] : List Nat).Nodup by decide) (fun i => match i with | 0 => rfl | 1 => rfl | 2 => rfl | 3 => rfl | _ + 4 => rfl) ?_
  exact (hd_fill51 L xs v H5 K k5 n) d v (Int32.ofInt 0) (Int32.ofNat 15) S hD
noncomputable def r_fill51_5 (x1 : Int32) (x3 : Int32) : Nat → Nat → v_Sf → v_Sf
  | 0, k5, S => S
  | r + 1, k5, S => r_fill51_5 x1 x3 r (k5 + 1) (z_s S 51 (z_i k5).toInt.toNat x1)
noncomputable def F_fill51 (v : Int32) (S : v_Sf) : v_Sf := r_fill51_5 v (Int32.ofNat 15) (((Int32.ofNat 15)).toInt.toNat - 0) 0 S
noncomputable def g_fill51 (v : Int32) (S : v_Sf) : v_Sf := F_fill51 v S
theorem c_fill51 (L : Nat) (xs : Nat → Int32) (n d : Nat) (v : Int32) (S : v_Sf) (R : v_Rf) : u_P L xs n d m_J7_fill_53178 0 (lv_args 0 [.ref 52, .int v]) [] S R (z_V R (fun S1 => g_fill51 v S = S1)) := by
  refine w_fill51 L xs v (fun y1 y2 y3 T => ∃ (k5 : Nat), k5 ≤ ((Int32.ofNat 15)).toInt.toNat ∧ z_i k5 = y2 ∧ v = y1 ∧ Int32.ofNat 15 = y3 ∧ r_fill51_5 v (Int32.ofNat 15) (((Int32.ofNat 15)).toInt.toNat - k5) k5 T = F_fill51 v S) (fun S1 => g_fill51 v S = S1) ?_ n d S ?_
  · rintro _ _ _ S1 ⟨k5, hkk, rfl, rfl, rfl, e⟩
    unfold D_fill51_5
    rcases Nat.lt_or_ge k5 (((Int32.ofNat 15)).toInt.toNat) with hk | hk
    · rw [show ((Int32.ofNat 15)).toInt.toNat - k5 = (((Int32.ofNat 15)).toInt.toNat - (k5 + 1)) + 1 by omega, r_fill51_5] at e
      refine ⟨fun q1 => ?_, fun q1 => ?_⟩
      · exact absurd hk (Nat.not_lt.mpr (z_leV q1 (by omega)))
      · intro _ _
        exact ⟨(k5 + 1), by omega, (z_i1 k5).symm, rfl, rfl, e⟩
    · rw [show ((Int32.ofNat 15)).toInt.toNat - k5 = 0 by omega, r_fill51_5] at e
      refine ⟨fun q2 => ?_, fun q2 => ?_⟩
      · exact e.symm
      · exact absurd hk (Nat.not_le.mpr (z_ltV q2 (by omega)))
  · unfold D_fill51
    have e : r_fill51_5 v (Int32.ofNat 15) (((Int32.ofNat 15)).toInt.toNat - 0) 0 S = F_fill51 v S := by rw [F_fill51]
    exact ⟨0, by omega, rfl, rfl, rfl, e⟩
noncomputable abbrev m_X1_run : g_M := (g_cn 1, yX1_run, cX1_run, 9, (some .int), g_look2 ttX1_run)
set_option maxRecDepth 20000 in
theorem mt_X1_run : g_mt 19 = some m_X1_run := rfl
noncomputable def D_X1_run_8 (c : Nat) (H8 : Int32 → Int32 → Int32 → v_Sf → Prop) (K : Int32 → v_Sf → Prop) (x3 : Int32) (x4 : Int32) (x5 : Int32) (S : v_Sf) : Prop := (((Int32.ofNat 256) ≤ x5 → K (Int32.ofInt 0) S) ∧ (¬ ((Int32.ofNat 256) ≤ x5) → ((x4 < 0 → K (Int32.ofInt 0) S) ∧ (¬ (x4 < 0) → (((S c 6) ≤ x4 → K (Int32.ofInt 0) S) ∧ (¬ ((S c 6) ≤ x4) → (0 ≤ x4.toInt → x4.toInt < 256 → (0 ≤ x4.toInt → x4.toInt < 256 → (((S (c + 1) x4.toInt.toNat) = (Int32.ofInt 1) → ((x3 < (Int32.ofNat 32) → (0 ≤ x3.toInt → x3.toInt < 32 → H8 (x3 + (Int32.ofInt 1)) (x4 + (Int32.ofInt 1)) (x5 + (Int32.ofInt 1)) (z_s S (c + 3) x3.toInt.toNat (S (c + 2) x4.toInt.toNat)))) ∧ (¬ (x3 < (Int32.ofNat 32)) → K (Int32.ofInt 0) S))) ∧ (¬ ((S (c + 1) x4.toInt.toNat) = (Int32.ofInt 1)) → (((¬ (S (c + 1) x4.toInt.toNat) = (Int32.ofInt 2)) → ((x3 < (Int32.ofInt 1) → (((Int32.ofInt 1) ≤ x3 → (0 ≤ (x3 - (Int32.ofInt 1)).toInt → (x3 - (Int32.ofInt 1)).toInt < 32 → K (S (c + 3) ((x3 - (Int32.ofInt 1)).toInt.toNat)) S)) ∧ (¬ ((Int32.ofInt 1) ≤ x3) → K (Int32.ofInt 0) S))) ∧ (¬ (x3 < (Int32.ofInt 1)) → (((¬ (S (c + 1) x4.toInt.toNat) = 0) → (((¬ (S (c + 1) x4.toInt.toNat) = (Int32.ofInt 3)) → (((S (c + 1) x4.toInt.toNat) = (Int32.ofInt 4) → (0 ≤ (x3 - (Int32.ofInt 1)).toInt → (x3 - (Int32.ofInt 1)).toInt < 32 → (((S (c + 3) ((x3 - (Int32.ofInt 1)).toInt.toNat)) = 0 → H8 x3 (S (c + 2) x4.toInt.toNat) (x5 + (Int32.ofInt 1)) S) ∧ (¬ ((S (c + 3) ((x3 - (Int32.ofInt 1)).toInt.toNat)) = 0) → H8 (x3 - (Int32.ofInt 1)) (x4 + (Int32.ofInt 1)) (x5 + (Int32.ofInt 1)) S)))) ∧ (¬ ((S (c + 1) x4.toInt.toNat) = (Int32.ofInt 4)) → (((¬ (S (c + 1) x4.toInt.toNat) = (Int32.ofInt 5)) → ((x3 < (Int32.ofInt 2) → K (Int32.ofInt 0) S) ∧ (¬ (x3 < (Int32.ofInt 2)) → (((S (c + 1) x4.toInt.toNat) = (Int32.ofInt 47) → (0 ≤ (x3 - (Int32.ofInt 1)).toInt → (x3 - (Int32.ofInt 1)).toInt < 32 → (((¬ (S (c + 3) ((x3 - (Int32.ofInt 1)).toInt.toNat)) = 0) → (0 ≤ ((x3 + (Int32.ofInt (-1))) - (Int32.ofInt 1)).toInt → ((x3 + (Int32.ofInt (-1))) - (Int32.ofInt 1)).toInt < 32 → (0 ≤ (x3 + (Int32.ofInt (-1))).toInt → (x3 + (Int32.ofInt (-1))).toInt < 32 → (0 ≤ ((x3 + (Int32.ofInt (-1))) - (Int32.ofInt 1)).toInt → ((x3 + (Int32.ofInt (-1))) - (Int32.ofInt 1)).toInt < 32 → H8 (x3 + (Int32.ofInt (-1))) (x4 + (Int32.ofInt 1)) (x5 + (Int32.ofInt 1)) (z_s S (c + 3) (((x3 + (Int32.ofInt (-1))) - (Int32.ofInt 1)).toInt.toNat) (f_X1_join (S (c + 1) x4.toInt.toNat) (S (c + 3) (((x3 + (Int32.ofInt (-1))) - (Int32.ofInt 1)).toInt.toNat)) (S (c + 3) ((x3 + (Int32.ofInt (-1))).toInt.toNat)))))))) ∧ (¬ (¬ (S (c + 3) ((x3 - (Int32.ofInt 1)).toInt.toNat)) = 0) → K (Int32.ofInt 0) S)))) ∧ (¬ ((S (c + 1) x4.toInt.toNat) = (Int32.ofInt 47)) → (((¬ (S (c + 1) x4.toInt.toNat) = (Int32.ofInt 37)) → (0 ≤ ((x3 + (Int32.ofInt (-1))) - (Int32.ofInt 1)).toInt → ((x3 + (Int32.ofInt (-1))) - (Int32.ofInt 1)).toInt < 32 → (0 ≤ (x3 + (Int32.ofInt (-1))).toInt → (x3 + (Int32.ofInt (-1))).toInt < 32 → (0 ≤ ((x3 + (Int32.ofInt (-1))) - (Int32.ofInt 1)).toInt → ((x3 + (Int32.ofInt (-1))) - (Int32.ofInt 1)).toInt < 32 → H8 (x3 + (Int32.ofInt (-1))) (x4 + (Int32.ofInt 1)) (x5 + (Int32.ofInt 1)) (z_s S (c + 3) (((x3 + (Int32.ofInt (-1))) - (Int32.ofInt 1)).toInt.toNat) (f_X1_join (S (c + 1) x4.toInt.toNat) (S (c + 3) (((x3 + (Int32.ofInt (-1))) - (Int32.ofInt 1)).toInt.toNat)) (S (c + 3) ((x3 + (Int32.ofInt (-1))).toInt.toNat)))))))) ∧ (¬ (¬ (S (c + 1) x4.toInt.toNat) = (Int32.ofInt 37)) → (0 ≤ (x3 - (Int32.ofInt 1)).toInt → (x3 - (Int32.ofInt 1)).toInt < 32 → (((¬ (S (c + 3) ((x3 - (Int32.ofInt 1)).toInt.toNat)) = 0) → (0 ≤ ((x3 + (Int32.ofInt (-1))) - (Int32.ofInt 1)).toInt → ((x3 + (Int32.ofInt (-1))) - (Int32.ofInt 1)).toInt < 32 → (0 ≤ (x3 + (Int32.ofInt (-1))).toInt → (x3 + (Int32.ofInt (-1))).toInt < 32 → (0 ≤ ((x3 + (Int32.ofInt (-1))) - (Int32.ofInt 1)).toInt → ((x3 + (Int32.ofInt (-1))) - (Int32.ofInt 1)).toInt < 32 → H8 (x3 + (Int32.ofInt (-1))) (x4 + (Int32.ofInt 1)) (x5 + (Int32.ofInt 1)) (z_s S (c + 3) (((x3 + (Int32.ofInt (-1))) - (Int32.ofInt 1)).toInt.toNat) (f_X1_join (S (c + 1) x4.toInt.toNat) (S (c + 3) (((x3 + (Int32.ofInt (-1))) - (Int32.ofInt 1)).toInt.toNat)) (S (c + 3) ((x3 + (Int32.ofInt (-1))).toInt.toNat)))))))) ∧ (¬ (¬ (S (c + 3) ((x3 - (Int32.ofInt 1)).toInt.toNat)) = 0) → K (Int32.ofInt 0) S)))))))))) ∧ (¬ (¬ (S (c + 1) x4.toInt.toNat) = (Int32.ofInt 5)) → (0 ≤ (x3 - (Int32.ofInt 1)).toInt → (x3 - (Int32.ofInt 1)).toInt < 32 → (((S (c + 3) ((x3 - (Int32.ofInt 1)).toInt.toNat)) = 0 → H8 (x3 - (Int32.ofInt 1)) (x4 + (Int32.ofInt 1)) (x5 + (Int32.ofInt 1)) S) ∧ (¬ ((S (c + 3) ((x3 - (Int32.ofInt 1)).toInt.toNat)) = 0) → H8 x3 (S (c + 2) x4.toInt.toNat) (x5 + (Int32.ofInt 1)) S)))))))) ∧ (¬ (¬ (S (c + 1) x4.toInt.toNat) = (Int32.ofInt 3)) → (0 ≤ (x3 - (Int32.ofInt 1)).toInt → (x3 - (Int32.ofInt 1)).toInt < 32 → (0 ≤ (x3 - (Int32.ofInt 1)).toInt → (x3 - (Int32.ofInt 1)).toInt < 32 → H8 x3 (x4 + (Int32.ofInt 1)) (x5 + (Int32.ofInt 1)) (z_s S (c + 3) ((x3 - (Int32.ofInt 1)).toInt.toNat) ((Int32.ofInt 1) - (S (c + 3) ((x3 - (Int32.ofInt 1)).toInt.toNat))))))))) ∧ (¬ (¬ (S (c + 1) x4.toInt.toNat) = 0) → (((Int32.ofInt 1) ≤ x3 → (0 ≤ (x3 - (Int32.ofInt 1)).toInt → (x3 - (Int32.ofInt 1)).toInt < 32 → K (S (c + 3) ((x3 - (Int32.ofInt 1)).toInt.toNat)) S)) ∧ (¬ ((Int32.ofInt 1) ≤ x3) → K (Int32.ofInt 0) S))))))) ∧ (¬ (¬ (S (c + 1) x4.toInt.toNat) = (Int32.ofInt 2)) → ((x3 < (Int32.ofNat 32) → (0 ≤ x3.toInt → x3.toInt < 32 → H8 (x3 + (Int32.ofInt 1)) (x4 + (Int32.ofInt 1)) (x5 + (Int32.ofInt 1)) (z_s S (c + 3) x3.toInt.toNat (f_X1_valueAt (S (c + 2) x4.toInt.toNat) S)))) ∧ (¬ (x3 < (Int32.ofNat 32)) → K (Int32.ofInt 0) S))))))))))))))
noncomputable def D_X1_run (c : Nat) (a : Int32) (H8 : Int32 → Int32 → Int32 → v_Sf → Prop) (K : Int32 → v_Sf → Prop) (S : v_Sf) : Prop := H8 (Int32.ofInt 0) a (Int32.ofInt 0) S
set_option maxRecDepth 4000 in
theorem hd_X1_run (L : Nat) (xs : Nat → Int32) {R : v_Rf} (c : Nat) (hc : z_cd c) (a : Int32) (H8 : Int32 → Int32 → Int32 → v_Sf → Prop) (K : Int32 → v_Sf → Prop) (k8 : ∀ (x3 : Int32) (x4 : Int32) (x5 : Int32) (S : v_Sf), H8 x3 x4 x5 S → D_X1_run_8 c H8 K x3 x4 x5 S) : ∀ n, (∀ (d : Nat) (j1 : Int32) (x3 : Int32) (x4 : Int32) (x5 : Int32) (S : v_Sf), H8 x3 x4 x5 S → u_P L xs n d m_X1_run 8 [(0, .ref (c + 1)), (1, .int j1), (2, .ref 52), (3, .int x3), (4, .int x4), (5, .int x5)] [] S R (z_Q R K)) ∧ (∀ (d : Nat) (j1 : Int32) (j6 : Int32) (j7 : Int32) (x3 : Int32) (x4 : Int32) (x5 : Int32) (S : v_Sf), H8 x3 x4 x5 S → u_P L xs n d m_X1_run 8 [(0, .ref (c + 1)), (1, .int j1), (2, .ref 52), (3, .int x3), (4, .int x4), (5, .int x5), (6, .int j6), (7, .int j7)] [] S R (z_Q R K)) ∧ (∀ (d : Nat) (j1 : Int32) (j6 : Int32) (j7 : Int32) (j8 : Int32) (x3 : Int32) (x4 : Int32) (x5 : Int32) (S : v_Sf), H8 x3 x4 x5 S → u_P L xs n d m_X1_run 8 [(0, .ref (c + 1)), (1, .int j1), (2, .ref 52), (3, .int x3), (4, .int x4), (5, .int x5), (6, .int j6), (7, .int j7), (8, .int j8)] [] S R (z_Q R K)) := by
  intro n
  induction n using Nat.strongRecOn with
  | ind n ih =>
    refine ⟨?_, ?_, ?_⟩
    · intro d j1 x3 x4 x5 S hD
      have hD := k8 x3 x4 x5 S hD
      unfold D_X1_run_8 at hD
      show u_P L xs n d m_X1_run 8 [(0, .ref (c + 1)), (1, .int j1), (2, .ref 52), (3, .int x3), (4, .int x4), (5, .int x5)] [] S R _
      refine u_st1 rfl (fun _ => rfl) (fun m hm => ?_)
      refine u_st rfl (fun _ => rfl) ?_
      show u_P L xs m d m_X1_run 11 [(0, .ref (c + 1)), (1, .int j1), (2, .ref 52), (3, .int x3), (4, .int x4), (5, .int x5)] [.ref (c + 1), .int x5] S R _
      refine u_getr rfl (z_cd0 hc) rfl ?_
      show u_P L xs m d m_X1_run 14 [(0, .ref (c + 1)), (1, .int j1), (2, .ref 52), (3, .int x3), (4, .int x4), (5, .int x5)] [.ref (c + 2), .int x5] S R _
      refine u_al rfl (z_cd1 hc) rfl ?_
      show u_P L xs m d m_X1_run 15 [(0, .ref (c + 1)), (1, .int j1), (2, .ref 52), (3, .int x3), (4, .int x4), (5, .int x5)] [.int (Int32.ofNat 256), .int x5] S R _
      refine u_ic_ge rfl (fun h1 => ?_) (fun h1 => ?_)
      · have hD := hD.1 h1
        show u_P L xs m d m_X1_run 319 [(0, .ref (c + 1)), (1, .int j1), (2, .ref 52), (3, .int x3), (4, .int x4), (5, .int x5)] [] S R _
        refine u_st rfl (fun _ => rfl) ?_
        show u_P L xs m d m_X1_run 320 [(0, .ref (c + 1)), (1, .int j1), (2, .ref 52), (3, .int x3), (4, .int x4), (5, .int x5)] [.int (Int32.ofInt 0)] S R _
        exact u_ret rfl rfl ⟨_, rfl, rfl, hD⟩
      · have hD := hD.2 h1
        show u_P L xs m d m_X1_run 18 [(0, .ref (c + 1)), (1, .int j1), (2, .ref 52), (3, .int x3), (4, .int x4), (5, .int x5)] [] S R _
        refine u_st rfl (fun _ => rfl) ?_
        show u_P L xs m d m_X1_run 20 [(0, .ref (c + 1)), (1, .int j1), (2, .ref 52), (3, .int x3), (4, .int x4), (5, .int x5)] [.int x4] S R _
        refine u_if_lt rfl (fun h2 => ?_) (fun h2 => ?_)
        · have hD := hD.1 h2
          show u_P L xs m d m_X1_run 319 [(0, .ref (c + 1)), (1, .int j1), (2, .ref 52), (3, .int x3), (4, .int x4), (5, .int x5)] [] S R _
          refine u_st rfl (fun _ => rfl) ?_
          show u_P L xs m d m_X1_run 320 [(0, .ref (c + 1)), (1, .int j1), (2, .ref 52), (3, .int x3), (4, .int x4), (5, .int x5)] [.int (Int32.ofInt 0)] S R _
          exact u_ret rfl rfl ⟨_, rfl, rfl, hD⟩
        · have hD := hD.2 h2
          show u_P L xs m d m_X1_run 23 [(0, .ref (c + 1)), (1, .int j1), (2, .ref 52), (3, .int x3), (4, .int x4), (5, .int x5)] [] S R _
          refine u_st rfl (fun _ => rfl) ?_
          refine u_st rfl (fun _ => rfl) ?_
          show u_P L xs m d m_X1_run 26 [(0, .ref (c + 1)), (1, .int j1), (2, .ref 52), (3, .int x3), (4, .int x4), (5, .int x5)] [.ref (c + 1), .int x4] S R _
          refine u_getE (v := S c 6) rfl (z_cd0 hc) rfl rfl ?_
          show u_P L xs m d m_X1_run 29 [(0, .ref (c + 1)), (1, .int j1), (2, .ref 52), (3, .int x3), (4, .int x4), (5, .int x5)] [.int (S c 6), .int x4] S R _
          refine u_ic_ge rfl (fun h3 => ?_) (fun h3 => ?_)
          · have hD := hD.1 h3
            show u_P L xs m d m_X1_run 319 [(0, .ref (c + 1)), (1, .int j1), (2, .ref 52), (3, .int x3), (4, .int x4), (5, .int x5)] [] S R _
            refine u_st rfl (fun _ => rfl) ?_
            show u_P L xs m d m_X1_run 320 [(0, .ref (c + 1)), (1, .int j1), (2, .ref 52), (3, .int x3), (4, .int x4), (5, .int x5)] [.int (Int32.ofInt 0)] S R _
            exact u_ret rfl rfl ⟨_, rfl, rfl, hD⟩
          · have hD := hD.2 h3
            show u_P L xs m d m_X1_run 32 [(0, .ref (c + 1)), (1, .int j1), (2, .ref 52), (3, .int x3), (4, .int x4), (5, .int x5)] [] S R _
            refine u_st rfl (fun _ => rfl) ?_
            show u_P L xs m d m_X1_run 33 [(0, .ref (c + 1)), (1, .int j1), (2, .ref 52), (3, .int x3), (4, .int x4), (5, .int x5)] [.ref (c + 1)] S R _
            refine u_getr rfl (z_cd0 hc) rfl ?_
            refine u_st rfl (fun _ => rfl) ?_
            show u_P L xs m d m_X1_run 38 [(0, .ref (c + 1)), (1, .int j1), (2, .ref 52), (3, .int x3), (4, .int x4), (5, .int x5)] [.int x4, .ref (c + 2)] S R _
            refine u_ialdE (v := S (c + 1) x4.toInt.toNat) rfl (z_cd1 hc) rfl (fun b41 b42 => ?_)
            have hD := hD b41 b42
            show u_P L xs m d m_X1_run 39 [(0, .ref (c + 1)), (1, .int j1), (2, .ref 52), (3, .int x3), (4, .int x4), (5, .int x5)] [.int (S (c + 1) x4.toInt.toNat)] S R _
            refine u_st rfl (fun _ => rfl) ?_
            refine u_st rfl (fun _ => rfl) ?_
            show u_P L xs m d m_X1_run 42 [(6, .int (S (c + 1) x4.toInt.toNat)), (0, .ref (c + 1)), (1, .int j1), (2, .ref 52), (3, .int x3), (4, .int x4), (5, .int x5)] [.ref (c + 1)] S R _
            refine u_getr rfl (z_cd0 hc) rfl ?_
            refine u_st rfl (fun _ => rfl) ?_
            show u_P L xs m d m_X1_run 47 [(6, .int (S (c + 1) x4.toInt.toNat)), (0, .ref (c + 1)), (1, .int j1), (2, .ref 52), (3, .int x3), (4, .int x4), (5, .int x5)] [.int x4, .ref (c + 3)] S R _
            refine u_ialdE (v := S (c + 2) x4.toInt.toNat) rfl (z_cd2 hc) rfl (fun b51 b52 => ?_)
            have hD := hD b51 b52
            show u_P L xs m d m_X1_run 48 [(6, .int (S (c + 1) x4.toInt.toNat)), (0, .ref (c + 1)), (1, .int j1), (2, .ref 52), (3, .int x3), (4, .int x4), (5, .int x5)] [.int (S (c + 2) x4.toInt.toNat)] S R _
            refine u_st rfl (fun _ => rfl) ?_
            refine u_st rfl (fun _ => rfl) ?_
            refine u_st rfl (fun _ => rfl) ?_
            refine u_st rfl (fun _ => rfl) ?_
            show u_P L xs m d m_X1_run 56 [(4, .int (x4 + (Int32.ofInt 1))), (7, .int (S (c + 2) x4.toInt.toNat)), (6, .int (S (c + 1) x4.toInt.toNat)), (0, .ref (c + 1)), (1, .int j1), (2, .ref 52), (3, .int x3), (5, .int x5)] [.int (Int32.ofInt 1), .int (S (c + 1) x4.toInt.toNat)] S R _
            refine u_ic_eq rfl (fun h6 => ?_) (fun h6 => ?_)
            · have hD := hD.1 h6
              show u_P L xs m d m_X1_run 65 [(4, .int (x4 + (Int32.ofInt 1))), (7, .int (S (c + 2) x4.toInt.toNat)), (6, .int (S (c + 1) x4.toInt.toNat)), (0, .ref (c + 1)), (1, .int j1), (2, .ref 52), (3, .int x3), (5, .int x5)] [] S R _
              refine u_st rfl (fun _ => rfl) ?_
              refine u_st rfl (fun _ => rfl) ?_
              show u_P L xs m d m_X1_run 67 [(4, .int (x4 + (Int32.ofInt 1))), (7, .int (S (c + 2) x4.toInt.toNat)), (6, .int (S (c + 1) x4.toInt.toNat)), (0, .ref (c + 1)), (1, .int j1), (2, .ref 52), (3, .int x3), (5, .int x5)] [.ref (c + 1), .int x3] S R _
              refine u_getr rfl (z_cd0 hc) rfl ?_
              show u_P L xs m d m_X1_run 70 [(4, .int (x4 + (Int32.ofInt 1))), (7, .int (S (c + 2) x4.toInt.toNat)), (6, .int (S (c + 1) x4.toInt.toNat)), (0, .ref (c + 1)), (1, .int j1), (2, .ref 52), (3, .int x3), (5, .int x5)] [.ref (c + 4), .int x3] S R _
              refine u_al rfl (z_cd3 hc) rfl ?_
              show u_P L xs m d m_X1_run 71 [(4, .int (x4 + (Int32.ofInt 1))), (7, .int (S (c + 2) x4.toInt.toNat)), (6, .int (S (c + 1) x4.toInt.toNat)), (0, .ref (c + 1)), (1, .int j1), (2, .ref 52), (3, .int x3), (5, .int x5)] [.int (Int32.ofNat 32), .int x3] S R _
              refine u_ic_lt rfl (fun h7 => ?_) (fun h7 => ?_)
              · have hD := hD.1 h7
                show u_P L xs m d m_X1_run 76 [(4, .int (x4 + (Int32.ofInt 1))), (7, .int (S (c + 2) x4.toInt.toNat)), (6, .int (S (c + 1) x4.toInt.toNat)), (0, .ref (c + 1)), (1, .int j1), (2, .ref 52), (3, .int x3), (5, .int x5)] [] S R _
                refine u_st rfl (fun _ => rfl) ?_
                show u_P L xs m d m_X1_run 77 [(4, .int (x4 + (Int32.ofInt 1))), (7, .int (S (c + 2) x4.toInt.toNat)), (6, .int (S (c + 1) x4.toInt.toNat)), (0, .ref (c + 1)), (1, .int j1), (2, .ref 52), (3, .int x3), (5, .int x5)] [.ref (c + 1)] S R _
                refine u_getr rfl (z_cd0 hc) rfl ?_
                refine u_st rfl (fun _ => rfl) ?_
                refine u_st rfl (fun _ => rfl) ?_
                refine u_st rfl (fun _ => rfl) ?_
                show u_P L xs m d m_X1_run 84 [(4, .int (x4 + (Int32.ofInt 1))), (7, .int (S (c + 2) x4.toInt.toNat)), (6, .int (S (c + 1) x4.toInt.toNat)), (0, .ref (c + 1)), (1, .int j1), (2, .ref 52), (3, .int x3), (5, .int x5)] [.int (Int32.ofInt 1), .int (S (c + 1) x4.toInt.toNat), .int x3, .ref (c + 4)] S R _
                refine u_ic_ne rfl (fun h8 => absurd h6 h8) (fun _ => ?_)
                show u_P L xs m d m_X1_run 87 [(4, .int (x4 + (Int32.ofInt 1))), (7, .int (S (c + 2) x4.toInt.toNat)), (6, .int (S (c + 1) x4.toInt.toNat)), (0, .ref (c + 1)), (1, .int j1), (2, .ref 52), (3, .int x3), (5, .int x5)] [.int x3, .ref (c + 4)] S R _
                refine u_st rfl (fun _ => rfl) ?_
                refine u_st rfl (fun _ => rfl) ?_
                show u_P L xs m d m_X1_run 98 [(4, .int (x4 + (Int32.ofInt 1))), (7, .int (S (c + 2) x4.toInt.toNat)), (6, .int (S (c + 1) x4.toInt.toNat)), (0, .ref (c + 1)), (1, .int j1), (2, .ref 52), (3, .int x3), (5, .int x5)] [.int (S (c + 2) x4.toInt.toNat), .int x3, .ref (c + 4)] S R _
                refine u_iast rfl (z_cd3 hc) (fun b91 b92 => ?_)
                have hD := hD b91 b92
                show u_P L xs m d m_X1_run 99 [(4, .int (x4 + (Int32.ofInt 1))), (7, .int (S (c + 2) x4.toInt.toNat)), (6, .int (S (c + 1) x4.toInt.toNat)), (0, .ref (c + 1)), (1, .int j1), (2, .ref 52), (3, .int x3), (5, .int x5)] [] (z_s S (c + 3) x3.toInt.toNat (S (c + 2) x4.toInt.toNat)) R _
                refine u_st rfl (fun _ => rfl) ?_
                refine u_st rfl (fun _ => rfl) ?_
                refine u_st rfl (fun _ => rfl) ?_
                refine u_st rfl (fun _ => rfl) ?_
                refine u_lc (b := [(0, .ref (c + 1)), (1, .int j1), (2, .ref 52), (3, .int (x3 + (Int32.ofInt 1))), (4, .int (x4 + (Int32.ofInt 1))), (5, .int (x5 + (Int32.ofInt 1))), (6, .int (S (c + 1) x4.toInt.toNat)), (7, .int (S (c + 2) x4.toInt.toNat))]) (show ([5, 3, 4, 7, 6, 0, 1, 2] : List Nat).Nodup by decide) (show ([0, 1, 2, 3, 4, 5, 6, 7] : List Nat).Nodup by decide) (fun i => match i with | 0 => rfl | 1 => rfl | 2 => rfl | 3 => rfl | 4 => rfl | 5 => rfl | 6 => rfl | 7 => rfl | _ + 8 => rfl) ?_
                exact (ih m hm).2.1 d j1 (S (c + 1) x4.toInt.toNat) (S (c + 2) x4.toInt.toNat) (x3 + (Int32.ofInt 1)) (x4 + (Int32.ofInt 1)) (x5 + (Int32.ofInt 1)) (z_s S (c + 3) x3.toInt.toNat (S (c + 2) x4.toInt.toNat)) hD
              · have hD := hD.2 h7
                show u_P L xs m d m_X1_run 74 [(4, .int (x4 + (Int32.ofInt 1))), (7, .int (S (c + 2) x4.toInt.toNat)), (6, .int (S (c + 1) x4.toInt.toNat)), (0, .ref (c + 1)), (1, .int j1), (2, .ref 52), (3, .int x3), (5, .int x5)] [] S R _
                refine u_st rfl (fun _ => rfl) ?_
                show u_P L xs m d m_X1_run 75 [(4, .int (x4 + (Int32.ofInt 1))), (7, .int (S (c + 2) x4.toInt.toNat)), (6, .int (S (c + 1) x4.toInt.toNat)), (0, .ref (c + 1)), (1, .int j1), (2, .ref 52), (3, .int x3), (5, .int x5)] [.int (Int32.ofInt 0)] S R _
                exact u_ret rfl rfl ⟨_, rfl, rfl, hD⟩
            · have hD := hD.2 h6
              show u_P L xs m d m_X1_run 59 [(4, .int (x4 + (Int32.ofInt 1))), (7, .int (S (c + 2) x4.toInt.toNat)), (6, .int (S (c + 1) x4.toInt.toNat)), (0, .ref (c + 1)), (1, .int j1), (2, .ref 52), (3, .int x3), (5, .int x5)] [] S R _
              refine u_st rfl (fun _ => rfl) ?_
              refine u_st rfl (fun _ => rfl) ?_
              show u_P L xs m d m_X1_run 62 [(4, .int (x4 + (Int32.ofInt 1))), (7, .int (S (c + 2) x4.toInt.toNat)), (6, .int (S (c + 1) x4.toInt.toNat)), (0, .ref (c + 1)), (1, .int j1), (2, .ref 52), (3, .int x3), (5, .int x5)] [.int (Int32.ofInt 2), .int (S (c + 1) x4.toInt.toNat)] S R _
              refine u_ic_ne rfl (fun h10 => ?_) (fun h10 => ?_)
              · have hD := hD.1 h10
                show u_P L xs m d m_X1_run 105 [(4, .int (x4 + (Int32.ofInt 1))), (7, .int (S (c + 2) x4.toInt.toNat)), (6, .int (S (c + 1) x4.toInt.toNat)), (0, .ref (c + 1)), (1, .int j1), (2, .ref 52), (3, .int x3), (5, .int x5)] [] S R _
                refine u_st rfl (fun _ => rfl) ?_
                refine u_st rfl (fun _ => rfl) ?_
                show u_P L xs m d m_X1_run 107 [(4, .int (x4 + (Int32.ofInt 1))), (7, .int (S (c + 2) x4.toInt.toNat)), (6, .int (S (c + 1) x4.toInt.toNat)), (0, .ref (c + 1)), (1, .int j1), (2, .ref 52), (3, .int x3), (5, .int x5)] [.int (Int32.ofInt 1), .int x3] S R _
                refine u_ic_lt rfl (fun h11 => ?_) (fun h11 => ?_)
                · have hD := hD.1 h11
                  show u_P L xs m d m_X1_run 115 [(4, .int (x4 + (Int32.ofInt 1))), (7, .int (S (c + 2) x4.toInt.toNat)), (6, .int (S (c + 1) x4.toInt.toNat)), (0, .ref (c + 1)), (1, .int j1), (2, .ref 52), (3, .int x3), (5, .int x5)] [] S R _
                  refine u_st rfl (fun _ => rfl) ?_
                  refine u_st rfl (fun _ => rfl) ?_
                  show u_P L xs m d m_X1_run 117 [(4, .int (x4 + (Int32.ofInt 1))), (7, .int (S (c + 2) x4.toInt.toNat)), (6, .int (S (c + 1) x4.toInt.toNat)), (0, .ref (c + 1)), (1, .int j1), (2, .ref 52), (3, .int x3), (5, .int x5)] [.int (Int32.ofInt 1), .int x3] S R _
                  refine u_ic_ge rfl (fun h12 => ?_) (fun h12 => ?_)
                  · have hD := hD.1 h12
                    show u_P L xs m d m_X1_run 124 [(4, .int (x4 + (Int32.ofInt 1))), (7, .int (S (c + 2) x4.toInt.toNat)), (6, .int (S (c + 1) x4.toInt.toNat)), (0, .ref (c + 1)), (1, .int j1), (2, .ref 52), (3, .int x3), (5, .int x5)] [] S R _
                    refine u_st rfl (fun _ => rfl) ?_
                    show u_P L xs m d m_X1_run 125 [(4, .int (x4 + (Int32.ofInt 1))), (7, .int (S (c + 2) x4.toInt.toNat)), (6, .int (S (c + 1) x4.toInt.toNat)), (0, .ref (c + 1)), (1, .int j1), (2, .ref 52), (3, .int x3), (5, .int x5)] [.ref (c + 1)] S R _
                    refine u_getr rfl (z_cd0 hc) rfl ?_
                    refine u_st rfl (fun _ => rfl) ?_
                    refine u_st rfl (fun _ => rfl) ?_
                    refine u_st rfl (fun _ => rfl) ?_
                    show u_P L xs m d m_X1_run 131 [(4, .int (x4 + (Int32.ofInt 1))), (7, .int (S (c + 2) x4.toInt.toNat)), (6, .int (S (c + 1) x4.toInt.toNat)), (0, .ref (c + 1)), (1, .int j1), (2, .ref 52), (3, .int x3), (5, .int x5)] [.int (x3 - (Int32.ofInt 1)), .ref (c + 4)] S R _
                    refine u_ialdE (v := S (c + 3) ((x3 - (Int32.ofInt 1)).toInt.toNat)) rfl (z_cd3 hc) rfl (fun b131 b132 => ?_)
                    have hD := hD b131 b132
                    show u_P L xs m d m_X1_run 132 [(4, .int (x4 + (Int32.ofInt 1))), (7, .int (S (c + 2) x4.toInt.toNat)), (6, .int (S (c + 1) x4.toInt.toNat)), (0, .ref (c + 1)), (1, .int j1), (2, .ref 52), (3, .int x3), (5, .int x5)] [.int (S (c + 3) ((x3 - (Int32.ofInt 1)).toInt.toNat))] S R _
                    exact u_ret rfl rfl ⟨_, rfl, rfl, hD⟩
                  · have hD := hD.2 h12
                    show u_P L xs m d m_X1_run 120 [(4, .int (x4 + (Int32.ofInt 1))), (7, .int (S (c + 2) x4.toInt.toNat)), (6, .int (S (c + 1) x4.toInt.toNat)), (0, .ref (c + 1)), (1, .int j1), (2, .ref 52), (3, .int x3), (5, .int x5)] [] S R _
                    refine u_st rfl (fun _ => rfl) ?_
                    refine u_st rfl (fun _ => rfl) ?_
                    show u_P L xs m d m_X1_run 132 [(4, .int (x4 + (Int32.ofInt 1))), (7, .int (S (c + 2) x4.toInt.toNat)), (6, .int (S (c + 1) x4.toInt.toNat)), (0, .ref (c + 1)), (1, .int j1), (2, .ref 52), (3, .int x3), (5, .int x5)] [.int (Int32.ofInt 0)] S R _
                    exact u_ret rfl rfl ⟨_, rfl, rfl, hD⟩
                · have hD := hD.2 h11
                  show u_P L xs m d m_X1_run 110 [(4, .int (x4 + (Int32.ofInt 1))), (7, .int (S (c + 2) x4.toInt.toNat)), (6, .int (S (c + 1) x4.toInt.toNat)), (0, .ref (c + 1)), (1, .int j1), (2, .ref 52), (3, .int x3), (5, .int x5)] [] S R _
                  refine u_st rfl (fun _ => rfl) ?_
                  show u_P L xs m d m_X1_run 112 [(4, .int (x4 + (Int32.ofInt 1))), (7, .int (S (c + 2) x4.toInt.toNat)), (6, .int (S (c + 1) x4.toInt.toNat)), (0, .ref (c + 1)), (1, .int j1), (2, .ref 52), (3, .int x3), (5, .int x5)] [.int (S (c + 1) x4.toInt.toNat)] S R _
                  refine u_if_ne rfl (fun h14 => ?_) (fun h14 => ?_)
                  · have hD := hD.1 h14
                    show u_P L xs m d m_X1_run 133 [(4, .int (x4 + (Int32.ofInt 1))), (7, .int (S (c + 2) x4.toInt.toNat)), (6, .int (S (c + 1) x4.toInt.toNat)), (0, .ref (c + 1)), (1, .int j1), (2, .ref 52), (3, .int x3), (5, .int x5)] [] S R _
                    refine u_st rfl (fun _ => rfl) ?_
                    refine u_st rfl (fun _ => rfl) ?_
                    show u_P L xs m d m_X1_run 136 [(4, .int (x4 + (Int32.ofInt 1))), (7, .int (S (c + 2) x4.toInt.toNat)), (6, .int (S (c + 1) x4.toInt.toNat)), (0, .ref (c + 1)), (1, .int j1), (2, .ref 52), (3, .int x3), (5, .int x5)] [.int (Int32.ofInt 3), .int (S (c + 1) x4.toInt.toNat)] S R _
                    refine u_ic_ne rfl (fun h15 => ?_) (fun h15 => ?_)
                    · have hD := hD.1 h15
                      show u_P L xs m d m_X1_run 160 [(4, .int (x4 + (Int32.ofInt 1))), (7, .int (S (c + 2) x4.toInt.toNat)), (6, .int (S (c + 1) x4.toInt.toNat)), (0, .ref (c + 1)), (1, .int j1), (2, .ref 52), (3, .int x3), (5, .int x5)] [] S R _
                      refine u_st rfl (fun _ => rfl) ?_
                      refine u_st rfl (fun _ => rfl) ?_
                      show u_P L xs m d m_X1_run 163 [(4, .int (x4 + (Int32.ofInt 1))), (7, .int (S (c + 2) x4.toInt.toNat)), (6, .int (S (c + 1) x4.toInt.toNat)), (0, .ref (c + 1)), (1, .int j1), (2, .ref 52), (3, .int x3), (5, .int x5)] [.int (Int32.ofInt 4), .int (S (c + 1) x4.toInt.toNat)] S R _
                      refine u_ic_eq rfl (fun h16 => ?_) (fun h16 => ?_)
                      · have hD := hD.1 h16
                        show u_P L xs m d m_X1_run 172 [(4, .int (x4 + (Int32.ofInt 1))), (7, .int (S (c + 2) x4.toInt.toNat)), (6, .int (S (c + 1) x4.toInt.toNat)), (0, .ref (c + 1)), (1, .int j1), (2, .ref 52), (3, .int x3), (5, .int x5)] [] S R _
                        refine u_st rfl (fun _ => rfl) ?_
                        show u_P L xs m d m_X1_run 173 [(4, .int (x4 + (Int32.ofInt 1))), (7, .int (S (c + 2) x4.toInt.toNat)), (6, .int (S (c + 1) x4.toInt.toNat)), (0, .ref (c + 1)), (1, .int j1), (2, .ref 52), (3, .int x3), (5, .int x5)] [.ref (c + 1)] S R _
                        refine u_getr rfl (z_cd0 hc) rfl ?_
                        refine u_st rfl (fun _ => rfl) ?_
                        refine u_st rfl (fun _ => rfl) ?_
                        refine u_st rfl (fun _ => rfl) ?_
                        show u_P L xs m d m_X1_run 179 [(4, .int (x4 + (Int32.ofInt 1))), (7, .int (S (c + 2) x4.toInt.toNat)), (6, .int (S (c + 1) x4.toInt.toNat)), (0, .ref (c + 1)), (1, .int j1), (2, .ref 52), (3, .int x3), (5, .int x5)] [.int (x3 - (Int32.ofInt 1)), .ref (c + 4)] S R _
                        refine u_ialdE (v := S (c + 3) ((x3 - (Int32.ofInt 1)).toInt.toNat)) rfl (z_cd3 hc) rfl (fun b171 b172 => ?_)
                        have hD := hD b171 b172
                        show u_P L xs m d m_X1_run 180 [(4, .int (x4 + (Int32.ofInt 1))), (7, .int (S (c + 2) x4.toInt.toNat)), (6, .int (S (c + 1) x4.toInt.toNat)), (0, .ref (c + 1)), (1, .int j1), (2, .ref 52), (3, .int x3), (5, .int x5)] [.int (S (c + 3) ((x3 - (Int32.ofInt 1)).toInt.toNat))] S R _
                        refine u_if_eq rfl (fun h18 => ?_) (fun h18 => ?_)
                        · have hD := hD.1 h18
                          show u_P L xs m d m_X1_run 187 [(4, .int (x4 + (Int32.ofInt 1))), (7, .int (S (c + 2) x4.toInt.toNat)), (6, .int (S (c + 1) x4.toInt.toNat)), (0, .ref (c + 1)), (1, .int j1), (2, .ref 52), (3, .int x3), (5, .int x5)] [] S R _
                          refine u_st rfl (fun _ => rfl) ?_
                          refine u_st rfl (fun _ => rfl) ?_
                          refine u_st rfl (fun _ => rfl) ?_
                          show u_P L xs m d m_X1_run 191 [(4, .int (x4 + (Int32.ofInt 1))), (7, .int (S (c + 2) x4.toInt.toNat)), (6, .int (S (c + 1) x4.toInt.toNat)), (0, .ref (c + 1)), (1, .int j1), (2, .ref 52), (3, .int x3), (5, .int x5)] [.int (Int32.ofInt 5), .int (S (c + 1) x4.toInt.toNat), .int (Int32.ofInt 0)] S R _
                          refine u_ic_ne rfl (fun _ => ?_) (fun h19 => absurd (h16.symm.trans (Classical.not_not.mp h19)) (by decide))
                          show u_P L xs m d m_X1_run 198 [(4, .int (x4 + (Int32.ofInt 1))), (7, .int (S (c + 2) x4.toInt.toNat)), (6, .int (S (c + 1) x4.toInt.toNat)), (0, .ref (c + 1)), (1, .int j1), (2, .ref 52), (3, .int x3), (5, .int x5)] [.int (Int32.ofInt 0)] S R _
                          refine u_st rfl (fun _ => rfl) ?_
                          show u_P L xs m d m_X1_run 199 [(4, .int (x4 + (Int32.ofInt 1))), (7, .int (S (c + 2) x4.toInt.toNat)), (6, .int (S (c + 1) x4.toInt.toNat)), (0, .ref (c + 1)), (1, .int j1), (2, .ref 52), (3, .int x3), (5, .int x5)] [.int (Int32.ofInt 0), .int (Int32.ofInt 0)] S R _
                          refine u_st rfl (fun _ => rfl) ?_
                          refine u_st rfl (fun _ => rfl) ?_
                          refine u_st rfl (fun _ => rfl) ?_
                          refine u_st rfl (fun _ => rfl) ?_
                          refine u_st rfl (fun _ => rfl) ?_
                          show u_P L xs m d m_X1_run 211 [(8, .int (Int32.ofInt 1)), (4, .int (x4 + (Int32.ofInt 1))), (7, .int (S (c + 2) x4.toInt.toNat)), (6, .int (S (c + 1) x4.toInt.toNat)), (0, .ref (c + 1)), (1, .int j1), (2, .ref 52), (3, .int x3), (5, .int x5)] [.int (Int32.ofInt 1)] S R _
                          refine u_st rfl (fun _ => rfl) ?_
                          refine u_st rfl (fun _ => rfl) ?_
                          refine u_st rfl (fun _ => rfl) ?_
                          refine u_st rfl (fun _ => rfl) ?_
                          refine u_st rfl (fun _ => rfl) ?_
                          show u_P L xs m d m_X1_run 225 [(4, .int (S (c + 2) x4.toInt.toNat)), (8, .int (Int32.ofInt 1)), (7, .int (S (c + 2) x4.toInt.toNat)), (6, .int (S (c + 1) x4.toInt.toNat)), (0, .ref (c + 1)), (1, .int j1), (2, .ref 52), (3, .int x3), (5, .int x5)] [.int (Int32.ofInt 1)] S R _
                          refine u_st rfl (fun _ => rfl) ?_
                          refine u_st rfl (fun _ => rfl) ?_
                          refine u_st rfl (fun _ => rfl) ?_
                          refine u_st rfl (fun _ => rfl) ?_
                          refine u_st rfl (fun _ => rfl) ?_
                          refine u_st rfl (fun _ => rfl) ?_
                          refine u_st rfl (fun _ => rfl) ?_
                          refine u_lc (b := [(0, .ref (c + 1)), (1, .int j1), (2, .ref 52), (3, .int x3), (4, .int (S (c + 2) x4.toInt.toNat)), (5, .int (x5 + (Int32.ofInt 1))), (6, .int (S (c + 1) x4.toInt.toNat)), (7, .int (S (c + 2) x4.toInt.toNat)), (8, .int (Int32.ofInt 1))]) (show ([5, 3, 4, 8, 7, 6, 0, 1, 2] : List Nat).Nodup by decide) (show ([0, 1, 2, 3, 4, 5, 6, 7, 8] : List Nat).Nodup by decide) (fun i => match i with | 0 => rfl | 1 => rfl | 2 => rfl | 3 => rfl | 4 => rfl | 5 => rfl | 6 => rfl | 7 => rfl | 8 => rfl | _ + 9 => rfl) ?_
                          exact (ih m hm).2.2 d j1 (S (c + 1) x4.toInt.toNat) (S (c + 2) x4.toInt.toNat) (Int32.ofInt 1) x3 (S (c + 2) x4.toInt.toNat) (x5 + (Int32.ofInt 1)) S hD
                        · have hD := hD.2 h18
                          show u_P L xs m d m_X1_run 183 [(4, .int (x4 + (Int32.ofInt 1))), (7, .int (S (c + 2) x4.toInt.toNat)), (6, .int (S (c + 1) x4.toInt.toNat)), (0, .ref (c + 1)), (1, .int j1), (2, .ref 52), (3, .int x3), (5, .int x5)] [] S R _
                          refine u_st rfl (fun _ => rfl) ?_
                          refine u_st rfl (fun _ => rfl) ?_
                          refine u_st rfl (fun _ => rfl) ?_
                          refine u_st rfl (fun _ => rfl) ?_
                          show u_P L xs m d m_X1_run 191 [(4, .int (x4 + (Int32.ofInt 1))), (7, .int (S (c + 2) x4.toInt.toNat)), (6, .int (S (c + 1) x4.toInt.toNat)), (0, .ref (c + 1)), (1, .int j1), (2, .ref 52), (3, .int x3), (5, .int x5)] [.int (Int32.ofInt 5), .int (S (c + 1) x4.toInt.toNat), .int (Int32.ofInt 1)] S R _
                          refine u_ic_ne rfl (fun _ => ?_) (fun h20 => absurd (h16.symm.trans (Classical.not_not.mp h20)) (by decide))
                          show u_P L xs m d m_X1_run 198 [(4, .int (x4 + (Int32.ofInt 1))), (7, .int (S (c + 2) x4.toInt.toNat)), (6, .int (S (c + 1) x4.toInt.toNat)), (0, .ref (c + 1)), (1, .int j1), (2, .ref 52), (3, .int x3), (5, .int x5)] [.int (Int32.ofInt 1)] S R _
                          refine u_st rfl (fun _ => rfl) ?_
                          show u_P L xs m d m_X1_run 199 [(4, .int (x4 + (Int32.ofInt 1))), (7, .int (S (c + 2) x4.toInt.toNat)), (6, .int (S (c + 1) x4.toInt.toNat)), (0, .ref (c + 1)), (1, .int j1), (2, .ref 52), (3, .int x3), (5, .int x5)] [.int (Int32.ofInt 0), .int (Int32.ofInt 1)] S R _
                          refine u_st rfl (fun _ => rfl) ?_
                          refine u_st rfl (fun _ => rfl) ?_
                          refine u_st rfl (fun _ => rfl) ?_
                          refine u_st rfl (fun _ => rfl) ?_
                          show u_P L xs m d m_X1_run 211 [(8, .int (Int32.ofInt 0)), (4, .int (x4 + (Int32.ofInt 1))), (7, .int (S (c + 2) x4.toInt.toNat)), (6, .int (S (c + 1) x4.toInt.toNat)), (0, .ref (c + 1)), (1, .int j1), (2, .ref 52), (3, .int x3), (5, .int x5)] [.int (Int32.ofInt 0)] S R _
                          refine u_st rfl (fun _ => rfl) ?_
                          refine u_st rfl (fun _ => rfl) ?_
                          refine u_st rfl (fun _ => rfl) ?_
                          refine u_st rfl (fun _ => rfl) ?_
                          show u_P L xs m d m_X1_run 225 [(4, .int (x4 + (Int32.ofInt 1))), (8, .int (Int32.ofInt 0)), (7, .int (S (c + 2) x4.toInt.toNat)), (6, .int (S (c + 1) x4.toInt.toNat)), (0, .ref (c + 1)), (1, .int j1), (2, .ref 52), (3, .int x3), (5, .int x5)] [.int (Int32.ofInt 0)] S R _
                          refine u_st rfl (fun _ => rfl) ?_
                          refine u_st rfl (fun _ => rfl) ?_
                          refine u_st rfl (fun _ => rfl) ?_
                          refine u_st rfl (fun _ => rfl) ?_
                          refine u_st rfl (fun _ => rfl) ?_
                          refine u_st rfl (fun _ => rfl) ?_
                          refine u_st rfl (fun _ => rfl) ?_
                          refine u_st rfl (fun _ => rfl) ?_
                          refine u_lc (b := [(0, .ref (c + 1)), (1, .int j1), (2, .ref 52), (3, .int (x3 - (Int32.ofInt 1))), (4, .int (x4 + (Int32.ofInt 1))), (5, .int (x5 + (Int32.ofInt 1))), (6, .int (S (c + 1) x4.toInt.toNat)), (7, .int (S (c + 2) x4.toInt.toNat)), (8, .int (Int32.ofInt 0))]) (show ([5, 3, 4, 8, 7, 6, 0, 1, 2] : List Nat).Nodup by decide) (show ([0, 1, 2, 3, 4, 5, 6, 7, 8] : List Nat).Nodup by decide) (fun i => match i with | 0 => rfl | 1 => rfl | 2 => rfl | 3 => rfl | 4 => rfl | 5 => rfl | 6 => rfl | 7 => rfl | 8 => rfl | _ + 9 => rfl) ?_
                          exact (ih m hm).2.2 d j1 (S (c + 1) x4.toInt.toNat) (S (c + 2) x4.toInt.toNat) (Int32.ofInt 0) (x3 - (Int32.ofInt 1)) (x4 + (Int32.ofInt 1)) (x5 + (Int32.ofInt 1)) S hD
                      · have hD := hD.2 h16
                        show u_P L xs m d m_X1_run 166 [(4, .int (x4 + (Int32.ofInt 1))), (7, .int (S (c + 2) x4.toInt.toNat)), (6, .int (S (c + 1) x4.toInt.toNat)), (0, .ref (c + 1)), (1, .int j1), (2, .ref 52), (3, .int x3), (5, .int x5)] [] S R _
                        refine u_st rfl (fun _ => rfl) ?_
                        refine u_st rfl (fun _ => rfl) ?_
                        show u_P L xs m d m_X1_run 169 [(4, .int (x4 + (Int32.ofInt 1))), (7, .int (S (c + 2) x4.toInt.toNat)), (6, .int (S (c + 1) x4.toInt.toNat)), (0, .ref (c + 1)), (1, .int j1), (2, .ref 52), (3, .int x3), (5, .int x5)] [.int (Int32.ofInt 5), .int (S (c + 1) x4.toInt.toNat)] S R _
                        refine u_ic_ne rfl (fun h21 => ?_) (fun h21 => ?_)
                        · have hD := hD.1 h21
                          show u_P L xs m d m_X1_run 239 [(4, .int (x4 + (Int32.ofInt 1))), (7, .int (S (c + 2) x4.toInt.toNat)), (6, .int (S (c + 1) x4.toInt.toNat)), (0, .ref (c + 1)), (1, .int j1), (2, .ref 52), (3, .int x3), (5, .int x5)] [] S R _
                          refine u_st rfl (fun _ => rfl) ?_
                          refine u_st rfl (fun _ => rfl) ?_
                          show u_P L xs m d m_X1_run 241 [(4, .int (x4 + (Int32.ofInt 1))), (7, .int (S (c + 2) x4.toInt.toNat)), (6, .int (S (c + 1) x4.toInt.toNat)), (0, .ref (c + 1)), (1, .int j1), (2, .ref 52), (3, .int x3), (5, .int x5)] [.int (Int32.ofInt 2), .int x3] S R _
                          refine u_ic_lt rfl (fun h22 => ?_) (fun h22 => ?_)
                          · have hD := hD.1 h22
                            show u_P L xs m d m_X1_run 269 [(4, .int (x4 + (Int32.ofInt 1))), (7, .int (S (c + 2) x4.toInt.toNat)), (6, .int (S (c + 1) x4.toInt.toNat)), (0, .ref (c + 1)), (1, .int j1), (2, .ref 52), (3, .int x3), (5, .int x5)] [] S R _
                            refine u_st rfl (fun _ => rfl) ?_
                            refine u_st rfl (fun _ => rfl) ?_
                            refine u_st rfl (fun _ => rfl) ?_
                            refine u_st rfl (fun _ => rfl) ?_
                            show u_P L xs m d m_X1_run 278 [(8, .int (Int32.ofInt 1)), (4, .int (x4 + (Int32.ofInt 1))), (7, .int (S (c + 2) x4.toInt.toNat)), (6, .int (S (c + 1) x4.toInt.toNat)), (0, .ref (c + 1)), (1, .int j1), (2, .ref 52), (3, .int x3), (5, .int x5)] [.int (Int32.ofInt 1)] S R _
                            refine u_st rfl (fun _ => rfl) ?_
                            refine u_st rfl (fun _ => rfl) ?_
                            show u_P L xs m d m_X1_run 282 [(8, .int (Int32.ofInt 1)), (4, .int (x4 + (Int32.ofInt 1))), (7, .int (S (c + 2) x4.toInt.toNat)), (6, .int (S (c + 1) x4.toInt.toNat)), (0, .ref (c + 1)), (1, .int j1), (2, .ref 52), (3, .int x3), (5, .int x5)] [.int (Int32.ofInt 0)] S R _
                            exact u_ret rfl rfl ⟨_, rfl, rfl, hD⟩
                          · have hD := hD.2 h22
                            show u_P L xs m d m_X1_run 244 [(4, .int (x4 + (Int32.ofInt 1))), (7, .int (S (c + 2) x4.toInt.toNat)), (6, .int (S (c + 1) x4.toInt.toNat)), (0, .ref (c + 1)), (1, .int j1), (2, .ref 52), (3, .int x3), (5, .int x5)] [] S R _
                            refine u_st rfl (fun _ => rfl) ?_
                            refine u_st rfl (fun _ => rfl) ?_
                            show u_P L xs m d m_X1_run 248 [(4, .int (x4 + (Int32.ofInt 1))), (7, .int (S (c + 2) x4.toInt.toNat)), (6, .int (S (c + 1) x4.toInt.toNat)), (0, .ref (c + 1)), (1, .int j1), (2, .ref 52), (3, .int x3), (5, .int x5)] [.int (Int32.ofInt 47), .int (S (c + 1) x4.toInt.toNat)] S R _
                            refine u_ic_eq rfl (fun h23 => ?_) (fun h23 => ?_)
                            · have hD := hD.1 h23
                              show u_P L xs m d m_X1_run 258 [(4, .int (x4 + (Int32.ofInt 1))), (7, .int (S (c + 2) x4.toInt.toNat)), (6, .int (S (c + 1) x4.toInt.toNat)), (0, .ref (c + 1)), (1, .int j1), (2, .ref 52), (3, .int x3), (5, .int x5)] [] S R _
                              refine u_st rfl (fun _ => rfl) ?_
                              show u_P L xs m d m_X1_run 259 [(4, .int (x4 + (Int32.ofInt 1))), (7, .int (S (c + 2) x4.toInt.toNat)), (6, .int (S (c + 1) x4.toInt.toNat)), (0, .ref (c + 1)), (1, .int j1), (2, .ref 52), (3, .int x3), (5, .int x5)] [.ref (c + 1)] S R _
                              refine u_getr rfl (z_cd0 hc) rfl ?_
                              refine u_st rfl (fun _ => rfl) ?_
                              refine u_st rfl (fun _ => rfl) ?_
                              refine u_st rfl (fun _ => rfl) ?_
                              show u_P L xs m d m_X1_run 265 [(4, .int (x4 + (Int32.ofInt 1))), (7, .int (S (c + 2) x4.toInt.toNat)), (6, .int (S (c + 1) x4.toInt.toNat)), (0, .ref (c + 1)), (1, .int j1), (2, .ref 52), (3, .int x3), (5, .int x5)] [.int (x3 - (Int32.ofInt 1)), .ref (c + 4)] S R _
                              refine u_ialdE (v := S (c + 3) ((x3 - (Int32.ofInt 1)).toInt.toNat)) rfl (z_cd3 hc) rfl (fun b241 b242 => ?_)
                              have hD := hD b241 b242
                              show u_P L xs m d m_X1_run 266 [(4, .int (x4 + (Int32.ofInt 1))), (7, .int (S (c + 2) x4.toInt.toNat)), (6, .int (S (c + 1) x4.toInt.toNat)), (0, .ref (c + 1)), (1, .int j1), (2, .ref 52), (3, .int x3), (5, .int x5)] [.int (S (c + 3) ((x3 - (Int32.ofInt 1)).toInt.toNat))] S R _
                              refine u_if_ne rfl (fun h25 => ?_) (fun h25 => ?_)
                              · have hD := hD.1 h25
                                show u_P L xs m d m_X1_run 273 [(4, .int (x4 + (Int32.ofInt 1))), (7, .int (S (c + 2) x4.toInt.toNat)), (6, .int (S (c + 1) x4.toInt.toNat)), (0, .ref (c + 1)), (1, .int j1), (2, .ref 52), (3, .int x3), (5, .int x5)] [] S R _
                                refine u_st rfl (fun _ => rfl) ?_
                                refine u_st rfl (fun _ => rfl) ?_
                                refine u_st rfl (fun _ => rfl) ?_
                                show u_P L xs m d m_X1_run 278 [(8, .int (Int32.ofInt 0)), (4, .int (x4 + (Int32.ofInt 1))), (7, .int (S (c + 2) x4.toInt.toNat)), (6, .int (S (c + 1) x4.toInt.toNat)), (0, .ref (c + 1)), (1, .int j1), (2, .ref 52), (3, .int x3), (5, .int x5)] [.int (Int32.ofInt 0)] S R _
                                refine u_st rfl (fun _ => rfl) ?_
                                refine u_st rfl (fun _ => rfl) ?_
                                refine u_st rfl (fun _ => rfl) ?_
                                show u_P L xs m d m_X1_run 287 [(3, .int (x3 + (Int32.ofInt (-1)))), (8, .int (Int32.ofInt 0)), (4, .int (x4 + (Int32.ofInt 1))), (7, .int (S (c + 2) x4.toInt.toNat)), (6, .int (S (c + 1) x4.toInt.toNat)), (0, .ref (c + 1)), (1, .int j1), (2, .ref 52), (5, .int x5)] [.ref (c + 1)] S R _
                                refine u_getr rfl (z_cd0 hc) rfl ?_
                                refine u_st rfl (fun _ => rfl) ?_
                                refine u_st rfl (fun _ => rfl) ?_
                                refine u_st rfl (fun _ => rfl) ?_
                                refine u_st rfl (fun _ => rfl) ?_
                                refine u_st rfl (fun _ => rfl) ?_
                                show u_P L xs m d m_X1_run 296 [(3, .int (x3 + (Int32.ofInt (-1)))), (8, .int (Int32.ofInt 0)), (4, .int (x4 + (Int32.ofInt 1))), (7, .int (S (c + 2) x4.toInt.toNat)), (6, .int (S (c + 1) x4.toInt.toNat)), (0, .ref (c + 1)), (1, .int j1), (2, .ref 52), (5, .int x5)] [.ref (c + 1), .int (S (c + 1) x4.toInt.toNat), .int ((x3 + (Int32.ofInt (-1))) - (Int32.ofInt 1)), .ref (c + 4)] S R _
                                refine u_getr rfl (z_cd0 hc) rfl ?_
                                refine u_st rfl (fun _ => rfl) ?_
                                refine u_st rfl (fun _ => rfl) ?_
                                refine u_st rfl (fun _ => rfl) ?_
                                show u_P L xs m d m_X1_run 302 [(3, .int (x3 + (Int32.ofInt (-1)))), (8, .int (Int32.ofInt 0)), (4, .int (x4 + (Int32.ofInt 1))), (7, .int (S (c + 2) x4.toInt.toNat)), (6, .int (S (c + 1) x4.toInt.toNat)), (0, .ref (c + 1)), (1, .int j1), (2, .ref 52), (5, .int x5)] [.int ((x3 + (Int32.ofInt (-1))) - (Int32.ofInt 1)), .ref (c + 4), .int (S (c + 1) x4.toInt.toNat), .int ((x3 + (Int32.ofInt (-1))) - (Int32.ofInt 1)), .ref (c + 4)] S R _
                                refine u_ialdE (v := S (c + 3) (((x3 + (Int32.ofInt (-1))) - (Int32.ofInt 1)).toInt.toNat)) rfl (z_cd3 hc) rfl (fun b261 b262 => ?_)
                                have hD := hD b261 b262
                                show u_P L xs m d m_X1_run 303 [(3, .int (x3 + (Int32.ofInt (-1)))), (8, .int (Int32.ofInt 0)), (4, .int (x4 + (Int32.ofInt 1))), (7, .int (S (c + 2) x4.toInt.toNat)), (6, .int (S (c + 1) x4.toInt.toNat)), (0, .ref (c + 1)), (1, .int j1), (2, .ref 52), (5, .int x5)] [.int (S (c + 3) (((x3 + (Int32.ofInt (-1))) - (Int32.ofInt 1)).toInt.toNat)), .int (S (c + 1) x4.toInt.toNat), .int ((x3 + (Int32.ofInt (-1))) - (Int32.ofInt 1)), .ref (c + 4)] S R _
                                refine u_st rfl (fun _ => rfl) ?_
                                show u_P L xs m d m_X1_run 304 [(3, .int (x3 + (Int32.ofInt (-1)))), (8, .int (Int32.ofInt 0)), (4, .int (x4 + (Int32.ofInt 1))), (7, .int (S (c + 2) x4.toInt.toNat)), (6, .int (S (c + 1) x4.toInt.toNat)), (0, .ref (c + 1)), (1, .int j1), (2, .ref 52), (5, .int x5)] [.ref (c + 1), .int (S (c + 3) (((x3 + (Int32.ofInt (-1))) - (Int32.ofInt 1)).toInt.toNat)), .int (S (c + 1) x4.toInt.toNat), .int ((x3 + (Int32.ofInt (-1))) - (Int32.ofInt 1)), .ref (c + 4)] S R _
                                refine u_getr rfl (z_cd0 hc) rfl ?_
                                refine u_st rfl (fun _ => rfl) ?_
                                show u_P L xs m d m_X1_run 308 [(3, .int (x3 + (Int32.ofInt (-1)))), (8, .int (Int32.ofInt 0)), (4, .int (x4 + (Int32.ofInt 1))), (7, .int (S (c + 2) x4.toInt.toNat)), (6, .int (S (c + 1) x4.toInt.toNat)), (0, .ref (c + 1)), (1, .int j1), (2, .ref 52), (5, .int x5)] [.int (x3 + (Int32.ofInt (-1))), .ref (c + 4), .int (S (c + 3) (((x3 + (Int32.ofInt (-1))) - (Int32.ofInt 1)).toInt.toNat)), .int (S (c + 1) x4.toInt.toNat), .int ((x3 + (Int32.ofInt (-1))) - (Int32.ofInt 1)), .ref (c + 4)] S R _
                                refine u_ialdE (v := S (c + 3) ((x3 + (Int32.ofInt (-1))).toInt.toNat)) rfl (z_cd3 hc) rfl (fun b271 b272 => ?_)
                                have hD := hD b271 b272
                                show u_P L xs m d m_X1_run 309 [(3, .int (x3 + (Int32.ofInt (-1)))), (8, .int (Int32.ofInt 0)), (4, .int (x4 + (Int32.ofInt 1))), (7, .int (S (c + 2) x4.toInt.toNat)), (6, .int (S (c + 1) x4.toInt.toNat)), (0, .ref (c + 1)), (1, .int j1), (2, .ref 52), (5, .int x5)] [.int (S (c + 3) ((x3 + (Int32.ofInt (-1))).toInt.toNat)), .int (S (c + 3) (((x3 + (Int32.ofInt (-1))) - (Int32.ofInt 1)).toInt.toNat)), .int (S (c + 1) x4.toInt.toNat), .int ((x3 + (Int32.ofInt (-1))) - (Int32.ofInt 1)), .ref (c + 4)] S R _
                                refine u_cs (ac := [.int (S (c + 1) x4.toInt.toNat), .int (S (c + 3) (((x3 + (Int32.ofInt (-1))) - (Int32.ofInt 1)).toInt.toNat)), .int (S (c + 3) ((x3 + (Int32.ofInt (-1))).toInt.toNat))]) (rest := [.int ((x3 + (Int32.ofInt (-1))) - (Int32.ofInt 1)), .ref (c + 4)]) rfl (by decide) mt_X1_join (fun _ => rfl) (Nat.le_of_ble_eq_true rfl) (Nat.le_of_ble_eq_true rfl) (fun d' => c_X1_join L xs m d' (S (c + 1) x4.toInt.toNat) (S (c + 3) (((x3 + (Int32.ofInt (-1))) - (Int32.ofInt 1)).toInt.toNat)) (S (c + 3) ((x3 + (Int32.ofInt (-1))).toInt.toNat)) S R) ?_
                                rintro _ _ _ ⟨_, rfl, rfl, rfl, rfl⟩
                                show u_P L xs m d m_X1_run 312 [(3, .int (x3 + (Int32.ofInt (-1)))), (8, .int (Int32.ofInt 0)), (4, .int (x4 + (Int32.ofInt 1))), (7, .int (S (c + 2) x4.toInt.toNat)), (6, .int (S (c + 1) x4.toInt.toNat)), (0, .ref (c + 1)), (1, .int j1), (2, .ref 52), (5, .int x5)] [.int (f_X1_join (S (c + 1) x4.toInt.toNat) (S (c + 3) (((x3 + (Int32.ofInt (-1))) - (Int32.ofInt 1)).toInt.toNat)) (S (c + 3) ((x3 + (Int32.ofInt (-1))).toInt.toNat))), .int ((x3 + (Int32.ofInt (-1))) - (Int32.ofInt 1)), .ref (c + 4)] S R _
                                refine u_iast rfl (z_cd3 hc) (fun b281 b282 => ?_)
                                have hD := hD b281 b282
                                show u_P L xs m d m_X1_run 313 [(3, .int (x3 + (Int32.ofInt (-1)))), (8, .int (Int32.ofInt 0)), (4, .int (x4 + (Int32.ofInt 1))), (7, .int (S (c + 2) x4.toInt.toNat)), (6, .int (S (c + 1) x4.toInt.toNat)), (0, .ref (c + 1)), (1, .int j1), (2, .ref 52), (5, .int x5)] [] (z_s S (c + 3) (((x3 + (Int32.ofInt (-1))) - (Int32.ofInt 1)).toInt.toNat) (f_X1_join (S (c + 1) x4.toInt.toNat) (S (c + 3) (((x3 + (Int32.ofInt (-1))) - (Int32.ofInt 1)).toInt.toNat)) (S (c + 3) ((x3 + (Int32.ofInt (-1))).toInt.toNat)))) R _
                                refine u_st rfl (fun _ => rfl) ?_
                                refine u_st rfl (fun _ => rfl) ?_
                                refine u_lc (b := [(0, .ref (c + 1)), (1, .int j1), (2, .ref 52), (3, .int (x3 + (Int32.ofInt (-1)))), (4, .int (x4 + (Int32.ofInt 1))), (5, .int (x5 + (Int32.ofInt 1))), (6, .int (S (c + 1) x4.toInt.toNat)), (7, .int (S (c + 2) x4.toInt.toNat)), (8, .int (Int32.ofInt 0))]) (show ([5, 3, 8, 4, 7, 6, 0, 1, 2] : List Nat).Nodup by decide) (show ([0, 1, 2, 3, 4, 5, 6, 7, 8] : List Nat).Nodup by decide) (fun i => match i with | 0 => rfl | 1 => rfl | 2 => rfl | 3 => rfl | 4 => rfl | 5 => rfl | 6 => rfl | 7 => rfl | 8 => rfl | _ + 9 => rfl) ?_
                                exact (ih m hm).2.2 d j1 (S (c + 1) x4.toInt.toNat) (S (c + 2) x4.toInt.toNat) (Int32.ofInt 0) (x3 + (Int32.ofInt (-1))) (x4 + (Int32.ofInt 1)) (x5 + (Int32.ofInt 1)) (z_s S (c + 3) (((x3 + (Int32.ofInt (-1))) - (Int32.ofInt 1)).toInt.toNat) (f_X1_join (S (c + 1) x4.toInt.toNat) (S (c + 3) (((x3 + (Int32.ofInt (-1))) - (Int32.ofInt 1)).toInt.toNat)) (S (c + 3) ((x3 + (Int32.ofInt (-1))).toInt.toNat)))) hD
                              · have hD := hD.2 h25
                                show u_P L xs m d m_X1_run 269 [(4, .int (x4 + (Int32.ofInt 1))), (7, .int (S (c + 2) x4.toInt.toNat)), (6, .int (S (c + 1) x4.toInt.toNat)), (0, .ref (c + 1)), (1, .int j1), (2, .ref 52), (3, .int x3), (5, .int x5)] [] S R _
                                refine u_st rfl (fun _ => rfl) ?_
                                refine u_st rfl (fun _ => rfl) ?_
                                refine u_st rfl (fun _ => rfl) ?_
                                refine u_st rfl (fun _ => rfl) ?_
                                show u_P L xs m d m_X1_run 278 [(8, .int (Int32.ofInt 1)), (4, .int (x4 + (Int32.ofInt 1))), (7, .int (S (c + 2) x4.toInt.toNat)), (6, .int (S (c + 1) x4.toInt.toNat)), (0, .ref (c + 1)), (1, .int j1), (2, .ref 52), (3, .int x3), (5, .int x5)] [.int (Int32.ofInt 1)] S R _
                                refine u_st rfl (fun _ => rfl) ?_
                                refine u_st rfl (fun _ => rfl) ?_
                                show u_P L xs m d m_X1_run 282 [(8, .int (Int32.ofInt 1)), (4, .int (x4 + (Int32.ofInt 1))), (7, .int (S (c + 2) x4.toInt.toNat)), (6, .int (S (c + 1) x4.toInt.toNat)), (0, .ref (c + 1)), (1, .int j1), (2, .ref 52), (3, .int x3), (5, .int x5)] [.int (Int32.ofInt 0)] S R _
                                exact u_ret rfl rfl ⟨_, rfl, rfl, hD⟩
                            · have hD := hD.2 h23
                              show u_P L xs m d m_X1_run 251 [(4, .int (x4 + (Int32.ofInt 1))), (7, .int (S (c + 2) x4.toInt.toNat)), (6, .int (S (c + 1) x4.toInt.toNat)), (0, .ref (c + 1)), (1, .int j1), (2, .ref 52), (3, .int x3), (5, .int x5)] [] S R _
                              refine u_st rfl (fun _ => rfl) ?_
                              refine u_st rfl (fun _ => rfl) ?_
                              show u_P L xs m d m_X1_run 255 [(4, .int (x4 + (Int32.ofInt 1))), (7, .int (S (c + 2) x4.toInt.toNat)), (6, .int (S (c + 1) x4.toInt.toNat)), (0, .ref (c + 1)), (1, .int j1), (2, .ref 52), (3, .int x3), (5, .int x5)] [.int (Int32.ofInt 37), .int (S (c + 1) x4.toInt.toNat)] S R _
                              refine u_ic_ne rfl (fun h29 => ?_) (fun h29 => ?_)
                              · have hD := hD.1 h29
                                show u_P L xs m d m_X1_run 273 [(4, .int (x4 + (Int32.ofInt 1))), (7, .int (S (c + 2) x4.toInt.toNat)), (6, .int (S (c + 1) x4.toInt.toNat)), (0, .ref (c + 1)), (1, .int j1), (2, .ref 52), (3, .int x3), (5, .int x5)] [] S R _
                                refine u_st rfl (fun _ => rfl) ?_
                                refine u_st rfl (fun _ => rfl) ?_
                                refine u_st rfl (fun _ => rfl) ?_
                                show u_P L xs m d m_X1_run 278 [(8, .int (Int32.ofInt 0)), (4, .int (x4 + (Int32.ofInt 1))), (7, .int (S (c + 2) x4.toInt.toNat)), (6, .int (S (c + 1) x4.toInt.toNat)), (0, .ref (c + 1)), (1, .int j1), (2, .ref 52), (3, .int x3), (5, .int x5)] [.int (Int32.ofInt 0)] S R _
                                refine u_st rfl (fun _ => rfl) ?_
                                refine u_st rfl (fun _ => rfl) ?_
                                refine u_st rfl (fun _ => rfl) ?_
                                show u_P L xs m d m_X1_run 287 [(3, .int (x3 + (Int32.ofInt (-1)))), (8, .int (Int32.ofInt 0)), (4, .int (x4 + (Int32.ofInt 1))), (7, .int (S (c + 2) x4.toInt.toNat)), (6, .int (S (c + 1) x4.toInt.toNat)), (0, .ref (c + 1)), (1, .int j1), (2, .ref 52), (5, .int x5)] [.ref (c + 1)] S R _
                                refine u_getr rfl (z_cd0 hc) rfl ?_
                                refine u_st rfl (fun _ => rfl) ?_
                                refine u_st rfl (fun _ => rfl) ?_
                                refine u_st rfl (fun _ => rfl) ?_
                                refine u_st rfl (fun _ => rfl) ?_
                                refine u_st rfl (fun _ => rfl) ?_
                                show u_P L xs m d m_X1_run 296 [(3, .int (x3 + (Int32.ofInt (-1)))), (8, .int (Int32.ofInt 0)), (4, .int (x4 + (Int32.ofInt 1))), (7, .int (S (c + 2) x4.toInt.toNat)), (6, .int (S (c + 1) x4.toInt.toNat)), (0, .ref (c + 1)), (1, .int j1), (2, .ref 52), (5, .int x5)] [.ref (c + 1), .int (S (c + 1) x4.toInt.toNat), .int ((x3 + (Int32.ofInt (-1))) - (Int32.ofInt 1)), .ref (c + 4)] S R _
                                refine u_getr rfl (z_cd0 hc) rfl ?_
                                refine u_st rfl (fun _ => rfl) ?_
                                refine u_st rfl (fun _ => rfl) ?_
                                refine u_st rfl (fun _ => rfl) ?_
                                show u_P L xs m d m_X1_run 302 [(3, .int (x3 + (Int32.ofInt (-1)))), (8, .int (Int32.ofInt 0)), (4, .int (x4 + (Int32.ofInt 1))), (7, .int (S (c + 2) x4.toInt.toNat)), (6, .int (S (c + 1) x4.toInt.toNat)), (0, .ref (c + 1)), (1, .int j1), (2, .ref 52), (5, .int x5)] [.int ((x3 + (Int32.ofInt (-1))) - (Int32.ofInt 1)), .ref (c + 4), .int (S (c + 1) x4.toInt.toNat), .int ((x3 + (Int32.ofInt (-1))) - (Int32.ofInt 1)), .ref (c + 4)] S R _
                                refine u_ialdE (v := S (c + 3) (((x3 + (Int32.ofInt (-1))) - (Int32.ofInt 1)).toInt.toNat)) rfl (z_cd3 hc) rfl (fun b301 b302 => ?_)
                                have hD := hD b301 b302
                                show u_P L xs m d m_X1_run 303 [(3, .int (x3 + (Int32.ofInt (-1)))), (8, .int (Int32.ofInt 0)), (4, .int (x4 + (Int32.ofInt 1))), (7, .int (S (c + 2) x4.toInt.toNat)), (6, .int (S (c + 1) x4.toInt.toNat)), (0, .ref (c + 1)), (1, .int j1), (2, .ref 52), (5, .int x5)] [.int (S (c + 3) (((x3 + (Int32.ofInt (-1))) - (Int32.ofInt 1)).toInt.toNat)), .int (S (c + 1) x4.toInt.toNat), .int ((x3 + (Int32.ofInt (-1))) - (Int32.ofInt 1)), .ref (c + 4)] S R _
                                refine u_st rfl (fun _ => rfl) ?_
                                show u_P L xs m d m_X1_run 304 [(3, .int (x3 + (Int32.ofInt (-1)))), (8, .int (Int32.ofInt 0)), (4, .int (x4 + (Int32.ofInt 1))), (7, .int (S (c + 2) x4.toInt.toNat)), (6, .int (S (c + 1) x4.toInt.toNat)), (0, .ref (c + 1)), (1, .int j1), (2, .ref 52), (5, .int x5)] [.ref (c + 1), .int (S (c + 3) (((x3 + (Int32.ofInt (-1))) - (Int32.ofInt 1)).toInt.toNat)), .int (S (c + 1) x4.toInt.toNat), .int ((x3 + (Int32.ofInt (-1))) - (Int32.ofInt 1)), .ref (c + 4)] S R _
                                refine u_getr rfl (z_cd0 hc) rfl ?_
                                refine u_st rfl (fun _ => rfl) ?_
                                show u_P L xs m d m_X1_run 308 [(3, .int (x3 + (Int32.ofInt (-1)))), (8, .int (Int32.ofInt 0)), (4, .int (x4 + (Int32.ofInt 1))), (7, .int (S (c + 2) x4.toInt.toNat)), (6, .int (S (c + 1) x4.toInt.toNat)), (0, .ref (c + 1)), (1, .int j1), (2, .ref 52), (5, .int x5)] [.int (x3 + (Int32.ofInt (-1))), .ref (c + 4), .int (S (c + 3) (((x3 + (Int32.ofInt (-1))) - (Int32.ofInt 1)).toInt.toNat)), .int (S (c + 1) x4.toInt.toNat), .int ((x3 + (Int32.ofInt (-1))) - (Int32.ofInt 1)), .ref (c + 4)] S R _
                                refine u_ialdE (v := S (c + 3) ((x3 + (Int32.ofInt (-1))).toInt.toNat)) rfl (z_cd3 hc) rfl (fun b311 b312 => ?_)
                                have hD := hD b311 b312
                                show u_P L xs m d m_X1_run 309 [(3, .int (x3 + (Int32.ofInt (-1)))), (8, .int (Int32.ofInt 0)), (4, .int (x4 + (Int32.ofInt 1))), (7, .int (S (c + 2) x4.toInt.toNat)), (6, .int (S (c + 1) x4.toInt.toNat)), (0, .ref (c + 1)), (1, .int j1), (2, .ref 52), (5, .int x5)] [.int (S (c + 3) ((x3 + (Int32.ofInt (-1))).toInt.toNat)), .int (S (c + 3) (((x3 + (Int32.ofInt (-1))) - (Int32.ofInt 1)).toInt.toNat)), .int (S (c + 1) x4.toInt.toNat), .int ((x3 + (Int32.ofInt (-1))) - (Int32.ofInt 1)), .ref (c + 4)] S R _
                                refine u_cs (ac := [.int (S (c + 1) x4.toInt.toNat), .int (S (c + 3) (((x3 + (Int32.ofInt (-1))) - (Int32.ofInt 1)).toInt.toNat)), .int (S (c + 3) ((x3 + (Int32.ofInt (-1))).toInt.toNat))]) (rest := [.int ((x3 + (Int32.ofInt (-1))) - (Int32.ofInt 1)), .ref (c + 4)]) rfl (by decide) mt_X1_join (fun _ => rfl) (Nat.le_of_ble_eq_true rfl) (Nat.le_of_ble_eq_true rfl) (fun d' => c_X1_join L xs m d' (S (c + 1) x4.toInt.toNat) (S (c + 3) (((x3 + (Int32.ofInt (-1))) - (Int32.ofInt 1)).toInt.toNat)) (S (c + 3) ((x3 + (Int32.ofInt (-1))).toInt.toNat)) S R) ?_
                                rintro _ _ _ ⟨_, rfl, rfl, rfl, rfl⟩
                                show u_P L xs m d m_X1_run 312 [(3, .int (x3 + (Int32.ofInt (-1)))), (8, .int (Int32.ofInt 0)), (4, .int (x4 + (Int32.ofInt 1))), (7, .int (S (c + 2) x4.toInt.toNat)), (6, .int (S (c + 1) x4.toInt.toNat)), (0, .ref (c + 1)), (1, .int j1), (2, .ref 52), (5, .int x5)] [.int (f_X1_join (S (c + 1) x4.toInt.toNat) (S (c + 3) (((x3 + (Int32.ofInt (-1))) - (Int32.ofInt 1)).toInt.toNat)) (S (c + 3) ((x3 + (Int32.ofInt (-1))).toInt.toNat))), .int ((x3 + (Int32.ofInt (-1))) - (Int32.ofInt 1)), .ref (c + 4)] S R _
                                refine u_iast rfl (z_cd3 hc) (fun b321 b322 => ?_)
                                have hD := hD b321 b322
                                show u_P L xs m d m_X1_run 313 [(3, .int (x3 + (Int32.ofInt (-1)))), (8, .int (Int32.ofInt 0)), (4, .int (x4 + (Int32.ofInt 1))), (7, .int (S (c + 2) x4.toInt.toNat)), (6, .int (S (c + 1) x4.toInt.toNat)), (0, .ref (c + 1)), (1, .int j1), (2, .ref 52), (5, .int x5)] [] (z_s S (c + 3) (((x3 + (Int32.ofInt (-1))) - (Int32.ofInt 1)).toInt.toNat) (f_X1_join (S (c + 1) x4.toInt.toNat) (S (c + 3) (((x3 + (Int32.ofInt (-1))) - (Int32.ofInt 1)).toInt.toNat)) (S (c + 3) ((x3 + (Int32.ofInt (-1))).toInt.toNat)))) R _
                                refine u_st rfl (fun _ => rfl) ?_
                                refine u_st rfl (fun _ => rfl) ?_
                                refine u_lc (b := [(0, .ref (c + 1)), (1, .int j1), (2, .ref 52), (3, .int (x3 + (Int32.ofInt (-1)))), (4, .int (x4 + (Int32.ofInt 1))), (5, .int (x5 + (Int32.ofInt 1))), (6, .int (S (c + 1) x4.toInt.toNat)), (7, .int (S (c + 2) x4.toInt.toNat)), (8, .int (Int32.ofInt 0))]) (show ([5, 3, 8, 4, 7, 6, 0, 1, 2] : List Nat).Nodup by decide) (show ([0, 1, 2, 3, 4, 5, 6, 7, 8] : List Nat).Nodup by decide) (fun i => match i with | 0 => rfl | 1 => rfl | 2 => rfl | 3 => rfl | 4 => rfl | 5 => rfl | 6 => rfl | 7 => rfl | 8 => rfl | _ + 9 => rfl) ?_
                                exact (ih m hm).2.2 d j1 (S (c + 1) x4.toInt.toNat) (S (c + 2) x4.toInt.toNat) (Int32.ofInt 0) (x3 + (Int32.ofInt (-1))) (x4 + (Int32.ofInt 1)) (x5 + (Int32.ofInt 1)) (z_s S (c + 3) (((x3 + (Int32.ofInt (-1))) - (Int32.ofInt 1)).toInt.toNat) (f_X1_join (S (c + 1) x4.toInt.toNat) (S (c + 3) (((x3 + (Int32.ofInt (-1))) - (Int32.ofInt 1)).toInt.toNat)) (S (c + 3) ((x3 + (Int32.ofInt (-1))).toInt.toNat)))) hD
                              · have hD := hD.2 h29
                                show u_P L xs m d m_X1_run 258 [(4, .int (x4 + (Int32.ofInt 1))), (7, .int (S (c + 2) x4.toInt.toNat)), (6, .int (S (c + 1) x4.toInt.toNat)), (0, .ref (c + 1)), (1, .int j1), (2, .ref 52), (3, .int x3), (5, .int x5)] [] S R _
                                refine u_st rfl (fun _ => rfl) ?_
                                show u_P L xs m d m_X1_run 259 [(4, .int (x4 + (Int32.ofInt 1))), (7, .int (S (c + 2) x4.toInt.toNat)), (6, .int (S (c + 1) x4.toInt.toNat)), (0, .ref (c + 1)), (1, .int j1), (2, .ref 52), (3, .int x3), (5, .int x5)] [.ref (c + 1)] S R _
                                refine u_getr rfl (z_cd0 hc) rfl ?_
                                refine u_st rfl (fun _ => rfl) ?_
                                refine u_st rfl (fun _ => rfl) ?_
                                refine u_st rfl (fun _ => rfl) ?_
                                show u_P L xs m d m_X1_run 265 [(4, .int (x4 + (Int32.ofInt 1))), (7, .int (S (c + 2) x4.toInt.toNat)), (6, .int (S (c + 1) x4.toInt.toNat)), (0, .ref (c + 1)), (1, .int j1), (2, .ref 52), (3, .int x3), (5, .int x5)] [.int (x3 - (Int32.ofInt 1)), .ref (c + 4)] S R _
                                refine u_ialdE (v := S (c + 3) ((x3 - (Int32.ofInt 1)).toInt.toNat)) rfl (z_cd3 hc) rfl (fun b331 b332 => ?_)
                                have hD := hD b331 b332
                                show u_P L xs m d m_X1_run 266 [(4, .int (x4 + (Int32.ofInt 1))), (7, .int (S (c + 2) x4.toInt.toNat)), (6, .int (S (c + 1) x4.toInt.toNat)), (0, .ref (c + 1)), (1, .int j1), (2, .ref 52), (3, .int x3), (5, .int x5)] [.int (S (c + 3) ((x3 - (Int32.ofInt 1)).toInt.toNat))] S R _
                                refine u_if_ne rfl (fun h34 => ?_) (fun h34 => ?_)
                                · have hD := hD.1 h34
                                  show u_P L xs m d m_X1_run 273 [(4, .int (x4 + (Int32.ofInt 1))), (7, .int (S (c + 2) x4.toInt.toNat)), (6, .int (S (c + 1) x4.toInt.toNat)), (0, .ref (c + 1)), (1, .int j1), (2, .ref 52), (3, .int x3), (5, .int x5)] [] S R _
                                  refine u_st rfl (fun _ => rfl) ?_
                                  refine u_st rfl (fun _ => rfl) ?_
                                  refine u_st rfl (fun _ => rfl) ?_
                                  show u_P L xs m d m_X1_run 278 [(8, .int (Int32.ofInt 0)), (4, .int (x4 + (Int32.ofInt 1))), (7, .int (S (c + 2) x4.toInt.toNat)), (6, .int (S (c + 1) x4.toInt.toNat)), (0, .ref (c + 1)), (1, .int j1), (2, .ref 52), (3, .int x3), (5, .int x5)] [.int (Int32.ofInt 0)] S R _
                                  refine u_st rfl (fun _ => rfl) ?_
                                  refine u_st rfl (fun _ => rfl) ?_
                                  refine u_st rfl (fun _ => rfl) ?_
                                  show u_P L xs m d m_X1_run 287 [(3, .int (x3 + (Int32.ofInt (-1)))), (8, .int (Int32.ofInt 0)), (4, .int (x4 + (Int32.ofInt 1))), (7, .int (S (c + 2) x4.toInt.toNat)), (6, .int (S (c + 1) x4.toInt.toNat)), (0, .ref (c + 1)), (1, .int j1), (2, .ref 52), (5, .int x5)] [.ref (c + 1)] S R _
                                  refine u_getr rfl (z_cd0 hc) rfl ?_
                                  refine u_st rfl (fun _ => rfl) ?_
                                  refine u_st rfl (fun _ => rfl) ?_
                                  refine u_st rfl (fun _ => rfl) ?_
                                  refine u_st rfl (fun _ => rfl) ?_
                                  refine u_st rfl (fun _ => rfl) ?_
                                  show u_P L xs m d m_X1_run 296 [(3, .int (x3 + (Int32.ofInt (-1)))), (8, .int (Int32.ofInt 0)), (4, .int (x4 + (Int32.ofInt 1))), (7, .int (S (c + 2) x4.toInt.toNat)), (6, .int (S (c + 1) x4.toInt.toNat)), (0, .ref (c + 1)), (1, .int j1), (2, .ref 52), (5, .int x5)] [.ref (c + 1), .int (S (c + 1) x4.toInt.toNat), .int ((x3 + (Int32.ofInt (-1))) - (Int32.ofInt 1)), .ref (c + 4)] S R _
                                  refine u_getr rfl (z_cd0 hc) rfl ?_
                                  refine u_st rfl (fun _ => rfl) ?_
                                  refine u_st rfl (fun _ => rfl) ?_
                                  refine u_st rfl (fun _ => rfl) ?_
                                  show u_P L xs m d m_X1_run 302 [(3, .int (x3 + (Int32.ofInt (-1)))), (8, .int (Int32.ofInt 0)), (4, .int (x4 + (Int32.ofInt 1))), (7, .int (S (c + 2) x4.toInt.toNat)), (6, .int (S (c + 1) x4.toInt.toNat)), (0, .ref (c + 1)), (1, .int j1), (2, .ref 52), (5, .int x5)] [.int ((x3 + (Int32.ofInt (-1))) - (Int32.ofInt 1)), .ref (c + 4), .int (S (c + 1) x4.toInt.toNat), .int ((x3 + (Int32.ofInt (-1))) - (Int32.ofInt 1)), .ref (c + 4)] S R _
                                  refine u_ialdE (v := S (c + 3) (((x3 + (Int32.ofInt (-1))) - (Int32.ofInt 1)).toInt.toNat)) rfl (z_cd3 hc) rfl (fun b351 b352 => ?_)
                                  have hD := hD b351 b352
                                  show u_P L xs m d m_X1_run 303 [(3, .int (x3 + (Int32.ofInt (-1)))), (8, .int (Int32.ofInt 0)), (4, .int (x4 + (Int32.ofInt 1))), (7, .int (S (c + 2) x4.toInt.toNat)), (6, .int (S (c + 1) x4.toInt.toNat)), (0, .ref (c + 1)), (1, .int j1), (2, .ref 52), (5, .int x5)] [.int (S (c + 3) (((x3 + (Int32.ofInt (-1))) - (Int32.ofInt 1)).toInt.toNat)), .int (S (c + 1) x4.toInt.toNat), .int ((x3 + (Int32.ofInt (-1))) - (Int32.ofInt 1)), .ref (c + 4)] S R _
                                  refine u_st rfl (fun _ => rfl) ?_
                                  show u_P L xs m d m_X1_run 304 [(3, .int (x3 + (Int32.ofInt (-1)))), (8, .int (Int32.ofInt 0)), (4, .int (x4 + (Int32.ofInt 1))), (7, .int (S (c + 2) x4.toInt.toNat)), (6, .int (S (c + 1) x4.toInt.toNat)), (0, .ref (c + 1)), (1, .int j1), (2, .ref 52), (5, .int x5)] [.ref (c + 1), .int (S (c + 3) (((x3 + (Int32.ofInt (-1))) - (Int32.ofInt 1)).toInt.toNat)), .int (S (c + 1) x4.toInt.toNat), .int ((x3 + (Int32.ofInt (-1))) - (Int32.ofInt 1)), .ref (c + 4)] S R _
                                  refine u_getr rfl (z_cd0 hc) rfl ?_
                                  refine u_st rfl (fun _ => rfl) ?_
                                  show u_P L xs m d m_X1_run 308 [(3, .int (x3 + (Int32.ofInt (-1)))), (8, .int (Int32.ofInt 0)), (4, .int (x4 + (Int32.ofInt 1))), (7, .int (S (c + 2) x4.toInt.toNat)), (6, .int (S (c + 1) x4.toInt.toNat)), (0, .ref (c + 1)), (1, .int j1), (2, .ref 52), (5, .int x5)] [.int (x3 + (Int32.ofInt (-1))), .ref (c + 4), .int (S (c + 3) (((x3 + (Int32.ofInt (-1))) - (Int32.ofInt 1)).toInt.toNat)), .int (S (c + 1) x4.toInt.toNat), .int ((x3 + (Int32.ofInt (-1))) - (Int32.ofInt 1)), .ref (c + 4)] S R _
                                  refine u_ialdE (v := S (c + 3) ((x3 + (Int32.ofInt (-1))).toInt.toNat)) rfl (z_cd3 hc) rfl (fun b361 b362 => ?_)
                                  have hD := hD b361 b362
                                  show u_P L xs m d m_X1_run 309 [(3, .int (x3 + (Int32.ofInt (-1)))), (8, .int (Int32.ofInt 0)), (4, .int (x4 + (Int32.ofInt 1))), (7, .int (S (c + 2) x4.toInt.toNat)), (6, .int (S (c + 1) x4.toInt.toNat)), (0, .ref (c + 1)), (1, .int j1), (2, .ref 52), (5, .int x5)] [.int (S (c + 3) ((x3 + (Int32.ofInt (-1))).toInt.toNat)), .int (S (c + 3) (((x3 + (Int32.ofInt (-1))) - (Int32.ofInt 1)).toInt.toNat)), .int (S (c + 1) x4.toInt.toNat), .int ((x3 + (Int32.ofInt (-1))) - (Int32.ofInt 1)), .ref (c + 4)] S R _
                                  refine u_cs (ac := [.int (S (c + 1) x4.toInt.toNat), .int (S (c + 3) (((x3 + (Int32.ofInt (-1))) - (Int32.ofInt 1)).toInt.toNat)), .int (S (c + 3) ((x3 + (Int32.ofInt (-1))).toInt.toNat))]) (rest := [.int ((x3 + (Int32.ofInt (-1))) - (Int32.ofInt 1)), .ref (c + 4)]) rfl (by decide) mt_X1_join (fun _ => rfl) (Nat.le_of_ble_eq_true rfl) (Nat.le_of_ble_eq_true rfl) (fun d' => c_X1_join L xs m d' (S (c + 1) x4.toInt.toNat) (S (c + 3) (((x3 + (Int32.ofInt (-1))) - (Int32.ofInt 1)).toInt.toNat)) (S (c + 3) ((x3 + (Int32.ofInt (-1))).toInt.toNat)) S R) ?_
                                  rintro _ _ _ ⟨_, rfl, rfl, rfl, rfl⟩
                                  show u_P L xs m d m_X1_run 312 [(3, .int (x3 + (Int32.ofInt (-1)))), (8, .int (Int32.ofInt 0)), (4, .int (x4 + (Int32.ofInt 1))), (7, .int (S (c + 2) x4.toInt.toNat)), (6, .int (S (c + 1) x4.toInt.toNat)), (0, .ref (c + 1)), (1, .int j1), (2, .ref 52), (5, .int x5)] [.int (f_X1_join (S (c + 1) x4.toInt.toNat) (S (c + 3) (((x3 + (Int32.ofInt (-1))) - (Int32.ofInt 1)).toInt.toNat)) (S (c + 3) ((x3 + (Int32.ofInt (-1))).toInt.toNat))), .int ((x3 + (Int32.ofInt (-1))) - (Int32.ofInt 1)), .ref (c + 4)] S R _
                                  refine u_iast rfl (z_cd3 hc) (fun b371 b372 => ?_)
                                  have hD := hD b371 b372
                                  show u_P L xs m d m_X1_run 313 [(3, .int (x3 + (Int32.ofInt (-1)))), (8, .int (Int32.ofInt 0)), (4, .int (x4 + (Int32.ofInt 1))), (7, .int (S (c + 2) x4.toInt.toNat)), (6, .int (S (c + 1) x4.toInt.toNat)), (0, .ref (c + 1)), (1, .int j1), (2, .ref 52), (5, .int x5)] [] (z_s S (c + 3) (((x3 + (Int32.ofInt (-1))) - (Int32.ofInt 1)).toInt.toNat) (f_X1_join (S (c + 1) x4.toInt.toNat) (S (c + 3) (((x3 + (Int32.ofInt (-1))) - (Int32.ofInt 1)).toInt.toNat)) (S (c + 3) ((x3 + (Int32.ofInt (-1))).toInt.toNat)))) R _
                                  refine u_st rfl (fun _ => rfl) ?_
                                  refine u_st rfl (fun _ => rfl) ?_
                                  refine u_lc (b := [(0, .ref (c + 1)), (1, .int j1), (2, .ref 52), (3, .int (x3 + (Int32.ofInt (-1)))), (4, .int (x4 + (Int32.ofInt 1))), (5, .int (x5 + (Int32.ofInt 1))), (6, .int (S (c + 1) x4.toInt.toNat)), (7, .int (S (c + 2) x4.toInt.toNat)), (8, .int (Int32.ofInt 0))]) (show ([5, 3, 8, 4, 7, 6, 0, 1, 2] : List Nat).Nodup by decide) (show ([0, 1, 2, 3, 4, 5, 6, 7, 8] : List Nat).Nodup by decide) (fun i => match i with | 0 => rfl | 1 => rfl | 2 => rfl | 3 => rfl | 4 => rfl | 5 => rfl | 6 => rfl | 7 => rfl | 8 => rfl | _ + 9 => rfl) ?_
                                  exact (ih m hm).2.2 d j1 (S (c + 1) x4.toInt.toNat) (S (c + 2) x4.toInt.toNat) (Int32.ofInt 0) (x3 + (Int32.ofInt (-1))) (x4 + (Int32.ofInt 1)) (x5 + (Int32.ofInt 1)) (z_s S (c + 3) (((x3 + (Int32.ofInt (-1))) - (Int32.ofInt 1)).toInt.toNat) (f_X1_join (S (c + 1) x4.toInt.toNat) (S (c + 3) (((x3 + (Int32.ofInt (-1))) - (Int32.ofInt 1)).toInt.toNat)) (S (c + 3) ((x3 + (Int32.ofInt (-1))).toInt.toNat)))) hD
                                · have hD := hD.2 h34
                                  show u_P L xs m d m_X1_run 269 [(4, .int (x4 + (Int32.ofInt 1))), (7, .int (S (c + 2) x4.toInt.toNat)), (6, .int (S (c + 1) x4.toInt.toNat)), (0, .ref (c + 1)), (1, .int j1), (2, .ref 52), (3, .int x3), (5, .int x5)] [] S R _
                                  refine u_st rfl (fun _ => rfl) ?_
                                  refine u_st rfl (fun _ => rfl) ?_
                                  refine u_st rfl (fun _ => rfl) ?_
                                  refine u_st rfl (fun _ => rfl) ?_
                                  show u_P L xs m d m_X1_run 278 [(8, .int (Int32.ofInt 1)), (4, .int (x4 + (Int32.ofInt 1))), (7, .int (S (c + 2) x4.toInt.toNat)), (6, .int (S (c + 1) x4.toInt.toNat)), (0, .ref (c + 1)), (1, .int j1), (2, .ref 52), (3, .int x3), (5, .int x5)] [.int (Int32.ofInt 1)] S R _
                                  refine u_st rfl (fun _ => rfl) ?_
                                  refine u_st rfl (fun _ => rfl) ?_
                                  show u_P L xs m d m_X1_run 282 [(8, .int (Int32.ofInt 1)), (4, .int (x4 + (Int32.ofInt 1))), (7, .int (S (c + 2) x4.toInt.toNat)), (6, .int (S (c + 1) x4.toInt.toNat)), (0, .ref (c + 1)), (1, .int j1), (2, .ref 52), (3, .int x3), (5, .int x5)] [.int (Int32.ofInt 0)] S R _
                                  exact u_ret rfl rfl ⟨_, rfl, rfl, hD⟩
                        · have hD := hD.2 h21
                          show u_P L xs m d m_X1_run 172 [(4, .int (x4 + (Int32.ofInt 1))), (7, .int (S (c + 2) x4.toInt.toNat)), (6, .int (S (c + 1) x4.toInt.toNat)), (0, .ref (c + 1)), (1, .int j1), (2, .ref 52), (3, .int x3), (5, .int x5)] [] S R _
                          refine u_st rfl (fun _ => rfl) ?_
                          show u_P L xs m d m_X1_run 173 [(4, .int (x4 + (Int32.ofInt 1))), (7, .int (S (c + 2) x4.toInt.toNat)), (6, .int (S (c + 1) x4.toInt.toNat)), (0, .ref (c + 1)), (1, .int j1), (2, .ref 52), (3, .int x3), (5, .int x5)] [.ref (c + 1)] S R _
                          refine u_getr rfl (z_cd0 hc) rfl ?_
                          refine u_st rfl (fun _ => rfl) ?_
                          refine u_st rfl (fun _ => rfl) ?_
                          refine u_st rfl (fun _ => rfl) ?_
                          show u_P L xs m d m_X1_run 179 [(4, .int (x4 + (Int32.ofInt 1))), (7, .int (S (c + 2) x4.toInt.toNat)), (6, .int (S (c + 1) x4.toInt.toNat)), (0, .ref (c + 1)), (1, .int j1), (2, .ref 52), (3, .int x3), (5, .int x5)] [.int (x3 - (Int32.ofInt 1)), .ref (c + 4)] S R _
                          refine u_ialdE (v := S (c + 3) ((x3 - (Int32.ofInt 1)).toInt.toNat)) rfl (z_cd3 hc) rfl (fun b381 b382 => ?_)
                          have hD := hD b381 b382
                          show u_P L xs m d m_X1_run 180 [(4, .int (x4 + (Int32.ofInt 1))), (7, .int (S (c + 2) x4.toInt.toNat)), (6, .int (S (c + 1) x4.toInt.toNat)), (0, .ref (c + 1)), (1, .int j1), (2, .ref 52), (3, .int x3), (5, .int x5)] [.int (S (c + 3) ((x3 - (Int32.ofInt 1)).toInt.toNat))] S R _
                          refine u_if_eq rfl (fun h39 => ?_) (fun h39 => ?_)
                          · have hD := hD.1 h39
                            show u_P L xs m d m_X1_run 187 [(4, .int (x4 + (Int32.ofInt 1))), (7, .int (S (c + 2) x4.toInt.toNat)), (6, .int (S (c + 1) x4.toInt.toNat)), (0, .ref (c + 1)), (1, .int j1), (2, .ref 52), (3, .int x3), (5, .int x5)] [] S R _
                            refine u_st rfl (fun _ => rfl) ?_
                            refine u_st rfl (fun _ => rfl) ?_
                            refine u_st rfl (fun _ => rfl) ?_
                            show u_P L xs m d m_X1_run 191 [(4, .int (x4 + (Int32.ofInt 1))), (7, .int (S (c + 2) x4.toInt.toNat)), (6, .int (S (c + 1) x4.toInt.toNat)), (0, .ref (c + 1)), (1, .int j1), (2, .ref 52), (3, .int x3), (5, .int x5)] [.int (Int32.ofInt 5), .int (S (c + 1) x4.toInt.toNat), .int (Int32.ofInt 0)] S R _
                            refine u_ic_ne rfl (fun h40 => absurd (Classical.not_not.mp h21) h40) (fun _ => ?_)
                            show u_P L xs m d m_X1_run 194 [(4, .int (x4 + (Int32.ofInt 1))), (7, .int (S (c + 2) x4.toInt.toNat)), (6, .int (S (c + 1) x4.toInt.toNat)), (0, .ref (c + 1)), (1, .int j1), (2, .ref 52), (3, .int x3), (5, .int x5)] [.int (Int32.ofInt 0)] S R _
                            refine u_st rfl (fun _ => rfl) ?_
                            refine u_st rfl (fun _ => rfl) ?_
                            show u_P L xs m d m_X1_run 199 [(4, .int (x4 + (Int32.ofInt 1))), (7, .int (S (c + 2) x4.toInt.toNat)), (6, .int (S (c + 1) x4.toInt.toNat)), (0, .ref (c + 1)), (1, .int j1), (2, .ref 52), (3, .int x3), (5, .int x5)] [.int (Int32.ofInt 1), .int (Int32.ofInt 0)] S R _
                            refine u_st rfl (fun _ => rfl) ?_
                            refine u_st rfl (fun _ => rfl) ?_
                            refine u_st rfl (fun _ => rfl) ?_
                            refine u_st rfl (fun _ => rfl) ?_
                            show u_P L xs m d m_X1_run 211 [(8, .int (Int32.ofInt 0)), (4, .int (x4 + (Int32.ofInt 1))), (7, .int (S (c + 2) x4.toInt.toNat)), (6, .int (S (c + 1) x4.toInt.toNat)), (0, .ref (c + 1)), (1, .int j1), (2, .ref 52), (3, .int x3), (5, .int x5)] [.int (Int32.ofInt 0)] S R _
                            refine u_st rfl (fun _ => rfl) ?_
                            refine u_st rfl (fun _ => rfl) ?_
                            refine u_st rfl (fun _ => rfl) ?_
                            refine u_st rfl (fun _ => rfl) ?_
                            show u_P L xs m d m_X1_run 225 [(4, .int (x4 + (Int32.ofInt 1))), (8, .int (Int32.ofInt 0)), (7, .int (S (c + 2) x4.toInt.toNat)), (6, .int (S (c + 1) x4.toInt.toNat)), (0, .ref (c + 1)), (1, .int j1), (2, .ref 52), (3, .int x3), (5, .int x5)] [.int (Int32.ofInt 0)] S R _
                            refine u_st rfl (fun _ => rfl) ?_
                            refine u_st rfl (fun _ => rfl) ?_
                            refine u_st rfl (fun _ => rfl) ?_
                            refine u_st rfl (fun _ => rfl) ?_
                            refine u_st rfl (fun _ => rfl) ?_
                            refine u_st rfl (fun _ => rfl) ?_
                            refine u_st rfl (fun _ => rfl) ?_
                            refine u_st rfl (fun _ => rfl) ?_
                            refine u_lc (b := [(0, .ref (c + 1)), (1, .int j1), (2, .ref 52), (3, .int (x3 - (Int32.ofInt 1))), (4, .int (x4 + (Int32.ofInt 1))), (5, .int (x5 + (Int32.ofInt 1))), (6, .int (S (c + 1) x4.toInt.toNat)), (7, .int (S (c + 2) x4.toInt.toNat)), (8, .int (Int32.ofInt 0))]) (show ([5, 3, 4, 8, 7, 6, 0, 1, 2] : List Nat).Nodup by decide) (show ([0, 1, 2, 3, 4, 5, 6, 7, 8] : List Nat).Nodup by decide) (fun i => match i with | 0 => rfl | 1 => rfl | 2 => rfl | 3 => rfl | 4 => rfl | 5 => rfl | 6 => rfl | 7 => rfl | 8 => rfl | _ + 9 => rfl) ?_
                            exact (ih m hm).2.2 d j1 (S (c + 1) x4.toInt.toNat) (S (c + 2) x4.toInt.toNat) (Int32.ofInt 0) (x3 - (Int32.ofInt 1)) (x4 + (Int32.ofInt 1)) (x5 + (Int32.ofInt 1)) S hD
                          · have hD := hD.2 h39
                            show u_P L xs m d m_X1_run 183 [(4, .int (x4 + (Int32.ofInt 1))), (7, .int (S (c + 2) x4.toInt.toNat)), (6, .int (S (c + 1) x4.toInt.toNat)), (0, .ref (c + 1)), (1, .int j1), (2, .ref 52), (3, .int x3), (5, .int x5)] [] S R _
                            refine u_st rfl (fun _ => rfl) ?_
                            refine u_st rfl (fun _ => rfl) ?_
                            refine u_st rfl (fun _ => rfl) ?_
                            refine u_st rfl (fun _ => rfl) ?_
                            show u_P L xs m d m_X1_run 191 [(4, .int (x4 + (Int32.ofInt 1))), (7, .int (S (c + 2) x4.toInt.toNat)), (6, .int (S (c + 1) x4.toInt.toNat)), (0, .ref (c + 1)), (1, .int j1), (2, .ref 52), (3, .int x3), (5, .int x5)] [.int (Int32.ofInt 5), .int (S (c + 1) x4.toInt.toNat), .int (Int32.ofInt 1)] S R _
                            refine u_ic_ne rfl (fun h41 => absurd (Classical.not_not.mp h21) h41) (fun _ => ?_)
                            show u_P L xs m d m_X1_run 194 [(4, .int (x4 + (Int32.ofInt 1))), (7, .int (S (c + 2) x4.toInt.toNat)), (6, .int (S (c + 1) x4.toInt.toNat)), (0, .ref (c + 1)), (1, .int j1), (2, .ref 52), (3, .int x3), (5, .int x5)] [.int (Int32.ofInt 1)] S R _
                            refine u_st rfl (fun _ => rfl) ?_
                            refine u_st rfl (fun _ => rfl) ?_
                            show u_P L xs m d m_X1_run 199 [(4, .int (x4 + (Int32.ofInt 1))), (7, .int (S (c + 2) x4.toInt.toNat)), (6, .int (S (c + 1) x4.toInt.toNat)), (0, .ref (c + 1)), (1, .int j1), (2, .ref 52), (3, .int x3), (5, .int x5)] [.int (Int32.ofInt 1), .int (Int32.ofInt 1)] S R _
                            refine u_st rfl (fun _ => rfl) ?_
                            refine u_st rfl (fun _ => rfl) ?_
                            refine u_st rfl (fun _ => rfl) ?_
                            refine u_st rfl (fun _ => rfl) ?_
                            refine u_st rfl (fun _ => rfl) ?_
                            show u_P L xs m d m_X1_run 211 [(8, .int (Int32.ofInt 1)), (4, .int (x4 + (Int32.ofInt 1))), (7, .int (S (c + 2) x4.toInt.toNat)), (6, .int (S (c + 1) x4.toInt.toNat)), (0, .ref (c + 1)), (1, .int j1), (2, .ref 52), (3, .int x3), (5, .int x5)] [.int (Int32.ofInt 1)] S R _
                            refine u_st rfl (fun _ => rfl) ?_
                            refine u_st rfl (fun _ => rfl) ?_
                            refine u_st rfl (fun _ => rfl) ?_
                            refine u_st rfl (fun _ => rfl) ?_
                            refine u_st rfl (fun _ => rfl) ?_
                            show u_P L xs m d m_X1_run 225 [(4, .int (S (c + 2) x4.toInt.toNat)), (8, .int (Int32.ofInt 1)), (7, .int (S (c + 2) x4.toInt.toNat)), (6, .int (S (c + 1) x4.toInt.toNat)), (0, .ref (c + 1)), (1, .int j1), (2, .ref 52), (3, .int x3), (5, .int x5)] [.int (Int32.ofInt 1)] S R _
                            refine u_st rfl (fun _ => rfl) ?_
                            refine u_st rfl (fun _ => rfl) ?_
                            refine u_st rfl (fun _ => rfl) ?_
                            refine u_st rfl (fun _ => rfl) ?_
                            refine u_st rfl (fun _ => rfl) ?_
                            refine u_st rfl (fun _ => rfl) ?_
                            refine u_st rfl (fun _ => rfl) ?_
                            refine u_lc (b := [(0, .ref (c + 1)), (1, .int j1), (2, .ref 52), (3, .int x3), (4, .int (S (c + 2) x4.toInt.toNat)), (5, .int (x5 + (Int32.ofInt 1))), (6, .int (S (c + 1) x4.toInt.toNat)), (7, .int (S (c + 2) x4.toInt.toNat)), (8, .int (Int32.ofInt 1))]) (show ([5, 3, 4, 8, 7, 6, 0, 1, 2] : List Nat).Nodup by decide) (show ([0, 1, 2, 3, 4, 5, 6, 7, 8] : List Nat).Nodup by decide) (fun i => match i with | 0 => rfl | 1 => rfl | 2 => rfl | 3 => rfl | 4 => rfl | 5 => rfl | 6 => rfl | 7 => rfl | 8 => rfl | _ + 9 => rfl) ?_
                            exact (ih m hm).2.2 d j1 (S (c + 1) x4.toInt.toNat) (S (c + 2) x4.toInt.toNat) (Int32.ofInt 1) x3 (S (c + 2) x4.toInt.toNat) (x5 + (Int32.ofInt 1)) S hD
                    · have hD := hD.2 h15
                      show u_P L xs m d m_X1_run 139 [(4, .int (x4 + (Int32.ofInt 1))), (7, .int (S (c + 2) x4.toInt.toNat)), (6, .int (S (c + 1) x4.toInt.toNat)), (0, .ref (c + 1)), (1, .int j1), (2, .ref 52), (3, .int x3), (5, .int x5)] [] S R _
                      refine u_st rfl (fun _ => rfl) ?_
                      show u_P L xs m d m_X1_run 140 [(4, .int (x4 + (Int32.ofInt 1))), (7, .int (S (c + 2) x4.toInt.toNat)), (6, .int (S (c + 1) x4.toInt.toNat)), (0, .ref (c + 1)), (1, .int j1), (2, .ref 52), (3, .int x3), (5, .int x5)] [.ref (c + 1)] S R _
                      refine u_getr rfl (z_cd0 hc) rfl ?_
                      refine u_st rfl (fun _ => rfl) ?_
                      refine u_st rfl (fun _ => rfl) ?_
                      refine u_st rfl (fun _ => rfl) ?_
                      refine u_st rfl (fun _ => rfl) ?_
                      refine u_st rfl (fun _ => rfl) ?_
                      show u_P L xs m d m_X1_run 148 [(4, .int (x4 + (Int32.ofInt 1))), (7, .int (S (c + 2) x4.toInt.toNat)), (6, .int (S (c + 1) x4.toInt.toNat)), (0, .ref (c + 1)), (1, .int j1), (2, .ref 52), (3, .int x3), (5, .int x5)] [.ref (c + 1), .int (Int32.ofInt 1), .int (x3 - (Int32.ofInt 1)), .ref (c + 4)] S R _
                      refine u_getr rfl (z_cd0 hc) rfl ?_
                      refine u_st rfl (fun _ => rfl) ?_
                      refine u_st rfl (fun _ => rfl) ?_
                      refine u_st rfl (fun _ => rfl) ?_
                      show u_P L xs m d m_X1_run 154 [(4, .int (x4 + (Int32.ofInt 1))), (7, .int (S (c + 2) x4.toInt.toNat)), (6, .int (S (c + 1) x4.toInt.toNat)), (0, .ref (c + 1)), (1, .int j1), (2, .ref 52), (3, .int x3), (5, .int x5)] [.int (x3 - (Int32.ofInt 1)), .ref (c + 4), .int (Int32.ofInt 1), .int (x3 - (Int32.ofInt 1)), .ref (c + 4)] S R _
                      refine u_ialdE (v := S (c + 3) ((x3 - (Int32.ofInt 1)).toInt.toNat)) rfl (z_cd3 hc) rfl (fun b421 b422 => ?_)
                      have hD := hD b421 b422
                      show u_P L xs m d m_X1_run 155 [(4, .int (x4 + (Int32.ofInt 1))), (7, .int (S (c + 2) x4.toInt.toNat)), (6, .int (S (c + 1) x4.toInt.toNat)), (0, .ref (c + 1)), (1, .int j1), (2, .ref 52), (3, .int x3), (5, .int x5)] [.int (S (c + 3) ((x3 - (Int32.ofInt 1)).toInt.toNat)), .int (Int32.ofInt 1), .int (x3 - (Int32.ofInt 1)), .ref (c + 4)] S R _
                      refine u_st rfl (fun _ => rfl) ?_
                      show u_P L xs m d m_X1_run 156 [(4, .int (x4 + (Int32.ofInt 1))), (7, .int (S (c + 2) x4.toInt.toNat)), (6, .int (S (c + 1) x4.toInt.toNat)), (0, .ref (c + 1)), (1, .int j1), (2, .ref 52), (3, .int x3), (5, .int x5)] [.int ((Int32.ofInt 1) - (S (c + 3) ((x3 - (Int32.ofInt 1)).toInt.toNat))), .int (x3 - (Int32.ofInt 1)), .ref (c + 4)] S R _
                      refine u_iast rfl (z_cd3 hc) (fun b431 b432 => ?_)
                      have hD := hD b431 b432
                      show u_P L xs m d m_X1_run 157 [(4, .int (x4 + (Int32.ofInt 1))), (7, .int (S (c + 2) x4.toInt.toNat)), (6, .int (S (c + 1) x4.toInt.toNat)), (0, .ref (c + 1)), (1, .int j1), (2, .ref 52), (3, .int x3), (5, .int x5)] [] (z_s S (c + 3) ((x3 - (Int32.ofInt 1)).toInt.toNat) ((Int32.ofInt 1) - (S (c + 3) ((x3 - (Int32.ofInt 1)).toInt.toNat)))) R _
                      refine u_st rfl (fun _ => rfl) ?_
                      refine u_st rfl (fun _ => rfl) ?_
                      refine u_st rfl (fun _ => rfl) ?_
                      refine u_lc (b := [(0, .ref (c + 1)), (1, .int j1), (2, .ref 52), (3, .int x3), (4, .int (x4 + (Int32.ofInt 1))), (5, .int (x5 + (Int32.ofInt 1))), (6, .int (S (c + 1) x4.toInt.toNat)), (7, .int (S (c + 2) x4.toInt.toNat))]) (show ([5, 4, 7, 6, 0, 1, 2, 3] : List Nat).Nodup by decide) (show ([0, 1, 2, 3, 4, 5, 6, 7] : List Nat).Nodup by decide) (fun i => match i with | 0 => rfl | 1 => rfl | 2 => rfl | 3 => rfl | 4 => rfl | 5 => rfl | 6 => rfl | 7 => rfl | _ + 8 => rfl) ?_
                      exact (ih m hm).2.1 d j1 (S (c + 1) x4.toInt.toNat) (S (c + 2) x4.toInt.toNat) x3 (x4 + (Int32.ofInt 1)) (x5 + (Int32.ofInt 1)) (z_s S (c + 3) ((x3 - (Int32.ofInt 1)).toInt.toNat) ((Int32.ofInt 1) - (S (c + 3) ((x3 - (Int32.ofInt 1)).toInt.toNat)))) hD
                  · have hD := hD.2 h14
                    show u_P L xs m d m_X1_run 115 [(4, .int (x4 + (Int32.ofInt 1))), (7, .int (S (c + 2) x4.toInt.toNat)), (6, .int (S (c + 1) x4.toInt.toNat)), (0, .ref (c + 1)), (1, .int j1), (2, .ref 52), (3, .int x3), (5, .int x5)] [] S R _
                    refine u_st rfl (fun _ => rfl) ?_
                    refine u_st rfl (fun _ => rfl) ?_
                    show u_P L xs m d m_X1_run 117 [(4, .int (x4 + (Int32.ofInt 1))), (7, .int (S (c + 2) x4.toInt.toNat)), (6, .int (S (c + 1) x4.toInt.toNat)), (0, .ref (c + 1)), (1, .int j1), (2, .ref 52), (3, .int x3), (5, .int x5)] [.int (Int32.ofInt 1), .int x3] S R _
                    refine u_ic_ge rfl (fun h44 => ?_) (fun h44 => ?_)
                    · have hD := hD.1 h44
                      show u_P L xs m d m_X1_run 124 [(4, .int (x4 + (Int32.ofInt 1))), (7, .int (S (c + 2) x4.toInt.toNat)), (6, .int (S (c + 1) x4.toInt.toNat)), (0, .ref (c + 1)), (1, .int j1), (2, .ref 52), (3, .int x3), (5, .int x5)] [] S R _
                      refine u_st rfl (fun _ => rfl) ?_
                      show u_P L xs m d m_X1_run 125 [(4, .int (x4 + (Int32.ofInt 1))), (7, .int (S (c + 2) x4.toInt.toNat)), (6, .int (S (c + 1) x4.toInt.toNat)), (0, .ref (c + 1)), (1, .int j1), (2, .ref 52), (3, .int x3), (5, .int x5)] [.ref (c + 1)] S R _
                      refine u_getr rfl (z_cd0 hc) rfl ?_
                      refine u_st rfl (fun _ => rfl) ?_
                      refine u_st rfl (fun _ => rfl) ?_
                      refine u_st rfl (fun _ => rfl) ?_
                      show u_P L xs m d m_X1_run 131 [(4, .int (x4 + (Int32.ofInt 1))), (7, .int (S (c + 2) x4.toInt.toNat)), (6, .int (S (c + 1) x4.toInt.toNat)), (0, .ref (c + 1)), (1, .int j1), (2, .ref 52), (3, .int x3), (5, .int x5)] [.int (x3 - (Int32.ofInt 1)), .ref (c + 4)] S R _
                      refine u_ialdE (v := S (c + 3) ((x3 - (Int32.ofInt 1)).toInt.toNat)) rfl (z_cd3 hc) rfl (fun b451 b452 => ?_)
                      have hD := hD b451 b452
                      show u_P L xs m d m_X1_run 132 [(4, .int (x4 + (Int32.ofInt 1))), (7, .int (S (c + 2) x4.toInt.toNat)), (6, .int (S (c + 1) x4.toInt.toNat)), (0, .ref (c + 1)), (1, .int j1), (2, .ref 52), (3, .int x3), (5, .int x5)] [.int (S (c + 3) ((x3 - (Int32.ofInt 1)).toInt.toNat))] S R _
                      exact u_ret rfl rfl ⟨_, rfl, rfl, hD⟩
                    · have hD := hD.2 h44
                      show u_P L xs m d m_X1_run 120 [(4, .int (x4 + (Int32.ofInt 1))), (7, .int (S (c + 2) x4.toInt.toNat)), (6, .int (S (c + 1) x4.toInt.toNat)), (0, .ref (c + 1)), (1, .int j1), (2, .ref 52), (3, .int x3), (5, .int x5)] [] S R _
                      refine u_st rfl (fun _ => rfl) ?_
                      refine u_st rfl (fun _ => rfl) ?_
                      show u_P L xs m d m_X1_run 132 [(4, .int (x4 + (Int32.ofInt 1))), (7, .int (S (c + 2) x4.toInt.toNat)), (6, .int (S (c + 1) x4.toInt.toNat)), (0, .ref (c + 1)), (1, .int j1), (2, .ref 52), (3, .int x3), (5, .int x5)] [.int (Int32.ofInt 0)] S R _
                      exact u_ret rfl rfl ⟨_, rfl, rfl, hD⟩
              · have hD := hD.2 h10
                show u_P L xs m d m_X1_run 65 [(4, .int (x4 + (Int32.ofInt 1))), (7, .int (S (c + 2) x4.toInt.toNat)), (6, .int (S (c + 1) x4.toInt.toNat)), (0, .ref (c + 1)), (1, .int j1), (2, .ref 52), (3, .int x3), (5, .int x5)] [] S R _
                refine u_st rfl (fun _ => rfl) ?_
                refine u_st rfl (fun _ => rfl) ?_
                show u_P L xs m d m_X1_run 67 [(4, .int (x4 + (Int32.ofInt 1))), (7, .int (S (c + 2) x4.toInt.toNat)), (6, .int (S (c + 1) x4.toInt.toNat)), (0, .ref (c + 1)), (1, .int j1), (2, .ref 52), (3, .int x3), (5, .int x5)] [.ref (c + 1), .int x3] S R _
                refine u_getr rfl (z_cd0 hc) rfl ?_
                show u_P L xs m d m_X1_run 70 [(4, .int (x4 + (Int32.ofInt 1))), (7, .int (S (c + 2) x4.toInt.toNat)), (6, .int (S (c + 1) x4.toInt.toNat)), (0, .ref (c + 1)), (1, .int j1), (2, .ref 52), (3, .int x3), (5, .int x5)] [.ref (c + 4), .int x3] S R _
                refine u_al rfl (z_cd3 hc) rfl ?_
                show u_P L xs m d m_X1_run 71 [(4, .int (x4 + (Int32.ofInt 1))), (7, .int (S (c + 2) x4.toInt.toNat)), (6, .int (S (c + 1) x4.toInt.toNat)), (0, .ref (c + 1)), (1, .int j1), (2, .ref 52), (3, .int x3), (5, .int x5)] [.int (Int32.ofNat 32), .int x3] S R _
                refine u_ic_lt rfl (fun h46 => ?_) (fun h46 => ?_)
                · have hD := hD.1 h46
                  show u_P L xs m d m_X1_run 76 [(4, .int (x4 + (Int32.ofInt 1))), (7, .int (S (c + 2) x4.toInt.toNat)), (6, .int (S (c + 1) x4.toInt.toNat)), (0, .ref (c + 1)), (1, .int j1), (2, .ref 52), (3, .int x3), (5, .int x5)] [] S R _
                  refine u_st rfl (fun _ => rfl) ?_
                  show u_P L xs m d m_X1_run 77 [(4, .int (x4 + (Int32.ofInt 1))), (7, .int (S (c + 2) x4.toInt.toNat)), (6, .int (S (c + 1) x4.toInt.toNat)), (0, .ref (c + 1)), (1, .int j1), (2, .ref 52), (3, .int x3), (5, .int x5)] [.ref (c + 1)] S R _
                  refine u_getr rfl (z_cd0 hc) rfl ?_
                  refine u_st rfl (fun _ => rfl) ?_
                  refine u_st rfl (fun _ => rfl) ?_
                  refine u_st rfl (fun _ => rfl) ?_
                  show u_P L xs m d m_X1_run 84 [(4, .int (x4 + (Int32.ofInt 1))), (7, .int (S (c + 2) x4.toInt.toNat)), (6, .int (S (c + 1) x4.toInt.toNat)), (0, .ref (c + 1)), (1, .int j1), (2, .ref 52), (3, .int x3), (5, .int x5)] [.int (Int32.ofInt 1), .int (S (c + 1) x4.toInt.toNat), .int x3, .ref (c + 4)] S R _
                  refine u_ic_ne rfl (fun _ => ?_) (fun h47 => absurd ((Classical.not_not.mp h10).symm.trans (Classical.not_not.mp h47)) (by decide))
                  show u_P L xs m d m_X1_run 92 [(4, .int (x4 + (Int32.ofInt 1))), (7, .int (S (c + 2) x4.toInt.toNat)), (6, .int (S (c + 1) x4.toInt.toNat)), (0, .ref (c + 1)), (1, .int j1), (2, .ref 52), (3, .int x3), (5, .int x5)] [.int x3, .ref (c + 4)] S R _
                  refine u_st rfl (fun _ => rfl) ?_
                  refine u_st rfl (fun _ => rfl) ?_
                  show u_P L xs m d m_X1_run 95 [(4, .int (x4 + (Int32.ofInt 1))), (7, .int (S (c + 2) x4.toInt.toNat)), (6, .int (S (c + 1) x4.toInt.toNat)), (0, .ref (c + 1)), (1, .int j1), (2, .ref 52), (3, .int x3), (5, .int x5)] [.int (S (c + 2) x4.toInt.toNat), .ref 52, .int x3, .ref (c + 4)] S R _
                  refine u_cs (ac := [.ref 52, .int (S (c + 2) x4.toInt.toNat)]) (rest := [.int x3, .ref (c + 4)]) rfl (by decide) mt_X1_valueAt (fun _ => rfl) (Nat.le_of_ble_eq_true rfl) (Nat.le_of_ble_eq_true rfl) (fun d' => c_X1_valueAt L xs m d' (S (c + 2) x4.toInt.toNat) S R) ?_
                  rintro _ _ _ ⟨_, rfl, rfl, rfl, rfl⟩
                  show u_P L xs m d m_X1_run 98 [(4, .int (x4 + (Int32.ofInt 1))), (7, .int (S (c + 2) x4.toInt.toNat)), (6, .int (S (c + 1) x4.toInt.toNat)), (0, .ref (c + 1)), (1, .int j1), (2, .ref 52), (3, .int x3), (5, .int x5)] [.int (f_X1_valueAt (S (c + 2) x4.toInt.toNat) S), .int x3, .ref (c + 4)] S R _
                  refine u_iast rfl (z_cd3 hc) (fun b481 b482 => ?_)
                  have hD := hD b481 b482
                  show u_P L xs m d m_X1_run 99 [(4, .int (x4 + (Int32.ofInt 1))), (7, .int (S (c + 2) x4.toInt.toNat)), (6, .int (S (c + 1) x4.toInt.toNat)), (0, .ref (c + 1)), (1, .int j1), (2, .ref 52), (3, .int x3), (5, .int x5)] [] (z_s S (c + 3) x3.toInt.toNat (f_X1_valueAt (S (c + 2) x4.toInt.toNat) S)) R _
                  refine u_st rfl (fun _ => rfl) ?_
                  refine u_st rfl (fun _ => rfl) ?_
                  refine u_st rfl (fun _ => rfl) ?_
                  refine u_st rfl (fun _ => rfl) ?_
                  refine u_lc (b := [(0, .ref (c + 1)), (1, .int j1), (2, .ref 52), (3, .int (x3 + (Int32.ofInt 1))), (4, .int (x4 + (Int32.ofInt 1))), (5, .int (x5 + (Int32.ofInt 1))), (6, .int (S (c + 1) x4.toInt.toNat)), (7, .int (S (c + 2) x4.toInt.toNat))]) (show ([5, 3, 4, 7, 6, 0, 1, 2] : List Nat).Nodup by decide) (show ([0, 1, 2, 3, 4, 5, 6, 7] : List Nat).Nodup by decide) (fun i => match i with | 0 => rfl | 1 => rfl | 2 => rfl | 3 => rfl | 4 => rfl | 5 => rfl | 6 => rfl | 7 => rfl | _ + 8 => rfl) ?_
                  exact (ih m hm).2.1 d j1 (S (c + 1) x4.toInt.toNat) (S (c + 2) x4.toInt.toNat) (x3 + (Int32.ofInt 1)) (x4 + (Int32.ofInt 1)) (x5 + (Int32.ofInt 1)) (z_s S (c + 3) x3.toInt.toNat (f_X1_valueAt (S (c + 2) x4.toInt.toNat) S)) hD
                · have hD := hD.2 h46
                  show u_P L xs m d m_X1_run 74 [(4, .int (x4 + (Int32.ofInt 1))), (7, .int (S (c + 2) x4.toInt.toNat)), (6, .int (S (c + 1) x4.toInt.toNat)), (0, .ref (c + 1)), (1, .int j1), (2, .ref 52), (3, .int x3), (5, .int x5)] [] S R _
                  refine u_st rfl (fun _ => rfl) ?_
                  show u_P L xs m d m_X1_run 75 [(4, .int (x4 + (Int32.ofInt 1))), (7, .int (S (c + 2) x4.toInt.toNat)), (6, .int (S (c + 1) x4.toInt.toNat)), (0, .ref (c + 1)), (1, .int j1), (2, .ref 52), (3, .int x3), (5, .int x5)] [.int (Int32.ofInt 0)] S R _
                  exact u_ret rfl rfl ⟨_, rfl, rfl, hD⟩
    · intro d j1 j6 j7 x3 x4 x5 S hD
      have hD := k8 x3 x4 x5 S hD
      unfold D_X1_run_8 at hD
      show u_P L xs n d m_X1_run 8 [(0, .ref (c + 1)), (1, .int j1), (2, .ref 52), (3, .int x3), (4, .int x4), (5, .int x5), (6, .int j6), (7, .int j7)] [] S R _
      refine u_st1 rfl (fun _ => rfl) (fun m hm => ?_)
      refine u_st rfl (fun _ => rfl) ?_
      show u_P L xs m d m_X1_run 11 [(0, .ref (c + 1)), (1, .int j1), (2, .ref 52), (3, .int x3), (4, .int x4), (5, .int x5), (6, .int j6), (7, .int j7)] [.ref (c + 1), .int x5] S R _
      refine u_getr rfl (z_cd0 hc) rfl ?_
      show u_P L xs m d m_X1_run 14 [(0, .ref (c + 1)), (1, .int j1), (2, .ref 52), (3, .int x3), (4, .int x4), (5, .int x5), (6, .int j6), (7, .int j7)] [.ref (c + 2), .int x5] S R _
      refine u_al rfl (z_cd1 hc) rfl ?_
      show u_P L xs m d m_X1_run 15 [(0, .ref (c + 1)), (1, .int j1), (2, .ref 52), (3, .int x3), (4, .int x4), (5, .int x5), (6, .int j6), (7, .int j7)] [.int (Int32.ofNat 256), .int x5] S R _
      refine u_ic_ge rfl (fun h1 => ?_) (fun h1 => ?_)
      · have hD := hD.1 h1
        show u_P L xs m d m_X1_run 319 [(0, .ref (c + 1)), (1, .int j1), (2, .ref 52), (3, .int x3), (4, .int x4), (5, .int x5), (6, .int j6), (7, .int j7)] [] S R _
        refine u_st rfl (fun _ => rfl) ?_
        show u_P L xs m d m_X1_run 320 [(0, .ref (c + 1)), (1, .int j1), (2, .ref 52), (3, .int x3), (4, .int x4), (5, .int x5), (6, .int j6), (7, .int j7)] [.int (Int32.ofInt 0)] S R _
        exact u_ret rfl rfl ⟨_, rfl, rfl, hD⟩
      · have hD := hD.2 h1
        show u_P L xs m d m_X1_run 18 [(0, .ref (c + 1)), (1, .int j1), (2, .ref 52), (3, .int x3), (4, .int x4), (5, .int x5), (6, .int j6), (7, .int j7)] [] S R _
        refine u_st rfl (fun _ => rfl) ?_
        show u_P L xs m d m_X1_run 20 [(0, .ref (c + 1)), (1, .int j1), (2, .ref 52), (3, .int x3), (4, .int x4), (5, .int x5), (6, .int j6), (7, .int j7)] [.int x4] S R _
        refine u_if_lt rfl (fun h2 => ?_) (fun h2 => ?_)
        · have hD := hD.1 h2
          show u_P L xs m d m_X1_run 319 [(0, .ref (c + 1)), (1, .int j1), (2, .ref 52), (3, .int x3), (4, .int x4), (5, .int x5), (6, .int j6), (7, .int j7)] [] S R _
          refine u_st rfl (fun _ => rfl) ?_
          show u_P L xs m d m_X1_run 320 [(0, .ref (c + 1)), (1, .int j1), (2, .ref 52), (3, .int x3), (4, .int x4), (5, .int x5), (6, .int j6), (7, .int j7)] [.int (Int32.ofInt 0)] S R _
          exact u_ret rfl rfl ⟨_, rfl, rfl, hD⟩
        · have hD := hD.2 h2
          show u_P L xs m d m_X1_run 23 [(0, .ref (c + 1)), (1, .int j1), (2, .ref 52), (3, .int x3), (4, .int x4), (5, .int x5), (6, .int j6), (7, .int j7)] [] S R _
          refine u_st rfl (fun _ => rfl) ?_
          refine u_st rfl (fun _ => rfl) ?_
          show u_P L xs m d m_X1_run 26 [(0, .ref (c + 1)), (1, .int j1), (2, .ref 52), (3, .int x3), (4, .int x4), (5, .int x5), (6, .int j6), (7, .int j7)] [.ref (c + 1), .int x4] S R _
          refine u_getE (v := S c 6) rfl (z_cd0 hc) rfl rfl ?_
          show u_P L xs m d m_X1_run 29 [(0, .ref (c + 1)), (1, .int j1), (2, .ref 52), (3, .int x3), (4, .int x4), (5, .int x5), (6, .int j6), (7, .int j7)] [.int (S c 6), .int x4] S R _
          refine u_ic_ge rfl (fun h3 => ?_) (fun h3 => ?_)
          · have hD := hD.1 h3
            show u_P L xs m d m_X1_run 319 [(0, .ref (c + 1)), (1, .int j1), (2, .ref 52), (3, .int x3), (4, .int x4), (5, .int x5), (6, .int j6), (7, .int j7)] [] S R _
            refine u_st rfl (fun _ => rfl) ?_
            show u_P L xs m d m_X1_run 320 [(0, .ref (c + 1)), (1, .int j1), (2, .ref 52), (3, .int x3), (4, .int x4), (5, .int x5), (6, .int j6), (7, .int j7)] [.int (Int32.ofInt 0)] S R _
            exact u_ret rfl rfl ⟨_, rfl, rfl, hD⟩
          · have hD := hD.2 h3
            show u_P L xs m d m_X1_run 32 [(0, .ref (c + 1)), (1, .int j1), (2, .ref 52), (3, .int x3), (4, .int x4), (5, .int x5), (6, .int j6), (7, .int j7)] [] S R _
            refine u_st rfl (fun _ => rfl) ?_
            show u_P L xs m d m_X1_run 33 [(0, .ref (c + 1)), (1, .int j1), (2, .ref 52), (3, .int x3), (4, .int x4), (5, .int x5), (6, .int j6), (7, .int j7)] [.ref (c + 1)] S R _
            refine u_getr rfl (z_cd0 hc) rfl ?_
            refine u_st rfl (fun _ => rfl) ?_
            show u_P L xs m d m_X1_run 38 [(0, .ref (c + 1)), (1, .int j1), (2, .ref 52), (3, .int x3), (4, .int x4), (5, .int x5), (6, .int j6), (7, .int j7)] [.int x4, .ref (c + 2)] S R _
            refine u_ialdE (v := S (c + 1) x4.toInt.toNat) rfl (z_cd1 hc) rfl (fun b41 b42 => ?_)
            have hD := hD b41 b42
            show u_P L xs m d m_X1_run 39 [(0, .ref (c + 1)), (1, .int j1), (2, .ref 52), (3, .int x3), (4, .int x4), (5, .int x5), (6, .int j6), (7, .int j7)] [.int (S (c + 1) x4.toInt.toNat)] S R _
            refine u_st rfl (fun _ => rfl) ?_
            refine u_st rfl (fun _ => rfl) ?_
            show u_P L xs m d m_X1_run 42 [(6, .int (S (c + 1) x4.toInt.toNat)), (0, .ref (c + 1)), (1, .int j1), (2, .ref 52), (3, .int x3), (4, .int x4), (5, .int x5), (7, .int j7)] [.ref (c + 1)] S R _
            refine u_getr rfl (z_cd0 hc) rfl ?_
            refine u_st rfl (fun _ => rfl) ?_
            show u_P L xs m d m_X1_run 47 [(6, .int (S (c + 1) x4.toInt.toNat)), (0, .ref (c + 1)), (1, .int j1), (2, .ref 52), (3, .int x3), (4, .int x4), (5, .int x5), (7, .int j7)] [.int x4, .ref (c + 3)] S R _
            refine u_ialdE (v := S (c + 2) x4.toInt.toNat) rfl (z_cd2 hc) rfl (fun b51 b52 => ?_)
            have hD := hD b51 b52
            show u_P L xs m d m_X1_run 48 [(6, .int (S (c + 1) x4.toInt.toNat)), (0, .ref (c + 1)), (1, .int j1), (2, .ref 52), (3, .int x3), (4, .int x4), (5, .int x5), (7, .int j7)] [.int (S (c + 2) x4.toInt.toNat)] S R _
            refine u_st rfl (fun _ => rfl) ?_
            refine u_st rfl (fun _ => rfl) ?_
            refine u_st rfl (fun _ => rfl) ?_
            refine u_st rfl (fun _ => rfl) ?_
            show u_P L xs m d m_X1_run 56 [(4, .int (x4 + (Int32.ofInt 1))), (7, .int (S (c + 2) x4.toInt.toNat)), (6, .int (S (c + 1) x4.toInt.toNat)), (0, .ref (c + 1)), (1, .int j1), (2, .ref 52), (3, .int x3), (5, .int x5)] [.int (Int32.ofInt 1), .int (S (c + 1) x4.toInt.toNat)] S R _
            refine u_ic_eq rfl (fun h6 => ?_) (fun h6 => ?_)
            · have hD := hD.1 h6
              show u_P L xs m d m_X1_run 65 [(4, .int (x4 + (Int32.ofInt 1))), (7, .int (S (c + 2) x4.toInt.toNat)), (6, .int (S (c + 1) x4.toInt.toNat)), (0, .ref (c + 1)), (1, .int j1), (2, .ref 52), (3, .int x3), (5, .int x5)] [] S R _
              refine u_st rfl (fun _ => rfl) ?_
              refine u_st rfl (fun _ => rfl) ?_
              show u_P L xs m d m_X1_run 67 [(4, .int (x4 + (Int32.ofInt 1))), (7, .int (S (c + 2) x4.toInt.toNat)), (6, .int (S (c + 1) x4.toInt.toNat)), (0, .ref (c + 1)), (1, .int j1), (2, .ref 52), (3, .int x3), (5, .int x5)] [.ref (c + 1), .int x3] S R _
              refine u_getr rfl (z_cd0 hc) rfl ?_
              show u_P L xs m d m_X1_run 70 [(4, .int (x4 + (Int32.ofInt 1))), (7, .int (S (c + 2) x4.toInt.toNat)), (6, .int (S (c + 1) x4.toInt.toNat)), (0, .ref (c + 1)), (1, .int j1), (2, .ref 52), (3, .int x3), (5, .int x5)] [.ref (c + 4), .int x3] S R _
              refine u_al rfl (z_cd3 hc) rfl ?_
              show u_P L xs m d m_X1_run 71 [(4, .int (x4 + (Int32.ofInt 1))), (7, .int (S (c + 2) x4.toInt.toNat)), (6, .int (S (c + 1) x4.toInt.toNat)), (0, .ref (c + 1)), (1, .int j1), (2, .ref 52), (3, .int x3), (5, .int x5)] [.int (Int32.ofNat 32), .int x3] S R _
              refine u_ic_lt rfl (fun h7 => ?_) (fun h7 => ?_)
              · have hD := hD.1 h7
                show u_P L xs m d m_X1_run 76 [(4, .int (x4 + (Int32.ofInt 1))), (7, .int (S (c + 2) x4.toInt.toNat)), (6, .int (S (c + 1) x4.toInt.toNat)), (0, .ref (c + 1)), (1, .int j1), (2, .ref 52), (3, .int x3), (5, .int x5)] [] S R _
                refine u_st rfl (fun _ => rfl) ?_
                show u_P L xs m d m_X1_run 77 [(4, .int (x4 + (Int32.ofInt 1))), (7, .int (S (c + 2) x4.toInt.toNat)), (6, .int (S (c + 1) x4.toInt.toNat)), (0, .ref (c + 1)), (1, .int j1), (2, .ref 52), (3, .int x3), (5, .int x5)] [.ref (c + 1)] S R _
                refine u_getr rfl (z_cd0 hc) rfl ?_
                refine u_st rfl (fun _ => rfl) ?_
                refine u_st rfl (fun _ => rfl) ?_
                refine u_st rfl (fun _ => rfl) ?_
                show u_P L xs m d m_X1_run 84 [(4, .int (x4 + (Int32.ofInt 1))), (7, .int (S (c + 2) x4.toInt.toNat)), (6, .int (S (c + 1) x4.toInt.toNat)), (0, .ref (c + 1)), (1, .int j1), (2, .ref 52), (3, .int x3), (5, .int x5)] [.int (Int32.ofInt 1), .int (S (c + 1) x4.toInt.toNat), .int x3, .ref (c + 4)] S R _
                refine u_ic_ne rfl (fun h8 => absurd h6 h8) (fun _ => ?_)
                show u_P L xs m d m_X1_run 87 [(4, .int (x4 + (Int32.ofInt 1))), (7, .int (S (c + 2) x4.toInt.toNat)), (6, .int (S (c + 1) x4.toInt.toNat)), (0, .ref (c + 1)), (1, .int j1), (2, .ref 52), (3, .int x3), (5, .int x5)] [.int x3, .ref (c + 4)] S R _
                refine u_st rfl (fun _ => rfl) ?_
                refine u_st rfl (fun _ => rfl) ?_
                show u_P L xs m d m_X1_run 98 [(4, .int (x4 + (Int32.ofInt 1))), (7, .int (S (c + 2) x4.toInt.toNat)), (6, .int (S (c + 1) x4.toInt.toNat)), (0, .ref (c + 1)), (1, .int j1), (2, .ref 52), (3, .int x3), (5, .int x5)] [.int (S (c + 2) x4.toInt.toNat), .int x3, .ref (c + 4)] S R _
                refine u_iast rfl (z_cd3 hc) (fun b91 b92 => ?_)
                have hD := hD b91 b92
                show u_P L xs m d m_X1_run 99 [(4, .int (x4 + (Int32.ofInt 1))), (7, .int (S (c + 2) x4.toInt.toNat)), (6, .int (S (c + 1) x4.toInt.toNat)), (0, .ref (c + 1)), (1, .int j1), (2, .ref 52), (3, .int x3), (5, .int x5)] [] (z_s S (c + 3) x3.toInt.toNat (S (c + 2) x4.toInt.toNat)) R _
                refine u_st rfl (fun _ => rfl) ?_
                refine u_st rfl (fun _ => rfl) ?_
                refine u_st rfl (fun _ => rfl) ?_
                refine u_st rfl (fun _ => rfl) ?_
                refine u_lc (b := [(0, .ref (c + 1)), (1, .int j1), (2, .ref 52), (3, .int (x3 + (Int32.ofInt 1))), (4, .int (x4 + (Int32.ofInt 1))), (5, .int (x5 + (Int32.ofInt 1))), (6, .int (S (c + 1) x4.toInt.toNat)), (7, .int (S (c + 2) x4.toInt.toNat))]) (show ([5, 3, 4, 7, 6, 0, 1, 2] : List Nat).Nodup by decide) (show ([0, 1, 2, 3, 4, 5, 6, 7] : List Nat).Nodup by decide) (fun i => match i with | 0 => rfl | 1 => rfl | 2 => rfl | 3 => rfl | 4 => rfl | 5 => rfl | 6 => rfl | 7 => rfl | _ + 8 => rfl) ?_
                exact (ih m hm).2.1 d j1 (S (c + 1) x4.toInt.toNat) (S (c + 2) x4.toInt.toNat) (x3 + (Int32.ofInt 1)) (x4 + (Int32.ofInt 1)) (x5 + (Int32.ofInt 1)) (z_s S (c + 3) x3.toInt.toNat (S (c + 2) x4.toInt.toNat)) hD
              · have hD := hD.2 h7
                show u_P L xs m d m_X1_run 74 [(4, .int (x4 + (Int32.ofInt 1))), (7, .int (S (c + 2) x4.toInt.toNat)), (6, .int (S (c + 1) x4.toInt.toNat)), (0, .ref (c + 1)), (1, .int j1), (2, .ref 52), (3, .int x3), (5, .int x5)] [] S R _
                refine u_st rfl (fun _ => rfl) ?_
                show u_P L xs m d m_X1_run 75 [(4, .int (x4 + (Int32.ofInt 1))), (7, .int (S (c + 2) x4.toInt.toNat)), (6, .int (S (c + 1) x4.toInt.toNat)), (0, .ref (c + 1)), (1, .int j1), (2, .ref 52), (3, .int x3), (5, .int x5)] [.int (Int32.ofInt 0)] S R _
                exact u_ret rfl rfl ⟨_, rfl, rfl, hD⟩
            · have hD := hD.2 h6
              show u_P L xs m d m_X1_run 59 [(4, .int (x4 + (Int32.ofInt 1))), (7, .int (S (c + 2) x4.toInt.toNat)), (6, .int (S (c + 1) x4.toInt.toNat)), (0, .ref (c + 1)), (1, .int j1), (2, .ref 52), (3, .int x3), (5, .int x5)] [] S R _
              refine u_st rfl (fun _ => rfl) ?_
              refine u_st rfl (fun _ => rfl) ?_
              show u_P L xs m d m_X1_run 62 [(4, .int (x4 + (Int32.ofInt 1))), (7, .int (S (c + 2) x4.toInt.toNat)), (6, .int (S (c + 1) x4.toInt.toNat)), (0, .ref (c + 1)), (1, .int j1), (2, .ref 52), (3, .int x3), (5, .int x5)] [.int (Int32.ofInt 2), .int (S (c + 1) x4.toInt.toNat)] S R _
              refine u_ic_ne rfl (fun h10 => ?_) (fun h10 => ?_)
              · have hD := hD.1 h10
                show u_P L xs m d m_X1_run 105 [(4, .int (x4 + (Int32.ofInt 1))), (7, .int (S (c + 2) x4.toInt.toNat)), (6, .int (S (c + 1) x4.toInt.toNat)), (0, .ref (c + 1)), (1, .int j1), (2, .ref 52), (3, .int x3), (5, .int x5)] [] S R _
                refine u_st rfl (fun _ => rfl) ?_
                refine u_st rfl (fun _ => rfl) ?_
                show u_P L xs m d m_X1_run 107 [(4, .int (x4 + (Int32.ofInt 1))), (7, .int (S (c + 2) x4.toInt.toNat)), (6, .int (S (c + 1) x4.toInt.toNat)), (0, .ref (c + 1)), (1, .int j1), (2, .ref 52), (3, .int x3), (5, .int x5)] [.int (Int32.ofInt 1), .int x3] S R _
                refine u_ic_lt rfl (fun h11 => ?_) (fun h11 => ?_)
                · have hD := hD.1 h11
                  show u_P L xs m d m_X1_run 115 [(4, .int (x4 + (Int32.ofInt 1))), (7, .int (S (c + 2) x4.toInt.toNat)), (6, .int (S (c + 1) x4.toInt.toNat)), (0, .ref (c + 1)), (1, .int j1), (2, .ref 52), (3, .int x3), (5, .int x5)] [] S R _
                  refine u_st rfl (fun _ => rfl) ?_
                  refine u_st rfl (fun _ => rfl) ?_
                  show u_P L xs m d m_X1_run 117 [(4, .int (x4 + (Int32.ofInt 1))), (7, .int (S (c + 2) x4.toInt.toNat)), (6, .int (S (c + 1) x4.toInt.toNat)), (0, .ref (c + 1)), (1, .int j1), (2, .ref 52), (3, .int x3), (5, .int x5)] [.int (Int32.ofInt 1), .int x3] S R _
                  refine u_ic_ge rfl (fun h12 => ?_) (fun h12 => ?_)
                  · have hD := hD.1 h12
                    show u_P L xs m d m_X1_run 124 [(4, .int (x4 + (Int32.ofInt 1))), (7, .int (S (c + 2) x4.toInt.toNat)), (6, .int (S (c + 1) x4.toInt.toNat)), (0, .ref (c + 1)), (1, .int j1), (2, .ref 52), (3, .int x3), (5, .int x5)] [] S R _
                    refine u_st rfl (fun _ => rfl) ?_
                    show u_P L xs m d m_X1_run 125 [(4, .int (x4 + (Int32.ofInt 1))), (7, .int (S (c + 2) x4.toInt.toNat)), (6, .int (S (c + 1) x4.toInt.toNat)), (0, .ref (c + 1)), (1, .int j1), (2, .ref 52), (3, .int x3), (5, .int x5)] [.ref (c + 1)] S R _
                    refine u_getr rfl (z_cd0 hc) rfl ?_
                    refine u_st rfl (fun _ => rfl) ?_
                    refine u_st rfl (fun _ => rfl) ?_
                    refine u_st rfl (fun _ => rfl) ?_
                    show u_P L xs m d m_X1_run 131 [(4, .int (x4 + (Int32.ofInt 1))), (7, .int (S (c + 2) x4.toInt.toNat)), (6, .int (S (c + 1) x4.toInt.toNat)), (0, .ref (c + 1)), (1, .int j1), (2, .ref 52), (3, .int x3), (5, .int x5)] [.int (x3 - (Int32.ofInt 1)), .ref (c + 4)] S R _
                    refine u_ialdE (v := S (c + 3) ((x3 - (Int32.ofInt 1)).toInt.toNat)) rfl (z_cd3 hc) rfl (fun b131 b132 => ?_)
                    have hD := hD b131 b132
                    show u_P L xs m d m_X1_run 132 [(4, .int (x4 + (Int32.ofInt 1))), (7, .int (S (c + 2) x4.toInt.toNat)), (6, .int (S (c + 1) x4.toInt.toNat)), (0, .ref (c + 1)), (1, .int j1), (2, .ref 52), (3, .int x3), (5, .int x5)] [.int (S (c + 3) ((x3 - (Int32.ofInt 1)).toInt.toNat))] S R _
                    exact u_ret rfl rfl ⟨_, rfl, rfl, hD⟩
                  · have hD := hD.2 h12
                    show u_P L xs m d m_X1_run 120 [(4, .int (x4 + (Int32.ofInt 1))), (7, .int (S (c + 2) x4.toInt.toNat)), (6, .int (S (c + 1) x4.toInt.toNat)), (0, .ref (c + 1)), (1, .int j1), (2, .ref 52), (3, .int x3), (5, .int x5)] [] S R _
                    refine u_st rfl (fun _ => rfl) ?_
                    refine u_st rfl (fun _ => rfl) ?_
                    show u_P L xs m d m_X1_run 132 [(4, .int (x4 + (Int32.ofInt 1))), (7, .int (S (c + 2) x4.toInt.toNat)), (6, .int (S (c + 1) x4.toInt.toNat)), (0, .ref (c + 1)), (1, .int j1), (2, .ref 52), (3, .int x3), (5, .int x5)] [.int (Int32.ofInt 0)] S R _
                    exact u_ret rfl rfl ⟨_, rfl, rfl, hD⟩
                · have hD := hD.2 h11
                  show u_P L xs m d m_X1_run 110 [(4, .int (x4 + (Int32.ofInt 1))), (7, .int (S (c + 2) x4.toInt.toNat)), (6, .int (S (c + 1) x4.toInt.toNat)), (0, .ref (c + 1)), (1, .int j1), (2, .ref 52), (3, .int x3), (5, .int x5)] [] S R _
                  refine u_st rfl (fun _ => rfl) ?_
                  show u_P L xs m d m_X1_run 112 [(4, .int (x4 + (Int32.ofInt 1))), (7, .int (S (c + 2) x4.toInt.toNat)), (6, .int (S (c + 1) x4.toInt.toNat)), (0, .ref (c + 1)), (1, .int j1), (2, .ref 52), (3, .int x3), (5, .int x5)] [.int (S (c + 1) x4.toInt.toNat)] S R _
                  refine u_if_ne rfl (fun h14 => ?_) (fun h14 => ?_)
                  · have hD := hD.1 h14
                    show u_P L xs m d m_X1_run 133 [(4, .int (x4 + (Int32.ofInt 1))), (7, .int (S (c + 2) x4.toInt.toNat)), (6, .int (S (c + 1) x4.toInt.toNat)), (0, .ref (c + 1)), (1, .int j1), (2, .ref 52), (3, .int x3), (5, .int x5)] [] S R _
                    refine u_st rfl (fun _ => rfl) ?_
                    refine u_st rfl (fun _ => rfl) ?_
                    show u_P L xs m d m_X1_run 136 [(4, .int (x4 + (Int32.ofInt 1))), (7, .int (S (c + 2) x4.toInt.toNat)), (6, .int (S (c + 1) x4.toInt.toNat)), (0, .ref (c + 1)), (1, .int j1), (2, .ref 52), (3, .int x3), (5, .int x5)] [.int (Int32.ofInt 3), .int (S (c + 1) x4.toInt.toNat)] S R _
                    refine u_ic_ne rfl (fun h15 => ?_) (fun h15 => ?_)
                    · have hD := hD.1 h15
                      show u_P L xs m d m_X1_run 160 [(4, .int (x4 + (Int32.ofInt 1))), (7, .int (S (c + 2) x4.toInt.toNat)), (6, .int (S (c + 1) x4.toInt.toNat)), (0, .ref (c + 1)), (1, .int j1), (2, .ref 52), (3, .int x3), (5, .int x5)] [] S R _
                      refine u_st rfl (fun _ => rfl) ?_
                      refine u_st rfl (fun _ => rfl) ?_
                      show u_P L xs m d m_X1_run 163 [(4, .int (x4 + (Int32.ofInt 1))), (7, .int (S (c + 2) x4.toInt.toNat)), (6, .int (S (c + 1) x4.toInt.toNat)), (0, .ref (c + 1)), (1, .int j1), (2, .ref 52), (3, .int x3), (5, .int x5)] [.int (Int32.ofInt 4), .int (S (c + 1) x4.toInt.toNat)] S R _
                      refine u_ic_eq rfl (fun h16 => ?_) (fun h16 => ?_)
                      · have hD := hD.1 h16
                        show u_P L xs m d m_X1_run 172 [(4, .int (x4 + (Int32.ofInt 1))), (7, .int (S (c + 2) x4.toInt.toNat)), (6, .int (S (c + 1) x4.toInt.toNat)), (0, .ref (c + 1)), (1, .int j1), (2, .ref 52), (3, .int x3), (5, .int x5)] [] S R _
                        refine u_st rfl (fun _ => rfl) ?_
                        show u_P L xs m d m_X1_run 173 [(4, .int (x4 + (Int32.ofInt 1))), (7, .int (S (c + 2) x4.toInt.toNat)), (6, .int (S (c + 1) x4.toInt.toNat)), (0, .ref (c + 1)), (1, .int j1), (2, .ref 52), (3, .int x3), (5, .int x5)] [.ref (c + 1)] S R _
                        refine u_getr rfl (z_cd0 hc) rfl ?_
                        refine u_st rfl (fun _ => rfl) ?_
                        refine u_st rfl (fun _ => rfl) ?_
                        refine u_st rfl (fun _ => rfl) ?_
                        show u_P L xs m d m_X1_run 179 [(4, .int (x4 + (Int32.ofInt 1))), (7, .int (S (c + 2) x4.toInt.toNat)), (6, .int (S (c + 1) x4.toInt.toNat)), (0, .ref (c + 1)), (1, .int j1), (2, .ref 52), (3, .int x3), (5, .int x5)] [.int (x3 - (Int32.ofInt 1)), .ref (c + 4)] S R _
                        refine u_ialdE (v := S (c + 3) ((x3 - (Int32.ofInt 1)).toInt.toNat)) rfl (z_cd3 hc) rfl (fun b171 b172 => ?_)
                        have hD := hD b171 b172
                        show u_P L xs m d m_X1_run 180 [(4, .int (x4 + (Int32.ofInt 1))), (7, .int (S (c + 2) x4.toInt.toNat)), (6, .int (S (c + 1) x4.toInt.toNat)), (0, .ref (c + 1)), (1, .int j1), (2, .ref 52), (3, .int x3), (5, .int x5)] [.int (S (c + 3) ((x3 - (Int32.ofInt 1)).toInt.toNat))] S R _
                        refine u_if_eq rfl (fun h18 => ?_) (fun h18 => ?_)
                        · have hD := hD.1 h18
                          show u_P L xs m d m_X1_run 187 [(4, .int (x4 + (Int32.ofInt 1))), (7, .int (S (c + 2) x4.toInt.toNat)), (6, .int (S (c + 1) x4.toInt.toNat)), (0, .ref (c + 1)), (1, .int j1), (2, .ref 52), (3, .int x3), (5, .int x5)] [] S R _
                          refine u_st rfl (fun _ => rfl) ?_
                          refine u_st rfl (fun _ => rfl) ?_
                          refine u_st rfl (fun _ => rfl) ?_
                          show u_P L xs m d m_X1_run 191 [(4, .int (x4 + (Int32.ofInt 1))), (7, .int (S (c + 2) x4.toInt.toNat)), (6, .int (S (c + 1) x4.toInt.toNat)), (0, .ref (c + 1)), (1, .int j1), (2, .ref 52), (3, .int x3), (5, .int x5)] [.int (Int32.ofInt 5), .int (S (c + 1) x4.toInt.toNat), .int (Int32.ofInt 0)] S R _
                          refine u_ic_ne rfl (fun _ => ?_) (fun h19 => absurd (h16.symm.trans (Classical.not_not.mp h19)) (by decide))
                          show u_P L xs m d m_X1_run 198 [(4, .int (x4 + (Int32.ofInt 1))), (7, .int (S (c + 2) x4.toInt.toNat)), (6, .int (S (c + 1) x4.toInt.toNat)), (0, .ref (c + 1)), (1, .int j1), (2, .ref 52), (3, .int x3), (5, .int x5)] [.int (Int32.ofInt 0)] S R _
                          refine u_st rfl (fun _ => rfl) ?_
                          show u_P L xs m d m_X1_run 199 [(4, .int (x4 + (Int32.ofInt 1))), (7, .int (S (c + 2) x4.toInt.toNat)), (6, .int (S (c + 1) x4.toInt.toNat)), (0, .ref (c + 1)), (1, .int j1), (2, .ref 52), (3, .int x3), (5, .int x5)] [.int (Int32.ofInt 0), .int (Int32.ofInt 0)] S R _
                          refine u_st rfl (fun _ => rfl) ?_
                          refine u_st rfl (fun _ => rfl) ?_
                          refine u_st rfl (fun _ => rfl) ?_
                          refine u_st rfl (fun _ => rfl) ?_
                          refine u_st rfl (fun _ => rfl) ?_
                          show u_P L xs m d m_X1_run 211 [(8, .int (Int32.ofInt 1)), (4, .int (x4 + (Int32.ofInt 1))), (7, .int (S (c + 2) x4.toInt.toNat)), (6, .int (S (c + 1) x4.toInt.toNat)), (0, .ref (c + 1)), (1, .int j1), (2, .ref 52), (3, .int x3), (5, .int x5)] [.int (Int32.ofInt 1)] S R _
                          refine u_st rfl (fun _ => rfl) ?_
                          refine u_st rfl (fun _ => rfl) ?_
                          refine u_st rfl (fun _ => rfl) ?_
                          refine u_st rfl (fun _ => rfl) ?_
                          refine u_st rfl (fun _ => rfl) ?_
                          show u_P L xs m d m_X1_run 225 [(4, .int (S (c + 2) x4.toInt.toNat)), (8, .int (Int32.ofInt 1)), (7, .int (S (c + 2) x4.toInt.toNat)), (6, .int (S (c + 1) x4.toInt.toNat)), (0, .ref (c + 1)), (1, .int j1), (2, .ref 52), (3, .int x3), (5, .int x5)] [.int (Int32.ofInt 1)] S R _
                          refine u_st rfl (fun _ => rfl) ?_
                          refine u_st rfl (fun _ => rfl) ?_
                          refine u_st rfl (fun _ => rfl) ?_
                          refine u_st rfl (fun _ => rfl) ?_
                          refine u_st rfl (fun _ => rfl) ?_
                          refine u_st rfl (fun _ => rfl) ?_
                          refine u_st rfl (fun _ => rfl) ?_
                          refine u_lc (b := [(0, .ref (c + 1)), (1, .int j1), (2, .ref 52), (3, .int x3), (4, .int (S (c + 2) x4.toInt.toNat)), (5, .int (x5 + (Int32.ofInt 1))), (6, .int (S (c + 1) x4.toInt.toNat)), (7, .int (S (c + 2) x4.toInt.toNat)), (8, .int (Int32.ofInt 1))]) (show ([5, 3, 4, 8, 7, 6, 0, 1, 2] : List Nat).Nodup by decide) (show ([0, 1, 2, 3, 4, 5, 6, 7, 8] : List Nat).Nodup by decide) (fun i => match i with | 0 => rfl | 1 => rfl | 2 => rfl | 3 => rfl | 4 => rfl | 5 => rfl | 6 => rfl | 7 => rfl | 8 => rfl | _ + 9 => rfl) ?_
                          exact (ih m hm).2.2 d j1 (S (c + 1) x4.toInt.toNat) (S (c + 2) x4.toInt.toNat) (Int32.ofInt 1) x3 (S (c + 2) x4.toInt.toNat) (x5 + (Int32.ofInt 1)) S hD
                        · have hD := hD.2 h18
                          show u_P L xs m d m_X1_run 183 [(4, .int (x4 + (Int32.ofInt 1))), (7, .int (S (c + 2) x4.toInt.toNat)), (6, .int (S (c + 1) x4.toInt.toNat)), (0, .ref (c + 1)), (1, .int j1), (2, .ref 52), (3, .int x3), (5, .int x5)] [] S R _
                          refine u_st rfl (fun _ => rfl) ?_
                          refine u_st rfl (fun _ => rfl) ?_
                          refine u_st rfl (fun _ => rfl) ?_
                          refine u_st rfl (fun _ => rfl) ?_
                          show u_P L xs m d m_X1_run 191 [(4, .int (x4 + (Int32.ofInt 1))), (7, .int (S (c + 2) x4.toInt.toNat)), (6, .int (S (c + 1) x4.toInt.toNat)), (0, .ref (c + 1)), (1, .int j1), (2, .ref 52), (3, .int x3), (5, .int x5)] [.int (Int32.ofInt 5), .int (S (c + 1) x4.toInt.toNat), .int (Int32.ofInt 1)] S R _
                          refine u_ic_ne rfl (fun _ => ?_) (fun h20 => absurd (h16.symm.trans (Classical.not_not.mp h20)) (by decide))
                          show u_P L xs m d m_X1_run 198 [(4, .int (x4 + (Int32.ofInt 1))), (7, .int (S (c + 2) x4.toInt.toNat)), (6, .int (S (c + 1) x4.toInt.toNat)), (0, .ref (c + 1)), (1, .int j1), (2, .ref 52), (3, .int x3), (5, .int x5)] [.int (Int32.ofInt 1)] S R _
                          refine u_st rfl (fun _ => rfl) ?_
                          show u_P L xs m d m_X1_run 199 [(4, .int (x4 + (Int32.ofInt 1))), (7, .int (S (c + 2) x4.toInt.toNat)), (6, .int (S (c + 1) x4.toInt.toNat)), (0, .ref (c + 1)), (1, .int j1), (2, .ref 52), (3, .int x3), (5, .int x5)] [.int (Int32.ofInt 0), .int (Int32.ofInt 1)] S R _
                          refine u_st rfl (fun _ => rfl) ?_
                          refine u_st rfl (fun _ => rfl) ?_
                          refine u_st rfl (fun _ => rfl) ?_
                          refine u_st rfl (fun _ => rfl) ?_
                          show u_P L xs m d m_X1_run 211 [(8, .int (Int32.ofInt 0)), (4, .int (x4 + (Int32.ofInt 1))), (7, .int (S (c + 2) x4.toInt.toNat)), (6, .int (S (c + 1) x4.toInt.toNat)), (0, .ref (c + 1)), (1, .int j1), (2, .ref 52), (3, .int x3), (5, .int x5)] [.int (Int32.ofInt 0)] S R _
                          refine u_st rfl (fun _ => rfl) ?_
                          refine u_st rfl (fun _ => rfl) ?_
                          refine u_st rfl (fun _ => rfl) ?_
                          refine u_st rfl (fun _ => rfl) ?_
                          show u_P L xs m d m_X1_run 225 [(4, .int (x4 + (Int32.ofInt 1))), (8, .int (Int32.ofInt 0)), (7, .int (S (c + 2) x4.toInt.toNat)), (6, .int (S (c + 1) x4.toInt.toNat)), (0, .ref (c + 1)), (1, .int j1), (2, .ref 52), (3, .int x3), (5, .int x5)] [.int (Int32.ofInt 0)] S R _
                          refine u_st rfl (fun _ => rfl) ?_
                          refine u_st rfl (fun _ => rfl) ?_
                          refine u_st rfl (fun _ => rfl) ?_
                          refine u_st rfl (fun _ => rfl) ?_
                          refine u_st rfl (fun _ => rfl) ?_
                          refine u_st rfl (fun _ => rfl) ?_
                          refine u_st rfl (fun _ => rfl) ?_
                          refine u_st rfl (fun _ => rfl) ?_
                          refine u_lc (b := [(0, .ref (c + 1)), (1, .int j1), (2, .ref 52), (3, .int (x3 - (Int32.ofInt 1))), (4, .int (x4 + (Int32.ofInt 1))), (5, .int (x5 + (Int32.ofInt 1))), (6, .int (S (c + 1) x4.toInt.toNat)), (7, .int (S (c + 2) x4.toInt.toNat)), (8, .int (Int32.ofInt 0))]) (show ([5, 3, 4, 8, 7, 6, 0, 1, 2] : List Nat).Nodup by decide) (show ([0, 1, 2, 3, 4, 5, 6, 7, 8] : List Nat).Nodup by decide) (fun i => match i with | 0 => rfl | 1 => rfl | 2 => rfl | 3 => rfl | 4 => rfl | 5 => rfl | 6 => rfl | 7 => rfl | 8 => rfl | _ + 9 => rfl) ?_
                          exact (ih m hm).2.2 d j1 (S (c + 1) x4.toInt.toNat) (S (c + 2) x4.toInt.toNat) (Int32.ofInt 0) (x3 - (Int32.ofInt 1)) (x4 + (Int32.ofInt 1)) (x5 + (Int32.ofInt 1)) S hD
                      · have hD := hD.2 h16
                        show u_P L xs m d m_X1_run 166 [(4, .int (x4 + (Int32.ofInt 1))), (7, .int (S (c + 2) x4.toInt.toNat)), (6, .int (S (c + 1) x4.toInt.toNat)), (0, .ref (c + 1)), (1, .int j1), (2, .ref 52), (3, .int x3), (5, .int x5)] [] S R _
                        refine u_st rfl (fun _ => rfl) ?_
                        refine u_st rfl (fun _ => rfl) ?_
                        show u_P L xs m d m_X1_run 169 [(4, .int (x4 + (Int32.ofInt 1))), (7, .int (S (c + 2) x4.toInt.toNat)), (6, .int (S (c + 1) x4.toInt.toNat)), (0, .ref (c + 1)), (1, .int j1), (2, .ref 52), (3, .int x3), (5, .int x5)] [.int (Int32.ofInt 5), .int (S (c + 1) x4.toInt.toNat)] S R _
                        refine u_ic_ne rfl (fun h21 => ?_) (fun h21 => ?_)
                        · have hD := hD.1 h21
                          show u_P L xs m d m_X1_run 239 [(4, .int (x4 + (Int32.ofInt 1))), (7, .int (S (c + 2) x4.toInt.toNat)), (6, .int (S (c + 1) x4.toInt.toNat)), (0, .ref (c + 1)), (1, .int j1), (2, .ref 52), (3, .int x3), (5, .int x5)] [] S R _
                          refine u_st rfl (fun _ => rfl) ?_
                          refine u_st rfl (fun _ => rfl) ?_
                          show u_P L xs m d m_X1_run 241 [(4, .int (x4 + (Int32.ofInt 1))), (7, .int (S (c + 2) x4.toInt.toNat)), (6, .int (S (c + 1) x4.toInt.toNat)), (0, .ref (c + 1)), (1, .int j1), (2, .ref 52), (3, .int x3), (5, .int x5)] [.int (Int32.ofInt 2), .int x3] S R _
                          refine u_ic_lt rfl (fun h22 => ?_) (fun h22 => ?_)
                          · have hD := hD.1 h22
                            show u_P L xs m d m_X1_run 269 [(4, .int (x4 + (Int32.ofInt 1))), (7, .int (S (c + 2) x4.toInt.toNat)), (6, .int (S (c + 1) x4.toInt.toNat)), (0, .ref (c + 1)), (1, .int j1), (2, .ref 52), (3, .int x3), (5, .int x5)] [] S R _
                            refine u_st rfl (fun _ => rfl) ?_
                            refine u_st rfl (fun _ => rfl) ?_
                            refine u_st rfl (fun _ => rfl) ?_
                            refine u_st rfl (fun _ => rfl) ?_
                            show u_P L xs m d m_X1_run 278 [(8, .int (Int32.ofInt 1)), (4, .int (x4 + (Int32.ofInt 1))), (7, .int (S (c + 2) x4.toInt.toNat)), (6, .int (S (c + 1) x4.toInt.toNat)), (0, .ref (c + 1)), (1, .int j1), (2, .ref 52), (3, .int x3), (5, .int x5)] [.int (Int32.ofInt 1)] S R _
                            refine u_st rfl (fun _ => rfl) ?_
                            refine u_st rfl (fun _ => rfl) ?_
                            show u_P L xs m d m_X1_run 282 [(8, .int (Int32.ofInt 1)), (4, .int (x4 + (Int32.ofInt 1))), (7, .int (S (c + 2) x4.toInt.toNat)), (6, .int (S (c + 1) x4.toInt.toNat)), (0, .ref (c + 1)), (1, .int j1), (2, .ref 52), (3, .int x3), (5, .int x5)] [.int (Int32.ofInt 0)] S R _
                            exact u_ret rfl rfl ⟨_, rfl, rfl, hD⟩
                          · have hD := hD.2 h22
                            show u_P L xs m d m_X1_run 244 [(4, .int (x4 + (Int32.ofInt 1))), (7, .int (S (c + 2) x4.toInt.toNat)), (6, .int (S (c + 1) x4.toInt.toNat)), (0, .ref (c + 1)), (1, .int j1), (2, .ref 52), (3, .int x3), (5, .int x5)] [] S R _
                            refine u_st rfl (fun _ => rfl) ?_
                            refine u_st rfl (fun _ => rfl) ?_
                            show u_P L xs m d m_X1_run 248 [(4, .int (x4 + (Int32.ofInt 1))), (7, .int (S (c + 2) x4.toInt.toNat)), (6, .int (S (c + 1) x4.toInt.toNat)), (0, .ref (c + 1)), (1, .int j1), (2, .ref 52), (3, .int x3), (5, .int x5)] [.int (Int32.ofInt 47), .int (S (c + 1) x4.toInt.toNat)] S R _
                            refine u_ic_eq rfl (fun h23 => ?_) (fun h23 => ?_)
                            · have hD := hD.1 h23
                              show u_P L xs m d m_X1_run 258 [(4, .int (x4 + (Int32.ofInt 1))), (7, .int (S (c + 2) x4.toInt.toNat)), (6, .int (S (c + 1) x4.toInt.toNat)), (0, .ref (c + 1)), (1, .int j1), (2, .ref 52), (3, .int x3), (5, .int x5)] [] S R _
                              refine u_st rfl (fun _ => rfl) ?_
                              show u_P L xs m d m_X1_run 259 [(4, .int (x4 + (Int32.ofInt 1))), (7, .int (S (c + 2) x4.toInt.toNat)), (6, .int (S (c + 1) x4.toInt.toNat)), (0, .ref (c + 1)), (1, .int j1), (2, .ref 52), (3, .int x3), (5, .int x5)] [.ref (c + 1)] S R _
                              refine u_getr rfl (z_cd0 hc) rfl ?_
                              refine u_st rfl (fun _ => rfl) ?_
                              refine u_st rfl (fun _ => rfl) ?_
                              refine u_st rfl (fun _ => rfl) ?_
                              show u_P L xs m d m_X1_run 265 [(4, .int (x4 + (Int32.ofInt 1))), (7, .int (S (c + 2) x4.toInt.toNat)), (6, .int (S (c + 1) x4.toInt.toNat)), (0, .ref (c + 1)), (1, .int j1), (2, .ref 52), (3, .int x3), (5, .int x5)] [.int (x3 - (Int32.ofInt 1)), .ref (c + 4)] S R _
                              refine u_ialdE (v := S (c + 3) ((x3 - (Int32.ofInt 1)).toInt.toNat)) rfl (z_cd3 hc) rfl (fun b241 b242 => ?_)
                              have hD := hD b241 b242
                              show u_P L xs m d m_X1_run 266 [(4, .int (x4 + (Int32.ofInt 1))), (7, .int (S (c + 2) x4.toInt.toNat)), (6, .int (S (c + 1) x4.toInt.toNat)), (0, .ref (c + 1)), (1, .int j1), (2, .ref 52), (3, .int x3), (5, .int x5)] [.int (S (c + 3) ((x3 - (Int32.ofInt 1)).toInt.toNat))] S R _
                              refine u_if_ne rfl (fun h25 => ?_) (fun h25 => ?_)
                              · have hD := hD.1 h25
                                show u_P L xs m d m_X1_run 273 [(4, .int (x4 + (Int32.ofInt 1))), (7, .int (S (c + 2) x4.toInt.toNat)), (6, .int (S (c + 1) x4.toInt.toNat)), (0, .ref (c + 1)), (1, .int j1), (2, .ref 52), (3, .int x3), (5, .int x5)] [] S R _
                                refine u_st rfl (fun _ => rfl) ?_
                                refine u_st rfl (fun _ => rfl) ?_
                                refine u_st rfl (fun _ => rfl) ?_
                                show u_P L xs m d m_X1_run 278 [(8, .int (Int32.ofInt 0)), (4, .int (x4 + (Int32.ofInt 1))), (7, .int (S (c + 2) x4.toInt.toNat)), (6, .int (S (c + 1) x4.toInt.toNat)), (0, .ref (c + 1)), (1, .int j1), (2, .ref 52), (3, .int x3), (5, .int x5)] [.int (Int32.ofInt 0)] S R _
                                refine u_st rfl (fun _ => rfl) ?_
                                refine u_st rfl (fun _ => rfl) ?_
                                refine u_st rfl (fun _ => rfl) ?_
                                show u_P L xs m d m_X1_run 287 [(3, .int (x3 + (Int32.ofInt (-1)))), (8, .int (Int32.ofInt 0)), (4, .int (x4 + (Int32.ofInt 1))), (7, .int (S (c + 2) x4.toInt.toNat)), (6, .int (S (c + 1) x4.toInt.toNat)), (0, .ref (c + 1)), (1, .int j1), (2, .ref 52), (5, .int x5)] [.ref (c + 1)] S R _
                                refine u_getr rfl (z_cd0 hc) rfl ?_
                                refine u_st rfl (fun _ => rfl) ?_
                                refine u_st rfl (fun _ => rfl) ?_
                                refine u_st rfl (fun _ => rfl) ?_
                                refine u_st rfl (fun _ => rfl) ?_
                                refine u_st rfl (fun _ => rfl) ?_
                                show u_P L xs m d m_X1_run 296 [(3, .int (x3 + (Int32.ofInt (-1)))), (8, .int (Int32.ofInt 0)), (4, .int (x4 + (Int32.ofInt 1))), (7, .int (S (c + 2) x4.toInt.toNat)), (6, .int (S (c + 1) x4.toInt.toNat)), (0, .ref (c + 1)), (1, .int j1), (2, .ref 52), (5, .int x5)] [.ref (c + 1), .int (S (c + 1) x4.toInt.toNat), .int ((x3 + (Int32.ofInt (-1))) - (Int32.ofInt 1)), .ref (c + 4)] S R _
                                refine u_getr rfl (z_cd0 hc) rfl ?_
                                refine u_st rfl (fun _ => rfl) ?_
                                refine u_st rfl (fun _ => rfl) ?_
                                refine u_st rfl (fun _ => rfl) ?_
                                show u_P L xs m d m_X1_run 302 [(3, .int (x3 + (Int32.ofInt (-1)))), (8, .int (Int32.ofInt 0)), (4, .int (x4 + (Int32.ofInt 1))), (7, .int (S (c + 2) x4.toInt.toNat)), (6, .int (S (c + 1) x4.toInt.toNat)), (0, .ref (c + 1)), (1, .int j1), (2, .ref 52), (5, .int x5)] [.int ((x3 + (Int32.ofInt (-1))) - (Int32.ofInt 1)), .ref (c + 4), .int (S (c + 1) x4.toInt.toNat), .int ((x3 + (Int32.ofInt (-1))) - (Int32.ofInt 1)), .ref (c + 4)] S R _
                                refine u_ialdE (v := S (c + 3) (((x3 + (Int32.ofInt (-1))) - (Int32.ofInt 1)).toInt.toNat)) rfl (z_cd3 hc) rfl (fun b261 b262 => ?_)
                                have hD := hD b261 b262
                                show u_P L xs m d m_X1_run 303 [(3, .int (x3 + (Int32.ofInt (-1)))), (8, .int (Int32.ofInt 0)), (4, .int (x4 + (Int32.ofInt 1))), (7, .int (S (c + 2) x4.toInt.toNat)), (6, .int (S (c + 1) x4.toInt.toNat)), (0, .ref (c + 1)), (1, .int j1), (2, .ref 52), (5, .int x5)] [.int (S (c + 3) (((x3 + (Int32.ofInt (-1))) - (Int32.ofInt 1)).toInt.toNat)), .int (S (c + 1) x4.toInt.toNat), .int ((x3 + (Int32.ofInt (-1))) - (Int32.ofInt 1)), .ref (c + 4)] S R _
                                refine u_st rfl (fun _ => rfl) ?_
                                show u_P L xs m d m_X1_run 304 [(3, .int (x3 + (Int32.ofInt (-1)))), (8, .int (Int32.ofInt 0)), (4, .int (x4 + (Int32.ofInt 1))), (7, .int (S (c + 2) x4.toInt.toNat)), (6, .int (S (c + 1) x4.toInt.toNat)), (0, .ref (c + 1)), (1, .int j1), (2, .ref 52), (5, .int x5)] [.ref (c + 1), .int (S (c + 3) (((x3 + (Int32.ofInt (-1))) - (Int32.ofInt 1)).toInt.toNat)), .int (S (c + 1) x4.toInt.toNat), .int ((x3 + (Int32.ofInt (-1))) - (Int32.ofInt 1)), .ref (c + 4)] S R _
                                refine u_getr rfl (z_cd0 hc) rfl ?_
                                refine u_st rfl (fun _ => rfl) ?_
                                show u_P L xs m d m_X1_run 308 [(3, .int (x3 + (Int32.ofInt (-1)))), (8, .int (Int32.ofInt 0)), (4, .int (x4 + (Int32.ofInt 1))), (7, .int (S (c + 2) x4.toInt.toNat)), (6, .int (S (c + 1) x4.toInt.toNat)), (0, .ref (c + 1)), (1, .int j1), (2, .ref 52), (5, .int x5)] [.int (x3 + (Int32.ofInt (-1))), .ref (c + 4), .int (S (c + 3) (((x3 + (Int32.ofInt (-1))) - (Int32.ofInt 1)).toInt.toNat)), .int (S (c + 1) x4.toInt.toNat), .int ((x3 + (Int32.ofInt (-1))) - (Int32.ofInt 1)), .ref (c + 4)] S R _
                                refine u_ialdE (v := S (c + 3) ((x3 + (Int32.ofInt (-1))).toInt.toNat)) rfl (z_cd3 hc) rfl (fun b271 b272 => ?_)
                                have hD := hD b271 b272
                                show u_P L xs m d m_X1_run 309 [(3, .int (x3 + (Int32.ofInt (-1)))), (8, .int (Int32.ofInt 0)), (4, .int (x4 + (Int32.ofInt 1))), (7, .int (S (c + 2) x4.toInt.toNat)), (6, .int (S (c + 1) x4.toInt.toNat)), (0, .ref (c + 1)), (1, .int j1), (2, .ref 52), (5, .int x5)] [.int (S (c + 3) ((x3 + (Int32.ofInt (-1))).toInt.toNat)), .int (S (c + 3) (((x3 + (Int32.ofInt (-1))) - (Int32.ofInt 1)).toInt.toNat)), .int (S (c + 1) x4.toInt.toNat), .int ((x3 + (Int32.ofInt (-1))) - (Int32.ofInt 1)), .ref (c + 4)] S R _
                                refine u_cs (ac := [.int (S (c + 1) x4.toInt.toNat), .int (S (c + 3) (((x3 + (Int32.ofInt (-1))) - (Int32.ofInt 1)).toInt.toNat)), .int (S (c + 3) ((x3 + (Int32.ofInt (-1))).toInt.toNat))]) (rest := [.int ((x3 + (Int32.ofInt (-1))) - (Int32.ofInt 1)), .ref (c + 4)]) rfl (by decide) mt_X1_join (fun _ => rfl) (Nat.le_of_ble_eq_true rfl) (Nat.le_of_ble_eq_true rfl) (fun d' => c_X1_join L xs m d' (S (c + 1) x4.toInt.toNat) (S (c + 3) (((x3 + (Int32.ofInt (-1))) - (Int32.ofInt 1)).toInt.toNat)) (S (c + 3) ((x3 + (Int32.ofInt (-1))).toInt.toNat)) S R) ?_
                                rintro _ _ _ ⟨_, rfl, rfl, rfl, rfl⟩
                                show u_P L xs m d m_X1_run 312 [(3, .int (x3 + (Int32.ofInt (-1)))), (8, .int (Int32.ofInt 0)), (4, .int (x4 + (Int32.ofInt 1))), (7, .int (S (c + 2) x4.toInt.toNat)), (6, .int (S (c + 1) x4.toInt.toNat)), (0, .ref (c + 1)), (1, .int j1), (2, .ref 52), (5, .int x5)] [.int (f_X1_join (S (c + 1) x4.toInt.toNat) (S (c + 3) (((x3 + (Int32.ofInt (-1))) - (Int32.ofInt 1)).toInt.toNat)) (S (c + 3) ((x3 + (Int32.ofInt (-1))).toInt.toNat))), .int ((x3 + (Int32.ofInt (-1))) - (Int32.ofInt 1)), .ref (c + 4)] S R _
                                refine u_iast rfl (z_cd3 hc) (fun b281 b282 => ?_)
                                have hD := hD b281 b282
                                show u_P L xs m d m_X1_run 313 [(3, .int (x3 + (Int32.ofInt (-1)))), (8, .int (Int32.ofInt 0)), (4, .int (x4 + (Int32.ofInt 1))), (7, .int (S (c + 2) x4.toInt.toNat)), (6, .int (S (c + 1) x4.toInt.toNat)), (0, .ref (c + 1)), (1, .int j1), (2, .ref 52), (5, .int x5)] [] (z_s S (c + 3) (((x3 + (Int32.ofInt (-1))) - (Int32.ofInt 1)).toInt.toNat) (f_X1_join (S (c + 1) x4.toInt.toNat) (S (c + 3) (((x3 + (Int32.ofInt (-1))) - (Int32.ofInt 1)).toInt.toNat)) (S (c + 3) ((x3 + (Int32.ofInt (-1))).toInt.toNat)))) R _
                                refine u_st rfl (fun _ => rfl) ?_
                                refine u_st rfl (fun _ => rfl) ?_
                                refine u_lc (b := [(0, .ref (c + 1)), (1, .int j1), (2, .ref 52), (3, .int (x3 + (Int32.ofInt (-1)))), (4, .int (x4 + (Int32.ofInt 1))), (5, .int (x5 + (Int32.ofInt 1))), (6, .int (S (c + 1) x4.toInt.toNat)), (7, .int (S (c + 2) x4.toInt.toNat)), (8, .int (Int32.ofInt 0))]) (show ([5, 3, 8, 4, 7, 6, 0, 1, 2] : List Nat).Nodup by decide) (show ([0, 1, 2, 3, 4, 5, 6, 7, 8] : List Nat).Nodup by decide) (fun i => match i with | 0 => rfl | 1 => rfl | 2 => rfl | 3 => rfl | 4 => rfl | 5 => rfl | 6 => rfl | 7 => rfl | 8 => rfl | _ + 9 => rfl) ?_
                                exact (ih m hm).2.2 d j1 (S (c + 1) x4.toInt.toNat) (S (c + 2) x4.toInt.toNat) (Int32.ofInt 0) (x3 + (Int32.ofInt (-1))) (x4 + (Int32.ofInt 1)) (x5 + (Int32.ofInt 1)) (z_s S (c + 3) (((x3 + (Int32.ofInt (-1))) - (Int32.ofInt 1)).toInt.toNat) (f_X1_join (S (c + 1) x4.toInt.toNat) (S (c + 3) (((x3 + (Int32.ofInt (-1))) - (Int32.ofInt 1)).toInt.toNat)) (S (c + 3) ((x3 + (Int32.ofInt (-1))).toInt.toNat)))) hD
                              · have hD := hD.2 h25
                                show u_P L xs m d m_X1_run 269 [(4, .int (x4 + (Int32.ofInt 1))), (7, .int (S (c + 2) x4.toInt.toNat)), (6, .int (S (c + 1) x4.toInt.toNat)), (0, .ref (c + 1)), (1, .int j1), (2, .ref 52), (3, .int x3), (5, .int x5)] [] S R _
                                refine u_st rfl (fun _ => rfl) ?_
                                refine u_st rfl (fun _ => rfl) ?_
                                refine u_st rfl (fun _ => rfl) ?_
                                refine u_st rfl (fun _ => rfl) ?_
                                show u_P L xs m d m_X1_run 278 [(8, .int (Int32.ofInt 1)), (4, .int (x4 + (Int32.ofInt 1))), (7, .int (S (c + 2) x4.toInt.toNat)), (6, .int (S (c + 1) x4.toInt.toNat)), (0, .ref (c + 1)), (1, .int j1), (2, .ref 52), (3, .int x3), (5, .int x5)] [.int (Int32.ofInt 1)] S R _
                                refine u_st rfl (fun _ => rfl) ?_
                                refine u_st rfl (fun _ => rfl) ?_
                                show u_P L xs m d m_X1_run 282 [(8, .int (Int32.ofInt 1)), (4, .int (x4 + (Int32.ofInt 1))), (7, .int (S (c + 2) x4.toInt.toNat)), (6, .int (S (c + 1) x4.toInt.toNat)), (0, .ref (c + 1)), (1, .int j1), (2, .ref 52), (3, .int x3), (5, .int x5)] [.int (Int32.ofInt 0)] S R _
                                exact u_ret rfl rfl ⟨_, rfl, rfl, hD⟩
                            · have hD := hD.2 h23
                              show u_P L xs m d m_X1_run 251 [(4, .int (x4 + (Int32.ofInt 1))), (7, .int (S (c + 2) x4.toInt.toNat)), (6, .int (S (c + 1) x4.toInt.toNat)), (0, .ref (c + 1)), (1, .int j1), (2, .ref 52), (3, .int x3), (5, .int x5)] [] S R _
                              refine u_st rfl (fun _ => rfl) ?_
                              refine u_st rfl (fun _ => rfl) ?_
                              show u_P L xs m d m_X1_run 255 [(4, .int (x4 + (Int32.ofInt 1))), (7, .int (S (c + 2) x4.toInt.toNat)), (6, .int (S (c + 1) x4.toInt.toNat)), (0, .ref (c + 1)), (1, .int j1), (2, .ref 52), (3, .int x3), (5, .int x5)] [.int (Int32.ofInt 37), .int (S (c + 1) x4.toInt.toNat)] S R _
                              refine u_ic_ne rfl (fun h29 => ?_) (fun h29 => ?_)
                              · have hD := hD.1 h29
                                show u_P L xs m d m_X1_run 273 [(4, .int (x4 + (Int32.ofInt 1))), (7, .int (S (c + 2) x4.toInt.toNat)), (6, .int (S (c + 1) x4.toInt.toNat)), (0, .ref (c + 1)), (1, .int j1), (2, .ref 52), (3, .int x3), (5, .int x5)] [] S R _
                                refine u_st rfl (fun _ => rfl) ?_
                                refine u_st rfl (fun _ => rfl) ?_
                                refine u_st rfl (fun _ => rfl) ?_
                                show u_P L xs m d m_X1_run 278 [(8, .int (Int32.ofInt 0)), (4, .int (x4 + (Int32.ofInt 1))), (7, .int (S (c + 2) x4.toInt.toNat)), (6, .int (S (c + 1) x4.toInt.toNat)), (0, .ref (c + 1)), (1, .int j1), (2, .ref 52), (3, .int x3), (5, .int x5)] [.int (Int32.ofInt 0)] S R _
                                refine u_st rfl (fun _ => rfl) ?_
                                refine u_st rfl (fun _ => rfl) ?_
                                refine u_st rfl (fun _ => rfl) ?_
                                show u_P L xs m d m_X1_run 287 [(3, .int (x3 + (Int32.ofInt (-1)))), (8, .int (Int32.ofInt 0)), (4, .int (x4 + (Int32.ofInt 1))), (7, .int (S (c + 2) x4.toInt.toNat)), (6, .int (S (c + 1) x4.toInt.toNat)), (0, .ref (c + 1)), (1, .int j1), (2, .ref 52), (5, .int x5)] [.ref (c + 1)] S R _
                                refine u_getr rfl (z_cd0 hc) rfl ?_
                                refine u_st rfl (fun _ => rfl) ?_
                                refine u_st rfl (fun _ => rfl) ?_
                                refine u_st rfl (fun _ => rfl) ?_
                                refine u_st rfl (fun _ => rfl) ?_
                                refine u_st rfl (fun _ => rfl) ?_
                                show u_P L xs m d m_X1_run 296 [(3, .int (x3 + (Int32.ofInt (-1)))), (8, .int (Int32.ofInt 0)), (4, .int (x4 + (Int32.ofInt 1))), (7, .int (S (c + 2) x4.toInt.toNat)), (6, .int (S (c + 1) x4.toInt.toNat)), (0, .ref (c + 1)), (1, .int j1), (2, .ref 52), (5, .int x5)] [.ref (c + 1), .int (S (c + 1) x4.toInt.toNat), .int ((x3 + (Int32.ofInt (-1))) - (Int32.ofInt 1)), .ref (c + 4)] S R _
                                refine u_getr rfl (z_cd0 hc) rfl ?_
                                refine u_st rfl (fun _ => rfl) ?_
                                refine u_st rfl (fun _ => rfl) ?_
                                refine u_st rfl (fun _ => rfl) ?_
                                show u_P L xs m d m_X1_run 302 [(3, .int (x3 + (Int32.ofInt (-1)))), (8, .int (Int32.ofInt 0)), (4, .int (x4 + (Int32.ofInt 1))), (7, .int (S (c + 2) x4.toInt.toNat)), (6, .int (S (c + 1) x4.toInt.toNat)), (0, .ref (c + 1)), (1, .int j1), (2, .ref 52), (5, .int x5)] [.int ((x3 + (Int32.ofInt (-1))) - (Int32.ofInt 1)), .ref (c + 4), .int (S (c + 1) x4.toInt.toNat), .int ((x3 + (Int32.ofInt (-1))) - (Int32.ofInt 1)), .ref (c + 4)] S R _
                                refine u_ialdE (v := S (c + 3) (((x3 + (Int32.ofInt (-1))) - (Int32.ofInt 1)).toInt.toNat)) rfl (z_cd3 hc) rfl (fun b301 b302 => ?_)
                                have hD := hD b301 b302
                                show u_P L xs m d m_X1_run 303 [(3, .int (x3 + (Int32.ofInt (-1)))), (8, .int (Int32.ofInt 0)), (4, .int (x4 + (Int32.ofInt 1))), (7, .int (S (c + 2) x4.toInt.toNat)), (6, .int (S (c + 1) x4.toInt.toNat)), (0, .ref (c + 1)), (1, .int j1), (2, .ref 52), (5, .int x5)] [.int (S (c + 3) (((x3 + (Int32.ofInt (-1))) - (Int32.ofInt 1)).toInt.toNat)), .int (S (c + 1) x4.toInt.toNat), .int ((x3 + (Int32.ofInt (-1))) - (Int32.ofInt 1)), .ref (c + 4)] S R _
                                refine u_st rfl (fun _ => rfl) ?_
                                show u_P L xs m d m_X1_run 304 [(3, .int (x3 + (Int32.ofInt (-1)))), (8, .int (Int32.ofInt 0)), (4, .int (x4 + (Int32.ofInt 1))), (7, .int (S (c + 2) x4.toInt.toNat)), (6, .int (S (c + 1) x4.toInt.toNat)), (0, .ref (c + 1)), (1, .int j1), (2, .ref 52), (5, .int x5)] [.ref (c + 1), .int (S (c + 3) (((x3 + (Int32.ofInt (-1))) - (Int32.ofInt 1)).toInt.toNat)), .int (S (c + 1) x4.toInt.toNat), .int ((x3 + (Int32.ofInt (-1))) - (Int32.ofInt 1)), .ref (c + 4)] S R _
                                refine u_getr rfl (z_cd0 hc) rfl ?_
                                refine u_st rfl (fun _ => rfl) ?_
                                show u_P L xs m d m_X1_run 308 [(3, .int (x3 + (Int32.ofInt (-1)))), (8, .int (Int32.ofInt 0)), (4, .int (x4 + (Int32.ofInt 1))), (7, .int (S (c + 2) x4.toInt.toNat)), (6, .int (S (c + 1) x4.toInt.toNat)), (0, .ref (c + 1)), (1, .int j1), (2, .ref 52), (5, .int x5)] [.int (x3 + (Int32.ofInt (-1))), .ref (c + 4), .int (S (c + 3) (((x3 + (Int32.ofInt (-1))) - (Int32.ofInt 1)).toInt.toNat)), .int (S (c + 1) x4.toInt.toNat), .int ((x3 + (Int32.ofInt (-1))) - (Int32.ofInt 1)), .ref (c + 4)] S R _
                                refine u_ialdE (v := S (c + 3) ((x3 + (Int32.ofInt (-1))).toInt.toNat)) rfl (z_cd3 hc) rfl (fun b311 b312 => ?_)
                                have hD := hD b311 b312
                                show u_P L xs m d m_X1_run 309 [(3, .int (x3 + (Int32.ofInt (-1)))), (8, .int (Int32.ofInt 0)), (4, .int (x4 + (Int32.ofInt 1))), (7, .int (S (c + 2) x4.toInt.toNat)), (6, .int (S (c + 1) x4.toInt.toNat)), (0, .ref (c + 1)), (1, .int j1), (2, .ref 52), (5, .int x5)] [.int (S (c + 3) ((x3 + (Int32.ofInt (-1))).toInt.toNat)), .int (S (c + 3) (((x3 + (Int32.ofInt (-1))) - (Int32.ofInt 1)).toInt.toNat)), .int (S (c + 1) x4.toInt.toNat), .int ((x3 + (Int32.ofInt (-1))) - (Int32.ofInt 1)), .ref (c + 4)] S R _
                                refine u_cs (ac := [.int (S (c + 1) x4.toInt.toNat), .int (S (c + 3) (((x3 + (Int32.ofInt (-1))) - (Int32.ofInt 1)).toInt.toNat)), .int (S (c + 3) ((x3 + (Int32.ofInt (-1))).toInt.toNat))]) (rest := [.int ((x3 + (Int32.ofInt (-1))) - (Int32.ofInt 1)), .ref (c + 4)]) rfl (by decide) mt_X1_join (fun _ => rfl) (Nat.le_of_ble_eq_true rfl) (Nat.le_of_ble_eq_true rfl) (fun d' => c_X1_join L xs m d' (S (c + 1) x4.toInt.toNat) (S (c + 3) (((x3 + (Int32.ofInt (-1))) - (Int32.ofInt 1)).toInt.toNat)) (S (c + 3) ((x3 + (Int32.ofInt (-1))).toInt.toNat)) S R) ?_
                                rintro _ _ _ ⟨_, rfl, rfl, rfl, rfl⟩
                                show u_P L xs m d m_X1_run 312 [(3, .int (x3 + (Int32.ofInt (-1)))), (8, .int (Int32.ofInt 0)), (4, .int (x4 + (Int32.ofInt 1))), (7, .int (S (c + 2) x4.toInt.toNat)), (6, .int (S (c + 1) x4.toInt.toNat)), (0, .ref (c + 1)), (1, .int j1), (2, .ref 52), (5, .int x5)] [.int (f_X1_join (S (c + 1) x4.toInt.toNat) (S (c + 3) (((x3 + (Int32.ofInt (-1))) - (Int32.ofInt 1)).toInt.toNat)) (S (c + 3) ((x3 + (Int32.ofInt (-1))).toInt.toNat))), .int ((x3 + (Int32.ofInt (-1))) - (Int32.ofInt 1)), .ref (c + 4)] S R _
                                refine u_iast rfl (z_cd3 hc) (fun b321 b322 => ?_)
                                have hD := hD b321 b322
                                show u_P L xs m d m_X1_run 313 [(3, .int (x3 + (Int32.ofInt (-1)))), (8, .int (Int32.ofInt 0)), (4, .int (x4 + (Int32.ofInt 1))), (7, .int (S (c + 2) x4.toInt.toNat)), (6, .int (S (c + 1) x4.toInt.toNat)), (0, .ref (c + 1)), (1, .int j1), (2, .ref 52), (5, .int x5)] [] (z_s S (c + 3) (((x3 + (Int32.ofInt (-1))) - (Int32.ofInt 1)).toInt.toNat) (f_X1_join (S (c + 1) x4.toInt.toNat) (S (c + 3) (((x3 + (Int32.ofInt (-1))) - (Int32.ofInt 1)).toInt.toNat)) (S (c + 3) ((x3 + (Int32.ofInt (-1))).toInt.toNat)))) R _
                                refine u_st rfl (fun _ => rfl) ?_
                                refine u_st rfl (fun _ => rfl) ?_
                                refine u_lc (b := [(0, .ref (c + 1)), (1, .int j1), (2, .ref 52), (3, .int (x3 + (Int32.ofInt (-1)))), (4, .int (x4 + (Int32.ofInt 1))), (5, .int (x5 + (Int32.ofInt 1))), (6, .int (S (c + 1) x4.toInt.toNat)), (7, .int (S (c + 2) x4.toInt.toNat)), (8, .int (Int32.ofInt 0))]) (show ([5, 3, 8, 4, 7, 6, 0, 1, 2] : List Nat).Nodup by decide) (show ([0, 1, 2, 3, 4, 5, 6, 7, 8] : List Nat).Nodup by decide) (fun i => match i with | 0 => rfl | 1 => rfl | 2 => rfl | 3 => rfl | 4 => rfl | 5 => rfl | 6 => rfl | 7 => rfl | 8 => rfl | _ + 9 => rfl) ?_
                                exact (ih m hm).2.2 d j1 (S (c + 1) x4.toInt.toNat) (S (c + 2) x4.toInt.toNat) (Int32.ofInt 0) (x3 + (Int32.ofInt (-1))) (x4 + (Int32.ofInt 1)) (x5 + (Int32.ofInt 1)) (z_s S (c + 3) (((x3 + (Int32.ofInt (-1))) - (Int32.ofInt 1)).toInt.toNat) (f_X1_join (S (c + 1) x4.toInt.toNat) (S (c + 3) (((x3 + (Int32.ofInt (-1))) - (Int32.ofInt 1)).toInt.toNat)) (S (c + 3) ((x3 + (Int32.ofInt (-1))).toInt.toNat)))) hD
                              · have hD := hD.2 h29
                                show u_P L xs m d m_X1_run 258 [(4, .int (x4 + (Int32.ofInt 1))), (7, .int (S (c + 2) x4.toInt.toNat)), (6, .int (S (c + 1) x4.toInt.toNat)), (0, .ref (c + 1)), (1, .int j1), (2, .ref 52), (3, .int x3), (5, .int x5)] [] S R _
                                refine u_st rfl (fun _ => rfl) ?_
                                show u_P L xs m d m_X1_run 259 [(4, .int (x4 + (Int32.ofInt 1))), (7, .int (S (c + 2) x4.toInt.toNat)), (6, .int (S (c + 1) x4.toInt.toNat)), (0, .ref (c + 1)), (1, .int j1), (2, .ref 52), (3, .int x3), (5, .int x5)] [.ref (c + 1)] S R _
                                refine u_getr rfl (z_cd0 hc) rfl ?_
                                refine u_st rfl (fun _ => rfl) ?_
                                refine u_st rfl (fun _ => rfl) ?_
                                refine u_st rfl (fun _ => rfl) ?_
                                show u_P L xs m d m_X1_run 265 [(4, .int (x4 + (Int32.ofInt 1))), (7, .int (S (c + 2) x4.toInt.toNat)), (6, .int (S (c + 1) x4.toInt.toNat)), (0, .ref (c + 1)), (1, .int j1), (2, .ref 52), (3, .int x3), (5, .int x5)] [.int (x3 - (Int32.ofInt 1)), .ref (c + 4)] S R _
                                refine u_ialdE (v := S (c + 3) ((x3 - (Int32.ofInt 1)).toInt.toNat)) rfl (z_cd3 hc) rfl (fun b331 b332 => ?_)
                                have hD := hD b331 b332
                                show u_P L xs m d m_X1_run 266 [(4, .int (x4 + (Int32.ofInt 1))), (7, .int (S (c + 2) x4.toInt.toNat)), (6, .int (S (c + 1) x4.toInt.toNat)), (0, .ref (c + 1)), (1, .int j1), (2, .ref 52), (3, .int x3), (5, .int x5)] [.int (S (c + 3) ((x3 - (Int32.ofInt 1)).toInt.toNat))] S R _
                                refine u_if_ne rfl (fun h34 => ?_) (fun h34 => ?_)
                                · have hD := hD.1 h34
                                  show u_P L xs m d m_X1_run 273 [(4, .int (x4 + (Int32.ofInt 1))), (7, .int (S (c + 2) x4.toInt.toNat)), (6, .int (S (c + 1) x4.toInt.toNat)), (0, .ref (c + 1)), (1, .int j1), (2, .ref 52), (3, .int x3), (5, .int x5)] [] S R _
                                  refine u_st rfl (fun _ => rfl) ?_
                                  refine u_st rfl (fun _ => rfl) ?_
                                  refine u_st rfl (fun _ => rfl) ?_
                                  show u_P L xs m d m_X1_run 278 [(8, .int (Int32.ofInt 0)), (4, .int (x4 + (Int32.ofInt 1))), (7, .int (S (c + 2) x4.toInt.toNat)), (6, .int (S (c + 1) x4.toInt.toNat)), (0, .ref (c + 1)), (1, .int j1), (2, .ref 52), (3, .int x3), (5, .int x5)] [.int (Int32.ofInt 0)] S R _
                                  refine u_st rfl (fun _ => rfl) ?_
                                  refine u_st rfl (fun _ => rfl) ?_
                                  refine u_st rfl (fun _ => rfl) ?_
                                  show u_P L xs m d m_X1_run 287 [(3, .int (x3 + (Int32.ofInt (-1)))), (8, .int (Int32.ofInt 0)), (4, .int (x4 + (Int32.ofInt 1))), (7, .int (S (c + 2) x4.toInt.toNat)), (6, .int (S (c + 1) x4.toInt.toNat)), (0, .ref (c + 1)), (1, .int j1), (2, .ref 52), (5, .int x5)] [.ref (c + 1)] S R _
                                  refine u_getr rfl (z_cd0 hc) rfl ?_
                                  refine u_st rfl (fun _ => rfl) ?_
                                  refine u_st rfl (fun _ => rfl) ?_
                                  refine u_st rfl (fun _ => rfl) ?_
                                  refine u_st rfl (fun _ => rfl) ?_
                                  refine u_st rfl (fun _ => rfl) ?_
                                  show u_P L xs m d m_X1_run 296 [(3, .int (x3 + (Int32.ofInt (-1)))), (8, .int (Int32.ofInt 0)), (4, .int (x4 + (Int32.ofInt 1))), (7, .int (S (c + 2) x4.toInt.toNat)), (6, .int (S (c + 1) x4.toInt.toNat)), (0, .ref (c + 1)), (1, .int j1), (2, .ref 52), (5, .int x5)] [.ref (c + 1), .int (S (c + 1) x4.toInt.toNat), .int ((x3 + (Int32.ofInt (-1))) - (Int32.ofInt 1)), .ref (c + 4)] S R _
                                  refine u_getr rfl (z_cd0 hc) rfl ?_
                                  refine u_st rfl (fun _ => rfl) ?_
                                  refine u_st rfl (fun _ => rfl) ?_
                                  refine u_st rfl (fun _ => rfl) ?_
                                  show u_P L xs m d m_X1_run 302 [(3, .int (x3 + (Int32.ofInt (-1)))), (8, .int (Int32.ofInt 0)), (4, .int (x4 + (Int32.ofInt 1))), (7, .int (S (c + 2) x4.toInt.toNat)), (6, .int (S (c + 1) x4.toInt.toNat)), (0, .ref (c + 1)), (1, .int j1), (2, .ref 52), (5, .int x5)] [.int ((x3 + (Int32.ofInt (-1))) - (Int32.ofInt 1)), .ref (c + 4), .int (S (c + 1) x4.toInt.toNat), .int ((x3 + (Int32.ofInt (-1))) - (Int32.ofInt 1)), .ref (c + 4)] S R _
                                  refine u_ialdE (v := S (c + 3) (((x3 + (Int32.ofInt (-1))) - (Int32.ofInt 1)).toInt.toNat)) rfl (z_cd3 hc) rfl (fun b351 b352 => ?_)
                                  have hD := hD b351 b352
                                  show u_P L xs m d m_X1_run 303 [(3, .int (x3 + (Int32.ofInt (-1)))), (8, .int (Int32.ofInt 0)), (4, .int (x4 + (Int32.ofInt 1))), (7, .int (S (c + 2) x4.toInt.toNat)), (6, .int (S (c + 1) x4.toInt.toNat)), (0, .ref (c + 1)), (1, .int j1), (2, .ref 52), (5, .int x5)] [.int (S (c + 3) (((x3 + (Int32.ofInt (-1))) - (Int32.ofInt 1)).toInt.toNat)), .int (S (c + 1) x4.toInt.toNat), .int ((x3 + (Int32.ofInt (-1))) - (Int32.ofInt 1)), .ref (c + 4)] S R _
                                  refine u_st rfl (fun _ => rfl) ?_
                                  show u_P L xs m d m_X1_run 304 [(3, .int (x3 + (Int32.ofInt (-1)))), (8, .int (Int32.ofInt 0)), (4, .int (x4 + (Int32.ofInt 1))), (7, .int (S (c + 2) x4.toInt.toNat)), (6, .int (S (c + 1) x4.toInt.toNat)), (0, .ref (c + 1)), (1, .int j1), (2, .ref 52), (5, .int x5)] [.ref (c + 1), .int (S (c + 3) (((x3 + (Int32.ofInt (-1))) - (Int32.ofInt 1)).toInt.toNat)), .int (S (c + 1) x4.toInt.toNat), .int ((x3 + (Int32.ofInt (-1))) - (Int32.ofInt 1)), .ref (c + 4)] S R _
                                  refine u_getr rfl (z_cd0 hc) rfl ?_
                                  refine u_st rfl (fun _ => rfl) ?_
                                  show u_P L xs m d m_X1_run 308 [(3, .int (x3 + (Int32.ofInt (-1)))), (8, .int (Int32.ofInt 0)), (4, .int (x4 + (Int32.ofInt 1))), (7, .int (S (c + 2) x4.toInt.toNat)), (6, .int (S (c + 1) x4.toInt.toNat)), (0, .ref (c + 1)), (1, .int j1), (2, .ref 52), (5, .int x5)] [.int (x3 + (Int32.ofInt (-1))), .ref (c + 4), .int (S (c + 3) (((x3 + (Int32.ofInt (-1))) - (Int32.ofInt 1)).toInt.toNat)), .int (S (c + 1) x4.toInt.toNat), .int ((x3 + (Int32.ofInt (-1))) - (Int32.ofInt 1)), .ref (c + 4)] S R _
                                  refine u_ialdE (v := S (c + 3) ((x3 + (Int32.ofInt (-1))).toInt.toNat)) rfl (z_cd3 hc) rfl (fun b361 b362 => ?_)
                                  have hD := hD b361 b362
                                  show u_P L xs m d m_X1_run 309 [(3, .int (x3 + (Int32.ofInt (-1)))), (8, .int (Int32.ofInt 0)), (4, .int (x4 + (Int32.ofInt 1))), (7, .int (S (c + 2) x4.toInt.toNat)), (6, .int (S (c + 1) x4.toInt.toNat)), (0, .ref (c + 1)), (1, .int j1), (2, .ref 52), (5, .int x5)] [.int (S (c + 3) ((x3 + (Int32.ofInt (-1))).toInt.toNat)), .int (S (c + 3) (((x3 + (Int32.ofInt (-1))) - (Int32.ofInt 1)).toInt.toNat)), .int (S (c + 1) x4.toInt.toNat), .int ((x3 + (Int32.ofInt (-1))) - (Int32.ofInt 1)), .ref (c + 4)] S R _
                                  refine u_cs (ac := [.int (S (c + 1) x4.toInt.toNat), .int (S (c + 3) (((x3 + (Int32.ofInt (-1))) - (Int32.ofInt 1)).toInt.toNat)), .int (S (c + 3) ((x3 + (Int32.ofInt (-1))).toInt.toNat))]) (rest := [.int ((x3 + (Int32.ofInt (-1))) - (Int32.ofInt 1)), .ref (c + 4)]) rfl (by decide) mt_X1_join (fun _ => rfl) (Nat.le_of_ble_eq_true rfl) (Nat.le_of_ble_eq_true rfl) (fun d' => c_X1_join L xs m d' (S (c + 1) x4.toInt.toNat) (S (c + 3) (((x3 + (Int32.ofInt (-1))) - (Int32.ofInt 1)).toInt.toNat)) (S (c + 3) ((x3 + (Int32.ofInt (-1))).toInt.toNat)) S R) ?_
                                  rintro _ _ _ ⟨_, rfl, rfl, rfl, rfl⟩
                                  show u_P L xs m d m_X1_run 312 [(3, .int (x3 + (Int32.ofInt (-1)))), (8, .int (Int32.ofInt 0)), (4, .int (x4 + (Int32.ofInt 1))), (7, .int (S (c + 2) x4.toInt.toNat)), (6, .int (S (c + 1) x4.toInt.toNat)), (0, .ref (c + 1)), (1, .int j1), (2, .ref 52), (5, .int x5)] [.int (f_X1_join (S (c + 1) x4.toInt.toNat) (S (c + 3) (((x3 + (Int32.ofInt (-1))) - (Int32.ofInt 1)).toInt.toNat)) (S (c + 3) ((x3 + (Int32.ofInt (-1))).toInt.toNat))), .int ((x3 + (Int32.ofInt (-1))) - (Int32.ofInt 1)), .ref (c + 4)] S R _
                                  refine u_iast rfl (z_cd3 hc) (fun b371 b372 => ?_)
                                  have hD := hD b371 b372
                                  show u_P L xs m d m_X1_run 313 [(3, .int (x3 + (Int32.ofInt (-1)))), (8, .int (Int32.ofInt 0)), (4, .int (x4 + (Int32.ofInt 1))), (7, .int (S (c + 2) x4.toInt.toNat)), (6, .int (S (c + 1) x4.toInt.toNat)), (0, .ref (c + 1)), (1, .int j1), (2, .ref 52), (5, .int x5)] [] (z_s S (c + 3) (((x3 + (Int32.ofInt (-1))) - (Int32.ofInt 1)).toInt.toNat) (f_X1_join (S (c + 1) x4.toInt.toNat) (S (c + 3) (((x3 + (Int32.ofInt (-1))) - (Int32.ofInt 1)).toInt.toNat)) (S (c + 3) ((x3 + (Int32.ofInt (-1))).toInt.toNat)))) R _
                                  refine u_st rfl (fun _ => rfl) ?_
                                  refine u_st rfl (fun _ => rfl) ?_
                                  refine u_lc (b := [(0, .ref (c + 1)), (1, .int j1), (2, .ref 52), (3, .int (x3 + (Int32.ofInt (-1)))), (4, .int (x4 + (Int32.ofInt 1))), (5, .int (x5 + (Int32.ofInt 1))), (6, .int (S (c + 1) x4.toInt.toNat)), (7, .int (S (c + 2) x4.toInt.toNat)), (8, .int (Int32.ofInt 0))]) (show ([5, 3, 8, 4, 7, 6, 0, 1, 2] : List Nat).Nodup by decide) (show ([0, 1, 2, 3, 4, 5, 6, 7, 8] : List Nat).Nodup by decide) (fun i => match i with | 0 => rfl | 1 => rfl | 2 => rfl | 3 => rfl | 4 => rfl | 5 => rfl | 6 => rfl | 7 => rfl | 8 => rfl | _ + 9 => rfl) ?_
                                  exact (ih m hm).2.2 d j1 (S (c + 1) x4.toInt.toNat) (S (c + 2) x4.toInt.toNat) (Int32.ofInt 0) (x3 + (Int32.ofInt (-1))) (x4 + (Int32.ofInt 1)) (x5 + (Int32.ofInt 1)) (z_s S (c + 3) (((x3 + (Int32.ofInt (-1))) - (Int32.ofInt 1)).toInt.toNat) (f_X1_join (S (c + 1) x4.toInt.toNat) (S (c + 3) (((x3 + (Int32.ofInt (-1))) - (Int32.ofInt 1)).toInt.toNat)) (S (c + 3) ((x3 + (Int32.ofInt (-1))).toInt.toNat)))) hD
                                · have hD := hD.2 h34
                                  show u_P L xs m d m_X1_run 269 [(4, .int (x4 + (Int32.ofInt 1))), (7, .int (S (c + 2) x4.toInt.toNat)), (6, .int (S (c + 1) x4.toInt.toNat)), (0, .ref (c + 1)), (1, .int j1), (2, .ref 52), (3, .int x3), (5, .int x5)] [] S R _
                                  refine u_st rfl (fun _ => rfl) ?_
                                  refine u_st rfl (fun _ => rfl) ?_
                                  refine u_st rfl (fun _ => rfl) ?_
                                  refine u_st rfl (fun _ => rfl) ?_
                                  show u_P L xs m d m_X1_run 278 [(8, .int (Int32.ofInt 1)), (4, .int (x4 + (Int32.ofInt 1))), (7, .int (S (c + 2) x4.toInt.toNat)), (6, .int (S (c + 1) x4.toInt.toNat)), (0, .ref (c + 1)), (1, .int j1), (2, .ref 52), (3, .int x3), (5, .int x5)] [.int (Int32.ofInt 1)] S R _
                                  refine u_st rfl (fun _ => rfl) ?_
                                  refine u_st rfl (fun _ => rfl) ?_
                                  show u_P L xs m d m_X1_run 282 [(8, .int (Int32.ofInt 1)), (4, .int (x4 + (Int32.ofInt 1))), (7, .int (S (c + 2) x4.toInt.toNat)), (6, .int (S (c + 1) x4.toInt.toNat)), (0, .ref (c + 1)), (1, .int j1), (2, .ref 52), (3, .int x3), (5, .int x5)] [.int (Int32.ofInt 0)] S R _
                                  exact u_ret rfl rfl ⟨_, rfl, rfl, hD⟩
                        · have hD := hD.2 h21
                          show u_P L xs m d m_X1_run 172 [(4, .int (x4 + (Int32.ofInt 1))), (7, .int (S (c + 2) x4.toInt.toNat)), (6, .int (S (c + 1) x4.toInt.toNat)), (0, .ref (c + 1)), (1, .int j1), (2, .ref 52), (3, .int x3), (5, .int x5)] [] S R _
                          refine u_st rfl (fun _ => rfl) ?_
                          show u_P L xs m d m_X1_run 173 [(4, .int (x4 + (Int32.ofInt 1))), (7, .int (S (c + 2) x4.toInt.toNat)), (6, .int (S (c + 1) x4.toInt.toNat)), (0, .ref (c + 1)), (1, .int j1), (2, .ref 52), (3, .int x3), (5, .int x5)] [.ref (c + 1)] S R _
                          refine u_getr rfl (z_cd0 hc) rfl ?_
                          refine u_st rfl (fun _ => rfl) ?_
                          refine u_st rfl (fun _ => rfl) ?_
                          refine u_st rfl (fun _ => rfl) ?_
                          show u_P L xs m d m_X1_run 179 [(4, .int (x4 + (Int32.ofInt 1))), (7, .int (S (c + 2) x4.toInt.toNat)), (6, .int (S (c + 1) x4.toInt.toNat)), (0, .ref (c + 1)), (1, .int j1), (2, .ref 52), (3, .int x3), (5, .int x5)] [.int (x3 - (Int32.ofInt 1)), .ref (c + 4)] S R _
                          refine u_ialdE (v := S (c + 3) ((x3 - (Int32.ofInt 1)).toInt.toNat)) rfl (z_cd3 hc) rfl (fun b381 b382 => ?_)
                          have hD := hD b381 b382
                          show u_P L xs m d m_X1_run 180 [(4, .int (x4 + (Int32.ofInt 1))), (7, .int (S (c + 2) x4.toInt.toNat)), (6, .int (S (c + 1) x4.toInt.toNat)), (0, .ref (c + 1)), (1, .int j1), (2, .ref 52), (3, .int x3), (5, .int x5)] [.int (S (c + 3) ((x3 - (Int32.ofInt 1)).toInt.toNat))] S R _
                          refine u_if_eq rfl (fun h39 => ?_) (fun h39 => ?_)
                          · have hD := hD.1 h39
                            show u_P L xs m d m_X1_run 187 [(4, .int (x4 + (Int32.ofInt 1))), (7, .int (S (c + 2) x4.toInt.toNat)), (6, .int (S (c + 1) x4.toInt.toNat)), (0, .ref (c + 1)), (1, .int j1), (2, .ref 52), (3, .int x3), (5, .int x5)] [] S R _
                            refine u_st rfl (fun _ => rfl) ?_
                            refine u_st rfl (fun _ => rfl) ?_
                            refine u_st rfl (fun _ => rfl) ?_
                            show u_P L xs m d m_X1_run 191 [(4, .int (x4 + (Int32.ofInt 1))), (7, .int (S (c + 2) x4.toInt.toNat)), (6, .int (S (c + 1) x4.toInt.toNat)), (0, .ref (c + 1)), (1, .int j1), (2, .ref 52), (3, .int x3), (5, .int x5)] [.int (Int32.ofInt 5), .int (S (c + 1) x4.toInt.toNat), .int (Int32.ofInt 0)] S R _
                            refine u_ic_ne rfl (fun h40 => absurd (Classical.not_not.mp h21) h40) (fun _ => ?_)
                            show u_P L xs m d m_X1_run 194 [(4, .int (x4 + (Int32.ofInt 1))), (7, .int (S (c + 2) x4.toInt.toNat)), (6, .int (S (c + 1) x4.toInt.toNat)), (0, .ref (c + 1)), (1, .int j1), (2, .ref 52), (3, .int x3), (5, .int x5)] [.int (Int32.ofInt 0)] S R _
                            refine u_st rfl (fun _ => rfl) ?_
                            refine u_st rfl (fun _ => rfl) ?_
                            show u_P L xs m d m_X1_run 199 [(4, .int (x4 + (Int32.ofInt 1))), (7, .int (S (c + 2) x4.toInt.toNat)), (6, .int (S (c + 1) x4.toInt.toNat)), (0, .ref (c + 1)), (1, .int j1), (2, .ref 52), (3, .int x3), (5, .int x5)] [.int (Int32.ofInt 1), .int (Int32.ofInt 0)] S R _
                            refine u_st rfl (fun _ => rfl) ?_
                            refine u_st rfl (fun _ => rfl) ?_
                            refine u_st rfl (fun _ => rfl) ?_
                            refine u_st rfl (fun _ => rfl) ?_
                            show u_P L xs m d m_X1_run 211 [(8, .int (Int32.ofInt 0)), (4, .int (x4 + (Int32.ofInt 1))), (7, .int (S (c + 2) x4.toInt.toNat)), (6, .int (S (c + 1) x4.toInt.toNat)), (0, .ref (c + 1)), (1, .int j1), (2, .ref 52), (3, .int x3), (5, .int x5)] [.int (Int32.ofInt 0)] S R _
                            refine u_st rfl (fun _ => rfl) ?_
                            refine u_st rfl (fun _ => rfl) ?_
                            refine u_st rfl (fun _ => rfl) ?_
                            refine u_st rfl (fun _ => rfl) ?_
                            show u_P L xs m d m_X1_run 225 [(4, .int (x4 + (Int32.ofInt 1))), (8, .int (Int32.ofInt 0)), (7, .int (S (c + 2) x4.toInt.toNat)), (6, .int (S (c + 1) x4.toInt.toNat)), (0, .ref (c + 1)), (1, .int j1), (2, .ref 52), (3, .int x3), (5, .int x5)] [.int (Int32.ofInt 0)] S R _
                            refine u_st rfl (fun _ => rfl) ?_
                            refine u_st rfl (fun _ => rfl) ?_
                            refine u_st rfl (fun _ => rfl) ?_
                            refine u_st rfl (fun _ => rfl) ?_
                            refine u_st rfl (fun _ => rfl) ?_
                            refine u_st rfl (fun _ => rfl) ?_
                            refine u_st rfl (fun _ => rfl) ?_
                            refine u_st rfl (fun _ => rfl) ?_
                            refine u_lc (b := [(0, .ref (c + 1)), (1, .int j1), (2, .ref 52), (3, .int (x3 - (Int32.ofInt 1))), (4, .int (x4 + (Int32.ofInt 1))), (5, .int (x5 + (Int32.ofInt 1))), (6, .int (S (c + 1) x4.toInt.toNat)), (7, .int (S (c + 2) x4.toInt.toNat)), (8, .int (Int32.ofInt 0))]) (show ([5, 3, 4, 8, 7, 6, 0, 1, 2] : List Nat).Nodup by decide) (show ([0, 1, 2, 3, 4, 5, 6, 7, 8] : List Nat).Nodup by decide) (fun i => match i with | 0 => rfl | 1 => rfl | 2 => rfl | 3 => rfl | 4 => rfl | 5 => rfl | 6 => rfl | 7 => rfl | 8 => rfl | _ + 9 => rfl) ?_
                            exact (ih m hm).2.2 d j1 (S (c + 1) x4.toInt.toNat) (S (c + 2) x4.toInt.toNat) (Int32.ofInt 0) (x3 - (Int32.ofInt 1)) (x4 + (Int32.ofInt 1)) (x5 + (Int32.ofInt 1)) S hD
                          · have hD := hD.2 h39
                            show u_P L xs m d m_X1_run 183 [(4, .int (x4 + (Int32.ofInt 1))), (7, .int (S (c + 2) x4.toInt.toNat)), (6, .int (S (c + 1) x4.toInt.toNat)), (0, .ref (c + 1)), (1, .int j1), (2, .ref 52), (3, .int x3), (5, .int x5)] [] S R _
                            refine u_st rfl (fun _ => rfl) ?_
                            refine u_st rfl (fun _ => rfl) ?_
                            refine u_st rfl (fun _ => rfl) ?_
                            refine u_st rfl (fun _ => rfl) ?_
                            show u_P L xs m d m_X1_run 191 [(4, .int (x4 + (Int32.ofInt 1))), (7, .int (S (c + 2) x4.toInt.toNat)), (6, .int (S (c + 1) x4.toInt.toNat)), (0, .ref (c + 1)), (1, .int j1), (2, .ref 52), (3, .int x3), (5, .int x5)] [.int (Int32.ofInt 5), .int (S (c + 1) x4.toInt.toNat), .int (Int32.ofInt 1)] S R _
                            refine u_ic_ne rfl (fun h41 => absurd (Classical.not_not.mp h21) h41) (fun _ => ?_)
                            show u_P L xs m d m_X1_run 194 [(4, .int (x4 + (Int32.ofInt 1))), (7, .int (S (c + 2) x4.toInt.toNat)), (6, .int (S (c + 1) x4.toInt.toNat)), (0, .ref (c + 1)), (1, .int j1), (2, .ref 52), (3, .int x3), (5, .int x5)] [.int (Int32.ofInt 1)] S R _
                            refine u_st rfl (fun _ => rfl) ?_
                            refine u_st rfl (fun _ => rfl) ?_
                            show u_P L xs m d m_X1_run 199 [(4, .int (x4 + (Int32.ofInt 1))), (7, .int (S (c + 2) x4.toInt.toNat)), (6, .int (S (c + 1) x4.toInt.toNat)), (0, .ref (c + 1)), (1, .int j1), (2, .ref 52), (3, .int x3), (5, .int x5)] [.int (Int32.ofInt 1), .int (Int32.ofInt 1)] S R _
                            refine u_st rfl (fun _ => rfl) ?_
                            refine u_st rfl (fun _ => rfl) ?_
                            refine u_st rfl (fun _ => rfl) ?_
                            refine u_st rfl (fun _ => rfl) ?_
                            refine u_st rfl (fun _ => rfl) ?_
                            show u_P L xs m d m_X1_run 211 [(8, .int (Int32.ofInt 1)), (4, .int (x4 + (Int32.ofInt 1))), (7, .int (S (c + 2) x4.toInt.toNat)), (6, .int (S (c + 1) x4.toInt.toNat)), (0, .ref (c + 1)), (1, .int j1), (2, .ref 52), (3, .int x3), (5, .int x5)] [.int (Int32.ofInt 1)] S R _
                            refine u_st rfl (fun _ => rfl) ?_
                            refine u_st rfl (fun _ => rfl) ?_
                            refine u_st rfl (fun _ => rfl) ?_
                            refine u_st rfl (fun _ => rfl) ?_
                            refine u_st rfl (fun _ => rfl) ?_
                            show u_P L xs m d m_X1_run 225 [(4, .int (S (c + 2) x4.toInt.toNat)), (8, .int (Int32.ofInt 1)), (7, .int (S (c + 2) x4.toInt.toNat)), (6, .int (S (c + 1) x4.toInt.toNat)), (0, .ref (c + 1)), (1, .int j1), (2, .ref 52), (3, .int x3), (5, .int x5)] [.int (Int32.ofInt 1)] S R _
                            refine u_st rfl (fun _ => rfl) ?_
                            refine u_st rfl (fun _ => rfl) ?_
                            refine u_st rfl (fun _ => rfl) ?_
                            refine u_st rfl (fun _ => rfl) ?_
                            refine u_st rfl (fun _ => rfl) ?_
                            refine u_st rfl (fun _ => rfl) ?_
                            refine u_st rfl (fun _ => rfl) ?_
                            refine u_lc (b := [(0, .ref (c + 1)), (1, .int j1), (2, .ref 52), (3, .int x3), (4, .int (S (c + 2) x4.toInt.toNat)), (5, .int (x5 + (Int32.ofInt 1))), (6, .int (S (c + 1) x4.toInt.toNat)), (7, .int (S (c + 2) x4.toInt.toNat)), (8, .int (Int32.ofInt 1))]) (show ([5, 3, 4, 8, 7, 6, 0, 1, 2] : List Nat).Nodup by decide) (show ([0, 1, 2, 3, 4, 5, 6, 7, 8] : List Nat).Nodup by decide) (fun i => match i with | 0 => rfl | 1 => rfl | 2 => rfl | 3 => rfl | 4 => rfl | 5 => rfl | 6 => rfl | 7 => rfl | 8 => rfl | _ + 9 => rfl) ?_
                            exact (ih m hm).2.2 d j1 (S (c + 1) x4.toInt.toNat) (S (c + 2) x4.toInt.toNat) (Int32.ofInt 1) x3 (S (c + 2) x4.toInt.toNat) (x5 + (Int32.ofInt 1)) S hD
                    · have hD := hD.2 h15
                      show u_P L xs m d m_X1_run 139 [(4, .int (x4 + (Int32.ofInt 1))), (7, .int (S (c + 2) x4.toInt.toNat)), (6, .int (S (c + 1) x4.toInt.toNat)), (0, .ref (c + 1)), (1, .int j1), (2, .ref 52), (3, .int x3), (5, .int x5)] [] S R _
                      refine u_st rfl (fun _ => rfl) ?_
                      show u_P L xs m d m_X1_run 140 [(4, .int (x4 + (Int32.ofInt 1))), (7, .int (S (c + 2) x4.toInt.toNat)), (6, .int (S (c + 1) x4.toInt.toNat)), (0, .ref (c + 1)), (1, .int j1), (2, .ref 52), (3, .int x3), (5, .int x5)] [.ref (c + 1)] S R _
                      refine u_getr rfl (z_cd0 hc) rfl ?_
                      refine u_st rfl (fun _ => rfl) ?_
                      refine u_st rfl (fun _ => rfl) ?_
                      refine u_st rfl (fun _ => rfl) ?_
                      refine u_st rfl (fun _ => rfl) ?_
                      refine u_st rfl (fun _ => rfl) ?_
                      show u_P L xs m d m_X1_run 148 [(4, .int (x4 + (Int32.ofInt 1))), (7, .int (S (c + 2) x4.toInt.toNat)), (6, .int (S (c + 1) x4.toInt.toNat)), (0, .ref (c + 1)), (1, .int j1), (2, .ref 52), (3, .int x3), (5, .int x5)] [.ref (c + 1), .int (Int32.ofInt 1), .int (x3 - (Int32.ofInt 1)), .ref (c + 4)] S R _
                      refine u_getr rfl (z_cd0 hc) rfl ?_
                      refine u_st rfl (fun _ => rfl) ?_
                      refine u_st rfl (fun _ => rfl) ?_
                      refine u_st rfl (fun _ => rfl) ?_
                      show u_P L xs m d m_X1_run 154 [(4, .int (x4 + (Int32.ofInt 1))), (7, .int (S (c + 2) x4.toInt.toNat)), (6, .int (S (c + 1) x4.toInt.toNat)), (0, .ref (c + 1)), (1, .int j1), (2, .ref 52), (3, .int x3), (5, .int x5)] [.int (x3 - (Int32.ofInt 1)), .ref (c + 4), .int (Int32.ofInt 1), .int (x3 - (Int32.ofInt 1)), .ref (c + 4)] S R _
                      refine u_ialdE (v := S (c + 3) ((x3 - (Int32.ofInt 1)).toInt.toNat)) rfl (z_cd3 hc) rfl (fun b421 b422 => ?_)
                      have hD := hD b421 b422
                      show u_P L xs m d m_X1_run 155 [(4, .int (x4 + (Int32.ofInt 1))), (7, .int (S (c + 2) x4.toInt.toNat)), (6, .int (S (c + 1) x4.toInt.toNat)), (0, .ref (c + 1)), (1, .int j1), (2, .ref 52), (3, .int x3), (5, .int x5)] [.int (S (c + 3) ((x3 - (Int32.ofInt 1)).toInt.toNat)), .int (Int32.ofInt 1), .int (x3 - (Int32.ofInt 1)), .ref (c + 4)] S R _
                      refine u_st rfl (fun _ => rfl) ?_
                      show u_P L xs m d m_X1_run 156 [(4, .int (x4 + (Int32.ofInt 1))), (7, .int (S (c + 2) x4.toInt.toNat)), (6, .int (S (c + 1) x4.toInt.toNat)), (0, .ref (c + 1)), (1, .int j1), (2, .ref 52), (3, .int x3), (5, .int x5)] [.int ((Int32.ofInt 1) - (S (c + 3) ((x3 - (Int32.ofInt 1)).toInt.toNat))), .int (x3 - (Int32.ofInt 1)), .ref (c + 4)] S R _
                      refine u_iast rfl (z_cd3 hc) (fun b431 b432 => ?_)
                      have hD := hD b431 b432
                      show u_P L xs m d m_X1_run 157 [(4, .int (x4 + (Int32.ofInt 1))), (7, .int (S (c + 2) x4.toInt.toNat)), (6, .int (S (c + 1) x4.toInt.toNat)), (0, .ref (c + 1)), (1, .int j1), (2, .ref 52), (3, .int x3), (5, .int x5)] [] (z_s S (c + 3) ((x3 - (Int32.ofInt 1)).toInt.toNat) ((Int32.ofInt 1) - (S (c + 3) ((x3 - (Int32.ofInt 1)).toInt.toNat)))) R _
                      refine u_st rfl (fun _ => rfl) ?_
                      refine u_st rfl (fun _ => rfl) ?_
                      refine u_st rfl (fun _ => rfl) ?_
                      refine u_lc (b := [(0, .ref (c + 1)), (1, .int j1), (2, .ref 52), (3, .int x3), (4, .int (x4 + (Int32.ofInt 1))), (5, .int (x5 + (Int32.ofInt 1))), (6, .int (S (c + 1) x4.toInt.toNat)), (7, .int (S (c + 2) x4.toInt.toNat))]) (show ([5, 4, 7, 6, 0, 1, 2, 3] : List Nat).Nodup by decide) (show ([0, 1, 2, 3, 4, 5, 6, 7] : List Nat).Nodup by decide) (fun i => match i with | 0 => rfl | 1 => rfl | 2 => rfl | 3 => rfl | 4 => rfl | 5 => rfl | 6 => rfl | 7 => rfl | _ + 8 => rfl) ?_
                      exact (ih m hm).2.1 d j1 (S (c + 1) x4.toInt.toNat) (S (c + 2) x4.toInt.toNat) x3 (x4 + (Int32.ofInt 1)) (x5 + (Int32.ofInt 1)) (z_s S (c + 3) ((x3 - (Int32.ofInt 1)).toInt.toNat) ((Int32.ofInt 1) - (S (c + 3) ((x3 - (Int32.ofInt 1)).toInt.toNat)))) hD
                  · have hD := hD.2 h14
                    show u_P L xs m d m_X1_run 115 [(4, .int (x4 + (Int32.ofInt 1))), (7, .int (S (c + 2) x4.toInt.toNat)), (6, .int (S (c + 1) x4.toInt.toNat)), (0, .ref (c + 1)), (1, .int j1), (2, .ref 52), (3, .int x3), (5, .int x5)] [] S R _
                    refine u_st rfl (fun _ => rfl) ?_
                    refine u_st rfl (fun _ => rfl) ?_
                    show u_P L xs m d m_X1_run 117 [(4, .int (x4 + (Int32.ofInt 1))), (7, .int (S (c + 2) x4.toInt.toNat)), (6, .int (S (c + 1) x4.toInt.toNat)), (0, .ref (c + 1)), (1, .int j1), (2, .ref 52), (3, .int x3), (5, .int x5)] [.int (Int32.ofInt 1), .int x3] S R _
                    refine u_ic_ge rfl (fun h44 => ?_) (fun h44 => ?_)
                    · have hD := hD.1 h44
                      show u_P L xs m d m_X1_run 124 [(4, .int (x4 + (Int32.ofInt 1))), (7, .int (S (c + 2) x4.toInt.toNat)), (6, .int (S (c + 1) x4.toInt.toNat)), (0, .ref (c + 1)), (1, .int j1), (2, .ref 52), (3, .int x3), (5, .int x5)] [] S R _
                      refine u_st rfl (fun _ => rfl) ?_
                      show u_P L xs m d m_X1_run 125 [(4, .int (x4 + (Int32.ofInt 1))), (7, .int (S (c + 2) x4.toInt.toNat)), (6, .int (S (c + 1) x4.toInt.toNat)), (0, .ref (c + 1)), (1, .int j1), (2, .ref 52), (3, .int x3), (5, .int x5)] [.ref (c + 1)] S R _
                      refine u_getr rfl (z_cd0 hc) rfl ?_
                      refine u_st rfl (fun _ => rfl) ?_
                      refine u_st rfl (fun _ => rfl) ?_
                      refine u_st rfl (fun _ => rfl) ?_
                      show u_P L xs m d m_X1_run 131 [(4, .int (x4 + (Int32.ofInt 1))), (7, .int (S (c + 2) x4.toInt.toNat)), (6, .int (S (c + 1) x4.toInt.toNat)), (0, .ref (c + 1)), (1, .int j1), (2, .ref 52), (3, .int x3), (5, .int x5)] [.int (x3 - (Int32.ofInt 1)), .ref (c + 4)] S R _
                      refine u_ialdE (v := S (c + 3) ((x3 - (Int32.ofInt 1)).toInt.toNat)) rfl (z_cd3 hc) rfl (fun b451 b452 => ?_)
                      have hD := hD b451 b452
                      show u_P L xs m d m_X1_run 132 [(4, .int (x4 + (Int32.ofInt 1))), (7, .int (S (c + 2) x4.toInt.toNat)), (6, .int (S (c + 1) x4.toInt.toNat)), (0, .ref (c + 1)), (1, .int j1), (2, .ref 52), (3, .int x3), (5, .int x5)] [.int (S (c + 3) ((x3 - (Int32.ofInt 1)).toInt.toNat))] S R _
                      exact u_ret rfl rfl ⟨_, rfl, rfl, hD⟩
                    · have hD := hD.2 h44
                      show u_P L xs m d m_X1_run 120 [(4, .int (x4 + (Int32.ofInt 1))), (7, .int (S (c + 2) x4.toInt.toNat)), (6, .int (S (c + 1) x4.toInt.toNat)), (0, .ref (c + 1)), (1, .int j1), (2, .ref 52), (3, .int x3), (5, .int x5)] [] S R _
                      refine u_st rfl (fun _ => rfl) ?_
                      refine u_st rfl (fun _ => rfl) ?_
                      show u_P L xs m d m_X1_run 132 [(4, .int (x4 + (Int32.ofInt 1))), (7, .int (S (c + 2) x4.toInt.toNat)), (6, .int (S (c + 1) x4.toInt.toNat)), (0, .ref (c + 1)), (1, .int j1), (2, .ref 52), (3, .int x3), (5, .int x5)] [.int (Int32.ofInt 0)] S R _
                      exact u_ret rfl rfl ⟨_, rfl, rfl, hD⟩
              · have hD := hD.2 h10
                show u_P L xs m d m_X1_run 65 [(4, .int (x4 + (Int32.ofInt 1))), (7, .int (S (c + 2) x4.toInt.toNat)), (6, .int (S (c + 1) x4.toInt.toNat)), (0, .ref (c + 1)), (1, .int j1), (2, .ref 52), (3, .int x3), (5, .int x5)] [] S R _
                refine u_st rfl (fun _ => rfl) ?_
                refine u_st rfl (fun _ => rfl) ?_
                show u_P L xs m d m_X1_run 67 [(4, .int (x4 + (Int32.ofInt 1))), (7, .int (S (c + 2) x4.toInt.toNat)), (6, .int (S (c + 1) x4.toInt.toNat)), (0, .ref (c + 1)), (1, .int j1), (2, .ref 52), (3, .int x3), (5, .int x5)] [.ref (c + 1), .int x3] S R _
                refine u_getr rfl (z_cd0 hc) rfl ?_
                show u_P L xs m d m_X1_run 70 [(4, .int (x4 + (Int32.ofInt 1))), (7, .int (S (c + 2) x4.toInt.toNat)), (6, .int (S (c + 1) x4.toInt.toNat)), (0, .ref (c + 1)), (1, .int j1), (2, .ref 52), (3, .int x3), (5, .int x5)] [.ref (c + 4), .int x3] S R _
                refine u_al rfl (z_cd3 hc) rfl ?_
                show u_P L xs m d m_X1_run 71 [(4, .int (x4 + (Int32.ofInt 1))), (7, .int (S (c + 2) x4.toInt.toNat)), (6, .int (S (c + 1) x4.toInt.toNat)), (0, .ref (c + 1)), (1, .int j1), (2, .ref 52), (3, .int x3), (5, .int x5)] [.int (Int32.ofNat 32), .int x3] S R _
                refine u_ic_lt rfl (fun h46 => ?_) (fun h46 => ?_)
                · have hD := hD.1 h46
                  show u_P L xs m d m_X1_run 76 [(4, .int (x4 + (Int32.ofInt 1))), (7, .int (S (c + 2) x4.toInt.toNat)), (6, .int (S (c + 1) x4.toInt.toNat)), (0, .ref (c + 1)), (1, .int j1), (2, .ref 52), (3, .int x3), (5, .int x5)] [] S R _
                  refine u_st rfl (fun _ => rfl) ?_
                  show u_P L xs m d m_X1_run 77 [(4, .int (x4 + (Int32.ofInt 1))), (7, .int (S (c + 2) x4.toInt.toNat)), (6, .int (S (c + 1) x4.toInt.toNat)), (0, .ref (c + 1)), (1, .int j1), (2, .ref 52), (3, .int x3), (5, .int x5)] [.ref (c + 1)] S R _
                  refine u_getr rfl (z_cd0 hc) rfl ?_
                  refine u_st rfl (fun _ => rfl) ?_
                  refine u_st rfl (fun _ => rfl) ?_
                  refine u_st rfl (fun _ => rfl) ?_
                  show u_P L xs m d m_X1_run 84 [(4, .int (x4 + (Int32.ofInt 1))), (7, .int (S (c + 2) x4.toInt.toNat)), (6, .int (S (c + 1) x4.toInt.toNat)), (0, .ref (c + 1)), (1, .int j1), (2, .ref 52), (3, .int x3), (5, .int x5)] [.int (Int32.ofInt 1), .int (S (c + 1) x4.toInt.toNat), .int x3, .ref (c + 4)] S R _
                  refine u_ic_ne rfl (fun _ => ?_) (fun h47 => absurd ((Classical.not_not.mp h10).symm.trans (Classical.not_not.mp h47)) (by decide))
                  show u_P L xs m d m_X1_run 92 [(4, .int (x4 + (Int32.ofInt 1))), (7, .int (S (c + 2) x4.toInt.toNat)), (6, .int (S (c + 1) x4.toInt.toNat)), (0, .ref (c + 1)), (1, .int j1), (2, .ref 52), (3, .int x3), (5, .int x5)] [.int x3, .ref (c + 4)] S R _
                  refine u_st rfl (fun _ => rfl) ?_
                  refine u_st rfl (fun _ => rfl) ?_
                  show u_P L xs m d m_X1_run 95 [(4, .int (x4 + (Int32.ofInt 1))), (7, .int (S (c + 2) x4.toInt.toNat)), (6, .int (S (c + 1) x4.toInt.toNat)), (0, .ref (c + 1)), (1, .int j1), (2, .ref 52), (3, .int x3), (5, .int x5)] [.int (S (c + 2) x4.toInt.toNat), .ref 52, .int x3, .ref (c + 4)] S R _
                  refine u_cs (ac := [.ref 52, .int (S (c + 2) x4.toInt.toNat)]) (rest := [.int x3, .ref (c + 4)]) rfl (by decide) mt_X1_valueAt (fun _ => rfl) (Nat.le_of_ble_eq_true rfl) (Nat.le_of_ble_eq_true rfl) (fun d' => c_X1_valueAt L xs m d' (S (c + 2) x4.toInt.toNat) S R) ?_
                  rintro _ _ _ ⟨_, rfl, rfl, rfl, rfl⟩
                  show u_P L xs m d m_X1_run 98 [(4, .int (x4 + (Int32.ofInt 1))), (7, .int (S (c + 2) x4.toInt.toNat)), (6, .int (S (c + 1) x4.toInt.toNat)), (0, .ref (c + 1)), (1, .int j1), (2, .ref 52), (3, .int x3), (5, .int x5)] [.int (f_X1_valueAt (S (c + 2) x4.toInt.toNat) S), .int x3, .ref (c + 4)] S R _
                  refine u_iast rfl (z_cd3 hc) (fun b481 b482 => ?_)
                  have hD := hD b481 b482
                  show u_P L xs m d m_X1_run 99 [(4, .int (x4 + (Int32.ofInt 1))), (7, .int (S (c + 2) x4.toInt.toNat)), (6, .int (S (c + 1) x4.toInt.toNat)), (0, .ref (c + 1)), (1, .int j1), (2, .ref 52), (3, .int x3), (5, .int x5)] [] (z_s S (c + 3) x3.toInt.toNat (f_X1_valueAt (S (c + 2) x4.toInt.toNat) S)) R _
                  refine u_st rfl (fun _ => rfl) ?_
                  refine u_st rfl (fun _ => rfl) ?_
                  refine u_st rfl (fun _ => rfl) ?_
                  refine u_st rfl (fun _ => rfl) ?_
                  refine u_lc (b := [(0, .ref (c + 1)), (1, .int j1), (2, .ref 52), (3, .int (x3 + (Int32.ofInt 1))), (4, .int (x4 + (Int32.ofInt 1))), (5, .int (x5 + (Int32.ofInt 1))), (6, .int (S (c + 1) x4.toInt.toNat)), (7, .int (S (c + 2) x4.toInt.toNat))]) (show ([5, 3, 4, 7, 6, 0, 1, 2] : List Nat).Nodup by decide) (show ([0, 1, 2, 3, 4, 5, 6, 7] : List Nat).Nodup by decide) (fun i => match i with | 0 => rfl | 1 => rfl | 2 => rfl | 3 => rfl | 4 => rfl | 5 => rfl | 6 => rfl | 7 => rfl | _ + 8 => rfl) ?_
                  exact (ih m hm).2.1 d j1 (S (c + 1) x4.toInt.toNat) (S (c + 2) x4.toInt.toNat) (x3 + (Int32.ofInt 1)) (x4 + (Int32.ofInt 1)) (x5 + (Int32.ofInt 1)) (z_s S (c + 3) x3.toInt.toNat (f_X1_valueAt (S (c + 2) x4.toInt.toNat) S)) hD
                · have hD := hD.2 h46
                  show u_P L xs m d m_X1_run 74 [(4, .int (x4 + (Int32.ofInt 1))), (7, .int (S (c + 2) x4.toInt.toNat)), (6, .int (S (c + 1) x4.toInt.toNat)), (0, .ref (c + 1)), (1, .int j1), (2, .ref 52), (3, .int x3), (5, .int x5)] [] S R _
                  refine u_st rfl (fun _ => rfl) ?_
                  show u_P L xs m d m_X1_run 75 [(4, .int (x4 + (Int32.ofInt 1))), (7, .int (S (c + 2) x4.toInt.toNat)), (6, .int (S (c + 1) x4.toInt.toNat)), (0, .ref (c + 1)), (1, .int j1), (2, .ref 52), (3, .int x3), (5, .int x5)] [.int (Int32.ofInt 0)] S R _
                  exact u_ret rfl rfl ⟨_, rfl, rfl, hD⟩
    · intro d j1 j6 j7 j8 x3 x4 x5 S hD
      have hD := k8 x3 x4 x5 S hD
      unfold D_X1_run_8 at hD
      show u_P L xs n d m_X1_run 8 [(0, .ref (c + 1)), (1, .int j1), (2, .ref 52), (3, .int x3), (4, .int x4), (5, .int x5), (6, .int j6), (7, .int j7), (8, .int j8)] [] S R _
      refine u_st1 rfl (fun _ => rfl) (fun m hm => ?_)
      refine u_st rfl (fun _ => rfl) ?_
      show u_P L xs m d m_X1_run 11 [(0, .ref (c + 1)), (1, .int j1), (2, .ref 52), (3, .int x3), (4, .int x4), (5, .int x5), (6, .int j6), (7, .int j7), (8, .int j8)] [.ref (c + 1), .int x5] S R _
      refine u_getr rfl (z_cd0 hc) rfl ?_
      show u_P L xs m d m_X1_run 14 [(0, .ref (c + 1)), (1, .int j1), (2, .ref 52), (3, .int x3), (4, .int x4), (5, .int x5), (6, .int j6), (7, .int j7), (8, .int j8)] [.ref (c + 2), .int x5] S R _
      refine u_al rfl (z_cd1 hc) rfl ?_
      show u_P L xs m d m_X1_run 15 [(0, .ref (c + 1)), (1, .int j1), (2, .ref 52), (3, .int x3), (4, .int x4), (5, .int x5), (6, .int j6), (7, .int j7), (8, .int j8)] [.int (Int32.ofNat 256), .int x5] S R _
      refine u_ic_ge rfl (fun h1 => ?_) (fun h1 => ?_)
      · have hD := hD.1 h1
        show u_P L xs m d m_X1_run 319 [(0, .ref (c + 1)), (1, .int j1), (2, .ref 52), (3, .int x3), (4, .int x4), (5, .int x5), (6, .int j6), (7, .int j7), (8, .int j8)] [] S R _
        refine u_st rfl (fun _ => rfl) ?_
        show u_P L xs m d m_X1_run 320 [(0, .ref (c + 1)), (1, .int j1), (2, .ref 52), (3, .int x3), (4, .int x4), (5, .int x5), (6, .int j6), (7, .int j7), (8, .int j8)] [.int (Int32.ofInt 0)] S R _
        exact u_ret rfl rfl ⟨_, rfl, rfl, hD⟩
      · have hD := hD.2 h1
        show u_P L xs m d m_X1_run 18 [(0, .ref (c + 1)), (1, .int j1), (2, .ref 52), (3, .int x3), (4, .int x4), (5, .int x5), (6, .int j6), (7, .int j7), (8, .int j8)] [] S R _
        refine u_st rfl (fun _ => rfl) ?_
        show u_P L xs m d m_X1_run 20 [(0, .ref (c + 1)), (1, .int j1), (2, .ref 52), (3, .int x3), (4, .int x4), (5, .int x5), (6, .int j6), (7, .int j7), (8, .int j8)] [.int x4] S R _
        refine u_if_lt rfl (fun h2 => ?_) (fun h2 => ?_)
        · have hD := hD.1 h2
          show u_P L xs m d m_X1_run 319 [(0, .ref (c + 1)), (1, .int j1), (2, .ref 52), (3, .int x3), (4, .int x4), (5, .int x5), (6, .int j6), (7, .int j7), (8, .int j8)] [] S R _
          refine u_st rfl (fun _ => rfl) ?_
          show u_P L xs m d m_X1_run 320 [(0, .ref (c + 1)), (1, .int j1), (2, .ref 52), (3, .int x3), (4, .int x4), (5, .int x5), (6, .int j6), (7, .int j7), (8, .int j8)] [.int (Int32.ofInt 0)] S R _
          exact u_ret rfl rfl ⟨_, rfl, rfl, hD⟩
        · have hD := hD.2 h2
          show u_P L xs m d m_X1_run 23 [(0, .ref (c + 1)), (1, .int j1), (2, .ref 52), (3, .int x3), (4, .int x4), (5, .int x5), (6, .int j6), (7, .int j7), (8, .int j8)] [] S R _
          refine u_st rfl (fun _ => rfl) ?_
          refine u_st rfl (fun _ => rfl) ?_
          show u_P L xs m d m_X1_run 26 [(0, .ref (c + 1)), (1, .int j1), (2, .ref 52), (3, .int x3), (4, .int x4), (5, .int x5), (6, .int j6), (7, .int j7), (8, .int j8)] [.ref (c + 1), .int x4] S R _
          refine u_getE (v := S c 6) rfl (z_cd0 hc) rfl rfl ?_
          show u_P L xs m d m_X1_run 29 [(0, .ref (c + 1)), (1, .int j1), (2, .ref 52), (3, .int x3), (4, .int x4), (5, .int x5), (6, .int j6), (7, .int j7), (8, .int j8)] [.int (S c 6), .int x4] S R _
          refine u_ic_ge rfl (fun h3 => ?_) (fun h3 => ?_)
          · have hD := hD.1 h3
            show u_P L xs m d m_X1_run 319 [(0, .ref (c + 1)), (1, .int j1), (2, .ref 52), (3, .int x3), (4, .int x4), (5, .int x5), (6, .int j6), (7, .int j7), (8, .int j8)] [] S R _
            refine u_st rfl (fun _ => rfl) ?_
            show u_P L xs m d m_X1_run 320 [(0, .ref (c + 1)), (1, .int j1), (2, .ref 52), (3, .int x3), (4, .int x4), (5, .int x5), (6, .int j6), (7, .int j7), (8, .int j8)] [.int (Int32.ofInt 0)] S R _
            exact u_ret rfl rfl ⟨_, rfl, rfl, hD⟩
          · have hD := hD.2 h3
            show u_P L xs m d m_X1_run 32 [(0, .ref (c + 1)), (1, .int j1), (2, .ref 52), (3, .int x3), (4, .int x4), (5, .int x5), (6, .int j6), (7, .int j7), (8, .int j8)] [] S R _
            refine u_st rfl (fun _ => rfl) ?_
            show u_P L xs m d m_X1_run 33 [(0, .ref (c + 1)), (1, .int j1), (2, .ref 52), (3, .int x3), (4, .int x4), (5, .int x5), (6, .int j6), (7, .int j7), (8, .int j8)] [.ref (c + 1)] S R _
            refine u_getr rfl (z_cd0 hc) rfl ?_
            refine u_st rfl (fun _ => rfl) ?_
            show u_P L xs m d m_X1_run 38 [(0, .ref (c + 1)), (1, .int j1), (2, .ref 52), (3, .int x3), (4, .int x4), (5, .int x5), (6, .int j6), (7, .int j7), (8, .int j8)] [.int x4, .ref (c + 2)] S R _
            refine u_ialdE (v := S (c + 1) x4.toInt.toNat) rfl (z_cd1 hc) rfl (fun b41 b42 => ?_)
            have hD := hD b41 b42
            show u_P L xs m d m_X1_run 39 [(0, .ref (c + 1)), (1, .int j1), (2, .ref 52), (3, .int x3), (4, .int x4), (5, .int x5), (6, .int j6), (7, .int j7), (8, .int j8)] [.int (S (c + 1) x4.toInt.toNat)] S R _
            refine u_st rfl (fun _ => rfl) ?_
            refine u_st rfl (fun _ => rfl) ?_
            show u_P L xs m d m_X1_run 42 [(6, .int (S (c + 1) x4.toInt.toNat)), (0, .ref (c + 1)), (1, .int j1), (2, .ref 52), (3, .int x3), (4, .int x4), (5, .int x5), (7, .int j7), (8, .int j8)] [.ref (c + 1)] S R _
            refine u_getr rfl (z_cd0 hc) rfl ?_
            refine u_st rfl (fun _ => rfl) ?_
            show u_P L xs m d m_X1_run 47 [(6, .int (S (c + 1) x4.toInt.toNat)), (0, .ref (c + 1)), (1, .int j1), (2, .ref 52), (3, .int x3), (4, .int x4), (5, .int x5), (7, .int j7), (8, .int j8)] [.int x4, .ref (c + 3)] S R _
            refine u_ialdE (v := S (c + 2) x4.toInt.toNat) rfl (z_cd2 hc) rfl (fun b51 b52 => ?_)
            have hD := hD b51 b52
            show u_P L xs m d m_X1_run 48 [(6, .int (S (c + 1) x4.toInt.toNat)), (0, .ref (c + 1)), (1, .int j1), (2, .ref 52), (3, .int x3), (4, .int x4), (5, .int x5), (7, .int j7), (8, .int j8)] [.int (S (c + 2) x4.toInt.toNat)] S R _
            refine u_st rfl (fun _ => rfl) ?_
            refine u_st rfl (fun _ => rfl) ?_
            refine u_st rfl (fun _ => rfl) ?_
            refine u_st rfl (fun _ => rfl) ?_
            show u_P L xs m d m_X1_run 56 [(4, .int (x4 + (Int32.ofInt 1))), (7, .int (S (c + 2) x4.toInt.toNat)), (6, .int (S (c + 1) x4.toInt.toNat)), (0, .ref (c + 1)), (1, .int j1), (2, .ref 52), (3, .int x3), (5, .int x5), (8, .int j8)] [.int (Int32.ofInt 1), .int (S (c + 1) x4.toInt.toNat)] S R _
            refine u_ic_eq rfl (fun h6 => ?_) (fun h6 => ?_)
            · have hD := hD.1 h6
              show u_P L xs m d m_X1_run 65 [(4, .int (x4 + (Int32.ofInt 1))), (7, .int (S (c + 2) x4.toInt.toNat)), (6, .int (S (c + 1) x4.toInt.toNat)), (0, .ref (c + 1)), (1, .int j1), (2, .ref 52), (3, .int x3), (5, .int x5), (8, .int j8)] [] S R _
              refine u_st rfl (fun _ => rfl) ?_
              refine u_st rfl (fun _ => rfl) ?_
              show u_P L xs m d m_X1_run 67 [(4, .int (x4 + (Int32.ofInt 1))), (7, .int (S (c + 2) x4.toInt.toNat)), (6, .int (S (c + 1) x4.toInt.toNat)), (0, .ref (c + 1)), (1, .int j1), (2, .ref 52), (3, .int x3), (5, .int x5), (8, .int j8)] [.ref (c + 1), .int x3] S R _
              refine u_getr rfl (z_cd0 hc) rfl ?_
              show u_P L xs m d m_X1_run 70 [(4, .int (x4 + (Int32.ofInt 1))), (7, .int (S (c + 2) x4.toInt.toNat)), (6, .int (S (c + 1) x4.toInt.toNat)), (0, .ref (c + 1)), (1, .int j1), (2, .ref 52), (3, .int x3), (5, .int x5), (8, .int j8)] [.ref (c + 4), .int x3] S R _
              refine u_al rfl (z_cd3 hc) rfl ?_
              show u_P L xs m d m_X1_run 71 [(4, .int (x4 + (Int32.ofInt 1))), (7, .int (S (c + 2) x4.toInt.toNat)), (6, .int (S (c + 1) x4.toInt.toNat)), (0, .ref (c + 1)), (1, .int j1), (2, .ref 52), (3, .int x3), (5, .int x5), (8, .int j8)] [.int (Int32.ofNat 32), .int x3] S R _
              refine u_ic_lt rfl (fun h7 => ?_) (fun h7 => ?_)
              · have hD := hD.1 h7
                show u_P L xs m d m_X1_run 76 [(4, .int (x4 + (Int32.ofInt 1))), (7, .int (S (c + 2) x4.toInt.toNat)), (6, .int (S (c + 1) x4.toInt.toNat)), (0, .ref (c + 1)), (1, .int j1), (2, .ref 52), (3, .int x3), (5, .int x5), (8, .int j8)] [] S R _
                refine u_st rfl (fun _ => rfl) ?_
                show u_P L xs m d m_X1_run 77 [(4, .int (x4 + (Int32.ofInt 1))), (7, .int (S (c + 2) x4.toInt.toNat)), (6, .int (S (c + 1) x4.toInt.toNat)), (0, .ref (c + 1)), (1, .int j1), (2, .ref 52), (3, .int x3), (5, .int x5), (8, .int j8)] [.ref (c + 1)] S R _
                refine u_getr rfl (z_cd0 hc) rfl ?_
                refine u_st rfl (fun _ => rfl) ?_
                refine u_st rfl (fun _ => rfl) ?_
                refine u_st rfl (fun _ => rfl) ?_
                show u_P L xs m d m_X1_run 84 [(4, .int (x4 + (Int32.ofInt 1))), (7, .int (S (c + 2) x4.toInt.toNat)), (6, .int (S (c + 1) x4.toInt.toNat)), (0, .ref (c + 1)), (1, .int j1), (2, .ref 52), (3, .int x3), (5, .int x5), (8, .int j8)] [.int (Int32.ofInt 1), .int (S (c + 1) x4.toInt.toNat), .int x3, .ref (c + 4)] S R _
                refine u_ic_ne rfl (fun h8 => absurd h6 h8) (fun _ => ?_)
                show u_P L xs m d m_X1_run 87 [(4, .int (x4 + (Int32.ofInt 1))), (7, .int (S (c + 2) x4.toInt.toNat)), (6, .int (S (c + 1) x4.toInt.toNat)), (0, .ref (c + 1)), (1, .int j1), (2, .ref 52), (3, .int x3), (5, .int x5), (8, .int j8)] [.int x3, .ref (c + 4)] S R _
                refine u_st rfl (fun _ => rfl) ?_
                refine u_st rfl (fun _ => rfl) ?_
                show u_P L xs m d m_X1_run 98 [(4, .int (x4 + (Int32.ofInt 1))), (7, .int (S (c + 2) x4.toInt.toNat)), (6, .int (S (c + 1) x4.toInt.toNat)), (0, .ref (c + 1)), (1, .int j1), (2, .ref 52), (3, .int x3), (5, .int x5), (8, .int j8)] [.int (S (c + 2) x4.toInt.toNat), .int x3, .ref (c + 4)] S R _
                refine u_iast rfl (z_cd3 hc) (fun b91 b92 => ?_)
                have hD := hD b91 b92
                show u_P L xs m d m_X1_run 99 [(4, .int (x4 + (Int32.ofInt 1))), (7, .int (S (c + 2) x4.toInt.toNat)), (6, .int (S (c + 1) x4.toInt.toNat)), (0, .ref (c + 1)), (1, .int j1), (2, .ref 52), (3, .int x3), (5, .int x5), (8, .int j8)] [] (z_s S (c + 3) x3.toInt.toNat (S (c + 2) x4.toInt.toNat)) R _
                refine u_st rfl (fun _ => rfl) ?_
                refine u_st rfl (fun _ => rfl) ?_
                refine u_st rfl (fun _ => rfl) ?_
                refine u_st rfl (fun _ => rfl) ?_
                refine u_lc (b := [(0, .ref (c + 1)), (1, .int j1), (2, .ref 52), (3, .int (x3 + (Int32.ofInt 1))), (4, .int (x4 + (Int32.ofInt 1))), (5, .int (x5 + (Int32.ofInt 1))), (6, .int (S (c + 1) x4.toInt.toNat)), (7, .int (S (c + 2) x4.toInt.toNat)), (8, .int j8)]) (show ([5, 3, 4, 7, 6, 0, 1, 2, 8] : List Nat).Nodup by decide) (show ([0, 1, 2, 3, 4, 5, 6, 7, 8] : List Nat).Nodup by decide) (fun i => match i with | 0 => rfl | 1 => rfl | 2 => rfl | 3 => rfl | 4 => rfl | 5 => rfl | 6 => rfl | 7 => rfl | 8 => rfl | _ + 9 => rfl) ?_
                exact (ih m hm).2.2 d j1 (S (c + 1) x4.toInt.toNat) (S (c + 2) x4.toInt.toNat) j8 (x3 + (Int32.ofInt 1)) (x4 + (Int32.ofInt 1)) (x5 + (Int32.ofInt 1)) (z_s S (c + 3) x3.toInt.toNat (S (c + 2) x4.toInt.toNat)) hD
              · have hD := hD.2 h7
                show u_P L xs m d m_X1_run 74 [(4, .int (x4 + (Int32.ofInt 1))), (7, .int (S (c + 2) x4.toInt.toNat)), (6, .int (S (c + 1) x4.toInt.toNat)), (0, .ref (c + 1)), (1, .int j1), (2, .ref 52), (3, .int x3), (5, .int x5), (8, .int j8)] [] S R _
                refine u_st rfl (fun _ => rfl) ?_
                show u_P L xs m d m_X1_run 75 [(4, .int (x4 + (Int32.ofInt 1))), (7, .int (S (c + 2) x4.toInt.toNat)), (6, .int (S (c + 1) x4.toInt.toNat)), (0, .ref (c + 1)), (1, .int j1), (2, .ref 52), (3, .int x3), (5, .int x5), (8, .int j8)] [.int (Int32.ofInt 0)] S R _
                exact u_ret rfl rfl ⟨_, rfl, rfl, hD⟩
            · have hD := hD.2 h6
              show u_P L xs m d m_X1_run 59 [(4, .int (x4 + (Int32.ofInt 1))), (7, .int (S (c + 2) x4.toInt.toNat)), (6, .int (S (c + 1) x4.toInt.toNat)), (0, .ref (c + 1)), (1, .int j1), (2, .ref 52), (3, .int x3), (5, .int x5), (8, .int j8)] [] S R _
              refine u_st rfl (fun _ => rfl) ?_
              refine u_st rfl (fun _ => rfl) ?_
              show u_P L xs m d m_X1_run 62 [(4, .int (x4 + (Int32.ofInt 1))), (7, .int (S (c + 2) x4.toInt.toNat)), (6, .int (S (c + 1) x4.toInt.toNat)), (0, .ref (c + 1)), (1, .int j1), (2, .ref 52), (3, .int x3), (5, .int x5), (8, .int j8)] [.int (Int32.ofInt 2), .int (S (c + 1) x4.toInt.toNat)] S R _
              refine u_ic_ne rfl (fun h10 => ?_) (fun h10 => ?_)
              · have hD := hD.1 h10
                show u_P L xs m d m_X1_run 105 [(4, .int (x4 + (Int32.ofInt 1))), (7, .int (S (c + 2) x4.toInt.toNat)), (6, .int (S (c + 1) x4.toInt.toNat)), (0, .ref (c + 1)), (1, .int j1), (2, .ref 52), (3, .int x3), (5, .int x5), (8, .int j8)] [] S R _
                refine u_st rfl (fun _ => rfl) ?_
                refine u_st rfl (fun _ => rfl) ?_
                show u_P L xs m d m_X1_run 107 [(4, .int (x4 + (Int32.ofInt 1))), (7, .int (S (c + 2) x4.toInt.toNat)), (6, .int (S (c + 1) x4.toInt.toNat)), (0, .ref (c + 1)), (1, .int j1), (2, .ref 52), (3, .int x3), (5, .int x5), (8, .int j8)] [.int (Int32.ofInt 1), .int x3] S R _
                refine u_ic_lt rfl (fun h11 => ?_) (fun h11 => ?_)
                · have hD := hD.1 h11
                  show u_P L xs m d m_X1_run 115 [(4, .int (x4 + (Int32.ofInt 1))), (7, .int (S (c + 2) x4.toInt.toNat)), (6, .int (S (c + 1) x4.toInt.toNat)), (0, .ref (c + 1)), (1, .int j1), (2, .ref 52), (3, .int x3), (5, .int x5), (8, .int j8)] [] S R _
                  refine u_st rfl (fun _ => rfl) ?_
                  refine u_st rfl (fun _ => rfl) ?_
                  show u_P L xs m d m_X1_run 117 [(4, .int (x4 + (Int32.ofInt 1))), (7, .int (S (c + 2) x4.toInt.toNat)), (6, .int (S (c + 1) x4.toInt.toNat)), (0, .ref (c + 1)), (1, .int j1), (2, .ref 52), (3, .int x3), (5, .int x5), (8, .int j8)] [.int (Int32.ofInt 1), .int x3] S R _
                  refine u_ic_ge rfl (fun h12 => ?_) (fun h12 => ?_)
                  · have hD := hD.1 h12
                    show u_P L xs m d m_X1_run 124 [(4, .int (x4 + (Int32.ofInt 1))), (7, .int (S (c + 2) x4.toInt.toNat)), (6, .int (S (c + 1) x4.toInt.toNat)), (0, .ref (c + 1)), (1, .int j1), (2, .ref 52), (3, .int x3), (5, .int x5), (8, .int j8)] [] S R _
                    refine u_st rfl (fun _ => rfl) ?_
                    show u_P L xs m d m_X1_run 125 [(4, .int (x4 + (Int32.ofInt 1))), (7, .int (S (c + 2) x4.toInt.toNat)), (6, .int (S (c + 1) x4.toInt.toNat)), (0, .ref (c + 1)), (1, .int j1), (2, .ref 52), (3, .int x3), (5, .int x5), (8, .int j8)] [.ref (c + 1)] S R _
                    refine u_getr rfl (z_cd0 hc) rfl ?_
                    refine u_st rfl (fun _ => rfl) ?_
                    refine u_st rfl (fun _ => rfl) ?_
                    refine u_st rfl (fun _ => rfl) ?_
                    show u_P L xs m d m_X1_run 131 [(4, .int (x4 + (Int32.ofInt 1))), (7, .int (S (c + 2) x4.toInt.toNat)), (6, .int (S (c + 1) x4.toInt.toNat)), (0, .ref (c + 1)), (1, .int j1), (2, .ref 52), (3, .int x3), (5, .int x5), (8, .int j8)] [.int (x3 - (Int32.ofInt 1)), .ref (c + 4)] S R _
                    refine u_ialdE (v := S (c + 3) ((x3 - (Int32.ofInt 1)).toInt.toNat)) rfl (z_cd3 hc) rfl (fun b131 b132 => ?_)
                    have hD := hD b131 b132
                    show u_P L xs m d m_X1_run 132 [(4, .int (x4 + (Int32.ofInt 1))), (7, .int (S (c + 2) x4.toInt.toNat)), (6, .int (S (c + 1) x4.toInt.toNat)), (0, .ref (c + 1)), (1, .int j1), (2, .ref 52), (3, .int x3), (5, .int x5), (8, .int j8)] [.int (S (c + 3) ((x3 - (Int32.ofInt 1)).toInt.toNat))] S R _
                    exact u_ret rfl rfl ⟨_, rfl, rfl, hD⟩
                  · have hD := hD.2 h12
                    show u_P L xs m d m_X1_run 120 [(4, .int (x4 + (Int32.ofInt 1))), (7, .int (S (c + 2) x4.toInt.toNat)), (6, .int (S (c + 1) x4.toInt.toNat)), (0, .ref (c + 1)), (1, .int j1), (2, .ref 52), (3, .int x3), (5, .int x5), (8, .int j8)] [] S R _
                    refine u_st rfl (fun _ => rfl) ?_
                    refine u_st rfl (fun _ => rfl) ?_
                    show u_P L xs m d m_X1_run 132 [(4, .int (x4 + (Int32.ofInt 1))), (7, .int (S (c + 2) x4.toInt.toNat)), (6, .int (S (c + 1) x4.toInt.toNat)), (0, .ref (c + 1)), (1, .int j1), (2, .ref 52), (3, .int x3), (5, .int x5), (8, .int j8)] [.int (Int32.ofInt 0)] S R _
                    exact u_ret rfl rfl ⟨_, rfl, rfl, hD⟩
                · have hD := hD.2 h11
                  show u_P L xs m d m_X1_run 110 [(4, .int (x4 + (Int32.ofInt 1))), (7, .int (S (c + 2) x4.toInt.toNat)), (6, .int (S (c + 1) x4.toInt.toNat)), (0, .ref (c + 1)), (1, .int j1), (2, .ref 52), (3, .int x3), (5, .int x5), (8, .int j8)] [] S R _
                  refine u_st rfl (fun _ => rfl) ?_
                  show u_P L xs m d m_X1_run 112 [(4, .int (x4 + (Int32.ofInt 1))), (7, .int (S (c + 2) x4.toInt.toNat)), (6, .int (S (c + 1) x4.toInt.toNat)), (0, .ref (c + 1)), (1, .int j1), (2, .ref 52), (3, .int x3), (5, .int x5), (8, .int j8)] [.int (S (c + 1) x4.toInt.toNat)] S R _
                  refine u_if_ne rfl (fun h14 => ?_) (fun h14 => ?_)
                  · have hD := hD.1 h14
                    show u_P L xs m d m_X1_run 133 [(4, .int (x4 + (Int32.ofInt 1))), (7, .int (S (c + 2) x4.toInt.toNat)), (6, .int (S (c + 1) x4.toInt.toNat)), (0, .ref (c + 1)), (1, .int j1), (2, .ref 52), (3, .int x3), (5, .int x5), (8, .int j8)] [] S R _
                    refine u_st rfl (fun _ => rfl) ?_
                    refine u_st rfl (fun _ => rfl) ?_
                    show u_P L xs m d m_X1_run 136 [(4, .int (x4 + (Int32.ofInt 1))), (7, .int (S (c + 2) x4.toInt.toNat)), (6, .int (S (c + 1) x4.toInt.toNat)), (0, .ref (c + 1)), (1, .int j1), (2, .ref 52), (3, .int x3), (5, .int x5), (8, .int j8)] [.int (Int32.ofInt 3), .int (S (c + 1) x4.toInt.toNat)] S R _
                    refine u_ic_ne rfl (fun h15 => ?_) (fun h15 => ?_)
                    · have hD := hD.1 h15
                      show u_P L xs m d m_X1_run 160 [(4, .int (x4 + (Int32.ofInt 1))), (7, .int (S (c + 2) x4.toInt.toNat)), (6, .int (S (c + 1) x4.toInt.toNat)), (0, .ref (c + 1)), (1, .int j1), (2, .ref 52), (3, .int x3), (5, .int x5), (8, .int j8)] [] S R _
                      refine u_st rfl (fun _ => rfl) ?_
                      refine u_st rfl (fun _ => rfl) ?_
                      show u_P L xs m d m_X1_run 163 [(4, .int (x4 + (Int32.ofInt 1))), (7, .int (S (c + 2) x4.toInt.toNat)), (6, .int (S (c + 1) x4.toInt.toNat)), (0, .ref (c + 1)), (1, .int j1), (2, .ref 52), (3, .int x3), (5, .int x5), (8, .int j8)] [.int (Int32.ofInt 4), .int (S (c + 1) x4.toInt.toNat)] S R _
                      refine u_ic_eq rfl (fun h16 => ?_) (fun h16 => ?_)
                      · have hD := hD.1 h16
                        show u_P L xs m d m_X1_run 172 [(4, .int (x4 + (Int32.ofInt 1))), (7, .int (S (c + 2) x4.toInt.toNat)), (6, .int (S (c + 1) x4.toInt.toNat)), (0, .ref (c + 1)), (1, .int j1), (2, .ref 52), (3, .int x3), (5, .int x5), (8, .int j8)] [] S R _
                        refine u_st rfl (fun _ => rfl) ?_
                        show u_P L xs m d m_X1_run 173 [(4, .int (x4 + (Int32.ofInt 1))), (7, .int (S (c + 2) x4.toInt.toNat)), (6, .int (S (c + 1) x4.toInt.toNat)), (0, .ref (c + 1)), (1, .int j1), (2, .ref 52), (3, .int x3), (5, .int x5), (8, .int j8)] [.ref (c + 1)] S R _
                        refine u_getr rfl (z_cd0 hc) rfl ?_
                        refine u_st rfl (fun _ => rfl) ?_
                        refine u_st rfl (fun _ => rfl) ?_
                        refine u_st rfl (fun _ => rfl) ?_
                        show u_P L xs m d m_X1_run 179 [(4, .int (x4 + (Int32.ofInt 1))), (7, .int (S (c + 2) x4.toInt.toNat)), (6, .int (S (c + 1) x4.toInt.toNat)), (0, .ref (c + 1)), (1, .int j1), (2, .ref 52), (3, .int x3), (5, .int x5), (8, .int j8)] [.int (x3 - (Int32.ofInt 1)), .ref (c + 4)] S R _
                        refine u_ialdE (v := S (c + 3) ((x3 - (Int32.ofInt 1)).toInt.toNat)) rfl (z_cd3 hc) rfl (fun b171 b172 => ?_)
                        have hD := hD b171 b172
                        show u_P L xs m d m_X1_run 180 [(4, .int (x4 + (Int32.ofInt 1))), (7, .int (S (c + 2) x4.toInt.toNat)), (6, .int (S (c + 1) x4.toInt.toNat)), (0, .ref (c + 1)), (1, .int j1), (2, .ref 52), (3, .int x3), (5, .int x5), (8, .int j8)] [.int (S (c + 3) ((x3 - (Int32.ofInt 1)).toInt.toNat))] S R _
                        refine u_if_eq rfl (fun h18 => ?_) (fun h18 => ?_)
                        · have hD := hD.1 h18
                          show u_P L xs m d m_X1_run 187 [(4, .int (x4 + (Int32.ofInt 1))), (7, .int (S (c + 2) x4.toInt.toNat)), (6, .int (S (c + 1) x4.toInt.toNat)), (0, .ref (c + 1)), (1, .int j1), (2, .ref 52), (3, .int x3), (5, .int x5), (8, .int j8)] [] S R _
                          refine u_st rfl (fun _ => rfl) ?_
                          refine u_st rfl (fun _ => rfl) ?_
                          refine u_st rfl (fun _ => rfl) ?_
                          show u_P L xs m d m_X1_run 191 [(4, .int (x4 + (Int32.ofInt 1))), (7, .int (S (c + 2) x4.toInt.toNat)), (6, .int (S (c + 1) x4.toInt.toNat)), (0, .ref (c + 1)), (1, .int j1), (2, .ref 52), (3, .int x3), (5, .int x5), (8, .int j8)] [.int (Int32.ofInt 5), .int (S (c + 1) x4.toInt.toNat), .int (Int32.ofInt 0)] S R _
                          refine u_ic_ne rfl (fun _ => ?_) (fun h19 => absurd (h16.symm.trans (Classical.not_not.mp h19)) (by decide))
                          show u_P L xs m d m_X1_run 198 [(4, .int (x4 + (Int32.ofInt 1))), (7, .int (S (c + 2) x4.toInt.toNat)), (6, .int (S (c + 1) x4.toInt.toNat)), (0, .ref (c + 1)), (1, .int j1), (2, .ref 52), (3, .int x3), (5, .int x5), (8, .int j8)] [.int (Int32.ofInt 0)] S R _
                          refine u_st rfl (fun _ => rfl) ?_
                          show u_P L xs m d m_X1_run 199 [(4, .int (x4 + (Int32.ofInt 1))), (7, .int (S (c + 2) x4.toInt.toNat)), (6, .int (S (c + 1) x4.toInt.toNat)), (0, .ref (c + 1)), (1, .int j1), (2, .ref 52), (3, .int x3), (5, .int x5), (8, .int j8)] [.int (Int32.ofInt 0), .int (Int32.ofInt 0)] S R _
                          refine u_st rfl (fun _ => rfl) ?_
                          refine u_st rfl (fun _ => rfl) ?_
                          refine u_st rfl (fun _ => rfl) ?_
                          refine u_st rfl (fun _ => rfl) ?_
                          refine u_st rfl (fun _ => rfl) ?_
                          show u_P L xs m d m_X1_run 211 [(8, .int (Int32.ofInt 1)), (4, .int (x4 + (Int32.ofInt 1))), (7, .int (S (c + 2) x4.toInt.toNat)), (6, .int (S (c + 1) x4.toInt.toNat)), (0, .ref (c + 1)), (1, .int j1), (2, .ref 52), (3, .int x3), (5, .int x5)] [.int (Int32.ofInt 1)] S R _
                          refine u_st rfl (fun _ => rfl) ?_
                          refine u_st rfl (fun _ => rfl) ?_
                          refine u_st rfl (fun _ => rfl) ?_
                          refine u_st rfl (fun _ => rfl) ?_
                          refine u_st rfl (fun _ => rfl) ?_
                          show u_P L xs m d m_X1_run 225 [(4, .int (S (c + 2) x4.toInt.toNat)), (8, .int (Int32.ofInt 1)), (7, .int (S (c + 2) x4.toInt.toNat)), (6, .int (S (c + 1) x4.toInt.toNat)), (0, .ref (c + 1)), (1, .int j1), (2, .ref 52), (3, .int x3), (5, .int x5)] [.int (Int32.ofInt 1)] S R _
                          refine u_st rfl (fun _ => rfl) ?_
                          refine u_st rfl (fun _ => rfl) ?_
                          refine u_st rfl (fun _ => rfl) ?_
                          refine u_st rfl (fun _ => rfl) ?_
                          refine u_st rfl (fun _ => rfl) ?_
                          refine u_st rfl (fun _ => rfl) ?_
                          refine u_st rfl (fun _ => rfl) ?_
                          refine u_lc (b := [(0, .ref (c + 1)), (1, .int j1), (2, .ref 52), (3, .int x3), (4, .int (S (c + 2) x4.toInt.toNat)), (5, .int (x5 + (Int32.ofInt 1))), (6, .int (S (c + 1) x4.toInt.toNat)), (7, .int (S (c + 2) x4.toInt.toNat)), (8, .int (Int32.ofInt 1))]) (show ([5, 3, 4, 8, 7, 6, 0, 1, 2] : List Nat).Nodup by decide) (show ([0, 1, 2, 3, 4, 5, 6, 7, 8] : List Nat).Nodup by decide) (fun i => match i with | 0 => rfl | 1 => rfl | 2 => rfl | 3 => rfl | 4 => rfl | 5 => rfl | 6 => rfl | 7 => rfl | 8 => rfl | _ + 9 => rfl) ?_
                          exact (ih m hm).2.2 d j1 (S (c + 1) x4.toInt.toNat) (S (c + 2) x4.toInt.toNat) (Int32.ofInt 1) x3 (S (c + 2) x4.toInt.toNat) (x5 + (Int32.ofInt 1)) S hD
                        · have hD := hD.2 h18
                          show u_P L xs m d m_X1_run 183 [(4, .int (x4 + (Int32.ofInt 1))), (7, .int (S (c + 2) x4.toInt.toNat)), (6, .int (S (c + 1) x4.toInt.toNat)), (0, .ref (c + 1)), (1, .int j1), (2, .ref 52), (3, .int x3), (5, .int x5), (8, .int j8)] [] S R _
                          refine u_st rfl (fun _ => rfl) ?_
                          refine u_st rfl (fun _ => rfl) ?_
                          refine u_st rfl (fun _ => rfl) ?_
                          refine u_st rfl (fun _ => rfl) ?_
                          show u_P L xs m d m_X1_run 191 [(4, .int (x4 + (Int32.ofInt 1))), (7, .int (S (c + 2) x4.toInt.toNat)), (6, .int (S (c + 1) x4.toInt.toNat)), (0, .ref (c + 1)), (1, .int j1), (2, .ref 52), (3, .int x3), (5, .int x5), (8, .int j8)] [.int (Int32.ofInt 5), .int (S (c + 1) x4.toInt.toNat), .int (Int32.ofInt 1)] S R _
                          refine u_ic_ne rfl (fun _ => ?_) (fun h20 => absurd (h16.symm.trans (Classical.not_not.mp h20)) (by decide))
                          show u_P L xs m d m_X1_run 198 [(4, .int (x4 + (Int32.ofInt 1))), (7, .int (S (c + 2) x4.toInt.toNat)), (6, .int (S (c + 1) x4.toInt.toNat)), (0, .ref (c + 1)), (1, .int j1), (2, .ref 52), (3, .int x3), (5, .int x5), (8, .int j8)] [.int (Int32.ofInt 1)] S R _
                          refine u_st rfl (fun _ => rfl) ?_
                          show u_P L xs m d m_X1_run 199 [(4, .int (x4 + (Int32.ofInt 1))), (7, .int (S (c + 2) x4.toInt.toNat)), (6, .int (S (c + 1) x4.toInt.toNat)), (0, .ref (c + 1)), (1, .int j1), (2, .ref 52), (3, .int x3), (5, .int x5), (8, .int j8)] [.int (Int32.ofInt 0), .int (Int32.ofInt 1)] S R _
                          refine u_st rfl (fun _ => rfl) ?_
                          refine u_st rfl (fun _ => rfl) ?_
                          refine u_st rfl (fun _ => rfl) ?_
                          refine u_st rfl (fun _ => rfl) ?_
                          show u_P L xs m d m_X1_run 211 [(8, .int (Int32.ofInt 0)), (4, .int (x4 + (Int32.ofInt 1))), (7, .int (S (c + 2) x4.toInt.toNat)), (6, .int (S (c + 1) x4.toInt.toNat)), (0, .ref (c + 1)), (1, .int j1), (2, .ref 52), (3, .int x3), (5, .int x5)] [.int (Int32.ofInt 0)] S R _
                          refine u_st rfl (fun _ => rfl) ?_
                          refine u_st rfl (fun _ => rfl) ?_
                          refine u_st rfl (fun _ => rfl) ?_
                          refine u_st rfl (fun _ => rfl) ?_
                          show u_P L xs m d m_X1_run 225 [(4, .int (x4 + (Int32.ofInt 1))), (8, .int (Int32.ofInt 0)), (7, .int (S (c + 2) x4.toInt.toNat)), (6, .int (S (c + 1) x4.toInt.toNat)), (0, .ref (c + 1)), (1, .int j1), (2, .ref 52), (3, .int x3), (5, .int x5)] [.int (Int32.ofInt 0)] S R _
                          refine u_st rfl (fun _ => rfl) ?_
                          refine u_st rfl (fun _ => rfl) ?_
                          refine u_st rfl (fun _ => rfl) ?_
                          refine u_st rfl (fun _ => rfl) ?_
                          refine u_st rfl (fun _ => rfl) ?_
                          refine u_st rfl (fun _ => rfl) ?_
                          refine u_st rfl (fun _ => rfl) ?_
                          refine u_st rfl (fun _ => rfl) ?_
                          refine u_lc (b := [(0, .ref (c + 1)), (1, .int j1), (2, .ref 52), (3, .int (x3 - (Int32.ofInt 1))), (4, .int (x4 + (Int32.ofInt 1))), (5, .int (x5 + (Int32.ofInt 1))), (6, .int (S (c + 1) x4.toInt.toNat)), (7, .int (S (c + 2) x4.toInt.toNat)), (8, .int (Int32.ofInt 0))]) (show ([5, 3, 4, 8, 7, 6, 0, 1, 2] : List Nat).Nodup by decide) (show ([0, 1, 2, 3, 4, 5, 6, 7, 8] : List Nat).Nodup by decide) (fun i => match i with | 0 => rfl | 1 => rfl | 2 => rfl | 3 => rfl | 4 => rfl | 5 => rfl | 6 => rfl | 7 => rfl | 8 => rfl | _ + 9 => rfl) ?_
                          exact (ih m hm).2.2 d j1 (S (c + 1) x4.toInt.toNat) (S (c + 2) x4.toInt.toNat) (Int32.ofInt 0) (x3 - (Int32.ofInt 1)) (x4 + (Int32.ofInt 1)) (x5 + (Int32.ofInt 1)) S hD
                      · have hD := hD.2 h16
                        show u_P L xs m d m_X1_run 166 [(4, .int (x4 + (Int32.ofInt 1))), (7, .int (S (c + 2) x4.toInt.toNat)), (6, .int (S (c + 1) x4.toInt.toNat)), (0, .ref (c + 1)), (1, .int j1), (2, .ref 52), (3, .int x3), (5, .int x5), (8, .int j8)] [] S R _
                        refine u_st rfl (fun _ => rfl) ?_
                        refine u_st rfl (fun _ => rfl) ?_
                        show u_P L xs m d m_X1_run 169 [(4, .int (x4 + (Int32.ofInt 1))), (7, .int (S (c + 2) x4.toInt.toNat)), (6, .int (S (c + 1) x4.toInt.toNat)), (0, .ref (c + 1)), (1, .int j1), (2, .ref 52), (3, .int x3), (5, .int x5), (8, .int j8)] [.int (Int32.ofInt 5), .int (S (c + 1) x4.toInt.toNat)] S R _
                        refine u_ic_ne rfl (fun h21 => ?_) (fun h21 => ?_)
                        · have hD := hD.1 h21
                          show u_P L xs m d m_X1_run 239 [(4, .int (x4 + (Int32.ofInt 1))), (7, .int (S (c + 2) x4.toInt.toNat)), (6, .int (S (c + 1) x4.toInt.toNat)), (0, .ref (c + 1)), (1, .int j1), (2, .ref 52), (3, .int x3), (5, .int x5), (8, .int j8)] [] S R _
                          refine u_st rfl (fun _ => rfl) ?_
                          refine u_st rfl (fun _ => rfl) ?_
                          show u_P L xs m d m_X1_run 241 [(4, .int (x4 + (Int32.ofInt 1))), (7, .int (S (c + 2) x4.toInt.toNat)), (6, .int (S (c + 1) x4.toInt.toNat)), (0, .ref (c + 1)), (1, .int j1), (2, .ref 52), (3, .int x3), (5, .int x5), (8, .int j8)] [.int (Int32.ofInt 2), .int x3] S R _
                          refine u_ic_lt rfl (fun h22 => ?_) (fun h22 => ?_)
                          · have hD := hD.1 h22
                            show u_P L xs m d m_X1_run 269 [(4, .int (x4 + (Int32.ofInt 1))), (7, .int (S (c + 2) x4.toInt.toNat)), (6, .int (S (c + 1) x4.toInt.toNat)), (0, .ref (c + 1)), (1, .int j1), (2, .ref 52), (3, .int x3), (5, .int x5), (8, .int j8)] [] S R _
                            refine u_st rfl (fun _ => rfl) ?_
                            refine u_st rfl (fun _ => rfl) ?_
                            refine u_st rfl (fun _ => rfl) ?_
                            refine u_st rfl (fun _ => rfl) ?_
                            show u_P L xs m d m_X1_run 278 [(8, .int (Int32.ofInt 1)), (4, .int (x4 + (Int32.ofInt 1))), (7, .int (S (c + 2) x4.toInt.toNat)), (6, .int (S (c + 1) x4.toInt.toNat)), (0, .ref (c + 1)), (1, .int j1), (2, .ref 52), (3, .int x3), (5, .int x5)] [.int (Int32.ofInt 1)] S R _
                            refine u_st rfl (fun _ => rfl) ?_
                            refine u_st rfl (fun _ => rfl) ?_
                            show u_P L xs m d m_X1_run 282 [(8, .int (Int32.ofInt 1)), (4, .int (x4 + (Int32.ofInt 1))), (7, .int (S (c + 2) x4.toInt.toNat)), (6, .int (S (c + 1) x4.toInt.toNat)), (0, .ref (c + 1)), (1, .int j1), (2, .ref 52), (3, .int x3), (5, .int x5)] [.int (Int32.ofInt 0)] S R _
                            exact u_ret rfl rfl ⟨_, rfl, rfl, hD⟩
                          · have hD := hD.2 h22
                            show u_P L xs m d m_X1_run 244 [(4, .int (x4 + (Int32.ofInt 1))), (7, .int (S (c + 2) x4.toInt.toNat)), (6, .int (S (c + 1) x4.toInt.toNat)), (0, .ref (c + 1)), (1, .int j1), (2, .ref 52), (3, .int x3), (5, .int x5), (8, .int j8)] [] S R _
                            refine u_st rfl (fun _ => rfl) ?_
                            refine u_st rfl (fun _ => rfl) ?_
                            show u_P L xs m d m_X1_run 248 [(4, .int (x4 + (Int32.ofInt 1))), (7, .int (S (c + 2) x4.toInt.toNat)), (6, .int (S (c + 1) x4.toInt.toNat)), (0, .ref (c + 1)), (1, .int j1), (2, .ref 52), (3, .int x3), (5, .int x5), (8, .int j8)] [.int (Int32.ofInt 47), .int (S (c + 1) x4.toInt.toNat)] S R _
                            refine u_ic_eq rfl (fun h23 => ?_) (fun h23 => ?_)
                            · have hD := hD.1 h23
                              show u_P L xs m d m_X1_run 258 [(4, .int (x4 + (Int32.ofInt 1))), (7, .int (S (c + 2) x4.toInt.toNat)), (6, .int (S (c + 1) x4.toInt.toNat)), (0, .ref (c + 1)), (1, .int j1), (2, .ref 52), (3, .int x3), (5, .int x5), (8, .int j8)] [] S R _
                              refine u_st rfl (fun _ => rfl) ?_
                              show u_P L xs m d m_X1_run 259 [(4, .int (x4 + (Int32.ofInt 1))), (7, .int (S (c + 2) x4.toInt.toNat)), (6, .int (S (c + 1) x4.toInt.toNat)), (0, .ref (c + 1)), (1, .int j1), (2, .ref 52), (3, .int x3), (5, .int x5), (8, .int j8)] [.ref (c + 1)] S R _
                              refine u_getr rfl (z_cd0 hc) rfl ?_
                              refine u_st rfl (fun _ => rfl) ?_
                              refine u_st rfl (fun _ => rfl) ?_
                              refine u_st rfl (fun _ => rfl) ?_
                              show u_P L xs m d m_X1_run 265 [(4, .int (x4 + (Int32.ofInt 1))), (7, .int (S (c + 2) x4.toInt.toNat)), (6, .int (S (c + 1) x4.toInt.toNat)), (0, .ref (c + 1)), (1, .int j1), (2, .ref 52), (3, .int x3), (5, .int x5), (8, .int j8)] [.int (x3 - (Int32.ofInt 1)), .ref (c + 4)] S R _
                              refine u_ialdE (v := S (c + 3) ((x3 - (Int32.ofInt 1)).toInt.toNat)) rfl (z_cd3 hc) rfl (fun b241 b242 => ?_)
                              have hD := hD b241 b242
                              show u_P L xs m d m_X1_run 266 [(4, .int (x4 + (Int32.ofInt 1))), (7, .int (S (c + 2) x4.toInt.toNat)), (6, .int (S (c + 1) x4.toInt.toNat)), (0, .ref (c + 1)), (1, .int j1), (2, .ref 52), (3, .int x3), (5, .int x5), (8, .int j8)] [.int (S (c + 3) ((x3 - (Int32.ofInt 1)).toInt.toNat))] S R _
                              refine u_if_ne rfl (fun h25 => ?_) (fun h25 => ?_)
                              · have hD := hD.1 h25
                                show u_P L xs m d m_X1_run 273 [(4, .int (x4 + (Int32.ofInt 1))), (7, .int (S (c + 2) x4.toInt.toNat)), (6, .int (S (c + 1) x4.toInt.toNat)), (0, .ref (c + 1)), (1, .int j1), (2, .ref 52), (3, .int x3), (5, .int x5), (8, .int j8)] [] S R _
                                refine u_st rfl (fun _ => rfl) ?_
                                refine u_st rfl (fun _ => rfl) ?_
                                refine u_st rfl (fun _ => rfl) ?_
                                show u_P L xs m d m_X1_run 278 [(8, .int (Int32.ofInt 0)), (4, .int (x4 + (Int32.ofInt 1))), (7, .int (S (c + 2) x4.toInt.toNat)), (6, .int (S (c + 1) x4.toInt.toNat)), (0, .ref (c + 1)), (1, .int j1), (2, .ref 52), (3, .int x3), (5, .int x5)] [.int (Int32.ofInt 0)] S R _
                                refine u_st rfl (fun _ => rfl) ?_
                                refine u_st rfl (fun _ => rfl) ?_
                                refine u_st rfl (fun _ => rfl) ?_
                                show u_P L xs m d m_X1_run 287 [(3, .int (x3 + (Int32.ofInt (-1)))), (8, .int (Int32.ofInt 0)), (4, .int (x4 + (Int32.ofInt 1))), (7, .int (S (c + 2) x4.toInt.toNat)), (6, .int (S (c + 1) x4.toInt.toNat)), (0, .ref (c + 1)), (1, .int j1), (2, .ref 52), (5, .int x5)] [.ref (c + 1)] S R _
                                refine u_getr rfl (z_cd0 hc) rfl ?_
                                refine u_st rfl (fun _ => rfl) ?_
                                refine u_st rfl (fun _ => rfl) ?_
                                refine u_st rfl (fun _ => rfl) ?_
                                refine u_st rfl (fun _ => rfl) ?_
                                refine u_st rfl (fun _ => rfl) ?_
                                show u_P L xs m d m_X1_run 296 [(3, .int (x3 + (Int32.ofInt (-1)))), (8, .int (Int32.ofInt 0)), (4, .int (x4 + (Int32.ofInt 1))), (7, .int (S (c + 2) x4.toInt.toNat)), (6, .int (S (c + 1) x4.toInt.toNat)), (0, .ref (c + 1)), (1, .int j1), (2, .ref 52), (5, .int x5)] [.ref (c + 1), .int (S (c + 1) x4.toInt.toNat), .int ((x3 + (Int32.ofInt (-1))) - (Int32.ofInt 1)), .ref (c + 4)] S R _
                                refine u_getr rfl (z_cd0 hc) rfl ?_
                                refine u_st rfl (fun _ => rfl) ?_
                                refine u_st rfl (fun _ => rfl) ?_
                                refine u_st rfl (fun _ => rfl) ?_
                                show u_P L xs m d m_X1_run 302 [(3, .int (x3 + (Int32.ofInt (-1)))), (8, .int (Int32.ofInt 0)), (4, .int (x4 + (Int32.ofInt 1))), (7, .int (S (c + 2) x4.toInt.toNat)), (6, .int (S (c + 1) x4.toInt.toNat)), (0, .ref (c + 1)), (1, .int j1), (2, .ref 52), (5, .int x5)] [.int ((x3 + (Int32.ofInt (-1))) - (Int32.ofInt 1)), .ref (c + 4), .int (S (c + 1) x4.toInt.toNat), .int ((x3 + (Int32.ofInt (-1))) - (Int32.ofInt 1)), .ref (c + 4)] S R _
                                refine u_ialdE (v := S (c + 3) (((x3 + (Int32.ofInt (-1))) - (Int32.ofInt 1)).toInt.toNat)) rfl (z_cd3 hc) rfl (fun b261 b262 => ?_)
                                have hD := hD b261 b262
                                show u_P L xs m d m_X1_run 303 [(3, .int (x3 + (Int32.ofInt (-1)))), (8, .int (Int32.ofInt 0)), (4, .int (x4 + (Int32.ofInt 1))), (7, .int (S (c + 2) x4.toInt.toNat)), (6, .int (S (c + 1) x4.toInt.toNat)), (0, .ref (c + 1)), (1, .int j1), (2, .ref 52), (5, .int x5)] [.int (S (c + 3) (((x3 + (Int32.ofInt (-1))) - (Int32.ofInt 1)).toInt.toNat)), .int (S (c + 1) x4.toInt.toNat), .int ((x3 + (Int32.ofInt (-1))) - (Int32.ofInt 1)), .ref (c + 4)] S R _
                                refine u_st rfl (fun _ => rfl) ?_
                                show u_P L xs m d m_X1_run 304 [(3, .int (x3 + (Int32.ofInt (-1)))), (8, .int (Int32.ofInt 0)), (4, .int (x4 + (Int32.ofInt 1))), (7, .int (S (c + 2) x4.toInt.toNat)), (6, .int (S (c + 1) x4.toInt.toNat)), (0, .ref (c + 1)), (1, .int j1), (2, .ref 52), (5, .int x5)] [.ref (c + 1), .int (S (c + 3) (((x3 + (Int32.ofInt (-1))) - (Int32.ofInt 1)).toInt.toNat)), .int (S (c + 1) x4.toInt.toNat), .int ((x3 + (Int32.ofInt (-1))) - (Int32.ofInt 1)), .ref (c + 4)] S R _
                                refine u_getr rfl (z_cd0 hc) rfl ?_
                                refine u_st rfl (fun _ => rfl) ?_
                                show u_P L xs m d m_X1_run 308 [(3, .int (x3 + (Int32.ofInt (-1)))), (8, .int (Int32.ofInt 0)), (4, .int (x4 + (Int32.ofInt 1))), (7, .int (S (c + 2) x4.toInt.toNat)), (6, .int (S (c + 1) x4.toInt.toNat)), (0, .ref (c + 1)), (1, .int j1), (2, .ref 52), (5, .int x5)] [.int (x3 + (Int32.ofInt (-1))), .ref (c + 4), .int (S (c + 3) (((x3 + (Int32.ofInt (-1))) - (Int32.ofInt 1)).toInt.toNat)), .int (S (c + 1) x4.toInt.toNat), .int ((x3 + (Int32.ofInt (-1))) - (Int32.ofInt 1)), .ref (c + 4)] S R _
                                refine u_ialdE (v := S (c + 3) ((x3 + (Int32.ofInt (-1))).toInt.toNat)) rfl (z_cd3 hc) rfl (fun b271 b272 => ?_)
                                have hD := hD b271 b272
                                show u_P L xs m d m_X1_run 309 [(3, .int (x3 + (Int32.ofInt (-1)))), (8, .int (Int32.ofInt 0)), (4, .int (x4 + (Int32.ofInt 1))), (7, .int (S (c + 2) x4.toInt.toNat)), (6, .int (S (c + 1) x4.toInt.toNat)), (0, .ref (c + 1)), (1, .int j1), (2, .ref 52), (5, .int x5)] [.int (S (c + 3) ((x3 + (Int32.ofInt (-1))).toInt.toNat)), .int (S (c + 3) (((x3 + (Int32.ofInt (-1))) - (Int32.ofInt 1)).toInt.toNat)), .int (S (c + 1) x4.toInt.toNat), .int ((x3 + (Int32.ofInt (-1))) - (Int32.ofInt 1)), .ref (c + 4)] S R _
                                refine u_cs (ac := [.int (S (c + 1) x4.toInt.toNat), .int (S (c + 3) (((x3 + (Int32.ofInt (-1))) - (Int32.ofInt 1)).toInt.toNat)), .int (S (c + 3) ((x3 + (Int32.ofInt (-1))).toInt.toNat))]) (rest := [.int ((x3 + (Int32.ofInt (-1))) - (Int32.ofInt 1)), .ref (c + 4)]) rfl (by decide) mt_X1_join (fun _ => rfl) (Nat.le_of_ble_eq_true rfl) (Nat.le_of_ble_eq_true rfl) (fun d' => c_X1_join L xs m d' (S (c + 1) x4.toInt.toNat) (S (c + 3) (((x3 + (Int32.ofInt (-1))) - (Int32.ofInt 1)).toInt.toNat)) (S (c + 3) ((x3 + (Int32.ofInt (-1))).toInt.toNat)) S R) ?_
                                rintro _ _ _ ⟨_, rfl, rfl, rfl, rfl⟩
                                show u_P L xs m d m_X1_run 312 [(3, .int (x3 + (Int32.ofInt (-1)))), (8, .int (Int32.ofInt 0)), (4, .int (x4 + (Int32.ofInt 1))), (7, .int (S (c + 2) x4.toInt.toNat)), (6, .int (S (c + 1) x4.toInt.toNat)), (0, .ref (c + 1)), (1, .int j1), (2, .ref 52), (5, .int x5)] [.int (f_X1_join (S (c + 1) x4.toInt.toNat) (S (c + 3) (((x3 + (Int32.ofInt (-1))) - (Int32.ofInt 1)).toInt.toNat)) (S (c + 3) ((x3 + (Int32.ofInt (-1))).toInt.toNat))), .int ((x3 + (Int32.ofInt (-1))) - (Int32.ofInt 1)), .ref (c + 4)] S R _
                                refine u_iast rfl (z_cd3 hc) (fun b281 b282 => ?_)
                                have hD := hD b281 b282
                                show u_P L xs m d m_X1_run 313 [(3, .int (x3 + (Int32.ofInt (-1)))), (8, .int (Int32.ofInt 0)), (4, .int (x4 + (Int32.ofInt 1))), (7, .int (S (c + 2) x4.toInt.toNat)), (6, .int (S (c + 1) x4.toInt.toNat)), (0, .ref (c + 1)), (1, .int j1), (2, .ref 52), (5, .int x5)] [] (z_s S (c + 3) (((x3 + (Int32.ofInt (-1))) - (Int32.ofInt 1)).toInt.toNat) (f_X1_join (S (c + 1) x4.toInt.toNat) (S (c + 3) (((x3 + (Int32.ofInt (-1))) - (Int32.ofInt 1)).toInt.toNat)) (S (c + 3) ((x3 + (Int32.ofInt (-1))).toInt.toNat)))) R _
                                refine u_st rfl (fun _ => rfl) ?_
                                refine u_st rfl (fun _ => rfl) ?_
                                refine u_lc (b := [(0, .ref (c + 1)), (1, .int j1), (2, .ref 52), (3, .int (x3 + (Int32.ofInt (-1)))), (4, .int (x4 + (Int32.ofInt 1))), (5, .int (x5 + (Int32.ofInt 1))), (6, .int (S (c + 1) x4.toInt.toNat)), (7, .int (S (c + 2) x4.toInt.toNat)), (8, .int (Int32.ofInt 0))]) (show ([5, 3, 8, 4, 7, 6, 0, 1, 2] : List Nat).Nodup by decide) (show ([0, 1, 2, 3, 4, 5, 6, 7, 8] : List Nat).Nodup by decide) (fun i => match i with | 0 => rfl | 1 => rfl | 2 => rfl | 3 => rfl | 4 => rfl | 5 => rfl | 6 => rfl | 7 => rfl | 8 => rfl | _ + 9 => rfl) ?_
                                exact (ih m hm).2.2 d j1 (S (c + 1) x4.toInt.toNat) (S (c + 2) x4.toInt.toNat) (Int32.ofInt 0) (x3 + (Int32.ofInt (-1))) (x4 + (Int32.ofInt 1)) (x5 + (Int32.ofInt 1)) (z_s S (c + 3) (((x3 + (Int32.ofInt (-1))) - (Int32.ofInt 1)).toInt.toNat) (f_X1_join (S (c + 1) x4.toInt.toNat) (S (c + 3) (((x3 + (Int32.ofInt (-1))) - (Int32.ofInt 1)).toInt.toNat)) (S (c + 3) ((x3 + (Int32.ofInt (-1))).toInt.toNat)))) hD
                              · have hD := hD.2 h25
                                show u_P L xs m d m_X1_run 269 [(4, .int (x4 + (Int32.ofInt 1))), (7, .int (S (c + 2) x4.toInt.toNat)), (6, .int (S (c + 1) x4.toInt.toNat)), (0, .ref (c + 1)), (1, .int j1), (2, .ref 52), (3, .int x3), (5, .int x5), (8, .int j8)] [] S R _
                                refine u_st rfl (fun _ => rfl) ?_
                                refine u_st rfl (fun _ => rfl) ?_
                                refine u_st rfl (fun _ => rfl) ?_
                                refine u_st rfl (fun _ => rfl) ?_
                                show u_P L xs m d m_X1_run 278 [(8, .int (Int32.ofInt 1)), (4, .int (x4 + (Int32.ofInt 1))), (7, .int (S (c + 2) x4.toInt.toNat)), (6, .int (S (c + 1) x4.toInt.toNat)), (0, .ref (c + 1)), (1, .int j1), (2, .ref 52), (3, .int x3), (5, .int x5)] [.int (Int32.ofInt 1)] S R _
                                refine u_st rfl (fun _ => rfl) ?_
                                refine u_st rfl (fun _ => rfl) ?_
                                show u_P L xs m d m_X1_run 282 [(8, .int (Int32.ofInt 1)), (4, .int (x4 + (Int32.ofInt 1))), (7, .int (S (c + 2) x4.toInt.toNat)), (6, .int (S (c + 1) x4.toInt.toNat)), (0, .ref (c + 1)), (1, .int j1), (2, .ref 52), (3, .int x3), (5, .int x5)] [.int (Int32.ofInt 0)] S R _
                                exact u_ret rfl rfl ⟨_, rfl, rfl, hD⟩
                            · have hD := hD.2 h23
                              show u_P L xs m d m_X1_run 251 [(4, .int (x4 + (Int32.ofInt 1))), (7, .int (S (c + 2) x4.toInt.toNat)), (6, .int (S (c + 1) x4.toInt.toNat)), (0, .ref (c + 1)), (1, .int j1), (2, .ref 52), (3, .int x3), (5, .int x5), (8, .int j8)] [] S R _
                              refine u_st rfl (fun _ => rfl) ?_
                              refine u_st rfl (fun _ => rfl) ?_
                              show u_P L xs m d m_X1_run 255 [(4, .int (x4 + (Int32.ofInt 1))), (7, .int (S (c + 2) x4.toInt.toNat)), (6, .int (S (c + 1) x4.toInt.toNat)), (0, .ref (c + 1)), (1, .int j1), (2, .ref 52), (3, .int x3), (5, .int x5), (8, .int j8)] [.int (Int32.ofInt 37), .int (S (c + 1) x4.toInt.toNat)] S R _
                              refine u_ic_ne rfl (fun h29 => ?_) (fun h29 => ?_)
                              · have hD := hD.1 h29
                                show u_P L xs m d m_X1_run 273 [(4, .int (x4 + (Int32.ofInt 1))), (7, .int (S (c + 2) x4.toInt.toNat)), (6, .int (S (c + 1) x4.toInt.toNat)), (0, .ref (c + 1)), (1, .int j1), (2, .ref 52), (3, .int x3), (5, .int x5), (8, .int j8)] [] S R _
                                refine u_st rfl (fun _ => rfl) ?_
                                refine u_st rfl (fun _ => rfl) ?_
                                refine u_st rfl (fun _ => rfl) ?_
                                show u_P L xs m d m_X1_run 278 [(8, .int (Int32.ofInt 0)), (4, .int (x4 + (Int32.ofInt 1))), (7, .int (S (c + 2) x4.toInt.toNat)), (6, .int (S (c + 1) x4.toInt.toNat)), (0, .ref (c + 1)), (1, .int j1), (2, .ref 52), (3, .int x3), (5, .int x5)] [.int (Int32.ofInt 0)] S R _
                                refine u_st rfl (fun _ => rfl) ?_
                                refine u_st rfl (fun _ => rfl) ?_
                                refine u_st rfl (fun _ => rfl) ?_
                                show u_P L xs m d m_X1_run 287 [(3, .int (x3 + (Int32.ofInt (-1)))), (8, .int (Int32.ofInt 0)), (4, .int (x4 + (Int32.ofInt 1))), (7, .int (S (c + 2) x4.toInt.toNat)), (6, .int (S (c + 1) x4.toInt.toNat)), (0, .ref (c + 1)), (1, .int j1), (2, .ref 52), (5, .int x5)] [.ref (c + 1)] S R _
                                refine u_getr rfl (z_cd0 hc) rfl ?_
                                refine u_st rfl (fun _ => rfl) ?_
                                refine u_st rfl (fun _ => rfl) ?_
                                refine u_st rfl (fun _ => rfl) ?_
                                refine u_st rfl (fun _ => rfl) ?_
                                refine u_st rfl (fun _ => rfl) ?_
                                show u_P L xs m d m_X1_run 296 [(3, .int (x3 + (Int32.ofInt (-1)))), (8, .int (Int32.ofInt 0)), (4, .int (x4 + (Int32.ofInt 1))), (7, .int (S (c + 2) x4.toInt.toNat)), (6, .int (S (c + 1) x4.toInt.toNat)), (0, .ref (c + 1)), (1, .int j1), (2, .ref 52), (5, .int x5)] [.ref (c + 1), .int (S (c + 1) x4.toInt.toNat), .int ((x3 + (Int32.ofInt (-1))) - (Int32.ofInt 1)), .ref (c + 4)] S R _
                                refine u_getr rfl (z_cd0 hc) rfl ?_
                                refine u_st rfl (fun _ => rfl) ?_
                                refine u_st rfl (fun _ => rfl) ?_
                                refine u_st rfl (fun _ => rfl) ?_
                                show u_P L xs m d m_X1_run 302 [(3, .int (x3 + (Int32.ofInt (-1)))), (8, .int (Int32.ofInt 0)), (4, .int (x4 + (Int32.ofInt 1))), (7, .int (S (c + 2) x4.toInt.toNat)), (6, .int (S (c + 1) x4.toInt.toNat)), (0, .ref (c + 1)), (1, .int j1), (2, .ref 52), (5, .int x5)] [.int ((x3 + (Int32.ofInt (-1))) - (Int32.ofInt 1)), .ref (c + 4), .int (S (c + 1) x4.toInt.toNat), .int ((x3 + (Int32.ofInt (-1))) - (Int32.ofInt 1)), .ref (c + 4)] S R _
                                refine u_ialdE (v := S (c + 3) (((x3 + (Int32.ofInt (-1))) - (Int32.ofInt 1)).toInt.toNat)) rfl (z_cd3 hc) rfl (fun b301 b302 => ?_)
                                have hD := hD b301 b302
                                show u_P L xs m d m_X1_run 303 [(3, .int (x3 + (Int32.ofInt (-1)))), (8, .int (Int32.ofInt 0)), (4, .int (x4 + (Int32.ofInt 1))), (7, .int (S (c + 2) x4.toInt.toNat)), (6, .int (S (c + 1) x4.toInt.toNat)), (0, .ref (c + 1)), (1, .int j1), (2, .ref 52), (5, .int x5)] [.int (S (c + 3) (((x3 + (Int32.ofInt (-1))) - (Int32.ofInt 1)).toInt.toNat)), .int (S (c + 1) x4.toInt.toNat), .int ((x3 + (Int32.ofInt (-1))) - (Int32.ofInt 1)), .ref (c + 4)] S R _
                                refine u_st rfl (fun _ => rfl) ?_
                                show u_P L xs m d m_X1_run 304 [(3, .int (x3 + (Int32.ofInt (-1)))), (8, .int (Int32.ofInt 0)), (4, .int (x4 + (Int32.ofInt 1))), (7, .int (S (c + 2) x4.toInt.toNat)), (6, .int (S (c + 1) x4.toInt.toNat)), (0, .ref (c + 1)), (1, .int j1), (2, .ref 52), (5, .int x5)] [.ref (c + 1), .int (S (c + 3) (((x3 + (Int32.ofInt (-1))) - (Int32.ofInt 1)).toInt.toNat)), .int (S (c + 1) x4.toInt.toNat), .int ((x3 + (Int32.ofInt (-1))) - (Int32.ofInt 1)), .ref (c + 4)] S R _
                                refine u_getr rfl (z_cd0 hc) rfl ?_
                                refine u_st rfl (fun _ => rfl) ?_
                                show u_P L xs m d m_X1_run 308 [(3, .int (x3 + (Int32.ofInt (-1)))), (8, .int (Int32.ofInt 0)), (4, .int (x4 + (Int32.ofInt 1))), (7, .int (S (c + 2) x4.toInt.toNat)), (6, .int (S (c + 1) x4.toInt.toNat)), (0, .ref (c + 1)), (1, .int j1), (2, .ref 52), (5, .int x5)] [.int (x3 + (Int32.ofInt (-1))), .ref (c + 4), .int (S (c + 3) (((x3 + (Int32.ofInt (-1))) - (Int32.ofInt 1)).toInt.toNat)), .int (S (c + 1) x4.toInt.toNat), .int ((x3 + (Int32.ofInt (-1))) - (Int32.ofInt 1)), .ref (c + 4)] S R _
                                refine u_ialdE (v := S (c + 3) ((x3 + (Int32.ofInt (-1))).toInt.toNat)) rfl (z_cd3 hc) rfl (fun b311 b312 => ?_)
                                have hD := hD b311 b312
                                show u_P L xs m d m_X1_run 309 [(3, .int (x3 + (Int32.ofInt (-1)))), (8, .int (Int32.ofInt 0)), (4, .int (x4 + (Int32.ofInt 1))), (7, .int (S (c + 2) x4.toInt.toNat)), (6, .int (S (c + 1) x4.toInt.toNat)), (0, .ref (c + 1)), (1, .int j1), (2, .ref 52), (5, .int x5)] [.int (S (c + 3) ((x3 + (Int32.ofInt (-1))).toInt.toNat)), .int (S (c + 3) (((x3 + (Int32.ofInt (-1))) - (Int32.ofInt 1)).toInt.toNat)), .int (S (c + 1) x4.toInt.toNat), .int ((x3 + (Int32.ofInt (-1))) - (Int32.ofInt 1)), .ref (c + 4)] S R _
                                refine u_cs (ac := [.int (S (c + 1) x4.toInt.toNat), .int (S (c + 3) (((x3 + (Int32.ofInt (-1))) - (Int32.ofInt 1)).toInt.toNat)), .int (S (c + 3) ((x3 + (Int32.ofInt (-1))).toInt.toNat))]) (rest := [.int ((x3 + (Int32.ofInt (-1))) - (Int32.ofInt 1)), .ref (c + 4)]) rfl (by decide) mt_X1_join (fun _ => rfl) (Nat.le_of_ble_eq_true rfl) (Nat.le_of_ble_eq_true rfl) (fun d' => c_X1_join L xs m d' (S (c + 1) x4.toInt.toNat) (S (c + 3) (((x3 + (Int32.ofInt (-1))) - (Int32.ofInt 1)).toInt.toNat)) (S (c + 3) ((x3 + (Int32.ofInt (-1))).toInt.toNat)) S R) ?_
                                rintro _ _ _ ⟨_, rfl, rfl, rfl, rfl⟩
                                show u_P L xs m d m_X1_run 312 [(3, .int (x3 + (Int32.ofInt (-1)))), (8, .int (Int32.ofInt 0)), (4, .int (x4 + (Int32.ofInt 1))), (7, .int (S (c + 2) x4.toInt.toNat)), (6, .int (S (c + 1) x4.toInt.toNat)), (0, .ref (c + 1)), (1, .int j1), (2, .ref 52), (5, .int x5)] [.int (f_X1_join (S (c + 1) x4.toInt.toNat) (S (c + 3) (((x3 + (Int32.ofInt (-1))) - (Int32.ofInt 1)).toInt.toNat)) (S (c + 3) ((x3 + (Int32.ofInt (-1))).toInt.toNat))), .int ((x3 + (Int32.ofInt (-1))) - (Int32.ofInt 1)), .ref (c + 4)] S R _
                                refine u_iast rfl (z_cd3 hc) (fun b321 b322 => ?_)
                                have hD := hD b321 b322
                                show u_P L xs m d m_X1_run 313 [(3, .int (x3 + (Int32.ofInt (-1)))), (8, .int (Int32.ofInt 0)), (4, .int (x4 + (Int32.ofInt 1))), (7, .int (S (c + 2) x4.toInt.toNat)), (6, .int (S (c + 1) x4.toInt.toNat)), (0, .ref (c + 1)), (1, .int j1), (2, .ref 52), (5, .int x5)] [] (z_s S (c + 3) (((x3 + (Int32.ofInt (-1))) - (Int32.ofInt 1)).toInt.toNat) (f_X1_join (S (c + 1) x4.toInt.toNat) (S (c + 3) (((x3 + (Int32.ofInt (-1))) - (Int32.ofInt 1)).toInt.toNat)) (S (c + 3) ((x3 + (Int32.ofInt (-1))).toInt.toNat)))) R _
                                refine u_st rfl (fun _ => rfl) ?_
                                refine u_st rfl (fun _ => rfl) ?_
                                refine u_lc (b := [(0, .ref (c + 1)), (1, .int j1), (2, .ref 52), (3, .int (x3 + (Int32.ofInt (-1)))), (4, .int (x4 + (Int32.ofInt 1))), (5, .int (x5 + (Int32.ofInt 1))), (6, .int (S (c + 1) x4.toInt.toNat)), (7, .int (S (c + 2) x4.toInt.toNat)), (8, .int (Int32.ofInt 0))]) (show ([5, 3, 8, 4, 7, 6, 0, 1, 2] : List Nat).Nodup by decide) (show ([0, 1, 2, 3, 4, 5, 6, 7, 8] : List Nat).Nodup by decide) (fun i => match i with | 0 => rfl | 1 => rfl | 2 => rfl | 3 => rfl | 4 => rfl | 5 => rfl | 6 => rfl | 7 => rfl | 8 => rfl | _ + 9 => rfl) ?_
                                exact (ih m hm).2.2 d j1 (S (c + 1) x4.toInt.toNat) (S (c + 2) x4.toInt.toNat) (Int32.ofInt 0) (x3 + (Int32.ofInt (-1))) (x4 + (Int32.ofInt 1)) (x5 + (Int32.ofInt 1)) (z_s S (c + 3) (((x3 + (Int32.ofInt (-1))) - (Int32.ofInt 1)).toInt.toNat) (f_X1_join (S (c + 1) x4.toInt.toNat) (S (c + 3) (((x3 + (Int32.ofInt (-1))) - (Int32.ofInt 1)).toInt.toNat)) (S (c + 3) ((x3 + (Int32.ofInt (-1))).toInt.toNat)))) hD
                              · have hD := hD.2 h29
                                show u_P L xs m d m_X1_run 258 [(4, .int (x4 + (Int32.ofInt 1))), (7, .int (S (c + 2) x4.toInt.toNat)), (6, .int (S (c + 1) x4.toInt.toNat)), (0, .ref (c + 1)), (1, .int j1), (2, .ref 52), (3, .int x3), (5, .int x5), (8, .int j8)] [] S R _
                                refine u_st rfl (fun _ => rfl) ?_
                                show u_P L xs m d m_X1_run 259 [(4, .int (x4 + (Int32.ofInt 1))), (7, .int (S (c + 2) x4.toInt.toNat)), (6, .int (S (c + 1) x4.toInt.toNat)), (0, .ref (c + 1)), (1, .int j1), (2, .ref 52), (3, .int x3), (5, .int x5), (8, .int j8)] [.ref (c + 1)] S R _
                                refine u_getr rfl (z_cd0 hc) rfl ?_
                                refine u_st rfl (fun _ => rfl) ?_
                                refine u_st rfl (fun _ => rfl) ?_
                                refine u_st rfl (fun _ => rfl) ?_
                                show u_P L xs m d m_X1_run 265 [(4, .int (x4 + (Int32.ofInt 1))), (7, .int (S (c + 2) x4.toInt.toNat)), (6, .int (S (c + 1) x4.toInt.toNat)), (0, .ref (c + 1)), (1, .int j1), (2, .ref 52), (3, .int x3), (5, .int x5), (8, .int j8)] [.int (x3 - (Int32.ofInt 1)), .ref (c + 4)] S R _
                                refine u_ialdE (v := S (c + 3) ((x3 - (Int32.ofInt 1)).toInt.toNat)) rfl (z_cd3 hc) rfl (fun b331 b332 => ?_)
                                have hD := hD b331 b332
                                show u_P L xs m d m_X1_run 266 [(4, .int (x4 + (Int32.ofInt 1))), (7, .int (S (c + 2) x4.toInt.toNat)), (6, .int (S (c + 1) x4.toInt.toNat)), (0, .ref (c + 1)), (1, .int j1), (2, .ref 52), (3, .int x3), (5, .int x5), (8, .int j8)] [.int (S (c + 3) ((x3 - (Int32.ofInt 1)).toInt.toNat))] S R _
                                refine u_if_ne rfl (fun h34 => ?_) (fun h34 => ?_)
                                · have hD := hD.1 h34
                                  show u_P L xs m d m_X1_run 273 [(4, .int (x4 + (Int32.ofInt 1))), (7, .int (S (c + 2) x4.toInt.toNat)), (6, .int (S (c + 1) x4.toInt.toNat)), (0, .ref (c + 1)), (1, .int j1), (2, .ref 52), (3, .int x3), (5, .int x5), (8, .int j8)] [] S R _
                                  refine u_st rfl (fun _ => rfl) ?_
                                  refine u_st rfl (fun _ => rfl) ?_
                                  refine u_st rfl (fun _ => rfl) ?_
                                  show u_P L xs m d m_X1_run 278 [(8, .int (Int32.ofInt 0)), (4, .int (x4 + (Int32.ofInt 1))), (7, .int (S (c + 2) x4.toInt.toNat)), (6, .int (S (c + 1) x4.toInt.toNat)), (0, .ref (c + 1)), (1, .int j1), (2, .ref 52), (3, .int x3), (5, .int x5)] [.int (Int32.ofInt 0)] S R _
                                  refine u_st rfl (fun _ => rfl) ?_
                                  refine u_st rfl (fun _ => rfl) ?_
                                  refine u_st rfl (fun _ => rfl) ?_
                                  show u_P L xs m d m_X1_run 287 [(3, .int (x3 + (Int32.ofInt (-1)))), (8, .int (Int32.ofInt 0)), (4, .int (x4 + (Int32.ofInt 1))), (7, .int (S (c + 2) x4.toInt.toNat)), (6, .int (S (c + 1) x4.toInt.toNat)), (0, .ref (c + 1)), (1, .int j1), (2, .ref 52), (5, .int x5)] [.ref (c + 1)] S R _
                                  refine u_getr rfl (z_cd0 hc) rfl ?_
                                  refine u_st rfl (fun _ => rfl) ?_
                                  refine u_st rfl (fun _ => rfl) ?_
                                  refine u_st rfl (fun _ => rfl) ?_
                                  refine u_st rfl (fun _ => rfl) ?_
                                  refine u_st rfl (fun _ => rfl) ?_
                                  show u_P L xs m d m_X1_run 296 [(3, .int (x3 + (Int32.ofInt (-1)))), (8, .int (Int32.ofInt 0)), (4, .int (x4 + (Int32.ofInt 1))), (7, .int (S (c + 2) x4.toInt.toNat)), (6, .int (S (c + 1) x4.toInt.toNat)), (0, .ref (c + 1)), (1, .int j1), (2, .ref 52), (5, .int x5)] [.ref (c + 1), .int (S (c + 1) x4.toInt.toNat), .int ((x3 + (Int32.ofInt (-1))) - (Int32.ofInt 1)), .ref (c + 4)] S R _
                                  refine u_getr rfl (z_cd0 hc) rfl ?_
                                  refine u_st rfl (fun _ => rfl) ?_
                                  refine u_st rfl (fun _ => rfl) ?_
                                  refine u_st rfl (fun _ => rfl) ?_
                                  show u_P L xs m d m_X1_run 302 [(3, .int (x3 + (Int32.ofInt (-1)))), (8, .int (Int32.ofInt 0)), (4, .int (x4 + (Int32.ofInt 1))), (7, .int (S (c + 2) x4.toInt.toNat)), (6, .int (S (c + 1) x4.toInt.toNat)), (0, .ref (c + 1)), (1, .int j1), (2, .ref 52), (5, .int x5)] [.int ((x3 + (Int32.ofInt (-1))) - (Int32.ofInt 1)), .ref (c + 4), .int (S (c + 1) x4.toInt.toNat), .int ((x3 + (Int32.ofInt (-1))) - (Int32.ofInt 1)), .ref (c + 4)] S R _
                                  refine u_ialdE (v := S (c + 3) (((x3 + (Int32.ofInt (-1))) - (Int32.ofInt 1)).toInt.toNat)) rfl (z_cd3 hc) rfl (fun b351 b352 => ?_)
                                  have hD := hD b351 b352
                                  show u_P L xs m d m_X1_run 303 [(3, .int (x3 + (Int32.ofInt (-1)))), (8, .int (Int32.ofInt 0)), (4, .int (x4 + (Int32.ofInt 1))), (7, .int (S (c + 2) x4.toInt.toNat)), (6, .int (S (c + 1) x4.toInt.toNat)), (0, .ref (c + 1)), (1, .int j1), (2, .ref 52), (5, .int x5)] [.int (S (c + 3) (((x3 + (Int32.ofInt (-1))) - (Int32.ofInt 1)).toInt.toNat)), .int (S (c + 1) x4.toInt.toNat), .int ((x3 + (Int32.ofInt (-1))) - (Int32.ofInt 1)), .ref (c + 4)] S R _
                                  refine u_st rfl (fun _ => rfl) ?_
                                  show u_P L xs m d m_X1_run 304 [(3, .int (x3 + (Int32.ofInt (-1)))), (8, .int (Int32.ofInt 0)), (4, .int (x4 + (Int32.ofInt 1))), (7, .int (S (c + 2) x4.toInt.toNat)), (6, .int (S (c + 1) x4.toInt.toNat)), (0, .ref (c + 1)), (1, .int j1), (2, .ref 52), (5, .int x5)] [.ref (c + 1), .int (S (c + 3) (((x3 + (Int32.ofInt (-1))) - (Int32.ofInt 1)).toInt.toNat)), .int (S (c + 1) x4.toInt.toNat), .int ((x3 + (Int32.ofInt (-1))) - (Int32.ofInt 1)), .ref (c + 4)] S R _
                                  refine u_getr rfl (z_cd0 hc) rfl ?_
                                  refine u_st rfl (fun _ => rfl) ?_
                                  show u_P L xs m d m_X1_run 308 [(3, .int (x3 + (Int32.ofInt (-1)))), (8, .int (Int32.ofInt 0)), (4, .int (x4 + (Int32.ofInt 1))), (7, .int (S (c + 2) x4.toInt.toNat)), (6, .int (S (c + 1) x4.toInt.toNat)), (0, .ref (c + 1)), (1, .int j1), (2, .ref 52), (5, .int x5)] [.int (x3 + (Int32.ofInt (-1))), .ref (c + 4), .int (S (c + 3) (((x3 + (Int32.ofInt (-1))) - (Int32.ofInt 1)).toInt.toNat)), .int (S (c + 1) x4.toInt.toNat), .int ((x3 + (Int32.ofInt (-1))) - (Int32.ofInt 1)), .ref (c + 4)] S R _
                                  refine u_ialdE (v := S (c + 3) ((x3 + (Int32.ofInt (-1))).toInt.toNat)) rfl (z_cd3 hc) rfl (fun b361 b362 => ?_)
                                  have hD := hD b361 b362
                                  show u_P L xs m d m_X1_run 309 [(3, .int (x3 + (Int32.ofInt (-1)))), (8, .int (Int32.ofInt 0)), (4, .int (x4 + (Int32.ofInt 1))), (7, .int (S (c + 2) x4.toInt.toNat)), (6, .int (S (c + 1) x4.toInt.toNat)), (0, .ref (c + 1)), (1, .int j1), (2, .ref 52), (5, .int x5)] [.int (S (c + 3) ((x3 + (Int32.ofInt (-1))).toInt.toNat)), .int (S (c + 3) (((x3 + (Int32.ofInt (-1))) - (Int32.ofInt 1)).toInt.toNat)), .int (S (c + 1) x4.toInt.toNat), .int ((x3 + (Int32.ofInt (-1))) - (Int32.ofInt 1)), .ref (c + 4)] S R _
                                  refine u_cs (ac := [.int (S (c + 1) x4.toInt.toNat), .int (S (c + 3) (((x3 + (Int32.ofInt (-1))) - (Int32.ofInt 1)).toInt.toNat)), .int (S (c + 3) ((x3 + (Int32.ofInt (-1))).toInt.toNat))]) (rest := [.int ((x3 + (Int32.ofInt (-1))) - (Int32.ofInt 1)), .ref (c + 4)]) rfl (by decide) mt_X1_join (fun _ => rfl) (Nat.le_of_ble_eq_true rfl) (Nat.le_of_ble_eq_true rfl) (fun d' => c_X1_join L xs m d' (S (c + 1) x4.toInt.toNat) (S (c + 3) (((x3 + (Int32.ofInt (-1))) - (Int32.ofInt 1)).toInt.toNat)) (S (c + 3) ((x3 + (Int32.ofInt (-1))).toInt.toNat)) S R) ?_
                                  rintro _ _ _ ⟨_, rfl, rfl, rfl, rfl⟩
                                  show u_P L xs m d m_X1_run 312 [(3, .int (x3 + (Int32.ofInt (-1)))), (8, .int (Int32.ofInt 0)), (4, .int (x4 + (Int32.ofInt 1))), (7, .int (S (c + 2) x4.toInt.toNat)), (6, .int (S (c + 1) x4.toInt.toNat)), (0, .ref (c + 1)), (1, .int j1), (2, .ref 52), (5, .int x5)] [.int (f_X1_join (S (c + 1) x4.toInt.toNat) (S (c + 3) (((x3 + (Int32.ofInt (-1))) - (Int32.ofInt 1)).toInt.toNat)) (S (c + 3) ((x3 + (Int32.ofInt (-1))).toInt.toNat))), .int ((x3 + (Int32.ofInt (-1))) - (Int32.ofInt 1)), .ref (c + 4)] S R _
                                  refine u_iast rfl (z_cd3 hc) (fun b371 b372 => ?_)
                                  have hD := hD b371 b372
                                  show u_P L xs m d m_X1_run 313 [(3, .int (x3 + (Int32.ofInt (-1)))), (8, .int (Int32.ofInt 0)), (4, .int (x4 + (Int32.ofInt 1))), (7, .int (S (c + 2) x4.toInt.toNat)), (6, .int (S (c + 1) x4.toInt.toNat)), (0, .ref (c + 1)), (1, .int j1), (2, .ref 52), (5, .int x5)] [] (z_s S (c + 3) (((x3 + (Int32.ofInt (-1))) - (Int32.ofInt 1)).toInt.toNat) (f_X1_join (S (c + 1) x4.toInt.toNat) (S (c + 3) (((x3 + (Int32.ofInt (-1))) - (Int32.ofInt 1)).toInt.toNat)) (S (c + 3) ((x3 + (Int32.ofInt (-1))).toInt.toNat)))) R _
                                  refine u_st rfl (fun _ => rfl) ?_
                                  refine u_st rfl (fun _ => rfl) ?_
                                  refine u_lc (b := [(0, .ref (c + 1)), (1, .int j1), (2, .ref 52), (3, .int (x3 + (Int32.ofInt (-1)))), (4, .int (x4 + (Int32.ofInt 1))), (5, .int (x5 + (Int32.ofInt 1))), (6, .int (S (c + 1) x4.toInt.toNat)), (7, .int (S (c + 2) x4.toInt.toNat)), (8, .int (Int32.ofInt 0))]) (show ([5, 3, 8, 4, 7, 6, 0, 1, 2] : List Nat).Nodup by decide) (show ([0, 1, 2, 3, 4, 5, 6, 7, 8] : List Nat).Nodup by decide) (fun i => match i with | 0 => rfl | 1 => rfl | 2 => rfl | 3 => rfl | 4 => rfl | 5 => rfl | 6 => rfl | 7 => rfl | 8 => rfl | _ + 9 => rfl) ?_
                                  exact (ih m hm).2.2 d j1 (S (c + 1) x4.toInt.toNat) (S (c + 2) x4.toInt.toNat) (Int32.ofInt 0) (x3 + (Int32.ofInt (-1))) (x4 + (Int32.ofInt 1)) (x5 + (Int32.ofInt 1)) (z_s S (c + 3) (((x3 + (Int32.ofInt (-1))) - (Int32.ofInt 1)).toInt.toNat) (f_X1_join (S (c + 1) x4.toInt.toNat) (S (c + 3) (((x3 + (Int32.ofInt (-1))) - (Int32.ofInt 1)).toInt.toNat)) (S (c + 3) ((x3 + (Int32.ofInt (-1))).toInt.toNat)))) hD
                                · have hD := hD.2 h34
                                  show u_P L xs m d m_X1_run 269 [(4, .int (x4 + (Int32.ofInt 1))), (7, .int (S (c + 2) x4.toInt.toNat)), (6, .int (S (c + 1) x4.toInt.toNat)), (0, .ref (c + 1)), (1, .int j1), (2, .ref 52), (3, .int x3), (5, .int x5), (8, .int j8)] [] S R _
                                  refine u_st rfl (fun _ => rfl) ?_
                                  refine u_st rfl (fun _ => rfl) ?_
                                  refine u_st rfl (fun _ => rfl) ?_
                                  refine u_st rfl (fun _ => rfl) ?_
                                  show u_P L xs m d m_X1_run 278 [(8, .int (Int32.ofInt 1)), (4, .int (x4 + (Int32.ofInt 1))), (7, .int (S (c + 2) x4.toInt.toNat)), (6, .int (S (c + 1) x4.toInt.toNat)), (0, .ref (c + 1)), (1, .int j1), (2, .ref 52), (3, .int x3), (5, .int x5)] [.int (Int32.ofInt 1)] S R _
                                  refine u_st rfl (fun _ => rfl) ?_
                                  refine u_st rfl (fun _ => rfl) ?_
                                  show u_P L xs m d m_X1_run 282 [(8, .int (Int32.ofInt 1)), (4, .int (x4 + (Int32.ofInt 1))), (7, .int (S (c + 2) x4.toInt.toNat)), (6, .int (S (c + 1) x4.toInt.toNat)), (0, .ref (c + 1)), (1, .int j1), (2, .ref 52), (3, .int x3), (5, .int x5)] [.int (Int32.ofInt 0)] S R _
                                  exact u_ret rfl rfl ⟨_, rfl, rfl, hD⟩
                        · have hD := hD.2 h21
                          show u_P L xs m d m_X1_run 172 [(4, .int (x4 + (Int32.ofInt 1))), (7, .int (S (c + 2) x4.toInt.toNat)), (6, .int (S (c + 1) x4.toInt.toNat)), (0, .ref (c + 1)), (1, .int j1), (2, .ref 52), (3, .int x3), (5, .int x5), (8, .int j8)] [] S R _
                          refine u_st rfl (fun _ => rfl) ?_
                          show u_P L xs m d m_X1_run 173 [(4, .int (x4 + (Int32.ofInt 1))), (7, .int (S (c + 2) x4.toInt.toNat)), (6, .int (S (c + 1) x4.toInt.toNat)), (0, .ref (c + 1)), (1, .int j1), (2, .ref 52), (3, .int x3), (5, .int x5), (8, .int j8)] [.ref (c + 1)] S R _
                          refine u_getr rfl (z_cd0 hc) rfl ?_
                          refine u_st rfl (fun _ => rfl) ?_
                          refine u_st rfl (fun _ => rfl) ?_
                          refine u_st rfl (fun _ => rfl) ?_
                          show u_P L xs m d m_X1_run 179 [(4, .int (x4 + (Int32.ofInt 1))), (7, .int (S (c + 2) x4.toInt.toNat)), (6, .int (S (c + 1) x4.toInt.toNat)), (0, .ref (c + 1)), (1, .int j1), (2, .ref 52), (3, .int x3), (5, .int x5), (8, .int j8)] [.int (x3 - (Int32.ofInt 1)), .ref (c + 4)] S R _
                          refine u_ialdE (v := S (c + 3) ((x3 - (Int32.ofInt 1)).toInt.toNat)) rfl (z_cd3 hc) rfl (fun b381 b382 => ?_)
                          have hD := hD b381 b382
                          show u_P L xs m d m_X1_run 180 [(4, .int (x4 + (Int32.ofInt 1))), (7, .int (S (c + 2) x4.toInt.toNat)), (6, .int (S (c + 1) x4.toInt.toNat)), (0, .ref (c + 1)), (1, .int j1), (2, .ref 52), (3, .int x3), (5, .int x5), (8, .int j8)] [.int (S (c + 3) ((x3 - (Int32.ofInt 1)).toInt.toNat))] S R _
                          refine u_if_eq rfl (fun h39 => ?_) (fun h39 => ?_)
                          · have hD := hD.1 h39
                            show u_P L xs m d m_X1_run 187 [(4, .int (x4 + (Int32.ofInt 1))), (7, .int (S (c + 2) x4.toInt.toNat)), (6, .int (S (c + 1) x4.toInt.toNat)), (0, .ref (c + 1)), (1, .int j1), (2, .ref 52), (3, .int x3), (5, .int x5), (8, .int j8)] [] S R _
                            refine u_st rfl (fun _ => rfl) ?_
                            refine u_st rfl (fun _ => rfl) ?_
                            refine u_st rfl (fun _ => rfl) ?_
                            show u_P L xs m d m_X1_run 191 [(4, .int (x4 + (Int32.ofInt 1))), (7, .int (S (c + 2) x4.toInt.toNat)), (6, .int (S (c + 1) x4.toInt.toNat)), (0, .ref (c + 1)), (1, .int j1), (2, .ref 52), (3, .int x3), (5, .int x5), (8, .int j8)] [.int (Int32.ofInt 5), .int (S (c + 1) x4.toInt.toNat), .int (Int32.ofInt 0)] S R _
                            refine u_ic_ne rfl (fun h40 => absurd (Classical.not_not.mp h21) h40) (fun _ => ?_)
                            show u_P L xs m d m_X1_run 194 [(4, .int (x4 + (Int32.ofInt 1))), (7, .int (S (c + 2) x4.toInt.toNat)), (6, .int (S (c + 1) x4.toInt.toNat)), (0, .ref (c + 1)), (1, .int j1), (2, .ref 52), (3, .int x3), (5, .int x5), (8, .int j8)] [.int (Int32.ofInt 0)] S R _
                            refine u_st rfl (fun _ => rfl) ?_
                            refine u_st rfl (fun _ => rfl) ?_
                            show u_P L xs m d m_X1_run 199 [(4, .int (x4 + (Int32.ofInt 1))), (7, .int (S (c + 2) x4.toInt.toNat)), (6, .int (S (c + 1) x4.toInt.toNat)), (0, .ref (c + 1)), (1, .int j1), (2, .ref 52), (3, .int x3), (5, .int x5), (8, .int j8)] [.int (Int32.ofInt 1), .int (Int32.ofInt 0)] S R _
                            refine u_st rfl (fun _ => rfl) ?_
                            refine u_st rfl (fun _ => rfl) ?_
                            refine u_st rfl (fun _ => rfl) ?_
                            refine u_st rfl (fun _ => rfl) ?_
                            show u_P L xs m d m_X1_run 211 [(8, .int (Int32.ofInt 0)), (4, .int (x4 + (Int32.ofInt 1))), (7, .int (S (c + 2) x4.toInt.toNat)), (6, .int (S (c + 1) x4.toInt.toNat)), (0, .ref (c + 1)), (1, .int j1), (2, .ref 52), (3, .int x3), (5, .int x5)] [.int (Int32.ofInt 0)] S R _
                            refine u_st rfl (fun _ => rfl) ?_
                            refine u_st rfl (fun _ => rfl) ?_
                            refine u_st rfl (fun _ => rfl) ?_
                            refine u_st rfl (fun _ => rfl) ?_
                            show u_P L xs m d m_X1_run 225 [(4, .int (x4 + (Int32.ofInt 1))), (8, .int (Int32.ofInt 0)), (7, .int (S (c + 2) x4.toInt.toNat)), (6, .int (S (c + 1) x4.toInt.toNat)), (0, .ref (c + 1)), (1, .int j1), (2, .ref 52), (3, .int x3), (5, .int x5)] [.int (Int32.ofInt 0)] S R _
                            refine u_st rfl (fun _ => rfl) ?_
                            refine u_st rfl (fun _ => rfl) ?_
                            refine u_st rfl (fun _ => rfl) ?_
                            refine u_st rfl (fun _ => rfl) ?_
                            refine u_st rfl (fun _ => rfl) ?_
                            refine u_st rfl (fun _ => rfl) ?_
                            refine u_st rfl (fun _ => rfl) ?_
                            refine u_st rfl (fun _ => rfl) ?_
                            refine u_lc (b := [(0, .ref (c + 1)), (1, .int j1), (2, .ref 52), (3, .int (x3 - (Int32.ofInt 1))), (4, .int (x4 + (Int32.ofInt 1))), (5, .int (x5 + (Int32.ofInt 1))), (6, .int (S (c + 1) x4.toInt.toNat)), (7, .int (S (c + 2) x4.toInt.toNat)), (8, .int (Int32.ofInt 0))]) (show ([5, 3, 4, 8, 7, 6, 0, 1, 2] : List Nat).Nodup by decide) (show ([0, 1, 2, 3, 4, 5, 6, 7, 8] : List Nat).Nodup by decide) (fun i => match i with | 0 => rfl | 1 => rfl | 2 => rfl | 3 => rfl | 4 => rfl | 5 => rfl | 6 => rfl | 7 => rfl | 8 => rfl | _ + 9 => rfl) ?_
                            exact (ih m hm).2.2 d j1 (S (c + 1) x4.toInt.toNat) (S (c + 2) x4.toInt.toNat) (Int32.ofInt 0) (x3 - (Int32.ofInt 1)) (x4 + (Int32.ofInt 1)) (x5 + (Int32.ofInt 1)) S hD
                          · have hD := hD.2 h39
                            show u_P L xs m d m_X1_run 183 [(4, .int (x4 + (Int32.ofInt 1))), (7, .int (S (c + 2) x4.toInt.toNat)), (6, .int (S (c + 1) x4.toInt.toNat)), (0, .ref (c + 1)), (1, .int j1), (2, .ref 52), (3, .int x3), (5, .int x5), (8, .int j8)] [] S R _
                            refine u_st rfl (fun _ => rfl) ?_
                            refine u_st rfl (fun _ => rfl) ?_
                            refine u_st rfl (fun _ => rfl) ?_
                            refine u_st rfl (fun _ => rfl) ?_
                            show u_P L xs m d m_X1_run 191 [(4, .int (x4 + (Int32.ofInt 1))), (7, .int (S (c + 2) x4.toInt.toNat)), (6, .int (S (c + 1) x4.toInt.toNat)), (0, .ref (c + 1)), (1, .int j1), (2, .ref 52), (3, .int x3), (5, .int x5), (8, .int j8)] [.int (Int32.ofInt 5), .int (S (c + 1) x4.toInt.toNat), .int (Int32.ofInt 1)] S R _
                            refine u_ic_ne rfl (fun h41 => absurd (Classical.not_not.mp h21) h41) (fun _ => ?_)
                            show u_P L xs m d m_X1_run 194 [(4, .int (x4 + (Int32.ofInt 1))), (7, .int (S (c + 2) x4.toInt.toNat)), (6, .int (S (c + 1) x4.toInt.toNat)), (0, .ref (c + 1)), (1, .int j1), (2, .ref 52), (3, .int x3), (5, .int x5), (8, .int j8)] [.int (Int32.ofInt 1)] S R _
                            refine u_st rfl (fun _ => rfl) ?_
                            refine u_st rfl (fun _ => rfl) ?_
                            show u_P L xs m d m_X1_run 199 [(4, .int (x4 + (Int32.ofInt 1))), (7, .int (S (c + 2) x4.toInt.toNat)), (6, .int (S (c + 1) x4.toInt.toNat)), (0, .ref (c + 1)), (1, .int j1), (2, .ref 52), (3, .int x3), (5, .int x5), (8, .int j8)] [.int (Int32.ofInt 1), .int (Int32.ofInt 1)] S R _
                            refine u_st rfl (fun _ => rfl) ?_
                            refine u_st rfl (fun _ => rfl) ?_
                            refine u_st rfl (fun _ => rfl) ?_
                            refine u_st rfl (fun _ => rfl) ?_
                            refine u_st rfl (fun _ => rfl) ?_
                            show u_P L xs m d m_X1_run 211 [(8, .int (Int32.ofInt 1)), (4, .int (x4 + (Int32.ofInt 1))), (7, .int (S (c + 2) x4.toInt.toNat)), (6, .int (S (c + 1) x4.toInt.toNat)), (0, .ref (c + 1)), (1, .int j1), (2, .ref 52), (3, .int x3), (5, .int x5)] [.int (Int32.ofInt 1)] S R _
                            refine u_st rfl (fun _ => rfl) ?_
                            refine u_st rfl (fun _ => rfl) ?_
                            refine u_st rfl (fun _ => rfl) ?_
                            refine u_st rfl (fun _ => rfl) ?_
                            refine u_st rfl (fun _ => rfl) ?_
                            show u_P L xs m d m_X1_run 225 [(4, .int (S (c + 2) x4.toInt.toNat)), (8, .int (Int32.ofInt 1)), (7, .int (S (c + 2) x4.toInt.toNat)), (6, .int (S (c + 1) x4.toInt.toNat)), (0, .ref (c + 1)), (1, .int j1), (2, .ref 52), (3, .int x3), (5, .int x5)] [.int (Int32.ofInt 1)] S R _
                            refine u_st rfl (fun _ => rfl) ?_
                            refine u_st rfl (fun _ => rfl) ?_
                            refine u_st rfl (fun _ => rfl) ?_
                            refine u_st rfl (fun _ => rfl) ?_
                            refine u_st rfl (fun _ => rfl) ?_
                            refine u_st rfl (fun _ => rfl) ?_
                            refine u_st rfl (fun _ => rfl) ?_
                            refine u_lc (b := [(0, .ref (c + 1)), (1, .int j1), (2, .ref 52), (3, .int x3), (4, .int (S (c + 2) x4.toInt.toNat)), (5, .int (x5 + (Int32.ofInt 1))), (6, .int (S (c + 1) x4.toInt.toNat)), (7, .int (S (c + 2) x4.toInt.toNat)), (8, .int (Int32.ofInt 1))]) (show ([5, 3, 4, 8, 7, 6, 0, 1, 2] : List Nat).Nodup by decide) (show ([0, 1, 2, 3, 4, 5, 6, 7, 8] : List Nat).Nodup by decide) (fun i => match i with | 0 => rfl | 1 => rfl | 2 => rfl | 3 => rfl | 4 => rfl | 5 => rfl | 6 => rfl | 7 => rfl | 8 => rfl | _ + 9 => rfl) ?_
                            exact (ih m hm).2.2 d j1 (S (c + 1) x4.toInt.toNat) (S (c + 2) x4.toInt.toNat) (Int32.ofInt 1) x3 (S (c + 2) x4.toInt.toNat) (x5 + (Int32.ofInt 1)) S hD
                    · have hD := hD.2 h15
                      show u_P L xs m d m_X1_run 139 [(4, .int (x4 + (Int32.ofInt 1))), (7, .int (S (c + 2) x4.toInt.toNat)), (6, .int (S (c + 1) x4.toInt.toNat)), (0, .ref (c + 1)), (1, .int j1), (2, .ref 52), (3, .int x3), (5, .int x5), (8, .int j8)] [] S R _
                      refine u_st rfl (fun _ => rfl) ?_
                      show u_P L xs m d m_X1_run 140 [(4, .int (x4 + (Int32.ofInt 1))), (7, .int (S (c + 2) x4.toInt.toNat)), (6, .int (S (c + 1) x4.toInt.toNat)), (0, .ref (c + 1)), (1, .int j1), (2, .ref 52), (3, .int x3), (5, .int x5), (8, .int j8)] [.ref (c + 1)] S R _
                      refine u_getr rfl (z_cd0 hc) rfl ?_
                      refine u_st rfl (fun _ => rfl) ?_
                      refine u_st rfl (fun _ => rfl) ?_
                      refine u_st rfl (fun _ => rfl) ?_
                      refine u_st rfl (fun _ => rfl) ?_
                      refine u_st rfl (fun _ => rfl) ?_
                      show u_P L xs m d m_X1_run 148 [(4, .int (x4 + (Int32.ofInt 1))), (7, .int (S (c + 2) x4.toInt.toNat)), (6, .int (S (c + 1) x4.toInt.toNat)), (0, .ref (c + 1)), (1, .int j1), (2, .ref 52), (3, .int x3), (5, .int x5), (8, .int j8)] [.ref (c + 1), .int (Int32.ofInt 1), .int (x3 - (Int32.ofInt 1)), .ref (c + 4)] S R _
                      refine u_getr rfl (z_cd0 hc) rfl ?_
                      refine u_st rfl (fun _ => rfl) ?_
                      refine u_st rfl (fun _ => rfl) ?_
                      refine u_st rfl (fun _ => rfl) ?_
                      show u_P L xs m d m_X1_run 154 [(4, .int (x4 + (Int32.ofInt 1))), (7, .int (S (c + 2) x4.toInt.toNat)), (6, .int (S (c + 1) x4.toInt.toNat)), (0, .ref (c + 1)), (1, .int j1), (2, .ref 52), (3, .int x3), (5, .int x5), (8, .int j8)] [.int (x3 - (Int32.ofInt 1)), .ref (c + 4), .int (Int32.ofInt 1), .int (x3 - (Int32.ofInt 1)), .ref (c + 4)] S R _
                      refine u_ialdE (v := S (c + 3) ((x3 - (Int32.ofInt 1)).toInt.toNat)) rfl (z_cd3 hc) rfl (fun b421 b422 => ?_)
                      have hD := hD b421 b422
                      show u_P L xs m d m_X1_run 155 [(4, .int (x4 + (Int32.ofInt 1))), (7, .int (S (c + 2) x4.toInt.toNat)), (6, .int (S (c + 1) x4.toInt.toNat)), (0, .ref (c + 1)), (1, .int j1), (2, .ref 52), (3, .int x3), (5, .int x5), (8, .int j8)] [.int (S (c + 3) ((x3 - (Int32.ofInt 1)).toInt.toNat)), .int (Int32.ofInt 1), .int (x3 - (Int32.ofInt 1)), .ref (c + 4)] S R _
                      refine u_st rfl (fun _ => rfl) ?_
                      show u_P L xs m d m_X1_run 156 [(4, .int (x4 + (Int32.ofInt 1))), (7, .int (S (c + 2) x4.toInt.toNat)), (6, .int (S (c + 1) x4.toInt.toNat)), (0, .ref (c + 1)), (1, .int j1), (2, .ref 52), (3, .int x3), (5, .int x5), (8, .int j8)] [.int ((Int32.ofInt 1) - (S (c + 3) ((x3 - (Int32.ofInt 1)).toInt.toNat))), .int (x3 - (Int32.ofInt 1)), .ref (c + 4)] S R _
                      refine u_iast rfl (z_cd3 hc) (fun b431 b432 => ?_)
                      have hD := hD b431 b432
                      show u_P L xs m d m_X1_run 157 [(4, .int (x4 + (Int32.ofInt 1))), (7, .int (S (c + 2) x4.toInt.toNat)), (6, .int (S (c + 1) x4.toInt.toNat)), (0, .ref (c + 1)), (1, .int j1), (2, .ref 52), (3, .int x3), (5, .int x5), (8, .int j8)] [] (z_s S (c + 3) ((x3 - (Int32.ofInt 1)).toInt.toNat) ((Int32.ofInt 1) - (S (c + 3) ((x3 - (Int32.ofInt 1)).toInt.toNat)))) R _
                      refine u_st rfl (fun _ => rfl) ?_
                      refine u_st rfl (fun _ => rfl) ?_
                      refine u_st rfl (fun _ => rfl) ?_
                      refine u_lc (b := [(0, .ref (c + 1)), (1, .int j1), (2, .ref 52), (3, .int x3), (4, .int (x4 + (Int32.ofInt 1))), (5, .int (x5 + (Int32.ofInt 1))), (6, .int (S (c + 1) x4.toInt.toNat)), (7, .int (S (c + 2) x4.toInt.toNat)), (8, .int j8)]) (show ([5, 4, 7, 6, 0, 1, 2, 3, 8] : List Nat).Nodup by decide) (show ([0, 1, 2, 3, 4, 5, 6, 7, 8] : List Nat).Nodup by decide) (fun i => match i with | 0 => rfl | 1 => rfl | 2 => rfl | 3 => rfl | 4 => rfl | 5 => rfl | 6 => rfl | 7 => rfl | 8 => rfl | _ + 9 => rfl) ?_
                      exact (ih m hm).2.2 d j1 (S (c + 1) x4.toInt.toNat) (S (c + 2) x4.toInt.toNat) j8 x3 (x4 + (Int32.ofInt 1)) (x5 + (Int32.ofInt 1)) (z_s S (c + 3) ((x3 - (Int32.ofInt 1)).toInt.toNat) ((Int32.ofInt 1) - (S (c + 3) ((x3 - (Int32.ofInt 1)).toInt.toNat)))) hD
                  · have hD := hD.2 h14
                    show u_P L xs m d m_X1_run 115 [(4, .int (x4 + (Int32.ofInt 1))), (7, .int (S (c + 2) x4.toInt.toNat)), (6, .int (S (c + 1) x4.toInt.toNat)), (0, .ref (c + 1)), (1, .int j1), (2, .ref 52), (3, .int x3), (5, .int x5), (8, .int j8)] [] S R _
                    refine u_st rfl (fun _ => rfl) ?_
                    refine u_st rfl (fun _ => rfl) ?_
                    show u_P L xs m d m_X1_run 117 [(4, .int (x4 + (Int32.ofInt 1))), (7, .int (S (c + 2) x4.toInt.toNat)), (6, .int (S (c + 1) x4.toInt.toNat)), (0, .ref (c + 1)), (1, .int j1), (2, .ref 52), (3, .int x3), (5, .int x5), (8, .int j8)] [.int (Int32.ofInt 1), .int x3] S R _
                    refine u_ic_ge rfl (fun h44 => ?_) (fun h44 => ?_)
                    · have hD := hD.1 h44
                      show u_P L xs m d m_X1_run 124 [(4, .int (x4 + (Int32.ofInt 1))), (7, .int (S (c + 2) x4.toInt.toNat)), (6, .int (S (c + 1) x4.toInt.toNat)), (0, .ref (c + 1)), (1, .int j1), (2, .ref 52), (3, .int x3), (5, .int x5), (8, .int j8)] [] S R _
                      refine u_st rfl (fun _ => rfl) ?_
                      show u_P L xs m d m_X1_run 125 [(4, .int (x4 + (Int32.ofInt 1))), (7, .int (S (c + 2) x4.toInt.toNat)), (6, .int (S (c + 1) x4.toInt.toNat)), (0, .ref (c + 1)), (1, .int j1), (2, .ref 52), (3, .int x3), (5, .int x5), (8, .int j8)] [.ref (c + 1)] S R _
                      refine u_getr rfl (z_cd0 hc) rfl ?_
                      refine u_st rfl (fun _ => rfl) ?_
                      refine u_st rfl (fun _ => rfl) ?_
                      refine u_st rfl (fun _ => rfl) ?_
                      show u_P L xs m d m_X1_run 131 [(4, .int (x4 + (Int32.ofInt 1))), (7, .int (S (c + 2) x4.toInt.toNat)), (6, .int (S (c + 1) x4.toInt.toNat)), (0, .ref (c + 1)), (1, .int j1), (2, .ref 52), (3, .int x3), (5, .int x5), (8, .int j8)] [.int (x3 - (Int32.ofInt 1)), .ref (c + 4)] S R _
                      refine u_ialdE (v := S (c + 3) ((x3 - (Int32.ofInt 1)).toInt.toNat)) rfl (z_cd3 hc) rfl (fun b451 b452 => ?_)
                      have hD := hD b451 b452
                      show u_P L xs m d m_X1_run 132 [(4, .int (x4 + (Int32.ofInt 1))), (7, .int (S (c + 2) x4.toInt.toNat)), (6, .int (S (c + 1) x4.toInt.toNat)), (0, .ref (c + 1)), (1, .int j1), (2, .ref 52), (3, .int x3), (5, .int x5), (8, .int j8)] [.int (S (c + 3) ((x3 - (Int32.ofInt 1)).toInt.toNat))] S R _
                      exact u_ret rfl rfl ⟨_, rfl, rfl, hD⟩
                    · have hD := hD.2 h44
                      show u_P L xs m d m_X1_run 120 [(4, .int (x4 + (Int32.ofInt 1))), (7, .int (S (c + 2) x4.toInt.toNat)), (6, .int (S (c + 1) x4.toInt.toNat)), (0, .ref (c + 1)), (1, .int j1), (2, .ref 52), (3, .int x3), (5, .int x5), (8, .int j8)] [] S R _
                      refine u_st rfl (fun _ => rfl) ?_
                      refine u_st rfl (fun _ => rfl) ?_
                      show u_P L xs m d m_X1_run 132 [(4, .int (x4 + (Int32.ofInt 1))), (7, .int (S (c + 2) x4.toInt.toNat)), (6, .int (S (c + 1) x4.toInt.toNat)), (0, .ref (c + 1)), (1, .int j1), (2, .ref 52), (3, .int x3), (5, .int x5), (8, .int j8)] [.int (Int32.ofInt 0)] S R _
                      exact u_ret rfl rfl ⟨_, rfl, rfl, hD⟩
              · have hD := hD.2 h10
                show u_P L xs m d m_X1_run 65 [(4, .int (x4 + (Int32.ofInt 1))), (7, .int (S (c + 2) x4.toInt.toNat)), (6, .int (S (c + 1) x4.toInt.toNat)), (0, .ref (c + 1)), (1, .int j1), (2, .ref 52), (3, .int x3), (5, .int x5), (8, .int j8)] [] S R _
                refine u_st rfl (fun _ => rfl) ?_
                refine u_st rfl (fun _ => rfl) ?_
                show u_P L xs m d m_X1_run 67 [(4, .int (x4 + (Int32.ofInt 1))), (7, .int (S (c + 2) x4.toInt.toNat)), (6, .int (S (c + 1) x4.toInt.toNat)), (0, .ref (c + 1)), (1, .int j1), (2, .ref 52), (3, .int x3), (5, .int x5), (8, .int j8)] [.ref (c + 1), .int x3] S R _
                refine u_getr rfl (z_cd0 hc) rfl ?_
                show u_P L xs m d m_X1_run 70 [(4, .int (x4 + (Int32.ofInt 1))), (7, .int (S (c + 2) x4.toInt.toNat)), (6, .int (S (c + 1) x4.toInt.toNat)), (0, .ref (c + 1)), (1, .int j1), (2, .ref 52), (3, .int x3), (5, .int x5), (8, .int j8)] [.ref (c + 4), .int x3] S R _
                refine u_al rfl (z_cd3 hc) rfl ?_
                show u_P L xs m d m_X1_run 71 [(4, .int (x4 + (Int32.ofInt 1))), (7, .int (S (c + 2) x4.toInt.toNat)), (6, .int (S (c + 1) x4.toInt.toNat)), (0, .ref (c + 1)), (1, .int j1), (2, .ref 52), (3, .int x3), (5, .int x5), (8, .int j8)] [.int (Int32.ofNat 32), .int x3] S R _
                refine u_ic_lt rfl (fun h46 => ?_) (fun h46 => ?_)
                · have hD := hD.1 h46
                  show u_P L xs m d m_X1_run 76 [(4, .int (x4 + (Int32.ofInt 1))), (7, .int (S (c + 2) x4.toInt.toNat)), (6, .int (S (c + 1) x4.toInt.toNat)), (0, .ref (c + 1)), (1, .int j1), (2, .ref 52), (3, .int x3), (5, .int x5), (8, .int j8)] [] S R _
                  refine u_st rfl (fun _ => rfl) ?_
                  show u_P L xs m d m_X1_run 77 [(4, .int (x4 + (Int32.ofInt 1))), (7, .int (S (c + 2) x4.toInt.toNat)), (6, .int (S (c + 1) x4.toInt.toNat)), (0, .ref (c + 1)), (1, .int j1), (2, .ref 52), (3, .int x3), (5, .int x5), (8, .int j8)] [.ref (c + 1)] S R _
                  refine u_getr rfl (z_cd0 hc) rfl ?_
                  refine u_st rfl (fun _ => rfl) ?_
                  refine u_st rfl (fun _ => rfl) ?_
                  refine u_st rfl (fun _ => rfl) ?_
                  show u_P L xs m d m_X1_run 84 [(4, .int (x4 + (Int32.ofInt 1))), (7, .int (S (c + 2) x4.toInt.toNat)), (6, .int (S (c + 1) x4.toInt.toNat)), (0, .ref (c + 1)), (1, .int j1), (2, .ref 52), (3, .int x3), (5, .int x5), (8, .int j8)] [.int (Int32.ofInt 1), .int (S (c + 1) x4.toInt.toNat), .int x3, .ref (c + 4)] S R _
                  refine u_ic_ne rfl (fun _ => ?_) (fun h47 => absurd ((Classical.not_not.mp h10).symm.trans (Classical.not_not.mp h47)) (by decide))
                  show u_P L xs m d m_X1_run 92 [(4, .int (x4 + (Int32.ofInt 1))), (7, .int (S (c + 2) x4.toInt.toNat)), (6, .int (S (c + 1) x4.toInt.toNat)), (0, .ref (c + 1)), (1, .int j1), (2, .ref 52), (3, .int x3), (5, .int x5), (8, .int j8)] [.int x3, .ref (c + 4)] S R _
                  refine u_st rfl (fun _ => rfl) ?_
                  refine u_st rfl (fun _ => rfl) ?_
                  show u_P L xs m d m_X1_run 95 [(4, .int (x4 + (Int32.ofInt 1))), (7, .int (S (c + 2) x4.toInt.toNat)), (6, .int (S (c + 1) x4.toInt.toNat)), (0, .ref (c + 1)), (1, .int j1), (2, .ref 52), (3, .int x3), (5, .int x5), (8, .int j8)] [.int (S (c + 2) x4.toInt.toNat), .ref 52, .int x3, .ref (c + 4)] S R _
                  refine u_cs (ac := [.ref 52, .int (S (c + 2) x4.toInt.toNat)]) (rest := [.int x3, .ref (c + 4)]) rfl (by decide) mt_X1_valueAt (fun _ => rfl) (Nat.le_of_ble_eq_true rfl) (Nat.le_of_ble_eq_true rfl) (fun d' => c_X1_valueAt L xs m d' (S (c + 2) x4.toInt.toNat) S R) ?_
                  rintro _ _ _ ⟨_, rfl, rfl, rfl, rfl⟩
                  show u_P L xs m d m_X1_run 98 [(4, .int (x4 + (Int32.ofInt 1))), (7, .int (S (c + 2) x4.toInt.toNat)), (6, .int (S (c + 1) x4.toInt.toNat)), (0, .ref (c + 1)), (1, .int j1), (2, .ref 52), (3, .int x3), (5, .int x5), (8, .int j8)] [.int (f_X1_valueAt (S (c + 2) x4.toInt.toNat) S), .int x3, .ref (c + 4)] S R _
                  refine u_iast rfl (z_cd3 hc) (fun b481 b482 => ?_)
                  have hD := hD b481 b482
                  show u_P L xs m d m_X1_run 99 [(4, .int (x4 + (Int32.ofInt 1))), (7, .int (S (c + 2) x4.toInt.toNat)), (6, .int (S (c + 1) x4.toInt.toNat)), (0, .ref (c + 1)), (1, .int j1), (2, .ref 52), (3, .int x3), (5, .int x5), (8, .int j8)] [] (z_s S (c + 3) x3.toInt.toNat (f_X1_valueAt (S (c + 2) x4.toInt.toNat) S)) R _
                  refine u_st rfl (fun _ => rfl) ?_
                  refine u_st rfl (fun _ => rfl) ?_
                  refine u_st rfl (fun _ => rfl) ?_
                  refine u_st rfl (fun _ => rfl) ?_
                  refine u_lc (b := [(0, .ref (c + 1)), (1, .int j1), (2, .ref 52), (3, .int (x3 + (Int32.ofInt 1))), (4, .int (x4 + (Int32.ofInt 1))), (5, .int (x5 + (Int32.ofInt 1))), (6, .int (S (c + 1) x4.toInt.toNat)), (7, .int (S (c + 2) x4.toInt.toNat)), (8, .int j8)]) (show ([5, 3, 4, 7, 6, 0, 1, 2, 8] : List Nat).Nodup by decide) (show ([0, 1, 2, 3, 4, 5, 6, 7, 8] : List Nat).Nodup by decide) (fun i => match i with | 0 => rfl | 1 => rfl | 2 => rfl | 3 => rfl | 4 => rfl | 5 => rfl | 6 => rfl | 7 => rfl | 8 => rfl | _ + 9 => rfl) ?_
                  exact (ih m hm).2.2 d j1 (S (c + 1) x4.toInt.toNat) (S (c + 2) x4.toInt.toNat) j8 (x3 + (Int32.ofInt 1)) (x4 + (Int32.ofInt 1)) (x5 + (Int32.ofInt 1)) (z_s S (c + 3) x3.toInt.toNat (f_X1_valueAt (S (c + 2) x4.toInt.toNat) S)) hD
                · have hD := hD.2 h46
                  show u_P L xs m d m_X1_run 74 [(4, .int (x4 + (Int32.ofInt 1))), (7, .int (S (c + 2) x4.toInt.toNat)), (6, .int (S (c + 1) x4.toInt.toNat)), (0, .ref (c + 1)), (1, .int j1), (2, .ref 52), (3, .int x3), (5, .int x5), (8, .int j8)] [] S R _
                  refine u_st rfl (fun _ => rfl) ?_
                  show u_P L xs m d m_X1_run 75 [(4, .int (x4 + (Int32.ofInt 1))), (7, .int (S (c + 2) x4.toInt.toNat)), (6, .int (S (c + 1) x4.toInt.toNat)), (0, .ref (c + 1)), (1, .int j1), (2, .ref 52), (3, .int x3), (5, .int x5), (8, .int j8)] [.int (Int32.ofInt 0)] S R _
                  exact u_ret rfl rfl ⟨_, rfl, rfl, hD⟩
set_option maxRecDepth 4000 in
theorem w_X1_run (L : Nat) (xs : Nat → Int32) {R : v_Rf} (c : Nat) (hc : z_cd c) (a : Int32) (H8 : Int32 → Int32 → Int32 → v_Sf → Prop) (K : Int32 → v_Sf → Prop) (k8 : ∀ (x3 : Int32) (x4 : Int32) (x5 : Int32) (S : v_Sf), H8 x3 x4 x5 S → D_X1_run_8 c H8 K x3 x4 x5 S) (n d : Nat) (S : v_Sf) (hD : D_X1_run c a H8 K S) : u_P L xs n d m_X1_run 0 (lv_args 0 [.ref (c + 1), .int a, .ref 52]) [] S R (z_Q R K) := by
  unfold D_X1_run at hD
  show u_P L xs n d m_X1_run 0 [(0, .ref (c + 1)), (1, .int a), (2, .ref 52)] [] S R _
  refine u_st rfl (fun _ => rfl) ?_
  refine u_st rfl (fun _ => rfl) ?_
  refine u_st rfl (fun _ => rfl) ?_
  refine u_st rfl (fun _ => rfl) ?_
  refine u_st rfl (fun _ => rfl) ?_
  refine u_st rfl (fun _ => rfl) ?_
  refine u_lc (b := [(0, .ref (c + 1)), (1, .int a), (2, .ref 52), (3, .int (Int32.ofInt 0)), (4, .int a), (5, .int (Int32.ofInt 0))]) (show ([5, 4, 3, 0, 1, 2] : List Nat).Nodup by decide) (show ([0, 1, 2, 3, 4, 5] : List Nat).Nodup by decide) (fun i => match i with | 0 => rfl | 1 => rfl | 2 => rfl | 3 => rfl | 4 => rfl | 5 => rfl | _ + 6 => rfl) ?_
  exact (hd_X1_run L xs c hc a H8 K k8 n).1 d a (Int32.ofInt 0) a (Int32.ofInt 0) S hD
noncomputable def r_X1_run_8 (c : Nat) : Nat → Nat → Int32 → Int32 → v_Sf → Int32 × v_Sf
  | 0, k8, x3, x4, S => (Int32.ofInt 0, S)
  | r + 1, k8, x3, x4, S => (if x4 < 0 then (Int32.ofInt 0, S) else (if (S c 6) ≤ x4 then (Int32.ofInt 0, S) else (if (S (c + 1) x4.toInt.toNat) = (Int32.ofInt 1) then (if x3 < (Int32.ofNat 32) then r_X1_run_8 c r (k8 + 1) (x3 + (Int32.ofInt 1)) (x4 + (Int32.ofInt 1)) (z_s S (c + 3) x3.toInt.toNat (S (c + 2) x4.toInt.toNat)) else (Int32.ofInt 0, S)) else (if ¬ (S (c + 1) x4.toInt.toNat) = (Int32.ofInt 2) then (if x3 < (Int32.ofInt 1) then (if (Int32.ofInt 1) ≤ x3 then (S (c + 3) ((x3 - (Int32.ofInt 1)).toInt.toNat), S) else (Int32.ofInt 0, S)) else (if ¬ (S (c + 1) x4.toInt.toNat) = 0 then (if ¬ (S (c + 1) x4.toInt.toNat) = (Int32.ofInt 3) then (if (S (c + 1) x4.toInt.toNat) = (Int32.ofInt 4) then (if (S (c + 3) ((x3 - (Int32.ofInt 1)).toInt.toNat)) = 0 then r_X1_run_8 c r (k8 + 1) x3 (S (c + 2) x4.toInt.toNat) S else r_X1_run_8 c r (k8 + 1) (x3 - (Int32.ofInt 1)) (x4 + (Int32.ofInt 1)) S) else (if ¬ (S (c + 1) x4.toInt.toNat) = (Int32.ofInt 5) then (if x3 < (Int32.ofInt 2) then (Int32.ofInt 0, S) else (if (S (c + 1) x4.toInt.toNat) = (Int32.ofInt 47) then (if ¬ (S (c + 3) ((x3 - (Int32.ofInt 1)).toInt.toNat)) = 0 then r_X1_run_8 c r (k8 + 1) (x3 + (Int32.ofInt (-1))) (x4 + (Int32.ofInt 1)) (z_s S (c + 3) (((x3 + (Int32.ofInt (-1))) - (Int32.ofInt 1)).toInt.toNat) (f_X1_join (S (c + 1) x4.toInt.toNat) (S (c + 3) (((x3 + (Int32.ofInt (-1))) - (Int32.ofInt 1)).toInt.toNat)) (S (c + 3) ((x3 + (Int32.ofInt (-1))).toInt.toNat)))) else (Int32.ofInt 0, S)) else (if ¬ (S (c + 1) x4.toInt.toNat) = (Int32.ofInt 37) then r_X1_run_8 c r (k8 + 1) (x3 + (Int32.ofInt (-1))) (x4 + (Int32.ofInt 1)) (z_s S (c + 3) (((x3 + (Int32.ofInt (-1))) - (Int32.ofInt 1)).toInt.toNat) (f_X1_join (S (c + 1) x4.toInt.toNat) (S (c + 3) (((x3 + (Int32.ofInt (-1))) - (Int32.ofInt 1)).toInt.toNat)) (S (c + 3) ((x3 + (Int32.ofInt (-1))).toInt.toNat)))) else (if ¬ (S (c + 3) ((x3 - (Int32.ofInt 1)).toInt.toNat)) = 0 then r_X1_run_8 c r (k8 + 1) (x3 + (Int32.ofInt (-1))) (x4 + (Int32.ofInt 1)) (z_s S (c + 3) (((x3 + (Int32.ofInt (-1))) - (Int32.ofInt 1)).toInt.toNat) (f_X1_join (S (c + 1) x4.toInt.toNat) (S (c + 3) (((x3 + (Int32.ofInt (-1))) - (Int32.ofInt 1)).toInt.toNat)) (S (c + 3) ((x3 + (Int32.ofInt (-1))).toInt.toNat)))) else (Int32.ofInt 0, S))))) else (if (S (c + 3) ((x3 - (Int32.ofInt 1)).toInt.toNat)) = 0 then r_X1_run_8 c r (k8 + 1) (x3 - (Int32.ofInt 1)) (x4 + (Int32.ofInt 1)) S else r_X1_run_8 c r (k8 + 1) x3 (S (c + 2) x4.toInt.toNat) S))) else r_X1_run_8 c r (k8 + 1) x3 (x4 + (Int32.ofInt 1)) (z_s S (c + 3) ((x3 - (Int32.ofInt 1)).toInt.toNat) ((Int32.ofInt 1) - (S (c + 3) ((x3 - (Int32.ofInt 1)).toInt.toNat))))) else (if (Int32.ofInt 1) ≤ x3 then (S (c + 3) ((x3 - (Int32.ofInt 1)).toInt.toNat), S) else (Int32.ofInt 0, S)))) else (if x3 < (Int32.ofNat 32) then r_X1_run_8 c r (k8 + 1) (x3 + (Int32.ofInt 1)) (x4 + (Int32.ofInt 1)) (z_s S (c + 3) x3.toInt.toNat (f_X1_valueAt (S (c + 2) x4.toInt.toNat) S)) else (Int32.ofInt 0, S))))))
noncomputable def F_X1_run (c : Nat) (a : Int32) (S : v_Sf) : Int32 × v_Sf := r_X1_run_8 c (256 - 0) 0 (Int32.ofInt 0) a S
noncomputable def f_X1_run (c : Nat) (a : Int32) (S : v_Sf) : Int32 := (F_X1_run c a S).1
noncomputable def g_X1_run (c : Nat) (a : Int32) (S : v_Sf) : v_Sf := (F_X1_run c a S).2
theorem c_X1_run (L : Nat) (xs : Nat → Int32) (n d : Nat) (c : Nat) (hc : z_cd c) (a : Int32) (S : v_Sf) (R : v_Rf) : u_P L xs n d m_X1_run 0 (lv_args 0 [.ref (c + 1), .int a, .ref 52]) [] S R (z_Q R (fun v S1 => f_X1_run c a S = v ∧ g_X1_run c a S = S1)) := by
  refine w_X1_run L xs c hc a (fun y3 y4 y5 T => ∃ (k8 : Nat), k8 ≤ 256 ∧ z_i k8 = y5 ∧ r_X1_run_8 c (256 - k8) k8 y3 y4 T = F_X1_run c a S) (fun v S1 => f_X1_run c a S = v ∧ g_X1_run c a S = S1) ?_ n d S ?_
  · rintro x3 x4 _ S1 ⟨k8, hkk, rfl, e⟩
    unfold D_X1_run_8
    rcases Nat.lt_or_ge k8 (256) with hk | hk
    · rw [show 256 - k8 = (256 - (k8 + 1)) + 1 by omega, r_X1_run_8] at e
      refine ⟨fun q1 => ?_, fun q1 => ?_⟩
      · exact absurd hk (Nat.not_lt.mpr (z_leB2 (B := 256) q1 (by decide) (by omega)))
      · refine ⟨fun q2 => ?_, fun q2 => ?_⟩
        · rw [if_pos q2] at e
          have e1 := congrArg Prod.fst e.symm
          have e2 := congrArg Prod.snd e.symm
          exact ⟨e1, e2⟩
        · refine ⟨fun q3 => ?_, fun q3 => ?_⟩
          · rw [if_neg q2, if_pos q3] at e
            have e1 := congrArg Prod.fst e.symm
            have e2 := congrArg Prod.snd e.symm
            exact ⟨e1, e2⟩
          · intro _ _
            intro _ _
            refine ⟨fun q4 => ?_, fun q4 => ?_⟩
            · refine ⟨fun q5 => ?_, fun q5 => ?_⟩
              · intro _ _
                rw [if_neg q2, if_neg q3, if_pos q4, if_pos q5] at e
                exact ⟨(k8 + 1), by omega, (z_i1 k8).symm, e⟩
              · rw [if_neg q2, if_neg q3, if_pos q4, if_neg q5] at e
                have e1 := congrArg Prod.fst e.symm
                have e2 := congrArg Prod.snd e.symm
                exact ⟨e1, e2⟩
            · refine ⟨fun q6 => ?_, fun q6 => ?_⟩
              · refine ⟨fun q7 => ?_, fun q7 => ?_⟩
                · refine ⟨fun q8 => ?_, fun q8 => ?_⟩
                  · intro _ _
                    rw [if_neg q2, if_neg q3, if_neg q4, if_pos q6, if_pos q7, if_pos q8] at e
                    have e1 := congrArg Prod.fst e.symm
                    have e2 := congrArg Prod.snd e.symm
                    exact ⟨e1, e2⟩
                  · rw [if_neg q2, if_neg q3, if_neg q4, if_pos q6, if_pos q7, if_neg q8] at e
                    have e1 := congrArg Prod.fst e.symm
                    have e2 := congrArg Prod.snd e.symm
                    exact ⟨e1, e2⟩
                · refine ⟨fun q9 => ?_, fun q9 => ?_⟩
                  · refine ⟨fun q10 => ?_, fun q10 => ?_⟩
                    · refine ⟨fun q11 => ?_, fun q11 => ?_⟩
                      · intro _ _
                        refine ⟨fun q12 => ?_, fun q12 => ?_⟩
                        · rw [if_neg q2, if_neg q3, if_neg q4, if_pos q6, if_neg q7, if_pos q9, if_pos q10, if_pos q11, if_pos q12] at e
                          exact ⟨(k8 + 1), by omega, (z_i1 k8).symm, e⟩
                        · rw [if_neg q2, if_neg q3, if_neg q4, if_pos q6, if_neg q7, if_pos q9, if_pos q10, if_pos q11, if_neg q12] at e
                          exact ⟨(k8 + 1), by omega, (z_i1 k8).symm, e⟩
                      · refine ⟨fun q13 => ?_, fun q13 => ?_⟩
                        · refine ⟨fun q14 => ?_, fun q14 => ?_⟩
                          · rw [if_neg q2, if_neg q3, if_neg q4, if_pos q6, if_neg q7, if_pos q9, if_pos q10, if_neg q11, if_pos q13, if_pos q14] at e
                            have e1 := congrArg Prod.fst e.symm
                            have e2 := congrArg Prod.snd e.symm
                            exact ⟨e1, e2⟩
                          · refine ⟨fun q15 => ?_, fun q15 => ?_⟩
                            · intro _ _
                              refine ⟨fun q16 => ?_, fun q16 => ?_⟩
                              · intro _ _
                                intro _ _
                                intro _ _
                                rw [if_neg q2, if_neg q3, if_neg q4, if_pos q6, if_neg q7, if_pos q9, if_pos q10, if_neg q11, if_pos q13, if_neg q14, if_pos q15, if_pos q16] at e
                                exact ⟨(k8 + 1), by omega, (z_i1 k8).symm, e⟩
                              · rw [if_neg q2, if_neg q3, if_neg q4, if_pos q6, if_neg q7, if_pos q9, if_pos q10, if_neg q11, if_pos q13, if_neg q14, if_pos q15, if_neg q16] at e
                                have e1 := congrArg Prod.fst e.symm
                                have e2 := congrArg Prod.snd e.symm
                                exact ⟨e1, e2⟩
                            · refine ⟨fun q17 => ?_, fun q17 => ?_⟩
                              · intro _ _
                                intro _ _
                                intro _ _
                                rw [if_neg q2, if_neg q3, if_neg q4, if_pos q6, if_neg q7, if_pos q9, if_pos q10, if_neg q11, if_pos q13, if_neg q14, if_neg q15, if_pos q17] at e
                                exact ⟨(k8 + 1), by omega, (z_i1 k8).symm, e⟩
                              · intro _ _
                                refine ⟨fun q18 => ?_, fun q18 => ?_⟩
                                · intro _ _
                                  intro _ _
                                  intro _ _
                                  rw [if_neg q2, if_neg q3, if_neg q4, if_pos q6, if_neg q7, if_pos q9, if_pos q10, if_neg q11, if_pos q13, if_neg q14, if_neg q15, if_neg q17, if_pos q18] at e
                                  exact ⟨(k8 + 1), by omega, (z_i1 k8).symm, e⟩
                                · rw [if_neg q2, if_neg q3, if_neg q4, if_pos q6, if_neg q7, if_pos q9, if_pos q10, if_neg q11, if_pos q13, if_neg q14, if_neg q15, if_neg q17, if_neg q18] at e
                                  have e1 := congrArg Prod.fst e.symm
                                  have e2 := congrArg Prod.snd e.symm
                                  exact ⟨e1, e2⟩
                        · intro _ _
                          refine ⟨fun q19 => ?_, fun q19 => ?_⟩
                          · rw [if_neg q2, if_neg q3, if_neg q4, if_pos q6, if_neg q7, if_pos q9, if_pos q10, if_neg q11, if_neg q13, if_pos q19] at e
                            exact ⟨(k8 + 1), by omega, (z_i1 k8).symm, e⟩
                          · rw [if_neg q2, if_neg q3, if_neg q4, if_pos q6, if_neg q7, if_pos q9, if_pos q10, if_neg q11, if_neg q13, if_neg q19] at e
                            exact ⟨(k8 + 1), by omega, (z_i1 k8).symm, e⟩
                    · intro _ _
                      intro _ _
                      rw [if_neg q2, if_neg q3, if_neg q4, if_pos q6, if_neg q7, if_pos q9, if_neg q10] at e
                      exact ⟨(k8 + 1), by omega, (z_i1 k8).symm, e⟩
                  · refine ⟨fun q20 => ?_, fun q20 => ?_⟩
                    · intro _ _
                      rw [if_neg q2, if_neg q3, if_neg q4, if_pos q6, if_neg q7, if_neg q9, if_pos q20] at e
                      have e1 := congrArg Prod.fst e.symm
                      have e2 := congrArg Prod.snd e.symm
                      exact ⟨e1, e2⟩
                    · rw [if_neg q2, if_neg q3, if_neg q4, if_pos q6, if_neg q7, if_neg q9, if_neg q20] at e
                      have e1 := congrArg Prod.fst e.symm
                      have e2 := congrArg Prod.snd e.symm
                      exact ⟨e1, e2⟩
              · refine ⟨fun q21 => ?_, fun q21 => ?_⟩
                · intro _ _
                  rw [if_neg q2, if_neg q3, if_neg q4, if_neg q6, if_pos q21] at e
                  exact ⟨(k8 + 1), by omega, (z_i1 k8).symm, e⟩
                · rw [if_neg q2, if_neg q3, if_neg q4, if_neg q6, if_neg q21] at e
                  have e1 := congrArg Prod.fst e.symm
                  have e2 := congrArg Prod.snd e.symm
                  exact ⟨e1, e2⟩
    · rw [show 256 - k8 = 0 by omega, r_X1_run_8] at e
      refine ⟨fun q22 => ?_, fun q22 => ?_⟩
      · have e1 := congrArg Prod.fst e.symm
        have e2 := congrArg Prod.snd e.symm
        exact ⟨e1, e2⟩
      · exact absurd hk (Nat.not_le.mpr (z_ltB2 (B := 256) q22 (by decide) (by omega)))
  · unfold D_X1_run
    have e : r_X1_run_8 c (256 - 0) 0 (Int32.ofInt 0) a S = F_X1_run c a S := by rw [F_X1_run]
    exact ⟨0, by omega, rfl, e⟩
end PrtS42f
section PrtS42g
noncomputable abbrev m_X12_manyIn : g_M := (g_cn 12, yX12_manyIn, cX12_manyIn, 4, (some .int), g_look2 ttX12_manyIn)
set_option maxRecDepth 20000 in
theorem mt_X12_manyIn : g_mt 213 = some m_X12_manyIn := rfl
noncomputable def D_X12_manyIn_4  (H4 : Int32 → Int32 → Int32 → v_Sf → Prop) (K : Int32 → v_Sf → Prop) (x1 : Int32) (x2 : Int32) (x3 : Int32) (S : v_Sf) : Prop := (((Int32.ofInt 12) ≤ x3 → K x2 S) ∧ (¬ ((Int32.ofInt 12) ≤ x3) → (((f_X12_isIn x3 x1 S) = 0 → H4 x1 (x2 + (Int32.ofInt 0)) (x3 + (Int32.ofInt 1)) S) ∧ (¬ ((f_X12_isIn x3 x1 S) = 0) → H4 x1 (x2 + (Int32.ofInt 1)) (x3 + (Int32.ofInt 1)) S))))
noncomputable def D_X12_manyIn (w : Int32) (H4 : Int32 → Int32 → Int32 → v_Sf → Prop) (K : Int32 → v_Sf → Prop) (S : v_Sf) : Prop := H4 w (Int32.ofInt 0) (Int32.ofInt 0) S
set_option maxRecDepth 4000 in
theorem hd_X12_manyIn (L : Nat) (xs : Nat → Int32) {R : v_Rf} (w : Int32) (H4 : Int32 → Int32 → Int32 → v_Sf → Prop) (K : Int32 → v_Sf → Prop) (k4 : ∀ (x1 : Int32) (x2 : Int32) (x3 : Int32) (S : v_Sf), H4 x1 x2 x3 S → D_X12_manyIn_4 H4 K x1 x2 x3 S) : ∀ n, (∀ (d : Nat) (x1 : Int32) (x2 : Int32) (x3 : Int32) (S : v_Sf), H4 x1 x2 x3 S → u_P L xs n d m_X12_manyIn 4 [(0, .ref 100), (1, .int x1), (2, .int x2), (3, .int x3)] [] S R (z_Q R K)) := by
  intro n
  induction n using Nat.strongRecOn with
  | ind n ih =>
    intro d x1 x2 x3 S hD
    have hD := k4 x1 x2 x3 S hD
    unfold D_X12_manyIn_4 at hD
    show u_P L xs n d m_X12_manyIn 4 [(0, .ref 100), (1, .int x1), (2, .int x2), (3, .int x3)] [] S R _
    refine u_st1 rfl (fun _ => rfl) (fun m hm => ?_)
    refine u_st rfl (fun _ => rfl) ?_
    show u_P L xs m d m_X12_manyIn 7 [(0, .ref 100), (1, .int x1), (2, .int x2), (3, .int x3)] [.int (Int32.ofInt 12), .int x3] S R _
    refine u_ic_ge rfl (fun h1 => ?_) (fun h1 => ?_)
    · have hD := hD.1 h1
      show u_P L xs m d m_X12_manyIn 33 [(0, .ref 100), (1, .int x1), (2, .int x2), (3, .int x3)] [] S R _
      refine u_st rfl (fun _ => rfl) ?_
      show u_P L xs m d m_X12_manyIn 34 [(0, .ref 100), (1, .int x1), (2, .int x2), (3, .int x3)] [.int x2] S R _
      exact u_ret rfl rfl ⟨_, rfl, rfl, hD⟩
    · have hD := hD.2 h1
      show u_P L xs m d m_X12_manyIn 10 [(0, .ref 100), (1, .int x1), (2, .int x2), (3, .int x3)] [] S R _
      refine u_st rfl (fun _ => rfl) ?_
      refine u_st rfl (fun _ => rfl) ?_
      refine u_st rfl (fun _ => rfl) ?_
      refine u_st rfl (fun _ => rfl) ?_
      show u_P L xs m d m_X12_manyIn 14 [(0, .ref 100), (1, .int x1), (2, .int x2), (3, .int x3)] [.int x1, .int x3, .ref 100, .int x2] S R _
      refine u_cv (rest := [.int x2]) rfl (by decide) mt_X12_isIn v_tyM rfl rfl rfl (Nat.le_of_ble_eq_true rfl) (Nat.le_of_ble_eq_true rfl) (Nat.le_of_ble_eq_true rfl) (fun d' => c_X12_isIn L xs m d' x3 x1 S R) ?_
      rintro _ _ _ ⟨_, rfl, rfl, rfl, rfl⟩
      show u_P L xs m d m_X12_manyIn 17 [(0, .ref 100), (1, .int x1), (2, .int x2), (3, .int x3)] [.int (f_X12_isIn x3 x1 S), .int x2] S R _
      refine u_if_eq rfl (fun h2 => ?_) (fun h2 => ?_)
      · have hD := hD.1 h2
        show u_P L xs m d m_X12_manyIn 24 [(0, .ref 100), (1, .int x1), (2, .int x2), (3, .int x3)] [.int x2] S R _
        refine u_st rfl (fun _ => rfl) ?_
        refine u_st rfl (fun _ => rfl) ?_
        refine u_st rfl (fun _ => rfl) ?_
        refine u_st rfl (fun _ => rfl) ?_
        refine u_st rfl (fun _ => rfl) ?_
        refine u_lc (b := [(0, .ref 100), (1, .int x1), (2, .int (x2 + (Int32.ofInt 0))), (3, .int (x3 + (Int32.ofInt 1)))]) (show ([3, 2, 0, 1] : List Nat).Nodup by decide) (show ([0, 1, 2, 3] : List Nat).Nodup by decide) (fun i => match i with | 0 => rfl | 1 => rfl | 2 => rfl | 3 => rfl | _ + 4 => rfl) ?_
        exact (ih m hm) d x1 (x2 + (Int32.ofInt 0)) (x3 + (Int32.ofInt 1)) S hD
      · have hD := hD.2 h2
        show u_P L xs m d m_X12_manyIn 20 [(0, .ref 100), (1, .int x1), (2, .int x2), (3, .int x3)] [.int x2] S R _
        refine u_st rfl (fun _ => rfl) ?_
        refine u_st rfl (fun _ => rfl) ?_
        refine u_st rfl (fun _ => rfl) ?_
        refine u_st rfl (fun _ => rfl) ?_
        refine u_st rfl (fun _ => rfl) ?_
        refine u_st rfl (fun _ => rfl) ?_
        refine u_lc (b := [(0, .ref 100), (1, .int x1), (2, .int (x2 + (Int32.ofInt 1))), (3, .int (x3 + (Int32.ofInt 1)))]) (show ([3, 2, 0, 1] : List Nat).Nodup by decide) (show ([0, 1, 2, 3] : List Nat).Nodup by decide) (fun i => match i with | 0 => rfl | 1 => rfl | 2 => rfl | 3 => rfl | _ + 4 => rfl) ?_
        exact (ih m hm) d x1 (x2 + (Int32.ofInt 1)) (x3 + (Int32.ofInt 1)) S hD
set_option maxRecDepth 4000 in
theorem w_X12_manyIn (L : Nat) (xs : Nat → Int32) {R : v_Rf} (w : Int32) (H4 : Int32 → Int32 → Int32 → v_Sf → Prop) (K : Int32 → v_Sf → Prop) (k4 : ∀ (x1 : Int32) (x2 : Int32) (x3 : Int32) (S : v_Sf), H4 x1 x2 x3 S → D_X12_manyIn_4 H4 K x1 x2 x3 S) (n d : Nat) (S : v_Sf) (hD : D_X12_manyIn w H4 K S) : u_P L xs n d m_X12_manyIn 0 (lv_args 0 [.ref 100, .int w]) [] S R (z_Q R K) := by
  unfold D_X12_manyIn at hD
  show u_P L xs n d m_X12_manyIn 0 [(0, .ref 100), (1, .int w)] [] S R _
  refine u_st rfl (fun _ => rfl) ?_
  refine u_st rfl (fun _ => rfl) ?_
  refine u_st rfl (fun _ => rfl) ?_
  refine u_st rfl (fun _ => rfl) ?_
  refine u_lc (b := [(0, .ref 100), (1, .int w), (2, .int (Int32.ofInt 0)), (3, .int (Int32.ofInt 0))]) (show ([3, 2, 0, 1] : List Nat).Nodup by decide) (show ([0, 1, 2, 3] : List Nat).Nodup by decide) (fun i => match i with | 0 => rfl | 1 => rfl | 2 => rfl | 3 => rfl | _ + 4 => rfl) ?_
  exact (hd_X12_manyIn L xs w H4 K k4 n) d w (Int32.ofInt 0) (Int32.ofInt 0) S hD
noncomputable def r_X12_manyIn_4 (x1 : Int32) (S : v_Sf) : Nat → Nat → Int32 → Int32
  | 0, k4, x2 => x2
  | r + 1, k4, x2 => (if (f_X12_isIn (z_i k4) x1 S) = 0 then r_X12_manyIn_4 x1 S r (k4 + 1) (x2 + (Int32.ofInt 0)) else r_X12_manyIn_4 x1 S r (k4 + 1) (x2 + (Int32.ofInt 1)))
noncomputable def F_X12_manyIn (w : Int32) (S : v_Sf) : Int32 := r_X12_manyIn_4 w S (12 - 0) 0 (Int32.ofInt 0)
noncomputable def f_X12_manyIn (w : Int32) (S : v_Sf) : Int32 := F_X12_manyIn w S
theorem c_X12_manyIn (L : Nat) (xs : Nat → Int32) (n d : Nat) (w : Int32) (S : v_Sf) (R : v_Rf) : u_P L xs n d m_X12_manyIn 0 (lv_args 0 [.ref 100, .int w]) [] S R (z_Q R (fun v S1 => f_X12_manyIn w S = v ∧ S = S1)) := by
  refine w_X12_manyIn L xs w (fun y1 y2 y3 T => ∃ (k4 : Nat), k4 ≤ 12 ∧ z_i k4 = y3 ∧ w = y1 ∧ S = T ∧ r_X12_manyIn_4 w S (12 - k4) k4 y2 = F_X12_manyIn w S) (fun v S1 => f_X12_manyIn w S = v ∧ S = S1) ?_ n d S ?_
  · rintro _ x2 _ _ ⟨k4, hkk, rfl, rfl, rfl, e⟩
    unfold D_X12_manyIn_4
    rcases Nat.lt_or_ge k4 (12) with hk | hk
    · rw [show 12 - k4 = (12 - (k4 + 1)) + 1 by omega, r_X12_manyIn_4] at e
      refine ⟨fun q1 => ?_, fun q1 => ?_⟩
      · exact absurd hk (Nat.not_lt.mpr (z_leB2 (B := 12) q1 (by decide) (by omega)))
      · refine ⟨fun q2 => ?_, fun q2 => ?_⟩
        · rw [if_pos q2] at e
          exact ⟨(k4 + 1), by omega, (z_i1 k4).symm, rfl, rfl, e⟩
        · rw [if_neg q2] at e
          exact ⟨(k4 + 1), by omega, (z_i1 k4).symm, rfl, rfl, e⟩
    · rw [show 12 - k4 = 0 by omega, r_X12_manyIn_4] at e
      refine ⟨fun q3 => ?_, fun q3 => ?_⟩
      · exact ⟨e.symm, rfl⟩
      · exact absurd hk (Nat.not_le.mpr (z_ltB2 (B := 12) q3 (by decide) (by omega)))
  · unfold D_X12_manyIn
    have e : r_X12_manyIn_4 w S (12 - 0) 0 (Int32.ofInt 0) = F_X12_manyIn w S := by rw [F_X12_manyIn]
    exact ⟨0, by omega, rfl, rfl, rfl, e⟩
noncomputable abbrev m_X12_togetherIn : g_M := (g_cn 12, yX12_togetherIn, cX12_togetherIn, 4, (some .int), g_look2 ttX12_togetherIn)
set_option maxRecDepth 20000 in
theorem mt_X12_togetherIn : g_mt 214 = some m_X12_togetherIn := rfl
noncomputable def D_X12_togetherIn_4  (H4 : Int32 → Int32 → Int32 → v_Sf → Prop) (K : Int32 → v_Sf → Prop) (x1 : Int32) (x2 : Int32) (x3 : Int32) (S : v_Sf) : Prop := (((Int32.ofInt 12) ≤ x3 → K x2 S) ∧ (¬ ((Int32.ofInt 12) ≤ x3) → (((f_X12_isIn x3 x1 S) = 0 → H4 x1 (x2 + (Int32.ofInt 0)) (x3 + (Int32.ofInt 1)) S) ∧ (¬ ((f_X12_isIn x3 x1 S) = 0) → (0 ≤ x3.toInt → x3.toInt < 12 → H4 x1 (x2 + (S 117 x3.toInt.toNat)) (x3 + (Int32.ofInt 1)) S)))))
noncomputable def D_X12_togetherIn (w : Int32) (H4 : Int32 → Int32 → Int32 → v_Sf → Prop) (K : Int32 → v_Sf → Prop) (S : v_Sf) : Prop := H4 w (Int32.ofInt 0) (Int32.ofInt 0) S
set_option maxRecDepth 4000 in
theorem hd_X12_togetherIn (L : Nat) (xs : Nat → Int32) {R : v_Rf} (w : Int32) (H4 : Int32 → Int32 → Int32 → v_Sf → Prop) (K : Int32 → v_Sf → Prop) (k4 : ∀ (x1 : Int32) (x2 : Int32) (x3 : Int32) (S : v_Sf), H4 x1 x2 x3 S → D_X12_togetherIn_4 H4 K x1 x2 x3 S) : ∀ n, (∀ (d : Nat) (x1 : Int32) (x2 : Int32) (x3 : Int32) (S : v_Sf), H4 x1 x2 x3 S → u_P L xs n d m_X12_togetherIn 4 [(0, .ref 100), (1, .int x1), (2, .int x2), (3, .int x3)] [] S R (z_Q R K)) := by
  intro n
  induction n using Nat.strongRecOn with
  | ind n ih =>
    intro d x1 x2 x3 S hD
    have hD := k4 x1 x2 x3 S hD
    unfold D_X12_togetherIn_4 at hD
    show u_P L xs n d m_X12_togetherIn 4 [(0, .ref 100), (1, .int x1), (2, .int x2), (3, .int x3)] [] S R _
    refine u_st1 rfl (fun _ => rfl) (fun m hm => ?_)
    refine u_st rfl (fun _ => rfl) ?_
    show u_P L xs m d m_X12_togetherIn 7 [(0, .ref 100), (1, .int x1), (2, .int x2), (3, .int x3)] [.int (Int32.ofInt 12), .int x3] S R _
    refine u_ic_ge rfl (fun h1 => ?_) (fun h1 => ?_)
    · have hD := hD.1 h1
      show u_P L xs m d m_X12_togetherIn 38 [(0, .ref 100), (1, .int x1), (2, .int x2), (3, .int x3)] [] S R _
      refine u_st rfl (fun _ => rfl) ?_
      show u_P L xs m d m_X12_togetherIn 39 [(0, .ref 100), (1, .int x1), (2, .int x2), (3, .int x3)] [.int x2] S R _
      exact u_ret rfl rfl ⟨_, rfl, rfl, hD⟩
    · have hD := hD.2 h1
      show u_P L xs m d m_X12_togetherIn 10 [(0, .ref 100), (1, .int x1), (2, .int x2), (3, .int x3)] [] S R _
      refine u_st rfl (fun _ => rfl) ?_
      refine u_st rfl (fun _ => rfl) ?_
      refine u_st rfl (fun _ => rfl) ?_
      refine u_st rfl (fun _ => rfl) ?_
      show u_P L xs m d m_X12_togetherIn 14 [(0, .ref 100), (1, .int x1), (2, .int x2), (3, .int x3)] [.int x1, .int x3, .ref 100, .int x2] S R _
      refine u_cv (rest := [.int x2]) rfl (by decide) mt_X12_isIn v_tyM rfl rfl rfl (Nat.le_of_ble_eq_true rfl) (Nat.le_of_ble_eq_true rfl) (Nat.le_of_ble_eq_true rfl) (fun d' => c_X12_isIn L xs m d' x3 x1 S R) ?_
      rintro _ _ _ ⟨_, rfl, rfl, rfl, rfl⟩
      show u_P L xs m d m_X12_togetherIn 17 [(0, .ref 100), (1, .int x1), (2, .int x2), (3, .int x3)] [.int (f_X12_isIn x3 x1 S), .int x2] S R _
      refine u_if_eq rfl (fun h2 => ?_) (fun h2 => ?_)
      · have hD := hD.1 h2
        show u_P L xs m d m_X12_togetherIn 29 [(0, .ref 100), (1, .int x1), (2, .int x2), (3, .int x3)] [.int x2] S R _
        refine u_st rfl (fun _ => rfl) ?_
        refine u_st rfl (fun _ => rfl) ?_
        refine u_st rfl (fun _ => rfl) ?_
        refine u_st rfl (fun _ => rfl) ?_
        refine u_st rfl (fun _ => rfl) ?_
        refine u_lc (b := [(0, .ref 100), (1, .int x1), (2, .int (x2 + (Int32.ofInt 0))), (3, .int (x3 + (Int32.ofInt 1)))]) (show ([3, 2, 0, 1] : List Nat).Nodup by decide) (show ([0, 1, 2, 3] : List Nat).Nodup by decide) (fun i => match i with | 0 => rfl | 1 => rfl | 2 => rfl | 3 => rfl | _ + 4 => rfl) ?_
        exact (ih m hm) d x1 (x2 + (Int32.ofInt 0)) (x3 + (Int32.ofInt 1)) S hD
      · have hD := hD.2 h2
        show u_P L xs m d m_X12_togetherIn 20 [(0, .ref 100), (1, .int x1), (2, .int x2), (3, .int x3)] [.int x2] S R _
        refine u_st rfl (fun _ => rfl) ?_
        show u_P L xs m d m_X12_togetherIn 21 [(0, .ref 100), (1, .int x1), (2, .int x2), (3, .int x3)] [.ref 100, .int x2] S R _
        refine u_getr rfl v_tyM rfl ?_
        refine u_st rfl (fun _ => rfl) ?_
        show u_P L xs m d m_X12_togetherIn 25 [(0, .ref 100), (1, .int x1), (2, .int x2), (3, .int x3)] [.int x3, .ref 118, .int x2] S R _
        refine u_ialdE (v := S 117 x3.toInt.toNat) rfl rfl rfl (fun b31 b32 => ?_)
        have hD := hD b31 b32
        show u_P L xs m d m_X12_togetherIn 26 [(0, .ref 100), (1, .int x1), (2, .int x2), (3, .int x3)] [.int (S 117 x3.toInt.toNat), .int x2] S R _
        refine u_st rfl (fun _ => rfl) ?_
        refine u_st rfl (fun _ => rfl) ?_
        refine u_st rfl (fun _ => rfl) ?_
        refine u_st rfl (fun _ => rfl) ?_
        refine u_st rfl (fun _ => rfl) ?_
        refine u_lc (b := [(0, .ref 100), (1, .int x1), (2, .int (x2 + (S 117 x3.toInt.toNat))), (3, .int (x3 + (Int32.ofInt 1)))]) (show ([3, 2, 0, 1] : List Nat).Nodup by decide) (show ([0, 1, 2, 3] : List Nat).Nodup by decide) (fun i => match i with | 0 => rfl | 1 => rfl | 2 => rfl | 3 => rfl | _ + 4 => rfl) ?_
        exact (ih m hm) d x1 (x2 + (S 117 x3.toInt.toNat)) (x3 + (Int32.ofInt 1)) S hD
set_option maxRecDepth 4000 in
theorem w_X12_togetherIn (L : Nat) (xs : Nat → Int32) {R : v_Rf} (w : Int32) (H4 : Int32 → Int32 → Int32 → v_Sf → Prop) (K : Int32 → v_Sf → Prop) (k4 : ∀ (x1 : Int32) (x2 : Int32) (x3 : Int32) (S : v_Sf), H4 x1 x2 x3 S → D_X12_togetherIn_4 H4 K x1 x2 x3 S) (n d : Nat) (S : v_Sf) (hD : D_X12_togetherIn w H4 K S) : u_P L xs n d m_X12_togetherIn 0 (lv_args 0 [.ref 100, .int w]) [] S R (z_Q R K) := by
  unfold D_X12_togetherIn at hD
  show u_P L xs n d m_X12_togetherIn 0 [(0, .ref 100), (1, .int w)] [] S R _
  refine u_st rfl (fun _ => rfl) ?_
  refine u_st rfl (fun _ => rfl) ?_
  refine u_st rfl (fun _ => rfl) ?_
  refine u_st rfl (fun _ => rfl) ?_
  refine u_lc (b := [(0, .ref 100), (1, .int w), (2, .int (Int32.ofInt 0)), (3, .int (Int32.ofInt 0))]) (show ([3, 2, 0, 1] : List Nat).Nodup by decide) (show ([0, 1, 2, 3] : List Nat).Nodup by decide) (fun i => match i with | 0 => rfl | 1 => rfl | 2 => rfl | 3 => rfl | _ + 4 => rfl) ?_
  exact (hd_X12_togetherIn L xs w H4 K k4 n) d w (Int32.ofInt 0) (Int32.ofInt 0) S hD
noncomputable def r_X12_togetherIn_4 (x1 : Int32) (S : v_Sf) : Nat → Nat → Int32 → Int32
  | 0, k4, x2 => x2
  | r + 1, k4, x2 => (if (f_X12_isIn (z_i k4) x1 S) = 0 then r_X12_togetherIn_4 x1 S r (k4 + 1) (x2 + (Int32.ofInt 0)) else r_X12_togetherIn_4 x1 S r (k4 + 1) (x2 + (S 117 (z_i k4).toInt.toNat)))
noncomputable def F_X12_togetherIn (w : Int32) (S : v_Sf) : Int32 := r_X12_togetherIn_4 w S (12 - 0) 0 (Int32.ofInt 0)
noncomputable def f_X12_togetherIn (w : Int32) (S : v_Sf) : Int32 := F_X12_togetherIn w S
theorem c_X12_togetherIn (L : Nat) (xs : Nat → Int32) (n d : Nat) (w : Int32) (S : v_Sf) (R : v_Rf) : u_P L xs n d m_X12_togetherIn 0 (lv_args 0 [.ref 100, .int w]) [] S R (z_Q R (fun v S1 => f_X12_togetherIn w S = v ∧ S = S1)) := by
  refine w_X12_togetherIn L xs w (fun y1 y2 y3 T => ∃ (k4 : Nat), k4 ≤ 12 ∧ z_i k4 = y3 ∧ w = y1 ∧ S = T ∧ r_X12_togetherIn_4 w S (12 - k4) k4 y2 = F_X12_togetherIn w S) (fun v S1 => f_X12_togetherIn w S = v ∧ S = S1) ?_ n d S ?_
  · rintro _ x2 _ _ ⟨k4, hkk, rfl, rfl, rfl, e⟩
    unfold D_X12_togetherIn_4
    rcases Nat.lt_or_ge k4 (12) with hk | hk
    · rw [show 12 - k4 = (12 - (k4 + 1)) + 1 by omega, r_X12_togetherIn_4] at e
      refine ⟨fun q1 => ?_, fun q1 => ?_⟩
      · exact absurd hk (Nat.not_lt.mpr (z_leB2 (B := 12) q1 (by decide) (by omega)))
      · refine ⟨fun q2 => ?_, fun q2 => ?_⟩
        · rw [if_pos q2] at e
          exact ⟨(k4 + 1), by omega, (z_i1 k4).symm, rfl, rfl, e⟩
        · intro _ _
          rw [if_neg q2] at e
          exact ⟨(k4 + 1), by omega, (z_i1 k4).symm, rfl, rfl, e⟩
    · rw [show 12 - k4 = 0 by omega, r_X12_togetherIn_4] at e
      refine ⟨fun q3 => ?_, fun q3 => ?_⟩
      · exact ⟨e.symm, rfl⟩
      · exact absurd hk (Nat.not_le.mpr (z_ltB2 (B := 12) q3 (by decide) (by omega)))
  · unfold D_X12_togetherIn
    have e : r_X12_togetherIn_4 w S (12 - 0) 0 (Int32.ofInt 0) = F_X12_togetherIn w S := by rw [F_X12_togetherIn]
    exact ⟨0, by omega, rfl, rfl, rfl, e⟩
noncomputable def D_X12_toldGusts_4  (H4 : Int32 → Int32 → v_Sf → Prop) (K : Int32 → v_Sf → Prop) (x1 : Int32) (x2 : Int32) (S : v_Sf) : Prop := (((Int32.ofInt 12) ≤ x2 → K x1 S) ∧ (¬ ((Int32.ofInt 12) ≤ x2) → (0 ≤ x2.toInt → x2.toInt < 12 → (((S 116 x2.toInt.toNat) = 0 → H4 (x1 ||| (Int32.ofInt 0)) (x2 + (Int32.ofInt 1)) S) ∧ (¬ ((S 116 x2.toInt.toNat) = 0) → H4 (x1 ||| ((Int32.ofInt 1) <<< (x2 &&& 31))) (x2 + (Int32.ofInt 1)) S)))))
noncomputable def D_X12_toldGusts  (H4 : Int32 → Int32 → v_Sf → Prop) (K : Int32 → v_Sf → Prop) (S : v_Sf) : Prop := H4 (Int32.ofInt 0) (Int32.ofInt 0) S
set_option maxRecDepth 4000 in
theorem hd_X12_toldGusts (L : Nat) (xs : Nat → Int32) {R : v_Rf}  (H4 : Int32 → Int32 → v_Sf → Prop) (K : Int32 → v_Sf → Prop) (k4 : ∀ (x1 : Int32) (x2 : Int32) (S : v_Sf), H4 x1 x2 S → D_X12_toldGusts_4 H4 K x1 x2 S) : ∀ n, (∀ (d : Nat) (x1 : Int32) (x2 : Int32) (S : v_Sf), H4 x1 x2 S → u_P L xs n d m_X12_toldGusts 4 [(0, .ref 100), (1, .int x1), (2, .int x2)] [] S R (z_Q R K)) := by
  intro n
  induction n using Nat.strongRecOn with
  | ind n ih =>
    intro d x1 x2 S hD
    have hD := k4 x1 x2 S hD
    unfold D_X12_toldGusts_4 at hD
    show u_P L xs n d m_X12_toldGusts 4 [(0, .ref 100), (1, .int x1), (2, .int x2)] [] S R _
    refine u_st1 rfl (fun _ => rfl) (fun m hm => ?_)
    refine u_st rfl (fun _ => rfl) ?_
    show u_P L xs m d m_X12_toldGusts 7 [(0, .ref 100), (1, .int x1), (2, .int x2)] [.int (Int32.ofInt 12), .int x2] S R _
    refine u_ic_ge rfl (fun h1 => ?_) (fun h1 => ?_)
    · have hD := hD.1 h1
      show u_P L xs m d m_X12_toldGusts 35 [(0, .ref 100), (1, .int x1), (2, .int x2)] [] S R _
      refine u_st rfl (fun _ => rfl) ?_
      show u_P L xs m d m_X12_toldGusts 36 [(0, .ref 100), (1, .int x1), (2, .int x2)] [.int x1] S R _
      exact u_ret rfl rfl ⟨_, rfl, rfl, hD⟩
    · have hD := hD.2 h1
      show u_P L xs m d m_X12_toldGusts 10 [(0, .ref 100), (1, .int x1), (2, .int x2)] [] S R _
      refine u_st rfl (fun _ => rfl) ?_
      refine u_st rfl (fun _ => rfl) ?_
      show u_P L xs m d m_X12_toldGusts 12 [(0, .ref 100), (1, .int x1), (2, .int x2)] [.ref 100, .int x1] S R _
      refine u_getr rfl v_tyM rfl ?_
      refine u_st rfl (fun _ => rfl) ?_
      show u_P L xs m d m_X12_toldGusts 16 [(0, .ref 100), (1, .int x1), (2, .int x2)] [.int x2, .ref 117, .int x1] S R _
      refine u_baldE (v := S 116 x2.toInt.toNat) rfl rfl (by decide) rfl (fun b21 b22 => ?_)
      have hD := hD b21 b22
      show u_P L xs m d m_X12_toldGusts 17 [(0, .ref 100), (1, .int x1), (2, .int x2)] [.int (S 116 x2.toInt.toNat), .int x1] S R _
      refine u_if_eq rfl (fun h3 => ?_) (fun h3 => ?_)
      · have hD := hD.1 h3
        show u_P L xs m d m_X12_toldGusts 26 [(0, .ref 100), (1, .int x1), (2, .int x2)] [.int x1] S R _
        refine u_st rfl (fun _ => rfl) ?_
        refine u_st rfl (fun _ => rfl) ?_
        refine u_st rfl (fun _ => rfl) ?_
        refine u_st rfl (fun _ => rfl) ?_
        refine u_st rfl (fun _ => rfl) ?_
        refine u_lc (b := [(0, .ref 100), (1, .int (x1 ||| (Int32.ofInt 0))), (2, .int (x2 + (Int32.ofInt 1)))]) (show ([2, 1, 0] : List Nat).Nodup by decide) (show ([0, 1, 2] : List Nat).Nodup by decide) (fun i => match i with | 0 => rfl | 1 => rfl | 2 => rfl | _ + 3 => rfl) ?_
        exact (ih m hm) d (x1 ||| (Int32.ofInt 0)) (x2 + (Int32.ofInt 1)) S hD
      · have hD := hD.2 h3
        show u_P L xs m d m_X12_toldGusts 20 [(0, .ref 100), (1, .int x1), (2, .int x2)] [.int x1] S R _
        refine u_st rfl (fun _ => rfl) ?_
        refine u_st rfl (fun _ => rfl) ?_
        refine u_st rfl (fun _ => rfl) ?_
        refine u_st rfl (fun _ => rfl) ?_
        refine u_st rfl (fun _ => rfl) ?_
        refine u_st rfl (fun _ => rfl) ?_
        refine u_st rfl (fun _ => rfl) ?_
        refine u_st rfl (fun _ => rfl) ?_
        refine u_lc (b := [(0, .ref 100), (1, .int (x1 ||| ((Int32.ofInt 1) <<< (x2 &&& 31)))), (2, .int (x2 + (Int32.ofInt 1)))]) (show ([2, 1, 0] : List Nat).Nodup by decide) (show ([0, 1, 2] : List Nat).Nodup by decide) (fun i => match i with | 0 => rfl | 1 => rfl | 2 => rfl | _ + 3 => rfl) ?_
        exact (ih m hm) d (x1 ||| ((Int32.ofInt 1) <<< (x2 &&& 31))) (x2 + (Int32.ofInt 1)) S hD
set_option maxRecDepth 4000 in
theorem w_X12_toldGusts (L : Nat) (xs : Nat → Int32) {R : v_Rf}  (H4 : Int32 → Int32 → v_Sf → Prop) (K : Int32 → v_Sf → Prop) (k4 : ∀ (x1 : Int32) (x2 : Int32) (S : v_Sf), H4 x1 x2 S → D_X12_toldGusts_4 H4 K x1 x2 S) (n d : Nat) (S : v_Sf) (hD : D_X12_toldGusts H4 K S) : u_P L xs n d m_X12_toldGusts 0 (lv_args 0 [.ref 100]) [] S R (z_Q R K) := by
  unfold D_X12_toldGusts at hD
  show u_P L xs n d m_X12_toldGusts 0 [(0, .ref 100)] [] S R _
  refine u_st rfl (fun _ => rfl) ?_
  refine u_st rfl (fun _ => rfl) ?_
  refine u_st rfl (fun _ => rfl) ?_
  refine u_st rfl (fun _ => rfl) ?_
  refine u_lc (b := [(0, .ref 100), (1, .int (Int32.ofInt 0)), (2, .int (Int32.ofInt 0))]) (show ([2, 1, 0] : List Nat).Nodup by decide) (show ([0, 1, 2] : List Nat).Nodup by decide) (fun i => match i with | 0 => rfl | 1 => rfl | 2 => rfl | _ + 3 => rfl) ?_
  exact (hd_X12_toldGusts L xs H4 K k4 n) d (Int32.ofInt 0) (Int32.ofInt 0) S hD
noncomputable def r_X12_toldGusts_4 (S : v_Sf) : Nat → Nat → Int32 → Int32
  | 0, k4, x1 => x1
  | r + 1, k4, x1 => (if (S 116 (z_i k4).toInt.toNat) = 0 then r_X12_toldGusts_4 S r (k4 + 1) (x1 ||| (Int32.ofInt 0)) else r_X12_toldGusts_4 S r (k4 + 1) (x1 ||| ((Int32.ofInt 1) <<< ((z_i k4) &&& 31))))
noncomputable def F_X12_toldGusts  (S : v_Sf) : Int32 := r_X12_toldGusts_4 S (12 - 0) 0 (Int32.ofInt 0)
noncomputable def f_X12_toldGusts  (S : v_Sf) : Int32 := F_X12_toldGusts  S
theorem c_X12_toldGusts (L : Nat) (xs : Nat → Int32) (n d : Nat)  (S : v_Sf) (R : v_Rf) : u_P L xs n d m_X12_toldGusts 0 (lv_args 0 [.ref 100]) [] S R (z_Q R (fun v S1 => f_X12_toldGusts  S = v ∧ S = S1)) := by
  refine w_X12_toldGusts L xs  (fun y1 y2 T => ∃ (k4 : Nat), k4 ≤ 12 ∧ z_i k4 = y2 ∧ S = T ∧ r_X12_toldGusts_4 S (12 - k4) k4 y1 = F_X12_toldGusts  S) (fun v S1 => f_X12_toldGusts  S = v ∧ S = S1) ?_ n d S ?_
  · rintro x1 _ _ ⟨k4, hkk, rfl, rfl, e⟩
    unfold D_X12_toldGusts_4
    rcases Nat.lt_or_ge k4 (12) with hk | hk
    · rw [show 12 - k4 = (12 - (k4 + 1)) + 1 by omega, r_X12_toldGusts_4] at e
      refine ⟨fun q1 => ?_, fun q1 => ?_⟩
      · exact absurd hk (Nat.not_lt.mpr (z_leB2 (B := 12) q1 (by decide) (by omega)))
      · intro _ _
        refine ⟨fun q2 => ?_, fun q2 => ?_⟩
        · rw [if_pos q2] at e
          exact ⟨(k4 + 1), by omega, (z_i1 k4).symm, rfl, e⟩
        · rw [if_neg q2] at e
          exact ⟨(k4 + 1), by omega, (z_i1 k4).symm, rfl, e⟩
    · rw [show 12 - k4 = 0 by omega, r_X12_toldGusts_4] at e
      refine ⟨fun q3 => ?_, fun q3 => ?_⟩
      · exact ⟨e.symm, rfl⟩
      · exact absurd hk (Nat.not_le.mpr (z_ltB2 (B := 12) q3 (by decide) (by omega)))
  · unfold D_X12_toldGusts
    have e : r_X12_toldGusts_4 S (12 - 0) 0 (Int32.ofInt 0) = F_X12_toldGusts  S := by rw [F_X12_toldGusts]
    exact ⟨0, by omega, rfl, rfl, e⟩
noncomputable abbrev m_X12_push : g_M := (g_cn 12, yX12_push, cX12_push, 3, none, g_look2 ttX12_push)
set_option maxRecDepth 20000 in
theorem mt_X12_push : g_mt 164 = some m_X12_push := rfl
noncomputable def g_X12_push (a : Int32) (S : v_Sf) : v_Sf := z_s (z_s (z_s (z_s (z_s (z_s (z_s (z_s S 100 ((S 99 1).toInt.toNat) (u_nar 1 ((a >>> ((Int32.ofInt 24) &&& 31)).toInt8.toInt32))) 99 1 ((S 99 1) + (Int32.ofInt 1))) 100 (((S 99 1) + (Int32.ofInt 1)).toInt.toNat) (u_nar 1 ((a >>> ((Int32.ofInt 16) &&& 31)).toInt8.toInt32))) 99 1 (((S 99 1) + (Int32.ofInt 1)) + (Int32.ofInt 1))) 100 ((((S 99 1) + (Int32.ofInt 1)) + (Int32.ofInt 1)).toInt.toNat) (u_nar 1 ((a >>> ((Int32.ofInt 8) &&& 31)).toInt8.toInt32))) 99 1 ((((S 99 1) + (Int32.ofInt 1)) + (Int32.ofInt 1)) + (Int32.ofInt 1))) 100 (((((S 99 1) + (Int32.ofInt 1)) + (Int32.ofInt 1)) + (Int32.ofInt 1)).toInt.toNat) (u_nar 1 ((a >>> ((Int32.ofInt 0) &&& 31)).toInt8.toInt32))) 99 1 (((((S 99 1) + (Int32.ofInt 1)) + (Int32.ofInt 1)) + (Int32.ofInt 1)) + (Int32.ofInt 1))
set_option maxRecDepth 4000 in
theorem c_X12_push (L : Nat) (xs : Nat → Int32) (n d : Nat) (a : Int32) (S : v_Sf) (R : v_Rf) : u_P L xs n d m_X12_push 0 (lv_args 0 [.ref 100, .int a]) [] S R (z_V R (fun S1 => g_X12_push a S = S1)) := by
  show u_P L xs n d m_X12_push 0 [(0, .ref 100), (1, .int a)] [] S R _
  refine u_st rfl (fun _ => rfl) ?_
  refine u_st rfl (fun _ => rfl) ?_
  refine u_st rfl (fun _ => rfl) ?_
  show u_P L xs n d m_X12_push 4 [(2, .int (Int32.ofInt 24)), (0, .ref 100), (1, .int a)] [.int (Int32.ofInt 24)] S R _
  refine u_st rfl (fun _ => rfl) ?_
  refine u_st rfl (fun _ => rfl) ?_
  show u_P L xs n d m_X12_push 8 [(2, .int (Int32.ofInt 24)), (0, .ref 100), (1, .int a)] [.ref 100] S R _
  refine u_getr rfl v_tyM rfl ?_
  refine u_st rfl (fun _ => rfl) ?_
  show u_P L xs n d m_X12_push 12 [(2, .int (Int32.ofInt 24)), (0, .ref 100), (1, .int a)] [.ref 100, .ref 101] S R _
  refine u_getE (v := S 99 1) rfl v_tyM rfl rfl ?_
  refine u_st rfl (fun _ => rfl) ?_
  refine u_st rfl (fun _ => rfl) ?_
  refine u_st rfl (fun _ => rfl) ?_
  refine u_st rfl (fun _ => rfl) ?_
  show u_P L xs n d m_X12_push 19 [(2, .int (Int32.ofInt 24)), (0, .ref 100), (1, .int a)] [.int ((a >>> ((Int32.ofInt 24) &&& 31)).toInt8.toInt32), .int (S 99 1), .ref 101] S R _
  refine u_bast rfl rfl (by decide) (fun b11 b12 => ?_)
  refine u_st rfl (fun _ => rfl) ?_
  refine u_st rfl (fun _ => rfl) ?_
  show u_P L xs n d m_X12_push 22 [(2, .int (Int32.ofInt 24)), (0, .ref 100), (1, .int a)] [.ref 100, .ref 100] (z_s S 100 ((S 99 1).toInt.toNat) (u_nar 1 ((a >>> ((Int32.ofInt 24) &&& 31)).toInt8.toInt32))) R _
  refine u_getE (v := S 99 1) rfl v_tyM rfl (z_sn (fun h => absurd h.1 (by decide))) ?_
  refine u_st rfl (fun _ => rfl) ?_
  refine u_st rfl (fun _ => rfl) ?_
  show u_P L xs n d m_X12_push 27 [(2, .int (Int32.ofInt 24)), (0, .ref 100), (1, .int a)] [.int ((S 99 1) + (Int32.ofInt 1)), .ref 100] (z_s S 100 ((S 99 1).toInt.toNat) (u_nar 1 ((a >>> ((Int32.ofInt 24) &&& 31)).toInt8.toInt32))) R _
  refine u_put rfl v_tyM rfl ?_
  refine u_st rfl (fun _ => rfl) ?_
  refine u_st rfl (fun _ => rfl) ?_
  refine u_st rfl (fun _ => rfl) ?_
  show u_P L xs n d m_X12_push 4 [(2, .int (Int32.ofInt 16)), (0, .ref 100), (1, .int a)] [.int (Int32.ofInt 16)] (z_s (z_s S 100 ((S 99 1).toInt.toNat) (u_nar 1 ((a >>> ((Int32.ofInt 24) &&& 31)).toInt8.toInt32))) 99 1 ((S 99 1) + (Int32.ofInt 1))) R _
  refine u_st rfl (fun _ => rfl) ?_
  refine u_st rfl (fun _ => rfl) ?_
  show u_P L xs n d m_X12_push 8 [(2, .int (Int32.ofInt 16)), (0, .ref 100), (1, .int a)] [.ref 100] (z_s (z_s S 100 ((S 99 1).toInt.toNat) (u_nar 1 ((a >>> ((Int32.ofInt 24) &&& 31)).toInt8.toInt32))) 99 1 ((S 99 1) + (Int32.ofInt 1))) R _
  refine u_getr rfl v_tyM rfl ?_
  refine u_st rfl (fun _ => rfl) ?_
  show u_P L xs n d m_X12_push 12 [(2, .int (Int32.ofInt 16)), (0, .ref 100), (1, .int a)] [.ref 100, .ref 101] (z_s (z_s S 100 ((S 99 1).toInt.toNat) (u_nar 1 ((a >>> ((Int32.ofInt 24) &&& 31)).toInt8.toInt32))) 99 1 ((S 99 1) + (Int32.ofInt 1))) R _
  refine u_getE (v := (S 99 1) + (Int32.ofInt 1)) rfl v_tyM rfl z_ss ?_
  refine u_st rfl (fun _ => rfl) ?_
  refine u_st rfl (fun _ => rfl) ?_
  refine u_st rfl (fun _ => rfl) ?_
  refine u_st rfl (fun _ => rfl) ?_
  show u_P L xs n d m_X12_push 19 [(2, .int (Int32.ofInt 16)), (0, .ref 100), (1, .int a)] [.int ((a >>> ((Int32.ofInt 16) &&& 31)).toInt8.toInt32), .int ((S 99 1) + (Int32.ofInt 1)), .ref 101] (z_s (z_s S 100 ((S 99 1).toInt.toNat) (u_nar 1 ((a >>> ((Int32.ofInt 24) &&& 31)).toInt8.toInt32))) 99 1 ((S 99 1) + (Int32.ofInt 1))) R _
  refine u_bast rfl rfl (by decide) (fun b21 b22 => ?_)
  refine u_st rfl (fun _ => rfl) ?_
  refine u_st rfl (fun _ => rfl) ?_
  show u_P L xs n d m_X12_push 22 [(2, .int (Int32.ofInt 16)), (0, .ref 100), (1, .int a)] [.ref 100, .ref 100] (z_s (z_s (z_s S 100 ((S 99 1).toInt.toNat) (u_nar 1 ((a >>> ((Int32.ofInt 24) &&& 31)).toInt8.toInt32))) 99 1 ((S 99 1) + (Int32.ofInt 1))) 100 (((S 99 1) + (Int32.ofInt 1)).toInt.toNat) (u_nar 1 ((a >>> ((Int32.ofInt 16) &&& 31)).toInt8.toInt32))) R _
  refine u_getE (v := (S 99 1) + (Int32.ofInt 1)) rfl v_tyM rfl ((z_sn (fun h => absurd h.1 (by decide))).trans z_ss) ?_
  refine u_st rfl (fun _ => rfl) ?_
  refine u_st rfl (fun _ => rfl) ?_
  show u_P L xs n d m_X12_push 27 [(2, .int (Int32.ofInt 16)), (0, .ref 100), (1, .int a)] [.int (((S 99 1) + (Int32.ofInt 1)) + (Int32.ofInt 1)), .ref 100] (z_s (z_s (z_s S 100 ((S 99 1).toInt.toNat) (u_nar 1 ((a >>> ((Int32.ofInt 24) &&& 31)).toInt8.toInt32))) 99 1 ((S 99 1) + (Int32.ofInt 1))) 100 (((S 99 1) + (Int32.ofInt 1)).toInt.toNat) (u_nar 1 ((a >>> ((Int32.ofInt 16) &&& 31)).toInt8.toInt32))) R _
  refine u_put rfl v_tyM rfl ?_
  refine u_st rfl (fun _ => rfl) ?_
  refine u_st rfl (fun _ => rfl) ?_
  refine u_st rfl (fun _ => rfl) ?_
  show u_P L xs n d m_X12_push 4 [(2, .int (Int32.ofInt 8)), (0, .ref 100), (1, .int a)] [.int (Int32.ofInt 8)] (z_s (z_s (z_s (z_s S 100 ((S 99 1).toInt.toNat) (u_nar 1 ((a >>> ((Int32.ofInt 24) &&& 31)).toInt8.toInt32))) 99 1 ((S 99 1) + (Int32.ofInt 1))) 100 (((S 99 1) + (Int32.ofInt 1)).toInt.toNat) (u_nar 1 ((a >>> ((Int32.ofInt 16) &&& 31)).toInt8.toInt32))) 99 1 (((S 99 1) + (Int32.ofInt 1)) + (Int32.ofInt 1))) R _
  refine u_st rfl (fun _ => rfl) ?_
  refine u_st rfl (fun _ => rfl) ?_
  show u_P L xs n d m_X12_push 8 [(2, .int (Int32.ofInt 8)), (0, .ref 100), (1, .int a)] [.ref 100] (z_s (z_s (z_s (z_s S 100 ((S 99 1).toInt.toNat) (u_nar 1 ((a >>> ((Int32.ofInt 24) &&& 31)).toInt8.toInt32))) 99 1 ((S 99 1) + (Int32.ofInt 1))) 100 (((S 99 1) + (Int32.ofInt 1)).toInt.toNat) (u_nar 1 ((a >>> ((Int32.ofInt 16) &&& 31)).toInt8.toInt32))) 99 1 (((S 99 1) + (Int32.ofInt 1)) + (Int32.ofInt 1))) R _
  refine u_getr rfl v_tyM rfl ?_
  refine u_st rfl (fun _ => rfl) ?_
  show u_P L xs n d m_X12_push 12 [(2, .int (Int32.ofInt 8)), (0, .ref 100), (1, .int a)] [.ref 100, .ref 101] (z_s (z_s (z_s (z_s S 100 ((S 99 1).toInt.toNat) (u_nar 1 ((a >>> ((Int32.ofInt 24) &&& 31)).toInt8.toInt32))) 99 1 ((S 99 1) + (Int32.ofInt 1))) 100 (((S 99 1) + (Int32.ofInt 1)).toInt.toNat) (u_nar 1 ((a >>> ((Int32.ofInt 16) &&& 31)).toInt8.toInt32))) 99 1 (((S 99 1) + (Int32.ofInt 1)) + (Int32.ofInt 1))) R _
  refine u_getE (v := ((S 99 1) + (Int32.ofInt 1)) + (Int32.ofInt 1)) rfl v_tyM rfl z_ss ?_
  refine u_st rfl (fun _ => rfl) ?_
  refine u_st rfl (fun _ => rfl) ?_
  refine u_st rfl (fun _ => rfl) ?_
  refine u_st rfl (fun _ => rfl) ?_
  show u_P L xs n d m_X12_push 19 [(2, .int (Int32.ofInt 8)), (0, .ref 100), (1, .int a)] [.int ((a >>> ((Int32.ofInt 8) &&& 31)).toInt8.toInt32), .int (((S 99 1) + (Int32.ofInt 1)) + (Int32.ofInt 1)), .ref 101] (z_s (z_s (z_s (z_s S 100 ((S 99 1).toInt.toNat) (u_nar 1 ((a >>> ((Int32.ofInt 24) &&& 31)).toInt8.toInt32))) 99 1 ((S 99 1) + (Int32.ofInt 1))) 100 (((S 99 1) + (Int32.ofInt 1)).toInt.toNat) (u_nar 1 ((a >>> ((Int32.ofInt 16) &&& 31)).toInt8.toInt32))) 99 1 (((S 99 1) + (Int32.ofInt 1)) + (Int32.ofInt 1))) R _
  refine u_bast rfl rfl (by decide) (fun b31 b32 => ?_)
  refine u_st rfl (fun _ => rfl) ?_
  refine u_st rfl (fun _ => rfl) ?_
  show u_P L xs n d m_X12_push 22 [(2, .int (Int32.ofInt 8)), (0, .ref 100), (1, .int a)] [.ref 100, .ref 100] (z_s (z_s (z_s (z_s (z_s S 100 ((S 99 1).toInt.toNat) (u_nar 1 ((a >>> ((Int32.ofInt 24) &&& 31)).toInt8.toInt32))) 99 1 ((S 99 1) + (Int32.ofInt 1))) 100 (((S 99 1) + (Int32.ofInt 1)).toInt.toNat) (u_nar 1 ((a >>> ((Int32.ofInt 16) &&& 31)).toInt8.toInt32))) 99 1 (((S 99 1) + (Int32.ofInt 1)) + (Int32.ofInt 1))) 100 ((((S 99 1) + (Int32.ofInt 1)) + (Int32.ofInt 1)).toInt.toNat) (u_nar 1 ((a >>> ((Int32.ofInt 8) &&& 31)).toInt8.toInt32))) R _
  refine u_getE (v := ((S 99 1) + (Int32.ofInt 1)) + (Int32.ofInt 1)) rfl v_tyM rfl ((z_sn (fun h => absurd h.1 (by decide))).trans z_ss) ?_
  refine u_st rfl (fun _ => rfl) ?_
  refine u_st rfl (fun _ => rfl) ?_
  show u_P L xs n d m_X12_push 27 [(2, .int (Int32.ofInt 8)), (0, .ref 100), (1, .int a)] [.int ((((S 99 1) + (Int32.ofInt 1)) + (Int32.ofInt 1)) + (Int32.ofInt 1)), .ref 100] (z_s (z_s (z_s (z_s (z_s S 100 ((S 99 1).toInt.toNat) (u_nar 1 ((a >>> ((Int32.ofInt 24) &&& 31)).toInt8.toInt32))) 99 1 ((S 99 1) + (Int32.ofInt 1))) 100 (((S 99 1) + (Int32.ofInt 1)).toInt.toNat) (u_nar 1 ((a >>> ((Int32.ofInt 16) &&& 31)).toInt8.toInt32))) 99 1 (((S 99 1) + (Int32.ofInt 1)) + (Int32.ofInt 1))) 100 ((((S 99 1) + (Int32.ofInt 1)) + (Int32.ofInt 1)).toInt.toNat) (u_nar 1 ((a >>> ((Int32.ofInt 8) &&& 31)).toInt8.toInt32))) R _
  refine u_put rfl v_tyM rfl ?_
  refine u_st rfl (fun _ => rfl) ?_
  refine u_st rfl (fun _ => rfl) ?_
  refine u_st rfl (fun _ => rfl) ?_
  show u_P L xs n d m_X12_push 4 [(2, .int (Int32.ofInt 0)), (0, .ref 100), (1, .int a)] [.int (Int32.ofInt 0)] (z_s (z_s (z_s (z_s (z_s (z_s S 100 ((S 99 1).toInt.toNat) (u_nar 1 ((a >>> ((Int32.ofInt 24) &&& 31)).toInt8.toInt32))) 99 1 ((S 99 1) + (Int32.ofInt 1))) 100 (((S 99 1) + (Int32.ofInt 1)).toInt.toNat) (u_nar 1 ((a >>> ((Int32.ofInt 16) &&& 31)).toInt8.toInt32))) 99 1 (((S 99 1) + (Int32.ofInt 1)) + (Int32.ofInt 1))) 100 ((((S 99 1) + (Int32.ofInt 1)) + (Int32.ofInt 1)).toInt.toNat) (u_nar 1 ((a >>> ((Int32.ofInt 8) &&& 31)).toInt8.toInt32))) 99 1 ((((S 99 1) + (Int32.ofInt 1)) + (Int32.ofInt 1)) + (Int32.ofInt 1))) R _
  refine u_st rfl (fun _ => rfl) ?_
  refine u_st rfl (fun _ => rfl) ?_
  show u_P L xs n d m_X12_push 8 [(2, .int (Int32.ofInt 0)), (0, .ref 100), (1, .int a)] [.ref 100] (z_s (z_s (z_s (z_s (z_s (z_s S 100 ((S 99 1).toInt.toNat) (u_nar 1 ((a >>> ((Int32.ofInt 24) &&& 31)).toInt8.toInt32))) 99 1 ((S 99 1) + (Int32.ofInt 1))) 100 (((S 99 1) + (Int32.ofInt 1)).toInt.toNat) (u_nar 1 ((a >>> ((Int32.ofInt 16) &&& 31)).toInt8.toInt32))) 99 1 (((S 99 1) + (Int32.ofInt 1)) + (Int32.ofInt 1))) 100 ((((S 99 1) + (Int32.ofInt 1)) + (Int32.ofInt 1)).toInt.toNat) (u_nar 1 ((a >>> ((Int32.ofInt 8) &&& 31)).toInt8.toInt32))) 99 1 ((((S 99 1) + (Int32.ofInt 1)) + (Int32.ofInt 1)) + (Int32.ofInt 1))) R _
  refine u_getr rfl v_tyM rfl ?_
  refine u_st rfl (fun _ => rfl) ?_
  show u_P L xs n d m_X12_push 12 [(2, .int (Int32.ofInt 0)), (0, .ref 100), (1, .int a)] [.ref 100, .ref 101] (z_s (z_s (z_s (z_s (z_s (z_s S 100 ((S 99 1).toInt.toNat) (u_nar 1 ((a >>> ((Int32.ofInt 24) &&& 31)).toInt8.toInt32))) 99 1 ((S 99 1) + (Int32.ofInt 1))) 100 (((S 99 1) + (Int32.ofInt 1)).toInt.toNat) (u_nar 1 ((a >>> ((Int32.ofInt 16) &&& 31)).toInt8.toInt32))) 99 1 (((S 99 1) + (Int32.ofInt 1)) + (Int32.ofInt 1))) 100 ((((S 99 1) + (Int32.ofInt 1)) + (Int32.ofInt 1)).toInt.toNat) (u_nar 1 ((a >>> ((Int32.ofInt 8) &&& 31)).toInt8.toInt32))) 99 1 ((((S 99 1) + (Int32.ofInt 1)) + (Int32.ofInt 1)) + (Int32.ofInt 1))) R _
  refine u_getE (v := (((S 99 1) + (Int32.ofInt 1)) + (Int32.ofInt 1)) + (Int32.ofInt 1)) rfl v_tyM rfl z_ss ?_
  refine u_st rfl (fun _ => rfl) ?_
  refine u_st rfl (fun _ => rfl) ?_
  refine u_st rfl (fun _ => rfl) ?_
  refine u_st rfl (fun _ => rfl) ?_
  show u_P L xs n d m_X12_push 19 [(2, .int (Int32.ofInt 0)), (0, .ref 100), (1, .int a)] [.int ((a >>> ((Int32.ofInt 0) &&& 31)).toInt8.toInt32), .int ((((S 99 1) + (Int32.ofInt 1)) + (Int32.ofInt 1)) + (Int32.ofInt 1)), .ref 101] (z_s (z_s (z_s (z_s (z_s (z_s S 100 ((S 99 1).toInt.toNat) (u_nar 1 ((a >>> ((Int32.ofInt 24) &&& 31)).toInt8.toInt32))) 99 1 ((S 99 1) + (Int32.ofInt 1))) 100 (((S 99 1) + (Int32.ofInt 1)).toInt.toNat) (u_nar 1 ((a >>> ((Int32.ofInt 16) &&& 31)).toInt8.toInt32))) 99 1 (((S 99 1) + (Int32.ofInt 1)) + (Int32.ofInt 1))) 100 ((((S 99 1) + (Int32.ofInt 1)) + (Int32.ofInt 1)).toInt.toNat) (u_nar 1 ((a >>> ((Int32.ofInt 8) &&& 31)).toInt8.toInt32))) 99 1 ((((S 99 1) + (Int32.ofInt 1)) + (Int32.ofInt 1)) + (Int32.ofInt 1))) R _
  refine u_bast rfl rfl (by decide) (fun b41 b42 => ?_)
  refine u_st rfl (fun _ => rfl) ?_
  refine u_st rfl (fun _ => rfl) ?_
  show u_P L xs n d m_X12_push 22 [(2, .int (Int32.ofInt 0)), (0, .ref 100), (1, .int a)] [.ref 100, .ref 100] (z_s (z_s (z_s (z_s (z_s (z_s (z_s S 100 ((S 99 1).toInt.toNat) (u_nar 1 ((a >>> ((Int32.ofInt 24) &&& 31)).toInt8.toInt32))) 99 1 ((S 99 1) + (Int32.ofInt 1))) 100 (((S 99 1) + (Int32.ofInt 1)).toInt.toNat) (u_nar 1 ((a >>> ((Int32.ofInt 16) &&& 31)).toInt8.toInt32))) 99 1 (((S 99 1) + (Int32.ofInt 1)) + (Int32.ofInt 1))) 100 ((((S 99 1) + (Int32.ofInt 1)) + (Int32.ofInt 1)).toInt.toNat) (u_nar 1 ((a >>> ((Int32.ofInt 8) &&& 31)).toInt8.toInt32))) 99 1 ((((S 99 1) + (Int32.ofInt 1)) + (Int32.ofInt 1)) + (Int32.ofInt 1))) 100 (((((S 99 1) + (Int32.ofInt 1)) + (Int32.ofInt 1)) + (Int32.ofInt 1)).toInt.toNat) (u_nar 1 ((a >>> ((Int32.ofInt 0) &&& 31)).toInt8.toInt32))) R _
  refine u_getE (v := (((S 99 1) + (Int32.ofInt 1)) + (Int32.ofInt 1)) + (Int32.ofInt 1)) rfl v_tyM rfl ((z_sn (fun h => absurd h.1 (by decide))).trans z_ss) ?_
  refine u_st rfl (fun _ => rfl) ?_
  refine u_st rfl (fun _ => rfl) ?_
  show u_P L xs n d m_X12_push 27 [(2, .int (Int32.ofInt 0)), (0, .ref 100), (1, .int a)] [.int (((((S 99 1) + (Int32.ofInt 1)) + (Int32.ofInt 1)) + (Int32.ofInt 1)) + (Int32.ofInt 1)), .ref 100] (z_s (z_s (z_s (z_s (z_s (z_s (z_s S 100 ((S 99 1).toInt.toNat) (u_nar 1 ((a >>> ((Int32.ofInt 24) &&& 31)).toInt8.toInt32))) 99 1 ((S 99 1) + (Int32.ofInt 1))) 100 (((S 99 1) + (Int32.ofInt 1)).toInt.toNat) (u_nar 1 ((a >>> ((Int32.ofInt 16) &&& 31)).toInt8.toInt32))) 99 1 (((S 99 1) + (Int32.ofInt 1)) + (Int32.ofInt 1))) 100 ((((S 99 1) + (Int32.ofInt 1)) + (Int32.ofInt 1)).toInt.toNat) (u_nar 1 ((a >>> ((Int32.ofInt 8) &&& 31)).toInt8.toInt32))) 99 1 ((((S 99 1) + (Int32.ofInt 1)) + (Int32.ofInt 1)) + (Int32.ofInt 1))) 100 (((((S 99 1) + (Int32.ofInt 1)) + (Int32.ofInt 1)) + (Int32.ofInt 1)).toInt.toNat) (u_nar 1 ((a >>> ((Int32.ofInt 0) &&& 31)).toInt8.toInt32))) R _
  refine u_put rfl v_tyM rfl ?_
  refine u_st rfl (fun _ => rfl) ?_
  refine u_st rfl (fun _ => rfl) ?_
  refine u_st rfl (fun _ => rfl) ?_
  show u_P L xs n d m_X12_push 4 [(2, .int (Int32.ofInt (-8))), (0, .ref 100), (1, .int a)] [.int (Int32.ofInt (-8))] (z_s (z_s (z_s (z_s (z_s (z_s (z_s (z_s S 100 ((S 99 1).toInt.toNat) (u_nar 1 ((a >>> ((Int32.ofInt 24) &&& 31)).toInt8.toInt32))) 99 1 ((S 99 1) + (Int32.ofInt 1))) 100 (((S 99 1) + (Int32.ofInt 1)).toInt.toNat) (u_nar 1 ((a >>> ((Int32.ofInt 16) &&& 31)).toInt8.toInt32))) 99 1 (((S 99 1) + (Int32.ofInt 1)) + (Int32.ofInt 1))) 100 ((((S 99 1) + (Int32.ofInt 1)) + (Int32.ofInt 1)).toInt.toNat) (u_nar 1 ((a >>> ((Int32.ofInt 8) &&& 31)).toInt8.toInt32))) 99 1 ((((S 99 1) + (Int32.ofInt 1)) + (Int32.ofInt 1)) + (Int32.ofInt 1))) 100 (((((S 99 1) + (Int32.ofInt 1)) + (Int32.ofInt 1)) + (Int32.ofInt 1)).toInt.toNat) (u_nar 1 ((a >>> ((Int32.ofInt 0) &&& 31)).toInt8.toInt32))) 99 1 (((((S 99 1) + (Int32.ofInt 1)) + (Int32.ofInt 1)) + (Int32.ofInt 1)) + (Int32.ofInt 1))) R _
  refine u_st rfl (fun _ => rfl) ?_
  show u_P L xs n d m_X12_push 36 [(2, .int (Int32.ofInt (-8))), (0, .ref 100), (1, .int a)] [] (z_s (z_s (z_s (z_s (z_s (z_s (z_s (z_s S 100 ((S 99 1).toInt.toNat) (u_nar 1 ((a >>> ((Int32.ofInt 24) &&& 31)).toInt8.toInt32))) 99 1 ((S 99 1) + (Int32.ofInt 1))) 100 (((S 99 1) + (Int32.ofInt 1)).toInt.toNat) (u_nar 1 ((a >>> ((Int32.ofInt 16) &&& 31)).toInt8.toInt32))) 99 1 (((S 99 1) + (Int32.ofInt 1)) + (Int32.ofInt 1))) 100 ((((S 99 1) + (Int32.ofInt 1)) + (Int32.ofInt 1)).toInt.toNat) (u_nar 1 ((a >>> ((Int32.ofInt 8) &&& 31)).toInt8.toInt32))) 99 1 ((((S 99 1) + (Int32.ofInt 1)) + (Int32.ofInt 1)) + (Int32.ofInt 1))) 100 (((((S 99 1) + (Int32.ofInt 1)) + (Int32.ofInt 1)) + (Int32.ofInt 1)).toInt.toNat) (u_nar 1 ((a >>> ((Int32.ofInt 0) &&& 31)).toInt8.toInt32))) 99 1 (((((S 99 1) + (Int32.ofInt 1)) + (Int32.ofInt 1)) + (Int32.ofInt 1)) + (Int32.ofInt 1))) R _
  exact u_ret rfl rfl ⟨rfl, rfl, rfl⟩
noncomputable abbrev m_X12_feed : g_M := (g_cn 12, yX12_feed, cX12_feed, 6, (some .int), g_look2 ttX12_feed)
set_option maxRecDepth 20000 in
theorem mt_X12_feed : g_mt 165 = some m_X12_feed := rfl
noncomputable def f_X12_feed (a : Int32) (b : Int32) (c : Int32) (i : Int32) (j : Int32) (S : v_Sf) : Int32 := (if ((S 99 1) + (Int32.ofInt 20)) ≤ (Int32.ofInt 260) then (g_X12_push j (g_X12_push i (g_X12_push c (g_X12_push b (g_X12_push a S))))) 99 1 else Int32.ofInt (-1))
noncomputable def g_X12_feed (a : Int32) (b : Int32) (c : Int32) (i : Int32) (j : Int32) (S : v_Sf) : v_Sf := (if ((S 99 1) + (Int32.ofInt 20)) ≤ (Int32.ofInt 260) then g_X12_push j (g_X12_push i (g_X12_push c (g_X12_push b (g_X12_push a S)))) else S)
set_option maxRecDepth 4000 in
theorem c_X12_feed (L : Nat) (xs : Nat → Int32) (n d : Nat) (a : Int32) (b : Int32) (c : Int32) (i : Int32) (j : Int32) (S : v_Sf) (R : v_Rf) : u_P L xs n d m_X12_feed 0 (lv_args 0 [.ref 100, .int a, .int b, .int c, .int i, .int j]) [] S R (z_Q R (fun v S1 => f_X12_feed a b c i j S = v ∧ g_X12_feed a b c i j S = S1)) := by
  show u_P L xs n d m_X12_feed 0 [(0, .ref 100), (1, .int a), (2, .int b), (3, .int c), (4, .int i), (5, .int j)] [] S R _
  refine u_st rfl (fun _ => rfl) ?_
  show u_P L xs n d m_X12_feed 1 [(0, .ref 100), (1, .int a), (2, .int b), (3, .int c), (4, .int i), (5, .int j)] [.ref 100] S R _
  refine u_getE (v := S 99 1) rfl v_tyM rfl rfl ?_
  refine u_st rfl (fun _ => rfl) ?_
  refine u_st rfl (fun _ => rfl) ?_
  refine u_st rfl (fun _ => rfl) ?_
  show u_P L xs n d m_X12_feed 10 [(0, .ref 100), (1, .int a), (2, .int b), (3, .int c), (4, .int i), (5, .int j)] [.int (Int32.ofInt 260), .int ((S 99 1) + (Int32.ofInt 20))] S R _
  refine u_ic_le rfl (fun h1 => ?_) (fun h1 => ?_)
  · show u_P L xs n d m_X12_feed 15 [(0, .ref 100), (1, .int a), (2, .int b), (3, .int c), (4, .int i), (5, .int j)] [] S R _
    refine u_st rfl (fun _ => rfl) ?_
    refine u_st rfl (fun _ => rfl) ?_
    show u_P L xs n d m_X12_feed 17 [(0, .ref 100), (1, .int a), (2, .int b), (3, .int c), (4, .int i), (5, .int j)] [.int a, .ref 100] S R _
    refine u_cv (rest := []) rfl (by decide) mt_X12_push v_tyM rfl rfl rfl (Nat.le_of_ble_eq_true rfl) (Nat.le_of_ble_eq_true rfl) (Nat.le_of_ble_eq_true rfl) (fun d' => c_X12_push L xs n d' a S R) ?_
    rintro _ _ _ ⟨rfl, rfl, rfl⟩
    refine u_st rfl (fun _ => rfl) ?_
    refine u_st rfl (fun _ => rfl) ?_
    show u_P L xs n d m_X12_feed 22 [(0, .ref 100), (1, .int a), (2, .int b), (3, .int c), (4, .int i), (5, .int j)] [.int b, .ref 100] (g_X12_push a S) R _
    refine u_cv (rest := []) rfl (by decide) mt_X12_push v_tyM rfl rfl rfl (Nat.le_of_ble_eq_true rfl) (Nat.le_of_ble_eq_true rfl) (Nat.le_of_ble_eq_true rfl) (fun d' => c_X12_push L xs n d' b (g_X12_push a S) R) ?_
    rintro _ _ _ ⟨rfl, rfl, rfl⟩
    refine u_st rfl (fun _ => rfl) ?_
    refine u_st rfl (fun _ => rfl) ?_
    show u_P L xs n d m_X12_feed 27 [(0, .ref 100), (1, .int a), (2, .int b), (3, .int c), (4, .int i), (5, .int j)] [.int c, .ref 100] (g_X12_push b (g_X12_push a S)) R _
    refine u_cv (rest := []) rfl (by decide) mt_X12_push v_tyM rfl rfl rfl (Nat.le_of_ble_eq_true rfl) (Nat.le_of_ble_eq_true rfl) (Nat.le_of_ble_eq_true rfl) (fun d' => c_X12_push L xs n d' c (g_X12_push b (g_X12_push a S)) R) ?_
    rintro _ _ _ ⟨rfl, rfl, rfl⟩
    refine u_st rfl (fun _ => rfl) ?_
    refine u_st rfl (fun _ => rfl) ?_
    show u_P L xs n d m_X12_feed 33 [(0, .ref 100), (1, .int a), (2, .int b), (3, .int c), (4, .int i), (5, .int j)] [.int i, .ref 100] (g_X12_push c (g_X12_push b (g_X12_push a S))) R _
    refine u_cv (rest := []) rfl (by decide) mt_X12_push v_tyM rfl rfl rfl (Nat.le_of_ble_eq_true rfl) (Nat.le_of_ble_eq_true rfl) (Nat.le_of_ble_eq_true rfl) (fun d' => c_X12_push L xs n d' i (g_X12_push c (g_X12_push b (g_X12_push a S))) R) ?_
    rintro _ _ _ ⟨rfl, rfl, rfl⟩
    refine u_st rfl (fun _ => rfl) ?_
    refine u_st rfl (fun _ => rfl) ?_
    show u_P L xs n d m_X12_feed 39 [(0, .ref 100), (1, .int a), (2, .int b), (3, .int c), (4, .int i), (5, .int j)] [.int j, .ref 100] (g_X12_push i (g_X12_push c (g_X12_push b (g_X12_push a S)))) R _
    refine u_cv (rest := []) rfl (by decide) mt_X12_push v_tyM rfl rfl rfl (Nat.le_of_ble_eq_true rfl) (Nat.le_of_ble_eq_true rfl) (Nat.le_of_ble_eq_true rfl) (fun d' => c_X12_push L xs n d' j (g_X12_push i (g_X12_push c (g_X12_push b (g_X12_push a S)))) R) ?_
    rintro _ _ _ ⟨rfl, rfl, rfl⟩
    refine u_st rfl (fun _ => rfl) ?_
    show u_P L xs n d m_X12_feed 43 [(0, .ref 100), (1, .int a), (2, .int b), (3, .int c), (4, .int i), (5, .int j)] [.ref 100] (g_X12_push j (g_X12_push i (g_X12_push c (g_X12_push b (g_X12_push a S))))) R _
    refine u_getE (v := (g_X12_push j (g_X12_push i (g_X12_push c (g_X12_push b (g_X12_push a S))))) 99 1) rfl v_tyM rfl rfl ?_
    show u_P L xs n d m_X12_feed 46 [(0, .ref 100), (1, .int a), (2, .int b), (3, .int c), (4, .int i), (5, .int j)] [.int ((g_X12_push j (g_X12_push i (g_X12_push c (g_X12_push b (g_X12_push a S))))) 99 1)] (g_X12_push j (g_X12_push i (g_X12_push c (g_X12_push b (g_X12_push a S))))) R _
    exact u_ret rfl rfl ⟨_, rfl, rfl, by rw [f_X12_feed, if_pos h1], by rw [g_X12_feed, if_pos h1]⟩
  · show u_P L xs n d m_X12_feed 13 [(0, .ref 100), (1, .int a), (2, .int b), (3, .int c), (4, .int i), (5, .int j)] [] S R _
    refine u_st rfl (fun _ => rfl) ?_
    show u_P L xs n d m_X12_feed 14 [(0, .ref 100), (1, .int a), (2, .int b), (3, .int c), (4, .int i), (5, .int j)] [.int (Int32.ofInt (-1))] S R _
    exact u_ret rfl rfl ⟨_, rfl, rfl, by rw [f_X12_feed, if_neg h1], by rw [g_X12_feed, if_neg h1]⟩
noncomputable def D_X12_works_5  (H5 : Int32 → Int32 → Int32 → v_Sf → Prop) (K : v_Sf → Prop) (x2 : Int32) (x3 : Int32) (x4 : Int32) (S : v_Sf) : Prop := ((x2 ≤ x4 → K S) ∧ (¬ (x2 ≤ x4) → (0 ≤ x4.toInt → x4.toInt < 480 → (((S 105 x4.toInt.toNat) ≤ (Int32.ofInt 2) → (0 ≤ x4.toInt → x4.toInt < 480 → (((¬ (S 105 x4.toInt.toNat) = (Int32.ofInt 2)) → (0 ≤ x3.toInt → x3.toInt < 240 → (0 ≤ x4.toInt → x4.toInt < 480 → (((¬ (S 105 x4.toInt.toNat) = 0) → (0 ≤ x4.toInt → x4.toInt < 480 → (0 ≤ x3.toInt → x3.toInt < 240 → H5 x2 (x3 + (Int32.ofInt 1)) (x4 + (Int32.ofInt 1)) (z_s (z_s S 115 x3.toInt.toNat (u_nar 2 (Int32.ofInt 0))) 114 x3.toInt.toNat (f_X12_valueOf (S 106 x4.toInt.toNat) (z_s S 115 x3.toInt.toNat (u_nar 2 (Int32.ofInt 0)))))))) ∧ (¬ (¬ (S 105 x4.toInt.toNat) = 0) → (0 ≤ x4.toInt → x4.toInt < 480 → (0 ≤ x3.toInt → x3.toInt < 240 → H5 x2 (x3 + (Int32.ofInt 1)) (x4 + (Int32.ofInt 1)) (z_s (z_s S 115 x3.toInt.toNat (u_nar 2 (Int32.ofInt 0))) 114 x3.toInt.toNat (S 106 x4.toInt.toNat))))))))) ∧ (¬ (¬ (S 105 x4.toInt.toNat) = (Int32.ofInt 2)) → (0 ≤ (x3 - (Int32.ofInt 1)).toInt → (x3 - (Int32.ofInt 1)).toInt < 240 → (0 ≤ (x3 - (Int32.ofInt 1)).toInt → (x3 - (Int32.ofInt 1)).toInt < 240 → H5 x2 x3 (x4 + (Int32.ofInt 1)) (z_s S 114 ((x3 - (Int32.ofInt 1)).toInt.toNat) ((Int32.ofInt 1) - (S 114 ((x3 - (Int32.ofInt 1)).toInt.toNat)))))))))) ∧ (¬ ((S 105 x4.toInt.toNat) ≤ (Int32.ofInt 2)) → (0 ≤ x4.toInt → x4.toInt < 480 → H5 x2 (x3 + (Int32.ofInt (-1))) (x4 + (Int32.ofInt 1)) (g_X12_does (S 105 x4.toInt.toNat) ((x3 + (Int32.ofInt (-1))) - (Int32.ofInt 1)) S)))))))
noncomputable def D_X12_works (a : Int32) (b : Int32) (H5 : Int32 → Int32 → Int32 → v_Sf → Prop) (K : v_Sf → Prop) (S : v_Sf) : Prop := H5 b (Int32.ofInt 0) a S
set_option maxRecDepth 4000 in
theorem hd_X12_works (L : Nat) (xs : Nat → Int32) {R : v_Rf} (a : Int32) (b : Int32) (H5 : Int32 → Int32 → Int32 → v_Sf → Prop) (K : v_Sf → Prop) (k5 : ∀ (x2 : Int32) (x3 : Int32) (x4 : Int32) (S : v_Sf), H5 x2 x3 x4 S → D_X12_works_5 H5 K x2 x3 x4 S) : ∀ n, (∀ (d : Nat) (j1 : Int32) (x2 : Int32) (x3 : Int32) (x4 : Int32) (S : v_Sf), H5 x2 x3 x4 S → u_P L xs n d m_X12_works 5 [(0, .ref 100), (1, .int j1), (2, .int x2), (3, .int x3), (4, .int x4)] [] S R (z_V R K)) := by
  intro n
  induction n using Nat.strongRecOn with
  | ind n ih =>
    intro d j1 x2 x3 x4 S hD
    have hD := k5 x2 x3 x4 S hD
    unfold D_X12_works_5 at hD
    show u_P L xs n d m_X12_works 5 [(0, .ref 100), (1, .int j1), (2, .int x2), (3, .int x3), (4, .int x4)] [] S R _
    refine u_st1 rfl (fun _ => rfl) (fun m hm => ?_)
    refine u_st rfl (fun _ => rfl) ?_
    show u_P L xs m d m_X12_works 8 [(0, .ref 100), (1, .int j1), (2, .int x2), (3, .int x3), (4, .int x4)] [.int x2, .int x4] S R _
    refine u_ic_ge rfl (fun h1 => ?_) (fun h1 => ?_)
    · have hD := hD.1 h1
      show u_P L xs m d m_X12_works 127 [(0, .ref 100), (1, .int j1), (2, .int x2), (3, .int x3), (4, .int x4)] [] S R _
      exact u_ret rfl rfl ⟨rfl, rfl, hD⟩
    · have hD := hD.2 h1
      show u_P L xs m d m_X12_works 11 [(0, .ref 100), (1, .int j1), (2, .int x2), (3, .int x3), (4, .int x4)] [] S R _
      refine u_st rfl (fun _ => rfl) ?_
      show u_P L xs m d m_X12_works 12 [(0, .ref 100), (1, .int j1), (2, .int x2), (3, .int x3), (4, .int x4)] [.ref 100] S R _
      refine u_getr rfl v_tyM rfl ?_
      refine u_st rfl (fun _ => rfl) ?_
      show u_P L xs m d m_X12_works 17 [(0, .ref 100), (1, .int j1), (2, .int x2), (3, .int x3), (4, .int x4)] [.int x4, .ref 106] S R _
      refine u_ialdE (v := S 105 x4.toInt.toNat) rfl rfl rfl (fun b21 b22 => ?_)
      have hD := hD b21 b22
      show u_P L xs m d m_X12_works 18 [(0, .ref 100), (1, .int j1), (2, .int x2), (3, .int x3), (4, .int x4)] [.int (S 105 x4.toInt.toNat)] S R _
      refine u_st rfl (fun _ => rfl) ?_
      show u_P L xs m d m_X12_works 19 [(0, .ref 100), (1, .int j1), (2, .int x2), (3, .int x3), (4, .int x4)] [.int (Int32.ofInt 2), .int (S 105 x4.toInt.toNat)] S R _
      refine u_ic_le rfl (fun h3 => ?_) (fun h3 => ?_)
      · have hD := hD.1 h3
        show u_P L xs m d m_X12_works 42 [(0, .ref 100), (1, .int j1), (2, .int x2), (3, .int x3), (4, .int x4)] [] S R _
        refine u_st rfl (fun _ => rfl) ?_
        show u_P L xs m d m_X12_works 43 [(0, .ref 100), (1, .int j1), (2, .int x2), (3, .int x3), (4, .int x4)] [.ref 100] S R _
        refine u_getr rfl v_tyM rfl ?_
        refine u_st rfl (fun _ => rfl) ?_
        show u_P L xs m d m_X12_works 48 [(0, .ref 100), (1, .int j1), (2, .int x2), (3, .int x3), (4, .int x4)] [.int x4, .ref 106] S R _
        refine u_ialdE (v := S 105 x4.toInt.toNat) rfl rfl rfl (fun b41 b42 => ?_)
        have hD := hD b41 b42
        show u_P L xs m d m_X12_works 49 [(0, .ref 100), (1, .int j1), (2, .int x2), (3, .int x3), (4, .int x4)] [.int (S 105 x4.toInt.toNat)] S R _
        refine u_st rfl (fun _ => rfl) ?_
        show u_P L xs m d m_X12_works 50 [(0, .ref 100), (1, .int j1), (2, .int x2), (3, .int x3), (4, .int x4)] [.int (Int32.ofInt 2), .int (S 105 x4.toInt.toNat)] S R _
        refine u_ic_ne rfl (fun h5 => ?_) (fun h5 => ?_)
        · have hD := hD.1 h5
          show u_P L xs m d m_X12_works 74 [(0, .ref 100), (1, .int j1), (2, .int x2), (3, .int x3), (4, .int x4)] [] S R _
          refine u_st rfl (fun _ => rfl) ?_
          show u_P L xs m d m_X12_works 75 [(0, .ref 100), (1, .int j1), (2, .int x2), (3, .int x3), (4, .int x4)] [.ref 100] S R _
          refine u_getr rfl v_tyM rfl ?_
          refine u_st rfl (fun _ => rfl) ?_
          refine u_st rfl (fun _ => rfl) ?_
          show u_P L xs m d m_X12_works 80 [(0, .ref 100), (1, .int j1), (2, .int x2), (3, .int x3), (4, .int x4)] [.int (Int32.ofInt 0), .int x3, .ref 116] S R _
          refine u_bast rfl rfl (by decide) (fun b61 b62 => ?_)
          have hD := hD b61 b62
          show u_P L xs m d m_X12_works 81 [(0, .ref 100), (1, .int j1), (2, .int x2), (3, .int x3), (4, .int x4)] [] (z_s S 115 x3.toInt.toNat (u_nar 2 (Int32.ofInt 0))) R _
          refine u_st rfl (fun _ => rfl) ?_
          show u_P L xs m d m_X12_works 82 [(0, .ref 100), (1, .int j1), (2, .int x2), (3, .int x3), (4, .int x4)] [.ref 100] (z_s S 115 x3.toInt.toNat (u_nar 2 (Int32.ofInt 0))) R _
          refine u_getr rfl v_tyM rfl ?_
          refine u_st rfl (fun _ => rfl) ?_
          refine u_st rfl (fun _ => rfl) ?_
          show u_P L xs m d m_X12_works 87 [(0, .ref 100), (1, .int j1), (2, .int x2), (3, .int x3), (4, .int x4)] [.ref 100, .int x3, .ref 115] (z_s S 115 x3.toInt.toNat (u_nar 2 (Int32.ofInt 0))) R _
          refine u_getr rfl v_tyM rfl ?_
          refine u_st rfl (fun _ => rfl) ?_
          show u_P L xs m d m_X12_works 92 [(0, .ref 100), (1, .int j1), (2, .int x2), (3, .int x3), (4, .int x4)] [.int x4, .ref 106, .int x3, .ref 115] (z_s S 115 x3.toInt.toNat (u_nar 2 (Int32.ofInt 0))) R _
          refine u_ialdE (v := S 105 x4.toInt.toNat) rfl rfl (z_sn (fun h => absurd h.1 (by decide))) (fun b71 b72 => ?_)
          have hD := hD b71 b72
          show u_P L xs m d m_X12_works 93 [(0, .ref 100), (1, .int j1), (2, .int x2), (3, .int x3), (4, .int x4)] [.int (S 105 x4.toInt.toNat), .int x3, .ref 115] (z_s S 115 x3.toInt.toNat (u_nar 2 (Int32.ofInt 0))) R _
          refine u_if_ne rfl (fun h8 => ?_) (fun h8 => ?_)
          · have hD := hD.1 h8
            show u_P L xs m d m_X12_works 106 [(0, .ref 100), (1, .int j1), (2, .int x2), (3, .int x3), (4, .int x4)] [.int x3, .ref 115] (z_s S 115 x3.toInt.toNat (u_nar 2 (Int32.ofInt 0))) R _
            refine u_st rfl (fun _ => rfl) ?_
            refine u_st rfl (fun _ => rfl) ?_
            show u_P L xs m d m_X12_works 108 [(0, .ref 100), (1, .int j1), (2, .int x2), (3, .int x3), (4, .int x4)] [.ref 100, .ref 100, .int x3, .ref 115] (z_s S 115 x3.toInt.toNat (u_nar 2 (Int32.ofInt 0))) R _
            refine u_getr rfl v_tyM rfl ?_
            refine u_st rfl (fun _ => rfl) ?_
            show u_P L xs m d m_X12_works 113 [(0, .ref 100), (1, .int j1), (2, .int x2), (3, .int x3), (4, .int x4)] [.int x4, .ref 107, .ref 100, .int x3, .ref 115] (z_s S 115 x3.toInt.toNat (u_nar 2 (Int32.ofInt 0))) R _
            refine u_ialdE (v := S 106 x4.toInt.toNat) rfl rfl (z_sn (fun h => absurd h.1 (by decide))) (fun b91 b92 => ?_)
            have hD := hD b91 b92
            show u_P L xs m d m_X12_works 114 [(0, .ref 100), (1, .int j1), (2, .int x2), (3, .int x3), (4, .int x4)] [.int (S 106 x4.toInt.toNat), .ref 100, .int x3, .ref 115] (z_s S 115 x3.toInt.toNat (u_nar 2 (Int32.ofInt 0))) R _
            refine u_cv (rest := [.int x3, .ref 115]) rfl (by decide) mt_X12_valueOf v_tyM rfl rfl rfl (Nat.le_of_ble_eq_true rfl) (Nat.le_of_ble_eq_true rfl) (Nat.le_of_ble_eq_true rfl) (fun d' => c_X12_valueOf L xs m d' (S 106 x4.toInt.toNat) (z_s S 115 x3.toInt.toNat (u_nar 2 (Int32.ofInt 0))) R) ?_
            rintro _ _ _ ⟨_, rfl, rfl, rfl, rfl⟩
            show u_P L xs m d m_X12_works 117 [(0, .ref 100), (1, .int j1), (2, .int x2), (3, .int x3), (4, .int x4)] [.int (f_X12_valueOf (S 106 x4.toInt.toNat) (z_s S 115 x3.toInt.toNat (u_nar 2 (Int32.ofInt 0)))), .int x3, .ref 115] (z_s S 115 x3.toInt.toNat (u_nar 2 (Int32.ofInt 0))) R _
            refine u_iast rfl rfl (fun b101 b102 => ?_)
            have hD := hD b101 b102
            show u_P L xs m d m_X12_works 118 [(0, .ref 100), (1, .int j1), (2, .int x2), (3, .int x3), (4, .int x4)] [] (z_s (z_s S 115 x3.toInt.toNat (u_nar 2 (Int32.ofInt 0))) 114 x3.toInt.toNat (f_X12_valueOf (S 106 x4.toInt.toNat) (z_s S 115 x3.toInt.toNat (u_nar 2 (Int32.ofInt 0))))) R _
            refine u_st rfl (fun _ => rfl) ?_
            refine u_st rfl (fun _ => rfl) ?_
            refine u_st rfl (fun _ => rfl) ?_
            refine u_lc (b := [(0, .ref 100), (1, .int j1), (2, .int x2), (3, .int (x3 + (Int32.ofInt 1))), (4, .int (x4 + (Int32.ofInt 1)))]) (show ([4, 3, 0, 1, 2] : List Nat).Nodup by decide) (show ([0, 1, 2, 3, 4] : List Nat).Nodup by decide) (fun i => match i with | 0 => rfl | 1 => rfl | 2 => rfl | 3 => rfl | 4 => rfl | _ + 5 => rfl) ?_
            exact (ih m hm) d j1 x2 (x3 + (Int32.ofInt 1)) (x4 + (Int32.ofInt 1)) (z_s (z_s S 115 x3.toInt.toNat (u_nar 2 (Int32.ofInt 0))) 114 x3.toInt.toNat (f_X12_valueOf (S 106 x4.toInt.toNat) (z_s S 115 x3.toInt.toNat (u_nar 2 (Int32.ofInt 0))))) hD
          · have hD := hD.2 h8
            show u_P L xs m d m_X12_works 96 [(0, .ref 100), (1, .int j1), (2, .int x2), (3, .int x3), (4, .int x4)] [.int x3, .ref 115] (z_s S 115 x3.toInt.toNat (u_nar 2 (Int32.ofInt 0))) R _
            refine u_st rfl (fun _ => rfl) ?_
            show u_P L xs m d m_X12_works 97 [(0, .ref 100), (1, .int j1), (2, .int x2), (3, .int x3), (4, .int x4)] [.ref 100, .int x3, .ref 115] (z_s S 115 x3.toInt.toNat (u_nar 2 (Int32.ofInt 0))) R _
            refine u_getr rfl v_tyM rfl ?_
            refine u_st rfl (fun _ => rfl) ?_
            show u_P L xs m d m_X12_works 102 [(0, .ref 100), (1, .int j1), (2, .int x2), (3, .int x3), (4, .int x4)] [.int x4, .ref 107, .int x3, .ref 115] (z_s S 115 x3.toInt.toNat (u_nar 2 (Int32.ofInt 0))) R _
            refine u_ialdE (v := S 106 x4.toInt.toNat) rfl rfl (z_sn (fun h => absurd h.1 (by decide))) (fun b111 b112 => ?_)
            have hD := hD b111 b112
            show u_P L xs m d m_X12_works 103 [(0, .ref 100), (1, .int j1), (2, .int x2), (3, .int x3), (4, .int x4)] [.int (S 106 x4.toInt.toNat), .int x3, .ref 115] (z_s S 115 x3.toInt.toNat (u_nar 2 (Int32.ofInt 0))) R _
            refine u_st rfl (fun _ => rfl) ?_
            show u_P L xs m d m_X12_works 117 [(0, .ref 100), (1, .int j1), (2, .int x2), (3, .int x3), (4, .int x4)] [.int (S 106 x4.toInt.toNat), .int x3, .ref 115] (z_s S 115 x3.toInt.toNat (u_nar 2 (Int32.ofInt 0))) R _
            refine u_iast rfl rfl (fun b121 b122 => ?_)
            have hD := hD b121 b122
            show u_P L xs m d m_X12_works 118 [(0, .ref 100), (1, .int j1), (2, .int x2), (3, .int x3), (4, .int x4)] [] (z_s (z_s S 115 x3.toInt.toNat (u_nar 2 (Int32.ofInt 0))) 114 x3.toInt.toNat (S 106 x4.toInt.toNat)) R _
            refine u_st rfl (fun _ => rfl) ?_
            refine u_st rfl (fun _ => rfl) ?_
            refine u_st rfl (fun _ => rfl) ?_
            refine u_lc (b := [(0, .ref 100), (1, .int j1), (2, .int x2), (3, .int (x3 + (Int32.ofInt 1))), (4, .int (x4 + (Int32.ofInt 1)))]) (show ([4, 3, 0, 1, 2] : List Nat).Nodup by decide) (show ([0, 1, 2, 3, 4] : List Nat).Nodup by decide) (fun i => match i with | 0 => rfl | 1 => rfl | 2 => rfl | 3 => rfl | 4 => rfl | _ + 5 => rfl) ?_
            exact (ih m hm) d j1 x2 (x3 + (Int32.ofInt 1)) (x4 + (Int32.ofInt 1)) (z_s (z_s S 115 x3.toInt.toNat (u_nar 2 (Int32.ofInt 0))) 114 x3.toInt.toNat (S 106 x4.toInt.toNat)) hD
        · have hD := hD.2 h5
          show u_P L xs m d m_X12_works 53 [(0, .ref 100), (1, .int j1), (2, .int x2), (3, .int x3), (4, .int x4)] [] S R _
          refine u_st rfl (fun _ => rfl) ?_
          show u_P L xs m d m_X12_works 54 [(0, .ref 100), (1, .int j1), (2, .int x2), (3, .int x3), (4, .int x4)] [.ref 100] S R _
          refine u_getr rfl v_tyM rfl ?_
          refine u_st rfl (fun _ => rfl) ?_
          refine u_st rfl (fun _ => rfl) ?_
          refine u_st rfl (fun _ => rfl) ?_
          refine u_st rfl (fun _ => rfl) ?_
          refine u_st rfl (fun _ => rfl) ?_
          show u_P L xs m d m_X12_works 62 [(0, .ref 100), (1, .int j1), (2, .int x2), (3, .int x3), (4, .int x4)] [.ref 100, .int (Int32.ofInt 1), .int (x3 - (Int32.ofInt 1)), .ref 115] S R _
          refine u_getr rfl v_tyM rfl ?_
          refine u_st rfl (fun _ => rfl) ?_
          refine u_st rfl (fun _ => rfl) ?_
          refine u_st rfl (fun _ => rfl) ?_
          show u_P L xs m d m_X12_works 68 [(0, .ref 100), (1, .int j1), (2, .int x2), (3, .int x3), (4, .int x4)] [.int (x3 - (Int32.ofInt 1)), .ref 115, .int (Int32.ofInt 1), .int (x3 - (Int32.ofInt 1)), .ref 115] S R _
          refine u_ialdE (v := S 114 ((x3 - (Int32.ofInt 1)).toInt.toNat)) rfl rfl rfl (fun b131 b132 => ?_)
          have hD := hD b131 b132
          show u_P L xs m d m_X12_works 69 [(0, .ref 100), (1, .int j1), (2, .int x2), (3, .int x3), (4, .int x4)] [.int (S 114 ((x3 - (Int32.ofInt 1)).toInt.toNat)), .int (Int32.ofInt 1), .int (x3 - (Int32.ofInt 1)), .ref 115] S R _
          refine u_st rfl (fun _ => rfl) ?_
          show u_P L xs m d m_X12_works 70 [(0, .ref 100), (1, .int j1), (2, .int x2), (3, .int x3), (4, .int x4)] [.int ((Int32.ofInt 1) - (S 114 ((x3 - (Int32.ofInt 1)).toInt.toNat))), .int (x3 - (Int32.ofInt 1)), .ref 115] S R _
          refine u_iast rfl rfl (fun b141 b142 => ?_)
          have hD := hD b141 b142
          show u_P L xs m d m_X12_works 71 [(0, .ref 100), (1, .int j1), (2, .int x2), (3, .int x3), (4, .int x4)] [] (z_s S 114 ((x3 - (Int32.ofInt 1)).toInt.toNat) ((Int32.ofInt 1) - (S 114 ((x3 - (Int32.ofInt 1)).toInt.toNat)))) R _
          refine u_st rfl (fun _ => rfl) ?_
          refine u_st rfl (fun _ => rfl) ?_
          refine u_st rfl (fun _ => rfl) ?_
          refine u_lc (b := [(0, .ref 100), (1, .int j1), (2, .int x2), (3, .int x3), (4, .int (x4 + (Int32.ofInt 1)))]) (show ([4, 0, 1, 2, 3] : List Nat).Nodup by decide) (show ([0, 1, 2, 3, 4] : List Nat).Nodup by decide) (fun i => match i with | 0 => rfl | 1 => rfl | 2 => rfl | 3 => rfl | 4 => rfl | _ + 5 => rfl) ?_
          exact (ih m hm) d j1 x2 x3 (x4 + (Int32.ofInt 1)) (z_s S 114 ((x3 - (Int32.ofInt 1)).toInt.toNat) ((Int32.ofInt 1) - (S 114 ((x3 - (Int32.ofInt 1)).toInt.toNat)))) hD
      · have hD := hD.2 h3
        show u_P L xs m d m_X12_works 22 [(0, .ref 100), (1, .int j1), (2, .int x2), (3, .int x3), (4, .int x4)] [] S R _
        refine u_st rfl (fun _ => rfl) ?_
        refine u_st rfl (fun _ => rfl) ?_
        refine u_st rfl (fun _ => rfl) ?_
        show u_P L xs m d m_X12_works 27 [(3, .int (x3 + (Int32.ofInt (-1)))), (0, .ref 100), (1, .int j1), (2, .int x2), (4, .int x4)] [.ref 100, .ref 100] S R _
        refine u_getr rfl v_tyM rfl ?_
        refine u_st rfl (fun _ => rfl) ?_
        show u_P L xs m d m_X12_works 32 [(3, .int (x3 + (Int32.ofInt (-1)))), (0, .ref 100), (1, .int j1), (2, .int x2), (4, .int x4)] [.int x4, .ref 106, .ref 100] S R _
        refine u_ialdE (v := S 105 x4.toInt.toNat) rfl rfl rfl (fun b151 b152 => ?_)
        have hD := hD b151 b152
        show u_P L xs m d m_X12_works 33 [(3, .int (x3 + (Int32.ofInt (-1)))), (0, .ref 100), (1, .int j1), (2, .int x2), (4, .int x4)] [.int (S 105 x4.toInt.toNat), .ref 100] S R _
        refine u_st rfl (fun _ => rfl) ?_
        refine u_st rfl (fun _ => rfl) ?_
        refine u_st rfl (fun _ => rfl) ?_
        show u_P L xs m d m_X12_works 36 [(3, .int (x3 + (Int32.ofInt (-1)))), (0, .ref 100), (1, .int j1), (2, .int x2), (4, .int x4)] [.int ((x3 + (Int32.ofInt (-1))) - (Int32.ofInt 1)), .int (S 105 x4.toInt.toNat), .ref 100] S R _
        refine u_cv (rest := []) rfl (by decide) mt_X12_does v_tyM rfl rfl rfl (Nat.le_of_ble_eq_true rfl) (Nat.le_of_ble_eq_true rfl) (Nat.le_of_ble_eq_true rfl) (fun d' => c_X12_does L xs m d' (S 105 x4.toInt.toNat) ((x3 + (Int32.ofInt (-1))) - (Int32.ofInt 1)) S R) ?_
        rintro _ _ _ ⟨rfl, rfl, rfl⟩
        refine u_st rfl (fun _ => rfl) ?_
        refine u_st rfl (fun _ => rfl) ?_
        refine u_st rfl (fun _ => rfl) ?_
        refine u_lc (b := [(0, .ref 100), (1, .int j1), (2, .int x2), (3, .int (x3 + (Int32.ofInt (-1)))), (4, .int (x4 + (Int32.ofInt 1)))]) (show ([4, 3, 0, 1, 2] : List Nat).Nodup by decide) (show ([0, 1, 2, 3, 4] : List Nat).Nodup by decide) (fun i => match i with | 0 => rfl | 1 => rfl | 2 => rfl | 3 => rfl | 4 => rfl | _ + 5 => rfl) ?_
        exact (ih m hm) d j1 x2 (x3 + (Int32.ofInt (-1))) (x4 + (Int32.ofInt 1)) (g_X12_does (S 105 x4.toInt.toNat) ((x3 + (Int32.ofInt (-1))) - (Int32.ofInt 1)) S) hD
set_option maxRecDepth 4000 in
theorem w_X12_works (L : Nat) (xs : Nat → Int32) {R : v_Rf} (a : Int32) (b : Int32) (H5 : Int32 → Int32 → Int32 → v_Sf → Prop) (K : v_Sf → Prop) (k5 : ∀ (x2 : Int32) (x3 : Int32) (x4 : Int32) (S : v_Sf), H5 x2 x3 x4 S → D_X12_works_5 H5 K x2 x3 x4 S) (n d : Nat) (S : v_Sf) (hD : D_X12_works a b H5 K S) : u_P L xs n d m_X12_works 0 (lv_args 0 [.ref 100, .int a, .int b]) [] S R (z_V R K) := by
  unfold D_X12_works at hD
  show u_P L xs n d m_X12_works 0 [(0, .ref 100), (1, .int a), (2, .int b)] [] S R _
  refine u_st rfl (fun _ => rfl) ?_
  refine u_st rfl (fun _ => rfl) ?_
  refine u_st rfl (fun _ => rfl) ?_
  refine u_st rfl (fun _ => rfl) ?_
  refine u_lc (b := [(0, .ref 100), (1, .int a), (2, .int b), (3, .int (Int32.ofInt 0)), (4, .int a)]) (show ([4, 3, 0, 1, 2] : List Nat).Nodup by decide) (show ([0, 1, 2, 3, 4] : List Nat).Nodup by decide) (fun i => match i with | 0 => rfl | 1 => rfl | 2 => rfl | 3 => rfl | 4 => rfl | _ + 5 => rfl) ?_
  exact (hd_X12_works L xs a b H5 K k5 n) d a b (Int32.ofInt 0) a S hD
noncomputable def r_X12_works_5 (x2 : Int32) : Nat → Int32 → Int32 → v_Sf → v_Sf
  | 0, x3, x4, S => S
  | r + 1, x3, x4, S => (if (S 105 x4.toInt.toNat) ≤ (Int32.ofInt 2) then (if ¬ (S 105 x4.toInt.toNat) = (Int32.ofInt 2) then (if ¬ (S 105 x4.toInt.toNat) = 0 then r_X12_works_5 x2 r (x3 + (Int32.ofInt 1)) (x4 + (Int32.ofInt 1)) (z_s (z_s S 115 x3.toInt.toNat (u_nar 2 (Int32.ofInt 0))) 114 x3.toInt.toNat (f_X12_valueOf (S 106 x4.toInt.toNat) (z_s S 115 x3.toInt.toNat (u_nar 2 (Int32.ofInt 0))))) else r_X12_works_5 x2 r (x3 + (Int32.ofInt 1)) (x4 + (Int32.ofInt 1)) (z_s (z_s S 115 x3.toInt.toNat (u_nar 2 (Int32.ofInt 0))) 114 x3.toInt.toNat (S 106 x4.toInt.toNat))) else r_X12_works_5 x2 r x3 (x4 + (Int32.ofInt 1)) (z_s S 114 ((x3 - (Int32.ofInt 1)).toInt.toNat) ((Int32.ofInt 1) - (S 114 ((x3 - (Int32.ofInt 1)).toInt.toNat))))) else r_X12_works_5 x2 r (x3 + (Int32.ofInt (-1))) (x4 + (Int32.ofInt 1)) (g_X12_does (S 105 x4.toInt.toNat) ((x3 + (Int32.ofInt (-1))) - (Int32.ofInt 1)) S))
noncomputable def F_X12_works (a : Int32) (b : Int32) (S : v_Sf) : v_Sf := r_X12_works_5 b (b.toInt - a.toInt).toNat (Int32.ofInt 0) a S
noncomputable def g_X12_works (a : Int32) (b : Int32) (S : v_Sf) : v_Sf := F_X12_works a b S
theorem c_X12_works (L : Nat) (xs : Nat → Int32) (n d : Nat) (a : Int32) (b : Int32) (S : v_Sf) (R : v_Rf) : u_P L xs n d m_X12_works 0 (lv_args 0 [.ref 100, .int a, .int b]) [] S R (z_V R (fun S1 => g_X12_works a b S = S1)) := by
  refine w_X12_works L xs a b (fun y2 y3 y4 T => b = y2 ∧ r_X12_works_5 b (b.toInt - y4.toInt).toNat y3 y4 T = F_X12_works a b S) (fun S1 => g_X12_works a b S = S1) ?_ n d S ?_
  · rintro _ x3 x4 S1 ⟨rfl, e⟩
    unfold D_X12_works_5
    rcases Classical.em (b ≤ x4) with hk | hk
    · rw [z_rem0 hk, r_X12_works_5] at e
      refine ⟨fun q1 => ?_, fun q1 => ?_⟩
      · exact e.symm
      · exact absurd hk q1
    · rw [z_rem hk, r_X12_works_5] at e
      refine ⟨fun q2 => ?_, fun q2 => ?_⟩
      · exact absurd q2 hk
      · intro _ _
        refine ⟨fun q3 => ?_, fun q3 => ?_⟩
        · intro _ _
          refine ⟨fun q4 => ?_, fun q4 => ?_⟩
          · intro _ _
            intro _ _
            refine ⟨fun q5 => ?_, fun q5 => ?_⟩
            · intro _ _
              intro _ _
              rw [if_pos q3, if_pos q4, if_pos q5] at e
              exact ⟨rfl, e⟩
            · intro _ _
              intro _ _
              rw [if_pos q3, if_pos q4, if_neg q5] at e
              exact ⟨rfl, e⟩
          · intro _ _
            intro _ _
            rw [if_pos q3, if_neg q4] at e
            exact ⟨rfl, e⟩
        · intro _ _
          rw [if_neg q3] at e
          exact ⟨rfl, e⟩
  · unfold D_X12_works
    have e : r_X12_works_5 b (b.toInt - a.toInt).toNat (Int32.ofInt 0) a S = F_X12_works a b S := by rw [F_X12_works]
    exact ⟨rfl, e⟩
noncomputable abbrev m_X12_isSo : g_M := (g_cn 12, yX12_isSo, cX12_isSo, 2, (some .boolean), g_look2 ttX12_isSo)
set_option maxRecDepth 20000 in
theorem mt_X12_isSo : g_mt 199 = some m_X12_isSo := rfl
noncomputable def f_X12_isSo (k : Int32) (S : v_Sf) : Int32 := (if ¬ ((g_X12_works (S 103 k.toInt.toNat) (S 104 k.toInt.toNat) S) 115 0) = 0 then Int32.ofInt 0 else (if ¬ ((g_X12_works (S 103 k.toInt.toNat) (S 104 k.toInt.toNat) S) 114 0) = (Int32.ofInt 1) then Int32.ofInt 0 else Int32.ofInt 1))
noncomputable def g_X12_isSo (k : Int32) (S : v_Sf) : v_Sf := g_X12_works (S 103 k.toInt.toNat) (S 104 k.toInt.toNat) S
set_option maxRecDepth 4000 in
theorem c_X12_isSo (L : Nat) (xs : Nat → Int32) (n d : Nat) (k : Int32) (S : v_Sf) (R : v_Rf) : u_P L xs n d m_X12_isSo 0 (lv_args 0 [.ref 100, .int k]) [] S R (z_Q R (fun v S1 => f_X12_isSo k S = v ∧ g_X12_isSo k S = S1 ∧ 0 ≤ k.toInt ∧ k.toInt < 28)) := by
  show u_P L xs n d m_X12_isSo 0 [(0, .ref 100), (1, .int k)] [] S R _
  refine u_st rfl (fun _ => rfl) ?_
  refine u_st rfl (fun _ => rfl) ?_
  show u_P L xs n d m_X12_isSo 2 [(0, .ref 100), (1, .int k)] [.ref 100, .ref 100] S R _
  refine u_getr rfl v_tyM rfl ?_
  refine u_st rfl (fun _ => rfl) ?_
  show u_P L xs n d m_X12_isSo 6 [(0, .ref 100), (1, .int k)] [.int k, .ref 104, .ref 100] S R _
  refine u_ialdE (v := S 103 k.toInt.toNat) rfl rfl rfl (fun b11 b12 => ?_)
  refine u_st rfl (fun _ => rfl) ?_
  show u_P L xs n d m_X12_isSo 8 [(0, .ref 100), (1, .int k)] [.ref 100, .int (S 103 k.toInt.toNat), .ref 100] S R _
  refine u_getr rfl v_tyM rfl ?_
  refine u_st rfl (fun _ => rfl) ?_
  show u_P L xs n d m_X12_isSo 12 [(0, .ref 100), (1, .int k)] [.int k, .ref 105, .int (S 103 k.toInt.toNat), .ref 100] S R _
  refine u_ialdE (v := S 104 k.toInt.toNat) rfl rfl rfl (fun b21 b22 => ?_)
  show u_P L xs n d m_X12_isSo 13 [(0, .ref 100), (1, .int k)] [.int (S 104 k.toInt.toNat), .int (S 103 k.toInt.toNat), .ref 100] S R _
  refine u_cv (rest := []) rfl (by decide) mt_X12_works v_tyM rfl rfl rfl (Nat.le_of_ble_eq_true rfl) (Nat.le_of_ble_eq_true rfl) (Nat.le_of_ble_eq_true rfl) (fun d' => c_X12_works L xs n d' (S 103 k.toInt.toNat) (S 104 k.toInt.toNat) S R) ?_
  rintro _ _ _ ⟨rfl, rfl, rfl⟩
  refine u_st rfl (fun _ => rfl) ?_
  show u_P L xs n d m_X12_isSo 17 [(0, .ref 100), (1, .int k)] [.ref 100] (g_X12_works (S 103 k.toInt.toNat) (S 104 k.toInt.toNat) S) R _
  refine u_getr rfl v_tyM rfl ?_
  refine u_st rfl (fun _ => rfl) ?_
  show u_P L xs n d m_X12_isSo 21 [(0, .ref 100), (1, .int k)] [.int (Int32.ofInt 0), .ref 116] (g_X12_works (S 103 k.toInt.toNat) (S 104 k.toInt.toNat) S) R _
  refine u_baldE (v := (g_X12_works (S 103 k.toInt.toNat) (S 104 k.toInt.toNat) S) 115 0) rfl rfl (by decide) rfl (fun b31 b32 => ?_)
  show u_P L xs n d m_X12_isSo 22 [(0, .ref 100), (1, .int k)] [.int ((g_X12_works (S 103 k.toInt.toNat) (S 104 k.toInt.toNat) S) 115 0)] (g_X12_works (S 103 k.toInt.toNat) (S 104 k.toInt.toNat) S) R _
  refine u_if_ne rfl (fun h4 => ?_) (fun h4 => ?_)
  · show u_P L xs n d m_X12_isSo 39 [(0, .ref 100), (1, .int k)] [] (g_X12_works (S 103 k.toInt.toNat) (S 104 k.toInt.toNat) S) R _
    refine u_st rfl (fun _ => rfl) ?_
    show u_P L xs n d m_X12_isSo 40 [(0, .ref 100), (1, .int k)] [.int (Int32.ofInt 0)] (g_X12_works (S 103 k.toInt.toNat) (S 104 k.toInt.toNat) S) R _
    exact u_retb rfl rfl ⟨_, rfl, rfl, by rw [f_X12_isSo, if_pos h4], rfl, b11, b12⟩
  · show u_P L xs n d m_X12_isSo 25 [(0, .ref 100), (1, .int k)] [] (g_X12_works (S 103 k.toInt.toNat) (S 104 k.toInt.toNat) S) R _
    refine u_st rfl (fun _ => rfl) ?_
    show u_P L xs n d m_X12_isSo 26 [(0, .ref 100), (1, .int k)] [.ref 100] (g_X12_works (S 103 k.toInt.toNat) (S 104 k.toInt.toNat) S) R _
    refine u_getr rfl v_tyM rfl ?_
    refine u_st rfl (fun _ => rfl) ?_
    show u_P L xs n d m_X12_isSo 30 [(0, .ref 100), (1, .int k)] [.int (Int32.ofInt 0), .ref 115] (g_X12_works (S 103 k.toInt.toNat) (S 104 k.toInt.toNat) S) R _
    refine u_ialdE (v := (g_X12_works (S 103 k.toInt.toNat) (S 104 k.toInt.toNat) S) 114 0) rfl rfl rfl (fun b51 b52 => ?_)
    refine u_st rfl (fun _ => rfl) ?_
    show u_P L xs n d m_X12_isSo 32 [(0, .ref 100), (1, .int k)] [.int (Int32.ofInt 1), .int ((g_X12_works (S 103 k.toInt.toNat) (S 104 k.toInt.toNat) S) 114 0)] (g_X12_works (S 103 k.toInt.toNat) (S 104 k.toInt.toNat) S) R _
    refine u_ic_ne rfl (fun h6 => ?_) (fun h6 => ?_)
    · show u_P L xs n d m_X12_isSo 39 [(0, .ref 100), (1, .int k)] [] (g_X12_works (S 103 k.toInt.toNat) (S 104 k.toInt.toNat) S) R _
      refine u_st rfl (fun _ => rfl) ?_
      show u_P L xs n d m_X12_isSo 40 [(0, .ref 100), (1, .int k)] [.int (Int32.ofInt 0)] (g_X12_works (S 103 k.toInt.toNat) (S 104 k.toInt.toNat) S) R _
      exact u_retb rfl rfl ⟨_, rfl, rfl, by rw [f_X12_isSo, if_neg h4, if_pos h6], rfl, b11, b12⟩
    · show u_P L xs n d m_X12_isSo 35 [(0, .ref 100), (1, .int k)] [] (g_X12_works (S 103 k.toInt.toNat) (S 104 k.toInt.toNat) S) R _
      refine u_st rfl (fun _ => rfl) ?_
      refine u_st rfl (fun _ => rfl) ?_
      show u_P L xs n d m_X12_isSo 40 [(0, .ref 100), (1, .int k)] [.int (Int32.ofInt 1)] (g_X12_works (S 103 k.toInt.toNat) (S 104 k.toInt.toNat) S) R _
      exact u_retb rfl rfl ⟨_, rfl, rfl, by rw [f_X12_isSo, if_neg h4, if_neg h6], rfl, b11, b12⟩
end PrtS42g
section PrtS42h
noncomputable abbrev m_X3_lookAtGust : g_M := (g_cn 3, yX3_lookAtGust, cX3_lookAtGust, 4, none, g_look2 ttX3_lookAtGust)
set_option maxRecDepth 20000 in
theorem mt_X3_lookAtGust : g_mt 40 = some m_X3_lookAtGust := rfl
noncomputable def g_X3_lookAtGust (s : Nat) (g : Int32) (S : v_Sf) : v_Sf := (if ¬ (f_X7_hasGust s g (z_s (g_fill51 (Int32.ofInt 0) S) 51 14 (((g_fill51 (Int32.ofInt 0) S) s 11) - ((g_fill51 (Int32.ofInt 0) S) s 11) / (Int32.ofInt 12) * (Int32.ofInt 12)))) = 0 then (if ((g_fill51 (Int32.ofInt 0) S) (s + 4) g.toInt.toNat) < 0 then z_s (z_s (z_s (z_s (z_s (z_s (z_s (g_fill51 (Int32.ofInt 0) S) 51 14 (((g_fill51 (Int32.ofInt 0) S) s 11) - ((g_fill51 (Int32.ofInt 0) S) s 11) / (Int32.ofInt 12) * (Int32.ofInt 12))) 51 0 ((g_fill51 (Int32.ofInt 0) S) (s + 1) g.toInt.toNat)) 51 1 ((g_fill51 (Int32.ofInt 0) S) (s + 2) g.toInt.toNat)) 51 2 ((g_fill51 (Int32.ofInt 0) S) (s + 3) g.toInt.toNat)) 51 3 (f_J6_bitCount_0f7a4 ((g_fill51 (Int32.ofInt 0) S) (s + 6) g.toInt.toNat))) 51 4 (Int32.ofInt 0)) 51 5 ((g_fill51 (Int32.ofInt 0) S) (s + 4) g.toInt.toNat) else (if (Int32.ofNat 6) ≤ ((g_fill51 (Int32.ofInt 0) S) (s + 4) g.toInt.toNat) then z_s (z_s (z_s (z_s (z_s (z_s (z_s (g_fill51 (Int32.ofInt 0) S) 51 14 (((g_fill51 (Int32.ofInt 0) S) s 11) - ((g_fill51 (Int32.ofInt 0) S) s 11) / (Int32.ofInt 12) * (Int32.ofInt 12))) 51 0 ((g_fill51 (Int32.ofInt 0) S) (s + 1) g.toInt.toNat)) 51 1 ((g_fill51 (Int32.ofInt 0) S) (s + 2) g.toInt.toNat)) 51 2 ((g_fill51 (Int32.ofInt 0) S) (s + 3) g.toInt.toNat)) 51 3 (f_J6_bitCount_0f7a4 ((g_fill51 (Int32.ofInt 0) S) (s + 6) g.toInt.toNat))) 51 4 (Int32.ofInt 0)) 51 5 ((g_fill51 (Int32.ofInt 0) S) (s + 4) g.toInt.toNat) else z_s (z_s (z_s (z_s (z_s (z_s (z_s (g_fill51 (Int32.ofInt 0) S) 51 14 (((g_fill51 (Int32.ofInt 0) S) s 11) - ((g_fill51 (Int32.ofInt 0) S) s 11) / (Int32.ofInt 12) * (Int32.ofInt 12))) 51 0 ((g_fill51 (Int32.ofInt 0) S) (s + 1) g.toInt.toNat)) 51 1 ((g_fill51 (Int32.ofInt 0) S) (s + 2) g.toInt.toNat)) 51 2 ((g_fill51 (Int32.ofInt 0) S) (s + 3) g.toInt.toNat)) 51 3 (f_J6_bitCount_0f7a4 ((g_fill51 (Int32.ofInt 0) S) (s + 6) g.toInt.toNat))) 51 4 ((g_fill51 (Int32.ofInt 0) S) ((33 + 2 * ((g_fill51 (Int32.ofInt 0) S) (s + 4) g.toInt.toNat).toInt.toNat)) 3)) 51 5 ((g_fill51 (Int32.ofInt 0) S) (s + 4) g.toInt.toNat))) else z_s (g_fill51 (Int32.ofInt 0) S) 51 14 (((g_fill51 (Int32.ofInt 0) S) s 11) - ((g_fill51 (Int32.ofInt 0) S) s 11) / (Int32.ofInt 12) * (Int32.ofInt 12)))
set_option maxRecDepth 4000 in
theorem c_X3_lookAtGust (L : Nat) (xs : Nat → Int32) (n d : Nat) {R : v_Rf} (hW : z_W R) (s : Nat) (hs : z_st s) (g : Int32) (S : v_Sf) : u_P L xs n d m_X3_lookAtGust 0 (lv_args 0 [.ref 51, .ref (s + 1), .int g]) [] S R (z_V R (fun S1 => g_X3_lookAtGust s g S = S1)) := by
  show u_P L xs n d m_X3_lookAtGust 0 [(0, .ref 51), (1, .ref (s + 1)), (2, .int g)] [] S R _
  refine u_st rfl (fun _ => rfl) ?_
  show u_P L xs n d m_X3_lookAtGust 1 [(0, .ref 51), (1, .ref (s + 1)), (2, .int g)] [.ref 51] S R _
  refine u_getr rfl rfl rfl ?_
  refine u_st rfl (fun _ => rfl) ?_
  show u_P L xs n d m_X3_lookAtGust 5 [(0, .ref 51), (1, .ref (s + 1)), (2, .int g)] [.int (Int32.ofInt 0), .ref 52] S R _
  refine u_cs (ac := [.ref 52, .int (Int32.ofInt 0)]) (rest := []) rfl (by decide) mt_J7_fill_53178 (fun _ => rfl) (Nat.le_of_ble_eq_true rfl) (Nat.le_of_ble_eq_true rfl) (fun d' => c_fill51 L xs n d' (Int32.ofInt 0) S R) ?_
  rintro _ _ _ ⟨rfl, rfl, rfl⟩
  refine u_st rfl (fun _ => rfl) ?_
  show u_P L xs n d m_X3_lookAtGust 9 [(0, .ref 51), (1, .ref (s + 1)), (2, .int g)] [.ref 51] (g_fill51 (Int32.ofInt 0) S) R _
  refine u_getr rfl rfl rfl ?_
  refine u_st rfl (fun _ => rfl) ?_
  refine u_st rfl (fun _ => rfl) ?_
  show u_P L xs n d m_X3_lookAtGust 15 [(0, .ref 51), (1, .ref (s + 1)), (2, .int g)] [.ref (s + 1), .int (Int32.ofInt 14), .ref 52] (g_fill51 (Int32.ofInt 0) S) R _
  refine u_getE (v := (g_fill51 (Int32.ofInt 0) S) s 11) rfl (z_st0 hs) rfl rfl ?_
  refine u_st rfl (fun _ => rfl) ?_
  show u_P L xs n d m_X3_lookAtGust 20 [(0, .ref 51), (1, .ref (s + 1)), (2, .int g)] [.int (Int32.ofInt 12), .int ((g_fill51 (Int32.ofInt 0) S) s 11), .int (Int32.ofInt 14), .ref 52] (g_fill51 (Int32.ofInt 0) S) R _
  refine u_irem rfl (fun b1 => ?_)
  show u_P L xs n d m_X3_lookAtGust 21 [(0, .ref 51), (1, .ref (s + 1)), (2, .int g)] [.int (((g_fill51 (Int32.ofInt 0) S) s 11) - ((g_fill51 (Int32.ofInt 0) S) s 11) / (Int32.ofInt 12) * (Int32.ofInt 12)), .int (Int32.ofInt 14), .ref 52] (g_fill51 (Int32.ofInt 0) S) R _
  refine u_iast rfl rfl (fun b21 b22 => ?_)
  refine u_st rfl (fun _ => rfl) ?_
  refine u_st rfl (fun _ => rfl) ?_
  show u_P L xs n d m_X3_lookAtGust 24 [(0, .ref 51), (1, .ref (s + 1)), (2, .int g)] [.int g, .ref (s + 1)] (z_s (g_fill51 (Int32.ofInt 0) S) 51 14 (((g_fill51 (Int32.ofInt 0) S) s 11) - ((g_fill51 (Int32.ofInt 0) S) s 11) / (Int32.ofInt 12) * (Int32.ofInt 12))) R _
  refine u_cv (rest := []) rfl (by decide) mt_X7_hasGust (z_st0 hs) rfl rfl rfl (Nat.le_of_ble_eq_true rfl) (Nat.le_of_ble_eq_true rfl) (Nat.le_of_ble_eq_true rfl) (fun d' => c_X7_hasGust L xs n d' s hs g (z_s (g_fill51 (Int32.ofInt 0) S) 51 14 (((g_fill51 (Int32.ofInt 0) S) s 11) - ((g_fill51 (Int32.ofInt 0) S) s 11) / (Int32.ofInt 12) * (Int32.ofInt 12))) R) ?_
  rintro _ _ _ ⟨_, rfl, rfl, rfl, rfl⟩
  show u_P L xs n d m_X3_lookAtGust 27 [(0, .ref 51), (1, .ref (s + 1)), (2, .int g)] [.int (f_X7_hasGust s g (z_s (g_fill51 (Int32.ofInt 0) S) 51 14 (((g_fill51 (Int32.ofInt 0) S) s 11) - ((g_fill51 (Int32.ofInt 0) S) s 11) / (Int32.ofInt 12) * (Int32.ofInt 12))))] (z_s (g_fill51 (Int32.ofInt 0) S) 51 14 (((g_fill51 (Int32.ofInt 0) S) s 11) - ((g_fill51 (Int32.ofInt 0) S) s 11) / (Int32.ofInt 12) * (Int32.ofInt 12))) R _
  refine u_if_ne rfl (fun h3 => ?_) (fun h3 => ?_)
  · show u_P L xs n d m_X3_lookAtGust 31 [(0, .ref 51), (1, .ref (s + 1)), (2, .int g)] [] (z_s (g_fill51 (Int32.ofInt 0) S) 51 14 (((g_fill51 (Int32.ofInt 0) S) s 11) - ((g_fill51 (Int32.ofInt 0) S) s 11) / (Int32.ofInt 12) * (Int32.ofInt 12))) R _
    refine u_st rfl (fun _ => rfl) ?_
    show u_P L xs n d m_X3_lookAtGust 32 [(0, .ref 51), (1, .ref (s + 1)), (2, .int g)] [.ref (s + 1)] (z_s (g_fill51 (Int32.ofInt 0) S) 51 14 (((g_fill51 (Int32.ofInt 0) S) s 11) - ((g_fill51 (Int32.ofInt 0) S) s 11) / (Int32.ofInt 12) * (Int32.ofInt 12))) R _
    refine u_getr rfl (z_st0 hs) rfl ?_
    refine u_st rfl (fun _ => rfl) ?_
    show u_P L xs n d m_X3_lookAtGust 36 [(0, .ref 51), (1, .ref (s + 1)), (2, .int g)] [.int g, .ref (s + 5)] (z_s (g_fill51 (Int32.ofInt 0) S) 51 14 (((g_fill51 (Int32.ofInt 0) S) s 11) - ((g_fill51 (Int32.ofInt 0) S) s 11) / (Int32.ofInt 12) * (Int32.ofInt 12))) R _
    refine u_ialdE (v := (g_fill51 (Int32.ofInt 0) S) (s + 4) g.toInt.toNat) rfl (z_st4 hs) (z_sn (fun h => absurd h.1 (by have := z_stl hs; omega))) (fun b41 b42 => ?_)
    refine u_st rfl (fun _ => rfl) ?_
    refine u_st rfl (fun _ => rfl) ?_
    show u_P L xs n d m_X3_lookAtGust 39 [(3, .int ((g_fill51 (Int32.ofInt 0) S) (s + 4) g.toInt.toNat)), (0, .ref 51), (1, .ref (s + 1)), (2, .int g)] [.ref 51] (z_s (g_fill51 (Int32.ofInt 0) S) 51 14 (((g_fill51 (Int32.ofInt 0) S) s 11) - ((g_fill51 (Int32.ofInt 0) S) s 11) / (Int32.ofInt 12) * (Int32.ofInt 12))) R _
    refine u_getr rfl rfl rfl ?_
    refine u_st rfl (fun _ => rfl) ?_
    refine u_st rfl (fun _ => rfl) ?_
    show u_P L xs n d m_X3_lookAtGust 44 [(3, .int ((g_fill51 (Int32.ofInt 0) S) (s + 4) g.toInt.toNat)), (0, .ref 51), (1, .ref (s + 1)), (2, .int g)] [.ref (s + 1), .int (Int32.ofInt 0), .ref 52] (z_s (g_fill51 (Int32.ofInt 0) S) 51 14 (((g_fill51 (Int32.ofInt 0) S) s 11) - ((g_fill51 (Int32.ofInt 0) S) s 11) / (Int32.ofInt 12) * (Int32.ofInt 12))) R _
    refine u_getr rfl (z_st0 hs) rfl ?_
    refine u_st rfl (fun _ => rfl) ?_
    show u_P L xs n d m_X3_lookAtGust 48 [(3, .int ((g_fill51 (Int32.ofInt 0) S) (s + 4) g.toInt.toNat)), (0, .ref 51), (1, .ref (s + 1)), (2, .int g)] [.int g, .ref (s + 2), .int (Int32.ofInt 0), .ref 52] (z_s (g_fill51 (Int32.ofInt 0) S) 51 14 (((g_fill51 (Int32.ofInt 0) S) s 11) - ((g_fill51 (Int32.ofInt 0) S) s 11) / (Int32.ofInt 12) * (Int32.ofInt 12))) R _
    refine u_ialdE (v := (g_fill51 (Int32.ofInt 0) S) (s + 1) g.toInt.toNat) rfl (z_st1 hs) (z_sn (fun h => absurd h.1 (by have := z_stl hs; omega))) (fun b51 b52 => ?_)
    show u_P L xs n d m_X3_lookAtGust 49 [(3, .int ((g_fill51 (Int32.ofInt 0) S) (s + 4) g.toInt.toNat)), (0, .ref 51), (1, .ref (s + 1)), (2, .int g)] [.int ((g_fill51 (Int32.ofInt 0) S) (s + 1) g.toInt.toNat), .int (Int32.ofInt 0), .ref 52] (z_s (g_fill51 (Int32.ofInt 0) S) 51 14 (((g_fill51 (Int32.ofInt 0) S) s 11) - ((g_fill51 (Int32.ofInt 0) S) s 11) / (Int32.ofInt 12) * (Int32.ofInt 12))) R _
    refine u_iast rfl rfl (fun b61 b62 => ?_)
    refine u_st rfl (fun _ => rfl) ?_
    show u_P L xs n d m_X3_lookAtGust 51 [(3, .int ((g_fill51 (Int32.ofInt 0) S) (s + 4) g.toInt.toNat)), (0, .ref 51), (1, .ref (s + 1)), (2, .int g)] [.ref 51] (z_s (z_s (g_fill51 (Int32.ofInt 0) S) 51 14 (((g_fill51 (Int32.ofInt 0) S) s 11) - ((g_fill51 (Int32.ofInt 0) S) s 11) / (Int32.ofInt 12) * (Int32.ofInt 12))) 51 0 ((g_fill51 (Int32.ofInt 0) S) (s + 1) g.toInt.toNat)) R _
    refine u_getr rfl rfl rfl ?_
    refine u_st rfl (fun _ => rfl) ?_
    refine u_st rfl (fun _ => rfl) ?_
    show u_P L xs n d m_X3_lookAtGust 56 [(3, .int ((g_fill51 (Int32.ofInt 0) S) (s + 4) g.toInt.toNat)), (0, .ref 51), (1, .ref (s + 1)), (2, .int g)] [.ref (s + 1), .int (Int32.ofInt 1), .ref 52] (z_s (z_s (g_fill51 (Int32.ofInt 0) S) 51 14 (((g_fill51 (Int32.ofInt 0) S) s 11) - ((g_fill51 (Int32.ofInt 0) S) s 11) / (Int32.ofInt 12) * (Int32.ofInt 12))) 51 0 ((g_fill51 (Int32.ofInt 0) S) (s + 1) g.toInt.toNat)) R _
    refine u_getr rfl (z_st0 hs) rfl ?_
    refine u_st rfl (fun _ => rfl) ?_
    show u_P L xs n d m_X3_lookAtGust 60 [(3, .int ((g_fill51 (Int32.ofInt 0) S) (s + 4) g.toInt.toNat)), (0, .ref 51), (1, .ref (s + 1)), (2, .int g)] [.int g, .ref (s + 3), .int (Int32.ofInt 1), .ref 52] (z_s (z_s (g_fill51 (Int32.ofInt 0) S) 51 14 (((g_fill51 (Int32.ofInt 0) S) s 11) - ((g_fill51 (Int32.ofInt 0) S) s 11) / (Int32.ofInt 12) * (Int32.ofInt 12))) 51 0 ((g_fill51 (Int32.ofInt 0) S) (s + 1) g.toInt.toNat)) R _
    refine u_ialdE (v := (g_fill51 (Int32.ofInt 0) S) (s + 2) g.toInt.toNat) rfl (z_st2 hs) ((z_sn (fun h => absurd h.1 (by have := z_stl hs; omega))).trans (z_sn (fun h => absurd h.1 (by have := z_stl hs; omega)))) (fun b71 b72 => ?_)
    show u_P L xs n d m_X3_lookAtGust 61 [(3, .int ((g_fill51 (Int32.ofInt 0) S) (s + 4) g.toInt.toNat)), (0, .ref 51), (1, .ref (s + 1)), (2, .int g)] [.int ((g_fill51 (Int32.ofInt 0) S) (s + 2) g.toInt.toNat), .int (Int32.ofInt 1), .ref 52] (z_s (z_s (g_fill51 (Int32.ofInt 0) S) 51 14 (((g_fill51 (Int32.ofInt 0) S) s 11) - ((g_fill51 (Int32.ofInt 0) S) s 11) / (Int32.ofInt 12) * (Int32.ofInt 12))) 51 0 ((g_fill51 (Int32.ofInt 0) S) (s + 1) g.toInt.toNat)) R _
    refine u_iast rfl rfl (fun b81 b82 => ?_)
    refine u_st rfl (fun _ => rfl) ?_
    show u_P L xs n d m_X3_lookAtGust 63 [(3, .int ((g_fill51 (Int32.ofInt 0) S) (s + 4) g.toInt.toNat)), (0, .ref 51), (1, .ref (s + 1)), (2, .int g)] [.ref 51] (z_s (z_s (z_s (g_fill51 (Int32.ofInt 0) S) 51 14 (((g_fill51 (Int32.ofInt 0) S) s 11) - ((g_fill51 (Int32.ofInt 0) S) s 11) / (Int32.ofInt 12) * (Int32.ofInt 12))) 51 0 ((g_fill51 (Int32.ofInt 0) S) (s + 1) g.toInt.toNat)) 51 1 ((g_fill51 (Int32.ofInt 0) S) (s + 2) g.toInt.toNat)) R _
    refine u_getr rfl rfl rfl ?_
    refine u_st rfl (fun _ => rfl) ?_
    refine u_st rfl (fun _ => rfl) ?_
    show u_P L xs n d m_X3_lookAtGust 68 [(3, .int ((g_fill51 (Int32.ofInt 0) S) (s + 4) g.toInt.toNat)), (0, .ref 51), (1, .ref (s + 1)), (2, .int g)] [.ref (s + 1), .int (Int32.ofInt 2), .ref 52] (z_s (z_s (z_s (g_fill51 (Int32.ofInt 0) S) 51 14 (((g_fill51 (Int32.ofInt 0) S) s 11) - ((g_fill51 (Int32.ofInt 0) S) s 11) / (Int32.ofInt 12) * (Int32.ofInt 12))) 51 0 ((g_fill51 (Int32.ofInt 0) S) (s + 1) g.toInt.toNat)) 51 1 ((g_fill51 (Int32.ofInt 0) S) (s + 2) g.toInt.toNat)) R _
    refine u_getr rfl (z_st0 hs) rfl ?_
    refine u_st rfl (fun _ => rfl) ?_
    show u_P L xs n d m_X3_lookAtGust 72 [(3, .int ((g_fill51 (Int32.ofInt 0) S) (s + 4) g.toInt.toNat)), (0, .ref 51), (1, .ref (s + 1)), (2, .int g)] [.int g, .ref (s + 4), .int (Int32.ofInt 2), .ref 52] (z_s (z_s (z_s (g_fill51 (Int32.ofInt 0) S) 51 14 (((g_fill51 (Int32.ofInt 0) S) s 11) - ((g_fill51 (Int32.ofInt 0) S) s 11) / (Int32.ofInt 12) * (Int32.ofInt 12))) 51 0 ((g_fill51 (Int32.ofInt 0) S) (s + 1) g.toInt.toNat)) 51 1 ((g_fill51 (Int32.ofInt 0) S) (s + 2) g.toInt.toNat)) R _
    refine u_ialdE (v := (g_fill51 (Int32.ofInt 0) S) (s + 3) g.toInt.toNat) rfl (z_st3 hs) ((z_sn (fun h => absurd h.1 (by have := z_stl hs; omega))).trans ((z_sn (fun h => absurd h.1 (by have := z_stl hs; omega))).trans (z_sn (fun h => absurd h.1 (by have := z_stl hs; omega))))) (fun b91 b92 => ?_)
    show u_P L xs n d m_X3_lookAtGust 73 [(3, .int ((g_fill51 (Int32.ofInt 0) S) (s + 4) g.toInt.toNat)), (0, .ref 51), (1, .ref (s + 1)), (2, .int g)] [.int ((g_fill51 (Int32.ofInt 0) S) (s + 3) g.toInt.toNat), .int (Int32.ofInt 2), .ref 52] (z_s (z_s (z_s (g_fill51 (Int32.ofInt 0) S) 51 14 (((g_fill51 (Int32.ofInt 0) S) s 11) - ((g_fill51 (Int32.ofInt 0) S) s 11) / (Int32.ofInt 12) * (Int32.ofInt 12))) 51 0 ((g_fill51 (Int32.ofInt 0) S) (s + 1) g.toInt.toNat)) 51 1 ((g_fill51 (Int32.ofInt 0) S) (s + 2) g.toInt.toNat)) R _
    refine u_iast rfl rfl (fun b101 b102 => ?_)
    refine u_st rfl (fun _ => rfl) ?_
    show u_P L xs n d m_X3_lookAtGust 75 [(3, .int ((g_fill51 (Int32.ofInt 0) S) (s + 4) g.toInt.toNat)), (0, .ref 51), (1, .ref (s + 1)), (2, .int g)] [.ref 51] (z_s (z_s (z_s (z_s (g_fill51 (Int32.ofInt 0) S) 51 14 (((g_fill51 (Int32.ofInt 0) S) s 11) - ((g_fill51 (Int32.ofInt 0) S) s 11) / (Int32.ofInt 12) * (Int32.ofInt 12))) 51 0 ((g_fill51 (Int32.ofInt 0) S) (s + 1) g.toInt.toNat)) 51 1 ((g_fill51 (Int32.ofInt 0) S) (s + 2) g.toInt.toNat)) 51 2 ((g_fill51 (Int32.ofInt 0) S) (s + 3) g.toInt.toNat)) R _
    refine u_getr rfl rfl rfl ?_
    refine u_st rfl (fun _ => rfl) ?_
    refine u_st rfl (fun _ => rfl) ?_
    show u_P L xs n d m_X3_lookAtGust 80 [(3, .int ((g_fill51 (Int32.ofInt 0) S) (s + 4) g.toInt.toNat)), (0, .ref 51), (1, .ref (s + 1)), (2, .int g)] [.ref (s + 1), .int (Int32.ofInt 3), .ref 52] (z_s (z_s (z_s (z_s (g_fill51 (Int32.ofInt 0) S) 51 14 (((g_fill51 (Int32.ofInt 0) S) s 11) - ((g_fill51 (Int32.ofInt 0) S) s 11) / (Int32.ofInt 12) * (Int32.ofInt 12))) 51 0 ((g_fill51 (Int32.ofInt 0) S) (s + 1) g.toInt.toNat)) 51 1 ((g_fill51 (Int32.ofInt 0) S) (s + 2) g.toInt.toNat)) 51 2 ((g_fill51 (Int32.ofInt 0) S) (s + 3) g.toInt.toNat)) R _
    refine u_getr rfl (z_st0 hs) rfl ?_
    refine u_st rfl (fun _ => rfl) ?_
    show u_P L xs n d m_X3_lookAtGust 84 [(3, .int ((g_fill51 (Int32.ofInt 0) S) (s + 4) g.toInt.toNat)), (0, .ref 51), (1, .ref (s + 1)), (2, .int g)] [.int g, .ref (s + 7), .int (Int32.ofInt 3), .ref 52] (z_s (z_s (z_s (z_s (g_fill51 (Int32.ofInt 0) S) 51 14 (((g_fill51 (Int32.ofInt 0) S) s 11) - ((g_fill51 (Int32.ofInt 0) S) s 11) / (Int32.ofInt 12) * (Int32.ofInt 12))) 51 0 ((g_fill51 (Int32.ofInt 0) S) (s + 1) g.toInt.toNat)) 51 1 ((g_fill51 (Int32.ofInt 0) S) (s + 2) g.toInt.toNat)) 51 2 ((g_fill51 (Int32.ofInt 0) S) (s + 3) g.toInt.toNat)) R _
    refine u_ialdE (v := (g_fill51 (Int32.ofInt 0) S) (s + 6) g.toInt.toNat) rfl (z_st6 hs) ((z_sn (fun h => absurd h.1 (by have := z_stl hs; omega))).trans ((z_sn (fun h => absurd h.1 (by have := z_stl hs; omega))).trans ((z_sn (fun h => absurd h.1 (by have := z_stl hs; omega))).trans (z_sn (fun h => absurd h.1 (by have := z_stl hs; omega)))))) (fun b111 b112 => ?_)
    show u_P L xs n d m_X3_lookAtGust 85 [(3, .int ((g_fill51 (Int32.ofInt 0) S) (s + 4) g.toInt.toNat)), (0, .ref 51), (1, .ref (s + 1)), (2, .int g)] [.int ((g_fill51 (Int32.ofInt 0) S) (s + 6) g.toInt.toNat), .int (Int32.ofInt 3), .ref 52] (z_s (z_s (z_s (z_s (g_fill51 (Int32.ofInt 0) S) 51 14 (((g_fill51 (Int32.ofInt 0) S) s 11) - ((g_fill51 (Int32.ofInt 0) S) s 11) / (Int32.ofInt 12) * (Int32.ofInt 12))) 51 0 ((g_fill51 (Int32.ofInt 0) S) (s + 1) g.toInt.toNat)) 51 1 ((g_fill51 (Int32.ofInt 0) S) (s + 2) g.toInt.toNat)) 51 2 ((g_fill51 (Int32.ofInt 0) S) (s + 3) g.toInt.toNat)) R _
    refine u_cs (ac := [.int ((g_fill51 (Int32.ofInt 0) S) (s + 6) g.toInt.toNat)]) (rest := [.int (Int32.ofInt 3), .ref 52]) rfl (by decide) mt_J6_bitCount_0f7a4 (fun _ => rfl) (Nat.le_of_ble_eq_true rfl) (Nat.le_of_ble_eq_true rfl) (fun d' => c_J6_bitCount_0f7a4 L xs n d' ((g_fill51 (Int32.ofInt 0) S) (s + 6) g.toInt.toNat) (z_s (z_s (z_s (z_s (g_fill51 (Int32.ofInt 0) S) 51 14 (((g_fill51 (Int32.ofInt 0) S) s 11) - ((g_fill51 (Int32.ofInt 0) S) s 11) / (Int32.ofInt 12) * (Int32.ofInt 12))) 51 0 ((g_fill51 (Int32.ofInt 0) S) (s + 1) g.toInt.toNat)) 51 1 ((g_fill51 (Int32.ofInt 0) S) (s + 2) g.toInt.toNat)) 51 2 ((g_fill51 (Int32.ofInt 0) S) (s + 3) g.toInt.toNat)) R) ?_
    rintro _ _ _ ⟨_, rfl, rfl, rfl, rfl⟩
    show u_P L xs n d m_X3_lookAtGust 88 [(3, .int ((g_fill51 (Int32.ofInt 0) S) (s + 4) g.toInt.toNat)), (0, .ref 51), (1, .ref (s + 1)), (2, .int g)] [.int (f_J6_bitCount_0f7a4 ((g_fill51 (Int32.ofInt 0) S) (s + 6) g.toInt.toNat)), .int (Int32.ofInt 3), .ref 52] (z_s (z_s (z_s (z_s (g_fill51 (Int32.ofInt 0) S) 51 14 (((g_fill51 (Int32.ofInt 0) S) s 11) - ((g_fill51 (Int32.ofInt 0) S) s 11) / (Int32.ofInt 12) * (Int32.ofInt 12))) 51 0 ((g_fill51 (Int32.ofInt 0) S) (s + 1) g.toInt.toNat)) 51 1 ((g_fill51 (Int32.ofInt 0) S) (s + 2) g.toInt.toNat)) 51 2 ((g_fill51 (Int32.ofInt 0) S) (s + 3) g.toInt.toNat)) R _
    refine u_iast rfl rfl (fun b121 b122 => ?_)
    refine u_st rfl (fun _ => rfl) ?_
    show u_P L xs n d m_X3_lookAtGust 90 [(3, .int ((g_fill51 (Int32.ofInt 0) S) (s + 4) g.toInt.toNat)), (0, .ref 51), (1, .ref (s + 1)), (2, .int g)] [.ref 51] (z_s (z_s (z_s (z_s (z_s (g_fill51 (Int32.ofInt 0) S) 51 14 (((g_fill51 (Int32.ofInt 0) S) s 11) - ((g_fill51 (Int32.ofInt 0) S) s 11) / (Int32.ofInt 12) * (Int32.ofInt 12))) 51 0 ((g_fill51 (Int32.ofInt 0) S) (s + 1) g.toInt.toNat)) 51 1 ((g_fill51 (Int32.ofInt 0) S) (s + 2) g.toInt.toNat)) 51 2 ((g_fill51 (Int32.ofInt 0) S) (s + 3) g.toInt.toNat)) 51 3 (f_J6_bitCount_0f7a4 ((g_fill51 (Int32.ofInt 0) S) (s + 6) g.toInt.toNat))) R _
    refine u_getr rfl rfl rfl ?_
    refine u_st rfl (fun _ => rfl) ?_
    refine u_st rfl (fun _ => rfl) ?_
    show u_P L xs n d m_X3_lookAtGust 95 [(3, .int ((g_fill51 (Int32.ofInt 0) S) (s + 4) g.toInt.toNat)), (0, .ref 51), (1, .ref (s + 1)), (2, .int g)] [.int ((g_fill51 (Int32.ofInt 0) S) (s + 4) g.toInt.toNat), .int (Int32.ofInt 4), .ref 52] (z_s (z_s (z_s (z_s (z_s (g_fill51 (Int32.ofInt 0) S) 51 14 (((g_fill51 (Int32.ofInt 0) S) s 11) - ((g_fill51 (Int32.ofInt 0) S) s 11) / (Int32.ofInt 12) * (Int32.ofInt 12))) 51 0 ((g_fill51 (Int32.ofInt 0) S) (s + 1) g.toInt.toNat)) 51 1 ((g_fill51 (Int32.ofInt 0) S) (s + 2) g.toInt.toNat)) 51 2 ((g_fill51 (Int32.ofInt 0) S) (s + 3) g.toInt.toNat)) 51 3 (f_J6_bitCount_0f7a4 ((g_fill51 (Int32.ofInt 0) S) (s + 6) g.toInt.toNat))) R _
    refine u_if_lt rfl (fun h13 => ?_) (fun h13 => ?_)
    · show u_P L xs n d m_X3_lookAtGust 119 [(3, .int ((g_fill51 (Int32.ofInt 0) S) (s + 4) g.toInt.toNat)), (0, .ref 51), (1, .ref (s + 1)), (2, .int g)] [.int (Int32.ofInt 4), .ref 52] (z_s (z_s (z_s (z_s (z_s (g_fill51 (Int32.ofInt 0) S) 51 14 (((g_fill51 (Int32.ofInt 0) S) s 11) - ((g_fill51 (Int32.ofInt 0) S) s 11) / (Int32.ofInt 12) * (Int32.ofInt 12))) 51 0 ((g_fill51 (Int32.ofInt 0) S) (s + 1) g.toInt.toNat)) 51 1 ((g_fill51 (Int32.ofInt 0) S) (s + 2) g.toInt.toNat)) 51 2 ((g_fill51 (Int32.ofInt 0) S) (s + 3) g.toInt.toNat)) 51 3 (f_J6_bitCount_0f7a4 ((g_fill51 (Int32.ofInt 0) S) (s + 6) g.toInt.toNat))) R _
      refine u_st rfl (fun _ => rfl) ?_
      show u_P L xs n d m_X3_lookAtGust 120 [(3, .int ((g_fill51 (Int32.ofInt 0) S) (s + 4) g.toInt.toNat)), (0, .ref 51), (1, .ref (s + 1)), (2, .int g)] [.int (Int32.ofInt 0), .int (Int32.ofInt 4), .ref 52] (z_s (z_s (z_s (z_s (z_s (g_fill51 (Int32.ofInt 0) S) 51 14 (((g_fill51 (Int32.ofInt 0) S) s 11) - ((g_fill51 (Int32.ofInt 0) S) s 11) / (Int32.ofInt 12) * (Int32.ofInt 12))) 51 0 ((g_fill51 (Int32.ofInt 0) S) (s + 1) g.toInt.toNat)) 51 1 ((g_fill51 (Int32.ofInt 0) S) (s + 2) g.toInt.toNat)) 51 2 ((g_fill51 (Int32.ofInt 0) S) (s + 3) g.toInt.toNat)) 51 3 (f_J6_bitCount_0f7a4 ((g_fill51 (Int32.ofInt 0) S) (s + 6) g.toInt.toNat))) R _
      refine u_iast rfl rfl (fun b141 b142 => ?_)
      refine u_st rfl (fun _ => rfl) ?_
      show u_P L xs n d m_X3_lookAtGust 122 [(3, .int ((g_fill51 (Int32.ofInt 0) S) (s + 4) g.toInt.toNat)), (0, .ref 51), (1, .ref (s + 1)), (2, .int g)] [.ref 51] (z_s (z_s (z_s (z_s (z_s (z_s (g_fill51 (Int32.ofInt 0) S) 51 14 (((g_fill51 (Int32.ofInt 0) S) s 11) - ((g_fill51 (Int32.ofInt 0) S) s 11) / (Int32.ofInt 12) * (Int32.ofInt 12))) 51 0 ((g_fill51 (Int32.ofInt 0) S) (s + 1) g.toInt.toNat)) 51 1 ((g_fill51 (Int32.ofInt 0) S) (s + 2) g.toInt.toNat)) 51 2 ((g_fill51 (Int32.ofInt 0) S) (s + 3) g.toInt.toNat)) 51 3 (f_J6_bitCount_0f7a4 ((g_fill51 (Int32.ofInt 0) S) (s + 6) g.toInt.toNat))) 51 4 (Int32.ofInt 0)) R _
      refine u_getr rfl rfl rfl ?_
      refine u_st rfl (fun _ => rfl) ?_
      refine u_st rfl (fun _ => rfl) ?_
      show u_P L xs n d m_X3_lookAtGust 127 [(3, .int ((g_fill51 (Int32.ofInt 0) S) (s + 4) g.toInt.toNat)), (0, .ref 51), (1, .ref (s + 1)), (2, .int g)] [.int ((g_fill51 (Int32.ofInt 0) S) (s + 4) g.toInt.toNat), .int (Int32.ofInt 5), .ref 52] (z_s (z_s (z_s (z_s (z_s (z_s (g_fill51 (Int32.ofInt 0) S) 51 14 (((g_fill51 (Int32.ofInt 0) S) s 11) - ((g_fill51 (Int32.ofInt 0) S) s 11) / (Int32.ofInt 12) * (Int32.ofInt 12))) 51 0 ((g_fill51 (Int32.ofInt 0) S) (s + 1) g.toInt.toNat)) 51 1 ((g_fill51 (Int32.ofInt 0) S) (s + 2) g.toInt.toNat)) 51 2 ((g_fill51 (Int32.ofInt 0) S) (s + 3) g.toInt.toNat)) 51 3 (f_J6_bitCount_0f7a4 ((g_fill51 (Int32.ofInt 0) S) (s + 6) g.toInt.toNat))) 51 4 (Int32.ofInt 0)) R _
      refine u_iast rfl rfl (fun b151 b152 => ?_)
      show u_P L xs n d m_X3_lookAtGust 128 [(3, .int ((g_fill51 (Int32.ofInt 0) S) (s + 4) g.toInt.toNat)), (0, .ref 51), (1, .ref (s + 1)), (2, .int g)] [] (z_s (z_s (z_s (z_s (z_s (z_s (z_s (g_fill51 (Int32.ofInt 0) S) 51 14 (((g_fill51 (Int32.ofInt 0) S) s 11) - ((g_fill51 (Int32.ofInt 0) S) s 11) / (Int32.ofInt 12) * (Int32.ofInt 12))) 51 0 ((g_fill51 (Int32.ofInt 0) S) (s + 1) g.toInt.toNat)) 51 1 ((g_fill51 (Int32.ofInt 0) S) (s + 2) g.toInt.toNat)) 51 2 ((g_fill51 (Int32.ofInt 0) S) (s + 3) g.toInt.toNat)) 51 3 (f_J6_bitCount_0f7a4 ((g_fill51 (Int32.ofInt 0) S) (s + 6) g.toInt.toNat))) 51 4 (Int32.ofInt 0)) 51 5 ((g_fill51 (Int32.ofInt 0) S) (s + 4) g.toInt.toNat)) R _
      exact u_ret rfl rfl ⟨rfl, rfl, by rw [g_X3_lookAtGust, if_pos h3, if_pos h13]⟩
    · show u_P L xs n d m_X3_lookAtGust 98 [(3, .int ((g_fill51 (Int32.ofInt 0) S) (s + 4) g.toInt.toNat)), (0, .ref 51), (1, .ref (s + 1)), (2, .int g)] [.int (Int32.ofInt 4), .ref 52] (z_s (z_s (z_s (z_s (z_s (g_fill51 (Int32.ofInt 0) S) 51 14 (((g_fill51 (Int32.ofInt 0) S) s 11) - ((g_fill51 (Int32.ofInt 0) S) s 11) / (Int32.ofInt 12) * (Int32.ofInt 12))) 51 0 ((g_fill51 (Int32.ofInt 0) S) (s + 1) g.toInt.toNat)) 51 1 ((g_fill51 (Int32.ofInt 0) S) (s + 2) g.toInt.toNat)) 51 2 ((g_fill51 (Int32.ofInt 0) S) (s + 3) g.toInt.toNat)) 51 3 (f_J6_bitCount_0f7a4 ((g_fill51 (Int32.ofInt 0) S) (s + 6) g.toInt.toNat))) R _
      refine u_st rfl (fun _ => rfl) ?_
      refine u_st rfl (fun _ => rfl) ?_
      show u_P L xs n d m_X3_lookAtGust 100 [(3, .int ((g_fill51 (Int32.ofInt 0) S) (s + 4) g.toInt.toNat)), (0, .ref 51), (1, .ref (s + 1)), (2, .int g)] [.ref 51, .int ((g_fill51 (Int32.ofInt 0) S) (s + 4) g.toInt.toNat), .int (Int32.ofInt 4), .ref 52] (z_s (z_s (z_s (z_s (z_s (g_fill51 (Int32.ofInt 0) S) 51 14 (((g_fill51 (Int32.ofInt 0) S) s 11) - ((g_fill51 (Int32.ofInt 0) S) s 11) / (Int32.ofInt 12) * (Int32.ofInt 12))) 51 0 ((g_fill51 (Int32.ofInt 0) S) (s + 1) g.toInt.toNat)) 51 1 ((g_fill51 (Int32.ofInt 0) S) (s + 2) g.toInt.toNat)) 51 2 ((g_fill51 (Int32.ofInt 0) S) (s + 3) g.toInt.toNat)) 51 3 (f_J6_bitCount_0f7a4 ((g_fill51 (Int32.ofInt 0) S) (s + 6) g.toInt.toNat))) R _
      refine u_getr rfl rfl rfl ?_
      show u_P L xs n d m_X3_lookAtGust 103 [(3, .int ((g_fill51 (Int32.ofInt 0) S) (s + 4) g.toInt.toNat)), (0, .ref 51), (1, .ref (s + 1)), (2, .int g)] [.ref 33, .int ((g_fill51 (Int32.ofInt 0) S) (s + 4) g.toInt.toNat), .int (Int32.ofInt 4), .ref 52] (z_s (z_s (z_s (z_s (z_s (g_fill51 (Int32.ofInt 0) S) 51 14 (((g_fill51 (Int32.ofInt 0) S) s 11) - ((g_fill51 (Int32.ofInt 0) S) s 11) / (Int32.ofInt 12) * (Int32.ofInt 12))) 51 0 ((g_fill51 (Int32.ofInt 0) S) (s + 1) g.toInt.toNat)) 51 1 ((g_fill51 (Int32.ofInt 0) S) (s + 2) g.toInt.toNat)) 51 2 ((g_fill51 (Int32.ofInt 0) S) (s + 3) g.toInt.toNat)) 51 3 (f_J6_bitCount_0f7a4 ((g_fill51 (Int32.ofInt 0) S) (s + 6) g.toInt.toNat))) R _
      refine u_alr rfl rfl ?_
      show u_P L xs n d m_X3_lookAtGust 104 [(3, .int ((g_fill51 (Int32.ofInt 0) S) (s + 4) g.toInt.toNat)), (0, .ref 51), (1, .ref (s + 1)), (2, .int g)] [.int (Int32.ofNat 6), .int ((g_fill51 (Int32.ofInt 0) S) (s + 4) g.toInt.toNat), .int (Int32.ofInt 4), .ref 52] (z_s (z_s (z_s (z_s (z_s (g_fill51 (Int32.ofInt 0) S) 51 14 (((g_fill51 (Int32.ofInt 0) S) s 11) - ((g_fill51 (Int32.ofInt 0) S) s 11) / (Int32.ofInt 12) * (Int32.ofInt 12))) 51 0 ((g_fill51 (Int32.ofInt 0) S) (s + 1) g.toInt.toNat)) 51 1 ((g_fill51 (Int32.ofInt 0) S) (s + 2) g.toInt.toNat)) 51 2 ((g_fill51 (Int32.ofInt 0) S) (s + 3) g.toInt.toNat)) 51 3 (f_J6_bitCount_0f7a4 ((g_fill51 (Int32.ofInt 0) S) (s + 6) g.toInt.toNat))) R _
      refine u_ic_ge rfl (fun h16 => ?_) (fun h16 => ?_)
      · show u_P L xs n d m_X3_lookAtGust 119 [(3, .int ((g_fill51 (Int32.ofInt 0) S) (s + 4) g.toInt.toNat)), (0, .ref 51), (1, .ref (s + 1)), (2, .int g)] [.int (Int32.ofInt 4), .ref 52] (z_s (z_s (z_s (z_s (z_s (g_fill51 (Int32.ofInt 0) S) 51 14 (((g_fill51 (Int32.ofInt 0) S) s 11) - ((g_fill51 (Int32.ofInt 0) S) s 11) / (Int32.ofInt 12) * (Int32.ofInt 12))) 51 0 ((g_fill51 (Int32.ofInt 0) S) (s + 1) g.toInt.toNat)) 51 1 ((g_fill51 (Int32.ofInt 0) S) (s + 2) g.toInt.toNat)) 51 2 ((g_fill51 (Int32.ofInt 0) S) (s + 3) g.toInt.toNat)) 51 3 (f_J6_bitCount_0f7a4 ((g_fill51 (Int32.ofInt 0) S) (s + 6) g.toInt.toNat))) R _
        refine u_st rfl (fun _ => rfl) ?_
        show u_P L xs n d m_X3_lookAtGust 120 [(3, .int ((g_fill51 (Int32.ofInt 0) S) (s + 4) g.toInt.toNat)), (0, .ref 51), (1, .ref (s + 1)), (2, .int g)] [.int (Int32.ofInt 0), .int (Int32.ofInt 4), .ref 52] (z_s (z_s (z_s (z_s (z_s (g_fill51 (Int32.ofInt 0) S) 51 14 (((g_fill51 (Int32.ofInt 0) S) s 11) - ((g_fill51 (Int32.ofInt 0) S) s 11) / (Int32.ofInt 12) * (Int32.ofInt 12))) 51 0 ((g_fill51 (Int32.ofInt 0) S) (s + 1) g.toInt.toNat)) 51 1 ((g_fill51 (Int32.ofInt 0) S) (s + 2) g.toInt.toNat)) 51 2 ((g_fill51 (Int32.ofInt 0) S) (s + 3) g.toInt.toNat)) 51 3 (f_J6_bitCount_0f7a4 ((g_fill51 (Int32.ofInt 0) S) (s + 6) g.toInt.toNat))) R _
        refine u_iast rfl rfl (fun b171 b172 => ?_)
        refine u_st rfl (fun _ => rfl) ?_
        show u_P L xs n d m_X3_lookAtGust 122 [(3, .int ((g_fill51 (Int32.ofInt 0) S) (s + 4) g.toInt.toNat)), (0, .ref 51), (1, .ref (s + 1)), (2, .int g)] [.ref 51] (z_s (z_s (z_s (z_s (z_s (z_s (g_fill51 (Int32.ofInt 0) S) 51 14 (((g_fill51 (Int32.ofInt 0) S) s 11) - ((g_fill51 (Int32.ofInt 0) S) s 11) / (Int32.ofInt 12) * (Int32.ofInt 12))) 51 0 ((g_fill51 (Int32.ofInt 0) S) (s + 1) g.toInt.toNat)) 51 1 ((g_fill51 (Int32.ofInt 0) S) (s + 2) g.toInt.toNat)) 51 2 ((g_fill51 (Int32.ofInt 0) S) (s + 3) g.toInt.toNat)) 51 3 (f_J6_bitCount_0f7a4 ((g_fill51 (Int32.ofInt 0) S) (s + 6) g.toInt.toNat))) 51 4 (Int32.ofInt 0)) R _
        refine u_getr rfl rfl rfl ?_
        refine u_st rfl (fun _ => rfl) ?_
        refine u_st rfl (fun _ => rfl) ?_
        show u_P L xs n d m_X3_lookAtGust 127 [(3, .int ((g_fill51 (Int32.ofInt 0) S) (s + 4) g.toInt.toNat)), (0, .ref 51), (1, .ref (s + 1)), (2, .int g)] [.int ((g_fill51 (Int32.ofInt 0) S) (s + 4) g.toInt.toNat), .int (Int32.ofInt 5), .ref 52] (z_s (z_s (z_s (z_s (z_s (z_s (g_fill51 (Int32.ofInt 0) S) 51 14 (((g_fill51 (Int32.ofInt 0) S) s 11) - ((g_fill51 (Int32.ofInt 0) S) s 11) / (Int32.ofInt 12) * (Int32.ofInt 12))) 51 0 ((g_fill51 (Int32.ofInt 0) S) (s + 1) g.toInt.toNat)) 51 1 ((g_fill51 (Int32.ofInt 0) S) (s + 2) g.toInt.toNat)) 51 2 ((g_fill51 (Int32.ofInt 0) S) (s + 3) g.toInt.toNat)) 51 3 (f_J6_bitCount_0f7a4 ((g_fill51 (Int32.ofInt 0) S) (s + 6) g.toInt.toNat))) 51 4 (Int32.ofInt 0)) R _
        refine u_iast rfl rfl (fun b181 b182 => ?_)
        show u_P L xs n d m_X3_lookAtGust 128 [(3, .int ((g_fill51 (Int32.ofInt 0) S) (s + 4) g.toInt.toNat)), (0, .ref 51), (1, .ref (s + 1)), (2, .int g)] [] (z_s (z_s (z_s (z_s (z_s (z_s (z_s (g_fill51 (Int32.ofInt 0) S) 51 14 (((g_fill51 (Int32.ofInt 0) S) s 11) - ((g_fill51 (Int32.ofInt 0) S) s 11) / (Int32.ofInt 12) * (Int32.ofInt 12))) 51 0 ((g_fill51 (Int32.ofInt 0) S) (s + 1) g.toInt.toNat)) 51 1 ((g_fill51 (Int32.ofInt 0) S) (s + 2) g.toInt.toNat)) 51 2 ((g_fill51 (Int32.ofInt 0) S) (s + 3) g.toInt.toNat)) 51 3 (f_J6_bitCount_0f7a4 ((g_fill51 (Int32.ofInt 0) S) (s + 6) g.toInt.toNat))) 51 4 (Int32.ofInt 0)) 51 5 ((g_fill51 (Int32.ofInt 0) S) (s + 4) g.toInt.toNat)) R _
        exact u_ret rfl rfl ⟨rfl, rfl, by rw [g_X3_lookAtGust, if_pos h3, if_neg h13, if_pos h16]⟩
      · show u_P L xs n d m_X3_lookAtGust 107 [(3, .int ((g_fill51 (Int32.ofInt 0) S) (s + 4) g.toInt.toNat)), (0, .ref 51), (1, .ref (s + 1)), (2, .int g)] [.int (Int32.ofInt 4), .ref 52] (z_s (z_s (z_s (z_s (z_s (g_fill51 (Int32.ofInt 0) S) 51 14 (((g_fill51 (Int32.ofInt 0) S) s 11) - ((g_fill51 (Int32.ofInt 0) S) s 11) / (Int32.ofInt 12) * (Int32.ofInt 12))) 51 0 ((g_fill51 (Int32.ofInt 0) S) (s + 1) g.toInt.toNat)) 51 1 ((g_fill51 (Int32.ofInt 0) S) (s + 2) g.toInt.toNat)) 51 2 ((g_fill51 (Int32.ofInt 0) S) (s + 3) g.toInt.toNat)) 51 3 (f_J6_bitCount_0f7a4 ((g_fill51 (Int32.ofInt 0) S) (s + 6) g.toInt.toNat))) R _
        refine u_st rfl (fun _ => rfl) ?_
        show u_P L xs n d m_X3_lookAtGust 108 [(3, .int ((g_fill51 (Int32.ofInt 0) S) (s + 4) g.toInt.toNat)), (0, .ref 51), (1, .ref (s + 1)), (2, .int g)] [.ref 51, .int (Int32.ofInt 4), .ref 52] (z_s (z_s (z_s (z_s (z_s (g_fill51 (Int32.ofInt 0) S) 51 14 (((g_fill51 (Int32.ofInt 0) S) s 11) - ((g_fill51 (Int32.ofInt 0) S) s 11) / (Int32.ofInt 12) * (Int32.ofInt 12))) 51 0 ((g_fill51 (Int32.ofInt 0) S) (s + 1) g.toInt.toNat)) 51 1 ((g_fill51 (Int32.ofInt 0) S) (s + 2) g.toInt.toNat)) 51 2 ((g_fill51 (Int32.ofInt 0) S) (s + 3) g.toInt.toNat)) 51 3 (f_J6_bitCount_0f7a4 ((g_fill51 (Int32.ofInt 0) S) (s + 6) g.toInt.toNat))) R _
        refine u_getr rfl rfl rfl ?_
        refine u_st rfl (fun _ => rfl) ?_
        show u_P L xs n d m_X3_lookAtGust 112 [(3, .int ((g_fill51 (Int32.ofInt 0) S) (s + 4) g.toInt.toNat)), (0, .ref 51), (1, .ref (s + 1)), (2, .int g)] [.int ((g_fill51 (Int32.ofInt 0) S) (s + 4) g.toInt.toNat), .ref 33, .int (Int32.ofInt 4), .ref 52] (z_s (z_s (z_s (z_s (z_s (g_fill51 (Int32.ofInt 0) S) 51 14 (((g_fill51 (Int32.ofInt 0) S) s 11) - ((g_fill51 (Int32.ofInt 0) S) s 11) / (Int32.ofInt 12) * (Int32.ofInt 12))) 51 0 ((g_fill51 (Int32.ofInt 0) S) (s + 1) g.toInt.toNat)) 51 1 ((g_fill51 (Int32.ofInt 0) S) (s + 2) g.toInt.toNat)) 51 2 ((g_fill51 (Int32.ofInt 0) S) (s + 3) g.toInt.toNat)) 51 3 (f_J6_bitCount_0f7a4 ((g_fill51 (Int32.ofInt 0) S) (s + 6) g.toInt.toNat))) R _
        refine u_aald rfl rfl (fun b191 b192 => ?_)
        rw [hW _ (z_lt6 b191 b192)]
        show u_P L xs n d m_X3_lookAtGust 113 [(3, .int ((g_fill51 (Int32.ofInt 0) S) (s + 4) g.toInt.toNat)), (0, .ref 51), (1, .ref (s + 1)), (2, .int g)] [.ref (((33 + 2 * ((g_fill51 (Int32.ofInt 0) S) (s + 4) g.toInt.toNat).toInt.toNat)) + 1), .int (Int32.ofInt 4), .ref 52] (z_s (z_s (z_s (z_s (z_s (g_fill51 (Int32.ofInt 0) S) 51 14 (((g_fill51 (Int32.ofInt 0) S) s 11) - ((g_fill51 (Int32.ofInt 0) S) s 11) / (Int32.ofInt 12) * (Int32.ofInt 12))) 51 0 ((g_fill51 (Int32.ofInt 0) S) (s + 1) g.toInt.toNat)) 51 1 ((g_fill51 (Int32.ofInt 0) S) (s + 2) g.toInt.toNat)) 51 2 ((g_fill51 (Int32.ofInt 0) S) (s + 3) g.toInt.toNat)) 51 3 (f_J6_bitCount_0f7a4 ((g_fill51 (Int32.ofInt 0) S) (s + 6) g.toInt.toNat))) R _
        refine u_getE (v := (g_fill51 (Int32.ofInt 0) S) ((33 + 2 * ((g_fill51 (Int32.ofInt 0) S) (s + 4) g.toInt.toNat).toInt.toNat)) 3) rfl (z_wd0 (z_wdi b191 b192)) rfl ((z_sn (fun h => absurd h.1 (by have := z_wdl (z_wdi b191 b192); omega))).trans ((z_sn (fun h => absurd h.1 (by have := z_wdl (z_wdi b191 b192); omega))).trans ((z_sn (fun h => absurd h.1 (by have := z_wdl (z_wdi b191 b192); omega))).trans ((z_sn (fun h => absurd h.1 (by have := z_wdl (z_wdi b191 b192); omega))).trans (z_sn (fun h => absurd h.1 (by have := z_wdl (z_wdi b191 b192); omega))))))) ?_
        refine u_st rfl (fun _ => rfl) ?_
        show u_P L xs n d m_X3_lookAtGust 120 [(3, .int ((g_fill51 (Int32.ofInt 0) S) (s + 4) g.toInt.toNat)), (0, .ref 51), (1, .ref (s + 1)), (2, .int g)] [.int ((g_fill51 (Int32.ofInt 0) S) ((33 + 2 * ((g_fill51 (Int32.ofInt 0) S) (s + 4) g.toInt.toNat).toInt.toNat)) 3), .int (Int32.ofInt 4), .ref 52] (z_s (z_s (z_s (z_s (z_s (g_fill51 (Int32.ofInt 0) S) 51 14 (((g_fill51 (Int32.ofInt 0) S) s 11) - ((g_fill51 (Int32.ofInt 0) S) s 11) / (Int32.ofInt 12) * (Int32.ofInt 12))) 51 0 ((g_fill51 (Int32.ofInt 0) S) (s + 1) g.toInt.toNat)) 51 1 ((g_fill51 (Int32.ofInt 0) S) (s + 2) g.toInt.toNat)) 51 2 ((g_fill51 (Int32.ofInt 0) S) (s + 3) g.toInt.toNat)) 51 3 (f_J6_bitCount_0f7a4 ((g_fill51 (Int32.ofInt 0) S) (s + 6) g.toInt.toNat))) R _
        refine u_iast rfl rfl (fun b201 b202 => ?_)
        refine u_st rfl (fun _ => rfl) ?_
        show u_P L xs n d m_X3_lookAtGust 122 [(3, .int ((g_fill51 (Int32.ofInt 0) S) (s + 4) g.toInt.toNat)), (0, .ref 51), (1, .ref (s + 1)), (2, .int g)] [.ref 51] (z_s (z_s (z_s (z_s (z_s (z_s (g_fill51 (Int32.ofInt 0) S) 51 14 (((g_fill51 (Int32.ofInt 0) S) s 11) - ((g_fill51 (Int32.ofInt 0) S) s 11) / (Int32.ofInt 12) * (Int32.ofInt 12))) 51 0 ((g_fill51 (Int32.ofInt 0) S) (s + 1) g.toInt.toNat)) 51 1 ((g_fill51 (Int32.ofInt 0) S) (s + 2) g.toInt.toNat)) 51 2 ((g_fill51 (Int32.ofInt 0) S) (s + 3) g.toInt.toNat)) 51 3 (f_J6_bitCount_0f7a4 ((g_fill51 (Int32.ofInt 0) S) (s + 6) g.toInt.toNat))) 51 4 ((g_fill51 (Int32.ofInt 0) S) ((33 + 2 * ((g_fill51 (Int32.ofInt 0) S) (s + 4) g.toInt.toNat).toInt.toNat)) 3)) R _
        refine u_getr rfl rfl rfl ?_
        refine u_st rfl (fun _ => rfl) ?_
        refine u_st rfl (fun _ => rfl) ?_
        show u_P L xs n d m_X3_lookAtGust 127 [(3, .int ((g_fill51 (Int32.ofInt 0) S) (s + 4) g.toInt.toNat)), (0, .ref 51), (1, .ref (s + 1)), (2, .int g)] [.int ((g_fill51 (Int32.ofInt 0) S) (s + 4) g.toInt.toNat), .int (Int32.ofInt 5), .ref 52] (z_s (z_s (z_s (z_s (z_s (z_s (g_fill51 (Int32.ofInt 0) S) 51 14 (((g_fill51 (Int32.ofInt 0) S) s 11) - ((g_fill51 (Int32.ofInt 0) S) s 11) / (Int32.ofInt 12) * (Int32.ofInt 12))) 51 0 ((g_fill51 (Int32.ofInt 0) S) (s + 1) g.toInt.toNat)) 51 1 ((g_fill51 (Int32.ofInt 0) S) (s + 2) g.toInt.toNat)) 51 2 ((g_fill51 (Int32.ofInt 0) S) (s + 3) g.toInt.toNat)) 51 3 (f_J6_bitCount_0f7a4 ((g_fill51 (Int32.ofInt 0) S) (s + 6) g.toInt.toNat))) 51 4 ((g_fill51 (Int32.ofInt 0) S) ((33 + 2 * ((g_fill51 (Int32.ofInt 0) S) (s + 4) g.toInt.toNat).toInt.toNat)) 3)) R _
        refine u_iast rfl rfl (fun b211 b212 => ?_)
        show u_P L xs n d m_X3_lookAtGust 128 [(3, .int ((g_fill51 (Int32.ofInt 0) S) (s + 4) g.toInt.toNat)), (0, .ref 51), (1, .ref (s + 1)), (2, .int g)] [] (z_s (z_s (z_s (z_s (z_s (z_s (z_s (g_fill51 (Int32.ofInt 0) S) 51 14 (((g_fill51 (Int32.ofInt 0) S) s 11) - ((g_fill51 (Int32.ofInt 0) S) s 11) / (Int32.ofInt 12) * (Int32.ofInt 12))) 51 0 ((g_fill51 (Int32.ofInt 0) S) (s + 1) g.toInt.toNat)) 51 1 ((g_fill51 (Int32.ofInt 0) S) (s + 2) g.toInt.toNat)) 51 2 ((g_fill51 (Int32.ofInt 0) S) (s + 3) g.toInt.toNat)) 51 3 (f_J6_bitCount_0f7a4 ((g_fill51 (Int32.ofInt 0) S) (s + 6) g.toInt.toNat))) 51 4 ((g_fill51 (Int32.ofInt 0) S) ((33 + 2 * ((g_fill51 (Int32.ofInt 0) S) (s + 4) g.toInt.toNat).toInt.toNat)) 3)) 51 5 ((g_fill51 (Int32.ofInt 0) S) (s + 4) g.toInt.toNat)) R _
        exact u_ret rfl rfl ⟨rfl, rfl, by rw [g_X3_lookAtGust, if_pos h3, if_neg h13, if_neg h16]⟩
  · show u_P L xs n d m_X3_lookAtGust 30 [(0, .ref 51), (1, .ref (s + 1)), (2, .int g)] [] (z_s (g_fill51 (Int32.ofInt 0) S) 51 14 (((g_fill51 (Int32.ofInt 0) S) s 11) - ((g_fill51 (Int32.ofInt 0) S) s 11) / (Int32.ofInt 12) * (Int32.ofInt 12))) R _
    exact u_ret rfl rfl ⟨rfl, rfl, by rw [g_X3_lookAtGust, if_neg h3]⟩
noncomputable abbrev m_X3_lookAtTwo : g_M := (g_cn 3, yX3_lookAtTwo, cX3_lookAtTwo, 4, none, g_look2 ttX3_lookAtTwo)
set_option maxRecDepth 20000 in
theorem mt_X3_lookAtTwo : g_mt 41 = some m_X3_lookAtTwo := rfl
noncomputable def g_X3_lookAtTwo (s : Nat) (g : Int32) (j : Int32) (S : v_Sf) : v_Sf := (if (f_X7_hasGust s j (g_X3_lookAtGust s g S)) = 0 then g_X3_lookAtGust s g S else z_s (z_s (g_X3_lookAtGust s g S) 51 6 ((g_X3_lookAtGust s g S) (s + 1) j.toInt.toNat)) 51 7 ((g_X3_lookAtGust s g S) (s + 2) j.toInt.toNat))
set_option maxRecDepth 4000 in
theorem c_X3_lookAtTwo (L : Nat) (xs : Nat → Int32) (n d : Nat) {R : v_Rf} (hW : z_W R) (s : Nat) (hs : z_st s) (g : Int32) (j : Int32) (S : v_Sf) : u_P L xs n d m_X3_lookAtTwo 0 (lv_args 0 [.ref 51, .ref (s + 1), .int g, .int j]) [] S R (z_V R (fun S1 => g_X3_lookAtTwo s g j S = S1)) := by
  show u_P L xs n d m_X3_lookAtTwo 0 [(0, .ref 51), (1, .ref (s + 1)), (2, .int g), (3, .int j)] [] S R _
  refine u_st rfl (fun _ => rfl) ?_
  refine u_st rfl (fun _ => rfl) ?_
  refine u_st rfl (fun _ => rfl) ?_
  show u_P L xs n d m_X3_lookAtTwo 3 [(0, .ref 51), (1, .ref (s + 1)), (2, .int g), (3, .int j)] [.int g, .ref (s + 1), .ref 51] S R _
  refine u_cv (rest := []) rfl (by decide) mt_X3_lookAtGust rfl rfl rfl rfl (Nat.le_of_ble_eq_true rfl) (Nat.le_of_ble_eq_true rfl) (Nat.le_of_ble_eq_true rfl) (fun d' => c_X3_lookAtGust L xs n d' hW s hs g S) ?_
  rintro _ _ _ ⟨rfl, rfl, rfl⟩
  refine u_st rfl (fun _ => rfl) ?_
  refine u_st rfl (fun _ => rfl) ?_
  show u_P L xs n d m_X3_lookAtTwo 8 [(0, .ref 51), (1, .ref (s + 1)), (2, .int g), (3, .int j)] [.int j, .ref (s + 1)] (g_X3_lookAtGust s g S) R _
  refine u_cv (rest := []) rfl (by decide) mt_X7_hasGust (z_st0 hs) rfl rfl rfl (Nat.le_of_ble_eq_true rfl) (Nat.le_of_ble_eq_true rfl) (Nat.le_of_ble_eq_true rfl) (fun d' => c_X7_hasGust L xs n d' s hs j (g_X3_lookAtGust s g S) R) ?_
  rintro _ _ _ ⟨_, rfl, rfl, rfl, rfl⟩
  show u_P L xs n d m_X3_lookAtTwo 11 [(0, .ref 51), (1, .ref (s + 1)), (2, .int g), (3, .int j)] [.int (f_X7_hasGust s j (g_X3_lookAtGust s g S))] (g_X3_lookAtGust s g S) R _
  refine u_if_eq rfl (fun h1 => ?_) (fun h1 => ?_)
  · show u_P L xs n d m_X3_lookAtTwo 40 [(0, .ref 51), (1, .ref (s + 1)), (2, .int g), (3, .int j)] [] (g_X3_lookAtGust s g S) R _
    exact u_ret rfl rfl ⟨rfl, rfl, by rw [g_X3_lookAtTwo, if_pos h1]⟩
  · show u_P L xs n d m_X3_lookAtTwo 14 [(0, .ref 51), (1, .ref (s + 1)), (2, .int g), (3, .int j)] [] (g_X3_lookAtGust s g S) R _
    refine u_st rfl (fun _ => rfl) ?_
    show u_P L xs n d m_X3_lookAtTwo 15 [(0, .ref 51), (1, .ref (s + 1)), (2, .int g), (3, .int j)] [.ref 51] (g_X3_lookAtGust s g S) R _
    refine u_getr rfl rfl rfl ?_
    refine u_st rfl (fun _ => rfl) ?_
    refine u_st rfl (fun _ => rfl) ?_
    show u_P L xs n d m_X3_lookAtTwo 21 [(0, .ref 51), (1, .ref (s + 1)), (2, .int g), (3, .int j)] [.ref (s + 1), .int (Int32.ofInt 6), .ref 52] (g_X3_lookAtGust s g S) R _
    refine u_getr rfl (z_st0 hs) rfl ?_
    refine u_st rfl (fun _ => rfl) ?_
    show u_P L xs n d m_X3_lookAtTwo 25 [(0, .ref 51), (1, .ref (s + 1)), (2, .int g), (3, .int j)] [.int j, .ref (s + 2), .int (Int32.ofInt 6), .ref 52] (g_X3_lookAtGust s g S) R _
    refine u_ialdE (v := (g_X3_lookAtGust s g S) (s + 1) j.toInt.toNat) rfl (z_st1 hs) rfl (fun b21 b22 => ?_)
    show u_P L xs n d m_X3_lookAtTwo 26 [(0, .ref 51), (1, .ref (s + 1)), (2, .int g), (3, .int j)] [.int ((g_X3_lookAtGust s g S) (s + 1) j.toInt.toNat), .int (Int32.ofInt 6), .ref 52] (g_X3_lookAtGust s g S) R _
    refine u_iast rfl rfl (fun b31 b32 => ?_)
    refine u_st rfl (fun _ => rfl) ?_
    show u_P L xs n d m_X3_lookAtTwo 28 [(0, .ref 51), (1, .ref (s + 1)), (2, .int g), (3, .int j)] [.ref 51] (z_s (g_X3_lookAtGust s g S) 51 6 ((g_X3_lookAtGust s g S) (s + 1) j.toInt.toNat)) R _
    refine u_getr rfl rfl rfl ?_
    refine u_st rfl (fun _ => rfl) ?_
    refine u_st rfl (fun _ => rfl) ?_
    show u_P L xs n d m_X3_lookAtTwo 34 [(0, .ref 51), (1, .ref (s + 1)), (2, .int g), (3, .int j)] [.ref (s + 1), .int (Int32.ofInt 7), .ref 52] (z_s (g_X3_lookAtGust s g S) 51 6 ((g_X3_lookAtGust s g S) (s + 1) j.toInt.toNat)) R _
    refine u_getr rfl (z_st0 hs) rfl ?_
    refine u_st rfl (fun _ => rfl) ?_
    show u_P L xs n d m_X3_lookAtTwo 38 [(0, .ref 51), (1, .ref (s + 1)), (2, .int g), (3, .int j)] [.int j, .ref (s + 3), .int (Int32.ofInt 7), .ref 52] (z_s (g_X3_lookAtGust s g S) 51 6 ((g_X3_lookAtGust s g S) (s + 1) j.toInt.toNat)) R _
    refine u_ialdE (v := (g_X3_lookAtGust s g S) (s + 2) j.toInt.toNat) rfl (z_st2 hs) (z_sn (fun h => absurd h.1 (by have := z_stl hs; omega))) (fun b41 b42 => ?_)
    show u_P L xs n d m_X3_lookAtTwo 39 [(0, .ref 51), (1, .ref (s + 1)), (2, .int g), (3, .int j)] [.int ((g_X3_lookAtGust s g S) (s + 2) j.toInt.toNat), .int (Int32.ofInt 7), .ref 52] (z_s (g_X3_lookAtGust s g S) 51 6 ((g_X3_lookAtGust s g S) (s + 1) j.toInt.toNat)) R _
    refine u_iast rfl rfl (fun b51 b52 => ?_)
    show u_P L xs n d m_X3_lookAtTwo 40 [(0, .ref 51), (1, .ref (s + 1)), (2, .int g), (3, .int j)] [] (z_s (z_s (g_X3_lookAtGust s g S) 51 6 ((g_X3_lookAtGust s g S) (s + 1) j.toInt.toNat)) 51 7 ((g_X3_lookAtGust s g S) (s + 2) j.toInt.toNat)) R _
    exact u_ret rfl rfl ⟨rfl, rfl, by rw [g_X3_lookAtTwo, if_neg h1]⟩
noncomputable abbrev m_X3_lookAtWard : g_M := (g_cn 3, yX3_lookAtWard, cX3_lookAtWard, 6, none, g_look2 ttX3_lookAtWard)
set_option maxRecDepth 20000 in
theorem mt_X3_lookAtWard : g_mt 42 = some m_X3_lookAtWard := rfl
noncomputable def D_X3_lookAtWard_90 (s : Nat) (H90 : Int32 → Int32 → v_Sf → Prop) (K : v_Sf → Prop) (x3 : Int32) (x5 : Int32) (S : v_Sf) : Prop := (((Int32.ofInt 12) ≤ x5 → (0 ≤ (Int32.ofInt 12).toInt → (Int32.ofInt 12).toInt < 15 → (0 ≤ (Int32.ofInt 13).toInt → (Int32.ofInt 13).toInt < 15 → (0 ≤ (Int32.ofInt 14).toInt → (Int32.ofInt 14).toInt < 15 → K (z_s (z_s (z_s S 51 12 (S s 12)) 51 13 (S s 13)) 51 14 ((S s 11) - (S s 11) / (Int32.ofInt 12) * (Int32.ofInt 12))))))) ∧ (¬ ((Int32.ofInt 12) ≤ x5) → (0 ≤ (Int32.ofInt 11).toInt → (Int32.ofInt 11).toInt < 15 → (((f_X11_isIn x3 x5) = 0 → (0 ≤ (Int32.ofInt 11).toInt → (Int32.ofInt 11).toInt < 15 → H90 x3 (x5 + (Int32.ofInt 1)) (z_s S 51 11 ((S 51 11) + (Int32.ofInt 0))))) ∧ (¬ ((f_X11_isIn x3 x5) = 0) → (0 ≤ x5.toInt → x5.toInt < 12 → (0 ≤ (Int32.ofInt 11).toInt → (Int32.ofInt 11).toInt < 15 → H90 x3 (x5 + (Int32.ofInt 1)) (z_s S 51 11 ((S 51 11) + (S (s + 1) x5.toInt.toNat))))))))))
noncomputable def D_X3_lookAtWard (s : Nat) (w : Int32) (H90 : Int32 → Int32 → v_Sf → Prop) (K : v_Sf → Prop) (S : v_Sf) : Prop := ((w < 0 → (0 ≤ (Int32.ofInt 5).toInt → (Int32.ofInt 5).toInt < 15 → (((f_X7_hasNurse s (Int32.ofInt (-1)) (z_s (g_fill51 (Int32.ofInt 0) S) 51 5 w)) = 0 → (0 ≤ (Int32.ofInt 9).toInt → (Int32.ofInt 9).toInt < 15 → (0 ≤ (Int32.ofInt 10).toInt → (Int32.ofInt 10).toInt < 15 → H90 (f_X7_inWard s w (g_fill51 (Int32.ofInt 0) S)) (Int32.ofInt 0) (z_s (z_s (z_s (g_fill51 (Int32.ofInt 0) S) 51 5 w) 51 9 (Int32.ofInt 0)) 51 10 (f_J6_bitCount_0f7a4 (f_X7_inWard s w (g_fill51 (Int32.ofInt 0) S))))))) ∧ (¬ ((f_X7_hasNurse s (Int32.ofInt (-1)) (z_s (g_fill51 (Int32.ofInt 0) S) 51 5 w)) = 0) → (0 ≤ (Int32.ofInt (-1)).toInt → (Int32.ofInt (-1)).toInt < 5 → (0 ≤ (Int32.ofInt 9).toInt → (Int32.ofInt 9).toInt < 15 → (0 ≤ (Int32.ofInt 10).toInt → (Int32.ofInt 10).toInt < 15 → H90 (f_X7_inWard s w (g_fill51 (Int32.ofInt 0) S)) (Int32.ofInt 0) (z_s (z_s (z_s (g_fill51 (Int32.ofInt 0) S) 51 5 w) 51 9 ((g_fill51 (Int32.ofInt 0) S) (s + 7) ((Int32.ofInt (-1)).toInt.toNat))) 51 10 (f_J6_bitCount_0f7a4 (f_X7_inWard s w (g_fill51 (Int32.ofInt 0) S))))))))))) ∧ (¬ (w < 0) → (((Int32.ofNat 6) ≤ w → (0 ≤ (Int32.ofInt 5).toInt → (Int32.ofInt 5).toInt < 15 → (((f_X7_hasNurse s (Int32.ofInt (-1)) (z_s (g_fill51 (Int32.ofInt 0) S) 51 5 w)) = 0 → (0 ≤ (Int32.ofInt 9).toInt → (Int32.ofInt 9).toInt < 15 → (0 ≤ (Int32.ofInt 10).toInt → (Int32.ofInt 10).toInt < 15 → H90 (f_X7_inWard s w (g_fill51 (Int32.ofInt 0) S)) (Int32.ofInt 0) (z_s (z_s (z_s (g_fill51 (Int32.ofInt 0) S) 51 5 w) 51 9 (Int32.ofInt 0)) 51 10 (f_J6_bitCount_0f7a4 (f_X7_inWard s w (g_fill51 (Int32.ofInt 0) S))))))) ∧ (¬ ((f_X7_hasNurse s (Int32.ofInt (-1)) (z_s (g_fill51 (Int32.ofInt 0) S) 51 5 w)) = 0) → (0 ≤ (Int32.ofInt (-1)).toInt → (Int32.ofInt (-1)).toInt < 5 → (0 ≤ (Int32.ofInt 9).toInt → (Int32.ofInt 9).toInt < 15 → (0 ≤ (Int32.ofInt 10).toInt → (Int32.ofInt 10).toInt < 15 → H90 (f_X7_inWard s w (g_fill51 (Int32.ofInt 0) S)) (Int32.ofInt 0) (z_s (z_s (z_s (g_fill51 (Int32.ofInt 0) S) 51 5 w) 51 9 ((g_fill51 (Int32.ofInt 0) S) (s + 7) ((Int32.ofInt (-1)).toInt.toNat))) 51 10 (f_J6_bitCount_0f7a4 (f_X7_inWard s w (g_fill51 (Int32.ofInt 0) S))))))))))) ∧ (¬ ((Int32.ofNat 6) ≤ w) → (0 ≤ w.toInt → w.toInt < 6 → (0 ≤ (Int32.ofInt 5).toInt → (Int32.ofInt 5).toInt < 15 → (((f_X7_hasNurse s ((g_fill51 (Int32.ofInt 0) S) ((33 + 2 * w.toInt.toNat)) 4) (z_s (g_fill51 (Int32.ofInt 0) S) 51 5 w)) = 0 → (0 ≤ (Int32.ofInt 9).toInt → (Int32.ofInt 9).toInt < 15 → (0 ≤ (Int32.ofInt 10).toInt → (Int32.ofInt 10).toInt < 15 → H90 (f_X7_inWard s w (g_fill51 (Int32.ofInt 0) S)) (Int32.ofInt 0) (z_s (z_s (z_s (g_fill51 (Int32.ofInt 0) S) 51 5 w) 51 9 (Int32.ofInt 0)) 51 10 (f_J6_bitCount_0f7a4 (f_X7_inWard s w (g_fill51 (Int32.ofInt 0) S))))))) ∧ (¬ ((f_X7_hasNurse s ((g_fill51 (Int32.ofInt 0) S) ((33 + 2 * w.toInt.toNat)) 4) (z_s (g_fill51 (Int32.ofInt 0) S) 51 5 w)) = 0) → (0 ≤ ((g_fill51 (Int32.ofInt 0) S) ((33 + 2 * w.toInt.toNat)) 4).toInt → ((g_fill51 (Int32.ofInt 0) S) ((33 + 2 * w.toInt.toNat)) 4).toInt < 5 → (0 ≤ (Int32.ofInt 9).toInt → (Int32.ofInt 9).toInt < 15 → (0 ≤ (Int32.ofInt 10).toInt → (Int32.ofInt 10).toInt < 15 → H90 (f_X7_inWard s w (g_fill51 (Int32.ofInt 0) S)) (Int32.ofInt 0) (z_s (z_s (z_s (g_fill51 (Int32.ofInt 0) S) 51 5 w) 51 9 ((g_fill51 (Int32.ofInt 0) S) (s + 7) (((g_fill51 (Int32.ofInt 0) S) ((33 + 2 * w.toInt.toNat)) 4).toInt.toNat))) 51 10 (f_J6_bitCount_0f7a4 (f_X7_inWard s w (g_fill51 (Int32.ofInt 0) S)))))))))))))))
set_option maxRecDepth 4000 in
theorem hd_X3_lookAtWard (L : Nat) (xs : Nat → Int32) {R : v_Rf} (hW : z_W R) (s : Nat) (hs : z_st s) (w : Int32) (H90 : Int32 → Int32 → v_Sf → Prop) (K : v_Sf → Prop) (k90 : ∀ (x3 : Int32) (x5 : Int32) (S : v_Sf), H90 x3 x5 S → D_X3_lookAtWard_90 s H90 K x3 x5 S) : ∀ n, (∀ (d : Nat) (j2 : Int32) (j4 : Int32) (x3 : Int32) (x5 : Int32) (S : v_Sf), H90 x3 x5 S → u_P L xs n d m_X3_lookAtWard 90 [(0, .ref 51), (1, .ref (s + 1)), (2, .int j2), (3, .int x3), (4, .int j4), (5, .int x5)] [] S R (z_V R K)) := by
  intro n
  induction n using Nat.strongRecOn with
  | ind n ih =>
    intro d j2 j4 x3 x5 S hD
    have hD := k90 x3 x5 S hD
    unfold D_X3_lookAtWard_90 at hD
    show u_P L xs n d m_X3_lookAtWard 90 [(0, .ref 51), (1, .ref (s + 1)), (2, .int j2), (3, .int x3), (4, .int j4), (5, .int x5)] [] S R _
    refine u_st1 rfl (fun _ => rfl) (fun m hm => ?_)
    refine u_st rfl (fun _ => rfl) ?_
    show u_P L xs m d m_X3_lookAtWard 94 [(0, .ref 51), (1, .ref (s + 1)), (2, .int j2), (3, .int x3), (4, .int j4), (5, .int x5)] [.int (Int32.ofInt 12), .int x5] S R _
    refine u_ic_ge rfl (fun h1 => ?_) (fun h1 => ?_)
    · have hD := hD.1 h1
      show u_P L xs m d m_X3_lookAtWard 133 [(0, .ref 51), (1, .ref (s + 1)), (2, .int j2), (3, .int x3), (4, .int j4), (5, .int x5)] [] S R _
      refine u_st rfl (fun _ => rfl) ?_
      show u_P L xs m d m_X3_lookAtWard 134 [(0, .ref 51), (1, .ref (s + 1)), (2, .int j2), (3, .int x3), (4, .int j4), (5, .int x5)] [.ref 51] S R _
      refine u_getr rfl rfl rfl ?_
      refine u_st rfl (fun _ => rfl) ?_
      refine u_st rfl (fun _ => rfl) ?_
      show u_P L xs m d m_X3_lookAtWard 140 [(0, .ref 51), (1, .ref (s + 1)), (2, .int j2), (3, .int x3), (4, .int j4), (5, .int x5)] [.ref (s + 1), .int (Int32.ofInt 12), .ref 52] S R _
      refine u_getE (v := S s 12) rfl (z_st0 hs) rfl rfl ?_
      show u_P L xs m d m_X3_lookAtWard 143 [(0, .ref 51), (1, .ref (s + 1)), (2, .int j2), (3, .int x3), (4, .int j4), (5, .int x5)] [.int (S s 12), .int (Int32.ofInt 12), .ref 52] S R _
      refine u_iast rfl rfl (fun b21 b22 => ?_)
      have hD := hD b21 b22
      show u_P L xs m d m_X3_lookAtWard 144 [(0, .ref 51), (1, .ref (s + 1)), (2, .int j2), (3, .int x3), (4, .int j4), (5, .int x5)] [] (z_s S 51 12 (S s 12)) R _
      refine u_st rfl (fun _ => rfl) ?_
      show u_P L xs m d m_X3_lookAtWard 145 [(0, .ref 51), (1, .ref (s + 1)), (2, .int j2), (3, .int x3), (4, .int j4), (5, .int x5)] [.ref 51] (z_s S 51 12 (S s 12)) R _
      refine u_getr rfl rfl rfl ?_
      refine u_st rfl (fun _ => rfl) ?_
      refine u_st rfl (fun _ => rfl) ?_
      show u_P L xs m d m_X3_lookAtWard 151 [(0, .ref 51), (1, .ref (s + 1)), (2, .int j2), (3, .int x3), (4, .int j4), (5, .int x5)] [.ref (s + 1), .int (Int32.ofInt 13), .ref 52] (z_s S 51 12 (S s 12)) R _
      refine u_getE (v := S s 13) rfl (z_st0 hs) rfl (z_sn (fun h => absurd h.1 (by have := z_stl hs; omega))) ?_
      show u_P L xs m d m_X3_lookAtWard 154 [(0, .ref 51), (1, .ref (s + 1)), (2, .int j2), (3, .int x3), (4, .int j4), (5, .int x5)] [.int (S s 13), .int (Int32.ofInt 13), .ref 52] (z_s S 51 12 (S s 12)) R _
      refine u_iast rfl rfl (fun b31 b32 => ?_)
      have hD := hD b31 b32
      show u_P L xs m d m_X3_lookAtWard 155 [(0, .ref 51), (1, .ref (s + 1)), (2, .int j2), (3, .int x3), (4, .int j4), (5, .int x5)] [] (z_s (z_s S 51 12 (S s 12)) 51 13 (S s 13)) R _
      refine u_st rfl (fun _ => rfl) ?_
      show u_P L xs m d m_X3_lookAtWard 156 [(0, .ref 51), (1, .ref (s + 1)), (2, .int j2), (3, .int x3), (4, .int j4), (5, .int x5)] [.ref 51] (z_s (z_s S 51 12 (S s 12)) 51 13 (S s 13)) R _
      refine u_getr rfl rfl rfl ?_
      refine u_st rfl (fun _ => rfl) ?_
      refine u_st rfl (fun _ => rfl) ?_
      show u_P L xs m d m_X3_lookAtWard 162 [(0, .ref 51), (1, .ref (s + 1)), (2, .int j2), (3, .int x3), (4, .int j4), (5, .int x5)] [.ref (s + 1), .int (Int32.ofInt 14), .ref 52] (z_s (z_s S 51 12 (S s 12)) 51 13 (S s 13)) R _
      refine u_getE (v := S s 11) rfl (z_st0 hs) rfl ((z_sn (fun h => absurd h.1 (by have := z_stl hs; omega))).trans (z_sn (fun h => absurd h.1 (by have := z_stl hs; omega)))) ?_
      refine u_st rfl (fun _ => rfl) ?_
      show u_P L xs m d m_X3_lookAtWard 167 [(0, .ref 51), (1, .ref (s + 1)), (2, .int j2), (3, .int x3), (4, .int j4), (5, .int x5)] [.int (Int32.ofInt 12), .int (S s 11), .int (Int32.ofInt 14), .ref 52] (z_s (z_s S 51 12 (S s 12)) 51 13 (S s 13)) R _
      refine u_irem rfl (fun b4 => ?_)
      show u_P L xs m d m_X3_lookAtWard 168 [(0, .ref 51), (1, .ref (s + 1)), (2, .int j2), (3, .int x3), (4, .int j4), (5, .int x5)] [.int ((S s 11) - (S s 11) / (Int32.ofInt 12) * (Int32.ofInt 12)), .int (Int32.ofInt 14), .ref 52] (z_s (z_s S 51 12 (S s 12)) 51 13 (S s 13)) R _
      refine u_iast rfl rfl (fun b51 b52 => ?_)
      have hD := hD b51 b52
      show u_P L xs m d m_X3_lookAtWard 169 [(0, .ref 51), (1, .ref (s + 1)), (2, .int j2), (3, .int x3), (4, .int j4), (5, .int x5)] [] (z_s (z_s (z_s S 51 12 (S s 12)) 51 13 (S s 13)) 51 14 ((S s 11) - (S s 11) / (Int32.ofInt 12) * (Int32.ofInt 12))) R _
      exact u_ret rfl rfl ⟨rfl, rfl, hD⟩
    · have hD := hD.2 h1
      show u_P L xs m d m_X3_lookAtWard 97 [(0, .ref 51), (1, .ref (s + 1)), (2, .int j2), (3, .int x3), (4, .int j4), (5, .int x5)] [] S R _
      refine u_st rfl (fun _ => rfl) ?_
      show u_P L xs m d m_X3_lookAtWard 98 [(0, .ref 51), (1, .ref (s + 1)), (2, .int j2), (3, .int x3), (4, .int j4), (5, .int x5)] [.ref 51] S R _
      refine u_getr rfl rfl rfl ?_
      refine u_st rfl (fun _ => rfl) ?_
      refine u_st rfl (fun _ => rfl) ?_
      show u_P L xs m d m_X3_lookAtWard 104 [(0, .ref 51), (1, .ref (s + 1)), (2, .int j2), (3, .int x3), (4, .int j4), (5, .int x5)] [.int (Int32.ofInt 11), .ref 52, .int (Int32.ofInt 11), .ref 52] S R _
      refine u_ialdE (v := S 51 11) rfl rfl rfl (fun b61 b62 => ?_)
      have hD := hD b61 b62
      show u_P L xs m d m_X3_lookAtWard 105 [(0, .ref 51), (1, .ref (s + 1)), (2, .int j2), (3, .int x3), (4, .int j4), (5, .int x5)] [.int (S 51 11), .int (Int32.ofInt 11), .ref 52] S R _
      refine u_st rfl (fun _ => rfl) ?_
      refine u_st rfl (fun _ => rfl) ?_
      show u_P L xs m d m_X3_lookAtWard 108 [(0, .ref 51), (1, .ref (s + 1)), (2, .int j2), (3, .int x3), (4, .int j4), (5, .int x5)] [.int x5, .int x3, .int (S 51 11), .int (Int32.ofInt 11), .ref 52] S R _
      refine u_cs (ac := [.int x3, .int x5]) (rest := [.int (S 51 11), .int (Int32.ofInt 11), .ref 52]) rfl (by decide) mt_X11_isIn (fun _ => rfl) (Nat.le_of_ble_eq_true rfl) (Nat.le_of_ble_eq_true rfl) (fun d' => c_X11_isIn L xs m d' x3 x5 S R) ?_
      rintro _ _ _ ⟨_, rfl, rfl, rfl, rfl⟩
      show u_P L xs m d m_X3_lookAtWard 111 [(0, .ref 51), (1, .ref (s + 1)), (2, .int j2), (3, .int x3), (4, .int j4), (5, .int x5)] [.int (f_X11_isIn x3 x5), .int (S 51 11), .int (Int32.ofInt 11), .ref 52] S R _
      refine u_if_eq rfl (fun h7 => ?_) (fun h7 => ?_)
      · have hD := hD.1 h7
        show u_P L xs m d m_X3_lookAtWard 124 [(0, .ref 51), (1, .ref (s + 1)), (2, .int j2), (3, .int x3), (4, .int j4), (5, .int x5)] [.int (S 51 11), .int (Int32.ofInt 11), .ref 52] S R _
        refine u_st rfl (fun _ => rfl) ?_
        refine u_st rfl (fun _ => rfl) ?_
        show u_P L xs m d m_X3_lookAtWard 126 [(0, .ref 51), (1, .ref (s + 1)), (2, .int j2), (3, .int x3), (4, .int j4), (5, .int x5)] [.int ((S 51 11) + (Int32.ofInt 0)), .int (Int32.ofInt 11), .ref 52] S R _
        refine u_iast rfl rfl (fun b81 b82 => ?_)
        have hD := hD b81 b82
        show u_P L xs m d m_X3_lookAtWard 127 [(0, .ref 51), (1, .ref (s + 1)), (2, .int j2), (3, .int x3), (4, .int j4), (5, .int x5)] [] (z_s S 51 11 ((S 51 11) + (Int32.ofInt 0))) R _
        refine u_st rfl (fun _ => rfl) ?_
        refine u_st rfl (fun _ => rfl) ?_
        refine u_lc (b := [(0, .ref 51), (1, .ref (s + 1)), (2, .int j2), (3, .int x3), (4, .int j4), (5, .int (x5 + (Int32.ofInt 1)))]) (show ([5, 0, 1, 2, 3, 4] : List Nat).Nodup by decide) (show ([0, 1, 2, 3, 4, 5] : List Nat).Nodup by decide) (fun i => match i with | 0 => rfl | 1 => rfl | 2 => rfl | 3 => rfl | 4 => rfl | 5 => rfl | _ + 6 => rfl) ?_
        exact (ih m hm) d j2 j4 x3 (x5 + (Int32.ofInt 1)) (z_s S 51 11 ((S 51 11) + (Int32.ofInt 0))) hD
      · have hD := hD.2 h7
        show u_P L xs m d m_X3_lookAtWard 114 [(0, .ref 51), (1, .ref (s + 1)), (2, .int j2), (3, .int x3), (4, .int j4), (5, .int x5)] [.int (S 51 11), .int (Int32.ofInt 11), .ref 52] S R _
        refine u_st rfl (fun _ => rfl) ?_
        show u_P L xs m d m_X3_lookAtWard 115 [(0, .ref 51), (1, .ref (s + 1)), (2, .int j2), (3, .int x3), (4, .int j4), (5, .int x5)] [.ref (s + 1), .int (S 51 11), .int (Int32.ofInt 11), .ref 52] S R _
        refine u_getr rfl (z_st0 hs) rfl ?_
        refine u_st rfl (fun _ => rfl) ?_
        show u_P L xs m d m_X3_lookAtWard 120 [(0, .ref 51), (1, .ref (s + 1)), (2, .int j2), (3, .int x3), (4, .int j4), (5, .int x5)] [.int x5, .ref (s + 2), .int (S 51 11), .int (Int32.ofInt 11), .ref 52] S R _
        refine u_ialdE (v := S (s + 1) x5.toInt.toNat) rfl (z_st1 hs) rfl (fun b91 b92 => ?_)
        have hD := hD b91 b92
        show u_P L xs m d m_X3_lookAtWard 121 [(0, .ref 51), (1, .ref (s + 1)), (2, .int j2), (3, .int x3), (4, .int j4), (5, .int x5)] [.int (S (s + 1) x5.toInt.toNat), .int (S 51 11), .int (Int32.ofInt 11), .ref 52] S R _
        refine u_st rfl (fun _ => rfl) ?_
        refine u_st rfl (fun _ => rfl) ?_
        show u_P L xs m d m_X3_lookAtWard 126 [(0, .ref 51), (1, .ref (s + 1)), (2, .int j2), (3, .int x3), (4, .int j4), (5, .int x5)] [.int ((S 51 11) + (S (s + 1) x5.toInt.toNat)), .int (Int32.ofInt 11), .ref 52] S R _
        refine u_iast rfl rfl (fun b101 b102 => ?_)
        have hD := hD b101 b102
        show u_P L xs m d m_X3_lookAtWard 127 [(0, .ref 51), (1, .ref (s + 1)), (2, .int j2), (3, .int x3), (4, .int j4), (5, .int x5)] [] (z_s S 51 11 ((S 51 11) + (S (s + 1) x5.toInt.toNat))) R _
        refine u_st rfl (fun _ => rfl) ?_
        refine u_st rfl (fun _ => rfl) ?_
        refine u_lc (b := [(0, .ref 51), (1, .ref (s + 1)), (2, .int j2), (3, .int x3), (4, .int j4), (5, .int (x5 + (Int32.ofInt 1)))]) (show ([5, 0, 1, 2, 3, 4] : List Nat).Nodup by decide) (show ([0, 1, 2, 3, 4, 5] : List Nat).Nodup by decide) (fun i => match i with | 0 => rfl | 1 => rfl | 2 => rfl | 3 => rfl | 4 => rfl | 5 => rfl | _ + 6 => rfl) ?_
        exact (ih m hm) d j2 j4 x3 (x5 + (Int32.ofInt 1)) (z_s S 51 11 ((S 51 11) + (S (s + 1) x5.toInt.toNat))) hD
set_option maxRecDepth 4000 in
theorem w_X3_lookAtWard (L : Nat) (xs : Nat → Int32) {R : v_Rf} (hW : z_W R) (s : Nat) (hs : z_st s) (w : Int32) (H90 : Int32 → Int32 → v_Sf → Prop) (K : v_Sf → Prop) (k90 : ∀ (x3 : Int32) (x5 : Int32) (S : v_Sf), H90 x3 x5 S → D_X3_lookAtWard_90 s H90 K x3 x5 S) (n d : Nat) (S : v_Sf) (hD : D_X3_lookAtWard s w H90 K S) : u_P L xs n d m_X3_lookAtWard 0 (lv_args 0 [.ref 51, .ref (s + 1), .int w]) [] S R (z_V R K) := by
  unfold D_X3_lookAtWard at hD
  show u_P L xs n d m_X3_lookAtWard 0 [(0, .ref 51), (1, .ref (s + 1)), (2, .int w)] [] S R _
  refine u_st rfl (fun _ => rfl) ?_
  show u_P L xs n d m_X3_lookAtWard 1 [(0, .ref 51), (1, .ref (s + 1)), (2, .int w)] [.ref 51] S R _
  refine u_getr rfl rfl rfl ?_
  refine u_st rfl (fun _ => rfl) ?_
  show u_P L xs n d m_X3_lookAtWard 5 [(0, .ref 51), (1, .ref (s + 1)), (2, .int w)] [.int (Int32.ofInt 0), .ref 52] S R _
  refine u_cs (ac := [.ref 52, .int (Int32.ofInt 0)]) (rest := []) rfl (by decide) mt_J7_fill_53178 (fun _ => rfl) (Nat.le_of_ble_eq_true rfl) (Nat.le_of_ble_eq_true rfl) (fun d' => c_fill51 L xs n d' (Int32.ofInt 0) S R) ?_
  rintro _ _ _ ⟨rfl, rfl, rfl⟩
  refine u_st rfl (fun _ => rfl) ?_
  refine u_st rfl (fun _ => rfl) ?_
  show u_P L xs n d m_X3_lookAtWard 10 [(0, .ref 51), (1, .ref (s + 1)), (2, .int w)] [.int w, .ref (s + 1)] (g_fill51 (Int32.ofInt 0) S) R _
  refine u_cv (rest := []) rfl (by decide) mt_X7_inWard (z_st0 hs) rfl rfl rfl (Nat.le_of_ble_eq_true rfl) (Nat.le_of_ble_eq_true rfl) (Nat.le_of_ble_eq_true rfl) (fun d' => c_X7_inWard L xs n d' s hs w (g_fill51 (Int32.ofInt 0) S) R) ?_
  rintro _ _ _ ⟨_, rfl, rfl, rfl, rfl⟩
  refine u_st rfl (fun _ => rfl) ?_
  refine u_st rfl (fun _ => rfl) ?_
  show u_P L xs n d m_X3_lookAtWard 15 [(3, .int (f_X7_inWard s w (g_fill51 (Int32.ofInt 0) S))), (0, .ref 51), (1, .ref (s + 1)), (2, .int w)] [.int w] (g_fill51 (Int32.ofInt 0) S) R _
  refine u_if_lt rfl (fun h1 => ?_) (fun h1 => ?_)
  · have hD := hD.1 h1
    show u_P L xs n d m_X3_lookAtWard 39 [(3, .int (f_X7_inWard s w (g_fill51 (Int32.ofInt 0) S))), (0, .ref 51), (1, .ref (s + 1)), (2, .int w)] [] (g_fill51 (Int32.ofInt 0) S) R _
    refine u_st rfl (fun _ => rfl) ?_
    refine u_st rfl (fun _ => rfl) ?_
    refine u_st rfl (fun _ => rfl) ?_
    show u_P L xs n d m_X3_lookAtWard 43 [(4, .int (Int32.ofInt (-1))), (3, .int (f_X7_inWard s w (g_fill51 (Int32.ofInt 0) S))), (0, .ref 51), (1, .ref (s + 1)), (2, .int w)] [.ref 51] (g_fill51 (Int32.ofInt 0) S) R _
    refine u_getr rfl rfl rfl ?_
    refine u_st rfl (fun _ => rfl) ?_
    refine u_st rfl (fun _ => rfl) ?_
    show u_P L xs n d m_X3_lookAtWard 48 [(4, .int (Int32.ofInt (-1))), (3, .int (f_X7_inWard s w (g_fill51 (Int32.ofInt 0) S))), (0, .ref 51), (1, .ref (s + 1)), (2, .int w)] [.int w, .int (Int32.ofInt 5), .ref 52] (g_fill51 (Int32.ofInt 0) S) R _
    refine u_iast rfl rfl (fun b21 b22 => ?_)
    have hD := hD b21 b22
    show u_P L xs n d m_X3_lookAtWard 49 [(4, .int (Int32.ofInt (-1))), (3, .int (f_X7_inWard s w (g_fill51 (Int32.ofInt 0) S))), (0, .ref 51), (1, .ref (s + 1)), (2, .int w)] [] (z_s (g_fill51 (Int32.ofInt 0) S) 51 5 w) R _
    refine u_st rfl (fun _ => rfl) ?_
    show u_P L xs n d m_X3_lookAtWard 50 [(4, .int (Int32.ofInt (-1))), (3, .int (f_X7_inWard s w (g_fill51 (Int32.ofInt 0) S))), (0, .ref 51), (1, .ref (s + 1)), (2, .int w)] [.ref 51] (z_s (g_fill51 (Int32.ofInt 0) S) 51 5 w) R _
    refine u_getr rfl rfl rfl ?_
    refine u_st rfl (fun _ => rfl) ?_
    refine u_st rfl (fun _ => rfl) ?_
    refine u_st rfl (fun _ => rfl) ?_
    show u_P L xs n d m_X3_lookAtWard 58 [(4, .int (Int32.ofInt (-1))), (3, .int (f_X7_inWard s w (g_fill51 (Int32.ofInt 0) S))), (0, .ref 51), (1, .ref (s + 1)), (2, .int w)] [.int (Int32.ofInt (-1)), .ref (s + 1), .int (Int32.ofInt 9), .ref 52] (z_s (g_fill51 (Int32.ofInt 0) S) 51 5 w) R _
    refine u_cv (rest := [.int (Int32.ofInt 9), .ref 52]) rfl (by decide) mt_X7_hasNurse (z_st0 hs) rfl rfl rfl (Nat.le_of_ble_eq_true rfl) (Nat.le_of_ble_eq_true rfl) (Nat.le_of_ble_eq_true rfl) (fun d' => c_X7_hasNurse L xs n d' s hs (Int32.ofInt (-1)) (z_s (g_fill51 (Int32.ofInt 0) S) 51 5 w) R) ?_
    rintro _ _ _ ⟨_, rfl, rfl, rfl, rfl⟩
    show u_P L xs n d m_X3_lookAtWard 61 [(4, .int (Int32.ofInt (-1))), (3, .int (f_X7_inWard s w (g_fill51 (Int32.ofInt 0) S))), (0, .ref 51), (1, .ref (s + 1)), (2, .int w)] [.int (f_X7_hasNurse s (Int32.ofInt (-1)) (z_s (g_fill51 (Int32.ofInt 0) S) 51 5 w)), .int (Int32.ofInt 9), .ref 52] (z_s (g_fill51 (Int32.ofInt 0) S) 51 5 w) R _
    refine u_if_eq rfl (fun h3 => ?_) (fun h3 => ?_)
    · have hD := hD.1 h3
      show u_P L xs n d m_X3_lookAtWard 74 [(4, .int (Int32.ofInt (-1))), (3, .int (f_X7_inWard s w (g_fill51 (Int32.ofInt 0) S))), (0, .ref 51), (1, .ref (s + 1)), (2, .int w)] [.int (Int32.ofInt 9), .ref 52] (z_s (g_fill51 (Int32.ofInt 0) S) 51 5 w) R _
      refine u_st rfl (fun _ => rfl) ?_
      show u_P L xs n d m_X3_lookAtWard 75 [(4, .int (Int32.ofInt (-1))), (3, .int (f_X7_inWard s w (g_fill51 (Int32.ofInt 0) S))), (0, .ref 51), (1, .ref (s + 1)), (2, .int w)] [.int (Int32.ofInt 0), .int (Int32.ofInt 9), .ref 52] (z_s (g_fill51 (Int32.ofInt 0) S) 51 5 w) R _
      refine u_iast rfl rfl (fun b41 b42 => ?_)
      have hD := hD b41 b42
      show u_P L xs n d m_X3_lookAtWard 76 [(4, .int (Int32.ofInt (-1))), (3, .int (f_X7_inWard s w (g_fill51 (Int32.ofInt 0) S))), (0, .ref 51), (1, .ref (s + 1)), (2, .int w)] [] (z_s (z_s (g_fill51 (Int32.ofInt 0) S) 51 5 w) 51 9 (Int32.ofInt 0)) R _
      refine u_st rfl (fun _ => rfl) ?_
      show u_P L xs n d m_X3_lookAtWard 77 [(4, .int (Int32.ofInt (-1))), (3, .int (f_X7_inWard s w (g_fill51 (Int32.ofInt 0) S))), (0, .ref 51), (1, .ref (s + 1)), (2, .int w)] [.ref 51] (z_s (z_s (g_fill51 (Int32.ofInt 0) S) 51 5 w) 51 9 (Int32.ofInt 0)) R _
      refine u_getr rfl rfl rfl ?_
      refine u_st rfl (fun _ => rfl) ?_
      refine u_st rfl (fun _ => rfl) ?_
      show u_P L xs n d m_X3_lookAtWard 83 [(4, .int (Int32.ofInt (-1))), (3, .int (f_X7_inWard s w (g_fill51 (Int32.ofInt 0) S))), (0, .ref 51), (1, .ref (s + 1)), (2, .int w)] [.int (f_X7_inWard s w (g_fill51 (Int32.ofInt 0) S)), .int (Int32.ofInt 10), .ref 52] (z_s (z_s (g_fill51 (Int32.ofInt 0) S) 51 5 w) 51 9 (Int32.ofInt 0)) R _
      refine u_cs (ac := [.int (f_X7_inWard s w (g_fill51 (Int32.ofInt 0) S))]) (rest := [.int (Int32.ofInt 10), .ref 52]) rfl (by decide) mt_J6_bitCount_0f7a4 (fun _ => rfl) (Nat.le_of_ble_eq_true rfl) (Nat.le_of_ble_eq_true rfl) (fun d' => c_J6_bitCount_0f7a4 L xs n d' (f_X7_inWard s w (g_fill51 (Int32.ofInt 0) S)) (z_s (z_s (g_fill51 (Int32.ofInt 0) S) 51 5 w) 51 9 (Int32.ofInt 0)) R) ?_
      rintro _ _ _ ⟨_, rfl, rfl, rfl, rfl⟩
      show u_P L xs n d m_X3_lookAtWard 86 [(4, .int (Int32.ofInt (-1))), (3, .int (f_X7_inWard s w (g_fill51 (Int32.ofInt 0) S))), (0, .ref 51), (1, .ref (s + 1)), (2, .int w)] [.int (f_J6_bitCount_0f7a4 (f_X7_inWard s w (g_fill51 (Int32.ofInt 0) S))), .int (Int32.ofInt 10), .ref 52] (z_s (z_s (g_fill51 (Int32.ofInt 0) S) 51 5 w) 51 9 (Int32.ofInt 0)) R _
      refine u_iast rfl rfl (fun b51 b52 => ?_)
      have hD := hD b51 b52
      show u_P L xs n d m_X3_lookAtWard 87 [(4, .int (Int32.ofInt (-1))), (3, .int (f_X7_inWard s w (g_fill51 (Int32.ofInt 0) S))), (0, .ref 51), (1, .ref (s + 1)), (2, .int w)] [] (z_s (z_s (z_s (g_fill51 (Int32.ofInt 0) S) 51 5 w) 51 9 (Int32.ofInt 0)) 51 10 (f_J6_bitCount_0f7a4 (f_X7_inWard s w (g_fill51 (Int32.ofInt 0) S)))) R _
      refine u_st rfl (fun _ => rfl) ?_
      refine u_st rfl (fun _ => rfl) ?_
      refine u_lc (b := [(0, .ref 51), (1, .ref (s + 1)), (2, .int w), (3, .int (f_X7_inWard s w (g_fill51 (Int32.ofInt 0) S))), (4, .int (Int32.ofInt (-1))), (5, .int (Int32.ofInt 0))]) (show ([5, 4, 3, 0, 1, 2] : List Nat).Nodup by decide) (show ([0, 1, 2, 3, 4, 5] : List Nat).Nodup by decide) (fun i => match i with | 0 => rfl | 1 => rfl | 2 => rfl | 3 => rfl | 4 => rfl | 5 => rfl | _ + 6 => rfl) ?_
      exact (hd_X3_lookAtWard L xs hW s hs w H90 K k90 n) d w (Int32.ofInt (-1)) (f_X7_inWard s w (g_fill51 (Int32.ofInt 0) S)) (Int32.ofInt 0) (z_s (z_s (z_s (g_fill51 (Int32.ofInt 0) S) 51 5 w) 51 9 (Int32.ofInt 0)) 51 10 (f_J6_bitCount_0f7a4 (f_X7_inWard s w (g_fill51 (Int32.ofInt 0) S)))) hD
    · have hD := hD.2 h3
      show u_P L xs n d m_X3_lookAtWard 64 [(4, .int (Int32.ofInt (-1))), (3, .int (f_X7_inWard s w (g_fill51 (Int32.ofInt 0) S))), (0, .ref 51), (1, .ref (s + 1)), (2, .int w)] [.int (Int32.ofInt 9), .ref 52] (z_s (g_fill51 (Int32.ofInt 0) S) 51 5 w) R _
      refine u_st rfl (fun _ => rfl) ?_
      show u_P L xs n d m_X3_lookAtWard 65 [(4, .int (Int32.ofInt (-1))), (3, .int (f_X7_inWard s w (g_fill51 (Int32.ofInt 0) S))), (0, .ref 51), (1, .ref (s + 1)), (2, .int w)] [.ref (s + 1), .int (Int32.ofInt 9), .ref 52] (z_s (g_fill51 (Int32.ofInt 0) S) 51 5 w) R _
      refine u_getr rfl (z_st0 hs) rfl ?_
      refine u_st rfl (fun _ => rfl) ?_
      show u_P L xs n d m_X3_lookAtWard 70 [(4, .int (Int32.ofInt (-1))), (3, .int (f_X7_inWard s w (g_fill51 (Int32.ofInt 0) S))), (0, .ref 51), (1, .ref (s + 1)), (2, .int w)] [.int (Int32.ofInt (-1)), .ref (s + 8), .int (Int32.ofInt 9), .ref 52] (z_s (g_fill51 (Int32.ofInt 0) S) 51 5 w) R _
      refine u_ialdE (v := (g_fill51 (Int32.ofInt 0) S) (s + 7) ((Int32.ofInt (-1)).toInt.toNat)) rfl (z_st7 hs) (z_sn (fun h => absurd h.1 (by have := z_stl hs; omega))) (fun b61 b62 => ?_)
      have hD := hD b61 b62
      show u_P L xs n d m_X3_lookAtWard 71 [(4, .int (Int32.ofInt (-1))), (3, .int (f_X7_inWard s w (g_fill51 (Int32.ofInt 0) S))), (0, .ref 51), (1, .ref (s + 1)), (2, .int w)] [.int ((g_fill51 (Int32.ofInt 0) S) (s + 7) ((Int32.ofInt (-1)).toInt.toNat)), .int (Int32.ofInt 9), .ref 52] (z_s (g_fill51 (Int32.ofInt 0) S) 51 5 w) R _
      refine u_st rfl (fun _ => rfl) ?_
      show u_P L xs n d m_X3_lookAtWard 75 [(4, .int (Int32.ofInt (-1))), (3, .int (f_X7_inWard s w (g_fill51 (Int32.ofInt 0) S))), (0, .ref 51), (1, .ref (s + 1)), (2, .int w)] [.int ((g_fill51 (Int32.ofInt 0) S) (s + 7) ((Int32.ofInt (-1)).toInt.toNat)), .int (Int32.ofInt 9), .ref 52] (z_s (g_fill51 (Int32.ofInt 0) S) 51 5 w) R _
      refine u_iast rfl rfl (fun b71 b72 => ?_)
      have hD := hD b71 b72
      show u_P L xs n d m_X3_lookAtWard 76 [(4, .int (Int32.ofInt (-1))), (3, .int (f_X7_inWard s w (g_fill51 (Int32.ofInt 0) S))), (0, .ref 51), (1, .ref (s + 1)), (2, .int w)] [] (z_s (z_s (g_fill51 (Int32.ofInt 0) S) 51 5 w) 51 9 ((g_fill51 (Int32.ofInt 0) S) (s + 7) ((Int32.ofInt (-1)).toInt.toNat))) R _
      refine u_st rfl (fun _ => rfl) ?_
      show u_P L xs n d m_X3_lookAtWard 77 [(4, .int (Int32.ofInt (-1))), (3, .int (f_X7_inWard s w (g_fill51 (Int32.ofInt 0) S))), (0, .ref 51), (1, .ref (s + 1)), (2, .int w)] [.ref 51] (z_s (z_s (g_fill51 (Int32.ofInt 0) S) 51 5 w) 51 9 ((g_fill51 (Int32.ofInt 0) S) (s + 7) ((Int32.ofInt (-1)).toInt.toNat))) R _
      refine u_getr rfl rfl rfl ?_
      refine u_st rfl (fun _ => rfl) ?_
      refine u_st rfl (fun _ => rfl) ?_
      show u_P L xs n d m_X3_lookAtWard 83 [(4, .int (Int32.ofInt (-1))), (3, .int (f_X7_inWard s w (g_fill51 (Int32.ofInt 0) S))), (0, .ref 51), (1, .ref (s + 1)), (2, .int w)] [.int (f_X7_inWard s w (g_fill51 (Int32.ofInt 0) S)), .int (Int32.ofInt 10), .ref 52] (z_s (z_s (g_fill51 (Int32.ofInt 0) S) 51 5 w) 51 9 ((g_fill51 (Int32.ofInt 0) S) (s + 7) ((Int32.ofInt (-1)).toInt.toNat))) R _
      refine u_cs (ac := [.int (f_X7_inWard s w (g_fill51 (Int32.ofInt 0) S))]) (rest := [.int (Int32.ofInt 10), .ref 52]) rfl (by decide) mt_J6_bitCount_0f7a4 (fun _ => rfl) (Nat.le_of_ble_eq_true rfl) (Nat.le_of_ble_eq_true rfl) (fun d' => c_J6_bitCount_0f7a4 L xs n d' (f_X7_inWard s w (g_fill51 (Int32.ofInt 0) S)) (z_s (z_s (g_fill51 (Int32.ofInt 0) S) 51 5 w) 51 9 ((g_fill51 (Int32.ofInt 0) S) (s + 7) ((Int32.ofInt (-1)).toInt.toNat))) R) ?_
      rintro _ _ _ ⟨_, rfl, rfl, rfl, rfl⟩
      show u_P L xs n d m_X3_lookAtWard 86 [(4, .int (Int32.ofInt (-1))), (3, .int (f_X7_inWard s w (g_fill51 (Int32.ofInt 0) S))), (0, .ref 51), (1, .ref (s + 1)), (2, .int w)] [.int (f_J6_bitCount_0f7a4 (f_X7_inWard s w (g_fill51 (Int32.ofInt 0) S))), .int (Int32.ofInt 10), .ref 52] (z_s (z_s (g_fill51 (Int32.ofInt 0) S) 51 5 w) 51 9 ((g_fill51 (Int32.ofInt 0) S) (s + 7) ((Int32.ofInt (-1)).toInt.toNat))) R _
      refine u_iast rfl rfl (fun b81 b82 => ?_)
      have hD := hD b81 b82
      show u_P L xs n d m_X3_lookAtWard 87 [(4, .int (Int32.ofInt (-1))), (3, .int (f_X7_inWard s w (g_fill51 (Int32.ofInt 0) S))), (0, .ref 51), (1, .ref (s + 1)), (2, .int w)] [] (z_s (z_s (z_s (g_fill51 (Int32.ofInt 0) S) 51 5 w) 51 9 ((g_fill51 (Int32.ofInt 0) S) (s + 7) ((Int32.ofInt (-1)).toInt.toNat))) 51 10 (f_J6_bitCount_0f7a4 (f_X7_inWard s w (g_fill51 (Int32.ofInt 0) S)))) R _
      refine u_st rfl (fun _ => rfl) ?_
      refine u_st rfl (fun _ => rfl) ?_
      refine u_lc (b := [(0, .ref 51), (1, .ref (s + 1)), (2, .int w), (3, .int (f_X7_inWard s w (g_fill51 (Int32.ofInt 0) S))), (4, .int (Int32.ofInt (-1))), (5, .int (Int32.ofInt 0))]) (show ([5, 4, 3, 0, 1, 2] : List Nat).Nodup by decide) (show ([0, 1, 2, 3, 4, 5] : List Nat).Nodup by decide) (fun i => match i with | 0 => rfl | 1 => rfl | 2 => rfl | 3 => rfl | 4 => rfl | 5 => rfl | _ + 6 => rfl) ?_
      exact (hd_X3_lookAtWard L xs hW s hs w H90 K k90 n) d w (Int32.ofInt (-1)) (f_X7_inWard s w (g_fill51 (Int32.ofInt 0) S)) (Int32.ofInt 0) (z_s (z_s (z_s (g_fill51 (Int32.ofInt 0) S) 51 5 w) 51 9 ((g_fill51 (Int32.ofInt 0) S) (s + 7) ((Int32.ofInt (-1)).toInt.toNat))) 51 10 (f_J6_bitCount_0f7a4 (f_X7_inWard s w (g_fill51 (Int32.ofInt 0) S)))) hD
  · have hD := hD.2 h1
    show u_P L xs n d m_X3_lookAtWard 18 [(3, .int (f_X7_inWard s w (g_fill51 (Int32.ofInt 0) S))), (0, .ref 51), (1, .ref (s + 1)), (2, .int w)] [] (g_fill51 (Int32.ofInt 0) S) R _
    refine u_st rfl (fun _ => rfl) ?_
    refine u_st rfl (fun _ => rfl) ?_
    show u_P L xs n d m_X3_lookAtWard 20 [(3, .int (f_X7_inWard s w (g_fill51 (Int32.ofInt 0) S))), (0, .ref 51), (1, .ref (s + 1)), (2, .int w)] [.ref 51, .int w] (g_fill51 (Int32.ofInt 0) S) R _
    refine u_getr rfl rfl rfl ?_
    show u_P L xs n d m_X3_lookAtWard 23 [(3, .int (f_X7_inWard s w (g_fill51 (Int32.ofInt 0) S))), (0, .ref 51), (1, .ref (s + 1)), (2, .int w)] [.ref 33, .int w] (g_fill51 (Int32.ofInt 0) S) R _
    refine u_alr rfl rfl ?_
    show u_P L xs n d m_X3_lookAtWard 24 [(3, .int (f_X7_inWard s w (g_fill51 (Int32.ofInt 0) S))), (0, .ref 51), (1, .ref (s + 1)), (2, .int w)] [.int (Int32.ofNat 6), .int w] (g_fill51 (Int32.ofInt 0) S) R _
    refine u_ic_ge rfl (fun h9 => ?_) (fun h9 => ?_)
    · have hD := hD.1 h9
      show u_P L xs n d m_X3_lookAtWard 39 [(3, .int (f_X7_inWard s w (g_fill51 (Int32.ofInt 0) S))), (0, .ref 51), (1, .ref (s + 1)), (2, .int w)] [] (g_fill51 (Int32.ofInt 0) S) R _
      refine u_st rfl (fun _ => rfl) ?_
      refine u_st rfl (fun _ => rfl) ?_
      refine u_st rfl (fun _ => rfl) ?_
      show u_P L xs n d m_X3_lookAtWard 43 [(4, .int (Int32.ofInt (-1))), (3, .int (f_X7_inWard s w (g_fill51 (Int32.ofInt 0) S))), (0, .ref 51), (1, .ref (s + 1)), (2, .int w)] [.ref 51] (g_fill51 (Int32.ofInt 0) S) R _
      refine u_getr rfl rfl rfl ?_
      refine u_st rfl (fun _ => rfl) ?_
      refine u_st rfl (fun _ => rfl) ?_
      show u_P L xs n d m_X3_lookAtWard 48 [(4, .int (Int32.ofInt (-1))), (3, .int (f_X7_inWard s w (g_fill51 (Int32.ofInt 0) S))), (0, .ref 51), (1, .ref (s + 1)), (2, .int w)] [.int w, .int (Int32.ofInt 5), .ref 52] (g_fill51 (Int32.ofInt 0) S) R _
      refine u_iast rfl rfl (fun b101 b102 => ?_)
      have hD := hD b101 b102
      show u_P L xs n d m_X3_lookAtWard 49 [(4, .int (Int32.ofInt (-1))), (3, .int (f_X7_inWard s w (g_fill51 (Int32.ofInt 0) S))), (0, .ref 51), (1, .ref (s + 1)), (2, .int w)] [] (z_s (g_fill51 (Int32.ofInt 0) S) 51 5 w) R _
      refine u_st rfl (fun _ => rfl) ?_
      show u_P L xs n d m_X3_lookAtWard 50 [(4, .int (Int32.ofInt (-1))), (3, .int (f_X7_inWard s w (g_fill51 (Int32.ofInt 0) S))), (0, .ref 51), (1, .ref (s + 1)), (2, .int w)] [.ref 51] (z_s (g_fill51 (Int32.ofInt 0) S) 51 5 w) R _
      refine u_getr rfl rfl rfl ?_
      refine u_st rfl (fun _ => rfl) ?_
      refine u_st rfl (fun _ => rfl) ?_
      refine u_st rfl (fun _ => rfl) ?_
      show u_P L xs n d m_X3_lookAtWard 58 [(4, .int (Int32.ofInt (-1))), (3, .int (f_X7_inWard s w (g_fill51 (Int32.ofInt 0) S))), (0, .ref 51), (1, .ref (s + 1)), (2, .int w)] [.int (Int32.ofInt (-1)), .ref (s + 1), .int (Int32.ofInt 9), .ref 52] (z_s (g_fill51 (Int32.ofInt 0) S) 51 5 w) R _
      refine u_cv (rest := [.int (Int32.ofInt 9), .ref 52]) rfl (by decide) mt_X7_hasNurse (z_st0 hs) rfl rfl rfl (Nat.le_of_ble_eq_true rfl) (Nat.le_of_ble_eq_true rfl) (Nat.le_of_ble_eq_true rfl) (fun d' => c_X7_hasNurse L xs n d' s hs (Int32.ofInt (-1)) (z_s (g_fill51 (Int32.ofInt 0) S) 51 5 w) R) ?_
      rintro _ _ _ ⟨_, rfl, rfl, rfl, rfl⟩
      show u_P L xs n d m_X3_lookAtWard 61 [(4, .int (Int32.ofInt (-1))), (3, .int (f_X7_inWard s w (g_fill51 (Int32.ofInt 0) S))), (0, .ref 51), (1, .ref (s + 1)), (2, .int w)] [.int (f_X7_hasNurse s (Int32.ofInt (-1)) (z_s (g_fill51 (Int32.ofInt 0) S) 51 5 w)), .int (Int32.ofInt 9), .ref 52] (z_s (g_fill51 (Int32.ofInt 0) S) 51 5 w) R _
      refine u_if_eq rfl (fun h11 => ?_) (fun h11 => ?_)
      · have hD := hD.1 h11
        show u_P L xs n d m_X3_lookAtWard 74 [(4, .int (Int32.ofInt (-1))), (3, .int (f_X7_inWard s w (g_fill51 (Int32.ofInt 0) S))), (0, .ref 51), (1, .ref (s + 1)), (2, .int w)] [.int (Int32.ofInt 9), .ref 52] (z_s (g_fill51 (Int32.ofInt 0) S) 51 5 w) R _
        refine u_st rfl (fun _ => rfl) ?_
        show u_P L xs n d m_X3_lookAtWard 75 [(4, .int (Int32.ofInt (-1))), (3, .int (f_X7_inWard s w (g_fill51 (Int32.ofInt 0) S))), (0, .ref 51), (1, .ref (s + 1)), (2, .int w)] [.int (Int32.ofInt 0), .int (Int32.ofInt 9), .ref 52] (z_s (g_fill51 (Int32.ofInt 0) S) 51 5 w) R _
        refine u_iast rfl rfl (fun b121 b122 => ?_)
        have hD := hD b121 b122
        show u_P L xs n d m_X3_lookAtWard 76 [(4, .int (Int32.ofInt (-1))), (3, .int (f_X7_inWard s w (g_fill51 (Int32.ofInt 0) S))), (0, .ref 51), (1, .ref (s + 1)), (2, .int w)] [] (z_s (z_s (g_fill51 (Int32.ofInt 0) S) 51 5 w) 51 9 (Int32.ofInt 0)) R _
        refine u_st rfl (fun _ => rfl) ?_
        show u_P L xs n d m_X3_lookAtWard 77 [(4, .int (Int32.ofInt (-1))), (3, .int (f_X7_inWard s w (g_fill51 (Int32.ofInt 0) S))), (0, .ref 51), (1, .ref (s + 1)), (2, .int w)] [.ref 51] (z_s (z_s (g_fill51 (Int32.ofInt 0) S) 51 5 w) 51 9 (Int32.ofInt 0)) R _
        refine u_getr rfl rfl rfl ?_
        refine u_st rfl (fun _ => rfl) ?_
        refine u_st rfl (fun _ => rfl) ?_
        show u_P L xs n d m_X3_lookAtWard 83 [(4, .int (Int32.ofInt (-1))), (3, .int (f_X7_inWard s w (g_fill51 (Int32.ofInt 0) S))), (0, .ref 51), (1, .ref (s + 1)), (2, .int w)] [.int (f_X7_inWard s w (g_fill51 (Int32.ofInt 0) S)), .int (Int32.ofInt 10), .ref 52] (z_s (z_s (g_fill51 (Int32.ofInt 0) S) 51 5 w) 51 9 (Int32.ofInt 0)) R _
        refine u_cs (ac := [.int (f_X7_inWard s w (g_fill51 (Int32.ofInt 0) S))]) (rest := [.int (Int32.ofInt 10), .ref 52]) rfl (by decide) mt_J6_bitCount_0f7a4 (fun _ => rfl) (Nat.le_of_ble_eq_true rfl) (Nat.le_of_ble_eq_true rfl) (fun d' => c_J6_bitCount_0f7a4 L xs n d' (f_X7_inWard s w (g_fill51 (Int32.ofInt 0) S)) (z_s (z_s (g_fill51 (Int32.ofInt 0) S) 51 5 w) 51 9 (Int32.ofInt 0)) R) ?_
        rintro _ _ _ ⟨_, rfl, rfl, rfl, rfl⟩
        show u_P L xs n d m_X3_lookAtWard 86 [(4, .int (Int32.ofInt (-1))), (3, .int (f_X7_inWard s w (g_fill51 (Int32.ofInt 0) S))), (0, .ref 51), (1, .ref (s + 1)), (2, .int w)] [.int (f_J6_bitCount_0f7a4 (f_X7_inWard s w (g_fill51 (Int32.ofInt 0) S))), .int (Int32.ofInt 10), .ref 52] (z_s (z_s (g_fill51 (Int32.ofInt 0) S) 51 5 w) 51 9 (Int32.ofInt 0)) R _
        refine u_iast rfl rfl (fun b131 b132 => ?_)
        have hD := hD b131 b132
        show u_P L xs n d m_X3_lookAtWard 87 [(4, .int (Int32.ofInt (-1))), (3, .int (f_X7_inWard s w (g_fill51 (Int32.ofInt 0) S))), (0, .ref 51), (1, .ref (s + 1)), (2, .int w)] [] (z_s (z_s (z_s (g_fill51 (Int32.ofInt 0) S) 51 5 w) 51 9 (Int32.ofInt 0)) 51 10 (f_J6_bitCount_0f7a4 (f_X7_inWard s w (g_fill51 (Int32.ofInt 0) S)))) R _
        refine u_st rfl (fun _ => rfl) ?_
        refine u_st rfl (fun _ => rfl) ?_
        refine u_lc (b := [(0, .ref 51), (1, .ref (s + 1)), (2, .int w), (3, .int (f_X7_inWard s w (g_fill51 (Int32.ofInt 0) S))), (4, .int (Int32.ofInt (-1))), (5, .int (Int32.ofInt 0))]) (show ([5, 4, 3, 0, 1, 2] : List Nat).Nodup by decide) (show ([0, 1, 2, 3, 4, 5] : List Nat).Nodup by decide) (fun i => match i with | 0 => rfl | 1 => rfl | 2 => rfl | 3 => rfl | 4 => rfl | 5 => rfl | _ + 6 => rfl) ?_
        exact (hd_X3_lookAtWard L xs hW s hs w H90 K k90 n) d w (Int32.ofInt (-1)) (f_X7_inWard s w (g_fill51 (Int32.ofInt 0) S)) (Int32.ofInt 0) (z_s (z_s (z_s (g_fill51 (Int32.ofInt 0) S) 51 5 w) 51 9 (Int32.ofInt 0)) 51 10 (f_J6_bitCount_0f7a4 (f_X7_inWard s w (g_fill51 (Int32.ofInt 0) S)))) hD
      · have hD := hD.2 h11
        show u_P L xs n d m_X3_lookAtWard 64 [(4, .int (Int32.ofInt (-1))), (3, .int (f_X7_inWard s w (g_fill51 (Int32.ofInt 0) S))), (0, .ref 51), (1, .ref (s + 1)), (2, .int w)] [.int (Int32.ofInt 9), .ref 52] (z_s (g_fill51 (Int32.ofInt 0) S) 51 5 w) R _
        refine u_st rfl (fun _ => rfl) ?_
        show u_P L xs n d m_X3_lookAtWard 65 [(4, .int (Int32.ofInt (-1))), (3, .int (f_X7_inWard s w (g_fill51 (Int32.ofInt 0) S))), (0, .ref 51), (1, .ref (s + 1)), (2, .int w)] [.ref (s + 1), .int (Int32.ofInt 9), .ref 52] (z_s (g_fill51 (Int32.ofInt 0) S) 51 5 w) R _
        refine u_getr rfl (z_st0 hs) rfl ?_
        refine u_st rfl (fun _ => rfl) ?_
        show u_P L xs n d m_X3_lookAtWard 70 [(4, .int (Int32.ofInt (-1))), (3, .int (f_X7_inWard s w (g_fill51 (Int32.ofInt 0) S))), (0, .ref 51), (1, .ref (s + 1)), (2, .int w)] [.int (Int32.ofInt (-1)), .ref (s + 8), .int (Int32.ofInt 9), .ref 52] (z_s (g_fill51 (Int32.ofInt 0) S) 51 5 w) R _
        refine u_ialdE (v := (g_fill51 (Int32.ofInt 0) S) (s + 7) ((Int32.ofInt (-1)).toInt.toNat)) rfl (z_st7 hs) (z_sn (fun h => absurd h.1 (by have := z_stl hs; omega))) (fun b141 b142 => ?_)
        have hD := hD b141 b142
        show u_P L xs n d m_X3_lookAtWard 71 [(4, .int (Int32.ofInt (-1))), (3, .int (f_X7_inWard s w (g_fill51 (Int32.ofInt 0) S))), (0, .ref 51), (1, .ref (s + 1)), (2, .int w)] [.int ((g_fill51 (Int32.ofInt 0) S) (s + 7) ((Int32.ofInt (-1)).toInt.toNat)), .int (Int32.ofInt 9), .ref 52] (z_s (g_fill51 (Int32.ofInt 0) S) 51 5 w) R _
        refine u_st rfl (fun _ => rfl) ?_
        show u_P L xs n d m_X3_lookAtWard 75 [(4, .int (Int32.ofInt (-1))), (3, .int (f_X7_inWard s w (g_fill51 (Int32.ofInt 0) S))), (0, .ref 51), (1, .ref (s + 1)), (2, .int w)] [.int ((g_fill51 (Int32.ofInt 0) S) (s + 7) ((Int32.ofInt (-1)).toInt.toNat)), .int (Int32.ofInt 9), .ref 52] (z_s (g_fill51 (Int32.ofInt 0) S) 51 5 w) R _
        refine u_iast rfl rfl (fun b151 b152 => ?_)
        have hD := hD b151 b152
        show u_P L xs n d m_X3_lookAtWard 76 [(4, .int (Int32.ofInt (-1))), (3, .int (f_X7_inWard s w (g_fill51 (Int32.ofInt 0) S))), (0, .ref 51), (1, .ref (s + 1)), (2, .int w)] [] (z_s (z_s (g_fill51 (Int32.ofInt 0) S) 51 5 w) 51 9 ((g_fill51 (Int32.ofInt 0) S) (s + 7) ((Int32.ofInt (-1)).toInt.toNat))) R _
        refine u_st rfl (fun _ => rfl) ?_
        show u_P L xs n d m_X3_lookAtWard 77 [(4, .int (Int32.ofInt (-1))), (3, .int (f_X7_inWard s w (g_fill51 (Int32.ofInt 0) S))), (0, .ref 51), (1, .ref (s + 1)), (2, .int w)] [.ref 51] (z_s (z_s (g_fill51 (Int32.ofInt 0) S) 51 5 w) 51 9 ((g_fill51 (Int32.ofInt 0) S) (s + 7) ((Int32.ofInt (-1)).toInt.toNat))) R _
        refine u_getr rfl rfl rfl ?_
        refine u_st rfl (fun _ => rfl) ?_
        refine u_st rfl (fun _ => rfl) ?_
        show u_P L xs n d m_X3_lookAtWard 83 [(4, .int (Int32.ofInt (-1))), (3, .int (f_X7_inWard s w (g_fill51 (Int32.ofInt 0) S))), (0, .ref 51), (1, .ref (s + 1)), (2, .int w)] [.int (f_X7_inWard s w (g_fill51 (Int32.ofInt 0) S)), .int (Int32.ofInt 10), .ref 52] (z_s (z_s (g_fill51 (Int32.ofInt 0) S) 51 5 w) 51 9 ((g_fill51 (Int32.ofInt 0) S) (s + 7) ((Int32.ofInt (-1)).toInt.toNat))) R _
        refine u_cs (ac := [.int (f_X7_inWard s w (g_fill51 (Int32.ofInt 0) S))]) (rest := [.int (Int32.ofInt 10), .ref 52]) rfl (by decide) mt_J6_bitCount_0f7a4 (fun _ => rfl) (Nat.le_of_ble_eq_true rfl) (Nat.le_of_ble_eq_true rfl) (fun d' => c_J6_bitCount_0f7a4 L xs n d' (f_X7_inWard s w (g_fill51 (Int32.ofInt 0) S)) (z_s (z_s (g_fill51 (Int32.ofInt 0) S) 51 5 w) 51 9 ((g_fill51 (Int32.ofInt 0) S) (s + 7) ((Int32.ofInt (-1)).toInt.toNat))) R) ?_
        rintro _ _ _ ⟨_, rfl, rfl, rfl, rfl⟩
        show u_P L xs n d m_X3_lookAtWard 86 [(4, .int (Int32.ofInt (-1))), (3, .int (f_X7_inWard s w (g_fill51 (Int32.ofInt 0) S))), (0, .ref 51), (1, .ref (s + 1)), (2, .int w)] [.int (f_J6_bitCount_0f7a4 (f_X7_inWard s w (g_fill51 (Int32.ofInt 0) S))), .int (Int32.ofInt 10), .ref 52] (z_s (z_s (g_fill51 (Int32.ofInt 0) S) 51 5 w) 51 9 ((g_fill51 (Int32.ofInt 0) S) (s + 7) ((Int32.ofInt (-1)).toInt.toNat))) R _
        refine u_iast rfl rfl (fun b161 b162 => ?_)
        have hD := hD b161 b162
        show u_P L xs n d m_X3_lookAtWard 87 [(4, .int (Int32.ofInt (-1))), (3, .int (f_X7_inWard s w (g_fill51 (Int32.ofInt 0) S))), (0, .ref 51), (1, .ref (s + 1)), (2, .int w)] [] (z_s (z_s (z_s (g_fill51 (Int32.ofInt 0) S) 51 5 w) 51 9 ((g_fill51 (Int32.ofInt 0) S) (s + 7) ((Int32.ofInt (-1)).toInt.toNat))) 51 10 (f_J6_bitCount_0f7a4 (f_X7_inWard s w (g_fill51 (Int32.ofInt 0) S)))) R _
        refine u_st rfl (fun _ => rfl) ?_
        refine u_st rfl (fun _ => rfl) ?_
        refine u_lc (b := [(0, .ref 51), (1, .ref (s + 1)), (2, .int w), (3, .int (f_X7_inWard s w (g_fill51 (Int32.ofInt 0) S))), (4, .int (Int32.ofInt (-1))), (5, .int (Int32.ofInt 0))]) (show ([5, 4, 3, 0, 1, 2] : List Nat).Nodup by decide) (show ([0, 1, 2, 3, 4, 5] : List Nat).Nodup by decide) (fun i => match i with | 0 => rfl | 1 => rfl | 2 => rfl | 3 => rfl | 4 => rfl | 5 => rfl | _ + 6 => rfl) ?_
        exact (hd_X3_lookAtWard L xs hW s hs w H90 K k90 n) d w (Int32.ofInt (-1)) (f_X7_inWard s w (g_fill51 (Int32.ofInt 0) S)) (Int32.ofInt 0) (z_s (z_s (z_s (g_fill51 (Int32.ofInt 0) S) 51 5 w) 51 9 ((g_fill51 (Int32.ofInt 0) S) (s + 7) ((Int32.ofInt (-1)).toInt.toNat))) 51 10 (f_J6_bitCount_0f7a4 (f_X7_inWard s w (g_fill51 (Int32.ofInt 0) S)))) hD
    · have hD := hD.2 h9
      show u_P L xs n d m_X3_lookAtWard 27 [(3, .int (f_X7_inWard s w (g_fill51 (Int32.ofInt 0) S))), (0, .ref 51), (1, .ref (s + 1)), (2, .int w)] [] (g_fill51 (Int32.ofInt 0) S) R _
      refine u_st rfl (fun _ => rfl) ?_
      show u_P L xs n d m_X3_lookAtWard 28 [(3, .int (f_X7_inWard s w (g_fill51 (Int32.ofInt 0) S))), (0, .ref 51), (1, .ref (s + 1)), (2, .int w)] [.ref 51] (g_fill51 (Int32.ofInt 0) S) R _
      refine u_getr rfl rfl rfl ?_
      refine u_st rfl (fun _ => rfl) ?_
      show u_P L xs n d m_X3_lookAtWard 32 [(3, .int (f_X7_inWard s w (g_fill51 (Int32.ofInt 0) S))), (0, .ref 51), (1, .ref (s + 1)), (2, .int w)] [.int w, .ref 33] (g_fill51 (Int32.ofInt 0) S) R _
      refine u_aald rfl rfl (fun b171 b172 => ?_)
      rw [hW _ (z_lt6 b171 b172)]
      have hD := hD b171 b172
      show u_P L xs n d m_X3_lookAtWard 33 [(3, .int (f_X7_inWard s w (g_fill51 (Int32.ofInt 0) S))), (0, .ref 51), (1, .ref (s + 1)), (2, .int w)] [.ref (((33 + 2 * w.toInt.toNat)) + 1)] (g_fill51 (Int32.ofInt 0) S) R _
      refine u_getE (v := (g_fill51 (Int32.ofInt 0) S) ((33 + 2 * w.toInt.toNat)) 4) rfl (z_wd0 (z_wdi b171 b172)) rfl rfl ?_
      refine u_st rfl (fun _ => rfl) ?_
      refine u_st rfl (fun _ => rfl) ?_
      refine u_st rfl (fun _ => rfl) ?_
      show u_P L xs n d m_X3_lookAtWard 43 [(4, .int ((g_fill51 (Int32.ofInt 0) S) ((33 + 2 * w.toInt.toNat)) 4)), (3, .int (f_X7_inWard s w (g_fill51 (Int32.ofInt 0) S))), (0, .ref 51), (1, .ref (s + 1)), (2, .int w)] [.ref 51] (g_fill51 (Int32.ofInt 0) S) R _
      refine u_getr rfl rfl rfl ?_
      refine u_st rfl (fun _ => rfl) ?_
      refine u_st rfl (fun _ => rfl) ?_
      show u_P L xs n d m_X3_lookAtWard 48 [(4, .int ((g_fill51 (Int32.ofInt 0) S) ((33 + 2 * w.toInt.toNat)) 4)), (3, .int (f_X7_inWard s w (g_fill51 (Int32.ofInt 0) S))), (0, .ref 51), (1, .ref (s + 1)), (2, .int w)] [.int w, .int (Int32.ofInt 5), .ref 52] (g_fill51 (Int32.ofInt 0) S) R _
      refine u_iast rfl rfl (fun b181 b182 => ?_)
      have hD := hD b181 b182
      show u_P L xs n d m_X3_lookAtWard 49 [(4, .int ((g_fill51 (Int32.ofInt 0) S) ((33 + 2 * w.toInt.toNat)) 4)), (3, .int (f_X7_inWard s w (g_fill51 (Int32.ofInt 0) S))), (0, .ref 51), (1, .ref (s + 1)), (2, .int w)] [] (z_s (g_fill51 (Int32.ofInt 0) S) 51 5 w) R _
      refine u_st rfl (fun _ => rfl) ?_
      show u_P L xs n d m_X3_lookAtWard 50 [(4, .int ((g_fill51 (Int32.ofInt 0) S) ((33 + 2 * w.toInt.toNat)) 4)), (3, .int (f_X7_inWard s w (g_fill51 (Int32.ofInt 0) S))), (0, .ref 51), (1, .ref (s + 1)), (2, .int w)] [.ref 51] (z_s (g_fill51 (Int32.ofInt 0) S) 51 5 w) R _
      refine u_getr rfl rfl rfl ?_
      refine u_st rfl (fun _ => rfl) ?_
      refine u_st rfl (fun _ => rfl) ?_
      refine u_st rfl (fun _ => rfl) ?_
      show u_P L xs n d m_X3_lookAtWard 58 [(4, .int ((g_fill51 (Int32.ofInt 0) S) ((33 + 2 * w.toInt.toNat)) 4)), (3, .int (f_X7_inWard s w (g_fill51 (Int32.ofInt 0) S))), (0, .ref 51), (1, .ref (s + 1)), (2, .int w)] [.int ((g_fill51 (Int32.ofInt 0) S) ((33 + 2 * w.toInt.toNat)) 4), .ref (s + 1), .int (Int32.ofInt 9), .ref 52] (z_s (g_fill51 (Int32.ofInt 0) S) 51 5 w) R _
      refine u_cv (rest := [.int (Int32.ofInt 9), .ref 52]) rfl (by decide) mt_X7_hasNurse (z_st0 hs) rfl rfl rfl (Nat.le_of_ble_eq_true rfl) (Nat.le_of_ble_eq_true rfl) (Nat.le_of_ble_eq_true rfl) (fun d' => c_X7_hasNurse L xs n d' s hs ((g_fill51 (Int32.ofInt 0) S) ((33 + 2 * w.toInt.toNat)) 4) (z_s (g_fill51 (Int32.ofInt 0) S) 51 5 w) R) ?_
      rintro _ _ _ ⟨_, rfl, rfl, rfl, rfl⟩
      show u_P L xs n d m_X3_lookAtWard 61 [(4, .int ((g_fill51 (Int32.ofInt 0) S) ((33 + 2 * w.toInt.toNat)) 4)), (3, .int (f_X7_inWard s w (g_fill51 (Int32.ofInt 0) S))), (0, .ref 51), (1, .ref (s + 1)), (2, .int w)] [.int (f_X7_hasNurse s ((g_fill51 (Int32.ofInt 0) S) ((33 + 2 * w.toInt.toNat)) 4) (z_s (g_fill51 (Int32.ofInt 0) S) 51 5 w)), .int (Int32.ofInt 9), .ref 52] (z_s (g_fill51 (Int32.ofInt 0) S) 51 5 w) R _
      refine u_if_eq rfl (fun h19 => ?_) (fun h19 => ?_)
      · have hD := hD.1 h19
        show u_P L xs n d m_X3_lookAtWard 74 [(4, .int ((g_fill51 (Int32.ofInt 0) S) ((33 + 2 * w.toInt.toNat)) 4)), (3, .int (f_X7_inWard s w (g_fill51 (Int32.ofInt 0) S))), (0, .ref 51), (1, .ref (s + 1)), (2, .int w)] [.int (Int32.ofInt 9), .ref 52] (z_s (g_fill51 (Int32.ofInt 0) S) 51 5 w) R _
        refine u_st rfl (fun _ => rfl) ?_
        show u_P L xs n d m_X3_lookAtWard 75 [(4, .int ((g_fill51 (Int32.ofInt 0) S) ((33 + 2 * w.toInt.toNat)) 4)), (3, .int (f_X7_inWard s w (g_fill51 (Int32.ofInt 0) S))), (0, .ref 51), (1, .ref (s + 1)), (2, .int w)] [.int (Int32.ofInt 0), .int (Int32.ofInt 9), .ref 52] (z_s (g_fill51 (Int32.ofInt 0) S) 51 5 w) R _
        refine u_iast rfl rfl (fun b201 b202 => ?_)
        have hD := hD b201 b202
        show u_P L xs n d m_X3_lookAtWard 76 [(4, .int ((g_fill51 (Int32.ofInt 0) S) ((33 + 2 * w.toInt.toNat)) 4)), (3, .int (f_X7_inWard s w (g_fill51 (Int32.ofInt 0) S))), (0, .ref 51), (1, .ref (s + 1)), (2, .int w)] [] (z_s (z_s (g_fill51 (Int32.ofInt 0) S) 51 5 w) 51 9 (Int32.ofInt 0)) R _
        refine u_st rfl (fun _ => rfl) ?_
        show u_P L xs n d m_X3_lookAtWard 77 [(4, .int ((g_fill51 (Int32.ofInt 0) S) ((33 + 2 * w.toInt.toNat)) 4)), (3, .int (f_X7_inWard s w (g_fill51 (Int32.ofInt 0) S))), (0, .ref 51), (1, .ref (s + 1)), (2, .int w)] [.ref 51] (z_s (z_s (g_fill51 (Int32.ofInt 0) S) 51 5 w) 51 9 (Int32.ofInt 0)) R _
        refine u_getr rfl rfl rfl ?_
        refine u_st rfl (fun _ => rfl) ?_
        refine u_st rfl (fun _ => rfl) ?_
        show u_P L xs n d m_X3_lookAtWard 83 [(4, .int ((g_fill51 (Int32.ofInt 0) S) ((33 + 2 * w.toInt.toNat)) 4)), (3, .int (f_X7_inWard s w (g_fill51 (Int32.ofInt 0) S))), (0, .ref 51), (1, .ref (s + 1)), (2, .int w)] [.int (f_X7_inWard s w (g_fill51 (Int32.ofInt 0) S)), .int (Int32.ofInt 10), .ref 52] (z_s (z_s (g_fill51 (Int32.ofInt 0) S) 51 5 w) 51 9 (Int32.ofInt 0)) R _
        refine u_cs (ac := [.int (f_X7_inWard s w (g_fill51 (Int32.ofInt 0) S))]) (rest := [.int (Int32.ofInt 10), .ref 52]) rfl (by decide) mt_J6_bitCount_0f7a4 (fun _ => rfl) (Nat.le_of_ble_eq_true rfl) (Nat.le_of_ble_eq_true rfl) (fun d' => c_J6_bitCount_0f7a4 L xs n d' (f_X7_inWard s w (g_fill51 (Int32.ofInt 0) S)) (z_s (z_s (g_fill51 (Int32.ofInt 0) S) 51 5 w) 51 9 (Int32.ofInt 0)) R) ?_
        rintro _ _ _ ⟨_, rfl, rfl, rfl, rfl⟩
        show u_P L xs n d m_X3_lookAtWard 86 [(4, .int ((g_fill51 (Int32.ofInt 0) S) ((33 + 2 * w.toInt.toNat)) 4)), (3, .int (f_X7_inWard s w (g_fill51 (Int32.ofInt 0) S))), (0, .ref 51), (1, .ref (s + 1)), (2, .int w)] [.int (f_J6_bitCount_0f7a4 (f_X7_inWard s w (g_fill51 (Int32.ofInt 0) S))), .int (Int32.ofInt 10), .ref 52] (z_s (z_s (g_fill51 (Int32.ofInt 0) S) 51 5 w) 51 9 (Int32.ofInt 0)) R _
        refine u_iast rfl rfl (fun b211 b212 => ?_)
        have hD := hD b211 b212
        show u_P L xs n d m_X3_lookAtWard 87 [(4, .int ((g_fill51 (Int32.ofInt 0) S) ((33 + 2 * w.toInt.toNat)) 4)), (3, .int (f_X7_inWard s w (g_fill51 (Int32.ofInt 0) S))), (0, .ref 51), (1, .ref (s + 1)), (2, .int w)] [] (z_s (z_s (z_s (g_fill51 (Int32.ofInt 0) S) 51 5 w) 51 9 (Int32.ofInt 0)) 51 10 (f_J6_bitCount_0f7a4 (f_X7_inWard s w (g_fill51 (Int32.ofInt 0) S)))) R _
        refine u_st rfl (fun _ => rfl) ?_
        refine u_st rfl (fun _ => rfl) ?_
        refine u_lc (b := [(0, .ref 51), (1, .ref (s + 1)), (2, .int w), (3, .int (f_X7_inWard s w (g_fill51 (Int32.ofInt 0) S))), (4, .int ((g_fill51 (Int32.ofInt 0) S) ((33 + 2 * w.toInt.toNat)) 4)), (5, .int (Int32.ofInt 0))]) (show ([5, 4, 3, 0, 1, 2] : List Nat).Nodup by decide) (show ([0, 1, 2, 3, 4, 5] : List Nat).Nodup by decide) (fun i => match i with | 0 => rfl | 1 => rfl | 2 => rfl | 3 => rfl | 4 => rfl | 5 => rfl | _ + 6 => rfl) ?_
        exact (hd_X3_lookAtWard L xs hW s hs w H90 K k90 n) d w ((g_fill51 (Int32.ofInt 0) S) ((33 + 2 * w.toInt.toNat)) 4) (f_X7_inWard s w (g_fill51 (Int32.ofInt 0) S)) (Int32.ofInt 0) (z_s (z_s (z_s (g_fill51 (Int32.ofInt 0) S) 51 5 w) 51 9 (Int32.ofInt 0)) 51 10 (f_J6_bitCount_0f7a4 (f_X7_inWard s w (g_fill51 (Int32.ofInt 0) S)))) hD
      · have hD := hD.2 h19
        show u_P L xs n d m_X3_lookAtWard 64 [(4, .int ((g_fill51 (Int32.ofInt 0) S) ((33 + 2 * w.toInt.toNat)) 4)), (3, .int (f_X7_inWard s w (g_fill51 (Int32.ofInt 0) S))), (0, .ref 51), (1, .ref (s + 1)), (2, .int w)] [.int (Int32.ofInt 9), .ref 52] (z_s (g_fill51 (Int32.ofInt 0) S) 51 5 w) R _
        refine u_st rfl (fun _ => rfl) ?_
        show u_P L xs n d m_X3_lookAtWard 65 [(4, .int ((g_fill51 (Int32.ofInt 0) S) ((33 + 2 * w.toInt.toNat)) 4)), (3, .int (f_X7_inWard s w (g_fill51 (Int32.ofInt 0) S))), (0, .ref 51), (1, .ref (s + 1)), (2, .int w)] [.ref (s + 1), .int (Int32.ofInt 9), .ref 52] (z_s (g_fill51 (Int32.ofInt 0) S) 51 5 w) R _
        refine u_getr rfl (z_st0 hs) rfl ?_
        refine u_st rfl (fun _ => rfl) ?_
        show u_P L xs n d m_X3_lookAtWard 70 [(4, .int ((g_fill51 (Int32.ofInt 0) S) ((33 + 2 * w.toInt.toNat)) 4)), (3, .int (f_X7_inWard s w (g_fill51 (Int32.ofInt 0) S))), (0, .ref 51), (1, .ref (s + 1)), (2, .int w)] [.int ((g_fill51 (Int32.ofInt 0) S) ((33 + 2 * w.toInt.toNat)) 4), .ref (s + 8), .int (Int32.ofInt 9), .ref 52] (z_s (g_fill51 (Int32.ofInt 0) S) 51 5 w) R _
        refine u_ialdE (v := (g_fill51 (Int32.ofInt 0) S) (s + 7) (((g_fill51 (Int32.ofInt 0) S) ((33 + 2 * w.toInt.toNat)) 4).toInt.toNat)) rfl (z_st7 hs) (z_sn (fun h => absurd h.1 (by have := z_stl hs; omega))) (fun b221 b222 => ?_)
        have hD := hD b221 b222
        show u_P L xs n d m_X3_lookAtWard 71 [(4, .int ((g_fill51 (Int32.ofInt 0) S) ((33 + 2 * w.toInt.toNat)) 4)), (3, .int (f_X7_inWard s w (g_fill51 (Int32.ofInt 0) S))), (0, .ref 51), (1, .ref (s + 1)), (2, .int w)] [.int ((g_fill51 (Int32.ofInt 0) S) (s + 7) (((g_fill51 (Int32.ofInt 0) S) ((33 + 2 * w.toInt.toNat)) 4).toInt.toNat)), .int (Int32.ofInt 9), .ref 52] (z_s (g_fill51 (Int32.ofInt 0) S) 51 5 w) R _
        refine u_st rfl (fun _ => rfl) ?_
        show u_P L xs n d m_X3_lookAtWard 75 [(4, .int ((g_fill51 (Int32.ofInt 0) S) ((33 + 2 * w.toInt.toNat)) 4)), (3, .int (f_X7_inWard s w (g_fill51 (Int32.ofInt 0) S))), (0, .ref 51), (1, .ref (s + 1)), (2, .int w)] [.int ((g_fill51 (Int32.ofInt 0) S) (s + 7) (((g_fill51 (Int32.ofInt 0) S) ((33 + 2 * w.toInt.toNat)) 4).toInt.toNat)), .int (Int32.ofInt 9), .ref 52] (z_s (g_fill51 (Int32.ofInt 0) S) 51 5 w) R _
        refine u_iast rfl rfl (fun b231 b232 => ?_)
        have hD := hD b231 b232
        show u_P L xs n d m_X3_lookAtWard 76 [(4, .int ((g_fill51 (Int32.ofInt 0) S) ((33 + 2 * w.toInt.toNat)) 4)), (3, .int (f_X7_inWard s w (g_fill51 (Int32.ofInt 0) S))), (0, .ref 51), (1, .ref (s + 1)), (2, .int w)] [] (z_s (z_s (g_fill51 (Int32.ofInt 0) S) 51 5 w) 51 9 ((g_fill51 (Int32.ofInt 0) S) (s + 7) (((g_fill51 (Int32.ofInt 0) S) ((33 + 2 * w.toInt.toNat)) 4).toInt.toNat))) R _
        refine u_st rfl (fun _ => rfl) ?_
        show u_P L xs n d m_X3_lookAtWard 77 [(4, .int ((g_fill51 (Int32.ofInt 0) S) ((33 + 2 * w.toInt.toNat)) 4)), (3, .int (f_X7_inWard s w (g_fill51 (Int32.ofInt 0) S))), (0, .ref 51), (1, .ref (s + 1)), (2, .int w)] [.ref 51] (z_s (z_s (g_fill51 (Int32.ofInt 0) S) 51 5 w) 51 9 ((g_fill51 (Int32.ofInt 0) S) (s + 7) (((g_fill51 (Int32.ofInt 0) S) ((33 + 2 * w.toInt.toNat)) 4).toInt.toNat))) R _
        refine u_getr rfl rfl rfl ?_
        refine u_st rfl (fun _ => rfl) ?_
        refine u_st rfl (fun _ => rfl) ?_
        show u_P L xs n d m_X3_lookAtWard 83 [(4, .int ((g_fill51 (Int32.ofInt 0) S) ((33 + 2 * w.toInt.toNat)) 4)), (3, .int (f_X7_inWard s w (g_fill51 (Int32.ofInt 0) S))), (0, .ref 51), (1, .ref (s + 1)), (2, .int w)] [.int (f_X7_inWard s w (g_fill51 (Int32.ofInt 0) S)), .int (Int32.ofInt 10), .ref 52] (z_s (z_s (g_fill51 (Int32.ofInt 0) S) 51 5 w) 51 9 ((g_fill51 (Int32.ofInt 0) S) (s + 7) (((g_fill51 (Int32.ofInt 0) S) ((33 + 2 * w.toInt.toNat)) 4).toInt.toNat))) R _
        refine u_cs (ac := [.int (f_X7_inWard s w (g_fill51 (Int32.ofInt 0) S))]) (rest := [.int (Int32.ofInt 10), .ref 52]) rfl (by decide) mt_J6_bitCount_0f7a4 (fun _ => rfl) (Nat.le_of_ble_eq_true rfl) (Nat.le_of_ble_eq_true rfl) (fun d' => c_J6_bitCount_0f7a4 L xs n d' (f_X7_inWard s w (g_fill51 (Int32.ofInt 0) S)) (z_s (z_s (g_fill51 (Int32.ofInt 0) S) 51 5 w) 51 9 ((g_fill51 (Int32.ofInt 0) S) (s + 7) (((g_fill51 (Int32.ofInt 0) S) ((33 + 2 * w.toInt.toNat)) 4).toInt.toNat))) R) ?_
        rintro _ _ _ ⟨_, rfl, rfl, rfl, rfl⟩
        show u_P L xs n d m_X3_lookAtWard 86 [(4, .int ((g_fill51 (Int32.ofInt 0) S) ((33 + 2 * w.toInt.toNat)) 4)), (3, .int (f_X7_inWard s w (g_fill51 (Int32.ofInt 0) S))), (0, .ref 51), (1, .ref (s + 1)), (2, .int w)] [.int (f_J6_bitCount_0f7a4 (f_X7_inWard s w (g_fill51 (Int32.ofInt 0) S))), .int (Int32.ofInt 10), .ref 52] (z_s (z_s (g_fill51 (Int32.ofInt 0) S) 51 5 w) 51 9 ((g_fill51 (Int32.ofInt 0) S) (s + 7) (((g_fill51 (Int32.ofInt 0) S) ((33 + 2 * w.toInt.toNat)) 4).toInt.toNat))) R _
        refine u_iast rfl rfl (fun b241 b242 => ?_)
        have hD := hD b241 b242
        show u_P L xs n d m_X3_lookAtWard 87 [(4, .int ((g_fill51 (Int32.ofInt 0) S) ((33 + 2 * w.toInt.toNat)) 4)), (3, .int (f_X7_inWard s w (g_fill51 (Int32.ofInt 0) S))), (0, .ref 51), (1, .ref (s + 1)), (2, .int w)] [] (z_s (z_s (z_s (g_fill51 (Int32.ofInt 0) S) 51 5 w) 51 9 ((g_fill51 (Int32.ofInt 0) S) (s + 7) (((g_fill51 (Int32.ofInt 0) S) ((33 + 2 * w.toInt.toNat)) 4).toInt.toNat))) 51 10 (f_J6_bitCount_0f7a4 (f_X7_inWard s w (g_fill51 (Int32.ofInt 0) S)))) R _
        refine u_st rfl (fun _ => rfl) ?_
        refine u_st rfl (fun _ => rfl) ?_
        refine u_lc (b := [(0, .ref 51), (1, .ref (s + 1)), (2, .int w), (3, .int (f_X7_inWard s w (g_fill51 (Int32.ofInt 0) S))), (4, .int ((g_fill51 (Int32.ofInt 0) S) ((33 + 2 * w.toInt.toNat)) 4)), (5, .int (Int32.ofInt 0))]) (show ([5, 4, 3, 0, 1, 2] : List Nat).Nodup by decide) (show ([0, 1, 2, 3, 4, 5] : List Nat).Nodup by decide) (fun i => match i with | 0 => rfl | 1 => rfl | 2 => rfl | 3 => rfl | 4 => rfl | 5 => rfl | _ + 6 => rfl) ?_
        exact (hd_X3_lookAtWard L xs hW s hs w H90 K k90 n) d w ((g_fill51 (Int32.ofInt 0) S) ((33 + 2 * w.toInt.toNat)) 4) (f_X7_inWard s w (g_fill51 (Int32.ofInt 0) S)) (Int32.ofInt 0) (z_s (z_s (z_s (g_fill51 (Int32.ofInt 0) S) 51 5 w) 51 9 ((g_fill51 (Int32.ofInt 0) S) (s + 7) (((g_fill51 (Int32.ofInt 0) S) ((33 + 2 * w.toInt.toNat)) 4).toInt.toNat))) 51 10 (f_J6_bitCount_0f7a4 (f_X7_inWard s w (g_fill51 (Int32.ofInt 0) S)))) hD
noncomputable def r_X3_lookAtWard_90 (s : Nat) (x3 : Int32) : Nat → Nat → v_Sf → v_Sf
  | 0, k90, S => z_s (z_s (z_s S 51 12 (S s 12)) 51 13 (S s 13)) 51 14 ((S s 11) - (S s 11) / (Int32.ofInt 12) * (Int32.ofInt 12))
  | r + 1, k90, S => (if (f_X11_isIn x3 (z_i k90)) = 0 then r_X3_lookAtWard_90 s x3 r (k90 + 1) (z_s S 51 11 ((S 51 11) + (Int32.ofInt 0))) else r_X3_lookAtWard_90 s x3 r (k90 + 1) (z_s S 51 11 ((S 51 11) + (S (s + 1) (z_i k90).toInt.toNat))))
noncomputable def F_X3_lookAtWard (s : Nat) (w : Int32) (S : v_Sf) : v_Sf := (if w < 0 then (if (f_X7_hasNurse s (Int32.ofInt (-1)) (z_s (g_fill51 (Int32.ofInt 0) S) 51 5 w)) = 0 then r_X3_lookAtWard_90 s (f_X7_inWard s w (g_fill51 (Int32.ofInt 0) S)) (12 - 0) 0 (z_s (z_s (z_s (g_fill51 (Int32.ofInt 0) S) 51 5 w) 51 9 (Int32.ofInt 0)) 51 10 (f_J6_bitCount_0f7a4 (f_X7_inWard s w (g_fill51 (Int32.ofInt 0) S)))) else r_X3_lookAtWard_90 s (f_X7_inWard s w (g_fill51 (Int32.ofInt 0) S)) (12 - 0) 0 (z_s (z_s (z_s (g_fill51 (Int32.ofInt 0) S) 51 5 w) 51 9 ((g_fill51 (Int32.ofInt 0) S) (s + 7) ((Int32.ofInt (-1)).toInt.toNat))) 51 10 (f_J6_bitCount_0f7a4 (f_X7_inWard s w (g_fill51 (Int32.ofInt 0) S))))) else (if (Int32.ofNat 6) ≤ w then (if (f_X7_hasNurse s (Int32.ofInt (-1)) (z_s (g_fill51 (Int32.ofInt 0) S) 51 5 w)) = 0 then r_X3_lookAtWard_90 s (f_X7_inWard s w (g_fill51 (Int32.ofInt 0) S)) (12 - 0) 0 (z_s (z_s (z_s (g_fill51 (Int32.ofInt 0) S) 51 5 w) 51 9 (Int32.ofInt 0)) 51 10 (f_J6_bitCount_0f7a4 (f_X7_inWard s w (g_fill51 (Int32.ofInt 0) S)))) else r_X3_lookAtWard_90 s (f_X7_inWard s w (g_fill51 (Int32.ofInt 0) S)) (12 - 0) 0 (z_s (z_s (z_s (g_fill51 (Int32.ofInt 0) S) 51 5 w) 51 9 ((g_fill51 (Int32.ofInt 0) S) (s + 7) ((Int32.ofInt (-1)).toInt.toNat))) 51 10 (f_J6_bitCount_0f7a4 (f_X7_inWard s w (g_fill51 (Int32.ofInt 0) S))))) else (if (f_X7_hasNurse s ((g_fill51 (Int32.ofInt 0) S) ((33 + 2 * w.toInt.toNat)) 4) (z_s (g_fill51 (Int32.ofInt 0) S) 51 5 w)) = 0 then r_X3_lookAtWard_90 s (f_X7_inWard s w (g_fill51 (Int32.ofInt 0) S)) (12 - 0) 0 (z_s (z_s (z_s (g_fill51 (Int32.ofInt 0) S) 51 5 w) 51 9 (Int32.ofInt 0)) 51 10 (f_J6_bitCount_0f7a4 (f_X7_inWard s w (g_fill51 (Int32.ofInt 0) S)))) else r_X3_lookAtWard_90 s (f_X7_inWard s w (g_fill51 (Int32.ofInt 0) S)) (12 - 0) 0 (z_s (z_s (z_s (g_fill51 (Int32.ofInt 0) S) 51 5 w) 51 9 ((g_fill51 (Int32.ofInt 0) S) (s + 7) (((g_fill51 (Int32.ofInt 0) S) ((33 + 2 * w.toInt.toNat)) 4).toInt.toNat))) 51 10 (f_J6_bitCount_0f7a4 (f_X7_inWard s w (g_fill51 (Int32.ofInt 0) S)))))))
noncomputable def g_X3_lookAtWard (s : Nat) (w : Int32) (S : v_Sf) : v_Sf := F_X3_lookAtWard s w S
theorem c_X3_lookAtWard (L : Nat) (xs : Nat → Int32) (n d : Nat) {R : v_Rf} (hW : z_W R) (s : Nat) (hs : z_st s) (w : Int32) (S : v_Sf) : u_P L xs n d m_X3_lookAtWard 0 (lv_args 0 [.ref 51, .ref (s + 1), .int w]) [] S R (z_V R (fun S1 => g_X3_lookAtWard s w S = S1)) := by
  refine w_X3_lookAtWard L xs hW s hs w (fun y3 y5 T => ∃ (k90 : Nat), k90 ≤ 12 ∧ z_i k90 = y5 ∧ f_X7_inWard s w (g_fill51 (Int32.ofInt 0) S) = y3 ∧ r_X3_lookAtWard_90 s (f_X7_inWard s w (g_fill51 (Int32.ofInt 0) S)) (12 - k90) k90 T = F_X3_lookAtWard s w S) (fun S1 => g_X3_lookAtWard s w S = S1) ?_ n d S ?_
  · rintro _ _ S1 ⟨k90, hkk, rfl, rfl, e⟩
    unfold D_X3_lookAtWard_90
    rcases Nat.lt_or_ge k90 (12) with hk | hk
    · rw [show 12 - k90 = (12 - (k90 + 1)) + 1 by omega, r_X3_lookAtWard_90] at e
      refine ⟨fun q1 => ?_, fun q1 => ?_⟩
      · exact absurd hk (Nat.not_lt.mpr (z_leB2 (B := 12) q1 (by decide) (by omega)))
      · intro _ _
        refine ⟨fun q2 => ?_, fun q2 => ?_⟩
        · intro _ _
          rw [if_pos q2] at e
          exact ⟨(k90 + 1), by omega, (z_i1 k90).symm, rfl, e⟩
        · intro _ _
          intro _ _
          rw [if_neg q2] at e
          exact ⟨(k90 + 1), by omega, (z_i1 k90).symm, rfl, e⟩
    · rw [show 12 - k90 = 0 by omega, r_X3_lookAtWard_90] at e
      refine ⟨fun q3 => ?_, fun q3 => ?_⟩
      · intro _ _
        intro _ _
        intro _ _
        exact e.symm
      · exact absurd hk (Nat.not_le.mpr (z_ltB2 (B := 12) q3 (by decide) (by omega)))
  · unfold D_X3_lookAtWard
    refine ⟨fun q4 => ?_, fun q4 => ?_⟩
    · intro _ _
      refine ⟨fun q5 => ?_, fun q5 => ?_⟩
      · intro _ _
        intro _ _
        have e : r_X3_lookAtWard_90 s (f_X7_inWard s w (g_fill51 (Int32.ofInt 0) S)) (12 - 0) 0 (z_s (z_s (z_s (g_fill51 (Int32.ofInt 0) S) 51 5 w) 51 9 (Int32.ofInt 0)) 51 10 (f_J6_bitCount_0f7a4 (f_X7_inWard s w (g_fill51 (Int32.ofInt 0) S)))) = F_X3_lookAtWard s w S := by rw [F_X3_lookAtWard, if_pos q4, if_pos q5]
        exact ⟨0, by omega, rfl, rfl, e⟩
      · intro _ _
        intro _ _
        intro _ _
        have e : r_X3_lookAtWard_90 s (f_X7_inWard s w (g_fill51 (Int32.ofInt 0) S)) (12 - 0) 0 (z_s (z_s (z_s (g_fill51 (Int32.ofInt 0) S) 51 5 w) 51 9 ((g_fill51 (Int32.ofInt 0) S) (s + 7) ((Int32.ofInt (-1)).toInt.toNat))) 51 10 (f_J6_bitCount_0f7a4 (f_X7_inWard s w (g_fill51 (Int32.ofInt 0) S)))) = F_X3_lookAtWard s w S := by rw [F_X3_lookAtWard, if_pos q4, if_neg q5]
        exact ⟨0, by omega, rfl, rfl, e⟩
    · refine ⟨fun q6 => ?_, fun q6 => ?_⟩
      · intro _ _
        refine ⟨fun q7 => ?_, fun q7 => ?_⟩
        · intro _ _
          intro _ _
          have e : r_X3_lookAtWard_90 s (f_X7_inWard s w (g_fill51 (Int32.ofInt 0) S)) (12 - 0) 0 (z_s (z_s (z_s (g_fill51 (Int32.ofInt 0) S) 51 5 w) 51 9 (Int32.ofInt 0)) 51 10 (f_J6_bitCount_0f7a4 (f_X7_inWard s w (g_fill51 (Int32.ofInt 0) S)))) = F_X3_lookAtWard s w S := by rw [F_X3_lookAtWard, if_neg q4, if_pos q6, if_pos q7]
          exact ⟨0, by omega, rfl, rfl, e⟩
        · intro _ _
          intro _ _
          intro _ _
          have e : r_X3_lookAtWard_90 s (f_X7_inWard s w (g_fill51 (Int32.ofInt 0) S)) (12 - 0) 0 (z_s (z_s (z_s (g_fill51 (Int32.ofInt 0) S) 51 5 w) 51 9 ((g_fill51 (Int32.ofInt 0) S) (s + 7) ((Int32.ofInt (-1)).toInt.toNat))) 51 10 (f_J6_bitCount_0f7a4 (f_X7_inWard s w (g_fill51 (Int32.ofInt 0) S)))) = F_X3_lookAtWard s w S := by rw [F_X3_lookAtWard, if_neg q4, if_pos q6, if_neg q7]
          exact ⟨0, by omega, rfl, rfl, e⟩
      · intro _ _
        intro _ _
        refine ⟨fun q8 => ?_, fun q8 => ?_⟩
        · intro _ _
          intro _ _
          have e : r_X3_lookAtWard_90 s (f_X7_inWard s w (g_fill51 (Int32.ofInt 0) S)) (12 - 0) 0 (z_s (z_s (z_s (g_fill51 (Int32.ofInt 0) S) 51 5 w) 51 9 (Int32.ofInt 0)) 51 10 (f_J6_bitCount_0f7a4 (f_X7_inWard s w (g_fill51 (Int32.ofInt 0) S)))) = F_X3_lookAtWard s w S := by rw [F_X3_lookAtWard, if_neg q4, if_neg q6, if_pos q8]
          exact ⟨0, by omega, rfl, rfl, e⟩
        · intro _ _
          intro _ _
          intro _ _
          have e : r_X3_lookAtWard_90 s (f_X7_inWard s w (g_fill51 (Int32.ofInt 0) S)) (12 - 0) 0 (z_s (z_s (z_s (g_fill51 (Int32.ofInt 0) S) 51 5 w) 51 9 ((g_fill51 (Int32.ofInt 0) S) (s + 7) (((g_fill51 (Int32.ofInt 0) S) ((33 + 2 * w.toInt.toNat)) 4).toInt.toNat))) 51 10 (f_J6_bitCount_0f7a4 (f_X7_inWard s w (g_fill51 (Int32.ofInt 0) S)))) = F_X3_lookAtWard s w S := by rw [F_X3_lookAtWard, if_neg q4, if_neg q6, if_neg q8]
          exact ⟨0, by omega, rfl, rfl, e⟩
noncomputable abbrev m_X3_firstAmount : g_M := (g_cn 3, yX3_firstAmount, cX3_firstAmount, 4, (some .int), g_look2 ttX3_firstAmount)
set_option maxRecDepth 20000 in
theorem mt_X3_firstAmount : g_mt 43 = some m_X3_firstAmount := rfl
noncomputable def D_X3_firstAmount_2 (c : Nat) (H2 : Int32 → Int32 → Int32 → v_Sf → Prop) (K : Int32 → v_Sf → Prop) (x1 : Int32) (x2 : Int32) (x3 : Int32) (S : v_Sf) : Prop := (((S c 7) ≤ x3 → K (Int32.ofInt 0) S) ∧ (¬ ((S c 7) ≤ x3) → (((Int32.ofInt 16) ≤ x3 → K (Int32.ofInt 0) S) ∧ (¬ ((Int32.ofInt 16) ≤ x3) → (0 ≤ x3.toInt → x3.toInt < 16 → (((¬ (S (c + 4) x3.toInt.toNat) = x1) → H2 x1 x2 (x3 + (Int32.ofInt 1)) S) ∧ (¬ (¬ (S (c + 4) x3.toInt.toNat) = x1) → (0 ≤ x3.toInt → x3.toInt < 16 → (((f_X1_run c (S (c + 6) x3.toInt.toNat) S) = 0 → H2 x1 x2 (x3 + (Int32.ofInt 1)) (g_X1_run c (S (c + 6) x3.toInt.toNat) S)) ∧ (¬ ((f_X1_run c (S (c + 6) x3.toInt.toNat) S) = 0) → (0 ≤ x3.toInt → x3.toInt < 16 → K (z_max (Int32.ofInt 0) (z_min x2 (f_X1_run c ((g_X1_run c (S (c + 6) x3.toInt.toNat) S) (c + 5) x3.toInt.toNat) (g_X1_run c (S (c + 6) x3.toInt.toNat) S)))) (g_X1_run c ((g_X1_run c (S (c + 6) x3.toInt.toNat) S) (c + 5) x3.toInt.toNat) (g_X1_run c (S (c + 6) x3.toInt.toNat) S)))))))))))))
noncomputable def D_X3_firstAmount (c : Nat) (a : Int32) (b : Int32) (H2 : Int32 → Int32 → Int32 → v_Sf → Prop) (K : Int32 → v_Sf → Prop) (S : v_Sf) : Prop := H2 a b (Int32.ofInt 0) S
set_option maxRecDepth 4000 in
theorem hd_X3_firstAmount (L : Nat) (xs : Nat → Int32) {R : v_Rf} {c : Nat} (hL : R 50 2 = some (c + 1)) (hc : z_cd c) (a : Int32) (b : Int32) (H2 : Int32 → Int32 → Int32 → v_Sf → Prop) (K : Int32 → v_Sf → Prop) (k2 : ∀ (x1 : Int32) (x2 : Int32) (x3 : Int32) (S : v_Sf), H2 x1 x2 x3 S → D_X3_firstAmount_2 c H2 K x1 x2 x3 S) : ∀ n, (∀ (d : Nat) (x1 : Int32) (x2 : Int32) (x3 : Int32) (S : v_Sf), H2 x1 x2 x3 S → u_P L xs n d m_X3_firstAmount 2 [(0, .ref 51), (1, .int x1), (2, .int x2), (3, .int x3)] [] S R (z_Q R K)) := by
  intro n
  induction n using Nat.strongRecOn with
  | ind n ih =>
    intro d x1 x2 x3 S hD
    have hD := k2 x1 x2 x3 S hD
    unfold D_X3_firstAmount_2 at hD
    show u_P L xs n d m_X3_firstAmount 2 [(0, .ref 51), (1, .int x1), (2, .int x2), (3, .int x3)] [] S R _
    refine u_st1 rfl (fun _ => rfl) (fun m hm => ?_)
    refine u_st rfl (fun _ => rfl) ?_
    show u_P L xs m d m_X3_firstAmount 4 [(0, .ref 51), (1, .int x1), (2, .int x2), (3, .int x3)] [.ref 51, .int x3] S R _
    refine u_getv rfl rfl rfl hL ?_
    show u_P L xs m d m_X3_firstAmount 7 [(0, .ref 51), (1, .int x1), (2, .int x2), (3, .int x3)] [.ref (c + 1), .int x3] S R _
    refine u_getE (v := S c 7) rfl (z_cd0 hc) rfl rfl ?_
    show u_P L xs m d m_X3_firstAmount 10 [(0, .ref 51), (1, .int x1), (2, .int x2), (3, .int x3)] [.int (S c 7), .int x3] S R _
    refine u_ic_ge rfl (fun h1 => ?_) (fun h1 => ?_)
    · have hD := hD.1 h1
      show u_P L xs m d m_X3_firstAmount 90 [(0, .ref 51), (1, .int x1), (2, .int x2), (3, .int x3)] [] S R _
      refine u_st rfl (fun _ => rfl) ?_
      show u_P L xs m d m_X3_firstAmount 91 [(0, .ref 51), (1, .int x1), (2, .int x2), (3, .int x3)] [.int (Int32.ofInt 0)] S R _
      exact u_ret rfl rfl ⟨_, rfl, rfl, hD⟩
    · have hD := hD.2 h1
      show u_P L xs m d m_X3_firstAmount 13 [(0, .ref 51), (1, .int x1), (2, .int x2), (3, .int x3)] [] S R _
      refine u_st rfl (fun _ => rfl) ?_
      refine u_st rfl (fun _ => rfl) ?_
      show u_P L xs m d m_X3_firstAmount 16 [(0, .ref 51), (1, .int x1), (2, .int x2), (3, .int x3)] [.int (Int32.ofInt 16), .int x3] S R _
      refine u_ic_ge rfl (fun h2 => ?_) (fun h2 => ?_)
      · have hD := hD.1 h2
        show u_P L xs m d m_X3_firstAmount 90 [(0, .ref 51), (1, .int x1), (2, .int x2), (3, .int x3)] [] S R _
        refine u_st rfl (fun _ => rfl) ?_
        show u_P L xs m d m_X3_firstAmount 91 [(0, .ref 51), (1, .int x1), (2, .int x2), (3, .int x3)] [.int (Int32.ofInt 0)] S R _
        exact u_ret rfl rfl ⟨_, rfl, rfl, hD⟩
      · have hD := hD.2 h2
        show u_P L xs m d m_X3_firstAmount 19 [(0, .ref 51), (1, .int x1), (2, .int x2), (3, .int x3)] [] S R _
        refine u_st rfl (fun _ => rfl) ?_
        show u_P L xs m d m_X3_firstAmount 20 [(0, .ref 51), (1, .int x1), (2, .int x2), (3, .int x3)] [.ref 51] S R _
        refine u_getv rfl rfl rfl hL ?_
        show u_P L xs m d m_X3_firstAmount 23 [(0, .ref 51), (1, .int x1), (2, .int x2), (3, .int x3)] [.ref (c + 1)] S R _
        refine u_getr rfl (z_cd0 hc) rfl ?_
        refine u_st rfl (fun _ => rfl) ?_
        show u_P L xs m d m_X3_firstAmount 27 [(0, .ref 51), (1, .int x1), (2, .int x2), (3, .int x3)] [.int x3, .ref (c + 5)] S R _
        refine u_ialdE (v := S (c + 4) x3.toInt.toNat) rfl (z_cd4 hc) rfl (fun b31 b32 => ?_)
        have hD := hD b31 b32
        show u_P L xs m d m_X3_firstAmount 28 [(0, .ref 51), (1, .int x1), (2, .int x2), (3, .int x3)] [.int (S (c + 4) x3.toInt.toNat)] S R _
        refine u_st rfl (fun _ => rfl) ?_
        show u_P L xs m d m_X3_firstAmount 29 [(0, .ref 51), (1, .int x1), (2, .int x2), (3, .int x3)] [.int x1, .int (S (c + 4) x3.toInt.toNat)] S R _
        refine u_ic_ne rfl (fun h4 => ?_) (fun h4 => ?_)
        · have hD := hD.1 h4
          show u_P L xs m d m_X3_firstAmount 84 [(0, .ref 51), (1, .int x1), (2, .int x2), (3, .int x3)] [] S R _
          refine u_st rfl (fun _ => rfl) ?_
          refine u_st rfl (fun _ => rfl) ?_
          refine u_lc (b := [(0, .ref 51), (1, .int x1), (2, .int x2), (3, .int (x3 + (Int32.ofInt 1)))]) (show ([3, 0, 1, 2] : List Nat).Nodup by decide) (show ([0, 1, 2, 3] : List Nat).Nodup by decide) (fun i => match i with | 0 => rfl | 1 => rfl | 2 => rfl | 3 => rfl | _ + 4 => rfl) ?_
          exact (ih m hm) d x1 x2 (x3 + (Int32.ofInt 1)) S hD
        · have hD := hD.2 h4
          show u_P L xs m d m_X3_firstAmount 32 [(0, .ref 51), (1, .int x1), (2, .int x2), (3, .int x3)] [] S R _
          refine u_st rfl (fun _ => rfl) ?_
          show u_P L xs m d m_X3_firstAmount 33 [(0, .ref 51), (1, .int x1), (2, .int x2), (3, .int x3)] [.ref 51] S R _
          refine u_getv rfl rfl rfl hL ?_
          refine u_st rfl (fun _ => rfl) ?_
          show u_P L xs m d m_X3_firstAmount 37 [(0, .ref 51), (1, .int x1), (2, .int x2), (3, .int x3)] [.ref 51, .ref (c + 1)] S R _
          refine u_getv rfl rfl rfl hL ?_
          show u_P L xs m d m_X3_firstAmount 40 [(0, .ref 51), (1, .int x1), (2, .int x2), (3, .int x3)] [.ref (c + 1), .ref (c + 1)] S R _
          refine u_getr rfl (z_cd0 hc) rfl ?_
          refine u_st rfl (fun _ => rfl) ?_
          show u_P L xs m d m_X3_firstAmount 44 [(0, .ref 51), (1, .int x1), (2, .int x2), (3, .int x3)] [.int x3, .ref (c + 7), .ref (c + 1)] S R _
          refine u_ialdE (v := S (c + 6) x3.toInt.toNat) rfl (z_cd6 hc) rfl (fun b51 b52 => ?_)
          have hD := hD b51 b52
          show u_P L xs m d m_X3_firstAmount 45 [(0, .ref 51), (1, .int x1), (2, .int x2), (3, .int x3)] [.int (S (c + 6) x3.toInt.toNat), .ref (c + 1)] S R _
          refine u_st rfl (fun _ => rfl) ?_
          show u_P L xs m d m_X3_firstAmount 46 [(0, .ref 51), (1, .int x1), (2, .int x2), (3, .int x3)] [.ref 51, .int (S (c + 6) x3.toInt.toNat), .ref (c + 1)] S R _
          refine u_getr rfl rfl rfl ?_
          show u_P L xs m d m_X3_firstAmount 49 [(0, .ref 51), (1, .int x1), (2, .int x2), (3, .int x3)] [.ref 52, .int (S (c + 6) x3.toInt.toNat), .ref (c + 1)] S R _
          refine u_cv (rest := []) rfl (by decide) mt_X1_run (z_cd0 hc) rfl rfl rfl (Nat.le_of_ble_eq_true rfl) (Nat.le_of_ble_eq_true rfl) (Nat.le_of_ble_eq_true rfl) (fun d' => c_X1_run L xs m d' c hc (S (c + 6) x3.toInt.toNat) S R) ?_
          rintro _ _ _ ⟨_, rfl, rfl, rfl, rfl⟩
          show u_P L xs m d m_X3_firstAmount 52 [(0, .ref 51), (1, .int x1), (2, .int x2), (3, .int x3)] [.int (f_X1_run c (S (c + 6) x3.toInt.toNat) S)] (g_X1_run c (S (c + 6) x3.toInt.toNat) S) R _
          refine u_if_eq rfl (fun h6 => ?_) (fun h6 => ?_)
          · have hD := hD.1 h6
            show u_P L xs m d m_X3_firstAmount 84 [(0, .ref 51), (1, .int x1), (2, .int x2), (3, .int x3)] [] (g_X1_run c (S (c + 6) x3.toInt.toNat) S) R _
            refine u_st rfl (fun _ => rfl) ?_
            refine u_st rfl (fun _ => rfl) ?_
            refine u_lc (b := [(0, .ref 51), (1, .int x1), (2, .int x2), (3, .int (x3 + (Int32.ofInt 1)))]) (show ([3, 0, 1, 2] : List Nat).Nodup by decide) (show ([0, 1, 2, 3] : List Nat).Nodup by decide) (fun i => match i with | 0 => rfl | 1 => rfl | 2 => rfl | 3 => rfl | _ + 4 => rfl) ?_
            exact (ih m hm) d x1 x2 (x3 + (Int32.ofInt 1)) (g_X1_run c (S (c + 6) x3.toInt.toNat) S) hD
          · have hD := hD.2 h6
            show u_P L xs m d m_X3_firstAmount 55 [(0, .ref 51), (1, .int x1), (2, .int x2), (3, .int x3)] [] (g_X1_run c (S (c + 6) x3.toInt.toNat) S) R _
            refine u_st rfl (fun _ => rfl) ?_
            refine u_st rfl (fun _ => rfl) ?_
            refine u_st rfl (fun _ => rfl) ?_
            show u_P L xs m d m_X3_firstAmount 58 [(0, .ref 51), (1, .int x1), (2, .int x2), (3, .int x3)] [.ref 51, .int x2, .int (Int32.ofInt 0)] (g_X1_run c (S (c + 6) x3.toInt.toNat) S) R _
            refine u_getv rfl rfl rfl hL ?_
            refine u_st rfl (fun _ => rfl) ?_
            show u_P L xs m d m_X3_firstAmount 62 [(0, .ref 51), (1, .int x1), (2, .int x2), (3, .int x3)] [.ref 51, .ref (c + 1), .int x2, .int (Int32.ofInt 0)] (g_X1_run c (S (c + 6) x3.toInt.toNat) S) R _
            refine u_getv rfl rfl rfl hL ?_
            show u_P L xs m d m_X3_firstAmount 65 [(0, .ref 51), (1, .int x1), (2, .int x2), (3, .int x3)] [.ref (c + 1), .ref (c + 1), .int x2, .int (Int32.ofInt 0)] (g_X1_run c (S (c + 6) x3.toInt.toNat) S) R _
            refine u_getr rfl (z_cd0 hc) rfl ?_
            refine u_st rfl (fun _ => rfl) ?_
            show u_P L xs m d m_X3_firstAmount 69 [(0, .ref 51), (1, .int x1), (2, .int x2), (3, .int x3)] [.int x3, .ref (c + 6), .ref (c + 1), .int x2, .int (Int32.ofInt 0)] (g_X1_run c (S (c + 6) x3.toInt.toNat) S) R _
            refine u_ialdE (v := (g_X1_run c (S (c + 6) x3.toInt.toNat) S) (c + 5) x3.toInt.toNat) rfl (z_cd5 hc) rfl (fun b71 b72 => ?_)
            have hD := hD b71 b72
            show u_P L xs m d m_X3_firstAmount 70 [(0, .ref 51), (1, .int x1), (2, .int x2), (3, .int x3)] [.int ((g_X1_run c (S (c + 6) x3.toInt.toNat) S) (c + 5) x3.toInt.toNat), .ref (c + 1), .int x2, .int (Int32.ofInt 0)] (g_X1_run c (S (c + 6) x3.toInt.toNat) S) R _
            refine u_st rfl (fun _ => rfl) ?_
            show u_P L xs m d m_X3_firstAmount 71 [(0, .ref 51), (1, .int x1), (2, .int x2), (3, .int x3)] [.ref 51, .int ((g_X1_run c (S (c + 6) x3.toInt.toNat) S) (c + 5) x3.toInt.toNat), .ref (c + 1), .int x2, .int (Int32.ofInt 0)] (g_X1_run c (S (c + 6) x3.toInt.toNat) S) R _
            refine u_getr rfl rfl rfl ?_
            show u_P L xs m d m_X3_firstAmount 74 [(0, .ref 51), (1, .int x1), (2, .int x2), (3, .int x3)] [.ref 52, .int ((g_X1_run c (S (c + 6) x3.toInt.toNat) S) (c + 5) x3.toInt.toNat), .ref (c + 1), .int x2, .int (Int32.ofInt 0)] (g_X1_run c (S (c + 6) x3.toInt.toNat) S) R _
            refine u_cv (rest := [.int x2, .int (Int32.ofInt 0)]) rfl (by decide) mt_X1_run (z_cd0 hc) rfl rfl rfl (Nat.le_of_ble_eq_true rfl) (Nat.le_of_ble_eq_true rfl) (Nat.le_of_ble_eq_true rfl) (fun d' => c_X1_run L xs m d' c hc ((g_X1_run c (S (c + 6) x3.toInt.toNat) S) (c + 5) x3.toInt.toNat) (g_X1_run c (S (c + 6) x3.toInt.toNat) S) R) ?_
            rintro _ _ _ ⟨_, rfl, rfl, rfl, rfl⟩
            show u_P L xs m d m_X3_firstAmount 77 [(0, .ref 51), (1, .int x1), (2, .int x2), (3, .int x3)] [.int (f_X1_run c ((g_X1_run c (S (c + 6) x3.toInt.toNat) S) (c + 5) x3.toInt.toNat) (g_X1_run c (S (c + 6) x3.toInt.toNat) S)), .int x2, .int (Int32.ofInt 0)] (g_X1_run c ((g_X1_run c (S (c + 6) x3.toInt.toNat) S) (c + 5) x3.toInt.toNat) (g_X1_run c (S (c + 6) x3.toInt.toNat) S)) R _
            refine u_min rfl ?_
            show u_P L xs m d m_X3_firstAmount 80 [(0, .ref 51), (1, .int x1), (2, .int x2), (3, .int x3)] [.int (z_min x2 (f_X1_run c ((g_X1_run c (S (c + 6) x3.toInt.toNat) S) (c + 5) x3.toInt.toNat) (g_X1_run c (S (c + 6) x3.toInt.toNat) S))), .int (Int32.ofInt 0)] (g_X1_run c ((g_X1_run c (S (c + 6) x3.toInt.toNat) S) (c + 5) x3.toInt.toNat) (g_X1_run c (S (c + 6) x3.toInt.toNat) S)) R _
            refine u_max rfl ?_
            show u_P L xs m d m_X3_firstAmount 83 [(0, .ref 51), (1, .int x1), (2, .int x2), (3, .int x3)] [.int (z_max (Int32.ofInt 0) (z_min x2 (f_X1_run c ((g_X1_run c (S (c + 6) x3.toInt.toNat) S) (c + 5) x3.toInt.toNat) (g_X1_run c (S (c + 6) x3.toInt.toNat) S))))] (g_X1_run c ((g_X1_run c (S (c + 6) x3.toInt.toNat) S) (c + 5) x3.toInt.toNat) (g_X1_run c (S (c + 6) x3.toInt.toNat) S)) R _
            exact u_ret rfl rfl ⟨_, rfl, rfl, hD⟩
set_option maxRecDepth 4000 in
theorem w_X3_firstAmount (L : Nat) (xs : Nat → Int32) {R : v_Rf} {c : Nat} (hL : R 50 2 = some (c + 1)) (hc : z_cd c) (a : Int32) (b : Int32) (H2 : Int32 → Int32 → Int32 → v_Sf → Prop) (K : Int32 → v_Sf → Prop) (k2 : ∀ (x1 : Int32) (x2 : Int32) (x3 : Int32) (S : v_Sf), H2 x1 x2 x3 S → D_X3_firstAmount_2 c H2 K x1 x2 x3 S) (n d : Nat) (S : v_Sf) (hD : D_X3_firstAmount c a b H2 K S) : u_P L xs n d m_X3_firstAmount 0 (lv_args 0 [.ref 51, .int a, .int b]) [] S R (z_Q R K) := by
  unfold D_X3_firstAmount at hD
  show u_P L xs n d m_X3_firstAmount 0 [(0, .ref 51), (1, .int a), (2, .int b)] [] S R _
  refine u_st rfl (fun _ => rfl) ?_
  refine u_st rfl (fun _ => rfl) ?_
  refine u_lc (b := [(0, .ref 51), (1, .int a), (2, .int b), (3, .int (Int32.ofInt 0))]) (show ([3, 0, 1, 2] : List Nat).Nodup by decide) (show ([0, 1, 2, 3] : List Nat).Nodup by decide) (fun i => match i with | 0 => rfl | 1 => rfl | 2 => rfl | 3 => rfl | _ + 4 => rfl) ?_
  exact (hd_X3_firstAmount L xs hL hc a b H2 K k2 n) d a b (Int32.ofInt 0) S hD
noncomputable def r_X3_firstAmount_2 (c : Nat) (x1 : Int32) (x2 : Int32) : Nat → Nat → v_Sf → Int32 × v_Sf
  | 0, k2, S => (Int32.ofInt 0, S)
  | r + 1, k2, S => (if (S c 7) ≤ (z_i k2) then (Int32.ofInt 0, S) else (if ¬ (S (c + 4) (z_i k2).toInt.toNat) = x1 then r_X3_firstAmount_2 c x1 x2 r (k2 + 1) S else (if (f_X1_run c (S (c + 6) (z_i k2).toInt.toNat) S) = 0 then r_X3_firstAmount_2 c x1 x2 r (k2 + 1) (g_X1_run c (S (c + 6) (z_i k2).toInt.toNat) S) else (z_max (Int32.ofInt 0) (z_min x2 (f_X1_run c ((g_X1_run c (S (c + 6) (z_i k2).toInt.toNat) S) (c + 5) (z_i k2).toInt.toNat) (g_X1_run c (S (c + 6) (z_i k2).toInt.toNat) S))), g_X1_run c ((g_X1_run c (S (c + 6) (z_i k2).toInt.toNat) S) (c + 5) (z_i k2).toInt.toNat) (g_X1_run c (S (c + 6) (z_i k2).toInt.toNat) S)))))
noncomputable def F_X3_firstAmount (c : Nat) (a : Int32) (b : Int32) (S : v_Sf) : Int32 × v_Sf := r_X3_firstAmount_2 c a b (16 - 0) 0 S
noncomputable def f_X3_firstAmount (c : Nat) (a : Int32) (b : Int32) (S : v_Sf) : Int32 := (F_X3_firstAmount c a b S).1
noncomputable def g_X3_firstAmount (c : Nat) (a : Int32) (b : Int32) (S : v_Sf) : v_Sf := (F_X3_firstAmount c a b S).2
theorem c_X3_firstAmount (L : Nat) (xs : Nat → Int32) (n d : Nat) {R : v_Rf} {c : Nat} (hL : R 50 2 = some (c + 1)) (hc : z_cd c) (a : Int32) (b : Int32) (S : v_Sf) : u_P L xs n d m_X3_firstAmount 0 (lv_args 0 [.ref 51, .int a, .int b]) [] S R (z_Q R (fun v S1 => f_X3_firstAmount c a b S = v ∧ g_X3_firstAmount c a b S = S1)) := by
  refine w_X3_firstAmount L xs hL hc a b (fun y1 y2 y3 T => ∃ (k2 : Nat), k2 ≤ 16 ∧ z_i k2 = y3 ∧ a = y1 ∧ b = y2 ∧ r_X3_firstAmount_2 c a b (16 - k2) k2 T = F_X3_firstAmount c a b S) (fun v S1 => f_X3_firstAmount c a b S = v ∧ g_X3_firstAmount c a b S = S1) ?_ n d S ?_
  · rintro _ _ _ S1 ⟨k2, hkk, rfl, rfl, rfl, e⟩
    unfold D_X3_firstAmount_2
    rcases Nat.lt_or_ge k2 (16) with hk | hk
    · rw [show 16 - k2 = (16 - (k2 + 1)) + 1 by omega, r_X3_firstAmount_2] at e
      refine ⟨fun q1 => ?_, fun q1 => ?_⟩
      · rw [if_pos q1] at e
        have e1 := congrArg Prod.fst e.symm
        have e2 := congrArg Prod.snd e.symm
        exact ⟨e1, e2⟩
      · refine ⟨fun q2 => ?_, fun q2 => ?_⟩
        · exact absurd hk (Nat.not_lt.mpr (z_leB2 (B := 16) q2 (by decide) (by omega)))
        · intro _ _
          refine ⟨fun q3 => ?_, fun q3 => ?_⟩
          · rw [if_neg q1, if_pos q3] at e
            exact ⟨(k2 + 1), by omega, (z_i1 k2).symm, rfl, rfl, e⟩
          · intro _ _
            refine ⟨fun q4 => ?_, fun q4 => ?_⟩
            · rw [if_neg q1, if_neg q3, if_pos q4] at e
              exact ⟨(k2 + 1), by omega, (z_i1 k2).symm, rfl, rfl, e⟩
            · intro _ _
              rw [if_neg q1, if_neg q3, if_neg q4] at e
              have e1 := congrArg Prod.fst e.symm
              have e2 := congrArg Prod.snd e.symm
              exact ⟨e1, e2⟩
    · rw [show 16 - k2 = 0 by omega, r_X3_firstAmount_2] at e
      refine ⟨fun q5 => ?_, fun q5 => ?_⟩
      · have e1 := congrArg Prod.fst e.symm
        have e2 := congrArg Prod.snd e.symm
        exact ⟨e1, e2⟩
      · refine ⟨fun q6 => ?_, fun q6 => ?_⟩
        · have e1 := congrArg Prod.fst e.symm
          have e2 := congrArg Prod.snd e.symm
          exact ⟨e1, e2⟩
        · exact absurd hk (Nat.not_le.mpr (z_ltB2 (B := 16) q6 (by decide) (by omega)))
  · unfold D_X3_firstAmount
    have e : r_X3_firstAmount_2 c a b (16 - 0) 0 S = F_X3_firstAmount c a b S := by rw [F_X3_firstAmount]
    exact ⟨0, by omega, rfl, rfl, rfl, e⟩
noncomputable abbrev m_X3_anyHolds : g_M := (g_cn 3, yX3_anyHolds, cX3_anyHolds, 3, (some .boolean), g_look2 ttX3_anyHolds)
set_option maxRecDepth 20000 in
theorem mt_X3_anyHolds : g_mt 44 = some m_X3_anyHolds := rfl
noncomputable def D_X3_anyHolds_2 (c : Nat) (H2 : Int32 → Int32 → v_Sf → Prop) (K : Int32 → v_Sf → Prop) (x1 : Int32) (x2 : Int32) (S : v_Sf) : Prop := (((S c 7) ≤ x2 → K (Int32.ofInt 0) S) ∧ (¬ ((S c 7) ≤ x2) → (((Int32.ofInt 16) ≤ x2 → K (Int32.ofInt 0) S) ∧ (¬ ((Int32.ofInt 16) ≤ x2) → (0 ≤ x2.toInt → x2.toInt < 16 → (((¬ (S (c + 4) x2.toInt.toNat) = x1) → H2 x1 (x2 + (Int32.ofInt 1)) S) ∧ (¬ (¬ (S (c + 4) x2.toInt.toNat) = x1) → (0 ≤ x2.toInt → x2.toInt < 16 → (((f_X1_run c (S (c + 6) x2.toInt.toNat) S) = 0 → H2 x1 (x2 + (Int32.ofInt 1)) (g_X1_run c (S (c + 6) x2.toInt.toNat) S)) ∧ (¬ ((f_X1_run c (S (c + 6) x2.toInt.toNat) S) = 0) → K (Int32.ofInt 1) (g_X1_run c (S (c + 6) x2.toInt.toNat) S)))))))))))
noncomputable def D_X3_anyHolds (c : Nat) (a : Int32) (H2 : Int32 → Int32 → v_Sf → Prop) (K : Int32 → v_Sf → Prop) (S : v_Sf) : Prop := H2 a (Int32.ofInt 0) S
set_option maxRecDepth 4000 in
theorem hd_X3_anyHolds (L : Nat) (xs : Nat → Int32) {R : v_Rf} {c : Nat} (hL : R 50 2 = some (c + 1)) (hc : z_cd c) (a : Int32) (H2 : Int32 → Int32 → v_Sf → Prop) (K : Int32 → v_Sf → Prop) (k2 : ∀ (x1 : Int32) (x2 : Int32) (S : v_Sf), H2 x1 x2 S → D_X3_anyHolds_2 c H2 K x1 x2 S) : ∀ n, (∀ (d : Nat) (x1 : Int32) (x2 : Int32) (S : v_Sf), H2 x1 x2 S → u_P L xs n d m_X3_anyHolds 2 [(0, .ref 51), (1, .int x1), (2, .int x2)] [] S R (z_Q R K)) := by
  intro n
  induction n using Nat.strongRecOn with
  | ind n ih =>
    intro d x1 x2 S hD
    have hD := k2 x1 x2 S hD
    unfold D_X3_anyHolds_2 at hD
    show u_P L xs n d m_X3_anyHolds 2 [(0, .ref 51), (1, .int x1), (2, .int x2)] [] S R _
    refine u_st1 rfl (fun _ => rfl) (fun m hm => ?_)
    refine u_st rfl (fun _ => rfl) ?_
    show u_P L xs m d m_X3_anyHolds 4 [(0, .ref 51), (1, .int x1), (2, .int x2)] [.ref 51, .int x2] S R _
    refine u_getv rfl rfl rfl hL ?_
    show u_P L xs m d m_X3_anyHolds 7 [(0, .ref 51), (1, .int x1), (2, .int x2)] [.ref (c + 1), .int x2] S R _
    refine u_getE (v := S c 7) rfl (z_cd0 hc) rfl rfl ?_
    show u_P L xs m d m_X3_anyHolds 10 [(0, .ref 51), (1, .int x1), (2, .int x2)] [.int (S c 7), .int x2] S R _
    refine u_ic_ge rfl (fun h1 => ?_) (fun h1 => ?_)
    · have hD := hD.1 h1
      show u_P L xs m d m_X3_anyHolds 63 [(0, .ref 51), (1, .int x1), (2, .int x2)] [] S R _
      refine u_st rfl (fun _ => rfl) ?_
      show u_P L xs m d m_X3_anyHolds 64 [(0, .ref 51), (1, .int x1), (2, .int x2)] [.int (Int32.ofInt 0)] S R _
      exact u_retb rfl rfl ⟨_, rfl, rfl, hD⟩
    · have hD := hD.2 h1
      show u_P L xs m d m_X3_anyHolds 13 [(0, .ref 51), (1, .int x1), (2, .int x2)] [] S R _
      refine u_st rfl (fun _ => rfl) ?_
      refine u_st rfl (fun _ => rfl) ?_
      show u_P L xs m d m_X3_anyHolds 16 [(0, .ref 51), (1, .int x1), (2, .int x2)] [.int (Int32.ofInt 16), .int x2] S R _
      refine u_ic_ge rfl (fun h2 => ?_) (fun h2 => ?_)
      · have hD := hD.1 h2
        show u_P L xs m d m_X3_anyHolds 63 [(0, .ref 51), (1, .int x1), (2, .int x2)] [] S R _
        refine u_st rfl (fun _ => rfl) ?_
        show u_P L xs m d m_X3_anyHolds 64 [(0, .ref 51), (1, .int x1), (2, .int x2)] [.int (Int32.ofInt 0)] S R _
        exact u_retb rfl rfl ⟨_, rfl, rfl, hD⟩
      · have hD := hD.2 h2
        show u_P L xs m d m_X3_anyHolds 19 [(0, .ref 51), (1, .int x1), (2, .int x2)] [] S R _
        refine u_st rfl (fun _ => rfl) ?_
        show u_P L xs m d m_X3_anyHolds 20 [(0, .ref 51), (1, .int x1), (2, .int x2)] [.ref 51] S R _
        refine u_getv rfl rfl rfl hL ?_
        show u_P L xs m d m_X3_anyHolds 23 [(0, .ref 51), (1, .int x1), (2, .int x2)] [.ref (c + 1)] S R _
        refine u_getr rfl (z_cd0 hc) rfl ?_
        refine u_st rfl (fun _ => rfl) ?_
        show u_P L xs m d m_X3_anyHolds 27 [(0, .ref 51), (1, .int x1), (2, .int x2)] [.int x2, .ref (c + 5)] S R _
        refine u_ialdE (v := S (c + 4) x2.toInt.toNat) rfl (z_cd4 hc) rfl (fun b31 b32 => ?_)
        have hD := hD b31 b32
        show u_P L xs m d m_X3_anyHolds 28 [(0, .ref 51), (1, .int x1), (2, .int x2)] [.int (S (c + 4) x2.toInt.toNat)] S R _
        refine u_st rfl (fun _ => rfl) ?_
        show u_P L xs m d m_X3_anyHolds 29 [(0, .ref 51), (1, .int x1), (2, .int x2)] [.int x1, .int (S (c + 4) x2.toInt.toNat)] S R _
        refine u_ic_ne rfl (fun h4 => ?_) (fun h4 => ?_)
        · have hD := hD.1 h4
          show u_P L xs m d m_X3_anyHolds 57 [(0, .ref 51), (1, .int x1), (2, .int x2)] [] S R _
          refine u_st rfl (fun _ => rfl) ?_
          refine u_st rfl (fun _ => rfl) ?_
          refine u_lc (b := [(0, .ref 51), (1, .int x1), (2, .int (x2 + (Int32.ofInt 1)))]) (show ([2, 0, 1] : List Nat).Nodup by decide) (show ([0, 1, 2] : List Nat).Nodup by decide) (fun i => match i with | 0 => rfl | 1 => rfl | 2 => rfl | _ + 3 => rfl) ?_
          exact (ih m hm) d x1 (x2 + (Int32.ofInt 1)) S hD
        · have hD := hD.2 h4
          show u_P L xs m d m_X3_anyHolds 32 [(0, .ref 51), (1, .int x1), (2, .int x2)] [] S R _
          refine u_st rfl (fun _ => rfl) ?_
          show u_P L xs m d m_X3_anyHolds 33 [(0, .ref 51), (1, .int x1), (2, .int x2)] [.ref 51] S R _
          refine u_getv rfl rfl rfl hL ?_
          refine u_st rfl (fun _ => rfl) ?_
          show u_P L xs m d m_X3_anyHolds 37 [(0, .ref 51), (1, .int x1), (2, .int x2)] [.ref 51, .ref (c + 1)] S R _
          refine u_getv rfl rfl rfl hL ?_
          show u_P L xs m d m_X3_anyHolds 40 [(0, .ref 51), (1, .int x1), (2, .int x2)] [.ref (c + 1), .ref (c + 1)] S R _
          refine u_getr rfl (z_cd0 hc) rfl ?_
          refine u_st rfl (fun _ => rfl) ?_
          show u_P L xs m d m_X3_anyHolds 44 [(0, .ref 51), (1, .int x1), (2, .int x2)] [.int x2, .ref (c + 7), .ref (c + 1)] S R _
          refine u_ialdE (v := S (c + 6) x2.toInt.toNat) rfl (z_cd6 hc) rfl (fun b51 b52 => ?_)
          have hD := hD b51 b52
          show u_P L xs m d m_X3_anyHolds 45 [(0, .ref 51), (1, .int x1), (2, .int x2)] [.int (S (c + 6) x2.toInt.toNat), .ref (c + 1)] S R _
          refine u_st rfl (fun _ => rfl) ?_
          show u_P L xs m d m_X3_anyHolds 46 [(0, .ref 51), (1, .int x1), (2, .int x2)] [.ref 51, .int (S (c + 6) x2.toInt.toNat), .ref (c + 1)] S R _
          refine u_getr rfl rfl rfl ?_
          show u_P L xs m d m_X3_anyHolds 49 [(0, .ref 51), (1, .int x1), (2, .int x2)] [.ref 52, .int (S (c + 6) x2.toInt.toNat), .ref (c + 1)] S R _
          refine u_cv (rest := []) rfl (by decide) mt_X1_run (z_cd0 hc) rfl rfl rfl (Nat.le_of_ble_eq_true rfl) (Nat.le_of_ble_eq_true rfl) (Nat.le_of_ble_eq_true rfl) (fun d' => c_X1_run L xs m d' c hc (S (c + 6) x2.toInt.toNat) S R) ?_
          rintro _ _ _ ⟨_, rfl, rfl, rfl, rfl⟩
          show u_P L xs m d m_X3_anyHolds 52 [(0, .ref 51), (1, .int x1), (2, .int x2)] [.int (f_X1_run c (S (c + 6) x2.toInt.toNat) S)] (g_X1_run c (S (c + 6) x2.toInt.toNat) S) R _
          refine u_if_eq rfl (fun h6 => ?_) (fun h6 => ?_)
          · have hD := hD.1 h6
            show u_P L xs m d m_X3_anyHolds 57 [(0, .ref 51), (1, .int x1), (2, .int x2)] [] (g_X1_run c (S (c + 6) x2.toInt.toNat) S) R _
            refine u_st rfl (fun _ => rfl) ?_
            refine u_st rfl (fun _ => rfl) ?_
            refine u_lc (b := [(0, .ref 51), (1, .int x1), (2, .int (x2 + (Int32.ofInt 1)))]) (show ([2, 0, 1] : List Nat).Nodup by decide) (show ([0, 1, 2] : List Nat).Nodup by decide) (fun i => match i with | 0 => rfl | 1 => rfl | 2 => rfl | _ + 3 => rfl) ?_
            exact (ih m hm) d x1 (x2 + (Int32.ofInt 1)) (g_X1_run c (S (c + 6) x2.toInt.toNat) S) hD
          · have hD := hD.2 h6
            show u_P L xs m d m_X3_anyHolds 55 [(0, .ref 51), (1, .int x1), (2, .int x2)] [] (g_X1_run c (S (c + 6) x2.toInt.toNat) S) R _
            refine u_st rfl (fun _ => rfl) ?_
            show u_P L xs m d m_X3_anyHolds 56 [(0, .ref 51), (1, .int x1), (2, .int x2)] [.int (Int32.ofInt 1)] (g_X1_run c (S (c + 6) x2.toInt.toNat) S) R _
            exact u_retb rfl rfl ⟨_, rfl, rfl, hD⟩
set_option maxRecDepth 4000 in
theorem w_X3_anyHolds (L : Nat) (xs : Nat → Int32) {R : v_Rf} {c : Nat} (hL : R 50 2 = some (c + 1)) (hc : z_cd c) (a : Int32) (H2 : Int32 → Int32 → v_Sf → Prop) (K : Int32 → v_Sf → Prop) (k2 : ∀ (x1 : Int32) (x2 : Int32) (S : v_Sf), H2 x1 x2 S → D_X3_anyHolds_2 c H2 K x1 x2 S) (n d : Nat) (S : v_Sf) (hD : D_X3_anyHolds c a H2 K S) : u_P L xs n d m_X3_anyHolds 0 (lv_args 0 [.ref 51, .int a]) [] S R (z_Q R K) := by
  unfold D_X3_anyHolds at hD
  show u_P L xs n d m_X3_anyHolds 0 [(0, .ref 51), (1, .int a)] [] S R _
  refine u_st rfl (fun _ => rfl) ?_
  refine u_st rfl (fun _ => rfl) ?_
  refine u_lc (b := [(0, .ref 51), (1, .int a), (2, .int (Int32.ofInt 0))]) (show ([2, 0, 1] : List Nat).Nodup by decide) (show ([0, 1, 2] : List Nat).Nodup by decide) (fun i => match i with | 0 => rfl | 1 => rfl | 2 => rfl | _ + 3 => rfl) ?_
  exact (hd_X3_anyHolds L xs hL hc a H2 K k2 n) d a (Int32.ofInt 0) S hD
noncomputable def r_X3_anyHolds_2 (c : Nat) (x1 : Int32) : Nat → Nat → v_Sf → Int32 × v_Sf
  | 0, k2, S => (Int32.ofInt 0, S)
  | r + 1, k2, S => (if (S c 7) ≤ (z_i k2) then (Int32.ofInt 0, S) else (if ¬ (S (c + 4) (z_i k2).toInt.toNat) = x1 then r_X3_anyHolds_2 c x1 r (k2 + 1) S else (if (f_X1_run c (S (c + 6) (z_i k2).toInt.toNat) S) = 0 then r_X3_anyHolds_2 c x1 r (k2 + 1) (g_X1_run c (S (c + 6) (z_i k2).toInt.toNat) S) else (Int32.ofInt 1, g_X1_run c (S (c + 6) (z_i k2).toInt.toNat) S))))
noncomputable def F_X3_anyHolds (c : Nat) (a : Int32) (S : v_Sf) : Int32 × v_Sf := r_X3_anyHolds_2 c a (16 - 0) 0 S
noncomputable def f_X3_anyHolds (c : Nat) (a : Int32) (S : v_Sf) : Int32 := (F_X3_anyHolds c a S).1
noncomputable def g_X3_anyHolds (c : Nat) (a : Int32) (S : v_Sf) : v_Sf := (F_X3_anyHolds c a S).2
theorem c_X3_anyHolds (L : Nat) (xs : Nat → Int32) (n d : Nat) {R : v_Rf} {c : Nat} (hL : R 50 2 = some (c + 1)) (hc : z_cd c) (a : Int32) (S : v_Sf) : u_P L xs n d m_X3_anyHolds 0 (lv_args 0 [.ref 51, .int a]) [] S R (z_Q R (fun v S1 => f_X3_anyHolds c a S = v ∧ g_X3_anyHolds c a S = S1)) := by
  refine w_X3_anyHolds L xs hL hc a (fun y1 y2 T => ∃ (k2 : Nat), k2 ≤ 16 ∧ z_i k2 = y2 ∧ a = y1 ∧ r_X3_anyHolds_2 c a (16 - k2) k2 T = F_X3_anyHolds c a S) (fun v S1 => f_X3_anyHolds c a S = v ∧ g_X3_anyHolds c a S = S1) ?_ n d S ?_
  · rintro _ _ S1 ⟨k2, hkk, rfl, rfl, e⟩
    unfold D_X3_anyHolds_2
    rcases Nat.lt_or_ge k2 (16) with hk | hk
    · rw [show 16 - k2 = (16 - (k2 + 1)) + 1 by omega, r_X3_anyHolds_2] at e
      refine ⟨fun q1 => ?_, fun q1 => ?_⟩
      · rw [if_pos q1] at e
        have e1 := congrArg Prod.fst e.symm
        have e2 := congrArg Prod.snd e.symm
        exact ⟨e1, e2⟩
      · refine ⟨fun q2 => ?_, fun q2 => ?_⟩
        · exact absurd hk (Nat.not_lt.mpr (z_leB2 (B := 16) q2 (by decide) (by omega)))
        · intro _ _
          refine ⟨fun q3 => ?_, fun q3 => ?_⟩
          · rw [if_neg q1, if_pos q3] at e
            exact ⟨(k2 + 1), by omega, (z_i1 k2).symm, rfl, e⟩
          · intro _ _
            refine ⟨fun q4 => ?_, fun q4 => ?_⟩
            · rw [if_neg q1, if_neg q3, if_pos q4] at e
              exact ⟨(k2 + 1), by omega, (z_i1 k2).symm, rfl, e⟩
            · rw [if_neg q1, if_neg q3, if_neg q4] at e
              have e1 := congrArg Prod.fst e.symm
              have e2 := congrArg Prod.snd e.symm
              exact ⟨e1, e2⟩
    · rw [show 16 - k2 = 0 by omega, r_X3_anyHolds_2] at e
      refine ⟨fun q5 => ?_, fun q5 => ?_⟩
      · have e1 := congrArg Prod.fst e.symm
        have e2 := congrArg Prod.snd e.symm
        exact ⟨e1, e2⟩
      · refine ⟨fun q6 => ?_, fun q6 => ?_⟩
        · have e1 := congrArg Prod.fst e.symm
          have e2 := congrArg Prod.snd e.symm
          exact ⟨e1, e2⟩
        · exact absurd hk (Nat.not_le.mpr (z_ltB2 (B := 16) q6 (by decide) (by omega)))
  · unfold D_X3_anyHolds
    have e : r_X3_anyHolds_2 c a (16 - 0) 0 S = F_X3_anyHolds c a S := by rw [F_X3_anyHolds]
    exact ⟨0, by omega, rfl, rfl, e⟩
noncomputable abbrev m_X3_ofGust : g_M := (g_cn 3, yX3_ofGust, cX3_ofGust, 4, (some .int), g_look2 ttX3_ofGust)
set_option maxRecDepth 20000 in
theorem mt_X3_ofGust : g_mt 35 = some m_X3_ofGust := rfl
noncomputable def f_X3_ofGust (c : Nat) (s : Nat) (g : Int32) (a : Int32) (S : v_Sf) : Int32 := f_X3_firstAmount c a (Int32.ofInt 20) (g_X3_lookAtGust s g S)
noncomputable def g_X3_ofGust (c : Nat) (s : Nat) (g : Int32) (a : Int32) (S : v_Sf) : v_Sf := g_X3_firstAmount c a (Int32.ofInt 20) (g_X3_lookAtGust s g S)
set_option maxRecDepth 4000 in
theorem c_X3_ofGust (L : Nat) (xs : Nat → Int32) (n d : Nat) {R : v_Rf} (hW : z_W R) {c : Nat} (hL : R 50 2 = some (c + 1)) (hc : z_cd c) (s : Nat) (hs : z_st s) (g : Int32) (a : Int32) (S : v_Sf) : u_P L xs n d m_X3_ofGust 0 (lv_args 0 [.ref 51, .ref (s + 1), .int g, .int a]) [] S R (z_Q R (fun v S1 => f_X3_ofGust c s g a S = v ∧ g_X3_ofGust c s g a S = S1)) := by
  show u_P L xs n d m_X3_ofGust 0 [(0, .ref 51), (1, .ref (s + 1)), (2, .int g), (3, .int a)] [] S R _
  refine u_st rfl (fun _ => rfl) ?_
  refine u_st rfl (fun _ => rfl) ?_
  refine u_st rfl (fun _ => rfl) ?_
  show u_P L xs n d m_X3_ofGust 3 [(0, .ref 51), (1, .ref (s + 1)), (2, .int g), (3, .int a)] [.int g, .ref (s + 1), .ref 51] S R _
  refine u_cv (rest := []) rfl (by decide) mt_X3_lookAtGust rfl rfl rfl rfl (Nat.le_of_ble_eq_true rfl) (Nat.le_of_ble_eq_true rfl) (Nat.le_of_ble_eq_true rfl) (fun d' => c_X3_lookAtGust L xs n d' hW s hs g S) ?_
  rintro _ _ _ ⟨rfl, rfl, rfl⟩
  refine u_st rfl (fun _ => rfl) ?_
  refine u_st rfl (fun _ => rfl) ?_
  refine u_st rfl (fun _ => rfl) ?_
  show u_P L xs n d m_X3_ofGust 10 [(0, .ref 51), (1, .ref (s + 1)), (2, .int g), (3, .int a)] [.int (Int32.ofInt 20), .int a, .ref 51] (g_X3_lookAtGust s g S) R _
  refine u_cv (rest := []) rfl (by decide) mt_X3_firstAmount rfl rfl rfl rfl (Nat.le_of_ble_eq_true rfl) (Nat.le_of_ble_eq_true rfl) (Nat.le_of_ble_eq_true rfl) (fun d' => c_X3_firstAmount L xs n d' hL hc a (Int32.ofInt 20) (g_X3_lookAtGust s g S)) ?_
  rintro _ _ _ ⟨_, rfl, rfl, rfl, rfl⟩
  show u_P L xs n d m_X3_ofGust 13 [(0, .ref 51), (1, .ref (s + 1)), (2, .int g), (3, .int a)] [.int (f_X3_firstAmount c a (Int32.ofInt 20) (g_X3_lookAtGust s g S))] (g_X3_firstAmount c a (Int32.ofInt 20) (g_X3_lookAtGust s g S)) R _
  exact u_ret rfl rfl ⟨_, rfl, rfl, rfl, rfl⟩
noncomputable abbrev m_X3_learns : g_M := (g_cn 3, yX3_learns, cX3_learns, 4, (some .boolean), g_look2 ttX3_learns)
set_option maxRecDepth 20000 in
theorem mt_X3_learns : g_mt 36 = some m_X3_learns := rfl
noncomputable def f_X3_learns (c : Nat) (s : Nat) (g : Int32) (a : Int32) (S : v_Sf) : Int32 := f_X3_anyHolds c (Int32.ofInt 101) (z_s (g_X3_lookAtGust s g S) 51 8 a)
noncomputable def g_X3_learns (c : Nat) (s : Nat) (g : Int32) (a : Int32) (S : v_Sf) : v_Sf := g_X3_anyHolds c (Int32.ofInt 101) (z_s (g_X3_lookAtGust s g S) 51 8 a)
set_option maxRecDepth 4000 in
theorem c_X3_learns (L : Nat) (xs : Nat → Int32) (n d : Nat) {R : v_Rf} (hW : z_W R) {c : Nat} (hL : R 50 2 = some (c + 1)) (hc : z_cd c) (s : Nat) (hs : z_st s) (g : Int32) (a : Int32) (S : v_Sf) : u_P L xs n d m_X3_learns 0 (lv_args 0 [.ref 51, .ref (s + 1), .int g, .int a]) [] S R (z_Q R (fun v S1 => f_X3_learns c s g a S = v ∧ g_X3_learns c s g a S = S1)) := by
  show u_P L xs n d m_X3_learns 0 [(0, .ref 51), (1, .ref (s + 1)), (2, .int g), (3, .int a)] [] S R _
  refine u_st rfl (fun _ => rfl) ?_
  refine u_st rfl (fun _ => rfl) ?_
  refine u_st rfl (fun _ => rfl) ?_
  show u_P L xs n d m_X3_learns 3 [(0, .ref 51), (1, .ref (s + 1)), (2, .int g), (3, .int a)] [.int g, .ref (s + 1), .ref 51] S R _
  refine u_cv (rest := []) rfl (by decide) mt_X3_lookAtGust rfl rfl rfl rfl (Nat.le_of_ble_eq_true rfl) (Nat.le_of_ble_eq_true rfl) (Nat.le_of_ble_eq_true rfl) (fun d' => c_X3_lookAtGust L xs n d' hW s hs g S) ?_
  rintro _ _ _ ⟨rfl, rfl, rfl⟩
  refine u_st rfl (fun _ => rfl) ?_
  show u_P L xs n d m_X3_learns 7 [(0, .ref 51), (1, .ref (s + 1)), (2, .int g), (3, .int a)] [.ref 51] (g_X3_lookAtGust s g S) R _
  refine u_getr rfl rfl rfl ?_
  refine u_st rfl (fun _ => rfl) ?_
  refine u_st rfl (fun _ => rfl) ?_
  show u_P L xs n d m_X3_learns 13 [(0, .ref 51), (1, .ref (s + 1)), (2, .int g), (3, .int a)] [.int a, .int (Int32.ofInt 8), .ref 52] (g_X3_lookAtGust s g S) R _
  refine u_iast rfl rfl (fun b11 b12 => ?_)
  refine u_st rfl (fun _ => rfl) ?_
  refine u_st rfl (fun _ => rfl) ?_
  show u_P L xs n d m_X3_learns 17 [(0, .ref 51), (1, .ref (s + 1)), (2, .int g), (3, .int a)] [.int (Int32.ofInt 101), .ref 51] (z_s (g_X3_lookAtGust s g S) 51 8 a) R _
  refine u_cv (rest := []) rfl (by decide) mt_X3_anyHolds rfl rfl rfl rfl (Nat.le_of_ble_eq_true rfl) (Nat.le_of_ble_eq_true rfl) (Nat.le_of_ble_eq_true rfl) (fun d' => c_X3_anyHolds L xs n d' hL hc (Int32.ofInt 101) (z_s (g_X3_lookAtGust s g S) 51 8 a)) ?_
  rintro _ _ _ ⟨_, rfl, rfl, rfl, rfl⟩
  show u_P L xs n d m_X3_learns 20 [(0, .ref 51), (1, .ref (s + 1)), (2, .int g), (3, .int a)] [.int (f_X3_anyHolds c (Int32.ofInt 101) (z_s (g_X3_lookAtGust s g S) 51 8 a))] (g_X3_anyHolds c (Int32.ofInt 101) (z_s (g_X3_lookAtGust s g S) 51 8 a)) R _
  exact u_retb rfl rfl ⟨_, rfl, rfl, rfl, rfl⟩
noncomputable abbrev m_X3_atOdds : g_M := (g_cn 3, yX3_atOdds, cX3_atOdds, 4, (some .boolean), g_look2 ttX3_atOdds)
set_option maxRecDepth 20000 in
theorem mt_X3_atOdds : g_mt 37 = some m_X3_atOdds := rfl
noncomputable def f_X3_atOdds (c : Nat) (s : Nat) (g : Int32) (j : Int32) (S : v_Sf) : Int32 := (if (f_X3_anyHolds c (Int32.ofInt 120) (g_X3_lookAtTwo s g j S)) = 0 then f_X3_anyHolds c (Int32.ofInt 120) (g_X3_lookAtTwo s j g (g_X3_anyHolds c (Int32.ofInt 120) (g_X3_lookAtTwo s g j S))) else Int32.ofInt 1)
noncomputable def g_X3_atOdds (c : Nat) (s : Nat) (g : Int32) (j : Int32) (S : v_Sf) : v_Sf := (if (f_X3_anyHolds c (Int32.ofInt 120) (g_X3_lookAtTwo s g j S)) = 0 then g_X3_anyHolds c (Int32.ofInt 120) (g_X3_lookAtTwo s j g (g_X3_anyHolds c (Int32.ofInt 120) (g_X3_lookAtTwo s g j S))) else g_X3_anyHolds c (Int32.ofInt 120) (g_X3_lookAtTwo s g j S))
set_option maxRecDepth 4000 in
theorem c_X3_atOdds (L : Nat) (xs : Nat → Int32) (n d : Nat) {R : v_Rf} (hW : z_W R) {c : Nat} (hL : R 50 2 = some (c + 1)) (hc : z_cd c) (s : Nat) (hs : z_st s) (g : Int32) (j : Int32) (S : v_Sf) : u_P L xs n d m_X3_atOdds 0 (lv_args 0 [.ref 51, .ref (s + 1), .int g, .int j]) [] S R (z_Q R (fun v S1 => f_X3_atOdds c s g j S = v ∧ g_X3_atOdds c s g j S = S1)) := by
  show u_P L xs n d m_X3_atOdds 0 [(0, .ref 51), (1, .ref (s + 1)), (2, .int g), (3, .int j)] [] S R _
  refine u_st rfl (fun _ => rfl) ?_
  refine u_st rfl (fun _ => rfl) ?_
  refine u_st rfl (fun _ => rfl) ?_
  refine u_st rfl (fun _ => rfl) ?_
  show u_P L xs n d m_X3_atOdds 4 [(0, .ref 51), (1, .ref (s + 1)), (2, .int g), (3, .int j)] [.int j, .int g, .ref (s + 1), .ref 51] S R _
  refine u_cv (rest := []) rfl (by decide) mt_X3_lookAtTwo rfl rfl rfl rfl (Nat.le_of_ble_eq_true rfl) (Nat.le_of_ble_eq_true rfl) (Nat.le_of_ble_eq_true rfl) (fun d' => c_X3_lookAtTwo L xs n d' hW s hs g j S) ?_
  rintro _ _ _ ⟨rfl, rfl, rfl⟩
  refine u_st rfl (fun _ => rfl) ?_
  refine u_st rfl (fun _ => rfl) ?_
  show u_P L xs n d m_X3_atOdds 10 [(0, .ref 51), (1, .ref (s + 1)), (2, .int g), (3, .int j)] [.int (Int32.ofInt 120), .ref 51] (g_X3_lookAtTwo s g j S) R _
  refine u_cv (rest := []) rfl (by decide) mt_X3_anyHolds rfl rfl rfl rfl (Nat.le_of_ble_eq_true rfl) (Nat.le_of_ble_eq_true rfl) (Nat.le_of_ble_eq_true rfl) (fun d' => c_X3_anyHolds L xs n d' hL hc (Int32.ofInt 120) (g_X3_lookAtTwo s g j S)) ?_
  rintro _ _ _ ⟨_, rfl, rfl, rfl, rfl⟩
  show u_P L xs n d m_X3_atOdds 13 [(0, .ref 51), (1, .ref (s + 1)), (2, .int g), (3, .int j)] [.int (f_X3_anyHolds c (Int32.ofInt 120) (g_X3_lookAtTwo s g j S))] (g_X3_anyHolds c (Int32.ofInt 120) (g_X3_lookAtTwo s g j S)) R _
  refine u_if_eq rfl (fun h1 => ?_) (fun h1 => ?_)
  · show u_P L xs n d m_X3_atOdds 18 [(0, .ref 51), (1, .ref (s + 1)), (2, .int g), (3, .int j)] [] (g_X3_anyHolds c (Int32.ofInt 120) (g_X3_lookAtTwo s g j S)) R _
    refine u_st rfl (fun _ => rfl) ?_
    refine u_st rfl (fun _ => rfl) ?_
    refine u_st rfl (fun _ => rfl) ?_
    refine u_st rfl (fun _ => rfl) ?_
    show u_P L xs n d m_X3_atOdds 22 [(0, .ref 51), (1, .ref (s + 1)), (2, .int g), (3, .int j)] [.int g, .int j, .ref (s + 1), .ref 51] (g_X3_anyHolds c (Int32.ofInt 120) (g_X3_lookAtTwo s g j S)) R _
    refine u_cv (rest := []) rfl (by decide) mt_X3_lookAtTwo rfl rfl rfl rfl (Nat.le_of_ble_eq_true rfl) (Nat.le_of_ble_eq_true rfl) (Nat.le_of_ble_eq_true rfl) (fun d' => c_X3_lookAtTwo L xs n d' hW s hs j g (g_X3_anyHolds c (Int32.ofInt 120) (g_X3_lookAtTwo s g j S))) ?_
    rintro _ _ _ ⟨rfl, rfl, rfl⟩
    refine u_st rfl (fun _ => rfl) ?_
    refine u_st rfl (fun _ => rfl) ?_
    show u_P L xs n d m_X3_atOdds 28 [(0, .ref 51), (1, .ref (s + 1)), (2, .int g), (3, .int j)] [.int (Int32.ofInt 120), .ref 51] (g_X3_lookAtTwo s j g (g_X3_anyHolds c (Int32.ofInt 120) (g_X3_lookAtTwo s g j S))) R _
    refine u_cv (rest := []) rfl (by decide) mt_X3_anyHolds rfl rfl rfl rfl (Nat.le_of_ble_eq_true rfl) (Nat.le_of_ble_eq_true rfl) (Nat.le_of_ble_eq_true rfl) (fun d' => c_X3_anyHolds L xs n d' hL hc (Int32.ofInt 120) (g_X3_lookAtTwo s j g (g_X3_anyHolds c (Int32.ofInt 120) (g_X3_lookAtTwo s g j S)))) ?_
    rintro _ _ _ ⟨_, rfl, rfl, rfl, rfl⟩
    show u_P L xs n d m_X3_atOdds 31 [(0, .ref 51), (1, .ref (s + 1)), (2, .int g), (3, .int j)] [.int (f_X3_anyHolds c (Int32.ofInt 120) (g_X3_lookAtTwo s j g (g_X3_anyHolds c (Int32.ofInt 120) (g_X3_lookAtTwo s g j S))))] (g_X3_anyHolds c (Int32.ofInt 120) (g_X3_lookAtTwo s j g (g_X3_anyHolds c (Int32.ofInt 120) (g_X3_lookAtTwo s g j S)))) R _
    exact u_retb rfl rfl ⟨_, rfl, rfl, by rw [f_X3_atOdds, if_pos h1], by rw [g_X3_atOdds, if_pos h1]⟩
  · show u_P L xs n d m_X3_atOdds 16 [(0, .ref 51), (1, .ref (s + 1)), (2, .int g), (3, .int j)] [] (g_X3_anyHolds c (Int32.ofInt 120) (g_X3_lookAtTwo s g j S)) R _
    refine u_st rfl (fun _ => rfl) ?_
    show u_P L xs n d m_X3_atOdds 17 [(0, .ref 51), (1, .ref (s + 1)), (2, .int g), (3, .int j)] [.int (Int32.ofInt 1)] (g_X3_anyHolds c (Int32.ofInt 120) (g_X3_lookAtTwo s g j S)) R _
    exact u_retb rfl rfl ⟨_, rfl, rfl, by rw [f_X3_atOdds, if_neg h1], by rw [g_X3_atOdds, if_neg h1]⟩
noncomputable abbrev m_X3_illness : g_M := (g_cn 3, yX3_illness, cX3_illness, 4, (some .int), g_look2 ttX3_illness)
set_option maxRecDepth 20000 in
theorem mt_X3_illness : g_mt 38 = some m_X3_illness := rfl
noncomputable def f_X3_illness (c : Nat) (s : Nat) (w : Int32) (k : Int32) (S : v_Sf) : Int32 := (if (f_X7_hasNurse s k (z_s (z_s (z_s (g_X3_lookAtWard s w S) 51 11 (Int32.ofInt 0)) 51 12 (Int32.ofInt 0)) 51 13 (Int32.ofInt 0))) = 0 then f_X3_firstAmount c (Int32.ofInt 105) (Int32.ofInt 10) (z_s (z_s (z_s (z_s (g_X3_lookAtWard s w S) 51 11 (Int32.ofInt 0)) 51 12 (Int32.ofInt 0)) 51 13 (Int32.ofInt 0)) 51 9 (Int32.ofInt 0)) else f_X3_firstAmount c (Int32.ofInt 105) (Int32.ofInt 10) (z_s (z_s (z_s (z_s (g_X3_lookAtWard s w S) 51 11 (Int32.ofInt 0)) 51 12 (Int32.ofInt 0)) 51 13 (Int32.ofInt 0)) 51 9 ((g_X3_lookAtWard s w S) (s + 7) k.toInt.toNat)))
noncomputable def g_X3_illness (c : Nat) (s : Nat) (w : Int32) (k : Int32) (S : v_Sf) : v_Sf := (if (f_X7_hasNurse s k (z_s (z_s (z_s (g_X3_lookAtWard s w S) 51 11 (Int32.ofInt 0)) 51 12 (Int32.ofInt 0)) 51 13 (Int32.ofInt 0))) = 0 then g_X3_firstAmount c (Int32.ofInt 105) (Int32.ofInt 10) (z_s (z_s (z_s (z_s (g_X3_lookAtWard s w S) 51 11 (Int32.ofInt 0)) 51 12 (Int32.ofInt 0)) 51 13 (Int32.ofInt 0)) 51 9 (Int32.ofInt 0)) else g_X3_firstAmount c (Int32.ofInt 105) (Int32.ofInt 10) (z_s (z_s (z_s (z_s (g_X3_lookAtWard s w S) 51 11 (Int32.ofInt 0)) 51 12 (Int32.ofInt 0)) 51 13 (Int32.ofInt 0)) 51 9 ((g_X3_lookAtWard s w S) (s + 7) k.toInt.toNat)))
set_option maxRecDepth 4000 in
theorem c_X3_illness (L : Nat) (xs : Nat → Int32) (n d : Nat) {R : v_Rf} (hW : z_W R) {c : Nat} (hL : R 50 2 = some (c + 1)) (hc : z_cd c) (s : Nat) (hs : z_st s) (w : Int32) (k : Int32) (S : v_Sf) : u_P L xs n d m_X3_illness 0 (lv_args 0 [.ref 51, .ref (s + 1), .int w, .int k]) [] S R (z_Q R (fun v S1 => f_X3_illness c s w k S = v ∧ g_X3_illness c s w k S = S1)) := by
  show u_P L xs n d m_X3_illness 0 [(0, .ref 51), (1, .ref (s + 1)), (2, .int w), (3, .int k)] [] S R _
  refine u_st rfl (fun _ => rfl) ?_
  refine u_st rfl (fun _ => rfl) ?_
  refine u_st rfl (fun _ => rfl) ?_
  show u_P L xs n d m_X3_illness 3 [(0, .ref 51), (1, .ref (s + 1)), (2, .int w), (3, .int k)] [.int w, .ref (s + 1), .ref 51] S R _
  refine u_cv (rest := []) rfl (by decide) mt_X3_lookAtWard rfl rfl rfl rfl (Nat.le_of_ble_eq_true rfl) (Nat.le_of_ble_eq_true rfl) (Nat.le_of_ble_eq_true rfl) (fun d' => c_X3_lookAtWard L xs n d' hW s hs w S) ?_
  rintro _ _ _ ⟨rfl, rfl, rfl⟩
  refine u_st rfl (fun _ => rfl) ?_
  show u_P L xs n d m_X3_illness 7 [(0, .ref 51), (1, .ref (s + 1)), (2, .int w), (3, .int k)] [.ref 51] (g_X3_lookAtWard s w S) R _
  refine u_getr rfl rfl rfl ?_
  refine u_st rfl (fun _ => rfl) ?_
  refine u_st rfl (fun _ => rfl) ?_
  show u_P L xs n d m_X3_illness 13 [(0, .ref 51), (1, .ref (s + 1)), (2, .int w), (3, .int k)] [.int (Int32.ofInt 0), .int (Int32.ofInt 11), .ref 52] (g_X3_lookAtWard s w S) R _
  refine u_iast rfl rfl (fun b11 b12 => ?_)
  refine u_st rfl (fun _ => rfl) ?_
  show u_P L xs n d m_X3_illness 15 [(0, .ref 51), (1, .ref (s + 1)), (2, .int w), (3, .int k)] [.ref 51] (z_s (g_X3_lookAtWard s w S) 51 11 (Int32.ofInt 0)) R _
  refine u_getr rfl rfl rfl ?_
  refine u_st rfl (fun _ => rfl) ?_
  refine u_st rfl (fun _ => rfl) ?_
  show u_P L xs n d m_X3_illness 21 [(0, .ref 51), (1, .ref (s + 1)), (2, .int w), (3, .int k)] [.int (Int32.ofInt 0), .int (Int32.ofInt 12), .ref 52] (z_s (g_X3_lookAtWard s w S) 51 11 (Int32.ofInt 0)) R _
  refine u_iast rfl rfl (fun b21 b22 => ?_)
  refine u_st rfl (fun _ => rfl) ?_
  show u_P L xs n d m_X3_illness 23 [(0, .ref 51), (1, .ref (s + 1)), (2, .int w), (3, .int k)] [.ref 51] (z_s (z_s (g_X3_lookAtWard s w S) 51 11 (Int32.ofInt 0)) 51 12 (Int32.ofInt 0)) R _
  refine u_getr rfl rfl rfl ?_
  refine u_st rfl (fun _ => rfl) ?_
  refine u_st rfl (fun _ => rfl) ?_
  show u_P L xs n d m_X3_illness 29 [(0, .ref 51), (1, .ref (s + 1)), (2, .int w), (3, .int k)] [.int (Int32.ofInt 0), .int (Int32.ofInt 13), .ref 52] (z_s (z_s (g_X3_lookAtWard s w S) 51 11 (Int32.ofInt 0)) 51 12 (Int32.ofInt 0)) R _
  refine u_iast rfl rfl (fun b31 b32 => ?_)
  refine u_st rfl (fun _ => rfl) ?_
  show u_P L xs n d m_X3_illness 31 [(0, .ref 51), (1, .ref (s + 1)), (2, .int w), (3, .int k)] [.ref 51] (z_s (z_s (z_s (g_X3_lookAtWard s w S) 51 11 (Int32.ofInt 0)) 51 12 (Int32.ofInt 0)) 51 13 (Int32.ofInt 0)) R _
  refine u_getr rfl rfl rfl ?_
  refine u_st rfl (fun _ => rfl) ?_
  refine u_st rfl (fun _ => rfl) ?_
  refine u_st rfl (fun _ => rfl) ?_
  show u_P L xs n d m_X3_illness 38 [(0, .ref 51), (1, .ref (s + 1)), (2, .int w), (3, .int k)] [.int k, .ref (s + 1), .int (Int32.ofInt 9), .ref 52] (z_s (z_s (z_s (g_X3_lookAtWard s w S) 51 11 (Int32.ofInt 0)) 51 12 (Int32.ofInt 0)) 51 13 (Int32.ofInt 0)) R _
  refine u_cv (rest := [.int (Int32.ofInt 9), .ref 52]) rfl (by decide) mt_X7_hasNurse (z_st0 hs) rfl rfl rfl (Nat.le_of_ble_eq_true rfl) (Nat.le_of_ble_eq_true rfl) (Nat.le_of_ble_eq_true rfl) (fun d' => c_X7_hasNurse L xs n d' s hs k (z_s (z_s (z_s (g_X3_lookAtWard s w S) 51 11 (Int32.ofInt 0)) 51 12 (Int32.ofInt 0)) 51 13 (Int32.ofInt 0)) R) ?_
  rintro _ _ _ ⟨_, rfl, rfl, rfl, rfl⟩
  show u_P L xs n d m_X3_illness 41 [(0, .ref 51), (1, .ref (s + 1)), (2, .int w), (3, .int k)] [.int (f_X7_hasNurse s k (z_s (z_s (z_s (g_X3_lookAtWard s w S) 51 11 (Int32.ofInt 0)) 51 12 (Int32.ofInt 0)) 51 13 (Int32.ofInt 0))), .int (Int32.ofInt 9), .ref 52] (z_s (z_s (z_s (g_X3_lookAtWard s w S) 51 11 (Int32.ofInt 0)) 51 12 (Int32.ofInt 0)) 51 13 (Int32.ofInt 0)) R _
  refine u_if_eq rfl (fun h4 => ?_) (fun h4 => ?_)
  · show u_P L xs n d m_X3_illness 53 [(0, .ref 51), (1, .ref (s + 1)), (2, .int w), (3, .int k)] [.int (Int32.ofInt 9), .ref 52] (z_s (z_s (z_s (g_X3_lookAtWard s w S) 51 11 (Int32.ofInt 0)) 51 12 (Int32.ofInt 0)) 51 13 (Int32.ofInt 0)) R _
    refine u_st rfl (fun _ => rfl) ?_
    show u_P L xs n d m_X3_illness 54 [(0, .ref 51), (1, .ref (s + 1)), (2, .int w), (3, .int k)] [.int (Int32.ofInt 0), .int (Int32.ofInt 9), .ref 52] (z_s (z_s (z_s (g_X3_lookAtWard s w S) 51 11 (Int32.ofInt 0)) 51 12 (Int32.ofInt 0)) 51 13 (Int32.ofInt 0)) R _
    refine u_iast rfl rfl (fun b51 b52 => ?_)
    refine u_st rfl (fun _ => rfl) ?_
    refine u_st rfl (fun _ => rfl) ?_
    refine u_st rfl (fun _ => rfl) ?_
    show u_P L xs n d m_X3_illness 60 [(0, .ref 51), (1, .ref (s + 1)), (2, .int w), (3, .int k)] [.int (Int32.ofInt 10), .int (Int32.ofInt 105), .ref 51] (z_s (z_s (z_s (z_s (g_X3_lookAtWard s w S) 51 11 (Int32.ofInt 0)) 51 12 (Int32.ofInt 0)) 51 13 (Int32.ofInt 0)) 51 9 (Int32.ofInt 0)) R _
    refine u_cv (rest := []) rfl (by decide) mt_X3_firstAmount rfl rfl rfl rfl (Nat.le_of_ble_eq_true rfl) (Nat.le_of_ble_eq_true rfl) (Nat.le_of_ble_eq_true rfl) (fun d' => c_X3_firstAmount L xs n d' hL hc (Int32.ofInt 105) (Int32.ofInt 10) (z_s (z_s (z_s (z_s (g_X3_lookAtWard s w S) 51 11 (Int32.ofInt 0)) 51 12 (Int32.ofInt 0)) 51 13 (Int32.ofInt 0)) 51 9 (Int32.ofInt 0))) ?_
    rintro _ _ _ ⟨_, rfl, rfl, rfl, rfl⟩
    show u_P L xs n d m_X3_illness 63 [(0, .ref 51), (1, .ref (s + 1)), (2, .int w), (3, .int k)] [.int (f_X3_firstAmount c (Int32.ofInt 105) (Int32.ofInt 10) (z_s (z_s (z_s (z_s (g_X3_lookAtWard s w S) 51 11 (Int32.ofInt 0)) 51 12 (Int32.ofInt 0)) 51 13 (Int32.ofInt 0)) 51 9 (Int32.ofInt 0)))] (g_X3_firstAmount c (Int32.ofInt 105) (Int32.ofInt 10) (z_s (z_s (z_s (z_s (g_X3_lookAtWard s w S) 51 11 (Int32.ofInt 0)) 51 12 (Int32.ofInt 0)) 51 13 (Int32.ofInt 0)) 51 9 (Int32.ofInt 0))) R _
    exact u_ret rfl rfl ⟨_, rfl, rfl, by rw [f_X3_illness, if_pos h4], by rw [g_X3_illness, if_pos h4]⟩
  · show u_P L xs n d m_X3_illness 44 [(0, .ref 51), (1, .ref (s + 1)), (2, .int w), (3, .int k)] [.int (Int32.ofInt 9), .ref 52] (z_s (z_s (z_s (g_X3_lookAtWard s w S) 51 11 (Int32.ofInt 0)) 51 12 (Int32.ofInt 0)) 51 13 (Int32.ofInt 0)) R _
    refine u_st rfl (fun _ => rfl) ?_
    show u_P L xs n d m_X3_illness 45 [(0, .ref 51), (1, .ref (s + 1)), (2, .int w), (3, .int k)] [.ref (s + 1), .int (Int32.ofInt 9), .ref 52] (z_s (z_s (z_s (g_X3_lookAtWard s w S) 51 11 (Int32.ofInt 0)) 51 12 (Int32.ofInt 0)) 51 13 (Int32.ofInt 0)) R _
    refine u_getr rfl (z_st0 hs) rfl ?_
    refine u_st rfl (fun _ => rfl) ?_
    show u_P L xs n d m_X3_illness 49 [(0, .ref 51), (1, .ref (s + 1)), (2, .int w), (3, .int k)] [.int k, .ref (s + 8), .int (Int32.ofInt 9), .ref 52] (z_s (z_s (z_s (g_X3_lookAtWard s w S) 51 11 (Int32.ofInt 0)) 51 12 (Int32.ofInt 0)) 51 13 (Int32.ofInt 0)) R _
    refine u_ialdE (v := (g_X3_lookAtWard s w S) (s + 7) k.toInt.toNat) rfl (z_st7 hs) ((z_sn (fun h => absurd h.1 (by have := z_stl hs; omega))).trans ((z_sn (fun h => absurd h.1 (by have := z_stl hs; omega))).trans (z_sn (fun h => absurd h.1 (by have := z_stl hs; omega))))) (fun b61 b62 => ?_)
    refine u_st rfl (fun _ => rfl) ?_
    show u_P L xs n d m_X3_illness 54 [(0, .ref 51), (1, .ref (s + 1)), (2, .int w), (3, .int k)] [.int ((g_X3_lookAtWard s w S) (s + 7) k.toInt.toNat), .int (Int32.ofInt 9), .ref 52] (z_s (z_s (z_s (g_X3_lookAtWard s w S) 51 11 (Int32.ofInt 0)) 51 12 (Int32.ofInt 0)) 51 13 (Int32.ofInt 0)) R _
    refine u_iast rfl rfl (fun b71 b72 => ?_)
    refine u_st rfl (fun _ => rfl) ?_
    refine u_st rfl (fun _ => rfl) ?_
    refine u_st rfl (fun _ => rfl) ?_
    show u_P L xs n d m_X3_illness 60 [(0, .ref 51), (1, .ref (s + 1)), (2, .int w), (3, .int k)] [.int (Int32.ofInt 10), .int (Int32.ofInt 105), .ref 51] (z_s (z_s (z_s (z_s (g_X3_lookAtWard s w S) 51 11 (Int32.ofInt 0)) 51 12 (Int32.ofInt 0)) 51 13 (Int32.ofInt 0)) 51 9 ((g_X3_lookAtWard s w S) (s + 7) k.toInt.toNat)) R _
    refine u_cv (rest := []) rfl (by decide) mt_X3_firstAmount rfl rfl rfl rfl (Nat.le_of_ble_eq_true rfl) (Nat.le_of_ble_eq_true rfl) (Nat.le_of_ble_eq_true rfl) (fun d' => c_X3_firstAmount L xs n d' hL hc (Int32.ofInt 105) (Int32.ofInt 10) (z_s (z_s (z_s (z_s (g_X3_lookAtWard s w S) 51 11 (Int32.ofInt 0)) 51 12 (Int32.ofInt 0)) 51 13 (Int32.ofInt 0)) 51 9 ((g_X3_lookAtWard s w S) (s + 7) k.toInt.toNat))) ?_
    rintro _ _ _ ⟨_, rfl, rfl, rfl, rfl⟩
    show u_P L xs n d m_X3_illness 63 [(0, .ref 51), (1, .ref (s + 1)), (2, .int w), (3, .int k)] [.int (f_X3_firstAmount c (Int32.ofInt 105) (Int32.ofInt 10) (z_s (z_s (z_s (z_s (g_X3_lookAtWard s w S) 51 11 (Int32.ofInt 0)) 51 12 (Int32.ofInt 0)) 51 13 (Int32.ofInt 0)) 51 9 ((g_X3_lookAtWard s w S) (s + 7) k.toInt.toNat)))] (g_X3_firstAmount c (Int32.ofInt 105) (Int32.ofInt 10) (z_s (z_s (z_s (z_s (g_X3_lookAtWard s w S) 51 11 (Int32.ofInt 0)) 51 12 (Int32.ofInt 0)) 51 13 (Int32.ofInt 0)) 51 9 ((g_X3_lookAtWard s w S) (s + 7) k.toInt.toNat))) R _
    exact u_ret rfl rfl ⟨_, rfl, rfl, by rw [f_X3_illness, if_neg h4], by rw [g_X3_illness, if_neg h4]⟩
noncomputable abbrev m_X3_firstBroken : g_M := (g_cn 3, yX3_firstBroken, cX3_firstBroken, 4, (some .int), g_look2 ttX3_firstBroken)
set_option maxRecDepth 20000 in
theorem mt_X3_firstBroken : g_mt 39 = some m_X3_firstBroken := rfl
noncomputable def D_X3_firstBroken_8 (b : Nat) (s : Nat) (H8 : Int32 → v_Sf → Prop) (K : Int32 → v_Sf → Prop) (x3 : Int32) (S : v_Sf) : Prop := (((S b 7) ≤ x3 → K (Int32.ofInt (-2)) S) ∧ (¬ ((S b 7) ≤ x3) → (((Int32.ofInt 16) ≤ x3 → K (Int32.ofInt (-2)) S) ∧ (¬ ((Int32.ofInt 16) ≤ x3) → (0 ≤ x3.toInt → x3.toInt < 16 → (((¬ (f_X1_run b (S (b + 6) x3.toInt.toNat) S) = 0) → H8 (x3 + (Int32.ofInt 1)) (g_X1_run b (S (b + 6) x3.toInt.toNat) S)) ∧ (¬ (¬ (f_X1_run b (S (b + 6) x3.toInt.toNat) S) = 0) → K x3 (g_X1_run b (S (b + 6) x3.toInt.toNat) S))))))))
noncomputable def D_X3_firstBroken (b : Nat) (s : Nat) (w : Int32) (H8 : Int32 → v_Sf → Prop) (K : Int32 → v_Sf → Prop) (S : v_Sf) : Prop := H8 (Int32.ofInt 0) (g_X3_lookAtWard s w S)
set_option maxRecDepth 4000 in
theorem hd_X3_firstBroken (L : Nat) (xs : Nat → Int32) {R : v_Rf} (hW : z_W R) {b : Nat} (hB : R 50 3 = some (b + 1)) (hb : z_cd b) (s : Nat) (hs : z_st s) (w : Int32) (H8 : Int32 → v_Sf → Prop) (K : Int32 → v_Sf → Prop) (k8 : ∀ (x3 : Int32) (S : v_Sf), H8 x3 S → D_X3_firstBroken_8 b s H8 K x3 S) : ∀ n, (∀ (d : Nat) (j1 : Nat) (j2 : Int32) (x3 : Int32) (S : v_Sf), H8 x3 S → u_P L xs n d m_X3_firstBroken 8 [(0, .ref 51), (1, .ref j1), (2, .int j2), (3, .int x3)] [] S R (z_Q R K)) := by
  intro n
  induction n using Nat.strongRecOn with
  | ind n ih =>
    intro d j1 j2 x3 S hD
    have hD := k8 x3 S hD
    unfold D_X3_firstBroken_8 at hD
    show u_P L xs n d m_X3_firstBroken 8 [(0, .ref 51), (1, .ref j1), (2, .int j2), (3, .int x3)] [] S R _
    refine u_st1 rfl (fun _ => rfl) (fun m hm => ?_)
    refine u_st rfl (fun _ => rfl) ?_
    show u_P L xs m d m_X3_firstBroken 10 [(0, .ref 51), (1, .ref j1), (2, .int j2), (3, .int x3)] [.ref 51, .int x3] S R _
    refine u_getv rfl rfl rfl hB ?_
    show u_P L xs m d m_X3_firstBroken 13 [(0, .ref 51), (1, .ref j1), (2, .int j2), (3, .int x3)] [.ref (b + 1), .int x3] S R _
    refine u_getE (v := S b 7) rfl (z_cd0 hb) rfl rfl ?_
    show u_P L xs m d m_X3_firstBroken 16 [(0, .ref 51), (1, .ref j1), (2, .int j2), (3, .int x3)] [.int (S b 7), .int x3] S R _
    refine u_ic_ge rfl (fun h1 => ?_) (fun h1 => ?_)
    · have hD := hD.1 h1
      show u_P L xs m d m_X3_firstBroken 56 [(0, .ref 51), (1, .ref j1), (2, .int j2), (3, .int x3)] [] S R _
      refine u_st rfl (fun _ => rfl) ?_
      show u_P L xs m d m_X3_firstBroken 58 [(0, .ref 51), (1, .ref j1), (2, .int j2), (3, .int x3)] [.int (Int32.ofInt (-2))] S R _
      exact u_ret rfl rfl ⟨_, rfl, rfl, hD⟩
    · have hD := hD.2 h1
      show u_P L xs m d m_X3_firstBroken 19 [(0, .ref 51), (1, .ref j1), (2, .int j2), (3, .int x3)] [] S R _
      refine u_st rfl (fun _ => rfl) ?_
      refine u_st rfl (fun _ => rfl) ?_
      show u_P L xs m d m_X3_firstBroken 22 [(0, .ref 51), (1, .ref j1), (2, .int j2), (3, .int x3)] [.int (Int32.ofInt 16), .int x3] S R _
      refine u_ic_ge rfl (fun h2 => ?_) (fun h2 => ?_)
      · have hD := hD.1 h2
        show u_P L xs m d m_X3_firstBroken 56 [(0, .ref 51), (1, .ref j1), (2, .int j2), (3, .int x3)] [] S R _
        refine u_st rfl (fun _ => rfl) ?_
        show u_P L xs m d m_X3_firstBroken 58 [(0, .ref 51), (1, .ref j1), (2, .int j2), (3, .int x3)] [.int (Int32.ofInt (-2))] S R _
        exact u_ret rfl rfl ⟨_, rfl, rfl, hD⟩
      · have hD := hD.2 h2
        show u_P L xs m d m_X3_firstBroken 25 [(0, .ref 51), (1, .ref j1), (2, .int j2), (3, .int x3)] [] S R _
        refine u_st rfl (fun _ => rfl) ?_
        show u_P L xs m d m_X3_firstBroken 26 [(0, .ref 51), (1, .ref j1), (2, .int j2), (3, .int x3)] [.ref 51] S R _
        refine u_getv rfl rfl rfl hB ?_
        refine u_st rfl (fun _ => rfl) ?_
        show u_P L xs m d m_X3_firstBroken 30 [(0, .ref 51), (1, .ref j1), (2, .int j2), (3, .int x3)] [.ref 51, .ref (b + 1)] S R _
        refine u_getv rfl rfl rfl hB ?_
        show u_P L xs m d m_X3_firstBroken 33 [(0, .ref 51), (1, .ref j1), (2, .int j2), (3, .int x3)] [.ref (b + 1), .ref (b + 1)] S R _
        refine u_getr rfl (z_cd0 hb) rfl ?_
        refine u_st rfl (fun _ => rfl) ?_
        show u_P L xs m d m_X3_firstBroken 37 [(0, .ref 51), (1, .ref j1), (2, .int j2), (3, .int x3)] [.int x3, .ref (b + 7), .ref (b + 1)] S R _
        refine u_ialdE (v := S (b + 6) x3.toInt.toNat) rfl (z_cd6 hb) rfl (fun b31 b32 => ?_)
        have hD := hD b31 b32
        show u_P L xs m d m_X3_firstBroken 38 [(0, .ref 51), (1, .ref j1), (2, .int j2), (3, .int x3)] [.int (S (b + 6) x3.toInt.toNat), .ref (b + 1)] S R _
        refine u_st rfl (fun _ => rfl) ?_
        show u_P L xs m d m_X3_firstBroken 39 [(0, .ref 51), (1, .ref j1), (2, .int j2), (3, .int x3)] [.ref 51, .int (S (b + 6) x3.toInt.toNat), .ref (b + 1)] S R _
        refine u_getr rfl rfl rfl ?_
        show u_P L xs m d m_X3_firstBroken 42 [(0, .ref 51), (1, .ref j1), (2, .int j2), (3, .int x3)] [.ref 52, .int (S (b + 6) x3.toInt.toNat), .ref (b + 1)] S R _
        refine u_cv (rest := []) rfl (by decide) mt_X1_run (z_cd0 hb) rfl rfl rfl (Nat.le_of_ble_eq_true rfl) (Nat.le_of_ble_eq_true rfl) (Nat.le_of_ble_eq_true rfl) (fun d' => c_X1_run L xs m d' b hb (S (b + 6) x3.toInt.toNat) S R) ?_
        rintro _ _ _ ⟨_, rfl, rfl, rfl, rfl⟩
        show u_P L xs m d m_X3_firstBroken 45 [(0, .ref 51), (1, .ref j1), (2, .int j2), (3, .int x3)] [.int (f_X1_run b (S (b + 6) x3.toInt.toNat) S)] (g_X1_run b (S (b + 6) x3.toInt.toNat) S) R _
        refine u_if_ne rfl (fun h4 => ?_) (fun h4 => ?_)
        · have hD := hD.1 h4
          show u_P L xs m d m_X3_firstBroken 50 [(0, .ref 51), (1, .ref j1), (2, .int j2), (3, .int x3)] [] (g_X1_run b (S (b + 6) x3.toInt.toNat) S) R _
          refine u_st rfl (fun _ => rfl) ?_
          refine u_st rfl (fun _ => rfl) ?_
          refine u_lc (b := [(0, .ref 51), (1, .ref j1), (2, .int j2), (3, .int (x3 + (Int32.ofInt 1)))]) (show ([3, 0, 1, 2] : List Nat).Nodup by decide) (show ([0, 1, 2, 3] : List Nat).Nodup by decide) (fun i => match i with | 0 => rfl | 1 => rfl | 2 => rfl | 3 => rfl | _ + 4 => rfl) ?_
          exact (ih m hm) d j1 j2 (x3 + (Int32.ofInt 1)) (g_X1_run b (S (b + 6) x3.toInt.toNat) S) hD
        · have hD := hD.2 h4
          show u_P L xs m d m_X3_firstBroken 48 [(0, .ref 51), (1, .ref j1), (2, .int j2), (3, .int x3)] [] (g_X1_run b (S (b + 6) x3.toInt.toNat) S) R _
          refine u_st rfl (fun _ => rfl) ?_
          show u_P L xs m d m_X3_firstBroken 49 [(0, .ref 51), (1, .ref j1), (2, .int j2), (3, .int x3)] [.int x3] (g_X1_run b (S (b + 6) x3.toInt.toNat) S) R _
          exact u_ret rfl rfl ⟨_, rfl, rfl, hD⟩
set_option maxRecDepth 4000 in
theorem w_X3_firstBroken (L : Nat) (xs : Nat → Int32) {R : v_Rf} (hW : z_W R) {b : Nat} (hB : R 50 3 = some (b + 1)) (hb : z_cd b) (s : Nat) (hs : z_st s) (w : Int32) (H8 : Int32 → v_Sf → Prop) (K : Int32 → v_Sf → Prop) (k8 : ∀ (x3 : Int32) (S : v_Sf), H8 x3 S → D_X3_firstBroken_8 b s H8 K x3 S) (n d : Nat) (S : v_Sf) (hD : D_X3_firstBroken b s w H8 K S) : u_P L xs n d m_X3_firstBroken 0 (lv_args 0 [.ref 51, .ref (s + 1), .int w]) [] S R (z_Q R K) := by
  unfold D_X3_firstBroken at hD
  show u_P L xs n d m_X3_firstBroken 0 [(0, .ref 51), (1, .ref (s + 1)), (2, .int w)] [] S R _
  refine u_st rfl (fun _ => rfl) ?_
  refine u_st rfl (fun _ => rfl) ?_
  refine u_st rfl (fun _ => rfl) ?_
  show u_P L xs n d m_X3_firstBroken 3 [(0, .ref 51), (1, .ref (s + 1)), (2, .int w)] [.int w, .ref (s + 1), .ref 51] S R _
  refine u_cv (rest := []) rfl (by decide) mt_X3_lookAtWard rfl rfl rfl rfl (Nat.le_of_ble_eq_true rfl) (Nat.le_of_ble_eq_true rfl) (Nat.le_of_ble_eq_true rfl) (fun d' => c_X3_lookAtWard L xs n d' hW s hs w S) ?_
  rintro _ _ _ ⟨rfl, rfl, rfl⟩
  refine u_st rfl (fun _ => rfl) ?_
  refine u_st rfl (fun _ => rfl) ?_
  refine u_lc (b := [(0, .ref 51), (1, .ref (s + 1)), (2, .int w), (3, .int (Int32.ofInt 0))]) (show ([3, 0, 1, 2] : List Nat).Nodup by decide) (show ([0, 1, 2, 3] : List Nat).Nodup by decide) (fun i => match i with | 0 => rfl | 1 => rfl | 2 => rfl | 3 => rfl | _ + 4 => rfl) ?_
  exact (hd_X3_firstBroken L xs hW hB hb s hs w H8 K k8 n) d ((s + 1)) w (Int32.ofInt 0) (g_X3_lookAtWard s w S) hD
noncomputable def r_X3_firstBroken_8 (b : Nat) (s : Nat) : Nat → Nat → v_Sf → Int32 × v_Sf
  | 0, k8, S => (Int32.ofInt (-2), S)
  | r + 1, k8, S => (if (S b 7) ≤ (z_i k8) then (Int32.ofInt (-2), S) else (if ¬ (f_X1_run b (S (b + 6) (z_i k8).toInt.toNat) S) = 0 then r_X3_firstBroken_8 b s r (k8 + 1) (g_X1_run b (S (b + 6) (z_i k8).toInt.toNat) S) else ((z_i k8), g_X1_run b (S (b + 6) (z_i k8).toInt.toNat) S)))
noncomputable def F_X3_firstBroken (b : Nat) (s : Nat) (w : Int32) (S : v_Sf) : Int32 × v_Sf := r_X3_firstBroken_8 b s (16 - 0) 0 (g_X3_lookAtWard s w S)
noncomputable def f_X3_firstBroken (b : Nat) (s : Nat) (w : Int32) (S : v_Sf) : Int32 := (F_X3_firstBroken b s w S).1
noncomputable def g_X3_firstBroken (b : Nat) (s : Nat) (w : Int32) (S : v_Sf) : v_Sf := (F_X3_firstBroken b s w S).2
theorem c_X3_firstBroken (L : Nat) (xs : Nat → Int32) (n d : Nat) {R : v_Rf} (hW : z_W R) {b : Nat} (hB : R 50 3 = some (b + 1)) (hb : z_cd b) (s : Nat) (hs : z_st s) (w : Int32) (S : v_Sf) : u_P L xs n d m_X3_firstBroken 0 (lv_args 0 [.ref 51, .ref (s + 1), .int w]) [] S R (z_Q R (fun v S1 => f_X3_firstBroken b s w S = v ∧ g_X3_firstBroken b s w S = S1)) := by
  refine w_X3_firstBroken L xs hW hB hb s hs w (fun y3 T => ∃ (k8 : Nat), k8 ≤ 16 ∧ z_i k8 = y3 ∧ r_X3_firstBroken_8 b s (16 - k8) k8 T = F_X3_firstBroken b s w S) (fun v S1 => f_X3_firstBroken b s w S = v ∧ g_X3_firstBroken b s w S = S1) ?_ n d S ?_
  · rintro _ S1 ⟨k8, hkk, rfl, e⟩
    unfold D_X3_firstBroken_8
    rcases Nat.lt_or_ge k8 (16) with hk | hk
    · rw [show 16 - k8 = (16 - (k8 + 1)) + 1 by omega, r_X3_firstBroken_8] at e
      refine ⟨fun q1 => ?_, fun q1 => ?_⟩
      · rw [if_pos q1] at e
        have e1 := congrArg Prod.fst e.symm
        have e2 := congrArg Prod.snd e.symm
        exact ⟨e1, e2⟩
      · refine ⟨fun q2 => ?_, fun q2 => ?_⟩
        · exact absurd hk (Nat.not_lt.mpr (z_leB2 (B := 16) q2 (by decide) (by omega)))
        · intro _ _
          refine ⟨fun q3 => ?_, fun q3 => ?_⟩
          · rw [if_neg q1, if_pos q3] at e
            exact ⟨(k8 + 1), by omega, (z_i1 k8).symm, e⟩
          · rw [if_neg q1, if_neg q3] at e
            have e1 := congrArg Prod.fst e.symm
            have e2 := congrArg Prod.snd e.symm
            exact ⟨e1, e2⟩
    · rw [show 16 - k8 = 0 by omega, r_X3_firstBroken_8] at e
      refine ⟨fun q4 => ?_, fun q4 => ?_⟩
      · have e1 := congrArg Prod.fst e.symm
        have e2 := congrArg Prod.snd e.symm
        exact ⟨e1, e2⟩
      · refine ⟨fun q5 => ?_, fun q5 => ?_⟩
        · have e1 := congrArg Prod.fst e.symm
          have e2 := congrArg Prod.snd e.symm
          exact ⟨e1, e2⟩
        · exact absurd hk (Nat.not_le.mpr (z_ltB2 (B := 16) q5 (by decide) (by omega)))
  · unfold D_X3_firstBroken
    have e : r_X3_firstBroken_8 b s (16 - 0) 0 (g_X3_lookAtWard s w S) = F_X3_firstBroken b s w S := by rw [F_X3_firstBroken]
    exact ⟨0, by omega, rfl, e⟩
end PrtS42h
