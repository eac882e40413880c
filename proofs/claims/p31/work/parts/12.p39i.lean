section Prt39i
/-! the reader: the whole text; law and rules -/
theorem w_addn (a b : Nat) : Int32.ofInt (a : Int) + Int32.ofInt (b : Int) = Int32.ofInt ((a + b : Nat) : Int) := by rw [← Int32.ofInt_add]; rfl
noncomputable def p_bg (S0 : v_Sf) (n : Int32) : v_Sf := v_ur (v_ur S0 99 (upd (S0 99) 1 (Int32.ofInt 0))) 99 (upd ((v_ur S0 99 (upd (S0 99) 1 (Int32.ofInt 0))) 99) 4 n)
theorem p_bg4 (S0 : v_Sf) (n : Int32) : p_bg S0 n 99 4 = n := w_urs
theorem p_bgF {S0 : v_Sf} {n : Int32} {a j : Nat} (h : ¬ (a = 99 ∧ (j = 1 ∨ j = 4))) : p_bg S0 n a j = S0 a j := by
  unfold p_bg
  rw [w_urn (fun e => h ⟨e.1, Or.inr e.2⟩), w_urn (fun e => h ⟨e.1, Or.inl e.2⟩)]
noncomputable def p_T (f B m : Nat) (S S2 : v_Sf) : Prop := (∀ a j, ¬ (101 ≤ a ∧ a ≤ 104 ∧ f ≤ j ∧ j < f + m) → S2 a j = S a j) ∧ ∀ k, k < m → S2 102 (f + k) = Int32.ofInt (B : Int) + S 108 k ∧ S2 103 (f + k) = Int32.ofInt (B : Int) + S 109 k ∧ S2 104 (f + k) = Int32.ofInt (B : Int) + S 110 k
theorem p_T_s {f B m : Nat} {S S1 S2 : v_Sf} (h : p_T f B m S S1) (hf : ∀ a j, ¬ (101 ≤ a ∧ a ≤ 104 ∧ j = f + m) → S2 a j = S1 a j) (h2 : S2 102 (f + m) = Int32.ofInt (B : Int) + S1 108 m) (h3 : S2 103 (f + m) = Int32.ofInt (B : Int) + S1 109 m) (h4 : S2 104 (f + m) = Int32.ofInt (B : Int) + S1 110 m) : p_T f B (m + 1) S S2 := by
  refine ⟨fun a j hn => ?_, fun k hk => ?_⟩
  · rw [hf a j (by omega)]
    exact h.1 a j (by omega)
  · by_cases e : k = m
    · subst e
      rw [h2, h3, h4, h.1 108 k (by omega), h.1 109 k (by omega), h.1 110 k (by omega)]
      exact ⟨rfl, rfl, rfl⟩
    · rw [hf 102 _ (by omega), hf 103 _ (by omega), hf 104 _ (by omega)]
      exact h.2 k (by omega)
noncomputable def p_U (B m : Nat) (nc : Nat → Int32) (S S2 : v_Sf) : Prop := (∀ a j, ¬ ((a = 105 ∨ a = 106) ∧ B ≤ j ∧ j < B + m) → S2 a j = S a j) ∧ ∀ k, k < m → S2 105 (B + k) = nc k
theorem p_U_s {B m : Nat} {nc : Nat → Int32} {S S1 S2 : v_Sf} (h : p_U B m nc S S1) (hf : ∀ a j, ¬ ((a = 105 ∨ a = 106) ∧ j = B + m) → S2 a j = S1 a j) (h2 : S2 105 (B + m) = nc m) : p_U B (m + 1) nc S S2 := by
  refine ⟨fun a j hn => ?_, fun k hk => ?_⟩
  · rw [hf a j (by omega)]
    exact h.1 a j (by omega)
  · by_cases e : k = m
    · subst e
      exact h2
    · rw [hf 105 _ (by omega)]
      exact h.2 k (by omega)
theorem p_seg_sh {c c' : Nat → Int32} {B : Nat} : ∀ {n i dep : Nat}, (∀ j, i ≤ j → j < i + n → c' (B + j) = c j) → v_seg c n i dep → v_seg c' n (B + i) dep
  | 0, _, _, _, _ => trivial
  | n + 1, i, dep, h, hs => by
    have e : B + i + 1 = B + (i + 1) := by omega
    unfold v_seg at hs ⊢
    rw [h i (Nat.le_refl _) (by omega), e]
    split
    · rename_i h1
      rw [if_pos h1] at hs
      exact ⟨hs.1, p_seg_sh (fun j h2 h3 => h j (by omega) (by omega)) hs.2⟩
    · rename_i h1
      rw [if_neg h1] at hs
      split
      · rename_i h2
        rw [if_pos h2] at hs
        exact ⟨hs.1, p_seg_sh (fun j h2 h3 => h j (by omega) (by omega)) hs.2⟩
      · rename_i h2
        rw [if_neg h2] at hs
        exact p_seg_sh (fun j h2 h3 => h j (by omega) (by omega)) hs
noncomputable def p_X (f B x : Nat) (S S3 : v_Sf) : Prop := ∀ a j, ¬ (a = 99 ∧ (j = 1 ∨ j = 4)) → ¬ (107 ≤ a ∧ a ≤ 110 ∧ j ≤ 16) → ¬ (101 ≤ a ∧ a ≤ 104 ∧ f ≤ j ∧ j < f + x) → ¬ ((a = 105 ∨ a = 106) ∧ B ≤ j ∧ j < B + 240) → S3 a j = S a j
noncomputable def p_Y (f B cl : Nat) (S3 : v_Sf) : Prop := ∀ k, k < cl → v_stretch (S3 105) (S3 102 (f + k)) (S3 103 (f + k)) ∧ v_stretch (S3 105) (S3 103 (f + k)) (S3 104 (f + k)) ∧ (B : Int) ≤ (S3 103 (f + k)).toInt ∧ (S3 104 (f + k)).toInt ≤ (B : Int) + 240
theorem p_str {c c' : Nat → Int32} {B a b cs : Nat} (hB : B ≤ 240) (hab : a ≤ b) (hb : b ≤ cs) (hc : cs ≤ 240) (h : ∀ j, j < cs → c' (B + j) = c j) (hs : v_seg c (b - a) a 0) : v_stretch c' (Int32.ofInt ((B + a : Nat) : Int)) (Int32.ofInt ((B + b : Nat) : Int)) := by
  unfold v_stretch
  rw [w_nat (by omega), w_nat (by omega)]
  refine ⟨by omega, by omega, by omega, by omega, ?_⟩
  have e1 : (((B + b : Nat) : Int) - ((B + a : Nat) : Int)).toNat = b - a := by omega
  have e2 : (((B + a : Nat) : Int)).toNat = B + a := by omega
  rw [e1, e2]
  exact p_seg_sh (fun j h1 h2 => h j (by omega)) hs
theorem p_Y_of {f B cl cs : Nat} {S1 S2 S3 : v_Sf} {nc : Nat → Int32} (hB : B ≤ 240) (hc : cs ≤ 240) (hZ : p_Z S1 cl cs nc) (hT : p_T f B cl S1 S2) (hU : p_U B cs nc S2 S3) : p_Y f B cl S3 := by
  intro k hk
  obtain ⟨a, b, c, k1, k2, k3, k4, k5, k6, k7, k8⟩ := hZ k hk
  obtain ⟨t1, t2, t3⟩ := hT.2 k hk
  rw [hU.1 102 _ (by omega), hU.1 103 _ (by omega), hU.1 104 _ (by omega), t1, t2, t3, k1, k2, k3, w_addn, w_addn, w_addn]
  refine ⟨p_str hB k4 (by omega) hc hU.2 k7, p_str hB k5 k6 hc hU.2 k8, ?_, ?_⟩
  · rw [w_nat (by omega)]; omega
  · rw [w_nat (by omega)]; omega
theorem p_X_of {f B x cl cs : Nat} {S : v_Sf} {n : Int32} {S1 S2 S3 : v_Sf} {nc : Nat → Int32} (hx : cl ≤ x) (hc : cs ≤ 240) (hF : p_F (p_bg S n) S1) (hT : p_T f B cl S1 S2) (hU : p_U B cs nc S2 S3) : p_X f B x S S3 := by
  intro a j h1 h2 h3 h4
  rw [hU.1 a j (by omega), hT.1 a j (by omega), hF a j h2, p_bgF h1]
section PL
variable {L : Nat} {xs : Nat → Int32} {d : Nat} {R : v_Rf} {Q : Option Value → v_Sf → v_Rf → Prop} {S0 : v_Sf} {pl cs sk cl : Nat} {bd : Int32} {nc sg : Nat → Int32} {ov bh : Bool} {op : Int32} {na : Nat → Int32}
theorem h_begins (n : Int32) (hq : Q none (p_S (p_bg S0 n) 0 cs sk cl (Int32.ofInt 0) nc sg ov bh op na) R) : w_T L xs d m_X12_begins 0 (lv_args 0 [.ref 100, .int n]) [] (p_S S0 pl cs sk cl bd nc sg ov bh op na) R Q := by
  refine w_st rfl (fun _ => rfl) ?_
  refine w_st rfl (fun _ => rfl) ?_
  show w_T L xs d m_X12_begins 2 [(0, .ref 100), (1, .int n)] [.int (Int32.ofInt 0), .ref 100] (p_S S0 pl cs sk cl bd nc sg ov bh op na) R Q
  refine w_put rfl v_tyM rfl rfl rfl ?_
  refine w_eqS (p_wo99 (by decide)) ?_
  refine w_st rfl (fun _ => rfl) ?_
  refine w_st rfl (fun _ => rfl) ?_
  show w_T L xs d m_X12_begins 7 [(0, .ref 100), (1, .int n)] [.int (Int32.ofInt 0), .ref 100] (p_S (v_ur S0 99 (upd (S0 99) 1 (Int32.ofInt 0))) pl cs sk cl bd nc sg ov bh op na) R Q
  refine w_put rfl v_tyM rfl rfl rfl ?_
  refine w_eqS (p_wpl (k := 0) rfl) ?_
  refine w_st rfl (fun _ => rfl) ?_
  refine w_st rfl (fun _ => rfl) ?_
  show w_T L xs d m_X12_begins 12 [(0, .ref 100), (1, .int n)] [.int n, .ref 100] (p_S (v_ur S0 99 (upd (S0 99) 1 (Int32.ofInt 0))) 0 cs sk cl bd nc sg ov bh op na) R Q
  refine w_put rfl v_tyM rfl rfl rfl ?_
  refine w_eqS (p_wo99 (by decide)) ?_
  refine w_st rfl (fun _ => rfl) ?_
  refine w_st rfl (fun _ => rfl) ?_
  show w_T L xs d m_X12_begins 17 [(0, .ref 100), (1, .int n)] [.int (Int32.ofInt 0), .ref 100] (p_S (v_ur (v_ur S0 99 (upd (S0 99) 1 (Int32.ofInt 0))) 99 (upd ((v_ur S0 99 (upd (S0 99) 1 (Int32.ofInt 0))) 99) 4 n)) 0 cs sk cl bd nc sg ov bh op na) R Q
  refine w_put rfl v_tyM rfl rfl rfl ?_
  refine w_eqS p_wbd ?_
  show w_T L xs d m_X12_begins 20 [(0, .ref 100), (1, .int n)] [] (p_S (v_ur (v_ur S0 99 (upd (S0 99) 1 (Int32.ofInt 0))) 99 (upd ((v_ur S0 99 (upd (S0 99) 1 (Int32.ofInt 0))) 99) 4 n)) 0 cs sk cl (Int32.ofInt 0) nc sg ov bh op na) R Q
  refine w_ret rfl rfl ?_
  exact hq
theorem h_txLS {n : Int32} (he : (S0 99 4).toInt ≤ 240) (hT : v_Tb v_ty S0 R) (hZ : p_Z S0 cl cs nc) (hb : cs ≤ pl) (hp : pl ≤ 240) (hsk : sk ≤ 240) (hcl : cl ≤ 16) (K7 : ∀ (S1 : v_Sf) (pl' cs' sk' : Nat) (nc' sg' na' : Nat → Int32) (o : Int32) (v' h' : Bool), p_F S0 S1 → v_Tb v_ty S1 R → p_Z S1 (cl + 1) cs' nc' → pl < pl' → cs' ≤ pl' → pl' ≤ 240 → sk' ≤ 240 → cl < 16 → w_T L xs (d + 8) m_X12_takesText 17 [(3, .int (Int32.ofInt 1)), (0, .ref 100), (1, .int n), (2, .int (Int32.ofInt 0))] [] (p_S S1 (pl') (cs') (sk') (cl + 1) (Int32.ofInt 0) (nc') (sg') (v') (h') o (na')) R Q) (K9 : ∀ (S1 : v_Sf) (pl' cs' sk' : Nat) (nc' sg' na' : Nat → Int32) (o : Int32) (v' h' : Bool), p_F S0 S1 → v_Tb v_ty S1 R → p_Z S1 (cl + 1) cs' nc' → pl ≤ pl' → cs' ≤ pl' → pl' ≤ 240 → sk' ≤ 240 → cl < 16 → w_T L xs (d + 8) m_X12_takesText 92 [(3, .int (Int32.ofInt 0)), (0, .ref 100), (1, .int n), (2, .int (Int32.ofInt 0))] [] (p_S S1 (pl') (cs') (sk') (cl + 1) (Int32.ofInt 0) (nc') (sg') (v') (h') o (na')) R Q) (Kb : ∀ (S1 : v_Sf) (pl' cs' sk' cl' : Nat) (b' : Int32) (nc' sg' na' : Nat → Int32) (o : Int32) (v' h' : Bool), p_F S0 S1 → v_Tb v_ty S1 R → b'.toInt < 0 → cs' ≤ 240 → pl' ≤ 240 → sk' ≤ 240 → cl' ≤ 16 → Q (some (.int b')) (p_S S1 (pl') (cs') (sk') (cl') (b') (nc') (sg') (v') (h') o (na')) R) : w_T L xs (d + 8) m_X12_takesText 17 [(3, .int (Int32.ofInt 1)), (0, .ref 100), (1, .int n), (2, .int (Int32.ofInt 0))] [] (p_S S0 pl cs sk cl (Int32.ofInt 0) nc sg ov bh op na) R Q := by
  refine w_st rfl (fun _ => rfl) ?_
  show w_T L xs (d + 8) m_X12_takesText 18 [(3, .int (Int32.ofInt 1)), (0, .ref 100), (1, .int n), (2, .int (Int32.ofInt 0))] [.int (Int32.ofInt 1)] (p_S S0 pl cs sk cl (Int32.ofInt 0) nc sg ov bh op na) R Q
  refine w_st rfl (fun _ => rfl) ?_
  refine w_st rfl (fun _ => rfl) ?_
  show w_T L xs (d + 8) m_X12_takesText 22 [(3, .int (Int32.ofInt 1)), (0, .ref 100), (1, .int n), (2, .int (Int32.ofInt 0))] [.ref 100] (p_S S0 pl cs sk cl (Int32.ofInt 0) nc sg ov bh op na) R Q
  refine w_cv rfl (by decide) mt_X12_isGood v_tyM rfl rfl rfl (Nat.le_of_ble_eq_true rfl) (Nat.le_of_ble_eq_true rfl) (Nat.le_of_ble_eq_true rfl) ?_
  show w_T L xs _ m_X12_isGood 0 (lv_args 0 [.ref 100]) [] (p_S S0 pl cs sk cl (Int32.ofInt 0) nc sg ov bh op na) R _
  refine h_isGT ?_
  show w_T L xs (d + 8) m_X12_takesText 25 [(3, .int (Int32.ofInt 1)), (0, .ref 100), (1, .int n), (2, .int (Int32.ofInt 0))] [.int (Int32.ofInt 1)] (p_S S0 pl cs sk cl (Int32.ofInt 0) nc sg ov bh op na) R Q
  refine w_st rfl (fun _ => rfl) ?_
  refine w_st rfl (fun _ => rfl) ?_
  refine w_st rfl (fun _ => rfl) ?_
  show w_T L xs (d + 8) m_X12_takesText 30 [(3, .int (Int32.ofInt 1)), (0, .ref 100), (1, .int n), (2, .int (Int32.ofInt 0))] [.int (Int32.ofInt 0), .ref 100] (p_S S0 pl cs sk cl (Int32.ofInt 0) nc sg ov bh op na) R Q
  refine w_cv rfl (by decide) mt_X12_clause v_tyM rfl rfl rfl (Nat.le_of_ble_eq_true rfl) (Nat.le_of_ble_eq_true rfl) (Nat.le_of_ble_eq_true rfl) ?_
  show w_T L xs _ m_X12_clause 0 (lv_args 0 [.ref 100, .int (Int32.ofInt 0)]) [] (p_S S0 pl cs sk cl (Int32.ofInt 0) nc sg ov bh op na) R _
  refine h_clL he hT hZ hb hp hsk hcl (fun S1 pl1 cs1 sk1 nc1 sg1 na1 o1 v1 h1 f1 f2 f3 f4 f5 f6 f7 f8 => ?_) (fun S1 pl1 cs1 sk1 cl1 b30 nc1 sg1 na1 o1 v1 h1 f1 f2 hb30 f4 f5 f6 f7 => ?_)
  · have e14 : S1 99 4 = S0 99 4 := f1 99 4 (by omega)
    show w_T L xs (d + 8) m_X12_takesText 33 [(3, .int (Int32.ofInt 1)), (0, .ref 100), (1, .int n), (2, .int (Int32.ofInt 0))] [] (p_S S1 pl1 cs1 sk1 (cl + 1) (Int32.ofInt 0) nc1 sg1 v1 h1 o1 na1) R Q
    refine w_st rfl (fun _ => rfl) ?_
    show w_T L xs (d + 8) m_X12_takesText 34 [(3, .int (Int32.ofInt 1)), (0, .ref 100), (1, .int n), (2, .int (Int32.ofInt 0))] [.ref 100] (p_S S1 pl1 cs1 sk1 (cl + 1) (Int32.ofInt 0) nc1 sg1 v1 h1 o1 na1) R Q
    refine w_cv rfl (by decide) mt_X12_isGood v_tyM rfl rfl rfl (Nat.le_of_ble_eq_true rfl) (Nat.le_of_ble_eq_true rfl) (Nat.le_of_ble_eq_true rfl) ?_
    show w_T L xs _ m_X12_isGood 0 (lv_args 0 [.ref 100]) [] (p_S S1 pl1 cs1 sk1 (cl + 1) (Int32.ofInt 0) nc1 sg1 v1 h1 o1 na1) R _
    refine h_isGT ?_
    show w_T L xs (d + 8) m_X12_takesText 37 [(3, .int (Int32.ofInt 1)), (0, .ref 100), (1, .int n), (2, .int (Int32.ofInt 0))] [.int (Int32.ofInt 1)] (p_S S1 pl1 cs1 sk1 (cl + 1) (Int32.ofInt 0) nc1 sg1 v1 h1 o1 na1) R Q
    refine w_st rfl (fun _ => rfl) ?_
    refine w_st rfl (fun _ => rfl) ?_
    show w_T L xs (d + 8) m_X12_takesText 41 [(3, .int (Int32.ofInt 1)), (0, .ref 100), (1, .int n), (2, .int (Int32.ofInt 0))] [.ref 100] (p_S S1 pl1 cs1 sk1 (cl + 1) (Int32.ofInt 0) nc1 sg1 v1 h1 o1 na1) R Q
    refine w_get rfl v_tyM rfl ?_
    refine w_st rfl (fun _ => rfl) ?_
    show w_T L xs (d + 8) m_X12_takesText 45 [(3, .int (Int32.ofInt 1)), (0, .ref 100), (1, .int n), (2, .int (Int32.ofInt 0))] [.ref 100, .int (Int32.ofInt (pl1 : Int))] (p_S S1 pl1 cs1 sk1 (cl + 1) (Int32.ofInt 0) nc1 sg1 v1 h1 o1 na1) R Q
    refine w_get rfl v_tyM rfl ?_
    show w_T L xs (d + 8) m_X12_takesText 48 [(3, .int (Int32.ofInt 1)), (0, .ref 100), (1, .int n), (2, .int (Int32.ofInt 0))] [.int (S1 99 4), .int (Int32.ofInt (pl1 : Int))] (p_S S1 pl1 cs1 sk1 (cl + 1) (Int32.ofInt 0) nc1 sg1 v1 h1 o1 na1) R Q
    refine w_br (P := (S1 99 4) ≤ (Int32.ofInt (pl1 : Int))) rfl (fun _ => rfl) (fun h48 => ?_) (fun h48 => ?_)
    · refine w_st rfl (fun _ => rfl) ?_
      refine w_st rfl (fun _ => rfl) ?_
      refine w_st rfl (fun _ => rfl) ?_
      show w_T L xs (d + 8) m_X12_takesText 58 [(3, .int (Int32.ofInt 0)), (0, .ref 100), (1, .int n), (2, .int (Int32.ofInt 0))] [.int (Int32.ofInt 0)] (p_S S1 pl1 cs1 sk1 (cl + 1) (Int32.ofInt 0) nc1 sg1 v1 h1 o1 na1) R Q
      refine w_st rfl (fun _ => rfl) ?_
      show w_T L xs (d + 8) m_X12_takesText 17 [(3, .int (Int32.ofInt 0)), (0, .ref 100), (1, .int n), (2, .int (Int32.ofInt 0))] [] (p_S S1 pl1 cs1 sk1 (cl + 1) (Int32.ofInt 0) nc1 sg1 v1 h1 o1 na1) R Q
      refine w_st rfl (fun _ => rfl) ?_
      show w_T L xs (d + 8) m_X12_takesText 18 [(3, .int (Int32.ofInt 0)), (0, .ref 100), (1, .int n), (2, .int (Int32.ofInt 0))] [.int (Int32.ofInt 0)] (p_S S1 pl1 cs1 sk1 (cl + 1) (Int32.ofInt 0) nc1 sg1 v1 h1 o1 na1) R Q
      refine w_st rfl (fun _ => rfl) ?_
      show w_T L xs (d + 8) m_X12_takesText 92 [(3, .int (Int32.ofInt 0)), (0, .ref 100), (1, .int n), (2, .int (Int32.ofInt 0))] [] (p_S S1 pl1 cs1 sk1 (cl + 1) (Int32.ofInt 0) nc1 sg1 v1 h1 o1 na1) R Q
      exact K9 _ _ _ _ _ _ _ _ _ _ f1 f2 f3 f4 f5 f6 f7 f8
    · have hlt : (pl1 : Int) < (S0 99 4).toInt := by
        rw [q_le32, e14, w_nat (by omega)] at h48
        omega
      refine w_st rfl (fun _ => rfl) ?_
      refine w_st rfl (fun _ => rfl) ?_
      refine w_st rfl (fun _ => rfl) ?_
      refine w_st rfl (fun _ => rfl) ?_
      show w_T L xs (d + 8) m_X12_takesText 58 [(3, .int (Int32.ofInt 1)), (0, .ref 100), (1, .int n), (2, .int (Int32.ofInt 0))] [.int (Int32.ofInt 1)] (p_S S1 pl1 cs1 sk1 (cl + 1) (Int32.ofInt 0) nc1 sg1 v1 h1 o1 na1) R Q
      refine w_st rfl (fun _ => rfl) ?_
      refine w_st rfl (fun _ => rfl) ?_
      show w_T L xs (d + 8) m_X12_takesText 62 [(3, .int (Int32.ofInt 1)), (0, .ref 100), (1, .int n), (2, .int (Int32.ofInt 0))] [.ref 100] (p_S S1 pl1 cs1 sk1 (cl + 1) (Int32.ofInt 0) nc1 sg1 v1 h1 o1 na1) R Q
      refine w_cv rfl (by decide) mt_X12_here v_tyM rfl rfl rfl (Nat.le_of_ble_eq_true rfl) (Nat.le_of_ble_eq_true rfl) (Nat.le_of_ble_eq_true rfl) ?_
      show w_T L xs _ m_X12_here 0 (lv_args 0 [.ref 100]) [] (p_S S1 pl1 cs1 sk1 (cl + 1) (Int32.ofInt 0) nc1 sg1 v1 h1 o1 na1) R _
      refine h_here (by omega) ?_
      refine w_st rfl (fun _ => rfl) ?_
      show w_T L xs (d + 8) m_X12_takesText 67 [(3, .int (Int32.ofInt 1)), (0, .ref 100), (1, .int n), (2, .int (Int32.ofInt 0))] [.int (Int32.ofInt 59), .int (p_h S1 pl1)] (p_S S1 pl1 cs1 sk1 (cl + 1) (Int32.ofInt 0) nc1 sg1 v1 h1 o1 na1) R Q
      refine w_br (P := (p_h S1 pl1) = (Int32.ofInt 59)) rfl (fun _ => rfl) (fun h67 => ?_) (fun h67 => ?_)
      · refine w_st rfl (fun _ => rfl) ?_
        refine w_st rfl (fun _ => rfl) ?_
        show w_T L xs (d + 8) m_X12_takesText 81 [(3, .int (Int32.ofInt 1)), (0, .ref 100), (1, .int n), (2, .int (Int32.ofInt 0))] [.ref 100, .ref 100] (p_S S1 pl1 cs1 sk1 (cl + 1) (Int32.ofInt 0) nc1 sg1 v1 h1 o1 na1) R Q
        refine w_get rfl v_tyM rfl ?_
        refine w_st rfl (fun _ => rfl) ?_
        refine w_st rfl (fun _ => rfl) ?_
        show w_T L xs (d + 8) m_X12_takesText 86 [(3, .int (Int32.ofInt 1)), (0, .ref 100), (1, .int n), (2, .int (Int32.ofInt 0))] [.int ((Int32.ofInt (pl1 : Int)) + (Int32.ofInt 1)), .ref 100] (p_S S1 pl1 cs1 sk1 (cl + 1) (Int32.ofInt 0) nc1 sg1 v1 h1 o1 na1) R Q
        refine w_put rfl v_tyM rfl rfl rfl ?_
        refine w_eqS (p_wpl (w_inc _)) ?_
        refine w_st rfl (fun _ => rfl) ?_
        show w_T L xs (d + 8) m_X12_takesText 17 [(3, .int (Int32.ofInt 1)), (0, .ref 100), (1, .int n), (2, .int (Int32.ofInt 0))] [] (p_S S1 (pl1 + 1) cs1 sk1 (cl + 1) (Int32.ofInt 0) nc1 sg1 v1 h1 o1 na1) R Q
        exact K7 _ _ _ _ _ _ _ _ _ _ f1 f2 f3 (by omega) (by omega) (by omega) f7 f8
      · refine w_st rfl (fun _ => rfl) ?_
        refine w_st rfl (fun _ => rfl) ?_
        refine w_st rfl (fun _ => rfl) ?_
        show w_T L xs (d + 8) m_X12_takesText 73 [(3, .int (Int32.ofInt 1)), (0, .ref 100), (1, .int n), (2, .int (Int32.ofInt 0))] [.ref 100, .int (Int32.ofInt 1), .ref 100] (p_S S1 pl1 cs1 sk1 (cl + 1) (Int32.ofInt 0) nc1 sg1 v1 h1 o1 na1) R Q
        refine w_get rfl v_tyM rfl ?_
        show w_T L xs (d + 8) m_X12_takesText 76 [(3, .int (Int32.ofInt 1)), (0, .ref 100), (1, .int n), (2, .int (Int32.ofInt 0))] [.int (Int32.ofInt (pl1 : Int)), .int (Int32.ofInt 1), .ref 100] (p_S S1 pl1 cs1 sk1 (cl + 1) (Int32.ofInt 0) nc1 sg1 v1 h1 o1 na1) R Q
        refine w_cv rfl (by decide) mt_X12_wrongs v_tyM rfl rfl rfl (Nat.le_of_ble_eq_true rfl) (Nat.le_of_ble_eq_true rfl) (Nat.le_of_ble_eq_true rfl) ?_
        show w_T L xs _ m_X12_wrongs 0 (lv_args 0 [.ref 100, .int (Int32.ofInt 1), .int (Int32.ofInt (pl1 : Int))]) [] (p_S S1 pl1 cs1 sk1 (cl + 1) (Int32.ofInt 0) nc1 sg1 v1 h1 o1 na1) R _
        refine h_wr (by decide) (by decide) (by rw [w_nat (by omega)]; omega) (by rw [w_nat (by omega)]; omega) (fun b76 hb76 => ?_)
        refine w_st rfl (fun _ => rfl) ?_
        refine w_st rfl (fun _ => rfl) ?_
        show w_T L xs (d + 8) m_X12_takesText 81 [(3, .int (Int32.ofInt 1)), (0, .ref 100), (1, .int n), (2, .int (Int32.ofInt 0))] [.ref 100, .ref 100] (p_S S1 pl1 cs1 sk1 (cl + 1) b76 nc1 sg1 v1 h1 o1 na1) R Q
        refine w_get rfl v_tyM rfl ?_
        refine w_st rfl (fun _ => rfl) ?_
        refine w_st rfl (fun _ => rfl) ?_
        show w_T L xs (d + 8) m_X12_takesText 86 [(3, .int (Int32.ofInt 1)), (0, .ref 100), (1, .int n), (2, .int (Int32.ofInt 0))] [.int ((Int32.ofInt (pl1 : Int)) + (Int32.ofInt 1)), .ref 100] (p_S S1 pl1 cs1 sk1 (cl + 1) b76 nc1 sg1 v1 h1 o1 na1) R Q
        refine w_put rfl v_tyM rfl rfl rfl ?_
        refine w_eqS (p_wpl (w_inc _)) ?_
        refine w_st rfl (fun _ => rfl) ?_
        show w_T L xs (d + 8) m_X12_takesText 17 [(3, .int (Int32.ofInt 1)), (0, .ref 100), (1, .int n), (2, .int (Int32.ofInt 0))] [] (p_S S1 (pl1 + 1) cs1 sk1 (cl + 1) b76 nc1 sg1 v1 h1 o1 na1) R Q
        refine w_st rfl (fun _ => rfl) ?_
        show w_T L xs (d + 8) m_X12_takesText 18 [(3, .int (Int32.ofInt 1)), (0, .ref 100), (1, .int n), (2, .int (Int32.ofInt 0))] [.int (Int32.ofInt 1)] (p_S S1 (pl1 + 1) cs1 sk1 (cl + 1) b76 nc1 sg1 v1 h1 o1 na1) R Q
        refine w_st rfl (fun _ => rfl) ?_
        refine w_st rfl (fun _ => rfl) ?_
        show w_T L xs (d + 8) m_X12_takesText 22 [(3, .int (Int32.ofInt 1)), (0, .ref 100), (1, .int n), (2, .int (Int32.ofInt 0))] [.ref 100] (p_S S1 (pl1 + 1) cs1 sk1 (cl + 1) b76 nc1 sg1 v1 h1 o1 na1) R Q
        refine w_cv rfl (by decide) mt_X12_isGood v_tyM rfl rfl rfl (Nat.le_of_ble_eq_true rfl) (Nat.le_of_ble_eq_true rfl) (Nat.le_of_ble_eq_true rfl) ?_
        show w_T L xs _ m_X12_isGood 0 (lv_args 0 [.ref 100]) [] (p_S S1 (pl1 + 1) cs1 sk1 (cl + 1) b76 nc1 sg1 v1 h1 o1 na1) R _
        refine h_isGF hb76 ?_
        show w_T L xs (d + 8) m_X12_takesText 25 [(3, .int (Int32.ofInt 1)), (0, .ref 100), (1, .int n), (2, .int (Int32.ofInt 0))] [.int (Int32.ofInt 0)] (p_S S1 (pl1 + 1) cs1 sk1 (cl + 1) b76 nc1 sg1 v1 h1 o1 na1) R Q
        refine w_st rfl (fun _ => rfl) ?_
        show w_T L xs (d + 8) m_X12_takesText 92 [(3, .int (Int32.ofInt 1)), (0, .ref 100), (1, .int n), (2, .int (Int32.ofInt 0))] [] (p_S S1 (pl1 + 1) cs1 sk1 (cl + 1) b76 nc1 sg1 v1 h1 o1 na1) R Q
        refine w_st rfl (fun _ => rfl) ?_
        show w_T L xs (d + 8) m_X12_takesText 93 [(3, .int (Int32.ofInt 1)), (0, .ref 100), (1, .int n), (2, .int (Int32.ofInt 0))] [.ref 100] (p_S S1 (pl1 + 1) cs1 sk1 (cl + 1) b76 nc1 sg1 v1 h1 o1 na1) R Q
        refine w_get rfl v_tyM rfl ?_
        show w_T L xs (d + 8) m_X12_takesText 96 [(3, .int (Int32.ofInt 1)), (0, .ref 100), (1, .int n), (2, .int (Int32.ofInt 0))] [.int b76] (p_S S1 (pl1 + 1) cs1 sk1 (cl + 1) b76 nc1 sg1 v1 h1 o1 na1) R Q
        refine w_br (P := 0 ≤ b76) rfl (fun _ => rfl) (fun h96 => ?_) (fun h96 => ?_)
        · exfalso
          rw [q_le32] at h96
          have z0 : (0 : Int32).toInt = 0 := rfl
          omega
        · refine w_st rfl (fun _ => rfl) ?_
          show w_T L xs (d + 8) m_X12_takesText 100 [(3, .int (Int32.ofInt 1)), (0, .ref 100), (1, .int n), (2, .int (Int32.ofInt 0))] [.ref 100] (p_S S1 (pl1 + 1) cs1 sk1 (cl + 1) b76 nc1 sg1 v1 h1 o1 na1) R Q
          refine w_get rfl v_tyM rfl ?_
          show w_T L xs (d + 8) m_X12_takesText 103 [(3, .int (Int32.ofInt 1)), (0, .ref 100), (1, .int n), (2, .int (Int32.ofInt 0))] [.int b76] (p_S S1 (pl1 + 1) cs1 sk1 (cl + 1) b76 nc1 sg1 v1 h1 o1 na1) R Q
          refine w_ret rfl (by rfl) ?_
          exact Kb _ _ _ _ _ _ _ _ _ _ _ _ f1 f2 hb76 (by omega) (by omega) (by omega) (by omega)
  · show w_T L xs (d + 8) m_X12_takesText 33 [(3, .int (Int32.ofInt 1)), (0, .ref 100), (1, .int n), (2, .int (Int32.ofInt 0))] [] (p_S S1 pl1 cs1 sk1 cl1 b30 nc1 sg1 v1 h1 o1 na1) R Q
    refine w_st rfl (fun _ => rfl) ?_
    show w_T L xs (d + 8) m_X12_takesText 34 [(3, .int (Int32.ofInt 1)), (0, .ref 100), (1, .int n), (2, .int (Int32.ofInt 0))] [.ref 100] (p_S S1 pl1 cs1 sk1 cl1 b30 nc1 sg1 v1 h1 o1 na1) R Q
    refine w_cv rfl (by decide) mt_X12_isGood v_tyM rfl rfl rfl (Nat.le_of_ble_eq_true rfl) (Nat.le_of_ble_eq_true rfl) (Nat.le_of_ble_eq_true rfl) ?_
    show w_T L xs _ m_X12_isGood 0 (lv_args 0 [.ref 100]) [] (p_S S1 pl1 cs1 sk1 cl1 b30 nc1 sg1 v1 h1 o1 na1) R _
    refine h_isGF hb30 ?_
    show w_T L xs (d + 8) m_X12_takesText 37 [(3, .int (Int32.ofInt 1)), (0, .ref 100), (1, .int n), (2, .int (Int32.ofInt 0))] [.int (Int32.ofInt 0)] (p_S S1 pl1 cs1 sk1 cl1 b30 nc1 sg1 v1 h1 o1 na1) R Q
    refine w_st rfl (fun _ => rfl) ?_
    refine w_st rfl (fun _ => rfl) ?_
    refine w_st rfl (fun _ => rfl) ?_
    refine w_st rfl (fun _ => rfl) ?_
    show w_T L xs (d + 8) m_X12_takesText 58 [(3, .int (Int32.ofInt 0)), (0, .ref 100), (1, .int n), (2, .int (Int32.ofInt 0))] [.int (Int32.ofInt 0)] (p_S S1 pl1 cs1 sk1 cl1 b30 nc1 sg1 v1 h1 o1 na1) R Q
    refine w_st rfl (fun _ => rfl) ?_
    show w_T L xs (d + 8) m_X12_takesText 17 [(3, .int (Int32.ofInt 0)), (0, .ref 100), (1, .int n), (2, .int (Int32.ofInt 0))] [] (p_S S1 pl1 cs1 sk1 cl1 b30 nc1 sg1 v1 h1 o1 na1) R Q
    refine w_st rfl (fun _ => rfl) ?_
    show w_T L xs (d + 8) m_X12_takesText 18 [(3, .int (Int32.ofInt 0)), (0, .ref 100), (1, .int n), (2, .int (Int32.ofInt 0))] [.int (Int32.ofInt 0)] (p_S S1 pl1 cs1 sk1 cl1 b30 nc1 sg1 v1 h1 o1 na1) R Q
    refine w_st rfl (fun _ => rfl) ?_
    show w_T L xs (d + 8) m_X12_takesText 92 [(3, .int (Int32.ofInt 0)), (0, .ref 100), (1, .int n), (2, .int (Int32.ofInt 0))] [] (p_S S1 pl1 cs1 sk1 cl1 b30 nc1 sg1 v1 h1 o1 na1) R Q
    refine w_st rfl (fun _ => rfl) ?_
    show w_T L xs (d + 8) m_X12_takesText 93 [(3, .int (Int32.ofInt 0)), (0, .ref 100), (1, .int n), (2, .int (Int32.ofInt 0))] [.ref 100] (p_S S1 pl1 cs1 sk1 cl1 b30 nc1 sg1 v1 h1 o1 na1) R Q
    refine w_get rfl v_tyM rfl ?_
    show w_T L xs (d + 8) m_X12_takesText 96 [(3, .int (Int32.ofInt 0)), (0, .ref 100), (1, .int n), (2, .int (Int32.ofInt 0))] [.int b30] (p_S S1 pl1 cs1 sk1 cl1 b30 nc1 sg1 v1 h1 o1 na1) R Q
    refine w_br (P := 0 ≤ b30) rfl (fun _ => rfl) (fun h96 => ?_) (fun h96 => ?_)
    · exfalso
      rw [q_le32] at h96
      have z0 : (0 : Int32).toInt = 0 := rfl
      omega
    · refine w_st rfl (fun _ => rfl) ?_
      show w_T L xs (d + 8) m_X12_takesText 100 [(3, .int (Int32.ofInt 0)), (0, .ref 100), (1, .int n), (2, .int (Int32.ofInt 0))] [.ref 100] (p_S S1 pl1 cs1 sk1 cl1 b30 nc1 sg1 v1 h1 o1 na1) R Q
      refine w_get rfl v_tyM rfl ?_
      show w_T L xs (d + 8) m_X12_takesText 103 [(3, .int (Int32.ofInt 0)), (0, .ref 100), (1, .int n), (2, .int (Int32.ofInt 0))] [.int b30] (p_S S1 pl1 cs1 sk1 cl1 b30 nc1 sg1 v1 h1 o1 na1) R Q
      refine w_ret rfl (by rfl) ?_
      exact Kb _ _ _ _ _ _ _ _ _ _ _ _ f1 f2 hb30 (by omega) (by omega) (by omega) (by omega)
theorem h_txLL {n : Int32} {S00 : v_Sf} (he0 : (S00 99 4).toInt ≤ 240) (K9 : ∀ (S1 : v_Sf) (pl' cs' sk' cl' : Nat) (nc' sg' na' : Nat → Int32) (o : Int32) (v' h' : Bool), p_F S00 S1 → v_Tb v_ty S1 R → p_Z S1 cl' cs' nc' → cs' ≤ 240 → pl' ≤ 240 → sk' ≤ 240 → cl' ≤ 16 → w_T L xs (d + 8) m_X12_takesText 92 [(3, .int (Int32.ofInt 0)), (0, .ref 100), (1, .int n), (2, .int (Int32.ofInt 0))] [] (p_S S1 (pl') (cs') (sk') (cl') (Int32.ofInt 0) (nc') (sg') (v') (h') o (na')) R Q) (Kb : ∀ (S1 : v_Sf) (pl' cs' sk' cl' : Nat) (b' : Int32) (nc' sg' na' : Nat → Int32) (o : Int32) (v' h' : Bool), p_F S00 S1 → v_Tb v_ty S1 R → b'.toInt < 0 → cs' ≤ 240 → pl' ≤ 240 → sk' ≤ 240 → cl' ≤ 16 → Q (some (.int b')) (p_S S1 (pl') (cs') (sk') (cl') (b') (nc') (sg') (v') (h') o (na')) R) : ∀ (c9 : Nat) (S0 : v_Sf) (pl cs sk cl : Nat) (nc sg na : Nat → Int32) (op : Int32) (ov bh : Bool), 240 ≤ pl + c9 → p_F S00 S0 → v_Tb v_ty S0 R → p_Z S0 cl cs nc → cs ≤ pl → pl ≤ 240 → sk ≤ 240 → cl ≤ 16 → w_T L xs (d + 8) m_X12_takesText 17 [(3, .int (Int32.ofInt 1)), (0, .ref 100), (1, .int n), (2, .int (Int32.ofInt 0))] [] (p_S S0 pl cs sk cl (Int32.ofInt 0) nc sg ov bh op na) R Q := by
  intro c9
  induction c9 with
  | zero =>
    intro S0 pl cs sk cl nc sg na op ov bh hn hF hT hZ hb hp hsk hcl
    have he : (S0 99 4).toInt ≤ 240 := by rw [hF 99 4 (by omega)]; exact he0
    exact h_txLS he hT hZ hb hp hsk hcl (fun S1 pl' cs' sk' nc' sg' na' o v' h' f1 f2 f3 f4 f5 f6 f7 f8 => absurd f6 (by omega)) (fun S1 pl' cs' sk' nc' sg' na' o v' h' f1 f2 f3 f4 f5 f6 f7 f8 => K9 S1 pl' cs' sk' _ nc' sg' na' o v' h' (p_F_tr hF f1) f2 f3 (by omega) (by omega) (by omega) (by omega)) (fun S1 pl' cs' sk' cl' b' nc' sg' na' o v' h' f1 => Kb S1 pl' cs' sk' cl' b' nc' sg' na' o v' h' (p_F_tr hF f1))
  | succ c9 ih =>
    intro S0 pl cs sk cl nc sg na op ov bh hn hF hT hZ hb hp hsk hcl
    have he : (S0 99 4).toInt ≤ 240 := by rw [hF 99 4 (by omega)]; exact he0
    exact h_txLS he hT hZ hb hp hsk hcl (fun S1 pl' cs' sk' nc' sg' na' o v' h' f1 f2 f3 f4 f5 f6 f7 f8 => ih S1 pl' cs' sk' _ nc' sg' na' o v' h' (by omega) (p_F_tr hF f1) f2 f3 f5 f6 f7 (by omega)) (fun S1 pl' cs' sk' nc' sg' na' o v' h' f1 f2 f3 f4 f5 f6 f7 f8 => K9 S1 pl' cs' sk' _ nc' sg' na' o v' h' (p_F_tr hF f1) f2 f3 (by omega) (by omega) (by omega) (by omega)) (fun S1 pl' cs' sk' cl' b' nc' sg' na' o v' h' f1 => Kb S1 pl' cs' sk' cl' b' nc' sg' na' o v' h' (p_F_tr hF f1))
theorem h_txRS {n : Int32} (he : (S0 99 4).toInt ≤ 240) (hT : v_Tb v_ty S0 R) (hZ : p_Z S0 cl cs nc) (hb : cs ≤ pl) (hp : pl ≤ 240) (hsk : sk ≤ 240) (hcl : cl ≤ 12) (K7 : ∀ (S1 : v_Sf) (pl' cs' sk' : Nat) (nc' sg' na' : Nat → Int32) (o : Int32) (v' h' : Bool), p_F S0 S1 → v_Tb v_ty S1 R → p_Z S1 (cl + 1) cs' nc' → pl < pl' → cs' ≤ pl' → pl' ≤ 240 → sk' ≤ 240 → cl < 12 → w_T L xs (d + 8) m_X12_takesText 17 [(3, .int (Int32.ofInt 1)), (0, .ref 100), (1, .int n), (2, .int (Int32.ofInt 1))] [] (p_S S1 (pl') (cs') (sk') (cl + 1) (Int32.ofInt 0) (nc') (sg') (v') (h') o (na')) R Q) (K9 : ∀ (S1 : v_Sf) (pl' cs' sk' : Nat) (nc' sg' na' : Nat → Int32) (o : Int32) (v' h' : Bool), p_F S0 S1 → v_Tb v_ty S1 R → p_Z S1 (cl + 1) cs' nc' → pl ≤ pl' → cs' ≤ pl' → pl' ≤ 240 → sk' ≤ 240 → cl < 12 → w_T L xs (d + 8) m_X12_takesText 92 [(3, .int (Int32.ofInt 0)), (0, .ref 100), (1, .int n), (2, .int (Int32.ofInt 1))] [] (p_S S1 (pl') (cs') (sk') (cl + 1) (Int32.ofInt 0) (nc') (sg') (v') (h') o (na')) R Q) (Kb : ∀ (S1 : v_Sf) (pl' cs' sk' cl' : Nat) (b' : Int32) (nc' sg' na' : Nat → Int32) (o : Int32) (v' h' : Bool), p_F S0 S1 → v_Tb v_ty S1 R → b'.toInt < 0 → cs' ≤ 240 → pl' ≤ 240 → sk' ≤ 240 → cl' ≤ 16 → Q (some (.int b')) (p_S S1 (pl') (cs') (sk') (cl') (b') (nc') (sg') (v') (h') o (na')) R) : w_T L xs (d + 8) m_X12_takesText 17 [(3, .int (Int32.ofInt 1)), (0, .ref 100), (1, .int n), (2, .int (Int32.ofInt 1))] [] (p_S S0 pl cs sk cl (Int32.ofInt 0) nc sg ov bh op na) R Q := by
  refine w_st rfl (fun _ => rfl) ?_
  show w_T L xs (d + 8) m_X12_takesText 18 [(3, .int (Int32.ofInt 1)), (0, .ref 100), (1, .int n), (2, .int (Int32.ofInt 1))] [.int (Int32.ofInt 1)] (p_S S0 pl cs sk cl (Int32.ofInt 0) nc sg ov bh op na) R Q
  refine w_st rfl (fun _ => rfl) ?_
  refine w_st rfl (fun _ => rfl) ?_
  show w_T L xs (d + 8) m_X12_takesText 22 [(3, .int (Int32.ofInt 1)), (0, .ref 100), (1, .int n), (2, .int (Int32.ofInt 1))] [.ref 100] (p_S S0 pl cs sk cl (Int32.ofInt 0) nc sg ov bh op na) R Q
  refine w_cv rfl (by decide) mt_X12_isGood v_tyM rfl rfl rfl (Nat.le_of_ble_eq_true rfl) (Nat.le_of_ble_eq_true rfl) (Nat.le_of_ble_eq_true rfl) ?_
  show w_T L xs _ m_X12_isGood 0 (lv_args 0 [.ref 100]) [] (p_S S0 pl cs sk cl (Int32.ofInt 0) nc sg ov bh op na) R _
  refine h_isGT ?_
  show w_T L xs (d + 8) m_X12_takesText 25 [(3, .int (Int32.ofInt 1)), (0, .ref 100), (1, .int n), (2, .int (Int32.ofInt 1))] [.int (Int32.ofInt 1)] (p_S S0 pl cs sk cl (Int32.ofInt 0) nc sg ov bh op na) R Q
  refine w_st rfl (fun _ => rfl) ?_
  refine w_st rfl (fun _ => rfl) ?_
  refine w_st rfl (fun _ => rfl) ?_
  show w_T L xs (d + 8) m_X12_takesText 30 [(3, .int (Int32.ofInt 1)), (0, .ref 100), (1, .int n), (2, .int (Int32.ofInt 1))] [.int (Int32.ofInt 1), .ref 100] (p_S S0 pl cs sk cl (Int32.ofInt 0) nc sg ov bh op na) R Q
  refine w_cv rfl (by decide) mt_X12_clause v_tyM rfl rfl rfl (Nat.le_of_ble_eq_true rfl) (Nat.le_of_ble_eq_true rfl) (Nat.le_of_ble_eq_true rfl) ?_
  show w_T L xs _ m_X12_clause 0 (lv_args 0 [.ref 100, .int (Int32.ofInt 1)]) [] (p_S S0 pl cs sk cl (Int32.ofInt 0) nc sg ov bh op na) R _
  refine h_clR he hT hZ hb hp hsk hcl (fun S1 pl1 cs1 sk1 nc1 sg1 na1 o1 v1 h1 f1 f2 f3 f4 f5 f6 f7 f8 => ?_) (fun S1 pl1 cs1 sk1 cl1 b30 nc1 sg1 na1 o1 v1 h1 f1 f2 hb30 f4 f5 f6 f7 => ?_)
  · have e14 : S1 99 4 = S0 99 4 := f1 99 4 (by omega)
    show w_T L xs (d + 8) m_X12_takesText 33 [(3, .int (Int32.ofInt 1)), (0, .ref 100), (1, .int n), (2, .int (Int32.ofInt 1))] [] (p_S S1 pl1 cs1 sk1 (cl + 1) (Int32.ofInt 0) nc1 sg1 v1 h1 o1 na1) R Q
    refine w_st rfl (fun _ => rfl) ?_
    show w_T L xs (d + 8) m_X12_takesText 34 [(3, .int (Int32.ofInt 1)), (0, .ref 100), (1, .int n), (2, .int (Int32.ofInt 1))] [.ref 100] (p_S S1 pl1 cs1 sk1 (cl + 1) (Int32.ofInt 0) nc1 sg1 v1 h1 o1 na1) R Q
    refine w_cv rfl (by decide) mt_X12_isGood v_tyM rfl rfl rfl (Nat.le_of_ble_eq_true rfl) (Nat.le_of_ble_eq_true rfl) (Nat.le_of_ble_eq_true rfl) ?_
    show w_T L xs _ m_X12_isGood 0 (lv_args 0 [.ref 100]) [] (p_S S1 pl1 cs1 sk1 (cl + 1) (Int32.ofInt 0) nc1 sg1 v1 h1 o1 na1) R _
    refine h_isGT ?_
    show w_T L xs (d + 8) m_X12_takesText 37 [(3, .int (Int32.ofInt 1)), (0, .ref 100), (1, .int n), (2, .int (Int32.ofInt 1))] [.int (Int32.ofInt 1)] (p_S S1 pl1 cs1 sk1 (cl + 1) (Int32.ofInt 0) nc1 sg1 v1 h1 o1 na1) R Q
    refine w_st rfl (fun _ => rfl) ?_
    refine w_st rfl (fun _ => rfl) ?_
    show w_T L xs (d + 8) m_X12_takesText 41 [(3, .int (Int32.ofInt 1)), (0, .ref 100), (1, .int n), (2, .int (Int32.ofInt 1))] [.ref 100] (p_S S1 pl1 cs1 sk1 (cl + 1) (Int32.ofInt 0) nc1 sg1 v1 h1 o1 na1) R Q
    refine w_get rfl v_tyM rfl ?_
    refine w_st rfl (fun _ => rfl) ?_
    show w_T L xs (d + 8) m_X12_takesText 45 [(3, .int (Int32.ofInt 1)), (0, .ref 100), (1, .int n), (2, .int (Int32.ofInt 1))] [.ref 100, .int (Int32.ofInt (pl1 : Int))] (p_S S1 pl1 cs1 sk1 (cl + 1) (Int32.ofInt 0) nc1 sg1 v1 h1 o1 na1) R Q
    refine w_get rfl v_tyM rfl ?_
    show w_T L xs (d + 8) m_X12_takesText 48 [(3, .int (Int32.ofInt 1)), (0, .ref 100), (1, .int n), (2, .int (Int32.ofInt 1))] [.int (S1 99 4), .int (Int32.ofInt (pl1 : Int))] (p_S S1 pl1 cs1 sk1 (cl + 1) (Int32.ofInt 0) nc1 sg1 v1 h1 o1 na1) R Q
    refine w_br (P := (S1 99 4) ≤ (Int32.ofInt (pl1 : Int))) rfl (fun _ => rfl) (fun h48 => ?_) (fun h48 => ?_)
    · refine w_st rfl (fun _ => rfl) ?_
      refine w_st rfl (fun _ => rfl) ?_
      refine w_st rfl (fun _ => rfl) ?_
      show w_T L xs (d + 8) m_X12_takesText 58 [(3, .int (Int32.ofInt 0)), (0, .ref 100), (1, .int n), (2, .int (Int32.ofInt 1))] [.int (Int32.ofInt 0)] (p_S S1 pl1 cs1 sk1 (cl + 1) (Int32.ofInt 0) nc1 sg1 v1 h1 o1 na1) R Q
      refine w_st rfl (fun _ => rfl) ?_
      show w_T L xs (d + 8) m_X12_takesText 17 [(3, .int (Int32.ofInt 0)), (0, .ref 100), (1, .int n), (2, .int (Int32.ofInt 1))] [] (p_S S1 pl1 cs1 sk1 (cl + 1) (Int32.ofInt 0) nc1 sg1 v1 h1 o1 na1) R Q
      refine w_st rfl (fun _ => rfl) ?_
      show w_T L xs (d + 8) m_X12_takesText 18 [(3, .int (Int32.ofInt 0)), (0, .ref 100), (1, .int n), (2, .int (Int32.ofInt 1))] [.int (Int32.ofInt 0)] (p_S S1 pl1 cs1 sk1 (cl + 1) (Int32.ofInt 0) nc1 sg1 v1 h1 o1 na1) R Q
      refine w_st rfl (fun _ => rfl) ?_
      show w_T L xs (d + 8) m_X12_takesText 92 [(3, .int (Int32.ofInt 0)), (0, .ref 100), (1, .int n), (2, .int (Int32.ofInt 1))] [] (p_S S1 pl1 cs1 sk1 (cl + 1) (Int32.ofInt 0) nc1 sg1 v1 h1 o1 na1) R Q
      exact K9 _ _ _ _ _ _ _ _ _ _ f1 f2 f3 f4 f5 f6 f7 f8
    · have hlt : (pl1 : Int) < (S0 99 4).toInt := by
        rw [q_le32, e14, w_nat (by omega)] at h48
        omega
      refine w_st rfl (fun _ => rfl) ?_
      refine w_st rfl (fun _ => rfl) ?_
      refine w_st rfl (fun _ => rfl) ?_
      refine w_st rfl (fun _ => rfl) ?_
      show w_T L xs (d + 8) m_X12_takesText 58 [(3, .int (Int32.ofInt 1)), (0, .ref 100), (1, .int n), (2, .int (Int32.ofInt 1))] [.int (Int32.ofInt 1)] (p_S S1 pl1 cs1 sk1 (cl + 1) (Int32.ofInt 0) nc1 sg1 v1 h1 o1 na1) R Q
      refine w_st rfl (fun _ => rfl) ?_
      refine w_st rfl (fun _ => rfl) ?_
      show w_T L xs (d + 8) m_X12_takesText 62 [(3, .int (Int32.ofInt 1)), (0, .ref 100), (1, .int n), (2, .int (Int32.ofInt 1))] [.ref 100] (p_S S1 pl1 cs1 sk1 (cl + 1) (Int32.ofInt 0) nc1 sg1 v1 h1 o1 na1) R Q
      refine w_cv rfl (by decide) mt_X12_here v_tyM rfl rfl rfl (Nat.le_of_ble_eq_true rfl) (Nat.le_of_ble_eq_true rfl) (Nat.le_of_ble_eq_true rfl) ?_
      show w_T L xs _ m_X12_here 0 (lv_args 0 [.ref 100]) [] (p_S S1 pl1 cs1 sk1 (cl + 1) (Int32.ofInt 0) nc1 sg1 v1 h1 o1 na1) R _
      refine h_here (by omega) ?_
      refine w_st rfl (fun _ => rfl) ?_
      show w_T L xs (d + 8) m_X12_takesText 67 [(3, .int (Int32.ofInt 1)), (0, .ref 100), (1, .int n), (2, .int (Int32.ofInt 1))] [.int (Int32.ofInt 59), .int (p_h S1 pl1)] (p_S S1 pl1 cs1 sk1 (cl + 1) (Int32.ofInt 0) nc1 sg1 v1 h1 o1 na1) R Q
      refine w_br (P := (p_h S1 pl1) = (Int32.ofInt 59)) rfl (fun _ => rfl) (fun h67 => ?_) (fun h67 => ?_)
      · refine w_st rfl (fun _ => rfl) ?_
        refine w_st rfl (fun _ => rfl) ?_
        show w_T L xs (d + 8) m_X12_takesText 81 [(3, .int (Int32.ofInt 1)), (0, .ref 100), (1, .int n), (2, .int (Int32.ofInt 1))] [.ref 100, .ref 100] (p_S S1 pl1 cs1 sk1 (cl + 1) (Int32.ofInt 0) nc1 sg1 v1 h1 o1 na1) R Q
        refine w_get rfl v_tyM rfl ?_
        refine w_st rfl (fun _ => rfl) ?_
        refine w_st rfl (fun _ => rfl) ?_
        show w_T L xs (d + 8) m_X12_takesText 86 [(3, .int (Int32.ofInt 1)), (0, .ref 100), (1, .int n), (2, .int (Int32.ofInt 1))] [.int ((Int32.ofInt (pl1 : Int)) + (Int32.ofInt 1)), .ref 100] (p_S S1 pl1 cs1 sk1 (cl + 1) (Int32.ofInt 0) nc1 sg1 v1 h1 o1 na1) R Q
        refine w_put rfl v_tyM rfl rfl rfl ?_
        refine w_eqS (p_wpl (w_inc _)) ?_
        refine w_st rfl (fun _ => rfl) ?_
        show w_T L xs (d + 8) m_X12_takesText 17 [(3, .int (Int32.ofInt 1)), (0, .ref 100), (1, .int n), (2, .int (Int32.ofInt 1))] [] (p_S S1 (pl1 + 1) cs1 sk1 (cl + 1) (Int32.ofInt 0) nc1 sg1 v1 h1 o1 na1) R Q
        exact K7 _ _ _ _ _ _ _ _ _ _ f1 f2 f3 (by omega) (by omega) (by omega) f7 f8
      · refine w_st rfl (fun _ => rfl) ?_
        refine w_st rfl (fun _ => rfl) ?_
        refine w_st rfl (fun _ => rfl) ?_
        show w_T L xs (d + 8) m_X12_takesText 73 [(3, .int (Int32.ofInt 1)), (0, .ref 100), (1, .int n), (2, .int (Int32.ofInt 1))] [.ref 100, .int (Int32.ofInt 1), .ref 100] (p_S S1 pl1 cs1 sk1 (cl + 1) (Int32.ofInt 0) nc1 sg1 v1 h1 o1 na1) R Q
        refine w_get rfl v_tyM rfl ?_
        show w_T L xs (d + 8) m_X12_takesText 76 [(3, .int (Int32.ofInt 1)), (0, .ref 100), (1, .int n), (2, .int (Int32.ofInt 1))] [.int (Int32.ofInt (pl1 : Int)), .int (Int32.ofInt 1), .ref 100] (p_S S1 pl1 cs1 sk1 (cl + 1) (Int32.ofInt 0) nc1 sg1 v1 h1 o1 na1) R Q
        refine w_cv rfl (by decide) mt_X12_wrongs v_tyM rfl rfl rfl (Nat.le_of_ble_eq_true rfl) (Nat.le_of_ble_eq_true rfl) (Nat.le_of_ble_eq_true rfl) ?_
        show w_T L xs _ m_X12_wrongs 0 (lv_args 0 [.ref 100, .int (Int32.ofInt 1), .int (Int32.ofInt (pl1 : Int))]) [] (p_S S1 pl1 cs1 sk1 (cl + 1) (Int32.ofInt 0) nc1 sg1 v1 h1 o1 na1) R _
        refine h_wr (by decide) (by decide) (by rw [w_nat (by omega)]; omega) (by rw [w_nat (by omega)]; omega) (fun b76 hb76 => ?_)
        refine w_st rfl (fun _ => rfl) ?_
        refine w_st rfl (fun _ => rfl) ?_
        show w_T L xs (d + 8) m_X12_takesText 81 [(3, .int (Int32.ofInt 1)), (0, .ref 100), (1, .int n), (2, .int (Int32.ofInt 1))] [.ref 100, .ref 100] (p_S S1 pl1 cs1 sk1 (cl + 1) b76 nc1 sg1 v1 h1 o1 na1) R Q
        refine w_get rfl v_tyM rfl ?_
        refine w_st rfl (fun _ => rfl) ?_
        refine w_st rfl (fun _ => rfl) ?_
        show w_T L xs (d + 8) m_X12_takesText 86 [(3, .int (Int32.ofInt 1)), (0, .ref 100), (1, .int n), (2, .int (Int32.ofInt 1))] [.int ((Int32.ofInt (pl1 : Int)) + (Int32.ofInt 1)), .ref 100] (p_S S1 pl1 cs1 sk1 (cl + 1) b76 nc1 sg1 v1 h1 o1 na1) R Q
        refine w_put rfl v_tyM rfl rfl rfl ?_
        refine w_eqS (p_wpl (w_inc _)) ?_
        refine w_st rfl (fun _ => rfl) ?_
        show w_T L xs (d + 8) m_X12_takesText 17 [(3, .int (Int32.ofInt 1)), (0, .ref 100), (1, .int n), (2, .int (Int32.ofInt 1))] [] (p_S S1 (pl1 + 1) cs1 sk1 (cl + 1) b76 nc1 sg1 v1 h1 o1 na1) R Q
        refine w_st rfl (fun _ => rfl) ?_
        show w_T L xs (d + 8) m_X12_takesText 18 [(3, .int (Int32.ofInt 1)), (0, .ref 100), (1, .int n), (2, .int (Int32.ofInt 1))] [.int (Int32.ofInt 1)] (p_S S1 (pl1 + 1) cs1 sk1 (cl + 1) b76 nc1 sg1 v1 h1 o1 na1) R Q
        refine w_st rfl (fun _ => rfl) ?_
        refine w_st rfl (fun _ => rfl) ?_
        show w_T L xs (d + 8) m_X12_takesText 22 [(3, .int (Int32.ofInt 1)), (0, .ref 100), (1, .int n), (2, .int (Int32.ofInt 1))] [.ref 100] (p_S S1 (pl1 + 1) cs1 sk1 (cl + 1) b76 nc1 sg1 v1 h1 o1 na1) R Q
        refine w_cv rfl (by decide) mt_X12_isGood v_tyM rfl rfl rfl (Nat.le_of_ble_eq_true rfl) (Nat.le_of_ble_eq_true rfl) (Nat.le_of_ble_eq_true rfl) ?_
        show w_T L xs _ m_X12_isGood 0 (lv_args 0 [.ref 100]) [] (p_S S1 (pl1 + 1) cs1 sk1 (cl + 1) b76 nc1 sg1 v1 h1 o1 na1) R _
        refine h_isGF hb76 ?_
        show w_T L xs (d + 8) m_X12_takesText 25 [(3, .int (Int32.ofInt 1)), (0, .ref 100), (1, .int n), (2, .int (Int32.ofInt 1))] [.int (Int32.ofInt 0)] (p_S S1 (pl1 + 1) cs1 sk1 (cl + 1) b76 nc1 sg1 v1 h1 o1 na1) R Q
        refine w_st rfl (fun _ => rfl) ?_
        show w_T L xs (d + 8) m_X12_takesText 92 [(3, .int (Int32.ofInt 1)), (0, .ref 100), (1, .int n), (2, .int (Int32.ofInt 1))] [] (p_S S1 (pl1 + 1) cs1 sk1 (cl + 1) b76 nc1 sg1 v1 h1 o1 na1) R Q
        refine w_st rfl (fun _ => rfl) ?_
        show w_T L xs (d + 8) m_X12_takesText 93 [(3, .int (Int32.ofInt 1)), (0, .ref 100), (1, .int n), (2, .int (Int32.ofInt 1))] [.ref 100] (p_S S1 (pl1 + 1) cs1 sk1 (cl + 1) b76 nc1 sg1 v1 h1 o1 na1) R Q
        refine w_get rfl v_tyM rfl ?_
        show w_T L xs (d + 8) m_X12_takesText 96 [(3, .int (Int32.ofInt 1)), (0, .ref 100), (1, .int n), (2, .int (Int32.ofInt 1))] [.int b76] (p_S S1 (pl1 + 1) cs1 sk1 (cl + 1) b76 nc1 sg1 v1 h1 o1 na1) R Q
        refine w_br (P := 0 ≤ b76) rfl (fun _ => rfl) (fun h96 => ?_) (fun h96 => ?_)
        · exfalso
          rw [q_le32] at h96
          have z0 : (0 : Int32).toInt = 0 := rfl
          omega
        · refine w_st rfl (fun _ => rfl) ?_
          show w_T L xs (d + 8) m_X12_takesText 100 [(3, .int (Int32.ofInt 1)), (0, .ref 100), (1, .int n), (2, .int (Int32.ofInt 1))] [.ref 100] (p_S S1 (pl1 + 1) cs1 sk1 (cl + 1) b76 nc1 sg1 v1 h1 o1 na1) R Q
          refine w_get rfl v_tyM rfl ?_
          show w_T L xs (d + 8) m_X12_takesText 103 [(3, .int (Int32.ofInt 1)), (0, .ref 100), (1, .int n), (2, .int (Int32.ofInt 1))] [.int b76] (p_S S1 (pl1 + 1) cs1 sk1 (cl + 1) b76 nc1 sg1 v1 h1 o1 na1) R Q
          refine w_ret rfl (by rfl) ?_
          exact Kb _ _ _ _ _ _ _ _ _ _ _ _ f1 f2 hb76 (by omega) (by omega) (by omega) (by omega)
  · show w_T L xs (d + 8) m_X12_takesText 33 [(3, .int (Int32.ofInt 1)), (0, .ref 100), (1, .int n), (2, .int (Int32.ofInt 1))] [] (p_S S1 pl1 cs1 sk1 cl1 b30 nc1 sg1 v1 h1 o1 na1) R Q
    refine w_st rfl (fun _ => rfl) ?_
    show w_T L xs (d + 8) m_X12_takesText 34 [(3, .int (Int32.ofInt 1)), (0, .ref 100), (1, .int n), (2, .int (Int32.ofInt 1))] [.ref 100] (p_S S1 pl1 cs1 sk1 cl1 b30 nc1 sg1 v1 h1 o1 na1) R Q
    refine w_cv rfl (by decide) mt_X12_isGood v_tyM rfl rfl rfl (Nat.le_of_ble_eq_true rfl) (Nat.le_of_ble_eq_true rfl) (Nat.le_of_ble_eq_true rfl) ?_
    show w_T L xs _ m_X12_isGood 0 (lv_args 0 [.ref 100]) [] (p_S S1 pl1 cs1 sk1 cl1 b30 nc1 sg1 v1 h1 o1 na1) R _
    refine h_isGF hb30 ?_
    show w_T L xs (d + 8) m_X12_takesText 37 [(3, .int (Int32.ofInt 1)), (0, .ref 100), (1, .int n), (2, .int (Int32.ofInt 1))] [.int (Int32.ofInt 0)] (p_S S1 pl1 cs1 sk1 cl1 b30 nc1 sg1 v1 h1 o1 na1) R Q
    refine w_st rfl (fun _ => rfl) ?_
    refine w_st rfl (fun _ => rfl) ?_
    refine w_st rfl (fun _ => rfl) ?_
    refine w_st rfl (fun _ => rfl) ?_
    show w_T L xs (d + 8) m_X12_takesText 58 [(3, .int (Int32.ofInt 0)), (0, .ref 100), (1, .int n), (2, .int (Int32.ofInt 1))] [.int (Int32.ofInt 0)] (p_S S1 pl1 cs1 sk1 cl1 b30 nc1 sg1 v1 h1 o1 na1) R Q
    refine w_st rfl (fun _ => rfl) ?_
    show w_T L xs (d + 8) m_X12_takesText 17 [(3, .int (Int32.ofInt 0)), (0, .ref 100), (1, .int n), (2, .int (Int32.ofInt 1))] [] (p_S S1 pl1 cs1 sk1 cl1 b30 nc1 sg1 v1 h1 o1 na1) R Q
    refine w_st rfl (fun _ => rfl) ?_
    show w_T L xs (d + 8) m_X12_takesText 18 [(3, .int (Int32.ofInt 0)), (0, .ref 100), (1, .int n), (2, .int (Int32.ofInt 1))] [.int (Int32.ofInt 0)] (p_S S1 pl1 cs1 sk1 cl1 b30 nc1 sg1 v1 h1 o1 na1) R Q
    refine w_st rfl (fun _ => rfl) ?_
    show w_T L xs (d + 8) m_X12_takesText 92 [(3, .int (Int32.ofInt 0)), (0, .ref 100), (1, .int n), (2, .int (Int32.ofInt 1))] [] (p_S S1 pl1 cs1 sk1 cl1 b30 nc1 sg1 v1 h1 o1 na1) R Q
    refine w_st rfl (fun _ => rfl) ?_
    show w_T L xs (d + 8) m_X12_takesText 93 [(3, .int (Int32.ofInt 0)), (0, .ref 100), (1, .int n), (2, .int (Int32.ofInt 1))] [.ref 100] (p_S S1 pl1 cs1 sk1 cl1 b30 nc1 sg1 v1 h1 o1 na1) R Q
    refine w_get rfl v_tyM rfl ?_
    show w_T L xs (d + 8) m_X12_takesText 96 [(3, .int (Int32.ofInt 0)), (0, .ref 100), (1, .int n), (2, .int (Int32.ofInt 1))] [.int b30] (p_S S1 pl1 cs1 sk1 cl1 b30 nc1 sg1 v1 h1 o1 na1) R Q
    refine w_br (P := 0 ≤ b30) rfl (fun _ => rfl) (fun h96 => ?_) (fun h96 => ?_)
    · exfalso
      rw [q_le32] at h96
      have z0 : (0 : Int32).toInt = 0 := rfl
      omega
    · refine w_st rfl (fun _ => rfl) ?_
      show w_T L xs (d + 8) m_X12_takesText 100 [(3, .int (Int32.ofInt 0)), (0, .ref 100), (1, .int n), (2, .int (Int32.ofInt 1))] [.ref 100] (p_S S1 pl1 cs1 sk1 cl1 b30 nc1 sg1 v1 h1 o1 na1) R Q
      refine w_get rfl v_tyM rfl ?_
      show w_T L xs (d + 8) m_X12_takesText 103 [(3, .int (Int32.ofInt 0)), (0, .ref 100), (1, .int n), (2, .int (Int32.ofInt 1))] [.int b30] (p_S S1 pl1 cs1 sk1 cl1 b30 nc1 sg1 v1 h1 o1 na1) R Q
      refine w_ret rfl (by rfl) ?_
      exact Kb _ _ _ _ _ _ _ _ _ _ _ _ f1 f2 hb30 (by omega) (by omega) (by omega) (by omega)
theorem h_txRL {n : Int32} {S00 : v_Sf} (he0 : (S00 99 4).toInt ≤ 240) (K9 : ∀ (S1 : v_Sf) (pl' cs' sk' cl' : Nat) (nc' sg' na' : Nat → Int32) (o : Int32) (v' h' : Bool), p_F S00 S1 → v_Tb v_ty S1 R → p_Z S1 cl' cs' nc' → cs' ≤ 240 → pl' ≤ 240 → sk' ≤ 240 → cl' ≤ 12 → w_T L xs (d + 8) m_X12_takesText 92 [(3, .int (Int32.ofInt 0)), (0, .ref 100), (1, .int n), (2, .int (Int32.ofInt 1))] [] (p_S S1 (pl') (cs') (sk') (cl') (Int32.ofInt 0) (nc') (sg') (v') (h') o (na')) R Q) (Kb : ∀ (S1 : v_Sf) (pl' cs' sk' cl' : Nat) (b' : Int32) (nc' sg' na' : Nat → Int32) (o : Int32) (v' h' : Bool), p_F S00 S1 → v_Tb v_ty S1 R → b'.toInt < 0 → cs' ≤ 240 → pl' ≤ 240 → sk' ≤ 240 → cl' ≤ 16 → Q (some (.int b')) (p_S S1 (pl') (cs') (sk') (cl') (b') (nc') (sg') (v') (h') o (na')) R) : ∀ (c9 : Nat) (S0 : v_Sf) (pl cs sk cl : Nat) (nc sg na : Nat → Int32) (op : Int32) (ov bh : Bool), 240 ≤ pl + c9 → p_F S00 S0 → v_Tb v_ty S0 R → p_Z S0 cl cs nc → cs ≤ pl → pl ≤ 240 → sk ≤ 240 → cl ≤ 12 → w_T L xs (d + 8) m_X12_takesText 17 [(3, .int (Int32.ofInt 1)), (0, .ref 100), (1, .int n), (2, .int (Int32.ofInt 1))] [] (p_S S0 pl cs sk cl (Int32.ofInt 0) nc sg ov bh op na) R Q := by
  intro c9
  induction c9 with
  | zero =>
    intro S0 pl cs sk cl nc sg na op ov bh hn hF hT hZ hb hp hsk hcl
    have he : (S0 99 4).toInt ≤ 240 := by rw [hF 99 4 (by omega)]; exact he0
    exact h_txRS he hT hZ hb hp hsk hcl (fun S1 pl' cs' sk' nc' sg' na' o v' h' f1 f2 f3 f4 f5 f6 f7 f8 => absurd f6 (by omega)) (fun S1 pl' cs' sk' nc' sg' na' o v' h' f1 f2 f3 f4 f5 f6 f7 f8 => K9 S1 pl' cs' sk' _ nc' sg' na' o v' h' (p_F_tr hF f1) f2 f3 (by omega) (by omega) (by omega) (by omega)) (fun S1 pl' cs' sk' cl' b' nc' sg' na' o v' h' f1 => Kb S1 pl' cs' sk' cl' b' nc' sg' na' o v' h' (p_F_tr hF f1))
  | succ c9 ih =>
    intro S0 pl cs sk cl nc sg na op ov bh hn hF hT hZ hb hp hsk hcl
    have he : (S0 99 4).toInt ≤ 240 := by rw [hF 99 4 (by omega)]; exact he0
    exact h_txRS he hT hZ hb hp hsk hcl (fun S1 pl' cs' sk' nc' sg' na' o v' h' f1 f2 f3 f4 f5 f6 f7 f8 => ih S1 pl' cs' sk' _ nc' sg' na' o v' h' (by omega) (p_F_tr hF f1) f2 f3 f5 f6 f7 (by omega)) (fun S1 pl' cs' sk' nc' sg' na' o v' h' f1 f2 f3 f4 f5 f6 f7 f8 => K9 S1 pl' cs' sk' _ nc' sg' na' o v' h' (p_F_tr hF f1) f2 f3 (by omega) (by omega) (by omega) (by omega)) (fun S1 pl' cs' sk' cl' b' nc' sg' na' o v' h' f1 => Kb S1 pl' cs' sk' cl' b' nc' sg' na' o v' h' (p_F_tr hF f1))
theorem h_c1 {n m0 u0 : Int32} {f B : Nat} (hf : f + 12 ≤ 28) (hf2 : f + cl ≤ 28) (hcl : cl ≤ 16) (K : ∀ S2 : v_Sf, v_Tb v_ty S2 R → p_T f B cl S0 S2 → w_T L xs (d + 8) m_X12_takesText 224 [(6, .int (Int32.ofInt (cl : Int))), (5, .int (Int32.ofInt (B : Int))), (4, .int (Int32.ofInt (f : Int))), (3, .int m0), (0, .ref 100), (1, .int n), (2, .int u0)] [] (p_S S2 pl cs sk cl (Int32.ofInt 0) nc sg ov bh op na) R Q) : ∀ (c k : Nat) (S1 : v_Sf), k + c = cl → v_Tb v_ty S1 R → p_T f B k S0 S1 → w_T L xs (d + 8) m_X12_takesText 132 [(6, .int (Int32.ofInt (k : Int))), (5, .int (Int32.ofInt (B : Int))), (4, .int (Int32.ofInt (f : Int))), (3, .int m0), (0, .ref 100), (1, .int n), (2, .int u0)] [] (p_S S1 pl cs sk cl (Int32.ofInt 0) nc sg ov bh op na) R Q := by
  intro c
  induction c with
  | zero =>
    intro k S1 hk hT hP
    obtain rfl : k = cl := by omega
    have ek := w_nat (k := k) (by omega)
    refine w_st rfl (fun _ => rfl) ?_
    refine w_st rfl (fun _ => rfl) ?_
    show w_T L xs (d + 8) m_X12_takesText 135 [(6, .int (Int32.ofInt (k : Int))), (5, .int (Int32.ofInt (B : Int))), (4, .int (Int32.ofInt (f : Int))), (3, .int m0), (0, .ref 100), (1, .int n), (2, .int u0)] [.ref 100, .int (Int32.ofInt (k : Int))] (p_S S1 pl cs sk k (Int32.ofInt 0) nc sg ov bh op na) R Q
    refine w_get rfl v_tyM rfl ?_
    show w_T L xs (d + 8) m_X12_takesText 138 [(6, .int (Int32.ofInt (k : Int))), (5, .int (Int32.ofInt (B : Int))), (4, .int (Int32.ofInt (f : Int))), (3, .int m0), (0, .ref 100), (1, .int n), (2, .int u0)] [.int (Int32.ofInt (k : Int)), .int (Int32.ofInt (k : Int))] (p_S S1 pl cs sk k (Int32.ofInt 0) nc sg ov bh op na) R Q
    refine w_br (P := (Int32.ofInt (k : Int)) ≤ (Int32.ofInt (k : Int))) rfl (fun _ => rfl) (fun h138 => ?_) (fun h138 => ?_)
    · exact K S1 hT hP
    · exfalso; rw [q_le32] at h138; omega
  | succ c ih =>
    intro k S1 hk hT hP
    have ek := w_nat (k := k) (by omega)
    have ec := w_nat (k := cl) (by omega)
    refine w_st rfl (fun _ => rfl) ?_
    refine w_st rfl (fun _ => rfl) ?_
    show w_T L xs (d + 8) m_X12_takesText 135 [(6, .int (Int32.ofInt (k : Int))), (5, .int (Int32.ofInt (B : Int))), (4, .int (Int32.ofInt (f : Int))), (3, .int m0), (0, .ref 100), (1, .int n), (2, .int u0)] [.ref 100, .int (Int32.ofInt (k : Int))] (p_S S1 pl cs sk cl (Int32.ofInt 0) nc sg ov bh op na) R Q
    refine w_get rfl v_tyM rfl ?_
    show w_T L xs (d + 8) m_X12_takesText 138 [(6, .int (Int32.ofInt (k : Int))), (5, .int (Int32.ofInt (B : Int))), (4, .int (Int32.ofInt (f : Int))), (3, .int m0), (0, .ref 100), (1, .int n), (2, .int u0)] [.int (Int32.ofInt (cl : Int)), .int (Int32.ofInt (k : Int))] (p_S S1 pl cs sk cl (Int32.ofInt 0) nc sg ov bh op na) R Q
    refine w_br (P := (Int32.ofInt (cl : Int)) ≤ (Int32.ofInt (k : Int))) rfl (fun _ => rfl) (fun h138 => ?_) (fun h138 => ?_)
    · exfalso; rw [q_le32, ec, ek] at h138; omega
    · refine w_st rfl (fun _ => rfl) ?_
      show w_T L xs (d + 8) m_X12_takesText 142 [(6, .int (Int32.ofInt (k : Int))), (5, .int (Int32.ofInt (B : Int))), (4, .int (Int32.ofInt (f : Int))), (3, .int m0), (0, .ref 100), (1, .int n), (2, .int u0)] [.ref 100] (p_S S1 pl cs sk cl (Int32.ofInt 0) nc sg ov bh op na) R Q
      refine w_getr rfl v_tyM rfl ?_
      refine w_st rfl (fun _ => rfl) ?_
      refine w_st rfl (fun _ => rfl) ?_
      refine w_st rfl (fun _ => rfl) ?_
      refine w_st rfl (fun _ => rfl) ?_
      show w_T L xs (d + 8) m_X12_takesText 151 [(6, .int (Int32.ofInt (k : Int))), (5, .int (Int32.ofInt (B : Int))), (4, .int (Int32.ofInt (f : Int))), (3, .int m0), (0, .ref 100), (1, .int n), (2, .int u0)] [.ref 100, .int ((Int32.ofInt (f : Int)) + (Int32.ofInt (k : Int))), .ref 102] (p_S S1 pl cs sk cl (Int32.ofInt 0) nc sg ov bh op na) R Q
      refine w_getr rfl v_tyM rfl ?_
      refine w_st rfl (fun _ => rfl) ?_
      show w_T L xs (d + 8) m_X12_takesText 156 [(6, .int (Int32.ofInt (k : Int))), (5, .int (Int32.ofInt (B : Int))), (4, .int (Int32.ofInt (f : Int))), (3, .int m0), (0, .ref 100), (1, .int n), (2, .int u0)] [.int (Int32.ofInt (k : Int)), .ref 108, .int ((Int32.ofInt (f : Int)) + (Int32.ofInt (k : Int))), .ref 102] (p_S S1 pl cs sk cl (Int32.ofInt 0) nc sg ov bh op na) R Q
      refine w_iald rfl rfl (by rw [w_nat (by omega)]; omega) (by rw [w_nat (by omega)]; omega) ?_
      rw [w_natn (by omega)]
      show w_T L xs (d + 8) m_X12_takesText 157 [(6, .int (Int32.ofInt (k : Int))), (5, .int (Int32.ofInt (B : Int))), (4, .int (Int32.ofInt (f : Int))), (3, .int m0), (0, .ref 100), (1, .int n), (2, .int u0)] [.int (S1 107 k), .int ((Int32.ofInt (f : Int)) + (Int32.ofInt (k : Int))), .ref 102] (p_S S1 pl cs sk cl (Int32.ofInt 0) nc sg ov bh op na) R Q
      refine w_iast rfl rfl (by rw [w_addn, w_nat (by omega)]; omega) (by rw [w_addn, w_nat (by omega)]; omega) ?_
      refine w_eqS (p_wor (by decide) (by rw [w_addn, w_natn (by omega)])) ?_
      refine w_st rfl (fun _ => rfl) ?_
      show w_T L xs (d + 8) m_X12_takesText 159 [(6, .int (Int32.ofInt (k : Int))), (5, .int (Int32.ofInt (B : Int))), (4, .int (Int32.ofInt (f : Int))), (3, .int m0), (0, .ref 100), (1, .int n), (2, .int u0)] [.ref 100] (p_S (v_ur S1 101 (upd (S1 101) (f + k) (S1 107 k))) pl cs sk cl (Int32.ofInt 0) nc sg ov bh op na) R Q
      refine w_getr rfl v_tyM rfl ?_
      refine w_st rfl (fun _ => rfl) ?_
      refine w_st rfl (fun _ => rfl) ?_
      refine w_st rfl (fun _ => rfl) ?_
      refine w_st rfl (fun _ => rfl) ?_
      refine w_st rfl (fun _ => rfl) ?_
      show w_T L xs (d + 8) m_X12_takesText 170 [(6, .int (Int32.ofInt (k : Int))), (5, .int (Int32.ofInt (B : Int))), (4, .int (Int32.ofInt (f : Int))), (3, .int m0), (0, .ref 100), (1, .int n), (2, .int u0)] [.ref 100, .int (Int32.ofInt (B : Int)), .int ((Int32.ofInt (f : Int)) + (Int32.ofInt (k : Int))), .ref 103] (p_S (v_ur S1 101 (upd (S1 101) (f + k) (S1 107 k))) pl cs sk cl (Int32.ofInt 0) nc sg ov bh op na) R Q
      refine w_getr rfl v_tyM rfl ?_
      refine w_st rfl (fun _ => rfl) ?_
      show w_T L xs (d + 8) m_X12_takesText 175 [(6, .int (Int32.ofInt (k : Int))), (5, .int (Int32.ofInt (B : Int))), (4, .int (Int32.ofInt (f : Int))), (3, .int m0), (0, .ref 100), (1, .int n), (2, .int u0)] [.int (Int32.ofInt (k : Int)), .ref 109, .int (Int32.ofInt (B : Int)), .int ((Int32.ofInt (f : Int)) + (Int32.ofInt (k : Int))), .ref 103] (p_S (v_ur S1 101 (upd (S1 101) (f + k) (S1 107 k))) pl cs sk cl (Int32.ofInt 0) nc sg ov bh op na) R Q
      refine w_iald rfl rfl (by rw [w_nat (by omega)]; omega) (by rw [w_nat (by omega)]; omega) ?_
      rw [w_natn (by omega)]
      refine w_st rfl (fun _ => rfl) ?_
      show w_T L xs (d + 8) m_X12_takesText 177 [(6, .int (Int32.ofInt (k : Int))), (5, .int (Int32.ofInt (B : Int))), (4, .int (Int32.ofInt (f : Int))), (3, .int m0), (0, .ref 100), (1, .int n), (2, .int u0)] [.int ((Int32.ofInt (B : Int)) + (S1 108 k)), .int ((Int32.ofInt (f : Int)) + (Int32.ofInt (k : Int))), .ref 103] (p_S (v_ur S1 101 (upd (S1 101) (f + k) (S1 107 k))) pl cs sk cl (Int32.ofInt 0) nc sg ov bh op na) R Q
      refine w_iast rfl rfl (by rw [w_addn, w_nat (by omega)]; omega) (by rw [w_addn, w_nat (by omega)]; omega) ?_
      refine w_eqS (p_wor (by decide) (by rw [w_addn, w_natn (by omega)])) ?_
      refine w_st rfl (fun _ => rfl) ?_
      show w_T L xs (d + 8) m_X12_takesText 179 [(6, .int (Int32.ofInt (k : Int))), (5, .int (Int32.ofInt (B : Int))), (4, .int (Int32.ofInt (f : Int))), (3, .int m0), (0, .ref 100), (1, .int n), (2, .int u0)] [.ref 100] (p_S (v_ur (v_ur S1 101 (upd (S1 101) (f + k) (S1 107 k))) 102 (upd ((v_ur S1 101 (upd (S1 101) (f + k) (S1 107 k))) 102) (f + k) ((Int32.ofInt (B : Int)) + (S1 108 k)))) pl cs sk cl (Int32.ofInt 0) nc sg ov bh op na) R Q
      refine w_getr rfl v_tyM rfl ?_
      refine w_st rfl (fun _ => rfl) ?_
      refine w_st rfl (fun _ => rfl) ?_
      refine w_st rfl (fun _ => rfl) ?_
      refine w_st rfl (fun _ => rfl) ?_
      refine w_st rfl (fun _ => rfl) ?_
      show w_T L xs (d + 8) m_X12_takesText 190 [(6, .int (Int32.ofInt (k : Int))), (5, .int (Int32.ofInt (B : Int))), (4, .int (Int32.ofInt (f : Int))), (3, .int m0), (0, .ref 100), (1, .int n), (2, .int u0)] [.ref 100, .int (Int32.ofInt (B : Int)), .int ((Int32.ofInt (f : Int)) + (Int32.ofInt (k : Int))), .ref 104] (p_S (v_ur (v_ur S1 101 (upd (S1 101) (f + k) (S1 107 k))) 102 (upd ((v_ur S1 101 (upd (S1 101) (f + k) (S1 107 k))) 102) (f + k) ((Int32.ofInt (B : Int)) + (S1 108 k)))) pl cs sk cl (Int32.ofInt 0) nc sg ov bh op na) R Q
      refine w_getr rfl v_tyM rfl ?_
      refine w_st rfl (fun _ => rfl) ?_
      show w_T L xs (d + 8) m_X12_takesText 195 [(6, .int (Int32.ofInt (k : Int))), (5, .int (Int32.ofInt (B : Int))), (4, .int (Int32.ofInt (f : Int))), (3, .int m0), (0, .ref 100), (1, .int n), (2, .int u0)] [.int (Int32.ofInt (k : Int)), .ref 110, .int (Int32.ofInt (B : Int)), .int ((Int32.ofInt (f : Int)) + (Int32.ofInt (k : Int))), .ref 104] (p_S (v_ur (v_ur S1 101 (upd (S1 101) (f + k) (S1 107 k))) 102 (upd ((v_ur S1 101 (upd (S1 101) (f + k) (S1 107 k))) 102) (f + k) ((Int32.ofInt (B : Int)) + (S1 108 k)))) pl cs sk cl (Int32.ofInt 0) nc sg ov bh op na) R Q
      refine w_iald rfl rfl (by rw [w_nat (by omega)]; omega) (by rw [w_nat (by omega)]; omega) ?_
      rw [w_natn (by omega)]
      refine w_st rfl (fun _ => rfl) ?_
      show w_T L xs (d + 8) m_X12_takesText 197 [(6, .int (Int32.ofInt (k : Int))), (5, .int (Int32.ofInt (B : Int))), (4, .int (Int32.ofInt (f : Int))), (3, .int m0), (0, .ref 100), (1, .int n), (2, .int u0)] [.int ((Int32.ofInt (B : Int)) + (S1 109 k)), .int ((Int32.ofInt (f : Int)) + (Int32.ofInt (k : Int))), .ref 104] (p_S (v_ur (v_ur S1 101 (upd (S1 101) (f + k) (S1 107 k))) 102 (upd ((v_ur S1 101 (upd (S1 101) (f + k) (S1 107 k))) 102) (f + k) ((Int32.ofInt (B : Int)) + (S1 108 k)))) pl cs sk cl (Int32.ofInt 0) nc sg ov bh op na) R Q
      refine w_iast rfl rfl (by rw [w_addn, w_nat (by omega)]; omega) (by rw [w_addn, w_nat (by omega)]; omega) ?_
      refine w_eqS (p_wor (by decide) (by rw [w_addn, w_natn (by omega)])) ?_
      refine w_st rfl (fun _ => rfl) ?_
      show w_T L xs (d + 8) m_X12_takesText 199 [(6, .int (Int32.ofInt (k : Int))), (5, .int (Int32.ofInt (B : Int))), (4, .int (Int32.ofInt (f : Int))), (3, .int m0), (0, .ref 100), (1, .int n), (2, .int u0)] [.ref 100] (p_S (v_ur (v_ur (v_ur S1 101 (upd (S1 101) (f + k) (S1 107 k))) 102 (upd ((v_ur S1 101 (upd (S1 101) (f + k) (S1 107 k))) 102) (f + k) ((Int32.ofInt (B : Int)) + (S1 108 k)))) 103 (upd ((v_ur (v_ur S1 101 (upd (S1 101) (f + k) (S1 107 k))) 102 (upd ((v_ur S1 101 (upd (S1 101) (f + k) (S1 107 k))) 102) (f + k) ((Int32.ofInt (B : Int)) + (S1 108 k)))) 103) (f + k) ((Int32.ofInt (B : Int)) + (S1 109 k)))) pl cs sk cl (Int32.ofInt 0) nc sg ov bh op na) R Q
      refine w_getr rfl v_tyM rfl ?_
      refine w_st rfl (fun _ => rfl) ?_
      refine w_st rfl (fun _ => rfl) ?_
      refine w_st rfl (fun _ => rfl) ?_
      refine w_st rfl (fun _ => rfl) ?_
      refine w_st rfl (fun _ => rfl) ?_
      show w_T L xs (d + 8) m_X12_takesText 210 [(6, .int (Int32.ofInt (k : Int))), (5, .int (Int32.ofInt (B : Int))), (4, .int (Int32.ofInt (f : Int))), (3, .int m0), (0, .ref 100), (1, .int n), (2, .int u0)] [.ref 100, .int (Int32.ofInt (B : Int)), .int ((Int32.ofInt (f : Int)) + (Int32.ofInt (k : Int))), .ref 105] (p_S (v_ur (v_ur (v_ur S1 101 (upd (S1 101) (f + k) (S1 107 k))) 102 (upd ((v_ur S1 101 (upd (S1 101) (f + k) (S1 107 k))) 102) (f + k) ((Int32.ofInt (B : Int)) + (S1 108 k)))) 103 (upd ((v_ur (v_ur S1 101 (upd (S1 101) (f + k) (S1 107 k))) 102 (upd ((v_ur S1 101 (upd (S1 101) (f + k) (S1 107 k))) 102) (f + k) ((Int32.ofInt (B : Int)) + (S1 108 k)))) 103) (f + k) ((Int32.ofInt (B : Int)) + (S1 109 k)))) pl cs sk cl (Int32.ofInt 0) nc sg ov bh op na) R Q
      refine w_getr rfl v_tyM rfl ?_
      refine w_st rfl (fun _ => rfl) ?_
      show w_T L xs (d + 8) m_X12_takesText 215 [(6, .int (Int32.ofInt (k : Int))), (5, .int (Int32.ofInt (B : Int))), (4, .int (Int32.ofInt (f : Int))), (3, .int m0), (0, .ref 100), (1, .int n), (2, .int u0)] [.int (Int32.ofInt (k : Int)), .ref 111, .int (Int32.ofInt (B : Int)), .int ((Int32.ofInt (f : Int)) + (Int32.ofInt (k : Int))), .ref 105] (p_S (v_ur (v_ur (v_ur S1 101 (upd (S1 101) (f + k) (S1 107 k))) 102 (upd ((v_ur S1 101 (upd (S1 101) (f + k) (S1 107 k))) 102) (f + k) ((Int32.ofInt (B : Int)) + (S1 108 k)))) 103 (upd ((v_ur (v_ur S1 101 (upd (S1 101) (f + k) (S1 107 k))) 102 (upd ((v_ur S1 101 (upd (S1 101) (f + k) (S1 107 k))) 102) (f + k) ((Int32.ofInt (B : Int)) + (S1 108 k)))) 103) (f + k) ((Int32.ofInt (B : Int)) + (S1 109 k)))) pl cs sk cl (Int32.ofInt 0) nc sg ov bh op na) R Q
      refine w_iald rfl rfl (by rw [w_nat (by omega)]; omega) (by rw [w_nat (by omega)]; omega) ?_
      rw [w_natn (by omega)]
      refine w_st rfl (fun _ => rfl) ?_
      show w_T L xs (d + 8) m_X12_takesText 217 [(6, .int (Int32.ofInt (k : Int))), (5, .int (Int32.ofInt (B : Int))), (4, .int (Int32.ofInt (f : Int))), (3, .int m0), (0, .ref 100), (1, .int n), (2, .int u0)] [.int ((Int32.ofInt (B : Int)) + (S1 110 k)), .int ((Int32.ofInt (f : Int)) + (Int32.ofInt (k : Int))), .ref 105] (p_S (v_ur (v_ur (v_ur S1 101 (upd (S1 101) (f + k) (S1 107 k))) 102 (upd ((v_ur S1 101 (upd (S1 101) (f + k) (S1 107 k))) 102) (f + k) ((Int32.ofInt (B : Int)) + (S1 108 k)))) 103 (upd ((v_ur (v_ur S1 101 (upd (S1 101) (f + k) (S1 107 k))) 102 (upd ((v_ur S1 101 (upd (S1 101) (f + k) (S1 107 k))) 102) (f + k) ((Int32.ofInt (B : Int)) + (S1 108 k)))) 103) (f + k) ((Int32.ofInt (B : Int)) + (S1 109 k)))) pl cs sk cl (Int32.ofInt 0) nc sg ov bh op na) R Q
      refine w_iast rfl rfl (by rw [w_addn, w_nat (by omega)]; omega) (by rw [w_addn, w_nat (by omega)]; omega) ?_
      refine w_eqS (p_wor (by decide) (by rw [w_addn, w_natn (by omega)])) ?_
      refine w_st rfl (fun _ => rfl) ?_
      refine w_st rfl (fun _ => rfl) ?_
      show w_T L xs (d + 8) m_X12_takesText 132 [(6, .int ((Int32.ofInt (k : Int)) + (Int32.ofInt 1))), (5, .int (Int32.ofInt (B : Int))), (4, .int (Int32.ofInt (f : Int))), (3, .int m0), (0, .ref 100), (1, .int n), (2, .int u0)] [] (p_S (v_ur (v_ur (v_ur (v_ur S1 101 (upd (S1 101) (f + k) (S1 107 k))) 102 (upd ((v_ur S1 101 (upd (S1 101) (f + k) (S1 107 k))) 102) (f + k) ((Int32.ofInt (B : Int)) + (S1 108 k)))) 103 (upd ((v_ur (v_ur S1 101 (upd (S1 101) (f + k) (S1 107 k))) 102 (upd ((v_ur S1 101 (upd (S1 101) (f + k) (S1 107 k))) 102) (f + k) ((Int32.ofInt (B : Int)) + (S1 108 k)))) 103) (f + k) ((Int32.ofInt (B : Int)) + (S1 109 k)))) 104 (upd ((v_ur (v_ur (v_ur S1 101 (upd (S1 101) (f + k) (S1 107 k))) 102 (upd ((v_ur S1 101 (upd (S1 101) (f + k) (S1 107 k))) 102) (f + k) ((Int32.ofInt (B : Int)) + (S1 108 k)))) 103 (upd ((v_ur (v_ur S1 101 (upd (S1 101) (f + k) (S1 107 k))) 102 (upd ((v_ur S1 101 (upd (S1 101) (f + k) (S1 107 k))) 102) (f + k) ((Int32.ofInt (B : Int)) + (S1 108 k)))) 103) (f + k) ((Int32.ofInt (B : Int)) + (S1 109 k)))) 104) (f + k) ((Int32.ofInt (B : Int)) + (S1 110 k)))) pl cs sk cl (Int32.ofInt 0) nc sg ov bh op na) R Q
      rw [w_inc]
      refine ih (k + 1) _ (by omega) (p_Tw (p_Tw (p_Tw (p_Tw hT (a := 101) rfl) (a := 102) rfl) (a := 103) rfl) (a := 104) rfl) (p_T_s hP (fun a j hn => ?_) ?_ ?_ ?_)
      · rw [w_urn (fun e => hn (by omega)), w_urn (fun e => hn (by omega)), w_urn (fun e => hn (by omega)), w_urn (fun e => hn (by omega))]
      · simp [v_ur, upd]
      · simp [v_ur, upd]
      · simp [v_ur, upd]
theorem h_c2 {n m0 u0 : Int32} {f B : Nat} (hB : B ≤ 240) (hcs : cs ≤ 240) (K : ∀ S2 : v_Sf, v_Tb v_ty S2 R → p_U B cs nc S0 S2 → Q (some (.int (Int32.ofInt (cl : Int)))) (p_S S2 pl cs sk cl (Int32.ofInt 0) nc sg ov bh op na) R) : ∀ (c k : Nat) (S1 : v_Sf), k + c = cs → v_Tb v_ty S1 R → p_U B k nc S0 S1 → w_T L xs (d + 8) m_X12_takesText 227 [(6, .int (Int32.ofInt (k : Int))), (5, .int (Int32.ofInt (B : Int))), (4, .int (Int32.ofInt (f : Int))), (3, .int m0), (0, .ref 100), (1, .int n), (2, .int u0)] [] (p_S S1 pl cs sk cl (Int32.ofInt 0) nc sg ov bh op na) R Q := by
  intro c
  induction c with
  | zero =>
    intro k S1 hk hT hP
    obtain rfl : k = cs := by omega
    have ek := w_nat (k := k) (by omega)
    refine w_st rfl (fun _ => rfl) ?_
    refine w_st rfl (fun _ => rfl) ?_
    show w_T L xs (d + 8) m_X12_takesText 230 [(6, .int (Int32.ofInt (k : Int))), (5, .int (Int32.ofInt (B : Int))), (4, .int (Int32.ofInt (f : Int))), (3, .int m0), (0, .ref 100), (1, .int n), (2, .int u0)] [.ref 100, .int (Int32.ofInt (k : Int))] (p_S S1 pl k sk cl (Int32.ofInt 0) nc sg ov bh op na) R Q
    refine w_get rfl v_tyM rfl ?_
    show w_T L xs (d + 8) m_X12_takesText 233 [(6, .int (Int32.ofInt (k : Int))), (5, .int (Int32.ofInt (B : Int))), (4, .int (Int32.ofInt (f : Int))), (3, .int m0), (0, .ref 100), (1, .int n), (2, .int u0)] [.int (Int32.ofInt (k : Int)), .int (Int32.ofInt (k : Int))] (p_S S1 pl k sk cl (Int32.ofInt 0) nc sg ov bh op na) R Q
    refine w_br (P := (Int32.ofInt (k : Int)) ≤ (Int32.ofInt (k : Int))) rfl (fun _ => rfl) (fun h233 => ?_) (fun h233 => ?_)
    · refine w_st rfl (fun _ => rfl) ?_
      show w_T L xs (d + 8) m_X12_takesText 277 [(6, .int (Int32.ofInt (k : Int))), (5, .int (Int32.ofInt (B : Int))), (4, .int (Int32.ofInt (f : Int))), (3, .int m0), (0, .ref 100), (1, .int n), (2, .int u0)] [.ref 100] (p_S S1 pl k sk cl (Int32.ofInt 0) nc sg ov bh op na) R Q
      refine w_get rfl v_tyM rfl ?_
      show w_T L xs (d + 8) m_X12_takesText 280 [(6, .int (Int32.ofInt (k : Int))), (5, .int (Int32.ofInt (B : Int))), (4, .int (Int32.ofInt (f : Int))), (3, .int m0), (0, .ref 100), (1, .int n), (2, .int u0)] [.int (Int32.ofInt (cl : Int))] (p_S S1 pl k sk cl (Int32.ofInt 0) nc sg ov bh op na) R Q
      refine w_ret rfl (by rfl) ?_
      exact K S1 hT hP
    · exfalso; rw [q_le32] at h233; omega
  | succ c ih =>
    intro k S1 hk hT hP
    have ek := w_nat (k := k) (by omega)
    have ec := w_nat (k := cs) (by omega)
    refine w_st rfl (fun _ => rfl) ?_
    refine w_st rfl (fun _ => rfl) ?_
    show w_T L xs (d + 8) m_X12_takesText 230 [(6, .int (Int32.ofInt (k : Int))), (5, .int (Int32.ofInt (B : Int))), (4, .int (Int32.ofInt (f : Int))), (3, .int m0), (0, .ref 100), (1, .int n), (2, .int u0)] [.ref 100, .int (Int32.ofInt (k : Int))] (p_S S1 pl cs sk cl (Int32.ofInt 0) nc sg ov bh op na) R Q
    refine w_get rfl v_tyM rfl ?_
    show w_T L xs (d + 8) m_X12_takesText 233 [(6, .int (Int32.ofInt (k : Int))), (5, .int (Int32.ofInt (B : Int))), (4, .int (Int32.ofInt (f : Int))), (3, .int m0), (0, .ref 100), (1, .int n), (2, .int u0)] [.int (Int32.ofInt (cs : Int)), .int (Int32.ofInt (k : Int))] (p_S S1 pl cs sk cl (Int32.ofInt 0) nc sg ov bh op na) R Q
    refine w_br (P := (Int32.ofInt (cs : Int)) ≤ (Int32.ofInt (k : Int))) rfl (fun _ => rfl) (fun h233 => ?_) (fun h233 => ?_)
    · exfalso; rw [q_le32, ec, ek] at h233; omega
    · refine w_st rfl (fun _ => rfl) ?_
      show w_T L xs (d + 8) m_X12_takesText 237 [(6, .int (Int32.ofInt (k : Int))), (5, .int (Int32.ofInt (B : Int))), (4, .int (Int32.ofInt (f : Int))), (3, .int m0), (0, .ref 100), (1, .int n), (2, .int u0)] [.ref 100] (p_S S1 pl cs sk cl (Int32.ofInt 0) nc sg ov bh op na) R Q
      refine w_getr rfl v_tyM rfl ?_
      refine w_st rfl (fun _ => rfl) ?_
      refine w_st rfl (fun _ => rfl) ?_
      refine w_st rfl (fun _ => rfl) ?_
      refine w_st rfl (fun _ => rfl) ?_
      show w_T L xs (d + 8) m_X12_takesText 246 [(6, .int (Int32.ofInt (k : Int))), (5, .int (Int32.ofInt (B : Int))), (4, .int (Int32.ofInt (f : Int))), (3, .int m0), (0, .ref 100), (1, .int n), (2, .int u0)] [.ref 100, .int ((Int32.ofInt (B : Int)) + (Int32.ofInt (k : Int))), .ref 106] (p_S S1 pl cs sk cl (Int32.ofInt 0) nc sg ov bh op na) R Q
      refine w_getr rfl v_tyM rfl ?_
      refine w_st rfl (fun _ => rfl) ?_
      show w_T L xs (d + 8) m_X12_takesText 251 [(6, .int (Int32.ofInt (k : Int))), (5, .int (Int32.ofInt (B : Int))), (4, .int (Int32.ofInt (f : Int))), (3, .int m0), (0, .ref 100), (1, .int n), (2, .int u0)] [.int (Int32.ofInt (k : Int)), .ref 112, .int ((Int32.ofInt (B : Int)) + (Int32.ofInt (k : Int))), .ref 106] (p_S S1 pl cs sk cl (Int32.ofInt 0) nc sg ov bh op na) R Q
      refine w_iald rfl rfl (by rw [w_nat (by omega)]; omega) (by rw [w_nat (by omega)]; omega) ?_
      rw [w_natn (by omega), p_rnc (by omega)]
      show w_T L xs (d + 8) m_X12_takesText 252 [(6, .int (Int32.ofInt (k : Int))), (5, .int (Int32.ofInt (B : Int))), (4, .int (Int32.ofInt (f : Int))), (3, .int m0), (0, .ref 100), (1, .int n), (2, .int u0)] [.int (nc k), .int ((Int32.ofInt (B : Int)) + (Int32.ofInt (k : Int))), .ref 106] (p_S S1 pl cs sk cl (Int32.ofInt 0) nc sg ov bh op na) R Q
      refine w_iast rfl rfl (by rw [w_addn, w_nat (by omega)]; omega) (by rw [w_addn, w_nat (by omega)]; omega) ?_
      refine w_eqS (p_wor (by decide) (by rw [w_addn, w_natn (by omega)])) ?_
      refine w_st rfl (fun _ => rfl) ?_
      show w_T L xs (d + 8) m_X12_takesText 254 [(6, .int (Int32.ofInt (k : Int))), (5, .int (Int32.ofInt (B : Int))), (4, .int (Int32.ofInt (f : Int))), (3, .int m0), (0, .ref 100), (1, .int n), (2, .int u0)] [.ref 100] (p_S (v_ur S1 105 (upd (S1 105) (B + k) (nc k))) pl cs sk cl (Int32.ofInt 0) nc sg ov bh op na) R Q
      refine w_getr rfl v_tyM rfl ?_
      refine w_st rfl (fun _ => rfl) ?_
      refine w_st rfl (fun _ => rfl) ?_
      refine w_st rfl (fun _ => rfl) ?_
      refine w_st rfl (fun _ => rfl) ?_
      show w_T L xs (d + 8) m_X12_takesText 263 [(6, .int (Int32.ofInt (k : Int))), (5, .int (Int32.ofInt (B : Int))), (4, .int (Int32.ofInt (f : Int))), (3, .int m0), (0, .ref 100), (1, .int n), (2, .int u0)] [.ref 100, .int ((Int32.ofInt (B : Int)) + (Int32.ofInt (k : Int))), .ref 107] (p_S (v_ur S1 105 (upd (S1 105) (B + k) (nc k))) pl cs sk cl (Int32.ofInt 0) nc sg ov bh op na) R Q
      refine w_getr rfl v_tyM rfl ?_
      refine w_st rfl (fun _ => rfl) ?_
      show w_T L xs (d + 8) m_X12_takesText 268 [(6, .int (Int32.ofInt (k : Int))), (5, .int (Int32.ofInt (B : Int))), (4, .int (Int32.ofInt (f : Int))), (3, .int m0), (0, .ref 100), (1, .int n), (2, .int u0)] [.int (Int32.ofInt (k : Int)), .ref 113, .int ((Int32.ofInt (B : Int)) + (Int32.ofInt (k : Int))), .ref 107] (p_S (v_ur S1 105 (upd (S1 105) (B + k) (nc k))) pl cs sk cl (Int32.ofInt 0) nc sg ov bh op na) R Q
      refine w_iald rfl rfl (by rw [w_nat (by omega)]; omega) (by rw [w_nat (by omega)]; omega) ?_
      rw [w_natn (by omega), p_rna (by omega)]
      show w_T L xs (d + 8) m_X12_takesText 269 [(6, .int (Int32.ofInt (k : Int))), (5, .int (Int32.ofInt (B : Int))), (4, .int (Int32.ofInt (f : Int))), (3, .int m0), (0, .ref 100), (1, .int n), (2, .int u0)] [.int (na k), .int ((Int32.ofInt (B : Int)) + (Int32.ofInt (k : Int))), .ref 107] (p_S (v_ur S1 105 (upd (S1 105) (B + k) (nc k))) pl cs sk cl (Int32.ofInt 0) nc sg ov bh op na) R Q
      refine w_iast rfl rfl (by rw [w_addn, w_nat (by omega)]; omega) (by rw [w_addn, w_nat (by omega)]; omega) ?_
      refine w_eqS (p_wor (by decide) (by rw [w_addn, w_natn (by omega)])) ?_
      refine w_st rfl (fun _ => rfl) ?_
      refine w_st rfl (fun _ => rfl) ?_
      show w_T L xs (d + 8) m_X12_takesText 227 [(6, .int ((Int32.ofInt (k : Int)) + (Int32.ofInt 1))), (5, .int (Int32.ofInt (B : Int))), (4, .int (Int32.ofInt (f : Int))), (3, .int m0), (0, .ref 100), (1, .int n), (2, .int u0)] [] (p_S (v_ur (v_ur S1 105 (upd (S1 105) (B + k) (nc k))) 106 (upd ((v_ur S1 105 (upd (S1 105) (B + k) (nc k))) 106) (B + k) (na k))) pl cs sk cl (Int32.ofInt 0) nc sg ov bh op na) R Q
      rw [w_inc]
      refine ih (k + 1) _ (by omega) (p_Tw (p_Tw hT (a := 105) rfl) (a := 106) rfl) (p_U_s hP (fun a j hn => ?_) ?_)
      · rw [w_urn (fun e => hn (by omega)), w_urn (fun e => hn (by omega))]
      · simp [v_ur, upd]
theorem h_t9L {n : Int32} (hT : v_Tb v_ty S0 R) {S1 : v_Sf} {pl' cs' sk' cl' : Nat} {nc' sg' na' : Nat → Int32} {o : Int32} {v' h' : Bool} (f1 : p_F (p_bg S0 n) S1) (f2 : v_Tb v_ty S1 R) (f3 : p_Z S1 cl' cs' nc') (f4 : cs' ≤ 240) (f5 : pl' ≤ 240) (f6 : sk' ≤ 240) (f7 : cl' ≤ 16) (Kg : ∀ (S3 : v_Sf) (pl' cs' sk' cl' : Nat) (nc' sg' na' : Nat → Int32) (o : Int32) (v' h' : Bool), p_X 0 0 16 S0 S3 → p_Y 0 0 cl' S3 → v_Tb v_ty S3 R → cs' ≤ 240 → pl' ≤ 240 → sk' ≤ 240 → cl' ≤ 16 → Q (some (.int (Int32.ofInt (cl' : Int)))) (p_S S3 (pl') (cs') (sk') (cl') (Int32.ofInt 0) (nc') (sg') (v') (h') o (na')) R) : w_T L xs (d + 8) m_X12_takesText 92 [(3, .int (Int32.ofInt 0)), (0, .ref 100), (1, .int n), (2, .int (Int32.ofInt 0))] [] (p_S S1 (pl') (cs') (sk') (cl') (Int32.ofInt 0) (nc') (sg') (v') (h') o (na')) R Q := by
  refine w_st rfl (fun _ => rfl) ?_
  show w_T L xs (d + 8) m_X12_takesText 93 [(3, .int (Int32.ofInt 0)), (0, .ref 100), (1, .int n), (2, .int (Int32.ofInt 0))] [.ref 100] (p_S S1 (pl') (cs') (sk') (cl') (Int32.ofInt 0) (nc') (sg') (v') (h') o (na')) R Q
  refine w_get rfl v_tyM rfl ?_
  show w_T L xs (d + 8) m_X12_takesText 96 [(3, .int (Int32.ofInt 0)), (0, .ref 100), (1, .int n), (2, .int (Int32.ofInt 0))] [.int (Int32.ofInt 0)] (p_S S1 (pl') (cs') (sk') (cl') (Int32.ofInt 0) (nc') (sg') (v') (h') o (na')) R Q
  refine w_st rfl (fun _ => rfl) ?_
  refine w_st rfl (fun _ => rfl) ?_
  show w_T L xs (d + 8) m_X12_takesText 105 [(3, .int (Int32.ofInt 0)), (0, .ref 100), (1, .int n), (2, .int (Int32.ofInt 0))] [.int (Int32.ofInt 0)] (p_S S1 (pl') (cs') (sk') (cl') (Int32.ofInt 0) (nc') (sg') (v') (h') o (na')) R Q
  refine w_st rfl (fun _ => rfl) ?_
  refine w_st rfl (fun _ => rfl) ?_
  refine w_st rfl (fun _ => rfl) ?_
  refine w_st rfl (fun _ => rfl) ?_
  show w_T L xs (d + 8) m_X12_takesText 117 [(4, .int (Int32.ofInt 0)), (3, .int (Int32.ofInt 0)), (0, .ref 100), (1, .int n), (2, .int (Int32.ofInt 0))] [.int (Int32.ofInt 0)] (p_S S1 (pl') (cs') (sk') (cl') (Int32.ofInt 0) (nc') (sg') (v') (h') o (na')) R Q
  refine w_st rfl (fun _ => rfl) ?_
  refine w_st rfl (fun _ => rfl) ?_
  refine w_st rfl (fun _ => rfl) ?_
  refine w_st rfl (fun _ => rfl) ?_
  refine w_st rfl (fun _ => rfl) ?_
  show w_T L xs (d + 8) m_X12_takesText 132 [(6, .int (Int32.ofInt 0)), (5, .int (Int32.ofInt 0)), (4, .int (Int32.ofInt 0)), (3, .int (Int32.ofInt 0)), (0, .ref 100), (1, .int n), (2, .int (Int32.ofInt 0))] [] (p_S S1 (pl') (cs') (sk') (cl') (Int32.ofInt 0) (nc') (sg') (v') (h') o (na')) R Q
  refine h_c1 (f := 0) (B := 0) (by omega) (by omega) (by omega) (fun S2 g1 g2 => ?_) cl' 0 S1 (by omega) f2 ⟨fun _ _ _ => rfl, fun k hk => absurd hk (by omega)⟩
  refine w_st rfl (fun _ => rfl) ?_
  refine w_st rfl (fun _ => rfl) ?_
  refine h_c2 (f := 0) (B := 0) (by omega) (by omega) (fun S3 e1 e2 => ?_) cs' 0 S2 (by omega) g1 ⟨fun _ _ _ => rfl, fun k hk => absurd hk (by omega)⟩
  exact Kg S3 pl' cs' sk' cl' nc' sg' na' o v' h' (p_X_of f7 f4 f1 g2 e2) (p_Y_of (by omega) f4 f3 g2 e2) e1 f4 f5 f6 f7
theorem h_textL {n : Int32} (hn1 : 1 ≤ n.toInt) (hn2 : n.toInt ≤ 240) (hT : v_Tb v_ty S0 R) (hsk : sk ≤ 240) (Kg : ∀ (S3 : v_Sf) (pl' cs' sk' cl' : Nat) (nc' sg' na' : Nat → Int32) (o : Int32) (v' h' : Bool), p_X 0 0 16 S0 S3 → p_Y 0 0 cl' S3 → v_Tb v_ty S3 R → cs' ≤ 240 → pl' ≤ 240 → sk' ≤ 240 → cl' ≤ 16 → Q (some (.int (Int32.ofInt (cl' : Int)))) (p_S S3 (pl') (cs') (sk') (cl') (Int32.ofInt 0) (nc') (sg') (v') (h') o (na')) R) (Kb : ∀ (S1 : v_Sf) (pl' cs' sk' cl' : Nat) (b' : Int32) (nc' sg' na' : Nat → Int32) (o : Int32) (v' h' : Bool), p_F (p_bg S0 n) S1 → v_Tb v_ty S1 R → b'.toInt < 0 → cs' ≤ 240 → pl' ≤ 240 → sk' ≤ 240 → cl' ≤ 16 → Q (some (.int b')) (p_S S1 (pl') (cs') (sk') (cl') (b') (nc') (sg') (v') (h') o (na')) R) : w_T L xs (d + 8) m_X12_takesText 0 (lv_args 0 [.ref 100, .int n, .int (Int32.ofInt 0)]) [] (p_S S0 pl cs sk cl bd nc sg ov bh op na) R Q := by
  have hT1 : v_Tb v_ty (p_bg S0 n) R := w_TbF (w_TbF hT v_tyM rfl (by decide) (by decide)) v_tyM rfl (by show (0 : Int) ≤ n.toInt; omega) (by show n.toInt ≤ (260 : Int); omega)
  have he0 : (p_bg S0 n 99 4).toInt ≤ 240 := by rw [p_bg4]; exact hn2
  refine w_st rfl (fun _ => rfl) ?_
  refine w_st rfl (fun _ => rfl) ?_
  show w_T L xs (d + 8) m_X12_takesText 2 [(0, .ref 100), (1, .int n), (2, .int (Int32.ofInt 0))] [.int n, .ref 100] (p_S S0 pl cs sk cl bd nc sg ov bh op na) R Q
  refine w_cv rfl (by decide) mt_X12_begins v_tyM rfl rfl rfl (Nat.le_of_ble_eq_true rfl) (Nat.le_of_ble_eq_true rfl) (Nat.le_of_ble_eq_true rfl) ?_
  show w_T L xs _ m_X12_begins 0 (lv_args 0 [.ref 100, .int n]) [] (p_S S0 pl cs sk cl bd nc sg ov bh op na) R _
  refine h_begins _ ?_
  refine w_st rfl (fun _ => rfl) ?_
  refine w_st rfl (fun _ => rfl) ?_
  show w_T L xs (d + 8) m_X12_takesText 7 [(0, .ref 100), (1, .int n), (2, .int (Int32.ofInt 0))] [.int (Int32.ofInt 0), .ref 100] (p_S (p_bg S0 n) 0 cs sk cl (Int32.ofInt 0) nc sg ov bh op na) R Q
  refine w_put rfl v_tyM rfl rfl rfl ?_
  refine w_eqS (p_wcl (k := 0) rfl) ?_
  refine w_st rfl (fun _ => rfl) ?_
  refine w_st rfl (fun _ => rfl) ?_
  show w_T L xs (d + 8) m_X12_takesText 12 [(0, .ref 100), (1, .int n), (2, .int (Int32.ofInt 0))] [.int (Int32.ofInt 0), .ref 100] (p_S (p_bg S0 n) 0 cs sk 0 (Int32.ofInt 0) nc sg ov bh op na) R Q
  refine w_put rfl v_tyM rfl rfl rfl ?_
  refine w_eqS (p_wcs (k := 0) rfl) ?_
  refine w_st rfl (fun _ => rfl) ?_
  refine w_st rfl (fun _ => rfl) ?_
  show w_T L xs (d + 8) m_X12_takesText 17 [(3, .int (Int32.ofInt 1)), (0, .ref 100), (1, .int n), (2, .int (Int32.ofInt 0))] [] (p_S (p_bg S0 n) 0 0 sk 0 (Int32.ofInt 0) nc sg ov bh op na) R Q
  refine h_txLL he0 (fun S1 pl' cs' sk' cl' nc' sg' na' o v' h' f1 f2 f3 f4 f5 f6 f7 => ?_) (fun S1 pl' cs' sk' cl' b' nc' sg' na' o v' h' f1 => Kb S1 pl' cs' sk' cl' b' nc' sg' na' o v' h' f1) 240 _ 0 0 sk 0 nc sg na op ov bh (by omega) (p_F_rf _) hT1 (fun k hk => absurd hk (by omega)) (by omega) (by omega) hsk (by omega)
  exact h_t9L hT f1 f2 f3 f4 f5 f6 f7 Kg
theorem h_t9R {n : Int32} (hT : v_Tb v_ty S0 R) {S1 : v_Sf} {pl' cs' sk' cl' : Nat} {nc' sg' na' : Nat → Int32} {o : Int32} {v' h' : Bool} (f1 : p_F (p_bg S0 n) S1) (f2 : v_Tb v_ty S1 R) (f3 : p_Z S1 cl' cs' nc') (f4 : cs' ≤ 240) (f5 : pl' ≤ 240) (f6 : sk' ≤ 240) (f7 : cl' ≤ 12) (Kg : ∀ (S3 : v_Sf) (pl' cs' sk' cl' : Nat) (nc' sg' na' : Nat → Int32) (o : Int32) (v' h' : Bool), p_X 16 240 12 S0 S3 → p_Y 16 240 cl' S3 → v_Tb v_ty S3 R → cs' ≤ 240 → pl' ≤ 240 → sk' ≤ 240 → cl' ≤ 12 → Q (some (.int (Int32.ofInt (cl' : Int)))) (p_S S3 (pl') (cs') (sk') (cl') (Int32.ofInt 0) (nc') (sg') (v') (h') o (na')) R) : w_T L xs (d + 8) m_X12_takesText 92 [(3, .int (Int32.ofInt 0)), (0, .ref 100), (1, .int n), (2, .int (Int32.ofInt 1))] [] (p_S S1 (pl') (cs') (sk') (cl') (Int32.ofInt 0) (nc') (sg') (v') (h') o (na')) R Q := by
  refine w_st rfl (fun _ => rfl) ?_
  show w_T L xs (d + 8) m_X12_takesText 93 [(3, .int (Int32.ofInt 0)), (0, .ref 100), (1, .int n), (2, .int (Int32.ofInt 1))] [.ref 100] (p_S S1 (pl') (cs') (sk') (cl') (Int32.ofInt 0) (nc') (sg') (v') (h') o (na')) R Q
  refine w_get rfl v_tyM rfl ?_
  show w_T L xs (d + 8) m_X12_takesText 96 [(3, .int (Int32.ofInt 0)), (0, .ref 100), (1, .int n), (2, .int (Int32.ofInt 1))] [.int (Int32.ofInt 0)] (p_S S1 (pl') (cs') (sk') (cl') (Int32.ofInt 0) (nc') (sg') (v') (h') o (na')) R Q
  refine w_st rfl (fun _ => rfl) ?_
  refine w_st rfl (fun _ => rfl) ?_
  show w_T L xs (d + 8) m_X12_takesText 105 [(3, .int (Int32.ofInt 0)), (0, .ref 100), (1, .int n), (2, .int (Int32.ofInt 1))] [.int (Int32.ofInt 1)] (p_S S1 (pl') (cs') (sk') (cl') (Int32.ofInt 0) (nc') (sg') (v') (h') o (na')) R Q
  refine w_st rfl (fun _ => rfl) ?_
  refine w_st rfl (fun _ => rfl) ?_
  refine w_st rfl (fun _ => rfl) ?_
  refine w_st rfl (fun _ => rfl) ?_
  refine w_st rfl (fun _ => rfl) ?_
  show w_T L xs (d + 8) m_X12_takesText 117 [(4, .int (Int32.ofInt 16)), (3, .int (Int32.ofInt 0)), (0, .ref 100), (1, .int n), (2, .int (Int32.ofInt 1))] [.int (Int32.ofInt 1)] (p_S S1 (pl') (cs') (sk') (cl') (Int32.ofInt 0) (nc') (sg') (v') (h') o (na')) R Q
  refine w_st rfl (fun _ => rfl) ?_
  refine w_st rfl (fun _ => rfl) ?_
  refine w_st rfl (fun _ => rfl) ?_
  refine w_st rfl (fun _ => rfl) ?_
  refine w_st rfl (fun _ => rfl) ?_
  refine w_st rfl (fun _ => rfl) ?_
  show w_T L xs (d + 8) m_X12_takesText 132 [(6, .int (Int32.ofInt 0)), (5, .int (Int32.ofInt 240)), (4, .int (Int32.ofInt 16)), (3, .int (Int32.ofInt 0)), (0, .ref 100), (1, .int n), (2, .int (Int32.ofInt 1))] [] (p_S S1 (pl') (cs') (sk') (cl') (Int32.ofInt 0) (nc') (sg') (v') (h') o (na')) R Q
  refine h_c1 (f := 16) (B := 240) (by omega) (by omega) (by omega) (fun S2 g1 g2 => ?_) cl' 0 S1 (by omega) f2 ⟨fun _ _ _ => rfl, fun k hk => absurd hk (by omega)⟩
  refine w_st rfl (fun _ => rfl) ?_
  refine w_st rfl (fun _ => rfl) ?_
  refine h_c2 (f := 16) (B := 240) (by omega) (by omega) (fun S3 e1 e2 => ?_) cs' 0 S2 (by omega) g1 ⟨fun _ _ _ => rfl, fun k hk => absurd hk (by omega)⟩
  exact Kg S3 pl' cs' sk' cl' nc' sg' na' o v' h' (p_X_of f7 f4 f1 g2 e2) (p_Y_of (by omega) f4 f3 g2 e2) e1 f4 f5 f6 f7
theorem h_textR {n : Int32} (hn1 : 1 ≤ n.toInt) (hn2 : n.toInt ≤ 240) (hT : v_Tb v_ty S0 R) (hsk : sk ≤ 240) (Kg : ∀ (S3 : v_Sf) (pl' cs' sk' cl' : Nat) (nc' sg' na' : Nat → Int32) (o : Int32) (v' h' : Bool), p_X 16 240 12 S0 S3 → p_Y 16 240 cl' S3 → v_Tb v_ty S3 R → cs' ≤ 240 → pl' ≤ 240 → sk' ≤ 240 → cl' ≤ 12 → Q (some (.int (Int32.ofInt (cl' : Int)))) (p_S S3 (pl') (cs') (sk') (cl') (Int32.ofInt 0) (nc') (sg') (v') (h') o (na')) R) (Kb : ∀ (S1 : v_Sf) (pl' cs' sk' cl' : Nat) (b' : Int32) (nc' sg' na' : Nat → Int32) (o : Int32) (v' h' : Bool), p_F (p_bg S0 n) S1 → v_Tb v_ty S1 R → b'.toInt < 0 → cs' ≤ 240 → pl' ≤ 240 → sk' ≤ 240 → cl' ≤ 16 → Q (some (.int b')) (p_S S1 (pl') (cs') (sk') (cl') (b') (nc') (sg') (v') (h') o (na')) R) : w_T L xs (d + 8) m_X12_takesText 0 (lv_args 0 [.ref 100, .int n, .int (Int32.ofInt 1)]) [] (p_S S0 pl cs sk cl bd nc sg ov bh op na) R Q := by
  have hT1 : v_Tb v_ty (p_bg S0 n) R := w_TbF (w_TbF hT v_tyM rfl (by decide) (by decide)) v_tyM rfl (by show (0 : Int) ≤ n.toInt; omega) (by show n.toInt ≤ (260 : Int); omega)
  have he0 : (p_bg S0 n 99 4).toInt ≤ 240 := by rw [p_bg4]; exact hn2
  refine w_st rfl (fun _ => rfl) ?_
  refine w_st rfl (fun _ => rfl) ?_
  show w_T L xs (d + 8) m_X12_takesText 2 [(0, .ref 100), (1, .int n), (2, .int (Int32.ofInt 1))] [.int n, .ref 100] (p_S S0 pl cs sk cl bd nc sg ov bh op na) R Q
  refine w_cv rfl (by decide) mt_X12_begins v_tyM rfl rfl rfl (Nat.le_of_ble_eq_true rfl) (Nat.le_of_ble_eq_true rfl) (Nat.le_of_ble_eq_true rfl) ?_
  show w_T L xs _ m_X12_begins 0 (lv_args 0 [.ref 100, .int n]) [] (p_S S0 pl cs sk cl bd nc sg ov bh op na) R _
  refine h_begins _ ?_
  refine w_st rfl (fun _ => rfl) ?_
  refine w_st rfl (fun _ => rfl) ?_
  show w_T L xs (d + 8) m_X12_takesText 7 [(0, .ref 100), (1, .int n), (2, .int (Int32.ofInt 1))] [.int (Int32.ofInt 0), .ref 100] (p_S (p_bg S0 n) 0 cs sk cl (Int32.ofInt 0) nc sg ov bh op na) R Q
  refine w_put rfl v_tyM rfl rfl rfl ?_
  refine w_eqS (p_wcl (k := 0) rfl) ?_
  refine w_st rfl (fun _ => rfl) ?_
  refine w_st rfl (fun _ => rfl) ?_
  show w_T L xs (d + 8) m_X12_takesText 12 [(0, .ref 100), (1, .int n), (2, .int (Int32.ofInt 1))] [.int (Int32.ofInt 0), .ref 100] (p_S (p_bg S0 n) 0 cs sk 0 (Int32.ofInt 0) nc sg ov bh op na) R Q
  refine w_put rfl v_tyM rfl rfl rfl ?_
  refine w_eqS (p_wcs (k := 0) rfl) ?_
  refine w_st rfl (fun _ => rfl) ?_
  refine w_st rfl (fun _ => rfl) ?_
  show w_T L xs (d + 8) m_X12_takesText 17 [(3, .int (Int32.ofInt 1)), (0, .ref 100), (1, .int n), (2, .int (Int32.ofInt 1))] [] (p_S (p_bg S0 n) 0 0 sk 0 (Int32.ofInt 0) nc sg ov bh op na) R Q
  refine h_txRL he0 (fun S1 pl' cs' sk' cl' nc' sg' na' o v' h' f1 f2 f3 f4 f5 f6 f7 => ?_) (fun S1 pl' cs' sk' cl' b' nc' sg' na' o v' h' f1 => Kb S1 pl' cs' sk' cl' b' nc' sg' na' o v' h' f1) 240 _ 0 0 sk 0 nc sg na op ov bh (by omega) (p_F_rf _) hT1 (fun k hk => absurd hk (by omega)) (by omega) (by omega) hsk (by omega)
  exact h_t9R hT f1 f2 f3 f4 f5 f6 f7 Kg
end PL
end Prt39i
section Prt39j
/-! law and rules: their rows -/
section PM
variable {R : v_Rf} {S0 : v_Sf} {pl cs sk cl : Nat} {bd : Int32} {nc sg : Nat → Int32} {ov bh : Bool} {op : Int32} {na : Nat → Int32}
theorem p_S_at {a j : Nat} (h1 : a = 99 → ¬ j = 3 ∧ ¬ j = 7 ∧ ¬ j = 9 ∧ ¬ j = 6 ∧ ¬ j = 5 ∧ ¬ j = 24 ∧ ¬ j = 25 ∧ ¬ j = 8) (h2 : (a = 111 ∨ a = 112 ∨ a = 113) → ¬ j < 240) : (p_S S0 pl cs sk cl bd nc sg ov bh op na) a j = S0 a j := by
  unfold p_S
  by_cases ha : a = 99
  · obtain ⟨y1, y2, y3, y8, y4, y5, y6, y7⟩ := h1 ha
    rw [p_bq y1, p_bq y2, p_bq y3, p_bq y8, p_bq y4, p_bq y5, p_bq y6, p_bq y7, ha]
    rfl
  · rw [p_bq ha]
    by_cases hr : a = 111 ∨ a = 112 ∨ a = 113
    · rw [p_blf (h2 hr)]
      show (bif Nat.beq a 111 && false then nc j else bif Nat.beq a 113 && false then sg j else bif Nat.beq a 112 && false then na j else S0 a j) = S0 a j
      rw [Bool.and_false, Bool.and_false, Bool.and_false]
      rfl
    · rw [p_bq (show ¬ a = 111 by omega), p_bq (show ¬ a = 112 by omega), p_bq (show ¬ a = 113 by omega)]
      rfl
theorem p_TF {S S' : v_Sf} {a j : Nat} {ft : v_Ft} (e : S' a j = S a j) (h : v_TbF S R a j ft) : v_TbF S' R a j ft := by
  unfold v_TbF at h ⊢
  split
  · rw [e]; exact h
  · trivial
  · exact h
theorem p_TC {S S' : v_Sf} {a : Nat} {c : v_Ct} (e : ∀ j, S' a j = S a j) (h : v_TbC S R a c) : v_TbC S' R a c := by
  unfold v_TbC at h ⊢
  split
  · intro j hj
    rw [e]
    exact h j hj
  · exact h
  · exact fun j ft hj => p_TF (e j) (h j ft hj)
theorem p_b01 (b : Bool) : 0 ≤ (p_b b).toInt ∧ (p_b b).toInt ≤ 1 := by cases b <;> decide
theorem p_Tb (hT : v_Tb v_ty S0 R) (h1 : pl ≤ 1000) (h2 : cs ≤ 240) (h3 : sk ≤ 240) (h4 : cl ≤ 16) : v_Tb v_ty (p_S S0 pl cs sk cl bd nc sg ov bh op na) R := by
  intro a c hc
  by_cases ha : a = 99
  · subst ha
    rw [v_tyM] at hc
    cases hc
    intro j ft hj
    by_cases y1 : j = 3
    · subst y1
      cases (Option.some.inj (show some (.inl (0, 1000)) = some ft from hj))
      exact ⟨by show (0 : Int) ≤ (Int32.ofInt (pl : Int)).toInt; rw [w_nat (by omega)]; omega, by show (Int32.ofInt (pl : Int)).toInt ≤ (1000 : Int); rw [w_nat (by omega)]; omega⟩
    · by_cases y2 : j = 7
      · subst y2
        cases (Option.some.inj (show some (.inl (0, 240)) = some ft from hj))
        exact ⟨by show (0 : Int) ≤ (Int32.ofInt (cs : Int)).toInt; rw [w_nat (by omega)]; omega, by show (Int32.ofInt (cs : Int)).toInt ≤ (240 : Int); rw [w_nat (by omega)]; omega⟩
      · by_cases y3 : j = 9
        · subst y3
          cases (Option.some.inj (show some (.inl (0, 240)) = some ft from hj))
          exact ⟨by show (0 : Int) ≤ (Int32.ofInt (sk : Int)).toInt; rw [w_nat (by omega)]; omega, by show (Int32.ofInt (sk : Int)).toInt ≤ (240 : Int); rw [w_nat (by omega)]; omega⟩
        · by_cases y8 : j = 6
          · subst y8
            cases (Option.some.inj (show some (.inl (0, 16)) = some ft from hj))
            exact ⟨by show (0 : Int) ≤ (Int32.ofInt (cl : Int)).toInt; rw [w_nat (by omega)]; omega, by show (Int32.ofInt (cl : Int)).toInt ≤ (16 : Int); rw [w_nat (by omega)]; omega⟩
          · by_cases y4 : j = 5
            · subst y4
              cases (Option.some.inj (show some (.inl ((-2147483648), 2147483647)) = some ft from hj))
              exact q_rng _
            · by_cases y5 : j = 24
              · subst y5
                cases (Option.some.inj (show some (.inl (0, 1)) = some ft from hj))
                exact p_b01 ov
              · by_cases y6 : j = 25
                · subst y6
                  cases (Option.some.inj (show some (.inl (0, 1)) = some ft from hj))
                  exact p_b01 bh
                · by_cases y7 : j = 8
                  · subst y7
                    cases (Option.some.inj (show some (.inl ((-2147483648), 2147483647)) = some ft from hj))
                    exact q_rng _
                  · exact p_TF (p_S_at (fun _ => ⟨y1, y2, y3, y8, y4, y5, y6, y7⟩) (fun h => by omega)) (hT 99 _ v_tyM j ft hj)
  · by_cases h11 : a = 111
    · subst h11
      cases (Option.some.inj ((show v_ty 111 = some (.inl (0, 240, (-2147483648), 2147483647)) from rfl).symm.trans hc))
      exact fun j _ => q_rng _
    · by_cases h12 : a = 112
      · subst h12
        cases (Option.some.inj ((show v_ty 112 = some (.inl (0, 240, (-2147483648), 2147483647)) from rfl).symm.trans hc))
        exact fun j _ => q_rng _
      · by_cases h13 : a = 113
        · subst h13
          cases (Option.some.inj ((show v_ty 113 = some (.inl (0, 240, (-2147483648), 2147483647)) from rfl).symm.trans hc))
          exact fun j _ => q_rng _
        · exact p_TC (fun j => p_S_at (fun h => absurd h ha) (fun h => by omega)) (hT a c hc)
theorem p_bof {x : Int32} (h1 : 0 ≤ x.toInt) (h2 : x.toInt ≤ 1) : ∃ b, x = p_b b := by
  have e := q_of x
  by_cases h : x.toInt = 0
  · exact ⟨false, by rw [← e, h]; rfl⟩
  · exact ⟨true, by rw [← e, show x.toInt = 1 by omega]; rfl⟩
theorem p_nof {x : Int32} (h1 : 0 ≤ x.toInt) : x = Int32.ofInt ((x.toInt.toNat : Nat) : Int) := by
  rw [show ((x.toInt.toNat : Nat) : Int) = x.toInt by omega, q_of]
theorem p_S_of {S : v_Sf} (hT : v_Tb v_ty S R) : ∃ (pl cs sk cl : Nat) (ov bh : Bool), S = p_S S pl cs sk cl (S 99 5) (S 111) (S 113) ov bh (S 99 8) (S 112) ∧ sk ≤ 240 ∧ pl ≤ 1000 ∧ cs ≤ 240 ∧ cl ≤ 16 := by
  have h3 : 0 ≤ (S 99 3).toInt ∧ (S 99 3).toInt ≤ 1000 := hT 99 _ v_tyM 3 _ rfl
  have h7 : 0 ≤ (S 99 7).toInt ∧ (S 99 7).toInt ≤ 240 := hT 99 _ v_tyM 7 _ rfl
  have h9 : 0 ≤ (S 99 9).toInt ∧ (S 99 9).toInt ≤ 240 := hT 99 _ v_tyM 9 _ rfl
  have h6 : 0 ≤ (S 99 6).toInt ∧ (S 99 6).toInt ≤ 16 := hT 99 _ v_tyM 6 _ rfl
  have h24 : 0 ≤ (S 99 24).toInt ∧ (S 99 24).toInt ≤ 1 := hT 99 _ v_tyM 24 _ rfl
  have h25 : 0 ≤ (S 99 25).toInt ∧ (S 99 25).toInt ≤ 1 := hT 99 _ v_tyM 25 _ rfl
  obtain ⟨o, ho⟩ := p_bof h24.1 h24.2
  obtain ⟨b, hb⟩ := p_bof h25.1 h25.2
  refine ⟨(S 99 3).toInt.toNat, (S 99 7).toInt.toNat, (S 99 9).toInt.toNat, (S 99 6).toInt.toNat, o, b, ?_, by omega, by omega, by omega, by omega⟩
  funext a j
  by_cases ha : a = 99
  · subst ha
    by_cases y1 : j = 3
    · subst y1; exact p_nof h3.1
    · by_cases y2 : j = 7
      · subst y2; exact p_nof h7.1
      · by_cases y3 : j = 9
        · subst y3; exact p_nof h9.1
        · by_cases y8 : j = 6
          · subst y8; exact p_nof h6.1
          · by_cases y4 : j = 5
            · subst y4; rfl
            · by_cases y5 : j = 24
              · subst y5; exact ho
              · by_cases y6 : j = 25
                · subst y6; exact hb
                · by_cases y7 : j = 8
                  · subst y7; rfl
                  · exact (p_S_at (fun _ => ⟨y1, y2, y3, y8, y4, y5, y6, y7⟩) (fun h => by omega)).symm
  · by_cases hj : j < 240
    · by_cases h11 : a = 111
      · subst h11; exact (p_rnc hj).symm
      · by_cases h12 : a = 112
        · subst h12; exact (p_rna hj).symm
        · by_cases h13 : a = 113
          · subst h13; exact (p_rsg hj).symm
          · exact (p_S_at (fun h => absurd h ha) (fun h => by omega)).symm
    · exact (p_S_at (fun h => absurd h ha) (fun _ => hj)).symm
theorem p_str_c {c c' : Nat → Int32} {a b : Int32} (h : ∀ j : Nat, a.toInt ≤ (j : Int) → (j : Int) < b.toInt → c' j = c j) (hs : v_stretch c a b) : v_stretch c' a b := by
  obtain ⟨h1, h2, h3, h4, h5⟩ := hs
  exact ⟨h1, h2, h3, h4, v_seg_c (fun j g1 g2 => h j (by omega) (by omega)) h5⟩
theorem p_nmd {m : List (Nat × Nat × Nat)} {a a0 lo hi j : Nat} (hk : v_md m a0 lo hi = true) (hm : v_md m a j j = false) : ¬ (a = a0 ∧ lo ≤ j ∧ j ≤ hi) := fun e => by
  have k := v_md_mono hk e.2.1 e.2.2
  rw [← e.1, hm] at k
  cases k
end PM
theorem p_frL {R : v_Rf} {S S3 : v_Sf} {pl cs sk cl : Nat} {bd : Int32} {nc sg : Nat → Int32} {ov bh : Bool} {op : Int32} {na : Nat → Int32} (hX : ∀ a j, ¬ (a = 99 ∧ (j = 1 ∨ j = 4 ∨ j = 16)) → ¬ (107 ≤ a ∧ a ≤ 110 ∧ j ≤ 16) → ¬ (101 ≤ a ∧ a ≤ 104 ∧ 0 ≤ j ∧ j < 16) → ¬ ((a = 105 ∨ a = 106) ∧ 0 ≤ j ∧ j < 240) → S3 a j = S a j) : v_Fr [(99, 1, 1), (99, 3, 9), (99, 16, 16), (99, 24, 25), (101, 0, 28), (102, 0, 28), (103, 0, 28), (104, 0, 28), (105, 0, 480), (106, 0, 480), (107, 0, 16), (108, 0, 16), (109, 0, 16), (110, 0, 16), (111, 0, 240), (112, 0, 240), (113, 0, 240)] S R (p_S S3 pl cs sk cl bd nc sg ov bh op na) R := by
  intro a j hm
  have n0 := p_nmd (a0 := 99) (lo := 1) (hi := 1) (by decide +kernel) hm
  have n1 := p_nmd (a0 := 99) (lo := 3) (hi := 9) (by decide +kernel) hm
  have n2 := p_nmd (a0 := 99) (lo := 16) (hi := 16) (by decide +kernel) hm
  have n3 := p_nmd (a0 := 99) (lo := 24) (hi := 25) (by decide +kernel) hm
  have n4 := p_nmd (a0 := 101) (lo := 0) (hi := 28) (by decide +kernel) hm
  have n5 := p_nmd (a0 := 102) (lo := 0) (hi := 28) (by decide +kernel) hm
  have n6 := p_nmd (a0 := 103) (lo := 0) (hi := 28) (by decide +kernel) hm
  have n7 := p_nmd (a0 := 104) (lo := 0) (hi := 28) (by decide +kernel) hm
  have n8 := p_nmd (a0 := 105) (lo := 0) (hi := 480) (by decide +kernel) hm
  have n9 := p_nmd (a0 := 106) (lo := 0) (hi := 480) (by decide +kernel) hm
  have n10 := p_nmd (a0 := 107) (lo := 0) (hi := 16) (by decide +kernel) hm
  have n11 := p_nmd (a0 := 108) (lo := 0) (hi := 16) (by decide +kernel) hm
  have n12 := p_nmd (a0 := 109) (lo := 0) (hi := 16) (by decide +kernel) hm
  have n13 := p_nmd (a0 := 110) (lo := 0) (hi := 16) (by decide +kernel) hm
  have n14 := p_nmd (a0 := 111) (lo := 0) (hi := 240) (by decide +kernel) hm
  have n15 := p_nmd (a0 := 112) (lo := 0) (hi := 240) (by decide +kernel) hm
  have n16 := p_nmd (a0 := 113) (lo := 0) (hi := 240) (by decide +kernel) hm
  refine ⟨?_, rfl⟩
  rw [p_S_at (by omega) (by omega)]
  exact hX a j (by omega) (by omega) (by omega) (by omega)
theorem p_opL {R : v_Rf} {S S3 : v_Sf} {pl cs sk cl : Nat} {bd : Int32} {nc sg : Nat → Int32} {ov bh : Bool} {op : Int32} {na : Nat → Int32} (hT0 : v_Tb v_ty S R) (hO : v_Op S) (hc : cl ≤ 16) (hX : p_X 0 0 16 S S3) (hY : p_Y 0 0 cl S3) : v_Op (p_S (v_ur S3 99 (upd (S3 99) 16 (Int32.ofInt (cl : Int)))) pl cs sk cl bd nc sg ov bh op na) := by
  have at1 : ∀ a j, ¬ a = 99 → ¬ (a = 111 ∨ a = 112 ∨ a = 113) → p_S (v_ur S3 99 (upd (S3 99) 16 (Int32.ofInt (cl : Int)))) pl cs sk cl bd nc sg ov bh op na a j = S3 a j := fun a j h1 h2 => by
    rw [p_S_at (fun h => absurd h h1) (fun h => absurd h h2), w_urn (fun e => h1 e.1)]
  have a102 := fun j => at1 102 j (by decide) (by decide)
  have a103 := fun j => at1 103 j (by decide) (by decide)
  have a104 := fun j => at1 104 j (by decide) (by decide)
  have a105 := fun j => at1 105 j (by decide) (by decide)
  have a16 : p_S (v_ur S3 99 (upd (S3 99) 16 (Int32.ofInt (cl : Int)))) pl cs sk cl bd nc sg ov bh op na 99 16 = Int32.ofInt (cl : Int) := by rw [p_S_at (by omega) (by omega)]; exact w_urs
  have a17 : p_S (v_ur S3 99 (upd (S3 99) 16 (Int32.ofInt (cl : Int)))) pl cs sk cl bd nc sg ov bh op na 99 17 = S3 99 17 := by rw [p_S_at (by omega) (by omega)]; exact w_urn (by decide)
  refine ⟨fun k hk => ?_, fun k hk => ?_⟩
  · rw [a16, w_nat (by omega)] at hk
    obtain ⟨g1, g2, g3, g4⟩ := hY k (by omega)
    rw [Nat.zero_add] at g1 g2 g3 g4
    rw [a102, a103, a104]
    exact ⟨v_stretch_c (fun j _ => a105 j) g1, v_stretch_c (fun j _ => a105 j) g2, by omega⟩
  · rw [a17, hX 99 17 (by omega) (by omega) (by omega) (by omega)] at hk
    obtain ⟨g1, g2⟩ := hO.2 k hk
    rw [a103, a104, hX 103 (16 + k) (by omega) (by omega) (by omega) (by omega), hX 104 (16 + k) (by omega) (by omega) (by omega) (by omega)]
    exact ⟨p_str_c (fun j j1 j2 => by rw [a105, hX 105 j (by omega) (by omega) (by omega) (by omega)]) g1, g2⟩
set_option maxHeartbeats 2000000 in
theorem hr_X12_law {L : Nat} {xs : Nat → Int32} (ih : ∀ x, ∀ w ∈ v_rw x, w.1 < rw_183.1 → v_Met L xs v_ty v_Op x w) : v_Met L xs v_ty v_Op 193 rw_183 := by
  intro M hM ac S R ha hT hO
  rw [mt_X12_law] at hM
  cases hM
  match ac, ha with
  | [r0, w1], ⟨h0, ⟨n, hg, _, _⟩, _⟩ =>
  have h0 : r0 = .ref 100 := h0
  subst h0 hg
  show w_T L xs (0 + 9) m_X12_law 0 (lv_args 0 [.ref 100, .int n]) [] S R (fun (r : Option Value) (S' : v_Sf) (R' : v_Rf) => v_Tb v_ty S' R' ∧ v_Op S' ∧ v_rk1 (some ((-2147483648), 2147483647)) r ∧ v_Fr [(99, 1, 1), (99, 3, 9), (99, 16, 16), (99, 24, 25), (101, 0, 28), (102, 0, 28), (103, 0, 28), (104, 0, 28), (105, 0, 480), (106, 0, 480), (107, 0, 16), (108, 0, 16), (109, 0, 16), (110, 0, 16), (111, 0, 240), (112, 0, 240), (113, 0, 240)] S R S' R')
  generalize hQ : (fun (r : Option Value) (S' : v_Sf) (R' : v_Rf) => v_Tb v_ty S' R' ∧ v_Op S' ∧ v_rk1 (some ((-2147483648), 2147483647)) r ∧ v_Fr [(99, 1, 1), (99, 3, 9), (99, 16, 16), (99, 24, 25), (101, 0, 28), (102, 0, 28), (103, 0, 28), (104, 0, 28), (105, 0, 480), (106, 0, 480), (107, 0, 16), (108, 0, 16), (109, 0, 16), (110, 0, 16), (111, 0, 240), (112, 0, 240), (113, 0, 240)] S R S' R') = Q
  have hq : ∀ (S' : v_Sf) (v : Int32), v_Tb v_ty S' R → v_Op S' → v_Fr [(99, 1, 1), (99, 3, 9), (99, 16, 16), (99, 24, 25), (101, 0, 28), (102, 0, 28), (103, 0, 28), (104, 0, 28), (105, 0, 480), (106, 0, 480), (107, 0, 16), (108, 0, 16), (109, 0, 16), (110, 0, 16), (111, 0, 240), (112, 0, 240), (113, 0, 240)] S R S' R → Q (some (.int v)) S' R := fun S' v a1 a2 a3 => by
    rw [← hQ]
    exact ⟨a1, a2, ⟨v, rfl, (q_rng v).1, (q_rng v).2⟩, a3⟩
  have e1 : (Int64.ofNat 1).toInt = 1 := by decide
  have e240 : (Int64.ofInt 240).toInt = 240 := by decide
  have e0 := Int32.toInt_toInt64 n
  have z0 : (0 : Int32).toInt = 0 := rfl
  obtain ⟨pl, cs, sk, cl, ov, bh, hS, hsk, _⟩ := p_S_of hT
  refine w_eqS hS ?_
  have hq0 : ∀ v, Q (some (.int v)) (p_S S pl cs sk cl (S 99 5) (S 111) (S 113) ov bh (S 99 8) (S 112)) R := fun v => by
    rw [← hS]
    exact hq S v hT hO (v_Fr_rf _ _ _)
  refine w_st rfl (fun _ => rfl) ?_
  refine w_st rfl (fun _ => rfl) ?_
  refine w_st rfl (fun _ => rfl) ?_
  refine w_st rfl (fun _ => rfl) ?_
  show w_T L xs (0 + 9) m_X12_law 6 [(0, .ref 100), (1, .int n)] [.long (Int64.ofInt 240), .long (Int64.ofNat 1), .long n.toInt64] (p_S S pl cs sk cl (S 99 5) (S 111) (S 113) ov bh (S 99 8) (S 112)) R Q
  refine w_cs rfl (by decide) mt_X12_lies (fun _ => rfl) (Nat.le_of_ble_eq_true rfl) (Nat.le_of_ble_eq_true rfl) ?_
  show w_T L xs _ m_X12_lies 0 (lv_args 0 [.long n.toInt64, .long (Int64.ofNat 1), .long (Int64.ofInt 240)]) [] (p_S S pl cs sk cl (S 99 5) (S 111) (S 113) ov bh (S 99 8) (S 112)) R _
  refine h_lies _ _ _ ?_
  rw [e1, e240, e0]
  by_cases hd : 1 ≤ n.toInt ∧ n.toInt ≤ 240
  · rw [if_pos hd]
    show w_T L xs (0 + 9) m_X12_law 9 [(0, .ref 100), (1, .int n)] [.int (Int32.ofInt 1)] (p_S S pl cs sk cl (S 99 5) (S 111) (S 113) ov bh (S 99 8) (S 112)) R Q
    refine w_st rfl (fun _ => rfl) ?_
    refine w_st rfl (fun _ => rfl) ?_
    refine w_st rfl (fun _ => rfl) ?_
    show w_T L xs (0 + 9) m_X12_law 14 [(0, .ref 100), (1, .int n)] [.ref 100, .int n] (p_S S pl cs sk cl (S 99 5) (S 111) (S 113) ov bh (S 99 8) (S 112)) R Q
    refine w_get rfl v_tyM rfl ?_
    show w_T L xs (0 + 9) m_X12_law 17 [(0, .ref 100), (1, .int n)] [.int (S 99 1), .int n] (p_S S pl cs sk cl (S 99 5) (S 111) (S 113) ov bh (S 99 8) (S 112)) R Q
    refine w_br (P := n ≤ (S 99 1)) rfl (fun _ => rfl) (fun h17 => ?_) (fun h17 => ?_)
    · refine w_st rfl (fun _ => rfl) ?_
      refine w_st rfl (fun _ => rfl) ?_
      refine w_st rfl (fun _ => rfl) ?_
      show w_T L xs (0 + 9) m_X12_law 25 [(0, .ref 100), (1, .int n)] [.int (Int32.ofInt 0), .int n, .ref 100] (p_S S pl cs sk cl (S 99 5) (S 111) (S 113) ov bh (S 99 8) (S 112)) R Q
      refine w_cv rfl (by decide) mt_X12_takesText v_tyM rfl rfl rfl (Nat.le_of_ble_eq_true rfl) (Nat.le_of_ble_eq_true rfl) (Nat.le_of_ble_eq_true rfl) ?_
      show w_T L xs _ m_X12_takesText 0 (lv_args 0 [.ref 100, .int n, .int (Int32.ofInt 0)]) [] (p_S S pl cs sk cl (S 99 5) (S 111) (S 113) ov bh (S 99 8) (S 112)) R _
      refine h_textL hd.1 hd.2 hT hsk (fun S3 pl1 cs1 sk1 cl1 nc1 sg1 na1 o1 v1 h1 f1 f2 f3 f4 f5 f6 f7 => ?_) (fun S3 pl1 cs1 sk1 cl1 b25 nc1 sg1 na1 o1 v1 h1 f1 f2 hb25 f4 f5 f6 f7 => ?_)
      · show w_T L xs (0 + 9) m_X12_law 28 [(0, .ref 100), (1, .int n)] [.int (Int32.ofInt (cl1 : Int))] (p_S S3 pl1 cs1 sk1 cl1 (Int32.ofInt 0) nc1 sg1 v1 h1 o1 na1) R Q
        refine w_st rfl (fun _ => rfl) ?_
        refine w_st rfl (fun _ => rfl) ?_
        show w_T L xs (0 + 9) m_X12_law 30 [(2, .int (Int32.ofInt (cl1 : Int))), (0, .ref 100), (1, .int n)] [.int (Int32.ofInt (cl1 : Int))] (p_S S3 pl1 cs1 sk1 cl1 (Int32.ofInt 0) nc1 sg1 v1 h1 o1 na1) R Q
        refine w_br (P := (Int32.ofInt (cl1 : Int)) < 0) rfl (fun _ => rfl) (fun h30 => ?_) (fun h30 => ?_)
        · exfalso; rw [q_lt32, z0, w_nat (by omega)] at h30; omega
        · refine w_st rfl (fun _ => rfl) ?_
          refine w_st rfl (fun _ => rfl) ?_
          show w_T L xs (0 + 9) m_X12_law 35 [(2, .int (Int32.ofInt (cl1 : Int))), (0, .ref 100), (1, .int n)] [.int (Int32.ofInt (cl1 : Int)), .ref 100] (p_S S3 pl1 cs1 sk1 cl1 (Int32.ofInt 0) nc1 sg1 v1 h1 o1 na1) R Q
          refine w_put rfl v_tyM rfl rfl rfl ?_
          refine w_eqS (p_wo99 (by decide)) ?_
          refine w_st rfl (fun _ => rfl) ?_
          show w_T L xs (0 + 9) m_X12_law 39 [(2, .int (Int32.ofInt (cl1 : Int))), (0, .ref 100), (1, .int n)] [.int (Int32.ofInt (cl1 : Int))] (p_S (v_ur S3 99 (upd (S3 99) 16 (Int32.ofInt (cl1 : Int)))) pl1 cs1 sk1 cl1 (Int32.ofInt 0) nc1 sg1 v1 h1 o1 na1) R Q
          refine w_ret rfl (by rfl) ?_
          refine hq _ _ (p_Tb (w_TbF f3 v_tyM rfl (by show (0 : Int) ≤ (Int32.ofInt (cl1 : Int)).toInt; rw [w_nat (by omega)]; omega) (by show (Int32.ofInt (cl1 : Int)).toInt ≤ (16 : Int); rw [w_nat (by omega)]; omega)) (by omega) (by omega) (by omega) (by omega)) (p_opL hT hO f7 f1 f2) (p_frL (fun a j x1 x2 x3 x4 => ?_))
          rw [w_urn (by omega)]
          exact f1 a j (by omega) (by omega) (by omega) (by omega)
      · show w_T L xs (0 + 9) m_X12_law 28 [(0, .ref 100), (1, .int n)] [.int b25] (p_S S3 pl1 cs1 sk1 cl1 b25 nc1 sg1 v1 h1 o1 na1) R Q
        refine w_st rfl (fun _ => rfl) ?_
        refine w_st rfl (fun _ => rfl) ?_
        show w_T L xs (0 + 9) m_X12_law 30 [(2, .int b25), (0, .ref 100), (1, .int n)] [.int b25] (p_S S3 pl1 cs1 sk1 cl1 b25 nc1 sg1 v1 h1 o1 na1) R Q
        refine w_br (P := b25 < 0) rfl (fun _ => rfl) (fun h30 => ?_) (fun h30 => ?_)
        · refine w_st rfl (fun _ => rfl) ?_
          show w_T L xs (0 + 9) m_X12_law 39 [(2, .int b25), (0, .ref 100), (1, .int n)] [.int b25] (p_S S3 pl1 cs1 sk1 cl1 b25 nc1 sg1 v1 h1 o1 na1) R Q
          refine w_ret rfl (by rfl) ?_
          refine hq _ _ (p_Tb f2 (by omega) (by omega) (by omega) (by omega)) (v_fz_ok.1 S _ (fun a j hz => ?_) hO) (p_frL (fun a j x1 x2 x3 x4 => ?_))
          · have hz : v_md v_fz a j j = true := by
              unfold v_frz at hz
              rw [v_hit_jj] at hz
              exact hz
            obtain ⟨q, q1, q2, q3, q4⟩ := v_md_lt hz
            simp only [v_fz, List.mem_cons, List.not_mem_nil, or_false] at q1
            have hq1 : (a = 99 ∧ (j = 16 ∨ j = 17)) ∨ (102 ≤ a ∧ a ≤ 105) := by rcases q1 with rfl | rfl | rfl | rfl | rfl | rfl <;> (dsimp only at q2 q3 q4; omega)
            rw [p_S_at (by omega) (by omega), f1 a j (by omega), p_bgF (by omega)]
          · rw [f1 a j (by omega), p_bgF (by omega)]
        · exfalso; rw [q_lt32, z0] at h30; omega
    · refine w_st rfl (fun _ => rfl) ?_
      show w_T L xs (0 + 9) m_X12_law 21 [(0, .ref 100), (1, .int n)] [.int (Int32.ofInt (-1))] (p_S S pl cs sk cl (S 99 5) (S 111) (S 113) ov bh (S 99 8) (S 112)) R Q
      refine w_ret rfl (by rfl) ?_
      exact hq0 _
  · rw [if_neg hd]
    show w_T L xs (0 + 9) m_X12_law 9 [(0, .ref 100), (1, .int n)] [.int (Int32.ofInt 0)] (p_S S pl cs sk cl (S 99 5) (S 111) (S 113) ov bh (S 99 8) (S 112)) R Q
    refine w_st rfl (fun _ => rfl) ?_
    refine w_st rfl (fun _ => rfl) ?_
    show w_T L xs (0 + 9) m_X12_law 21 [(0, .ref 100), (1, .int n)] [.int (Int32.ofInt (-1))] (p_S S pl cs sk cl (S 99 5) (S 111) (S 113) ov bh (S 99 8) (S 112)) R Q
    refine w_ret rfl (by rfl) ?_
    exact hq0 _
theorem p_frR {R : v_Rf} {S S3 : v_Sf} {pl cs sk cl : Nat} {bd : Int32} {nc sg : Nat → Int32} {ov bh : Bool} {op : Int32} {na : Nat → Int32} (hX : ∀ a j, ¬ (a = 99 ∧ (j = 1 ∨ j = 4 ∨ j = 17)) → ¬ (107 ≤ a ∧ a ≤ 110 ∧ j ≤ 16) → ¬ (101 ≤ a ∧ a ≤ 104 ∧ 16 ≤ j ∧ j < 28) → ¬ ((a = 105 ∨ a = 106) ∧ 240 ≤ j ∧ j < 480) → S3 a j = S a j) : v_Fr [(99, 1, 1), (99, 3, 9), (99, 17, 17), (99, 24, 25), (101, 0, 28), (102, 0, 28), (103, 0, 28), (104, 0, 28), (105, 0, 480), (106, 0, 480), (107, 0, 16), (108, 0, 16), (109, 0, 16), (110, 0, 16), (111, 0, 240), (112, 0, 240), (113, 0, 240)] S R (p_S S3 pl cs sk cl bd nc sg ov bh op na) R := by
  intro a j hm
  have n0 := p_nmd (a0 := 99) (lo := 1) (hi := 1) (by decide +kernel) hm
  have n1 := p_nmd (a0 := 99) (lo := 3) (hi := 9) (by decide +kernel) hm
  have n2 := p_nmd (a0 := 99) (lo := 17) (hi := 17) (by decide +kernel) hm
  have n3 := p_nmd (a0 := 99) (lo := 24) (hi := 25) (by decide +kernel) hm
  have n4 := p_nmd (a0 := 101) (lo := 0) (hi := 28) (by decide +kernel) hm
  have n5 := p_nmd (a0 := 102) (lo := 0) (hi := 28) (by decide +kernel) hm
  have n6 := p_nmd (a0 := 103) (lo := 0) (hi := 28) (by decide +kernel) hm
  have n7 := p_nmd (a0 := 104) (lo := 0) (hi := 28) (by decide +kernel) hm
  have n8 := p_nmd (a0 := 105) (lo := 0) (hi := 480) (by decide +kernel) hm
  have n9 := p_nmd (a0 := 106) (lo := 0) (hi := 480) (by decide +kernel) hm
  have n10 := p_nmd (a0 := 107) (lo := 0) (hi := 16) (by decide +kernel) hm
  have n11 := p_nmd (a0 := 108) (lo := 0) (hi := 16) (by decide +kernel) hm
  have n12 := p_nmd (a0 := 109) (lo := 0) (hi := 16) (by decide +kernel) hm
  have n13 := p_nmd (a0 := 110) (lo := 0) (hi := 16) (by decide +kernel) hm
  have n14 := p_nmd (a0 := 111) (lo := 0) (hi := 240) (by decide +kernel) hm
  have n15 := p_nmd (a0 := 112) (lo := 0) (hi := 240) (by decide +kernel) hm
  have n16 := p_nmd (a0 := 113) (lo := 0) (hi := 240) (by decide +kernel) hm
  refine ⟨?_, rfl⟩
  rw [p_S_at (by omega) (by omega)]
  exact hX a j (by omega) (by omega) (by omega) (by omega)
theorem p_opR {R : v_Rf} {S S3 : v_Sf} {pl cs sk cl : Nat} {bd : Int32} {nc sg : Nat → Int32} {ov bh : Bool} {op : Int32} {na : Nat → Int32} (hT0 : v_Tb v_ty S R) (hO : v_Op S) (hc : cl ≤ 12) (hX : p_X 16 240 12 S S3) (hY : p_Y 16 240 cl S3) : v_Op (p_S (v_ur S3 99 (upd (S3 99) 17 (Int32.ofInt (cl : Int)))) pl cs sk cl bd nc sg ov bh op na) := by
  have at1 : ∀ a j, ¬ a = 99 → ¬ (a = 111 ∨ a = 112 ∨ a = 113) → p_S (v_ur S3 99 (upd (S3 99) 17 (Int32.ofInt (cl : Int)))) pl cs sk cl bd nc sg ov bh op na a j = S3 a j := fun a j h1 h2 => by
    rw [p_S_at (fun h => absurd h h1) (fun h => absurd h h2), w_urn (fun e => h1 e.1)]
  have a102 := fun j => at1 102 j (by decide) (by decide)
  have a103 := fun j => at1 103 j (by decide) (by decide)
  have a104 := fun j => at1 104 j (by decide) (by decide)
  have a105 := fun j => at1 105 j (by decide) (by decide)
  have a16 : p_S (v_ur S3 99 (upd (S3 99) 17 (Int32.ofInt (cl : Int)))) pl cs sk cl bd nc sg ov bh op na 99 16 = S3 99 16 := by rw [p_S_at (by omega) (by omega)]; exact w_urn (by decide)
  have a17 : p_S (v_ur S3 99 (upd (S3 99) 17 (Int32.ofInt (cl : Int)))) pl cs sk cl bd nc sg ov bh op na 99 17 = Int32.ofInt (cl : Int) := by rw [p_S_at (by omega) (by omega)]; exact w_urs
  have h16 : 0 ≤ (S 99 16).toInt ∧ (S 99 16).toInt ≤ 16 := hT0 99 _ v_tyM 16 _ rfl
  refine ⟨fun k hk => ?_, fun k hk => ?_⟩
  · rw [a16, hX 99 16 (by omega) (by omega) (by omega) (by omega)] at hk
    obtain ⟨g1, g2, g3⟩ := hO.1 k hk
    obtain ⟨z1, z2, z3, z4, z5⟩ := g2
    rw [a102, a103, a104, hX 102 k (by omega) (by omega) (by omega) (by omega), hX 103 k (by omega) (by omega) (by omega) (by omega), hX 104 k (by omega) (by omega) (by omega) (by omega)]
    exact ⟨p_str_c (fun j j1 j2 => by rw [a105, hX 105 j (by omega) (by omega) (by omega) (by omega)]) g1, p_str_c (fun j j1 j2 => by rw [a105, hX 105 j (by omega) (by omega) (by omega) (by omega)]) ⟨z1, z2, z3, z4, z5⟩, g3⟩
  · rw [a17, w_nat (by omega)] at hk
    obtain ⟨g1, g2, g3, g4⟩ := hY k (by omega)
    rw [a103, a104]
    exact ⟨v_stretch_c (fun j _ => a105 j) g2, by omega⟩
set_option maxHeartbeats 2000000 in
theorem hr_X12_rules {L : Nat} {xs : Nat → Int32} (ih : ∀ x, ∀ w ∈ v_rw x, w.1 < rw_184.1 → v_Met L xs v_ty v_Op x w) : v_Met L xs v_ty v_Op 194 rw_184 := by
  intro M hM ac S R ha hT hO
  rw [mt_X12_rules] at hM
  cases hM
  match ac, ha with
  | [r0, w1], ⟨h0, ⟨n, hg, _, _⟩, _⟩ =>
  have h0 : r0 = .ref 100 := h0
  subst h0 hg
  show w_T L xs (0 + 9) m_X12_rules 0 (lv_args 0 [.ref 100, .int n]) [] S R (fun (r : Option Value) (S' : v_Sf) (R' : v_Rf) => v_Tb v_ty S' R' ∧ v_Op S' ∧ v_rk1 (some ((-2147483648), 2147483647)) r ∧ v_Fr [(99, 1, 1), (99, 3, 9), (99, 17, 17), (99, 24, 25), (101, 0, 28), (102, 0, 28), (103, 0, 28), (104, 0, 28), (105, 0, 480), (106, 0, 480), (107, 0, 16), (108, 0, 16), (109, 0, 16), (110, 0, 16), (111, 0, 240), (112, 0, 240), (113, 0, 240)] S R S' R')
  generalize hQ : (fun (r : Option Value) (S' : v_Sf) (R' : v_Rf) => v_Tb v_ty S' R' ∧ v_Op S' ∧ v_rk1 (some ((-2147483648), 2147483647)) r ∧ v_Fr [(99, 1, 1), (99, 3, 9), (99, 17, 17), (99, 24, 25), (101, 0, 28), (102, 0, 28), (103, 0, 28), (104, 0, 28), (105, 0, 480), (106, 0, 480), (107, 0, 16), (108, 0, 16), (109, 0, 16), (110, 0, 16), (111, 0, 240), (112, 0, 240), (113, 0, 240)] S R S' R') = Q
  have hq : ∀ (S' : v_Sf) (v : Int32), v_Tb v_ty S' R → v_Op S' → v_Fr [(99, 1, 1), (99, 3, 9), (99, 17, 17), (99, 24, 25), (101, 0, 28), (102, 0, 28), (103, 0, 28), (104, 0, 28), (105, 0, 480), (106, 0, 480), (107, 0, 16), (108, 0, 16), (109, 0, 16), (110, 0, 16), (111, 0, 240), (112, 0, 240), (113, 0, 240)] S R S' R → Q (some (.int v)) S' R := fun S' v a1 a2 a3 => by
    rw [← hQ]
    exact ⟨a1, a2, ⟨v, rfl, (q_rng v).1, (q_rng v).2⟩, a3⟩
  have e1 : (Int64.ofNat 1).toInt = 1 := by decide
  have e240 : (Int64.ofInt 240).toInt = 240 := by decide
  have e0 := Int32.toInt_toInt64 n
  have z0 : (0 : Int32).toInt = 0 := rfl
  obtain ⟨pl, cs, sk, cl, ov, bh, hS, hsk, _⟩ := p_S_of hT
  refine w_eqS hS ?_
  have hq0 : ∀ v, Q (some (.int v)) (p_S S pl cs sk cl (S 99 5) (S 111) (S 113) ov bh (S 99 8) (S 112)) R := fun v => by
    rw [← hS]
    exact hq S v hT hO (v_Fr_rf _ _ _)
  refine w_st rfl (fun _ => rfl) ?_
  refine w_st rfl (fun _ => rfl) ?_
  refine w_st rfl (fun _ => rfl) ?_
  refine w_st rfl (fun _ => rfl) ?_
  show w_T L xs (0 + 9) m_X12_rules 6 [(0, .ref 100), (1, .int n)] [.long (Int64.ofInt 240), .long (Int64.ofNat 1), .long n.toInt64] (p_S S pl cs sk cl (S 99 5) (S 111) (S 113) ov bh (S 99 8) (S 112)) R Q
  refine w_cs rfl (by decide) mt_X12_lies (fun _ => rfl) (Nat.le_of_ble_eq_true rfl) (Nat.le_of_ble_eq_true rfl) ?_
  show w_T L xs _ m_X12_lies 0 (lv_args 0 [.long n.toInt64, .long (Int64.ofNat 1), .long (Int64.ofInt 240)]) [] (p_S S pl cs sk cl (S 99 5) (S 111) (S 113) ov bh (S 99 8) (S 112)) R _
  refine h_lies _ _ _ ?_
  rw [e1, e240, e0]
  by_cases hd : 1 ≤ n.toInt ∧ n.toInt ≤ 240
  · rw [if_pos hd]
    show w_T L xs (0 + 9) m_X12_rules 9 [(0, .ref 100), (1, .int n)] [.int (Int32.ofInt 1)] (p_S S pl cs sk cl (S 99 5) (S 111) (S 113) ov bh (S 99 8) (S 112)) R Q
    refine w_st rfl (fun _ => rfl) ?_
    refine w_st rfl (fun _ => rfl) ?_
    refine w_st rfl (fun _ => rfl) ?_
    show w_T L xs (0 + 9) m_X12_rules 14 [(0, .ref 100), (1, .int n)] [.ref 100, .int n] (p_S S pl cs sk cl (S 99 5) (S 111) (S 113) ov bh (S 99 8) (S 112)) R Q
    refine w_get rfl v_tyM rfl ?_
    show w_T L xs (0 + 9) m_X12_rules 17 [(0, .ref 100), (1, .int n)] [.int (S 99 1), .int n] (p_S S pl cs sk cl (S 99 5) (S 111) (S 113) ov bh (S 99 8) (S 112)) R Q
    refine w_br (P := n ≤ (S 99 1)) rfl (fun _ => rfl) (fun h17 => ?_) (fun h17 => ?_)
    · refine w_st rfl (fun _ => rfl) ?_
      refine w_st rfl (fun _ => rfl) ?_
      refine w_st rfl (fun _ => rfl) ?_
      show w_T L xs (0 + 9) m_X12_rules 25 [(0, .ref 100), (1, .int n)] [.int (Int32.ofInt 1), .int n, .ref 100] (p_S S pl cs sk cl (S 99 5) (S 111) (S 113) ov bh (S 99 8) (S 112)) R Q
      refine w_cv rfl (by decide) mt_X12_takesText v_tyM rfl rfl rfl (Nat.le_of_ble_eq_true rfl) (Nat.le_of_ble_eq_true rfl) (Nat.le_of_ble_eq_true rfl) ?_
      show w_T L xs _ m_X12_takesText 0 (lv_args 0 [.ref 100, .int n, .int (Int32.ofInt 1)]) [] (p_S S pl cs sk cl (S 99 5) (S 111) (S 113) ov bh (S 99 8) (S 112)) R _
      refine h_textR hd.1 hd.2 hT hsk (fun S3 pl1 cs1 sk1 cl1 nc1 sg1 na1 o1 v1 h1 f1 f2 f3 f4 f5 f6 f7 => ?_) (fun S3 pl1 cs1 sk1 cl1 b25 nc1 sg1 na1 o1 v1 h1 f1 f2 hb25 f4 f5 f6 f7 => ?_)
      · show w_T L xs (0 + 9) m_X12_rules 28 [(0, .ref 100), (1, .int n)] [.int (Int32.ofInt (cl1 : Int))] (p_S S3 pl1 cs1 sk1 cl1 (Int32.ofInt 0) nc1 sg1 v1 h1 o1 na1) R Q
        refine w_st rfl (fun _ => rfl) ?_
        refine w_st rfl (fun _ => rfl) ?_
        show w_T L xs (0 + 9) m_X12_rules 30 [(2, .int (Int32.ofInt (cl1 : Int))), (0, .ref 100), (1, .int n)] [.int (Int32.ofInt (cl1 : Int))] (p_S S3 pl1 cs1 sk1 cl1 (Int32.ofInt 0) nc1 sg1 v1 h1 o1 na1) R Q
        refine w_br (P := (Int32.ofInt (cl1 : Int)) < 0) rfl (fun _ => rfl) (fun h30 => ?_) (fun h30 => ?_)
        · exfalso; rw [q_lt32, z0, w_nat (by omega)] at h30; omega
        · refine w_st rfl (fun _ => rfl) ?_
          refine w_st rfl (fun _ => rfl) ?_
          show w_T L xs (0 + 9) m_X12_rules 35 [(2, .int (Int32.ofInt (cl1 : Int))), (0, .ref 100), (1, .int n)] [.int (Int32.ofInt (cl1 : Int)), .ref 100] (p_S S3 pl1 cs1 sk1 cl1 (Int32.ofInt 0) nc1 sg1 v1 h1 o1 na1) R Q
          refine w_put rfl v_tyM rfl rfl rfl ?_
          refine w_eqS (p_wo99 (by decide)) ?_
          refine w_st rfl (fun _ => rfl) ?_
          show w_T L xs (0 + 9) m_X12_rules 39 [(2, .int (Int32.ofInt (cl1 : Int))), (0, .ref 100), (1, .int n)] [.int (Int32.ofInt (cl1 : Int))] (p_S (v_ur S3 99 (upd (S3 99) 17 (Int32.ofInt (cl1 : Int)))) pl1 cs1 sk1 cl1 (Int32.ofInt 0) nc1 sg1 v1 h1 o1 na1) R Q
          refine w_ret rfl (by rfl) ?_
          refine hq _ _ (p_Tb (w_TbF f3 v_tyM rfl (by show (0 : Int) ≤ (Int32.ofInt (cl1 : Int)).toInt; rw [w_nat (by omega)]; omega) (by show (Int32.ofInt (cl1 : Int)).toInt ≤ (12 : Int); rw [w_nat (by omega)]; omega)) (by omega) (by omega) (by omega) (by omega)) (p_opR hT hO f7 f1 f2) (p_frR (fun a j x1 x2 x3 x4 => ?_))
          rw [w_urn (by omega)]
          exact f1 a j (by omega) (by omega) (by omega) (by omega)
      · show w_T L xs (0 + 9) m_X12_rules 28 [(0, .ref 100), (1, .int n)] [.int b25] (p_S S3 pl1 cs1 sk1 cl1 b25 nc1 sg1 v1 h1 o1 na1) R Q
        refine w_st rfl (fun _ => rfl) ?_
        refine w_st rfl (fun _ => rfl) ?_
        show w_T L xs (0 + 9) m_X12_rules 30 [(2, .int b25), (0, .ref 100), (1, .int n)] [.int b25] (p_S S3 pl1 cs1 sk1 cl1 b25 nc1 sg1 v1 h1 o1 na1) R Q
        refine w_br (P := b25 < 0) rfl (fun _ => rfl) (fun h30 => ?_) (fun h30 => ?_)
        · refine w_st rfl (fun _ => rfl) ?_
          show w_T L xs (0 + 9) m_X12_rules 39 [(2, .int b25), (0, .ref 100), (1, .int n)] [.int b25] (p_S S3 pl1 cs1 sk1 cl1 b25 nc1 sg1 v1 h1 o1 na1) R Q
          refine w_ret rfl (by rfl) ?_
          refine hq _ _ (p_Tb f2 (by omega) (by omega) (by omega) (by omega)) (v_fz_ok.1 S _ (fun a j hz => ?_) hO) (p_frR (fun a j x1 x2 x3 x4 => ?_))
          · have hz : v_md v_fz a j j = true := by
              unfold v_frz at hz
              rw [v_hit_jj] at hz
              exact hz
            obtain ⟨q, q1, q2, q3, q4⟩ := v_md_lt hz
            simp only [v_fz, List.mem_cons, List.not_mem_nil, or_false] at q1
            have hq1 : (a = 99 ∧ (j = 16 ∨ j = 17)) ∨ (102 ≤ a ∧ a ≤ 105) := by rcases q1 with rfl | rfl | rfl | rfl | rfl | rfl <;> (dsimp only at q2 q3 q4; omega)
            rw [p_S_at (by omega) (by omega), f1 a j (by omega), p_bgF (by omega)]
          · rw [f1 a j (by omega), p_bgF (by omega)]
        · exfalso; rw [q_lt32, z0] at h30; omega
    · refine w_st rfl (fun _ => rfl) ?_
      show w_T L xs (0 + 9) m_X12_rules 21 [(0, .ref 100), (1, .int n)] [.int (Int32.ofInt (-1))] (p_S S pl cs sk cl (S 99 5) (S 111) (S 113) ov bh (S 99 8) (S 112)) R Q
      refine w_ret rfl (by rfl) ?_
      exact hq0 _
  · rw [if_neg hd]
    show w_T L xs (0 + 9) m_X12_rules 9 [(0, .ref 100), (1, .int n)] [.int (Int32.ofInt 0)] (p_S S pl cs sk cl (S 99 5) (S 111) (S 113) ov bh (S 99 8) (S 112)) R Q
    refine w_st rfl (fun _ => rfl) ?_
    refine w_st rfl (fun _ => rfl) ?_
    show w_T L xs (0 + 9) m_X12_rules 21 [(0, .ref 100), (1, .int n)] [.int (Int32.ofInt (-1))] (p_S S pl cs sk cl (S 99 5) (S 111) (S 113) ov bh (S 99 8) (S 112)) R Q
    refine w_ret rfl (by rfl) ?_
    exact hq0 _
end Prt39j
section Prt39k
/-! timetable -/
noncomputable abbrev m_X12_monthTold : g_M := (g_cn 12, yX12_monthTold, cX12_monthTold, 4, none, g_look2 ttX12_monthTold)
set_option maxRecDepth 20000 in
theorem mt_X12_monthTold : g_mt 224 = some m_X12_monthTold := rfl
noncomputable abbrev m_X12_repeats : g_M := (g_cn 12, yX12_repeats, cX12_repeats, 6, none, g_look2 ttX12_repeats)
set_option maxRecDepth 20000 in
theorem mt_X12_repeats : g_mt 222 = some m_X12_repeats := rfl
noncomputable abbrev m_X12_timesTold : g_M := (g_cn 12, yX12_timesTold, cX12_timesTold, 1, (some .int), g_look2 ttX12_timesTold)
set_option maxRecDepth 20000 in
theorem mt_X12_timesTold : g_mt 223 = some m_X12_timesTold := rfl
noncomputable abbrev m_X12_timetable : g_M := (g_cn 12, yX12_timetable, cX12_timetable, 4, (some .int), g_look2 ttX12_timetable)
set_option maxRecDepth 20000 in
theorem mt_X12_timetable : g_mt 225 = some m_X12_timetable := rfl
theorem w_irem {L : Nat} {xs : Nat → Int32} {d : Nat} {M : g_M} {pc : Nat} {lc : g_Lc} {S : v_Sf} {R : v_Rf} {Q : Option Value → v_Sf → v_Rf → Prop} {len x y : Nat} {z : Int} {t : List Value} {a b : Int32} (hen : M.2.2.2.2.2 pc = some ((.irem, len), x, y, z)) (hb : ¬ b = 0) (k : w_T L xs d M (pc + len) lc (.int (a - a / b * b) :: t) S R Q) : w_T L xs d M pc lc (.int b :: .int a :: t) S R Q := by
  refine w_one hen (g_st_stk (en := ((.irem, len), x, y, z)) ?_) k
  simp only [g_stk, g_d2, if_neg hb]
noncomputable def t_S (T0 : v_Sf) (nm om : Nat) (bg : Bool) (nt fo ot pp : Nat → Int32) : v_Sf := fun a j =>
  bif Nat.beq a 99 then (bif Nat.beq j 64 then Int32.ofInt (nm : Int) else bif Nat.beq j 65 then Int32.ofInt (om : Int) else bif Nat.beq j 66 then p_b bg else T0 99 j) else bif Nat.beq a 133 && Nat.blt j 48 then nt j else bif Nat.beq a 134 && Nat.blt j 2 then fo j else bif Nat.beq a 135 && Nat.blt j 2 then ot j else bif Nat.beq a 136 && Nat.blt j 2 then pp j else T0 a j
section TW
variable {T0 : v_Sf} {nm om : Nat} {bg : Bool} {nt fo ot pp : Nat → Int32} {S0 S1 : v_Sf} {pl cs sk cl : Nat} {bd : Int32} {nc sg : Nat → Int32} {ov bh : Bool} {op : Int32} {na : Nat → Int32}
theorem p_in (h : S0 = S1) : p_S S0 pl cs sk cl bd nc sg ov bh op na = p_S S1 pl cs sk cl bd nc sg ov bh op na := by rw [h]
theorem t_wnm {v : Int32} {k : Nat} (hv : v = Int32.ofInt (k : Int)) : v_ur (t_S T0 nm om bg nt fo ot pp) 99 (upd ((t_S T0 nm om bg nt fo ot pp) 99) 64 v) = t_S T0 k om bg nt fo ot pp := by
  refine p_ext hv.symm (fun a' j' h => ?_)
  unfold t_S
  by_cases ha : a' = 99
  · have hj : ¬ j' = 64 := fun e => h ⟨ha, e⟩
    rw [ha, p_bq hj]
    rfl
  · rw [p_bq ha]
    rfl
theorem t_wom {v : Int32} {k : Nat} (hv : v = Int32.ofInt (k : Int)) : v_ur (t_S T0 nm om bg nt fo ot pp) 99 (upd ((t_S T0 nm om bg nt fo ot pp) 99) 65 v) = t_S T0 nm k bg nt fo ot pp := by
  refine p_ext hv.symm (fun a' j' h => ?_)
  unfold t_S
  by_cases ha : a' = 99
  · have hj : ¬ j' = 65 := fun e => h ⟨ha, e⟩
    rw [ha, p_bq hj]
    rfl
  · rw [p_bq ha]
    rfl
theorem t_wbg {v : Int32} {b : Bool} (hv : v = p_b b) : v_ur (t_S T0 nm om bg nt fo ot pp) 99 (upd ((t_S T0 nm om bg nt fo ot pp) 99) 66 v) = t_S T0 nm om b nt fo ot pp := by
  refine p_ext hv.symm (fun a' j' h => ?_)
  unfold t_S
  by_cases ha : a' = 99
  · have hj : ¬ j' = 66 := fun e => h ⟨ha, e⟩
    rw [ha, p_bq hj]
    rfl
  · rw [p_bq ha]
    rfl
theorem pt_rnt {k : Nat} (hk : k < 48) : (p_S (t_S T0 nm om bg nt fo ot pp) pl cs sk cl bd nc sg ov bh op na) 133 k = nt k := by
  unfold p_S t_S
  rw [p_blt hk]
  rfl
theorem t_rnt {k : Nat} (hk : k < 48) : (t_S T0 nm om bg nt fo ot pp) 133 k = nt k := by
  unfold t_S
  rw [p_blt hk]
  rfl
theorem t_wnt {k : Nat} {v : Int32} (hk : k < 48) : v_ur (t_S T0 nm om bg nt fo ot pp) 133 (upd ((t_S T0 nm om bg nt fo ot pp) 133) k v) = t_S T0 nm om bg (upd nt k v) fo ot pp := by
  refine p_ext ?_ (fun a' j' h => ?_)
  · unfold t_S
    rw [p_blt hk]
    show upd nt k v k = v
    simp [upd]
  · unfold t_S
    by_cases ha : a' = 133
    · have hj : ¬ j' = k := fun e => h ⟨ha, e⟩
      have e : upd nt k v j' = nt j' := by simp [upd, hj]
      rw [e]
    · rw [p_bq ha]
      rfl
theorem pt_rfo {k : Nat} (hk : k < 2) : (p_S (t_S T0 nm om bg nt fo ot pp) pl cs sk cl bd nc sg ov bh op na) 134 k = fo k := by
  unfold p_S t_S
  rw [p_blt hk]
  rfl
theorem t_rfo {k : Nat} (hk : k < 2) : (t_S T0 nm om bg nt fo ot pp) 134 k = fo k := by
  unfold t_S
  rw [p_blt hk]
  rfl
theorem t_wfo {k : Nat} {v : Int32} (hk : k < 2) : v_ur (t_S T0 nm om bg nt fo ot pp) 134 (upd ((t_S T0 nm om bg nt fo ot pp) 134) k v) = t_S T0 nm om bg nt (upd fo k v) ot pp := by
  refine p_ext ?_ (fun a' j' h => ?_)
  · unfold t_S
    rw [p_blt hk]
    show upd fo k v k = v
    simp [upd]
  · unfold t_S
    by_cases ha : a' = 134
    · have hj : ¬ j' = k := fun e => h ⟨ha, e⟩
      have e : upd fo k v j' = fo j' := by simp [upd, hj]
      rw [e]
    · rw [p_bq ha]
      rfl
theorem pt_rot {k : Nat} (hk : k < 2) : (p_S (t_S T0 nm om bg nt fo ot pp) pl cs sk cl bd nc sg ov bh op na) 135 k = ot k := by
  unfold p_S t_S
  rw [p_blt hk]
  rfl
theorem t_rot {k : Nat} (hk : k < 2) : (t_S T0 nm om bg nt fo ot pp) 135 k = ot k := by
  unfold t_S
  rw [p_blt hk]
  rfl
theorem t_wot {k : Nat} {v : Int32} (hk : k < 2) : v_ur (t_S T0 nm om bg nt fo ot pp) 135 (upd ((t_S T0 nm om bg nt fo ot pp) 135) k v) = t_S T0 nm om bg nt fo (upd ot k v) pp := by
  refine p_ext ?_ (fun a' j' h => ?_)
  · unfold t_S
    rw [p_blt hk]
    show upd ot k v k = v
    simp [upd]
  · unfold t_S
    by_cases ha : a' = 135
    · have hj : ¬ j' = k := fun e => h ⟨ha, e⟩
      have e : upd ot k v j' = ot j' := by simp [upd, hj]
      rw [e]
    · rw [p_bq ha]
      rfl
theorem pt_rpp {k : Nat} (hk : k < 2) : (p_S (t_S T0 nm om bg nt fo ot pp) pl cs sk cl bd nc sg ov bh op na) 136 k = pp k := by
  unfold p_S t_S
  rw [p_blt hk]
  rfl
theorem t_rpp {k : Nat} (hk : k < 2) : (t_S T0 nm om bg nt fo ot pp) 136 k = pp k := by
  unfold t_S
  rw [p_blt hk]
  rfl
theorem t_wpp {k : Nat} {v : Int32} (hk : k < 2) : v_ur (t_S T0 nm om bg nt fo ot pp) 136 (upd ((t_S T0 nm om bg nt fo ot pp) 136) k v) = t_S T0 nm om bg nt fo ot (upd pp k v) := by
  refine p_ext ?_ (fun a' j' h => ?_)
  · unfold t_S
    rw [p_blt hk]
    show upd pp k v k = v
    simp [upd]
  · unfold t_S
    by_cases ha : a' = 136
    · have hj : ¬ j' = k := fun e => h ⟨ha, e⟩
      have e : upd pp k v j' = pp j' := by simp [upd, hj]
      rw [e]
    · rw [p_bq ha]
      rfl
theorem t_wo {a k : Nat} {v : Int32} (ha : a ≠ 99 ∧ a ≠ 133 ∧ a ≠ 134 ∧ a ≠ 135 ∧ a ≠ 136) : v_ur (t_S T0 nm om bg nt fo ot pp) a (upd ((t_S T0 nm om bg nt fo ot pp) a) k v) = t_S (v_ur T0 a (upd (T0 a) k v)) nm om bg nt fo ot pp := by
  obtain ⟨a1, a2, a3, a4, a5⟩ := ha
  refine p_ext ?_ (fun a' j' h => ?_)
  · unfold t_S
    rw [p_bq a1, p_bq a2, p_bq a3, p_bq a4, p_bq a5]
    show v_ur T0 a (upd (T0 a) k v) a k = v
    exact w_urs
  · unfold t_S
    rw [w_urn h, w_urn (fun e => a1 e.1.symm)]
theorem t_at {a j : Nat} (h1 : a = 99 → ¬ j = 64 ∧ ¬ j = 65 ∧ ¬ j = 66) (h2 : a = 133 → ¬ j < 48) (h3 : (a = 134 ∨ a = 135 ∨ a = 136) → ¬ j < 2) : (t_S T0 nm om bg nt fo ot pp) a j = T0 a j := by
  unfold t_S
  by_cases ha : a = 99
  · obtain ⟨y1, y2, y3⟩ := h1 ha
    rw [p_bq y1, p_bq y2, p_bq y3, ha]
    rfl
  · rw [p_bq ha]
    by_cases hr : a = 133
    · rw [p_blf (h2 hr), hr, Bool.and_false]
      rfl
    · rw [p_bq hr]
      by_cases hs : a = 134 ∨ a = 135 ∨ a = 136
      · rw [p_blf (h3 hs), Bool.and_false, Bool.and_false, Bool.and_false]
        rfl
      · rw [p_bq (show ¬ a = 134 by omega), p_bq (show ¬ a = 135 by omega), p_bq (show ¬ a = 136 by omega)]
        rfl
noncomputable def t_M (nm om : Nat) (nt fo ot pp : Nat → Int32) : Prop := nm ≤ 48 ∧ om ≤ 2 ∧ (∀ j, j < 48 → -1 ≤ (nt j).toInt ∧ (nt j).toInt ≤ 9) ∧ (∀ j, j < 2 → 0 ≤ (fo j).toInt ∧ (fo j).toInt ≤ 48 ∧ 0 ≤ (ot j).toInt ∧ (ot j).toInt ≤ 9) ∧ (∀ j, j < om → (fo j).toInt ≤ (nm : Int) ∧ 1 ≤ (ot j).toInt ∧ 0 ≤ (pp j).toInt ∧ (pp j).toInt ≤ 1000)
theorem t_Tb {R : v_Rf} (hT : v_Tb v_ty T0 R) (hM : t_M nm om nt fo ot pp) : v_Tb v_ty (t_S T0 nm om bg nt fo ot pp) R := by
  obtain ⟨m1, m2, m3, m4, m5⟩ := hM
  intro a c hc
  by_cases ha : a = 99
  · subst ha
    rw [v_tyM] at hc
    cases hc
    intro j ft hj
    by_cases y1 : j = 64
    · subst y1
      cases (Option.some.inj (show some (.inl (0, 48)) = some ft from hj))
      exact ⟨by show (0 : Int) ≤ (Int32.ofInt (nm : Int)).toInt; rw [w_nat (by omega)]; omega, by show (Int32.ofInt (nm : Int)).toInt ≤ (48 : Int); rw [w_nat (by omega)]; omega⟩
    · by_cases y2 : j = 65
      · subst y2
        cases (Option.some.inj (show some (.inl (0, 2)) = some ft from hj))
        exact ⟨by show (0 : Int) ≤ (Int32.ofInt (om : Int)).toInt; rw [w_nat (by omega)]; omega, by show (Int32.ofInt (om : Int)).toInt ≤ (2 : Int); rw [w_nat (by omega)]; omega⟩
      · by_cases y3 : j = 66
        · subst y3
          cases (Option.some.inj (show some (.inl (0, 1)) = some ft from hj))
          exact p_b01 bg
        · exact p_TF (t_at (fun _ => ⟨y1, y2, y3⟩) (fun h => by omega) (fun h => by omega)) (hT 99 _ v_tyM j ft hj)
  · by_cases h1 : a = 133
    · subst h1
      cases (Option.some.inj ((show v_ty 133 = some (.inl (0, 48, (-1), 9)) from rfl).symm.trans hc))
      exact fun j hj => by rw [t_rnt hj]; exact m3 j hj
    · by_cases h2 : a = 134
      · subst h2
        cases (Option.some.inj ((show v_ty 134 = some (.inl (0, 2, 0, 48)) from rfl).symm.trans hc))
        exact fun j hj => by rw [t_rfo hj]; exact ⟨(m4 j hj).1, (m4 j hj).2.1⟩
      · by_cases h3 : a = 135
        · subst h3
          cases (Option.some.inj ((show v_ty 135 = some (.inl (0, 2, 0, 9)) from rfl).symm.trans hc))
          exact fun j hj => by rw [t_rot hj]; exact ⟨(m4 j hj).2.2.1, (m4 j hj).2.2.2⟩
        · by_cases h4 : a = 136
          · subst h4
            cases (Option.some.inj ((show v_ty 136 = some (.inl (0, 2, (-2147483648), 2147483647)) from rfl).symm.trans hc))
            exact fun j _ => q_rng _
          · exact p_TC (fun j => t_at (fun h => absurd h ha) (fun h => absurd h h1) (fun h => by omega)) (hT a c hc)
theorem t_of {R : v_Rf} (hT : v_Tb v_ty T0 R) : ∃ (nm om : Nat) (bg : Bool), T0 = t_S T0 nm om bg (T0 133) (T0 134) (T0 135) (T0 136) := by
  have h3 : 0 ≤ (T0 99 64).toInt ∧ (T0 99 64).toInt ≤ 48 := hT 99 _ v_tyM 64 _ rfl
  have h7 : 0 ≤ (T0 99 65).toInt ∧ (T0 99 65).toInt ≤ 2 := hT 99 _ v_tyM 65 _ rfl
  have h9 : 0 ≤ (T0 99 66).toInt ∧ (T0 99 66).toInt ≤ 1 := hT 99 _ v_tyM 66 _ rfl
  obtain ⟨o, ho⟩ := p_bof h9.1 h9.2
  refine ⟨(T0 99 64).toInt.toNat, (T0 99 65).toInt.toNat, o, ?_⟩
  funext a j
  by_cases ha : a = 99
  · subst ha
    by_cases y1 : j = 64
    · subst y1; exact p_nof h3.1
    · by_cases y2 : j = 65
      · subst y2; exact p_nof h7.1
      · by_cases y3 : j = 66
        · subst y3; exact ho
        · exact (t_at (fun _ => ⟨y1, y2, y3⟩) (fun h => by omega) (fun h => by omega)).symm
  · by_cases g1 : a = 133 ∧ j < 48
    · rw [g1.1]; exact (t_rnt g1.2).symm
    · by_cases g2 : a = 134 ∧ j < 2
      · rw [g2.1]; exact (t_rfo g2.2).symm
      · by_cases g3 : a = 135 ∧ j < 2
        · rw [g3.1]; exact (t_rot g3.2).symm
        · by_cases g4 : a = 136 ∧ j < 2
          · rw [g4.1]; exact (t_rpp g4.2).symm
          · exact (t_at (fun h => absurd h ha) (fun h => by omega) (fun h => by omega)).symm
end TW
theorem t_dg0 : ∀ i : Fin 256, 50 ≤ (Int32.ofInt (((i : Nat) : Int) - 128) &&& Int32.ofInt 255).toInt → (Int32.ofInt (((i : Nat) : Int) - 128) &&& Int32.ofInt 255).toInt ≤ 57 → 2 ≤ (Int32.ofInt (((i : Nat) : Int) - 128) - Int32.ofInt 48).toInt ∧ (Int32.ofInt (((i : Nat) : Int) - 128) - Int32.ofInt 48).toInt ≤ 9 := by decide +kernel
theorem t_dig {x : Int32} (h1 : -128 ≤ x.toInt) (h2 : x.toInt ≤ 127) (h3 : 50 ≤ (x &&& Int32.ofInt 255).toInt ∧ (x &&& Int32.ofInt 255).toInt ≤ 57) : 2 ≤ (x - Int32.ofInt 48).toInt ∧ (x - Int32.ofInt 48).toInt ≤ 9 := by
  have e : x = Int32.ofInt ((((x.toInt + 128).toNat : Nat) : Int) - 128) := by rw [show (((x.toInt + 128).toNat : Nat) : Int) - 128 = x.toInt by omega, q_of]
  have k := t_dg0 ⟨(x.toInt + 128).toNat, by omega⟩
  dsimp only at k
  rw [← e] at k
  exact k h3.1 h3.2
section TT
variable {L : Nat} {xs : Nat → Int32} {d : Nat} {R : v_Rf} {Q : Option Value → v_Sf → v_Rf → Prop} {S0 : v_Sf} {pl cs sk cl : Nat} {bd : Int32} {nc sg : Nat → Int32} {ov bh : Bool} {op : Int32} {na : Nat → Int32}
variable {T0 : v_Sf} {nm om : Nat} {bg : Bool} {nt fo ot pp : Nat → Int32}
theorem h_times (hpl : pl ≤ 240) (he : (S0 99 4).toInt ≤ 240) (htp : ∀ j, j < 260 → -128 ≤ (S0 100 j).toInt ∧ (S0 100 j).toInt ≤ 127) (K : ∀ m pl' : Nat, 1 ≤ m → m ≤ 9 → pl ≤ pl' → pl' ≤ 240 → Q (some (.int (Int32.ofInt (m : Int)))) (p_S S0 (pl') cs sk cl bd nc sg ov bh op na) R) : w_T L xs (d + 1) m_X12_timesTold 0 (lv_args 0 [.ref 100]) [] (p_S S0 pl cs sk cl bd nc sg ov bh op na) R Q := by
  have e50 : (Int64.ofInt 50).toInt = 50 := by decide
  have e57 : (Int64.ofInt 57).toInt = 57 := by decide
  have e0 := Int32.toInt_toInt64 (p_h S0 pl)
  refine w_st rfl (fun _ => rfl) ?_
  show w_T L xs (d + 1) m_X12_timesTold 1 [(0, .ref 100)] [.ref 100] (p_S S0 pl cs sk cl bd nc sg ov bh op na) R Q
  refine w_cv rfl (by decide) mt_X12_here v_tyM rfl rfl rfl (Nat.le_of_ble_eq_true rfl) (Nat.le_of_ble_eq_true rfl) (Nat.le_of_ble_eq_true rfl) ?_
  show w_T L xs _ m_X12_here 0 (lv_args 0 [.ref 100]) [] (p_S S0 pl cs sk cl bd nc sg ov bh op na) R _
  refine h_here (by omega) ?_
  refine w_st rfl (fun _ => rfl) ?_
  refine w_st rfl (fun _ => rfl) ?_
  refine w_st rfl (fun _ => rfl) ?_
  show w_T L xs (d + 1) m_X12_timesTold 11 [(0, .ref 100)] [.long (Int64.ofInt 57), .long (Int64.ofInt 50), .long ((p_h S0 pl).toInt64)] (p_S S0 pl cs sk cl bd nc sg ov bh op na) R Q
  refine w_cs rfl (by decide) mt_X12_lies (fun _ => rfl) (Nat.le_of_ble_eq_true rfl) (Nat.le_of_ble_eq_true rfl) ?_
  show w_T L xs _ m_X12_lies 0 (lv_args 0 [.long ((p_h S0 pl).toInt64), .long (Int64.ofInt 50), .long (Int64.ofInt 57)]) [] (p_S S0 pl cs sk cl bd nc sg ov bh op na) R _
  refine h_lies _ _ _ ?_
  rw [e50, e57, e0]
  by_cases hd : 50 ≤ (p_h S0 pl).toInt ∧ (p_h S0 pl).toInt ≤ 57
  · rw [if_pos hd]
    show w_T L xs (d + 1) m_X12_timesTold 14 [(0, .ref 100)] [.int (Int32.ofInt 1)] (p_S S0 pl cs sk cl bd nc sg ov bh op na) R Q
    refine w_st rfl (fun _ => rfl) ?_
    show w_T L xs (d + 1) m_X12_timesTold 19 [(0, .ref 100)] [] (p_S S0 pl cs sk cl bd nc sg ov bh op na) R Q
    have hne : ¬ p_h S0 pl = Int32.ofInt 0 := fun e => by
      rw [e] at hd
      exact absurd hd.1 (by decide)
    have hlt := p_h_lt hne
    have hx : p_h S0 pl = S0 100 pl &&& Int32.ofInt 255 := if_pos hlt
    rw [hx] at hd
    have hdg := t_dig (htp pl (by omega)).1 (htp pl (by omega)).2 hd
    refine w_st rfl (fun _ => rfl) ?_
    refine w_st rfl (fun _ => rfl) ?_
    show w_T L xs (d + 1) m_X12_timesTold 21 [(0, .ref 100)] [.ref 100, .ref 100] (p_S S0 pl cs sk cl bd nc sg ov bh op na) R Q
    refine w_get rfl v_tyM rfl ?_
    refine w_st rfl (fun _ => rfl) ?_
    refine w_st rfl (fun _ => rfl) ?_
    show w_T L xs (d + 1) m_X12_timesTold 26 [(0, .ref 100)] [.int ((Int32.ofInt (pl : Int)) + (Int32.ofInt 1)), .ref 100] (p_S S0 pl cs sk cl bd nc sg ov bh op na) R Q
    refine w_put rfl v_tyM rfl rfl rfl ?_
    refine w_eqS (p_wpl (w_inc _)) ?_
    refine w_st rfl (fun _ => rfl) ?_
    show w_T L xs (d + 1) m_X12_timesTold 30 [(0, .ref 100)] [.ref 100] (p_S S0 (pl + 1) cs sk cl bd nc sg ov bh op na) R Q
    refine w_getr rfl v_tyM rfl ?_
    refine w_st rfl (fun _ => rfl) ?_
    show w_T L xs (d + 1) m_X12_timesTold 34 [(0, .ref 100)] [.ref 100, .ref 101] (p_S S0 (pl + 1) cs sk cl bd nc sg ov bh op na) R Q
    refine w_get rfl v_tyM rfl ?_
    refine w_st rfl (fun _ => rfl) ?_
    refine w_st rfl (fun _ => rfl) ?_
    show w_T L xs (d + 1) m_X12_timesTold 39 [(0, .ref 100)] [.int ((Int32.ofInt ((pl + 1 : Nat) : Int)) - (Int32.ofInt 1)), .ref 101] (p_S S0 (pl + 1) cs sk cl bd nc sg ov bh op na) R Q
    refine w_bald rfl rfl (by decide) (by rw [w_dec2 (by omega), w_nat (by omega)]; omega) (by rw [w_dec2 (by omega), w_nat (by omega)]; omega) ?_
    rw [w_dec2 (by omega), w_natn (by omega), Nat.add_sub_cancel]
    refine w_st rfl (fun _ => rfl) ?_
    refine w_st rfl (fun _ => rfl) ?_
    show w_T L xs (d + 1) m_X12_timesTold 43 [(0, .ref 100)] [.int ((S0 100 pl) - (Int32.ofInt 48))] (p_S S0 (pl + 1) cs sk cl bd nc sg ov bh op na) R Q
    refine w_ret rfl (by rfl) ?_
    rw [p_nof (show 0 ≤ (S0 100 pl - Int32.ofInt 48).toInt by omega)]
    exact K _ (pl + 1) (by omega) (by omega) (by omega) (by omega)
  · rw [if_neg hd]
    show w_T L xs (d + 1) m_X12_timesTold 14 [(0, .ref 100)] [.int (Int32.ofInt 0)] (p_S S0 pl cs sk cl bd nc sg ov bh op na) R Q
    refine w_st rfl (fun _ => rfl) ?_
    refine w_st rfl (fun _ => rfl) ?_
    show w_T L xs (d + 1) m_X12_timesTold 18 [(0, .ref 100)] [.int (Int32.ofInt 1)] (p_S S0 pl cs sk cl bd nc sg ov bh op na) R Q
    refine w_ret rfl (by rfl) ?_
    exact K 1 pl (by omega) (by omega) (by omega) (by omega)
theorem h_rp1 {f z m p : Nat} {wh : Int32} (hp : z * m = p) (hfp : f + p ≤ 48) (hfz : f + z ≤ 48) (K : ∀ nt' : Nat → Int32, (∀ j, j < 48 → -1 ≤ (nt' j).toInt ∧ (nt' j).toInt ≤ 9) → Q none (p_S (t_S T0 (f + p) om bg (nt') fo ot pp) pl cs sk cl (Int32.ofInt 0) nc sg ov bh op na) R) : ∀ (c k : Nat) (nt : Nat → Int32), k + c = p → (∀ j, j < 48 → -1 ≤ (nt j).toInt ∧ (nt j).toInt ≤ 9) → w_T L xs (d + 1) m_X12_repeats 38 [(5, .int (Int32.ofInt (k : Int))), (4, .int (Int32.ofInt (z : Int))), (0, .ref 100), (1, .int (Int32.ofInt (f : Int))), (2, .int (Int32.ofInt (m : Int))), (3, .int wh)] [] (p_S (t_S T0 nm om bg nt fo ot pp) pl cs sk cl (Int32.ofInt 0) nc sg ov bh op na) R Q := by
  have em : Int32.ofInt (z : Int) * Int32.ofInt (m : Int) = Int32.ofInt (p : Int) := by rw [← Int32.ofInt_mul, ← hp]; rfl
  have ea : Int32.ofInt (f : Int) + Int32.ofInt (z : Int) * Int32.ofInt (m : Int) = Int32.ofInt ((f + p : Nat) : Int) := by rw [em, w_addn]
  intro c
  induction c with
  | zero =>
    intro k nt hk hn
    have ek := w_nat (k := k) (by omega)
    have ep := w_nat (k := p) (by omega)
    refine w_st rfl (fun _ => rfl) ?_
    refine w_st rfl (fun _ => rfl) ?_
    refine w_st rfl (fun _ => rfl) ?_
    refine w_st rfl (fun _ => rfl) ?_
    show w_T L xs (d + 1) m_X12_repeats 44 [(5, .int (Int32.ofInt (k : Int))), (4, .int (Int32.ofInt (z : Int))), (0, .ref 100), (1, .int (Int32.ofInt (f : Int))), (2, .int (Int32.ofInt (m : Int))), (3, .int wh)] [.int ((Int32.ofInt (z : Int)) * (Int32.ofInt (m : Int))), .int (Int32.ofInt (k : Int))] (p_S (t_S T0 nm om bg nt fo ot pp) pl cs sk cl (Int32.ofInt 0) nc sg ov bh op na) R Q
    refine w_br (P := ((Int32.ofInt (z : Int)) * (Int32.ofInt (m : Int))) ≤ (Int32.ofInt (k : Int))) rfl (fun _ => rfl) (fun h44 => ?_) (fun h44 => ?_)
    · refine w_st rfl (fun _ => rfl) ?_
      refine w_st rfl (fun _ => rfl) ?_
      refine w_st rfl (fun _ => rfl) ?_
      refine w_st rfl (fun _ => rfl) ?_
      refine w_st rfl (fun _ => rfl) ?_
      refine w_st rfl (fun _ => rfl) ?_
      show w_T L xs (d + 1) m_X12_repeats 81 [(5, .int (Int32.ofInt (k : Int))), (4, .int (Int32.ofInt (z : Int))), (0, .ref 100), (1, .int (Int32.ofInt (f : Int))), (2, .int (Int32.ofInt (m : Int))), (3, .int wh)] [.int ((Int32.ofInt (f : Int)) + ((Int32.ofInt (z : Int)) * (Int32.ofInt (m : Int)))), .ref 100] (p_S (t_S T0 nm om bg nt fo ot pp) pl cs sk cl (Int32.ofInt 0) nc sg ov bh op na) R Q
      refine w_put rfl v_tyM rfl rfl rfl ?_
      refine w_eqS (p_wo99 (by decide)) ?_
      refine w_eqS (p_in (t_wnm ea)) ?_
      show w_T L xs (d + 1) m_X12_repeats 84 [(5, .int (Int32.ofInt (k : Int))), (4, .int (Int32.ofInt (z : Int))), (0, .ref 100), (1, .int (Int32.ofInt (f : Int))), (2, .int (Int32.ofInt (m : Int))), (3, .int wh)] [] (p_S (t_S T0 (f + p) om bg nt fo ot pp) pl cs sk cl (Int32.ofInt 0) nc sg ov bh op na) R Q
      refine w_ret rfl rfl ?_
      exact K _ hn
    · exfalso; rw [em, q_le32, ek, ep] at h44; omega
  | succ c ih =>
    intro k nt hk hn
    have ek := w_nat (k := k) (by omega)
    have ep := w_nat (k := p) (by omega)
    have hz : 0 < z := Nat.pos_of_ne_zero (fun e => by rw [e, Nat.zero_mul] at hp; omega)
    have ez := w_nat (k := z) (by omega)
    have hnz : ¬ Int32.ofInt (z : Int) = 0 := fun e => by
      rw [e] at ez
      have z0 : (0 : Int32).toInt = 0 := rfl
      omega
    have hr := v_rem_ok (x := Int32.ofInt (k : Int)) (y := Int32.ofInt (z : Int)) (p := (0, 48)) (q := (1, (z : Int))) ⟨by rw [ek]; show (0 : Int) ≤ _; omega, by rw [ek]; show _ ≤ (48 : Int); omega⟩ ⟨by rw [ez]; show (1 : Int) ≤ _; omega, by rw [ez]; exact Int.le_refl _⟩ (Int.le_refl _) (Int.le_refl _)
    generalize hrI : Int32.ofInt (k : Int) - Int32.ofInt (k : Int) / Int32.ofInt (z : Int) * Int32.ofInt (z : Int) = rI at hr
    have hr2 : rI.toInt ≤ (z : Int) - 1 := by
      exact Int.le_trans hr.2 (v_mn_r _ _)
    obtain ⟨r, er, hrz⟩ : ∃ r : Nat, rI = Int32.ofInt (r : Int) ∧ r < z := ⟨rI.toInt.toNat, p_nof hr.1, by have := hr.1; omega⟩
    refine w_st rfl (fun _ => rfl) ?_
    refine w_st rfl (fun _ => rfl) ?_
    refine w_st rfl (fun _ => rfl) ?_
    refine w_st rfl (fun _ => rfl) ?_
    show w_T L xs (d + 1) m_X12_repeats 44 [(5, .int (Int32.ofInt (k : Int))), (4, .int (Int32.ofInt (z : Int))), (0, .ref 100), (1, .int (Int32.ofInt (f : Int))), (2, .int (Int32.ofInt (m : Int))), (3, .int wh)] [.int ((Int32.ofInt (z : Int)) * (Int32.ofInt (m : Int))), .int (Int32.ofInt (k : Int))] (p_S (t_S T0 nm om bg nt fo ot pp) pl cs sk cl (Int32.ofInt 0) nc sg ov bh op na) R Q
    refine w_br (P := ((Int32.ofInt (z : Int)) * (Int32.ofInt (m : Int))) ≤ (Int32.ofInt (k : Int))) rfl (fun _ => rfl) (fun h44 => ?_) (fun h44 => ?_)
    · exfalso; rw [em, q_le32, ek, ep] at h44; omega
    · refine w_st rfl (fun _ => rfl) ?_
      show w_T L xs (d + 1) m_X12_repeats 48 [(5, .int (Int32.ofInt (k : Int))), (4, .int (Int32.ofInt (z : Int))), (0, .ref 100), (1, .int (Int32.ofInt (f : Int))), (2, .int (Int32.ofInt (m : Int))), (3, .int wh)] [.ref 100] (p_S (t_S T0 nm om bg nt fo ot pp) pl cs sk cl (Int32.ofInt 0) nc sg ov bh op na) R Q
      refine w_getr rfl v_tyM rfl ?_
      refine w_st rfl (fun _ => rfl) ?_
      refine w_st rfl (fun _ => rfl) ?_
      refine w_st rfl (fun _ => rfl) ?_
      refine w_st rfl (fun _ => rfl) ?_
      show w_T L xs (d + 1) m_X12_repeats 56 [(5, .int (Int32.ofInt (k : Int))), (4, .int (Int32.ofInt (z : Int))), (0, .ref 100), (1, .int (Int32.ofInt (f : Int))), (2, .int (Int32.ofInt (m : Int))), (3, .int wh)] [.ref 100, .int ((Int32.ofInt (f : Int)) + (Int32.ofInt (k : Int))), .ref 134] (p_S (t_S T0 nm om bg nt fo ot pp) pl cs sk cl (Int32.ofInt 0) nc sg ov bh op na) R Q
      refine w_getr rfl v_tyM rfl ?_
      refine w_st rfl (fun _ => rfl) ?_
      refine w_st rfl (fun _ => rfl) ?_
      refine w_st rfl (fun _ => rfl) ?_
      show w_T L xs (d + 1) m_X12_repeats 64 [(5, .int (Int32.ofInt (k : Int))), (4, .int (Int32.ofInt (z : Int))), (0, .ref 100), (1, .int (Int32.ofInt (f : Int))), (2, .int (Int32.ofInt (m : Int))), (3, .int wh)] [.int (Int32.ofInt (z : Int)), .int (Int32.ofInt (k : Int)), .int (Int32.ofInt (f : Int)), .ref 134, .int ((Int32.ofInt (f : Int)) + (Int32.ofInt (k : Int))), .ref 134] (p_S (t_S T0 nm om bg nt fo ot pp) pl cs sk cl (Int32.ofInt 0) nc sg ov bh op na) R Q
      refine w_irem rfl hnz ?_
      rw [hrI, er]
      refine w_st rfl (fun _ => rfl) ?_
      show w_T L xs (d + 1) m_X12_repeats 66 [(5, .int (Int32.ofInt (k : Int))), (4, .int (Int32.ofInt (z : Int))), (0, .ref 100), (1, .int (Int32.ofInt (f : Int))), (2, .int (Int32.ofInt (m : Int))), (3, .int wh)] [.int ((Int32.ofInt (f : Int)) + (Int32.ofInt (r : Int))), .ref 134, .int ((Int32.ofInt (f : Int)) + (Int32.ofInt (k : Int))), .ref 134] (p_S (t_S T0 nm om bg nt fo ot pp) pl cs sk cl (Int32.ofInt 0) nc sg ov bh op na) R Q
      refine w_iald rfl rfl (by rw [w_addn, w_nat (by omega)]; omega) (by rw [w_addn, w_nat (by omega)]; omega) ?_
      rw [w_addn, w_natn (by omega), pt_rnt (by omega)]
      show w_T L xs (d + 1) m_X12_repeats 67 [(5, .int (Int32.ofInt (k : Int))), (4, .int (Int32.ofInt (z : Int))), (0, .ref 100), (1, .int (Int32.ofInt (f : Int))), (2, .int (Int32.ofInt (m : Int))), (3, .int wh)] [.int (nt (f + r)), .int ((Int32.ofInt (f : Int)) + (Int32.ofInt (k : Int))), .ref 134] (p_S (t_S T0 nm om bg nt fo ot pp) pl cs sk cl (Int32.ofInt 0) nc sg ov bh op na) R Q
      refine w_iast rfl rfl (by rw [w_addn, w_nat (by omega)]; omega) (by rw [w_addn, w_nat (by omega)]; omega) ?_
      refine w_eqS (p_wor (by decide) (by rw [w_addn, w_natn (by omega)])) ?_
      refine w_eqS (p_in (t_wnt (by omega))) ?_
      refine w_st rfl (fun _ => rfl) ?_
      refine w_st rfl (fun _ => rfl) ?_
      show w_T L xs (d + 1) m_X12_repeats 38 [(5, .int ((Int32.ofInt (k : Int)) + (Int32.ofInt 1))), (4, .int (Int32.ofInt (z : Int))), (0, .ref 100), (1, .int (Int32.ofInt (f : Int))), (2, .int (Int32.ofInt (m : Int))), (3, .int wh)] [] (p_S (t_S T0 nm om bg (upd nt (f + k) (nt (f + r))) fo ot pp) pl cs sk cl (Int32.ofInt 0) nc sg ov bh op na) R Q
      rw [w_inc]
      refine ih (k + 1) _ (by omega) (fun j hj => ?_)
      by_cases e : j = f + k
      · rw [e, p_upe]; exact hn _ (by omega)
      · rw [p_upn e]; exact hn j hj
theorem h_rp8 {f z m : Nat} {wh : Int32} (hz : f + z = nm) (hm1 : 1 ≤ m) (hm : m ≤ 9) (hnm : nm ≤ 48) (w1 : 0 ≤ wh.toInt) (w2 : wh.toInt ≤ 1000) (hn : ∀ j, j < 48 → -1 ≤ (nt j).toInt ∧ (nt j).toInt ≤ 9) (K : ∀ (nm' : Nat) (nt' : Nat → Int32), nm ≤ nm' → nm' ≤ 48 → (∀ j, j < 48 → -1 ≤ (nt' j).toInt ∧ (nt' j).toInt ≤ 9) → Q none (p_S (t_S T0 (nm') om bg (nt') fo ot pp) pl cs sk cl (Int32.ofInt 0) nc sg ov bh op na) R) (Kb : ∀ b : Int32, b.toInt < 0 → Q none (p_S (t_S T0 nm om bg nt fo ot pp) pl cs sk cl b nc sg ov bh op na) R) : w_T L xs (d + 1) m_X12_repeats 8 [(4, .int (Int32.ofInt (z : Int))), (0, .ref 100), (1, .int (Int32.ofInt (f : Int))), (2, .int (Int32.ofInt (m : Int))), (3, .int wh)] [] (p_S (t_S T0 nm om bg nt fo ot pp) pl cs sk cl (Int32.ofInt 0) nc sg ov bh op na) R Q := by
  obtain ⟨p, hp⟩ : ∃ p, z * m = p := ⟨_, rfl⟩
  have hp1 : z ≤ p := by rw [← hp]; exact Nat.le_mul_of_pos_right z hm1
  have hp2 : p ≤ 48 * 9 := by rw [← hp]; exact Nat.mul_le_mul (by omega) hm
  have em : Int32.ofInt (z : Int) * Int32.ofInt (m : Int) = Int32.ofInt (p : Int) := by rw [← Int32.ofInt_mul, ← hp]; rfl
  have ea : Int32.ofInt (f : Int) + Int32.ofInt (z : Int) * Int32.ofInt (m : Int) = Int32.ofInt ((f + p : Nat) : Int) := by rw [em, w_addn]
  have e48 : (Int32.ofInt 48).toInt = 48 := by decide
  refine w_st rfl (fun _ => rfl) ?_
  refine w_st rfl (fun _ => rfl) ?_
  refine w_st rfl (fun _ => rfl) ?_
  refine w_st rfl (fun _ => rfl) ?_
  refine w_st rfl (fun _ => rfl) ?_
  refine w_st rfl (fun _ => rfl) ?_
  show w_T L xs (d + 1) m_X12_repeats 16 [(4, .int (Int32.ofInt (z : Int))), (0, .ref 100), (1, .int (Int32.ofInt (f : Int))), (2, .int (Int32.ofInt (m : Int))), (3, .int wh)] [.int (Int32.ofInt 48), .int ((Int32.ofInt (f : Int)) + ((Int32.ofInt (z : Int)) * (Int32.ofInt (m : Int))))] (p_S (t_S T0 nm om bg nt fo ot pp) pl cs sk cl (Int32.ofInt 0) nc sg ov bh op na) R Q
  refine w_br (P := ((Int32.ofInt (f : Int)) + ((Int32.ofInt (z : Int)) * (Int32.ofInt (m : Int)))) ≤ (Int32.ofInt 48)) rfl (fun _ => rfl) (fun h16 => ?_) (fun h16 => ?_)
  · have h48 : f + p ≤ 48 := by
      rw [ea, q_le32, w_nat (by omega), e48] at h16
      omega
    refine w_st rfl (fun _ => rfl) ?_
    show w_T L xs (d + 1) m_X12_repeats 27 [(4, .int (Int32.ofInt (z : Int))), (0, .ref 100), (1, .int (Int32.ofInt (f : Int))), (2, .int (Int32.ofInt (m : Int))), (3, .int wh)] [.ref 100] (p_S (t_S T0 nm om bg nt fo ot pp) pl cs sk cl (Int32.ofInt 0) nc sg ov bh op na) R Q
    refine w_cv rfl (by decide) mt_X12_isGood v_tyM rfl rfl rfl (Nat.le_of_ble_eq_true rfl) (Nat.le_of_ble_eq_true rfl) (Nat.le_of_ble_eq_true rfl) ?_
    show w_T L xs _ m_X12_isGood 0 (lv_args 0 [.ref 100]) [] (p_S (t_S T0 nm om bg nt fo ot pp) pl cs sk cl (Int32.ofInt 0) nc sg ov bh op na) R _
    refine h_isGT ?_
    show w_T L xs (d + 1) m_X12_repeats 30 [(4, .int (Int32.ofInt (z : Int))), (0, .ref 100), (1, .int (Int32.ofInt (f : Int))), (2, .int (Int32.ofInt (m : Int))), (3, .int wh)] [.int (Int32.ofInt 1)] (p_S (t_S T0 nm om bg nt fo ot pp) pl cs sk cl (Int32.ofInt 0) nc sg ov bh op na) R Q
    refine w_st rfl (fun _ => rfl) ?_
    refine w_st rfl (fun _ => rfl) ?_
    refine w_st rfl (fun _ => rfl) ?_
    show w_T L xs (d + 1) m_X12_repeats 38 [(5, .int (Int32.ofInt (z : Int))), (4, .int (Int32.ofInt (z : Int))), (0, .ref 100), (1, .int (Int32.ofInt (f : Int))), (2, .int (Int32.ofInt (m : Int))), (3, .int wh)] [] (p_S (t_S T0 nm om bg nt fo ot pp) pl cs sk cl (Int32.ofInt 0) nc sg ov bh op na) R Q
    refine h_rp1 hp h48 (by omega) (fun nt' hn' => K _ nt' (by omega) h48 hn') (p - z) z nt (by omega) hn
  · refine w_st rfl (fun _ => rfl) ?_
    refine w_st rfl (fun _ => rfl) ?_
    refine w_st rfl (fun _ => rfl) ?_
    show w_T L xs (d + 1) m_X12_repeats 23 [(4, .int (Int32.ofInt (z : Int))), (0, .ref 100), (1, .int (Int32.ofInt (f : Int))), (2, .int (Int32.ofInt (m : Int))), (3, .int wh)] [.int wh, .int (Int32.ofInt 6), .ref 100] (p_S (t_S T0 nm om bg nt fo ot pp) pl cs sk cl (Int32.ofInt 0) nc sg ov bh op na) R Q
    refine w_cv rfl (by decide) mt_X12_wrongs v_tyM rfl rfl rfl (Nat.le_of_ble_eq_true rfl) (Nat.le_of_ble_eq_true rfl) (Nat.le_of_ble_eq_true rfl) ?_
    show w_T L xs _ m_X12_wrongs 0 (lv_args 0 [.ref 100, .int (Int32.ofInt 6), .int wh]) [] (p_S (t_S T0 nm om bg nt fo ot pp) pl cs sk cl (Int32.ofInt 0) nc sg ov bh op na) R _
    refine h_wr (by decide) (by decide) w1 w2 (fun b23 hb23 => ?_)
    refine w_st rfl (fun _ => rfl) ?_
    show w_T L xs (d + 1) m_X12_repeats 27 [(4, .int (Int32.ofInt (z : Int))), (0, .ref 100), (1, .int (Int32.ofInt (f : Int))), (2, .int (Int32.ofInt (m : Int))), (3, .int wh)] [.ref 100] (p_S (t_S T0 nm om bg nt fo ot pp) pl cs sk cl b23 nc sg ov bh op na) R Q
    refine w_cv rfl (by decide) mt_X12_isGood v_tyM rfl rfl rfl (Nat.le_of_ble_eq_true rfl) (Nat.le_of_ble_eq_true rfl) (Nat.le_of_ble_eq_true rfl) ?_
    show w_T L xs _ m_X12_isGood 0 (lv_args 0 [.ref 100]) [] (p_S (t_S T0 nm om bg nt fo ot pp) pl cs sk cl b23 nc sg ov bh op na) R _
    refine h_isGF hb23 ?_
    show w_T L xs (d + 1) m_X12_repeats 30 [(4, .int (Int32.ofInt (z : Int))), (0, .ref 100), (1, .int (Int32.ofInt (f : Int))), (2, .int (Int32.ofInt (m : Int))), (3, .int wh)] [.int (Int32.ofInt 0)] (p_S (t_S T0 nm om bg nt fo ot pp) pl cs sk cl b23 nc sg ov bh op na) R Q
    refine w_st rfl (fun _ => rfl) ?_
    show w_T L xs (d + 1) m_X12_repeats 33 [(4, .int (Int32.ofInt (z : Int))), (0, .ref 100), (1, .int (Int32.ofInt (f : Int))), (2, .int (Int32.ofInt (m : Int))), (3, .int wh)] [] (p_S (t_S T0 nm om bg nt fo ot pp) pl cs sk cl b23 nc sg ov bh op na) R Q
    refine w_ret rfl rfl ?_
    exact Kb _ hb23
theorem h_repeats {fr tm wh : Int32} (f1 : 0 ≤ fr.toInt) (f2 : fr.toInt ≤ (nm : Int)) (t1 : 1 ≤ tm.toInt) (t2 : tm.toInt ≤ 9) (hnm : nm ≤ 48) (w1 : 0 ≤ wh.toInt) (w2 : wh.toInt ≤ 1000) (hn : ∀ j, j < 48 → -1 ≤ (nt j).toInt ∧ (nt j).toInt ≤ 9) (K : ∀ (nm' : Nat) (nt' : Nat → Int32), nm ≤ nm' → nm' ≤ 48 → (∀ j, j < 48 → -1 ≤ (nt' j).toInt ∧ (nt' j).toInt ≤ 9) → Q none (p_S (t_S T0 (nm') om bg (nt') fo ot pp) pl cs sk cl (Int32.ofInt 0) nc sg ov bh op na) R) (Kb : ∀ b : Int32, b.toInt < 0 → Q none (p_S (t_S T0 nm om bg nt fo ot pp) pl cs sk cl b nc sg ov bh op na) R) : w_T L xs (d + 1) m_X12_repeats 0 (lv_args 0 [.ref 100, .int fr, .int tm, .int wh]) [] (p_S (t_S T0 nm om bg nt fo ot pp) pl cs sk cl (Int32.ofInt 0) nc sg ov bh op na) R Q := by
  obtain ⟨f, rfl, hf⟩ : ∃ f : Nat, fr = Int32.ofInt (f : Int) ∧ f ≤ nm := ⟨_, p_nof f1, by omega⟩
  obtain ⟨m, rfl, hm1, hm2⟩ : ∃ m : Nat, tm = Int32.ofInt (m : Int) ∧ 1 ≤ m ∧ m ≤ 9 := ⟨_, p_nof (by omega), by omega, by omega⟩
  obtain ⟨z, hz⟩ : ∃ z, f + z = nm := ⟨nm - f, by omega⟩
  have es : Int32.ofInt (nm : Int) - Int32.ofInt (f : Int) = Int32.ofInt (z : Int) := by
    rw [← Int32.ofInt_sub]
    congr 1
    omega
  refine w_st rfl (fun _ => rfl) ?_
  show w_T L xs (d + 1) m_X12_repeats 1 [(0, .ref 100), (1, .int (Int32.ofInt (f : Int))), (2, .int (Int32.ofInt (m : Int))), (3, .int wh)] [.ref 100] (p_S (t_S T0 nm om bg nt fo ot pp) pl cs sk cl (Int32.ofInt 0) nc sg ov bh op na) R Q
  refine w_get rfl v_tyM rfl ?_
  refine w_st rfl (fun _ => rfl) ?_
  refine w_st rfl (fun _ => rfl) ?_
  refine w_st rfl (fun _ => rfl) ?_
  show w_T L xs (d + 1) m_X12_repeats 8 [(4, .int ((Int32.ofInt (nm : Int)) - (Int32.ofInt (f : Int)))), (0, .ref 100), (1, .int (Int32.ofInt (f : Int))), (2, .int (Int32.ofInt (m : Int))), (3, .int wh)] [] (p_S (t_S T0 nm om bg nt fo ot pp) pl cs sk cl (Int32.ofInt 0) nc sg ov bh op na) R Q
  rw [es]
  exact h_rp8 hz hm1 hm2 hnm w1 w2 hn K Kb
theorem h_ml {m : Nat} {wh : Int32} (hpl : pl ≤ 240) (hm : nm + m ≤ 48) (hh : p_h T0 pl = Int32.ofInt 46 ∨ (65 ≤ (p_h T0 pl).toInt ∧ (p_h T0 pl).toInt ≤ 74)) (K : ∀ nt' : Nat → Int32, (∀ j, j < 48 → -1 ≤ (nt' j).toInt ∧ (nt' j).toInt ≤ 9) → w_T L xs (d + 2) m_X12_monthTold 286 [(3, .int (Int32.ofInt (m : Int))), (2, .int (Int32.ofInt (m : Int))), (1, .int wh), (0, .ref 100)] [] (p_S (t_S T0 nm om bg (nt') fo ot pp) pl cs sk cl (Int32.ofInt 0) nc sg ov bh op na) R Q) : ∀ (c k : Nat) (nt : Nat → Int32), k + c = m → (∀ j, j < 48 → -1 ≤ (nt j).toInt ∧ (nt j).toInt ≤ 9) → w_T L xs (d + 2) m_X12_monthTold 244 [(3, .int (Int32.ofInt (k : Int))), (2, .int (Int32.ofInt (m : Int))), (1, .int wh), (0, .ref 100)] [] (p_S (t_S T0 nm om bg nt fo ot pp) pl cs sk cl (Int32.ofInt 0) nc sg ov bh op na) R Q := by
  intro c
  induction c with
  | zero =>
    intro k nt hk hn
    obtain rfl : k = m := by omega
    refine w_st rfl (fun _ => rfl) ?_
    refine w_st rfl (fun _ => rfl) ?_
    show w_T L xs (d + 2) m_X12_monthTold 246 [(3, .int (Int32.ofInt (k : Int))), (2, .int (Int32.ofInt (k : Int))), (1, .int wh), (0, .ref 100)] [.int (Int32.ofInt (k : Int)), .int (Int32.ofInt (k : Int))] (p_S (t_S T0 nm om bg nt fo ot pp) pl cs sk cl (Int32.ofInt 0) nc sg ov bh op na) R Q
    refine w_br (P := (Int32.ofInt (k : Int)) ≤ (Int32.ofInt (k : Int))) rfl (fun _ => rfl) (fun h246 => ?_) (fun h246 => ?_)
    · exact K _ hn
    · exfalso; rw [q_le32] at h246; omega
  | succ c ih =>
    intro k nt hk hn
    have ek := w_nat (k := k) (by omega)
    have em := w_nat (k := m) (by omega)
    refine w_st rfl (fun _ => rfl) ?_
    refine w_st rfl (fun _ => rfl) ?_
    show w_T L xs (d + 2) m_X12_monthTold 246 [(3, .int (Int32.ofInt (k : Int))), (2, .int (Int32.ofInt (m : Int))), (1, .int wh), (0, .ref 100)] [.int (Int32.ofInt (m : Int)), .int (Int32.ofInt (k : Int))] (p_S (t_S T0 nm om bg nt fo ot pp) pl cs sk cl (Int32.ofInt 0) nc sg ov bh op na) R Q
    refine w_br (P := (Int32.ofInt (m : Int)) ≤ (Int32.ofInt (k : Int))) rfl (fun _ => rfl) (fun h246 => ?_) (fun h246 => ?_)
    · exfalso; rw [q_le32, em, ek] at h246; omega
    · refine w_st rfl (fun _ => rfl) ?_
      show w_T L xs (d + 2) m_X12_monthTold 250 [(3, .int (Int32.ofInt (k : Int))), (2, .int (Int32.ofInt (m : Int))), (1, .int wh), (0, .ref 100)] [.ref 100] (p_S (t_S T0 nm om bg nt fo ot pp) pl cs sk cl (Int32.ofInt 0) nc sg ov bh op na) R Q
      refine w_getr rfl v_tyM rfl ?_
      refine w_st rfl (fun _ => rfl) ?_
      show w_T L xs (d + 2) m_X12_monthTold 254 [(3, .int (Int32.ofInt (k : Int))), (2, .int (Int32.ofInt (m : Int))), (1, .int wh), (0, .ref 100)] [.ref 100, .ref 134] (p_S (t_S T0 nm om bg nt fo ot pp) pl cs sk cl (Int32.ofInt 0) nc sg ov bh op na) R Q
      refine w_get rfl v_tyM rfl ?_
      refine w_st rfl (fun _ => rfl) ?_
      refine w_st rfl (fun _ => rfl) ?_
      refine w_st rfl (fun _ => rfl) ?_
      show w_T L xs (d + 2) m_X12_monthTold 260 [(3, .int (Int32.ofInt (k : Int))), (2, .int (Int32.ofInt (m : Int))), (1, .int wh), (0, .ref 100)] [.ref 100, .int ((Int32.ofInt (nm : Int)) + (Int32.ofInt (k : Int))), .ref 134] (p_S (t_S T0 nm om bg nt fo ot pp) pl cs sk cl (Int32.ofInt 0) nc sg ov bh op na) R Q
      refine w_cv rfl (by decide) mt_X12_here v_tyM rfl rfl rfl (Nat.le_of_ble_eq_true rfl) (Nat.le_of_ble_eq_true rfl) (Nat.le_of_ble_eq_true rfl) ?_
      show w_T L xs _ m_X12_here 0 (lv_args 0 [.ref 100]) [] (p_S (t_S T0 nm om bg nt fo ot pp) pl cs sk cl (Int32.ofInt 0) nc sg ov bh op na) R _
      refine h_here (by omega) ?_
      refine w_st rfl (fun _ => rfl) ?_
      show w_T L xs (d + 2) m_X12_monthTold 265 [(3, .int (Int32.ofInt (k : Int))), (2, .int (Int32.ofInt (m : Int))), (1, .int wh), (0, .ref 100)] [.int (Int32.ofInt 46), .int (p_h T0 pl), .int ((Int32.ofInt (nm : Int)) + (Int32.ofInt (k : Int))), .ref 134] (p_S (t_S T0 nm om bg nt fo ot pp) pl cs sk cl (Int32.ofInt 0) nc sg ov bh op na) R Q
      refine w_br (P := ¬ (p_h T0 pl) = (Int32.ofInt 46)) rfl (fun _ => rfl) (fun h265 => ?_) (fun h265 => ?_)
      · have h65 := hh.resolve_left h265
        have hv : -1 ≤ (p_h T0 pl - Int32.ofInt 65).toInt ∧ (p_h T0 pl - Int32.ofInt 65).toInt ≤ 9 := by
          have e1 : p_h T0 pl - Int32.ofInt 65 = Int32.ofInt ((p_h T0 pl).toInt - 65) := by rw [Int32.ofInt_sub, q_of]
          rw [e1, q_ofr (by omega) (by omega)]
          omega
        refine w_st rfl (fun _ => rfl) ?_
        show w_T L xs (d + 2) m_X12_monthTold 273 [(3, .int (Int32.ofInt (k : Int))), (2, .int (Int32.ofInt (m : Int))), (1, .int wh), (0, .ref 100)] [.ref 100, .int ((Int32.ofInt (nm : Int)) + (Int32.ofInt (k : Int))), .ref 134] (p_S (t_S T0 nm om bg nt fo ot pp) pl cs sk cl (Int32.ofInt 0) nc sg ov bh op na) R Q
        refine w_cv rfl (by decide) mt_X12_here v_tyM rfl rfl rfl (Nat.le_of_ble_eq_true rfl) (Nat.le_of_ble_eq_true rfl) (Nat.le_of_ble_eq_true rfl) ?_
        show w_T L xs _ m_X12_here 0 (lv_args 0 [.ref 100]) [] (p_S (t_S T0 nm om bg nt fo ot pp) pl cs sk cl (Int32.ofInt 0) nc sg ov bh op na) R _
        refine h_here (by omega) ?_
        refine w_st rfl (fun _ => rfl) ?_
        refine w_st rfl (fun _ => rfl) ?_
        show w_T L xs (d + 2) m_X12_monthTold 279 [(3, .int (Int32.ofInt (k : Int))), (2, .int (Int32.ofInt (m : Int))), (1, .int wh), (0, .ref 100)] [.int ((p_h T0 pl) - (Int32.ofInt 65)), .int ((Int32.ofInt (nm : Int)) + (Int32.ofInt (k : Int))), .ref 134] (p_S (t_S T0 nm om bg nt fo ot pp) pl cs sk cl (Int32.ofInt 0) nc sg ov bh op na) R Q
        refine w_iast rfl rfl (by rw [w_addn, w_nat (by omega)]; omega) (by rw [w_addn, w_nat (by omega)]; omega) ?_
        refine w_eqS (p_wor (by decide) (by rw [w_addn, w_natn (by omega)])) ?_
        refine w_eqS (p_in (t_wnt (by omega))) ?_
        refine w_st rfl (fun _ => rfl) ?_
        refine w_st rfl (fun _ => rfl) ?_
        show w_T L xs (d + 2) m_X12_monthTold 244 [(3, .int ((Int32.ofInt (k : Int)) + (Int32.ofInt 1))), (2, .int (Int32.ofInt (m : Int))), (1, .int wh), (0, .ref 100)] [] (p_S (t_S T0 nm om bg (upd nt (nm + k) ((p_h T0 pl) - (Int32.ofInt 65))) fo ot pp) pl cs sk cl (Int32.ofInt 0) nc sg ov bh op na) R Q
        rw [w_inc]
        refine ih (k + 1) _ (by omega) (fun j hj => ?_)
        by_cases e : j = nm + k
        · rw [e, p_upe]; exact hv
        · rw [p_upn e]; exact hn j hj
      · have hv : -1 ≤ (Int32.ofInt (-1)).toInt ∧ (Int32.ofInt (-1)).toInt ≤ 9 := by decide
        refine w_st rfl (fun _ => rfl) ?_
        refine w_st rfl (fun _ => rfl) ?_
        show w_T L xs (d + 2) m_X12_monthTold 279 [(3, .int (Int32.ofInt (k : Int))), (2, .int (Int32.ofInt (m : Int))), (1, .int wh), (0, .ref 100)] [.int (Int32.ofInt (-1)), .int ((Int32.ofInt (nm : Int)) + (Int32.ofInt (k : Int))), .ref 134] (p_S (t_S T0 nm om bg nt fo ot pp) pl cs sk cl (Int32.ofInt 0) nc sg ov bh op na) R Q
        refine w_iast rfl rfl (by rw [w_addn, w_nat (by omega)]; omega) (by rw [w_addn, w_nat (by omega)]; omega) ?_
        refine w_eqS (p_wor (by decide) (by rw [w_addn, w_natn (by omega)])) ?_
        refine w_eqS (p_in (t_wnt (by omega))) ?_
        refine w_st rfl (fun _ => rfl) ?_
        refine w_st rfl (fun _ => rfl) ?_
        show w_T L xs (d + 2) m_X12_monthTold 244 [(3, .int ((Int32.ofInt (k : Int)) + (Int32.ofInt 1))), (2, .int (Int32.ofInt (m : Int))), (1, .int wh), (0, .ref 100)] [] (p_S (t_S T0 nm om bg (upd nt (nm + k) (Int32.ofInt (-1))) fo ot pp) pl cs sk cl (Int32.ofInt 0) nc sg ov bh op na) R Q
        rw [w_inc]
        refine ih (k + 1) _ (by omega) (fun j hj => ?_)
        by_cases e : j = nm + k
        · rw [e, p_upe]; exact hv
        · rw [p_upn e]; exact hn j hj
theorem h_month (he : (T0 99 4).toInt ≤ 240) (htp : ∀ j, j < 260 → -128 ≤ (T0 100 j).toInt ∧ (T0 100 j).toInt ≤ 127) (hlt : (pl : Int) < (T0 99 4).toInt) (hM : t_M nm om nt fo ot pp) (Kg : ∀ (pl' nm' om' : Nat) (g' : Bool) (nt' fo' ot' pp' : Nat → Int32), pl < pl' → pl' ≤ 240 → t_M nm' om' nt' fo' ot' pp' → Q none (p_S (t_S T0 (nm') (om') (g') (nt') (fo') (ot') (pp')) (pl') cs sk cl (Int32.ofInt 0) nc sg ov bh op na) R) (Kb : ∀ (pl' nm' om' : Nat) (b' : Int32) (g' : Bool) (nt' fo' ot' pp' : Nat → Int32), b'.toInt < 0 → pl' ≤ 240 → t_M nm' om' nt' fo' ot' pp' → Q none (p_S (t_S T0 (nm') (om') (g') (nt') (fo') (ot') (pp')) (pl') cs sk cl (b') nc sg ov bh op na) R) : w_T L xs (d + 2) m_X12_monthTold 0 (lv_args 0 [.ref 100]) [] (p_S (t_S T0 nm om bg nt fo ot pp) pl cs sk cl (Int32.ofInt 0) nc sg ov bh op na) R Q := by
  obtain ⟨m1, m2, m3, m4, m5⟩ := hM
  have e65 : (Int64.ofInt 65).toInt = 65 := by decide
  have e74 : (Int64.ofInt 74).toInt = 74 := by decide
  have eom := w_nat (k := om) (by omega)
  have z0 : (0 : Int32).toInt = 0 := rfl
  refine w_st rfl (fun _ => rfl) ?_
  show w_T L xs (d + 2) m_X12_monthTold 1 [(0, .ref 100)] [.ref 100] (p_S (t_S T0 nm om bg nt fo ot pp) pl cs sk cl (Int32.ofInt 0) nc sg ov bh op na) R Q
  refine w_get rfl v_tyM rfl ?_
  refine w_st rfl (fun _ => rfl) ?_
  refine w_st rfl (fun _ => rfl) ?_
  show w_T L xs (d + 2) m_X12_monthTold 6 [(1, .int (Int32.ofInt (pl : Int))), (0, .ref 100)] [.ref 100] (p_S (t_S T0 nm om bg nt fo ot pp) pl cs sk cl (Int32.ofInt 0) nc sg ov bh op na) R Q
  refine w_cv rfl (by decide) mt_X12_here v_tyM rfl rfl rfl (Nat.le_of_ble_eq_true rfl) (Nat.le_of_ble_eq_true rfl) (Nat.le_of_ble_eq_true rfl) ?_
  show w_T L xs _ m_X12_here 0 (lv_args 0 [.ref 100]) [] (p_S (t_S T0 nm om bg nt fo ot pp) pl cs sk cl (Int32.ofInt 0) nc sg ov bh op na) R _
  refine h_here (by omega) ?_
  refine w_st rfl (fun _ => rfl) ?_
  show w_T L xs (d + 2) m_X12_monthTold 11 [(1, .int (Int32.ofInt (pl : Int))), (0, .ref 100)] [.int (Int32.ofInt 41), .int (p_h T0 pl)] (p_S (t_S T0 nm om bg nt fo ot pp) pl cs sk cl (Int32.ofInt 0) nc sg ov bh op na) R Q
  refine w_br (P := ¬ (p_h T0 pl) = (Int32.ofInt 41)) rfl (fun _ => rfl) (fun h11 => ?_) (fun h11 => ?_)
  · refine w_st rfl (fun _ => rfl) ?_
    show w_T L xs (d + 2) m_X12_monthTold 81 [(1, .int (Int32.ofInt (pl : Int))), (0, .ref 100)] [.ref 100] (p_S (t_S T0 nm om bg nt fo ot pp) pl cs sk cl (Int32.ofInt 0) nc sg ov bh op na) R Q
    refine w_cv rfl (by decide) mt_X12_timesTold v_tyM rfl rfl rfl (Nat.le_of_ble_eq_true rfl) (Nat.le_of_ble_eq_true rfl) (Nat.le_of_ble_eq_true rfl) ?_
    show w_T L xs _ m_X12_timesTold 0 (lv_args 0 [.ref 100]) [] (p_S (t_S T0 nm om bg nt fo ot pp) pl cs sk cl (Int32.ofInt 0) nc sg ov bh op na) R _
    refine h_times (by omega) he htp (fun mo1 pl1 y1 y2 y3 y4 => ?_)
    refine w_st rfl (fun _ => rfl) ?_
    refine w_st rfl (fun _ => rfl) ?_
    show w_T L xs (d + 2) m_X12_monthTold 86 [(2, .int (Int32.ofInt (mo1 : Int))), (1, .int (Int32.ofInt (pl : Int))), (0, .ref 100)] [.ref 100] (p_S (t_S T0 nm om bg nt fo ot pp) pl1 cs sk cl (Int32.ofInt 0) nc sg ov bh op na) R Q
    refine w_cv rfl (by decide) mt_X12_here v_tyM rfl rfl rfl (Nat.le_of_ble_eq_true rfl) (Nat.le_of_ble_eq_true rfl) (Nat.le_of_ble_eq_true rfl) ?_
    show w_T L xs _ m_X12_here 0 (lv_args 0 [.ref 100]) [] (p_S (t_S T0 nm om bg nt fo ot pp) pl1 cs sk cl (Int32.ofInt 0) nc sg ov bh op na) R _
    refine h_here (by omega) ?_
    refine w_st rfl (fun _ => rfl) ?_
    show w_T L xs (d + 2) m_X12_monthTold 91 [(2, .int (Int32.ofInt (mo1 : Int))), (1, .int (Int32.ofInt (pl : Int))), (0, .ref 100)] [.int (Int32.ofInt 40), .int (p_h T0 pl1)] (p_S (t_S T0 nm om bg nt fo ot pp) pl1 cs sk cl (Int32.ofInt 0) nc sg ov bh op na) R Q
    refine w_br (P := ¬ (p_h T0 pl1) = (Int32.ofInt 40)) rfl (fun _ => rfl) (fun h91 => ?_) (fun h91 => ?_)
    · refine w_st rfl (fun _ => rfl) ?_
      show w_T L xs (d + 2) m_X12_monthTold 179 [(2, .int (Int32.ofInt (mo1 : Int))), (1, .int (Int32.ofInt (pl : Int))), (0, .ref 100)] [.ref 100] (p_S (t_S T0 nm om bg nt fo ot pp) pl1 cs sk cl (Int32.ofInt 0) nc sg ov bh op na) R Q
      refine w_cv rfl (by decide) mt_X12_here v_tyM rfl rfl rfl (Nat.le_of_ble_eq_true rfl) (Nat.le_of_ble_eq_true rfl) (Nat.le_of_ble_eq_true rfl) ?_
      show w_T L xs _ m_X12_here 0 (lv_args 0 [.ref 100]) [] (p_S (t_S T0 nm om bg nt fo ot pp) pl1 cs sk cl (Int32.ofInt 0) nc sg ov bh op na) R _
      refine h_here (by omega) ?_
      refine w_st rfl (fun _ => rfl) ?_
      show w_T L xs (d + 2) m_X12_monthTold 184 [(2, .int (Int32.ofInt (mo1 : Int))), (1, .int (Int32.ofInt (pl : Int))), (0, .ref 100)] [.int (Int32.ofInt 46), .int (p_h T0 pl1)] (p_S (t_S T0 nm om bg nt fo ot pp) pl1 cs sk cl (Int32.ofInt 0) nc sg ov bh op na) R Q
      refine w_br (P := (p_h T0 pl1) = (Int32.ofInt 46)) rfl (fun _ => rfl) (fun h184 => ?_) (fun h184 => ?_)
      · have hh : p_h T0 pl1 = Int32.ofInt 46 ∨ (65 ≤ (p_h T0 pl1).toInt ∧ (p_h T0 pl1).toInt ≤ 74) := Or.inl h184
        refine w_st rfl (fun _ => rfl) ?_
        show w_T L xs (d + 2) m_X12_monthTold 217 [(2, .int (Int32.ofInt (mo1 : Int))), (1, .int (Int32.ofInt (pl : Int))), (0, .ref 100)] [.ref 100] (p_S (t_S T0 nm om bg nt fo ot pp) pl1 cs sk cl (Int32.ofInt 0) nc sg ov bh op na) R Q
        refine w_get rfl v_tyM rfl ?_
        refine w_st rfl (fun _ => rfl) ?_
        refine w_st rfl (fun _ => rfl) ?_
        refine w_st rfl (fun _ => rfl) ?_
        show w_T L xs (d + 2) m_X12_monthTold 224 [(2, .int (Int32.ofInt (mo1 : Int))), (1, .int (Int32.ofInt (pl : Int))), (0, .ref 100)] [.int (Int32.ofInt 48), .int ((Int32.ofInt (nm : Int)) + (Int32.ofInt (mo1 : Int)))] (p_S (t_S T0 nm om bg nt fo ot pp) pl1 cs sk cl (Int32.ofInt 0) nc sg ov bh op na) R Q
        refine w_br (P := ((Int32.ofInt (nm : Int)) + (Int32.ofInt (mo1 : Int))) ≤ (Int32.ofInt 48)) rfl (fun _ => rfl) (fun h224 => ?_) (fun h224 => ?_)
        · refine w_st rfl (fun _ => rfl) ?_
          show w_T L xs (d + 2) m_X12_monthTold 235 [(2, .int (Int32.ofInt (mo1 : Int))), (1, .int (Int32.ofInt (pl : Int))), (0, .ref 100)] [.ref 100] (p_S (t_S T0 nm om bg nt fo ot pp) pl1 cs sk cl (Int32.ofInt 0) nc sg ov bh op na) R Q
          refine w_cv rfl (by decide) mt_X12_isGood v_tyM rfl rfl rfl (Nat.le_of_ble_eq_true rfl) (Nat.le_of_ble_eq_true rfl) (Nat.le_of_ble_eq_true rfl) ?_
          show w_T L xs _ m_X12_isGood 0 (lv_args 0 [.ref 100]) [] (p_S (t_S T0 nm om bg nt fo ot pp) pl1 cs sk cl (Int32.ofInt 0) nc sg ov bh op na) R _
          refine h_isGT ?_
          show w_T L xs (d + 2) m_X12_monthTold 238 [(2, .int (Int32.ofInt (mo1 : Int))), (1, .int (Int32.ofInt (pl : Int))), (0, .ref 100)] [.int (Int32.ofInt 1)] (p_S (t_S T0 nm om bg nt fo ot pp) pl1 cs sk cl (Int32.ofInt 0) nc sg ov bh op na) R Q
          refine w_st rfl (fun _ => rfl) ?_
          refine w_st rfl (fun _ => rfl) ?_
          refine w_st rfl (fun _ => rfl) ?_
          show w_T L xs (d + 2) m_X12_monthTold 244 [(3, .int (Int32.ofInt 0)), (2, .int (Int32.ofInt (mo1 : Int))), (1, .int (Int32.ofInt (pl : Int))), (0, .ref 100)] [] (p_S (t_S T0 nm om bg nt fo ot pp) pl1 cs sk cl (Int32.ofInt 0) nc sg ov bh op na) R Q
          have h48 : nm + mo1 ≤ 48 := by
            rw [w_addn, q_le32, w_nat (by omega)] at h224
            have e48 : (Int32.ofInt 48).toInt = 48 := by decide
            omega
          have hlt1 := p_h_lt (S0 := T0) (pl := pl1) (fun e => by
            rw [e] at hh
            revert hh
            decide)
          refine h_ml (by omega) h48 hh (fun nt1 x3 => ?_) mo1 0 nt (by omega) m3
          refine w_st rfl (fun _ => rfl) ?_
          refine w_st rfl (fun _ => rfl) ?_
          show w_T L xs (d + 2) m_X12_monthTold 288 [(3, .int (Int32.ofInt (mo1 : Int))), (2, .int (Int32.ofInt (mo1 : Int))), (1, .int (Int32.ofInt (pl : Int))), (0, .ref 100)] [.ref 100, .ref 100] (p_S (t_S T0 nm om bg nt1 fo ot pp) pl1 cs sk cl (Int32.ofInt 0) nc sg ov bh op na) R Q
          refine w_get rfl v_tyM rfl ?_
          refine w_st rfl (fun _ => rfl) ?_
          refine w_st rfl (fun _ => rfl) ?_
          show w_T L xs (d + 2) m_X12_monthTold 293 [(3, .int (Int32.ofInt (mo1 : Int))), (2, .int (Int32.ofInt (mo1 : Int))), (1, .int (Int32.ofInt (pl : Int))), (0, .ref 100)] [.int ((Int32.ofInt (nm : Int)) + (Int32.ofInt (mo1 : Int))), .ref 100] (p_S (t_S T0 nm om bg nt1 fo ot pp) pl1 cs sk cl (Int32.ofInt 0) nc sg ov bh op na) R Q
          refine w_put rfl v_tyM rfl rfl rfl ?_
          refine w_eqS (p_wo99 (by decide)) ?_
          refine w_eqS (p_in (t_wnm (w_addn _ _))) ?_
          refine w_st rfl (fun _ => rfl) ?_
          refine w_st rfl (fun _ => rfl) ?_
          show w_T L xs (d + 2) m_X12_monthTold 298 [(3, .int (Int32.ofInt (mo1 : Int))), (2, .int (Int32.ofInt (mo1 : Int))), (1, .int (Int32.ofInt (pl : Int))), (0, .ref 100)] [.int (Int32.ofInt 1), .ref 100] (p_S (t_S T0 (nm + mo1) om bg nt1 fo ot pp) pl1 cs sk cl (Int32.ofInt 0) nc sg ov bh op na) R Q
          refine w_put rfl v_tyM rfl rfl rfl ?_
          refine w_eqS (p_wo99 (by decide)) ?_
          refine w_eqS (p_in (t_wbg (b := true) rfl)) ?_
          refine w_st rfl (fun _ => rfl) ?_
          refine w_st rfl (fun _ => rfl) ?_
          show w_T L xs (d + 2) m_X12_monthTold 303 [(3, .int (Int32.ofInt (mo1 : Int))), (2, .int (Int32.ofInt (mo1 : Int))), (1, .int (Int32.ofInt (pl : Int))), (0, .ref 100)] [.ref 100, .ref 100] (p_S (t_S T0 (nm + mo1) om true nt1 fo ot pp) pl1 cs sk cl (Int32.ofInt 0) nc sg ov bh op na) R Q
          refine w_get rfl v_tyM rfl ?_
          refine w_st rfl (fun _ => rfl) ?_
          refine w_st rfl (fun _ => rfl) ?_
          show w_T L xs (d + 2) m_X12_monthTold 308 [(3, .int (Int32.ofInt (mo1 : Int))), (2, .int (Int32.ofInt (mo1 : Int))), (1, .int (Int32.ofInt (pl : Int))), (0, .ref 100)] [.int ((Int32.ofInt (pl1 : Int)) + (Int32.ofInt 1)), .ref 100] (p_S (t_S T0 (nm + mo1) om true nt1 fo ot pp) pl1 cs sk cl (Int32.ofInt 0) nc sg ov bh op na) R Q
          refine w_put rfl v_tyM rfl rfl rfl ?_
          refine w_eqS (p_wpl (w_inc _)) ?_
          show w_T L xs (d + 2) m_X12_monthTold 311 [(3, .int (Int32.ofInt (mo1 : Int))), (2, .int (Int32.ofInt (mo1 : Int))), (1, .int (Int32.ofInt (pl : Int))), (0, .ref 100)] [] (p_S (t_S T0 (nm + mo1) om true nt1 fo ot pp) (pl1 + 1) cs sk cl (Int32.ofInt 0) nc sg ov bh op na) R Q
          refine w_ret rfl rfl ?_
          exact Kg _ _ _ _ _ _ _ _ (by omega) (by omega) ⟨by omega, m2, x3, m4, fun j hj => by have := m5 j hj; omega⟩
        · refine w_st rfl (fun _ => rfl) ?_
          refine w_st rfl (fun _ => rfl) ?_
          refine w_st rfl (fun _ => rfl) ?_
          show w_T L xs (d + 2) m_X12_monthTold 231 [(2, .int (Int32.ofInt (mo1 : Int))), (1, .int (Int32.ofInt (pl : Int))), (0, .ref 100)] [.int (Int32.ofInt (pl : Int)), .int (Int32.ofInt 6), .ref 100] (p_S (t_S T0 nm om bg nt fo ot pp) pl1 cs sk cl (Int32.ofInt 0) nc sg ov bh op na) R Q
          refine w_cv rfl (by decide) mt_X12_wrongs v_tyM rfl rfl rfl (Nat.le_of_ble_eq_true rfl) (Nat.le_of_ble_eq_true rfl) (Nat.le_of_ble_eq_true rfl) ?_
          show w_T L xs _ m_X12_wrongs 0 (lv_args 0 [.ref 100, .int (Int32.ofInt 6), .int (Int32.ofInt (pl : Int))]) [] (p_S (t_S T0 nm om bg nt fo ot pp) pl1 cs sk cl (Int32.ofInt 0) nc sg ov bh op na) R _
          refine h_wr (by decide) (by decide) (by rw [w_nat (by omega)]; omega) (by rw [w_nat (by omega)]; omega) (fun b231 hb231 => ?_)
          refine w_st rfl (fun _ => rfl) ?_
          show w_T L xs (d + 2) m_X12_monthTold 235 [(2, .int (Int32.ofInt (mo1 : Int))), (1, .int (Int32.ofInt (pl : Int))), (0, .ref 100)] [.ref 100] (p_S (t_S T0 nm om bg nt fo ot pp) pl1 cs sk cl b231 nc sg ov bh op na) R Q
          refine w_cv rfl (by decide) mt_X12_isGood v_tyM rfl rfl rfl (Nat.le_of_ble_eq_true rfl) (Nat.le_of_ble_eq_true rfl) (Nat.le_of_ble_eq_true rfl) ?_
          show w_T L xs _ m_X12_isGood 0 (lv_args 0 [.ref 100]) [] (p_S (t_S T0 nm om bg nt fo ot pp) pl1 cs sk cl b231 nc sg ov bh op na) R _
          refine h_isGF hb231 ?_
          show w_T L xs (d + 2) m_X12_monthTold 238 [(2, .int (Int32.ofInt (mo1 : Int))), (1, .int (Int32.ofInt (pl : Int))), (0, .ref 100)] [.int (Int32.ofInt 0)] (p_S (t_S T0 nm om bg nt fo ot pp) pl1 cs sk cl b231 nc sg ov bh op na) R Q
          refine w_st rfl (fun _ => rfl) ?_
          show w_T L xs (d + 2) m_X12_monthTold 241 [(2, .int (Int32.ofInt (mo1 : Int))), (1, .int (Int32.ofInt (pl : Int))), (0, .ref 100)] [] (p_S (t_S T0 nm om bg nt fo ot pp) pl1 cs sk cl b231 nc sg ov bh op na) R Q
          refine w_ret rfl rfl ?_
          exact Kb _ _ _ _ _ _ _ _ _ hb231 (by omega) ⟨m1, m2, m3, m4, m5⟩
      · refine w_st rfl (fun _ => rfl) ?_
        show w_T L xs (d + 2) m_X12_monthTold 188 [(2, .int (Int32.ofInt (mo1 : Int))), (1, .int (Int32.ofInt (pl : Int))), (0, .ref 100)] [.ref 100] (p_S (t_S T0 nm om bg nt fo ot pp) pl1 cs sk cl (Int32.ofInt 0) nc sg ov bh op na) R Q
        refine w_cv rfl (by decide) mt_X12_here v_tyM rfl rfl rfl (Nat.le_of_ble_eq_true rfl) (Nat.le_of_ble_eq_true rfl) (Nat.le_of_ble_eq_true rfl) ?_
        show w_T L xs _ m_X12_here 0 (lv_args 0 [.ref 100]) [] (p_S (t_S T0 nm om bg nt fo ot pp) pl1 cs sk cl (Int32.ofInt 0) nc sg ov bh op na) R _
        refine h_here (by omega) ?_
        refine w_st rfl (fun _ => rfl) ?_
        refine w_st rfl (fun _ => rfl) ?_
        refine w_st rfl (fun _ => rfl) ?_
        show w_T L xs (d + 2) m_X12_monthTold 198 [(2, .int (Int32.ofInt (mo1 : Int))), (1, .int (Int32.ofInt (pl : Int))), (0, .ref 100)] [.long (Int64.ofInt 74), .long (Int64.ofInt 65), .long ((p_h T0 pl1).toInt64)] (p_S (t_S T0 nm om bg nt fo ot pp) pl1 cs sk cl (Int32.ofInt 0) nc sg ov bh op na) R Q
        refine w_cs rfl (by decide) mt_X12_lies (fun _ => rfl) (Nat.le_of_ble_eq_true rfl) (Nat.le_of_ble_eq_true rfl) ?_
        show w_T L xs _ m_X12_lies 0 (lv_args 0 [.long ((p_h T0 pl1).toInt64), .long (Int64.ofInt 65), .long (Int64.ofInt 74)]) [] (p_S (t_S T0 nm om bg nt fo ot pp) pl1 cs sk cl (Int32.ofInt 0) nc sg ov bh op na) R _
        refine h_lies _ _ _ ?_
        rw [e65, e74, Int32.toInt_toInt64]
        by_cases hd : 65 ≤ (p_h T0 pl1).toInt ∧ (p_h T0 pl1).toInt ≤ 74
        · rw [if_pos hd]
          have hh : p_h T0 pl1 = Int32.ofInt 46 ∨ (65 ≤ (p_h T0 pl1).toInt ∧ (p_h T0 pl1).toInt ≤ 74) := Or.inr hd
          show w_T L xs (d + 2) m_X12_monthTold 201 [(2, .int (Int32.ofInt (mo1 : Int))), (1, .int (Int32.ofInt (pl : Int))), (0, .ref 100)] [.int (Int32.ofInt 1)] (p_S (t_S T0 nm om bg nt fo ot pp) pl1 cs sk cl (Int32.ofInt 0) nc sg ov bh op na) R Q
          refine w_st rfl (fun _ => rfl) ?_
          refine w_st rfl (fun _ => rfl) ?_
          show w_T L xs (d + 2) m_X12_monthTold 217 [(2, .int (Int32.ofInt (mo1 : Int))), (1, .int (Int32.ofInt (pl : Int))), (0, .ref 100)] [.ref 100] (p_S (t_S T0 nm om bg nt fo ot pp) pl1 cs sk cl (Int32.ofInt 0) nc sg ov bh op na) R Q
          refine w_get rfl v_tyM rfl ?_
          refine w_st rfl (fun _ => rfl) ?_
          refine w_st rfl (fun _ => rfl) ?_
          refine w_st rfl (fun _ => rfl) ?_
          show w_T L xs (d + 2) m_X12_monthTold 224 [(2, .int (Int32.ofInt (mo1 : Int))), (1, .int (Int32.ofInt (pl : Int))), (0, .ref 100)] [.int (Int32.ofInt 48), .int ((Int32.ofInt (nm : Int)) + (Int32.ofInt (mo1 : Int)))] (p_S (t_S T0 nm om bg nt fo ot pp) pl1 cs sk cl (Int32.ofInt 0) nc sg ov bh op na) R Q
          refine w_br (P := ((Int32.ofInt (nm : Int)) + (Int32.ofInt (mo1 : Int))) ≤ (Int32.ofInt 48)) rfl (fun _ => rfl) (fun h224 => ?_) (fun h224 => ?_)
          · refine w_st rfl (fun _ => rfl) ?_
            show w_T L xs (d + 2) m_X12_monthTold 235 [(2, .int (Int32.ofInt (mo1 : Int))), (1, .int (Int32.ofInt (pl : Int))), (0, .ref 100)] [.ref 100] (p_S (t_S T0 nm om bg nt fo ot pp) pl1 cs sk cl (Int32.ofInt 0) nc sg ov bh op na) R Q
            refine w_cv rfl (by decide) mt_X12_isGood v_tyM rfl rfl rfl (Nat.le_of_ble_eq_true rfl) (Nat.le_of_ble_eq_true rfl) (Nat.le_of_ble_eq_true rfl) ?_
            show w_T L xs _ m_X12_isGood 0 (lv_args 0 [.ref 100]) [] (p_S (t_S T0 nm om bg nt fo ot pp) pl1 cs sk cl (Int32.ofInt 0) nc sg ov bh op na) R _
            refine h_isGT ?_
            show w_T L xs (d + 2) m_X12_monthTold 238 [(2, .int (Int32.ofInt (mo1 : Int))), (1, .int (Int32.ofInt (pl : Int))), (0, .ref 100)] [.int (Int32.ofInt 1)] (p_S (t_S T0 nm om bg nt fo ot pp) pl1 cs sk cl (Int32.ofInt 0) nc sg ov bh op na) R Q
            refine w_st rfl (fun _ => rfl) ?_
            refine w_st rfl (fun _ => rfl) ?_
            refine w_st rfl (fun _ => rfl) ?_
            show w_T L xs (d + 2) m_X12_monthTold 244 [(3, .int (Int32.ofInt 0)), (2, .int (Int32.ofInt (mo1 : Int))), (1, .int (Int32.ofInt (pl : Int))), (0, .ref 100)] [] (p_S (t_S T0 nm om bg nt fo ot pp) pl1 cs sk cl (Int32.ofInt 0) nc sg ov bh op na) R Q
            have h48 : nm + mo1 ≤ 48 := by
              rw [w_addn, q_le32, w_nat (by omega)] at h224
              have e48 : (Int32.ofInt 48).toInt = 48 := by decide
              omega
            have hlt1 := p_h_lt (S0 := T0) (pl := pl1) (fun e => by
              rw [e] at hh
              revert hh
              decide)
            refine h_ml (by omega) h48 hh (fun nt1 x3 => ?_) mo1 0 nt (by omega) m3
            refine w_st rfl (fun _ => rfl) ?_
            refine w_st rfl (fun _ => rfl) ?_
            show w_T L xs (d + 2) m_X12_monthTold 288 [(3, .int (Int32.ofInt (mo1 : Int))), (2, .int (Int32.ofInt (mo1 : Int))), (1, .int (Int32.ofInt (pl : Int))), (0, .ref 100)] [.ref 100, .ref 100] (p_S (t_S T0 nm om bg nt1 fo ot pp) pl1 cs sk cl (Int32.ofInt 0) nc sg ov bh op na) R Q
            refine w_get rfl v_tyM rfl ?_
            refine w_st rfl (fun _ => rfl) ?_
            refine w_st rfl (fun _ => rfl) ?_
            show w_T L xs (d + 2) m_X12_monthTold 293 [(3, .int (Int32.ofInt (mo1 : Int))), (2, .int (Int32.ofInt (mo1 : Int))), (1, .int (Int32.ofInt (pl : Int))), (0, .ref 100)] [.int ((Int32.ofInt (nm : Int)) + (Int32.ofInt (mo1 : Int))), .ref 100] (p_S (t_S T0 nm om bg nt1 fo ot pp) pl1 cs sk cl (Int32.ofInt 0) nc sg ov bh op na) R Q
            refine w_put rfl v_tyM rfl rfl rfl ?_
            refine w_eqS (p_wo99 (by decide)) ?_
            refine w_eqS (p_in (t_wnm (w_addn _ _))) ?_
            refine w_st rfl (fun _ => rfl) ?_
            refine w_st rfl (fun _ => rfl) ?_
            show w_T L xs (d + 2) m_X12_monthTold 298 [(3, .int (Int32.ofInt (mo1 : Int))), (2, .int (Int32.ofInt (mo1 : Int))), (1, .int (Int32.ofInt (pl : Int))), (0, .ref 100)] [.int (Int32.ofInt 1), .ref 100] (p_S (t_S T0 (nm + mo1) om bg nt1 fo ot pp) pl1 cs sk cl (Int32.ofInt 0) nc sg ov bh op na) R Q
            refine w_put rfl v_tyM rfl rfl rfl ?_
            refine w_eqS (p_wo99 (by decide)) ?_
            refine w_eqS (p_in (t_wbg (b := true) rfl)) ?_
            refine w_st rfl (fun _ => rfl) ?_
            refine w_st rfl (fun _ => rfl) ?_
            show w_T L xs (d + 2) m_X12_monthTold 303 [(3, .int (Int32.ofInt (mo1 : Int))), (2, .int (Int32.ofInt (mo1 : Int))), (1, .int (Int32.ofInt (pl : Int))), (0, .ref 100)] [.ref 100, .ref 100] (p_S (t_S T0 (nm + mo1) om true nt1 fo ot pp) pl1 cs sk cl (Int32.ofInt 0) nc sg ov bh op na) R Q
            refine w_get rfl v_tyM rfl ?_
            refine w_st rfl (fun _ => rfl) ?_
            refine w_st rfl (fun _ => rfl) ?_
            show w_T L xs (d + 2) m_X12_monthTold 308 [(3, .int (Int32.ofInt (mo1 : Int))), (2, .int (Int32.ofInt (mo1 : Int))), (1, .int (Int32.ofInt (pl : Int))), (0, .ref 100)] [.int ((Int32.ofInt (pl1 : Int)) + (Int32.ofInt 1)), .ref 100] (p_S (t_S T0 (nm + mo1) om true nt1 fo ot pp) pl1 cs sk cl (Int32.ofInt 0) nc sg ov bh op na) R Q
            refine w_put rfl v_tyM rfl rfl rfl ?_
            refine w_eqS (p_wpl (w_inc _)) ?_
            show w_T L xs (d + 2) m_X12_monthTold 311 [(3, .int (Int32.ofInt (mo1 : Int))), (2, .int (Int32.ofInt (mo1 : Int))), (1, .int (Int32.ofInt (pl : Int))), (0, .ref 100)] [] (p_S (t_S T0 (nm + mo1) om true nt1 fo ot pp) (pl1 + 1) cs sk cl (Int32.ofInt 0) nc sg ov bh op na) R Q
            refine w_ret rfl rfl ?_
            exact Kg _ _ _ _ _ _ _ _ (by omega) (by omega) ⟨by omega, m2, x3, m4, fun j hj => by have := m5 j hj; omega⟩
          · refine w_st rfl (fun _ => rfl) ?_
            refine w_st rfl (fun _ => rfl) ?_
            refine w_st rfl (fun _ => rfl) ?_
            show w_T L xs (d + 2) m_X12_monthTold 231 [(2, .int (Int32.ofInt (mo1 : Int))), (1, .int (Int32.ofInt (pl : Int))), (0, .ref 100)] [.int (Int32.ofInt (pl : Int)), .int (Int32.ofInt 6), .ref 100] (p_S (t_S T0 nm om bg nt fo ot pp) pl1 cs sk cl (Int32.ofInt 0) nc sg ov bh op na) R Q
            refine w_cv rfl (by decide) mt_X12_wrongs v_tyM rfl rfl rfl (Nat.le_of_ble_eq_true rfl) (Nat.le_of_ble_eq_true rfl) (Nat.le_of_ble_eq_true rfl) ?_
            show w_T L xs _ m_X12_wrongs 0 (lv_args 0 [.ref 100, .int (Int32.ofInt 6), .int (Int32.ofInt (pl : Int))]) [] (p_S (t_S T0 nm om bg nt fo ot pp) pl1 cs sk cl (Int32.ofInt 0) nc sg ov bh op na) R _
            refine h_wr (by decide) (by decide) (by rw [w_nat (by omega)]; omega) (by rw [w_nat (by omega)]; omega) (fun b231 hb231 => ?_)
            refine w_st rfl (fun _ => rfl) ?_
            show w_T L xs (d + 2) m_X12_monthTold 235 [(2, .int (Int32.ofInt (mo1 : Int))), (1, .int (Int32.ofInt (pl : Int))), (0, .ref 100)] [.ref 100] (p_S (t_S T0 nm om bg nt fo ot pp) pl1 cs sk cl b231 nc sg ov bh op na) R Q
            refine w_cv rfl (by decide) mt_X12_isGood v_tyM rfl rfl rfl (Nat.le_of_ble_eq_true rfl) (Nat.le_of_ble_eq_true rfl) (Nat.le_of_ble_eq_true rfl) ?_
            show w_T L xs _ m_X12_isGood 0 (lv_args 0 [.ref 100]) [] (p_S (t_S T0 nm om bg nt fo ot pp) pl1 cs sk cl b231 nc sg ov bh op na) R _
            refine h_isGF hb231 ?_
            show w_T L xs (d + 2) m_X12_monthTold 238 [(2, .int (Int32.ofInt (mo1 : Int))), (1, .int (Int32.ofInt (pl : Int))), (0, .ref 100)] [.int (Int32.ofInt 0)] (p_S (t_S T0 nm om bg nt fo ot pp) pl1 cs sk cl b231 nc sg ov bh op na) R Q
            refine w_st rfl (fun _ => rfl) ?_
            show w_T L xs (d + 2) m_X12_monthTold 241 [(2, .int (Int32.ofInt (mo1 : Int))), (1, .int (Int32.ofInt (pl : Int))), (0, .ref 100)] [] (p_S (t_S T0 nm om bg nt fo ot pp) pl1 cs sk cl b231 nc sg ov bh op na) R Q
            refine w_ret rfl rfl ?_
            exact Kb _ _ _ _ _ _ _ _ _ hb231 (by omega) ⟨m1, m2, m3, m4, m5⟩
        · rw [if_neg hd]
          show w_T L xs (d + 2) m_X12_monthTold 201 [(2, .int (Int32.ofInt (mo1 : Int))), (1, .int (Int32.ofInt (pl : Int))), (0, .ref 100)] [.int (Int32.ofInt 0)] (p_S (t_S T0 nm om bg nt fo ot pp) pl1 cs sk cl (Int32.ofInt 0) nc sg ov bh op na) R Q
          refine w_st rfl (fun _ => rfl) ?_
          refine w_st rfl (fun _ => rfl) ?_
          refine w_st rfl (fun _ => rfl) ?_
          refine w_st rfl (fun _ => rfl) ?_
          show w_T L xs (d + 2) m_X12_monthTold 207 [(2, .int (Int32.ofInt (mo1 : Int))), (1, .int (Int32.ofInt (pl : Int))), (0, .ref 100)] [.ref 100, .int (Int32.ofInt 1), .ref 100] (p_S (t_S T0 nm om bg nt fo ot pp) pl1 cs sk cl (Int32.ofInt 0) nc sg ov bh op na) R Q
          refine w_get rfl v_tyM rfl ?_
          show w_T L xs (d + 2) m_X12_monthTold 210 [(2, .int (Int32.ofInt (mo1 : Int))), (1, .int (Int32.ofInt (pl : Int))), (0, .ref 100)] [.int (Int32.ofInt (pl1 : Int)), .int (Int32.ofInt 1), .ref 100] (p_S (t_S T0 nm om bg nt fo ot pp) pl1 cs sk cl (Int32.ofInt 0) nc sg ov bh op na) R Q
          refine w_cv rfl (by decide) mt_X12_wrongs v_tyM rfl rfl rfl (Nat.le_of_ble_eq_true rfl) (Nat.le_of_ble_eq_true rfl) (Nat.le_of_ble_eq_true rfl) ?_
          show w_T L xs _ m_X12_wrongs 0 (lv_args 0 [.ref 100, .int (Int32.ofInt 1), .int (Int32.ofInt (pl1 : Int))]) [] (p_S (t_S T0 nm om bg nt fo ot pp) pl1 cs sk cl (Int32.ofInt 0) nc sg ov bh op na) R _
          refine h_wr (by decide) (by decide) (by rw [w_nat (by omega)]; omega) (by rw [w_nat (by omega)]; omega) (fun b210 hb210 => ?_)
          refine w_st rfl (fun _ => rfl) ?_
          refine w_st rfl (fun _ => rfl) ?_
          show w_T L xs (d + 2) m_X12_monthTold 235 [(2, .int (Int32.ofInt (mo1 : Int))), (1, .int (Int32.ofInt (pl : Int))), (0, .ref 100)] [.ref 100] (p_S (t_S T0 nm om bg nt fo ot pp) pl1 cs sk cl b210 nc sg ov bh op na) R Q
          refine w_cv rfl (by decide) mt_X12_isGood v_tyM rfl rfl rfl (Nat.le_of_ble_eq_true rfl) (Nat.le_of_ble_eq_true rfl) (Nat.le_of_ble_eq_true rfl) ?_
          show w_T L xs _ m_X12_isGood 0 (lv_args 0 [.ref 100]) [] (p_S (t_S T0 nm om bg nt fo ot pp) pl1 cs sk cl b210 nc sg ov bh op na) R _
          refine h_isGF hb210 ?_
          show w_T L xs (d + 2) m_X12_monthTold 238 [(2, .int (Int32.ofInt (mo1 : Int))), (1, .int (Int32.ofInt (pl : Int))), (0, .ref 100)] [.int (Int32.ofInt 0)] (p_S (t_S T0 nm om bg nt fo ot pp) pl1 cs sk cl b210 nc sg ov bh op na) R Q
          refine w_st rfl (fun _ => rfl) ?_
          show w_T L xs (d + 2) m_X12_monthTold 241 [(2, .int (Int32.ofInt (mo1 : Int))), (1, .int (Int32.ofInt (pl : Int))), (0, .ref 100)] [] (p_S (t_S T0 nm om bg nt fo ot pp) pl1 cs sk cl b210 nc sg ov bh op na) R Q
          refine w_ret rfl rfl ?_
          exact Kb _ _ _ _ _ _ _ _ _ hb210 (by omega) ⟨m1, m2, m3, m4, m5⟩
    · have e91 := Decidable.of_not_not h91
      have hlt1 := p_h_lt (S0 := T0) (pl := pl1) (by rw [e91]; decide)
      refine w_st rfl (fun _ => rfl) ?_
      show w_T L xs (d + 2) m_X12_monthTold 95 [(2, .int (Int32.ofInt (mo1 : Int))), (1, .int (Int32.ofInt (pl : Int))), (0, .ref 100)] [.ref 100] (p_S (t_S T0 nm om bg nt fo ot pp) pl1 cs sk cl (Int32.ofInt 0) nc sg ov bh op na) R Q
      refine w_get rfl v_tyM rfl ?_
      refine w_st rfl (fun _ => rfl) ?_
      show w_T L xs (d + 2) m_X12_monthTold 99 [(2, .int (Int32.ofInt (mo1 : Int))), (1, .int (Int32.ofInt (pl : Int))), (0, .ref 100)] [.int (Int32.ofInt 2), .int (Int32.ofInt (om : Int))] (p_S (t_S T0 nm om bg nt fo ot pp) pl1 cs sk cl (Int32.ofInt 0) nc sg ov bh op na) R Q
      refine w_br (P := ¬ (Int32.ofInt (om : Int)) = (Int32.ofInt 2)) rfl (fun _ => rfl) (fun h99 => ?_) (fun h99 => ?_)
      · have hom2 : om < 2 := Nat.lt_of_le_of_ne m2 (fun e => h99 (by rw [e]; rfl))
        refine w_st rfl (fun _ => rfl) ?_
        show w_T L xs (d + 2) m_X12_monthTold 112 [(2, .int (Int32.ofInt (mo1 : Int))), (1, .int (Int32.ofInt (pl : Int))), (0, .ref 100)] [.ref 100] (p_S (t_S T0 nm om bg nt fo ot pp) pl1 cs sk cl (Int32.ofInt 0) nc sg ov bh op na) R Q
        refine w_cv rfl (by decide) mt_X12_isGood v_tyM rfl rfl rfl (Nat.le_of_ble_eq_true rfl) (Nat.le_of_ble_eq_true rfl) (Nat.le_of_ble_eq_true rfl) ?_
        show w_T L xs _ m_X12_isGood 0 (lv_args 0 [.ref 100]) [] (p_S (t_S T0 nm om bg nt fo ot pp) pl1 cs sk cl (Int32.ofInt 0) nc sg ov bh op na) R _
        refine h_isGT ?_
        show w_T L xs (d + 2) m_X12_monthTold 115 [(2, .int (Int32.ofInt (mo1 : Int))), (1, .int (Int32.ofInt (pl : Int))), (0, .ref 100)] [.int (Int32.ofInt 1)] (p_S (t_S T0 nm om bg nt fo ot pp) pl1 cs sk cl (Int32.ofInt 0) nc sg ov bh op na) R Q
        refine w_st rfl (fun _ => rfl) ?_
        refine w_st rfl (fun _ => rfl) ?_
        show w_T L xs (d + 2) m_X12_monthTold 120 [(2, .int (Int32.ofInt (mo1 : Int))), (1, .int (Int32.ofInt (pl : Int))), (0, .ref 100)] [.ref 100] (p_S (t_S T0 nm om bg nt fo ot pp) pl1 cs sk cl (Int32.ofInt 0) nc sg ov bh op na) R Q
        refine w_getr rfl v_tyM rfl ?_
        refine w_st rfl (fun _ => rfl) ?_
        show w_T L xs (d + 2) m_X12_monthTold 124 [(2, .int (Int32.ofInt (mo1 : Int))), (1, .int (Int32.ofInt (pl : Int))), (0, .ref 100)] [.ref 100, .ref 135] (p_S (t_S T0 nm om bg nt fo ot pp) pl1 cs sk cl (Int32.ofInt 0) nc sg ov bh op na) R Q
        refine w_get rfl v_tyM rfl ?_
        refine w_st rfl (fun _ => rfl) ?_
        show w_T L xs (d + 2) m_X12_monthTold 128 [(2, .int (Int32.ofInt (mo1 : Int))), (1, .int (Int32.ofInt (pl : Int))), (0, .ref 100)] [.ref 100, .int (Int32.ofInt (om : Int)), .ref 135] (p_S (t_S T0 nm om bg nt fo ot pp) pl1 cs sk cl (Int32.ofInt 0) nc sg ov bh op na) R Q
        refine w_get rfl v_tyM rfl ?_
        show w_T L xs (d + 2) m_X12_monthTold 131 [(2, .int (Int32.ofInt (mo1 : Int))), (1, .int (Int32.ofInt (pl : Int))), (0, .ref 100)] [.int (Int32.ofInt (nm : Int)), .int (Int32.ofInt (om : Int)), .ref 135] (p_S (t_S T0 nm om bg nt fo ot pp) pl1 cs sk cl (Int32.ofInt 0) nc sg ov bh op na) R Q
        refine w_iast rfl rfl (by rw [w_nat (by omega)]; omega) (by rw [w_nat (by omega)]; omega) ?_
        refine w_eqS (p_wor (by decide) (w_natn (by omega))) ?_
        refine w_eqS (p_in (t_wfo (by omega))) ?_
        refine w_st rfl (fun _ => rfl) ?_
        show w_T L xs (d + 2) m_X12_monthTold 133 [(2, .int (Int32.ofInt (mo1 : Int))), (1, .int (Int32.ofInt (pl : Int))), (0, .ref 100)] [.ref 100] (p_S (t_S T0 nm om bg nt (upd fo om (Int32.ofInt (nm : Int))) ot pp) pl1 cs sk cl (Int32.ofInt 0) nc sg ov bh op na) R Q
        refine w_getr rfl v_tyM rfl ?_
        refine w_st rfl (fun _ => rfl) ?_
        show w_T L xs (d + 2) m_X12_monthTold 137 [(2, .int (Int32.ofInt (mo1 : Int))), (1, .int (Int32.ofInt (pl : Int))), (0, .ref 100)] [.ref 100, .ref 136] (p_S (t_S T0 nm om bg nt (upd fo om (Int32.ofInt (nm : Int))) ot pp) pl1 cs sk cl (Int32.ofInt 0) nc sg ov bh op na) R Q
        refine w_get rfl v_tyM rfl ?_
        refine w_st rfl (fun _ => rfl) ?_
        show w_T L xs (d + 2) m_X12_monthTold 141 [(2, .int (Int32.ofInt (mo1 : Int))), (1, .int (Int32.ofInt (pl : Int))), (0, .ref 100)] [.int (Int32.ofInt (mo1 : Int)), .int (Int32.ofInt (om : Int)), .ref 136] (p_S (t_S T0 nm om bg nt (upd fo om (Int32.ofInt (nm : Int))) ot pp) pl1 cs sk cl (Int32.ofInt 0) nc sg ov bh op na) R Q
        refine w_iast rfl rfl (by rw [w_nat (by omega)]; omega) (by rw [w_nat (by omega)]; omega) ?_
        refine w_eqS (p_wor (by decide) (w_natn (by omega))) ?_
        refine w_eqS (p_in (t_wot (by omega))) ?_
        refine w_st rfl (fun _ => rfl) ?_
        show w_T L xs (d + 2) m_X12_monthTold 143 [(2, .int (Int32.ofInt (mo1 : Int))), (1, .int (Int32.ofInt (pl : Int))), (0, .ref 100)] [.ref 100] (p_S (t_S T0 nm om bg nt (upd fo om (Int32.ofInt (nm : Int))) (upd ot om (Int32.ofInt (mo1 : Int))) pp) pl1 cs sk cl (Int32.ofInt 0) nc sg ov bh op na) R Q
        refine w_getr rfl v_tyM rfl ?_
        refine w_st rfl (fun _ => rfl) ?_
        show w_T L xs (d + 2) m_X12_monthTold 147 [(2, .int (Int32.ofInt (mo1 : Int))), (1, .int (Int32.ofInt (pl : Int))), (0, .ref 100)] [.ref 100, .ref 137] (p_S (t_S T0 nm om bg nt (upd fo om (Int32.ofInt (nm : Int))) (upd ot om (Int32.ofInt (mo1 : Int))) pp) pl1 cs sk cl (Int32.ofInt 0) nc sg ov bh op na) R Q
        refine w_get rfl v_tyM rfl ?_
        refine w_st rfl (fun _ => rfl) ?_
        show w_T L xs (d + 2) m_X12_monthTold 151 [(2, .int (Int32.ofInt (mo1 : Int))), (1, .int (Int32.ofInt (pl : Int))), (0, .ref 100)] [.int (Int32.ofInt (pl : Int)), .int (Int32.ofInt (om : Int)), .ref 137] (p_S (t_S T0 nm om bg nt (upd fo om (Int32.ofInt (nm : Int))) (upd ot om (Int32.ofInt (mo1 : Int))) pp) pl1 cs sk cl (Int32.ofInt 0) nc sg ov bh op na) R Q
        refine w_iast rfl rfl (by rw [w_nat (by omega)]; omega) (by rw [w_nat (by omega)]; omega) ?_
        refine w_eqS (p_wor (by decide) (w_natn (by omega))) ?_
        refine w_eqS (p_in (t_wpp (by omega))) ?_
        refine w_st rfl (fun _ => rfl) ?_
        refine w_st rfl (fun _ => rfl) ?_
        show w_T L xs (d + 2) m_X12_monthTold 154 [(2, .int (Int32.ofInt (mo1 : Int))), (1, .int (Int32.ofInt (pl : Int))), (0, .ref 100)] [.ref 100, .ref 100] (p_S (t_S T0 nm om bg nt (upd fo om (Int32.ofInt (nm : Int))) (upd ot om (Int32.ofInt (mo1 : Int))) (upd pp om (Int32.ofInt (pl : Int)))) pl1 cs sk cl (Int32.ofInt 0) nc sg ov bh op na) R Q
        refine w_get rfl v_tyM rfl ?_
        refine w_st rfl (fun _ => rfl) ?_
        refine w_st rfl (fun _ => rfl) ?_
        show w_T L xs (d + 2) m_X12_monthTold 159 [(2, .int (Int32.ofInt (mo1 : Int))), (1, .int (Int32.ofInt (pl : Int))), (0, .ref 100)] [.int ((Int32.ofInt (om : Int)) + (Int32.ofInt 1)), .ref 100] (p_S (t_S T0 nm om bg nt (upd fo om (Int32.ofInt (nm : Int))) (upd ot om (Int32.ofInt (mo1 : Int))) (upd pp om (Int32.ofInt (pl : Int)))) pl1 cs sk cl (Int32.ofInt 0) nc sg ov bh op na) R Q
        refine w_put rfl v_tyM rfl rfl rfl ?_
        refine w_eqS (p_wo99 (by decide)) ?_
        refine w_eqS (p_in (t_wom (w_inc _))) ?_
        refine w_st rfl (fun _ => rfl) ?_
        refine w_st rfl (fun _ => rfl) ?_
        show w_T L xs (d + 2) m_X12_monthTold 164 [(2, .int (Int32.ofInt (mo1 : Int))), (1, .int (Int32.ofInt (pl : Int))), (0, .ref 100)] [.int (Int32.ofInt 0), .ref 100] (p_S (t_S T0 nm (om + 1) bg nt (upd fo om (Int32.ofInt (nm : Int))) (upd ot om (Int32.ofInt (mo1 : Int))) (upd pp om (Int32.ofInt (pl : Int)))) pl1 cs sk cl (Int32.ofInt 0) nc sg ov bh op na) R Q
        refine w_put rfl v_tyM rfl rfl rfl ?_
        refine w_eqS (p_wo99 (by decide)) ?_
        refine w_eqS (p_in (t_wbg (b := false) rfl)) ?_
        refine w_st rfl (fun _ => rfl) ?_
        refine w_st rfl (fun _ => rfl) ?_
        show w_T L xs (d + 2) m_X12_monthTold 169 [(2, .int (Int32.ofInt (mo1 : Int))), (1, .int (Int32.ofInt (pl : Int))), (0, .ref 100)] [.ref 100, .ref 100] (p_S (t_S T0 nm (om + 1) false nt (upd fo om (Int32.ofInt (nm : Int))) (upd ot om (Int32.ofInt (mo1 : Int))) (upd pp om (Int32.ofInt (pl : Int)))) pl1 cs sk cl (Int32.ofInt 0) nc sg ov bh op na) R Q
        refine w_get rfl v_tyM rfl ?_
        refine w_st rfl (fun _ => rfl) ?_
        refine w_st rfl (fun _ => rfl) ?_
        show w_T L xs (d + 2) m_X12_monthTold 174 [(2, .int (Int32.ofInt (mo1 : Int))), (1, .int (Int32.ofInt (pl : Int))), (0, .ref 100)] [.int ((Int32.ofInt (pl1 : Int)) + (Int32.ofInt 1)), .ref 100] (p_S (t_S T0 nm (om + 1) false nt (upd fo om (Int32.ofInt (nm : Int))) (upd ot om (Int32.ofInt (mo1 : Int))) (upd pp om (Int32.ofInt (pl : Int)))) pl1 cs sk cl (Int32.ofInt 0) nc sg ov bh op na) R Q
        refine w_put rfl v_tyM rfl rfl rfl ?_
        refine w_eqS (p_wpl (w_inc _)) ?_
        show w_T L xs (d + 2) m_X12_monthTold 177 [(2, .int (Int32.ofInt (mo1 : Int))), (1, .int (Int32.ofInt (pl : Int))), (0, .ref 100)] [] (p_S (t_S T0 nm (om + 1) false nt (upd fo om (Int32.ofInt (nm : Int))) (upd ot om (Int32.ofInt (mo1 : Int))) (upd pp om (Int32.ofInt (pl : Int)))) (pl1 + 1) cs sk cl (Int32.ofInt 0) nc sg ov bh op na) R Q
        refine w_ret rfl rfl ?_
        refine Kg _ _ _ _ _ _ _ _ (by omega) (by omega) ⟨m1, by omega, m3, fun j hj => ?_, fun j hj => ?_⟩
        · by_cases e : j = om
          · rw [e, p_upe, p_upe, w_nat (by omega), w_nat (by omega)]; omega
          · rw [p_upn e, p_upn e]; exact m4 j hj
        · by_cases e : j = om
          · rw [e, p_upe, p_upe, p_upe, w_nat (by omega), w_nat (by omega), w_nat (by omega)]; omega
          · rw [p_upn e, p_upn e, p_upn e]; exact m5 j (by omega)
      · refine w_st rfl (fun _ => rfl) ?_
        refine w_st rfl (fun _ => rfl) ?_
        refine w_st rfl (fun _ => rfl) ?_
        show w_T L xs (d + 2) m_X12_monthTold 105 [(2, .int (Int32.ofInt (mo1 : Int))), (1, .int (Int32.ofInt (pl : Int))), (0, .ref 100)] [.ref 100, .int (Int32.ofInt 5), .ref 100] (p_S (t_S T0 nm om bg nt fo ot pp) pl1 cs sk cl (Int32.ofInt 0) nc sg ov bh op na) R Q
        refine w_get rfl v_tyM rfl ?_
        show w_T L xs (d + 2) m_X12_monthTold 108 [(2, .int (Int32.ofInt (mo1 : Int))), (1, .int (Int32.ofInt (pl : Int))), (0, .ref 100)] [.int (Int32.ofInt (pl1 : Int)), .int (Int32.ofInt 5), .ref 100] (p_S (t_S T0 nm om bg nt fo ot pp) pl1 cs sk cl (Int32.ofInt 0) nc sg ov bh op na) R Q
        refine w_cv rfl (by decide) mt_X12_wrongs v_tyM rfl rfl rfl (Nat.le_of_ble_eq_true rfl) (Nat.le_of_ble_eq_true rfl) (Nat.le_of_ble_eq_true rfl) ?_
        show w_T L xs _ m_X12_wrongs 0 (lv_args 0 [.ref 100, .int (Int32.ofInt 5), .int (Int32.ofInt (pl1 : Int))]) [] (p_S (t_S T0 nm om bg nt fo ot pp) pl1 cs sk cl (Int32.ofInt 0) nc sg ov bh op na) R _
        refine h_wr (by decide) (by decide) (by rw [w_nat (by omega)]; omega) (by rw [w_nat (by omega)]; omega) (fun b108 hb108 => ?_)
        refine w_st rfl (fun _ => rfl) ?_
        show w_T L xs (d + 2) m_X12_monthTold 112 [(2, .int (Int32.ofInt (mo1 : Int))), (1, .int (Int32.ofInt (pl : Int))), (0, .ref 100)] [.ref 100] (p_S (t_S T0 nm om bg nt fo ot pp) pl1 cs sk cl b108 nc sg ov bh op na) R Q
        refine w_cv rfl (by decide) mt_X12_isGood v_tyM rfl rfl rfl (Nat.le_of_ble_eq_true rfl) (Nat.le_of_ble_eq_true rfl) (Nat.le_of_ble_eq_true rfl) ?_
        show w_T L xs _ m_X12_isGood 0 (lv_args 0 [.ref 100]) [] (p_S (t_S T0 nm om bg nt fo ot pp) pl1 cs sk cl b108 nc sg ov bh op na) R _
        refine h_isGF hb108 ?_
        show w_T L xs (d + 2) m_X12_monthTold 115 [(2, .int (Int32.ofInt (mo1 : Int))), (1, .int (Int32.ofInt (pl : Int))), (0, .ref 100)] [.int (Int32.ofInt 0)] (p_S (t_S T0 nm om bg nt fo ot pp) pl1 cs sk cl b108 nc sg ov bh op na) R Q
        refine w_st rfl (fun _ => rfl) ?_
        show w_T L xs (d + 2) m_X12_monthTold 118 [(2, .int (Int32.ofInt (mo1 : Int))), (1, .int (Int32.ofInt (pl : Int))), (0, .ref 100)] [] (p_S (t_S T0 nm om bg nt fo ot pp) pl1 cs sk cl b108 nc sg ov bh op na) R Q
        refine w_ret rfl rfl ?_
        exact Kb _ _ _ _ _ _ _ _ _ hb108 (by omega) ⟨m1, m2, m3, m4, m5⟩
  · refine w_st rfl (fun _ => rfl) ?_
    show w_T L xs (d + 2) m_X12_monthTold 15 [(1, .int (Int32.ofInt (pl : Int))), (0, .ref 100)] [.ref 100] (p_S (t_S T0 nm om bg nt fo ot pp) pl cs sk cl (Int32.ofInt 0) nc sg ov bh op na) R Q
    refine w_get rfl v_tyM rfl ?_
    show w_T L xs (d + 2) m_X12_monthTold 18 [(1, .int (Int32.ofInt (pl : Int))), (0, .ref 100)] [.int (Int32.ofInt (om : Int))] (p_S (t_S T0 nm om bg nt fo ot pp) pl cs sk cl (Int32.ofInt 0) nc sg ov bh op na) R Q
    refine w_br (P := (Int32.ofInt (om : Int)) ≤ 0) rfl (fun _ => rfl) (fun h18 => ?_) (fun h18 => ?_)
    · refine w_st rfl (fun _ => rfl) ?_
      show w_T L xs (d + 2) m_X12_monthTold 81 [(1, .int (Int32.ofInt (pl : Int))), (0, .ref 100)] [.ref 100] (p_S (t_S T0 nm om bg nt fo ot pp) pl cs sk cl (Int32.ofInt 0) nc sg ov bh op na) R Q
      refine w_cv rfl (by decide) mt_X12_timesTold v_tyM rfl rfl rfl (Nat.le_of_ble_eq_true rfl) (Nat.le_of_ble_eq_true rfl) (Nat.le_of_ble_eq_true rfl) ?_
      show w_T L xs _ m_X12_timesTold 0 (lv_args 0 [.ref 100]) [] (p_S (t_S T0 nm om bg nt fo ot pp) pl cs sk cl (Int32.ofInt 0) nc sg ov bh op na) R _
      refine h_times (by omega) he htp (fun mo1 pl1 y1 y2 y3 y4 => ?_)
      refine w_st rfl (fun _ => rfl) ?_
      refine w_st rfl (fun _ => rfl) ?_
      show w_T L xs (d + 2) m_X12_monthTold 86 [(2, .int (Int32.ofInt (mo1 : Int))), (1, .int (Int32.ofInt (pl : Int))), (0, .ref 100)] [.ref 100] (p_S (t_S T0 nm om bg nt fo ot pp) pl1 cs sk cl (Int32.ofInt 0) nc sg ov bh op na) R Q
      refine w_cv rfl (by decide) mt_X12_here v_tyM rfl rfl rfl (Nat.le_of_ble_eq_true rfl) (Nat.le_of_ble_eq_true rfl) (Nat.le_of_ble_eq_true rfl) ?_
      show w_T L xs _ m_X12_here 0 (lv_args 0 [.ref 100]) [] (p_S (t_S T0 nm om bg nt fo ot pp) pl1 cs sk cl (Int32.ofInt 0) nc sg ov bh op na) R _
      refine h_here (by omega) ?_
      refine w_st rfl (fun _ => rfl) ?_
      show w_T L xs (d + 2) m_X12_monthTold 91 [(2, .int (Int32.ofInt (mo1 : Int))), (1, .int (Int32.ofInt (pl : Int))), (0, .ref 100)] [.int (Int32.ofInt 40), .int (p_h T0 pl1)] (p_S (t_S T0 nm om bg nt fo ot pp) pl1 cs sk cl (Int32.ofInt 0) nc sg ov bh op na) R Q
      refine w_br (P := ¬ (p_h T0 pl1) = (Int32.ofInt 40)) rfl (fun _ => rfl) (fun h91 => ?_) (fun h91 => ?_)
      · refine w_st rfl (fun _ => rfl) ?_
        show w_T L xs (d + 2) m_X12_monthTold 179 [(2, .int (Int32.ofInt (mo1 : Int))), (1, .int (Int32.ofInt (pl : Int))), (0, .ref 100)] [.ref 100] (p_S (t_S T0 nm om bg nt fo ot pp) pl1 cs sk cl (Int32.ofInt 0) nc sg ov bh op na) R Q
        refine w_cv rfl (by decide) mt_X12_here v_tyM rfl rfl rfl (Nat.le_of_ble_eq_true rfl) (Nat.le_of_ble_eq_true rfl) (Nat.le_of_ble_eq_true rfl) ?_
        show w_T L xs _ m_X12_here 0 (lv_args 0 [.ref 100]) [] (p_S (t_S T0 nm om bg nt fo ot pp) pl1 cs sk cl (Int32.ofInt 0) nc sg ov bh op na) R _
        refine h_here (by omega) ?_
        refine w_st rfl (fun _ => rfl) ?_
        show w_T L xs (d + 2) m_X12_monthTold 184 [(2, .int (Int32.ofInt (mo1 : Int))), (1, .int (Int32.ofInt (pl : Int))), (0, .ref 100)] [.int (Int32.ofInt 46), .int (p_h T0 pl1)] (p_S (t_S T0 nm om bg nt fo ot pp) pl1 cs sk cl (Int32.ofInt 0) nc sg ov bh op na) R Q
        refine w_br (P := (p_h T0 pl1) = (Int32.ofInt 46)) rfl (fun _ => rfl) (fun h184 => ?_) (fun h184 => ?_)
        · have hh : p_h T0 pl1 = Int32.ofInt 46 ∨ (65 ≤ (p_h T0 pl1).toInt ∧ (p_h T0 pl1).toInt ≤ 74) := Or.inl h184
          refine w_st rfl (fun _ => rfl) ?_
          show w_T L xs (d + 2) m_X12_monthTold 217 [(2, .int (Int32.ofInt (mo1 : Int))), (1, .int (Int32.ofInt (pl : Int))), (0, .ref 100)] [.ref 100] (p_S (t_S T0 nm om bg nt fo ot pp) pl1 cs sk cl (Int32.ofInt 0) nc sg ov bh op na) R Q
          refine w_get rfl v_tyM rfl ?_
          refine w_st rfl (fun _ => rfl) ?_
          refine w_st rfl (fun _ => rfl) ?_
          refine w_st rfl (fun _ => rfl) ?_
          show w_T L xs (d + 2) m_X12_monthTold 224 [(2, .int (Int32.ofInt (mo1 : Int))), (1, .int (Int32.ofInt (pl : Int))), (0, .ref 100)] [.int (Int32.ofInt 48), .int ((Int32.ofInt (nm : Int)) + (Int32.ofInt (mo1 : Int)))] (p_S (t_S T0 nm om bg nt fo ot pp) pl1 cs sk cl (Int32.ofInt 0) nc sg ov bh op na) R Q
          refine w_br (P := ((Int32.ofInt (nm : Int)) + (Int32.ofInt (mo1 : Int))) ≤ (Int32.ofInt 48)) rfl (fun _ => rfl) (fun h224 => ?_) (fun h224 => ?_)
          · refine w_st rfl (fun _ => rfl) ?_
            show w_T L xs (d + 2) m_X12_monthTold 235 [(2, .int (Int32.ofInt (mo1 : Int))), (1, .int (Int32.ofInt (pl : Int))), (0, .ref 100)] [.ref 100] (p_S (t_S T0 nm om bg nt fo ot pp) pl1 cs sk cl (Int32.ofInt 0) nc sg ov bh op na) R Q
            refine w_cv rfl (by decide) mt_X12_isGood v_tyM rfl rfl rfl (Nat.le_of_ble_eq_true rfl) (Nat.le_of_ble_eq_true rfl) (Nat.le_of_ble_eq_true rfl) ?_
            show w_T L xs _ m_X12_isGood 0 (lv_args 0 [.ref 100]) [] (p_S (t_S T0 nm om bg nt fo ot pp) pl1 cs sk cl (Int32.ofInt 0) nc sg ov bh op na) R _
            refine h_isGT ?_
            show w_T L xs (d + 2) m_X12_monthTold 238 [(2, .int (Int32.ofInt (mo1 : Int))), (1, .int (Int32.ofInt (pl : Int))), (0, .ref 100)] [.int (Int32.ofInt 1)] (p_S (t_S T0 nm om bg nt fo ot pp) pl1 cs sk cl (Int32.ofInt 0) nc sg ov bh op na) R Q
            refine w_st rfl (fun _ => rfl) ?_
            refine w_st rfl (fun _ => rfl) ?_
            refine w_st rfl (fun _ => rfl) ?_
            show w_T L xs (d + 2) m_X12_monthTold 244 [(3, .int (Int32.ofInt 0)), (2, .int (Int32.ofInt (mo1 : Int))), (1, .int (Int32.ofInt (pl : Int))), (0, .ref 100)] [] (p_S (t_S T0 nm om bg nt fo ot pp) pl1 cs sk cl (Int32.ofInt 0) nc sg ov bh op na) R Q
            have h48 : nm + mo1 ≤ 48 := by
              rw [w_addn, q_le32, w_nat (by omega)] at h224
              have e48 : (Int32.ofInt 48).toInt = 48 := by decide
              omega
            have hlt1 := p_h_lt (S0 := T0) (pl := pl1) (fun e => by
              rw [e] at hh
              revert hh
              decide)
            refine h_ml (by omega) h48 hh (fun nt1 x3 => ?_) mo1 0 nt (by omega) m3
            refine w_st rfl (fun _ => rfl) ?_
            refine w_st rfl (fun _ => rfl) ?_
            show w_T L xs (d + 2) m_X12_monthTold 288 [(3, .int (Int32.ofInt (mo1 : Int))), (2, .int (Int32.ofInt (mo1 : Int))), (1, .int (Int32.ofInt (pl : Int))), (0, .ref 100)] [.ref 100, .ref 100] (p_S (t_S T0 nm om bg nt1 fo ot pp) pl1 cs sk cl (Int32.ofInt 0) nc sg ov bh op na) R Q
            refine w_get rfl v_tyM rfl ?_
            refine w_st rfl (fun _ => rfl) ?_
            refine w_st rfl (fun _ => rfl) ?_
            show w_T L xs (d + 2) m_X12_monthTold 293 [(3, .int (Int32.ofInt (mo1 : Int))), (2, .int (Int32.ofInt (mo1 : Int))), (1, .int (Int32.ofInt (pl : Int))), (0, .ref 100)] [.int ((Int32.ofInt (nm : Int)) + (Int32.ofInt (mo1 : Int))), .ref 100] (p_S (t_S T0 nm om bg nt1 fo ot pp) pl1 cs sk cl (Int32.ofInt 0) nc sg ov bh op na) R Q
            refine w_put rfl v_tyM rfl rfl rfl ?_
            refine w_eqS (p_wo99 (by decide)) ?_
            refine w_eqS (p_in (t_wnm (w_addn _ _))) ?_
            refine w_st rfl (fun _ => rfl) ?_
            refine w_st rfl (fun _ => rfl) ?_
            show w_T L xs (d + 2) m_X12_monthTold 298 [(3, .int (Int32.ofInt (mo1 : Int))), (2, .int (Int32.ofInt (mo1 : Int))), (1, .int (Int32.ofInt (pl : Int))), (0, .ref 100)] [.int (Int32.ofInt 1), .ref 100] (p_S (t_S T0 (nm + mo1) om bg nt1 fo ot pp) pl1 cs sk cl (Int32.ofInt 0) nc sg ov bh op na) R Q
            refine w_put rfl v_tyM rfl rfl rfl ?_
            refine w_eqS (p_wo99 (by decide)) ?_
            refine w_eqS (p_in (t_wbg (b := true) rfl)) ?_
            refine w_st rfl (fun _ => rfl) ?_
            refine w_st rfl (fun _ => rfl) ?_
            show w_T L xs (d + 2) m_X12_monthTold 303 [(3, .int (Int32.ofInt (mo1 : Int))), (2, .int (Int32.ofInt (mo1 : Int))), (1, .int (Int32.ofInt (pl : Int))), (0, .ref 100)] [.ref 100, .ref 100] (p_S (t_S T0 (nm + mo1) om true nt1 fo ot pp) pl1 cs sk cl (Int32.ofInt 0) nc sg ov bh op na) R Q
            refine w_get rfl v_tyM rfl ?_
            refine w_st rfl (fun _ => rfl) ?_
            refine w_st rfl (fun _ => rfl) ?_
            show w_T L xs (d + 2) m_X12_monthTold 308 [(3, .int (Int32.ofInt (mo1 : Int))), (2, .int (Int32.ofInt (mo1 : Int))), (1, .int (Int32.ofInt (pl : Int))), (0, .ref 100)] [.int ((Int32.ofInt (pl1 : Int)) + (Int32.ofInt 1)), .ref 100] (p_S (t_S T0 (nm + mo1) om true nt1 fo ot pp) pl1 cs sk cl (Int32.ofInt 0) nc sg ov bh op na) R Q
            refine w_put rfl v_tyM rfl rfl rfl ?_
            refine w_eqS (p_wpl (w_inc _)) ?_
            show w_T L xs (d + 2) m_X12_monthTold 311 [(3, .int (Int32.ofInt (mo1 : Int))), (2, .int (Int32.ofInt (mo1 : Int))), (1, .int (Int32.ofInt (pl : Int))), (0, .ref 100)] [] (p_S (t_S T0 (nm + mo1) om true nt1 fo ot pp) (pl1 + 1) cs sk cl (Int32.ofInt 0) nc sg ov bh op na) R Q
            refine w_ret rfl rfl ?_
            exact Kg _ _ _ _ _ _ _ _ (by omega) (by omega) ⟨by omega, m2, x3, m4, fun j hj => by have := m5 j hj; omega⟩
          · refine w_st rfl (fun _ => rfl) ?_
            refine w_st rfl (fun _ => rfl) ?_
            refine w_st rfl (fun _ => rfl) ?_
            show w_T L xs (d + 2) m_X12_monthTold 231 [(2, .int (Int32.ofInt (mo1 : Int))), (1, .int (Int32.ofInt (pl : Int))), (0, .ref 100)] [.int (Int32.ofInt (pl : Int)), .int (Int32.ofInt 6), .ref 100] (p_S (t_S T0 nm om bg nt fo ot pp) pl1 cs sk cl (Int32.ofInt 0) nc sg ov bh op na) R Q
            refine w_cv rfl (by decide) mt_X12_wrongs v_tyM rfl rfl rfl (Nat.le_of_ble_eq_true rfl) (Nat.le_of_ble_eq_true rfl) (Nat.le_of_ble_eq_true rfl) ?_
            show w_T L xs _ m_X12_wrongs 0 (lv_args 0 [.ref 100, .int (Int32.ofInt 6), .int (Int32.ofInt (pl : Int))]) [] (p_S (t_S T0 nm om bg nt fo ot pp) pl1 cs sk cl (Int32.ofInt 0) nc sg ov bh op na) R _
            refine h_wr (by decide) (by decide) (by rw [w_nat (by omega)]; omega) (by rw [w_nat (by omega)]; omega) (fun b231 hb231 => ?_)
            refine w_st rfl (fun _ => rfl) ?_
            show w_T L xs (d + 2) m_X12_monthTold 235 [(2, .int (Int32.ofInt (mo1 : Int))), (1, .int (Int32.ofInt (pl : Int))), (0, .ref 100)] [.ref 100] (p_S (t_S T0 nm om bg nt fo ot pp) pl1 cs sk cl b231 nc sg ov bh op na) R Q
            refine w_cv rfl (by decide) mt_X12_isGood v_tyM rfl rfl rfl (Nat.le_of_ble_eq_true rfl) (Nat.le_of_ble_eq_true rfl) (Nat.le_of_ble_eq_true rfl) ?_
            show w_T L xs _ m_X12_isGood 0 (lv_args 0 [.ref 100]) [] (p_S (t_S T0 nm om bg nt fo ot pp) pl1 cs sk cl b231 nc sg ov bh op na) R _
            refine h_isGF hb231 ?_
            show w_T L xs (d + 2) m_X12_monthTold 238 [(2, .int (Int32.ofInt (mo1 : Int))), (1, .int (Int32.ofInt (pl : Int))), (0, .ref 100)] [.int (Int32.ofInt 0)] (p_S (t_S T0 nm om bg nt fo ot pp) pl1 cs sk cl b231 nc sg ov bh op na) R Q
            refine w_st rfl (fun _ => rfl) ?_
            show w_T L xs (d + 2) m_X12_monthTold 241 [(2, .int (Int32.ofInt (mo1 : Int))), (1, .int (Int32.ofInt (pl : Int))), (0, .ref 100)] [] (p_S (t_S T0 nm om bg nt fo ot pp) pl1 cs sk cl b231 nc sg ov bh op na) R Q
            refine w_ret rfl rfl ?_
            exact Kb _ _ _ _ _ _ _ _ _ hb231 (by omega) ⟨m1, m2, m3, m4, m5⟩
        · refine w_st rfl (fun _ => rfl) ?_
          show w_T L xs (d + 2) m_X12_monthTold 188 [(2, .int (Int32.ofInt (mo1 : Int))), (1, .int (Int32.ofInt (pl : Int))), (0, .ref 100)] [.ref 100] (p_S (t_S T0 nm om bg nt fo ot pp) pl1 cs sk cl (Int32.ofInt 0) nc sg ov bh op na) R Q
          refine w_cv rfl (by decide) mt_X12_here v_tyM rfl rfl rfl (Nat.le_of_ble_eq_true rfl) (Nat.le_of_ble_eq_true rfl) (Nat.le_of_ble_eq_true rfl) ?_
          show w_T L xs _ m_X12_here 0 (lv_args 0 [.ref 100]) [] (p_S (t_S T0 nm om bg nt fo ot pp) pl1 cs sk cl (Int32.ofInt 0) nc sg ov bh op na) R _
          refine h_here (by omega) ?_
          refine w_st rfl (fun _ => rfl) ?_
          refine w_st rfl (fun _ => rfl) ?_
          refine w_st rfl (fun _ => rfl) ?_
          show w_T L xs (d + 2) m_X12_monthTold 198 [(2, .int (Int32.ofInt (mo1 : Int))), (1, .int (Int32.ofInt (pl : Int))), (0, .ref 100)] [.long (Int64.ofInt 74), .long (Int64.ofInt 65), .long ((p_h T0 pl1).toInt64)] (p_S (t_S T0 nm om bg nt fo ot pp) pl1 cs sk cl (Int32.ofInt 0) nc sg ov bh op na) R Q
          refine w_cs rfl (by decide) mt_X12_lies (fun _ => rfl) (Nat.le_of_ble_eq_true rfl) (Nat.le_of_ble_eq_true rfl) ?_
          show w_T L xs _ m_X12_lies 0 (lv_args 0 [.long ((p_h T0 pl1).toInt64), .long (Int64.ofInt 65), .long (Int64.ofInt 74)]) [] (p_S (t_S T0 nm om bg nt fo ot pp) pl1 cs sk cl (Int32.ofInt 0) nc sg ov bh op na) R _
          refine h_lies _ _ _ ?_
          rw [e65, e74, Int32.toInt_toInt64]
          by_cases hd : 65 ≤ (p_h T0 pl1).toInt ∧ (p_h T0 pl1).toInt ≤ 74
          · rw [if_pos hd]
            have hh : p_h T0 pl1 = Int32.ofInt 46 ∨ (65 ≤ (p_h T0 pl1).toInt ∧ (p_h T0 pl1).toInt ≤ 74) := Or.inr hd
            show w_T L xs (d + 2) m_X12_monthTold 201 [(2, .int (Int32.ofInt (mo1 : Int))), (1, .int (Int32.ofInt (pl : Int))), (0, .ref 100)] [.int (Int32.ofInt 1)] (p_S (t_S T0 nm om bg nt fo ot pp) pl1 cs sk cl (Int32.ofInt 0) nc sg ov bh op na) R Q
            refine w_st rfl (fun _ => rfl) ?_
            refine w_st rfl (fun _ => rfl) ?_
            show w_T L xs (d + 2) m_X12_monthTold 217 [(2, .int (Int32.ofInt (mo1 : Int))), (1, .int (Int32.ofInt (pl : Int))), (0, .ref 100)] [.ref 100] (p_S (t_S T0 nm om bg nt fo ot pp) pl1 cs sk cl (Int32.ofInt 0) nc sg ov bh op na) R Q
            refine w_get rfl v_tyM rfl ?_
            refine w_st rfl (fun _ => rfl) ?_
            refine w_st rfl (fun _ => rfl) ?_
            refine w_st rfl (fun _ => rfl) ?_
            show w_T L xs (d + 2) m_X12_monthTold 224 [(2, .int (Int32.ofInt (mo1 : Int))), (1, .int (Int32.ofInt (pl : Int))), (0, .ref 100)] [.int (Int32.ofInt 48), .int ((Int32.ofInt (nm : Int)) + (Int32.ofInt (mo1 : Int)))] (p_S (t_S T0 nm om bg nt fo ot pp) pl1 cs sk cl (Int32.ofInt 0) nc sg ov bh op na) R Q
            refine w_br (P := ((Int32.ofInt (nm : Int)) + (Int32.ofInt (mo1 : Int))) ≤ (Int32.ofInt 48)) rfl (fun _ => rfl) (fun h224 => ?_) (fun h224 => ?_)
            · refine w_st rfl (fun _ => rfl) ?_
              show w_T L xs (d + 2) m_X12_monthTold 235 [(2, .int (Int32.ofInt (mo1 : Int))), (1, .int (Int32.ofInt (pl : Int))), (0, .ref 100)] [.ref 100] (p_S (t_S T0 nm om bg nt fo ot pp) pl1 cs sk cl (Int32.ofInt 0) nc sg ov bh op na) R Q
              refine w_cv rfl (by decide) mt_X12_isGood v_tyM rfl rfl rfl (Nat.le_of_ble_eq_true rfl) (Nat.le_of_ble_eq_true rfl) (Nat.le_of_ble_eq_true rfl) ?_
              show w_T L xs _ m_X12_isGood 0 (lv_args 0 [.ref 100]) [] (p_S (t_S T0 nm om bg nt fo ot pp) pl1 cs sk cl (Int32.ofInt 0) nc sg ov bh op na) R _
              refine h_isGT ?_
              show w_T L xs (d + 2) m_X12_monthTold 238 [(2, .int (Int32.ofInt (mo1 : Int))), (1, .int (Int32.ofInt (pl : Int))), (0, .ref 100)] [.int (Int32.ofInt 1)] (p_S (t_S T0 nm om bg nt fo ot pp) pl1 cs sk cl (Int32.ofInt 0) nc sg ov bh op na) R Q
              refine w_st rfl (fun _ => rfl) ?_
              refine w_st rfl (fun _ => rfl) ?_
              refine w_st rfl (fun _ => rfl) ?_
              show w_T L xs (d + 2) m_X12_monthTold 244 [(3, .int (Int32.ofInt 0)), (2, .int (Int32.ofInt (mo1 : Int))), (1, .int (Int32.ofInt (pl : Int))), (0, .ref 100)] [] (p_S (t_S T0 nm om bg nt fo ot pp) pl1 cs sk cl (Int32.ofInt 0) nc sg ov bh op na) R Q
              have h48 : nm + mo1 ≤ 48 := by
                rw [w_addn, q_le32, w_nat (by omega)] at h224
                have e48 : (Int32.ofInt 48).toInt = 48 := by decide
                omega
              have hlt1 := p_h_lt (S0 := T0) (pl := pl1) (fun e => by
                rw [e] at hh
                revert hh
                decide)
              refine h_ml (by omega) h48 hh (fun nt1 x3 => ?_) mo1 0 nt (by omega) m3
              refine w_st rfl (fun _ => rfl) ?_
              refine w_st rfl (fun _ => rfl) ?_
              show w_T L xs (d + 2) m_X12_monthTold 288 [(3, .int (Int32.ofInt (mo1 : Int))), (2, .int (Int32.ofInt (mo1 : Int))), (1, .int (Int32.ofInt (pl : Int))), (0, .ref 100)] [.ref 100, .ref 100] (p_S (t_S T0 nm om bg nt1 fo ot pp) pl1 cs sk cl (Int32.ofInt 0) nc sg ov bh op na) R Q
              refine w_get rfl v_tyM rfl ?_
              refine w_st rfl (fun _ => rfl) ?_
              refine w_st rfl (fun _ => rfl) ?_
              show w_T L xs (d + 2) m_X12_monthTold 293 [(3, .int (Int32.ofInt (mo1 : Int))), (2, .int (Int32.ofInt (mo1 : Int))), (1, .int (Int32.ofInt (pl : Int))), (0, .ref 100)] [.int ((Int32.ofInt (nm : Int)) + (Int32.ofInt (mo1 : Int))), .ref 100] (p_S (t_S T0 nm om bg nt1 fo ot pp) pl1 cs sk cl (Int32.ofInt 0) nc sg ov bh op na) R Q
              refine w_put rfl v_tyM rfl rfl rfl ?_
              refine w_eqS (p_wo99 (by decide)) ?_
              refine w_eqS (p_in (t_wnm (w_addn _ _))) ?_
              refine w_st rfl (fun _ => rfl) ?_
              refine w_st rfl (fun _ => rfl) ?_
              show w_T L xs (d + 2) m_X12_monthTold 298 [(3, .int (Int32.ofInt (mo1 : Int))), (2, .int (Int32.ofInt (mo1 : Int))), (1, .int (Int32.ofInt (pl : Int))), (0, .ref 100)] [.int (Int32.ofInt 1), .ref 100] (p_S (t_S T0 (nm + mo1) om bg nt1 fo ot pp) pl1 cs sk cl (Int32.ofInt 0) nc sg ov bh op na) R Q
              refine w_put rfl v_tyM rfl rfl rfl ?_
              refine w_eqS (p_wo99 (by decide)) ?_
              refine w_eqS (p_in (t_wbg (b := true) rfl)) ?_
              refine w_st rfl (fun _ => rfl) ?_
              refine w_st rfl (fun _ => rfl) ?_
              show w_T L xs (d + 2) m_X12_monthTold 303 [(3, .int (Int32.ofInt (mo1 : Int))), (2, .int (Int32.ofInt (mo1 : Int))), (1, .int (Int32.ofInt (pl : Int))), (0, .ref 100)] [.ref 100, .ref 100] (p_S (t_S T0 (nm + mo1) om true nt1 fo ot pp) pl1 cs sk cl (Int32.ofInt 0) nc sg ov bh op na) R Q
              refine w_get rfl v_tyM rfl ?_
              refine w_st rfl (fun _ => rfl) ?_
              refine w_st rfl (fun _ => rfl) ?_
              show w_T L xs (d + 2) m_X12_monthTold 308 [(3, .int (Int32.ofInt (mo1 : Int))), (2, .int (Int32.ofInt (mo1 : Int))), (1, .int (Int32.ofInt (pl : Int))), (0, .ref 100)] [.int ((Int32.ofInt (pl1 : Int)) + (Int32.ofInt 1)), .ref 100] (p_S (t_S T0 (nm + mo1) om true nt1 fo ot pp) pl1 cs sk cl (Int32.ofInt 0) nc sg ov bh op na) R Q
              refine w_put rfl v_tyM rfl rfl rfl ?_
              refine w_eqS (p_wpl (w_inc _)) ?_
              show w_T L xs (d + 2) m_X12_monthTold 311 [(3, .int (Int32.ofInt (mo1 : Int))), (2, .int (Int32.ofInt (mo1 : Int))), (1, .int (Int32.ofInt (pl : Int))), (0, .ref 100)] [] (p_S (t_S T0 (nm + mo1) om true nt1 fo ot pp) (pl1 + 1) cs sk cl (Int32.ofInt 0) nc sg ov bh op na) R Q
              refine w_ret rfl rfl ?_
              exact Kg _ _ _ _ _ _ _ _ (by omega) (by omega) ⟨by omega, m2, x3, m4, fun j hj => by have := m5 j hj; omega⟩
            · refine w_st rfl (fun _ => rfl) ?_
              refine w_st rfl (fun _ => rfl) ?_
              refine w_st rfl (fun _ => rfl) ?_
              show w_T L xs (d + 2) m_X12_monthTold 231 [(2, .int (Int32.ofInt (mo1 : Int))), (1, .int (Int32.ofInt (pl : Int))), (0, .ref 100)] [.int (Int32.ofInt (pl : Int)), .int (Int32.ofInt 6), .ref 100] (p_S (t_S T0 nm om bg nt fo ot pp) pl1 cs sk cl (Int32.ofInt 0) nc sg ov bh op na) R Q
              refine w_cv rfl (by decide) mt_X12_wrongs v_tyM rfl rfl rfl (Nat.le_of_ble_eq_true rfl) (Nat.le_of_ble_eq_true rfl) (Nat.le_of_ble_eq_true rfl) ?_
              show w_T L xs _ m_X12_wrongs 0 (lv_args 0 [.ref 100, .int (Int32.ofInt 6), .int (Int32.ofInt (pl : Int))]) [] (p_S (t_S T0 nm om bg nt fo ot pp) pl1 cs sk cl (Int32.ofInt 0) nc sg ov bh op na) R _
              refine h_wr (by decide) (by decide) (by rw [w_nat (by omega)]; omega) (by rw [w_nat (by omega)]; omega) (fun b231 hb231 => ?_)
              refine w_st rfl (fun _ => rfl) ?_
              show w_T L xs (d + 2) m_X12_monthTold 235 [(2, .int (Int32.ofInt (mo1 : Int))), (1, .int (Int32.ofInt (pl : Int))), (0, .ref 100)] [.ref 100] (p_S (t_S T0 nm om bg nt fo ot pp) pl1 cs sk cl b231 nc sg ov bh op na) R Q
              refine w_cv rfl (by decide) mt_X12_isGood v_tyM rfl rfl rfl (Nat.le_of_ble_eq_true rfl) (Nat.le_of_ble_eq_true rfl) (Nat.le_of_ble_eq_true rfl) ?_
              show w_T L xs _ m_X12_isGood 0 (lv_args 0 [.ref 100]) [] (p_S (t_S T0 nm om bg nt fo ot pp) pl1 cs sk cl b231 nc sg ov bh op na) R _
              refine h_isGF hb231 ?_
              show w_T L xs (d + 2) m_X12_monthTold 238 [(2, .int (Int32.ofInt (mo1 : Int))), (1, .int (Int32.ofInt (pl : Int))), (0, .ref 100)] [.int (Int32.ofInt 0)] (p_S (t_S T0 nm om bg nt fo ot pp) pl1 cs sk cl b231 nc sg ov bh op na) R Q
              refine w_st rfl (fun _ => rfl) ?_
              show w_T L xs (d + 2) m_X12_monthTold 241 [(2, .int (Int32.ofInt (mo1 : Int))), (1, .int (Int32.ofInt (pl : Int))), (0, .ref 100)] [] (p_S (t_S T0 nm om bg nt fo ot pp) pl1 cs sk cl b231 nc sg ov bh op na) R Q
              refine w_ret rfl rfl ?_
              exact Kb _ _ _ _ _ _ _ _ _ hb231 (by omega) ⟨m1, m2, m3, m4, m5⟩
          · rw [if_neg hd]
            show w_T L xs (d + 2) m_X12_monthTold 201 [(2, .int (Int32.ofInt (mo1 : Int))), (1, .int (Int32.ofInt (pl : Int))), (0, .ref 100)] [.int (Int32.ofInt 0)] (p_S (t_S T0 nm om bg nt fo ot pp) pl1 cs sk cl (Int32.ofInt 0) nc sg ov bh op na) R Q
            refine w_st rfl (fun _ => rfl) ?_
            refine w_st rfl (fun _ => rfl) ?_
            refine w_st rfl (fun _ => rfl) ?_
            refine w_st rfl (fun _ => rfl) ?_
            show w_T L xs (d + 2) m_X12_monthTold 207 [(2, .int (Int32.ofInt (mo1 : Int))), (1, .int (Int32.ofInt (pl : Int))), (0, .ref 100)] [.ref 100, .int (Int32.ofInt 1), .ref 100] (p_S (t_S T0 nm om bg nt fo ot pp) pl1 cs sk cl (Int32.ofInt 0) nc sg ov bh op na) R Q
            refine w_get rfl v_tyM rfl ?_
            show w_T L xs (d + 2) m_X12_monthTold 210 [(2, .int (Int32.ofInt (mo1 : Int))), (1, .int (Int32.ofInt (pl : Int))), (0, .ref 100)] [.int (Int32.ofInt (pl1 : Int)), .int (Int32.ofInt 1), .ref 100] (p_S (t_S T0 nm om bg nt fo ot pp) pl1 cs sk cl (Int32.ofInt 0) nc sg ov bh op na) R Q
            refine w_cv rfl (by decide) mt_X12_wrongs v_tyM rfl rfl rfl (Nat.le_of_ble_eq_true rfl) (Nat.le_of_ble_eq_true rfl) (Nat.le_of_ble_eq_true rfl) ?_
            show w_T L xs _ m_X12_wrongs 0 (lv_args 0 [.ref 100, .int (Int32.ofInt 1), .int (Int32.ofInt (pl1 : Int))]) [] (p_S (t_S T0 nm om bg nt fo ot pp) pl1 cs sk cl (Int32.ofInt 0) nc sg ov bh op na) R _
            refine h_wr (by decide) (by decide) (by rw [w_nat (by omega)]; omega) (by rw [w_nat (by omega)]; omega) (fun b210 hb210 => ?_)
            refine w_st rfl (fun _ => rfl) ?_
            refine w_st rfl (fun _ => rfl) ?_
            show w_T L xs (d + 2) m_X12_monthTold 235 [(2, .int (Int32.ofInt (mo1 : Int))), (1, .int (Int32.ofInt (pl : Int))), (0, .ref 100)] [.ref 100] (p_S (t_S T0 nm om bg nt fo ot pp) pl1 cs sk cl b210 nc sg ov bh op na) R Q
            refine w_cv rfl (by decide) mt_X12_isGood v_tyM rfl rfl rfl (Nat.le_of_ble_eq_true rfl) (Nat.le_of_ble_eq_true rfl) (Nat.le_of_ble_eq_true rfl) ?_
            show w_T L xs _ m_X12_isGood 0 (lv_args 0 [.ref 100]) [] (p_S (t_S T0 nm om bg nt fo ot pp) pl1 cs sk cl b210 nc sg ov bh op na) R _
            refine h_isGF hb210 ?_
            show w_T L xs (d + 2) m_X12_monthTold 238 [(2, .int (Int32.ofInt (mo1 : Int))), (1, .int (Int32.ofInt (pl : Int))), (0, .ref 100)] [.int (Int32.ofInt 0)] (p_S (t_S T0 nm om bg nt fo ot pp) pl1 cs sk cl b210 nc sg ov bh op na) R Q
            refine w_st rfl (fun _ => rfl) ?_
            show w_T L xs (d + 2) m_X12_monthTold 241 [(2, .int (Int32.ofInt (mo1 : Int))), (1, .int (Int32.ofInt (pl : Int))), (0, .ref 100)] [] (p_S (t_S T0 nm om bg nt fo ot pp) pl1 cs sk cl b210 nc sg ov bh op na) R Q
            refine w_ret rfl rfl ?_
            exact Kb _ _ _ _ _ _ _ _ _ hb210 (by omega) ⟨m1, m2, m3, m4, m5⟩
      · have e91 := Decidable.of_not_not h91
        have hlt1 := p_h_lt (S0 := T0) (pl := pl1) (by rw [e91]; decide)
        refine w_st rfl (fun _ => rfl) ?_
        show w_T L xs (d + 2) m_X12_monthTold 95 [(2, .int (Int32.ofInt (mo1 : Int))), (1, .int (Int32.ofInt (pl : Int))), (0, .ref 100)] [.ref 100] (p_S (t_S T0 nm om bg nt fo ot pp) pl1 cs sk cl (Int32.ofInt 0) nc sg ov bh op na) R Q
        refine w_get rfl v_tyM rfl ?_
        refine w_st rfl (fun _ => rfl) ?_
        show w_T L xs (d + 2) m_X12_monthTold 99 [(2, .int (Int32.ofInt (mo1 : Int))), (1, .int (Int32.ofInt (pl : Int))), (0, .ref 100)] [.int (Int32.ofInt 2), .int (Int32.ofInt (om : Int))] (p_S (t_S T0 nm om bg nt fo ot pp) pl1 cs sk cl (Int32.ofInt 0) nc sg ov bh op na) R Q
        refine w_br (P := ¬ (Int32.ofInt (om : Int)) = (Int32.ofInt 2)) rfl (fun _ => rfl) (fun h99 => ?_) (fun h99 => ?_)
        · have hom2 : om < 2 := Nat.lt_of_le_of_ne m2 (fun e => h99 (by rw [e]; rfl))
          refine w_st rfl (fun _ => rfl) ?_
          show w_T L xs (d + 2) m_X12_monthTold 112 [(2, .int (Int32.ofInt (mo1 : Int))), (1, .int (Int32.ofInt (pl : Int))), (0, .ref 100)] [.ref 100] (p_S (t_S T0 nm om bg nt fo ot pp) pl1 cs sk cl (Int32.ofInt 0) nc sg ov bh op na) R Q
          refine w_cv rfl (by decide) mt_X12_isGood v_tyM rfl rfl rfl (Nat.le_of_ble_eq_true rfl) (Nat.le_of_ble_eq_true rfl) (Nat.le_of_ble_eq_true rfl) ?_
          show w_T L xs _ m_X12_isGood 0 (lv_args 0 [.ref 100]) [] (p_S (t_S T0 nm om bg nt fo ot pp) pl1 cs sk cl (Int32.ofInt 0) nc sg ov bh op na) R _
          refine h_isGT ?_
          show w_T L xs (d + 2) m_X12_monthTold 115 [(2, .int (Int32.ofInt (mo1 : Int))), (1, .int (Int32.ofInt (pl : Int))), (0, .ref 100)] [.int (Int32.ofInt 1)] (p_S (t_S T0 nm om bg nt fo ot pp) pl1 cs sk cl (Int32.ofInt 0) nc sg ov bh op na) R Q
          refine w_st rfl (fun _ => rfl) ?_
          refine w_st rfl (fun _ => rfl) ?_
          show w_T L xs (d + 2) m_X12_monthTold 120 [(2, .int (Int32.ofInt (mo1 : Int))), (1, .int (Int32.ofInt (pl : Int))), (0, .ref 100)] [.ref 100] (p_S (t_S T0 nm om bg nt fo ot pp) pl1 cs sk cl (Int32.ofInt 0) nc sg ov bh op na) R Q
          refine w_getr rfl v_tyM rfl ?_
          refine w_st rfl (fun _ => rfl) ?_
          show w_T L xs (d + 2) m_X12_monthTold 124 [(2, .int (Int32.ofInt (mo1 : Int))), (1, .int (Int32.ofInt (pl : Int))), (0, .ref 100)] [.ref 100, .ref 135] (p_S (t_S T0 nm om bg nt fo ot pp) pl1 cs sk cl (Int32.ofInt 0) nc sg ov bh op na) R Q
          refine w_get rfl v_tyM rfl ?_
          refine w_st rfl (fun _ => rfl) ?_
          show w_T L xs (d + 2) m_X12_monthTold 128 [(2, .int (Int32.ofInt (mo1 : Int))), (1, .int (Int32.ofInt (pl : Int))), (0, .ref 100)] [.ref 100, .int (Int32.ofInt (om : Int)), .ref 135] (p_S (t_S T0 nm om bg nt fo ot pp) pl1 cs sk cl (Int32.ofInt 0) nc sg ov bh op na) R Q
          refine w_get rfl v_tyM rfl ?_
          show w_T L xs (d + 2) m_X12_monthTold 131 [(2, .int (Int32.ofInt (mo1 : Int))), (1, .int (Int32.ofInt (pl : Int))), (0, .ref 100)] [.int (Int32.ofInt (nm : Int)), .int (Int32.ofInt (om : Int)), .ref 135] (p_S (t_S T0 nm om bg nt fo ot pp) pl1 cs sk cl (Int32.ofInt 0) nc sg ov bh op na) R Q
          refine w_iast rfl rfl (by rw [w_nat (by omega)]; omega) (by rw [w_nat (by omega)]; omega) ?_
          refine w_eqS (p_wor (by decide) (w_natn (by omega))) ?_
          refine w_eqS (p_in (t_wfo (by omega))) ?_
          refine w_st rfl (fun _ => rfl) ?_
          show w_T L xs (d + 2) m_X12_monthTold 133 [(2, .int (Int32.ofInt (mo1 : Int))), (1, .int (Int32.ofInt (pl : Int))), (0, .ref 100)] [.ref 100] (p_S (t_S T0 nm om bg nt (upd fo om (Int32.ofInt (nm : Int))) ot pp) pl1 cs sk cl (Int32.ofInt 0) nc sg ov bh op na) R Q
          refine w_getr rfl v_tyM rfl ?_
          refine w_st rfl (fun _ => rfl) ?_
          show w_T L xs (d + 2) m_X12_monthTold 137 [(2, .int (Int32.ofInt (mo1 : Int))), (1, .int (Int32.ofInt (pl : Int))), (0, .ref 100)] [.ref 100, .ref 136] (p_S (t_S T0 nm om bg nt (upd fo om (Int32.ofInt (nm : Int))) ot pp) pl1 cs sk cl (Int32.ofInt 0) nc sg ov bh op na) R Q
          refine w_get rfl v_tyM rfl ?_
          refine w_st rfl (fun _ => rfl) ?_
          show w_T L xs (d + 2) m_X12_monthTold 141 [(2, .int (Int32.ofInt (mo1 : Int))), (1, .int (Int32.ofInt (pl : Int))), (0, .ref 100)] [.int (Int32.ofInt (mo1 : Int)), .int (Int32.ofInt (om : Int)), .ref 136] (p_S (t_S T0 nm om bg nt (upd fo om (Int32.ofInt (nm : Int))) ot pp) pl1 cs sk cl (Int32.ofInt 0) nc sg ov bh op na) R Q
          refine w_iast rfl rfl (by rw [w_nat (by omega)]; omega) (by rw [w_nat (by omega)]; omega) ?_
          refine w_eqS (p_wor (by decide) (w_natn (by omega))) ?_
          refine w_eqS (p_in (t_wot (by omega))) ?_
          refine w_st rfl (fun _ => rfl) ?_
          show w_T L xs (d + 2) m_X12_monthTold 143 [(2, .int (Int32.ofInt (mo1 : Int))), (1, .int (Int32.ofInt (pl : Int))), (0, .ref 100)] [.ref 100] (p_S (t_S T0 nm om bg nt (upd fo om (Int32.ofInt (nm : Int))) (upd ot om (Int32.ofInt (mo1 : Int))) pp) pl1 cs sk cl (Int32.ofInt 0) nc sg ov bh op na) R Q
          refine w_getr rfl v_tyM rfl ?_
          refine w_st rfl (fun _ => rfl) ?_
          show w_T L xs (d + 2) m_X12_monthTold 147 [(2, .int (Int32.ofInt (mo1 : Int))), (1, .int (Int32.ofInt (pl : Int))), (0, .ref 100)] [.ref 100, .ref 137] (p_S (t_S T0 nm om bg nt (upd fo om (Int32.ofInt (nm : Int))) (upd ot om (Int32.ofInt (mo1 : Int))) pp) pl1 cs sk cl (Int32.ofInt 0) nc sg ov bh op na) R Q
          refine w_get rfl v_tyM rfl ?_
          refine w_st rfl (fun _ => rfl) ?_
          show w_T L xs (d + 2) m_X12_monthTold 151 [(2, .int (Int32.ofInt (mo1 : Int))), (1, .int (Int32.ofInt (pl : Int))), (0, .ref 100)] [.int (Int32.ofInt (pl : Int)), .int (Int32.ofInt (om : Int)), .ref 137] (p_S (t_S T0 nm om bg nt (upd fo om (Int32.ofInt (nm : Int))) (upd ot om (Int32.ofInt (mo1 : Int))) pp) pl1 cs sk cl (Int32.ofInt 0) nc sg ov bh op na) R Q
          refine w_iast rfl rfl (by rw [w_nat (by omega)]; omega) (by rw [w_nat (by omega)]; omega) ?_
          refine w_eqS (p_wor (by decide) (w_natn (by omega))) ?_
          refine w_eqS (p_in (t_wpp (by omega))) ?_
          refine w_st rfl (fun _ => rfl) ?_
          refine w_st rfl (fun _ => rfl) ?_
          show w_T L xs (d + 2) m_X12_monthTold 154 [(2, .int (Int32.ofInt (mo1 : Int))), (1, .int (Int32.ofInt (pl : Int))), (0, .ref 100)] [.ref 100, .ref 100] (p_S (t_S T0 nm om bg nt (upd fo om (Int32.ofInt (nm : Int))) (upd ot om (Int32.ofInt (mo1 : Int))) (upd pp om (Int32.ofInt (pl : Int)))) pl1 cs sk cl (Int32.ofInt 0) nc sg ov bh op na) R Q
          refine w_get rfl v_tyM rfl ?_
          refine w_st rfl (fun _ => rfl) ?_
          refine w_st rfl (fun _ => rfl) ?_
          show w_T L xs (d + 2) m_X12_monthTold 159 [(2, .int (Int32.ofInt (mo1 : Int))), (1, .int (Int32.ofInt (pl : Int))), (0, .ref 100)] [.int ((Int32.ofInt (om : Int)) + (Int32.ofInt 1)), .ref 100] (p_S (t_S T0 nm om bg nt (upd fo om (Int32.ofInt (nm : Int))) (upd ot om (Int32.ofInt (mo1 : Int))) (upd pp om (Int32.ofInt (pl : Int)))) pl1 cs sk cl (Int32.ofInt 0) nc sg ov bh op na) R Q
          refine w_put rfl v_tyM rfl rfl rfl ?_
          refine w_eqS (p_wo99 (by decide)) ?_
          refine w_eqS (p_in (t_wom (w_inc _))) ?_
          refine w_st rfl (fun _ => rfl) ?_
          refine w_st rfl (fun _ => rfl) ?_
          show w_T L xs (d + 2) m_X12_monthTold 164 [(2, .int (Int32.ofInt (mo1 : Int))), (1, .int (Int32.ofInt (pl : Int))), (0, .ref 100)] [.int (Int32.ofInt 0), .ref 100] (p_S (t_S T0 nm (om + 1) bg nt (upd fo om (Int32.ofInt (nm : Int))) (upd ot om (Int32.ofInt (mo1 : Int))) (upd pp om (Int32.ofInt (pl : Int)))) pl1 cs sk cl (Int32.ofInt 0) nc sg ov bh op na) R Q
          refine w_put rfl v_tyM rfl rfl rfl ?_
          refine w_eqS (p_wo99 (by decide)) ?_
          refine w_eqS (p_in (t_wbg (b := false) rfl)) ?_
          refine w_st rfl (fun _ => rfl) ?_
          refine w_st rfl (fun _ => rfl) ?_
          show w_T L xs (d + 2) m_X12_monthTold 169 [(2, .int (Int32.ofInt (mo1 : Int))), (1, .int (Int32.ofInt (pl : Int))), (0, .ref 100)] [.ref 100, .ref 100] (p_S (t_S T0 nm (om + 1) false nt (upd fo om (Int32.ofInt (nm : Int))) (upd ot om (Int32.ofInt (mo1 : Int))) (upd pp om (Int32.ofInt (pl : Int)))) pl1 cs sk cl (Int32.ofInt 0) nc sg ov bh op na) R Q
          refine w_get rfl v_tyM rfl ?_
          refine w_st rfl (fun _ => rfl) ?_
          refine w_st rfl (fun _ => rfl) ?_
          show w_T L xs (d + 2) m_X12_monthTold 174 [(2, .int (Int32.ofInt (mo1 : Int))), (1, .int (Int32.ofInt (pl : Int))), (0, .ref 100)] [.int ((Int32.ofInt (pl1 : Int)) + (Int32.ofInt 1)), .ref 100] (p_S (t_S T0 nm (om + 1) false nt (upd fo om (Int32.ofInt (nm : Int))) (upd ot om (Int32.ofInt (mo1 : Int))) (upd pp om (Int32.ofInt (pl : Int)))) pl1 cs sk cl (Int32.ofInt 0) nc sg ov bh op na) R Q
          refine w_put rfl v_tyM rfl rfl rfl ?_
          refine w_eqS (p_wpl (w_inc _)) ?_
          show w_T L xs (d + 2) m_X12_monthTold 177 [(2, .int (Int32.ofInt (mo1 : Int))), (1, .int (Int32.ofInt (pl : Int))), (0, .ref 100)] [] (p_S (t_S T0 nm (om + 1) false nt (upd fo om (Int32.ofInt (nm : Int))) (upd ot om (Int32.ofInt (mo1 : Int))) (upd pp om (Int32.ofInt (pl : Int)))) (pl1 + 1) cs sk cl (Int32.ofInt 0) nc sg ov bh op na) R Q
          refine w_ret rfl rfl ?_
          refine Kg _ _ _ _ _ _ _ _ (by omega) (by omega) ⟨m1, by omega, m3, fun j hj => ?_, fun j hj => ?_⟩
          · by_cases e : j = om
            · rw [e, p_upe, p_upe, w_nat (by omega), w_nat (by omega)]; omega
            · rw [p_upn e, p_upn e]; exact m4 j hj
          · by_cases e : j = om
            · rw [e, p_upe, p_upe, p_upe, w_nat (by omega), w_nat (by omega), w_nat (by omega)]; omega
            · rw [p_upn e, p_upn e, p_upn e]; exact m5 j (by omega)
        · refine w_st rfl (fun _ => rfl) ?_
          refine w_st rfl (fun _ => rfl) ?_
          refine w_st rfl (fun _ => rfl) ?_
          show w_T L xs (d + 2) m_X12_monthTold 105 [(2, .int (Int32.ofInt (mo1 : Int))), (1, .int (Int32.ofInt (pl : Int))), (0, .ref 100)] [.ref 100, .int (Int32.ofInt 5), .ref 100] (p_S (t_S T0 nm om bg nt fo ot pp) pl1 cs sk cl (Int32.ofInt 0) nc sg ov bh op na) R Q
          refine w_get rfl v_tyM rfl ?_
          show w_T L xs (d + 2) m_X12_monthTold 108 [(2, .int (Int32.ofInt (mo1 : Int))), (1, .int (Int32.ofInt (pl : Int))), (0, .ref 100)] [.int (Int32.ofInt (pl1 : Int)), .int (Int32.ofInt 5), .ref 100] (p_S (t_S T0 nm om bg nt fo ot pp) pl1 cs sk cl (Int32.ofInt 0) nc sg ov bh op na) R Q
          refine w_cv rfl (by decide) mt_X12_wrongs v_tyM rfl rfl rfl (Nat.le_of_ble_eq_true rfl) (Nat.le_of_ble_eq_true rfl) (Nat.le_of_ble_eq_true rfl) ?_
          show w_T L xs _ m_X12_wrongs 0 (lv_args 0 [.ref 100, .int (Int32.ofInt 5), .int (Int32.ofInt (pl1 : Int))]) [] (p_S (t_S T0 nm om bg nt fo ot pp) pl1 cs sk cl (Int32.ofInt 0) nc sg ov bh op na) R _
          refine h_wr (by decide) (by decide) (by rw [w_nat (by omega)]; omega) (by rw [w_nat (by omega)]; omega) (fun b108 hb108 => ?_)
          refine w_st rfl (fun _ => rfl) ?_
          show w_T L xs (d + 2) m_X12_monthTold 112 [(2, .int (Int32.ofInt (mo1 : Int))), (1, .int (Int32.ofInt (pl : Int))), (0, .ref 100)] [.ref 100] (p_S (t_S T0 nm om bg nt fo ot pp) pl1 cs sk cl b108 nc sg ov bh op na) R Q
          refine w_cv rfl (by decide) mt_X12_isGood v_tyM rfl rfl rfl (Nat.le_of_ble_eq_true rfl) (Nat.le_of_ble_eq_true rfl) (Nat.le_of_ble_eq_true rfl) ?_
          show w_T L xs _ m_X12_isGood 0 (lv_args 0 [.ref 100]) [] (p_S (t_S T0 nm om bg nt fo ot pp) pl1 cs sk cl b108 nc sg ov bh op na) R _
          refine h_isGF hb108 ?_
          show w_T L xs (d + 2) m_X12_monthTold 115 [(2, .int (Int32.ofInt (mo1 : Int))), (1, .int (Int32.ofInt (pl : Int))), (0, .ref 100)] [.int (Int32.ofInt 0)] (p_S (t_S T0 nm om bg nt fo ot pp) pl1 cs sk cl b108 nc sg ov bh op na) R Q
          refine w_st rfl (fun _ => rfl) ?_
          show w_T L xs (d + 2) m_X12_monthTold 118 [(2, .int (Int32.ofInt (mo1 : Int))), (1, .int (Int32.ofInt (pl : Int))), (0, .ref 100)] [] (p_S (t_S T0 nm om bg nt fo ot pp) pl1 cs sk cl b108 nc sg ov bh op na) R Q
          refine w_ret rfl rfl ?_
          exact Kb _ _ _ _ _ _ _ _ _ hb108 (by omega) ⟨m1, m2, m3, m4, m5⟩
    · have hom : 0 < om := by
        rw [q_le32, z0, eom] at h18
        omega
      have q4 := m4 (om - 1) (by omega)
      have q5 := m5 (om - 1) (by omega)
      refine w_st rfl (fun _ => rfl) ?_
      show w_T L xs (d + 2) m_X12_monthTold 22 [(1, .int (Int32.ofInt (pl : Int))), (0, .ref 100)] [.ref 100] (p_S (t_S T0 nm om bg nt fo ot pp) pl cs sk cl (Int32.ofInt 0) nc sg ov bh op na) R Q
      refine w_get rfl v_tyM rfl ?_
      show w_T L xs (d + 2) m_X12_monthTold 25 [(1, .int (Int32.ofInt (pl : Int))), (0, .ref 100)] [.int (p_b bg)] (p_S (t_S T0 nm om bg nt fo ot pp) pl cs sk cl (Int32.ofInt 0) nc sg ov bh op na) R Q
      refine w_br (P := (p_b bg) = 0) rfl (fun _ => rfl) (fun h25 => ?_) (fun h25 => ?_)
      · refine w_st rfl (fun _ => rfl) ?_
        show w_T L xs (d + 2) m_X12_monthTold 81 [(1, .int (Int32.ofInt (pl : Int))), (0, .ref 100)] [.ref 100] (p_S (t_S T0 nm om bg nt fo ot pp) pl cs sk cl (Int32.ofInt 0) nc sg ov bh op na) R Q
        refine w_cv rfl (by decide) mt_X12_timesTold v_tyM rfl rfl rfl (Nat.le_of_ble_eq_true rfl) (Nat.le_of_ble_eq_true rfl) (Nat.le_of_ble_eq_true rfl) ?_
        show w_T L xs _ m_X12_timesTold 0 (lv_args 0 [.ref 100]) [] (p_S (t_S T0 nm om bg nt fo ot pp) pl cs sk cl (Int32.ofInt 0) nc sg ov bh op na) R _
        refine h_times (by omega) he htp (fun mo1 pl1 y1 y2 y3 y4 => ?_)
        refine w_st rfl (fun _ => rfl) ?_
        refine w_st rfl (fun _ => rfl) ?_
        show w_T L xs (d + 2) m_X12_monthTold 86 [(2, .int (Int32.ofInt (mo1 : Int))), (1, .int (Int32.ofInt (pl : Int))), (0, .ref 100)] [.ref 100] (p_S (t_S T0 nm om bg nt fo ot pp) pl1 cs sk cl (Int32.ofInt 0) nc sg ov bh op na) R Q
        refine w_cv rfl (by decide) mt_X12_here v_tyM rfl rfl rfl (Nat.le_of_ble_eq_true rfl) (Nat.le_of_ble_eq_true rfl) (Nat.le_of_ble_eq_true rfl) ?_
        show w_T L xs _ m_X12_here 0 (lv_args 0 [.ref 100]) [] (p_S (t_S T0 nm om bg nt fo ot pp) pl1 cs sk cl (Int32.ofInt 0) nc sg ov bh op na) R _
        refine h_here (by omega) ?_
        refine w_st rfl (fun _ => rfl) ?_
        show w_T L xs (d + 2) m_X12_monthTold 91 [(2, .int (Int32.ofInt (mo1 : Int))), (1, .int (Int32.ofInt (pl : Int))), (0, .ref 100)] [.int (Int32.ofInt 40), .int (p_h T0 pl1)] (p_S (t_S T0 nm om bg nt fo ot pp) pl1 cs sk cl (Int32.ofInt 0) nc sg ov bh op na) R Q
        refine w_br (P := ¬ (p_h T0 pl1) = (Int32.ofInt 40)) rfl (fun _ => rfl) (fun h91 => ?_) (fun h91 => ?_)
        · refine w_st rfl (fun _ => rfl) ?_
          show w_T L xs (d + 2) m_X12_monthTold 179 [(2, .int (Int32.ofInt (mo1 : Int))), (1, .int (Int32.ofInt (pl : Int))), (0, .ref 100)] [.ref 100] (p_S (t_S T0 nm om bg nt fo ot pp) pl1 cs sk cl (Int32.ofInt 0) nc sg ov bh op na) R Q
          refine w_cv rfl (by decide) mt_X12_here v_tyM rfl rfl rfl (Nat.le_of_ble_eq_true rfl) (Nat.le_of_ble_eq_true rfl) (Nat.le_of_ble_eq_true rfl) ?_
          show w_T L xs _ m_X12_here 0 (lv_args 0 [.ref 100]) [] (p_S (t_S T0 nm om bg nt fo ot pp) pl1 cs sk cl (Int32.ofInt 0) nc sg ov bh op na) R _
          refine h_here (by omega) ?_
          refine w_st rfl (fun _ => rfl) ?_
          show w_T L xs (d + 2) m_X12_monthTold 184 [(2, .int (Int32.ofInt (mo1 : Int))), (1, .int (Int32.ofInt (pl : Int))), (0, .ref 100)] [.int (Int32.ofInt 46), .int (p_h T0 pl1)] (p_S (t_S T0 nm om bg nt fo ot pp) pl1 cs sk cl (Int32.ofInt 0) nc sg ov bh op na) R Q
          refine w_br (P := (p_h T0 pl1) = (Int32.ofInt 46)) rfl (fun _ => rfl) (fun h184 => ?_) (fun h184 => ?_)
          · have hh : p_h T0 pl1 = Int32.ofInt 46 ∨ (65 ≤ (p_h T0 pl1).toInt ∧ (p_h T0 pl1).toInt ≤ 74) := Or.inl h184
            refine w_st rfl (fun _ => rfl) ?_
            show w_T L xs (d + 2) m_X12_monthTold 217 [(2, .int (Int32.ofInt (mo1 : Int))), (1, .int (Int32.ofInt (pl : Int))), (0, .ref 100)] [.ref 100] (p_S (t_S T0 nm om bg nt fo ot pp) pl1 cs sk cl (Int32.ofInt 0) nc sg ov bh op na) R Q
            refine w_get rfl v_tyM rfl ?_
            refine w_st rfl (fun _ => rfl) ?_
            refine w_st rfl (fun _ => rfl) ?_
            refine w_st rfl (fun _ => rfl) ?_
            show w_T L xs (d + 2) m_X12_monthTold 224 [(2, .int (Int32.ofInt (mo1 : Int))), (1, .int (Int32.ofInt (pl : Int))), (0, .ref 100)] [.int (Int32.ofInt 48), .int ((Int32.ofInt (nm : Int)) + (Int32.ofInt (mo1 : Int)))] (p_S (t_S T0 nm om bg nt fo ot pp) pl1 cs sk cl (Int32.ofInt 0) nc sg ov bh op na) R Q
            refine w_br (P := ((Int32.ofInt (nm : Int)) + (Int32.ofInt (mo1 : Int))) ≤ (Int32.ofInt 48)) rfl (fun _ => rfl) (fun h224 => ?_) (fun h224 => ?_)
            · refine w_st rfl (fun _ => rfl) ?_
              show w_T L xs (d + 2) m_X12_monthTold 235 [(2, .int (Int32.ofInt (mo1 : Int))), (1, .int (Int32.ofInt (pl : Int))), (0, .ref 100)] [.ref 100] (p_S (t_S T0 nm om bg nt fo ot pp) pl1 cs sk cl (Int32.ofInt 0) nc sg ov bh op na) R Q
              refine w_cv rfl (by decide) mt_X12_isGood v_tyM rfl rfl rfl (Nat.le_of_ble_eq_true rfl) (Nat.le_of_ble_eq_true rfl) (Nat.le_of_ble_eq_true rfl) ?_
              show w_T L xs _ m_X12_isGood 0 (lv_args 0 [.ref 100]) [] (p_S (t_S T0 nm om bg nt fo ot pp) pl1 cs sk cl (Int32.ofInt 0) nc sg ov bh op na) R _
              refine h_isGT ?_
              show w_T L xs (d + 2) m_X12_monthTold 238 [(2, .int (Int32.ofInt (mo1 : Int))), (1, .int (Int32.ofInt (pl : Int))), (0, .ref 100)] [.int (Int32.ofInt 1)] (p_S (t_S T0 nm om bg nt fo ot pp) pl1 cs sk cl (Int32.ofInt 0) nc sg ov bh op na) R Q
              refine w_st rfl (fun _ => rfl) ?_
              refine w_st rfl (fun _ => rfl) ?_
              refine w_st rfl (fun _ => rfl) ?_
              show w_T L xs (d + 2) m_X12_monthTold 244 [(3, .int (Int32.ofInt 0)), (2, .int (Int32.ofInt (mo1 : Int))), (1, .int (Int32.ofInt (pl : Int))), (0, .ref 100)] [] (p_S (t_S T0 nm om bg nt fo ot pp) pl1 cs sk cl (Int32.ofInt 0) nc sg ov bh op na) R Q
              have h48 : nm + mo1 ≤ 48 := by
                rw [w_addn, q_le32, w_nat (by omega)] at h224
                have e48 : (Int32.ofInt 48).toInt = 48 := by decide
                omega
              have hlt1 := p_h_lt (S0 := T0) (pl := pl1) (fun e => by
                rw [e] at hh
                revert hh
                decide)
              refine h_ml (by omega) h48 hh (fun nt1 x3 => ?_) mo1 0 nt (by omega) m3
              refine w_st rfl (fun _ => rfl) ?_
              refine w_st rfl (fun _ => rfl) ?_
              show w_T L xs (d + 2) m_X12_monthTold 288 [(3, .int (Int32.ofInt (mo1 : Int))), (2, .int (Int32.ofInt (mo1 : Int))), (1, .int (Int32.ofInt (pl : Int))), (0, .ref 100)] [.ref 100, .ref 100] (p_S (t_S T0 nm om bg nt1 fo ot pp) pl1 cs sk cl (Int32.ofInt 0) nc sg ov bh op na) R Q
              refine w_get rfl v_tyM rfl ?_
              refine w_st rfl (fun _ => rfl) ?_
              refine w_st rfl (fun _ => rfl) ?_
              show w_T L xs (d + 2) m_X12_monthTold 293 [(3, .int (Int32.ofInt (mo1 : Int))), (2, .int (Int32.ofInt (mo1 : Int))), (1, .int (Int32.ofInt (pl : Int))), (0, .ref 100)] [.int ((Int32.ofInt (nm : Int)) + (Int32.ofInt (mo1 : Int))), .ref 100] (p_S (t_S T0 nm om bg nt1 fo ot pp) pl1 cs sk cl (Int32.ofInt 0) nc sg ov bh op na) R Q
              refine w_put rfl v_tyM rfl rfl rfl ?_
              refine w_eqS (p_wo99 (by decide)) ?_
              refine w_eqS (p_in (t_wnm (w_addn _ _))) ?_
              refine w_st rfl (fun _ => rfl) ?_
              refine w_st rfl (fun _ => rfl) ?_
              show w_T L xs (d + 2) m_X12_monthTold 298 [(3, .int (Int32.ofInt (mo1 : Int))), (2, .int (Int32.ofInt (mo1 : Int))), (1, .int (Int32.ofInt (pl : Int))), (0, .ref 100)] [.int (Int32.ofInt 1), .ref 100] (p_S (t_S T0 (nm + mo1) om bg nt1 fo ot pp) pl1 cs sk cl (Int32.ofInt 0) nc sg ov bh op na) R Q
              refine w_put rfl v_tyM rfl rfl rfl ?_
              refine w_eqS (p_wo99 (by decide)) ?_
              refine w_eqS (p_in (t_wbg (b := true) rfl)) ?_
              refine w_st rfl (fun _ => rfl) ?_
              refine w_st rfl (fun _ => rfl) ?_
              show w_T L xs (d + 2) m_X12_monthTold 303 [(3, .int (Int32.ofInt (mo1 : Int))), (2, .int (Int32.ofInt (mo1 : Int))), (1, .int (Int32.ofInt (pl : Int))), (0, .ref 100)] [.ref 100, .ref 100] (p_S (t_S T0 (nm + mo1) om true nt1 fo ot pp) pl1 cs sk cl (Int32.ofInt 0) nc sg ov bh op na) R Q
              refine w_get rfl v_tyM rfl ?_
              refine w_st rfl (fun _ => rfl) ?_
              refine w_st rfl (fun _ => rfl) ?_
              show w_T L xs (d + 2) m_X12_monthTold 308 [(3, .int (Int32.ofInt (mo1 : Int))), (2, .int (Int32.ofInt (mo1 : Int))), (1, .int (Int32.ofInt (pl : Int))), (0, .ref 100)] [.int ((Int32.ofInt (pl1 : Int)) + (Int32.ofInt 1)), .ref 100] (p_S (t_S T0 (nm + mo1) om true nt1 fo ot pp) pl1 cs sk cl (Int32.ofInt 0) nc sg ov bh op na) R Q
              refine w_put rfl v_tyM rfl rfl rfl ?_
              refine w_eqS (p_wpl (w_inc _)) ?_
              show w_T L xs (d + 2) m_X12_monthTold 311 [(3, .int (Int32.ofInt (mo1 : Int))), (2, .int (Int32.ofInt (mo1 : Int))), (1, .int (Int32.ofInt (pl : Int))), (0, .ref 100)] [] (p_S (t_S T0 (nm + mo1) om true nt1 fo ot pp) (pl1 + 1) cs sk cl (Int32.ofInt 0) nc sg ov bh op na) R Q
              refine w_ret rfl rfl ?_
              exact Kg _ _ _ _ _ _ _ _ (by omega) (by omega) ⟨by omega, m2, x3, m4, fun j hj => by have := m5 j hj; omega⟩
            · refine w_st rfl (fun _ => rfl) ?_
              refine w_st rfl (fun _ => rfl) ?_
              refine w_st rfl (fun _ => rfl) ?_
              show w_T L xs (d + 2) m_X12_monthTold 231 [(2, .int (Int32.ofInt (mo1 : Int))), (1, .int (Int32.ofInt (pl : Int))), (0, .ref 100)] [.int (Int32.ofInt (pl : Int)), .int (Int32.ofInt 6), .ref 100] (p_S (t_S T0 nm om bg nt fo ot pp) pl1 cs sk cl (Int32.ofInt 0) nc sg ov bh op na) R Q
              refine w_cv rfl (by decide) mt_X12_wrongs v_tyM rfl rfl rfl (Nat.le_of_ble_eq_true rfl) (Nat.le_of_ble_eq_true rfl) (Nat.le_of_ble_eq_true rfl) ?_
              show w_T L xs _ m_X12_wrongs 0 (lv_args 0 [.ref 100, .int (Int32.ofInt 6), .int (Int32.ofInt (pl : Int))]) [] (p_S (t_S T0 nm om bg nt fo ot pp) pl1 cs sk cl (Int32.ofInt 0) nc sg ov bh op na) R _
              refine h_wr (by decide) (by decide) (by rw [w_nat (by omega)]; omega) (by rw [w_nat (by omega)]; omega) (fun b231 hb231 => ?_)
              refine w_st rfl (fun _ => rfl) ?_
              show w_T L xs (d + 2) m_X12_monthTold 235 [(2, .int (Int32.ofInt (mo1 : Int))), (1, .int (Int32.ofInt (pl : Int))), (0, .ref 100)] [.ref 100] (p_S (t_S T0 nm om bg nt fo ot pp) pl1 cs sk cl b231 nc sg ov bh op na) R Q
              refine w_cv rfl (by decide) mt_X12_isGood v_tyM rfl rfl rfl (Nat.le_of_ble_eq_true rfl) (Nat.le_of_ble_eq_true rfl) (Nat.le_of_ble_eq_true rfl) ?_
              show w_T L xs _ m_X12_isGood 0 (lv_args 0 [.ref 100]) [] (p_S (t_S T0 nm om bg nt fo ot pp) pl1 cs sk cl b231 nc sg ov bh op na) R _
              refine h_isGF hb231 ?_
              show w_T L xs (d + 2) m_X12_monthTold 238 [(2, .int (Int32.ofInt (mo1 : Int))), (1, .int (Int32.ofInt (pl : Int))), (0, .ref 100)] [.int (Int32.ofInt 0)] (p_S (t_S T0 nm om bg nt fo ot pp) pl1 cs sk cl b231 nc sg ov bh op na) R Q
              refine w_st rfl (fun _ => rfl) ?_
              show w_T L xs (d + 2) m_X12_monthTold 241 [(2, .int (Int32.ofInt (mo1 : Int))), (1, .int (Int32.ofInt (pl : Int))), (0, .ref 100)] [] (p_S (t_S T0 nm om bg nt fo ot pp) pl1 cs sk cl b231 nc sg ov bh op na) R Q
              refine w_ret rfl rfl ?_
              exact Kb _ _ _ _ _ _ _ _ _ hb231 (by omega) ⟨m1, m2, m3, m4, m5⟩
          · refine w_st rfl (fun _ => rfl) ?_
            show w_T L xs (d + 2) m_X12_monthTold 188 [(2, .int (Int32.ofInt (mo1 : Int))), (1, .int (Int32.ofInt (pl : Int))), (0, .ref 100)] [.ref 100] (p_S (t_S T0 nm om bg nt fo ot pp) pl1 cs sk cl (Int32.ofInt 0) nc sg ov bh op na) R Q
            refine w_cv rfl (by decide) mt_X12_here v_tyM rfl rfl rfl (Nat.le_of_ble_eq_true rfl) (Nat.le_of_ble_eq_true rfl) (Nat.le_of_ble_eq_true rfl) ?_
            show w_T L xs _ m_X12_here 0 (lv_args 0 [.ref 100]) [] (p_S (t_S T0 nm om bg nt fo ot pp) pl1 cs sk cl (Int32.ofInt 0) nc sg ov bh op na) R _
            refine h_here (by omega) ?_
            refine w_st rfl (fun _ => rfl) ?_
            refine w_st rfl (fun _ => rfl) ?_
            refine w_st rfl (fun _ => rfl) ?_
            show w_T L xs (d + 2) m_X12_monthTold 198 [(2, .int (Int32.ofInt (mo1 : Int))), (1, .int (Int32.ofInt (pl : Int))), (0, .ref 100)] [.long (Int64.ofInt 74), .long (Int64.ofInt 65), .long ((p_h T0 pl1).toInt64)] (p_S (t_S T0 nm om bg nt fo ot pp) pl1 cs sk cl (Int32.ofInt 0) nc sg ov bh op na) R Q
            refine w_cs rfl (by decide) mt_X12_lies (fun _ => rfl) (Nat.le_of_ble_eq_true rfl) (Nat.le_of_ble_eq_true rfl) ?_
            show w_T L xs _ m_X12_lies 0 (lv_args 0 [.long ((p_h T0 pl1).toInt64), .long (Int64.ofInt 65), .long (Int64.ofInt 74)]) [] (p_S (t_S T0 nm om bg nt fo ot pp) pl1 cs sk cl (Int32.ofInt 0) nc sg ov bh op na) R _
            refine h_lies _ _ _ ?_
            rw [e65, e74, Int32.toInt_toInt64]
            by_cases hd : 65 ≤ (p_h T0 pl1).toInt ∧ (p_h T0 pl1).toInt ≤ 74
            · rw [if_pos hd]
              have hh : p_h T0 pl1 = Int32.ofInt 46 ∨ (65 ≤ (p_h T0 pl1).toInt ∧ (p_h T0 pl1).toInt ≤ 74) := Or.inr hd
              show w_T L xs (d + 2) m_X12_monthTold 201 [(2, .int (Int32.ofInt (mo1 : Int))), (1, .int (Int32.ofInt (pl : Int))), (0, .ref 100)] [.int (Int32.ofInt 1)] (p_S (t_S T0 nm om bg nt fo ot pp) pl1 cs sk cl (Int32.ofInt 0) nc sg ov bh op na) R Q
              refine w_st rfl (fun _ => rfl) ?_
              refine w_st rfl (fun _ => rfl) ?_
              show w_T L xs (d + 2) m_X12_monthTold 217 [(2, .int (Int32.ofInt (mo1 : Int))), (1, .int (Int32.ofInt (pl : Int))), (0, .ref 100)] [.ref 100] (p_S (t_S T0 nm om bg nt fo ot pp) pl1 cs sk cl (Int32.ofInt 0) nc sg ov bh op na) R Q
              refine w_get rfl v_tyM rfl ?_
              refine w_st rfl (fun _ => rfl) ?_
              refine w_st rfl (fun _ => rfl) ?_
              refine w_st rfl (fun _ => rfl) ?_
              show w_T L xs (d + 2) m_X12_monthTold 224 [(2, .int (Int32.ofInt (mo1 : Int))), (1, .int (Int32.ofInt (pl : Int))), (0, .ref 100)] [.int (Int32.ofInt 48), .int ((Int32.ofInt (nm : Int)) + (Int32.ofInt (mo1 : Int)))] (p_S (t_S T0 nm om bg nt fo ot pp) pl1 cs sk cl (Int32.ofInt 0) nc sg ov bh op na) R Q
              refine w_br (P := ((Int32.ofInt (nm : Int)) + (Int32.ofInt (mo1 : Int))) ≤ (Int32.ofInt 48)) rfl (fun _ => rfl) (fun h224 => ?_) (fun h224 => ?_)
              · refine w_st rfl (fun _ => rfl) ?_
                show w_T L xs (d + 2) m_X12_monthTold 235 [(2, .int (Int32.ofInt (mo1 : Int))), (1, .int (Int32.ofInt (pl : Int))), (0, .ref 100)] [.ref 100] (p_S (t_S T0 nm om bg nt fo ot pp) pl1 cs sk cl (Int32.ofInt 0) nc sg ov bh op na) R Q
                refine w_cv rfl (by decide) mt_X12_isGood v_tyM rfl rfl rfl (Nat.le_of_ble_eq_true rfl) (Nat.le_of_ble_eq_true rfl) (Nat.le_of_ble_eq_true rfl) ?_
                show w_T L xs _ m_X12_isGood 0 (lv_args 0 [.ref 100]) [] (p_S (t_S T0 nm om bg nt fo ot pp) pl1 cs sk cl (Int32.ofInt 0) nc sg ov bh op na) R _
                refine h_isGT ?_
                show w_T L xs (d + 2) m_X12_monthTold 238 [(2, .int (Int32.ofInt (mo1 : Int))), (1, .int (Int32.ofInt (pl : Int))), (0, .ref 100)] [.int (Int32.ofInt 1)] (p_S (t_S T0 nm om bg nt fo ot pp) pl1 cs sk cl (Int32.ofInt 0) nc sg ov bh op na) R Q
                refine w_st rfl (fun _ => rfl) ?_
                refine w_st rfl (fun _ => rfl) ?_
                refine w_st rfl (fun _ => rfl) ?_
                show w_T L xs (d + 2) m_X12_monthTold 244 [(3, .int (Int32.ofInt 0)), (2, .int (Int32.ofInt (mo1 : Int))), (1, .int (Int32.ofInt (pl : Int))), (0, .ref 100)] [] (p_S (t_S T0 nm om bg nt fo ot pp) pl1 cs sk cl (Int32.ofInt 0) nc sg ov bh op na) R Q
                have h48 : nm + mo1 ≤ 48 := by
                  rw [w_addn, q_le32, w_nat (by omega)] at h224
                  have e48 : (Int32.ofInt 48).toInt = 48 := by decide
                  omega
                have hlt1 := p_h_lt (S0 := T0) (pl := pl1) (fun e => by
                  rw [e] at hh
                  revert hh
                  decide)
                refine h_ml (by omega) h48 hh (fun nt1 x3 => ?_) mo1 0 nt (by omega) m3
                refine w_st rfl (fun _ => rfl) ?_
                refine w_st rfl (fun _ => rfl) ?_
                show w_T L xs (d + 2) m_X12_monthTold 288 [(3, .int (Int32.ofInt (mo1 : Int))), (2, .int (Int32.ofInt (mo1 : Int))), (1, .int (Int32.ofInt (pl : Int))), (0, .ref 100)] [.ref 100, .ref 100] (p_S (t_S T0 nm om bg nt1 fo ot pp) pl1 cs sk cl (Int32.ofInt 0) nc sg ov bh op na) R Q
                refine w_get rfl v_tyM rfl ?_
                refine w_st rfl (fun _ => rfl) ?_
                refine w_st rfl (fun _ => rfl) ?_
                show w_T L xs (d + 2) m_X12_monthTold 293 [(3, .int (Int32.ofInt (mo1 : Int))), (2, .int (Int32.ofInt (mo1 : Int))), (1, .int (Int32.ofInt (pl : Int))), (0, .ref 100)] [.int ((Int32.ofInt (nm : Int)) + (Int32.ofInt (mo1 : Int))), .ref 100] (p_S (t_S T0 nm om bg nt1 fo ot pp) pl1 cs sk cl (Int32.ofInt 0) nc sg ov bh op na) R Q
                refine w_put rfl v_tyM rfl rfl rfl ?_
                refine w_eqS (p_wo99 (by decide)) ?_
                refine w_eqS (p_in (t_wnm (w_addn _ _))) ?_
                refine w_st rfl (fun _ => rfl) ?_
                refine w_st rfl (fun _ => rfl) ?_
                show w_T L xs (d + 2) m_X12_monthTold 298 [(3, .int (Int32.ofInt (mo1 : Int))), (2, .int (Int32.ofInt (mo1 : Int))), (1, .int (Int32.ofInt (pl : Int))), (0, .ref 100)] [.int (Int32.ofInt 1), .ref 100] (p_S (t_S T0 (nm + mo1) om bg nt1 fo ot pp) pl1 cs sk cl (Int32.ofInt 0) nc sg ov bh op na) R Q
                refine w_put rfl v_tyM rfl rfl rfl ?_
                refine w_eqS (p_wo99 (by decide)) ?_
                refine w_eqS (p_in (t_wbg (b := true) rfl)) ?_
                refine w_st rfl (fun _ => rfl) ?_
                refine w_st rfl (fun _ => rfl) ?_
                show w_T L xs (d + 2) m_X12_monthTold 303 [(3, .int (Int32.ofInt (mo1 : Int))), (2, .int (Int32.ofInt (mo1 : Int))), (1, .int (Int32.ofInt (pl : Int))), (0, .ref 100)] [.ref 100, .ref 100] (p_S (t_S T0 (nm + mo1) om true nt1 fo ot pp) pl1 cs sk cl (Int32.ofInt 0) nc sg ov bh op na) R Q
                refine w_get rfl v_tyM rfl ?_
                refine w_st rfl (fun _ => rfl) ?_
                refine w_st rfl (fun _ => rfl) ?_
                show w_T L xs (d + 2) m_X12_monthTold 308 [(3, .int (Int32.ofInt (mo1 : Int))), (2, .int (Int32.ofInt (mo1 : Int))), (1, .int (Int32.ofInt (pl : Int))), (0, .ref 100)] [.int ((Int32.ofInt (pl1 : Int)) + (Int32.ofInt 1)), .ref 100] (p_S (t_S T0 (nm + mo1) om true nt1 fo ot pp) pl1 cs sk cl (Int32.ofInt 0) nc sg ov bh op na) R Q
                refine w_put rfl v_tyM rfl rfl rfl ?_
                refine w_eqS (p_wpl (w_inc _)) ?_
                show w_T L xs (d + 2) m_X12_monthTold 311 [(3, .int (Int32.ofInt (mo1 : Int))), (2, .int (Int32.ofInt (mo1 : Int))), (1, .int (Int32.ofInt (pl : Int))), (0, .ref 100)] [] (p_S (t_S T0 (nm + mo1) om true nt1 fo ot pp) (pl1 + 1) cs sk cl (Int32.ofInt 0) nc sg ov bh op na) R Q
                refine w_ret rfl rfl ?_
                exact Kg _ _ _ _ _ _ _ _ (by omega) (by omega) ⟨by omega, m2, x3, m4, fun j hj => by have := m5 j hj; omega⟩
              · refine w_st rfl (fun _ => rfl) ?_
                refine w_st rfl (fun _ => rfl) ?_
                refine w_st rfl (fun _ => rfl) ?_
                show w_T L xs (d + 2) m_X12_monthTold 231 [(2, .int (Int32.ofInt (mo1 : Int))), (1, .int (Int32.ofInt (pl : Int))), (0, .ref 100)] [.int (Int32.ofInt (pl : Int)), .int (Int32.ofInt 6), .ref 100] (p_S (t_S T0 nm om bg nt fo ot pp) pl1 cs sk cl (Int32.ofInt 0) nc sg ov bh op na) R Q
                refine w_cv rfl (by decide) mt_X12_wrongs v_tyM rfl rfl rfl (Nat.le_of_ble_eq_true rfl) (Nat.le_of_ble_eq_true rfl) (Nat.le_of_ble_eq_true rfl) ?_
                show w_T L xs _ m_X12_wrongs 0 (lv_args 0 [.ref 100, .int (Int32.ofInt 6), .int (Int32.ofInt (pl : Int))]) [] (p_S (t_S T0 nm om bg nt fo ot pp) pl1 cs sk cl (Int32.ofInt 0) nc sg ov bh op na) R _
                refine h_wr (by decide) (by decide) (by rw [w_nat (by omega)]; omega) (by rw [w_nat (by omega)]; omega) (fun b231 hb231 => ?_)
                refine w_st rfl (fun _ => rfl) ?_
                show w_T L xs (d + 2) m_X12_monthTold 235 [(2, .int (Int32.ofInt (mo1 : Int))), (1, .int (Int32.ofInt (pl : Int))), (0, .ref 100)] [.ref 100] (p_S (t_S T0 nm om bg nt fo ot pp) pl1 cs sk cl b231 nc sg ov bh op na) R Q
                refine w_cv rfl (by decide) mt_X12_isGood v_tyM rfl rfl rfl (Nat.le_of_ble_eq_true rfl) (Nat.le_of_ble_eq_true rfl) (Nat.le_of_ble_eq_true rfl) ?_
                show w_T L xs _ m_X12_isGood 0 (lv_args 0 [.ref 100]) [] (p_S (t_S T0 nm om bg nt fo ot pp) pl1 cs sk cl b231 nc sg ov bh op na) R _
                refine h_isGF hb231 ?_
                show w_T L xs (d + 2) m_X12_monthTold 238 [(2, .int (Int32.ofInt (mo1 : Int))), (1, .int (Int32.ofInt (pl : Int))), (0, .ref 100)] [.int (Int32.ofInt 0)] (p_S (t_S T0 nm om bg nt fo ot pp) pl1 cs sk cl b231 nc sg ov bh op na) R Q
                refine w_st rfl (fun _ => rfl) ?_
                show w_T L xs (d + 2) m_X12_monthTold 241 [(2, .int (Int32.ofInt (mo1 : Int))), (1, .int (Int32.ofInt (pl : Int))), (0, .ref 100)] [] (p_S (t_S T0 nm om bg nt fo ot pp) pl1 cs sk cl b231 nc sg ov bh op na) R Q
                refine w_ret rfl rfl ?_
                exact Kb _ _ _ _ _ _ _ _ _ hb231 (by omega) ⟨m1, m2, m3, m4, m5⟩
            · rw [if_neg hd]
              show w_T L xs (d + 2) m_X12_monthTold 201 [(2, .int (Int32.ofInt (mo1 : Int))), (1, .int (Int32.ofInt (pl : Int))), (0, .ref 100)] [.int (Int32.ofInt 0)] (p_S (t_S T0 nm om bg nt fo ot pp) pl1 cs sk cl (Int32.ofInt 0) nc sg ov bh op na) R Q
              refine w_st rfl (fun _ => rfl) ?_
              refine w_st rfl (fun _ => rfl) ?_
              refine w_st rfl (fun _ => rfl) ?_
              refine w_st rfl (fun _ => rfl) ?_
              show w_T L xs (d + 2) m_X12_monthTold 207 [(2, .int (Int32.ofInt (mo1 : Int))), (1, .int (Int32.ofInt (pl : Int))), (0, .ref 100)] [.ref 100, .int (Int32.ofInt 1), .ref 100] (p_S (t_S T0 nm om bg nt fo ot pp) pl1 cs sk cl (Int32.ofInt 0) nc sg ov bh op na) R Q
              refine w_get rfl v_tyM rfl ?_
              show w_T L xs (d + 2) m_X12_monthTold 210 [(2, .int (Int32.ofInt (mo1 : Int))), (1, .int (Int32.ofInt (pl : Int))), (0, .ref 100)] [.int (Int32.ofInt (pl1 : Int)), .int (Int32.ofInt 1), .ref 100] (p_S (t_S T0 nm om bg nt fo ot pp) pl1 cs sk cl (Int32.ofInt 0) nc sg ov bh op na) R Q
              refine w_cv rfl (by decide) mt_X12_wrongs v_tyM rfl rfl rfl (Nat.le_of_ble_eq_true rfl) (Nat.le_of_ble_eq_true rfl) (Nat.le_of_ble_eq_true rfl) ?_
              show w_T L xs _ m_X12_wrongs 0 (lv_args 0 [.ref 100, .int (Int32.ofInt 1), .int (Int32.ofInt (pl1 : Int))]) [] (p_S (t_S T0 nm om bg nt fo ot pp) pl1 cs sk cl (Int32.ofInt 0) nc sg ov bh op na) R _
              refine h_wr (by decide) (by decide) (by rw [w_nat (by omega)]; omega) (by rw [w_nat (by omega)]; omega) (fun b210 hb210 => ?_)
              refine w_st rfl (fun _ => rfl) ?_
              refine w_st rfl (fun _ => rfl) ?_
              show w_T L xs (d + 2) m_X12_monthTold 235 [(2, .int (Int32.ofInt (mo1 : Int))), (1, .int (Int32.ofInt (pl : Int))), (0, .ref 100)] [.ref 100] (p_S (t_S T0 nm om bg nt fo ot pp) pl1 cs sk cl b210 nc sg ov bh op na) R Q
              refine w_cv rfl (by decide) mt_X12_isGood v_tyM rfl rfl rfl (Nat.le_of_ble_eq_true rfl) (Nat.le_of_ble_eq_true rfl) (Nat.le_of_ble_eq_true rfl) ?_
              show w_T L xs _ m_X12_isGood 0 (lv_args 0 [.ref 100]) [] (p_S (t_S T0 nm om bg nt fo ot pp) pl1 cs sk cl b210 nc sg ov bh op na) R _
              refine h_isGF hb210 ?_
              show w_T L xs (d + 2) m_X12_monthTold 238 [(2, .int (Int32.ofInt (mo1 : Int))), (1, .int (Int32.ofInt (pl : Int))), (0, .ref 100)] [.int (Int32.ofInt 0)] (p_S (t_S T0 nm om bg nt fo ot pp) pl1 cs sk cl b210 nc sg ov bh op na) R Q
              refine w_st rfl (fun _ => rfl) ?_
              show w_T L xs (d + 2) m_X12_monthTold 241 [(2, .int (Int32.ofInt (mo1 : Int))), (1, .int (Int32.ofInt (pl : Int))), (0, .ref 100)] [] (p_S (t_S T0 nm om bg nt fo ot pp) pl1 cs sk cl b210 nc sg ov bh op na) R Q
              refine w_ret rfl rfl ?_
              exact Kb _ _ _ _ _ _ _ _ _ hb210 (by omega) ⟨m1, m2, m3, m4, m5⟩
        · have e91 := Decidable.of_not_not h91
          have hlt1 := p_h_lt (S0 := T0) (pl := pl1) (by rw [e91]; decide)
          refine w_st rfl (fun _ => rfl) ?_
          show w_T L xs (d + 2) m_X12_monthTold 95 [(2, .int (Int32.ofInt (mo1 : Int))), (1, .int (Int32.ofInt (pl : Int))), (0, .ref 100)] [.ref 100] (p_S (t_S T0 nm om bg nt fo ot pp) pl1 cs sk cl (Int32.ofInt 0) nc sg ov bh op na) R Q
          refine w_get rfl v_tyM rfl ?_
          refine w_st rfl (fun _ => rfl) ?_
          show w_T L xs (d + 2) m_X12_monthTold 99 [(2, .int (Int32.ofInt (mo1 : Int))), (1, .int (Int32.ofInt (pl : Int))), (0, .ref 100)] [.int (Int32.ofInt 2), .int (Int32.ofInt (om : Int))] (p_S (t_S T0 nm om bg nt fo ot pp) pl1 cs sk cl (Int32.ofInt 0) nc sg ov bh op na) R Q
          refine w_br (P := ¬ (Int32.ofInt (om : Int)) = (Int32.ofInt 2)) rfl (fun _ => rfl) (fun h99 => ?_) (fun h99 => ?_)
          · have hom2 : om < 2 := Nat.lt_of_le_of_ne m2 (fun e => h99 (by rw [e]; rfl))
            refine w_st rfl (fun _ => rfl) ?_
            show w_T L xs (d + 2) m_X12_monthTold 112 [(2, .int (Int32.ofInt (mo1 : Int))), (1, .int (Int32.ofInt (pl : Int))), (0, .ref 100)] [.ref 100] (p_S (t_S T0 nm om bg nt fo ot pp) pl1 cs sk cl (Int32.ofInt 0) nc sg ov bh op na) R Q
            refine w_cv rfl (by decide) mt_X12_isGood v_tyM rfl rfl rfl (Nat.le_of_ble_eq_true rfl) (Nat.le_of_ble_eq_true rfl) (Nat.le_of_ble_eq_true rfl) ?_
            show w_T L xs _ m_X12_isGood 0 (lv_args 0 [.ref 100]) [] (p_S (t_S T0 nm om bg nt fo ot pp) pl1 cs sk cl (Int32.ofInt 0) nc sg ov bh op na) R _
            refine h_isGT ?_
            show w_T L xs (d + 2) m_X12_monthTold 115 [(2, .int (Int32.ofInt (mo1 : Int))), (1, .int (Int32.ofInt (pl : Int))), (0, .ref 100)] [.int (Int32.ofInt 1)] (p_S (t_S T0 nm om bg nt fo ot pp) pl1 cs sk cl (Int32.ofInt 0) nc sg ov bh op na) R Q
            refine w_st rfl (fun _ => rfl) ?_
            refine w_st rfl (fun _ => rfl) ?_
            show w_T L xs (d + 2) m_X12_monthTold 120 [(2, .int (Int32.ofInt (mo1 : Int))), (1, .int (Int32.ofInt (pl : Int))), (0, .ref 100)] [.ref 100] (p_S (t_S T0 nm om bg nt fo ot pp) pl1 cs sk cl (Int32.ofInt 0) nc sg ov bh op na) R Q
            refine w_getr rfl v_tyM rfl ?_
            refine w_st rfl (fun _ => rfl) ?_
            show w_T L xs (d + 2) m_X12_monthTold 124 [(2, .int (Int32.ofInt (mo1 : Int))), (1, .int (Int32.ofInt (pl : Int))), (0, .ref 100)] [.ref 100, .ref 135] (p_S (t_S T0 nm om bg nt fo ot pp) pl1 cs sk cl (Int32.ofInt 0) nc sg ov bh op na) R Q
            refine w_get rfl v_tyM rfl ?_
            refine w_st rfl (fun _ => rfl) ?_
            show w_T L xs (d + 2) m_X12_monthTold 128 [(2, .int (Int32.ofInt (mo1 : Int))), (1, .int (Int32.ofInt (pl : Int))), (0, .ref 100)] [.ref 100, .int (Int32.ofInt (om : Int)), .ref 135] (p_S (t_S T0 nm om bg nt fo ot pp) pl1 cs sk cl (Int32.ofInt 0) nc sg ov bh op na) R Q
            refine w_get rfl v_tyM rfl ?_
            show w_T L xs (d + 2) m_X12_monthTold 131 [(2, .int (Int32.ofInt (mo1 : Int))), (1, .int (Int32.ofInt (pl : Int))), (0, .ref 100)] [.int (Int32.ofInt (nm : Int)), .int (Int32.ofInt (om : Int)), .ref 135] (p_S (t_S T0 nm om bg nt fo ot pp) pl1 cs sk cl (Int32.ofInt 0) nc sg ov bh op na) R Q
            refine w_iast rfl rfl (by rw [w_nat (by omega)]; omega) (by rw [w_nat (by omega)]; omega) ?_
            refine w_eqS (p_wor (by decide) (w_natn (by omega))) ?_
            refine w_eqS (p_in (t_wfo (by omega))) ?_
            refine w_st rfl (fun _ => rfl) ?_
            show w_T L xs (d + 2) m_X12_monthTold 133 [(2, .int (Int32.ofInt (mo1 : Int))), (1, .int (Int32.ofInt (pl : Int))), (0, .ref 100)] [.ref 100] (p_S (t_S T0 nm om bg nt (upd fo om (Int32.ofInt (nm : Int))) ot pp) pl1 cs sk cl (Int32.ofInt 0) nc sg ov bh op na) R Q
            refine w_getr rfl v_tyM rfl ?_
            refine w_st rfl (fun _ => rfl) ?_
            show w_T L xs (d + 2) m_X12_monthTold 137 [(2, .int (Int32.ofInt (mo1 : Int))), (1, .int (Int32.ofInt (pl : Int))), (0, .ref 100)] [.ref 100, .ref 136] (p_S (t_S T0 nm om bg nt (upd fo om (Int32.ofInt (nm : Int))) ot pp) pl1 cs sk cl (Int32.ofInt 0) nc sg ov bh op na) R Q
            refine w_get rfl v_tyM rfl ?_
            refine w_st rfl (fun _ => rfl) ?_
            show w_T L xs (d + 2) m_X12_monthTold 141 [(2, .int (Int32.ofInt (mo1 : Int))), (1, .int (Int32.ofInt (pl : Int))), (0, .ref 100)] [.int (Int32.ofInt (mo1 : Int)), .int (Int32.ofInt (om : Int)), .ref 136] (p_S (t_S T0 nm om bg nt (upd fo om (Int32.ofInt (nm : Int))) ot pp) pl1 cs sk cl (Int32.ofInt 0) nc sg ov bh op na) R Q
            refine w_iast rfl rfl (by rw [w_nat (by omega)]; omega) (by rw [w_nat (by omega)]; omega) ?_
            refine w_eqS (p_wor (by decide) (w_natn (by omega))) ?_
            refine w_eqS (p_in (t_wot (by omega))) ?_
            refine w_st rfl (fun _ => rfl) ?_
            show w_T L xs (d + 2) m_X12_monthTold 143 [(2, .int (Int32.ofInt (mo1 : Int))), (1, .int (Int32.ofInt (pl : Int))), (0, .ref 100)] [.ref 100] (p_S (t_S T0 nm om bg nt (upd fo om (Int32.ofInt (nm : Int))) (upd ot om (Int32.ofInt (mo1 : Int))) pp) pl1 cs sk cl (Int32.ofInt 0) nc sg ov bh op na) R Q
            refine w_getr rfl v_tyM rfl ?_
            refine w_st rfl (fun _ => rfl) ?_
            show w_T L xs (d + 2) m_X12_monthTold 147 [(2, .int (Int32.ofInt (mo1 : Int))), (1, .int (Int32.ofInt (pl : Int))), (0, .ref 100)] [.ref 100, .ref 137] (p_S (t_S T0 nm om bg nt (upd fo om (Int32.ofInt (nm : Int))) (upd ot om (Int32.ofInt (mo1 : Int))) pp) pl1 cs sk cl (Int32.ofInt 0) nc sg ov bh op na) R Q
            refine w_get rfl v_tyM rfl ?_
            refine w_st rfl (fun _ => rfl) ?_
            show w_T L xs (d + 2) m_X12_monthTold 151 [(2, .int (Int32.ofInt (mo1 : Int))), (1, .int (Int32.ofInt (pl : Int))), (0, .ref 100)] [.int (Int32.ofInt (pl : Int)), .int (Int32.ofInt (om : Int)), .ref 137] (p_S (t_S T0 nm om bg nt (upd fo om (Int32.ofInt (nm : Int))) (upd ot om (Int32.ofInt (mo1 : Int))) pp) pl1 cs sk cl (Int32.ofInt 0) nc sg ov bh op na) R Q
            refine w_iast rfl rfl (by rw [w_nat (by omega)]; omega) (by rw [w_nat (by omega)]; omega) ?_
            refine w_eqS (p_wor (by decide) (w_natn (by omega))) ?_
            refine w_eqS (p_in (t_wpp (by omega))) ?_
            refine w_st rfl (fun _ => rfl) ?_
            refine w_st rfl (fun _ => rfl) ?_
            show w_T L xs (d + 2) m_X12_monthTold 154 [(2, .int (Int32.ofInt (mo1 : Int))), (1, .int (Int32.ofInt (pl : Int))), (0, .ref 100)] [.ref 100, .ref 100] (p_S (t_S T0 nm om bg nt (upd fo om (Int32.ofInt (nm : Int))) (upd ot om (Int32.ofInt (mo1 : Int))) (upd pp om (Int32.ofInt (pl : Int)))) pl1 cs sk cl (Int32.ofInt 0) nc sg ov bh op na) R Q
            refine w_get rfl v_tyM rfl ?_
            refine w_st rfl (fun _ => rfl) ?_
            refine w_st rfl (fun _ => rfl) ?_
            show w_T L xs (d + 2) m_X12_monthTold 159 [(2, .int (Int32.ofInt (mo1 : Int))), (1, .int (Int32.ofInt (pl : Int))), (0, .ref 100)] [.int ((Int32.ofInt (om : Int)) + (Int32.ofInt 1)), .ref 100] (p_S (t_S T0 nm om bg nt (upd fo om (Int32.ofInt (nm : Int))) (upd ot om (Int32.ofInt (mo1 : Int))) (upd pp om (Int32.ofInt (pl : Int)))) pl1 cs sk cl (Int32.ofInt 0) nc sg ov bh op na) R Q
            refine w_put rfl v_tyM rfl rfl rfl ?_
            refine w_eqS (p_wo99 (by decide)) ?_
            refine w_eqS (p_in (t_wom (w_inc _))) ?_
            refine w_st rfl (fun _ => rfl) ?_
            refine w_st rfl (fun _ => rfl) ?_
            show w_T L xs (d + 2) m_X12_monthTold 164 [(2, .int (Int32.ofInt (mo1 : Int))), (1, .int (Int32.ofInt (pl : Int))), (0, .ref 100)] [.int (Int32.ofInt 0), .ref 100] (p_S (t_S T0 nm (om + 1) bg nt (upd fo om (Int32.ofInt (nm : Int))) (upd ot om (Int32.ofInt (mo1 : Int))) (upd pp om (Int32.ofInt (pl : Int)))) pl1 cs sk cl (Int32.ofInt 0) nc sg ov bh op na) R Q
            refine w_put rfl v_tyM rfl rfl rfl ?_
            refine w_eqS (p_wo99 (by decide)) ?_
            refine w_eqS (p_in (t_wbg (b := false) rfl)) ?_
            refine w_st rfl (fun _ => rfl) ?_
            refine w_st rfl (fun _ => rfl) ?_
            show w_T L xs (d + 2) m_X12_monthTold 169 [(2, .int (Int32.ofInt (mo1 : Int))), (1, .int (Int32.ofInt (pl : Int))), (0, .ref 100)] [.ref 100, .ref 100] (p_S (t_S T0 nm (om + 1) false nt (upd fo om (Int32.ofInt (nm : Int))) (upd ot om (Int32.ofInt (mo1 : Int))) (upd pp om (Int32.ofInt (pl : Int)))) pl1 cs sk cl (Int32.ofInt 0) nc sg ov bh op na) R Q
            refine w_get rfl v_tyM rfl ?_
            refine w_st rfl (fun _ => rfl) ?_
            refine w_st rfl (fun _ => rfl) ?_
            show w_T L xs (d + 2) m_X12_monthTold 174 [(2, .int (Int32.ofInt (mo1 : Int))), (1, .int (Int32.ofInt (pl : Int))), (0, .ref 100)] [.int ((Int32.ofInt (pl1 : Int)) + (Int32.ofInt 1)), .ref 100] (p_S (t_S T0 nm (om + 1) false nt (upd fo om (Int32.ofInt (nm : Int))) (upd ot om (Int32.ofInt (mo1 : Int))) (upd pp om (Int32.ofInt (pl : Int)))) pl1 cs sk cl (Int32.ofInt 0) nc sg ov bh op na) R Q
            refine w_put rfl v_tyM rfl rfl rfl ?_
            refine w_eqS (p_wpl (w_inc _)) ?_
            show w_T L xs (d + 2) m_X12_monthTold 177 [(2, .int (Int32.ofInt (mo1 : Int))), (1, .int (Int32.ofInt (pl : Int))), (0, .ref 100)] [] (p_S (t_S T0 nm (om + 1) false nt (upd fo om (Int32.ofInt (nm : Int))) (upd ot om (Int32.ofInt (mo1 : Int))) (upd pp om (Int32.ofInt (pl : Int)))) (pl1 + 1) cs sk cl (Int32.ofInt 0) nc sg ov bh op na) R Q
            refine w_ret rfl rfl ?_
            refine Kg _ _ _ _ _ _ _ _ (by omega) (by omega) ⟨m1, by omega, m3, fun j hj => ?_, fun j hj => ?_⟩
            · by_cases e : j = om
              · rw [e, p_upe, p_upe, w_nat (by omega), w_nat (by omega)]; omega
              · rw [p_upn e, p_upn e]; exact m4 j hj
            · by_cases e : j = om
              · rw [e, p_upe, p_upe, p_upe, w_nat (by omega), w_nat (by omega), w_nat (by omega)]; omega
              · rw [p_upn e, p_upn e, p_upn e]; exact m5 j (by omega)
          · refine w_st rfl (fun _ => rfl) ?_
            refine w_st rfl (fun _ => rfl) ?_
            refine w_st rfl (fun _ => rfl) ?_
            show w_T L xs (d + 2) m_X12_monthTold 105 [(2, .int (Int32.ofInt (mo1 : Int))), (1, .int (Int32.ofInt (pl : Int))), (0, .ref 100)] [.ref 100, .int (Int32.ofInt 5), .ref 100] (p_S (t_S T0 nm om bg nt fo ot pp) pl1 cs sk cl (Int32.ofInt 0) nc sg ov bh op na) R Q
            refine w_get rfl v_tyM rfl ?_
            show w_T L xs (d + 2) m_X12_monthTold 108 [(2, .int (Int32.ofInt (mo1 : Int))), (1, .int (Int32.ofInt (pl : Int))), (0, .ref 100)] [.int (Int32.ofInt (pl1 : Int)), .int (Int32.ofInt 5), .ref 100] (p_S (t_S T0 nm om bg nt fo ot pp) pl1 cs sk cl (Int32.ofInt 0) nc sg ov bh op na) R Q
            refine w_cv rfl (by decide) mt_X12_wrongs v_tyM rfl rfl rfl (Nat.le_of_ble_eq_true rfl) (Nat.le_of_ble_eq_true rfl) (Nat.le_of_ble_eq_true rfl) ?_
            show w_T L xs _ m_X12_wrongs 0 (lv_args 0 [.ref 100, .int (Int32.ofInt 5), .int (Int32.ofInt (pl1 : Int))]) [] (p_S (t_S T0 nm om bg nt fo ot pp) pl1 cs sk cl (Int32.ofInt 0) nc sg ov bh op na) R _
            refine h_wr (by decide) (by decide) (by rw [w_nat (by omega)]; omega) (by rw [w_nat (by omega)]; omega) (fun b108 hb108 => ?_)
            refine w_st rfl (fun _ => rfl) ?_
            show w_T L xs (d + 2) m_X12_monthTold 112 [(2, .int (Int32.ofInt (mo1 : Int))), (1, .int (Int32.ofInt (pl : Int))), (0, .ref 100)] [.ref 100] (p_S (t_S T0 nm om bg nt fo ot pp) pl1 cs sk cl b108 nc sg ov bh op na) R Q
            refine w_cv rfl (by decide) mt_X12_isGood v_tyM rfl rfl rfl (Nat.le_of_ble_eq_true rfl) (Nat.le_of_ble_eq_true rfl) (Nat.le_of_ble_eq_true rfl) ?_
            show w_T L xs _ m_X12_isGood 0 (lv_args 0 [.ref 100]) [] (p_S (t_S T0 nm om bg nt fo ot pp) pl1 cs sk cl b108 nc sg ov bh op na) R _
            refine h_isGF hb108 ?_
            show w_T L xs (d + 2) m_X12_monthTold 115 [(2, .int (Int32.ofInt (mo1 : Int))), (1, .int (Int32.ofInt (pl : Int))), (0, .ref 100)] [.int (Int32.ofInt 0)] (p_S (t_S T0 nm om bg nt fo ot pp) pl1 cs sk cl b108 nc sg ov bh op na) R Q
            refine w_st rfl (fun _ => rfl) ?_
            show w_T L xs (d + 2) m_X12_monthTold 118 [(2, .int (Int32.ofInt (mo1 : Int))), (1, .int (Int32.ofInt (pl : Int))), (0, .ref 100)] [] (p_S (t_S T0 nm om bg nt fo ot pp) pl1 cs sk cl b108 nc sg ov bh op na) R Q
            refine w_ret rfl rfl ?_
            exact Kb _ _ _ _ _ _ _ _ _ hb108 (by omega) ⟨m1, m2, m3, m4, m5⟩
      · refine w_st rfl (fun _ => rfl) ?_
        refine w_st rfl (fun _ => rfl) ?_
        show w_T L xs (d + 2) m_X12_monthTold 30 [(1, .int (Int32.ofInt (pl : Int))), (0, .ref 100)] [.ref 100, .ref 100] (p_S (t_S T0 nm om bg nt fo ot pp) pl cs sk cl (Int32.ofInt 0) nc sg ov bh op na) R Q
        refine w_get rfl v_tyM rfl ?_
        refine w_st rfl (fun _ => rfl) ?_
        refine w_st rfl (fun _ => rfl) ?_
        show w_T L xs (d + 2) m_X12_monthTold 35 [(1, .int (Int32.ofInt (pl : Int))), (0, .ref 100)] [.int ((Int32.ofInt (om : Int)) - (Int32.ofInt 1)), .ref 100] (p_S (t_S T0 nm om bg nt fo ot pp) pl cs sk cl (Int32.ofInt 0) nc sg ov bh op na) R Q
        refine w_put rfl v_tyM rfl rfl rfl ?_
        refine w_eqS (p_wo99 (by decide)) ?_
        refine w_eqS (p_in (t_wom (w_dec2 (by omega)))) ?_
        refine w_st rfl (fun _ => rfl) ?_
        refine w_st rfl (fun _ => rfl) ?_
        show w_T L xs (d + 2) m_X12_monthTold 40 [(1, .int (Int32.ofInt (pl : Int))), (0, .ref 100)] [.ref 100, .ref 100] (p_S (t_S T0 nm (om - 1) bg nt fo ot pp) pl cs sk cl (Int32.ofInt 0) nc sg ov bh op na) R Q
        refine w_get rfl v_tyM rfl ?_
        refine w_st rfl (fun _ => rfl) ?_
        refine w_st rfl (fun _ => rfl) ?_
        show w_T L xs (d + 2) m_X12_monthTold 45 [(1, .int (Int32.ofInt (pl : Int))), (0, .ref 100)] [.int ((Int32.ofInt (pl : Int)) + (Int32.ofInt 1)), .ref 100] (p_S (t_S T0 nm (om - 1) bg nt fo ot pp) pl cs sk cl (Int32.ofInt 0) nc sg ov bh op na) R Q
        refine w_put rfl v_tyM rfl rfl rfl ?_
        refine w_eqS (p_wpl (w_inc _)) ?_
        refine w_st rfl (fun _ => rfl) ?_
        refine w_st rfl (fun _ => rfl) ?_
        show w_T L xs (d + 2) m_X12_monthTold 50 [(1, .int (Int32.ofInt (pl : Int))), (0, .ref 100)] [.ref 100, .ref 100] (p_S (t_S T0 nm (om - 1) bg nt fo ot pp) (pl + 1) cs sk cl (Int32.ofInt 0) nc sg ov bh op na) R Q
        refine w_getr rfl v_tyM rfl ?_
        refine w_st rfl (fun _ => rfl) ?_
        show w_T L xs (d + 2) m_X12_monthTold 54 [(1, .int (Int32.ofInt (pl : Int))), (0, .ref 100)] [.ref 100, .ref 135, .ref 100] (p_S (t_S T0 nm (om - 1) bg nt fo ot pp) (pl + 1) cs sk cl (Int32.ofInt 0) nc sg ov bh op na) R Q
        refine w_get rfl v_tyM rfl ?_
        show w_T L xs (d + 2) m_X12_monthTold 57 [(1, .int (Int32.ofInt (pl : Int))), (0, .ref 100)] [.int (Int32.ofInt ((om - 1 : Nat) : Int)), .ref 135, .ref 100] (p_S (t_S T0 nm (om - 1) bg nt fo ot pp) (pl + 1) cs sk cl (Int32.ofInt 0) nc sg ov bh op na) R Q
        refine w_iald rfl rfl (by rw [w_nat (by omega)]; omega) (by rw [w_nat (by omega)]; omega) ?_
        rw [w_natn (by omega), pt_rfo (by omega)]
        refine w_st rfl (fun _ => rfl) ?_
        show w_T L xs (d + 2) m_X12_monthTold 59 [(1, .int (Int32.ofInt (pl : Int))), (0, .ref 100)] [.ref 100, .int (fo (om - 1)), .ref 100] (p_S (t_S T0 nm (om - 1) bg nt fo ot pp) (pl + 1) cs sk cl (Int32.ofInt 0) nc sg ov bh op na) R Q
        refine w_getr rfl v_tyM rfl ?_
        refine w_st rfl (fun _ => rfl) ?_
        show w_T L xs (d + 2) m_X12_monthTold 63 [(1, .int (Int32.ofInt (pl : Int))), (0, .ref 100)] [.ref 100, .ref 136, .int (fo (om - 1)), .ref 100] (p_S (t_S T0 nm (om - 1) bg nt fo ot pp) (pl + 1) cs sk cl (Int32.ofInt 0) nc sg ov bh op na) R Q
        refine w_get rfl v_tyM rfl ?_
        show w_T L xs (d + 2) m_X12_monthTold 66 [(1, .int (Int32.ofInt (pl : Int))), (0, .ref 100)] [.int (Int32.ofInt ((om - 1 : Nat) : Int)), .ref 136, .int (fo (om - 1)), .ref 100] (p_S (t_S T0 nm (om - 1) bg nt fo ot pp) (pl + 1) cs sk cl (Int32.ofInt 0) nc sg ov bh op na) R Q
        refine w_iald rfl rfl (by rw [w_nat (by omega)]; omega) (by rw [w_nat (by omega)]; omega) ?_
        rw [w_natn (by omega), pt_rot (by omega)]
        refine w_st rfl (fun _ => rfl) ?_
        show w_T L xs (d + 2) m_X12_monthTold 68 [(1, .int (Int32.ofInt (pl : Int))), (0, .ref 100)] [.ref 100, .int (ot (om - 1)), .int (fo (om - 1)), .ref 100] (p_S (t_S T0 nm (om - 1) bg nt fo ot pp) (pl + 1) cs sk cl (Int32.ofInt 0) nc sg ov bh op na) R Q
        refine w_getr rfl v_tyM rfl ?_
        refine w_st rfl (fun _ => rfl) ?_
        show w_T L xs (d + 2) m_X12_monthTold 72 [(1, .int (Int32.ofInt (pl : Int))), (0, .ref 100)] [.ref 100, .ref 137, .int (ot (om - 1)), .int (fo (om - 1)), .ref 100] (p_S (t_S T0 nm (om - 1) bg nt fo ot pp) (pl + 1) cs sk cl (Int32.ofInt 0) nc sg ov bh op na) R Q
        refine w_get rfl v_tyM rfl ?_
        show w_T L xs (d + 2) m_X12_monthTold 75 [(1, .int (Int32.ofInt (pl : Int))), (0, .ref 100)] [.int (Int32.ofInt ((om - 1 : Nat) : Int)), .ref 137, .int (ot (om - 1)), .int (fo (om - 1)), .ref 100] (p_S (t_S T0 nm (om - 1) bg nt fo ot pp) (pl + 1) cs sk cl (Int32.ofInt 0) nc sg ov bh op na) R Q
        refine w_iald rfl rfl (by rw [w_nat (by omega)]; omega) (by rw [w_nat (by omega)]; omega) ?_
        rw [w_natn (by omega), pt_rpp (by omega)]
        show w_T L xs (d + 2) m_X12_monthTold 76 [(1, .int (Int32.ofInt (pl : Int))), (0, .ref 100)] [.int (pp (om - 1)), .int (ot (om - 1)), .int (fo (om - 1)), .ref 100] (p_S (t_S T0 nm (om - 1) bg nt fo ot pp) (pl + 1) cs sk cl (Int32.ofInt 0) nc sg ov bh op na) R Q
        refine w_cv rfl (by decide) mt_X12_repeats v_tyM rfl rfl rfl (Nat.le_of_ble_eq_true rfl) (Nat.le_of_ble_eq_true rfl) (Nat.le_of_ble_eq_true rfl) ?_
        show w_T L xs _ m_X12_repeats 0 (lv_args 0 [.ref 100, .int (fo (om - 1)), .int (ot (om - 1)), .int (pp (om - 1))]) [] (p_S (t_S T0 nm (om - 1) bg nt fo ot pp) (pl + 1) cs sk cl (Int32.ofInt 0) nc sg ov bh op na) R _
        refine h_repeats (d := d) (by omega) (by omega) (by omega) (by omega) (by omega) (by omega) (by omega) m3 (fun nm1 nt1 x1 x2 x3 => ?_) (fun b76 hb76 => ?_)
        · show w_T L xs (d + 2) m_X12_monthTold 79 [(1, .int (Int32.ofInt (pl : Int))), (0, .ref 100)] [] (p_S (t_S T0 nm1 (om - 1) bg nt1 fo ot pp) (pl + 1) cs sk cl (Int32.ofInt 0) nc sg ov bh op na) R Q
          refine w_ret rfl rfl ?_
          exact Kg _ _ _ _ _ _ _ _ (by omega) (by omega) ⟨x2, by omega, x3, m4, fun j hj => by have := m5 j (by omega); omega⟩
        · show w_T L xs (d + 2) m_X12_monthTold 79 [(1, .int (Int32.ofInt (pl : Int))), (0, .ref 100)] [] (p_S (t_S T0 nm (om - 1) bg nt fo ot pp) (pl + 1) cs sk cl b76 nc sg ov bh op na) R Q
          refine w_ret rfl rfl ?_
          exact Kb _ _ _ _ _ _ _ _ _ hb76 (by omega) ⟨m1, by omega, m3, m4, fun j hj => m5 j (by omega)⟩
end TT
end Prt39k
