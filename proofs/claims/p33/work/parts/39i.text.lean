/-! the reader: the whole text; law and rules -/
theorem w_addn (a b : Nat) : Int32.ofInt (a : Int) + Int32.ofInt (b : Int) = Int32.ofInt ((a + b : Nat) : Int) := by rw [← Int32.ofInt_add]; rfl
def p_bg (S0 : v_Sf) (n : Int32) : v_Sf := v_ur (v_ur S0 99 (upd (S0 99) 1 (Int32.ofInt 0))) 99 (upd ((v_ur S0 99 (upd (S0 99) 1 (Int32.ofInt 0))) 99) 4 n)
theorem p_bg4 (S0 : v_Sf) (n : Int32) : p_bg S0 n 99 4 = n := w_urs
theorem p_bgF {S0 : v_Sf} {n : Int32} {a j : Nat} (h : ¬ (a = 99 ∧ (j = 1 ∨ j = 4))) : p_bg S0 n a j = S0 a j := by
  unfold p_bg
  rw [w_urn (fun e => h ⟨e.1, Or.inr e.2⟩), w_urn (fun e => h ⟨e.1, Or.inl e.2⟩)]
def p_T (f B m : Nat) (S S2 : v_Sf) : Prop := (∀ a j, ¬ (101 ≤ a ∧ a ≤ 104 ∧ f ≤ j ∧ j < f + m) → S2 a j = S a j) ∧ ∀ k, k < m → S2 102 (f + k) = Int32.ofInt (B : Int) + S 108 k ∧ S2 103 (f + k) = Int32.ofInt (B : Int) + S 109 k ∧ S2 104 (f + k) = Int32.ofInt (B : Int) + S 110 k
theorem p_T_s {f B m : Nat} {S S1 S2 : v_Sf} (h : p_T f B m S S1) (hf : ∀ a j, ¬ (101 ≤ a ∧ a ≤ 104 ∧ j = f + m) → S2 a j = S1 a j) (h2 : S2 102 (f + m) = Int32.ofInt (B : Int) + S1 108 m) (h3 : S2 103 (f + m) = Int32.ofInt (B : Int) + S1 109 m) (h4 : S2 104 (f + m) = Int32.ofInt (B : Int) + S1 110 m) : p_T f B (m + 1) S S2 := by
  refine ⟨fun a j hn => ?_, fun k hk => ?_⟩
  · rw [hf a j (by omega)]
    exact h.1 a j (by omega)
  · by_cases e : k = m
    · subst e
      rw [h2, h3, h4, h.1 108 k (by omega), h.1 109 k (by omega), h.1 110 k (by omega)]
      exact ⟨rfl, rfl, rfl⟩
    · rw [hf 102 _ (by omega), hf 103 _ (by omega), hf 104 _ (by omega)]
      exact h.2 k (by omega)
def p_U (B m : Nat) (nc : Nat → Int32) (S S2 : v_Sf) : Prop := (∀ a j, ¬ ((a = 105 ∨ a = 106) ∧ B ≤ j ∧ j < B + m) → S2 a j = S a j) ∧ ∀ k, k < m → S2 105 (B + k) = nc k
theorem p_U_s {B m : Nat} {nc : Nat → Int32} {S S1 S2 : v_Sf} (h : p_U B m nc S S1) (hf : ∀ a j, ¬ ((a = 105 ∨ a = 106) ∧ j = B + m) → S2 a j = S1 a j) (h2 : S2 105 (B + m) = nc m) : p_U B (m + 1) nc S S2 := by
  refine ⟨fun a j hn => ?_, fun k hk => ?_⟩
  · rw [hf a j (by omega)]
    exact h.1 a j (by omega)
  · by_cases e : k = m
    · subst e
      exact h2
    · rw [hf 105 _ (by omega)]
      exact h.2 k (by omega)
theorem p_seg_sh {c c' : Nat → Int32} {B : Nat} : ∀ {n i dep : Nat}, (∀ j, i ≤ j → j < i + n → c' (B + j) = c j) → v_seg c n i dep → v_seg c' n (B + i) dep
  | 0, _, _, _, _ => trivial
  | n + 1, i, dep, h, hs => by
    have e : B + i + 1 = B + (i + 1) := by omega
    unfold v_seg at hs ⊢
    rw [h i (Nat.le_refl _) (by omega), e]
    split
    · rename_i h1
      rw [if_pos h1] at hs
      exact ⟨hs.1, p_seg_sh (fun j h2 h3 => h j (by omega) (by omega)) hs.2⟩
    · rename_i h1
      rw [if_neg h1] at hs
      split
      · rename_i h2
        rw [if_pos h2] at hs
        exact ⟨hs.1, p_seg_sh (fun j h2 h3 => h j (by omega) (by omega)) hs.2⟩
      · rename_i h2
        rw [if_neg h2] at hs
        exact p_seg_sh (fun j h2 h3 => h j (by omega) (by omega)) hs
def p_X (f B x : Nat) (S S3 : v_Sf) : Prop := ∀ a j, ¬ (a = 99 ∧ (j = 1 ∨ j = 4)) → ¬ (107 ≤ a ∧ a ≤ 110 ∧ j ≤ 16) → ¬ (101 ≤ a ∧ a ≤ 104 ∧ f ≤ j ∧ j < f + x) → ¬ ((a = 105 ∨ a = 106) ∧ B ≤ j ∧ j < B + 240) → S3 a j = S a j
def p_Y (f B cl : Nat) (S3 : v_Sf) : Prop := ∀ k, k < cl → v_stretch (S3 105) (S3 102 (f + k)) (S3 103 (f + k)) ∧ v_stretch (S3 105) (S3 103 (f + k)) (S3 104 (f + k)) ∧ (B : Int) ≤ (S3 103 (f + k)).toInt ∧ (S3 104 (f + k)).toInt ≤ (B : Int) + 240
theorem p_str {c c' : Nat → Int32} {B a b cs : Nat} (hB : B ≤ 240) (hab : a ≤ b) (hb : b ≤ cs) (hc : cs ≤ 240) (h : ∀ j, j < cs → c' (B + j) = c j) (hs : v_seg c (b - a) a 0) : v_stretch c' (Int32.ofInt ((B + a : Nat) : Int)) (Int32.ofInt ((B + b : Nat) : Int)) := by
  unfold v_stretch
  rw [w_nat (by omega), w_nat (by omega)]
  refine ⟨by omega, by omega, by omega, by omega, ?_⟩
  have e1 : (((B + b : Nat) : Int) - ((B + a : Nat) : Int)).toNat = b - a := by omega
  have e2 : (((B + a : Nat) : Int)).toNat = B + a := by omega
  rw [e1, e2]
  exact p_seg_sh (fun j h1 h2 => h j (by omega)) hs
theorem p_Y_of {f B cl cs : Nat} {S1 S2 S3 : v_Sf} {nc : Nat → Int32} (hB : B ≤ 240) (hc : cs ≤ 240) (hZ : p_Z S1 cl cs nc) (hT : p_T f B cl S1 S2) (hU : p_U B cs nc S2 S3) : p_Y f B cl S3 := by
  intro k hk
  obtain ⟨a, b, c, k1, k2, k3, k4, k5, k6, k7, k8⟩ := hZ k hk
  obtain ⟨t1, t2, t3⟩ := hT.2 k hk
  rw [hU.1 102 _ (by omega), hU.1 103 _ (by omega), hU.1 104 _ (by omega), t1, t2, t3, k1, k2, k3, w_addn, w_addn, w_addn]
  refine ⟨p_str hB k4 (by omega) hc hU.2 k7, p_str hB k5 k6 hc hU.2 k8, ?_, ?_⟩
  · rw [w_nat (by omega)]; omega
  · rw [w_nat (by omega)]; omega
theorem p_X_of {f B x cl cs : Nat} {S : v_Sf} {n : Int32} {S1 S2 S3 : v_Sf} {nc : Nat → Int32} (hx : cl ≤ x) (hc : cs ≤ 240) (hF : p_F (p_bg S n) S1) (hT : p_T f B cl S1 S2) (hU : p_U B cs nc S2 S3) : p_X f B x S S3 := by
  intro a j h1 h2 h3 h4
  rw [hU.1 a j (by omega), hT.1 a j (by omega), hF a j h2, p_bgF h1]
theorem p_X_b {f B x : Nat} {S : v_Sf} {n : Int32} {S1 : v_Sf} (hF : p_F (p_bg S n) S1) : p_X f B x S S1 := by
  intro a j h1 h2 h3 h4
  rw [hF a j h2, p_bgF h1]
section PL
variable {L : Nat} {xs : Nat → Int32} {d : Nat} {R : v_Rf} {Q : Option Value → v_Sf → v_Rf → Prop} {S0 : v_Sf} {pl cs sk cl : Nat} {bd : Int32} {nc sg : Nat → Int32} {ov bh : Bool} {op : Int32} {na : Nat → Int32}
theorem h_begins (n : Int32) (hq : Q none (p_S (p_bg S0 n) 0 cs sk cl (Int32.ofInt 0) nc sg ov bh op na) R) : w_T L xs d m_X12_begins 0 (lv_args 0 [.ref 100, .int n]) [] (p_S S0 pl cs sk cl bd nc sg ov bh op na) R Q := by
  refine w_st rfl (fun _ => rfl) ?_
  refine w_st rfl (fun _ => rfl) ?_
  show w_T L xs d m_X12_begins 2 [(0, .ref 100), (1, .int n)] [.int (Int32.ofInt 0), .ref 100] (p_S S0 pl cs sk cl bd nc sg ov bh op na) R Q
  refine w_put rfl v_tyM rfl rfl rfl ?_
  refine w_eqS (p_wo99 (by decide)) ?_
  refine w_st rfl (fun _ => rfl) ?_
  refine w_st rfl (fun _ => rfl) ?_
  show w_T L xs d m_X12_begins 7 [(0, .ref 100), (1, .int n)] [.int (Int32.ofInt 0), .ref 100] (p_S (v_ur S0 99 (upd (S0 99) 1 (Int32.ofInt 0))) pl cs sk cl bd nc sg ov bh op na) R Q
  refine w_put rfl v_tyM rfl rfl rfl ?_
  refine w_eqS (p_wpl (k := 0) rfl) ?_
  refine w_st rfl (fun _ => rfl) ?_
  refine w_st rfl (fun _ => rfl) ?_
  show w_T L xs d m_X12_begins 12 [(0, .ref 100), (1, .int n)] [.int n, .ref 100] (p_S (v_ur S0 99 (upd (S0 99) 1 (Int32.ofInt 0))) 0 cs sk cl bd nc sg ov bh op na) R Q
  refine w_put rfl v_tyM rfl rfl rfl ?_
  refine w_eqS (p_wo99 (by decide)) ?_
  refine w_st rfl (fun _ => rfl) ?_
  refine w_st rfl (fun _ => rfl) ?_
  show w_T L xs d m_X12_begins 17 [(0, .ref 100), (1, .int n)] [.int (Int32.ofInt 0), .ref 100] (p_S (v_ur (v_ur S0 99 (upd (S0 99) 1 (Int32.ofInt 0))) 99 (upd ((v_ur S0 99 (upd (S0 99) 1 (Int32.ofInt 0))) 99) 4 n)) 0 cs sk cl bd nc sg ov bh op na) R Q
  refine w_put rfl v_tyM rfl rfl rfl ?_
  refine w_eqS p_wbd ?_
  show w_T L xs d m_X12_begins 20 [(0, .ref 100), (1, .int n)] [] (p_S (v_ur (v_ur S0 99 (upd (S0 99) 1 (Int32.ofInt 0))) 99 (upd ((v_ur S0 99 (upd (S0 99) 1 (Int32.ofInt 0))) 99) 4 n)) 0 cs sk cl (Int32.ofInt 0) nc sg ov bh op na) R Q
  refine w_ret rfl rfl ?_
  exact hq
theorem h_txLS {n : Int32} (he : (S0 99 4).toInt ≤ 240) (hT : v_Tb v_ty S0 R) (hZ : p_Z S0 cl cs nc) (hb : cs ≤ pl) (hp : pl ≤ 240) (hsk : sk ≤ 240) (hcl : cl ≤ 16) (K7 : ∀ (S1 : v_Sf) (pl' cs' sk' : Nat) (nc' sg' na' : Nat → Int32) (o : Int32) (v' h' : Bool), p_F S0 S1 → v_Tb v_ty S1 R → p_Z S1 (cl + 1) cs' nc' → pl < pl' → cs' ≤ pl' → pl' ≤ 240 → sk' ≤ 240 → cl < 16 → w_T L xs (d + 8) m_X12_takesText 17 [(3, .int (Int32.ofInt 1)), (0, .ref 100), (1, .int n), (2, .int (Int32.ofInt 0))] [] (p_S S1 (pl') (cs') (sk') (cl + 1) (Int32.ofInt 0) (nc') (sg') (v') (h') o (na')) R Q) (K9 : ∀ (S1 : v_Sf) (pl' cs' sk' : Nat) (nc' sg' na' : Nat → Int32) (o : Int32) (v' h' : Bool), p_F S0 S1 → v_Tb v_ty S1 R → p_Z S1 (cl + 1) cs' nc' → pl ≤ pl' → cs' ≤ pl' → pl' ≤ 240 → sk' ≤ 240 → cl < 16 → w_T L xs (d + 8) m_X12_takesText 92 [(3, .int (Int32.ofInt 0)), (0, .ref 100), (1, .int n), (2, .int (Int32.ofInt 0))] [] (p_S S1 (pl') (cs') (sk') (cl + 1) (Int32.ofInt 0) (nc') (sg') (v') (h') o (na')) R Q) (Kb : ∀ (S1 : v_Sf) (pl' cs' sk' cl' : Nat) (b' : Int32) (nc' sg' na' : Nat → Int32) (o : Int32) (v' h' : Bool), p_F S0 S1 → v_Tb v_ty S1 R → b'.toInt < 0 → cs' ≤ 240 → pl' ≤ 240 → sk' ≤ 240 → cl' ≤ 16 → Q (some (.int b')) (p_S S1 (pl') (cs') (sk') (cl') (b') (nc') (sg') (v') (h') o (na')) R) : w_T L xs (d + 8) m_X12_takesText 17 [(3, .int (Int32.ofInt 1)), (0, .ref 100), (1, .int n), (2, .int (Int32.ofInt 0))] [] (p_S S0 pl cs sk cl (Int32.ofInt 0) nc sg ov bh op na) R Q := by
  refine w_st rfl (fun _ => rfl) ?_
  show w_T L xs (d + 8) m_X12_takesText 18 [(3, .int (Int32.ofInt 1)), (0, .ref 100), (1, .int n), (2, .int (Int32.ofInt 0))] [.int (Int32.ofInt 1)] (p_S S0 pl cs sk cl (Int32.ofInt 0) nc sg ov bh op na) R Q
  refine w_st rfl (fun _ => rfl) ?_
  refine w_st rfl (fun _ => rfl) ?_
  show w_T L xs (d + 8) m_X12_takesText 22 [(3, .int (Int32.ofInt 1)), (0, .ref 100), (1, .int n), (2, .int (Int32.ofInt 0))] [.ref 100] (p_S S0 pl cs sk cl (Int32.ofInt 0) nc sg ov bh op na) R Q
  refine w_cv rfl (by decide) mt_X12_isGood v_tyM rfl rfl rfl (Nat.le_of_ble_eq_true rfl) (Nat.le_of_ble_eq_true rfl) (Nat.le_of_ble_eq_true rfl) ?_
  show w_T L xs _ m_X12_isGood 0 (lv_args 0 [.ref 100]) [] (p_S S0 pl cs sk cl (Int32.ofInt 0) nc sg ov bh op na) R _
  refine h_isGT ?_
  show w_T L xs (d + 8) m_X12_takesText 25 [(3, .int (Int32.ofInt 1)), (0, .ref 100), (1, .int n), (2, .int (Int32.ofInt 0))] [.int (Int32.ofInt 1)] (p_S S0 pl cs sk cl (Int32.ofInt 0) nc sg ov bh op na) R Q
  refine w_st rfl (fun _ => rfl) ?_
  refine w_st rfl (fun _ => rfl) ?_
  refine w_st rfl (fun _ => rfl) ?_
  show w_T L xs (d + 8) m_X12_takesText 30 [(3, .int (Int32.ofInt 1)), (0, .ref 100), (1, .int n), (2, .int (Int32.ofInt 0))] [.int (Int32.ofInt 0), .ref 100] (p_S S0 pl cs sk cl (Int32.ofInt 0) nc sg ov bh op na) R Q
  refine w_cv rfl (by decide) mt_X12_clause v_tyM rfl rfl rfl (Nat.le_of_ble_eq_true rfl) (Nat.le_of_ble_eq_true rfl) (Nat.le_of_ble_eq_true rfl) ?_
  show w_T L xs _ m_X12_clause 0 (lv_args 0 [.ref 100, .int (Int32.ofInt 0)]) [] (p_S S0 pl cs sk cl (Int32.ofInt 0) nc sg ov bh op na) R _
  refine h_clL he hT hZ hb hp hsk hcl (fun S1 pl1 cs1 sk1 nc1 sg1 na1 o1 v1 h1 f1 f2 f3 f4 f5 f6 f7 f8 => ?_) (fun S1 pl1 cs1 sk1 cl1 b30 nc1 sg1 na1 o1 v1 h1 f1 f2 hb30 f4 f5 f6 f7 => ?_)
  · have e14 : S1 99 4 = S0 99 4 := f1 99 4 (by omega)
    show w_T L xs (d + 8) m_X12_takesText 33 [(3, .int (Int32.ofInt 1)), (0, .ref 100), (1, .int n), (2, .int (Int32.ofInt 0))] [] (p_S S1 pl1 cs1 sk1 (cl + 1) (Int32.ofInt 0) nc1 sg1 v1 h1 o1 na1) R Q
    refine w_st rfl (fun _ => rfl) ?_
    show w_T L xs (d + 8) m_X12_takesText 34 [(3, .int (Int32.ofInt 1)), (0, .ref 100), (1, .int n), (2, .int (Int32.ofInt 0))] [.ref 100] (p_S S1 pl1 cs1 sk1 (cl + 1) (Int32.ofInt 0) nc1 sg1 v1 h1 o1 na1) R Q
    refine w_cv rfl (by decide) mt_X12_isGood v_tyM rfl rfl rfl (Nat.le_of_ble_eq_true rfl) (Nat.le_of_ble_eq_true rfl) (Nat.le_of_ble_eq_true rfl) ?_
    show w_T L xs _ m_X12_isGood 0 (lv_args 0 [.ref 100]) [] (p_S S1 pl1 cs1 sk1 (cl + 1) (Int32.ofInt 0) nc1 sg1 v1 h1 o1 na1) R _
    refine h_isGT ?_
    show w_T L xs (d + 8) m_X12_takesText 37 [(3, .int (Int32.ofInt 1)), (0, .ref 100), (1, .int n), (2, .int (Int32.ofInt 0))] [.int (Int32.ofInt 1)] (p_S S1 pl1 cs1 sk1 (cl + 1) (Int32.ofInt 0) nc1 sg1 v1 h1 o1 na1) R Q
    refine w_st rfl (fun _ => rfl) ?_
    refine w_st rfl (fun _ => rfl) ?_
    show w_T L xs (d + 8) m_X12_takesText 41 [(3, .int (Int32.ofInt 1)), (0, .ref 100), (1, .int n), (2, .int (Int32.ofInt 0))] [.ref 100] (p_S S1 pl1 cs1 sk1 (cl + 1) (Int32.ofInt 0) nc1 sg1 v1 h1 o1 na1) R Q
    refine w_get rfl v_tyM rfl ?_
    refine w_st rfl (fun _ => rfl) ?_
    show w_T L xs (d + 8) m_X12_takesText 45 [(3, .int (Int32.ofInt 1)), (0, .ref 100), (1, .int n), (2, .int (Int32.ofInt 0))] [.ref 100, .int (Int32.ofInt (pl1 : Int))] (p_S S1 pl1 cs1 sk1 (cl + 1) (Int32.ofInt 0) nc1 sg1 v1 h1 o1 na1) R Q
    refine w_get rfl v_tyM rfl ?_
    show w_T L xs (d + 8) m_X12_takesText 48 [(3, .int (Int32.ofInt 1)), (0, .ref 100), (1, .int n), (2, .int (Int32.ofInt 0))] [.int (S1 99 4), .int (Int32.ofInt (pl1 : Int))] (p_S S1 pl1 cs1 sk1 (cl + 1) (Int32.ofInt 0) nc1 sg1 v1 h1 o1 na1) R Q
    refine w_br (P := (S1 99 4) ≤ (Int32.ofInt (pl1 : Int))) rfl (fun _ => rfl) (fun h48 => ?_) (fun h48 => ?_)
    · refine w_st rfl (fun _ => rfl) ?_
      refine w_st rfl (fun _ => rfl) ?_
      refine w_st rfl (fun _ => rfl) ?_
      show w_T L xs (d + 8) m_X12_takesText 58 [(3, .int (Int32.ofInt 0)), (0, .ref 100), (1, .int n), (2, .int (Int32.ofInt 0))] [.int (Int32.ofInt 0)] (p_S S1 pl1 cs1 sk1 (cl + 1) (Int32.ofInt 0) nc1 sg1 v1 h1 o1 na1) R Q
      refine w_st rfl (fun _ => rfl) ?_
      show w_T L xs (d + 8) m_X12_takesText 17 [(3, .int (Int32.ofInt 0)), (0, .ref 100), (1, .int n), (2, .int (Int32.ofInt 0))] [] (p_S S1 pl1 cs1 sk1 (cl + 1) (Int32.ofInt 0) nc1 sg1 v1 h1 o1 na1) R Q
      refine w_st rfl (fun _ => rfl) ?_
      show w_T L xs (d + 8) m_X12_takesText 18 [(3, .int (Int32.ofInt 0)), (0, .ref 100), (1, .int n), (2, .int (Int32.ofInt 0))] [.int (Int32.ofInt 0)] (p_S S1 pl1 cs1 sk1 (cl + 1) (Int32.ofInt 0) nc1 sg1 v1 h1 o1 na1) R Q
      refine w_st rfl (fun _ => rfl) ?_
      show w_T L xs (d + 8) m_X12_takesText 92 [(3, .int (Int32.ofInt 0)), (0, .ref 100), (1, .int n), (2, .int (Int32.ofInt 0))] [] (p_S S1 pl1 cs1 sk1 (cl + 1) (Int32.ofInt 0) nc1 sg1 v1 h1 o1 na1) R Q
      exact K9 _ _ _ _ _ _ _ _ _ _ f1 f2 f3 f4 f5 f6 f7 f8
    · have hlt : (pl1 : Int) < (S0 99 4).toInt := by
        rw [q_le32, e14, w_nat (by omega)] at h48
        omega
      refine w_st rfl (fun _ => rfl) ?_
      refine w_st rfl (fun _ => rfl) ?_
      refine w_st rfl (fun _ => rfl) ?_
      refine w_st rfl (fun _ => rfl) ?_
      show w_T L xs (d + 8) m_X12_takesText 58 [(3, .int (Int32.ofInt 1)), (0, .ref 100), (1, .int n), (2, .int (Int32.ofInt 0))] [.int (Int32.ofInt 1)] (p_S S1 pl1 cs1 sk1 (cl + 1) (Int32.ofInt 0) nc1 sg1 v1 h1 o1 na1) R Q
      refine w_st rfl (fun _ => rfl) ?_
      refine w_st rfl (fun _ => rfl) ?_
      show w_T L xs (d + 8) m_X12_takesText 62 [(3, .int (Int32.ofInt 1)), (0, .ref 100), (1, .int n), (2, .int (Int32.ofInt 0))] [.ref 100] (p_S S1 pl1 cs1 sk1 (cl + 1) (Int32.ofInt 0) nc1 sg1 v1 h1 o1 na1) R Q
      refine w_cv rfl (by decide) mt_X12_here v_tyM rfl rfl rfl (Nat.le_of_ble_eq_true rfl) (Nat.le_of_ble_eq_true rfl) (Nat.le_of_ble_eq_true rfl) ?_
      show w_T L xs _ m_X12_here 0 (lv_args 0 [.ref 100]) [] (p_S S1 pl1 cs1 sk1 (cl + 1) (Int32.ofInt 0) nc1 sg1 v1 h1 o1 na1) R _
      refine h_here (by omega) ?_
      refine w_st rfl (fun _ => rfl) ?_
      show w_T L xs (d + 8) m_X12_takesText 67 [(3, .int (Int32.ofInt 1)), (0, .ref 100), (1, .int n), (2, .int (Int32.ofInt 0))] [.int (Int32.ofInt 59), .int (p_h S1 pl1)] (p_S S1 pl1 cs1 sk1 (cl + 1) (Int32.ofInt 0) nc1 sg1 v1 h1 o1 na1) R Q
      refine w_br (P := (p_h S1 pl1) = (Int32.ofInt 59)) rfl (fun _ => rfl) (fun h67 => ?_) (fun h67 => ?_)
      · refine w_st rfl (fun _ => rfl) ?_
        refine w_st rfl (fun _ => rfl) ?_
        show w_T L xs (d + 8) m_X12_takesText 81 [(3, .int (Int32.ofInt 1)), (0, .ref 100), (1, .int n), (2, .int (Int32.ofInt 0))] [.ref 100, .ref 100] (p_S S1 pl1 cs1 sk1 (cl + 1) (Int32.ofInt 0) nc1 sg1 v1 h1 o1 na1) R Q
        refine w_get rfl v_tyM rfl ?_
        refine w_st rfl (fun _ => rfl) ?_
        refine w_st rfl (fun _ => rfl) ?_
        show w_T L xs (d + 8) m_X12_takesText 86 [(3, .int (Int32.ofInt 1)), (0, .ref 100), (1, .int n), (2, .int (Int32.ofInt 0))] [.int ((Int32.ofInt (pl1 : Int)) + (Int32.ofInt 1)), .ref 100] (p_S S1 pl1 cs1 sk1 (cl + 1) (Int32.ofInt 0) nc1 sg1 v1 h1 o1 na1) R Q
        refine w_put rfl v_tyM rfl rfl rfl ?_
        refine w_eqS (p_wpl (w_inc _)) ?_
        refine w_st rfl (fun _ => rfl) ?_
        show w_T L xs (d + 8) m_X12_takesText 17 [(3, .int (Int32.ofInt 1)), (0, .ref 100), (1, .int n), (2, .int (Int32.ofInt 0))] [] (p_S S1 (pl1 + 1) cs1 sk1 (cl + 1) (Int32.ofInt 0) nc1 sg1 v1 h1 o1 na1) R Q
        exact K7 _ _ _ _ _ _ _ _ _ _ f1 f2 f3 (by omega) (by omega) (by omega) f7 f8
      · refine w_st rfl (fun _ => rfl) ?_
        refine w_st rfl (fun _ => rfl) ?_
        refine w_st rfl (fun _ => rfl) ?_
        show w_T L xs (d + 8) m_X12_takesText 73 [(3, .int (Int32.ofInt 1)), (0, .ref 100), (1, .int n), (2, .int (Int32.ofInt 0))] [.ref 100, .int (Int32.ofInt 1), .ref 100] (p_S S1 pl1 cs1 sk1 (cl + 1) (Int32.ofInt 0) nc1 sg1 v1 h1 o1 na1) R Q
        refine w_get rfl v_tyM rfl ?_
        show w_T L xs (d + 8) m_X12_takesText 76 [(3, .int (Int32.ofInt 1)), (0, .ref 100), (1, .int n), (2, .int (Int32.ofInt 0))] [.int (Int32.ofInt (pl1 : Int)), .int (Int32.ofInt 1), .ref 100] (p_S S1 pl1 cs1 sk1 (cl + 1) (Int32.ofInt 0) nc1 sg1 v1 h1 o1 na1) R Q
        refine w_cv rfl (by decide) mt_X12_wrongs v_tyM rfl rfl rfl (Nat.le_of_ble_eq_true rfl) (Nat.le_of_ble_eq_true rfl) (Nat.le_of_ble_eq_true rfl) ?_
        show w_T L xs _ m_X12_wrongs 0 (lv_args 0 [.ref 100, .int (Int32.ofInt 1), .int (Int32.ofInt (pl1 : Int))]) [] (p_S S1 pl1 cs1 sk1 (cl + 1) (Int32.ofInt 0) nc1 sg1 v1 h1 o1 na1) R _
        refine h_wr (by decide) (by decide) (by rw [w_nat (by omega)]; omega) (by rw [w_nat (by omega)]; omega) (fun b76 hb76 => ?_)
        refine w_st rfl (fun _ => rfl) ?_
        refine w_st rfl (fun _ => rfl) ?_
        show w_T L xs (d + 8) m_X12_takesText 81 [(3, .int (Int32.ofInt 1)), (0, .ref 100), (1, .int n), (2, .int (Int32.ofInt 0))] [.ref 100, .ref 100] (p_S S1 pl1 cs1 sk1 (cl + 1) b76 nc1 sg1 v1 h1 o1 na1) R Q
        refine w_get rfl v_tyM rfl ?_
        refine w_st rfl (fun _ => rfl) ?_
        refine w_st rfl (fun _ => rfl) ?_
        show w_T L xs (d + 8) m_X12_takesText 86 [(3, .int (Int32.ofInt 1)), (0, .ref 100), (1, .int n), (2, .int (Int32.ofInt 0))] [.int ((Int32.ofInt (pl1 : Int)) + (Int32.ofInt 1)), .ref 100] (p_S S1 pl1 cs1 sk1 (cl + 1) b76 nc1 sg1 v1 h1 o1 na1) R Q
        refine w_put rfl v_tyM rfl rfl rfl ?_
        refine w_eqS (p_wpl (w_inc _)) ?_
        refine w_st rfl (fun _ => rfl) ?_
        show w_T L xs (d + 8) m_X12_takesText 17 [(3, .int (Int32.ofInt 1)), (0, .ref 100), (1, .int n), (2, .int (Int32.ofInt 0))] [] (p_S S1 (pl1 + 1) cs1 sk1 (cl + 1) b76 nc1 sg1 v1 h1 o1 na1) R Q
        refine w_st rfl (fun _ => rfl) ?_
        show w_T L xs (d + 8) m_X12_takesText 18 [(3, .int (Int32.ofInt 1)), (0, .ref 100), (1, .int n), (2, .int (Int32.ofInt 0))] [.int (Int32.ofInt 1)] (p_S S1 (pl1 + 1) cs1 sk1 (cl + 1) b76 nc1 sg1 v1 h1 o1 na1) R Q
        refine w_st rfl (fun _ => rfl) ?_
        refine w_st rfl (fun _ => rfl) ?_
        show w_T L xs (d + 8) m_X12_takesText 22 [(3, .int (Int32.ofInt 1)), (0, .ref 100), (1, .int n), (2, .int (Int32.ofInt 0))] [.ref 100] (p_S S1 (pl1 + 1) cs1 sk1 (cl + 1) b76 nc1 sg1 v1 h1 o1 na1) R Q
        refine w_cv rfl (by decide) mt_X12_isGood v_tyM rfl rfl rfl (Nat.le_of_ble_eq_true rfl) (Nat.le_of_ble_eq_true rfl) (Nat.le_of_ble_eq_true rfl) ?_
        show w_T L xs _ m_X12_isGood 0 (lv_args 0 [.ref 100]) [] (p_S S1 (pl1 + 1) cs1 sk1 (cl + 1) b76 nc1 sg1 v1 h1 o1 na1) R _
        refine h_isGF hb76 ?_
        show w_T L xs (d + 8) m_X12_takesText 25 [(3, .int (Int32.ofInt 1)), (0, .ref 100), (1, .int n), (2, .int (Int32.ofInt 0))] [.int (Int32.ofInt 0)] (p_S S1 (pl1 + 1) cs1 sk1 (cl + 1) b76 nc1 sg1 v1 h1 o1 na1) R Q
        refine w_st rfl (fun _ => rfl) ?_
        show w_T L xs (d + 8) m_X12_takesText 92 [(3, .int (Int32.ofInt 1)), (0, .ref 100), (1, .int n), (2, .int (Int32.ofInt 0))] [] (p_S S1 (pl1 + 1) cs1 sk1 (cl + 1) b76 nc1 sg1 v1 h1 o1 na1) R Q
        refine w_st rfl (fun _ => rfl) ?_
        show w_T L xs (d + 8) m_X12_takesText 93 [(3, .int (Int32.ofInt 1)), (0, .ref 100), (1, .int n), (2, .int (Int32.ofInt 0))] [.ref 100] (p_S S1 (pl1 + 1) cs1 sk1 (cl + 1) b76 nc1 sg1 v1 h1 o1 na1) R Q
        refine w_get rfl v_tyM rfl ?_
        show w_T L xs (d + 8) m_X12_takesText 96 [(3, .int (Int32.ofInt 1)), (0, .ref 100), (1, .int n), (2, .int (Int32.ofInt 0))] [.int b76] (p_S S1 (pl1 + 1) cs1 sk1 (cl + 1) b76 nc1 sg1 v1 h1 o1 na1) R Q
        refine w_br (P := 0 ≤ b76) rfl (fun _ => rfl) (fun h96 => ?_) (fun h96 => ?_)
        · exfalso
          rw [q_le32] at h96
          have z0 : (0 : Int32).toInt = 0 := rfl
          omega
        · refine w_st rfl (fun _ => rfl) ?_
          show w_T L xs (d + 8) m_X12_takesText 100 [(3, .int (Int32.ofInt 1)), (0, .ref 100), (1, .int n), (2, .int (Int32.ofInt 0))] [.ref 100] (p_S S1 (pl1 + 1) cs1 sk1 (cl + 1) b76 nc1 sg1 v1 h1 o1 na1) R Q
          refine w_get rfl v_tyM rfl ?_
          show w_T L xs (d + 8) m_X12_takesText 103 [(3, .int (Int32.ofInt 1)), (0, .ref 100), (1, .int n), (2, .int (Int32.ofInt 0))] [.int b76] (p_S S1 (pl1 + 1) cs1 sk1 (cl + 1) b76 nc1 sg1 v1 h1 o1 na1) R Q
          refine w_ret rfl (by rfl) ?_
          exact Kb _ _ _ _ _ _ _ _ _ _ _ _ f1 f2 hb76 (by omega) (by omega) (by omega) (by omega)
  · show w_T L xs (d + 8) m_X12_takesText 33 [(3, .int (Int32.ofInt 1)), (0, .ref 100), (1, .int n), (2, .int (Int32.ofInt 0))] [] (p_S S1 pl1 cs1 sk1 cl1 b30 nc1 sg1 v1 h1 o1 na1) R Q
    refine w_st rfl (fun _ => rfl) ?_
    show w_T L xs (d + 8) m_X12_takesText 34 [(3, .int (Int32.ofInt 1)), (0, .ref 100), (1, .int n), (2, .int (Int32.ofInt 0))] [.ref 100] (p_S S1 pl1 cs1 sk1 cl1 b30 nc1 sg1 v1 h1 o1 na1) R Q
    refine w_cv rfl (by decide) mt_X12_isGood v_tyM rfl rfl rfl (Nat.le_of_ble_eq_true rfl) (Nat.le_of_ble_eq_true rfl) (Nat.le_of_ble_eq_true rfl) ?_
    show w_T L xs _ m_X12_isGood 0 (lv_args 0 [.ref 100]) [] (p_S S1 pl1 cs1 sk1 cl1 b30 nc1 sg1 v1 h1 o1 na1) R _
    refine h_isGF hb30 ?_
    show w_T L xs (d + 8) m_X12_takesText 37 [(3, .int (Int32.ofInt 1)), (0, .ref 100), (1, .int n), (2, .int (Int32.ofInt 0))] [.int (Int32.ofInt 0)] (p_S S1 pl1 cs1 sk1 cl1 b30 nc1 sg1 v1 h1 o1 na1) R Q
    refine w_st rfl (fun _ => rfl) ?_
    refine w_st rfl (fun _ => rfl) ?_
    refine w_st rfl (fun _ => rfl) ?_
    refine w_st rfl (fun _ => rfl) ?_
    show w_T L xs (d + 8) m_X12_takesText 58 [(3, .int (Int32.ofInt 0)), (0, .ref 100), (1, .int n), (2, .int (Int32.ofInt 0))] [.int (Int32.ofInt 0)] (p_S S1 pl1 cs1 sk1 cl1 b30 nc1 sg1 v1 h1 o1 na1) R Q
    refine w_st rfl (fun _ => rfl) ?_
    show w_T L xs (d + 8) m_X12_takesText 17 [(3, .int (Int32.ofInt 0)), (0, .ref 100), (1, .int n), (2, .int (Int32.ofInt 0))] [] (p_S S1 pl1 cs1 sk1 cl1 b30 nc1 sg1 v1 h1 o1 na1) R Q
    refine w_st rfl (fun _ => rfl) ?_
    show w_T L xs (d + 8) m_X12_takesText 18 [(3, .int (Int32.ofInt 0)), (0, .ref 100), (1, .int n), (2, .int (Int32.ofInt 0))] [.int (Int32.ofInt 0)] (p_S S1 pl1 cs1 sk1 cl1 b30 nc1 sg1 v1 h1 o1 na1) R Q
    refine w_st rfl (fun _ => rfl) ?_
    show w_T L xs (d + 8) m_X12_takesText 92 [(3, .int (Int32.ofInt 0)), (0, .ref 100), (1, .int n), (2, .int (Int32.ofInt 0))] [] (p_S S1 pl1 cs1 sk1 cl1 b30 nc1 sg1 v1 h1 o1 na1) R Q
    refine w_st rfl (fun _ => rfl) ?_
    show w_T L xs (d + 8) m_X12_takesText 93 [(3, .int (Int32.ofInt 0)), (0, .ref 100), (1, .int n), (2, .int (Int32.ofInt 0))] [.ref 100] (p_S S1 pl1 cs1 sk1 cl1 b30 nc1 sg1 v1 h1 o1 na1) R Q
    refine w_get rfl v_tyM rfl ?_
    show w_T L xs (d + 8) m_X12_takesText 96 [(3, .int (Int32.ofInt 0)), (0, .ref 100), (1, .int n), (2, .int (Int32.ofInt 0))] [.int b30] (p_S S1 pl1 cs1 sk1 cl1 b30 nc1 sg1 v1 h1 o1 na1) R Q
    refine w_br (P := 0 ≤ b30) rfl (fun _ => rfl) (fun h96 => ?_) (fun h96 => ?_)
    · exfalso
      rw [q_le32] at h96
      have z0 : (0 : Int32).toInt = 0 := rfl
      omega
    · refine w_st rfl (fun _ => rfl) ?_
      show w_T L xs (d + 8) m_X12_takesText 100 [(3, .int (Int32.ofInt 0)), (0, .ref 100), (1, .int n), (2, .int (Int32.ofInt 0))] [.ref 100] (p_S S1 pl1 cs1 sk1 cl1 b30 nc1 sg1 v1 h1 o1 na1) R Q
      refine w_get rfl v_tyM rfl ?_
      show w_T L xs (d + 8) m_X12_takesText 103 [(3, .int (Int32.ofInt 0)), (0, .ref 100), (1, .int n), (2, .int (Int32.ofInt 0))] [.int b30] (p_S S1 pl1 cs1 sk1 cl1 b30 nc1 sg1 v1 h1 o1 na1) R Q
      refine w_ret rfl (by rfl) ?_
      exact Kb _ _ _ _ _ _ _ _ _ _ _ _ f1 f2 hb30 (by omega) (by omega) (by omega) (by omega)
theorem h_txLL {n : Int32} {S00 : v_Sf} (he0 : (S00 99 4).toInt ≤ 240) (K9 : ∀ (S1 : v_Sf) (pl' cs' sk' cl' : Nat) (nc' sg' na' : Nat → Int32) (o : Int32) (v' h' : Bool), p_F S00 S1 → v_Tb v_ty S1 R → p_Z S1 cl' cs' nc' → cs' ≤ 240 → pl' ≤ 240 → sk' ≤ 240 → cl' ≤ 16 → w_T L xs (d + 8) m_X12_takesText 92 [(3, .int (Int32.ofInt 0)), (0, .ref 100), (1, .int n), (2, .int (Int32.ofInt 0))] [] (p_S S1 (pl') (cs') (sk') (cl') (Int32.ofInt 0) (nc') (sg') (v') (h') o (na')) R Q) (Kb : ∀ (S1 : v_Sf) (pl' cs' sk' cl' : Nat) (b' : Int32) (nc' sg' na' : Nat → Int32) (o : Int32) (v' h' : Bool), p_F S00 S1 → v_Tb v_ty S1 R → b'.toInt < 0 → cs' ≤ 240 → pl' ≤ 240 → sk' ≤ 240 → cl' ≤ 16 → Q (some (.int b')) (p_S S1 (pl') (cs') (sk') (cl') (b') (nc') (sg') (v') (h') o (na')) R) : ∀ (c9 : Nat) (S0 : v_Sf) (pl cs sk cl : Nat) (nc sg na : Nat → Int32) (op : Int32) (ov bh : Bool), 240 ≤ pl + c9 → p_F S00 S0 → v_Tb v_ty S0 R → p_Z S0 cl cs nc → cs ≤ pl → pl ≤ 240 → sk ≤ 240 → cl ≤ 16 → w_T L xs (d + 8) m_X12_takesText 17 [(3, .int (Int32.ofInt 1)), (0, .ref 100), (1, .int n), (2, .int (Int32.ofInt 0))] [] (p_S S0 pl cs sk cl (Int32.ofInt 0) nc sg ov bh op na) R Q := by
  intro c9
  induction c9 with
  | zero =>
    intro S0 pl cs sk cl nc sg na op ov bh hn hF hT hZ hb hp hsk hcl
    have he : (S0 99 4).toInt ≤ 240 := by rw [hF 99 4 (by omega)]; exact he0
    exact h_txLS he hT hZ hb hp hsk hcl (fun S1 pl' cs' sk' nc' sg' na' o v' h' f1 f2 f3 f4 f5 f6 f7 f8 => absurd f6 (by omega)) (fun S1 pl' cs' sk' nc' sg' na' o v' h' f1 f2 f3 f4 f5 f6 f7 f8 => K9 S1 pl' cs' sk' _ nc' sg' na' o v' h' (p_F_tr hF f1) f2 f3 (by omega) (by omega) (by omega) (by omega)) (fun S1 pl' cs' sk' cl' b' nc' sg' na' o v' h' f1 => Kb S1 pl' cs' sk' cl' b' nc' sg' na' o v' h' (p_F_tr hF f1))
  | succ c9 ih =>
    intro S0 pl cs sk cl nc sg na op ov bh hn hF hT hZ hb hp hsk hcl
    have he : (S0 99 4).toInt ≤ 240 := by rw [hF 99 4 (by omega)]; exact he0
    exact h_txLS he hT hZ hb hp hsk hcl (fun S1 pl' cs' sk' nc' sg' na' o v' h' f1 f2 f3 f4 f5 f6 f7 f8 => ih S1 pl' cs' sk' _ nc' sg' na' o v' h' (by omega) (p_F_tr hF f1) f2 f3 f5 f6 f7 (by omega)) (fun S1 pl' cs' sk' nc' sg' na' o v' h' f1 f2 f3 f4 f5 f6 f7 f8 => K9 S1 pl' cs' sk' _ nc' sg' na' o v' h' (p_F_tr hF f1) f2 f3 (by omega) (by omega) (by omega) (by omega)) (fun S1 pl' cs' sk' cl' b' nc' sg' na' o v' h' f1 => Kb S1 pl' cs' sk' cl' b' nc' sg' na' o v' h' (p_F_tr hF f1))
theorem h_txRS {n : Int32} (he : (S0 99 4).toInt ≤ 240) (hT : v_Tb v_ty S0 R) (hZ : p_Z S0 cl cs nc) (hb : cs ≤ pl) (hp : pl ≤ 240) (hsk : sk ≤ 240) (hcl : cl ≤ 12) (K7 : ∀ (S1 : v_Sf) (pl' cs' sk' : Nat) (nc' sg' na' : Nat → Int32) (o : Int32) (v' h' : Bool), p_F S0 S1 → v_Tb v_ty S1 R → p_Z S1 (cl + 1) cs' nc' → pl < pl' → cs' ≤ pl' → pl' ≤ 240 → sk' ≤ 240 → cl < 12 → w_T L xs (d + 8) m_X12_takesText 17 [(3, .int (Int32.ofInt 1)), (0, .ref 100), (1, .int n), (2, .int (Int32.ofInt 1))] [] (p_S S1 (pl') (cs') (sk') (cl + 1) (Int32.ofInt 0) (nc') (sg') (v') (h') o (na')) R Q) (K9 : ∀ (S1 : v_Sf) (pl' cs' sk' : Nat) (nc' sg' na' : Nat → Int32) (o : Int32) (v' h' : Bool), p_F S0 S1 → v_Tb v_ty S1 R → p_Z S1 (cl + 1) cs' nc' → pl ≤ pl' → cs' ≤ pl' → pl' ≤ 240 → sk' ≤ 240 → cl < 12 → w_T L xs (d + 8) m_X12_takesText 92 [(3, .int (Int32.ofInt 0)), (0, .ref 100), (1, .int n), (2, .int (Int32.ofInt 1))] [] (p_S S1 (pl') (cs') (sk') (cl + 1) (Int32.ofInt 0) (nc') (sg') (v') (h') o (na')) R Q) (Kb : ∀ (S1 : v_Sf) (pl' cs' sk' cl' : Nat) (b' : Int32) (nc' sg' na' : Nat → Int32) (o : Int32) (v' h' : Bool), p_F S0 S1 → v_Tb v_ty S1 R → b'.toInt < 0 → cs' ≤ 240 → pl' ≤ 240 → sk' ≤ 240 → cl' ≤ 16 → Q (some (.int b')) (p_S S1 (pl') (cs') (sk') (cl') (b') (nc') (sg') (v') (h') o (na')) R) : w_T L xs (d + 8) m_X12_takesText 17 [(3, .int (Int32.ofInt 1)), (0, .ref 100), (1, .int n), (2, .int (Int32.ofInt 1))] [] (p_S S0 pl cs sk cl (Int32.ofInt 0) nc sg ov bh op na) R Q := by
  refine w_st rfl (fun _ => rfl) ?_
  show w_T L xs (d + 8) m_X12_takesText 18 [(3, .int (Int32.ofInt 1)), (0, .ref 100), (1, .int n), (2, .int (Int32.ofInt 1))] [.int (Int32.ofInt 1)] (p_S S0 pl cs sk cl (Int32.ofInt 0) nc sg ov bh op na) R Q
  refine w_st rfl (fun _ => rfl) ?_
  refine w_st rfl (fun _ => rfl) ?_
  show w_T L xs (d + 8) m_X12_takesText 22 [(3, .int (Int32.ofInt 1)), (0, .ref 100), (1, .int n), (2, .int (Int32.ofInt 1))] [.ref 100] (p_S S0 pl cs sk cl (Int32.ofInt 0) nc sg ov bh op na) R Q
  refine w_cv rfl (by decide) mt_X12_isGood v_tyM rfl rfl rfl (Nat.le_of_ble_eq_true rfl) (Nat.le_of_ble_eq_true rfl) (Nat.le_of_ble_eq_true rfl) ?_
  show w_T L xs _ m_X12_isGood 0 (lv_args 0 [.ref 100]) [] (p_S S0 pl cs sk cl (Int32.ofInt 0) nc sg ov bh op na) R _
  refine h_isGT ?_
  show w_T L xs (d + 8) m_X12_takesText 25 [(3, .int (Int32.ofInt 1)), (0, .ref 100), (1, .int n), (2, .int (Int32.ofInt 1))] [.int (Int32.ofInt 1)] (p_S S0 pl cs sk cl (Int32.ofInt 0) nc sg ov bh op na) R Q
  refine w_st rfl (fun _ => rfl) ?_
  refine w_st rfl (fun _ => rfl) ?_
  refine w_st rfl (fun _ => rfl) ?_
  show w_T L xs (d + 8) m_X12_takesText 30 [(3, .int (Int32.ofInt 1)), (0, .ref 100), (1, .int n), (2, .int (Int32.ofInt 1))] [.int (Int32.ofInt 1), .ref 100] (p_S S0 pl cs sk cl (Int32.ofInt 0) nc sg ov bh op na) R Q
  refine w_cv rfl (by decide) mt_X12_clause v_tyM rfl rfl rfl (Nat.le_of_ble_eq_true rfl) (Nat.le_of_ble_eq_true rfl) (Nat.le_of_ble_eq_true rfl) ?_
  show w_T L xs _ m_X12_clause 0 (lv_args 0 [.ref 100, .int (Int32.ofInt 1)]) [] (p_S S0 pl cs sk cl (Int32.ofInt 0) nc sg ov bh op na) R _
  refine h_clR he hT hZ hb hp hsk hcl (fun S1 pl1 cs1 sk1 nc1 sg1 na1 o1 v1 h1 f1 f2 f3 f4 f5 f6 f7 f8 => ?_) (fun S1 pl1 cs1 sk1 cl1 b30 nc1 sg1 na1 o1 v1 h1 f1 f2 hb30 f4 f5 f6 f7 => ?_)
  · have e14 : S1 99 4 = S0 99 4 := f1 99 4 (by omega)
    show w_T L xs (d + 8) m_X12_takesText 33 [(3, .int (Int32.ofInt 1)), (0, .ref 100), (1, .int n), (2, .int (Int32.ofInt 1))] [] (p_S S1 pl1 cs1 sk1 (cl + 1) (Int32.ofInt 0) nc1 sg1 v1 h1 o1 na1) R Q
    refine w_st rfl (fun _ => rfl) ?_
    show w_T L xs (d + 8) m_X12_takesText 34 [(3, .int (Int32.ofInt 1)), (0, .ref 100), (1, .int n), (2, .int (Int32.ofInt 1))] [.ref 100] (p_S S1 pl1 cs1 sk1 (cl + 1) (Int32.ofInt 0) nc1 sg1 v1 h1 o1 na1) R Q
    refine w_cv rfl (by decide) mt_X12_isGood v_tyM rfl rfl rfl (Nat.le_of_ble_eq_true rfl) (Nat.le_of_ble_eq_true rfl) (Nat.le_of_ble_eq_true rfl) ?_
    show w_T L xs _ m_X12_isGood 0 (lv_args 0 [.ref 100]) [] (p_S S1 pl1 cs1 sk1 (cl + 1) (Int32.ofInt 0) nc1 sg1 v1 h1 o1 na1) R _
    refine h_isGT ?_
    show w_T L xs (d + 8) m_X12_takesText 37 [(3, .int (Int32.ofInt 1)), (0, .ref 100), (1, .int n), (2, .int (Int32.ofInt 1))] [.int (Int32.ofInt 1)] (p_S S1 pl1 cs1 sk1 (cl + 1) (Int32.ofInt 0) nc1 sg1 v1 h1 o1 na1) R Q
    refine w_st rfl (fun _ => rfl) ?_
    refine w_st rfl (fun _ => rfl) ?_
    show w_T L xs (d + 8) m_X12_takesText 41 [(3, .int (Int32.ofInt 1)), (0, .ref 100), (1, .int n), (2, .int (Int32.ofInt 1))] [.ref 100] (p_S S1 pl1 cs1 sk1 (cl + 1) (Int32.ofInt 0) nc1 sg1 v1 h1 o1 na1) R Q
    refine w_get rfl v_tyM rfl ?_
    refine w_st rfl (fun _ => rfl) ?_
    show w_T L xs (d + 8) m_X12_takesText 45 [(3, .int (Int32.ofInt 1)), (0, .ref 100), (1, .int n), (2, .int (Int32.ofInt 1))] [.ref 100, .int (Int32.ofInt (pl1 : Int))] (p_S S1 pl1 cs1 sk1 (cl + 1) (Int32.ofInt 0) nc1 sg1 v1 h1 o1 na1) R Q
    refine w_get rfl v_tyM rfl ?_
    show w_T L xs (d + 8) m_X12_takesText 48 [(3, .int (Int32.ofInt 1)), (0, .ref 100), (1, .int n), (2, .int (Int32.ofInt 1))] [.int (S1 99 4), .int (Int32.ofInt (pl1 : Int))] (p_S S1 pl1 cs1 sk1 (cl + 1) (Int32.ofInt 0) nc1 sg1 v1 h1 o1 na1) R Q
    refine w_br (P := (S1 99 4) ≤ (Int32.ofInt (pl1 : Int))) rfl (fun _ => rfl) (fun h48 => ?_) (fun h48 => ?_)
    · refine w_st rfl (fun _ => rfl) ?_
      refine w_st rfl (fun _ => rfl) ?_
      refine w_st rfl (fun _ => rfl) ?_
      show w_T L xs (d + 8) m_X12_takesText 58 [(3, .int (Int32.ofInt 0)), (0, .ref 100), (1, .int n), (2, .int (Int32.ofInt 1))] [.int (Int32.ofInt 0)] (p_S S1 pl1 cs1 sk1 (cl + 1) (Int32.ofInt 0) nc1 sg1 v1 h1 o1 na1) R Q
      refine w_st rfl (fun _ => rfl) ?_
      show w_T L xs (d + 8) m_X12_takesText 17 [(3, .int (Int32.ofInt 0)), (0, .ref 100), (1, .int n), (2, .int (Int32.ofInt 1))] [] (p_S S1 pl1 cs1 sk1 (cl + 1) (Int32.ofInt 0) nc1 sg1 v1 h1 o1 na1) R Q
      refine w_st rfl (fun _ => rfl) ?_
      show w_T L xs (d + 8) m_X12_takesText 18 [(3, .int (Int32.ofInt 0)), (0, .ref 100), (1, .int n), (2, .int (Int32.ofInt 1))] [.int (Int32.ofInt 0)] (p_S S1 pl1 cs1 sk1 (cl + 1) (Int32.ofInt 0) nc1 sg1 v1 h1 o1 na1) R Q
      refine w_st rfl (fun _ => rfl) ?_
      show w_T L xs (d + 8) m_X12_takesText 92 [(3, .int (Int32.ofInt 0)), (0, .ref 100), (1, .int n), (2, .int (Int32.ofInt 1))] [] (p_S S1 pl1 cs1 sk1 (cl + 1) (Int32.ofInt 0) nc1 sg1 v1 h1 o1 na1) R Q
      exact K9 _ _ _ _ _ _ _ _ _ _ f1 f2 f3 f4 f5 f6 f7 f8
    · have hlt : (pl1 : Int) < (S0 99 4).toInt := by
        rw [q_le32, e14, w_nat (by omega)] at h48
        omega
      refine w_st rfl (fun _ => rfl) ?_
      refine w_st rfl (fun _ => rfl) ?_
      refine w_st rfl (fun _ => rfl) ?_
      refine w_st rfl (fun _ => rfl) ?_
      show w_T L xs (d + 8) m_X12_takesText 58 [(3, .int (Int32.ofInt 1)), (0, .ref 100), (1, .int n), (2, .int (Int32.ofInt 1))] [.int (Int32.ofInt 1)] (p_S S1 pl1 cs1 sk1 (cl + 1) (Int32.ofInt 0) nc1 sg1 v1 h1 o1 na1) R Q
      refine w_st rfl (fun _ => rfl) ?_
      refine w_st rfl (fun _ => rfl) ?_
      show w_T L xs (d + 8) m_X12_takesText 62 [(3, .int (Int32.ofInt 1)), (0, .ref 100), (1, .int n), (2, .int (Int32.ofInt 1))] [.ref 100] (p_S S1 pl1 cs1 sk1 (cl + 1) (Int32.ofInt 0) nc1 sg1 v1 h1 o1 na1) R Q
      refine w_cv rfl (by decide) mt_X12_here v_tyM rfl rfl rfl (Nat.le_of_ble_eq_true rfl) (Nat.le_of_ble_eq_true rfl) (Nat.le_of_ble_eq_true rfl) ?_
      show w_T L xs _ m_X12_here 0 (lv_args 0 [.ref 100]) [] (p_S S1 pl1 cs1 sk1 (cl + 1) (Int32.ofInt 0) nc1 sg1 v1 h1 o1 na1) R _
      refine h_here (by omega) ?_
      refine w_st rfl (fun _ => rfl) ?_
      show w_T L xs (d + 8) m_X12_takesText 67 [(3, .int (Int32.ofInt 1)), (0, .ref 100), (1, .int n), (2, .int (Int32.ofInt 1))] [.int (Int32.ofInt 59), .int (p_h S1 pl1)] (p_S S1 pl1 cs1 sk1 (cl + 1) (Int32.ofInt 0) nc1 sg1 v1 h1 o1 na1) R Q
      refine w_br (P := (p_h S1 pl1) = (Int32.ofInt 59)) rfl (fun _ => rfl) (fun h67 => ?_) (fun h67 => ?_)
      · refine w_st rfl (fun _ => rfl) ?_
        refine w_st rfl (fun _ => rfl) ?_
        show w_T L xs (d + 8) m_X12_takesText 81 [(3, .int (Int32.ofInt 1)), (0, .ref 100), (1, .int n), (2, .int (Int32.ofInt 1))] [.ref 100, .ref 100] (p_S S1 pl1 cs1 sk1 (cl + 1) (Int32.ofInt 0) nc1 sg1 v1 h1 o1 na1) R Q
        refine w_get rfl v_tyM rfl ?_
        refine w_st rfl (fun _ => rfl) ?_
        refine w_st rfl (fun _ => rfl) ?_
        show w_T L xs (d + 8) m_X12_takesText 86 [(3, .int (Int32.ofInt 1)), (0, .ref 100), (1, .int n), (2, .int (Int32.ofInt 1))] [.int ((Int32.ofInt (pl1 : Int)) + (Int32.ofInt 1)), .ref 100] (p_S S1 pl1 cs1 sk1 (cl + 1) (Int32.ofInt 0) nc1 sg1 v1 h1 o1 na1) R Q
        refine w_put rfl v_tyM rfl rfl rfl ?_
        refine w_eqS (p_wpl (w_inc _)) ?_
        refine w_st rfl (fun _ => rfl) ?_
        show w_T L xs (d + 8) m_X12_takesText 17 [(3, .int (Int32.ofInt 1)), (0, .ref 100), (1, .int n), (2, .int (Int32.ofInt 1))] [] (p_S S1 (pl1 + 1) cs1 sk1 (cl + 1) (Int32.ofInt 0) nc1 sg1 v1 h1 o1 na1) R Q
        exact K7 _ _ _ _ _ _ _ _ _ _ f1 f2 f3 (by omega) (by omega) (by omega) f7 f8
      · refine w_st rfl (fun _ => rfl) ?_
        refine w_st rfl (fun _ => rfl) ?_
        refine w_st rfl (fun _ => rfl) ?_
        show w_T L xs (d + 8) m_X12_takesText 73 [(3, .int (Int32.ofInt 1)), (0, .ref 100), (1, .int n), (2, .int (Int32.ofInt 1))] [.ref 100, .int (Int32.ofInt 1), .ref 100] (p_S S1 pl1 cs1 sk1 (cl + 1) (Int32.ofInt 0) nc1 sg1 v1 h1 o1 na1) R Q
        refine w_get rfl v_tyM rfl ?_
        show w_T L xs (d + 8) m_X12_takesText 76 [(3, .int (Int32.ofInt 1)), (0, .ref 100), (1, .int n), (2, .int (Int32.ofInt 1))] [.int (Int32.ofInt (pl1 : Int)), .int (Int32.ofInt 1), .ref 100] (p_S S1 pl1 cs1 sk1 (cl + 1) (Int32.ofInt 0) nc1 sg1 v1 h1 o1 na1) R Q
        refine w_cv rfl (by decide) mt_X12_wrongs v_tyM rfl rfl rfl (Nat.le_of_ble_eq_true rfl) (Nat.le_of_ble_eq_true rfl) (Nat.le_of_ble_eq_true rfl) ?_
        show w_T L xs _ m_X12_wrongs 0 (lv_args 0 [.ref 100, .int (Int32.ofInt 1), .int (Int32.ofInt (pl1 : Int))]) [] (p_S S1 pl1 cs1 sk1 (cl + 1) (Int32.ofInt 0) nc1 sg1 v1 h1 o1 na1) R _
        refine h_wr (by decide) (by decide) (by rw [w_nat (by omega)]; omega) (by rw [w_nat (by omega)]; omega) (fun b76 hb76 => ?_)
        refine w_st rfl (fun _ => rfl) ?_
        refine w_st rfl (fun _ => rfl) ?_
        show w_T L xs (d + 8) m_X12_takesText 81 [(3, .int (Int32.ofInt 1)), (0, .ref 100), (1, .int n), (2, .int (Int32.ofInt 1))] [.ref 100, .ref 100] (p_S S1 pl1 cs1 sk1 (cl + 1) b76 nc1 sg1 v1 h1 o1 na1) R Q
        refine w_get rfl v_tyM rfl ?_
        refine w_st rfl (fun _ => rfl) ?_
        refine w_st rfl (fun _ => rfl) ?_
        show w_T L xs (d + 8) m_X12_takesText 86 [(3, .int (Int32.ofInt 1)), (0, .ref 100), (1, .int n), (2, .int (Int32.ofInt 1))] [.int ((Int32.ofInt (pl1 : Int)) + (Int32.ofInt 1)), .ref 100] (p_S S1 pl1 cs1 sk1 (cl + 1) b76 nc1 sg1 v1 h1 o1 na1) R Q
        refine w_put rfl v_tyM rfl rfl rfl ?_
        refine w_eqS (p_wpl (w_inc _)) ?_
        refine w_st rfl (fun _ => rfl) ?_
        show w_T L xs (d + 8) m_X12_takesText 17 [(3, .int (Int32.ofInt 1)), (0, .ref 100), (1, .int n), (2, .int (Int32.ofInt 1))] [] (p_S S1 (pl1 + 1) cs1 sk1 (cl + 1) b76 nc1 sg1 v1 h1 o1 na1) R Q
        refine w_st rfl (fun _ => rfl) ?_
        show w_T L xs (d + 8) m_X12_takesText 18 [(3, .int (Int32.ofInt 1)), (0, .ref 100), (1, .int n), (2, .int (Int32.ofInt 1))] [.int (Int32.ofInt 1)] (p_S S1 (pl1 + 1) cs1 sk1 (cl + 1) b76 nc1 sg1 v1 h1 o1 na1) R Q
        refine w_st rfl (fun _ => rfl) ?_
        refine w_st rfl (fun _ => rfl) ?_
        show w_T L xs (d + 8) m_X12_takesText 22 [(3, .int (Int32.ofInt 1)), (0, .ref 100), (1, .int n), (2, .int (Int32.ofInt 1))] [.ref 100] (p_S S1 (pl1 + 1) cs1 sk1 (cl + 1) b76 nc1 sg1 v1 h1 o1 na1) R Q
        refine w_cv rfl (by decide) mt_X12_isGood v_tyM rfl rfl rfl (Nat.le_of_ble_eq_true rfl) (Nat.le_of_ble_eq_true rfl) (Nat.le_of_ble_eq_true rfl) ?_
        show w_T L xs _ m_X12_isGood 0 (lv_args 0 [.ref 100]) [] (p_S S1 (pl1 + 1) cs1 sk1 (cl + 1) b76 nc1 sg1 v1 h1 o1 na1) R _
        refine h_isGF hb76 ?_
        show w_T L xs (d + 8) m_X12_takesText 25 [(3, .int (Int32.ofInt 1)), (0, .ref 100), (1, .int n), (2, .int (Int32.ofInt 1))] [.int (Int32.ofInt 0)] (p_S S1 (pl1 + 1) cs1 sk1 (cl + 1) b76 nc1 sg1 v1 h1 o1 na1) R Q
        refine w_st rfl (fun _ => rfl) ?_
        show w_T L xs (d + 8) m_X12_takesText 92 [(3, .int (Int32.ofInt 1)), (0, .ref 100), (1, .int n), (2, .int (Int32.ofInt 1))] [] (p_S S1 (pl1 + 1) cs1 sk1 (cl + 1) b76 nc1 sg1 v1 h1 o1 na1) R Q
        refine w_st rfl (fun _ => rfl) ?_
        show w_T L xs (d + 8) m_X12_takesText 93 [(3, .int (Int32.ofInt 1)), (0, .ref 100), (1, .int n), (2, .int (Int32.ofInt 1))] [.ref 100] (p_S S1 (pl1 + 1) cs1 sk1 (cl + 1) b76 nc1 sg1 v1 h1 o1 na1) R Q
        refine w_get rfl v_tyM rfl ?_
        show w_T L xs (d + 8) m_X12_takesText 96 [(3, .int (Int32.ofInt 1)), (0, .ref 100), (1, .int n), (2, .int (Int32.ofInt 1))] [.int b76] (p_S S1 (pl1 + 1) cs1 sk1 (cl + 1) b76 nc1 sg1 v1 h1 o1 na1) R Q
        refine w_br (P := 0 ≤ b76) rfl (fun _ => rfl) (fun h96 => ?_) (fun h96 => ?_)
        · exfalso
          rw [q_le32] at h96
          have z0 : (0 : Int32).toInt = 0 := rfl
          omega
        · refine w_st rfl (fun _ => rfl) ?_
          show w_T L xs (d + 8) m_X12_takesText 100 [(3, .int (Int32.ofInt 1)), (0, .ref 100), (1, .int n), (2, .int (Int32.ofInt 1))] [.ref 100] (p_S S1 (pl1 + 1) cs1 sk1 (cl + 1) b76 nc1 sg1 v1 h1 o1 na1) R Q
          refine w_get rfl v_tyM rfl ?_
          show w_T L xs (d + 8) m_X12_takesText 103 [(3, .int (Int32.ofInt 1)), (0, .ref 100), (1, .int n), (2, .int (Int32.ofInt 1))] [.int b76] (p_S S1 (pl1 + 1) cs1 sk1 (cl + 1) b76 nc1 sg1 v1 h1 o1 na1) R Q
          refine w_ret rfl (by rfl) ?_
          exact Kb _ _ _ _ _ _ _ _ _ _ _ _ f1 f2 hb76 (by omega) (by omega) (by omega) (by omega)
  · show w_T L xs (d + 8) m_X12_takesText 33 [(3, .int (Int32.ofInt 1)), (0, .ref 100), (1, .int n), (2, .int (Int32.ofInt 1))] [] (p_S S1 pl1 cs1 sk1 cl1 b30 nc1 sg1 v1 h1 o1 na1) R Q
    refine w_st rfl (fun _ => rfl) ?_
    show w_T L xs (d + 8) m_X12_takesText 34 [(3, .int (Int32.ofInt 1)), (0, .ref 100), (1, .int n), (2, .int (Int32.ofInt 1))] [.ref 100] (p_S S1 pl1 cs1 sk1 cl1 b30 nc1 sg1 v1 h1 o1 na1) R Q
    refine w_cv rfl (by decide) mt_X12_isGood v_tyM rfl rfl rfl (Nat.le_of_ble_eq_true rfl) (Nat.le_of_ble_eq_true rfl) (Nat.le_of_ble_eq_true rfl) ?_
    show w_T L xs _ m_X12_isGood 0 (lv_args 0 [.ref 100]) [] (p_S S1 pl1 cs1 sk1 cl1 b30 nc1 sg1 v1 h1 o1 na1) R _
    refine h_isGF hb30 ?_
    show w_T L xs (d + 8) m_X12_takesText 37 [(3, .int (Int32.ofInt 1)), (0, .ref 100), (1, .int n), (2, .int (Int32.ofInt 1))] [.int (Int32.ofInt 0)] (p_S S1 pl1 cs1 sk1 cl1 b30 nc1 sg1 v1 h1 o1 na1) R Q
    refine w_st rfl (fun _ => rfl) ?_
    refine w_st rfl (fun _ => rfl) ?_
    refine w_st rfl (fun _ => rfl) ?_
    refine w_st rfl (fun _ => rfl) ?_
    show w_T L xs (d + 8) m_X12_takesText 58 [(3, .int (Int32.ofInt 0)), (0, .ref 100), (1, .int n), (2, .int (Int32.ofInt 1))] [.int (Int32.ofInt 0)] (p_S S1 pl1 cs1 sk1 cl1 b30 nc1 sg1 v1 h1 o1 na1) R Q
    refine w_st rfl (fun _ => rfl) ?_
    show w_T L xs (d + 8) m_X12_takesText 17 [(3, .int (Int32.ofInt 0)), (0, .ref 100), (1, .int n), (2, .int (Int32.ofInt 1))] [] (p_S S1 pl1 cs1 sk1 cl1 b30 nc1 sg1 v1 h1 o1 na1) R Q
    refine w_st rfl (fun _ => rfl) ?_
    show w_T L xs (d + 8) m_X12_takesText 18 [(3, .int (Int32.ofInt 0)), (0, .ref 100), (1, .int n), (2, .int (Int32.ofInt 1))] [.int (Int32.ofInt 0)] (p_S S1 pl1 cs1 sk1 cl1 b30 nc1 sg1 v1 h1 o1 na1) R Q
    refine w_st rfl (fun _ => rfl) ?_
    show w_T L xs (d + 8) m_X12_takesText 92 [(3, .int (Int32.ofInt 0)), (0, .ref 100), (1, .int n), (2, .int (Int32.ofInt 1))] [] (p_S S1 pl1 cs1 sk1 cl1 b30 nc1 sg1 v1 h1 o1 na1) R Q
    refine w_st rfl (fun _ => rfl) ?_
    show w_T L xs (d + 8) m_X12_takesText 93 [(3, .int (Int32.ofInt 0)), (0, .ref 100), (1, .int n), (2, .int (Int32.ofInt 1))] [.ref 100] (p_S S1 pl1 cs1 sk1 cl1 b30 nc1 sg1 v1 h1 o1 na1) R Q
    refine w_get rfl v_tyM rfl ?_
    show w_T L xs (d + 8) m_X12_takesText 96 [(3, .int (Int32.ofInt 0)), (0, .ref 100), (1, .int n), (2, .int (Int32.ofInt 1))] [.int b30] (p_S S1 pl1 cs1 sk1 cl1 b30 nc1 sg1 v1 h1 o1 na1) R Q
    refine w_br (P := 0 ≤ b30) rfl (fun _ => rfl) (fun h96 => ?_) (fun h96 => ?_)
    · exfalso
      rw [q_le32] at h96
      have z0 : (0 : Int32).toInt = 0 := rfl
      omega
    · refine w_st rfl (fun _ => rfl) ?_
      show w_T L xs (d + 8) m_X12_takesText 100 [(3, .int (Int32.ofInt 0)), (0, .ref 100), (1, .int n), (2, .int (Int32.ofInt 1))] [.ref 100] (p_S S1 pl1 cs1 sk1 cl1 b30 nc1 sg1 v1 h1 o1 na1) R Q
      refine w_get rfl v_tyM rfl ?_
      show w_T L xs (d + 8) m_X12_takesText 103 [(3, .int (Int32.ofInt 0)), (0, .ref 100), (1, .int n), (2, .int (Int32.ofInt 1))] [.int b30] (p_S S1 pl1 cs1 sk1 cl1 b30 nc1 sg1 v1 h1 o1 na1) R Q
      refine w_ret rfl (by rfl) ?_
      exact Kb _ _ _ _ _ _ _ _ _ _ _ _ f1 f2 hb30 (by omega) (by omega) (by omega) (by omega)
theorem h_txRL {n : Int32} {S00 : v_Sf} (he0 : (S00 99 4).toInt ≤ 240) (K9 : ∀ (S1 : v_Sf) (pl' cs' sk' cl' : Nat) (nc' sg' na' : Nat → Int32) (o : Int32) (v' h' : Bool), p_F S00 S1 → v_Tb v_ty S1 R → p_Z S1 cl' cs' nc' → cs' ≤ 240 → pl' ≤ 240 → sk' ≤ 240 → cl' ≤ 12 → w_T L xs (d + 8) m_X12_takesText 92 [(3, .int (Int32.ofInt 0)), (0, .ref 100), (1, .int n), (2, .int (Int32.ofInt 1))] [] (p_S S1 (pl') (cs') (sk') (cl') (Int32.ofInt 0) (nc') (sg') (v') (h') o (na')) R Q) (Kb : ∀ (S1 : v_Sf) (pl' cs' sk' cl' : Nat) (b' : Int32) (nc' sg' na' : Nat → Int32) (o : Int32) (v' h' : Bool), p_F S00 S1 → v_Tb v_ty S1 R → b'.toInt < 0 → cs' ≤ 240 → pl' ≤ 240 → sk' ≤ 240 → cl' ≤ 16 → Q (some (.int b')) (p_S S1 (pl') (cs') (sk') (cl') (b') (nc') (sg') (v') (h') o (na')) R) : ∀ (c9 : Nat) (S0 : v_Sf) (pl cs sk cl : Nat) (nc sg na : Nat → Int32) (op : Int32) (ov bh : Bool), 240 ≤ pl + c9 → p_F S00 S0 → v_Tb v_ty S0 R → p_Z S0 cl cs nc → cs ≤ pl → pl ≤ 240 → sk ≤ 240 → cl ≤ 12 → w_T L xs (d + 8) m_X12_takesText 17 [(3, .int (Int32.ofInt 1)), (0, .ref 100), (1, .int n), (2, .int (Int32.ofInt 1))] [] (p_S S0 pl cs sk cl (Int32.ofInt 0) nc sg ov bh op na) R Q := by
  intro c9
  induction c9 with
  | zero =>
    intro S0 pl cs sk cl nc sg na op ov bh hn hF hT hZ hb hp hsk hcl
    have he : (S0 99 4).toInt ≤ 240 := by rw [hF 99 4 (by omega)]; exact he0
    exact h_txRS he hT hZ hb hp hsk hcl (fun S1 pl' cs' sk' nc' sg' na' o v' h' f1 f2 f3 f4 f5 f6 f7 f8 => absurd f6 (by omega)) (fun S1 pl' cs' sk' nc' sg' na' o v' h' f1 f2 f3 f4 f5 f6 f7 f8 => K9 S1 pl' cs' sk' _ nc' sg' na' o v' h' (p_F_tr hF f1) f2 f3 (by omega) (by omega) (by omega) (by omega)) (fun S1 pl' cs' sk' cl' b' nc' sg' na' o v' h' f1 => Kb S1 pl' cs' sk' cl' b' nc' sg' na' o v' h' (p_F_tr hF f1))
  | succ c9 ih =>
    intro S0 pl cs sk cl nc sg na op ov bh hn hF hT hZ hb hp hsk hcl
    have he : (S0 99 4).toInt ≤ 240 := by rw [hF 99 4 (by omega)]; exact he0
    exact h_txRS he hT hZ hb hp hsk hcl (fun S1 pl' cs' sk' nc' sg' na' o v' h' f1 f2 f3 f4 f5 f6 f7 f8 => ih S1 pl' cs' sk' _ nc' sg' na' o v' h' (by omega) (p_F_tr hF f1) f2 f3 f5 f6 f7 (by omega)) (fun S1 pl' cs' sk' nc' sg' na' o v' h' f1 f2 f3 f4 f5 f6 f7 f8 => K9 S1 pl' cs' sk' _ nc' sg' na' o v' h' (p_F_tr hF f1) f2 f3 (by omega) (by omega) (by omega) (by omega)) (fun S1 pl' cs' sk' cl' b' nc' sg' na' o v' h' f1 => Kb S1 pl' cs' sk' cl' b' nc' sg' na' o v' h' (p_F_tr hF f1))
theorem h_c1 {n m0 u0 : Int32} {f B : Nat} (hf : f + 12 ≤ 28) (hf2 : f + cl ≤ 28) (hcl : cl ≤ 16) (K : ∀ S2 : v_Sf, v_Tb v_ty S2 R → p_T f B cl S0 S2 → w_T L xs (d + 8) m_X12_takesText 224 [(6, .int (Int32.ofInt (cl : Int))), (5, .int (Int32.ofInt (B : Int))), (4, .int (Int32.ofInt (f : Int))), (3, .int m0), (0, .ref 100), (1, .int n), (2, .int u0)] [] (p_S S2 pl cs sk cl (Int32.ofInt 0) nc sg ov bh op na) R Q) : ∀ (c k : Nat) (S1 : v_Sf), k + c = cl → v_Tb v_ty S1 R → p_T f B k S0 S1 → w_T L xs (d + 8) m_X12_takesText 132 [(6, .int (Int32.ofInt (k : Int))), (5, .int (Int32.ofInt (B : Int))), (4, .int (Int32.ofInt (f : Int))), (3, .int m0), (0, .ref 100), (1, .int n), (2, .int u0)] [] (p_S S1 pl cs sk cl (Int32.ofInt 0) nc sg ov bh op na) R Q := by
  intro c
  induction c with
  | zero =>
    intro k S1 hk hT hP
    obtain rfl : k = cl := by omega
    have ek := w_nat (k := k) (by omega)
    refine w_st rfl (fun _ => rfl) ?_
    refine w_st rfl (fun _ => rfl) ?_
    show w_T L xs (d + 8) m_X12_takesText 135 [(6, .int (Int32.ofInt (k : Int))), (5, .int (Int32.ofInt (B : Int))), (4, .int (Int32.ofInt (f : Int))), (3, .int m0), (0, .ref 100), (1, .int n), (2, .int u0)] [.ref 100, .int (Int32.ofInt (k : Int))] (p_S S1 pl cs sk k (Int32.ofInt 0) nc sg ov bh op na) R Q
    refine w_get rfl v_tyM rfl ?_
    show w_T L xs (d + 8) m_X12_takesText 138 [(6, .int (Int32.ofInt (k : Int))), (5, .int (Int32.ofInt (B : Int))), (4, .int (Int32.ofInt (f : Int))), (3, .int m0), (0, .ref 100), (1, .int n), (2, .int u0)] [.int (Int32.ofInt (k : Int)), .int (Int32.ofInt (k : Int))] (p_S S1 pl cs sk k (Int32.ofInt 0) nc sg ov bh op na) R Q
    refine w_br (P := (Int32.ofInt (k : Int)) ≤ (Int32.ofInt (k : Int))) rfl (fun _ => rfl) (fun h138 => ?_) (fun h138 => ?_)
    · exact K S1 hT hP
    · exfalso; rw [q_le32] at h138; omega
  | succ c ih =>
    intro k S1 hk hT hP
    have ek := w_nat (k := k) (by omega)
    have ec := w_nat (k := cl) (by omega)
    refine w_st rfl (fun _ => rfl) ?_
    refine w_st rfl (fun _ => rfl) ?_
    show w_T L xs (d + 8) m_X12_takesText 135 [(6, .int (Int32.ofInt (k : Int))), (5, .int (Int32.ofInt (B : Int))), (4, .int (Int32.ofInt (f : Int))), (3, .int m0), (0, .ref 100), (1, .int n), (2, .int u0)] [.ref 100, .int (Int32.ofInt (k : Int))] (p_S S1 pl cs sk cl (Int32.ofInt 0) nc sg ov bh op na) R Q
    refine w_get rfl v_tyM rfl ?_
    show w_T L xs (d + 8) m_X12_takesText 138 [(6, .int (Int32.ofInt (k : Int))), (5, .int (Int32.ofInt (B : Int))), (4, .int (Int32.ofInt (f : Int))), (3, .int m0), (0, .ref 100), (1, .int n), (2, .int u0)] [.int (Int32.ofInt (cl : Int)), .int (Int32.ofInt (k : Int))] (p_S S1 pl cs sk cl (Int32.ofInt 0) nc sg ov bh op na) R Q
    refine w_br (P := (Int32.ofInt (cl : Int)) ≤ (Int32.ofInt (k : Int))) rfl (fun _ => rfl) (fun h138 => ?_) (fun h138 => ?_)
    · exfalso; rw [q_le32, ec, ek] at h138; omega
    · refine w_st rfl (fun _ => rfl) ?_
      show w_T L xs (d + 8) m_X12_takesText 142 [(6, .int (Int32.ofInt (k : Int))), (5, .int (Int32.ofInt (B : Int))), (4, .int (Int32.ofInt (f : Int))), (3, .int m0), (0, .ref 100), (1, .int n), (2, .int u0)] [.ref 100] (p_S S1 pl cs sk cl (Int32.ofInt 0) nc sg ov bh op na) R Q
      refine w_getr rfl v_tyM rfl ?_
      refine w_st rfl (fun _ => rfl) ?_
      refine w_st rfl (fun _ => rfl) ?_
      refine w_st rfl (fun _ => rfl) ?_
      refine w_st rfl (fun _ => rfl) ?_
      show w_T L xs (d + 8) m_X12_takesText 151 [(6, .int (Int32.ofInt (k : Int))), (5, .int (Int32.ofInt (B : Int))), (4, .int (Int32.ofInt (f : Int))), (3, .int m0), (0, .ref 100), (1, .int n), (2, .int u0)] [.ref 100, .int ((Int32.ofInt (f : Int)) + (Int32.ofInt (k : Int))), .ref 102] (p_S S1 pl cs sk cl (Int32.ofInt 0) nc sg ov bh op na) R Q
      refine w_getr rfl v_tyM rfl ?_
      refine w_st rfl (fun _ => rfl) ?_
      show w_T L xs (d + 8) m_X12_takesText 156 [(6, .int (Int32.ofInt (k : Int))), (5, .int (Int32.ofInt (B : Int))), (4, .int (Int32.ofInt (f : Int))), (3, .int m0), (0, .ref 100), (1, .int n), (2, .int u0)] [.int (Int32.ofInt (k : Int)), .ref 108, .int ((Int32.ofInt (f : Int)) + (Int32.ofInt (k : Int))), .ref 102] (p_S S1 pl cs sk cl (Int32.ofInt 0) nc sg ov bh op na) R Q
      refine w_iald rfl rfl (by rw [w_nat (by omega)]; omega) (by rw [w_nat (by omega)]; omega) ?_
      rw [w_natn (by omega)]
      show w_T L xs (d + 8) m_X12_takesText 157 [(6, .int (Int32.ofInt (k : Int))), (5, .int (Int32.ofInt (B : Int))), (4, .int (Int32.ofInt (f : Int))), (3, .int m0), (0, .ref 100), (1, .int n), (2, .int u0)] [.int (S1 107 k), .int ((Int32.ofInt (f : Int)) + (Int32.ofInt (k : Int))), .ref 102] (p_S S1 pl cs sk cl (Int32.ofInt 0) nc sg ov bh op na) R Q
      refine w_iast rfl rfl (by rw [w_addn, w_nat (by omega)]; omega) (by rw [w_addn, w_nat (by omega)]; omega) ?_
      refine w_eqS (p_wor (by decide) (by rw [w_addn, w_natn (by omega)])) ?_
      refine w_st rfl (fun _ => rfl) ?_
      show w_T L xs (d + 8) m_X12_takesText 159 [(6, .int (Int32.ofInt (k : Int))), (5, .int (Int32.ofInt (B : Int))), (4, .int (Int32.ofInt (f : Int))), (3, .int m0), (0, .ref 100), (1, .int n), (2, .int u0)] [.ref 100] (p_S (v_ur S1 101 (upd (S1 101) (f + k) (S1 107 k))) pl cs sk cl (Int32.ofInt 0) nc sg ov bh op na) R Q
      refine w_getr rfl v_tyM rfl ?_
      refine w_st rfl (fun _ => rfl) ?_
      refine w_st rfl (fun _ => rfl) ?_
      refine w_st rfl (fun _ => rfl) ?_
      refine w_st rfl (fun _ => rfl) ?_
      refine w_st rfl (fun _ => rfl) ?_
      show w_T L xs (d + 8) m_X12_takesText 170 [(6, .int (Int32.ofInt (k : Int))), (5, .int (Int32.ofInt (B : Int))), (4, .int (Int32.ofInt (f : Int))), (3, .int m0), (0, .ref 100), (1, .int n), (2, .int u0)] [.ref 100, .int (Int32.ofInt (B : Int)), .int ((Int32.ofInt (f : Int)) + (Int32.ofInt (k : Int))), .ref 103] (p_S (v_ur S1 101 (upd (S1 101) (f + k) (S1 107 k))) pl cs sk cl (Int32.ofInt 0) nc sg ov bh op na) R Q
      refine w_getr rfl v_tyM rfl ?_
      refine w_st rfl (fun _ => rfl) ?_
      show w_T L xs (d + 8) m_X12_takesText 175 [(6, .int (Int32.ofInt (k : Int))), (5, .int (Int32.ofInt (B : Int))), (4, .int (Int32.ofInt (f : Int))), (3, .int m0), (0, .ref 100), (1, .int n), (2, .int u0)] [.int (Int32.ofInt (k : Int)), .ref 109, .int (Int32.ofInt (B : Int)), .int ((Int32.ofInt (f : Int)) + (Int32.ofInt (k : Int))), .ref 103] (p_S (v_ur S1 101 (upd (S1 101) (f + k) (S1 107 k))) pl cs sk cl (Int32.ofInt 0) nc sg ov bh op na) R Q
      refine w_iald rfl rfl (by rw [w_nat (by omega)]; omega) (by rw [w_nat (by omega)]; omega) ?_
      rw [w_natn (by omega)]
      refine w_st rfl (fun _ => rfl) ?_
      show w_T L xs (d + 8) m_X12_takesText 177 [(6, .int (Int32.ofInt (k : Int))), (5, .int (Int32.ofInt (B : Int))), (4, .int (Int32.ofInt (f : Int))), (3, .int m0), (0, .ref 100), (1, .int n), (2, .int u0)] [.int ((Int32.ofInt (B : Int)) + (S1 108 k)), .int ((Int32.ofInt (f : Int)) + (Int32.ofInt (k : Int))), .ref 103] (p_S (v_ur S1 101 (upd (S1 101) (f + k) (S1 107 k))) pl cs sk cl (Int32.ofInt 0) nc sg ov bh op na) R Q
      refine w_iast rfl rfl (by rw [w_addn, w_nat (by omega)]; omega) (by rw [w_addn, w_nat (by omega)]; omega) ?_
      refine w_eqS (p_wor (by decide) (by rw [w_addn, w_natn (by omega)])) ?_
      refine w_st rfl (fun _ => rfl) ?_
      show w_T L xs (d + 8) m_X12_takesText 179 [(6, .int (Int32.ofInt (k : Int))), (5, .int (Int32.ofInt (B : Int))), (4, .int (Int32.ofInt (f : Int))), (3, .int m0), (0, .ref 100), (1, .int n), (2, .int u0)] [.ref 100] (p_S (v_ur (v_ur S1 101 (upd (S1 101) (f + k) (S1 107 k))) 102 (upd ((v_ur S1 101 (upd (S1 101) (f + k) (S1 107 k))) 102) (f + k) ((Int32.ofInt (B : Int)) + (S1 108 k)))) pl cs sk cl (Int32.ofInt 0) nc sg ov bh op na) R Q
      refine w_getr rfl v_tyM rfl ?_
      refine w_st rfl (fun _ => rfl) ?_
      refine w_st rfl (fun _ => rfl) ?_
      refine w_st rfl (fun _ => rfl) ?_
      refine w_st rfl (fun _ => rfl) ?_
      refine w_st rfl (fun _ => rfl) ?_
      show w_T L xs (d + 8) m_X12_takesText 190 [(6, .int (Int32.ofInt (k : Int))), (5, .int (Int32.ofInt (B : Int))), (4, .int (Int32.ofInt (f : Int))), (3, .int m0), (0, .ref 100), (1, .int n), (2, .int u0)] [.ref 100, .int (Int32.ofInt (B : Int)), .int ((Int32.ofInt (f : Int)) + (Int32.ofInt (k : Int))), .ref 104] (p_S (v_ur (v_ur S1 101 (upd (S1 101) (f + k) (S1 107 k))) 102 (upd ((v_ur S1 101 (upd (S1 101) (f + k) (S1 107 k))) 102) (f + k) ((Int32.ofInt (B : Int)) + (S1 108 k)))) pl cs sk cl (Int32.ofInt 0) nc sg ov bh op na) R Q
      refine w_getr rfl v_tyM rfl ?_
      refine w_st rfl (fun _ => rfl) ?_
      show w_T L xs (d + 8) m_X12_takesText 195 [(6, .int (Int32.ofInt (k : Int))), (5, .int (Int32.ofInt (B : Int))), (4, .int (Int32.ofInt (f : Int))), (3, .int m0), (0, .ref 100), (1, .int n), (2, .int u0)] [.int (Int32.ofInt (k : Int)), .ref 110, .int (Int32.ofInt (B : Int)), .int ((Int32.ofInt (f : Int)) + (Int32.ofInt (k : Int))), .ref 104] (p_S (v_ur (v_ur S1 101 (upd (S1 101) (f + k) (S1 107 k))) 102 (upd ((v_ur S1 101 (upd (S1 101) (f + k) (S1 107 k))) 102) (f + k) ((Int32.ofInt (B : Int)) + (S1 108 k)))) pl cs sk cl (Int32.ofInt 0) nc sg ov bh op na) R Q
      refine w_iald rfl rfl (by rw [w_nat (by omega)]; omega) (by rw [w_nat (by omega)]; omega) ?_
      rw [w_natn (by omega)]
      refine w_st rfl (fun _ => rfl) ?_
      show w_T L xs (d + 8) m_X12_takesText 197 [(6, .int (Int32.ofInt (k : Int))), (5, .int (Int32.ofInt (B : Int))), (4, .int (Int32.ofInt (f : Int))), (3, .int m0), (0, .ref 100), (1, .int n), (2, .int u0)] [.int ((Int32.ofInt (B : Int)) + (S1 109 k)), .int ((Int32.ofInt (f : Int)) + (Int32.ofInt (k : Int))), .ref 104] (p_S (v_ur (v_ur S1 101 (upd (S1 101) (f + k) (S1 107 k))) 102 (upd ((v_ur S1 101 (upd (S1 101) (f + k) (S1 107 k))) 102) (f + k) ((Int32.ofInt (B : Int)) + (S1 108 k)))) pl cs sk cl (Int32.ofInt 0) nc sg ov bh op na) R Q
      refine w_iast rfl rfl (by rw [w_addn, w_nat (by omega)]; omega) (by rw [w_addn, w_nat (by omega)]; omega) ?_
      refine w_eqS (p_wor (by decide) (by rw [w_addn, w_natn (by omega)])) ?_
      refine w_st rfl (fun _ => rfl) ?_
      show w_T L xs (d + 8) m_X12_takesText 199 [(6, .int (Int32.ofInt (k : Int))), (5, .int (Int32.ofInt (B : Int))), (4, .int (Int32.ofInt (f : Int))), (3, .int m0), (0, .ref 100), (1, .int n), (2, .int u0)] [.ref 100] (p_S (v_ur (v_ur (v_ur S1 101 (upd (S1 101) (f + k) (S1 107 k))) 102 (upd ((v_ur S1 101 (upd (S1 101) (f + k) (S1 107 k))) 102) (f + k) ((Int32.ofInt (B : Int)) + (S1 108 k)))) 103 (upd ((v_ur (v_ur S1 101 (upd (S1 101) (f + k) (S1 107 k))) 102 (upd ((v_ur S1 101 (upd (S1 101) (f + k) (S1 107 k))) 102) (f + k) ((Int32.ofInt (B : Int)) + (S1 108 k)))) 103) (f + k) ((Int32.ofInt (B : Int)) + (S1 109 k)))) pl cs sk cl (Int32.ofInt 0) nc sg ov bh op na) R Q
      refine w_getr rfl v_tyM rfl ?_
      refine w_st rfl (fun _ => rfl) ?_
      refine w_st rfl (fun _ => rfl) ?_
      refine w_st rfl (fun _ => rfl) ?_
      refine w_st rfl (fun _ => rfl) ?_
      refine w_st rfl (fun _ => rfl) ?_
      show w_T L xs (d + 8) m_X12_takesText 210 [(6, .int (Int32.ofInt (k : Int))), (5, .int (Int32.ofInt (B : Int))), (4, .int (Int32.ofInt (f : Int))), (3, .int m0), (0, .ref 100), (1, .int n), (2, .int u0)] [.ref 100, .int (Int32.ofInt (B : Int)), .int ((Int32.ofInt (f : Int)) + (Int32.ofInt (k : Int))), .ref 105] (p_S (v_ur (v_ur (v_ur S1 101 (upd (S1 101) (f + k) (S1 107 k))) 102 (upd ((v_ur S1 101 (upd (S1 101) (f + k) (S1 107 k))) 102) (f + k) ((Int32.ofInt (B : Int)) + (S1 108 k)))) 103 (upd ((v_ur (v_ur S1 101 (upd (S1 101) (f + k) (S1 107 k))) 102 (upd ((v_ur S1 101 (upd (S1 101) (f + k) (S1 107 k))) 102) (f + k) ((Int32.ofInt (B : Int)) + (S1 108 k)))) 103) (f + k) ((Int32.ofInt (B : Int)) + (S1 109 k)))) pl cs sk cl (Int32.ofInt 0) nc sg ov bh op na) R Q
      refine w_getr rfl v_tyM rfl ?_
      refine w_st rfl (fun _ => rfl) ?_
      show w_T L xs (d + 8) m_X12_takesText 215 [(6, .int (Int32.ofInt (k : Int))), (5, .int (Int32.ofInt (B : Int))), (4, .int (Int32.ofInt (f : Int))), (3, .int m0), (0, .ref 100), (1, .int n), (2, .int u0)] [.int (Int32.ofInt (k : Int)), .ref 111, .int (Int32.ofInt (B : Int)), .int ((Int32.ofInt (f : Int)) + (Int32.ofInt (k : Int))), .ref 105] (p_S (v_ur (v_ur (v_ur S1 101 (upd (S1 101) (f + k) (S1 107 k))) 102 (upd ((v_ur S1 101 (upd (S1 101) (f + k) (S1 107 k))) 102) (f + k) ((Int32.ofInt (B : Int)) + (S1 108 k)))) 103 (upd ((v_ur (v_ur S1 101 (upd (S1 101) (f + k) (S1 107 k))) 102 (upd ((v_ur S1 101 (upd (S1 101) (f + k) (S1 107 k))) 102) (f + k) ((Int32.ofInt (B : Int)) + (S1 108 k)))) 103) (f + k) ((Int32.ofInt (B : Int)) + (S1 109 k)))) pl cs sk cl (Int32.ofInt 0) nc sg ov bh op na) R Q
      refine w_iald rfl rfl (by rw [w_nat (by omega)]; omega) (by rw [w_nat (by omega)]; omega) ?_
      rw [w_natn (by omega)]
      refine w_st rfl (fun _ => rfl) ?_
      show w_T L xs (d + 8) m_X12_takesText 217 [(6, .int (Int32.ofInt (k : Int))), (5, .int (Int32.ofInt (B : Int))), (4, .int (Int32.ofInt (f : Int))), (3, .int m0), (0, .ref 100), (1, .int n), (2, .int u0)] [.int ((Int32.ofInt (B : Int)) + (S1 110 k)), .int ((Int32.ofInt (f : Int)) + (Int32.ofInt (k : Int))), .ref 105] (p_S (v_ur (v_ur (v_ur S1 101 (upd (S1 101) (f + k) (S1 107 k))) 102 (upd ((v_ur S1 101 (upd (S1 101) (f + k) (S1 107 k))) 102) (f + k) ((Int32.ofInt (B : Int)) + (S1 108 k)))) 103 (upd ((v_ur (v_ur S1 101 (upd (S1 101) (f + k) (S1 107 k))) 102 (upd ((v_ur S1 101 (upd (S1 101) (f + k) (S1 107 k))) 102) (f + k) ((Int32.ofInt (B : Int)) + (S1 108 k)))) 103) (f + k) ((Int32.ofInt (B : Int)) + (S1 109 k)))) pl cs sk cl (Int32.ofInt 0) nc sg ov bh op na) R Q
      refine w_iast rfl rfl (by rw [w_addn, w_nat (by omega)]; omega) (by rw [w_addn, w_nat (by omega)]; omega) ?_
      refine w_eqS (p_wor (by decide) (by rw [w_addn, w_natn (by omega)])) ?_
      refine w_st rfl (fun _ => rfl) ?_
      refine w_st rfl (fun _ => rfl) ?_
      show w_T L xs (d + 8) m_X12_takesText 132 [(6, .int ((Int32.ofInt (k : Int)) + (Int32.ofInt 1))), (5, .int (Int32.ofInt (B : Int))), (4, .int (Int32.ofInt (f : Int))), (3, .int m0), (0, .ref 100), (1, .int n), (2, .int u0)] [] (p_S (v_ur (v_ur (v_ur (v_ur S1 101 (upd (S1 101) (f + k) (S1 107 k))) 102 (upd ((v_ur S1 101 (upd (S1 101) (f + k) (S1 107 k))) 102) (f + k) ((Int32.ofInt (B : Int)) + (S1 108 k)))) 103 (upd ((v_ur (v_ur S1 101 (upd (S1 101) (f + k) (S1 107 k))) 102 (upd ((v_ur S1 101 (upd (S1 101) (f + k) (S1 107 k))) 102) (f + k) ((Int32.ofInt (B : Int)) + (S1 108 k)))) 103) (f + k) ((Int32.ofInt (B : Int)) + (S1 109 k)))) 104 (upd ((v_ur (v_ur (v_ur S1 101 (upd (S1 101) (f + k) (S1 107 k))) 102 (upd ((v_ur S1 101 (upd (S1 101) (f + k) (S1 107 k))) 102) (f + k) ((Int32.ofInt (B : Int)) + (S1 108 k)))) 103 (upd ((v_ur (v_ur S1 101 (upd (S1 101) (f + k) (S1 107 k))) 102 (upd ((v_ur S1 101 (upd (S1 101) (f + k) (S1 107 k))) 102) (f + k) ((Int32.ofInt (B : Int)) + (S1 108 k)))) 103) (f + k) ((Int32.ofInt (B : Int)) + (S1 109 k)))) 104) (f + k) ((Int32.ofInt (B : Int)) + (S1 110 k)))) pl cs sk cl (Int32.ofInt 0) nc sg ov bh op na) R Q
      rw [w_inc]
      refine ih (k + 1) _ (by omega) (p_Tw (p_Tw (p_Tw (p_Tw hT (a := 101) rfl) (a := 102) rfl) (a := 103) rfl) (a := 104) rfl) (p_T_s hP (fun a j hn => ?_) ?_ ?_ ?_)
      · rw [w_urn (fun e => hn (by omega)), w_urn (fun e => hn (by omega)), w_urn (fun e => hn (by omega)), w_urn (fun e => hn (by omega))]
      · simp [v_ur, upd]
      · simp [v_ur, upd]
      · simp [v_ur, upd]
theorem h_c2 {n m0 u0 : Int32} {f B : Nat} (hB : B ≤ 240) (hcs : cs ≤ 240) (K : ∀ S2 : v_Sf, v_Tb v_ty S2 R → p_U B cs nc S0 S2 → Q (some (.int (Int32.ofInt (cl : Int)))) (p_S S2 pl cs sk cl (Int32.ofInt 0) nc sg ov bh op na) R) : ∀ (c k : Nat) (S1 : v_Sf), k + c = cs → v_Tb v_ty S1 R → p_U B k nc S0 S1 → w_T L xs (d + 8) m_X12_takesText 227 [(6, .int (Int32.ofInt (k : Int))), (5, .int (Int32.ofInt (B : Int))), (4, .int (Int32.ofInt (f : Int))), (3, .int m0), (0, .ref 100), (1, .int n), (2, .int u0)] [] (p_S S1 pl cs sk cl (Int32.ofInt 0) nc sg ov bh op na) R Q := by
  intro c
  induction c with
  | zero =>
    intro k S1 hk hT hP
    obtain rfl : k = cs := by omega
    have ek := w_nat (k := k) (by omega)
    refine w_st rfl (fun _ => rfl) ?_
    refine w_st rfl (fun _ => rfl) ?_
    show w_T L xs (d + 8) m_X12_takesText 230 [(6, .int (Int32.ofInt (k : Int))), (5, .int (Int32.ofInt (B : Int))), (4, .int (Int32.ofInt (f : Int))), (3, .int m0), (0, .ref 100), (1, .int n), (2, .int u0)] [.ref 100, .int (Int32.ofInt (k : Int))] (p_S S1 pl k sk cl (Int32.ofInt 0) nc sg ov bh op na) R Q
    refine w_get rfl v_tyM rfl ?_
    show w_T L xs (d + 8) m_X12_takesText 233 [(6, .int (Int32.ofInt (k : Int))), (5, .int (Int32.ofInt (B : Int))), (4, .int (Int32.ofInt (f : Int))), (3, .int m0), (0, .ref 100), (1, .int n), (2, .int u0)] [.int (Int32.ofInt (k : Int)), .int (Int32.ofInt (k : Int))] (p_S S1 pl k sk cl (Int32.ofInt 0) nc sg ov bh op na) R Q
    refine w_br (P := (Int32.ofInt (k : Int)) ≤ (Int32.ofInt (k : Int))) rfl (fun _ => rfl) (fun h233 => ?_) (fun h233 => ?_)
    · refine w_st rfl (fun _ => rfl) ?_
      show w_T L xs (d + 8) m_X12_takesText 277 [(6, .int (Int32.ofInt (k : Int))), (5, .int (Int32.ofInt (B : Int))), (4, .int (Int32.ofInt (f : Int))), (3, .int m0), (0, .ref 100), (1, .int n), (2, .int u0)] [.ref 100] (p_S S1 pl k sk cl (Int32.ofInt 0) nc sg ov bh op na) R Q
      refine w_get rfl v_tyM rfl ?_
      show w_T L xs (d + 8) m_X12_takesText 280 [(6, .int (Int32.ofInt (k : Int))), (5, .int (Int32.ofInt (B : Int))), (4, .int (Int32.ofInt (f : Int))), (3, .int m0), (0, .ref 100), (1, .int n), (2, .int u0)] [.int (Int32.ofInt (cl : Int))] (p_S S1 pl k sk cl (Int32.ofInt 0) nc sg ov bh op na) R Q
      refine w_ret rfl (by rfl) ?_
      exact K S1 hT hP
    · exfalso; rw [q_le32] at h233; omega
  | succ c ih =>
    intro k S1 hk hT hP
    have ek := w_nat (k := k) (by omega)
    have ec := w_nat (k := cs) (by omega)
    refine w_st rfl (fun _ => rfl) ?_
    refine w_st rfl (fun _ => rfl) ?_
    show w_T L xs (d + 8) m_X12_takesText 230 [(6, .int (Int32.ofInt (k : Int))), (5, .int (Int32.ofInt (B : Int))), (4, .int (Int32.ofInt (f : Int))), (3, .int m0), (0, .ref 100), (1, .int n), (2, .int u0)] [.ref 100, .int (Int32.ofInt (k : Int))] (p_S S1 pl cs sk cl (Int32.ofInt 0) nc sg ov bh op na) R Q
    refine w_get rfl v_tyM rfl ?_
    show w_T L xs (d + 8) m_X12_takesText 233 [(6, .int (Int32.ofInt (k : Int))), (5, .int (Int32.ofInt (B : Int))), (4, .int (Int32.ofInt (f : Int))), (3, .int m0), (0, .ref 100), (1, .int n), (2, .int u0)] [.int (Int32.ofInt (cs : Int)), .int (Int32.ofInt (k : Int))] (p_S S1 pl cs sk cl (Int32.ofInt 0) nc sg ov bh op na) R Q
    refine w_br (P := (Int32.ofInt (cs : Int)) ≤ (Int32.ofInt (k : Int))) rfl (fun _ => rfl) (fun h233 => ?_) (fun h233 => ?_)
    · exfalso; rw [q_le32, ec, ek] at h233; omega
    · refine w_st rfl (fun _ => rfl) ?_
      show w_T L xs (d + 8) m_X12_takesText 237 [(6, .int (Int32.ofInt (k : Int))), (5, .int (Int32.ofInt (B : Int))), (4, .int (Int32.ofInt (f : Int))), (3, .int m0), (0, .ref 100), (1, .int n), (2, .int u0)] [.ref 100] (p_S S1 pl cs sk cl (Int32.ofInt 0) nc sg ov bh op na) R Q
      refine w_getr rfl v_tyM rfl ?_
      refine w_st rfl (fun _ => rfl) ?_
      refine w_st rfl (fun _ => rfl) ?_
      refine w_st rfl (fun _ => rfl) ?_
      refine w_st rfl (fun _ => rfl) ?_
      show w_T L xs (d + 8) m_X12_takesText 246 [(6, .int (Int32.ofInt (k : Int))), (5, .int (Int32.ofInt (B : Int))), (4, .int (Int32.ofInt (f : Int))), (3, .int m0), (0, .ref 100), (1, .int n), (2, .int u0)] [.ref 100, .int ((Int32.ofInt (B : Int)) + (Int32.ofInt (k : Int))), .ref 106] (p_S S1 pl cs sk cl (Int32.ofInt 0) nc sg ov bh op na) R Q
      refine w_getr rfl v_tyM rfl ?_
      refine w_st rfl (fun _ => rfl) ?_
      show w_T L xs (d + 8) m_X12_takesText 251 [(6, .int (Int32.ofInt (k : Int))), (5, .int (Int32.ofInt (B : Int))), (4, .int (Int32.ofInt (f : Int))), (3, .int m0), (0, .ref 100), (1, .int n), (2, .int u0)] [.int (Int32.ofInt (k : Int)), .ref 112, .int ((Int32.ofInt (B : Int)) + (Int32.ofInt (k : Int))), .ref 106] (p_S S1 pl cs sk cl (Int32.ofInt 0) nc sg ov bh op na) R Q
      refine w_iald rfl rfl (by rw [w_nat (by omega)]; omega) (by rw [w_nat (by omega)]; omega) ?_
      rw [w_natn (by omega), p_rnc (by omega)]
      show w_T L xs (d + 8) m_X12_takesText 252 [(6, .int (Int32.ofInt (k : Int))), (5, .int (Int32.ofInt (B : Int))), (4, .int (Int32.ofInt (f : Int))), (3, .int m0), (0, .ref 100), (1, .int n), (2, .int u0)] [.int (nc k), .int ((Int32.ofInt (B : Int)) + (Int32.ofInt (k : Int))), .ref 106] (p_S S1 pl cs sk cl (Int32.ofInt 0) nc sg ov bh op na) R Q
      refine w_iast rfl rfl (by rw [w_addn, w_nat (by omega)]; omega) (by rw [w_addn, w_nat (by omega)]; omega) ?_
      refine w_eqS (p_wor (by decide) (by rw [w_addn, w_natn (by omega)])) ?_
      refine w_st rfl (fun _ => rfl) ?_
      show w_T L xs (d + 8) m_X12_takesText 254 [(6, .int (Int32.ofInt (k : Int))), (5, .int (Int32.ofInt (B : Int))), (4, .int (Int32.ofInt (f : Int))), (3, .int m0), (0, .ref 100), (1, .int n), (2, .int u0)] [.ref 100] (p_S (v_ur S1 105 (upd (S1 105) (B + k) (nc k))) pl cs sk cl (Int32.ofInt 0) nc sg ov bh op na) R Q
      refine w_getr rfl v_tyM rfl ?_
      refine w_st rfl (fun _ => rfl) ?_
      refine w_st rfl (fun _ => rfl) ?_
      refine w_st rfl (fun _ => rfl) ?_
      refine w_st rfl (fun _ => rfl) ?_
      show w_T L xs (d + 8) m_X12_takesText 263 [(6, .int (Int32.ofInt (k : Int))), (5, .int (Int32.ofInt (B : Int))), (4, .int (Int32.ofInt (f : Int))), (3, .int m0), (0, .ref 100), (1, .int n), (2, .int u0)] [.ref 100, .int ((Int32.ofInt (B : Int)) + (Int32.ofInt (k : Int))), .ref 107] (p_S (v_ur S1 105 (upd (S1 105) (B + k) (nc k))) pl cs sk cl (Int32.ofInt 0) nc sg ov bh op na) R Q
      refine w_getr rfl v_tyM rfl ?_
      refine w_st rfl (fun _ => rfl) ?_
      show w_T L xs (d + 8) m_X12_takesText 268 [(6, .int (Int32.ofInt (k : Int))), (5, .int (Int32.ofInt (B : Int))), (4, .int (Int32.ofInt (f : Int))), (3, .int m0), (0, .ref 100), (1, .int n), (2, .int u0)] [.int (Int32.ofInt (k : Int)), .ref 113, .int ((Int32.ofInt (B : Int)) + (Int32.ofInt (k : Int))), .ref 107] (p_S (v_ur S1 105 (upd (S1 105) (B + k) (nc k))) pl cs sk cl (Int32.ofInt 0) nc sg ov bh op na) R Q
      refine w_iald rfl rfl (by rw [w_nat (by omega)]; omega) (by rw [w_nat (by omega)]; omega) ?_
      rw [w_natn (by omega), p_rna (by omega)]
      show w_T L xs (d + 8) m_X12_takesText 269 [(6, .int (Int32.ofInt (k : Int))), (5, .int (Int32.ofInt (B : Int))), (4, .int (Int32.ofInt (f : Int))), (3, .int m0), (0, .ref 100), (1, .int n), (2, .int u0)] [.int (na k), .int ((Int32.ofInt (B : Int)) + (Int32.ofInt (k : Int))), .ref 107] (p_S (v_ur S1 105 (upd (S1 105) (B + k) (nc k))) pl cs sk cl (Int32.ofInt 0) nc sg ov bh op na) R Q
      refine w_iast rfl rfl (by rw [w_addn, w_nat (by omega)]; omega) (by rw [w_addn, w_nat (by omega)]; omega) ?_
      refine w_eqS (p_wor (by decide) (by rw [w_addn, w_natn (by omega)])) ?_
      refine w_st rfl (fun _ => rfl) ?_
      refine w_st rfl (fun _ => rfl) ?_
      show w_T L xs (d + 8) m_X12_takesText 227 [(6, .int ((Int32.ofInt (k : Int)) + (Int32.ofInt 1))), (5, .int (Int32.ofInt (B : Int))), (4, .int (Int32.ofInt (f : Int))), (3, .int m0), (0, .ref 100), (1, .int n), (2, .int u0)] [] (p_S (v_ur (v_ur S1 105 (upd (S1 105) (B + k) (nc k))) 106 (upd ((v_ur S1 105 (upd (S1 105) (B + k) (nc k))) 106) (B + k) (na k))) pl cs sk cl (Int32.ofInt 0) nc sg ov bh op na) R Q
      rw [w_inc]
      refine ih (k + 1) _ (by omega) (p_Tw (p_Tw hT (a := 105) rfl) (a := 106) rfl) (p_U_s hP (fun a j hn => ?_) ?_)
      · rw [w_urn (fun e => hn (by omega)), w_urn (fun e => hn (by omega))]
      · simp [v_ur, upd]
theorem h_t9L {n : Int32} (hT : v_Tb v_ty S0 R) {S1 : v_Sf} {pl' cs' sk' cl' : Nat} {nc' sg' na' : Nat → Int32} {o : Int32} {v' h' : Bool} (f1 : p_F (p_bg S0 n) S1) (f2 : v_Tb v_ty S1 R) (f3 : p_Z S1 cl' cs' nc') (f4 : cs' ≤ 240) (f5 : pl' ≤ 240) (f6 : sk' ≤ 240) (f7 : cl' ≤ 16) (Kg : ∀ (S3 : v_Sf) (pl' cs' sk' cl' : Nat) (nc' sg' na' : Nat → Int32) (o : Int32) (v' h' : Bool), p_X 0 0 16 S0 S3 → p_Y 0 0 cl' S3 → v_Tb v_ty S3 R → cs' ≤ 240 → pl' ≤ 240 → sk' ≤ 240 → cl' ≤ 16 → Q (some (.int (Int32.ofInt (cl' : Int)))) (p_S S3 (pl') (cs') (sk') (cl') (Int32.ofInt 0) (nc') (sg') (v') (h') o (na')) R) : w_T L xs (d + 8) m_X12_takesText 92 [(3, .int (Int32.ofInt 0)), (0, .ref 100), (1, .int n), (2, .int (Int32.ofInt 0))] [] (p_S S1 (pl') (cs') (sk') (cl') (Int32.ofInt 0) (nc') (sg') (v') (h') o (na')) R Q := by
  refine w_st rfl (fun _ => rfl) ?_
  show w_T L xs (d + 8) m_X12_takesText 93 [(3, .int (Int32.ofInt 0)), (0, .ref 100), (1, .int n), (2, .int (Int32.ofInt 0))] [.ref 100] (p_S S1 (pl') (cs') (sk') (cl') (Int32.ofInt 0) (nc') (sg') (v') (h') o (na')) R Q
  refine w_get rfl v_tyM rfl ?_
  show w_T L xs (d + 8) m_X12_takesText 96 [(3, .int (Int32.ofInt 0)), (0, .ref 100), (1, .int n), (2, .int (Int32.ofInt 0))] [.int (Int32.ofInt 0)] (p_S S1 (pl') (cs') (sk') (cl') (Int32.ofInt 0) (nc') (sg') (v') (h') o (na')) R Q
  refine w_st rfl (fun _ => rfl) ?_
  refine w_st rfl (fun _ => rfl) ?_
  show w_T L xs (d + 8) m_X12_takesText 105 [(3, .int (Int32.ofInt 0)), (0, .ref 100), (1, .int n), (2, .int (Int32.ofInt 0))] [.int (Int32.ofInt 0)] (p_S S1 (pl') (cs') (sk') (cl') (Int32.ofInt 0) (nc') (sg') (v') (h') o (na')) R Q
  refine w_st rfl (fun _ => rfl) ?_
  refine w_st rfl (fun _ => rfl) ?_
  refine w_st rfl (fun _ => rfl) ?_
  refine w_st rfl (fun _ => rfl) ?_
  show w_T L xs (d + 8) m_X12_takesText 117 [(4, .int (Int32.ofInt 0)), (3, .int (Int32.ofInt 0)), (0, .ref 100), (1, .int n), (2, .int (Int32.ofInt 0))] [.int (Int32.ofInt 0)] (p_S S1 (pl') (cs') (sk') (cl') (Int32.ofInt 0) (nc') (sg') (v') (h') o (na')) R Q
  refine w_st rfl (fun _ => rfl) ?_
  refine w_st rfl (fun _ => rfl) ?_
  refine w_st rfl (fun _ => rfl) ?_
  refine w_st rfl (fun _ => rfl) ?_
  refine w_st rfl (fun _ => rfl) ?_
  show w_T L xs (d + 8) m_X12_takesText 132 [(6, .int (Int32.ofInt 0)), (5, .int (Int32.ofInt 0)), (4, .int (Int32.ofInt 0)), (3, .int (Int32.ofInt 0)), (0, .ref 100), (1, .int n), (2, .int (Int32.ofInt 0))] [] (p_S S1 (pl') (cs') (sk') (cl') (Int32.ofInt 0) (nc') (sg') (v') (h') o (na')) R Q
  refine h_c1 (f := 0) (B := 0) (by omega) (by omega) (by omega) (fun S2 g1 g2 => ?_) cl' 0 S1 (by omega) f2 ⟨fun _ _ _ => rfl, fun k hk => absurd hk (by omega)⟩
  refine w_st rfl (fun _ => rfl) ?_
  refine w_st rfl (fun _ => rfl) ?_
  refine h_c2 (f := 0) (B := 0) (by omega) (by omega) (fun S3 e1 e2 => ?_) cs' 0 S2 (by omega) g1 ⟨fun _ _ _ => rfl, fun k hk => absurd hk (by omega)⟩
  exact Kg S3 pl' cs' sk' cl' nc' sg' na' o v' h' (p_X_of f7 f4 f1 g2 e2) (p_Y_of (by omega) f4 f3 g2 e2) e1 f4 f5 f6 f7
theorem h_textL {n : Int32} (hn1 : 1 ≤ n.toInt) (hn2 : n.toInt ≤ 240) (hT : v_Tb v_ty S0 R) (hsk : sk ≤ 240) (Kg : ∀ (S3 : v_Sf) (pl' cs' sk' cl' : Nat) (nc' sg' na' : Nat → Int32) (o : Int32) (v' h' : Bool), p_X 0 0 16 S0 S3 → p_Y 0 0 cl' S3 → v_Tb v_ty S3 R → cs' ≤ 240 → pl' ≤ 240 → sk' ≤ 240 → cl' ≤ 16 → Q (some (.int (Int32.ofInt (cl' : Int)))) (p_S S3 (pl') (cs') (sk') (cl') (Int32.ofInt 0) (nc') (sg') (v') (h') o (na')) R) (Kb : ∀ (S1 : v_Sf) (pl' cs' sk' cl' : Nat) (b' : Int32) (nc' sg' na' : Nat → Int32) (o : Int32) (v' h' : Bool), p_F (p_bg S0 n) S1 → v_Tb v_ty S1 R → b'.toInt < 0 → cs' ≤ 240 → pl' ≤ 240 → sk' ≤ 240 → cl' ≤ 16 → Q (some (.int b')) (p_S S1 (pl') (cs') (sk') (cl') (b') (nc') (sg') (v') (h') o (na')) R) : w_T L xs (d + 8) m_X12_takesText 0 (lv_args 0 [.ref 100, .int n, .int (Int32.ofInt 0)]) [] (p_S S0 pl cs sk cl bd nc sg ov bh op na) R Q := by
  have hT1 : v_Tb v_ty (p_bg S0 n) R := w_TbF (w_TbF hT v_tyM rfl (by decide) (by decide)) v_tyM rfl (by show (0 : Int) ≤ n.toInt; omega) (by show n.toInt ≤ (260 : Int); omega)
  have he0 : (p_bg S0 n 99 4).toInt ≤ 240 := by rw [p_bg4]; exact hn2
  refine w_st rfl (fun _ => rfl) ?_
  refine w_st rfl (fun _ => rfl) ?_
  show w_T L xs (d + 8) m_X12_takesText 2 [(0, .ref 100), (1, .int n), (2, .int (Int32.ofInt 0))] [.int n, .ref 100] (p_S S0 pl cs sk cl bd nc sg ov bh op na) R Q
  refine w_cv rfl (by decide) mt_X12_begins v_tyM rfl rfl rfl (Nat.le_of_ble_eq_true rfl) (Nat.le_of_ble_eq_true rfl) (Nat.le_of_ble_eq_true rfl) ?_
  show w_T L xs _ m_X12_begins 0 (lv_args 0 [.ref 100, .int n]) [] (p_S S0 pl cs sk cl bd nc sg ov bh op na) R _
  refine h_begins _ ?_
  refine w_st rfl (fun _ => rfl) ?_
  refine w_st rfl (fun _ => rfl) ?_
  show w_T L xs (d + 8) m_X12_takesText 7 [(0, .ref 100), (1, .int n), (2, .int (Int32.ofInt 0))] [.int (Int32.ofInt 0), .ref 100] (p_S (p_bg S0 n) 0 cs sk cl (Int32.ofInt 0) nc sg ov bh op na) R Q
  refine w_put rfl v_tyM rfl rfl rfl ?_
  refine w_eqS (p_wcl (k := 0) rfl) ?_
  refine w_st rfl (fun _ => rfl) ?_
  refine w_st rfl (fun _ => rfl) ?_
  show w_T L xs (d + 8) m_X12_takesText 12 [(0, .ref 100), (1, .int n), (2, .int (Int32.ofInt 0))] [.int (Int32.ofInt 0), .ref 100] (p_S (p_bg S0 n) 0 cs sk 0 (Int32.ofInt 0) nc sg ov bh op na) R Q
  refine w_put rfl v_tyM rfl rfl rfl ?_
  refine w_eqS (p_wcs (k := 0) rfl) ?_
  refine w_st rfl (fun _ => rfl) ?_
  refine w_st rfl (fun _ => rfl) ?_
  show w_T L xs (d + 8) m_X12_takesText 17 [(3, .int (Int32.ofInt 1)), (0, .ref 100), (1, .int n), (2, .int (Int32.ofInt 0))] [] (p_S (p_bg S0 n) 0 0 sk 0 (Int32.ofInt 0) nc sg ov bh op na) R Q
  refine h_txLL he0 (fun S1 pl' cs' sk' cl' nc' sg' na' o v' h' f1 f2 f3 f4 f5 f6 f7 => ?_) (fun S1 pl' cs' sk' cl' b' nc' sg' na' o v' h' f1 => Kb S1 pl' cs' sk' cl' b' nc' sg' na' o v' h' f1) 240 _ 0 0 sk 0 nc sg na op ov bh (by omega) (p_F_rf _) hT1 (fun k hk => absurd hk (by omega)) (by omega) (by omega) hsk (by omega)
  exact h_t9L hT f1 f2 f3 f4 f5 f6 f7 Kg
theorem h_t9R {n : Int32} (hT : v_Tb v_ty S0 R) {S1 : v_Sf} {pl' cs' sk' cl' : Nat} {nc' sg' na' : Nat → Int32} {o : Int32} {v' h' : Bool} (f1 : p_F (p_bg S0 n) S1) (f2 : v_Tb v_ty S1 R) (f3 : p_Z S1 cl' cs' nc') (f4 : cs' ≤ 240) (f5 : pl' ≤ 240) (f6 : sk' ≤ 240) (f7 : cl' ≤ 12) (Kg : ∀ (S3 : v_Sf) (pl' cs' sk' cl' : Nat) (nc' sg' na' : Nat → Int32) (o : Int32) (v' h' : Bool), p_X 16 240 12 S0 S3 → p_Y 16 240 cl' S3 → v_Tb v_ty S3 R → cs' ≤ 240 → pl' ≤ 240 → sk' ≤ 240 → cl' ≤ 12 → Q (some (.int (Int32.ofInt (cl' : Int)))) (p_S S3 (pl') (cs') (sk') (cl') (Int32.ofInt 0) (nc') (sg') (v') (h') o (na')) R) : w_T L xs (d + 8) m_X12_takesText 92 [(3, .int (Int32.ofInt 0)), (0, .ref 100), (1, .int n), (2, .int (Int32.ofInt 1))] [] (p_S S1 (pl') (cs') (sk') (cl') (Int32.ofInt 0) (nc') (sg') (v') (h') o (na')) R Q := by
  refine w_st rfl (fun _ => rfl) ?_
  show w_T L xs (d + 8) m_X12_takesText 93 [(3, .int (Int32.ofInt 0)), (0, .ref 100), (1, .int n), (2, .int (Int32.ofInt 1))] [.ref 100] (p_S S1 (pl') (cs') (sk') (cl') (Int32.ofInt 0) (nc') (sg') (v') (h') o (na')) R Q
  refine w_get rfl v_tyM rfl ?_
  show w_T L xs (d + 8) m_X12_takesText 96 [(3, .int (Int32.ofInt 0)), (0, .ref 100), (1, .int n), (2, .int (Int32.ofInt 1))] [.int (Int32.ofInt 0)] (p_S S1 (pl') (cs') (sk') (cl') (Int32.ofInt 0) (nc') (sg') (v') (h') o (na')) R Q
  refine w_st rfl (fun _ => rfl) ?_
  refine w_st rfl (fun _ => rfl) ?_
  show w_T L xs (d + 8) m_X12_takesText 105 [(3, .int (Int32.ofInt 0)), (0, .ref 100), (1, .int n), (2, .int (Int32.ofInt 1))] [.int (Int32.ofInt 1)] (p_S S1 (pl') (cs') (sk') (cl') (Int32.ofInt 0) (nc') (sg') (v') (h') o (na')) R Q
  refine w_st rfl (fun _ => rfl) ?_
  refine w_st rfl (fun _ => rfl) ?_
  refine w_st rfl (fun _ => rfl) ?_
  refine w_st rfl (fun _ => rfl) ?_
  refine w_st rfl (fun _ => rfl) ?_
  show w_T L xs (d + 8) m_X12_takesText 117 [(4, .int (Int32.ofInt 16)), (3, .int (Int32.ofInt 0)), (0, .ref 100), (1, .int n), (2, .int (Int32.ofInt 1))] [.int (Int32.ofInt 1)] (p_S S1 (pl') (cs') (sk') (cl') (Int32.ofInt 0) (nc') (sg') (v') (h') o (na')) R Q
  refine w_st rfl (fun _ => rfl) ?_
  refine w_st rfl (fun _ => rfl) ?_
  refine w_st rfl (fun _ => rfl) ?_
  refine w_st rfl (fun _ => rfl) ?_
  refine w_st rfl (fun _ => rfl) ?_
  refine w_st rfl (fun _ => rfl) ?_
  show w_T L xs (d + 8) m_X12_takesText 132 [(6, .int (Int32.ofInt 0)), (5, .int (Int32.ofInt 240)), (4, .int (Int32.ofInt 16)), (3, .int (Int32.ofInt 0)), (0, .ref 100), (1, .int n), (2, .int (Int32.ofInt 1))] [] (p_S S1 (pl') (cs') (sk') (cl') (Int32.ofInt 0) (nc') (sg') (v') (h') o (na')) R Q
  refine h_c1 (f := 16) (B := 240) (by omega) (by omega) (by omega) (fun S2 g1 g2 => ?_) cl' 0 S1 (by omega) f2 ⟨fun _ _ _ => rfl, fun k hk => absurd hk (by omega)⟩
  refine w_st rfl (fun _ => rfl) ?_
  refine w_st rfl (fun _ => rfl) ?_
  refine h_c2 (f := 16) (B := 240) (by omega) (by omega) (fun S3 e1 e2 => ?_) cs' 0 S2 (by omega) g1 ⟨fun _ _ _ => rfl, fun k hk => absurd hk (by omega)⟩
  exact Kg S3 pl' cs' sk' cl' nc' sg' na' o v' h' (p_X_of f7 f4 f1 g2 e2) (p_Y_of (by omega) f4 f3 g2 e2) e1 f4 f5 f6 f7
theorem h_textR {n : Int32} (hn1 : 1 ≤ n.toInt) (hn2 : n.toInt ≤ 240) (hT : v_Tb v_ty S0 R) (hsk : sk ≤ 240) (Kg : ∀ (S3 : v_Sf) (pl' cs' sk' cl' : Nat) (nc' sg' na' : Nat → Int32) (o : Int32) (v' h' : Bool), p_X 16 240 12 S0 S3 → p_Y 16 240 cl' S3 → v_Tb v_ty S3 R → cs' ≤ 240 → pl' ≤ 240 → sk' ≤ 240 → cl' ≤ 12 → Q (some (.int (Int32.ofInt (cl' : Int)))) (p_S S3 (pl') (cs') (sk') (cl') (Int32.ofInt 0) (nc') (sg') (v') (h') o (na')) R) (Kb : ∀ (S1 : v_Sf) (pl' cs' sk' cl' : Nat) (b' : Int32) (nc' sg' na' : Nat → Int32) (o : Int32) (v' h' : Bool), p_F (p_bg S0 n) S1 → v_Tb v_ty S1 R → b'.toInt < 0 → cs' ≤ 240 → pl' ≤ 240 → sk' ≤ 240 → cl' ≤ 16 → Q (some (.int b')) (p_S S1 (pl') (cs') (sk') (cl') (b') (nc') (sg') (v') (h') o (na')) R) : w_T L xs (d + 8) m_X12_takesText 0 (lv_args 0 [.ref 100, .int n, .int (Int32.ofInt 1)]) [] (p_S S0 pl cs sk cl bd nc sg ov bh op na) R Q := by
  have hT1 : v_Tb v_ty (p_bg S0 n) R := w_TbF (w_TbF hT v_tyM rfl (by decide) (by decide)) v_tyM rfl (by show (0 : Int) ≤ n.toInt; omega) (by show n.toInt ≤ (260 : Int); omega)
  have he0 : (p_bg S0 n 99 4).toInt ≤ 240 := by rw [p_bg4]; exact hn2
  refine w_st rfl (fun _ => rfl) ?_
  refine w_st rfl (fun _ => rfl) ?_
  show w_T L xs (d + 8) m_X12_takesText 2 [(0, .ref 100), (1, .int n), (2, .int (Int32.ofInt 1))] [.int n, .ref 100] (p_S S0 pl cs sk cl bd nc sg ov bh op na) R Q
  refine w_cv rfl (by decide) mt_X12_begins v_tyM rfl rfl rfl (Nat.le_of_ble_eq_true rfl) (Nat.le_of_ble_eq_true rfl) (Nat.le_of_ble_eq_true rfl) ?_
  show w_T L xs _ m_X12_begins 0 (lv_args 0 [.ref 100, .int n]) [] (p_S S0 pl cs sk cl bd nc sg ov bh op na) R _
  refine h_begins _ ?_
  refine w_st rfl (fun _ => rfl) ?_
  refine w_st rfl (fun _ => rfl) ?_
  show w_T L xs (d + 8) m_X12_takesText 7 [(0, .ref 100), (1, .int n), (2, .int (Int32.ofInt 1))] [.int (Int32.ofInt 0), .ref 100] (p_S (p_bg S0 n) 0 cs sk cl (Int32.ofInt 0) nc sg ov bh op na) R Q
  refine w_put rfl v_tyM rfl rfl rfl ?_
  refine w_eqS (p_wcl (k := 0) rfl) ?_
  refine w_st rfl (fun _ => rfl) ?_
  refine w_st rfl (fun _ => rfl) ?_
  show w_T L xs (d + 8) m_X12_takesText 12 [(0, .ref 100), (1, .int n), (2, .int (Int32.ofInt 1))] [.int (Int32.ofInt 0), .ref 100] (p_S (p_bg S0 n) 0 cs sk 0 (Int32.ofInt 0) nc sg ov bh op na) R Q
  refine w_put rfl v_tyM rfl rfl rfl ?_
  refine w_eqS (p_wcs (k := 0) rfl) ?_
  refine w_st rfl (fun _ => rfl) ?_
  refine w_st rfl (fun _ => rfl) ?_
  show w_T L xs (d + 8) m_X12_takesText 17 [(3, .int (Int32.ofInt 1)), (0, .ref 100), (1, .int n), (2, .int (Int32.ofInt 1))] [] (p_S (p_bg S0 n) 0 0 sk 0 (Int32.ofInt 0) nc sg ov bh op na) R Q
  refine h_txRL he0 (fun S1 pl' cs' sk' cl' nc' sg' na' o v' h' f1 f2 f3 f4 f5 f6 f7 => ?_) (fun S1 pl' cs' sk' cl' b' nc' sg' na' o v' h' f1 => Kb S1 pl' cs' sk' cl' b' nc' sg' na' o v' h' f1) 240 _ 0 0 sk 0 nc sg na op ov bh (by omega) (p_F_rf _) hT1 (fun k hk => absurd hk (by omega)) (by omega) (by omega) hsk (by omega)
  exact h_t9R hT f1 f2 f3 f4 f5 f6 f7 Kg
end PL
