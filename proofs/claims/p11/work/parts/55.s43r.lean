/-! months: teaching and quarrels -/
theorem z_and1 (x : Int32) : x &&& Int32.ofInt 1 = 0 ∨ x &&& Int32.ofInt 1 = Int32.ofInt 1 := by
  have h : (x &&& Int32.ofInt 1).toBitVec.toNat = x.toBitVec.toNat % 2 := by
    rw [Int32.toBitVec_and, BitVec.toNat_and, show (Int32.ofInt 1).toBitVec.toNat = 1 from rfl, Nat.and_one_is_mod]
  rcases Nat.mod_two_eq_zero_or_one x.toBitVec.toNat with q | q
  · left
    refine Int32.toBitVec_inj.mp (BitVec.eq_of_toNat_eq ?_)
    rw [h, q]
    rfl
  · right
    refine Int32.toBitVec_inj.mp (BitVec.eq_of_toNat_eq ?_)
    rw [h, q]
    rfl
theorem z_has {h l : Int32} (hl : 0 ≤ l.toInt ∧ l.toInt ≤ 30) : (f_X11_isIn h l = 0) ↔ (f_X12_has h l = 0) := by
  unfold f_X11_isIn f_X12_has
  rw [if_neg (by rw [z_ltI2]; have e0 : (0 : Int32).toInt = 0 := rfl; omega), if_neg (by rw [z_leI2]; have e0 : (Int32.ofInt 31).toInt = 31 := rfl; omega)]
  rcases z_and1 (h >>> (l &&& 31)) with q | q
  · rw [q, if_pos rfl, if_pos (by decide)]
  · rw [q, if_neg (by decide), if_neg (by decide)]
set_option maxRecDepth 100000 in
theorem z_or_all : ∀ h : Fin 1024, ∀ l : Fin 10, decide (0 ≤ (z_i h.val ||| (Int32.ofInt 1 <<< (z_i l.val &&& 31))).toInt ∧ (z_i h.val ||| (Int32.ofInt 1 <<< (z_i l.val &&& 31))).toInt ≤ 1023) = true := by decide +kernel
theorem z_ofN {x : Int32} (h : 0 ≤ x.toInt) : z_i x.toInt.toNat = x := by
  unfold z_i
  rw [show ((x.toInt.toNat : Nat) : Int) = x.toInt by omega, Int32.ofInt_toInt]
theorem z_orR {h l : Int32} (hh : 0 ≤ h.toInt ∧ h.toInt ≤ 1023) (hl : 0 ≤ l.toInt ∧ l.toInt ≤ 9) : 0 ≤ (h ||| (Int32.ofInt 1 <<< (l &&& 31))).toInt ∧ (h ||| (Int32.ofInt 1 <<< (l &&& 31))).toInt ≤ 1023 := by
  have := of_decide_eq_true (z_or_all ⟨h.toInt.toNat, by omega⟩ ⟨l.toInt.toNat, by omega⟩)
  simp only [z_ofN hh.1, z_ofN hl.1] at this
  exact this
theorem z_any01 {L : Int32} : ∀ (r k : Nat) (T : v_Sf), (r_X12_says_2 L r k T).1 = Int32.ofInt 0 ∨ (r_X12_says_2 L r k T).1 = Int32.ofInt 1 := by
  intro r
  induction r with
  | zero =>
    intro k T
    rw [r_X12_says_2]
    exact Or.inl rfl
  | succ r ih =>
    intro k T
    rw [r_X12_says_2]
    split
    · exact Or.inl rfl
    · split
      · exact ih _ _
      · split
        · exact ih _ _
        · exact Or.inr rfl
theorem z_lrn {c s nc : Nat} (hc : z_cd c) (hs : z_st s) {S T : v_Sf} (h : z_Mo c s nc S T) {g : Nat} (hg : g < 12) (ht : ¬ T 116 g = 0) (l : Int32) : f_X3_learns c s (z_i g) l S = f_X12_says (Int32.ofInt 101) (z_s (g_X12_gustStands (z_i g) T) 99 35 l) ∧ z_Mo c s nc (g_X3_learns c s (z_i g) l S) (g_X12_says (Int32.ofInt 101) (z_s (g_X12_gustStands (z_i g) T) 99 35 l)) ∧ (∀ a, a ≠ 51 → a ≠ c + 3 → g_X3_learns c s (z_i g) l S a = S a) ∧ ∀ a j, ¬ (a = 99 ∧ 27 ≤ j ∧ j ≤ 40) → a ≠ 114 → a ≠ 115 → g_X12_says (Int32.ofInt 101) (z_s (g_X12_gustStands (z_i g) T) 99 35 l) a j = T a j := by
  have hsn := z_stn hs
  have hcl := z_cdl hc
  have lk := z_lookG hs h.1 h.2.1 hg ht
  have hv : z_vw (fun a => f_X1_valueAt a (z_s (g_X3_lookAtGust s (z_i g) S) 51 8 l)) (fun a => f_X12_valueOf a (z_s (g_X12_gustStands (z_i g) T) 99 35 l)) := by
    refine z_vw_mk (fun i hi => ?_) ?_
    · by_cases q : i = 8
      · rw [q, z_ss, z_ss]
      · rw [z_sn (by omega), z_sn (by omega)]
        exact lk.2.2.1 i hi
    · rw [z_sn (by omega), z_sn (by omega), lk.2.2.2.1, lk.2.1 99 60 (by omega)]
  have f1 : ∀ a, a ≠ 51 → z_s (g_X3_lookAtGust s (z_i g) S) 51 8 l a = S a := fun a q => (z_sr q).trans (lk.1 a q)
  have f2 : ∀ a j, ¬ (a = 99 ∧ 27 ≤ j ∧ j ≤ 40) → z_s (g_X12_gustStands (z_i g) T) 99 35 l a j = T a j := fun a j q => (z_sn (by omega)).trans (lk.2.1 a j q)
  have h1 : z_Mo c s nc (z_s (g_X3_lookAtGust s (z_i g) S) 51 8 l) (z_s (g_X12_gustStands (z_i g) T) 99 35 l) := z_Mo_f h (fun a q => f1 a (by omega)) (fun j _ => by rw [f1 s (by omega)]) (by rw [f1 75 (by decide)]) (fun a j q => f2 a j (by omega))
  have am := z_holds hc (L := Int32.ofInt 101) h1.2.2.2.1 h1.2.2.2.2.1 hv
  exact ⟨am.1, z_Mo_f h1 (fun a q => am.2.1 a (by omega)) (fun j _ => by show g_X3_anyHolds _ _ _ s j = _; rw [am.2.1 s (by omega)]) (by show g_X3_anyHolds _ _ _ 75 3 = _; rw [am.2.1 75 (by omega)]) (fun a j q => by rw [am.2.2 a (by omega) (by omega)]), fun a q1 q2 => (am.2.1 a q2).trans (f1 a q1), fun a j q1 q2 q3 => by rw [am.2.2 a q2 q3]; exact f2 a j q1⟩
theorem z_teach_l {c s nc : Nat} (hc : z_cd c) (hs : z_st s) {S0 T0 : v_Sf} {w : Nat} (hw : w < 6) {l : Int32} (hl : 0 ≤ l.toInt ∧ l.toInt ≤ 9) : ∀ (r k : Nat) (S T : v_Sf), r + k = 12 → z_R c s nc S0 T0 S T → z_R c s nc S0 T0 (r_X0_teach_14 c s (z_i w) l r k S) (r_X12_teaches_8 (z_i w) l r k T) := by
  have hsn := z_stn hs
  have hcl := z_cdl hc
  have nl : ¬ l = Int32.ofInt (-1) := by
    intro e
    rw [e] at hl
    exact absurd hl.1 (by decide)
  intro r
  induction r with
  | zero =>
    intro k S T _ h
    rw [r_X0_teach_14, r_X12_teaches_8]
    exact h
  | succ r ih =>
    intro k S T hk h0
    have h := h0.1
    have ek : (z_i k).toInt.toNat = k := z_iin (by omega)
    rw [r_X0_teach_14, r_X12_teaches_8, ek, if_neg nl]
    have wd := h.1.2.2.2.2.1 k (by omega)
    have hb := h.1.2.2.2.2.2.2.1 k (by omega)
    have nd := h.2.2.1 l.toInt.toNat (by omega)
    by_cases ht : T 116 k = 0
    · rw [if_pos ((z_hasG2 h.1 (by omega)).mpr ht), if_pos (by unfold f_X12_isIn; rw [ek, if_pos ht]; decide)]
      exact ih (k + 1) S T (by omega) h0
    · rw [if_neg (fun q => ht ((z_hasG2 h.1 (by omega)).mp q)), wd.1]
      by_cases hin : T 120 k = z_i w
      · rw [if_neg (not_not_intro hin), if_neg (show ¬ f_X12_isIn (z_i k) (z_i w) T = 0 by unfold f_X12_isIn; rw [ek, if_neg ht, if_neg (not_not_intro hin)]; decide), hb.1, nd.1]
        by_cases hh : f_X12_has (T 122 k) l = 0
        · have hh2 := (z_has (h := T 122 k) (l := l) (by omega)).mpr hh
          rw [if_neg (not_not_intro hh2), if_neg (not_not_intro hh)]
          by_cases hd : T 132 l.toInt.toNat &&& (T 122 k ^^^ Int32.ofInt (-1)) = 0
          · rw [if_neg (not_not_intro hd), if_pos hd]
            have lr := z_lrn hc hs h (g := k) (by omega) ht l
            rw [lr.1]
            by_cases hx : f_X12_says (Int32.ofInt 101) (z_s (g_X12_gustStands (z_i k) T) 99 35 l) = 0
            · rw [if_pos hx, if_neg (not_not_intro hx)]
              exact ih (k + 1) _ _ (by omega) (z_R_i h0 lr.2.1 (fun a j q => by unfold z_mc at q; rw [lr.2.2.1 a (by omega) (by omega)]) (fun a j q => by unfold z_mm at q; rw [lr.2.2.2 a j (by omega) (by omega) (by omega)]))
            · rw [if_neg hx, if_pos hx]
              have hb2 := lr.2.1.1.2.2.2.2.2.2.1 k (by omega)
              rw [hb2.1, lr.2.1.2.2.2.2.2]
              exact ih (k + 1) _ _ (by omega) (z_R_i h0 (z_Mo_lea hc hs (z_Mo_hab hc hs lr.2.1 k (z_orR hb2.2 hl))) (fun a j q => by unfold z_mc at q; rw [z_sn (by omega), z_sn (by omega), lr.2.2.1 a (by omega) (by omega)]) (fun a j q => by unfold z_mm at q; rw [z_sn (by omega), z_sn (by omega), lr.2.2.2 a j (by omega) (by omega) (by omega)]))
          · rw [if_pos hd, if_neg hd]
            exact ih (k + 1) S T (by omega) h0
        · have hh2 : ¬ f_X11_isIn (T 122 k) l = 0 := fun q => hh ((z_has (h := T 122 k) (l := l) (by omega)).mp q)
          rw [if_pos hh2, if_pos hh]
          exact ih (k + 1) S T (by omega) h0
      · rw [if_pos hin, if_pos (by unfold f_X12_isIn; rw [ek, if_neg ht, if_pos hin]; decide)]
        exact ih (k + 1) S T (by omega) h0
/-- one is angry with another one -/
theorem z_angry {c s nc : Nat} (hc : z_cd c) (hs : z_st s) {S T : v_Sf} (h : z_Mo c s nc S T) {g j : Nat} (hg : g < 12) (hj : j < 12) (ht : ¬ T 116 g = 0) (hu : ¬ T 116 j = 0) : f_X3_anyHolds c (Int32.ofInt 120) (g_X3_lookAtTwo s (z_i g) (z_i j) S) = f_X12_isAngry (z_i g) (z_i j) T ∧ z_Mo c s nc (g_X3_anyHolds c (Int32.ofInt 120) (g_X3_lookAtTwo s (z_i g) (z_i j) S)) (g_X12_isAngry (z_i g) (z_i j) T) ∧ (f_X12_isAngry (z_i g) (z_i j) T = Int32.ofInt 0 ∨ f_X12_isAngry (z_i g) (z_i j) T = Int32.ofInt 1) ∧ (∀ a, a ≠ 51 → a ≠ c + 3 → g_X3_anyHolds c (Int32.ofInt 120) (g_X3_lookAtTwo s (z_i g) (z_i j) S) a = S a) ∧ ∀ a i, ¬ (a = 99 ∧ 27 ≤ i ∧ i ≤ 40) → a ≠ 114 → a ≠ 115 → g_X12_isAngry (z_i g) (z_i j) T a i = T a i := by
  have hsn := z_stn hs
  have hcl := z_cdl hc
  have ej : (z_i j).toInt.toNat = j := z_iin (by omega)
  have lk := z_lookG hs h.1 h.2.1 hg ht
  have st := h.1.2.1 j hj
  have qr := h.1.2.2.1 j hj hu
  have E1 : g_X3_lookAtTwo s (z_i g) (z_i j) S = z_s (z_s (g_X3_lookAtGust s (z_i g) S) 51 6 (T 117 j)) 51 7 (S (s + 2) j) := by
    have hh : ¬ f_X7_hasGust s (z_i j) (g_X3_lookAtGust s (z_i g) S) = 0 := by
      rw [z_hasG _ hj, lk.1 s (by omega)]
      exact not_not_intro ((h.1.1.2 j hj).mpr hu)
    unfold g_X3_lookAtTwo
    rw [if_neg hh, ej, lk.1 (s + 1) (by omega), lk.1 (s + 2) (by omega), st.1]
  have E2 : f_X12_isAngry (z_i g) (z_i j) T = f_X12_says (Int32.ofInt 120) (z_s (z_s (g_X12_gustStands (z_i g) T) 99 33 (T 117 j)) 99 34 (S (s + 2) j)) ∧ g_X12_isAngry (z_i g) (z_i j) T = g_X12_says (Int32.ofInt 120) (z_s (z_s (g_X12_gustStands (z_i g) T) 99 33 (T 117 j)) 99 34 (S (s + 2) j)) := by
    unfold f_X12_isAngry g_X12_isAngry
    rw [ej, lk.2.1 118 j (by omega), lk.2.1 117 j (by omega)]
    rcases qr with ⟨q1, q2⟩ | ⟨q1, q2, q3⟩
    · rw [if_neg (not_not_intro q2), if_neg (not_not_intro q2), q1]
      exact ⟨rfl, rfl⟩
    · have n : ¬ T 118 j = Int32.ofInt (-1) := by
        intro e
        rw [e] at q2
        exact absurd q2 (by decide)
      rw [if_pos n, if_pos n, q1]
      exact ⟨rfl, rfl⟩
  have f1 : ∀ a, a ≠ 51 → z_s (z_s (g_X3_lookAtGust s (z_i g) S) 51 6 (T 117 j)) 51 7 (S (s + 2) j) a = S a := fun a q => (z_sr q).trans ((z_sr q).trans (lk.1 a q))
  have f2 : ∀ a i, ¬ (a = 99 ∧ 27 ≤ i ∧ i ≤ 40) → z_s (z_s (g_X12_gustStands (z_i g) T) 99 33 (T 117 j)) 99 34 (S (s + 2) j) a i = T a i := fun a i q => (z_sn (by omega)).trans ((z_sn (by omega)).trans (lk.2.1 a i q))
  have hv : z_vw (fun a => f_X1_valueAt a (z_s (z_s (g_X3_lookAtGust s (z_i g) S) 51 6 (T 117 j)) 51 7 (S (s + 2) j))) (fun a => f_X12_valueOf a (z_s (z_s (g_X12_gustStands (z_i g) T) 99 33 (T 117 j)) 99 34 (S (s + 2) j))) := by
    refine z_vw_mk (fun i hi => ?_) ?_
    · by_cases q : i = 7
      · rw [q, z_ss, z_ss]
      · by_cases q2 : i = 6
        · rw [q2, z_sn (by omega), z_ss, z_sn (by omega), z_ss]
        · rw [z_sn (by omega), z_sn (by omega), z_sn (by omega), z_sn (by omega)]
          exact lk.2.2.1 i hi
    · rw [z_sn (by omega), z_sn (by omega), z_sn (by omega), z_sn (by omega), lk.2.2.2.1, lk.2.1 99 60 (by omega)]
  have h1 : z_Mo c s nc (z_s (z_s (g_X3_lookAtGust s (z_i g) S) 51 6 (T 117 j)) 51 7 (S (s + 2) j)) (z_s (z_s (g_X12_gustStands (z_i g) T) 99 33 (T 117 j)) 99 34 (S (s + 2) j)) := z_Mo_f h (fun a q => f1 a (by omega)) (fun j _ => by rw [f1 s (by omega)]) (by rw [f1 75 (by decide)]) (fun a i q => f2 a i (by omega))
  have am := z_holds hc (L := Int32.ofInt 120) h1.2.2.2.1 h1.2.2.2.2.1 hv
  rw [E1, E2.1, E2.2]
  refine ⟨am.1, z_Mo_f h1 (fun a q => am.2.1 a (by omega)) (fun j _ => by rw [am.2.1 s (by omega)]) (by rw [am.2.1 75 (by omega)]) (fun a i q => by rw [am.2.2 a (by omega) (by omega)]), z_any01 _ _ _, fun a q1 q2 => (am.2.1 a q2).trans (f1 a q1), fun a i q1 q2 q3 => by rw [am.2.2 a q2 q3]; exact f2 a i q1⟩
theorem z_odds {c s nc : Nat} (hc : z_cd c) (hs : z_st s) {S T : v_Sf} (h : z_Mo c s nc S T) {g j : Nat} (hg : g < 12) (hj : j < 12) (ht : ¬ T 116 g = 0) (hu : ¬ T 116 j = 0) : f_X3_atOdds c s (z_i g) (z_i j) S = f_X12_doQuarrel (z_i g) (z_i j) T ∧ z_Mo c s nc (g_X3_atOdds c s (z_i g) (z_i j) S) (g_X12_doQuarrel (z_i g) (z_i j) T) ∧ (∀ a, a ≠ 51 → a ≠ c + 3 → g_X3_atOdds c s (z_i g) (z_i j) S a = S a) ∧ ∀ a i, ¬ (a = 99 ∧ 27 ≤ i ∧ i ≤ 40) → a ≠ 114 → a ≠ 115 → g_X12_doQuarrel (z_i g) (z_i j) T a i = T a i := by
  have a1 := z_angry hc hs h hg hj ht hu
  have a2 := z_angry hc hs a1.2.1 hj hg (by rw [a1.2.2.2.2 116 _ (by omega) (by omega) (by omega)]; exact hu) (by rw [a1.2.2.2.2 116 _ (by omega) (by omega) (by omega)]; exact ht)
  unfold f_X3_atOdds g_X3_atOdds f_X12_doQuarrel g_X12_doQuarrel
  rw [a1.1, a2.1]
  by_cases q : f_X12_isAngry (z_i g) (z_i j) T = 0
  · simp only [if_pos q, if_neg (not_not_intro q)]
    refine ⟨?_, a2.2.1, fun a q1 q2 => (a2.2.2.2.1 a q1 q2).trans (a1.2.2.2.1 a q1 q2), fun a i q1 q2 q3 => (a2.2.2.2.2 a i q1 q2 q3).trans (a1.2.2.2.2 a i q1 q2 q3)⟩
    rcases a2.2.2.1 with e | e
    · rw [e]
      rfl
    · rw [e]
      rfl
  · simp only [if_neg q, if_pos q]
    exact ⟨trivial, a1.2.1, a1.2.2.2.1, a1.2.2.2.2⟩
theorem z_quar_in {c s nc : Nat} (hc : z_cd c) (hs : z_st s) {S0 T0 : v_Sf} {k2 : Nat} (hk2 : k2 < 12) {κ κ' : v_Sf → v_Sf} (hκ : ∀ S T, z_R c s nc S0 T0 S T → z_R c s nc S0 T0 (κ S) (κ' T)) : ∀ (r k : Nat) (S T : v_Sf), r + k = 12 → k2 < k → z_R c s nc S0 T0 S T → z_R c s nc S0 T0 (r_X0_quarrelAll_12 c s κ k2 r k S) (r_X12_whistle_12 κ' k2 r k T) := by
  have hsn := z_stn hs
  have hcl := z_cdl hc
  have e2 : (z_i k2).toInt.toNat = k2 := z_iin (by omega)
  intro r
  induction r with
  | zero =>
    intro k S T _ _ h
    rw [r_X0_quarrelAll_12, r_X12_whistle_12]
    exact hκ S T h
  | succ r ih =>
    intro k S T hk hk12 h0
    have h := h0.1
    have ek : (z_i k).toInt.toNat = k := z_iin (by omega)
    rw [r_X0_quarrelAll_12, r_X12_whistle_12, ek, e2]
    by_cases ht : T 116 k2 = 0
    · rw [if_pos ((z_hasG2 h.1 hk2).mpr ht), if_pos ht]
      exact ih (k + 1) S T (by omega) (by omega) h0
    · rw [if_neg (fun q => ht ((z_hasG2 h.1 hk2).mp q)), if_neg ht]
      by_cases hu : T 116 k = 0
      · rw [if_pos ((z_hasG2 h.1 (by omega)).mpr hu), if_pos hu]
        exact ih (k + 1) S T (by omega) (by omega) h0
      · rw [if_neg (fun q => hu ((z_hasG2 h.1 (by omega)).mp q)), if_neg hu, (h.1.2.2.2.2.1 k2 hk2).1, (h.1.2.2.2.2.1 k (by omega)).1]
        by_cases hw : T 120 k2 = T 120 k
        · rw [if_neg (not_not_intro hw), if_neg (not_not_intro hw)]
          have od := z_odds hc hs h hk2 (show k < 12 by omega) ht hu
          rw [od.1]
          by_cases hx : f_X12_doQuarrel (z_i k2) (z_i k) T = 0
          · rw [if_pos hx, if_neg (not_not_intro hx)]
            exact ih (k + 1) _ _ (by omega) (by omega) (z_R_i h0 od.2.1 (fun a j q => by unfold z_mc at q; rw [od.2.2.1 a (by omega) (by omega)]) (fun a j q => by unfold z_mm at q; rw [od.2.2.2 a j (by omega) (by omega) (by omega)]))
          · rw [if_neg hx, if_pos hx]
            generalize g_X3_atOdds c s (z_i k2) (z_i k) S = S1 at od ⊢
            generalize g_X12_doQuarrel (z_i k2) (z_i k) T = T1 at od ⊢
            have m1 := od.2.1
            have e13 : S1 s 13 = T1 99 62 := m1.1.2.2.2.2.2.2.2.2.2.2.2.2
            have t1 := m1.1.2.2.2.1 k2 hk2
            have m2 : z_Mo c s nc (z_s S1 s 13 (T1 99 62 + Int32.ofInt 1)) (z_s (z_s T1 99 62 (T1 99 62 + Int32.ofInt 1)) 99 72 ((T1 99 72) + Int32.ofInt 1)) := z_Mo_f (z_Mo_whi hc hs m1 (v := T1 99 62 + Int32.ofInt 1)) (fun _ _ => rfl) (fun _ _ => rfl) rfl (fun a j q => z_sn (by omega))
            have w1 := z_tempN t1.2
            have m3 := z_Mo_tem hc hs m2 k2 w1.2
            have t2 := m3.1.2.2.2.1 k (by omega)
            have w2 := z_tempN t2.2
            rw [e13, t1.1, w1.1, t2.1, w2.1]
            exact ih (k + 1) _ _ (by omega) (by omega) (z_R_i h0 (z_Mo_tem hc hs m3 k w2.2) (fun a j q => by unfold z_mc at q; rw [z_sn (by omega), z_sn (by omega), z_sn (by omega), od.2.2.1 a (by omega) (by omega)]) (fun a j q => by unfold z_mm at q; rw [z_sn (by omega), z_sn (by omega), z_sn (by omega), z_sn (by omega), od.2.2.2 a j (by omega) (by omega) (by omega)]))
        · rw [if_pos hw, if_pos hw]
          exact ih (k + 1) S T (by omega) (by omega) h0
theorem z_quar_l {c s nc : Nat} (hc : z_cd c) (hs : z_st s) {S0 T0 : v_Sf} : ∀ (r k : Nat) (S T : v_Sf), r + k = 12 → z_R c s nc S0 T0 S T → z_R c s nc S0 T0 (r_X0_quarrelAll_2 c s r k S) (r_X12_whistle_2 r k T) := by
  intro r
  induction r with
  | zero =>
    intro k S T _ h
    rw [r_X0_quarrelAll_2, r_X12_whistle_2]
    exact h
  | succ r ih =>
    intro k S T hk h
    rw [r_X0_quarrelAll_2, r_X12_whistle_2]
    exact z_quar_in hc hs (k2 := k) (by omega) (fun S T h => ih (k + 1) S T (by omega) h) _ _ _ _ (by omega) (by omega) h
