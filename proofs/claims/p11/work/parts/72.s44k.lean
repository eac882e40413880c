/-! gustIs, nurseIs, check -/
theorem z_tld {g : Int32} {T : v_Sf} (t : ¬ f_X12_isTold g T = 0) : (0 ≤ g.toInt ∧ g.toInt ≤ 11) ∧ ¬ T 116 g.toInt.toNat = 0 := by
  have hg : 0 ≤ g.toInt ∧ g.toInt ≤ 11 := by
    refine Classical.byContradiction (fun m => t ?_)
    unfold f_X12_isTold
    rw [if_pos (z_in0.mpr m)]
    rfl
  refine ⟨hg, fun m => t ?_⟩
  unfold f_X12_isTold
  rw [if_neg (fun q => z_in0.mp q hg), if_pos m]
  rfl
theorem z_gustIs_ok {c b : Nat} {S T : v_Sf} (h : z_Rel c b S T) (g x : Int32) : f_X11_gustIs g x S = f_X12_gustIs g x T := by
  obtain ⟨⟨nc, hB⟩, _⟩ := id h
  have et := z_told_eq hB.1 g
  unfold f_X11_gustIs f_X12_gustIs
  rw [et]
  by_cases t : f_X12_isTold g T = 0
  · rw [if_neg (not_not_intro t), if_neg (not_not_intro t)]
  · rw [if_pos t, if_pos t]
    obtain ⟨hg, tt⟩ := z_tld t
    have hk : g.toInt.toNat < 12 := by omega
    obtain ⟨a1, a2, a3, a4, a5, a6, a7, _⟩ := id hB.1
    have e2 : S 2 g.toInt.toNat = T 117 g.toInt.toNat := (a2 _ hk).1
    have e4 : S 4 g.toInt.toNat = T 119 g.toInt.toNat := (a4 _ hk).1
    have e5 : S 5 g.toInt.toNat = T 120 g.toInt.toNat := (a5 _ hk).1
    have e6 : S 6 g.toInt.toNat = T 121 g.toInt.toNat := (a6 _ hk).1
    have e7 : S 7 g.toInt.toNat = T 122 g.toInt.toNat := (a7 _ hk).1
    have e3 : (if ¬ (S 3 g.toInt.toNat) = (Int32.ofInt 8) then S 3 g.toInt.toNat else Int32.ofInt (-2)) = f_X12_orLess (T 118 g.toInt.toNat) := by
      have a3' : z_qr (S 3 g.toInt.toNat) (T 118 g.toInt.toNat) := a3 _ hk tt
      unfold f_X12_orLess
      rcases a3' with ⟨q1, q2⟩ | ⟨q1, q2⟩
      · rw [q1, q2]
        decide
      · rw [q1, if_pos, if_pos]
        · intro m
          rw [m] at q2
          exact absurd q2.1 (by decide)
        · intro m
          rw [m] at q2
          exact absurd q2.2 (by decide)
    rw [e2, e3, e4, e5, e6, e7]
theorem z_hasN2 {S T : v_Sf} (h : z_St 1 S T) (k : Int32) : f_X7_hasNurse 1 k S = f_X12_isThere k T := by
  by_cases q : 0 ≤ k.toInt ∧ k.toInt ≤ 4
  · obtain ⟨n, hn, rfl⟩ : ∃ n, n < 5 ∧ k = z_i n := ⟨k.toInt.toNat, by omega, (z_ofN q.1).symm⟩
    have e := z_hasN (s := 1) h.2.2.2.2.2.2.2.1 hn
    have ek : (z_i n).toInt.toNat = n := z_iin (by omega)
    unfold f_X12_isThere
    rw [if_neg (fun m => z_in0.mp m q), ek]
    by_cases t : T 129 n = 0
    · rw [if_pos t]
      exact e.mpr t
    · rw [if_neg t]
      have w := fun m => t (e.mp m)
      unfold f_X7_hasNurse at w ⊢
      split
      · rename_i r
        exact absurd r (by rw [z_ltI2]; have e0 : (0 : Int32).toInt = 0 := rfl; omega)
      · split
        · rename_i r
          exact absurd r (by rw [z_leI2]; have e0 : (Int32.ofInt 5).toInt = 5 := rfl; omega)
        · split
          · rename_i r1 r2 r3
            rw [if_neg r1, if_neg r2, if_pos r3] at w
            exact absurd rfl w
          · rfl
  · unfold f_X12_isThere
    rw [if_pos (z_in0.mpr q)]
    unfold f_X7_hasNurse
    split
    · rfl
    · split
      · rfl
      · rename_i r1 r2
        have e0 : (0 : Int32).toInt = 0 := rfl
        have e5 : (Int32.ofInt 5).toInt = 5 := rfl
        rw [z_ltI2] at r1
        rw [z_leI2] at r2
        exact absurd ⟨by omega, by omega⟩ q
theorem z_nurseIs_ok {c b : Nat} {S T : v_Sf} (h : z_Rel c b S T) (k x : Int32) : f_X11_nurseIs k x S = f_X12_nurseIs k x T := by
  obtain ⟨⟨nc, hB⟩, _⟩ := id h
  unfold f_X11_nurseIs f_X12_nurseIs
  rw [z_hasN2 hB.1 k]
  by_cases t : f_X12_isThere k T = 0
  · rw [if_neg (not_not_intro t), if_pos t]
  · rw [if_pos t, if_neg t]
    have hg : 0 ≤ k.toInt ∧ k.toInt ≤ 4 := by
      refine Classical.byContradiction (fun m => t ?_)
      unfold f_X12_isThere
      rw [if_pos (z_in0.mpr m)]
      rfl
    have e8 : S 8 k.toInt.toNat = T 130 k.toInt.toNat := (hB.1.2.2.2.2.2.2.2.2.1 _ (by omega)).1
    have e9 : S 9 k.toInt.toNat = T 131 k.toInt.toNat := (hB.1.2.2.2.2.2.2.2.2.2.1 _ (by omega)).1
    rw [e8, e9]
    by_cases x0 : x = Int32.ofInt 0
    · rw [if_pos x0, x0, if_neg (by decide), if_neg (by decide)]
    · rw [if_neg x0]
      by_cases x1 : x = Int32.ofInt 1
      · rw [if_pos x1, x1, if_neg (by decide), if_pos (by decide)]
      · rw [if_neg x1, if_pos]
        rw [z_in0]
        intro m
        have h0 := z_ne x0
        have h1 := z_ne x1
        omega
theorem z_nm1 {k : Nat} (hk : k < 2147483648) : ¬ z_i k = Int32.ofInt (-1) := by
  intro e
  have e2 := congrArg Int32.toInt e
  rw [z_it3 hk, show (Int32.ofInt (-1)).toInt = -1 from rfl] at e2
  omega
theorem z_check_e {x : Int32} {k : Nat} (hk : k < 12) (S : v_Sf) : ∀ r k', r_X11_check_27 x r k' (z_i k) S = (z_i k, g_X8_empty S) := by
  intro r k'
  cases r with
  | zero => rw [r_X11_check_27]
  | succ r => rw [r_X11_check_27, if_pos (z_nm1 (by omega))]
theorem z_check_l {S T T0 : v_Sf} (hS : z_St 1 S T) (hT : z_Tp S T) (x : Int32) (e0 : ∀ a, a ≠ 99 → T0 a = T a) : ∀ r k, k + r ≤ 12 → z_i (k + r) ≤ S 45 1 → r_X11_check_27 x r k (Int32.ofInt (-1)) S = ((r_X12_check_30 x r k T0).1, g_X8_empty S) ∧ (r_X12_check_30 x r k T0).2 = T0 := by
  intro r
  induction r with
  | zero =>
    intro k _ _
    rw [r_X11_check_27, r_X12_check_30]
    exact ⟨rfl, rfl⟩
  | succ r ih =>
    intro k hk hm
    have ih2 := ih (k + 1) (by omega) (by rw [show k + 1 + r = k + (r + 1) by omega]; exact hm)
    have h1 := z_hasG2 hS (g := k) (by omega)
    have ek : (z_i k).toInt.toNat = k := z_iin (by omega)
    have hlt : ¬ S 45 1 ≤ z_i k := by
      rw [z_leI2] at hm ⊢
      rw [z_it3 (by omega)] at hm ⊢
      omega
    have ea : f_X8_at (z_i k) S = f_X12_byteAt (z_i k) T0 := by
      unfold f_X8_at f_X12_byteAt
      rw [if_neg (by rw [show (0 : Int32) = z_i 0 from rfl, z_ilt (by omega) (by omega)]; omega), if_neg hlt, ek, e0 100 (by decide)]
      exact (hT.1 k (by omega)).1
    have e2 : S 2 k = T 117 k := (hS.2.1 k (by omega)).1
    rw [r_X11_check_27, r_X12_check_30, if_neg (not_not_intro rfl), ea, ek, e0 116 (by decide), e0 117 (by decide), e2]
    by_cases t : T 116 k = 0
    · rw [if_pos (h1.mpr t), if_pos t]
      by_cases q : f_X12_byteAt (z_i k) T0 = Int32.ofInt 0
      · rw [if_pos q, if_pos q]
        exact ih2
      · rw [if_neg q, if_neg q]
        exact ⟨z_check_e (by omega) S _ _, rfl⟩
    · rw [if_neg (fun m => t (h1.mp m)), if_neg t]
      by_cases q : f_X12_byteAt (z_i k) T0 = T 117 k
      · rw [if_pos q, if_pos q]
        exact ih2
      · rw [if_neg q, if_neg q]
        exact ⟨z_check_e (by omega) S _ _, rfl⟩
/-- the tape is emptied, all else as it was -/
theorem z_Rel_e {c b : Nat} (hc : z_cd c) (hb : z_cd b) {S T : v_Sf} (h : z_Rel c b S T) : z_Rel c b (g_X8_empty S) (z_s T 99 1 (Int32.ofInt 0)) := by
  have hcn := z_cdl hc
  have hbn := z_cdl hb
  obtain ⟨⟨nc, hB⟩, hP, hT, _⟩ := id h
  unfold g_X8_empty
  exact z_Rel_f h ⟨nc, z_Bs_f hB (fun a q => z_sr (by omega)) (fun j q => z_sn (by omega)) (fun a j q => z_sn (by omega))⟩ (z_PX_f hP (z_sr (by omega)) (z_sn (by omega)) (z_sr (by omega)) (z_sr (by omega)) (z_sn (by omega))) (z_Tp_0 hT (z_sr (by omega)) z_ss (z_sr (by omega)) z_ss) (fun a j q => z_sn (by omega)) (fun a j q => z_sn (by omega))
theorem z_check_ok {c b : Nat} (hc : z_cd c) (hb : z_cd b) {S T : v_Sf} (h : z_Rel c b S T) (x : Int32) : f_X11_check x S = f_X12_check x T ∧ z_Rel c b (g_X11_check x S) (g_X12_check x T) := by
  obtain ⟨⟨nc, hB⟩, hP, hT, _⟩ := id h
  unfold f_X11_check g_X11_check f_X12_check g_X12_check F_X11_check F_X12_check
  by_cases r : 0 ≤ x.toInt ∧ x.toInt ≤ 12
  · have n1 : ¬ f_X11_within x (Int32.ofInt 12) = 0 := fun m => z_within.mp m r
    have n2 : ¬ z_in x 0 12 = 0 := fun m => z_in0.mp m r
    rw [if_neg n1, if_neg n2, hT.2.1]
    by_cases q : x ≤ T 99 1
    · rw [if_pos q, if_pos q]
      obtain ⟨n, hn, rfl⟩ : ∃ n, n ≤ 12 ∧ x = z_i n := ⟨x.toInt.toNat, by omega, (z_ofN r.1).symm⟩
      have en : (z_i n).toInt.toNat = n := z_iin (by omega)
      obtain ⟨l1, l2⟩ := z_check_l hB.1 hT (z_i n) (T0 := z_s T 99 1 (Int32.ofInt 0)) (fun a m => z_sr m) n 0 (by omega) (by rw [Nat.zero_add, hT.2.1]; exact q)
      rw [en, Nat.sub_zero, l1, l2]
      exact ⟨rfl, z_Rel_e hc hb h⟩
    · rw [if_neg q, if_neg q]
      exact ⟨rfl, h⟩
  · have n1 : f_X11_within x (Int32.ofInt 12) = 0 := z_within.mpr r
    have n2 : z_in x 0 12 = 0 := z_in0.mpr r
    rw [if_pos n1, if_pos n2]
    exact ⟨rfl, h⟩
