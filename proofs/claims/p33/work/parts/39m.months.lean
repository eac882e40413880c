/-! the class reads a timetable -/
noncomputable abbrev m_X5_here : g_M := (g_cn 5, yX5_here, cX5_here, 1, (some .int), g_look2 ttX5_here)
set_option maxRecDepth 20000 in
theorem mt_X5_here : g_mt 63 = some m_X5_here := rfl
noncomputable abbrev m_X8_at : g_M := (g_cn 8, yX8_at, cX8_at, 2, (some .int), g_look2 ttX8_at)
set_option maxRecDepth 20000 in
theorem mt_X8_at : g_mt 97 = some m_X8_at := rfl
noncomputable abbrev m_X5_fail : g_M := (g_cn 5, yX5_fail, cX5_fail, 3, none, g_look2 ttX5_fail)
set_option maxRecDepth 20000 in
theorem mt_X5_fail : g_mt 64 = some m_X5_fail := rfl
noncomputable abbrev m_X5_expect : g_M := (g_cn 5, yX5_expect, cX5_expect, 2, none, g_look2 ttX5_expect)
set_option maxRecDepth 20000 in
theorem mt_X5_expect : g_mt 65 = some m_X5_expect := rfl
noncomputable abbrev m_X5_readMonths : g_M := (g_cn 5, yX5_readMonths, cX5_readMonths, 3, none, g_look2 ttX5_readMonths)
set_option maxRecDepth 20000 in
theorem mt_X5_readMonths : g_mt 78 = some m_X5_readMonths := rfl
noncomputable abbrev m_X5_readMonth : g_M := (g_cn 5, yX5_readMonth, cX5_readMonth, 6, none, g_look2 ttX5_readMonth)
set_option maxRecDepth 20000 in
theorem mt_X5_readMonth : g_mt 79 = some m_X5_readMonth := rfl
noncomputable abbrev m_X5_readGroup : g_M := (g_cn 5, yX5_readGroup, cX5_readGroup, 2, none, g_look2 ttX5_readGroup)
set_option maxRecDepth 20000 in
theorem mt_X5_readGroup : g_mt 80 = some m_X5_readGroup := rfl
noncomputable abbrev m_X5_writeMonth : g_M := (g_cn 5, yX5_writeMonth, cX5_writeMonth, 2, none, g_look2 ttX5_writeMonth)
set_option maxRecDepth 20000 in
theorem mt_X5_writeMonth : g_mt 81 = some m_X5_writeMonth := rfl
noncomputable abbrev m_X5_repeat : g_M := (g_cn 5, yX5_repeat, cX5_repeat, 7, none, g_look2 ttX5_repeat)
set_option maxRecDepth 20000 in
theorem mt_X5_repeat : g_mt 82 = some m_X5_repeat := rfl
noncomputable abbrev m_X5_begin : g_M := (g_cn 5, yX5_begin, cX5_begin, 2, none, g_look2 ttX5_begin)
set_option maxRecDepth 20000 in
theorem mt_X5_begin : g_mt 62 = some m_X5_begin := rfl
noncomputable abbrev m_X5_readTimetable : g_M := (g_cn 5, yX5_readTimetable, cX5_readTimetable, 2, (some .int), g_look2 ttX5_readTimetable)
set_option maxRecDepth 20000 in
theorem mt_X5_readTimetable : g_mt 61 = some m_X5_readTimetable := rfl
noncomputable abbrev m_X1_clear : g_M := (g_cn 1, yX1_clear, cX1_clear, 1, none, g_look2 ttX1_clear)
set_option maxRecDepth 20000 in
theorem mt_X1_clear : g_mt 13 = some m_X1_clear := rfl
def u_S (S0 : v_Sf) (mo : Nat) (ta te tf : Int32) (le : Nat → Int32) : v_Sf := fun a j =>
  bif Nat.beq a 66 then (bif Nat.beq j 3 then Int32.ofInt (mo : Int) else bif Nat.beq j 4 then ta else bif Nat.beq j 5 then te else bif Nat.beq j 6 then tf else S0 66 j) else bif Nat.beq a 74 && Nat.blt j 49 then le j else S0 a j
section UW
variable {S0 : v_Sf} {mo : Nat} {ta te tf : Int32} {le : Nat → Int32}
theorem u_wmo {v : Int32} {k : Nat} (hv : v = Int32.ofInt (k : Int)) : v_ur (u_S S0 mo ta te tf le) 66 (upd ((u_S S0 mo ta te tf le) 66) 3 v) = u_S S0 k ta te tf le := by
  refine p_ext hv.symm (fun a' j' h => ?_)
  unfold u_S
  by_cases ha : a' = 66
  · have hj : ¬ j' = 3 := fun e => h ⟨ha, e⟩
    rw [ha, p_bq hj]
    rfl
  · rw [p_bq ha]
    rfl
theorem u_wta {v : Int32} : v_ur (u_S S0 mo ta te tf le) 66 (upd ((u_S S0 mo ta te tf le) 66) 4 v) = u_S S0 mo v te tf le := by
  refine p_ext rfl (fun a' j' h => ?_)
  unfold u_S
  by_cases ha : a' = 66
  · have hj : ¬ j' = 4 := fun e => h ⟨ha, e⟩
    rw [ha, p_bq hj]
    rfl
  · rw [p_bq ha]
    rfl
theorem u_wte {v : Int32} : v_ur (u_S S0 mo ta te tf le) 66 (upd ((u_S S0 mo ta te tf le) 66) 5 v) = u_S S0 mo ta v tf le := by
  refine p_ext rfl (fun a' j' h => ?_)
  unfold u_S
  by_cases ha : a' = 66
  · have hj : ¬ j' = 5 := fun e => h ⟨ha, e⟩
    rw [ha, p_bq hj]
    rfl
  · rw [p_bq ha]
    rfl
theorem u_wtf {v : Int32} : v_ur (u_S S0 mo ta te tf le) 66 (upd ((u_S S0 mo ta te tf le) 66) 6 v) = u_S S0 mo ta te v le := by
  refine p_ext rfl (fun a' j' h => ?_)
  unfold u_S
  by_cases ha : a' = 66
  · have hj : ¬ j' = 6 := fun e => h ⟨ha, e⟩
    rw [ha, p_bq hj]
    rfl
  · rw [p_bq ha]
    rfl
theorem u_rle {k : Nat} (hk : k < 49) : (u_S S0 mo ta te tf le) 74 k = le k := by
  unfold u_S
  rw [p_blt hk]
  rfl
theorem u_wle {i k : Nat} {v : Int32} (hi : i = k) (hk : k < 49) : v_ur (u_S S0 mo ta te tf le) 74 (upd ((u_S S0 mo ta te tf le) 74) i v) = u_S S0 mo ta te tf (upd le k v) := by
  subst hi
  refine p_ext ?_ (fun a' j' h => ?_)
  · unfold u_S
    rw [p_blt hk]
    show upd le i v i = v
    simp [upd]
  · unfold u_S
    by_cases ha : a' = 74
    · have hj : ¬ j' = i := fun e => h ⟨ha, e⟩
      have e : upd le i v j' = le j' := by simp [upd, hj]
      rw [e]
    · rw [p_bq ha]
      rfl
theorem u_at {a j : Nat} (h1 : a = 66 → ¬ j = 3 ∧ ¬ j = 4 ∧ ¬ j = 5 ∧ ¬ j = 6) (h2 : a = 74 → ¬ j < 49) : (u_S S0 mo ta te tf le) a j = S0 a j := by
  unfold u_S
  by_cases ha : a = 66
  · obtain ⟨y1, y2, y3, y4⟩ := h1 ha
    rw [p_bq y1, p_bq y2, p_bq y3, p_bq y4, ha]
    rfl
  · rw [p_bq ha]
    by_cases hr : a = 74
    · rw [p_blf (h2 hr), Bool.and_false]
      rfl
    · rw [p_bq hr]
      rfl
def v_fsR : List v_Ft := [.inr (.inl 46), .inr (.inr [53, 60, 68]), .inr (.inl 75), .inl (0, 49), .inl ((-2147483648), 2147483647), .inl ((-2147483648), 2147483647), .inl ((-2147483648), 2147483647)]
theorem v_tyR : v_ty 66 = some (.inr (.inr (5, v_fsR))) := rfl
theorem u_Tb {R : v_Rf} (hT : v_Tb v_ty S0 R) (h1 : mo ≤ 49) : v_Tb v_ty (u_S S0 mo ta te tf le) R := by
  intro a c hc
  by_cases ha : a = 66
  · subst ha
    rw [v_tyR] at hc
    cases hc
    intro j ft hj
    by_cases y1 : j = 3
    · subst y1
      cases (Option.some.inj (show some (.inl (0, 49)) = some ft from hj))
      exact ⟨by show (0 : Int) ≤ (Int32.ofInt (mo : Int)).toInt; rw [w_nat (by omega)]; omega, by show (Int32.ofInt (mo : Int)).toInt ≤ (49 : Int); rw [w_nat (by omega)]; omega⟩
    · by_cases y2 : j = 4 ∨ j = 5 ∨ j = 6
      · have e : ft = .inl ((-2147483648), 2147483647) := by
          rcases y2 with rfl | rfl | rfl <;> exact (Option.some.inj (show some (.inl ((-2147483648), 2147483647)) = some ft from hj)).symm
        subst e
        exact q_rng _
      · exact p_TF (u_at (fun _ => by omega) (fun h => by omega)) (hT 66 _ v_tyR j ft hj)
  · by_cases h2 : a = 74
    · subst h2
      cases (Option.some.inj ((show v_ty 74 = some (.inl (0, 49, (-2147483648), 2147483647)) from rfl).symm.trans hc))
      exact fun j _ => q_rng _
    · exact p_TC (fun j => u_at (fun h => absurd h ha) (fun h => absurd h h2)) (hT a c hc)
theorem u_of {R : v_Rf} {S : v_Sf} (hT : v_Tb v_ty S R) : ∃ mo : Nat, S = u_S S mo (S 66 4) (S 66 5) (S 66 6) (S 74) := by
  have h3 : 0 ≤ (S 66 3).toInt ∧ (S 66 3).toInt ≤ 49 := hT 66 _ v_tyR 3 _ rfl
  refine ⟨(S 66 3).toInt.toNat, ?_⟩
  funext a j
  by_cases ha : a = 66
  · subst ha
    by_cases y1 : j = 3
    · subst y1; exact p_nof h3.1
    · by_cases y2 : j = 4
      · subst y2; rfl
      · by_cases y3 : j = 5
        · subst y3; rfl
        · by_cases y4 : j = 6
          · subst y4; rfl
          · exact (u_at (fun _ => ⟨y1, y2, y3, y4⟩) (fun h => by omega)).symm
  · by_cases g : a = 74 ∧ j < 49
    · rw [g.1]; exact (u_rle g.2).symm
    · exact (u_at (fun h => absurd h ha) (fun h => by omega)).symm
end UW
section UH
variable {L : Nat} {xs : Nat → Int32} {d : Nat} {R : v_Rf} {Q : Option Value → v_Sf → v_Rf → Prop} {S0 : v_Sf} {mo : Nat} {ta te tf : Int32} {le : Nat → Int32}
theorem w_al {M : g_M} {pc : Nat} {lc : g_Lc} {S : v_Sf} {len x y a n tg : Nat} {z : Int} {b : Int × Int} {t : List Value} (hen : M.2.2.2.2.2 pc = some ((.arraylength, len), x, y, z)) (hg : v_ty a = some (.inl (tg, n, b))) (ht : decide (tg < 4) = true) (k : w_T L xs d M (pc + len) lc (.int (Int32.ofNat n) :: t) S R Q) : w_T L xs d M pc lc (.ref (a + 1) :: t) S R Q := by
  refine w_one hen ?_ k
  refine g_st_hp (en := ((.arraylength, len), x, y, z)) rfl rfl rfl (q := (.int (Int32.ofNat n) :: t, v_mk v_ty S R)) ?_
  have g1 := w_ty hg S R
  simp only [g_hp, g_al, g1, v_cell]
  rw [if_pos (of_decide_eq_true ht)]
theorem w_getv {M : g_M} {pc : Nat} {lc : g_Lc} {S : v_Sf} {i len ci y a c : Nat} {z : Int} {fs : List v_Ft} {l : List Nat} {t : List Value} (hen : M.2.2.2.2.2 pc = some ((.getfield i, len), ci, y, z)) (hg : v_ty a = some (.inr (.inr (ci, fs)))) (hf : fs[y]? = some (.inr (.inr l))) (hR : R a y = some c) (k : w_T L xs d M (pc + len) lc (.ref c :: t) S R Q) : w_T L xs d M pc lc (.ref (a + 1) :: t) S R Q := by
  refine w_one hen ?_ k
  refine g_st_hp (en := ((.getfield i, len), ci, y, z)) rfl rfl rfl (q := (.ref c :: t, v_mk v_ty S R)) ?_
  have g1 := w_ty hg S R
  have g2 := v_fs_at (S := S) (R := R) (a := a) hf
  simp only [g_hp, g_gf, g1, v_cell, beq_self_eq_true, cond_true, g2]
  simp only [v_fv, hR]
  rfl
def x_h (S0 : v_Sf) (ta te : Int32) : Int32 := if ta.toInt < te.toInt then (if 0 ≤ ta.toInt ∧ ta.toInt < (S0 45 1).toInt then S0 46 ta.toInt.toNat else Int32.ofInt (-1)) else Int32.ofInt (-1)
theorem x_at (S : v_Sf) (k : Int32) (hs : (S 45 1).toInt ≤ 260) (hq : Q (some (.int (if 0 ≤ k.toInt ∧ k.toInt < (S 45 1).toInt then S 46 k.toInt.toNat else Int32.ofInt (-1)))) S R) : w_T L xs d m_X8_at 0 (lv_args 0 [.ref 46, .int k]) [] S R Q := by
  have z0 : (0 : Int32).toInt = 0 := rfl
  refine w_st rfl (fun _ => rfl) ?_
  show w_T L xs d m_X8_at 1 [(0, .ref 46), (1, .int k)] [.int k] S R Q
  refine w_br (P := k < 0) rfl (fun _ => rfl) (fun h1 => ?_) (fun h1 => ?_)
  · rw [if_neg (fun h => by rw [q_lt32] at h1; omega)] at hq
    refine w_st rfl (fun _ => rfl) ?_
    show w_T L xs d m_X8_at 22 [(0, .ref 46), (1, .int k)] [.int (Int32.ofInt (-1))] S R Q
    refine w_ret rfl (by rfl) ?_
    exact hq
  · refine w_st rfl (fun _ => rfl) ?_
    refine w_st rfl (fun _ => rfl) ?_
    show w_T L xs d m_X8_at 6 [(0, .ref 46), (1, .int k)] [.ref 46, .int k] S R Q
    refine w_get rfl rfl rfl ?_
    show w_T L xs d m_X8_at 9 [(0, .ref 46), (1, .int k)] [.int (S 45 1), .int k] S R Q
    refine w_br (P := (S 45 1) ≤ k) rfl (fun _ => rfl) (fun h9 => ?_) (fun h9 => ?_)
    · rw [if_neg (fun h => by rw [q_le32] at h9; omega)] at hq
      refine w_st rfl (fun _ => rfl) ?_
      show w_T L xs d m_X8_at 22 [(0, .ref 46), (1, .int k)] [.int (Int32.ofInt (-1))] S R Q
      refine w_ret rfl (by rfl) ?_
      exact hq
    · rw [if_pos (by rw [q_lt32] at h1; rw [q_le32] at h9; omega)] at hq
      refine w_st rfl (fun _ => rfl) ?_
      show w_T L xs d m_X8_at 13 [(0, .ref 46), (1, .int k)] [.ref 46] S R Q
      refine w_getr rfl rfl rfl ?_
      refine w_st rfl (fun _ => rfl) ?_
      show w_T L xs d m_X8_at 17 [(0, .ref 46), (1, .int k)] [.int k, .ref 47] S R Q
      refine w_iald rfl rfl (by rw [q_lt32, z0] at h1; rw [q_le32] at h9; omega) (by rw [q_lt32, z0] at h1; rw [q_le32] at h9; omega) ?_
      refine w_st rfl (fun _ => rfl) ?_
      show w_T L xs d m_X8_at 22 [(0, .ref 46), (1, .int k)] [.int (S 46 k.toInt.toNat)] S R Q
      refine w_ret rfl (by rfl) ?_
      exact hq
theorem x_here (hs : (S0 45 1).toInt ≤ 260) (hq : Q (some (.int (x_h S0 ta te))) (u_S S0 mo ta te tf le) R) : w_T L xs (d + 1) m_X5_here 0 (lv_args 0 [.ref 67]) [] (u_S S0 mo ta te tf le) R Q := by
  refine w_st rfl (fun _ => rfl) ?_
  show w_T L xs (d + 1) m_X5_here 1 [(0, .ref 67)] [.ref 67] (u_S S0 mo ta te tf le) R Q
  refine w_get rfl rfl rfl ?_
  refine w_st rfl (fun _ => rfl) ?_
  show w_T L xs (d + 1) m_X5_here 5 [(0, .ref 67)] [.ref 67, .int ta] (u_S S0 mo ta te tf le) R Q
  refine w_get rfl rfl rfl ?_
  show w_T L xs (d + 1) m_X5_here 8 [(0, .ref 67)] [.int te, .int ta] (u_S S0 mo ta te tf le) R Q
  refine w_br (P := te ≤ ta) rfl (fun _ => rfl) (fun h8 => ?_) (fun h8 => ?_)
  · have hh : x_h S0 ta te = Int32.ofInt (-1) := if_neg (by rw [q_le32] at h8; omega)
    refine w_st rfl (fun _ => rfl) ?_
    show w_T L xs (d + 1) m_X5_here 26 [(0, .ref 67)] [.int (Int32.ofInt (-1))] (u_S S0 mo ta te tf le) R Q
    refine w_ret rfl (by rfl) ?_
    rw [hh] at hq; exact hq
  · have hh : x_h S0 ta te = (if 0 ≤ ta.toInt ∧ ta.toInt < (S0 45 1).toInt then S0 46 ta.toInt.toNat else Int32.ofInt (-1)) := if_pos (by rw [q_le32] at h8; omega)
    refine w_st rfl (fun _ => rfl) ?_
    show w_T L xs (d + 1) m_X5_here 12 [(0, .ref 67)] [.ref 67] (u_S S0 mo ta te tf le) R Q
    refine w_getr rfl rfl rfl ?_
    refine w_st rfl (fun _ => rfl) ?_
    show w_T L xs (d + 1) m_X5_here 16 [(0, .ref 67)] [.ref 67, .ref 46] (u_S S0 mo ta te tf le) R Q
    refine w_get rfl rfl rfl ?_
    show w_T L xs (d + 1) m_X5_here 19 [(0, .ref 67)] [.int ta, .ref 46] (u_S S0 mo ta te tf le) R Q
    refine w_cv rfl (by decide) mt_X8_at rfl rfl rfl rfl (Nat.le_of_ble_eq_true rfl) (Nat.le_of_ble_eq_true rfl) (Nat.le_of_ble_eq_true rfl) ?_
    show w_T L xs _ m_X8_at 0 (lv_args 0 [.ref 46, .int ta]) [] (u_S S0 mo ta te tf le) R _
    refine x_at _ _ hs ?_
    refine w_st rfl (fun _ => rfl) ?_
    show w_T L xs (d + 1) m_X5_here 26 [(0, .ref 67)] [.int ((if 0 ≤ ta.toInt ∧ ta.toInt < (S0 45 1).toInt then S0 46 ta.toInt.toNat else Int32.ofInt (-1)))] (u_S S0 mo ta te tf le) R Q
    refine w_ret rfl (by rfl) ?_
    rw [hh] at hq; exact hq
theorem x_fail {f w : Int32} (hq : ∀ e' f', Q none (u_S S0 mo ta (e') (f') le) R) : w_T L xs d m_X5_fail 0 (lv_args 0 [.ref 67, .int f, .int w]) [] (u_S S0 mo ta te tf le) R Q := by
  refine w_st rfl (fun _ => rfl) ?_
  show w_T L xs d m_X5_fail 1 [(0, .ref 67), (1, .int f), (2, .int w)] [.ref 67] (u_S S0 mo ta te tf le) R Q
  refine w_get rfl rfl rfl ?_
  show w_T L xs d m_X5_fail 4 [(0, .ref 67), (1, .int f), (2, .int w)] [.int tf] (u_S S0 mo ta te tf le) R Q
  refine w_br (P := ¬ tf = 0) rfl (fun _ => rfl) (fun h4 => ?_) (fun h4 => ?_)
  · refine w_ret rfl rfl ?_
    exact hq _ _
  · refine w_st rfl (fun _ => rfl) ?_
    refine w_st rfl (fun _ => rfl) ?_
    refine w_st rfl (fun _ => rfl) ?_
    refine w_st rfl (fun _ => rfl) ?_
    refine w_st rfl (fun _ => rfl) ?_
    refine w_st rfl (fun _ => rfl) ?_
    show w_T L xs d m_X5_fail 15 [(0, .ref 67), (1, .int f), (2, .int w)] [.int (((Int32.ofInt (-1000)) * f) - w), .ref 67] (u_S S0 mo ta te tf le) R Q
    refine w_put rfl rfl rfl rfl rfl ?_
    refine w_eqS u_wtf ?_
    refine w_st rfl (fun _ => rfl) ?_
    refine w_st rfl (fun _ => rfl) ?_
    show w_T L xs d m_X5_fail 20 [(0, .ref 67), (1, .int f), (2, .int w)] [.ref 67, .ref 67] (u_S S0 mo ta te (((Int32.ofInt (-1000)) * f) - w) le) R Q
    refine w_get rfl rfl rfl ?_
    show w_T L xs d m_X5_fail 23 [(0, .ref 67), (1, .int f), (2, .int w)] [.int ta, .ref 67] (u_S S0 mo ta te (((Int32.ofInt (-1000)) * f) - w) le) R Q
    refine w_put rfl rfl rfl rfl rfl ?_
    refine w_eqS u_wte ?_
    show w_T L xs d m_X5_fail 26 [(0, .ref 67), (1, .int f), (2, .int w)] [] (u_S S0 mo ta ta (((Int32.ofInt (-1000)) * f) - w) le) R Q
    refine w_ret rfl rfl ?_
    exact hq _ _
theorem x_expect {c : Int32} (hs : (S0 45 1).toInt ≤ 260) (hq : ∀ a' e' f', Q none (u_S S0 mo (a') (e') (f') le) R) : w_T L xs (d + 2) m_X5_expect 0 (lv_args 0 [.ref 67, .int c]) [] (u_S S0 mo ta te tf le) R Q := by
  refine w_st rfl (fun _ => rfl) ?_
  show w_T L xs (d + 2) m_X5_expect 1 [(0, .ref 67), (1, .int c)] [.ref 67] (u_S S0 mo ta te tf le) R Q
  refine w_cv rfl (by decide) mt_X5_here rfl rfl rfl rfl (Nat.le_of_ble_eq_true rfl) (Nat.le_of_ble_eq_true rfl) (Nat.le_of_ble_eq_true rfl) ?_
  show w_T L xs _ m_X5_here 0 (lv_args 0 [.ref 67]) [] (u_S S0 mo ta te tf le) R _
  refine x_here hs ?_
  refine w_st rfl (fun _ => rfl) ?_
  show w_T L xs (d + 2) m_X5_expect 5 [(0, .ref 67), (1, .int c)] [.int c, .int (x_h S0 ta te)] (u_S S0 mo ta te tf le) R Q
  refine w_br (P := ¬ (x_h S0 ta te) = c) rfl (fun _ => rfl) (fun h5 => ?_) (fun h5 => ?_)
  · refine w_st rfl (fun _ => rfl) ?_
    refine w_st rfl (fun _ => rfl) ?_
    refine w_st rfl (fun _ => rfl) ?_
    show w_T L xs (d + 2) m_X5_expect 24 [(0, .ref 67), (1, .int c)] [.ref 67, .int (Int32.ofInt 1), .ref 67] (u_S S0 mo ta te tf le) R Q
    refine w_get rfl rfl rfl ?_
    show w_T L xs (d + 2) m_X5_expect 27 [(0, .ref 67), (1, .int c)] [.int ta, .int (Int32.ofInt 1), .ref 67] (u_S S0 mo ta te tf le) R Q
    refine w_cv rfl (by decide) mt_X5_fail rfl rfl rfl rfl (Nat.le_of_ble_eq_true rfl) (Nat.le_of_ble_eq_true rfl) (Nat.le_of_ble_eq_true rfl) ?_
    show w_T L xs _ m_X5_fail 0 (lv_args 0 [.ref 67, .int (Int32.ofInt 1), .int ta]) [] (u_S S0 mo ta te tf le) R _
    refine x_fail (fun e27 f27 => ?_)
    show w_T L xs (d + 2) m_X5_expect 30 [(0, .ref 67), (1, .int c)] [] (u_S S0 mo ta e27 f27 le) R Q
    refine w_ret rfl rfl ?_
    exact hq _ _ _
  · refine w_st rfl (fun _ => rfl) ?_
    refine w_st rfl (fun _ => rfl) ?_
    show w_T L xs (d + 2) m_X5_expect 10 [(0, .ref 67), (1, .int c)] [.ref 67, .ref 67] (u_S S0 mo ta te tf le) R Q
    refine w_get rfl rfl rfl ?_
    refine w_st rfl (fun _ => rfl) ?_
    refine w_st rfl (fun _ => rfl) ?_
    show w_T L xs (d + 2) m_X5_expect 15 [(0, .ref 67), (1, .int c)] [.int (ta + (Int32.ofInt 1)), .ref 67] (u_S S0 mo ta te tf le) R Q
    refine w_put rfl rfl rfl rfl rfl ?_
    refine w_eqS u_wta ?_
    refine w_st rfl (fun _ => rfl) ?_
    show w_T L xs (d + 2) m_X5_expect 30 [(0, .ref 67), (1, .int c)] [] (u_S S0 mo (ta + (Int32.ofInt 1)) te tf le) R Q
    refine w_ret rfl rfl ?_
    exact hq _ _ _
theorem x_write {c : Int32} (hm : mo ≤ 49) (hq : ∀ a' m' l', mo ≤ m' → m' ≤ 49 → Q none (u_S S0 (m') (a') te tf (l')) R) : w_T L xs d m_X5_writeMonth 0 (lv_args 0 [.ref 67, .int c]) [] (u_S S0 mo ta te tf le) R Q := by
  have em := w_nat (k := mo) (by omega)
  have e49 : (Int32.ofInt 49).toInt = 49 := by decide
  refine w_st rfl (fun _ => rfl) ?_
  refine w_st rfl (fun _ => rfl) ?_
  show w_T L xs d m_X5_writeMonth 2 [(0, .ref 67), (1, .int c)] [.ref 67, .ref 67] (u_S S0 mo ta te tf le) R Q
  refine w_get rfl rfl rfl ?_
  refine w_st rfl (fun _ => rfl) ?_
  refine w_st rfl (fun _ => rfl) ?_
  show w_T L xs d m_X5_writeMonth 7 [(0, .ref 67), (1, .int c)] [.int (ta + (Int32.ofInt 1)), .ref 67] (u_S S0 mo ta te tf le) R Q
  refine w_put rfl rfl rfl rfl rfl ?_
  refine w_eqS u_wta ?_
  refine w_st rfl (fun _ => rfl) ?_
  show w_T L xs d m_X5_writeMonth 11 [(0, .ref 67), (1, .int c)] [.ref 67] (u_S S0 mo (ta + (Int32.ofInt 1)) te tf le) R Q
  refine w_get rfl rfl rfl ?_
  refine w_st rfl (fun _ => rfl) ?_
  show w_T L xs d m_X5_writeMonth 15 [(0, .ref 67), (1, .int c)] [.ref 67, .int (Int32.ofInt (mo : Int))] (u_S S0 mo (ta + (Int32.ofInt 1)) te tf le) R Q
  refine w_getr rfl rfl rfl ?_
  show w_T L xs d m_X5_writeMonth 18 [(0, .ref 67), (1, .int c)] [.ref 75, .int (Int32.ofInt (mo : Int))] (u_S S0 mo (ta + (Int32.ofInt 1)) te tf le) R Q
  refine w_al rfl rfl rfl ?_
  show w_T L xs d m_X5_writeMonth 19 [(0, .ref 67), (1, .int c)] [.int (Int32.ofInt 49), .int (Int32.ofInt (mo : Int))] (u_S S0 mo (ta + (Int32.ofInt 1)) te tf le) R Q
  refine w_br (P := (Int32.ofInt 49) ≤ (Int32.ofInt (mo : Int))) rfl (fun _ => rfl) (fun h19 => ?_) (fun h19 => ?_)
  · refine w_ret rfl rfl ?_
    exact hq _ _ _ (by omega) (by omega)
  · have hlt : mo < 49 := by
      rw [q_le32, em, e49] at h19
      omega
    refine w_st rfl (fun _ => rfl) ?_
    show w_T L xs d m_X5_writeMonth 23 [(0, .ref 67), (1, .int c)] [.ref 67] (u_S S0 mo (ta + (Int32.ofInt 1)) te tf le) R Q
    refine w_getr rfl rfl rfl ?_
    refine w_st rfl (fun _ => rfl) ?_
    show w_T L xs d m_X5_writeMonth 27 [(0, .ref 67), (1, .int c)] [.ref 67, .ref 75] (u_S S0 mo (ta + (Int32.ofInt 1)) te tf le) R Q
    refine w_get rfl rfl rfl ?_
    refine w_st rfl (fun _ => rfl) ?_
    show w_T L xs d m_X5_writeMonth 31 [(0, .ref 67), (1, .int c)] [.int c, .int (Int32.ofInt (mo : Int)), .ref 75] (u_S S0 mo (ta + (Int32.ofInt 1)) te tf le) R Q
    refine w_iast rfl rfl (by rw [w_nat (by omega)]; omega) (by rw [w_nat (by omega)]; omega) ?_
    refine w_eqS (u_wle (w_natn (by omega)) (by omega)) ?_
    refine w_st rfl (fun _ => rfl) ?_
    refine w_st rfl (fun _ => rfl) ?_
    show w_T L xs d m_X5_writeMonth 34 [(0, .ref 67), (1, .int c)] [.ref 67, .ref 67] (u_S S0 mo (ta + (Int32.ofInt 1)) te tf (upd le mo c)) R Q
    refine w_get rfl rfl rfl ?_
    refine w_st rfl (fun _ => rfl) ?_
    refine w_st rfl (fun _ => rfl) ?_
    show w_T L xs d m_X5_writeMonth 39 [(0, .ref 67), (1, .int c)] [.int ((Int32.ofInt (mo : Int)) + (Int32.ofInt 1)), .ref 67] (u_S S0 mo (ta + (Int32.ofInt 1)) te tf (upd le mo c)) R Q
    refine w_put rfl rfl rfl rfl rfl ?_
    refine w_eqS (u_wmo (w_inc _)) ?_
    show w_T L xs d m_X5_writeMonth 42 [(0, .ref 67), (1, .int c)] [] (u_S S0 (mo + 1) (ta + (Int32.ofInt 1)) te tf (upd le mo c)) R Q
    refine w_ret rfl rfl ?_
    exact hq _ _ _ (by omega) (by omega)
theorem x_rp1 {al z : Nat} {bI tI wI : Int32} (ha : al ≤ 48) (hz : z ≤ 49) (K : ∀ l', Q none (u_S S0 al ta te tf (l')) R) : ∀ (c k : Nat) (le : Nat → Int32), al ≤ k + c → k ≤ 49 → w_T L xs d m_X5_repeat 37 [(6, .int (Int32.ofInt (k : Int))), (5, .int (Int32.ofInt (al : Int))), (4, .int (Int32.ofInt (z : Int))), (0, .ref 67), (1, .int bI), (2, .int tI), (3, .int wI)] [] (u_S S0 mo ta te tf le) R Q := by
  intro c
  have ea := w_nat (k := al) (by omega)
  have ez := w_nat (k := z) (by omega)
  induction c with
  | zero =>
    intro k le hk hk2
    have ek := w_nat (k := k) (by omega)
    refine w_st rfl (fun _ => rfl) ?_
    refine w_st rfl (fun _ => rfl) ?_
    show w_T L xs d m_X5_repeat 41 [(6, .int (Int32.ofInt (k : Int))), (5, .int (Int32.ofInt (al : Int))), (4, .int (Int32.ofInt (z : Int))), (0, .ref 67), (1, .int bI), (2, .int tI), (3, .int wI)] [.int (Int32.ofInt (al : Int)), .int (Int32.ofInt (k : Int))] (u_S S0 mo ta te tf le) R Q
    refine w_br (P := (Int32.ofInt (al : Int)) ≤ (Int32.ofInt (k : Int))) rfl (fun _ => rfl) (fun h41 => ?_) (fun h41 => ?_)
    · refine w_st rfl (fun _ => rfl) ?_
      refine w_st rfl (fun _ => rfl) ?_
      show w_T L xs d m_X5_repeat 87 [(6, .int (Int32.ofInt (k : Int))), (5, .int (Int32.ofInt (al : Int))), (4, .int (Int32.ofInt (z : Int))), (0, .ref 67), (1, .int bI), (2, .int tI), (3, .int wI)] [.int (Int32.ofInt (al : Int)), .ref 67] (u_S S0 mo ta te tf le) R Q
      refine w_put rfl rfl rfl rfl rfl ?_
      refine w_eqS (u_wmo (k := al) rfl) ?_
      show w_T L xs d m_X5_repeat 90 [(6, .int (Int32.ofInt (k : Int))), (5, .int (Int32.ofInt (al : Int))), (4, .int (Int32.ofInt (z : Int))), (0, .ref 67), (1, .int bI), (2, .int tI), (3, .int wI)] [] (u_S S0 al ta te tf le) R Q
      refine w_ret rfl rfl ?_
      exact K _
    · exfalso; rw [q_le32, ea, ek] at h41; omega
  | succ c ih =>
    intro k le hk hk2
    have ek := w_nat (k := k) (by omega)
    have e49 : (Int32.ofInt 49).toInt = 49 := by decide
    refine w_st rfl (fun _ => rfl) ?_
    refine w_st rfl (fun _ => rfl) ?_
    show w_T L xs d m_X5_repeat 41 [(6, .int (Int32.ofInt (k : Int))), (5, .int (Int32.ofInt (al : Int))), (4, .int (Int32.ofInt (z : Int))), (0, .ref 67), (1, .int bI), (2, .int tI), (3, .int wI)] [.int (Int32.ofInt (al : Int)), .int (Int32.ofInt (k : Int))] (u_S S0 mo ta te tf le) R Q
    refine w_br (P := (Int32.ofInt (al : Int)) ≤ (Int32.ofInt (k : Int))) rfl (fun _ => rfl) (fun h41 => ?_) (fun h41 => ?_)
    · refine w_st rfl (fun _ => rfl) ?_
      refine w_st rfl (fun _ => rfl) ?_
      show w_T L xs d m_X5_repeat 87 [(6, .int (Int32.ofInt (k : Int))), (5, .int (Int32.ofInt (al : Int))), (4, .int (Int32.ofInt (z : Int))), (0, .ref 67), (1, .int bI), (2, .int tI), (3, .int wI)] [.int (Int32.ofInt (al : Int)), .ref 67] (u_S S0 mo ta te tf le) R Q
      refine w_put rfl rfl rfl rfl rfl ?_
      refine w_eqS (u_wmo (k := al) rfl) ?_
      show w_T L xs d m_X5_repeat 90 [(6, .int (Int32.ofInt (k : Int))), (5, .int (Int32.ofInt (al : Int))), (4, .int (Int32.ofInt (z : Int))), (0, .ref 67), (1, .int bI), (2, .int tI), (3, .int wI)] [] (u_S S0 al ta te tf le) R Q
      refine w_ret rfl rfl ?_
      exact K _
    · have hlt : k < al := by
        rw [q_le32, ea, ek] at h41
        omega
      refine w_st rfl (fun _ => rfl) ?_
      refine w_st rfl (fun _ => rfl) ?_
      show w_T L xs d m_X5_repeat 48 [(6, .int (Int32.ofInt (k : Int))), (5, .int (Int32.ofInt (al : Int))), (4, .int (Int32.ofInt (z : Int))), (0, .ref 67), (1, .int bI), (2, .int tI), (3, .int wI)] [.int (Int32.ofInt (z : Int)), .int (Int32.ofInt (k : Int))] (u_S S0 mo ta te tf le) R Q
      refine w_br (P := (Int32.ofInt (k : Int)) < (Int32.ofInt (z : Int))) rfl (fun _ => rfl) (fun h48 => ?_) (fun h48 => ?_)
      · refine w_st rfl (fun _ => rfl) ?_
        refine w_st rfl (fun _ => rfl) ?_
        show w_T L xs d m_X5_repeat 87 [(6, .int (Int32.ofInt (k : Int))), (5, .int (Int32.ofInt (al : Int))), (4, .int (Int32.ofInt (z : Int))), (0, .ref 67), (1, .int bI), (2, .int tI), (3, .int wI)] [.int (Int32.ofInt (al : Int)), .ref 67] (u_S S0 mo ta te tf le) R Q
        refine w_put rfl rfl rfl rfl rfl ?_
        refine w_eqS (u_wmo (k := al) rfl) ?_
        show w_T L xs d m_X5_repeat 90 [(6, .int (Int32.ofInt (k : Int))), (5, .int (Int32.ofInt (al : Int))), (4, .int (Int32.ofInt (z : Int))), (0, .ref 67), (1, .int bI), (2, .int tI), (3, .int wI)] [] (u_S S0 al ta te tf le) R Q
        refine w_ret rfl rfl ?_
        exact K _
      · have hge : z ≤ k := by
          rw [q_lt32, ez, ek] at h48
          omega
        have es : Int32.ofInt (k : Int) - Int32.ofInt (z : Int) = Int32.ofInt ((k - z : Nat) : Int) := by
          rw [← Int32.ofInt_sub]
          congr 1
          omega
        refine w_st rfl (fun _ => rfl) ?_
        refine w_st rfl (fun _ => rfl) ?_
        show w_T L xs d m_X5_repeat 54 [(6, .int (Int32.ofInt (k : Int))), (5, .int (Int32.ofInt (al : Int))), (4, .int (Int32.ofInt (z : Int))), (0, .ref 67), (1, .int bI), (2, .int tI), (3, .int wI)] [.ref 67, .int (Int32.ofInt (k : Int))] (u_S S0 mo ta te tf le) R Q
        refine w_getr rfl rfl rfl ?_
        show w_T L xs d m_X5_repeat 57 [(6, .int (Int32.ofInt (k : Int))), (5, .int (Int32.ofInt (al : Int))), (4, .int (Int32.ofInt (z : Int))), (0, .ref 67), (1, .int bI), (2, .int tI), (3, .int wI)] [.ref 75, .int (Int32.ofInt (k : Int))] (u_S S0 mo ta te tf le) R Q
        refine w_al rfl rfl rfl ?_
        show w_T L xs d m_X5_repeat 58 [(6, .int (Int32.ofInt (k : Int))), (5, .int (Int32.ofInt (al : Int))), (4, .int (Int32.ofInt (z : Int))), (0, .ref 67), (1, .int bI), (2, .int tI), (3, .int wI)] [.int (Int32.ofInt 49), .int (Int32.ofInt (k : Int))] (u_S S0 mo ta te tf le) R Q
        refine w_br (P := (Int32.ofInt 49) ≤ (Int32.ofInt (k : Int))) rfl (fun _ => rfl) (fun h58 => ?_) (fun h58 => ?_)
        · refine w_st rfl (fun _ => rfl) ?_
          refine w_st rfl (fun _ => rfl) ?_
          show w_T L xs d m_X5_repeat 87 [(6, .int (Int32.ofInt (k : Int))), (5, .int (Int32.ofInt (al : Int))), (4, .int (Int32.ofInt (z : Int))), (0, .ref 67), (1, .int bI), (2, .int tI), (3, .int wI)] [.int (Int32.ofInt (al : Int)), .ref 67] (u_S S0 mo ta te tf le) R Q
          refine w_put rfl rfl rfl rfl rfl ?_
          refine w_eqS (u_wmo (k := al) rfl) ?_
          show w_T L xs d m_X5_repeat 90 [(6, .int (Int32.ofInt (k : Int))), (5, .int (Int32.ofInt (al : Int))), (4, .int (Int32.ofInt (z : Int))), (0, .ref 67), (1, .int bI), (2, .int tI), (3, .int wI)] [] (u_S S0 al ta te tf le) R Q
          refine w_ret rfl rfl ?_
          exact K _
        · refine w_st rfl (fun _ => rfl) ?_
          show w_T L xs d m_X5_repeat 62 [(6, .int (Int32.ofInt (k : Int))), (5, .int (Int32.ofInt (al : Int))), (4, .int (Int32.ofInt (z : Int))), (0, .ref 67), (1, .int bI), (2, .int tI), (3, .int wI)] [.ref 67] (u_S S0 mo ta te tf le) R Q
          refine w_getr rfl rfl rfl ?_
          refine w_st rfl (fun _ => rfl) ?_
          refine w_st rfl (fun _ => rfl) ?_
          show w_T L xs d m_X5_repeat 68 [(6, .int (Int32.ofInt (k : Int))), (5, .int (Int32.ofInt (al : Int))), (4, .int (Int32.ofInt (z : Int))), (0, .ref 67), (1, .int bI), (2, .int tI), (3, .int wI)] [.ref 67, .int (Int32.ofInt (k : Int)), .ref 75] (u_S S0 mo ta te tf le) R Q
          refine w_getr rfl rfl rfl ?_
          refine w_st rfl (fun _ => rfl) ?_
          refine w_st rfl (fun _ => rfl) ?_
          refine w_st rfl (fun _ => rfl) ?_
          show w_T L xs d m_X5_repeat 76 [(6, .int (Int32.ofInt (k : Int))), (5, .int (Int32.ofInt (al : Int))), (4, .int (Int32.ofInt (z : Int))), (0, .ref 67), (1, .int bI), (2, .int tI), (3, .int wI)] [.int ((Int32.ofInt (k : Int)) - (Int32.ofInt (z : Int))), .ref 75, .int (Int32.ofInt (k : Int)), .ref 75] (u_S S0 mo ta te tf le) R Q
          refine w_iald rfl rfl (by rw [es, w_nat (by omega)]; omega) (by rw [es, w_nat (by omega)]; omega) ?_
          rw [es, w_natn (by omega), u_rle (by omega)]
          show w_T L xs d m_X5_repeat 77 [(6, .int (Int32.ofInt (k : Int))), (5, .int (Int32.ofInt (al : Int))), (4, .int (Int32.ofInt (z : Int))), (0, .ref 67), (1, .int bI), (2, .int tI), (3, .int wI)] [.int (le (k - z)), .int (Int32.ofInt (k : Int)), .ref 75] (u_S S0 mo ta te tf le) R Q
          refine w_iast rfl rfl (by rw [w_nat (by omega)]; omega) (by rw [w_nat (by omega)]; omega) ?_
          refine w_eqS (u_wle (w_natn (by omega)) (by omega)) ?_
          refine w_st rfl (fun _ => rfl) ?_
          refine w_st rfl (fun _ => rfl) ?_
          show w_T L xs d m_X5_repeat 37 [(6, .int ((Int32.ofInt (k : Int)) + (Int32.ofInt 1))), (5, .int (Int32.ofInt (al : Int))), (4, .int (Int32.ofInt (z : Int))), (0, .ref 67), (1, .int bI), (2, .int tI), (3, .int wI)] [] (u_S S0 mo ta te tf (upd le k (le (k - z)))) R Q
          rw [w_inc]
          exact ih (k + 1) _ (by omega) (by omega)
theorem x_repeat {bI tI wI : Int32} {b : Nat} (hbI : bI = Int32.ofInt (b : Int)) (hb : b ≤ mo) (hm : mo ≤ 49) (t1 : 1 ≤ tI.toInt) (t2 : tI.toInt ≤ 9) (hq : ∀ m' e' f' l', mo ≤ m' → m' ≤ 49 → Q none (u_S S0 (m') ta (e') (f') (l')) R) : w_T L xs (d + 1) m_X5_repeat 0 (lv_args 0 [.ref 67, .int bI, .int tI, .int wI]) [] (u_S S0 mo ta te tf le) R Q := by
  obtain ⟨m, rfl, hm1, hm2⟩ : ∃ m : Nat, tI = Int32.ofInt (m : Int) ∧ 1 ≤ m ∧ m ≤ 9 := ⟨_, p_nof (by omega), by omega, by omega⟩
  obtain ⟨z, hz⟩ : ∃ z, b + z = mo := ⟨mo - b, by omega⟩
  obtain ⟨p, hp⟩ : ∃ p, z * m = p := ⟨_, rfl⟩
  have hp1 : z ≤ p := by rw [← hp]; exact Nat.le_mul_of_pos_right z hm1
  have hp2 : p ≤ 49 * 9 := by rw [← hp]; exact Nat.mul_le_mul (by omega) hm2
  have es : Int32.ofInt (mo : Int) - bI = Int32.ofInt (z : Int) := by
    rw [hbI, ← Int32.ofInt_sub]
    congr 1
    omega
  obtain ⟨al, hal⟩ : ∃ al, b + p = al := ⟨_, rfl⟩
  have ea : bI + Int32.ofInt (z : Int) * Int32.ofInt (m : Int) = Int32.ofInt (al : Int) := by
    rw [hbI, ← Int32.ofInt_mul, ← Int32.ofInt_add]
    congr 1
    rw [← hal, ← hp]
    rfl
  have e48 : (Int32.ofInt 48).toInt = 48 := by decide
  have eal := w_nat (k := al) (by omega)
  refine w_st rfl (fun _ => rfl) ?_
  show w_T L xs (d + 1) m_X5_repeat 1 [(0, .ref 67), (1, .int bI), (2, .int (Int32.ofInt (m : Int))), (3, .int wI)] [.ref 67] (u_S S0 mo ta te tf le) R Q
  refine w_get rfl rfl rfl ?_
  refine w_st rfl (fun _ => rfl) ?_
  refine w_st rfl (fun _ => rfl) ?_
  refine w_st rfl (fun _ => rfl) ?_
  show w_T L xs (d + 1) m_X5_repeat 8 [(4, .int ((Int32.ofInt (mo : Int)) - bI)), (0, .ref 67), (1, .int bI), (2, .int (Int32.ofInt (m : Int))), (3, .int wI)] [] (u_S S0 mo ta te tf le) R Q
  rw [es]
  refine w_st rfl (fun _ => rfl) ?_
  refine w_st rfl (fun _ => rfl) ?_
  refine w_st rfl (fun _ => rfl) ?_
  refine w_st rfl (fun _ => rfl) ?_
  refine w_st rfl (fun _ => rfl) ?_
  refine w_st rfl (fun _ => rfl) ?_
  show w_T L xs (d + 1) m_X5_repeat 16 [(5, .int (bI + ((Int32.ofInt (z : Int)) * (Int32.ofInt (m : Int))))), (4, .int (Int32.ofInt (z : Int))), (0, .ref 67), (1, .int bI), (2, .int (Int32.ofInt (m : Int))), (3, .int wI)] [] (u_S S0 mo ta te tf le) R Q
  rw [ea]
  refine w_st rfl (fun _ => rfl) ?_
  refine w_st rfl (fun _ => rfl) ?_
  show w_T L xs (d + 1) m_X5_repeat 20 [(5, .int (Int32.ofInt (al : Int))), (4, .int (Int32.ofInt (z : Int))), (0, .ref 67), (1, .int bI), (2, .int (Int32.ofInt (m : Int))), (3, .int wI)] [.int (Int32.ofInt 48), .int (Int32.ofInt (al : Int))] (u_S S0 mo ta te tf le) R Q
  refine w_br (P := (Int32.ofInt (al : Int)) ≤ (Int32.ofInt 48)) rfl (fun _ => rfl) (fun h20 => ?_) (fun h20 => ?_)
  · have h48 : al ≤ 48 := by
      rw [q_le32, eal, e48] at h20
      omega
    refine w_st rfl (fun _ => rfl) ?_
    show w_T L xs (d + 1) m_X5_repeat 32 [(5, .int (Int32.ofInt (al : Int))), (4, .int (Int32.ofInt (z : Int))), (0, .ref 67), (1, .int bI), (2, .int (Int32.ofInt (m : Int))), (3, .int wI)] [.ref 67] (u_S S0 mo ta te tf le) R Q
    refine w_get rfl rfl rfl ?_
    refine w_st rfl (fun _ => rfl) ?_
    show w_T L xs (d + 1) m_X5_repeat 37 [(6, .int (Int32.ofInt (mo : Int))), (5, .int (Int32.ofInt (al : Int))), (4, .int (Int32.ofInt (z : Int))), (0, .ref 67), (1, .int bI), (2, .int (Int32.ofInt (m : Int))), (3, .int wI)] [] (u_S S0 mo ta te tf le) R Q
    exact w_dm (by omega) (x_rp1 (d := d) (by omega) (by omega) (fun l' => hq _ _ _ l' (by omega) (by omega)) al mo le (by omega) hm)
  · refine w_st rfl (fun _ => rfl) ?_
    refine w_st rfl (fun _ => rfl) ?_
    refine w_st rfl (fun _ => rfl) ?_
    show w_T L xs (d + 1) m_X5_repeat 27 [(5, .int (Int32.ofInt (al : Int))), (4, .int (Int32.ofInt (z : Int))), (0, .ref 67), (1, .int bI), (2, .int (Int32.ofInt (m : Int))), (3, .int wI)] [.int wI, .int (Int32.ofInt 6), .ref 67] (u_S S0 mo ta te tf le) R Q
    refine w_cv rfl (by decide) mt_X5_fail rfl rfl rfl rfl (Nat.le_of_ble_eq_true rfl) (Nat.le_of_ble_eq_true rfl) (Nat.le_of_ble_eq_true rfl) ?_
    show w_T L xs _ m_X5_fail 0 (lv_args 0 [.ref 67, .int (Int32.ofInt 6), .int wI]) [] (u_S S0 mo ta te tf le) R _
    refine x_fail (fun e27 f27 => ?_)
    show w_T L xs (d + 1) m_X5_repeat 30 [(5, .int (Int32.ofInt (al : Int))), (4, .int (Int32.ofInt (z : Int))), (0, .ref 67), (1, .int bI), (2, .int (Int32.ofInt (m : Int))), (3, .int wI)] [] (u_S S0 mo ta e27 f27 le) R Q
    refine w_ret rfl rfl ?_
    exact hq _ _ _ _ (by omega) (by omega)
def x_C (L : Nat) (xs : Nat → Int32) (d : Nat) (R : v_Rf) (S0 : v_Sf) (M : g_M) (dp : Int32) : Prop := ∀ (mo : Nat) (ta te tf : Int32) (le : Nat → Int32) (Q : Option Value → v_Sf → v_Rf → Prop), mo ≤ 49 → (∀ (m' : Nat) (a' e' f' : Int32) (l' : Nat → Int32), mo ≤ m' → m' ≤ 49 → Q none (u_S S0 m' a' e' f' l') R) → w_T L xs d M 0 (lv_args 0 [.ref 67, .int dp]) [] (u_S S0 mo ta te tf le) R Q
theorem x_group2 (hs : (S0 45 1).toInt ≤ 260) : x_C L xs (d + 1) R S0 m_X5_readGroup (Int32.ofInt 2) := by
  intro mo ta te tf le Q hm hq
  refine w_st rfl (fun _ => rfl) ?_
  refine w_st rfl (fun _ => rfl) ?_
  show w_T L xs (d + 1) m_X5_readGroup 2 [(0, .ref 67), (1, .int (Int32.ofInt 2))] [.int (Int32.ofInt 2), .int (Int32.ofInt 2)] (u_S S0 mo ta te tf le) R Q
  refine w_st rfl (fun _ => rfl) ?_
  refine w_st rfl (fun _ => rfl) ?_
  refine w_st rfl (fun _ => rfl) ?_
  refine w_st rfl (fun _ => rfl) ?_
  show w_T L xs (d + 1) m_X5_readGroup 8 [(0, .ref 67), (1, .int (Int32.ofInt 2))] [.ref 67, .int (Int32.ofInt 5), .ref 67] (u_S S0 mo ta te tf le) R Q
  refine w_get rfl rfl rfl ?_
  show w_T L xs (d + 1) m_X5_readGroup 11 [(0, .ref 67), (1, .int (Int32.ofInt 2))] [.int ta, .int (Int32.ofInt 5), .ref 67] (u_S S0 mo ta te tf le) R Q
  refine w_cv rfl (by decide) mt_X5_fail rfl rfl rfl rfl (Nat.le_of_ble_eq_true rfl) (Nat.le_of_ble_eq_true rfl) (Nat.le_of_ble_eq_true rfl) ?_
  show w_T L xs _ m_X5_fail 0 (lv_args 0 [.ref 67, .int (Int32.ofInt 5), .int ta]) [] (u_S S0 mo ta te tf le) R _
  refine x_fail (fun e11 f11 => ?_)
  show w_T L xs (d + 1) m_X5_readGroup 14 [(0, .ref 67), (1, .int (Int32.ofInt 2))] [] (u_S S0 mo ta e11 f11 le) R Q
  refine w_ret rfl rfl ?_
  exact hq _ _ _ _ _ (Nat.le_refl _) hm
theorem x_group0 (hs : (S0 45 1).toInt ≤ 260) (h : x_C L xs (d + 2) R S0 m_X5_readMonths (Int32.ofInt 1)) : x_C L xs (d + 3) R S0 m_X5_readGroup (Int32.ofInt 0) := by
  intro mo ta te tf le Q hm hq
  refine w_st rfl (fun _ => rfl) ?_
  refine w_st rfl (fun _ => rfl) ?_
  show w_T L xs (d + 3) m_X5_readGroup 2 [(0, .ref 67), (1, .int (Int32.ofInt 0))] [.int (Int32.ofInt 2), .int (Int32.ofInt 0)] (u_S S0 mo ta te tf le) R Q
  refine w_st rfl (fun _ => rfl) ?_
  refine w_st rfl (fun _ => rfl) ?_
  refine w_st rfl (fun _ => rfl) ?_
  show w_T L xs (d + 3) m_X5_readGroup 17 [(0, .ref 67), (1, .int (Int32.ofInt 0))] [.ref 67, .ref 67] (u_S S0 mo ta te tf le) R Q
  refine w_get rfl rfl rfl ?_
  refine w_st rfl (fun _ => rfl) ?_
  refine w_st rfl (fun _ => rfl) ?_
  show w_T L xs (d + 3) m_X5_readGroup 22 [(0, .ref 67), (1, .int (Int32.ofInt 0))] [.int (ta + (Int32.ofInt 1)), .ref 67] (u_S S0 mo ta te tf le) R Q
  refine w_put rfl rfl rfl rfl rfl ?_
  refine w_eqS u_wta ?_
  refine w_st rfl (fun _ => rfl) ?_
  refine w_st rfl (fun _ => rfl) ?_
  refine w_st rfl (fun _ => rfl) ?_
  refine w_st rfl (fun _ => rfl) ?_
  show w_T L xs (d + 3) m_X5_readGroup 29 [(0, .ref 67), (1, .int (Int32.ofInt 0))] [.int ((Int32.ofInt 0) + (Int32.ofInt 1)), .ref 67] (u_S S0 mo (ta + (Int32.ofInt 1)) te tf le) R Q
  refine w_cv rfl (by decide) mt_X5_readMonths rfl rfl rfl rfl (Nat.le_of_ble_eq_true rfl) (Nat.le_of_ble_eq_true rfl) (Nat.le_of_ble_eq_true rfl) ?_
  show w_T L xs _ m_X5_readMonths 0 (lv_args 0 [.ref 67, .int ((Int32.ofInt 0) + (Int32.ofInt 1))]) [] (u_S S0 mo (ta + (Int32.ofInt 1)) te tf le) R _
  refine h _ _ _ _ _ _ hm (fun m1 a1 e1 f1 l1 y1 y2 => ?_)
  refine w_st rfl (fun _ => rfl) ?_
  refine w_st rfl (fun _ => rfl) ?_
  show w_T L xs (d + 3) m_X5_readGroup 35 [(0, .ref 67), (1, .int (Int32.ofInt 0))] [.int (Int32.ofInt 41), .ref 67] (u_S S0 m1 a1 e1 f1 l1) R Q
  refine w_cv rfl (by decide) mt_X5_expect rfl rfl rfl rfl (Nat.le_of_ble_eq_true rfl) (Nat.le_of_ble_eq_true rfl) (Nat.le_of_ble_eq_true rfl) ?_
  show w_T L xs _ m_X5_expect 0 (lv_args 0 [.ref 67, .int (Int32.ofInt 41)]) [] (u_S S0 m1 a1 e1 f1 l1) R _
  refine w_dm (d := 2) (by omega) (x_expect (d := 0) hs (fun a2 e2 f2 => ?_))
  show w_T L xs (d + 3) m_X5_readGroup 38 [(0, .ref 67), (1, .int (Int32.ofInt 0))] [] (u_S S0 m1 a2 e2 f2 l1) R Q
  refine w_ret rfl rfl ?_
  exact hq _ _ _ _ _ (by omega) (by omega)
theorem x_group1 (hs : (S0 45 1).toInt ≤ 260) (h : x_C L xs (d + 2) R S0 m_X5_readMonths (Int32.ofInt 2)) : x_C L xs (d + 3) R S0 m_X5_readGroup (Int32.ofInt 1) := by
  intro mo ta te tf le Q hm hq
  refine w_st rfl (fun _ => rfl) ?_
  refine w_st rfl (fun _ => rfl) ?_
  show w_T L xs (d + 3) m_X5_readGroup 2 [(0, .ref 67), (1, .int (Int32.ofInt 1))] [.int (Int32.ofInt 2), .int (Int32.ofInt 1)] (u_S S0 mo ta te tf le) R Q
  refine w_st rfl (fun _ => rfl) ?_
  refine w_st rfl (fun _ => rfl) ?_
  refine w_st rfl (fun _ => rfl) ?_
  show w_T L xs (d + 3) m_X5_readGroup 17 [(0, .ref 67), (1, .int (Int32.ofInt 1))] [.ref 67, .ref 67] (u_S S0 mo ta te tf le) R Q
  refine w_get rfl rfl rfl ?_
  refine w_st rfl (fun _ => rfl) ?_
  refine w_st rfl (fun _ => rfl) ?_
  show w_T L xs (d + 3) m_X5_readGroup 22 [(0, .ref 67), (1, .int (Int32.ofInt 1))] [.int (ta + (Int32.ofInt 1)), .ref 67] (u_S S0 mo ta te tf le) R Q
  refine w_put rfl rfl rfl rfl rfl ?_
  refine w_eqS u_wta ?_
  refine w_st rfl (fun _ => rfl) ?_
  refine w_st rfl (fun _ => rfl) ?_
  refine w_st rfl (fun _ => rfl) ?_
  refine w_st rfl (fun _ => rfl) ?_
  show w_T L xs (d + 3) m_X5_readGroup 29 [(0, .ref 67), (1, .int (Int32.ofInt 1))] [.int ((Int32.ofInt 1) + (Int32.ofInt 1)), .ref 67] (u_S S0 mo (ta + (Int32.ofInt 1)) te tf le) R Q
  refine w_cv rfl (by decide) mt_X5_readMonths rfl rfl rfl rfl (Nat.le_of_ble_eq_true rfl) (Nat.le_of_ble_eq_true rfl) (Nat.le_of_ble_eq_true rfl) ?_
  show w_T L xs _ m_X5_readMonths 0 (lv_args 0 [.ref 67, .int ((Int32.ofInt 1) + (Int32.ofInt 1))]) [] (u_S S0 mo (ta + (Int32.ofInt 1)) te tf le) R _
  refine h _ _ _ _ _ _ hm (fun m1 a1 e1 f1 l1 y1 y2 => ?_)
  refine w_st rfl (fun _ => rfl) ?_
  refine w_st rfl (fun _ => rfl) ?_
  show w_T L xs (d + 3) m_X5_readGroup 35 [(0, .ref 67), (1, .int (Int32.ofInt 1))] [.int (Int32.ofInt 41), .ref 67] (u_S S0 m1 a1 e1 f1 l1) R Q
  refine w_cv rfl (by decide) mt_X5_expect rfl rfl rfl rfl (Nat.le_of_ble_eq_true rfl) (Nat.le_of_ble_eq_true rfl) (Nat.le_of_ble_eq_true rfl) ?_
  show w_T L xs _ m_X5_expect 0 (lv_args 0 [.ref 67, .int (Int32.ofInt 41)]) [] (u_S S0 m1 a1 e1 f1 l1) R _
  refine w_dm (d := 2) (by omega) (x_expect (d := 0) hs (fun a2 e2 f2 => ?_))
  show w_T L xs (d + 3) m_X5_readGroup 38 [(0, .ref 67), (1, .int (Int32.ofInt 1))] [] (u_S S0 m1 a2 e2 f2 l1) R Q
  refine w_ret rfl rfl ?_
  exact hq _ _ _ _ _ (by omega) (by omega)
theorem x_month {dp : Int32} (hs : (S0 45 1).toInt ≤ 260) (h : x_C L xs (d + 1) R S0 m_X5_readGroup dp) : x_C L xs (d + 2) R S0 m_X5_readMonth dp := by
  intro mo ta te tf le Q hm hq
  have e50 : (Int32.ofInt 50).toInt = 50 := by decide
  have e57 : (Int32.ofInt 57).toInt = 57 := by decide
  refine w_st rfl (fun _ => rfl) ?_
  show w_T L xs (d + 2) m_X5_readMonth 1 [(0, .ref 67), (1, .int dp)] [.ref 67] (u_S S0 mo ta te tf le) R Q
  refine w_get rfl rfl rfl ?_
  refine w_st rfl (fun _ => rfl) ?_
  refine w_st rfl (fun _ => rfl) ?_
  show w_T L xs (d + 2) m_X5_readMonth 6 [(2, .int ta), (0, .ref 67), (1, .int dp)] [.ref 67] (u_S S0 mo ta te tf le) R Q
  refine w_get rfl rfl rfl ?_
  refine w_st rfl (fun _ => rfl) ?_
  refine w_st rfl (fun _ => rfl) ?_
  refine w_st rfl (fun _ => rfl) ?_
  refine w_st rfl (fun _ => rfl) ?_
  show w_T L xs (d + 2) m_X5_readMonth 14 [(4, .int (Int32.ofInt 1)), (3, .int (Int32.ofInt (mo : Int))), (2, .int ta), (0, .ref 67), (1, .int dp)] [.ref 67] (u_S S0 mo ta te tf le) R Q
  refine w_cv rfl (by decide) mt_X5_here rfl rfl rfl rfl (Nat.le_of_ble_eq_true rfl) (Nat.le_of_ble_eq_true rfl) (Nat.le_of_ble_eq_true rfl) ?_
  show w_T L xs _ m_X5_here 0 (lv_args 0 [.ref 67]) [] (u_S S0 mo ta te tf le) R _
  refine x_here hs ?_
  refine w_st rfl (fun _ => rfl) ?_
  show w_T L xs (d + 2) m_X5_readMonth 19 [(4, .int (Int32.ofInt 1)), (3, .int (Int32.ofInt (mo : Int))), (2, .int ta), (0, .ref 67), (1, .int dp)] [.int (Int32.ofInt 50), .int (x_h S0 ta te)] (u_S S0 mo ta te tf le) R Q
  refine w_br (P := (x_h S0 ta te) < (Int32.ofInt 50)) rfl (fun _ => rfl) (fun h19 => ?_) (fun h19 => ?_)
  · have ht : 1 ≤ (Int32.ofInt 1).toInt ∧ (Int32.ofInt 1).toInt ≤ 9 := by
      decide
    refine w_st rfl (fun _ => rfl) ?_
    show w_T L xs (d + 2) m_X5_readMonth 51 [(4, .int (Int32.ofInt 1)), (3, .int (Int32.ofInt (mo : Int))), (2, .int ta), (0, .ref 67), (1, .int dp)] [.ref 67] (u_S S0 mo ta te tf le) R Q
    refine w_cv rfl (by decide) mt_X5_here rfl rfl rfl rfl (Nat.le_of_ble_eq_true rfl) (Nat.le_of_ble_eq_true rfl) (Nat.le_of_ble_eq_true rfl) ?_
    show w_T L xs _ m_X5_here 0 (lv_args 0 [.ref 67]) [] (u_S S0 mo ta te tf le) R _
    refine x_here hs ?_
    refine w_st rfl (fun _ => rfl) ?_
    refine w_st rfl (fun _ => rfl) ?_
    refine w_st rfl (fun _ => rfl) ?_
    show w_T L xs (d + 2) m_X5_readMonth 60 [(5, .int (x_h S0 ta te)), (4, .int (Int32.ofInt 1)), (3, .int (Int32.ofInt (mo : Int))), (2, .int ta), (0, .ref 67), (1, .int dp)] [.int (Int32.ofInt 40), .int (x_h S0 ta te)] (u_S S0 mo ta te tf le) R Q
    refine w_br (P := ¬ (x_h S0 ta te) = (Int32.ofInt 40)) rfl (fun _ => rfl) (fun h60 => ?_) (fun h60 => ?_)
    · refine w_st rfl (fun _ => rfl) ?_
      refine w_st rfl (fun _ => rfl) ?_
      show w_T L xs (d + 2) m_X5_readMonth 75 [(5, .int (x_h S0 ta te)), (4, .int (Int32.ofInt 1)), (3, .int (Int32.ofInt (mo : Int))), (2, .int ta), (0, .ref 67), (1, .int dp)] [.int (Int32.ofInt 46), .int (x_h S0 ta te)] (u_S S0 mo ta te tf le) R Q
      refine w_br (P := ¬ (x_h S0 ta te) = (Int32.ofInt 46)) rfl (fun _ => rfl) (fun h75 => ?_) (fun h75 => ?_)
      · refine w_st rfl (fun _ => rfl) ?_
        refine w_st rfl (fun _ => rfl) ?_
        show w_T L xs (d + 2) m_X5_readMonth 91 [(5, .int (x_h S0 ta te)), (4, .int (Int32.ofInt 1)), (3, .int (Int32.ofInt (mo : Int))), (2, .int ta), (0, .ref 67), (1, .int dp)] [.int (Int32.ofInt 65), .int (x_h S0 ta te)] (u_S S0 mo ta te tf le) R Q
        refine w_br (P := (x_h S0 ta te) < (Int32.ofInt 65)) rfl (fun _ => rfl) (fun h91 => ?_) (fun h91 => ?_)
        · refine w_st rfl (fun _ => rfl) ?_
          refine w_st rfl (fun _ => rfl) ?_
          refine w_st rfl (fun _ => rfl) ?_
          show w_T L xs (d + 2) m_X5_readMonth 116 [(5, .int (x_h S0 ta te)), (4, .int (Int32.ofInt 1)), (3, .int (Int32.ofInt (mo : Int))), (2, .int ta), (0, .ref 67), (1, .int dp)] [.ref 67, .int (Int32.ofInt 1), .ref 67] (u_S S0 mo ta te tf le) R Q
          refine w_get rfl rfl rfl ?_
          show w_T L xs (d + 2) m_X5_readMonth 119 [(5, .int (x_h S0 ta te)), (4, .int (Int32.ofInt 1)), (3, .int (Int32.ofInt (mo : Int))), (2, .int ta), (0, .ref 67), (1, .int dp)] [.int ta, .int (Int32.ofInt 1), .ref 67] (u_S S0 mo ta te tf le) R Q
          refine w_cv rfl (by decide) mt_X5_fail rfl rfl rfl rfl (Nat.le_of_ble_eq_true rfl) (Nat.le_of_ble_eq_true rfl) (Nat.le_of_ble_eq_true rfl) ?_
          show w_T L xs _ m_X5_fail 0 (lv_args 0 [.ref 67, .int (Int32.ofInt 1), .int ta]) [] (u_S S0 mo ta te tf le) R _
          refine x_fail (fun e1 f1 => ?_)
          have y1 : mo ≤ mo := Nat.le_refl _
          have y2 := hm
          refine w_st rfl (fun _ => rfl) ?_
          show w_T L xs (d + 2) m_X5_readMonth 123 [(5, .int (x_h S0 ta te)), (4, .int (Int32.ofInt 1)), (3, .int (Int32.ofInt (mo : Int))), (2, .int ta), (0, .ref 67), (1, .int dp)] [.ref 67] (u_S S0 mo ta e1 f1 le) R Q
          refine w_get rfl rfl rfl ?_
          show w_T L xs (d + 2) m_X5_readMonth 126 [(5, .int (x_h S0 ta te)), (4, .int (Int32.ofInt 1)), (3, .int (Int32.ofInt (mo : Int))), (2, .int ta), (0, .ref 67), (1, .int dp)] [.int f1] (u_S S0 mo ta e1 f1 le) R Q
          refine w_br (P := ¬ f1 = 0) rfl (fun _ => rfl) (fun h126 => ?_) (fun h126 => ?_)
          · refine w_ret rfl rfl ?_
            exact hq _ _ _ _ _ (by omega) (by omega)
          · refine w_st rfl (fun _ => rfl) ?_
            refine w_st rfl (fun _ => rfl) ?_
            refine w_st rfl (fun _ => rfl) ?_
            refine w_st rfl (fun _ => rfl) ?_
            show w_T L xs (d + 2) m_X5_readMonth 134 [(5, .int (x_h S0 ta te)), (4, .int (Int32.ofInt 1)), (3, .int (Int32.ofInt (mo : Int))), (2, .int ta), (0, .ref 67), (1, .int dp)] [.int ta, .int (Int32.ofInt 1), .int (Int32.ofInt (mo : Int)), .ref 67] (u_S S0 mo ta e1 f1 le) R Q
            refine w_cv rfl (by decide) mt_X5_repeat rfl rfl rfl rfl (Nat.le_of_ble_eq_true rfl) (Nat.le_of_ble_eq_true rfl) (Nat.le_of_ble_eq_true rfl) ?_
            show w_T L xs _ m_X5_repeat 0 (lv_args 0 [.ref 67, .int (Int32.ofInt (mo : Int)), .int (Int32.ofInt 1), .int ta]) [] (u_S S0 mo ta e1 f1 le) R _
            refine w_dm (d := 1) (by omega) (x_repeat (d := 0) (b := mo) rfl y1 y2 ht.1 ht.2 (fun m2 e2 f2 l2 y3 y4 => ?_))
            show w_T L xs (d + 2) m_X5_readMonth 137 [(5, .int (x_h S0 ta te)), (4, .int (Int32.ofInt 1)), (3, .int (Int32.ofInt (mo : Int))), (2, .int ta), (0, .ref 67), (1, .int dp)] [] (u_S S0 m2 ta e2 f2 l2) R Q
            refine w_ret rfl rfl ?_
            exact hq _ _ _ _ _ (by omega) (by omega)
        · refine w_st rfl (fun _ => rfl) ?_
          refine w_st rfl (fun _ => rfl) ?_
          show w_T L xs (d + 2) m_X5_readMonth 98 [(5, .int (x_h S0 ta te)), (4, .int (Int32.ofInt 1)), (3, .int (Int32.ofInt (mo : Int))), (2, .int ta), (0, .ref 67), (1, .int dp)] [.int (Int32.ofInt 74), .int (x_h S0 ta te)] (u_S S0 mo ta te tf le) R Q
          refine w_br (P := (Int32.ofInt 74) < (x_h S0 ta te)) rfl (fun _ => rfl) (fun h98 => ?_) (fun h98 => ?_)
          · refine w_st rfl (fun _ => rfl) ?_
            refine w_st rfl (fun _ => rfl) ?_
            refine w_st rfl (fun _ => rfl) ?_
            show w_T L xs (d + 2) m_X5_readMonth 116 [(5, .int (x_h S0 ta te)), (4, .int (Int32.ofInt 1)), (3, .int (Int32.ofInt (mo : Int))), (2, .int ta), (0, .ref 67), (1, .int dp)] [.ref 67, .int (Int32.ofInt 1), .ref 67] (u_S S0 mo ta te tf le) R Q
            refine w_get rfl rfl rfl ?_
            show w_T L xs (d + 2) m_X5_readMonth 119 [(5, .int (x_h S0 ta te)), (4, .int (Int32.ofInt 1)), (3, .int (Int32.ofInt (mo : Int))), (2, .int ta), (0, .ref 67), (1, .int dp)] [.int ta, .int (Int32.ofInt 1), .ref 67] (u_S S0 mo ta te tf le) R Q
            refine w_cv rfl (by decide) mt_X5_fail rfl rfl rfl rfl (Nat.le_of_ble_eq_true rfl) (Nat.le_of_ble_eq_true rfl) (Nat.le_of_ble_eq_true rfl) ?_
            show w_T L xs _ m_X5_fail 0 (lv_args 0 [.ref 67, .int (Int32.ofInt 1), .int ta]) [] (u_S S0 mo ta te tf le) R _
            refine x_fail (fun e1 f1 => ?_)
            have y1 : mo ≤ mo := Nat.le_refl _
            have y2 := hm
            refine w_st rfl (fun _ => rfl) ?_
            show w_T L xs (d + 2) m_X5_readMonth 123 [(5, .int (x_h S0 ta te)), (4, .int (Int32.ofInt 1)), (3, .int (Int32.ofInt (mo : Int))), (2, .int ta), (0, .ref 67), (1, .int dp)] [.ref 67] (u_S S0 mo ta e1 f1 le) R Q
            refine w_get rfl rfl rfl ?_
            show w_T L xs (d + 2) m_X5_readMonth 126 [(5, .int (x_h S0 ta te)), (4, .int (Int32.ofInt 1)), (3, .int (Int32.ofInt (mo : Int))), (2, .int ta), (0, .ref 67), (1, .int dp)] [.int f1] (u_S S0 mo ta e1 f1 le) R Q
            refine w_br (P := ¬ f1 = 0) rfl (fun _ => rfl) (fun h126 => ?_) (fun h126 => ?_)
            · refine w_ret rfl rfl ?_
              exact hq _ _ _ _ _ (by omega) (by omega)
            · refine w_st rfl (fun _ => rfl) ?_
              refine w_st rfl (fun _ => rfl) ?_
              refine w_st rfl (fun _ => rfl) ?_
              refine w_st rfl (fun _ => rfl) ?_
              show w_T L xs (d + 2) m_X5_readMonth 134 [(5, .int (x_h S0 ta te)), (4, .int (Int32.ofInt 1)), (3, .int (Int32.ofInt (mo : Int))), (2, .int ta), (0, .ref 67), (1, .int dp)] [.int ta, .int (Int32.ofInt 1), .int (Int32.ofInt (mo : Int)), .ref 67] (u_S S0 mo ta e1 f1 le) R Q
              refine w_cv rfl (by decide) mt_X5_repeat rfl rfl rfl rfl (Nat.le_of_ble_eq_true rfl) (Nat.le_of_ble_eq_true rfl) (Nat.le_of_ble_eq_true rfl) ?_
              show w_T L xs _ m_X5_repeat 0 (lv_args 0 [.ref 67, .int (Int32.ofInt (mo : Int)), .int (Int32.ofInt 1), .int ta]) [] (u_S S0 mo ta e1 f1 le) R _
              refine w_dm (d := 1) (by omega) (x_repeat (d := 0) (b := mo) rfl y1 y2 ht.1 ht.2 (fun m2 e2 f2 l2 y3 y4 => ?_))
              show w_T L xs (d + 2) m_X5_readMonth 137 [(5, .int (x_h S0 ta te)), (4, .int (Int32.ofInt 1)), (3, .int (Int32.ofInt (mo : Int))), (2, .int ta), (0, .ref 67), (1, .int dp)] [] (u_S S0 m2 ta e2 f2 l2) R Q
              refine w_ret rfl rfl ?_
              exact hq _ _ _ _ _ (by omega) (by omega)
          · refine w_st rfl (fun _ => rfl) ?_
            refine w_st rfl (fun _ => rfl) ?_
            refine w_st rfl (fun _ => rfl) ?_
            refine w_st rfl (fun _ => rfl) ?_
            show w_T L xs (d + 2) m_X5_readMonth 107 [(5, .int (x_h S0 ta te)), (4, .int (Int32.ofInt 1)), (3, .int (Int32.ofInt (mo : Int))), (2, .int ta), (0, .ref 67), (1, .int dp)] [.int ((x_h S0 ta te) - (Int32.ofInt 65)), .ref 67] (u_S S0 mo ta te tf le) R Q
            refine w_cv rfl (by decide) mt_X5_writeMonth rfl rfl rfl rfl (Nat.le_of_ble_eq_true rfl) (Nat.le_of_ble_eq_true rfl) (Nat.le_of_ble_eq_true rfl) ?_
            show w_T L xs _ m_X5_writeMonth 0 (lv_args 0 [.ref 67, .int ((x_h S0 ta te) - (Int32.ofInt 65))]) [] (u_S S0 mo ta te tf le) R _
            refine w_dm (Nat.zero_le _) (x_write hm (fun a1 m1 l1 y1 y2 => ?_))
            refine w_st rfl (fun _ => rfl) ?_
            refine w_st rfl (fun _ => rfl) ?_
            show w_T L xs (d + 2) m_X5_readMonth 123 [(5, .int (x_h S0 ta te)), (4, .int (Int32.ofInt 1)), (3, .int (Int32.ofInt (mo : Int))), (2, .int ta), (0, .ref 67), (1, .int dp)] [.ref 67] (u_S S0 m1 a1 te tf l1) R Q
            refine w_get rfl rfl rfl ?_
            show w_T L xs (d + 2) m_X5_readMonth 126 [(5, .int (x_h S0 ta te)), (4, .int (Int32.ofInt 1)), (3, .int (Int32.ofInt (mo : Int))), (2, .int ta), (0, .ref 67), (1, .int dp)] [.int tf] (u_S S0 m1 a1 te tf l1) R Q
            refine w_br (P := ¬ tf = 0) rfl (fun _ => rfl) (fun h126 => ?_) (fun h126 => ?_)
            · refine w_ret rfl rfl ?_
              exact hq _ _ _ _ _ (by omega) (by omega)
            · refine w_st rfl (fun _ => rfl) ?_
              refine w_st rfl (fun _ => rfl) ?_
              refine w_st rfl (fun _ => rfl) ?_
              refine w_st rfl (fun _ => rfl) ?_
              show w_T L xs (d + 2) m_X5_readMonth 134 [(5, .int (x_h S0 ta te)), (4, .int (Int32.ofInt 1)), (3, .int (Int32.ofInt (mo : Int))), (2, .int ta), (0, .ref 67), (1, .int dp)] [.int ta, .int (Int32.ofInt 1), .int (Int32.ofInt (mo : Int)), .ref 67] (u_S S0 m1 a1 te tf l1) R Q
              refine w_cv rfl (by decide) mt_X5_repeat rfl rfl rfl rfl (Nat.le_of_ble_eq_true rfl) (Nat.le_of_ble_eq_true rfl) (Nat.le_of_ble_eq_true rfl) ?_
              show w_T L xs _ m_X5_repeat 0 (lv_args 0 [.ref 67, .int (Int32.ofInt (mo : Int)), .int (Int32.ofInt 1), .int ta]) [] (u_S S0 m1 a1 te tf l1) R _
              refine w_dm (d := 1) (by omega) (x_repeat (d := 0) (b := mo) rfl y1 y2 ht.1 ht.2 (fun m2 e2 f2 l2 y3 y4 => ?_))
              show w_T L xs (d + 2) m_X5_readMonth 137 [(5, .int (x_h S0 ta te)), (4, .int (Int32.ofInt 1)), (3, .int (Int32.ofInt (mo : Int))), (2, .int ta), (0, .ref 67), (1, .int dp)] [] (u_S S0 m2 a1 e2 f2 l2) R Q
              refine w_ret rfl rfl ?_
              exact hq _ _ _ _ _ (by omega) (by omega)
      · refine w_st rfl (fun _ => rfl) ?_
        refine w_st rfl (fun _ => rfl) ?_
        show w_T L xs (d + 2) m_X5_readMonth 81 [(5, .int (x_h S0 ta te)), (4, .int (Int32.ofInt 1)), (3, .int (Int32.ofInt (mo : Int))), (2, .int ta), (0, .ref 67), (1, .int dp)] [.int (Int32.ofInt (-2)), .ref 67] (u_S S0 mo ta te tf le) R Q
        refine w_cv rfl (by decide) mt_X5_writeMonth rfl rfl rfl rfl (Nat.le_of_ble_eq_true rfl) (Nat.le_of_ble_eq_true rfl) (Nat.le_of_ble_eq_true rfl) ?_
        show w_T L xs _ m_X5_writeMonth 0 (lv_args 0 [.ref 67, .int (Int32.ofInt (-2))]) [] (u_S S0 mo ta te tf le) R _
        refine w_dm (Nat.zero_le _) (x_write hm (fun a1 m1 l1 y1 y2 => ?_))
        refine w_st rfl (fun _ => rfl) ?_
        refine w_st rfl (fun _ => rfl) ?_
        show w_T L xs (d + 2) m_X5_readMonth 123 [(5, .int (x_h S0 ta te)), (4, .int (Int32.ofInt 1)), (3, .int (Int32.ofInt (mo : Int))), (2, .int ta), (0, .ref 67), (1, .int dp)] [.ref 67] (u_S S0 m1 a1 te tf l1) R Q
        refine w_get rfl rfl rfl ?_
        show w_T L xs (d + 2) m_X5_readMonth 126 [(5, .int (x_h S0 ta te)), (4, .int (Int32.ofInt 1)), (3, .int (Int32.ofInt (mo : Int))), (2, .int ta), (0, .ref 67), (1, .int dp)] [.int tf] (u_S S0 m1 a1 te tf l1) R Q
        refine w_br (P := ¬ tf = 0) rfl (fun _ => rfl) (fun h126 => ?_) (fun h126 => ?_)
        · refine w_ret rfl rfl ?_
          exact hq _ _ _ _ _ (by omega) (by omega)
        · refine w_st rfl (fun _ => rfl) ?_
          refine w_st rfl (fun _ => rfl) ?_
          refine w_st rfl (fun _ => rfl) ?_
          refine w_st rfl (fun _ => rfl) ?_
          show w_T L xs (d + 2) m_X5_readMonth 134 [(5, .int (x_h S0 ta te)), (4, .int (Int32.ofInt 1)), (3, .int (Int32.ofInt (mo : Int))), (2, .int ta), (0, .ref 67), (1, .int dp)] [.int ta, .int (Int32.ofInt 1), .int (Int32.ofInt (mo : Int)), .ref 67] (u_S S0 m1 a1 te tf l1) R Q
          refine w_cv rfl (by decide) mt_X5_repeat rfl rfl rfl rfl (Nat.le_of_ble_eq_true rfl) (Nat.le_of_ble_eq_true rfl) (Nat.le_of_ble_eq_true rfl) ?_
          show w_T L xs _ m_X5_repeat 0 (lv_args 0 [.ref 67, .int (Int32.ofInt (mo : Int)), .int (Int32.ofInt 1), .int ta]) [] (u_S S0 m1 a1 te tf l1) R _
          refine w_dm (d := 1) (by omega) (x_repeat (d := 0) (b := mo) rfl y1 y2 ht.1 ht.2 (fun m2 e2 f2 l2 y3 y4 => ?_))
          show w_T L xs (d + 2) m_X5_readMonth 137 [(5, .int (x_h S0 ta te)), (4, .int (Int32.ofInt 1)), (3, .int (Int32.ofInt (mo : Int))), (2, .int ta), (0, .ref 67), (1, .int dp)] [] (u_S S0 m2 a1 e2 f2 l2) R Q
          refine w_ret rfl rfl ?_
          exact hq _ _ _ _ _ (by omega) (by omega)
    · refine w_st rfl (fun _ => rfl) ?_
      refine w_st rfl (fun _ => rfl) ?_
      show w_T L xs (d + 2) m_X5_readMonth 65 [(5, .int (x_h S0 ta te)), (4, .int (Int32.ofInt 1)), (3, .int (Int32.ofInt (mo : Int))), (2, .int ta), (0, .ref 67), (1, .int dp)] [.int dp, .ref 67] (u_S S0 mo ta te tf le) R Q
      refine w_cv rfl (by decide) mt_X5_readGroup rfl rfl rfl rfl (Nat.le_of_ble_eq_true rfl) (Nat.le_of_ble_eq_true rfl) (Nat.le_of_ble_eq_true rfl) ?_
      show w_T L xs _ m_X5_readGroup 0 (lv_args 0 [.ref 67, .int dp]) [] (u_S S0 mo ta te tf le) R _
      refine h _ _ _ _ _ _ hm (fun m1 a1 e1 f1 l1 y1 y2 => ?_)
      refine w_st rfl (fun _ => rfl) ?_
      refine w_st rfl (fun _ => rfl) ?_
      show w_T L xs (d + 2) m_X5_readMonth 123 [(5, .int (x_h S0 ta te)), (4, .int (Int32.ofInt 1)), (3, .int (Int32.ofInt (mo : Int))), (2, .int ta), (0, .ref 67), (1, .int dp)] [.ref 67] (u_S S0 m1 a1 e1 f1 l1) R Q
      refine w_get rfl rfl rfl ?_
      show w_T L xs (d + 2) m_X5_readMonth 126 [(5, .int (x_h S0 ta te)), (4, .int (Int32.ofInt 1)), (3, .int (Int32.ofInt (mo : Int))), (2, .int ta), (0, .ref 67), (1, .int dp)] [.int f1] (u_S S0 m1 a1 e1 f1 l1) R Q
      refine w_br (P := ¬ f1 = 0) rfl (fun _ => rfl) (fun h126 => ?_) (fun h126 => ?_)
      · refine w_ret rfl rfl ?_
        exact hq _ _ _ _ _ (by omega) (by omega)
      · refine w_st rfl (fun _ => rfl) ?_
        refine w_st rfl (fun _ => rfl) ?_
        refine w_st rfl (fun _ => rfl) ?_
        refine w_st rfl (fun _ => rfl) ?_
        show w_T L xs (d + 2) m_X5_readMonth 134 [(5, .int (x_h S0 ta te)), (4, .int (Int32.ofInt 1)), (3, .int (Int32.ofInt (mo : Int))), (2, .int ta), (0, .ref 67), (1, .int dp)] [.int ta, .int (Int32.ofInt 1), .int (Int32.ofInt (mo : Int)), .ref 67] (u_S S0 m1 a1 e1 f1 l1) R Q
        refine w_cv rfl (by decide) mt_X5_repeat rfl rfl rfl rfl (Nat.le_of_ble_eq_true rfl) (Nat.le_of_ble_eq_true rfl) (Nat.le_of_ble_eq_true rfl) ?_
        show w_T L xs _ m_X5_repeat 0 (lv_args 0 [.ref 67, .int (Int32.ofInt (mo : Int)), .int (Int32.ofInt 1), .int ta]) [] (u_S S0 m1 a1 e1 f1 l1) R _
        refine w_dm (d := 1) (by omega) (x_repeat (d := 0) (b := mo) rfl y1 y2 ht.1 ht.2 (fun m2 e2 f2 l2 y3 y4 => ?_))
        show w_T L xs (d + 2) m_X5_readMonth 137 [(5, .int (x_h S0 ta te)), (4, .int (Int32.ofInt 1)), (3, .int (Int32.ofInt (mo : Int))), (2, .int ta), (0, .ref 67), (1, .int dp)] [] (u_S S0 m2 a1 e2 f2 l2) R Q
        refine w_ret rfl rfl ?_
        exact hq _ _ _ _ _ (by omega) (by omega)
  · refine w_st rfl (fun _ => rfl) ?_
    show w_T L xs (d + 2) m_X5_readMonth 23 [(4, .int (Int32.ofInt 1)), (3, .int (Int32.ofInt (mo : Int))), (2, .int ta), (0, .ref 67), (1, .int dp)] [.ref 67] (u_S S0 mo ta te tf le) R Q
    refine w_cv rfl (by decide) mt_X5_here rfl rfl rfl rfl (Nat.le_of_ble_eq_true rfl) (Nat.le_of_ble_eq_true rfl) (Nat.le_of_ble_eq_true rfl) ?_
    show w_T L xs _ m_X5_here 0 (lv_args 0 [.ref 67]) [] (u_S S0 mo ta te tf le) R _
    refine x_here hs ?_
    refine w_st rfl (fun _ => rfl) ?_
    show w_T L xs (d + 2) m_X5_readMonth 28 [(4, .int (Int32.ofInt 1)), (3, .int (Int32.ofInt (mo : Int))), (2, .int ta), (0, .ref 67), (1, .int dp)] [.int (Int32.ofInt 57), .int (x_h S0 ta te)] (u_S S0 mo ta te tf le) R Q
    refine w_br (P := (Int32.ofInt 57) < (x_h S0 ta te)) rfl (fun _ => rfl) (fun h28 => ?_) (fun h28 => ?_)
    · have ht : 1 ≤ (Int32.ofInt 1).toInt ∧ (Int32.ofInt 1).toInt ≤ 9 := by
        decide
      refine w_st rfl (fun _ => rfl) ?_
      show w_T L xs (d + 2) m_X5_readMonth 51 [(4, .int (Int32.ofInt 1)), (3, .int (Int32.ofInt (mo : Int))), (2, .int ta), (0, .ref 67), (1, .int dp)] [.ref 67] (u_S S0 mo ta te tf le) R Q
      refine w_cv rfl (by decide) mt_X5_here rfl rfl rfl rfl (Nat.le_of_ble_eq_true rfl) (Nat.le_of_ble_eq_true rfl) (Nat.le_of_ble_eq_true rfl) ?_
      show w_T L xs _ m_X5_here 0 (lv_args 0 [.ref 67]) [] (u_S S0 mo ta te tf le) R _
      refine x_here hs ?_
      refine w_st rfl (fun _ => rfl) ?_
      refine w_st rfl (fun _ => rfl) ?_
      refine w_st rfl (fun _ => rfl) ?_
      show w_T L xs (d + 2) m_X5_readMonth 60 [(5, .int (x_h S0 ta te)), (4, .int (Int32.ofInt 1)), (3, .int (Int32.ofInt (mo : Int))), (2, .int ta), (0, .ref 67), (1, .int dp)] [.int (Int32.ofInt 40), .int (x_h S0 ta te)] (u_S S0 mo ta te tf le) R Q
      refine w_br (P := ¬ (x_h S0 ta te) = (Int32.ofInt 40)) rfl (fun _ => rfl) (fun h60 => ?_) (fun h60 => ?_)
      · refine w_st rfl (fun _ => rfl) ?_
        refine w_st rfl (fun _ => rfl) ?_
        show w_T L xs (d + 2) m_X5_readMonth 75 [(5, .int (x_h S0 ta te)), (4, .int (Int32.ofInt 1)), (3, .int (Int32.ofInt (mo : Int))), (2, .int ta), (0, .ref 67), (1, .int dp)] [.int (Int32.ofInt 46), .int (x_h S0 ta te)] (u_S S0 mo ta te tf le) R Q
        refine w_br (P := ¬ (x_h S0 ta te) = (Int32.ofInt 46)) rfl (fun _ => rfl) (fun h75 => ?_) (fun h75 => ?_)
        · refine w_st rfl (fun _ => rfl) ?_
          refine w_st rfl (fun _ => rfl) ?_
          show w_T L xs (d + 2) m_X5_readMonth 91 [(5, .int (x_h S0 ta te)), (4, .int (Int32.ofInt 1)), (3, .int (Int32.ofInt (mo : Int))), (2, .int ta), (0, .ref 67), (1, .int dp)] [.int (Int32.ofInt 65), .int (x_h S0 ta te)] (u_S S0 mo ta te tf le) R Q
          refine w_br (P := (x_h S0 ta te) < (Int32.ofInt 65)) rfl (fun _ => rfl) (fun h91 => ?_) (fun h91 => ?_)
          · refine w_st rfl (fun _ => rfl) ?_
            refine w_st rfl (fun _ => rfl) ?_
            refine w_st rfl (fun _ => rfl) ?_
            show w_T L xs (d + 2) m_X5_readMonth 116 [(5, .int (x_h S0 ta te)), (4, .int (Int32.ofInt 1)), (3, .int (Int32.ofInt (mo : Int))), (2, .int ta), (0, .ref 67), (1, .int dp)] [.ref 67, .int (Int32.ofInt 1), .ref 67] (u_S S0 mo ta te tf le) R Q
            refine w_get rfl rfl rfl ?_
            show w_T L xs (d + 2) m_X5_readMonth 119 [(5, .int (x_h S0 ta te)), (4, .int (Int32.ofInt 1)), (3, .int (Int32.ofInt (mo : Int))), (2, .int ta), (0, .ref 67), (1, .int dp)] [.int ta, .int (Int32.ofInt 1), .ref 67] (u_S S0 mo ta te tf le) R Q
            refine w_cv rfl (by decide) mt_X5_fail rfl rfl rfl rfl (Nat.le_of_ble_eq_true rfl) (Nat.le_of_ble_eq_true rfl) (Nat.le_of_ble_eq_true rfl) ?_
            show w_T L xs _ m_X5_fail 0 (lv_args 0 [.ref 67, .int (Int32.ofInt 1), .int ta]) [] (u_S S0 mo ta te tf le) R _
            refine x_fail (fun e1 f1 => ?_)
            have y1 : mo ≤ mo := Nat.le_refl _
            have y2 := hm
            refine w_st rfl (fun _ => rfl) ?_
            show w_T L xs (d + 2) m_X5_readMonth 123 [(5, .int (x_h S0 ta te)), (4, .int (Int32.ofInt 1)), (3, .int (Int32.ofInt (mo : Int))), (2, .int ta), (0, .ref 67), (1, .int dp)] [.ref 67] (u_S S0 mo ta e1 f1 le) R Q
            refine w_get rfl rfl rfl ?_
            show w_T L xs (d + 2) m_X5_readMonth 126 [(5, .int (x_h S0 ta te)), (4, .int (Int32.ofInt 1)), (3, .int (Int32.ofInt (mo : Int))), (2, .int ta), (0, .ref 67), (1, .int dp)] [.int f1] (u_S S0 mo ta e1 f1 le) R Q
            refine w_br (P := ¬ f1 = 0) rfl (fun _ => rfl) (fun h126 => ?_) (fun h126 => ?_)
            · refine w_ret rfl rfl ?_
              exact hq _ _ _ _ _ (by omega) (by omega)
            · refine w_st rfl (fun _ => rfl) ?_
              refine w_st rfl (fun _ => rfl) ?_
              refine w_st rfl (fun _ => rfl) ?_
              refine w_st rfl (fun _ => rfl) ?_
              show w_T L xs (d + 2) m_X5_readMonth 134 [(5, .int (x_h S0 ta te)), (4, .int (Int32.ofInt 1)), (3, .int (Int32.ofInt (mo : Int))), (2, .int ta), (0, .ref 67), (1, .int dp)] [.int ta, .int (Int32.ofInt 1), .int (Int32.ofInt (mo : Int)), .ref 67] (u_S S0 mo ta e1 f1 le) R Q
              refine w_cv rfl (by decide) mt_X5_repeat rfl rfl rfl rfl (Nat.le_of_ble_eq_true rfl) (Nat.le_of_ble_eq_true rfl) (Nat.le_of_ble_eq_true rfl) ?_
              show w_T L xs _ m_X5_repeat 0 (lv_args 0 [.ref 67, .int (Int32.ofInt (mo : Int)), .int (Int32.ofInt 1), .int ta]) [] (u_S S0 mo ta e1 f1 le) R _
              refine w_dm (d := 1) (by omega) (x_repeat (d := 0) (b := mo) rfl y1 y2 ht.1 ht.2 (fun m2 e2 f2 l2 y3 y4 => ?_))
              show w_T L xs (d + 2) m_X5_readMonth 137 [(5, .int (x_h S0 ta te)), (4, .int (Int32.ofInt 1)), (3, .int (Int32.ofInt (mo : Int))), (2, .int ta), (0, .ref 67), (1, .int dp)] [] (u_S S0 m2 ta e2 f2 l2) R Q
              refine w_ret rfl rfl ?_
              exact hq _ _ _ _ _ (by omega) (by omega)
          · refine w_st rfl (fun _ => rfl) ?_
            refine w_st rfl (fun _ => rfl) ?_
            show w_T L xs (d + 2) m_X5_readMonth 98 [(5, .int (x_h S0 ta te)), (4, .int (Int32.ofInt 1)), (3, .int (Int32.ofInt (mo : Int))), (2, .int ta), (0, .ref 67), (1, .int dp)] [.int (Int32.ofInt 74), .int (x_h S0 ta te)] (u_S S0 mo ta te tf le) R Q
            refine w_br (P := (Int32.ofInt 74) < (x_h S0 ta te)) rfl (fun _ => rfl) (fun h98 => ?_) (fun h98 => ?_)
            · refine w_st rfl (fun _ => rfl) ?_
              refine w_st rfl (fun _ => rfl) ?_
              refine w_st rfl (fun _ => rfl) ?_
              show w_T L xs (d + 2) m_X5_readMonth 116 [(5, .int (x_h S0 ta te)), (4, .int (Int32.ofInt 1)), (3, .int (Int32.ofInt (mo : Int))), (2, .int ta), (0, .ref 67), (1, .int dp)] [.ref 67, .int (Int32.ofInt 1), .ref 67] (u_S S0 mo ta te tf le) R Q
              refine w_get rfl rfl rfl ?_
              show w_T L xs (d + 2) m_X5_readMonth 119 [(5, .int (x_h S0 ta te)), (4, .int (Int32.ofInt 1)), (3, .int (Int32.ofInt (mo : Int))), (2, .int ta), (0, .ref 67), (1, .int dp)] [.int ta, .int (Int32.ofInt 1), .ref 67] (u_S S0 mo ta te tf le) R Q
              refine w_cv rfl (by decide) mt_X5_fail rfl rfl rfl rfl (Nat.le_of_ble_eq_true rfl) (Nat.le_of_ble_eq_true rfl) (Nat.le_of_ble_eq_true rfl) ?_
              show w_T L xs _ m_X5_fail 0 (lv_args 0 [.ref 67, .int (Int32.ofInt 1), .int ta]) [] (u_S S0 mo ta te tf le) R _
              refine x_fail (fun e1 f1 => ?_)
              have y1 : mo ≤ mo := Nat.le_refl _
              have y2 := hm
              refine w_st rfl (fun _ => rfl) ?_
              show w_T L xs (d + 2) m_X5_readMonth 123 [(5, .int (x_h S0 ta te)), (4, .int (Int32.ofInt 1)), (3, .int (Int32.ofInt (mo : Int))), (2, .int ta), (0, .ref 67), (1, .int dp)] [.ref 67] (u_S S0 mo ta e1 f1 le) R Q
              refine w_get rfl rfl rfl ?_
              show w_T L xs (d + 2) m_X5_readMonth 126 [(5, .int (x_h S0 ta te)), (4, .int (Int32.ofInt 1)), (3, .int (Int32.ofInt (mo : Int))), (2, .int ta), (0, .ref 67), (1, .int dp)] [.int f1] (u_S S0 mo ta e1 f1 le) R Q
              refine w_br (P := ¬ f1 = 0) rfl (fun _ => rfl) (fun h126 => ?_) (fun h126 => ?_)
              · refine w_ret rfl rfl ?_
                exact hq _ _ _ _ _ (by omega) (by omega)
              · refine w_st rfl (fun _ => rfl) ?_
                refine w_st rfl (fun _ => rfl) ?_
                refine w_st rfl (fun _ => rfl) ?_
                refine w_st rfl (fun _ => rfl) ?_
                show w_T L xs (d + 2) m_X5_readMonth 134 [(5, .int (x_h S0 ta te)), (4, .int (Int32.ofInt 1)), (3, .int (Int32.ofInt (mo : Int))), (2, .int ta), (0, .ref 67), (1, .int dp)] [.int ta, .int (Int32.ofInt 1), .int (Int32.ofInt (mo : Int)), .ref 67] (u_S S0 mo ta e1 f1 le) R Q
                refine w_cv rfl (by decide) mt_X5_repeat rfl rfl rfl rfl (Nat.le_of_ble_eq_true rfl) (Nat.le_of_ble_eq_true rfl) (Nat.le_of_ble_eq_true rfl) ?_
                show w_T L xs _ m_X5_repeat 0 (lv_args 0 [.ref 67, .int (Int32.ofInt (mo : Int)), .int (Int32.ofInt 1), .int ta]) [] (u_S S0 mo ta e1 f1 le) R _
                refine w_dm (d := 1) (by omega) (x_repeat (d := 0) (b := mo) rfl y1 y2 ht.1 ht.2 (fun m2 e2 f2 l2 y3 y4 => ?_))
                show w_T L xs (d + 2) m_X5_readMonth 137 [(5, .int (x_h S0 ta te)), (4, .int (Int32.ofInt 1)), (3, .int (Int32.ofInt (mo : Int))), (2, .int ta), (0, .ref 67), (1, .int dp)] [] (u_S S0 m2 ta e2 f2 l2) R Q
                refine w_ret rfl rfl ?_
                exact hq _ _ _ _ _ (by omega) (by omega)
            · refine w_st rfl (fun _ => rfl) ?_
              refine w_st rfl (fun _ => rfl) ?_
              refine w_st rfl (fun _ => rfl) ?_
              refine w_st rfl (fun _ => rfl) ?_
              show w_T L xs (d + 2) m_X5_readMonth 107 [(5, .int (x_h S0 ta te)), (4, .int (Int32.ofInt 1)), (3, .int (Int32.ofInt (mo : Int))), (2, .int ta), (0, .ref 67), (1, .int dp)] [.int ((x_h S0 ta te) - (Int32.ofInt 65)), .ref 67] (u_S S0 mo ta te tf le) R Q
              refine w_cv rfl (by decide) mt_X5_writeMonth rfl rfl rfl rfl (Nat.le_of_ble_eq_true rfl) (Nat.le_of_ble_eq_true rfl) (Nat.le_of_ble_eq_true rfl) ?_
              show w_T L xs _ m_X5_writeMonth 0 (lv_args 0 [.ref 67, .int ((x_h S0 ta te) - (Int32.ofInt 65))]) [] (u_S S0 mo ta te tf le) R _
              refine w_dm (Nat.zero_le _) (x_write hm (fun a1 m1 l1 y1 y2 => ?_))
              refine w_st rfl (fun _ => rfl) ?_
              refine w_st rfl (fun _ => rfl) ?_
              show w_T L xs (d + 2) m_X5_readMonth 123 [(5, .int (x_h S0 ta te)), (4, .int (Int32.ofInt 1)), (3, .int (Int32.ofInt (mo : Int))), (2, .int ta), (0, .ref 67), (1, .int dp)] [.ref 67] (u_S S0 m1 a1 te tf l1) R Q
              refine w_get rfl rfl rfl ?_
              show w_T L xs (d + 2) m_X5_readMonth 126 [(5, .int (x_h S0 ta te)), (4, .int (Int32.ofInt 1)), (3, .int (Int32.ofInt (mo : Int))), (2, .int ta), (0, .ref 67), (1, .int dp)] [.int tf] (u_S S0 m1 a1 te tf l1) R Q
              refine w_br (P := ¬ tf = 0) rfl (fun _ => rfl) (fun h126 => ?_) (fun h126 => ?_)
              · refine w_ret rfl rfl ?_
                exact hq _ _ _ _ _ (by omega) (by omega)
              · refine w_st rfl (fun _ => rfl) ?_
                refine w_st rfl (fun _ => rfl) ?_
                refine w_st rfl (fun _ => rfl) ?_
                refine w_st rfl (fun _ => rfl) ?_
                show w_T L xs (d + 2) m_X5_readMonth 134 [(5, .int (x_h S0 ta te)), (4, .int (Int32.ofInt 1)), (3, .int (Int32.ofInt (mo : Int))), (2, .int ta), (0, .ref 67), (1, .int dp)] [.int ta, .int (Int32.ofInt 1), .int (Int32.ofInt (mo : Int)), .ref 67] (u_S S0 m1 a1 te tf l1) R Q
                refine w_cv rfl (by decide) mt_X5_repeat rfl rfl rfl rfl (Nat.le_of_ble_eq_true rfl) (Nat.le_of_ble_eq_true rfl) (Nat.le_of_ble_eq_true rfl) ?_
                show w_T L xs _ m_X5_repeat 0 (lv_args 0 [.ref 67, .int (Int32.ofInt (mo : Int)), .int (Int32.ofInt 1), .int ta]) [] (u_S S0 m1 a1 te tf l1) R _
                refine w_dm (d := 1) (by omega) (x_repeat (d := 0) (b := mo) rfl y1 y2 ht.1 ht.2 (fun m2 e2 f2 l2 y3 y4 => ?_))
                show w_T L xs (d + 2) m_X5_readMonth 137 [(5, .int (x_h S0 ta te)), (4, .int (Int32.ofInt 1)), (3, .int (Int32.ofInt (mo : Int))), (2, .int ta), (0, .ref 67), (1, .int dp)] [] (u_S S0 m2 a1 e2 f2 l2) R Q
                refine w_ret rfl rfl ?_
                exact hq _ _ _ _ _ (by omega) (by omega)
        · refine w_st rfl (fun _ => rfl) ?_
          refine w_st rfl (fun _ => rfl) ?_
          show w_T L xs (d + 2) m_X5_readMonth 81 [(5, .int (x_h S0 ta te)), (4, .int (Int32.ofInt 1)), (3, .int (Int32.ofInt (mo : Int))), (2, .int ta), (0, .ref 67), (1, .int dp)] [.int (Int32.ofInt (-2)), .ref 67] (u_S S0 mo ta te tf le) R Q
          refine w_cv rfl (by decide) mt_X5_writeMonth rfl rfl rfl rfl (Nat.le_of_ble_eq_true rfl) (Nat.le_of_ble_eq_true rfl) (Nat.le_of_ble_eq_true rfl) ?_
          show w_T L xs _ m_X5_writeMonth 0 (lv_args 0 [.ref 67, .int (Int32.ofInt (-2))]) [] (u_S S0 mo ta te tf le) R _
          refine w_dm (Nat.zero_le _) (x_write hm (fun a1 m1 l1 y1 y2 => ?_))
          refine w_st rfl (fun _ => rfl) ?_
          refine w_st rfl (fun _ => rfl) ?_
          show w_T L xs (d + 2) m_X5_readMonth 123 [(5, .int (x_h S0 ta te)), (4, .int (Int32.ofInt 1)), (3, .int (Int32.ofInt (mo : Int))), (2, .int ta), (0, .ref 67), (1, .int dp)] [.ref 67] (u_S S0 m1 a1 te tf l1) R Q
          refine w_get rfl rfl rfl ?_
          show w_T L xs (d + 2) m_X5_readMonth 126 [(5, .int (x_h S0 ta te)), (4, .int (Int32.ofInt 1)), (3, .int (Int32.ofInt (mo : Int))), (2, .int ta), (0, .ref 67), (1, .int dp)] [.int tf] (u_S S0 m1 a1 te tf l1) R Q
          refine w_br (P := ¬ tf = 0) rfl (fun _ => rfl) (fun h126 => ?_) (fun h126 => ?_)
          · refine w_ret rfl rfl ?_
            exact hq _ _ _ _ _ (by omega) (by omega)
          · refine w_st rfl (fun _ => rfl) ?_
            refine w_st rfl (fun _ => rfl) ?_
            refine w_st rfl (fun _ => rfl) ?_
            refine w_st rfl (fun _ => rfl) ?_
            show w_T L xs (d + 2) m_X5_readMonth 134 [(5, .int (x_h S0 ta te)), (4, .int (Int32.ofInt 1)), (3, .int (Int32.ofInt (mo : Int))), (2, .int ta), (0, .ref 67), (1, .int dp)] [.int ta, .int (Int32.ofInt 1), .int (Int32.ofInt (mo : Int)), .ref 67] (u_S S0 m1 a1 te tf l1) R Q
            refine w_cv rfl (by decide) mt_X5_repeat rfl rfl rfl rfl (Nat.le_of_ble_eq_true rfl) (Nat.le_of_ble_eq_true rfl) (Nat.le_of_ble_eq_true rfl) ?_
            show w_T L xs _ m_X5_repeat 0 (lv_args 0 [.ref 67, .int (Int32.ofInt (mo : Int)), .int (Int32.ofInt 1), .int ta]) [] (u_S S0 m1 a1 te tf l1) R _
            refine w_dm (d := 1) (by omega) (x_repeat (d := 0) (b := mo) rfl y1 y2 ht.1 ht.2 (fun m2 e2 f2 l2 y3 y4 => ?_))
            show w_T L xs (d + 2) m_X5_readMonth 137 [(5, .int (x_h S0 ta te)), (4, .int (Int32.ofInt 1)), (3, .int (Int32.ofInt (mo : Int))), (2, .int ta), (0, .ref 67), (1, .int dp)] [] (u_S S0 m2 a1 e2 f2 l2) R Q
            refine w_ret rfl rfl ?_
            exact hq _ _ _ _ _ (by omega) (by omega)
      · refine w_st rfl (fun _ => rfl) ?_
        refine w_st rfl (fun _ => rfl) ?_
        show w_T L xs (d + 2) m_X5_readMonth 65 [(5, .int (x_h S0 ta te)), (4, .int (Int32.ofInt 1)), (3, .int (Int32.ofInt (mo : Int))), (2, .int ta), (0, .ref 67), (1, .int dp)] [.int dp, .ref 67] (u_S S0 mo ta te tf le) R Q
        refine w_cv rfl (by decide) mt_X5_readGroup rfl rfl rfl rfl (Nat.le_of_ble_eq_true rfl) (Nat.le_of_ble_eq_true rfl) (Nat.le_of_ble_eq_true rfl) ?_
        show w_T L xs _ m_X5_readGroup 0 (lv_args 0 [.ref 67, .int dp]) [] (u_S S0 mo ta te tf le) R _
        refine h _ _ _ _ _ _ hm (fun m1 a1 e1 f1 l1 y1 y2 => ?_)
        refine w_st rfl (fun _ => rfl) ?_
        refine w_st rfl (fun _ => rfl) ?_
        show w_T L xs (d + 2) m_X5_readMonth 123 [(5, .int (x_h S0 ta te)), (4, .int (Int32.ofInt 1)), (3, .int (Int32.ofInt (mo : Int))), (2, .int ta), (0, .ref 67), (1, .int dp)] [.ref 67] (u_S S0 m1 a1 e1 f1 l1) R Q
        refine w_get rfl rfl rfl ?_
        show w_T L xs (d + 2) m_X5_readMonth 126 [(5, .int (x_h S0 ta te)), (4, .int (Int32.ofInt 1)), (3, .int (Int32.ofInt (mo : Int))), (2, .int ta), (0, .ref 67), (1, .int dp)] [.int f1] (u_S S0 m1 a1 e1 f1 l1) R Q
        refine w_br (P := ¬ f1 = 0) rfl (fun _ => rfl) (fun h126 => ?_) (fun h126 => ?_)
        · refine w_ret rfl rfl ?_
          exact hq _ _ _ _ _ (by omega) (by omega)
        · refine w_st rfl (fun _ => rfl) ?_
          refine w_st rfl (fun _ => rfl) ?_
          refine w_st rfl (fun _ => rfl) ?_
          refine w_st rfl (fun _ => rfl) ?_
          show w_T L xs (d + 2) m_X5_readMonth 134 [(5, .int (x_h S0 ta te)), (4, .int (Int32.ofInt 1)), (3, .int (Int32.ofInt (mo : Int))), (2, .int ta), (0, .ref 67), (1, .int dp)] [.int ta, .int (Int32.ofInt 1), .int (Int32.ofInt (mo : Int)), .ref 67] (u_S S0 m1 a1 e1 f1 l1) R Q
          refine w_cv rfl (by decide) mt_X5_repeat rfl rfl rfl rfl (Nat.le_of_ble_eq_true rfl) (Nat.le_of_ble_eq_true rfl) (Nat.le_of_ble_eq_true rfl) ?_
          show w_T L xs _ m_X5_repeat 0 (lv_args 0 [.ref 67, .int (Int32.ofInt (mo : Int)), .int (Int32.ofInt 1), .int ta]) [] (u_S S0 m1 a1 e1 f1 l1) R _
          refine w_dm (d := 1) (by omega) (x_repeat (d := 0) (b := mo) rfl y1 y2 ht.1 ht.2 (fun m2 e2 f2 l2 y3 y4 => ?_))
          show w_T L xs (d + 2) m_X5_readMonth 137 [(5, .int (x_h S0 ta te)), (4, .int (Int32.ofInt 1)), (3, .int (Int32.ofInt (mo : Int))), (2, .int ta), (0, .ref 67), (1, .int dp)] [] (u_S S0 m2 a1 e2 f2 l2) R Q
          refine w_ret rfl rfl ?_
          exact hq _ _ _ _ _ (by omega) (by omega)
    · refine w_st rfl (fun _ => rfl) ?_
      show w_T L xs (d + 2) m_X5_readMonth 32 [(4, .int (Int32.ofInt 1)), (3, .int (Int32.ofInt (mo : Int))), (2, .int ta), (0, .ref 67), (1, .int dp)] [.ref 67] (u_S S0 mo ta te tf le) R Q
      refine w_cv rfl (by decide) mt_X5_here rfl rfl rfl rfl (Nat.le_of_ble_eq_true rfl) (Nat.le_of_ble_eq_true rfl) (Nat.le_of_ble_eq_true rfl) ?_
      show w_T L xs _ m_X5_here 0 (lv_args 0 [.ref 67]) [] (u_S S0 mo ta te tf le) R _
      refine x_here hs ?_
      refine w_st rfl (fun _ => rfl) ?_
      refine w_st rfl (fun _ => rfl) ?_
      refine w_st rfl (fun _ => rfl) ?_
      refine w_st rfl (fun _ => rfl) ?_
      refine w_st rfl (fun _ => rfl) ?_
      show w_T L xs (d + 2) m_X5_readMonth 42 [(4, .int ((x_h S0 ta te) - (Int32.ofInt 48))), (3, .int (Int32.ofInt (mo : Int))), (2, .int ta), (0, .ref 67), (1, .int dp)] [.ref 67, .ref 67] (u_S S0 mo ta te tf le) R Q
      refine w_get rfl rfl rfl ?_
      refine w_st rfl (fun _ => rfl) ?_
      refine w_st rfl (fun _ => rfl) ?_
      show w_T L xs (d + 2) m_X5_readMonth 47 [(4, .int ((x_h S0 ta te) - (Int32.ofInt 48))), (3, .int (Int32.ofInt (mo : Int))), (2, .int ta), (0, .ref 67), (1, .int dp)] [.int (ta + (Int32.ofInt 1)), .ref 67] (u_S S0 mo ta te tf le) R Q
      refine w_put rfl rfl rfl rfl rfl ?_
      refine w_eqS u_wta ?_
      show w_T L xs (d + 2) m_X5_readMonth 50 [(4, .int ((x_h S0 ta te) - (Int32.ofInt 48))), (3, .int (Int32.ofInt (mo : Int))), (2, .int ta), (0, .ref 67), (1, .int dp)] [] (u_S S0 mo (ta + (Int32.ofInt 1)) te tf le) R Q
      have ht : 1 ≤ ((x_h S0 ta te) - (Int32.ofInt 48)).toInt ∧ ((x_h S0 ta te) - (Int32.ofInt 48)).toInt ≤ 9 := by
        rw [q_lt32, e50] at h19
        rw [q_lt32, e57] at h28
        have e1 : x_h S0 ta te - Int32.ofInt 48 = Int32.ofInt ((x_h S0 ta te).toInt - 48) := by rw [Int32.ofInt_sub, q_of]
        rw [e1, q_ofr (by omega) (by omega)]
        omega
      refine w_st rfl (fun _ => rfl) ?_
      show w_T L xs (d + 2) m_X5_readMonth 51 [(4, .int ((x_h S0 ta te) - (Int32.ofInt 48))), (3, .int (Int32.ofInt (mo : Int))), (2, .int ta), (0, .ref 67), (1, .int dp)] [.ref 67] (u_S S0 mo (ta + (Int32.ofInt 1)) te tf le) R Q
      refine w_cv rfl (by decide) mt_X5_here rfl rfl rfl rfl (Nat.le_of_ble_eq_true rfl) (Nat.le_of_ble_eq_true rfl) (Nat.le_of_ble_eq_true rfl) ?_
      show w_T L xs _ m_X5_here 0 (lv_args 0 [.ref 67]) [] (u_S S0 mo (ta + (Int32.ofInt 1)) te tf le) R _
      refine x_here hs ?_
      refine w_st rfl (fun _ => rfl) ?_
      refine w_st rfl (fun _ => rfl) ?_
      refine w_st rfl (fun _ => rfl) ?_
      show w_T L xs (d + 2) m_X5_readMonth 60 [(5, .int (x_h S0 (ta + (Int32.ofInt 1)) te)), (4, .int ((x_h S0 ta te) - (Int32.ofInt 48))), (3, .int (Int32.ofInt (mo : Int))), (2, .int ta), (0, .ref 67), (1, .int dp)] [.int (Int32.ofInt 40), .int (x_h S0 (ta + (Int32.ofInt 1)) te)] (u_S S0 mo (ta + (Int32.ofInt 1)) te tf le) R Q
      refine w_br (P := ¬ (x_h S0 (ta + (Int32.ofInt 1)) te) = (Int32.ofInt 40)) rfl (fun _ => rfl) (fun h60 => ?_) (fun h60 => ?_)
      · refine w_st rfl (fun _ => rfl) ?_
        refine w_st rfl (fun _ => rfl) ?_
        show w_T L xs (d + 2) m_X5_readMonth 75 [(5, .int (x_h S0 (ta + (Int32.ofInt 1)) te)), (4, .int ((x_h S0 ta te) - (Int32.ofInt 48))), (3, .int (Int32.ofInt (mo : Int))), (2, .int ta), (0, .ref 67), (1, .int dp)] [.int (Int32.ofInt 46), .int (x_h S0 (ta + (Int32.ofInt 1)) te)] (u_S S0 mo (ta + (Int32.ofInt 1)) te tf le) R Q
        refine w_br (P := ¬ (x_h S0 (ta + (Int32.ofInt 1)) te) = (Int32.ofInt 46)) rfl (fun _ => rfl) (fun h75 => ?_) (fun h75 => ?_)
        · refine w_st rfl (fun _ => rfl) ?_
          refine w_st rfl (fun _ => rfl) ?_
          show w_T L xs (d + 2) m_X5_readMonth 91 [(5, .int (x_h S0 (ta + (Int32.ofInt 1)) te)), (4, .int ((x_h S0 ta te) - (Int32.ofInt 48))), (3, .int (Int32.ofInt (mo : Int))), (2, .int ta), (0, .ref 67), (1, .int dp)] [.int (Int32.ofInt 65), .int (x_h S0 (ta + (Int32.ofInt 1)) te)] (u_S S0 mo (ta + (Int32.ofInt 1)) te tf le) R Q
          refine w_br (P := (x_h S0 (ta + (Int32.ofInt 1)) te) < (Int32.ofInt 65)) rfl (fun _ => rfl) (fun h91 => ?_) (fun h91 => ?_)
          · refine w_st rfl (fun _ => rfl) ?_
            refine w_st rfl (fun _ => rfl) ?_
            refine w_st rfl (fun _ => rfl) ?_
            show w_T L xs (d + 2) m_X5_readMonth 116 [(5, .int (x_h S0 (ta + (Int32.ofInt 1)) te)), (4, .int ((x_h S0 ta te) - (Int32.ofInt 48))), (3, .int (Int32.ofInt (mo : Int))), (2, .int ta), (0, .ref 67), (1, .int dp)] [.ref 67, .int (Int32.ofInt 1), .ref 67] (u_S S0 mo (ta + (Int32.ofInt 1)) te tf le) R Q
            refine w_get rfl rfl rfl ?_
            show w_T L xs (d + 2) m_X5_readMonth 119 [(5, .int (x_h S0 (ta + (Int32.ofInt 1)) te)), (4, .int ((x_h S0 ta te) - (Int32.ofInt 48))), (3, .int (Int32.ofInt (mo : Int))), (2, .int ta), (0, .ref 67), (1, .int dp)] [.int ((ta + (Int32.ofInt 1))), .int (Int32.ofInt 1), .ref 67] (u_S S0 mo (ta + (Int32.ofInt 1)) te tf le) R Q
            refine w_cv rfl (by decide) mt_X5_fail rfl rfl rfl rfl (Nat.le_of_ble_eq_true rfl) (Nat.le_of_ble_eq_true rfl) (Nat.le_of_ble_eq_true rfl) ?_
            show w_T L xs _ m_X5_fail 0 (lv_args 0 [.ref 67, .int (Int32.ofInt 1), .int ((ta + (Int32.ofInt 1)))]) [] (u_S S0 mo (ta + (Int32.ofInt 1)) te tf le) R _
            refine x_fail (fun e1 f1 => ?_)
            have y1 : mo ≤ mo := Nat.le_refl _
            have y2 := hm
            refine w_st rfl (fun _ => rfl) ?_
            show w_T L xs (d + 2) m_X5_readMonth 123 [(5, .int (x_h S0 (ta + (Int32.ofInt 1)) te)), (4, .int ((x_h S0 ta te) - (Int32.ofInt 48))), (3, .int (Int32.ofInt (mo : Int))), (2, .int ta), (0, .ref 67), (1, .int dp)] [.ref 67] (u_S S0 mo (ta + (Int32.ofInt 1)) e1 f1 le) R Q
            refine w_get rfl rfl rfl ?_
            show w_T L xs (d + 2) m_X5_readMonth 126 [(5, .int (x_h S0 (ta + (Int32.ofInt 1)) te)), (4, .int ((x_h S0 ta te) - (Int32.ofInt 48))), (3, .int (Int32.ofInt (mo : Int))), (2, .int ta), (0, .ref 67), (1, .int dp)] [.int f1] (u_S S0 mo (ta + (Int32.ofInt 1)) e1 f1 le) R Q
            refine w_br (P := ¬ f1 = 0) rfl (fun _ => rfl) (fun h126 => ?_) (fun h126 => ?_)
            · refine w_ret rfl rfl ?_
              exact hq _ _ _ _ _ (by omega) (by omega)
            · refine w_st rfl (fun _ => rfl) ?_
              refine w_st rfl (fun _ => rfl) ?_
              refine w_st rfl (fun _ => rfl) ?_
              refine w_st rfl (fun _ => rfl) ?_
              show w_T L xs (d + 2) m_X5_readMonth 134 [(5, .int (x_h S0 (ta + (Int32.ofInt 1)) te)), (4, .int ((x_h S0 ta te) - (Int32.ofInt 48))), (3, .int (Int32.ofInt (mo : Int))), (2, .int ta), (0, .ref 67), (1, .int dp)] [.int ta, .int ((x_h S0 ta te) - (Int32.ofInt 48)), .int (Int32.ofInt (mo : Int)), .ref 67] (u_S S0 mo (ta + (Int32.ofInt 1)) e1 f1 le) R Q
              refine w_cv rfl (by decide) mt_X5_repeat rfl rfl rfl rfl (Nat.le_of_ble_eq_true rfl) (Nat.le_of_ble_eq_true rfl) (Nat.le_of_ble_eq_true rfl) ?_
              show w_T L xs _ m_X5_repeat 0 (lv_args 0 [.ref 67, .int (Int32.ofInt (mo : Int)), .int ((x_h S0 ta te) - (Int32.ofInt 48)), .int ta]) [] (u_S S0 mo (ta + (Int32.ofInt 1)) e1 f1 le) R _
              refine w_dm (d := 1) (by omega) (x_repeat (d := 0) (b := mo) rfl y1 y2 ht.1 ht.2 (fun m2 e2 f2 l2 y3 y4 => ?_))
              show w_T L xs (d + 2) m_X5_readMonth 137 [(5, .int (x_h S0 (ta + (Int32.ofInt 1)) te)), (4, .int ((x_h S0 ta te) - (Int32.ofInt 48))), (3, .int (Int32.ofInt (mo : Int))), (2, .int ta), (0, .ref 67), (1, .int dp)] [] (u_S S0 m2 (ta + (Int32.ofInt 1)) e2 f2 l2) R Q
              refine w_ret rfl rfl ?_
              exact hq _ _ _ _ _ (by omega) (by omega)
          · refine w_st rfl (fun _ => rfl) ?_
            refine w_st rfl (fun _ => rfl) ?_
            show w_T L xs (d + 2) m_X5_readMonth 98 [(5, .int (x_h S0 (ta + (Int32.ofInt 1)) te)), (4, .int ((x_h S0 ta te) - (Int32.ofInt 48))), (3, .int (Int32.ofInt (mo : Int))), (2, .int ta), (0, .ref 67), (1, .int dp)] [.int (Int32.ofInt 74), .int (x_h S0 (ta + (Int32.ofInt 1)) te)] (u_S S0 mo (ta + (Int32.ofInt 1)) te tf le) R Q
            refine w_br (P := (Int32.ofInt 74) < (x_h S0 (ta + (Int32.ofInt 1)) te)) rfl (fun _ => rfl) (fun h98 => ?_) (fun h98 => ?_)
            · refine w_st rfl (fun _ => rfl) ?_
              refine w_st rfl (fun _ => rfl) ?_
              refine w_st rfl (fun _ => rfl) ?_
              show w_T L xs (d + 2) m_X5_readMonth 116 [(5, .int (x_h S0 (ta + (Int32.ofInt 1)) te)), (4, .int ((x_h S0 ta te) - (Int32.ofInt 48))), (3, .int (Int32.ofInt (mo : Int))), (2, .int ta), (0, .ref 67), (1, .int dp)] [.ref 67, .int (Int32.ofInt 1), .ref 67] (u_S S0 mo (ta + (Int32.ofInt 1)) te tf le) R Q
              refine w_get rfl rfl rfl ?_
              show w_T L xs (d + 2) m_X5_readMonth 119 [(5, .int (x_h S0 (ta + (Int32.ofInt 1)) te)), (4, .int ((x_h S0 ta te) - (Int32.ofInt 48))), (3, .int (Int32.ofInt (mo : Int))), (2, .int ta), (0, .ref 67), (1, .int dp)] [.int ((ta + (Int32.ofInt 1))), .int (Int32.ofInt 1), .ref 67] (u_S S0 mo (ta + (Int32.ofInt 1)) te tf le) R Q
              refine w_cv rfl (by decide) mt_X5_fail rfl rfl rfl rfl (Nat.le_of_ble_eq_true rfl) (Nat.le_of_ble_eq_true rfl) (Nat.le_of_ble_eq_true rfl) ?_
              show w_T L xs _ m_X5_fail 0 (lv_args 0 [.ref 67, .int (Int32.ofInt 1), .int ((ta + (Int32.ofInt 1)))]) [] (u_S S0 mo (ta + (Int32.ofInt 1)) te tf le) R _
              refine x_fail (fun e1 f1 => ?_)
              have y1 : mo ≤ mo := Nat.le_refl _
              have y2 := hm
              refine w_st rfl (fun _ => rfl) ?_
              show w_T L xs (d + 2) m_X5_readMonth 123 [(5, .int (x_h S0 (ta + (Int32.ofInt 1)) te)), (4, .int ((x_h S0 ta te) - (Int32.ofInt 48))), (3, .int (Int32.ofInt (mo : Int))), (2, .int ta), (0, .ref 67), (1, .int dp)] [.ref 67] (u_S S0 mo (ta + (Int32.ofInt 1)) e1 f1 le) R Q
              refine w_get rfl rfl rfl ?_
              show w_T L xs (d + 2) m_X5_readMonth 126 [(5, .int (x_h S0 (ta + (Int32.ofInt 1)) te)), (4, .int ((x_h S0 ta te) - (Int32.ofInt 48))), (3, .int (Int32.ofInt (mo : Int))), (2, .int ta), (0, .ref 67), (1, .int dp)] [.int f1] (u_S S0 mo (ta + (Int32.ofInt 1)) e1 f1 le) R Q
              refine w_br (P := ¬ f1 = 0) rfl (fun _ => rfl) (fun h126 => ?_) (fun h126 => ?_)
              · refine w_ret rfl rfl ?_
                exact hq _ _ _ _ _ (by omega) (by omega)
              · refine w_st rfl (fun _ => rfl) ?_
                refine w_st rfl (fun _ => rfl) ?_
                refine w_st rfl (fun _ => rfl) ?_
                refine w_st rfl (fun _ => rfl) ?_
                show w_T L xs (d + 2) m_X5_readMonth 134 [(5, .int (x_h S0 (ta + (Int32.ofInt 1)) te)), (4, .int ((x_h S0 ta te) - (Int32.ofInt 48))), (3, .int (Int32.ofInt (mo : Int))), (2, .int ta), (0, .ref 67), (1, .int dp)] [.int ta, .int ((x_h S0 ta te) - (Int32.ofInt 48)), .int (Int32.ofInt (mo : Int)), .ref 67] (u_S S0 mo (ta + (Int32.ofInt 1)) e1 f1 le) R Q
                refine w_cv rfl (by decide) mt_X5_repeat rfl rfl rfl rfl (Nat.le_of_ble_eq_true rfl) (Nat.le_of_ble_eq_true rfl) (Nat.le_of_ble_eq_true rfl) ?_
                show w_T L xs _ m_X5_repeat 0 (lv_args 0 [.ref 67, .int (Int32.ofInt (mo : Int)), .int ((x_h S0 ta te) - (Int32.ofInt 48)), .int ta]) [] (u_S S0 mo (ta + (Int32.ofInt 1)) e1 f1 le) R _
                refine w_dm (d := 1) (by omega) (x_repeat (d := 0) (b := mo) rfl y1 y2 ht.1 ht.2 (fun m2 e2 f2 l2 y3 y4 => ?_))
                show w_T L xs (d + 2) m_X5_readMonth 137 [(5, .int (x_h S0 (ta + (Int32.ofInt 1)) te)), (4, .int ((x_h S0 ta te) - (Int32.ofInt 48))), (3, .int (Int32.ofInt (mo : Int))), (2, .int ta), (0, .ref 67), (1, .int dp)] [] (u_S S0 m2 (ta + (Int32.ofInt 1)) e2 f2 l2) R Q
                refine w_ret rfl rfl ?_
                exact hq _ _ _ _ _ (by omega) (by omega)
            · refine w_st rfl (fun _ => rfl) ?_
              refine w_st rfl (fun _ => rfl) ?_
              refine w_st rfl (fun _ => rfl) ?_
              refine w_st rfl (fun _ => rfl) ?_
              show w_T L xs (d + 2) m_X5_readMonth 107 [(5, .int (x_h S0 (ta + (Int32.ofInt 1)) te)), (4, .int ((x_h S0 ta te) - (Int32.ofInt 48))), (3, .int (Int32.ofInt (mo : Int))), (2, .int ta), (0, .ref 67), (1, .int dp)] [.int ((x_h S0 (ta + (Int32.ofInt 1)) te) - (Int32.ofInt 65)), .ref 67] (u_S S0 mo (ta + (Int32.ofInt 1)) te tf le) R Q
              refine w_cv rfl (by decide) mt_X5_writeMonth rfl rfl rfl rfl (Nat.le_of_ble_eq_true rfl) (Nat.le_of_ble_eq_true rfl) (Nat.le_of_ble_eq_true rfl) ?_
              show w_T L xs _ m_X5_writeMonth 0 (lv_args 0 [.ref 67, .int ((x_h S0 (ta + (Int32.ofInt 1)) te) - (Int32.ofInt 65))]) [] (u_S S0 mo (ta + (Int32.ofInt 1)) te tf le) R _
              refine w_dm (Nat.zero_le _) (x_write hm (fun a1 m1 l1 y1 y2 => ?_))
              refine w_st rfl (fun _ => rfl) ?_
              refine w_st rfl (fun _ => rfl) ?_
              show w_T L xs (d + 2) m_X5_readMonth 123 [(5, .int (x_h S0 (ta + (Int32.ofInt 1)) te)), (4, .int ((x_h S0 ta te) - (Int32.ofInt 48))), (3, .int (Int32.ofInt (mo : Int))), (2, .int ta), (0, .ref 67), (1, .int dp)] [.ref 67] (u_S S0 m1 a1 te tf l1) R Q
              refine w_get rfl rfl rfl ?_
              show w_T L xs (d + 2) m_X5_readMonth 126 [(5, .int (x_h S0 (ta + (Int32.ofInt 1)) te)), (4, .int ((x_h S0 ta te) - (Int32.ofInt 48))), (3, .int (Int32.ofInt (mo : Int))), (2, .int ta), (0, .ref 67), (1, .int dp)] [.int tf] (u_S S0 m1 a1 te tf l1) R Q
              refine w_br (P := ¬ tf = 0) rfl (fun _ => rfl) (fun h126 => ?_) (fun h126 => ?_)
              · refine w_ret rfl rfl ?_
                exact hq _ _ _ _ _ (by omega) (by omega)
              · refine w_st rfl (fun _ => rfl) ?_
                refine w_st rfl (fun _ => rfl) ?_
                refine w_st rfl (fun _ => rfl) ?_
                refine w_st rfl (fun _ => rfl) ?_
                show w_T L xs (d + 2) m_X5_readMonth 134 [(5, .int (x_h S0 (ta + (Int32.ofInt 1)) te)), (4, .int ((x_h S0 ta te) - (Int32.ofInt 48))), (3, .int (Int32.ofInt (mo : Int))), (2, .int ta), (0, .ref 67), (1, .int dp)] [.int ta, .int ((x_h S0 ta te) - (Int32.ofInt 48)), .int (Int32.ofInt (mo : Int)), .ref 67] (u_S S0 m1 a1 te tf l1) R Q
                refine w_cv rfl (by decide) mt_X5_repeat rfl rfl rfl rfl (Nat.le_of_ble_eq_true rfl) (Nat.le_of_ble_eq_true rfl) (Nat.le_of_ble_eq_true rfl) ?_
                show w_T L xs _ m_X5_repeat 0 (lv_args 0 [.ref 67, .int (Int32.ofInt (mo : Int)), .int ((x_h S0 ta te) - (Int32.ofInt 48)), .int ta]) [] (u_S S0 m1 a1 te tf l1) R _
                refine w_dm (d := 1) (by omega) (x_repeat (d := 0) (b := mo) rfl y1 y2 ht.1 ht.2 (fun m2 e2 f2 l2 y3 y4 => ?_))
                show w_T L xs (d + 2) m_X5_readMonth 137 [(5, .int (x_h S0 (ta + (Int32.ofInt 1)) te)), (4, .int ((x_h S0 ta te) - (Int32.ofInt 48))), (3, .int (Int32.ofInt (mo : Int))), (2, .int ta), (0, .ref 67), (1, .int dp)] [] (u_S S0 m2 a1 e2 f2 l2) R Q
                refine w_ret rfl rfl ?_
                exact hq _ _ _ _ _ (by omega) (by omega)
        · refine w_st rfl (fun _ => rfl) ?_
          refine w_st rfl (fun _ => rfl) ?_
          show w_T L xs (d + 2) m_X5_readMonth 81 [(5, .int (x_h S0 (ta + (Int32.ofInt 1)) te)), (4, .int ((x_h S0 ta te) - (Int32.ofInt 48))), (3, .int (Int32.ofInt (mo : Int))), (2, .int ta), (0, .ref 67), (1, .int dp)] [.int (Int32.ofInt (-2)), .ref 67] (u_S S0 mo (ta + (Int32.ofInt 1)) te tf le) R Q
          refine w_cv rfl (by decide) mt_X5_writeMonth rfl rfl rfl rfl (Nat.le_of_ble_eq_true rfl) (Nat.le_of_ble_eq_true rfl) (Nat.le_of_ble_eq_true rfl) ?_
          show w_T L xs _ m_X5_writeMonth 0 (lv_args 0 [.ref 67, .int (Int32.ofInt (-2))]) [] (u_S S0 mo (ta + (Int32.ofInt 1)) te tf le) R _
          refine w_dm (Nat.zero_le _) (x_write hm (fun a1 m1 l1 y1 y2 => ?_))
          refine w_st rfl (fun _ => rfl) ?_
          refine w_st rfl (fun _ => rfl) ?_
          show w_T L xs (d + 2) m_X5_readMonth 123 [(5, .int (x_h S0 (ta + (Int32.ofInt 1)) te)), (4, .int ((x_h S0 ta te) - (Int32.ofInt 48))), (3, .int (Int32.ofInt (mo : Int))), (2, .int ta), (0, .ref 67), (1, .int dp)] [.ref 67] (u_S S0 m1 a1 te tf l1) R Q
          refine w_get rfl rfl rfl ?_
          show w_T L xs (d + 2) m_X5_readMonth 126 [(5, .int (x_h S0 (ta + (Int32.ofInt 1)) te)), (4, .int ((x_h S0 ta te) - (Int32.ofInt 48))), (3, .int (Int32.ofInt (mo : Int))), (2, .int ta), (0, .ref 67), (1, .int dp)] [.int tf] (u_S S0 m1 a1 te tf l1) R Q
          refine w_br (P := ¬ tf = 0) rfl (fun _ => rfl) (fun h126 => ?_) (fun h126 => ?_)
          · refine w_ret rfl rfl ?_
            exact hq _ _ _ _ _ (by omega) (by omega)
          · refine w_st rfl (fun _ => rfl) ?_
            refine w_st rfl (fun _ => rfl) ?_
            refine w_st rfl (fun _ => rfl) ?_
            refine w_st rfl (fun _ => rfl) ?_
            show w_T L xs (d + 2) m_X5_readMonth 134 [(5, .int (x_h S0 (ta + (Int32.ofInt 1)) te)), (4, .int ((x_h S0 ta te) - (Int32.ofInt 48))), (3, .int (Int32.ofInt (mo : Int))), (2, .int ta), (0, .ref 67), (1, .int dp)] [.int ta, .int ((x_h S0 ta te) - (Int32.ofInt 48)), .int (Int32.ofInt (mo : Int)), .ref 67] (u_S S0 m1 a1 te tf l1) R Q
            refine w_cv rfl (by decide) mt_X5_repeat rfl rfl rfl rfl (Nat.le_of_ble_eq_true rfl) (Nat.le_of_ble_eq_true rfl) (Nat.le_of_ble_eq_true rfl) ?_
            show w_T L xs _ m_X5_repeat 0 (lv_args 0 [.ref 67, .int (Int32.ofInt (mo : Int)), .int ((x_h S0 ta te) - (Int32.ofInt 48)), .int ta]) [] (u_S S0 m1 a1 te tf l1) R _
            refine w_dm (d := 1) (by omega) (x_repeat (d := 0) (b := mo) rfl y1 y2 ht.1 ht.2 (fun m2 e2 f2 l2 y3 y4 => ?_))
            show w_T L xs (d + 2) m_X5_readMonth 137 [(5, .int (x_h S0 (ta + (Int32.ofInt 1)) te)), (4, .int ((x_h S0 ta te) - (Int32.ofInt 48))), (3, .int (Int32.ofInt (mo : Int))), (2, .int ta), (0, .ref 67), (1, .int dp)] [] (u_S S0 m2 a1 e2 f2 l2) R Q
            refine w_ret rfl rfl ?_
            exact hq _ _ _ _ _ (by omega) (by omega)
      · refine w_st rfl (fun _ => rfl) ?_
        refine w_st rfl (fun _ => rfl) ?_
        show w_T L xs (d + 2) m_X5_readMonth 65 [(5, .int (x_h S0 (ta + (Int32.ofInt 1)) te)), (4, .int ((x_h S0 ta te) - (Int32.ofInt 48))), (3, .int (Int32.ofInt (mo : Int))), (2, .int ta), (0, .ref 67), (1, .int dp)] [.int dp, .ref 67] (u_S S0 mo (ta + (Int32.ofInt 1)) te tf le) R Q
        refine w_cv rfl (by decide) mt_X5_readGroup rfl rfl rfl rfl (Nat.le_of_ble_eq_true rfl) (Nat.le_of_ble_eq_true rfl) (Nat.le_of_ble_eq_true rfl) ?_
        show w_T L xs _ m_X5_readGroup 0 (lv_args 0 [.ref 67, .int dp]) [] (u_S S0 mo (ta + (Int32.ofInt 1)) te tf le) R _
        refine h _ _ _ _ _ _ hm (fun m1 a1 e1 f1 l1 y1 y2 => ?_)
        refine w_st rfl (fun _ => rfl) ?_
        refine w_st rfl (fun _ => rfl) ?_
        show w_T L xs (d + 2) m_X5_readMonth 123 [(5, .int (x_h S0 (ta + (Int32.ofInt 1)) te)), (4, .int ((x_h S0 ta te) - (Int32.ofInt 48))), (3, .int (Int32.ofInt (mo : Int))), (2, .int ta), (0, .ref 67), (1, .int dp)] [.ref 67] (u_S S0 m1 a1 e1 f1 l1) R Q
        refine w_get rfl rfl rfl ?_
        show w_T L xs (d + 2) m_X5_readMonth 126 [(5, .int (x_h S0 (ta + (Int32.ofInt 1)) te)), (4, .int ((x_h S0 ta te) - (Int32.ofInt 48))), (3, .int (Int32.ofInt (mo : Int))), (2, .int ta), (0, .ref 67), (1, .int dp)] [.int f1] (u_S S0 m1 a1 e1 f1 l1) R Q
        refine w_br (P := ¬ f1 = 0) rfl (fun _ => rfl) (fun h126 => ?_) (fun h126 => ?_)
        · refine w_ret rfl rfl ?_
          exact hq _ _ _ _ _ (by omega) (by omega)
        · refine w_st rfl (fun _ => rfl) ?_
          refine w_st rfl (fun _ => rfl) ?_
          refine w_st rfl (fun _ => rfl) ?_
          refine w_st rfl (fun _ => rfl) ?_
          show w_T L xs (d + 2) m_X5_readMonth 134 [(5, .int (x_h S0 (ta + (Int32.ofInt 1)) te)), (4, .int ((x_h S0 ta te) - (Int32.ofInt 48))), (3, .int (Int32.ofInt (mo : Int))), (2, .int ta), (0, .ref 67), (1, .int dp)] [.int ta, .int ((x_h S0 ta te) - (Int32.ofInt 48)), .int (Int32.ofInt (mo : Int)), .ref 67] (u_S S0 m1 a1 e1 f1 l1) R Q
          refine w_cv rfl (by decide) mt_X5_repeat rfl rfl rfl rfl (Nat.le_of_ble_eq_true rfl) (Nat.le_of_ble_eq_true rfl) (Nat.le_of_ble_eq_true rfl) ?_
          show w_T L xs _ m_X5_repeat 0 (lv_args 0 [.ref 67, .int (Int32.ofInt (mo : Int)), .int ((x_h S0 ta te) - (Int32.ofInt 48)), .int ta]) [] (u_S S0 m1 a1 e1 f1 l1) R _
          refine w_dm (d := 1) (by omega) (x_repeat (d := 0) (b := mo) rfl y1 y2 ht.1 ht.2 (fun m2 e2 f2 l2 y3 y4 => ?_))
          show w_T L xs (d + 2) m_X5_readMonth 137 [(5, .int (x_h S0 (ta + (Int32.ofInt 1)) te)), (4, .int ((x_h S0 ta te) - (Int32.ofInt 48))), (3, .int (Int32.ofInt (mo : Int))), (2, .int ta), (0, .ref 67), (1, .int dp)] [] (u_S S0 m2 a1 e2 f2 l2) R Q
          refine w_ret rfl rfl ?_
          exact hq _ _ _ _ _ (by omega) (by omega)
theorem x_months1 {dp : Int32} (hs : (S0 45 1).toInt ≤ 260) (h : x_C L xs (d + 1) R S0 m_X5_readMonth dp) (m0 : Nat) (hq : ∀ (m' : Nat) (a' e' f' : Int32) (l' : Nat → Int32), m0 ≤ m' → m' ≤ 49 → Q none (u_S S0 m' a' e' f' l') R) : ∀ (c k : Nat) (mo : Nat) (ta te tf : Int32) (le : Nat → Int32), k + c = 60 → m0 ≤ mo → mo ≤ 49 → w_T L xs (d + 2) m_X5_readMonths 2 [(2, .int (Int32.ofInt (k : Int))), (0, .ref 67), (1, .int dp)] [] (u_S S0 mo ta te tf le) R Q := by
  have e60 : (Int32.ofInt 60).toInt = 60 := by decide
  intro c
  induction c with
  | zero =>
    intro k mo ta te tf le hk h0 hm
    have ek := w_nat (k := k) (by omega)
    refine w_st rfl (fun _ => rfl) ?_
    refine w_st rfl (fun _ => rfl) ?_
    show w_T L xs (d + 2) m_X5_readMonths 5 [(2, .int (Int32.ofInt (k : Int))), (0, .ref 67), (1, .int dp)] [.int (Int32.ofInt 60), .int (Int32.ofInt (k : Int))] (u_S S0 mo ta te tf le) R Q
    refine w_br (P := (Int32.ofInt 60) ≤ (Int32.ofInt (k : Int))) rfl (fun _ => rfl) (fun h5 => ?_) (fun h5 => ?_)
    · refine w_ret rfl rfl ?_
      exact hq _ _ _ _ _ (by omega) (by omega)
    · exfalso; rw [q_le32, e60, ek] at h5; omega
  | succ c ih =>
    intro k mo ta te tf le hk h0 hm
    have ek := w_nat (k := k) (by omega)
    refine w_st rfl (fun _ => rfl) ?_
    refine w_st rfl (fun _ => rfl) ?_
    show w_T L xs (d + 2) m_X5_readMonths 5 [(2, .int (Int32.ofInt (k : Int))), (0, .ref 67), (1, .int dp)] [.int (Int32.ofInt 60), .int (Int32.ofInt (k : Int))] (u_S S0 mo ta te tf le) R Q
    refine w_br (P := (Int32.ofInt 60) ≤ (Int32.ofInt (k : Int))) rfl (fun _ => rfl) (fun h5 => ?_) (fun h5 => ?_)
    · exfalso; rw [q_le32, e60, ek] at h5; omega
    · refine w_st rfl (fun _ => rfl) ?_
      refine w_st rfl (fun _ => rfl) ?_
      show w_T L xs (d + 2) m_X5_readMonths 10 [(2, .int (Int32.ofInt (k : Int))), (0, .ref 67), (1, .int dp)] [.int dp, .ref 67] (u_S S0 mo ta te tf le) R Q
      refine w_cv rfl (by decide) mt_X5_readMonth rfl rfl rfl rfl (Nat.le_of_ble_eq_true rfl) (Nat.le_of_ble_eq_true rfl) (Nat.le_of_ble_eq_true rfl) ?_
      show w_T L xs _ m_X5_readMonth 0 (lv_args 0 [.ref 67, .int dp]) [] (u_S S0 mo ta te tf le) R _
      refine h _ _ _ _ _ _ hm (fun m1 a1 e1 f1 l1 y1 y2 => ?_)
      refine w_st rfl (fun _ => rfl) ?_
      show w_T L xs (d + 2) m_X5_readMonths 14 [(2, .int (Int32.ofInt (k : Int))), (0, .ref 67), (1, .int dp)] [.ref 67] (u_S S0 m1 a1 e1 f1 l1) R Q
      refine w_get rfl rfl rfl ?_
      refine w_st rfl (fun _ => rfl) ?_
      show w_T L xs (d + 2) m_X5_readMonths 18 [(2, .int (Int32.ofInt (k : Int))), (0, .ref 67), (1, .int dp)] [.ref 67, .int a1] (u_S S0 m1 a1 e1 f1 l1) R Q
      refine w_get rfl rfl rfl ?_
      show w_T L xs (d + 2) m_X5_readMonths 21 [(2, .int (Int32.ofInt (k : Int))), (0, .ref 67), (1, .int dp)] [.int e1, .int a1] (u_S S0 m1 a1 e1 f1 l1) R Q
      refine w_br (P := e1 ≤ a1) rfl (fun _ => rfl) (fun h21 => ?_) (fun h21 => ?_)
      · refine w_ret rfl rfl ?_
        exact hq _ _ _ _ _ (by omega) (by omega)
      · refine w_st rfl (fun _ => rfl) ?_
        show w_T L xs (d + 2) m_X5_readMonths 25 [(2, .int (Int32.ofInt (k : Int))), (0, .ref 67), (1, .int dp)] [.ref 67] (u_S S0 m1 a1 e1 f1 l1) R Q
        refine w_cv rfl (by decide) mt_X5_here rfl rfl rfl rfl (Nat.le_of_ble_eq_true rfl) (Nat.le_of_ble_eq_true rfl) (Nat.le_of_ble_eq_true rfl) ?_
        show w_T L xs _ m_X5_here 0 (lv_args 0 [.ref 67]) [] (u_S S0 m1 a1 e1 f1 l1) R _
        refine x_here (d := d) hs ?_
        refine w_st rfl (fun _ => rfl) ?_
        show w_T L xs (d + 2) m_X5_readMonths 30 [(2, .int (Int32.ofInt (k : Int))), (0, .ref 67), (1, .int dp)] [.int (Int32.ofInt 41), .int (x_h S0 a1 e1)] (u_S S0 m1 a1 e1 f1 l1) R Q
        refine w_br (P := ¬ (x_h S0 a1 e1) = (Int32.ofInt 41)) rfl (fun _ => rfl) (fun h30 => ?_) (fun h30 => ?_)
        · refine w_st rfl (fun _ => rfl) ?_
          refine w_st rfl (fun _ => rfl) ?_
          show w_T L xs (d + 2) m_X5_readMonths 2 [(2, .int ((Int32.ofInt (k : Int)) + (Int32.ofInt 1))), (0, .ref 67), (1, .int dp)] [] (u_S S0 m1 a1 e1 f1 l1) R Q
          rw [w_inc]
          exact ih (k + 1) _ _ _ _ _ (by omega) (by omega) (by omega)
        · refine w_ret rfl rfl ?_
          exact hq _ _ _ _ _ (by omega) (by omega)
theorem x_months {dp : Int32} (hs : (S0 45 1).toInt ≤ 260) (h : x_C L xs (d + 1) R S0 m_X5_readMonth dp) : x_C L xs (d + 2) R S0 m_X5_readMonths dp := by
  intro mo ta te tf le Q hm hq
  refine w_st rfl (fun _ => rfl) ?_
  refine w_st rfl (fun _ => rfl) ?_
  show w_T L xs (d + 2) m_X5_readMonths 2 [(2, .int (Int32.ofInt 0)), (0, .ref 67), (1, .int dp)] [] (u_S S0 mo ta te tf le) R Q
  exact x_months1 hs h mo hq 60 0 mo ta te tf le rfl (Nat.le_refl _) hm
end UH
