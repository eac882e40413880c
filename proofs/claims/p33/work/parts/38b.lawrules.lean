/-! the law: rules for the script, exact answers, the loop -/
def v_fsC : List v_Ft := [.inr (.inl 46), .inr (.inl 67), .inr (.inl 33), .inr (.inl 51), .inr (.inl 76), .inr (.inl 77), .inr (.inl 87), .inr (.inl 95), .inr (.inl 48), .inr (.inl 2), .inr (.inl 12), .inr (.inl 22), .inr (.inl 32), .inl ((-2147483648), 2147483647), .inl (0, 1)]
theorem v_tyC : v_ty 0 = some (.inr (.inr (11, v_fsC))) := rfl
section WS
variable {L : Nat} {xs : Nat → Int32} {d : Nat} {M : g_M} {pc : Nat} {lc : g_Lc} {S : v_Sf} {R : v_Rf} {Q : Option Value → v_Sf → v_Rf → Prop}
theorem w_sal {len x y : Nat} {z : Int} {t : List Value} (hen : M.2.2.2.2.2 pc = some ((.arraylength, len), x, y, z)) (k : w_T L xs d M (pc + len) lc (.int (Int32.ofNat L) :: t) S R Q) : w_T L xs d M pc lc (.ref 0 :: t) S R Q := w_one hen (g_st_hp (en := ((.arraylength, len), x, y, z)) rfl rfl rfl (q := (.int (Int32.ofNat L) :: t, v_mk v_ty S R)) rfl) k
theorem w_sld {len x y : Nat} {z : Int} {t : List Value} {i : Int32} (hen : M.2.2.2.2.2 pc = some ((.iaload, len), x, y, z)) (h1 : 0 ≤ i.toInt) (h2 : i.toInt < (L : Int)) (k : w_T L xs d M (pc + len) lc (.int (xs i.toInt.toNat) :: t) S R Q) : w_T L xs d M pc lc (.int i :: .ref 0 :: t) S R Q := by
  obtain ⟨o1, o2⟩ := q_in32 h1 h2
  refine w_one hen (g_st_hp (en := ((.iaload, len), x, y, z)) rfl rfl rfl (q := (.int (xs i.toInt.toNat) :: t, v_mk v_ty S R)) ?_) k
  simp only [g_hp, g_ia, o1, cond_false, o2]
theorem w_ts {df lo hi : Int} {offs : Array Int} {len x y : Nat} {z : Int} {t : List Value} {v : Int32} (hen : M.2.2.2.2.2 pc = some ((.tableswitch df lo hi offs, len), x, y, z)) (hhi : hi = lo + (offs.toList.length : Int) - 1) {nd : Nat} (hnd : (pc : Int) + df = (nd : Int)) (kc : ∀ (k : Nat) (o : Int), offs.toList[k]? = some o → v.toInt = lo + (k : Int) → ∃ n : Nat, (pc : Int) + o = (n : Int) ∧ w_T L xs d M n lc t S R Q) (kd : w_T L xs d M nd lc t S R Q) : w_T L xs d M pc lc (.int v :: t) S R Q := by
  have tg : ∀ (o : Int) (n : Nat), (pc : Int) + o = (n : Int) → ∀ rr, g_tg pc (some o) rr = some (n, rr) := by
    intro o n ho rr
    unfold g_tg
    dsimp only
    rw [ho]
  by_cases hc : v.toInt < lo ∨ hi < v.toInt
  · refine w_one hen (g_st_jmp (en := ((.tableswitch df lo hi offs, len), x, y, z)) rfl rfl (q := (nd, t)) ?_) kd
    simp only [g_jmp, if_pos hc]
    exact tg df nd hnd t
  · have hl : (v.toInt - lo).toNat < offs.toList.length := by omega
    obtain ⟨n, hn, k⟩ := kc (v.toInt - lo).toNat offs.toList[(v.toInt - lo).toNat] (List.getElem?_eq_getElem hl) (by omega)
    refine w_one hen (g_st_jmp (en := ((.tableswitch df lo hi offs, len), x, y, z)) rfl rfl (q := (n, t)) ?_) k
    have g2 : offs[(v.toInt - lo).toNat]? = some offs.toList[(v.toInt - lo).toNat] := by rw [← Array.getElem?_toList, List.getElem?_eq_getElem hl]
    simp only [g_jmp, if_neg hc, g2]
    exact tg _ n hn t
end WS
theorem lg_n {a b : Int64} : lg_cmp a b < 0 ↔ a.toInt < b.toInt := by
  have e1 : a > b ↔ b.toInt < a.toInt := Int64.lt_iff_toInt_lt
  have e2 : a = b ↔ a.toInt = b.toInt := ⟨fun h => by rw [h], Int64.toInt_inj.mp⟩
  unfold lg_cmp
  by_cases h1 : a > b
  · rw [if_pos h1]
    rw [e1] at h1
    exact ⟨fun h => absurd h (by decide), fun h => by omega⟩
  · rw [if_neg h1]
    rw [e1] at h1
    by_cases h2 : a = b
    · rw [if_pos h2]
      rw [e2] at h2
      exact ⟨fun h => absurd h (by decide), fun h => by omega⟩
    · rw [if_neg h2]
      rw [e2] at h2
      exact ⟨fun _ => by omega, fun _ => by decide⟩
theorem lg_p {a b : Int64} : 0 < lg_cmp a b ↔ b.toInt < a.toInt := by
  have e1 : a > b ↔ b.toInt < a.toInt := Int64.lt_iff_toInt_lt
  unfold lg_cmp
  by_cases h1 : a > b
  · rw [if_pos h1]
    rw [e1] at h1
    exact ⟨fun _ => h1, fun _ => by decide⟩
  · rw [if_neg h1]
    rw [e1] at h1
    by_cases h2 : a = b
    · rw [if_pos h2]
      exact ⟨fun h => absurd h (by decide), fun h => absurd h h1⟩
    · rw [if_neg h2]
      exact ⟨fun h => absurd h (by decide), fun h => absurd h h1⟩
noncomputable abbrev m_X11_within : g_M := (g_cn 11, yX11_within, cX11_within, 2, (some .boolean), g_look2 ttX11_within)
set_option maxRecDepth 20000 in
theorem mt_X11_within : g_mt 147 = some m_X11_within := rfl
noncomputable abbrev m_X12_lies : g_M := (g_cn 12, yX12_lies, cX12_lies, 6, (some .boolean), g_look2 ttX12_lies)
set_option maxRecDepth 20000 in
theorem mt_X12_lies : g_mt 160 = some m_X12_lies := rfl
section HA
variable {L : Nat} {xs : Nat → Int32} {d : Nat} {S : v_Sf} {R : v_Rf} {Q : Option Value → v_Sf → v_Rf → Prop}
theorem h_within (x m : Int32) (hq : Q (some (.int (if 0 ≤ x.toInt ∧ x.toInt ≤ m.toInt then 1 else 0))) S R) : w_T L xs d m_X11_within 0 (lv_args 0 [.int x, .int m]) [] S R Q := by
  have z0 : (0 : Int32).toInt = 0 := rfl
  refine w_st rfl (fun _ => rfl) ?_
  show w_T L xs d m_X11_within 1 [(0, .int x), (1, .int m)] [.int x] S R Q
  refine w_br (P := x < 0) rfl (fun _ => rfl) (fun h1 => ?_) (fun h1 => ?_)
  · rw [if_neg (fun h => by rw [q_lt32] at h1; omega)] at hq
    refine w_st rfl (fun _ => rfl) ?_
    show w_T L xs d m_X11_within 14 [(0, .int x), (1, .int m)] [.int (Int32.ofInt 0)] S R Q
    refine w_ret rfl (by rfl) ?_
    exact hq
  · refine w_st rfl (fun _ => rfl) ?_
    refine w_st rfl (fun _ => rfl) ?_
    show w_T L xs d m_X11_within 6 [(0, .int x), (1, .int m)] [.int m, .int x] S R Q
    refine w_br (P := m < x) rfl (fun _ => rfl) (fun h6 => ?_) (fun h6 => ?_)
    · rw [if_neg (fun h => by rw [q_lt32] at h6; omega)] at hq
      refine w_st rfl (fun _ => rfl) ?_
      show w_T L xs d m_X11_within 14 [(0, .int x), (1, .int m)] [.int (Int32.ofInt 0)] S R Q
      refine w_ret rfl (by rfl) ?_
      exact hq
    · rw [if_pos (by rw [q_lt32] at h1 h6; omega)] at hq
      refine w_st rfl (fun _ => rfl) ?_
      refine w_st rfl (fun _ => rfl) ?_
      show w_T L xs d m_X11_within 14 [(0, .int x), (1, .int m)] [.int (Int32.ofInt 1)] S R Q
      refine w_ret rfl (by rfl) ?_
      exact hq
theorem h_lies (a b c : Int64) (hq : Q (some (.int (if b.toInt ≤ a.toInt ∧ a.toInt ≤ c.toInt then 1 else 0))) S R) : w_T L xs d m_X12_lies 0 (lv_args 0 [.long a, .long b, .long c]) [] S R Q := by
  refine w_st rfl (fun _ => rfl) ?_
  refine w_st rfl (fun _ => rfl) ?_
  refine w_st rfl (fun _ => rfl) ?_
  show w_T L xs d m_X12_lies 3 [(0, .long a), (2, .long b), (4, .long c)] [.int (lg_cmp a b)] S R Q
  refine w_br (P := (lg_cmp a b) < 0) rfl (fun _ => rfl) (fun h3 => ?_) (fun h3 => ?_)
  · rw [if_neg (fun h => by rw [lg_n] at h3; omega)] at hq
    refine w_st rfl (fun _ => rfl) ?_
    show w_T L xs d m_X12_lies 18 [(0, .long a), (2, .long b), (4, .long c)] [.int (Int32.ofInt 0)] S R Q
    refine w_ret rfl (by rfl) ?_
    exact hq
  · refine w_st rfl (fun _ => rfl) ?_
    refine w_st rfl (fun _ => rfl) ?_
    refine w_st rfl (fun _ => rfl) ?_
    show w_T L xs d m_X12_lies 10 [(0, .long a), (2, .long b), (4, .long c)] [.int (lg_cmp a c)] S R Q
    refine w_br (P := 0 < (lg_cmp a c)) rfl (fun _ => rfl) (fun h10 => ?_) (fun h10 => ?_)
    · rw [if_neg (fun h => by rw [lg_p] at h10; omega)] at hq
      refine w_st rfl (fun _ => rfl) ?_
      show w_T L xs d m_X12_lies 18 [(0, .long a), (2, .long b), (4, .long c)] [.int (Int32.ofInt 0)] S R Q
      refine w_ret rfl (by rfl) ?_
      exact hq
    · rw [if_pos (by rw [lg_n] at h3; rw [lg_p] at h10; omega)] at hq
      refine w_st rfl (fun _ => rfl) ?_
      refine w_st rfl (fun _ => rfl) ?_
      show w_T L xs d m_X12_lies 18 [(0, .long a), (2, .long b), (4, .long c)] [.int (Int32.ofInt 1)] S R Q
      refine w_ret rfl (by rfl) ?_
      exact hq
end HA
