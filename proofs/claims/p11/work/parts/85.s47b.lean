/-! each call of the law, both objects alike (by gen47b.py) -/
noncomputable abbrev m_X12_wardIs : g_M := (g_cn 12, yX12_wardIs, cX12_wardIs, 3, (some .int), g_look2 ttX12_wardIs)
set_option maxRecDepth 20000 in
theorem mt_X12_wardIs : g_mt 246 = some m_X12_wardIs := rfl
noncomputable abbrev m_X12_taught : g_M := (g_cn 12, yX12_taught, cX12_taught, 4, (some .int), g_look2 ttX12_taught)
set_option maxRecDepth 20000 in
theorem mt_X12_taught : g_mt 271 = some m_X12_taught := rfl
noncomputable abbrev m_X12_placed : g_M := (g_cn 12, yX12_placed, cX12_placed, 4, (some .int), g_look2 ttX12_placed)
set_option maxRecDepth 20000 in
theorem mt_X12_placed : g_mt 278 = some m_X12_placed := rfl
noncomputable abbrev m_X11_round : g_M := (g_cn 11, yX11_round, cX11_round, 4, (some .int), g_look2 ttX11_round)
set_option maxRecDepth 20000 in
theorem mt_X11_round : g_mt 143 = some m_X11_round := rfl
theorem z_32 {m : List (Nat × Nat × Nat)} (h : m.all (fun t => !(Nat.beq t.1 32)) = true) (t : Nat × Nat × Nat) (ht : t ∈ m) : t.1 ≠ 32 := by
  have h1 := List.all_eq_true.mp h t ht
  intro q
  rw [q] at h1
  exact absurd h1 (by decide)
theorem z_md_K {m : List (Nat × Nat × Nat)} (h : m.all (fun t => !(Nat.beq t.1 32) && (!(Nat.beq t.1 50) && !(Nat.beq t.1 66 && Nat.ble t.2.1 1))) = true) {a j : Nat} (q : a = 32 ∨ a = 50 ∨ a = 66 ∧ j = 1) : v_md m a j j = false := z_md_no (fun t ht r => by
  have h1 := List.all_eq_true.mp h t ht
  simp only [Bool.and_eq_true, Bool.not_eq_true', Bool.and_eq_false_iff] at h1
  obtain ⟨h2, h3, h4⟩ := h1
  have b1 : t.1 ≠ 32 := fun e => by rw [e] at h2; exact absurd h2 (by decide)
  have b2 : t.1 ≠ 50 := fun e => by rw [e] at h3; exact absurd h3 (by decide)
  rcases h4 with h4 | h4
  · have b3 : t.1 ≠ 66 := fun e => by rw [e] at h4; exact absurd h4 (by decide)
    omega
  · have b4 : ¬ t.2.1 ≤ 1 := fun e => by
      have := Nat.ble_eq_true_of_le e
      rw [this] at h4
      cases h4
    omega)
theorem z_urs {R : v_Rf} {a i v : Nat} : v_urr R a i v a i = some v := by simp [v_urr]
theorem z_urn {R : v_Rf} {a i v b j : Nat} (h : ¬ (b = a ∧ j = i)) : v_urr R a i v b j = R b j := by simp [v_urr, h]
section CA
variable {L : Nat} {xs : Nat → Int32} {S : v_Sf} {R : v_Rf} {Q : Option Value → v_Sf → v_Rf → Prop}
theorem b_X11_gust (v1 v2 v3 v4 v5 : Int32) (hT : v_Tb v_ty S R) (hO : v_Op S) (hK : z_K S R) (hq : ∀ S' R', v_Tb v_ty S' R' → v_Op S' → z_P S' R' (g_X12_gust v1 v2 v3 v4 v5 S') → Q (some (.int (f_X12_gust v1 v2 v3 v4 v5 S'))) S' R') : w_T L xs 59 m_X11_gust 0 (lv_args 0 [.ref 1, .int v1, .int v2, .int v3, .int v4, .int v5]) [] S R Q := by
  obtain ⟨c, b, e, hr, hR⟩ := hK
  obtain ⟨hc, hb, he, hn, hL, hB, hE, hW⟩ := id hr
  refine z_use (v_met 60 111 rw_138 (List.mem_of_getElem? (i := 0) rfl) (Nat.le_of_ble_eq_true rfl)) (Nat.le_of_ble_eq_true rfl) mt_X11_gust ⟨rfl, ⟨_, rfl, (q_rng _).1, (q_rng _).2⟩, ⟨_, rfl, (q_rng _).1, (q_rng _).2⟩, ⟨_, rfl, (q_rng _).1, (q_rng _).2⟩, ⟨_, rfl, (q_rng _).1, (q_rng _).2⟩, ⟨_, rfl, (q_rng _).1, (q_rng _).2⟩, trivial⟩ hT hO (fun n d => c_X11_gust L xs n d v1 v2 v3 v4 v5 S R) (fun r S1 R1 S2 R2 hT1 hO1 hr1 hF ee q => ?_)
  have hS1 := z_K_T hc hb hR hF rfl
  obtain ⟨v, hv, hRR, hf, hg⟩ := q
  obtain ⟨k1, k2⟩ : _ ∧ _ := z_gust_ok hc hb hS1 v1 v2 v3 v4 v5
  rw [hg] at k2
  rw [← hv, ← hf, k1]
  exact hq S1 R1 hT1 hO1 (z_K_c (z_Kr_f hr (fun a j q => (hF a j (z_md_K rfl q)).2)) ee k2)
theorem b_X11_name (v1 v2 : Int32) (hT : v_Tb v_ty S R) (hO : v_Op S) (hK : z_K S R) (hq : ∀ S' R', v_Tb v_ty S' R' → v_Op S' → z_P S' R' (g_X12_name v1 v2 S') → Q (some (.int (f_X12_name v1 v2 S'))) S' R') : w_T L xs 59 m_X11_name 0 (lv_args 0 [.ref 1, .int v1, .int v2]) [] S R Q := by
  obtain ⟨c, b, e, hr, hR⟩ := hK
  obtain ⟨hc, hb, he, hn, hL, hB, hE, hW⟩ := id hr
  refine z_use (v_met 60 112 rw_139 (List.mem_of_getElem? (i := 0) rfl) (Nat.le_of_ble_eq_true rfl)) (Nat.le_of_ble_eq_true rfl) mt_X11_name ⟨rfl, ⟨_, rfl, (q_rng _).1, (q_rng _).2⟩, ⟨_, rfl, (q_rng _).1, (q_rng _).2⟩, trivial⟩ hT hO (fun n d => c_X11_name L xs n d v1 v2 S R) (fun r S1 R1 S2 R2 hT1 hO1 hr1 hF ee q => ?_)
  have hS1 := z_K_T hc hb hR hF rfl
  obtain ⟨v, hv, hRR, hf, hg⟩ := q
  obtain ⟨k1, k2⟩ : _ ∧ _ := z_name_ok hc hb hS1 v1 v2
  rw [hg] at k2
  rw [← hv, ← hf, k1]
  exact hq S1 R1 hT1 hO1 (z_K_c (z_Kr_f hr (fun a j q => (hF a j (z_md_K rfl q)).2)) ee k2)
theorem b_X11_moves (v1 v2 : Int32) (hT : v_Tb v_ty S R) (hO : v_Op S) (hK : z_K S R) (hq : ∀ S' R', v_Tb v_ty S' R' → v_Op S' → z_P S' R' (g_X12_moves v1 v2 S') → Q (some (.int (f_X12_moves v1 v2 S'))) S' R') : w_T L xs 59 m_X11_moves 0 (lv_args 0 [.ref 1, .int v1, .int v2]) [] S R Q := by
  obtain ⟨c, b, e, hr, hR⟩ := hK
  obtain ⟨hc, hb, he, hn, hL, hB, hE, hW⟩ := id hr
  refine z_use (v_met 60 113 rw_140 (List.mem_of_getElem? (i := 0) rfl) (Nat.le_of_ble_eq_true rfl)) (Nat.le_of_ble_eq_true rfl) mt_X11_moves ⟨rfl, ⟨_, rfl, (q_rng _).1, (q_rng _).2⟩, ⟨_, rfl, (q_rng _).1, (q_rng _).2⟩, trivial⟩ hT hO (fun n d => c_X11_moves L xs n d hW v1 v2 S) (fun r S1 R1 S2 R2 hT1 hO1 hr1 hF ee q => ?_)
  have hS1 := z_K_T hc hb hR hF rfl
  obtain ⟨v, hv, hRR, hf, hg⟩ := q
  obtain ⟨k1, k2⟩ : _ ∧ _ := z_moves_ok hc hb hS1 v1 v2
  rw [hg] at k2
  rw [← hv, ← hf, k1]
  exact hq S1 R1 hT1 hO1 (z_K_c (z_Kr_f hr (fun a j q => (hF a j (z_md_K rfl q)).2)) ee k2)
theorem b_X11_habit (v1 v2 v3 : Int32) (v31 : 0 ≤ v3.toInt) (v32 : v3.toInt ≤ 1) (hT : v_Tb v_ty S R) (hO : v_Op S) (hK : z_K S R) (hq : ∀ S' R', v_Tb v_ty S' R' → v_Op S' → z_P S' R' (g_X12_habit v1 v2 v3 S') → Q (some (.int (f_X12_habit v1 v2 v3 S'))) S' R') : w_T L xs 59 m_X11_habit 0 (lv_args 0 [.ref 1, .int v1, .int v2, .int v3]) [] S R Q := by
  obtain ⟨c, b, e, hr, hR⟩ := hK
  obtain ⟨hc, hb, he, hn, hL, hB, hE, hW⟩ := id hr
  refine z_use (v_met 60 114 rw_141 (List.mem_of_getElem? (i := 0) rfl) (Nat.le_of_ble_eq_true rfl)) (Nat.le_of_ble_eq_true rfl) mt_X11_habit ⟨rfl, ⟨_, rfl, (q_rng _).1, (q_rng _).2⟩, ⟨_, rfl, (q_rng _).1, (q_rng _).2⟩, ⟨_, rfl, v31, v32⟩, trivial⟩ hT hO (fun n d => c_X11_habit L xs n d v1 v2 v3 S R) (fun r S1 R1 S2 R2 hT1 hO1 hr1 hF ee q => ?_)
  have hS1 := z_K_T hc hb hR hF rfl
  obtain ⟨v, hv, hRR, hf, hg⟩ := q
  obtain ⟨k1, k2⟩ : _ ∧ _ := z_habit_ok hc hb hS1 v1 v2 v3
  rw [hg] at k2
  rw [← hv, ← hf, k1]
  exact hq S1 R1 hT1 hO1 (z_K_c (z_Kr_f hr (fun a j q => (hF a j (z_md_K rfl q)).2)) ee k2)
theorem b_X11_ward (v1 v2 v3 v4 : Int32) (hT : v_Tb v_ty S R) (hO : v_Op S) (hK : z_K S R) (hq : ∀ S' R', v_Tb v_ty S' R' → v_Op S' → z_P S' R' (g_X12_ward v1 v2 v3 v4 S') → Q (some (.int (f_X12_ward v1 v2 v3 v4 S'))) S' R') : w_T L xs 59 m_X11_ward 0 (lv_args 0 [.ref 1, .int v1, .int v2, .int v3, .int v4]) [] S R Q := by
  obtain ⟨c, b, e, hr, hR⟩ := hK
  obtain ⟨hc, hb, he, hn, hL, hB, hE, hW⟩ := id hr
  refine z_use (v_met 60 115 rw_142 (List.mem_of_getElem? (i := 0) rfl) (Nat.le_of_ble_eq_true rfl)) (Nat.le_of_ble_eq_true rfl) mt_X11_ward ⟨rfl, ⟨_, rfl, (q_rng _).1, (q_rng _).2⟩, ⟨_, rfl, (q_rng _).1, (q_rng _).2⟩, ⟨_, rfl, (q_rng _).1, (q_rng _).2⟩, ⟨_, rfl, (q_rng _).1, (q_rng _).2⟩, trivial⟩ hT hO (fun n d => c_X11_ward L xs n d hW v1 v2 v3 v4 S) (fun r S1 R1 S2 R2 hT1 hO1 hr1 hF ee q => ?_)
  have hS1 := z_K_T hc hb hR hF rfl
  obtain ⟨v, hv, hRR, hf, hg⟩ := q
  obtain ⟨k1, k2⟩ : _ ∧ _ := z_ward_ok hc hb hS1 v1 v2 v3 v4
  rw [hg] at k2
  rw [← hv, ← hf, k1]
  exact hq S1 R1 hT1 hO1 (z_K_c (z_Kr_f hr (fun a j q => (hF a j (z_md_K rfl q)).2)) ee k2)
theorem b_X11_nurse (v1 v2 : Int32) (hT : v_Tb v_ty S R) (hO : v_Op S) (hK : z_K S R) (hq : ∀ S' R', v_Tb v_ty S' R' → v_Op S' → z_P S' R' (g_X12_nurse v1 v2 S') → Q (some (.int (f_X12_nurse v1 v2 S'))) S' R') : w_T L xs 59 m_X11_nurse 0 (lv_args 0 [.ref 1, .int v1, .int v2]) [] S R Q := by
  obtain ⟨c, b, e, hr, hR⟩ := hK
  obtain ⟨hc, hb, he, hn, hL, hB, hE, hW⟩ := id hr
  refine z_use (v_met 60 116 rw_143 (List.mem_of_getElem? (i := 0) rfl) (Nat.le_of_ble_eq_true rfl)) (Nat.le_of_ble_eq_true rfl) mt_X11_nurse ⟨rfl, ⟨_, rfl, (q_rng _).1, (q_rng _).2⟩, ⟨_, rfl, (q_rng _).1, (q_rng _).2⟩, trivial⟩ hT hO (fun n d => c_X11_nurse L xs n d v1 v2 S R) (fun r S1 R1 S2 R2 hT1 hO1 hr1 hF ee q => ?_)
  have hS1 := z_K_T hc hb hR hF rfl
  obtain ⟨v, hv, hRR, hf, hg⟩ := q
  obtain ⟨k1, k2⟩ : _ ∧ _ := z_nurse_ok hc hb hS1 v1 v2
  rw [hg] at k2
  rw [← hv, ← hf, k1]
  exact hq S1 R1 hT1 hO1 (z_K_c (z_Kr_f hr (fun a j q => (hF a j (z_md_K rfl q)).2)) ee k2)
theorem b_X11_needs (v1 v2 : Int32) (hT : v_Tb v_ty S R) (hO : v_Op S) (hK : z_K S R) (hq : ∀ S' R', v_Tb v_ty S' R' → v_Op S' → z_P S' R' (g_X12_needs v1 v2 S') → Q (some (.int (f_X12_needs v1 v2 S'))) S' R') : w_T L xs 59 m_X11_needs 0 (lv_args 0 [.ref 1, .int v1, .int v2]) [] S R Q := by
  obtain ⟨c, b, e, hr, hR⟩ := hK
  obtain ⟨hc, hb, he, hn, hL, hB, hE, hW⟩ := id hr
  refine z_use (v_met 60 117 rw_144 (List.mem_of_getElem? (i := 0) rfl) (Nat.le_of_ble_eq_true rfl)) (Nat.le_of_ble_eq_true rfl) mt_X11_needs ⟨rfl, ⟨_, rfl, (q_rng _).1, (q_rng _).2⟩, ⟨_, rfl, (q_rng _).1, (q_rng _).2⟩, trivial⟩ hT hO (fun n d => c_X11_needs L xs n d v1 v2 S R) (fun r S1 R1 S2 R2 hT1 hO1 hr1 hF ee q => ?_)
  have hS1 := z_K_T hc hb hR hF rfl
  obtain ⟨v, hv, hRR, hf, hg⟩ := q
  obtain ⟨k1, k2⟩ : _ ∧ _ := z_needs_ok hc hb hS1 v1 v2
  rw [hg] at k2
  rw [← hv, ← hf, k1]
  exact hq S1 R1 hT1 hO1 (z_K_c (z_Kr_f hr (fun a j q => (hF a j (z_md_K rfl q)).2)) ee k2)
theorem b_X11_feed (v1 v2 v3 v4 v5 : Int32) (hT : v_Tb v_ty S R) (hO : v_Op S) (hK : z_K S R) (hq : ∀ S' R', v_Tb v_ty S' R' → v_Op S' → z_P S' R' (g_X12_feed v1 v2 v3 v4 v5 S') → Q (some (.int (f_X12_feed v1 v2 v3 v4 v5 S'))) S' R') : w_T L xs 59 m_X11_feed 0 (lv_args 0 [.ref 1, .int v1, .int v2, .int v3, .int v4, .int v5]) [] S R Q := by
  obtain ⟨c, b, e, hr, hR⟩ := hK
  obtain ⟨hc, hb, he, hn, hL, hB, hE, hW⟩ := id hr
  refine z_use (v_met 60 122 rw_149 (List.mem_of_getElem? (i := 0) rfl) (Nat.le_of_ble_eq_true rfl)) (Nat.le_of_ble_eq_true rfl) mt_X11_feed ⟨rfl, ⟨_, rfl, (q_rng _).1, (q_rng _).2⟩, ⟨_, rfl, (q_rng _).1, (q_rng _).2⟩, ⟨_, rfl, (q_rng _).1, (q_rng _).2⟩, ⟨_, rfl, (q_rng _).1, (q_rng _).2⟩, ⟨_, rfl, (q_rng _).1, (q_rng _).2⟩, trivial⟩ hT hO (fun n d => c_X11_feed L xs n d v1 v2 v3 v4 v5 S R) (fun r S1 R1 S2 R2 hT1 hO1 hr1 hF ee q => ?_)
  have hS1 := z_K_T hc hb hR hF rfl
  obtain ⟨v, hv, hRR, hf, hg⟩ := q
  obtain ⟨k1, k2⟩ : _ ∧ _ := z_feed_ok hc hb hS1 v1 v2 v3 v4 v5
  rw [hg] at k2
  rw [← hv, ← hf, k1]
  exact hq S1 R1 hT1 hO1 (z_K_c (z_Kr_f hr (fun a j q => (hF a j (z_md_K rfl q)).2)) ee k2)
theorem b_X11_law (v1 : Int32) (hT : v_Tb v_ty S R) (hO : v_Op S) (hK : z_K S R) (hq : ∀ S' R', v_Tb v_ty S' R' → v_Op S' → z_P S' R' (g_X12_law v1 S') → Q (some (.int (f_X12_law v1 S'))) S' R') : w_T L xs 59 m_X11_law 0 (lv_args 0 [.ref 1, .int v1]) [] S R Q := by
  obtain ⟨c, b, e, hr, hR⟩ := hK
  obtain ⟨hc, hb, he, hn, hL, hB, hE, hW⟩ := id hr
  refine z_use (v_met 60 123 rw_150 (List.mem_of_getElem? (i := 0) rfl) (Nat.le_of_ble_eq_true rfl)) (Nat.le_of_ble_eq_true rfl) mt_X11_law ⟨rfl, ⟨_, rfl, (q_rng _).1, (q_rng _).2⟩, trivial⟩ hT hO (fun n d => c_X11_law L xs n d hL hc hE he v1 S) (fun r S1 R1 S2 R2 hT1 hO1 hr1 hF ee q => ?_)
  have hS1 := z_K_T hc hb hR hF rfl
  obtain ⟨v, hv, hRp, hRn, hf, hg⟩ := q
  obtain ⟨k1, k2, k3⟩ := z_law_rel hc hb he hn.2.1 hn.2.2 hS1 v1
  have r50 : ∀ j, (j = 2 ∨ j = 3) → R1 50 j = R2 50 j := fun j q => by
    rcases q with rfl | rfl
    · exact z_mk_r ee rfl rfl
    · exact z_mk_r ee rfl rfl
  have r66 : R1 66 1 = R2 66 1 := z_mk_r ee rfl rfl
  have r32 : ∀ j, R1 32 j = R 32 j := fun j => (hF 32 j (z_md_no (fun t ht q => z_32 rfl t ht q.1))).2
  rw [← hv, ← hf, k1]
  refine hq S1 R1 hT1 hO1 ?_
  rw [hf] at k2 k3
  rw [hg] at k2 k3
  by_cases qv : 0 < v
  · have hR2 := hRp qv
    have n0 : ¬ v ≤ 0 := fun m => by rw [z_ltI2] at qv; rw [z_leI2] at m; omega
    refine z_K_c (c1 := e) (b1 := b) (e1 := c) ⟨he, hb, hc, ⟨hn.2.2, fun m => hn.2.1 m.symm, hn.1⟩, ?_, ?_, ?_, fun i hi => (r32 i).trans (hW i hi)⟩ ee (k3 n0)
    · rw [r50 2 (by omega), ← hR2, z_urn (by omega), z_urs]
    · rw [r50 3 (by omega), ← hR2, z_urn (by omega), z_urn (by omega)]
      exact hB
    · rw [r66, ← hR2, z_urs]
  · have hR2 := hRn qv
    have n0 : v ≤ 0 := by rw [z_ltI2] at qv; rw [z_leI2]; omega
    refine z_K_c (c1 := c) (b1 := b) (e1 := e) ⟨hc, hb, he, hn, ?_, ?_, ?_, fun i hi => (r32 i).trans (hW i hi)⟩ ee (k2 n0)
    · rw [r50 2 (by omega), ← hR2]
      exact hL
    · rw [r50 3 (by omega), ← hR2]
      exact hB
    · rw [r66, ← hR2]
      exact hE
theorem b_X11_rules (v1 : Int32) (hT : v_Tb v_ty S R) (hO : v_Op S) (hK : z_K S R) (hq : ∀ S' R', v_Tb v_ty S' R' → v_Op S' → z_P S' R' (g_X12_rules v1 S') → Q (some (.int (f_X12_rules v1 S'))) S' R') : w_T L xs 59 m_X11_rules 0 (lv_args 0 [.ref 1, .int v1]) [] S R Q := by
  obtain ⟨c, b, e, hr, hR⟩ := hK
  obtain ⟨hc, hb, he, hn, hL, hB, hE, hW⟩ := id hr
  refine z_use (v_met 60 124 rw_151 (List.mem_of_getElem? (i := 0) rfl) (Nat.le_of_ble_eq_true rfl)) (Nat.le_of_ble_eq_true rfl) mt_X11_rules ⟨rfl, ⟨_, rfl, (q_rng _).1, (q_rng _).2⟩, trivial⟩ hT hO (fun n d => c_X11_rules L xs n d hB hb hE he v1 S) (fun r S1 R1 S2 R2 hT1 hO1 hr1 hF ee q => ?_)
  have hS1 := z_K_T hc hb hR hF rfl
  obtain ⟨v, hv, hRp, hRn, hf, hg⟩ := q
  obtain ⟨k1, k2, k3⟩ := z_rules_rel hc hb he hn.2.1 hn.2.2 hS1 v1
  have r50 : ∀ j, (j = 2 ∨ j = 3) → R1 50 j = R2 50 j := fun j q => by
    rcases q with rfl | rfl
    · exact z_mk_r ee rfl rfl
    · exact z_mk_r ee rfl rfl
  have r66 : R1 66 1 = R2 66 1 := z_mk_r ee rfl rfl
  have r32 : ∀ j, R1 32 j = R 32 j := fun j => (hF 32 j (z_md_no (fun t ht q => z_32 rfl t ht q.1))).2
  rw [← hv, ← hf, k1]
  refine hq S1 R1 hT1 hO1 ?_
  rw [hf] at k2 k3
  rw [hg] at k2 k3
  by_cases qv : 0 < v
  · have hR2 := hRp qv
    have n0 : ¬ v ≤ 0 := fun m => by rw [z_ltI2] at qv; rw [z_leI2] at m; omega
    refine z_K_c (c1 := c) (b1 := e) (e1 := b) ⟨hc, he, hb, ⟨fun m => hn.2.1 m.symm, fun m => hn.1 m.symm, fun m => hn.2.2 m.symm⟩, ?_, ?_, ?_, fun i hi => (r32 i).trans (hW i hi)⟩ ee (k3 n0)
    · rw [r50 2 (by omega), ← hR2, z_urn (by omega), z_urn (by omega)]
      exact hL
    · rw [r50 3 (by omega), ← hR2, z_urn (by omega), z_urs]
    · rw [r66, ← hR2, z_urs]
  · have hR2 := hRn qv
    have n0 : v ≤ 0 := by rw [z_ltI2] at qv; rw [z_leI2]; omega
    refine z_K_c (c1 := c) (b1 := b) (e1 := e) ⟨hc, hb, he, hn, ?_, ?_, ?_, fun i hi => (r32 i).trans (hW i hi)⟩ ee (k2 n0)
    · rw [r50 2 (by omega), ← hR2]
      exact hL
    · rw [r50 3 (by omega), ← hR2]
      exact hB
    · rw [r66, ← hR2]
      exact hE
theorem b_X11_timetable (v1 v2 : Int32) (hT : v_Tb v_ty S R) (hO : v_Op S) (hK : z_K S R) (hq : ∀ S' R', v_Tb v_ty S' R' → v_Op S' → z_P S' R' (g_X12_timetable v1 v2 S') → Q (some (.int (f_X12_timetable v1 v2 S'))) S' R') : w_T L xs 59 m_X11_timetable 0 (lv_args 0 [.ref 1, .int v1, .int v2]) [] S R Q := by
  obtain ⟨c, b, e, hr, hR⟩ := hK
  obtain ⟨hc, hb, he, hn, hL, hB, hE, hW⟩ := id hr
  refine z_use (v_met 60 125 rw_152 (List.mem_of_getElem? (i := 0) rfl) (Nat.le_of_ble_eq_true rfl)) (Nat.le_of_ble_eq_true rfl) mt_X11_timetable ⟨rfl, ⟨_, rfl, (q_rng _).1, (q_rng _).2⟩, ⟨_, rfl, (q_rng _).1, (q_rng _).2⟩, trivial⟩ hT hO (fun n d => c_X11_timetable L xs n d hW hE he v1 v2 S) (fun r S1 R1 S2 R2 hT1 hO1 hr1 hF ee q => ?_)
  have hS1 := z_K_T hc hb hR hF rfl
  obtain ⟨v, hv, hRR, hf, hg⟩ := q
  obtain ⟨k1, k2⟩ : _ ∧ _ := z_tt_rel hc hb he hn.2.1 hn.2.2 hS1 v1 v2
  rw [hg] at k2
  rw [← hv, ← hf, k1]
  exact hq S1 R1 hT1 hO1 (z_K_c (z_Kr_f hr (fun a j q => (hF a j (z_md_K rfl q)).2)) ee k2)
theorem b_X11_months (v1 : Int32) (hT : v_Tb v_ty S R) (hO : v_Op S) (hK : z_K S R) (hq : ∀ S' R', v_Tb v_ty S' R' → v_Op S' → z_P S' R' (g_X12_months v1 S') → Q (some (.int (f_X12_months v1 S'))) S' R') : w_T L xs 59 m_X11_months 0 (lv_args 0 [.ref 1, .int v1]) [] S R Q := by
  obtain ⟨c, b, e, hr, hR⟩ := hK
  obtain ⟨hc, hb, he, hn, hL, hB, hE, hW⟩ := id hr
  refine z_use (v_met 60 126 rw_153 (List.mem_of_getElem? (i := 0) rfl) (Nat.le_of_ble_eq_true rfl)) (Nat.le_of_ble_eq_true rfl) mt_X11_months ⟨rfl, ⟨_, rfl, (q_rng _).1, (q_rng _).2⟩, trivial⟩ hT hO (fun n d => c_X11_months L xs n d hW hL hc hB hb v1 S) (fun r S1 R1 S2 R2 hT1 hO1 hr1 hF ee q => ?_)
  have hS1 := z_K_T hc hb hR hF rfl
  obtain ⟨v, hv, hRR, hf, hg⟩ := q
  obtain ⟨k1, k2⟩ : _ ∧ _ := z_mons_rel hc hb hS1 v1
  rw [hg] at k2
  rw [← hv, ← hf, k1]
  exact hq S1 R1 hT1 hO1 (z_K_c (z_Kr_f hr (fun a j q => (hF a j (z_md_K rfl q)).2)) ee k2)
theorem b_X11_gustIs (v1 v2 : Int32) (hT : v_Tb v_ty S R) (hO : v_Op S) (hK : z_K S R) (hq : ∀ S' R', v_Tb v_ty S' R' → v_Op S' → z_P S' R' S' → Q (some (.int (f_X12_gustIs v1 v2 S'))) S' R') : w_T L xs 59 m_X11_gustIs 0 (lv_args 0 [.ref 1, .int v1, .int v2]) [] S R Q := by
  obtain ⟨c, b, e, hr, hR⟩ := hK
  obtain ⟨hc, hb, he, hn, hL, hB, hE, hW⟩ := id hr
  refine z_use (v_met 60 128 rw_155 (List.mem_of_getElem? (i := 0) rfl) (Nat.le_of_ble_eq_true rfl)) (Nat.le_of_ble_eq_true rfl) mt_X11_gustIs ⟨rfl, ⟨_, rfl, (q_rng _).1, (q_rng _).2⟩, ⟨_, rfl, (q_rng _).1, (q_rng _).2⟩, trivial⟩ hT hO (fun n d => c_X11_gustIs L xs n d v1 v2 S R) (fun r S1 R1 S2 R2 hT1 hO1 hr1 hF ee q => ?_)
  have hS1 := z_K_T hc hb hR hF rfl
  obtain ⟨v, hv, hRR, hf, hg⟩ := q
  have k1 := z_gustIs_ok hS1 v1 v2
  have k2 := hS1
  rw [hg] at k2
  rw [← hv, ← hf, k1]
  exact hq S1 R1 hT1 hO1 (z_K_c (z_Kr_f hr (fun a j q => (hF a j (z_md_K rfl q)).2)) ee k2)
theorem b_X11_nurseIs (v1 v2 : Int32) (hT : v_Tb v_ty S R) (hO : v_Op S) (hK : z_K S R) (hq : ∀ S' R', v_Tb v_ty S' R' → v_Op S' → z_P S' R' S' → Q (some (.int (f_X12_nurseIs v1 v2 S'))) S' R') : w_T L xs 59 m_X11_nurseIs 0 (lv_args 0 [.ref 1, .int v1, .int v2]) [] S R Q := by
  obtain ⟨c, b, e, hr, hR⟩ := hK
  obtain ⟨hc, hb, he, hn, hL, hB, hE, hW⟩ := id hr
  refine z_use (v_met 60 130 rw_157 (List.mem_of_getElem? (i := 0) rfl) (Nat.le_of_ble_eq_true rfl)) (Nat.le_of_ble_eq_true rfl) mt_X11_nurseIs ⟨rfl, ⟨_, rfl, (q_rng _).1, (q_rng _).2⟩, ⟨_, rfl, (q_rng _).1, (q_rng _).2⟩, trivial⟩ hT hO (fun n d => c_X11_nurseIs L xs n d v1 v2 S R) (fun r S1 R1 S2 R2 hT1 hO1 hr1 hF ee q => ?_)
  have hS1 := z_K_T hc hb hR hF rfl
  obtain ⟨v, hv, hRR, hf, hg⟩ := q
  have k1 := z_nurseIs_ok hS1 v1 v2
  have k2 := hS1
  rw [hg] at k2
  rw [← hv, ← hf, k1]
  exact hq S1 R1 hT1 hO1 (z_K_c (z_Kr_f hr (fun a j q => (hF a j (z_md_K rfl q)).2)) ee k2)
theorem b_X11_wind (v1 v2 v3 : Int32) (hT : v_Tb v_ty S R) (hO : v_Op S) (hK : z_K S R) (hq : ∀ S' R', v_Tb v_ty S' R' → v_Op S' → z_P S' R' (g_X12_wind v1 v2 v3 S') → Q (some (.int (f_X12_wind v1 v2 v3 S'))) S' R') : w_T L xs 59 m_X11_wind 0 (lv_args 0 [.ref 1, .int v1, .int v2, .int v3]) [] S R Q := by
  obtain ⟨c, b, e, hr, hR⟩ := hK
  obtain ⟨hc, hb, he, hn, hL, hB, hE, hW⟩ := id hr
  refine z_use (v_met 60 118 rw_145 (List.mem_of_getElem? (i := 0) rfl) (Nat.le_of_ble_eq_true rfl)) (Nat.le_of_ble_eq_true rfl) mt_X11_wind ⟨rfl, ⟨_, rfl, (q_rng _).1, (q_rng _).2⟩, ⟨_, rfl, (q_rng _).1, (q_rng _).2⟩, ⟨_, rfl, (q_rng _).1, (q_rng _).2⟩, trivial⟩ hT hO (fun n d => c_X11_wind L xs n d v1 v2 v3 S R) (fun r S1 R1 S2 R2 hT1 hO1 hr1 hF ee q => ?_)
  have hS1 := z_K_T hc hb hR hF rfl
  obtain ⟨v, hv, hRR, hf, hg⟩ := q
  obtain ⟨k1, k2⟩ : _ ∧ _ := z_wind_ok hc hb hS1 v1 v2 v3
  rw [hg] at k2
  rw [← hv, ← hf, k1]
  exact hq S1 R1 hT1 hO1 (z_K_c (z_Kr_f hr (fun a j q => (hF a j (z_md_K rfl q)).2)) ee k2)
theorem b_X11_leaving (v1 v2 : Int32) (hT : v_Tb v_ty S R) (hO : v_Op S) (hK : z_K S R) (hq : ∀ S' R', v_Tb v_ty S' R' → v_Op S' → z_P S' R' (g_X12_leaving v1 v2 S') → Q (some (.int (f_X12_leaving v1 v2 S'))) S' R') : w_T L xs 59 m_X11_leaving 0 (lv_args 0 [.ref 1, .int v1, .int v2]) [] S R Q := by
  obtain ⟨c, b, e, hr, hR⟩ := hK
  obtain ⟨hc, hb, he, hn, hL, hB, hE, hW⟩ := id hr
  refine z_use (v_met 60 135 rw_162 (List.mem_of_getElem? (i := 0) rfl) (Nat.le_of_ble_eq_true rfl)) (Nat.le_of_ble_eq_true rfl) mt_X11_leaving ⟨rfl, ⟨_, rfl, (q_rng _).1, (q_rng _).2⟩, ⟨_, rfl, (q_rng _).1, (q_rng _).2⟩, trivial⟩ hT hO (fun n d => c_X11_leaving L xs n d v1 v2 S R) (fun r S1 R1 S2 R2 hT1 hO1 hr1 hF ee q => ?_)
  have hS1 := z_K_T hc hb hR hF rfl
  obtain ⟨v, hv, hRR, hf, hg⟩ := q
  obtain ⟨k1, k2⟩ : _ ∧ _ := z_leaving_ok hc hb hS1 v1 v2
  rw [hg] at k2
  rw [← hv, ← hf, k1]
  exact hq S1 R1 hT1 hO1 (z_K_c (z_Kr_f hr (fun a j q => (hF a j (z_md_K rfl q)).2)) ee k2)
theorem b_X11_letGo (v1 : Int32) (hT : v_Tb v_ty S R) (hO : v_Op S) (hK : z_K S R) (hq : ∀ S' R', v_Tb v_ty S' R' → v_Op S' → z_P S' R' (g_X12_letGo v1 S') → Q (some (.int (f_X12_letGo v1 S'))) S' R') : w_T L xs 59 m_X11_letGo 0 (lv_args 0 [.ref 1, .int v1]) [] S R Q := by
  obtain ⟨c, b, e, hr, hR⟩ := hK
  obtain ⟨hc, hb, he, hn, hL, hB, hE, hW⟩ := id hr
  refine z_use (v_met 60 136 rw_163 (List.mem_of_getElem? (i := 0) rfl) (Nat.le_of_ble_eq_true rfl)) (Nat.le_of_ble_eq_true rfl) mt_X11_letGo ⟨rfl, ⟨_, rfl, (q_rng _).1, (q_rng _).2⟩, trivial⟩ hT hO (fun n d => c_X11_letGo L xs n d v1 S R) (fun r S1 R1 S2 R2 hT1 hO1 hr1 hF ee q => ?_)
  have hS1 := z_K_T hc hb hR hF rfl
  obtain ⟨v, hv, hRR, hf, hg⟩ := q
  obtain ⟨k1, k2⟩ : _ ∧ _ := z_letGo_ok hc hb hS1 v1
  rw [hg] at k2
  rw [← hv, ← hf, k1]
  exact hq S1 R1 hT1 hO1 (z_K_c (z_Kr_f hr (fun a j q => (hF a j (z_md_K rfl q)).2)) ee k2)
theorem b_X11_home (v1 v2 : Int32) (hT : v_Tb v_ty S R) (hO : v_Op S) (hK : z_K S R) (hq : ∀ S' R', v_Tb v_ty S' R' → v_Op S' → z_P S' R' (g_X12_home v1 v2 S') → Q (some (.int (f_X12_home v1 v2 S'))) S' R') : w_T L xs 59 m_X11_home 0 (lv_args 0 [.ref 1, .int v1, .int v2]) [] S R Q := by
  obtain ⟨c, b, e, hr, hR⟩ := hK
  obtain ⟨hc, hb, he, hn, hL, hB, hE, hW⟩ := id hr
  refine z_use (v_met 60 119 rw_146 (List.mem_of_getElem? (i := 0) rfl) (Nat.le_of_ble_eq_true rfl)) (Nat.le_of_ble_eq_true rfl) mt_X11_home ⟨rfl, ⟨_, rfl, (q_rng _).1, (q_rng _).2⟩, ⟨_, rfl, (q_rng _).1, (q_rng _).2⟩, trivial⟩ hT hO (fun n d => c_X11_home L xs n d v1 v2 S R) (fun r S1 R1 S2 R2 hT1 hO1 hr1 hF ee q => ?_)
  have hS1 := z_K_T hc hb hR hF rfl
  obtain ⟨v, hv, hRR, hf, hg⟩ := q
  obtain ⟨k1, k2⟩ : _ ∧ _ := z_home_ok hc hb hS1 v1 v2
  rw [hg] at k2
  rw [← hv, ← hf, k1]
  exact hq S1 R1 hT1 hO1 (z_K_c (z_Kr_f hr (fun a j q => (hF a j (z_md_K rfl q)).2)) ee k2)
theorem b_X11_house (v1 v2 v3 : Int32) (hT : v_Tb v_ty S R) (hO : v_Op S) (hK : z_K S R) (hq : ∀ S' R', v_Tb v_ty S' R' → v_Op S' → z_P S' R' (g_X12_house v1 v2 v3 S') → Q (some (.int (f_X12_house v1 v2 v3 S'))) S' R') : w_T L xs 59 m_X11_house 0 (lv_args 0 [.ref 1, .int v1, .int v2, .int v3]) [] S R Q := by
  obtain ⟨c, b, e, hr, hR⟩ := hK
  obtain ⟨hc, hb, he, hn, hL, hB, hE, hW⟩ := id hr
  refine z_use (v_met 60 120 rw_147 (List.mem_of_getElem? (i := 0) rfl) (Nat.le_of_ble_eq_true rfl)) (Nat.le_of_ble_eq_true rfl) mt_X11_house ⟨rfl, ⟨_, rfl, (q_rng _).1, (q_rng _).2⟩, ⟨_, rfl, (q_rng _).1, (q_rng _).2⟩, ⟨_, rfl, (q_rng _).1, (q_rng _).2⟩, trivial⟩ hT hO (fun n d => c_X11_house L xs n d v1 v2 v3 S R) (fun r S1 R1 S2 R2 hT1 hO1 hr1 hF ee q => ?_)
  have hS1 := z_K_T hc hb hR hF rfl
  obtain ⟨v, hv, hRR, hf, hg⟩ := q
  obtain ⟨k1, k2⟩ : _ ∧ _ := z_house_ok hc hb hS1 v1 v2 v3
  rw [hg] at k2
  rw [← hv, ← hf, k1]
  exact hq S1 R1 hT1 hO1 (z_K_c (z_Kr_f hr (fun a j q => (hF a j (z_md_K rfl q)).2)) ee k2)
theorem b_X11_seed (v1 : Int32) (hT : v_Tb v_ty S R) (hO : v_Op S) (hK : z_K S R) (hq : ∀ S' R', v_Tb v_ty S' R' → v_Op S' → z_P S' R' (g_X12_seed v1 S') → Q (some (.int (f_X12_seed v1 S'))) S' R') : w_T L xs 59 m_X11_seed 0 (lv_args 0 [.ref 1, .int v1]) [] S R Q := by
  obtain ⟨c, b, e, hr, hR⟩ := hK
  obtain ⟨hc, hb, he, hn, hL, hB, hE, hW⟩ := id hr
  refine z_use (v_met 60 121 rw_148 (List.mem_of_getElem? (i := 0) rfl) (Nat.le_of_ble_eq_true rfl)) (Nat.le_of_ble_eq_true rfl) mt_X11_seed ⟨rfl, ⟨_, rfl, (q_rng _).1, (q_rng _).2⟩, trivial⟩ hT hO (fun n d => c_X11_seed L xs n d v1 S R) (fun r S1 R1 S2 R2 hT1 hO1 hr1 hF ee q => ?_)
  have hS1 := z_K_T hc hb hR hF rfl
  obtain ⟨v, hv, hRR, hf, hg⟩ := q
  obtain ⟨k1, k2⟩ : _ ∧ _ := z_seed_ok hc hb hS1 v1
  rw [hg] at k2
  rw [← hv, ← hf, k1]
  exact hq S1 R1 hT1 hO1 (z_K_c (z_Kr_f hr (fun a j q => (hF a j (z_md_K rfl q)).2)) ee k2)
theorem b_X11_keep (hT : v_Tb v_ty S R) (hO : v_Op S) (hK : z_K S R) (hq : ∀ S' R', v_Tb v_ty S' R' → v_Op S' → z_P S' R' (g_X12_keep S') → Q (some (.int (f_X12_keep S'))) S' R') : w_T L xs 59 m_X11_keep 0 (lv_args 0 [.ref 1]) [] S R Q := by
  obtain ⟨c, b, e, hr, hR⟩ := hK
  obtain ⟨hc, hb, he, hn, hL, hB, hE, hW⟩ := id hr
  refine z_use (v_met 60 144 rw_171 (List.mem_of_getElem? (i := 0) rfl) (Nat.le_of_ble_eq_true rfl)) (Nat.le_of_ble_eq_true rfl) mt_X11_keep ⟨rfl, trivial⟩ hT hO (fun n d => c_X11_keep L xs n d S R) (fun r S1 R1 S2 R2 hT1 hO1 hr1 hF ee q => ?_)
  have hS1 := z_K_T hc hb hR hF rfl
  obtain ⟨v, hv, hRR, hf, hg⟩ := q
  obtain ⟨k1, k2⟩ : _ ∧ _ := z_keep_ok hc hb hS1 (z_B01_Tb hT1)
  rw [hg] at k2
  rw [← hv, ← hf, k1]
  exact hq S1 R1 hT1 hO1 (z_K_c (z_Kr_f hr (fun a j q => (hF a j (z_md_K rfl q)).2)) ee k2)
theorem b_X11_undo (hT : v_Tb v_ty S R) (hO : v_Op S) (hK : z_K S R) (hq : ∀ S' R', v_Tb v_ty S' R' → v_Op S' → z_P S' R' (g_X12_undo S') → Q (some (.int (f_X12_undo S'))) S' R') : w_T L xs 59 m_X11_undo 0 (lv_args 0 [.ref 1]) [] S R Q := by
  obtain ⟨c, b, e, hr, hR⟩ := hK
  obtain ⟨hc, hb, he, hn, hL, hB, hE, hW⟩ := id hr
  refine z_use (v_met 60 145 rw_172 (List.mem_of_getElem? (i := 0) rfl) (Nat.le_of_ble_eq_true rfl)) (Nat.le_of_ble_eq_true rfl) mt_X11_undo ⟨rfl, trivial⟩ hT hO (fun n d => c_X11_undo L xs n d hW S) (fun r S1 R1 S2 R2 hT1 hO1 hr1 hF ee q => ?_)
  have hS1 := z_K_T hc hb hR hF rfl
  obtain ⟨v, hv, hRR, hf, hg⟩ := q
  obtain ⟨k1, k2⟩ : _ ∧ _ := z_undo_ok hc hb hS1 (z_B01_Tb hT1)
  rw [hg] at k2
  rw [← hv, ← hf, k1]
  exact hq S1 R1 hT1 hO1 (z_K_c (z_Kr_f hr (fun a j q => (hF a j (z_md_K rfl q)).2)) ee k2)
theorem b_X11_check (v1 : Int32) (hT : v_Tb v_ty S R) (hO : v_Op S) (hK : z_K S R) (hq : ∀ S' R', v_Tb v_ty S' R' → v_Op S' → z_P S' R' (g_X12_check v1 S') → Q (some (.int (f_X12_check v1 S'))) S' R') : w_T L xs 59 m_X11_check 0 (lv_args 0 [.ref 1, .int v1]) [] S R Q := by
  obtain ⟨c, b, e, hr, hR⟩ := hK
  obtain ⟨hc, hb, he, hn, hL, hB, hE, hW⟩ := id hr
  refine z_use (v_met 60 146 rw_173 (List.mem_of_getElem? (i := 0) rfl) (Nat.le_of_ble_eq_true rfl)) (Nat.le_of_ble_eq_true rfl) mt_X11_check ⟨rfl, ⟨_, rfl, (q_rng _).1, (q_rng _).2⟩, trivial⟩ hT hO (fun n d => c_X11_check L xs n d v1 S R) (fun r S1 R1 S2 R2 hT1 hO1 hr1 hF ee q => ?_)
  have hS1 := z_K_T hc hb hR hF rfl
  obtain ⟨v, hv, hRR, hf, hg⟩ := q
  obtain ⟨k1, k2⟩ : _ ∧ _ := z_check_ok hc hb hS1 v1
  rw [hg] at k2
  rw [← hv, ← hf, k1]
  exact hq S1 R1 hT1 hO1 (z_K_c (z_Kr_f hr (fun a j q => (hF a j (z_md_K rfl q)).2)) ee k2)
theorem b_X11_tried (v1 v2 : Int32) (hT : v_Tb v_ty S R) (hO : v_Op S) (hK : z_K S R) (hq : ∀ S' R' u, v_Tb v_ty S' R' → v_Op S' → z_P S' R' (g_X12_tried v1 v2 S') → Q (some (.int u)) S' R') : w_T L xs 59 m_X11_tried 0 (lv_args 0 [.ref 1, .int v1, .int v2]) [] S R Q := by
  obtain ⟨c, b, e, hr, hR⟩ := hK
  obtain ⟨hc, hb, he, hn, hL, hB, hE, hW⟩ := id hr
  refine z_use (v_met 60 127 rw_154 (List.mem_of_getElem? (i := 0) rfl) (Nat.le_of_ble_eq_true rfl)) (Nat.le_of_ble_eq_true rfl) mt_X11_tried ⟨rfl, ⟨_, rfl, (q_rng _).1, (q_rng _).2⟩, ⟨_, rfl, (q_rng _).1, (q_rng _).2⟩, trivial⟩ hT hO (fun n d => c_X11_tried L xs n d hW hL hc hB hb v1 v2 S) (fun r S1 R1 S2 R2 hT1 hO1 hr1 hF ee q => ?_)
  have hS1 := z_K_T hc hb hR hF rfl
  obtain ⟨v, hv, hRR, hf, hg⟩ := q
  have k2 := z_tried_rel hc hb hS1 (z_B01_Tb hT1) v1 v2
  rw [hg] at k2
  rw [← hv]
  exact hq S1 R1 v hT1 hO1 (z_K_c (z_Kr_f hr (fun a j q => (hF a j (z_md_K rfl q)).2)) ee k2)
theorem b_X11_fair (v1 : Int32) (hT : v_Tb v_ty S R) (hO : v_Op S) (hK : z_K S R) (hq : ∀ S' R' u, v_Tb v_ty S' R' → v_Op S' → z_P S' R' (g_X12_fair v1 S') → Q (some (.int u)) S' R') : w_T L xs 59 m_X11_fair 0 (lv_args 0 [.ref 1, .int v1]) [] S R Q := by
  obtain ⟨c, b, e, hr, hR⟩ := hK
  obtain ⟨hc, hb, he, hn, hL, hB, hE, hW⟩ := id hr
  refine z_use (v_met 60 140 rw_167 (List.mem_of_getElem? (i := 0) rfl) (Nat.le_of_ble_eq_true rfl)) (Nat.le_of_ble_eq_true rfl) mt_X11_fair ⟨rfl, ⟨_, rfl, (q_rng _).1, (q_rng _).2⟩, trivial⟩ hT hO (fun n d => c_X11_fair L xs n d v1 S R) (fun r S1 R1 S2 R2 hT1 hO1 hr1 hF ee q => ?_)
  have hS1 := z_K_T hc hb hR hF rfl
  obtain ⟨v, hv, hRR, hf, hg⟩ := q
  have k2 := z_fair_rel hc hb hS1 v1
  rw [hg] at k2
  rw [← hv]
  exact hq S1 R1 v hT1 hO1 (z_K_c (z_Kr_f hr (fun a j q => (hF a j (z_md_K rfl q)).2)) ee k2)
theorem b_X11_escaped (v1 v2 v3 v4 : Int32) (hT : v_Tb v_ty S R) (hO : v_Op S) (hK : z_K S R) (hq : ∀ S' R' u, v_Tb v_ty S' R' → v_Op S' → z_P S' R' (g_X12_escaped v1 v2 v3 v4 S') → Q (some (.int u)) S' R') : w_T L xs 59 m_X11_escaped 0 (lv_args 0 [.ref 1, .int v1, .int v2, .int v3, .int v4]) [] S R Q := by
  obtain ⟨c, b, e, hr, hR⟩ := hK
  obtain ⟨hc, hb, he, hn, hL, hB, hE, hW⟩ := id hr
  refine z_use (v_met 60 141 rw_168 (List.mem_of_getElem? (i := 0) rfl) (Nat.le_of_ble_eq_true rfl)) (Nat.le_of_ble_eq_true rfl) mt_X11_escaped ⟨rfl, ⟨_, rfl, (q_rng _).1, (q_rng _).2⟩, ⟨_, rfl, (q_rng _).1, (q_rng _).2⟩, ⟨_, rfl, (q_rng _).1, (q_rng _).2⟩, ⟨_, rfl, (q_rng _).1, (q_rng _).2⟩, trivial⟩ hT hO (fun n d => c_X11_escaped L xs n d v1 v2 v3 v4 S R) (fun r S1 R1 S2 R2 hT1 hO1 hr1 hF ee q => ?_)
  have hS1 := z_K_T hc hb hR hF rfl
  obtain ⟨v, hv, hRR, hf, hg⟩ := q
  have k2 := z_esc_rel hc hb hS1 v1 v2 v3 v4
  rw [hg] at k2
  rw [← hv]
  exact hq S1 R1 v hT1 hO1 (z_K_c (z_Kr_f hr (fun a j q => (hF a j (z_md_K rfl q)).2)) ee k2)
theorem b_X11_wardIs (v1 v2 : Int32) (hT : v_Tb v_ty S R) (hO : v_Op S) (hK : z_K S R) (hq : ∀ S' R' u, v_Tb v_ty S' R' → v_Op S' → z_K S' R' → Q (some (.int u)) S' R') : w_T L xs 59 m_X11_wardIs 0 (lv_args 0 [.ref 1, .int v1, .int v2]) [] S R Q := by
  refine w_met (v_met 60 129 rw_156 (List.mem_of_getElem? (i := 0) rfl) (Nat.le_of_ble_eq_true rfl)) (Nat.le_of_ble_eq_true rfl) mt_X11_wardIs ⟨rfl, ⟨_, rfl, (q_rng _).1, (q_rng _).2⟩, ⟨_, rfl, (q_rng _).1, (q_rng _).2⟩, trivial⟩ hT hO (fun r S1 R1 hT1 hO1 hr1 hF => ?_)
  obtain ⟨u, hu, -, -⟩ := hr1
  subst hu
  exact hq S1 R1 u hT1 hO1 (z_K_fr hK hF rfl)
theorem b_X11_quarrel (v1 v2 : Int32) (hT : v_Tb v_ty S R) (hO : v_Op S) (hK : z_K S R) (hq : ∀ S' R' u, v_Tb v_ty S' R' → v_Op S' → z_K S' R' → Q (some (.int u)) S' R') : w_T L xs 59 m_X11_quarrel 0 (lv_args 0 [.ref 1, .int v1, .int v2]) [] S R Q := by
  refine w_met (v_met 60 131 rw_158 (List.mem_of_getElem? (i := 0) rfl) (Nat.le_of_ble_eq_true rfl)) (Nat.le_of_ble_eq_true rfl) mt_X11_quarrel ⟨rfl, ⟨_, rfl, (q_rng _).1, (q_rng _).2⟩, ⟨_, rfl, (q_rng _).1, (q_rng _).2⟩, trivial⟩ hT hO (fun r S1 R1 hT1 hO1 hr1 hF => ?_)
  obtain ⟨u, hu, -, -⟩ := hr1
  subst hu
  exact hq S1 R1 u hT1 hO1 (z_K_fr hK hF rfl)
theorem b_X11_housed (v1 v2 v3 : Int32) (hT : v_Tb v_ty S R) (hO : v_Op S) (hK : z_K S R) (hq : ∀ S' R' u, v_Tb v_ty S' R' → v_Op S' → z_K S' R' → Q (some (.int u)) S' R') : w_T L xs 59 m_X11_housed 0 (lv_args 0 [.ref 1, .int v1, .int v2, .int v3]) [] S R Q := by
  refine w_met (v_met 60 134 rw_161 (List.mem_of_getElem? (i := 0) rfl) (Nat.le_of_ble_eq_true rfl)) (Nat.le_of_ble_eq_true rfl) mt_X11_housed ⟨rfl, ⟨_, rfl, (q_rng _).1, (q_rng _).2⟩, ⟨_, rfl, (q_rng _).1, (q_rng _).2⟩, ⟨_, rfl, (q_rng _).1, (q_rng _).2⟩, trivial⟩ hT hO (fun r S1 R1 hT1 hO1 hr1 hF => ?_)
  obtain ⟨u, hu, -, -⟩ := hr1
  subst hu
  exact hq S1 R1 u hT1 hO1 (z_K_fr hK hF rfl)
theorem b_X11_from (v1 v2 v3 : Int32) (hT : v_Tb v_ty S R) (hO : v_Op S) (hK : z_K S R) (hq : ∀ S' R' u, v_Tb v_ty S' R' → v_Op S' → z_K S' R' → Q (some (.int u)) S' R') : w_T L xs 59 m_X11_from 0 (lv_args 0 [.ref 1, .int v1, .int v2, .int v3]) [] S R Q := by
  refine w_met (v_met 60 137 rw_164 (List.mem_of_getElem? (i := 0) rfl) (Nat.le_of_ble_eq_true rfl)) (Nat.le_of_ble_eq_true rfl) mt_X11_from ⟨rfl, ⟨_, rfl, (q_rng _).1, (q_rng _).2⟩, ⟨_, rfl, (q_rng _).1, (q_rng _).2⟩, ⟨_, rfl, (q_rng _).1, (q_rng _).2⟩, trivial⟩ hT hO (fun r S1 R1 hT1 hO1 hr1 hF => ?_)
  obtain ⟨u, hu, -, -⟩ := hr1
  subst hu
  exact hq S1 R1 u hT1 hO1 (z_K_fr hK hF rfl)
theorem b_X11_taught (v1 v2 v3 : Int32) (hT : v_Tb v_ty S R) (hO : v_Op S) (hK : z_K S R) (hq : ∀ S' R' u, v_Tb v_ty S' R' → v_Op S' → z_K S' R' → Q (some (.int u)) S' R') : w_T L xs 59 m_X11_taught 0 (lv_args 0 [.ref 1, .int v1, .int v2, .int v3]) [] S R Q := by
  refine w_met (v_met 60 138 rw_165 (List.mem_of_getElem? (i := 0) rfl) (Nat.le_of_ble_eq_true rfl)) (Nat.le_of_ble_eq_true rfl) mt_X11_taught ⟨rfl, ⟨_, rfl, (q_rng _).1, (q_rng _).2⟩, ⟨_, rfl, (q_rng _).1, (q_rng _).2⟩, ⟨_, rfl, (q_rng _).1, (q_rng _).2⟩, trivial⟩ hT hO (fun r S1 R1 hT1 hO1 hr1 hF => ?_)
  obtain ⟨u, hu, -, -⟩ := hr1
  subst hu
  exact hq S1 R1 u hT1 hO1 (z_K_fr hK hF rfl)
theorem b_X11_placed (v1 v2 : Int32) (hT : v_Tb v_ty S R) (hO : v_Op S) (hK : z_K S R) (hq : ∀ S' R' u, v_Tb v_ty S' R' → v_Op S' → z_K S' R' → Q (some (.int u)) S' R') : w_T L xs 59 m_X11_placed 0 (lv_args 0 [.ref 1, .int v1, .int v2]) [] S R Q := by
  refine w_met (v_met 60 139 rw_166 (List.mem_of_getElem? (i := 0) rfl) (Nat.le_of_ble_eq_true rfl)) (Nat.le_of_ble_eq_true rfl) mt_X11_placed ⟨rfl, ⟨_, rfl, (q_rng _).1, (q_rng _).2⟩, ⟨_, rfl, (q_rng _).1, (q_rng _).2⟩, trivial⟩ hT hO (fun r S1 R1 hT1 hO1 hr1 hF => ?_)
  obtain ⟨u, hu, -, -⟩ := hr1
  subst hu
  exact hq S1 R1 u hT1 hO1 (z_K_fr hK hF rfl)
theorem b_X11_nursed (v1 v2 v3 : Int32) (hT : v_Tb v_ty S R) (hO : v_Op S) (hK : z_K S R) (hq : ∀ S' R' u, v_Tb v_ty S' R' → v_Op S' → z_K S' R' → Q (some (.int u)) S' R') : w_T L xs 59 m_X11_nursed 0 (lv_args 0 [.ref 1, .int v1, .int v2, .int v3]) [] S R Q := by
  refine w_met (v_met 60 142 rw_169 (List.mem_of_getElem? (i := 0) rfl) (Nat.le_of_ble_eq_true rfl)) (Nat.le_of_ble_eq_true rfl) mt_X11_nursed ⟨rfl, ⟨_, rfl, (q_rng _).1, (q_rng _).2⟩, ⟨_, rfl, (q_rng _).1, (q_rng _).2⟩, ⟨_, rfl, (q_rng _).1, (q_rng _).2⟩, trivial⟩ hT hO (fun r S1 R1 hT1 hO1 hr1 hF => ?_)
  obtain ⟨u, hu, -, -⟩ := hr1
  subst hu
  exact hq S1 R1 u hT1 hO1 (z_K_fr hK hF rfl)
theorem b_X11_round (v1 v2 : Int32) (hT : v_Tb v_ty S R) (hO : v_Op S) (hK : z_K S R) (hq : ∀ S' R' u, v_Tb v_ty S' R' → v_Op S' → z_K S' R' → Q (some (.int u)) S' R') : w_T L xs 59 m_X11_round 0 (lv_args 0 [.ref 1, .int v1, .int v2]) [] S R Q := by
  refine w_met (v_met 60 143 rw_170 (List.mem_of_getElem? (i := 0) rfl) (Nat.le_of_ble_eq_true rfl)) (Nat.le_of_ble_eq_true rfl) mt_X11_round ⟨rfl, ⟨_, rfl, (q_rng _).1, (q_rng _).2⟩, ⟨_, rfl, (q_rng _).1, (q_rng _).2⟩, trivial⟩ hT hO (fun r S1 R1 hT1 hO1 hr1 hF => ?_)
  obtain ⟨u, hu, -, -⟩ := hr1
  subst hu
  exact hq S1 R1 u hT1 hO1 (z_K_fr hK hF rfl)
theorem b_X11_added (v1 v2 : Int32) (hT : v_Tb v_ty S R) (hO : v_Op S) (hK : z_K S R) (hq : ∀ S' R' u, v_Tb v_ty S' R' → v_Op S' → z_K S' R' → Q (some (.int u)) S' R') : w_T L xs 59 m_X11_added 0 (lv_args 0 [.ref 1, .int v1, .int v2]) [] S R Q := by
  refine w_met (v_met 60 133 rw_160 (List.mem_of_getElem? (i := 0) rfl) (Nat.le_of_ble_eq_true rfl)) (Nat.le_of_ble_eq_true rfl) mt_X11_added ⟨rfl, ⟨_, rfl, (q_rng _).1, (q_rng _).2⟩, ⟨_, rfl, (q_rng _).1, (q_rng _).2⟩, trivial⟩ hT hO (fun r S1 R1 hT1 hO1 hr1 hF => ?_)
  obtain ⟨u, hu, -, -⟩ := hr1
  subst hu
  exact hq S1 R1 u hT1 hO1 (z_K_fr hK hF rfl)
theorem b_X11_count (v1 : Int32) (hT : v_Tb v_ty S R) (hO : v_Op S) (hK : z_K S R) (hq : ∀ S' R' u, v_Tb v_ty S' R' → v_Op S' → z_K S' R' → Q (some (.int u)) S' R') : w_T L xs 59 m_X11_count 0 (lv_args 0 [.ref 1, .int v1]) [] S R Q := by
  refine w_met (v_met 60 132 rw_159 (List.mem_of_getElem? (i := 0) rfl) (Nat.le_of_ble_eq_true rfl)) (Nat.le_of_ble_eq_true rfl) mt_X11_count ⟨rfl, ⟨_, rfl, (q_rng _).1, (q_rng _).2⟩, trivial⟩ hT hO (fun r S1 R1 hT1 hO1 hr1 hF => ?_)
  obtain ⟨u, hu, -, -⟩ := hr1
  subst hu
  exact hq S1 R1 u hT1 hO1 (z_K_fr hK hF rfl)
theorem b_X12_gust (v1 v2 v3 v4 v5 : Int32) (hT : v_Tb v_ty S R) (hO : v_Op S) (hP : z_P S R (g_X12_gust v1 v2 v3 v4 v5 S)) (hq : ∀ S' R', v_Tb v_ty S' R' → v_Op S' → z_K S' R' → Q (some (.int (f_X12_gust v1 v2 v3 v4 v5 S))) S' R') : w_T L xs 59 m_X12_gust 0 (lv_args 0 [.ref 100, .int v1, .int v2, .int v3, .int v4, .int v5]) [] S R Q := by
  refine z_use (v_met 60 215 rw_195 (List.mem_of_getElem? (i := 0) rfl) (Nat.le_of_ble_eq_true rfl)) (Nat.le_of_ble_eq_true rfl) mt_X12_gust ⟨rfl, ⟨_, rfl, (q_rng _).1, (q_rng _).2⟩, ⟨_, rfl, (q_rng _).1, (q_rng _).2⟩, ⟨_, rfl, (q_rng _).1, (q_rng _).2⟩, ⟨_, rfl, (q_rng _).1, (q_rng _).2⟩, ⟨_, rfl, (q_rng _).1, (q_rng _).2⟩, trivial⟩ hT hO (fun n d => c_X12_gust L xs n d v1 v2 v3 v4 v5 S R) (fun r S1 R1 S2 R2 hT1 hO1 hr1 hF ee q => ?_)
  obtain ⟨v, hv, hRR, hf, hg⟩ := q
  rw [hg] at hP
  rw [← hv, ← hf]
  exact hq S1 R1 hT1 hO1 (z_K_m hP ee hF rfl)
theorem b_X12_name (v1 v2 : Int32) (hT : v_Tb v_ty S R) (hO : v_Op S) (hP : z_P S R (g_X12_name v1 v2 S)) (hq : ∀ S' R', v_Tb v_ty S' R' → v_Op S' → z_K S' R' → Q (some (.int (f_X12_name v1 v2 S))) S' R') : w_T L xs 59 m_X12_name 0 (lv_args 0 [.ref 100, .int v1, .int v2]) [] S R Q := by
  refine z_use (v_met 60 216 rw_196 (List.mem_of_getElem? (i := 0) rfl) (Nat.le_of_ble_eq_true rfl)) (Nat.le_of_ble_eq_true rfl) mt_X12_name ⟨rfl, ⟨_, rfl, (q_rng _).1, (q_rng _).2⟩, ⟨_, rfl, (q_rng _).1, (q_rng _).2⟩, trivial⟩ hT hO (fun n d => c_X12_name L xs n d v1 v2 S R) (fun r S1 R1 S2 R2 hT1 hO1 hr1 hF ee q => ?_)
  obtain ⟨v, hv, hRR, hf, hg⟩ := q
  rw [hg] at hP
  rw [← hv, ← hf]
  exact hq S1 R1 hT1 hO1 (z_K_m hP ee hF rfl)
theorem b_X12_moves (v1 v2 : Int32) (hT : v_Tb v_ty S R) (hO : v_Op S) (hP : z_P S R (g_X12_moves v1 v2 S)) (hq : ∀ S' R', v_Tb v_ty S' R' → v_Op S' → z_K S' R' → Q (some (.int (f_X12_moves v1 v2 S))) S' R') : w_T L xs 59 m_X12_moves 0 (lv_args 0 [.ref 100, .int v1, .int v2]) [] S R Q := by
  refine z_use (v_met 60 217 rw_197 (List.mem_of_getElem? (i := 0) rfl) (Nat.le_of_ble_eq_true rfl)) (Nat.le_of_ble_eq_true rfl) mt_X12_moves ⟨rfl, ⟨_, rfl, (q_rng _).1, (q_rng _).2⟩, ⟨_, rfl, (q_rng _).1, (q_rng _).2⟩, trivial⟩ hT hO (fun n d => c_X12_moves L xs n d v1 v2 S R) (fun r S1 R1 S2 R2 hT1 hO1 hr1 hF ee q => ?_)
  obtain ⟨v, hv, hRR, hf, hg⟩ := q
  rw [hg] at hP
  rw [← hv, ← hf]
  exact hq S1 R1 hT1 hO1 (z_K_m hP ee hF rfl)
theorem b_X12_habit (v1 v2 v3 : Int32) (v31 : 0 ≤ v3.toInt) (v32 : v3.toInt ≤ 1) (hT : v_Tb v_ty S R) (hO : v_Op S) (hP : z_P S R (g_X12_habit v1 v2 v3 S)) (hq : ∀ S' R', v_Tb v_ty S' R' → v_Op S' → z_K S' R' → Q (some (.int (f_X12_habit v1 v2 v3 S))) S' R') : w_T L xs 59 m_X12_habit 0 (lv_args 0 [.ref 100, .int v1, .int v2, .int v3]) [] S R Q := by
  refine z_use (v_met 60 218 rw_198 (List.mem_of_getElem? (i := 0) rfl) (Nat.le_of_ble_eq_true rfl)) (Nat.le_of_ble_eq_true rfl) mt_X12_habit ⟨rfl, ⟨_, rfl, (q_rng _).1, (q_rng _).2⟩, ⟨_, rfl, (q_rng _).1, (q_rng _).2⟩, ⟨_, rfl, v31, v32⟩, trivial⟩ hT hO (fun n d => c_X12_habit L xs n d v1 v2 v3 S R) (fun r S1 R1 S2 R2 hT1 hO1 hr1 hF ee q => ?_)
  obtain ⟨v, hv, hRR, hf, hg⟩ := q
  rw [hg] at hP
  rw [← hv, ← hf]
  exact hq S1 R1 hT1 hO1 (z_K_m hP ee hF rfl)
theorem b_X12_ward (v1 v2 v3 v4 : Int32) (hT : v_Tb v_ty S R) (hO : v_Op S) (hP : z_P S R (g_X12_ward v1 v2 v3 v4 S)) (hq : ∀ S' R', v_Tb v_ty S' R' → v_Op S' → z_K S' R' → Q (some (.int (f_X12_ward v1 v2 v3 v4 S))) S' R') : w_T L xs 59 m_X12_ward 0 (lv_args 0 [.ref 100, .int v1, .int v2, .int v3, .int v4]) [] S R Q := by
  refine z_use (v_met 60 219 rw_199 (List.mem_of_getElem? (i := 0) rfl) (Nat.le_of_ble_eq_true rfl)) (Nat.le_of_ble_eq_true rfl) mt_X12_ward ⟨rfl, ⟨_, rfl, (q_rng _).1, (q_rng _).2⟩, ⟨_, rfl, (q_rng _).1, (q_rng _).2⟩, ⟨_, rfl, (q_rng _).1, (q_rng _).2⟩, ⟨_, rfl, (q_rng _).1, (q_rng _).2⟩, trivial⟩ hT hO (fun n d => c_X12_ward L xs n d v1 v2 v3 v4 S R) (fun r S1 R1 S2 R2 hT1 hO1 hr1 hF ee q => ?_)
  obtain ⟨v, hv, hRR, hf, hg⟩ := q
  rw [hg] at hP
  rw [← hv, ← hf]
  exact hq S1 R1 hT1 hO1 (z_K_m hP ee hF rfl)
theorem b_X12_nurse (v1 v2 : Int32) (hT : v_Tb v_ty S R) (hO : v_Op S) (hP : z_P S R (g_X12_nurse v1 v2 S)) (hq : ∀ S' R', v_Tb v_ty S' R' → v_Op S' → z_K S' R' → Q (some (.int (f_X12_nurse v1 v2 S))) S' R') : w_T L xs 59 m_X12_nurse 0 (lv_args 0 [.ref 100, .int v1, .int v2]) [] S R Q := by
  refine z_use (v_met 60 220 rw_200 (List.mem_of_getElem? (i := 0) rfl) (Nat.le_of_ble_eq_true rfl)) (Nat.le_of_ble_eq_true rfl) mt_X12_nurse ⟨rfl, ⟨_, rfl, (q_rng _).1, (q_rng _).2⟩, ⟨_, rfl, (q_rng _).1, (q_rng _).2⟩, trivial⟩ hT hO (fun n d => c_X12_nurse L xs n d v1 v2 S R) (fun r S1 R1 S2 R2 hT1 hO1 hr1 hF ee q => ?_)
  obtain ⟨v, hv, hRR, hf, hg⟩ := q
  rw [hg] at hP
  rw [← hv, ← hf]
  exact hq S1 R1 hT1 hO1 (z_K_m hP ee hF rfl)
theorem b_X12_needs (v1 v2 : Int32) (hT : v_Tb v_ty S R) (hO : v_Op S) (hP : z_P S R (g_X12_needs v1 v2 S)) (hq : ∀ S' R', v_Tb v_ty S' R' → v_Op S' → z_K S' R' → Q (some (.int (f_X12_needs v1 v2 S))) S' R') : w_T L xs 59 m_X12_needs 0 (lv_args 0 [.ref 100, .int v1, .int v2]) [] S R Q := by
  refine z_use (v_met 60 221 rw_201 (List.mem_of_getElem? (i := 0) rfl) (Nat.le_of_ble_eq_true rfl)) (Nat.le_of_ble_eq_true rfl) mt_X12_needs ⟨rfl, ⟨_, rfl, (q_rng _).1, (q_rng _).2⟩, ⟨_, rfl, (q_rng _).1, (q_rng _).2⟩, trivial⟩ hT hO (fun n d => c_X12_needs L xs n d v1 v2 S R) (fun r S1 R1 S2 R2 hT1 hO1 hr1 hF ee q => ?_)
  obtain ⟨v, hv, hRR, hf, hg⟩ := q
  rw [hg] at hP
  rw [← hv, ← hf]
  exact hq S1 R1 hT1 hO1 (z_K_m hP ee hF rfl)
theorem b_X12_feed (v1 v2 v3 v4 v5 : Int32) (hT : v_Tb v_ty S R) (hO : v_Op S) (hP : z_P S R (g_X12_feed v1 v2 v3 v4 v5 S)) (hq : ∀ S' R', v_Tb v_ty S' R' → v_Op S' → z_K S' R' → Q (some (.int (f_X12_feed v1 v2 v3 v4 v5 S))) S' R') : w_T L xs 59 m_X12_feed 0 (lv_args 0 [.ref 100, .int v1, .int v2, .int v3, .int v4, .int v5]) [] S R Q := by
  refine z_use (v_met 60 165 rw_181 (List.mem_of_getElem? (i := 0) rfl) (Nat.le_of_ble_eq_true rfl)) (Nat.le_of_ble_eq_true rfl) mt_X12_feed ⟨rfl, ⟨_, rfl, (q_rng _).1, (q_rng _).2⟩, ⟨_, rfl, (q_rng _).1, (q_rng _).2⟩, ⟨_, rfl, (q_rng _).1, (q_rng _).2⟩, ⟨_, rfl, (q_rng _).1, (q_rng _).2⟩, ⟨_, rfl, (q_rng _).1, (q_rng _).2⟩, trivial⟩ hT hO (fun n d => c_X12_feed L xs n d v1 v2 v3 v4 v5 S R) (fun r S1 R1 S2 R2 hT1 hO1 hr1 hF ee q => ?_)
  obtain ⟨v, hv, hRR, hf, hg⟩ := q
  rw [hg] at hP
  rw [← hv, ← hf]
  exact hq S1 R1 hT1 hO1 (z_K_m hP ee hF rfl)
theorem b_X12_law (v1 : Int32) (hT : v_Tb v_ty S R) (hO : v_Op S) (hP : z_P S R (g_X12_law v1 S)) (hq : ∀ S' R', v_Tb v_ty S' R' → v_Op S' → z_K S' R' → Q (some (.int (f_X12_law v1 S))) S' R') : w_T L xs 59 m_X12_law 0 (lv_args 0 [.ref 100, .int v1]) [] S R Q := by
  refine z_use (v_met 60 193 rw_183 (List.mem_of_getElem? (i := 0) rfl) (Nat.le_of_ble_eq_true rfl)) (Nat.le_of_ble_eq_true rfl) mt_X12_law ⟨rfl, ⟨_, rfl, (q_rng _).1, (q_rng _).2⟩, trivial⟩ hT hO (fun n d => c_X12_law L xs n d v1 S R) (fun r S1 R1 S2 R2 hT1 hO1 hr1 hF ee q => ?_)
  obtain ⟨v, hv, hRR, hf, hg⟩ := q
  rw [hg] at hP
  rw [← hv, ← hf]
  exact hq S1 R1 hT1 hO1 (z_K_m hP ee hF rfl)
theorem b_X12_rules (v1 : Int32) (hT : v_Tb v_ty S R) (hO : v_Op S) (hP : z_P S R (g_X12_rules v1 S)) (hq : ∀ S' R', v_Tb v_ty S' R' → v_Op S' → z_K S' R' → Q (some (.int (f_X12_rules v1 S))) S' R') : w_T L xs 59 m_X12_rules 0 (lv_args 0 [.ref 100, .int v1]) [] S R Q := by
  refine z_use (v_met 60 194 rw_184 (List.mem_of_getElem? (i := 0) rfl) (Nat.le_of_ble_eq_true rfl)) (Nat.le_of_ble_eq_true rfl) mt_X12_rules ⟨rfl, ⟨_, rfl, (q_rng _).1, (q_rng _).2⟩, trivial⟩ hT hO (fun n d => c_X12_rules L xs n d v1 S R) (fun r S1 R1 S2 R2 hT1 hO1 hr1 hF ee q => ?_)
  obtain ⟨v, hv, hRR, hf, hg⟩ := q
  rw [hg] at hP
  rw [← hv, ← hf]
  exact hq S1 R1 hT1 hO1 (z_K_m hP ee hF rfl)
theorem b_X12_timetable (v1 v2 : Int32) (hT : v_Tb v_ty S R) (hO : v_Op S) (hP : z_P S R (g_X12_timetable v1 v2 S)) (hq : ∀ S' R', v_Tb v_ty S' R' → v_Op S' → z_K S' R' → Q (some (.int (f_X12_timetable v1 v2 S))) S' R') : w_T L xs 59 m_X12_timetable 0 (lv_args 0 [.ref 100, .int v1, .int v2]) [] S R Q := by
  refine z_use (v_met 60 225 rw_202 (List.mem_of_getElem? (i := 0) rfl) (Nat.le_of_ble_eq_true rfl)) (Nat.le_of_ble_eq_true rfl) mt_X12_timetable ⟨rfl, ⟨_, rfl, (q_rng _).1, (q_rng _).2⟩, ⟨_, rfl, (q_rng _).1, (q_rng _).2⟩, trivial⟩ hT hO (fun n d => c_X12_timetable L xs n d v1 v2 S R) (fun r S1 R1 S2 R2 hT1 hO1 hr1 hF ee q => ?_)
  obtain ⟨v, hv, hRR, hf, hg⟩ := q
  rw [hg] at hP
  rw [← hv, ← hf]
  exact hq S1 R1 hT1 hO1 (z_K_m hP ee hF rfl)
theorem b_X12_months (v1 : Int32) (hT : v_Tb v_ty S R) (hO : v_Op S) (hP : z_P S R (g_X12_months v1 S)) (hq : ∀ S' R', v_Tb v_ty S' R' → v_Op S' → z_K S' R' → Q (some (.int (f_X12_months v1 S))) S' R') : w_T L xs 59 m_X12_months 0 (lv_args 0 [.ref 100, .int v1]) [] S R Q := by
  refine z_use (v_met 60 238 rw_212 (List.mem_of_getElem? (i := 0) rfl) (Nat.le_of_ble_eq_true rfl)) (Nat.le_of_ble_eq_true rfl) mt_X12_months ⟨rfl, ⟨_, rfl, (q_rng _).1, (q_rng _).2⟩, trivial⟩ hT hO (fun n d => c_X12_months L xs n d v1 S R) (fun r S1 R1 S2 R2 hT1 hO1 hr1 hF ee q => ?_)
  obtain ⟨v, hv, hRR, hf, hg⟩ := q
  rw [hg] at hP
  rw [← hv, ← hf]
  exact hq S1 R1 hT1 hO1 (z_K_m hP ee hF rfl)
theorem b_X12_gustIs (v1 v2 : Int32) (hT : v_Tb v_ty S R) (hO : v_Op S) (hP : z_P S R S) (hq : ∀ S' R', v_Tb v_ty S' R' → v_Op S' → z_K S' R' → Q (some (.int (f_X12_gustIs v1 v2 S))) S' R') : w_T L xs 59 m_X12_gustIs 0 (lv_args 0 [.ref 100, .int v1, .int v2]) [] S R Q := by
  refine z_use (v_met 60 243 rw_216 (List.mem_of_getElem? (i := 0) rfl) (Nat.le_of_ble_eq_true rfl)) (Nat.le_of_ble_eq_true rfl) mt_X12_gustIs ⟨rfl, ⟨_, rfl, (q_rng _).1, (q_rng _).2⟩, ⟨_, rfl, (q_rng _).1, (q_rng _).2⟩, trivial⟩ hT hO (fun n d => c_X12_gustIs L xs n d v1 v2 S R) (fun r S1 R1 S2 R2 hT1 hO1 hr1 hF ee q => ?_)
  obtain ⟨v, hv, hRR, hf, hg⟩ := q
  have hP : z_P S R S2 := by
    rw [← hg]
    exact hP
  rw [← hv, ← hf]
  exact hq S1 R1 hT1 hO1 (z_K_m hP ee hF rfl)
theorem b_X12_nurseIs (v1 v2 : Int32) (hT : v_Tb v_ty S R) (hO : v_Op S) (hP : z_P S R S) (hq : ∀ S' R', v_Tb v_ty S' R' → v_Op S' → z_K S' R' → Q (some (.int (f_X12_nurseIs v1 v2 S))) S' R') : w_T L xs 59 m_X12_nurseIs 0 (lv_args 0 [.ref 100, .int v1, .int v2]) [] S R Q := by
  refine z_use (v_met 60 247 rw_220 (List.mem_of_getElem? (i := 0) rfl) (Nat.le_of_ble_eq_true rfl)) (Nat.le_of_ble_eq_true rfl) mt_X12_nurseIs ⟨rfl, ⟨_, rfl, (q_rng _).1, (q_rng _).2⟩, ⟨_, rfl, (q_rng _).1, (q_rng _).2⟩, trivial⟩ hT hO (fun n d => c_X12_nurseIs L xs n d v1 v2 S R) (fun r S1 R1 S2 R2 hT1 hO1 hr1 hF ee q => ?_)
  obtain ⟨v, hv, hRR, hf, hg⟩ := q
  have hP : z_P S R S2 := by
    rw [← hg]
    exact hP
  rw [← hv, ← hf]
  exact hq S1 R1 hT1 hO1 (z_K_m hP ee hF rfl)
theorem b_X12_wind (v1 v2 v3 : Int32) (hT : v_Tb v_ty S R) (hO : v_Op S) (hP : z_P S R (g_X12_wind v1 v2 v3 S)) (hq : ∀ S' R', v_Tb v_ty S' R' → v_Op S' → z_K S' R' → Q (some (.int (f_X12_wind v1 v2 v3 S))) S' R') : w_T L xs 59 m_X12_wind 0 (lv_args 0 [.ref 100, .int v1, .int v2, .int v3]) [] S R Q := by
  refine z_use (v_met 60 260 rw_229 (List.mem_of_getElem? (i := 0) rfl) (Nat.le_of_ble_eq_true rfl)) (Nat.le_of_ble_eq_true rfl) mt_X12_wind ⟨rfl, ⟨_, rfl, (q_rng _).1, (q_rng _).2⟩, ⟨_, rfl, (q_rng _).1, (q_rng _).2⟩, ⟨_, rfl, (q_rng _).1, (q_rng _).2⟩, trivial⟩ hT hO (fun n d => c_X12_wind L xs n d v1 v2 v3 S R) (fun r S1 R1 S2 R2 hT1 hO1 hr1 hF ee q => ?_)
  obtain ⟨v, hv, hRR, hf, hg⟩ := q
  rw [hg] at hP
  rw [← hv, ← hf]
  exact hq S1 R1 hT1 hO1 (z_K_m hP ee hF rfl)
theorem b_X12_leaving (v1 v2 : Int32) (hT : v_Tb v_ty S R) (hO : v_Op S) (hP : z_P S R (g_X12_leaving v1 v2 S)) (hq : ∀ S' R', v_Tb v_ty S' R' → v_Op S' → z_K S' R' → Q (some (.int (f_X12_leaving v1 v2 S))) S' R') : w_T L xs 59 m_X12_leaving 0 (lv_args 0 [.ref 100, .int v1, .int v2]) [] S R Q := by
  refine z_use (v_met 60 264 rw_232 (List.mem_of_getElem? (i := 0) rfl) (Nat.le_of_ble_eq_true rfl)) (Nat.le_of_ble_eq_true rfl) mt_X12_leaving ⟨rfl, ⟨_, rfl, (q_rng _).1, (q_rng _).2⟩, ⟨_, rfl, (q_rng _).1, (q_rng _).2⟩, trivial⟩ hT hO (fun n d => c_X12_leaving L xs n d v1 v2 S R) (fun r S1 R1 S2 R2 hT1 hO1 hr1 hF ee q => ?_)
  obtain ⟨v, hv, hRR, hf, hg⟩ := q
  rw [hg] at hP
  rw [← hv, ← hf]
  exact hq S1 R1 hT1 hO1 (z_K_m hP ee hF rfl)
theorem b_X12_letGo (v1 : Int32) (hT : v_Tb v_ty S R) (hO : v_Op S) (hP : z_P S R (g_X12_letGo v1 S)) (hq : ∀ S' R', v_Tb v_ty S' R' → v_Op S' → z_K S' R' → Q (some (.int (f_X12_letGo v1 S))) S' R') : w_T L xs 59 m_X12_letGo 0 (lv_args 0 [.ref 100, .int v1]) [] S R Q := by
  refine z_use (v_met 60 265 rw_233 (List.mem_of_getElem? (i := 0) rfl) (Nat.le_of_ble_eq_true rfl)) (Nat.le_of_ble_eq_true rfl) mt_X12_letGo ⟨rfl, ⟨_, rfl, (q_rng _).1, (q_rng _).2⟩, trivial⟩ hT hO (fun n d => c_X12_letGo L xs n d v1 S R) (fun r S1 R1 S2 R2 hT1 hO1 hr1 hF ee q => ?_)
  obtain ⟨v, hv, hRR, hf, hg⟩ := q
  rw [hg] at hP
  rw [← hv, ← hf]
  exact hq S1 R1 hT1 hO1 (z_K_m hP ee hF rfl)
theorem b_X12_home (v1 v2 : Int32) (hT : v_Tb v_ty S R) (hO : v_Op S) (hP : z_P S R (g_X12_home v1 v2 S)) (hq : ∀ S' R', v_Tb v_ty S' R' → v_Op S' → z_K S' R' → Q (some (.int (f_X12_home v1 v2 S))) S' R') : w_T L xs 59 m_X12_home 0 (lv_args 0 [.ref 100, .int v1, .int v2]) [] S R Q := by
  refine z_use (v_met 60 266 rw_234 (List.mem_of_getElem? (i := 0) rfl) (Nat.le_of_ble_eq_true rfl)) (Nat.le_of_ble_eq_true rfl) mt_X12_home ⟨rfl, ⟨_, rfl, (q_rng _).1, (q_rng _).2⟩, ⟨_, rfl, (q_rng _).1, (q_rng _).2⟩, trivial⟩ hT hO (fun n d => c_X12_home L xs n d v1 v2 S R) (fun r S1 R1 S2 R2 hT1 hO1 hr1 hF ee q => ?_)
  obtain ⟨v, hv, hRR, hf, hg⟩ := q
  rw [hg] at hP
  rw [← hv, ← hf]
  exact hq S1 R1 hT1 hO1 (z_K_m hP ee hF rfl)
theorem b_X12_house (v1 v2 v3 : Int32) (hT : v_Tb v_ty S R) (hO : v_Op S) (hP : z_P S R (g_X12_house v1 v2 v3 S)) (hq : ∀ S' R', v_Tb v_ty S' R' → v_Op S' → z_K S' R' → Q (some (.int (f_X12_house v1 v2 v3 S))) S' R') : w_T L xs 59 m_X12_house 0 (lv_args 0 [.ref 100, .int v1, .int v2, .int v3]) [] S R Q := by
  refine z_use (v_met 60 272 rw_240 (List.mem_of_getElem? (i := 0) rfl) (Nat.le_of_ble_eq_true rfl)) (Nat.le_of_ble_eq_true rfl) mt_X12_house ⟨rfl, ⟨_, rfl, (q_rng _).1, (q_rng _).2⟩, ⟨_, rfl, (q_rng _).1, (q_rng _).2⟩, ⟨_, rfl, (q_rng _).1, (q_rng _).2⟩, trivial⟩ hT hO (fun n d => c_X12_house L xs n d v1 v2 v3 S R) (fun r S1 R1 S2 R2 hT1 hO1 hr1 hF ee q => ?_)
  obtain ⟨v, hv, hRR, hf, hg⟩ := q
  rw [hg] at hP
  rw [← hv, ← hf]
  exact hq S1 R1 hT1 hO1 (z_K_m hP ee hF rfl)
theorem b_X12_seed (v1 : Int32) (hT : v_Tb v_ty S R) (hO : v_Op S) (hP : z_P S R (g_X12_seed v1 S)) (hq : ∀ S' R', v_Tb v_ty S' R' → v_Op S' → z_K S' R' → Q (some (.int (f_X12_seed v1 S))) S' R') : w_T L xs 59 m_X12_seed 0 (lv_args 0 [.ref 100, .int v1]) [] S R Q := by
  refine z_use (v_met 60 293 rw_265 (List.mem_of_getElem? (i := 0) rfl) (Nat.le_of_ble_eq_true rfl)) (Nat.le_of_ble_eq_true rfl) mt_X12_seed ⟨rfl, ⟨_, rfl, (q_rng _).1, (q_rng _).2⟩, trivial⟩ hT hO (fun n d => c_X12_seed L xs n d v1 S R) (fun r S1 R1 S2 R2 hT1 hO1 hr1 hF ee q => ?_)
  obtain ⟨v, hv, hRR, hf, hg⟩ := q
  rw [hg] at hP
  rw [← hv, ← hf]
  exact hq S1 R1 hT1 hO1 (z_K_m hP ee hF rfl)
theorem b_X12_keep (hT : v_Tb v_ty S R) (hO : v_Op S) (hP : z_P S R (g_X12_keep S)) (hq : ∀ S' R', v_Tb v_ty S' R' → v_Op S' → z_K S' R' → Q (some (.int (f_X12_keep S))) S' R') : w_T L xs 59 m_X12_keep 0 (lv_args 0 [.ref 100]) [] S R Q := by
  refine z_use (v_met 60 294 rw_266 (List.mem_of_getElem? (i := 0) rfl) (Nat.le_of_ble_eq_true rfl)) (Nat.le_of_ble_eq_true rfl) mt_X12_keep ⟨rfl, trivial⟩ hT hO (fun n d => c_X12_keep L xs n d S R) (fun r S1 R1 S2 R2 hT1 hO1 hr1 hF ee q => ?_)
  obtain ⟨v, hv, hRR, hf, hg⟩ := q
  rw [hg] at hP
  rw [← hv, ← hf]
  exact hq S1 R1 hT1 hO1 (z_K_m hP ee hF rfl)
theorem b_X12_undo (hT : v_Tb v_ty S R) (hO : v_Op S) (hP : z_P S R (g_X12_undo S)) (hq : ∀ S' R', v_Tb v_ty S' R' → v_Op S' → z_K S' R' → Q (some (.int (f_X12_undo S))) S' R') : w_T L xs 59 m_X12_undo 0 (lv_args 0 [.ref 100]) [] S R Q := by
  refine z_use (v_met 60 295 rw_267 (List.mem_of_getElem? (i := 0) rfl) (Nat.le_of_ble_eq_true rfl)) (Nat.le_of_ble_eq_true rfl) mt_X12_undo ⟨rfl, trivial⟩ hT hO (fun n d => c_X12_undo L xs n d S R) (fun r S1 R1 S2 R2 hT1 hO1 hr1 hF ee q => ?_)
  obtain ⟨v, hv, hRR, hf, hg⟩ := q
  rw [hg] at hP
  rw [← hv, ← hf]
  exact hq S1 R1 hT1 hO1 (z_K_m hP ee hF rfl)
theorem b_X12_check (v1 : Int32) (hT : v_Tb v_ty S R) (hO : v_Op S) (hP : z_P S R (g_X12_check v1 S)) (hq : ∀ S' R', v_Tb v_ty S' R' → v_Op S' → z_K S' R' → Q (some (.int (f_X12_check v1 S))) S' R') : w_T L xs 59 m_X12_check 0 (lv_args 0 [.ref 100, .int v1]) [] S R Q := by
  refine z_use (v_met 60 296 rw_268 (List.mem_of_getElem? (i := 0) rfl) (Nat.le_of_ble_eq_true rfl)) (Nat.le_of_ble_eq_true rfl) mt_X12_check ⟨rfl, ⟨_, rfl, (q_rng _).1, (q_rng _).2⟩, trivial⟩ hT hO (fun n d => c_X12_check L xs n d v1 S R) (fun r S1 R1 S2 R2 hT1 hO1 hr1 hF ee q => ?_)
  obtain ⟨v, hv, hRR, hf, hg⟩ := q
  rw [hg] at hP
  rw [← hv, ← hf]
  exact hq S1 R1 hT1 hO1 (z_K_m hP ee hF rfl)
theorem b_X12_tried (v1 v2 : Int32) (hT : v_Tb v_ty S R) (hO : v_Op S) (hP : z_P S R (g_X12_tried v1 v2 S)) (hq : ∀ S' R', v_Tb v_ty S' R' → v_Op S' → z_K S' R' → Q (some (.int (f_X12_tried v1 v2 S))) S' R') : w_T L xs 59 m_X12_tried 0 (lv_args 0 [.ref 100, .int v1, .int v2]) [] S R Q := by
  refine z_use (v_met 60 241 rw_215 (List.mem_of_getElem? (i := 0) rfl) (Nat.le_of_ble_eq_true rfl)) (Nat.le_of_ble_eq_true rfl) mt_X12_tried ⟨rfl, ⟨_, rfl, (q_rng _).1, (q_rng _).2⟩, ⟨_, rfl, (q_rng _).1, (q_rng _).2⟩, trivial⟩ hT hO (fun n d => c_X12_tried L xs n d v1 v2 S R) (fun r S1 R1 S2 R2 hT1 hO1 hr1 hF ee q => ?_)
  obtain ⟨v, hv, hRR, hf, hg⟩ := q
  rw [hg] at hP
  rw [← hv, ← hf]
  exact hq S1 R1 hT1 hO1 (z_K_m hP ee hF rfl)
theorem b_X12_fair (v1 : Int32) (hT : v_Tb v_ty S R) (hO : v_Op S) (hP : z_P S R (g_X12_fair v1 S)) (hq : ∀ S' R', v_Tb v_ty S' R' → v_Op S' → z_K S' R' → Q (some (.int (f_X12_fair v1 S))) S' R') : w_T L xs 59 m_X12_fair 0 (lv_args 0 [.ref 100, .int v1]) [] S R Q := by
  refine z_use (v_met 60 279 rw_247 (List.mem_of_getElem? (i := 0) rfl) (Nat.le_of_ble_eq_true rfl)) (Nat.le_of_ble_eq_true rfl) mt_X12_fair ⟨rfl, ⟨_, rfl, (q_rng _).1, (q_rng _).2⟩, trivial⟩ hT hO (fun n d => c_X12_fair L xs n d v1 S R) (fun r S1 R1 S2 R2 hT1 hO1 hr1 hF ee q => ?_)
  obtain ⟨v, hv, hRR, hf, hg⟩ := q
  rw [hg] at hP
  rw [← hv, ← hf]
  exact hq S1 R1 hT1 hO1 (z_K_m hP ee hF rfl)
theorem b_X12_escaped (v1 v2 v3 v4 : Int32) (hT : v_Tb v_ty S R) (hO : v_Op S) (hP : z_P S R (g_X12_escaped v1 v2 v3 v4 S)) (hq : ∀ S' R', v_Tb v_ty S' R' → v_Op S' → z_K S' R' → Q (some (.int (f_X12_escaped v1 v2 v3 v4 S))) S' R') : w_T L xs 59 m_X12_escaped 0 (lv_args 0 [.ref 100, .int v1, .int v2, .int v3, .int v4]) [] S R Q := by
  refine z_use (v_met 60 285 rw_260 (List.mem_of_getElem? (i := 0) rfl) (Nat.le_of_ble_eq_true rfl)) (Nat.le_of_ble_eq_true rfl) mt_X12_escaped ⟨rfl, ⟨_, rfl, (q_rng _).1, (q_rng _).2⟩, ⟨_, rfl, (q_rng _).1, (q_rng _).2⟩, ⟨_, rfl, (q_rng _).1, (q_rng _).2⟩, ⟨_, rfl, (q_rng _).1, (q_rng _).2⟩, trivial⟩ hT hO (fun n d => c_X12_escaped L xs n d v1 v2 v3 v4 S R) (fun r S1 R1 S2 R2 hT1 hO1 hr1 hF ee q => ?_)
  obtain ⟨v, hv, hRR, hf, hg⟩ := q
  rw [hg] at hP
  rw [← hv, ← hf]
  exact hq S1 R1 hT1 hO1 (z_K_m hP ee hF rfl)
theorem b_X12_wardIs (v1 v2 : Int32) (hT : v_Tb v_ty S R) (hO : v_Op S) (hK : z_K S R) (hq : ∀ S' R' u, v_Tb v_ty S' R' → v_Op S' → z_K S' R' → Q (some (.int u)) S' R') : w_T L xs 59 m_X12_wardIs 0 (lv_args 0 [.ref 100, .int v1, .int v2]) [] S R Q := by
  refine w_met (v_met 60 246 rw_219 (List.mem_of_getElem? (i := 0) rfl) (Nat.le_of_ble_eq_true rfl)) (Nat.le_of_ble_eq_true rfl) mt_X12_wardIs ⟨rfl, ⟨_, rfl, (q_rng _).1, (q_rng _).2⟩, ⟨_, rfl, (q_rng _).1, (q_rng _).2⟩, trivial⟩ hT hO (fun r S1 R1 hT1 hO1 hr1 hF => ?_)
  obtain ⟨u, hu, -, -⟩ := hr1
  subst hu
  exact hq S1 R1 u hT1 hO1 (z_K_fr hK hF rfl)
theorem b_X12_quarrel (v1 v2 : Int32) (hT : v_Tb v_ty S R) (hO : v_Op S) (hK : z_K S R) (hq : ∀ S' R' u, v_Tb v_ty S' R' → v_Op S' → z_K S' R' → Q (some (.int u)) S' R') : w_T L xs 59 m_X12_quarrel 0 (lv_args 0 [.ref 100, .int v1, .int v2]) [] S R Q := by
  refine w_met (v_met 60 248 rw_221 (List.mem_of_getElem? (i := 0) rfl) (Nat.le_of_ble_eq_true rfl)) (Nat.le_of_ble_eq_true rfl) mt_X12_quarrel ⟨rfl, ⟨_, rfl, (q_rng _).1, (q_rng _).2⟩, ⟨_, rfl, (q_rng _).1, (q_rng _).2⟩, trivial⟩ hT hO (fun r S1 R1 hT1 hO1 hr1 hF => ?_)
  obtain ⟨u, hu, -, -⟩ := hr1
  subst hu
  exact hq S1 R1 u hT1 hO1 (z_K_fr hK hF rfl)
theorem b_X12_housed (v1 v2 v3 : Int32) (hT : v_Tb v_ty S R) (hO : v_Op S) (hK : z_K S R) (hq : ∀ S' R' u, v_Tb v_ty S' R' → v_Op S' → z_K S' R' → Q (some (.int u)) S' R') : w_T L xs 59 m_X12_housed 0 (lv_args 0 [.ref 100, .int v1, .int v2, .int v3]) [] S R Q := by
  refine w_met (v_met 60 259 rw_228 (List.mem_of_getElem? (i := 0) rfl) (Nat.le_of_ble_eq_true rfl)) (Nat.le_of_ble_eq_true rfl) mt_X12_housed ⟨rfl, ⟨_, rfl, (q_rng _).1, (q_rng _).2⟩, ⟨_, rfl, (q_rng _).1, (q_rng _).2⟩, ⟨_, rfl, (q_rng _).1, (q_rng _).2⟩, trivial⟩ hT hO (fun r S1 R1 hT1 hO1 hr1 hF => ?_)
  obtain ⟨u, hu, -, -⟩ := hr1
  subst hu
  exact hq S1 R1 u hT1 hO1 (z_K_fr hK hF rfl)
theorem b_X12_from (v1 v2 v3 : Int32) (hT : v_Tb v_ty S R) (hO : v_Op S) (hK : z_K S R) (hq : ∀ S' R' u, v_Tb v_ty S' R' → v_Op S' → z_K S' R' → Q (some (.int u)) S' R') : w_T L xs 59 m_X12_from 0 (lv_args 0 [.ref 100, .int v1, .int v2, .int v3]) [] S R Q := by
  refine w_met (v_met 60 269 rw_237 (List.mem_of_getElem? (i := 0) rfl) (Nat.le_of_ble_eq_true rfl)) (Nat.le_of_ble_eq_true rfl) mt_X12_from ⟨rfl, ⟨_, rfl, (q_rng _).1, (q_rng _).2⟩, ⟨_, rfl, (q_rng _).1, (q_rng _).2⟩, ⟨_, rfl, (q_rng _).1, (q_rng _).2⟩, trivial⟩ hT hO (fun r S1 R1 hT1 hO1 hr1 hF => ?_)
  obtain ⟨u, hu, -, -⟩ := hr1
  subst hu
  exact hq S1 R1 u hT1 hO1 (z_K_fr hK hF rfl)
theorem b_X12_taught (v1 v2 v3 : Int32) (hT : v_Tb v_ty S R) (hO : v_Op S) (hK : z_K S R) (hq : ∀ S' R' u, v_Tb v_ty S' R' → v_Op S' → z_K S' R' → Q (some (.int u)) S' R') : w_T L xs 59 m_X12_taught 0 (lv_args 0 [.ref 100, .int v1, .int v2, .int v3]) [] S R Q := by
  refine w_met (v_met 60 271 rw_239 (List.mem_of_getElem? (i := 0) rfl) (Nat.le_of_ble_eq_true rfl)) (Nat.le_of_ble_eq_true rfl) mt_X12_taught ⟨rfl, ⟨_, rfl, (q_rng _).1, (q_rng _).2⟩, ⟨_, rfl, (q_rng _).1, (q_rng _).2⟩, ⟨_, rfl, (q_rng _).1, (q_rng _).2⟩, trivial⟩ hT hO (fun r S1 R1 hT1 hO1 hr1 hF => ?_)
  obtain ⟨u, hu, -, -⟩ := hr1
  subst hu
  exact hq S1 R1 u hT1 hO1 (z_K_fr hK hF rfl)
theorem b_X12_placed (v1 v2 : Int32) (hT : v_Tb v_ty S R) (hO : v_Op S) (hK : z_K S R) (hq : ∀ S' R' u, v_Tb v_ty S' R' → v_Op S' → z_K S' R' → Q (some (.int u)) S' R') : w_T L xs 59 m_X12_placed 0 (lv_args 0 [.ref 100, .int v1, .int v2]) [] S R Q := by
  refine w_met (v_met 60 278 rw_246 (List.mem_of_getElem? (i := 0) rfl) (Nat.le_of_ble_eq_true rfl)) (Nat.le_of_ble_eq_true rfl) mt_X12_placed ⟨rfl, ⟨_, rfl, (q_rng _).1, (q_rng _).2⟩, ⟨_, rfl, (q_rng _).1, (q_rng _).2⟩, trivial⟩ hT hO (fun r S1 R1 hT1 hO1 hr1 hF => ?_)
  obtain ⟨u, hu, -, -⟩ := hr1
  subst hu
  exact hq S1 R1 u hT1 hO1 (z_K_fr hK hF rfl)
theorem b_X12_nursed (v1 v2 v3 : Int32) (hT : v_Tb v_ty S R) (hO : v_Op S) (hK : z_K S R) (hq : ∀ S' R' u, v_Tb v_ty S' R' → v_Op S' → z_K S' R' → Q (some (.int u)) S' R') : w_T L xs 59 m_X12_nursed 0 (lv_args 0 [.ref 100, .int v1, .int v2, .int v3]) [] S R Q := by
  refine w_met (v_met 60 288 rw_262 (List.mem_of_getElem? (i := 0) rfl) (Nat.le_of_ble_eq_true rfl)) (Nat.le_of_ble_eq_true rfl) mt_X12_nursed ⟨rfl, ⟨_, rfl, (q_rng _).1, (q_rng _).2⟩, ⟨_, rfl, (q_rng _).1, (q_rng _).2⟩, ⟨_, rfl, (q_rng _).1, (q_rng _).2⟩, trivial⟩ hT hO (fun r S1 R1 hT1 hO1 hr1 hF => ?_)
  obtain ⟨u, hu, -, -⟩ := hr1
  subst hu
  exact hq S1 R1 u hT1 hO1 (z_K_fr hK hF rfl)
theorem b_X12_round (v1 v2 : Int32) (hT : v_Tb v_ty S R) (hO : v_Op S) (hK : z_K S R) (hq : ∀ S' R' u, v_Tb v_ty S' R' → v_Op S' → z_K S' R' → Q (some (.int u)) S' R') : w_T L xs 59 m_X12_round 0 (lv_args 0 [.ref 100, .int v1, .int v2]) [] S R Q := by
  refine w_met (v_met 60 290 rw_263 (List.mem_of_getElem? (i := 0) rfl) (Nat.le_of_ble_eq_true rfl)) (Nat.le_of_ble_eq_true rfl) mt_X12_round ⟨rfl, ⟨_, rfl, (q_rng _).1, (q_rng _).2⟩, ⟨_, rfl, (q_rng _).1, (q_rng _).2⟩, trivial⟩ hT hO (fun r S1 R1 hT1 hO1 hr1 hF => ?_)
  obtain ⟨u, hu, -, -⟩ := hr1
  subst hu
  exact hq S1 R1 u hT1 hO1 (z_K_fr hK hF rfl)
theorem b_X12_added (v1 v2 : Int32) (hT : v_Tb v_ty S R) (hO : v_Op S) (hK : z_K S R) (hq : ∀ S' R' u, v_Tb v_ty S' R' → v_Op S' → z_K S' R' → Q (some (.int u)) S' R') : w_T L xs 59 m_X12_added 0 (lv_args 0 [.ref 100, .int v1, .int v2]) [] S R Q := by
  refine w_met (v_met 60 292 rw_264 (List.mem_of_getElem? (i := 0) rfl) (Nat.le_of_ble_eq_true rfl)) (Nat.le_of_ble_eq_true rfl) mt_X12_added ⟨rfl, ⟨_, rfl, (q_rng _).1, (q_rng _).2⟩, ⟨_, rfl, (q_rng _).1, (q_rng _).2⟩, trivial⟩ hT hO (fun r S1 R1 hT1 hO1 hr1 hF => ?_)
  obtain ⟨u, hu, -, -⟩ := hr1
  subst hu
  exact hq S1 R1 u hT1 hO1 (z_K_fr hK hF rfl)
theorem b_X12_count (v1 : Int32) (hT : v_Tb v_ty S R) (hO : v_Op S) (hK : z_K S R) (hq : ∀ S' R' u, v_Tb v_ty S' R' → v_Op S' → z_K S' R' → Q (some (.int u)) S' R') : w_T L xs 59 m_X12_count 0 (lv_args 0 [.ref 100, .int v1]) [] S R Q := by
  refine w_met (v_met 60 298 rw_270 (List.mem_of_getElem? (i := 0) rfl) (Nat.le_of_ble_eq_true rfl)) (Nat.le_of_ble_eq_true rfl) mt_X12_count ⟨rfl, ⟨_, rfl, (q_rng _).1, (q_rng _).2⟩, trivial⟩ hT hO (fun r S1 R1 hT1 hO1 hr1 hF => ?_)
  obtain ⟨u, hu, -, -⟩ := hr1
  subst hu
  exact hq S1 R1 u hT1 hO1 (z_K_fr hK hF rfl)
end CA
