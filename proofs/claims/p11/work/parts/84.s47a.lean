/-! the relation along a run of calls -/
noncomputable def z_ia (a : Nat) : Bool := match v_ty a with
  | some (.inl _) => true
  | _ => false
noncomputable def z_if (a j : Nat) : Bool := match v_ty a with
  | some (.inr (.inr c)) => (match c.2[j]? with
    | some (.inl _) => true
    | _ => false)
  | _ => false
noncomputable def z_eqC (S S' : v_Sf) : Prop := (∀ a, a < 99 → z_ia a = true → S' a = S a) ∧ (∀ a j, a < 99 → z_if a j = true → S' a j = S a j)
noncomputable def z_eqM (S S' : v_Sf) : Prop := (∀ a, 99 ≤ a → z_ia a = true → S' a = S a) ∧ (∀ a j, 99 ≤ a → z_if a j = true → S' a j = S a j)
theorem z_mkE {S1 S2 : v_Sf} {R1 R2 : v_Rf} (e : v_mk v_ty S1 R1 = v_mk v_ty S2 R2) {a : Nat} {c : v_Ct} (h : v_ty a = some c) : v_cell S1 R1 a (some c) = v_cell S2 R2 a (some c) := by
  have g1 := w_ty h S1 R1
  have g2 := w_ty h S2 R2
  rw [e, g2] at g1
  exact (Option.some.inj g1).symm
theorem z_mk_a {S1 S2 : v_Sf} {R1 R2 : v_Rf} (e : v_mk v_ty S1 R1 = v_mk v_ty S2 R2) {a : Nat} (h : z_ia a = true) : S1 a = S2 a := by
  unfold z_ia at h
  cases t : v_ty a with
  | none =>
    rw [t] at h
    exact Bool.noConfusion h
  | some c =>
    rw [t] at h
    rcases c with ⟨tg, n, b⟩ | c
    · have h2 : (Sum.inl (tg, n, Sum.inl (S1 a)) : g_Ce) = Sum.inl (tg, n, Sum.inl (S2 a)) := z_mkE e t
      injection h2 with h2
      injection h2 with _ h2
      injection h2 with _ h2
      injection h2
    · exact Bool.noConfusion h
theorem z_mk_fv {S1 S2 : v_Sf} {R1 R2 : v_Rf} (e : v_mk v_ty S1 R1 = v_mk v_ty S2 R2) {a j ci : Nat} {fs : List v_Ft} {ft : v_Ft} (t : v_ty a = some (.inr (.inr (ci, fs)))) (hf : fs[j]? = some ft) : v_fv S1 R1 a j ft = v_fv S2 R2 a j ft := by
  have h2 : (Sum.inr (ci, fs.mapIdx (fun j ft => v_fv S1 R1 a j ft)) : g_Ce) = Sum.inr (ci, fs.mapIdx (fun j ft => v_fv S2 R2 a j ft)) := z_mkE e t
  injection h2 with h2
  injection h2 with _ h2
  have g1 := v_fs_at (S := S1) (R := R1) (a := a) hf
  have g2 := v_fs_at (S := S2) (R := R2) (a := a) hf
  rw [h2, g2] at g1
  exact (Option.some.inj g1).symm
theorem z_mk_f {S1 S2 : v_Sf} {R1 R2 : v_Rf} (e : v_mk v_ty S1 R1 = v_mk v_ty S2 R2) {a j : Nat} (h : z_if a j = true) : S1 a j = S2 a j := by
  unfold z_if at h
  cases t : v_ty a with
  | none =>
    rw [t] at h
    exact Bool.noConfusion h
  | some c =>
    rw [t] at h
    rcases c with c | c | ⟨ci, fs⟩
    · exact Bool.noConfusion h
    · exact Bool.noConfusion h
    · cases hf : fs[j]? with
      | none =>
        simp only [hf] at h
        exact Bool.noConfusion h
      | some ft =>
        simp only [hf] at h
        rcases ft with b | ft
        · have h3 : Value.int (S1 a j) = Value.int (S2 a j) := z_mk_fv e t hf
          injection h3
        · exact Bool.noConfusion h
theorem z_rfi {x y : Option Nat} (h : va_rf x = va_rf y) : x = y := by
  cases x <;> cases y <;> simp_all [va_rf]
theorem z_mk_r {S1 S2 : v_Sf} {R1 R2 : v_Rf} (e : v_mk v_ty S1 R1 = v_mk v_ty S2 R2) {a j ci : Nat} {fs : List v_Ft} {l : List Nat} (t : v_ty a = some (.inr (.inr (ci, fs)))) (hf : fs[j]? = some (.inr (.inr l))) : R1 a j = R2 a j := z_rfi (z_mk_fv e t hf)
theorem z_iac {c : Nat} (hc : z_cd c) : z_ia (c + 1) = true ∧ z_ia (c + 2) = true ∧ z_ia (c + 4) = true ∧ z_ia (c + 5) = true ∧ z_ia (c + 6) = true ∧ z_if c 6 = true ∧ z_if c 7 = true := by
  rcases hc with rfl | rfl | rfl
  · exact ⟨rfl, rfl, rfl, rfl, rfl, rfl, rfl⟩
  · exact ⟨rfl, rfl, rfl, rfl, rfl, rfl, rfl⟩
  · exact ⟨rfl, rfl, rfl, rfl, rfl, rfl, rfl⟩
theorem z_iaw : ∀ w, w < 6 → z_ia (33 + 2 * w + 1) = true ∧ z_if (33 + 2 * w) 1 = true ∧ z_if (33 + 2 * w) 2 = true ∧ z_if (33 + 2 * w) 3 = true ∧ z_if (33 + 2 * w) 4 = true
  | 0, _ => ⟨rfl, rfl, rfl, rfl, rfl⟩
  | 1, _ => ⟨rfl, rfl, rfl, rfl, rfl⟩
  | 2, _ => ⟨rfl, rfl, rfl, rfl, rfl⟩
  | 3, _ => ⟨rfl, rfl, rfl, rfl, rfl⟩
  | 4, _ => ⟨rfl, rfl, rfl, rfl, rfl⟩
  | 5, _ => ⟨rfl, rfl, rfl, rfl, rfl⟩
theorem z_LawR_q {c : Nat} {S S' T T' : v_Sf} {nc : Nat} (h : z_LawR c S T nc) (f6 : S' c 6 = S c 6) (f7 : S' c 7 = S c 7) (f2 : S' (c + 1) = S (c + 1)) (f3 : S' (c + 2) = S (c + 2)) (f4 : S' (c + 4) = S (c + 4)) (f5 : S' (c + 5) = S (c + 5)) (f8 : S' (c + 6) = S (c + 6)) (g1 : T' 101 = T 101) (g2 : T' 102 = T 102) (g3 : T' 103 = T 103) (g4 : T' 104 = T 104) (g5 : T' 105 = T 105) (g6 : T' 106 = T 106) : z_LawR c S' T' nc := by
  unfold z_LawR z_lwA z_lwC at h ⊢
  rw [f6, f7, f2, f3, f4, f5, f8, g1, g2, g3, g4, g5, g6]
  exact h
theorem z_Rel_q {c b : Nat} (hc : z_cd c) (hb : z_cd b) {S T S' T' : v_Sf} (h : z_Rel c b S T) (f : z_eqC S S') (g : z_eqM T T') : z_Rel c b S' T' := by
  have hcn := z_cdl hc
  have hbn := z_cdl hb
  obtain ⟨⟨nc, ⟨a1, a2, a3, a4, a5, a6, a7, a8, a9, a10, a12, a13, a14⟩, b1, b3, b4, b5⟩, ⟨p1, p2, p3⟩, ⟨t1, t2, t3⟩, ⟨k1, k2⟩, ⟨o1, o2, o3, o4, o5, o6, o7, o8⟩, h17, h25⟩ := h
  obtain ⟨c1, c2, c4, c5, c6, cf6, cf7⟩ := z_iac hc
  obtain ⟨-, -, -, -, -, -, bf7⟩ := z_iac hb
  have m99 : ∀ j, z_if 99 j = true → T' 99 j = T 99 j := fun j q => g.2 99 j (by omega) q
  refine ⟨⟨nc, ⟨?_, ?_, ?_, ?_, ?_, ?_, ?_, ?_, ?_, ?_, ?_, ?_, ?_⟩, fun w hw => ?_, ?_, ?_, ?_⟩, ⟨?_, fun w hw => ?_, ?_⟩, ⟨?_, ?_, ?_⟩, ⟨?_, fun q => ?_⟩, ⟨?_, ?_, ?_, ?_, ?_, ?_, ?_, ?_⟩, ?_, ?_⟩
  · rw [f.2 1 0 (by omega) rfl, g.1 116 (by omega) rfl]
    exact a1
  · rw [f.1 (1 + 1) (by omega) rfl, g.1 117 (by omega) rfl]
    exact a2
  · rw [f.1 (1 + 2) (by omega) rfl, g.1 116 (by omega) rfl, g.1 118 (by omega) rfl]
    exact a3
  · rw [f.1 (1 + 3) (by omega) rfl, g.1 119 (by omega) rfl]
    exact a4
  · rw [f.1 (1 + 4) (by omega) rfl, g.1 120 (by omega) rfl]
    exact a5
  · rw [f.1 (1 + 5) (by omega) rfl, g.1 121 (by omega) rfl]
    exact a6
  · rw [f.1 (1 + 6) (by omega) rfl, g.1 122 (by omega) rfl]
    exact a7
  · rw [f.2 1 7 (by omega) rfl, g.1 129 (by omega) rfl]
    exact a8
  · rw [f.1 (1 + 7) (by omega) rfl, g.1 130 (by omega) rfl]
    exact a9
  · rw [f.1 (1 + 8) (by omega) rfl, g.1 131 (by omega) rfl]
    exact a10
  · rw [f.2 1 11 (by omega) rfl, m99 60 rfl]
    exact a12
  · rw [f.2 1 12 (by omega) rfl, m99 61 rfl]
    exact a13
  · rw [f.2 1 13 (by omega) rfl, m99 62 rfl]
    exact a14
  · obtain ⟨w0, w1, w2, w3, w4⟩ := z_iaw w hw
    rw [f.2 _ 1 (by omega) w1, f.2 _ 2 (by omega) w2, f.2 _ 3 (by omega) w3, f.2 _ 4 (by omega) w4, f.1 _ (by omega) w0, g.1 123 (by omega) rfl, g.1 124 (by omega) rfl, g.1 125 (by omega) rfl, g.1 126 (by omega) rfl, g.1 127 (by omega) rfl]
    exact b1 w hw
  · rw [f.1 48 (by omega) rfl, g.1 132 (by omega) rfl]
    exact b3
  · exact z_LawR_q b4 (f.2 _ _ (by omega) cf6) (f.2 _ _ (by omega) cf7) (f.1 _ (by omega) c1) (f.1 _ (by omega) c2) (f.1 _ (by omega) c4) (f.1 _ (by omega) c5) (f.1 _ (by omega) c6) (g.1 _ (by omega) rfl) (g.1 _ (by omega) rfl) (g.1 _ (by omega) rfl) (g.1 _ (by omega) rfl) (g.1 _ (by omega) rfl) (g.1 _ (by omega) rfl)
  · rw [m99 16 rfl]
    exact b5
  · rw [f.1 (1 + 9) (by omega) rfl, g.1 128 (by omega) rfl]
    exact p1
  · rw [g.1 128 (by omega) rfl, g.1 127 (by omega) rfl]
    exact p2 w hw
  · rw [f.2 1 14 (by omega) rfl, m99 2 rfl]
    exact p3
  · rw [f.1 46 (by omega) rfl, g.1 100 (by omega) rfl]
    exact t1
  · rw [f.2 45 1 (by omega) rfl, m99 1 rfl]
    exact t2
  · rw [m99 1 rfl]
    exact t3
  · rw [f.2 0 14 (by omega) rfl, m99 92 rfl]
    exact k1
  · rw [m99 92 rfl] at q
    have ks := k2 q
    unfold z_Ks at ks ⊢
    rw [f.2 11 0 (by omega) rfl, f.2 11 7 (by omega) rfl, f.2 11 11 (by omega) rfl, f.2 11 12 (by omega) rfl, f.2 11 13 (by omega) rfl, f.2 11 14 (by omega) rfl, f.1 12 (by omega) rfl, f.1 13 (by omega) rfl, f.1 14 (by omega) rfl, f.1 15 (by omega) rfl, f.1 16 (by omega) rfl, f.1 17 (by omega) rfl, f.1 18 (by omega) rfl, f.1 19 (by omega) rfl, f.1 20 (by omega) rfl, g.1 137 (by omega) rfl, g.1 138 (by omega) rfl, g.1 139 (by omega) rfl, g.1 140 (by omega) rfl, g.1 141 (by omega) rfl, g.1 142 (by omega) rfl, g.1 143 (by omega) rfl, g.1 144 (by omega) rfl, g.1 145 (by omega) rfl, g.1 146 (by omega) rfl, g.1 147 (by omega) rfl, g.1 148 (by omega) rfl, g.1 149 (by omega) rfl, g.1 150 (by omega) rfl, g.1 151 (by omega) rfl]
    exact ks
  · rw [f.2 86 0 (by omega) rfl, g.1 156 (by omega) rfl]
    exact o1
  · rw [f.1 87 (by omega) rfl, g.1 157 (by omega) rfl]
    exact o2
  · rw [f.1 88 (by omega) rfl, g.1 158 (by omega) rfl]
    exact o3
  · rw [f.2 0 13 (by omega) rfl, g.1 159 (by omega) rfl]
    exact o4
  · rw [f.1 31 (by omega) rfl, g.1 160 (by omega) rfl]
    exact o5
  · rw [f.2 94 0 (by omega) rfl, g.1 162 (by omega) rfl]
    exact o6
  · rw [f.1 95 (by omega) rfl, g.1 163 (by omega) rfl]
    exact o7
  · rw [f.1 96 (by omega) rfl, g.1 164 (by omega) rfl]
    exact o8
  · rw [f.2 b 7 (by omega) bf7, m99 17 rfl]
    exact h17
  · rw [m99 25 rfl]
    exact h25
/-! what a row's call may change -/
theorem z_md_ex : ∀ {m : List (Nat × Nat × Nat)} {a lo hi : Nat}, v_md m a lo hi = true → ∃ t ∈ m, t.1 = a ∧ t.2.1 ≤ lo ∧ hi ≤ t.2.2
  | [], _, _, _, h => Bool.noConfusion h
  | t :: m, a, lo, hi, h => by
    have h : (bif Nat.beq t.1 a && (Nat.ble t.2.1 lo && Nat.ble hi t.2.2) then true else v_md m a lo hi) = true := h
    cases e : (Nat.beq t.1 a && (Nat.ble t.2.1 lo && Nat.ble hi t.2.2)) with
    | true =>
      simp only [Bool.and_eq_true, Nat.beq_eq, Nat.ble_eq] at e
      exact ⟨t, List.mem_cons_self, e.1, e.2.1, e.2.2⟩
    | false =>
      rw [e] at h
      obtain ⟨u, h1, h2⟩ := z_md_ex (m := m) h
      exact ⟨u, List.mem_cons_of_mem _ h1, h2⟩
theorem z_md_no {m : List (Nat × Nat × Nat)} {a j : Nat} (h : ∀ t ∈ m, ¬ (t.1 = a ∧ t.2.1 ≤ j ∧ j ≤ t.2.2)) : v_md m a j j = false := by
  cases e : v_md m a j j with
  | false => rfl
  | true =>
    obtain ⟨t, h1, h2⟩ := z_md_ex e
    exact absurd h2 (h t h1)
theorem z_md_c {m : List (Nat × Nat × Nat)} (h : m.all (fun t => Nat.blt t.1 99) = true) {a j : Nat} (ha : 99 ≤ a) : v_md m a j j = false := z_md_no (fun t ht q => by
  have := List.all_eq_true.mp h t ht
  have := Nat.le_of_ble_eq_true this
  omega)
theorem z_md_m {m : List (Nat × Nat × Nat)} (h : m.all (fun t => Nat.ble 99 t.1) = true) {a j : Nat} (ha : a < 99) : v_md m a j j = false := z_md_no (fun t ht q => by
  have := List.all_eq_true.mp h t ht
  have := Nat.le_of_ble_eq_true this
  omega)
/-- a row that changes nothing that the relation speaks of -/
noncomputable def z_frb (t : Nat × Nat × Nat) : Bool := decide ((21 ≤ t.1 ∧ t.1 ≤ 30) ∨ t.1 = 47 ∨ t.1 = 49 ∨ t.1 = 51 ∨ t.1 = 55 ∨ t.1 = 62 ∨ t.1 = 70 ∨ (75 ≤ t.1 ∧ t.1 ≤ 85) ∨ (89 ≤ t.1 ∧ t.1 ≤ 93) ∨ t.1 = 97 ∨ t.1 = 98 ∨ (t.1 = 99 ∧ ((27 ≤ t.2.1 ∧ t.2.2 ≤ 40) ∨ (70 ≤ t.2.1 ∧ t.2.2 ≤ 76) ∨ 93 ≤ t.2.1)) ∨ (107 ≤ t.1 ∧ t.1 ≤ 115) ∨ (133 ≤ t.1 ∧ t.1 ≤ 136) ∨ (152 ≤ t.1 ∧ t.1 ≤ 155) ∨ t.1 = 161 ∨ 165 ≤ t.1)
noncomputable def z_Kr (c b e : Nat) (R : v_Rf) : Prop := z_cd c ∧ z_cd b ∧ z_cd e ∧ (c ≠ b ∧ e ≠ c ∧ e ≠ b) ∧ R 50 2 = some (c + 1) ∧ R 50 3 = some (b + 1) ∧ R 66 1 = some (e + 1) ∧ z_W R
/-- both objects alike -/
noncomputable def z_K (S : v_Sf) (R : v_Rf) : Prop := ∃ c b e, z_Kr c b e R ∧ z_Rel c b S S
/-- the class's call is done, the reference's is still to come: then it holds T -/
noncomputable def z_P (S : v_Sf) (R : v_Rf) (T : v_Sf) : Prop := ∃ c b e Sg, z_Kr c b e R ∧ z_eqC Sg S ∧ z_Rel c b Sg T
theorem z_Kr_f {c b e : Nat} {R R1 : v_Rf} (h : z_Kr c b e R) (f : ∀ a j, (a = 32 ∨ a = 50 ∨ a = 66 ∧ j = 1) → R1 a j = R a j) : z_Kr c b e R1 := by
  obtain ⟨h1, h2, h3, h4, h5, h6, h7, h8⟩ := h
  refine ⟨h1, h2, h3, h4, ?_, ?_, ?_, fun i hi => ?_⟩
  · rw [f 50 2 (by omega)]
    exact h5
  · rw [f 50 3 (by omega)]
    exact h6
  · rw [f 66 1 (by omega)]
    exact h7
  · rw [f 32 i (by omega)]
    exact h8 i hi
theorem z_K_fr {S S1 : v_Sf} {R R1 : v_Rf} {m : List (Nat × Nat × Nat)} (h : z_K S R) (hF : v_Fr m S R S1 R1) (hm : m.all z_frb = true) : z_K S1 R1 := by
  have no : ∀ a j, (a ≤ 20 ∨ a = 31 ∨ a = 32 ∨ 33 ≤ a ∧ a ≤ 46 ∨ a = 48 ∨ a = 50 ∨ 52 ≤ a ∧ a ≤ 54 ∨ 56 ≤ a ∧ a ≤ 61 ∨ 63 ≤ a ∧ a ≤ 69 ∨ 71 ≤ a ∧ a ≤ 73 ∨ 86 ≤ a ∧ a ≤ 88 ∨ 94 ≤ a ∧ a ≤ 96 ∨ a = 99 ∧ (j = 1 ∨ j = 2 ∨ j = 16 ∨ j = 17 ∨ j = 25 ∨ 60 ≤ j ∧ j ≤ 62 ∨ j = 92) ∨ 100 ≤ a ∧ a ≤ 106 ∨ 116 ≤ a ∧ a ≤ 132 ∨ 137 ≤ a ∧ a ≤ 151 ∨ 156 ≤ a ∧ a ≤ 160 ∨ 162 ≤ a ∧ a ≤ 164) → v_md m a j j = false := fun a j q => z_md_no (fun t ht r => by
    have h1 := List.all_eq_true.mp hm t ht
    unfold z_frb at h1
    have h2 := of_decide_eq_true h1
    obtain ⟨r1, r2, r3⟩ := r
    rw [r1] at h2
    rcases h2 with h2 | h2 | h2 | h2 | h2 | h2 | h2 | h2 | h2 | h2 | h2 | h2 | h2 | h2 | h2 | h2 | h2 <;> rcases q with q | q | q | q | q | q | q | q | q | q | q | q | q | q | q | q | q | q <;> omega)
  obtain ⟨c, b, e, hr, hR⟩ := h
  have hcn := z_cdl hr.1
  have hbn := z_cdl hr.2.1
  refine ⟨c, b, e, z_Kr_f hr (fun a j q => (hF a j (no a j ?_)).2), z_Rel_fr hr.1 hr.2.1 hR (fun a j q => (hF a j (no a j ?_)).1) (fun a j q => (hF a j (no a j ?_)).1)⟩
  · rcases q with q | q | q <;> omega
  · rcases hcn with e1 | e1 | e1 <;> rcases hbn with e2 | e2 | e2 <;> rcases q with q | q | q | q | q | q | q | q | q | q | q | q <;> omega
  · rcases q with q | q | q | q | q | q <;> omega
section US
variable {L : Nat} {xs : Nat → Int32} {S : v_Sf} {R : v_Rf} {Q : Option Value → v_Sf → v_Rf → Prop}
/-- a call that is known to end, and of which it is known what it leaves if it ends -/
theorem z_use {x d' : Nat} {w : v_Rw} (hm : v_Met L xs v_ty v_Op x w) (hd : w.1 ≤ d') {M' : g_M} (hM : g_mt x = some M') {ac : List Value} (ha : q_al2 v_ac1 w.2.1 ac) (hT : v_Tb v_ty S R) (hO : v_Op S) {Qf : Option Value → v_Sf → v_Rf → Prop} (hu : ∀ n d, u_P L xs n d M' 0 (lv_args 0 ac) [] S R Qf) (k : ∀ r S1 R1 S2 R2, v_Tb v_ty S1 R1 → v_Op S1 → v_rk1 w.2.2.1 r → v_Fr w.2.2.2 S R S1 R1 → v_mk v_ty S1 R1 = v_mk v_ty S2 R2 → Qf r S2 R2 → Q r S1 R1) : w_T L xs d' M' 0 (lv_args 0 ac) [] S R Q := by
  obtain ⟨n, r, S', R', a1, a2, a3, a4, a5⟩ := hm M' hM ac S R ha hT hO
  obtain ⟨S2, R2, e, q⟩ := u_use (a1 0) (hu _ _)
  exact ⟨n, r, S', R', fun e => g_run_d _ _ _ _ _ _ _ _ _ _ _ hd (a1 e), k r S' R' S2 R2 a2 a3 a4 a5 e q⟩
end US
/-- the class's call -/
theorem z_K_c {c1 b1 e1 : Nat} {S1 S2 T : v_Sf} {R1 R2 : v_Rf} (hr : z_Kr c1 b1 e1 R1) (ee : v_mk v_ty S1 R1 = v_mk v_ty S2 R2) (h : z_Rel c1 b1 S2 T) : z_P S1 R1 T := ⟨c1, b1, e1, S2, hr, ⟨fun a _ q => z_mk_a ee q, fun a j _ q => z_mk_f ee q⟩, h⟩
theorem z_K_T {c b : Nat} (hc : z_cd c) (hb : z_cd b) {S S1 : v_Sf} {R R1 : v_Rf} {m : List (Nat × Nat × Nat)} (h : z_Rel c b S S) (hF : v_Fr m S R S1 R1) (hm : m.all (fun t => Nat.blt t.1 99) = true) : z_Rel c b S S1 := z_Rel_fr hc hb h (fun a j q => rfl) (fun a j q => (hF a j (z_md_c hm (by omega))).1)
/-- the reference's call -/
theorem z_K_m {S S1 S2 : v_Sf} {R R1 R2 : v_Rf} {m : List (Nat × Nat × Nat)} (h : z_P S R S2) (ee : v_mk v_ty S1 R1 = v_mk v_ty S2 R2) (hF : v_Fr m S R S1 R1) (hm : m.all (fun t => Nat.ble 99 t.1) = true) : z_K S1 R1 := by
  obtain ⟨c, b, e, Sg, hr, hq, hR⟩ := h
  have fr : ∀ a j, a < 99 → S1 a j = S a j ∧ R1 a j = R a j := fun a j q => hF a j (z_md_m hm q)
  exact ⟨c, b, e, z_Kr_f hr (fun a j q => (fr a j (by omega)).2), z_Rel_q hr.1 hr.2.1 hR ⟨fun a h1 h2 => (funext fun j => (fr a j h1).1).trans (hq.1 a h1 h2), fun a j h1 h2 => (fr a j h1).1.trans (hq.2 a j h1 h2)⟩ ⟨fun a _ q => z_mk_a ee q, fun a j _ q => z_mk_f ee q⟩⟩
theorem z_01 {x : Int32} (h : 0 ≤ x.toInt ∧ x.toInt ≤ 1) : x = 0 ∨ x = Int32.ofInt 1 := by
  by_cases q : x.toInt = 0
  · left
    exact z_inj2 (by rw [q]; rfl)
  · right
    exact z_inj2 (by rw [show (Int32.ofInt 1).toInt = 1 from rfl]; omega)
theorem z_B01_Tb {S : v_Sf} {R : v_Rf} (hT : v_Tb v_ty S R) : z_B01 S := by
  have k116 : v_TbC S R 116 (.inl (2, 12, (0, 1))) := hT 116 _ rfl
  have k129 : v_TbC S R 129 (.inl (2, 5, (0, 1))) := hT 129 _ rfl
  have k137 : v_TbC S R 137 (.inl (2, 24, (0, 1))) := hT 137 _ rfl
  have k144 : v_TbC S R 144 (.inl (2, 10, (0, 1))) := hT 144 _ rfl
  exact ⟨fun j hj => z_01 (k116 j hj), fun j hj => z_01 (k129 j hj), fun j hj => z_01 (k137 j hj), fun j hj => z_01 (k144 j hj)⟩
