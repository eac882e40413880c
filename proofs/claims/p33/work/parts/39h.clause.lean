/-! the reader: clauses, the whole text -/
def p_F (S S1 : v_Sf) : Prop := ∀ a j, ¬ (107 ≤ a ∧ a ≤ 110 ∧ j ≤ 16) → S1 a j = S a j
theorem p_F_rf (S : v_Sf) : p_F S S := fun _ _ _ => rfl
theorem p_F_tr {S S1 S2 : v_Sf} (h1 : p_F S S1) (h2 : p_F S1 S2) : p_F S S2 := fun a j h => (h2 a j h).trans (h1 a j h)
theorem p_F_ur {S S1 : v_Sf} (h : p_F S S1) {a j : Nat} {v : Int32} (hm : 107 ≤ a ∧ a ≤ 110 ∧ j ≤ 16) : p_F S (v_ur S1 a (upd (S1 a) j v)) := fun a' j' hn => by
  rw [w_urn (fun e => hn (by rw [e.1, e.2]; exact hm))]
  exact h a' j' hn
def p_Z (S : v_Sf) (cl cs : Nat) (nc : Nat → Int32) : Prop := ∀ k, k < cl → ∃ a b c : Nat, S 108 k = Int32.ofInt (a : Int) ∧ S 109 k = Int32.ofInt (b : Int) ∧ S 110 k = Int32.ofInt (c : Int) ∧ a ≤ b ∧ b ≤ c ∧ c ≤ cs ∧ v_seg nc (b - a) a 0 ∧ v_seg nc (c - b) b 0
theorem p_Z_add {S S1 : v_Sf} {cl cs cs1 cs2 : Nat} {nc nc2 : Nat → Int32} (h : p_Z S cl cs nc) (e1 : ∀ k, k < cl → S1 108 k = S 108 k ∧ S1 109 k = S 109 k ∧ S1 110 k = S 110 k) (e2 : S1 108 cl = Int32.ofInt (cs : Int)) (e3 : S1 109 cl = Int32.ofInt (cs1 : Int)) (e4 : S1 110 cl = Int32.ofInt (cs2 : Int)) (h1 : cs ≤ cs1) (h2 : cs1 ≤ cs2) (hn : ∀ k, k < cs → nc2 k = nc k) (g1 : v_seg nc2 (cs1 - cs) cs 0) (g2 : v_seg nc2 (cs2 - cs1) cs1 0) : p_Z S1 (cl + 1) cs2 nc2 := by
  intro k hk
  by_cases e : k = cl
  · subst e
    exact ⟨cs, cs1, cs2, e2, e3, e4, h1, h2, Nat.le_refl _, g1, g2⟩
  · obtain ⟨a, b, c, k1, k2, k3, k4, k5, k6, k7, k8⟩ := h k (by omega)
    obtain ⟨f1, f2, f3⟩ := e1 k (by omega)
    exact ⟨a, b, c, by rw [f1, k1], by rw [f2, k2], by rw [f3, k3], k4, k5, by omega, v_seg_c (fun j j1 j2 => hn j (by omega)) k7, v_seg_c (fun j j1 j2 => hn j (by omega)) k8⟩
theorem p_I_of {q cs sk m : Nat} {nc0 nc sg : Nat → Int32} (h : p_I q nc0 cs sk nc sg m) : q ≤ cs ∧ (∀ k, k < q → nc k = nc0 k) ∧ v_seg nc (cs - q) q 0 := ⟨h.1, h.2.1, h.2.2.1⟩
theorem p_I_0 {cs : Nat} {nc sg : Nat → Int32} : p_I cs nc cs 0 nc sg 0 := ⟨Nat.le_refl _, fun _ _ => rfl, by rw [Nat.sub_self]; trivial, by rw [Nat.sub_self]; rfl⟩
theorem p_Tw {S : v_Sf} {R : v_Rf} (hT : v_Tb v_ty S R) {a n j : Nat} {v : Int32} (hg : v_ty a = some (.inl (0, n, (-2147483648), 2147483647))) : v_Tb v_ty (v_ur S a (upd (S a) j v)) R := w_TbR hT hg (q_rng _).1 (q_rng _).2
section PK
variable {L : Nat} {xs : Nat → Int32} {d : Nat} {R : v_Rf} {Q : Option Value → v_Sf → v_Rf → Prop} {S0 : v_Sf} {pl cs sk cl : Nat} {bd : Int32} {nc sg : Nat → Int32} {ov bh : Bool} {op : Int32} {na : Nat → Int32}
theorem h_clL (he : (S0 99 4).toInt ≤ 240) (hT : v_Tb v_ty S0 R) (hZ : p_Z S0 cl cs nc) (hb : cs ≤ pl) (hp : pl ≤ 240) (hsk : sk ≤ 240) (hcl : cl ≤ 16) (Kg : ∀ (S1 : v_Sf) (pl' cs' sk' : Nat) (nc' sg' na' : Nat → Int32) (o : Int32) (v' h' : Bool), p_F S0 S1 → v_Tb v_ty S1 R → p_Z S1 (cl + 1) cs' nc' → pl ≤ pl' → cs' ≤ pl' → pl' ≤ 240 → sk' ≤ 240 → cl < 16 → Q none (p_S S1 (pl') (cs') (sk') (cl + 1) (Int32.ofInt 0) (nc') (sg') (v') (h') o (na')) R) (Kb : ∀ (S1 : v_Sf) (pl' cs' sk' cl' : Nat) (b' : Int32) (nc' sg' na' : Nat → Int32) (o : Int32) (v' h' : Bool), p_F S0 S1 → v_Tb v_ty S1 R → b'.toInt < 0 → cs' ≤ 240 → pl' ≤ 240 → sk' ≤ 240 → cl' ≤ 16 → Q none (p_S S1 (pl') (cs') (sk') (cl') (b') (nc') (sg') (v') (h') o (na')) R) : w_T L xs (d + 7) m_X12_clause 0 (lv_args 0 [.ref 100, .int (Int32.ofInt 0)]) [] (p_S S0 pl cs sk cl (Int32.ofInt 0) nc sg ov bh op na) R Q := by
  refine w_st rfl (fun _ => rfl) ?_
  show w_T L xs (d + 7) m_X12_clause 1 [(0, .ref 100), (1, .int (Int32.ofInt 0))] [.ref 100] (p_S S0 pl cs sk cl (Int32.ofInt 0) nc sg ov bh op na) R Q
  refine w_cv rfl (by decide) mt_X12_here v_tyM rfl rfl rfl (Nat.le_of_ble_eq_true rfl) (Nat.le_of_ble_eq_true rfl) (Nat.le_of_ble_eq_true rfl) ?_
  show w_T L xs _ m_X12_here 0 (lv_args 0 [.ref 100]) [] (p_S S0 pl cs sk cl (Int32.ofInt 0) nc sg ov bh op na) R _
  refine h_here (by omega) ?_
  refine w_st rfl (fun _ => rfl) ?_
  refine w_st rfl (fun _ => rfl) ?_
  show w_T L xs (d + 7) m_X12_clause 6 [(2, .int (p_h S0 pl)), (0, .ref 100), (1, .int (Int32.ofInt 0))] [.int (Int32.ofInt 0)] (p_S S0 pl cs sk cl (Int32.ofInt 0) nc sg ov bh op na) R Q
  refine w_st rfl (fun _ => rfl) ?_
  refine w_st rfl (fun _ => rfl) ?_
  show w_T L xs (d + 7) m_X12_clause 19 [(2, .int (p_h S0 pl)), (0, .ref 100), (1, .int (Int32.ofInt 0))] [.int (p_h S0 pl)] (p_S S0 pl cs sk cl (Int32.ofInt 0) nc sg ov bh op na) R Q
  refine w_cs rfl (by decide) mt_X12_isClause (fun _ => rfl) (Nat.le_of_ble_eq_true rfl) (Nat.le_of_ble_eq_true rfl) ?_
  show w_T L xs _ m_X12_isClause 0 (lv_args 0 [.int (p_h S0 pl)]) [] (p_S S0 pl cs sk cl (Int32.ofInt 0) nc sg ov bh op na) R _
  refine h_isClause _ (fun c19 => ?_) (fun _ => ?_)
  · have hlt := p_h_lt c19
    show w_T L xs (d + 7) m_X12_clause 22 [(2, .int (p_h S0 pl)), (0, .ref 100), (1, .int (Int32.ofInt 0))] [.int (Int32.ofInt 1)] (p_S S0 pl cs sk cl (Int32.ofInt 0) nc sg ov bh op na) R Q
    refine w_st rfl (fun _ => rfl) ?_
    refine w_st rfl (fun _ => rfl) ?_
    show w_T L xs (d + 7) m_X12_clause 38 [(2, .int (p_h S0 pl)), (0, .ref 100), (1, .int (Int32.ofInt 0))] [.ref 100] (p_S S0 pl cs sk cl (Int32.ofInt 0) nc sg ov bh op na) R Q
    refine w_get rfl v_tyM rfl ?_
    refine w_st rfl (fun _ => rfl) ?_
    show w_T L xs (d + 7) m_X12_clause 42 [(2, .int (p_h S0 pl)), (0, .ref 100), (1, .int (Int32.ofInt 0))] [.int (Int32.ofInt 0), .int (Int32.ofInt (cl : Int))] (p_S S0 pl cs sk cl (Int32.ofInt 0) nc sg ov bh op na) R Q
    refine w_st rfl (fun _ => rfl) ?_
    refine w_st rfl (fun _ => rfl) ?_
    show w_T L xs (d + 7) m_X12_clause 52 [(2, .int (p_h S0 pl)), (0, .ref 100), (1, .int (Int32.ofInt 0))] [.int (Int32.ofInt 16), .int (Int32.ofInt (cl : Int))] (p_S S0 pl cs sk cl (Int32.ofInt 0) nc sg ov bh op na) R Q
    refine w_br (P := ¬ (Int32.ofInt (cl : Int)) = (Int32.ofInt 16)) rfl (fun _ => rfl) (fun h52 => ?_) (fun h52 => ?_)
    · have hcl3 : cl < 16 := by
        refine Nat.lt_of_le_of_ne hcl (fun e => h52 ?_)
        rw [e]
        rfl
      refine w_st rfl (fun _ => rfl) ?_
      show w_T L xs (d + 7) m_X12_clause 65 [(2, .int (p_h S0 pl)), (0, .ref 100), (1, .int (Int32.ofInt 0))] [.ref 100] (p_S S0 pl cs sk cl (Int32.ofInt 0) nc sg ov bh op na) R Q
      refine w_cv rfl (by decide) mt_X12_isGood v_tyM rfl rfl rfl (Nat.le_of_ble_eq_true rfl) (Nat.le_of_ble_eq_true rfl) (Nat.le_of_ble_eq_true rfl) ?_
      show w_T L xs _ m_X12_isGood 0 (lv_args 0 [.ref 100]) [] (p_S S0 pl cs sk cl (Int32.ofInt 0) nc sg ov bh op na) R _
      refine h_isGT ?_
      show w_T L xs (d + 7) m_X12_clause 68 [(2, .int (p_h S0 pl)), (0, .ref 100), (1, .int (Int32.ofInt 0))] [.int (Int32.ofInt 1)] (p_S S0 pl cs sk cl (Int32.ofInt 0) nc sg ov bh op na) R Q
      refine w_st rfl (fun _ => rfl) ?_
      refine w_st rfl (fun _ => rfl) ?_
      show w_T L xs (d + 7) m_X12_clause 73 [(2, .int (p_h S0 pl)), (0, .ref 100), (1, .int (Int32.ofInt 0))] [.ref 100] (p_S S0 pl cs sk cl (Int32.ofInt 0) nc sg ov bh op na) R Q
      refine w_getr rfl v_tyM rfl ?_
      refine w_st rfl (fun _ => rfl) ?_
      show w_T L xs (d + 7) m_X12_clause 77 [(2, .int (p_h S0 pl)), (0, .ref 100), (1, .int (Int32.ofInt 0))] [.ref 100, .ref 108] (p_S S0 pl cs sk cl (Int32.ofInt 0) nc sg ov bh op na) R Q
      refine w_get rfl v_tyM rfl ?_
      refine w_st rfl (fun _ => rfl) ?_
      show w_T L xs (d + 7) m_X12_clause 81 [(2, .int (p_h S0 pl)), (0, .ref 100), (1, .int (Int32.ofInt 0))] [.int (p_h S0 pl), .int (Int32.ofInt (cl : Int)), .ref 108] (p_S S0 pl cs sk cl (Int32.ofInt 0) nc sg ov bh op na) R Q
      refine w_iast rfl rfl (by rw [w_nat (by omega)]; omega) (by rw [w_nat (by omega)]; omega) ?_
      refine w_eqS (p_wor (by decide) (w_natn (by omega))) ?_
      refine w_st rfl (fun _ => rfl) ?_
      show w_T L xs (d + 7) m_X12_clause 83 [(2, .int (p_h S0 pl)), (0, .ref 100), (1, .int (Int32.ofInt 0))] [.ref 100] (p_S (v_ur S0 107 (upd (S0 107) cl (p_h S0 pl))) pl cs sk cl (Int32.ofInt 0) nc sg ov bh op na) R Q
      refine w_getr rfl v_tyM rfl ?_
      refine w_st rfl (fun _ => rfl) ?_
      show w_T L xs (d + 7) m_X12_clause 87 [(2, .int (p_h S0 pl)), (0, .ref 100), (1, .int (Int32.ofInt 0))] [.ref 100, .ref 109] (p_S (v_ur S0 107 (upd (S0 107) cl (p_h S0 pl))) pl cs sk cl (Int32.ofInt 0) nc sg ov bh op na) R Q
      refine w_get rfl v_tyM rfl ?_
      refine w_st rfl (fun _ => rfl) ?_
      show w_T L xs (d + 7) m_X12_clause 91 [(2, .int (p_h S0 pl)), (0, .ref 100), (1, .int (Int32.ofInt 0))] [.ref 100, .int (Int32.ofInt (cl : Int)), .ref 109] (p_S (v_ur S0 107 (upd (S0 107) cl (p_h S0 pl))) pl cs sk cl (Int32.ofInt 0) nc sg ov bh op na) R Q
      refine w_get rfl v_tyM rfl ?_
      show w_T L xs (d + 7) m_X12_clause 94 [(2, .int (p_h S0 pl)), (0, .ref 100), (1, .int (Int32.ofInt 0))] [.int (Int32.ofInt (cs : Int)), .int (Int32.ofInt (cl : Int)), .ref 109] (p_S (v_ur S0 107 (upd (S0 107) cl (p_h S0 pl))) pl cs sk cl (Int32.ofInt 0) nc sg ov bh op na) R Q
      refine w_iast rfl rfl (by rw [w_nat (by omega)]; omega) (by rw [w_nat (by omega)]; omega) ?_
      refine w_eqS (p_wor (by decide) (w_natn (by omega))) ?_
      refine w_st rfl (fun _ => rfl) ?_
      refine w_st rfl (fun _ => rfl) ?_
      show w_T L xs (d + 7) m_X12_clause 97 [(2, .int (p_h S0 pl)), (0, .ref 100), (1, .int (Int32.ofInt 0))] [.ref 100, .ref 100] (p_S (v_ur (v_ur S0 107 (upd (S0 107) cl (p_h S0 pl))) 108 (upd ((v_ur S0 107 (upd (S0 107) cl (p_h S0 pl))) 108) cl (Int32.ofInt (cs : Int)))) pl cs sk cl (Int32.ofInt 0) nc sg ov bh op na) R Q
      refine w_get rfl v_tyM rfl ?_
      refine w_st rfl (fun _ => rfl) ?_
      show w_T L xs (d + 7) m_X12_clause 101 [(2, .int (p_h S0 pl)), (0, .ref 100), (1, .int (Int32.ofInt 0))] [.int (Int32.ofInt 0), .int (Int32.ofInt (pl : Int)), .ref 100] (p_S (v_ur (v_ur S0 107 (upd (S0 107) cl (p_h S0 pl))) 108 (upd ((v_ur S0 107 (upd (S0 107) cl (p_h S0 pl))) 108) cl (Int32.ofInt (cs : Int)))) pl cs sk cl (Int32.ofInt 0) nc sg ov bh op na) R Q
      refine w_st rfl (fun _ => rfl) ?_
      refine w_st rfl (fun _ => rfl) ?_
      refine w_st rfl (fun _ => rfl) ?_
      show w_T L xs (d + 7) m_X12_clause 110 [(2, .int (p_h S0 pl)), (0, .ref 100), (1, .int (Int32.ofInt 0))] [.int ((Int32.ofInt (pl : Int)) + (Int32.ofInt 1)), .ref 100] (p_S (v_ur (v_ur S0 107 (upd (S0 107) cl (p_h S0 pl))) 108 (upd ((v_ur S0 107 (upd (S0 107) cl (p_h S0 pl))) 108) cl (Int32.ofInt (cs : Int)))) pl cs sk cl (Int32.ofInt 0) nc sg ov bh op na) R Q
      refine w_put rfl v_tyM rfl rfl rfl ?_
      refine w_eqS (p_wpl (w_inc _)) ?_
      refine w_st rfl (fun _ => rfl) ?_
      refine w_st rfl (fun _ => rfl) ?_
      show w_T L xs (d + 7) m_X12_clause 115 [(2, .int (p_h S0 pl)), (0, .ref 100), (1, .int (Int32.ofInt 0))] [.int (Int32.ofInt 0), .ref 100] (p_S (v_ur (v_ur S0 107 (upd (S0 107) cl (p_h S0 pl))) 108 (upd ((v_ur S0 107 (upd (S0 107) cl (p_h S0 pl))) 108) cl (Int32.ofInt (cs : Int)))) (pl + 1) cs sk cl (Int32.ofInt 0) nc sg ov bh op na) R Q
      refine w_put rfl v_tyM rfl rfl rfl ?_
      refine w_eqS (p_wsk (k := 0) rfl) ?_
      refine w_st rfl (fun _ => rfl) ?_
      refine w_st rfl (fun _ => rfl) ?_
      show w_T L xs (d + 7) m_X12_clause 120 [(2, .int (p_h S0 pl)), (0, .ref 100), (1, .int (Int32.ofInt 0))] [.int (Int32.ofInt 0), .ref 100] (p_S (v_ur (v_ur S0 107 (upd (S0 107) cl (p_h S0 pl))) 108 (upd ((v_ur S0 107 (upd (S0 107) cl (p_h S0 pl))) 108) cl (Int32.ofInt (cs : Int)))) (pl + 1) cs 0 cl (Int32.ofInt 0) nc sg ov bh op na) R Q
      refine w_put rfl v_tyM rfl rfl rfl ?_
      refine w_eqS p_wop ?_
      refine w_st rfl (fun _ => rfl) ?_
      show w_T L xs (d + 7) m_X12_clause 124 [(2, .int (p_h S0 pl)), (0, .ref 100), (1, .int (Int32.ofInt 0))] [.int (Int32.ofInt 0)] (p_S (v_ur (v_ur S0 107 (upd (S0 107) cl (p_h S0 pl))) 108 (upd ((v_ur S0 107 (upd (S0 107) cl (p_h S0 pl))) 108) cl (Int32.ofInt (cs : Int)))) (pl + 1) cs 0 cl (Int32.ofInt 0) nc sg ov bh (Int32.ofInt 0) na) R Q
      refine w_st rfl (fun _ => rfl) ?_
      refine w_st rfl (fun _ => rfl) ?_
      refine w_st rfl (fun _ => rfl) ?_
      show w_T L xs (d + 7) m_X12_clause 130 [(2, .int (p_h S0 pl)), (0, .ref 100), (1, .int (Int32.ofInt 0))] [.int (Int32.ofInt 101), .int (p_h S0 pl)] (p_S (v_ur (v_ur S0 107 (upd (S0 107) cl (p_h S0 pl))) 108 (upd ((v_ur S0 107 (upd (S0 107) cl (p_h S0 pl))) 108) cl (Int32.ofInt (cs : Int)))) (pl + 1) cs 0 cl (Int32.ofInt 0) nc sg ov bh (Int32.ofInt 0) na) R Q
      refine w_br (P := (p_h S0 pl) = (Int32.ofInt 101)) rfl (fun _ => rfl) (fun h130 => ?_) (fun h130 => ?_)
      · refine w_st rfl (fun _ => rfl) ?_
        show w_T L xs (d + 7) m_X12_clause 144 [(2, .int (p_h S0 pl)), (0, .ref 100), (1, .int (Int32.ofInt 0))] [.ref 100] (p_S (v_ur (v_ur S0 107 (upd (S0 107) cl (p_h S0 pl))) 108 (upd ((v_ur S0 107 (upd (S0 107) cl (p_h S0 pl))) 108) cl (Int32.ofInt (cs : Int)))) (pl + 1) cs 0 cl (Int32.ofInt 0) nc sg ov bh (Int32.ofInt 0) na) R Q
        refine w_getr rfl v_tyM rfl ?_
        refine w_st rfl (fun _ => rfl) ?_
        show w_T L xs (d + 7) m_X12_clause 148 [(2, .int (p_h S0 pl)), (0, .ref 100), (1, .int (Int32.ofInt 0))] [.ref 100, .ref 110] (p_S (v_ur (v_ur S0 107 (upd (S0 107) cl (p_h S0 pl))) 108 (upd ((v_ur S0 107 (upd (S0 107) cl (p_h S0 pl))) 108) cl (Int32.ofInt (cs : Int)))) (pl + 1) cs 0 cl (Int32.ofInt 0) nc sg ov bh (Int32.ofInt 0) na) R Q
        refine w_get rfl v_tyM rfl ?_
        refine w_st rfl (fun _ => rfl) ?_
        show w_T L xs (d + 7) m_X12_clause 152 [(2, .int (p_h S0 pl)), (0, .ref 100), (1, .int (Int32.ofInt 0))] [.ref 100, .int (Int32.ofInt (cl : Int)), .ref 110] (p_S (v_ur (v_ur S0 107 (upd (S0 107) cl (p_h S0 pl))) 108 (upd ((v_ur S0 107 (upd (S0 107) cl (p_h S0 pl))) 108) cl (Int32.ofInt (cs : Int)))) (pl + 1) cs 0 cl (Int32.ofInt 0) nc sg ov bh (Int32.ofInt 0) na) R Q
        refine w_get rfl v_tyM rfl ?_
        show w_T L xs (d + 7) m_X12_clause 155 [(2, .int (p_h S0 pl)), (0, .ref 100), (1, .int (Int32.ofInt 0))] [.int (Int32.ofInt (cs : Int)), .int (Int32.ofInt (cl : Int)), .ref 110] (p_S (v_ur (v_ur S0 107 (upd (S0 107) cl (p_h S0 pl))) 108 (upd ((v_ur S0 107 (upd (S0 107) cl (p_h S0 pl))) 108) cl (Int32.ofInt (cs : Int)))) (pl + 1) cs 0 cl (Int32.ofInt 0) nc sg ov bh (Int32.ofInt 0) na) R Q
        refine w_iast rfl rfl (by rw [w_nat (by omega)]; omega) (by rw [w_nat (by omega)]; omega) ?_
        refine w_eqS (p_wor (by decide) (w_natn (by omega))) ?_
        refine w_st rfl (fun _ => rfl) ?_
        show w_T L xs (d + 7) m_X12_clause 157 [(2, .int (p_h S0 pl)), (0, .ref 100), (1, .int (Int32.ofInt 0))] [.ref 100] (p_S (v_ur (v_ur (v_ur S0 107 (upd (S0 107) cl (p_h S0 pl))) 108 (upd ((v_ur S0 107 (upd (S0 107) cl (p_h S0 pl))) 108) cl (Int32.ofInt (cs : Int)))) 109 (upd ((v_ur (v_ur S0 107 (upd (S0 107) cl (p_h S0 pl))) 108 (upd ((v_ur S0 107 (upd (S0 107) cl (p_h S0 pl))) 108) cl (Int32.ofInt (cs : Int)))) 109) cl (Int32.ofInt (cs : Int)))) (pl + 1) cs 0 cl (Int32.ofInt 0) nc sg ov bh (Int32.ofInt 0) na) R Q
        refine w_cv rfl (by decide) mt_X12_isGood v_tyM rfl rfl rfl (Nat.le_of_ble_eq_true rfl) (Nat.le_of_ble_eq_true rfl) (Nat.le_of_ble_eq_true rfl) ?_
        show w_T L xs _ m_X12_isGood 0 (lv_args 0 [.ref 100]) [] (p_S (v_ur (v_ur (v_ur S0 107 (upd (S0 107) cl (p_h S0 pl))) 108 (upd ((v_ur S0 107 (upd (S0 107) cl (p_h S0 pl))) 108) cl (Int32.ofInt (cs : Int)))) 109 (upd ((v_ur (v_ur S0 107 (upd (S0 107) cl (p_h S0 pl))) 108 (upd ((v_ur S0 107 (upd (S0 107) cl (p_h S0 pl))) 108) cl (Int32.ofInt (cs : Int)))) 109) cl (Int32.ofInt (cs : Int)))) (pl + 1) cs 0 cl (Int32.ofInt 0) nc sg ov bh (Int32.ofInt 0) na) R _
        refine h_isGT ?_
        show w_T L xs (d + 7) m_X12_clause 160 [(2, .int (p_h S0 pl)), (0, .ref 100), (1, .int (Int32.ofInt 0))] [.int (Int32.ofInt 1)] (p_S (v_ur (v_ur (v_ur S0 107 (upd (S0 107) cl (p_h S0 pl))) 108 (upd ((v_ur S0 107 (upd (S0 107) cl (p_h S0 pl))) 108) cl (Int32.ofInt (cs : Int)))) 109 (upd ((v_ur (v_ur S0 107 (upd (S0 107) cl (p_h S0 pl))) 108 (upd ((v_ur S0 107 (upd (S0 107) cl (p_h S0 pl))) 108) cl (Int32.ofInt (cs : Int)))) 109) cl (Int32.ofInt (cs : Int)))) (pl + 1) cs 0 cl (Int32.ofInt 0) nc sg ov bh (Int32.ofInt 0) na) R Q
        refine w_st rfl (fun _ => rfl) ?_
        refine w_st rfl (fun _ => rfl) ?_
        show w_T L xs (d + 7) m_X12_clause 164 [(2, .int (p_h S0 pl)), (0, .ref 100), (1, .int (Int32.ofInt 0))] [.ref 100] (p_S (v_ur (v_ur (v_ur S0 107 (upd (S0 107) cl (p_h S0 pl))) 108 (upd ((v_ur S0 107 (upd (S0 107) cl (p_h S0 pl))) 108) cl (Int32.ofInt (cs : Int)))) 109 (upd ((v_ur (v_ur S0 107 (upd (S0 107) cl (p_h S0 pl))) 108 (upd ((v_ur S0 107 (upd (S0 107) cl (p_h S0 pl))) 108) cl (Int32.ofInt (cs : Int)))) 109) cl (Int32.ofInt (cs : Int)))) (pl + 1) cs 0 cl (Int32.ofInt 0) nc sg ov bh (Int32.ofInt 0) na) R Q
        refine w_cv rfl (by decide) mt_X12_condition v_tyM rfl rfl rfl (Nat.le_of_ble_eq_true rfl) (Nat.le_of_ble_eq_true rfl) (Nat.le_of_ble_eq_true rfl) ?_
        show w_T L xs _ m_X12_condition 0 (lv_args 0 [.ref 100]) [] (p_S (v_ur (v_ur (v_ur S0 107 (upd (S0 107) cl (p_h S0 pl))) 108 (upd ((v_ur S0 107 (upd (S0 107) cl (p_h S0 pl))) 108) cl (Int32.ofInt (cs : Int)))) 109 (upd ((v_ur (v_ur S0 107 (upd (S0 107) cl (p_h S0 pl))) 108 (upd ((v_ur S0 107 (upd (S0 107) cl (p_h S0 pl))) 108) cl (Int32.ofInt (cs : Int)))) 109) cl (Int32.ofInt (cs : Int)))) (pl + 1) cs 0 cl (Int32.ofInt 0) nc sg ov bh (Int32.ofInt 0) na) R _
        refine h_cond (S0 := (v_ur (v_ur (v_ur S0 107 (upd (S0 107) cl (p_h S0 pl))) 108 (upd ((v_ur S0 107 (upd (S0 107) cl (p_h S0 pl))) 108) cl (Int32.ofInt (cs : Int)))) 109 (upd ((v_ur (v_ur S0 107 (upd (S0 107) cl (p_h S0 pl))) 108 (upd ((v_ur S0 107 (upd (S0 107) cl (p_h S0 pl))) 108) cl (Int32.ofInt (cs : Int)))) 109) cl (Int32.ofInt (cs : Int))))) he (by omega) (by omega) (fun pl2 cs2 sk2 nc2 sg2 na2 o2 h2 l2 i2 j2 k2 => ?_) (fun pl2 cs2 sk2 b164 nc2 sg2 na2 o2 h2 hb164 j2 k2 => ?_)
        · obtain ⟨r1, r2, r3⟩ := p_I_of i2
          show w_T L xs (d + 7) m_X12_clause 167 [(2, .int (p_h S0 pl)), (0, .ref 100), (1, .int (Int32.ofInt 0))] [] (p_S (v_ur (v_ur (v_ur S0 107 (upd (S0 107) cl (p_h S0 pl))) 108 (upd ((v_ur S0 107 (upd (S0 107) cl (p_h S0 pl))) 108) cl (Int32.ofInt (cs : Int)))) 109 (upd ((v_ur (v_ur S0 107 (upd (S0 107) cl (p_h S0 pl))) 108 (upd ((v_ur S0 107 (upd (S0 107) cl (p_h S0 pl))) 108) cl (Int32.ofInt (cs : Int)))) 109) cl (Int32.ofInt (cs : Int)))) pl2 cs2 sk2 cl (Int32.ofInt 0) nc2 sg2 true h2 o2 na2) R Q
          refine w_st rfl (fun _ => rfl) ?_
          show w_T L xs (d + 7) m_X12_clause 168 [(2, .int (p_h S0 pl)), (0, .ref 100), (1, .int (Int32.ofInt 0))] [.ref 100] (p_S (v_ur (v_ur (v_ur S0 107 (upd (S0 107) cl (p_h S0 pl))) 108 (upd ((v_ur S0 107 (upd (S0 107) cl (p_h S0 pl))) 108) cl (Int32.ofInt (cs : Int)))) 109 (upd ((v_ur (v_ur S0 107 (upd (S0 107) cl (p_h S0 pl))) 108 (upd ((v_ur S0 107 (upd (S0 107) cl (p_h S0 pl))) 108) cl (Int32.ofInt (cs : Int)))) 109) cl (Int32.ofInt (cs : Int)))) pl2 cs2 sk2 cl (Int32.ofInt 0) nc2 sg2 true h2 o2 na2) R Q
          refine w_getr rfl v_tyM rfl ?_
          refine w_st rfl (fun _ => rfl) ?_
          show w_T L xs (d + 7) m_X12_clause 172 [(2, .int (p_h S0 pl)), (0, .ref 100), (1, .int (Int32.ofInt 0))] [.ref 100, .ref 111] (p_S (v_ur (v_ur (v_ur S0 107 (upd (S0 107) cl (p_h S0 pl))) 108 (upd ((v_ur S0 107 (upd (S0 107) cl (p_h S0 pl))) 108) cl (Int32.ofInt (cs : Int)))) 109 (upd ((v_ur (v_ur S0 107 (upd (S0 107) cl (p_h S0 pl))) 108 (upd ((v_ur S0 107 (upd (S0 107) cl (p_h S0 pl))) 108) cl (Int32.ofInt (cs : Int)))) 109) cl (Int32.ofInt (cs : Int)))) pl2 cs2 sk2 cl (Int32.ofInt 0) nc2 sg2 true h2 o2 na2) R Q
          refine w_get rfl v_tyM rfl ?_
          refine w_st rfl (fun _ => rfl) ?_
          show w_T L xs (d + 7) m_X12_clause 176 [(2, .int (p_h S0 pl)), (0, .ref 100), (1, .int (Int32.ofInt 0))] [.ref 100, .int (Int32.ofInt (cl : Int)), .ref 111] (p_S (v_ur (v_ur (v_ur S0 107 (upd (S0 107) cl (p_h S0 pl))) 108 (upd ((v_ur S0 107 (upd (S0 107) cl (p_h S0 pl))) 108) cl (Int32.ofInt (cs : Int)))) 109 (upd ((v_ur (v_ur S0 107 (upd (S0 107) cl (p_h S0 pl))) 108 (upd ((v_ur S0 107 (upd (S0 107) cl (p_h S0 pl))) 108) cl (Int32.ofInt (cs : Int)))) 109) cl (Int32.ofInt (cs : Int)))) pl2 cs2 sk2 cl (Int32.ofInt 0) nc2 sg2 true h2 o2 na2) R Q
          refine w_get rfl v_tyM rfl ?_
          show w_T L xs (d + 7) m_X12_clause 179 [(2, .int (p_h S0 pl)), (0, .ref 100), (1, .int (Int32.ofInt 0))] [.int (Int32.ofInt (cs2 : Int)), .int (Int32.ofInt (cl : Int)), .ref 111] (p_S (v_ur (v_ur (v_ur S0 107 (upd (S0 107) cl (p_h S0 pl))) 108 (upd ((v_ur S0 107 (upd (S0 107) cl (p_h S0 pl))) 108) cl (Int32.ofInt (cs : Int)))) 109 (upd ((v_ur (v_ur S0 107 (upd (S0 107) cl (p_h S0 pl))) 108 (upd ((v_ur S0 107 (upd (S0 107) cl (p_h S0 pl))) 108) cl (Int32.ofInt (cs : Int)))) 109) cl (Int32.ofInt (cs : Int)))) pl2 cs2 sk2 cl (Int32.ofInt 0) nc2 sg2 true h2 o2 na2) R Q
          refine w_iast rfl rfl (by rw [w_nat (by omega)]; omega) (by rw [w_nat (by omega)]; omega) ?_
          refine w_eqS (p_wor (by decide) (w_natn (by omega))) ?_
          refine w_st rfl (fun _ => rfl) ?_
          refine w_st rfl (fun _ => rfl) ?_
          show w_T L xs (d + 7) m_X12_clause 182 [(2, .int (p_h S0 pl)), (0, .ref 100), (1, .int (Int32.ofInt 0))] [.ref 100, .ref 100] (p_S (v_ur (v_ur (v_ur (v_ur S0 107 (upd (S0 107) cl (p_h S0 pl))) 108 (upd ((v_ur S0 107 (upd (S0 107) cl (p_h S0 pl))) 108) cl (Int32.ofInt (cs : Int)))) 109 (upd ((v_ur (v_ur S0 107 (upd (S0 107) cl (p_h S0 pl))) 108 (upd ((v_ur S0 107 (upd (S0 107) cl (p_h S0 pl))) 108) cl (Int32.ofInt (cs : Int)))) 109) cl (Int32.ofInt (cs : Int)))) 110 (upd ((v_ur (v_ur (v_ur S0 107 (upd (S0 107) cl (p_h S0 pl))) 108 (upd ((v_ur S0 107 (upd (S0 107) cl (p_h S0 pl))) 108) cl (Int32.ofInt (cs : Int)))) 109 (upd ((v_ur (v_ur S0 107 (upd (S0 107) cl (p_h S0 pl))) 108 (upd ((v_ur S0 107 (upd (S0 107) cl (p_h S0 pl))) 108) cl (Int32.ofInt (cs : Int)))) 109) cl (Int32.ofInt (cs : Int)))) 110) cl (Int32.ofInt (cs2 : Int)))) pl2 cs2 sk2 cl (Int32.ofInt 0) nc2 sg2 true h2 o2 na2) R Q
          refine w_get rfl v_tyM rfl ?_
          refine w_st rfl (fun _ => rfl) ?_
          refine w_st rfl (fun _ => rfl) ?_
          show w_T L xs (d + 7) m_X12_clause 187 [(2, .int (p_h S0 pl)), (0, .ref 100), (1, .int (Int32.ofInt 0))] [.int ((Int32.ofInt (cl : Int)) + (Int32.ofInt 1)), .ref 100] (p_S (v_ur (v_ur (v_ur (v_ur S0 107 (upd (S0 107) cl (p_h S0 pl))) 108 (upd ((v_ur S0 107 (upd (S0 107) cl (p_h S0 pl))) 108) cl (Int32.ofInt (cs : Int)))) 109 (upd ((v_ur (v_ur S0 107 (upd (S0 107) cl (p_h S0 pl))) 108 (upd ((v_ur S0 107 (upd (S0 107) cl (p_h S0 pl))) 108) cl (Int32.ofInt (cs : Int)))) 109) cl (Int32.ofInt (cs : Int)))) 110 (upd ((v_ur (v_ur (v_ur S0 107 (upd (S0 107) cl (p_h S0 pl))) 108 (upd ((v_ur S0 107 (upd (S0 107) cl (p_h S0 pl))) 108) cl (Int32.ofInt (cs : Int)))) 109 (upd ((v_ur (v_ur S0 107 (upd (S0 107) cl (p_h S0 pl))) 108 (upd ((v_ur S0 107 (upd (S0 107) cl (p_h S0 pl))) 108) cl (Int32.ofInt (cs : Int)))) 109) cl (Int32.ofInt (cs : Int)))) 110) cl (Int32.ofInt (cs2 : Int)))) pl2 cs2 sk2 cl (Int32.ofInt 0) nc2 sg2 true h2 o2 na2) R Q
          refine w_put rfl v_tyM rfl rfl rfl ?_
          refine w_eqS (p_wcl (w_inc _)) ?_
          show w_T L xs (d + 7) m_X12_clause 190 [(2, .int (p_h S0 pl)), (0, .ref 100), (1, .int (Int32.ofInt 0))] [] (p_S (v_ur (v_ur (v_ur (v_ur S0 107 (upd (S0 107) cl (p_h S0 pl))) 108 (upd ((v_ur S0 107 (upd (S0 107) cl (p_h S0 pl))) 108) cl (Int32.ofInt (cs : Int)))) 109 (upd ((v_ur (v_ur S0 107 (upd (S0 107) cl (p_h S0 pl))) 108 (upd ((v_ur S0 107 (upd (S0 107) cl (p_h S0 pl))) 108) cl (Int32.ofInt (cs : Int)))) 109) cl (Int32.ofInt (cs : Int)))) 110 (upd ((v_ur (v_ur (v_ur S0 107 (upd (S0 107) cl (p_h S0 pl))) 108 (upd ((v_ur S0 107 (upd (S0 107) cl (p_h S0 pl))) 108) cl (Int32.ofInt (cs : Int)))) 109 (upd ((v_ur (v_ur S0 107 (upd (S0 107) cl (p_h S0 pl))) 108 (upd ((v_ur S0 107 (upd (S0 107) cl (p_h S0 pl))) 108) cl (Int32.ofInt (cs : Int)))) 109) cl (Int32.ofInt (cs : Int)))) 110) cl (Int32.ofInt (cs2 : Int)))) pl2 cs2 sk2 (cl + 1) (Int32.ofInt 0) nc2 sg2 true h2 o2 na2) R Q
          refine w_ret rfl rfl ?_
          refine Kg _ _ _ _ _ _ _ _ _ _ (p_F_ur (p_F_ur (p_F_ur (p_F_ur (p_F_rf _) (by omega)) (by omega)) (by omega)) (by omega)) (p_Tw (p_Tw (p_Tw (p_Tw hT (a := 107) rfl) (a := 108) rfl) (a := 109) rfl) (a := 110) rfl) (p_Z_add (cs1 := cs) hZ (fun k hk => ?_) ?_ ?_ ?_ (by omega) (by omega) (fun k hk => r2 k hk) (by rw [Nat.sub_self]; trivial) r3) (by omega) (by omega) (by omega) (by omega) (by omega)
          · have hne : ¬ k = cl := by omega
            simp [v_ur, upd, hne]
          · simp [v_ur, upd]
          · simp [v_ur, upd]
          · simp [v_ur, upd]
        · show w_T L xs (d + 7) m_X12_clause 167 [(2, .int (p_h S0 pl)), (0, .ref 100), (1, .int (Int32.ofInt 0))] [] (p_S (v_ur (v_ur (v_ur S0 107 (upd (S0 107) cl (p_h S0 pl))) 108 (upd ((v_ur S0 107 (upd (S0 107) cl (p_h S0 pl))) 108) cl (Int32.ofInt (cs : Int)))) 109 (upd ((v_ur (v_ur S0 107 (upd (S0 107) cl (p_h S0 pl))) 108 (upd ((v_ur S0 107 (upd (S0 107) cl (p_h S0 pl))) 108) cl (Int32.ofInt (cs : Int)))) 109) cl (Int32.ofInt (cs : Int)))) pl2 cs2 sk2 cl b164 nc2 sg2 false h2 o2 na2) R Q
          refine w_st rfl (fun _ => rfl) ?_
          show w_T L xs (d + 7) m_X12_clause 168 [(2, .int (p_h S0 pl)), (0, .ref 100), (1, .int (Int32.ofInt 0))] [.ref 100] (p_S (v_ur (v_ur (v_ur S0 107 (upd (S0 107) cl (p_h S0 pl))) 108 (upd ((v_ur S0 107 (upd (S0 107) cl (p_h S0 pl))) 108) cl (Int32.ofInt (cs : Int)))) 109 (upd ((v_ur (v_ur S0 107 (upd (S0 107) cl (p_h S0 pl))) 108 (upd ((v_ur S0 107 (upd (S0 107) cl (p_h S0 pl))) 108) cl (Int32.ofInt (cs : Int)))) 109) cl (Int32.ofInt (cs : Int)))) pl2 cs2 sk2 cl b164 nc2 sg2 false h2 o2 na2) R Q
          refine w_getr rfl v_tyM rfl ?_
          refine w_st rfl (fun _ => rfl) ?_
          show w_T L xs (d + 7) m_X12_clause 172 [(2, .int (p_h S0 pl)), (0, .ref 100), (1, .int (Int32.ofInt 0))] [.ref 100, .ref 111] (p_S (v_ur (v_ur (v_ur S0 107 (upd (S0 107) cl (p_h S0 pl))) 108 (upd ((v_ur S0 107 (upd (S0 107) cl (p_h S0 pl))) 108) cl (Int32.ofInt (cs : Int)))) 109 (upd ((v_ur (v_ur S0 107 (upd (S0 107) cl (p_h S0 pl))) 108 (upd ((v_ur S0 107 (upd (S0 107) cl (p_h S0 pl))) 108) cl (Int32.ofInt (cs : Int)))) 109) cl (Int32.ofInt (cs : Int)))) pl2 cs2 sk2 cl b164 nc2 sg2 false h2 o2 na2) R Q
          refine w_get rfl v_tyM rfl ?_
          refine w_st rfl (fun _ => rfl) ?_
          show w_T L xs (d + 7) m_X12_clause 176 [(2, .int (p_h S0 pl)), (0, .ref 100), (1, .int (Int32.ofInt 0))] [.ref 100, .int (Int32.ofInt (cl : Int)), .ref 111] (p_S (v_ur (v_ur (v_ur S0 107 (upd (S0 107) cl (p_h S0 pl))) 108 (upd ((v_ur S0 107 (upd (S0 107) cl (p_h S0 pl))) 108) cl (Int32.ofInt (cs : Int)))) 109 (upd ((v_ur (v_ur S0 107 (upd (S0 107) cl (p_h S0 pl))) 108 (upd ((v_ur S0 107 (upd (S0 107) cl (p_h S0 pl))) 108) cl (Int32.ofInt (cs : Int)))) 109) cl (Int32.ofInt (cs : Int)))) pl2 cs2 sk2 cl b164 nc2 sg2 false h2 o2 na2) R Q
          refine w_get rfl v_tyM rfl ?_
          show w_T L xs (d + 7) m_X12_clause 179 [(2, .int (p_h S0 pl)), (0, .ref 100), (1, .int (Int32.ofInt 0))] [.int (Int32.ofInt (cs2 : Int)), .int (Int32.ofInt (cl : Int)), .ref 111] (p_S (v_ur (v_ur (v_ur S0 107 (upd (S0 107) cl (p_h S0 pl))) 108 (upd ((v_ur S0 107 (upd (S0 107) cl (p_h S0 pl))) 108) cl (Int32.ofInt (cs : Int)))) 109 (upd ((v_ur (v_ur S0 107 (upd (S0 107) cl (p_h S0 pl))) 108 (upd ((v_ur S0 107 (upd (S0 107) cl (p_h S0 pl))) 108) cl (Int32.ofInt (cs : Int)))) 109) cl (Int32.ofInt (cs : Int)))) pl2 cs2 sk2 cl b164 nc2 sg2 false h2 o2 na2) R Q
          refine w_iast rfl rfl (by rw [w_nat (by omega)]; omega) (by rw [w_nat (by omega)]; omega) ?_
          refine w_eqS (p_wor (by decide) (w_natn (by omega))) ?_
          refine w_st rfl (fun _ => rfl) ?_
          refine w_st rfl (fun _ => rfl) ?_
          show w_T L xs (d + 7) m_X12_clause 182 [(2, .int (p_h S0 pl)), (0, .ref 100), (1, .int (Int32.ofInt 0))] [.ref 100, .ref 100] (p_S (v_ur (v_ur (v_ur (v_ur S0 107 (upd (S0 107) cl (p_h S0 pl))) 108 (upd ((v_ur S0 107 (upd (S0 107) cl (p_h S0 pl))) 108) cl (Int32.ofInt (cs : Int)))) 109 (upd ((v_ur (v_ur S0 107 (upd (S0 107) cl (p_h S0 pl))) 108 (upd ((v_ur S0 107 (upd (S0 107) cl (p_h S0 pl))) 108) cl (Int32.ofInt (cs : Int)))) 109) cl (Int32.ofInt (cs : Int)))) 110 (upd ((v_ur (v_ur (v_ur S0 107 (upd (S0 107) cl (p_h S0 pl))) 108 (upd ((v_ur S0 107 (upd (S0 107) cl (p_h S0 pl))) 108) cl (Int32.ofInt (cs : Int)))) 109 (upd ((v_ur (v_ur S0 107 (upd (S0 107) cl (p_h S0 pl))) 108 (upd ((v_ur S0 107 (upd (S0 107) cl (p_h S0 pl))) 108) cl (Int32.ofInt (cs : Int)))) 109) cl (Int32.ofInt (cs : Int)))) 110) cl (Int32.ofInt (cs2 : Int)))) pl2 cs2 sk2 cl b164 nc2 sg2 false h2 o2 na2) R Q
          refine w_get rfl v_tyM rfl ?_
          refine w_st rfl (fun _ => rfl) ?_
          refine w_st rfl (fun _ => rfl) ?_
          show w_T L xs (d + 7) m_X12_clause 187 [(2, .int (p_h S0 pl)), (0, .ref 100), (1, .int (Int32.ofInt 0))] [.int ((Int32.ofInt (cl : Int)) + (Int32.ofInt 1)), .ref 100] (p_S (v_ur (v_ur (v_ur (v_ur S0 107 (upd (S0 107) cl (p_h S0 pl))) 108 (upd ((v_ur S0 107 (upd (S0 107) cl (p_h S0 pl))) 108) cl (Int32.ofInt (cs : Int)))) 109 (upd ((v_ur (v_ur S0 107 (upd (S0 107) cl (p_h S0 pl))) 108 (upd ((v_ur S0 107 (upd (S0 107) cl (p_h S0 pl))) 108) cl (Int32.ofInt (cs : Int)))) 109) cl (Int32.ofInt (cs : Int)))) 110 (upd ((v_ur (v_ur (v_ur S0 107 (upd (S0 107) cl (p_h S0 pl))) 108 (upd ((v_ur S0 107 (upd (S0 107) cl (p_h S0 pl))) 108) cl (Int32.ofInt (cs : Int)))) 109 (upd ((v_ur (v_ur S0 107 (upd (S0 107) cl (p_h S0 pl))) 108 (upd ((v_ur S0 107 (upd (S0 107) cl (p_h S0 pl))) 108) cl (Int32.ofInt (cs : Int)))) 109) cl (Int32.ofInt (cs : Int)))) 110) cl (Int32.ofInt (cs2 : Int)))) pl2 cs2 sk2 cl b164 nc2 sg2 false h2 o2 na2) R Q
          refine w_put rfl v_tyM rfl rfl rfl ?_
          refine w_eqS (p_wcl (w_inc _)) ?_
          show w_T L xs (d + 7) m_X12_clause 190 [(2, .int (p_h S0 pl)), (0, .ref 100), (1, .int (Int32.ofInt 0))] [] (p_S (v_ur (v_ur (v_ur (v_ur S0 107 (upd (S0 107) cl (p_h S0 pl))) 108 (upd ((v_ur S0 107 (upd (S0 107) cl (p_h S0 pl))) 108) cl (Int32.ofInt (cs : Int)))) 109 (upd ((v_ur (v_ur S0 107 (upd (S0 107) cl (p_h S0 pl))) 108 (upd ((v_ur S0 107 (upd (S0 107) cl (p_h S0 pl))) 108) cl (Int32.ofInt (cs : Int)))) 109) cl (Int32.ofInt (cs : Int)))) 110 (upd ((v_ur (v_ur (v_ur S0 107 (upd (S0 107) cl (p_h S0 pl))) 108 (upd ((v_ur S0 107 (upd (S0 107) cl (p_h S0 pl))) 108) cl (Int32.ofInt (cs : Int)))) 109 (upd ((v_ur (v_ur S0 107 (upd (S0 107) cl (p_h S0 pl))) 108 (upd ((v_ur S0 107 (upd (S0 107) cl (p_h S0 pl))) 108) cl (Int32.ofInt (cs : Int)))) 109) cl (Int32.ofInt (cs : Int)))) 110) cl (Int32.ofInt (cs2 : Int)))) pl2 cs2 sk2 (cl + 1) b164 nc2 sg2 false h2 o2 na2) R Q
          refine w_ret rfl rfl ?_
          exact Kb _ _ _ _ _ _ _ _ _ _ _ _ (p_F_ur (p_F_ur (p_F_ur (p_F_ur (p_F_rf _) (by omega)) (by omega)) (by omega)) (by omega)) (p_Tw (p_Tw (p_Tw (p_Tw hT (a := 107) rfl) (a := 108) rfl) (a := 109) rfl) (a := 110) rfl) hb164 (by omega) (by omega) (by omega) (by omega)
      · refine w_st rfl (fun _ => rfl) ?_
        refine w_st rfl (fun _ => rfl) ?_
        show w_T L xs (d + 7) m_X12_clause 136 [(2, .int (p_h S0 pl)), (0, .ref 100), (1, .int (Int32.ofInt 0))] [.int (Int32.ofInt 120), .int (p_h S0 pl)] (p_S (v_ur (v_ur S0 107 (upd (S0 107) cl (p_h S0 pl))) 108 (upd ((v_ur S0 107 (upd (S0 107) cl (p_h S0 pl))) 108) cl (Int32.ofInt (cs : Int)))) (pl + 1) cs 0 cl (Int32.ofInt 0) nc sg ov bh (Int32.ofInt 0) na) R Q
        refine w_br (P := (p_h S0 pl) = (Int32.ofInt 120)) rfl (fun _ => rfl) (fun h136 => ?_) (fun h136 => ?_)
        · refine w_st rfl (fun _ => rfl) ?_
          show w_T L xs (d + 7) m_X12_clause 144 [(2, .int (p_h S0 pl)), (0, .ref 100), (1, .int (Int32.ofInt 0))] [.ref 100] (p_S (v_ur (v_ur S0 107 (upd (S0 107) cl (p_h S0 pl))) 108 (upd ((v_ur S0 107 (upd (S0 107) cl (p_h S0 pl))) 108) cl (Int32.ofInt (cs : Int)))) (pl + 1) cs 0 cl (Int32.ofInt 0) nc sg ov bh (Int32.ofInt 0) na) R Q
          refine w_getr rfl v_tyM rfl ?_
          refine w_st rfl (fun _ => rfl) ?_
          show w_T L xs (d + 7) m_X12_clause 148 [(2, .int (p_h S0 pl)), (0, .ref 100), (1, .int (Int32.ofInt 0))] [.ref 100, .ref 110] (p_S (v_ur (v_ur S0 107 (upd (S0 107) cl (p_h S0 pl))) 108 (upd ((v_ur S0 107 (upd (S0 107) cl (p_h S0 pl))) 108) cl (Int32.ofInt (cs : Int)))) (pl + 1) cs 0 cl (Int32.ofInt 0) nc sg ov bh (Int32.ofInt 0) na) R Q
          refine w_get rfl v_tyM rfl ?_
          refine w_st rfl (fun _ => rfl) ?_
          show w_T L xs (d + 7) m_X12_clause 152 [(2, .int (p_h S0 pl)), (0, .ref 100), (1, .int (Int32.ofInt 0))] [.ref 100, .int (Int32.ofInt (cl : Int)), .ref 110] (p_S (v_ur (v_ur S0 107 (upd (S0 107) cl (p_h S0 pl))) 108 (upd ((v_ur S0 107 (upd (S0 107) cl (p_h S0 pl))) 108) cl (Int32.ofInt (cs : Int)))) (pl + 1) cs 0 cl (Int32.ofInt 0) nc sg ov bh (Int32.ofInt 0) na) R Q
          refine w_get rfl v_tyM rfl ?_
          show w_T L xs (d + 7) m_X12_clause 155 [(2, .int (p_h S0 pl)), (0, .ref 100), (1, .int (Int32.ofInt 0))] [.int (Int32.ofInt (cs : Int)), .int (Int32.ofInt (cl : Int)), .ref 110] (p_S (v_ur (v_ur S0 107 (upd (S0 107) cl (p_h S0 pl))) 108 (upd ((v_ur S0 107 (upd (S0 107) cl (p_h S0 pl))) 108) cl (Int32.ofInt (cs : Int)))) (pl + 1) cs 0 cl (Int32.ofInt 0) nc sg ov bh (Int32.ofInt 0) na) R Q
          refine w_iast rfl rfl (by rw [w_nat (by omega)]; omega) (by rw [w_nat (by omega)]; omega) ?_
          refine w_eqS (p_wor (by decide) (w_natn (by omega))) ?_
          refine w_st rfl (fun _ => rfl) ?_
          show w_T L xs (d + 7) m_X12_clause 157 [(2, .int (p_h S0 pl)), (0, .ref 100), (1, .int (Int32.ofInt 0))] [.ref 100] (p_S (v_ur (v_ur (v_ur S0 107 (upd (S0 107) cl (p_h S0 pl))) 108 (upd ((v_ur S0 107 (upd (S0 107) cl (p_h S0 pl))) 108) cl (Int32.ofInt (cs : Int)))) 109 (upd ((v_ur (v_ur S0 107 (upd (S0 107) cl (p_h S0 pl))) 108 (upd ((v_ur S0 107 (upd (S0 107) cl (p_h S0 pl))) 108) cl (Int32.ofInt (cs : Int)))) 109) cl (Int32.ofInt (cs : Int)))) (pl + 1) cs 0 cl (Int32.ofInt 0) nc sg ov bh (Int32.ofInt 0) na) R Q
          refine w_cv rfl (by decide) mt_X12_isGood v_tyM rfl rfl rfl (Nat.le_of_ble_eq_true rfl) (Nat.le_of_ble_eq_true rfl) (Nat.le_of_ble_eq_true rfl) ?_
          show w_T L xs _ m_X12_isGood 0 (lv_args 0 [.ref 100]) [] (p_S (v_ur (v_ur (v_ur S0 107 (upd (S0 107) cl (p_h S0 pl))) 108 (upd ((v_ur S0 107 (upd (S0 107) cl (p_h S0 pl))) 108) cl (Int32.ofInt (cs : Int)))) 109 (upd ((v_ur (v_ur S0 107 (upd (S0 107) cl (p_h S0 pl))) 108 (upd ((v_ur S0 107 (upd (S0 107) cl (p_h S0 pl))) 108) cl (Int32.ofInt (cs : Int)))) 109) cl (Int32.ofInt (cs : Int)))) (pl + 1) cs 0 cl (Int32.ofInt 0) nc sg ov bh (Int32.ofInt 0) na) R _
          refine h_isGT ?_
          show w_T L xs (d + 7) m_X12_clause 160 [(2, .int (p_h S0 pl)), (0, .ref 100), (1, .int (Int32.ofInt 0))] [.int (Int32.ofInt 1)] (p_S (v_ur (v_ur (v_ur S0 107 (upd (S0 107) cl (p_h S0 pl))) 108 (upd ((v_ur S0 107 (upd (S0 107) cl (p_h S0 pl))) 108) cl (Int32.ofInt (cs : Int)))) 109 (upd ((v_ur (v_ur S0 107 (upd (S0 107) cl (p_h S0 pl))) 108 (upd ((v_ur S0 107 (upd (S0 107) cl (p_h S0 pl))) 108) cl (Int32.ofInt (cs : Int)))) 109) cl (Int32.ofInt (cs : Int)))) (pl + 1) cs 0 cl (Int32.ofInt 0) nc sg ov bh (Int32.ofInt 0) na) R Q
          refine w_st rfl (fun _ => rfl) ?_
          refine w_st rfl (fun _ => rfl) ?_
          show w_T L xs (d + 7) m_X12_clause 164 [(2, .int (p_h S0 pl)), (0, .ref 100), (1, .int (Int32.ofInt 0))] [.ref 100] (p_S (v_ur (v_ur (v_ur S0 107 (upd (S0 107) cl (p_h S0 pl))) 108 (upd ((v_ur S0 107 (upd (S0 107) cl (p_h S0 pl))) 108) cl (Int32.ofInt (cs : Int)))) 109 (upd ((v_ur (v_ur S0 107 (upd (S0 107) cl (p_h S0 pl))) 108 (upd ((v_ur S0 107 (upd (S0 107) cl (p_h S0 pl))) 108) cl (Int32.ofInt (cs : Int)))) 109) cl (Int32.ofInt (cs : Int)))) (pl + 1) cs 0 cl (Int32.ofInt 0) nc sg ov bh (Int32.ofInt 0) na) R Q
          refine w_cv rfl (by decide) mt_X12_condition v_tyM rfl rfl rfl (Nat.le_of_ble_eq_true rfl) (Nat.le_of_ble_eq_true rfl) (Nat.le_of_ble_eq_true rfl) ?_
          show w_T L xs _ m_X12_condition 0 (lv_args 0 [.ref 100]) [] (p_S (v_ur (v_ur (v_ur S0 107 (upd (S0 107) cl (p_h S0 pl))) 108 (upd ((v_ur S0 107 (upd (S0 107) cl (p_h S0 pl))) 108) cl (Int32.ofInt (cs : Int)))) 109 (upd ((v_ur (v_ur S0 107 (upd (S0 107) cl (p_h S0 pl))) 108 (upd ((v_ur S0 107 (upd (S0 107) cl (p_h S0 pl))) 108) cl (Int32.ofInt (cs : Int)))) 109) cl (Int32.ofInt (cs : Int)))) (pl + 1) cs 0 cl (Int32.ofInt 0) nc sg ov bh (Int32.ofInt 0) na) R _
          refine h_cond (S0 := (v_ur (v_ur (v_ur S0 107 (upd (S0 107) cl (p_h S0 pl))) 108 (upd ((v_ur S0 107 (upd (S0 107) cl (p_h S0 pl))) 108) cl (Int32.ofInt (cs : Int)))) 109 (upd ((v_ur (v_ur S0 107 (upd (S0 107) cl (p_h S0 pl))) 108 (upd ((v_ur S0 107 (upd (S0 107) cl (p_h S0 pl))) 108) cl (Int32.ofInt (cs : Int)))) 109) cl (Int32.ofInt (cs : Int))))) he (by omega) (by omega) (fun pl2 cs2 sk2 nc2 sg2 na2 o2 h2 l2 i2 j2 k2 => ?_) (fun pl2 cs2 sk2 b164 nc2 sg2 na2 o2 h2 hb164 j2 k2 => ?_)
          · obtain ⟨r1, r2, r3⟩ := p_I_of i2
            show w_T L xs (d + 7) m_X12_clause 167 [(2, .int (p_h S0 pl)), (0, .ref 100), (1, .int (Int32.ofInt 0))] [] (p_S (v_ur (v_ur (v_ur S0 107 (upd (S0 107) cl (p_h S0 pl))) 108 (upd ((v_ur S0 107 (upd (S0 107) cl (p_h S0 pl))) 108) cl (Int32.ofInt (cs : Int)))) 109 (upd ((v_ur (v_ur S0 107 (upd (S0 107) cl (p_h S0 pl))) 108 (upd ((v_ur S0 107 (upd (S0 107) cl (p_h S0 pl))) 108) cl (Int32.ofInt (cs : Int)))) 109) cl (Int32.ofInt (cs : Int)))) pl2 cs2 sk2 cl (Int32.ofInt 0) nc2 sg2 true h2 o2 na2) R Q
            refine w_st rfl (fun _ => rfl) ?_
            show w_T L xs (d + 7) m_X12_clause 168 [(2, .int (p_h S0 pl)), (0, .ref 100), (1, .int (Int32.ofInt 0))] [.ref 100] (p_S (v_ur (v_ur (v_ur S0 107 (upd (S0 107) cl (p_h S0 pl))) 108 (upd ((v_ur S0 107 (upd (S0 107) cl (p_h S0 pl))) 108) cl (Int32.ofInt (cs : Int)))) 109 (upd ((v_ur (v_ur S0 107 (upd (S0 107) cl (p_h S0 pl))) 108 (upd ((v_ur S0 107 (upd (S0 107) cl (p_h S0 pl))) 108) cl (Int32.ofInt (cs : Int)))) 109) cl (Int32.ofInt (cs : Int)))) pl2 cs2 sk2 cl (Int32.ofInt 0) nc2 sg2 true h2 o2 na2) R Q
            refine w_getr rfl v_tyM rfl ?_
            refine w_st rfl (fun _ => rfl) ?_
            show w_T L xs (d + 7) m_X12_clause 172 [(2, .int (p_h S0 pl)), (0, .ref 100), (1, .int (Int32.ofInt 0))] [.ref 100, .ref 111] (p_S (v_ur (v_ur (v_ur S0 107 (upd (S0 107) cl (p_h S0 pl))) 108 (upd ((v_ur S0 107 (upd (S0 107) cl (p_h S0 pl))) 108) cl (Int32.ofInt (cs : Int)))) 109 (upd ((v_ur (v_ur S0 107 (upd (S0 107) cl (p_h S0 pl))) 108 (upd ((v_ur S0 107 (upd (S0 107) cl (p_h S0 pl))) 108) cl (Int32.ofInt (cs : Int)))) 109) cl (Int32.ofInt (cs : Int)))) pl2 cs2 sk2 cl (Int32.ofInt 0) nc2 sg2 true h2 o2 na2) R Q
            refine w_get rfl v_tyM rfl ?_
            refine w_st rfl (fun _ => rfl) ?_
            show w_T L xs (d + 7) m_X12_clause 176 [(2, .int (p_h S0 pl)), (0, .ref 100), (1, .int (Int32.ofInt 0))] [.ref 100, .int (Int32.ofInt (cl : Int)), .ref 111] (p_S (v_ur (v_ur (v_ur S0 107 (upd (S0 107) cl (p_h S0 pl))) 108 (upd ((v_ur S0 107 (upd (S0 107) cl (p_h S0 pl))) 108) cl (Int32.ofInt (cs : Int)))) 109 (upd ((v_ur (v_ur S0 107 (upd (S0 107) cl (p_h S0 pl))) 108 (upd ((v_ur S0 107 (upd (S0 107) cl (p_h S0 pl))) 108) cl (Int32.ofInt (cs : Int)))) 109) cl (Int32.ofInt (cs : Int)))) pl2 cs2 sk2 cl (Int32.ofInt 0) nc2 sg2 true h2 o2 na2) R Q
            refine w_get rfl v_tyM rfl ?_
            show w_T L xs (d + 7) m_X12_clause 179 [(2, .int (p_h S0 pl)), (0, .ref 100), (1, .int (Int32.ofInt 0))] [.int (Int32.ofInt (cs2 : Int)), .int (Int32.ofInt (cl : Int)), .ref 111] (p_S (v_ur (v_ur (v_ur S0 107 (upd (S0 107) cl (p_h S0 pl))) 108 (upd ((v_ur S0 107 (upd (S0 107) cl (p_h S0 pl))) 108) cl (Int32.ofInt (cs : Int)))) 109 (upd ((v_ur (v_ur S0 107 (upd (S0 107) cl (p_h S0 pl))) 108 (upd ((v_ur S0 107 (upd (S0 107) cl (p_h S0 pl))) 108) cl (Int32.ofInt (cs : Int)))) 109) cl (Int32.ofInt (cs : Int)))) pl2 cs2 sk2 cl (Int32.ofInt 0) nc2 sg2 true h2 o2 na2) R Q
            refine w_iast rfl rfl (by rw [w_nat (by omega)]; omega) (by rw [w_nat (by omega)]; omega) ?_
            refine w_eqS (p_wor (by decide) (w_natn (by omega))) ?_
            refine w_st rfl (fun _ => rfl) ?_
            refine w_st rfl (fun _ => rfl) ?_
            show w_T L xs (d + 7) m_X12_clause 182 [(2, .int (p_h S0 pl)), (0, .ref 100), (1, .int (Int32.ofInt 0))] [.ref 100, .ref 100] (p_S (v_ur (v_ur (v_ur (v_ur S0 107 (upd (S0 107) cl (p_h S0 pl))) 108 (upd ((v_ur S0 107 (upd (S0 107) cl (p_h S0 pl))) 108) cl (Int32.ofInt (cs : Int)))) 109 (upd ((v_ur (v_ur S0 107 (upd (S0 107) cl (p_h S0 pl))) 108 (upd ((v_ur S0 107 (upd (S0 107) cl (p_h S0 pl))) 108) cl (Int32.ofInt (cs : Int)))) 109) cl (Int32.ofInt (cs : Int)))) 110 (upd ((v_ur (v_ur (v_ur S0 107 (upd (S0 107) cl (p_h S0 pl))) 108 (upd ((v_ur S0 107 (upd (S0 107) cl (p_h S0 pl))) 108) cl (Int32.ofInt (cs : Int)))) 109 (upd ((v_ur (v_ur S0 107 (upd (S0 107) cl (p_h S0 pl))) 108 (upd ((v_ur S0 107 (upd (S0 107) cl (p_h S0 pl))) 108) cl (Int32.ofInt (cs : Int)))) 109) cl (Int32.ofInt (cs : Int)))) 110) cl (Int32.ofInt (cs2 : Int)))) pl2 cs2 sk2 cl (Int32.ofInt 0) nc2 sg2 true h2 o2 na2) R Q
            refine w_get rfl v_tyM rfl ?_
            refine w_st rfl (fun _ => rfl) ?_
            refine w_st rfl (fun _ => rfl) ?_
            show w_T L xs (d + 7) m_X12_clause 187 [(2, .int (p_h S0 pl)), (0, .ref 100), (1, .int (Int32.ofInt 0))] [.int ((Int32.ofInt (cl : Int)) + (Int32.ofInt 1)), .ref 100] (p_S (v_ur (v_ur (v_ur (v_ur S0 107 (upd (S0 107) cl (p_h S0 pl))) 108 (upd ((v_ur S0 107 (upd (S0 107) cl (p_h S0 pl))) 108) cl (Int32.ofInt (cs : Int)))) 109 (upd ((v_ur (v_ur S0 107 (upd (S0 107) cl (p_h S0 pl))) 108 (upd ((v_ur S0 107 (upd (S0 107) cl (p_h S0 pl))) 108) cl (Int32.ofInt (cs : Int)))) 109) cl (Int32.ofInt (cs : Int)))) 110 (upd ((v_ur (v_ur (v_ur S0 107 (upd (S0 107) cl (p_h S0 pl))) 108 (upd ((v_ur S0 107 (upd (S0 107) cl (p_h S0 pl))) 108) cl (Int32.ofInt (cs : Int)))) 109 (upd ((v_ur (v_ur S0 107 (upd (S0 107) cl (p_h S0 pl))) 108 (upd ((v_ur S0 107 (upd (S0 107) cl (p_h S0 pl))) 108) cl (Int32.ofInt (cs : Int)))) 109) cl (Int32.ofInt (cs : Int)))) 110) cl (Int32.ofInt (cs2 : Int)))) pl2 cs2 sk2 cl (Int32.ofInt 0) nc2 sg2 true h2 o2 na2) R Q
            refine w_put rfl v_tyM rfl rfl rfl ?_
            refine w_eqS (p_wcl (w_inc _)) ?_
            show w_T L xs (d + 7) m_X12_clause 190 [(2, .int (p_h S0 pl)), (0, .ref 100), (1, .int (Int32.ofInt 0))] [] (p_S (v_ur (v_ur (v_ur (v_ur S0 107 (upd (S0 107) cl (p_h S0 pl))) 108 (upd ((v_ur S0 107 (upd (S0 107) cl (p_h S0 pl))) 108) cl (Int32.ofInt (cs : Int)))) 109 (upd ((v_ur (v_ur S0 107 (upd (S0 107) cl (p_h S0 pl))) 108 (upd ((v_ur S0 107 (upd (S0 107) cl (p_h S0 pl))) 108) cl (Int32.ofInt (cs : Int)))) 109) cl (Int32.ofInt (cs : Int)))) 110 (upd ((v_ur (v_ur (v_ur S0 107 (upd (S0 107) cl (p_h S0 pl))) 108 (upd ((v_ur S0 107 (upd (S0 107) cl (p_h S0 pl))) 108) cl (Int32.ofInt (cs : Int)))) 109 (upd ((v_ur (v_ur S0 107 (upd (S0 107) cl (p_h S0 pl))) 108 (upd ((v_ur S0 107 (upd (S0 107) cl (p_h S0 pl))) 108) cl (Int32.ofInt (cs : Int)))) 109) cl (Int32.ofInt (cs : Int)))) 110) cl (Int32.ofInt (cs2 : Int)))) pl2 cs2 sk2 (cl + 1) (Int32.ofInt 0) nc2 sg2 true h2 o2 na2) R Q
            refine w_ret rfl rfl ?_
            refine Kg _ _ _ _ _ _ _ _ _ _ (p_F_ur (p_F_ur (p_F_ur (p_F_ur (p_F_rf _) (by omega)) (by omega)) (by omega)) (by omega)) (p_Tw (p_Tw (p_Tw (p_Tw hT (a := 107) rfl) (a := 108) rfl) (a := 109) rfl) (a := 110) rfl) (p_Z_add (cs1 := cs) hZ (fun k hk => ?_) ?_ ?_ ?_ (by omega) (by omega) (fun k hk => r2 k hk) (by rw [Nat.sub_self]; trivial) r3) (by omega) (by omega) (by omega) (by omega) (by omega)
            · have hne : ¬ k = cl := by omega
              simp [v_ur, upd, hne]
            · simp [v_ur, upd]
            · simp [v_ur, upd]
            · simp [v_ur, upd]
          · show w_T L xs (d + 7) m_X12_clause 167 [(2, .int (p_h S0 pl)), (0, .ref 100), (1, .int (Int32.ofInt 0))] [] (p_S (v_ur (v_ur (v_ur S0 107 (upd (S0 107) cl (p_h S0 pl))) 108 (upd ((v_ur S0 107 (upd (S0 107) cl (p_h S0 pl))) 108) cl (Int32.ofInt (cs : Int)))) 109 (upd ((v_ur (v_ur S0 107 (upd (S0 107) cl (p_h S0 pl))) 108 (upd ((v_ur S0 107 (upd (S0 107) cl (p_h S0 pl))) 108) cl (Int32.ofInt (cs : Int)))) 109) cl (Int32.ofInt (cs : Int)))) pl2 cs2 sk2 cl b164 nc2 sg2 false h2 o2 na2) R Q
            refine w_st rfl (fun _ => rfl) ?_
            show w_T L xs (d + 7) m_X12_clause 168 [(2, .int (p_h S0 pl)), (0, .ref 100), (1, .int (Int32.ofInt 0))] [.ref 100] (p_S (v_ur (v_ur (v_ur S0 107 (upd (S0 107) cl (p_h S0 pl))) 108 (upd ((v_ur S0 107 (upd (S0 107) cl (p_h S0 pl))) 108) cl (Int32.ofInt (cs : Int)))) 109 (upd ((v_ur (v_ur S0 107 (upd (S0 107) cl (p_h S0 pl))) 108 (upd ((v_ur S0 107 (upd (S0 107) cl (p_h S0 pl))) 108) cl (Int32.ofInt (cs : Int)))) 109) cl (Int32.ofInt (cs : Int)))) pl2 cs2 sk2 cl b164 nc2 sg2 false h2 o2 na2) R Q
            refine w_getr rfl v_tyM rfl ?_
            refine w_st rfl (fun _ => rfl) ?_
            show w_T L xs (d + 7) m_X12_clause 172 [(2, .int (p_h S0 pl)), (0, .ref 100), (1, .int (Int32.ofInt 0))] [.ref 100, .ref 111] (p_S (v_ur (v_ur (v_ur S0 107 (upd (S0 107) cl (p_h S0 pl))) 108 (upd ((v_ur S0 107 (upd (S0 107) cl (p_h S0 pl))) 108) cl (Int32.ofInt (cs : Int)))) 109 (upd ((v_ur (v_ur S0 107 (upd (S0 107) cl (p_h S0 pl))) 108 (upd ((v_ur S0 107 (upd (S0 107) cl (p_h S0 pl))) 108) cl (Int32.ofInt (cs : Int)))) 109) cl (Int32.ofInt (cs : Int)))) pl2 cs2 sk2 cl b164 nc2 sg2 false h2 o2 na2) R Q
            refine w_get rfl v_tyM rfl ?_
            refine w_st rfl (fun _ => rfl) ?_
            show w_T L xs (d + 7) m_X12_clause 176 [(2, .int (p_h S0 pl)), (0, .ref 100), (1, .int (Int32.ofInt 0))] [.ref 100, .int (Int32.ofInt (cl : Int)), .ref 111] (p_S (v_ur (v_ur (v_ur S0 107 (upd (S0 107) cl (p_h S0 pl))) 108 (upd ((v_ur S0 107 (upd (S0 107) cl (p_h S0 pl))) 108) cl (Int32.ofInt (cs : Int)))) 109 (upd ((v_ur (v_ur S0 107 (upd (S0 107) cl (p_h S0 pl))) 108 (upd ((v_ur S0 107 (upd (S0 107) cl (p_h S0 pl))) 108) cl (Int32.ofInt (cs : Int)))) 109) cl (Int32.ofInt (cs : Int)))) pl2 cs2 sk2 cl b164 nc2 sg2 false h2 o2 na2) R Q
            refine w_get rfl v_tyM rfl ?_
            show w_T L xs (d + 7) m_X12_clause 179 [(2, .int (p_h S0 pl)), (0, .ref 100), (1, .int (Int32.ofInt 0))] [.int (Int32.ofInt (cs2 : Int)), .int (Int32.ofInt (cl : Int)), .ref 111] (p_S (v_ur (v_ur (v_ur S0 107 (upd (S0 107) cl (p_h S0 pl))) 108 (upd ((v_ur S0 107 (upd (S0 107) cl (p_h S0 pl))) 108) cl (Int32.ofInt (cs : Int)))) 109 (upd ((v_ur (v_ur S0 107 (upd (S0 107) cl (p_h S0 pl))) 108 (upd ((v_ur S0 107 (upd (S0 107) cl (p_h S0 pl))) 108) cl (Int32.ofInt (cs : Int)))) 109) cl (Int32.ofInt (cs : Int)))) pl2 cs2 sk2 cl b164 nc2 sg2 false h2 o2 na2) R Q
            refine w_iast rfl rfl (by rw [w_nat (by omega)]; omega) (by rw [w_nat (by omega)]; omega) ?_
            refine w_eqS (p_wor (by decide) (w_natn (by omega))) ?_
            refine w_st rfl (fun _ => rfl) ?_
            refine w_st rfl (fun _ => rfl) ?_
            show w_T L xs (d + 7) m_X12_clause 182 [(2, .int (p_h S0 pl)), (0, .ref 100), (1, .int (Int32.ofInt 0))] [.ref 100, .ref 100] (p_S (v_ur (v_ur (v_ur (v_ur S0 107 (upd (S0 107) cl (p_h S0 pl))) 108 (upd ((v_ur S0 107 (upd (S0 107) cl (p_h S0 pl))) 108) cl (Int32.ofInt (cs : Int)))) 109 (upd ((v_ur (v_ur S0 107 (upd (S0 107) cl (p_h S0 pl))) 108 (upd ((v_ur S0 107 (upd (S0 107) cl (p_h S0 pl))) 108) cl (Int32.ofInt (cs : Int)))) 109) cl (Int32.ofInt (cs : Int)))) 110 (upd ((v_ur (v_ur (v_ur S0 107 (upd (S0 107) cl (p_h S0 pl))) 108 (upd ((v_ur S0 107 (upd (S0 107) cl (p_h S0 pl))) 108) cl (Int32.ofInt (cs : Int)))) 109 (upd ((v_ur (v_ur S0 107 (upd (S0 107) cl (p_h S0 pl))) 108 (upd ((v_ur S0 107 (upd (S0 107) cl (p_h S0 pl))) 108) cl (Int32.ofInt (cs : Int)))) 109) cl (Int32.ofInt (cs : Int)))) 110) cl (Int32.ofInt (cs2 : Int)))) pl2 cs2 sk2 cl b164 nc2 sg2 false h2 o2 na2) R Q
            refine w_get rfl v_tyM rfl ?_
            refine w_st rfl (fun _ => rfl) ?_
            refine w_st rfl (fun _ => rfl) ?_
            show w_T L xs (d + 7) m_X12_clause 187 [(2, .int (p_h S0 pl)), (0, .ref 100), (1, .int (Int32.ofInt 0))] [.int ((Int32.ofInt (cl : Int)) + (Int32.ofInt 1)), .ref 100] (p_S (v_ur (v_ur (v_ur (v_ur S0 107 (upd (S0 107) cl (p_h S0 pl))) 108 (upd ((v_ur S0 107 (upd (S0 107) cl (p_h S0 pl))) 108) cl (Int32.ofInt (cs : Int)))) 109 (upd ((v_ur (v_ur S0 107 (upd (S0 107) cl (p_h S0 pl))) 108 (upd ((v_ur S0 107 (upd (S0 107) cl (p_h S0 pl))) 108) cl (Int32.ofInt (cs : Int)))) 109) cl (Int32.ofInt (cs : Int)))) 110 (upd ((v_ur (v_ur (v_ur S0 107 (upd (S0 107) cl (p_h S0 pl))) 108 (upd ((v_ur S0 107 (upd (S0 107) cl (p_h S0 pl))) 108) cl (Int32.ofInt (cs : Int)))) 109 (upd ((v_ur (v_ur S0 107 (upd (S0 107) cl (p_h S0 pl))) 108 (upd ((v_ur S0 107 (upd (S0 107) cl (p_h S0 pl))) 108) cl (Int32.ofInt (cs : Int)))) 109) cl (Int32.ofInt (cs : Int)))) 110) cl (Int32.ofInt (cs2 : Int)))) pl2 cs2 sk2 cl b164 nc2 sg2 false h2 o2 na2) R Q
            refine w_put rfl v_tyM rfl rfl rfl ?_
            refine w_eqS (p_wcl (w_inc _)) ?_
            show w_T L xs (d + 7) m_X12_clause 190 [(2, .int (p_h S0 pl)), (0, .ref 100), (1, .int (Int32.ofInt 0))] [] (p_S (v_ur (v_ur (v_ur (v_ur S0 107 (upd (S0 107) cl (p_h S0 pl))) 108 (upd ((v_ur S0 107 (upd (S0 107) cl (p_h S0 pl))) 108) cl (Int32.ofInt (cs : Int)))) 109 (upd ((v_ur (v_ur S0 107 (upd (S0 107) cl (p_h S0 pl))) 108 (upd ((v_ur S0 107 (upd (S0 107) cl (p_h S0 pl))) 108) cl (Int32.ofInt (cs : Int)))) 109) cl (Int32.ofInt (cs : Int)))) 110 (upd ((v_ur (v_ur (v_ur S0 107 (upd (S0 107) cl (p_h S0 pl))) 108 (upd ((v_ur S0 107 (upd (S0 107) cl (p_h S0 pl))) 108) cl (Int32.ofInt (cs : Int)))) 109 (upd ((v_ur (v_ur S0 107 (upd (S0 107) cl (p_h S0 pl))) 108 (upd ((v_ur S0 107 (upd (S0 107) cl (p_h S0 pl))) 108) cl (Int32.ofInt (cs : Int)))) 109) cl (Int32.ofInt (cs : Int)))) 110) cl (Int32.ofInt (cs2 : Int)))) pl2 cs2 sk2 (cl + 1) b164 nc2 sg2 false h2 o2 na2) R Q
            refine w_ret rfl rfl ?_
            exact Kb _ _ _ _ _ _ _ _ _ _ _ _ (p_F_ur (p_F_ur (p_F_ur (p_F_ur (p_F_rf _) (by omega)) (by omega)) (by omega)) (by omega)) (p_Tw (p_Tw (p_Tw (p_Tw hT (a := 107) rfl) (a := 108) rfl) (a := 109) rfl) (a := 110) rfl) hb164 (by omega) (by omega) (by omega) (by omega)
        · refine w_st rfl (fun _ => rfl) ?_
          show w_T L xs (d + 7) m_X12_clause 140 [(2, .int (p_h S0 pl)), (0, .ref 100), (1, .int (Int32.ofInt 0))] [.ref 100] (p_S (v_ur (v_ur S0 107 (upd (S0 107) cl (p_h S0 pl))) 108 (upd ((v_ur S0 107 (upd (S0 107) cl (p_h S0 pl))) 108) cl (Int32.ofInt (cs : Int)))) (pl + 1) cs 0 cl (Int32.ofInt 0) nc sg ov bh (Int32.ofInt 0) na) R Q
          refine w_cv rfl (by decide) mt_X12_value v_tyM rfl rfl rfl (Nat.le_of_ble_eq_true rfl) (Nat.le_of_ble_eq_true rfl) (Nat.le_of_ble_eq_true rfl) ?_
          show w_T L xs _ m_X12_value 0 (lv_args 0 [.ref 100]) [] (p_S (v_ur (v_ur S0 107 (upd (S0 107) cl (p_h S0 pl))) 108 (upd ((v_ur S0 107 (upd (S0 107) cl (p_h S0 pl))) 108) cl (Int32.ofInt (cs : Int)))) (pl + 1) cs 0 cl (Int32.ofInt 0) nc sg ov bh (Int32.ofInt 0) na) R _
          refine h_value (S0 := (v_ur (v_ur S0 107 (upd (S0 107) cl (p_h S0 pl))) 108 (upd ((v_ur S0 107 (upd (S0 107) cl (p_h S0 pl))) 108) cl (Int32.ofInt (cs : Int))))) he p_I_0 (fun h => absurd h (by omega)) (by omega) (by omega) (fun pl1 cs1 nc1 sg1 na1 o1 h1 l1 i1 e1 j1 k1 => ?_) (fun pl1 cs1 sk1 b140 nc1 sg1 na1 o1 h1 hb140 j1 k1 => ?_)
          · obtain ⟨q1, q2, q3⟩ := p_I_of i1
            show w_T L xs (d + 7) m_X12_clause 143 [(2, .int (p_h S0 pl)), (0, .ref 100), (1, .int (Int32.ofInt 0))] [] (p_S (v_ur (v_ur S0 107 (upd (S0 107) cl (p_h S0 pl))) 108 (upd ((v_ur S0 107 (upd (S0 107) cl (p_h S0 pl))) 108) cl (Int32.ofInt (cs : Int)))) pl1 cs1 0 cl (Int32.ofInt 0) nc1 sg1 ov h1 o1 na1) R Q
            refine w_st rfl (fun _ => rfl) ?_
            show w_T L xs (d + 7) m_X12_clause 144 [(2, .int (p_h S0 pl)), (0, .ref 100), (1, .int (Int32.ofInt 0))] [.ref 100] (p_S (v_ur (v_ur S0 107 (upd (S0 107) cl (p_h S0 pl))) 108 (upd ((v_ur S0 107 (upd (S0 107) cl (p_h S0 pl))) 108) cl (Int32.ofInt (cs : Int)))) pl1 cs1 0 cl (Int32.ofInt 0) nc1 sg1 ov h1 o1 na1) R Q
            refine w_getr rfl v_tyM rfl ?_
            refine w_st rfl (fun _ => rfl) ?_
            show w_T L xs (d + 7) m_X12_clause 148 [(2, .int (p_h S0 pl)), (0, .ref 100), (1, .int (Int32.ofInt 0))] [.ref 100, .ref 110] (p_S (v_ur (v_ur S0 107 (upd (S0 107) cl (p_h S0 pl))) 108 (upd ((v_ur S0 107 (upd (S0 107) cl (p_h S0 pl))) 108) cl (Int32.ofInt (cs : Int)))) pl1 cs1 0 cl (Int32.ofInt 0) nc1 sg1 ov h1 o1 na1) R Q
            refine w_get rfl v_tyM rfl ?_
            refine w_st rfl (fun _ => rfl) ?_
            show w_T L xs (d + 7) m_X12_clause 152 [(2, .int (p_h S0 pl)), (0, .ref 100), (1, .int (Int32.ofInt 0))] [.ref 100, .int (Int32.ofInt (cl : Int)), .ref 110] (p_S (v_ur (v_ur S0 107 (upd (S0 107) cl (p_h S0 pl))) 108 (upd ((v_ur S0 107 (upd (S0 107) cl (p_h S0 pl))) 108) cl (Int32.ofInt (cs : Int)))) pl1 cs1 0 cl (Int32.ofInt 0) nc1 sg1 ov h1 o1 na1) R Q
            refine w_get rfl v_tyM rfl ?_
            show w_T L xs (d + 7) m_X12_clause 155 [(2, .int (p_h S0 pl)), (0, .ref 100), (1, .int (Int32.ofInt 0))] [.int (Int32.ofInt (cs1 : Int)), .int (Int32.ofInt (cl : Int)), .ref 110] (p_S (v_ur (v_ur S0 107 (upd (S0 107) cl (p_h S0 pl))) 108 (upd ((v_ur S0 107 (upd (S0 107) cl (p_h S0 pl))) 108) cl (Int32.ofInt (cs : Int)))) pl1 cs1 0 cl (Int32.ofInt 0) nc1 sg1 ov h1 o1 na1) R Q
            refine w_iast rfl rfl (by rw [w_nat (by omega)]; omega) (by rw [w_nat (by omega)]; omega) ?_
            refine w_eqS (p_wor (by decide) (w_natn (by omega))) ?_
            refine w_st rfl (fun _ => rfl) ?_
            show w_T L xs (d + 7) m_X12_clause 157 [(2, .int (p_h S0 pl)), (0, .ref 100), (1, .int (Int32.ofInt 0))] [.ref 100] (p_S (v_ur (v_ur (v_ur S0 107 (upd (S0 107) cl (p_h S0 pl))) 108 (upd ((v_ur S0 107 (upd (S0 107) cl (p_h S0 pl))) 108) cl (Int32.ofInt (cs : Int)))) 109 (upd ((v_ur (v_ur S0 107 (upd (S0 107) cl (p_h S0 pl))) 108 (upd ((v_ur S0 107 (upd (S0 107) cl (p_h S0 pl))) 108) cl (Int32.ofInt (cs : Int)))) 109) cl (Int32.ofInt (cs1 : Int)))) pl1 cs1 0 cl (Int32.ofInt 0) nc1 sg1 ov h1 o1 na1) R Q
            refine w_cv rfl (by decide) mt_X12_isGood v_tyM rfl rfl rfl (Nat.le_of_ble_eq_true rfl) (Nat.le_of_ble_eq_true rfl) (Nat.le_of_ble_eq_true rfl) ?_
            show w_T L xs _ m_X12_isGood 0 (lv_args 0 [.ref 100]) [] (p_S (v_ur (v_ur (v_ur S0 107 (upd (S0 107) cl (p_h S0 pl))) 108 (upd ((v_ur S0 107 (upd (S0 107) cl (p_h S0 pl))) 108) cl (Int32.ofInt (cs : Int)))) 109 (upd ((v_ur (v_ur S0 107 (upd (S0 107) cl (p_h S0 pl))) 108 (upd ((v_ur S0 107 (upd (S0 107) cl (p_h S0 pl))) 108) cl (Int32.ofInt (cs : Int)))) 109) cl (Int32.ofInt (cs1 : Int)))) pl1 cs1 0 cl (Int32.ofInt 0) nc1 sg1 ov h1 o1 na1) R _
            refine h_isGT ?_
            show w_T L xs (d + 7) m_X12_clause 160 [(2, .int (p_h S0 pl)), (0, .ref 100), (1, .int (Int32.ofInt 0))] [.int (Int32.ofInt 1)] (p_S (v_ur (v_ur (v_ur S0 107 (upd (S0 107) cl (p_h S0 pl))) 108 (upd ((v_ur S0 107 (upd (S0 107) cl (p_h S0 pl))) 108) cl (Int32.ofInt (cs : Int)))) 109 (upd ((v_ur (v_ur S0 107 (upd (S0 107) cl (p_h S0 pl))) 108 (upd ((v_ur S0 107 (upd (S0 107) cl (p_h S0 pl))) 108) cl (Int32.ofInt (cs : Int)))) 109) cl (Int32.ofInt (cs1 : Int)))) pl1 cs1 0 cl (Int32.ofInt 0) nc1 sg1 ov h1 o1 na1) R Q
            refine w_st rfl (fun _ => rfl) ?_
            refine w_st rfl (fun _ => rfl) ?_
            show w_T L xs (d + 7) m_X12_clause 164 [(2, .int (p_h S0 pl)), (0, .ref 100), (1, .int (Int32.ofInt 0))] [.ref 100] (p_S (v_ur (v_ur (v_ur S0 107 (upd (S0 107) cl (p_h S0 pl))) 108 (upd ((v_ur S0 107 (upd (S0 107) cl (p_h S0 pl))) 108) cl (Int32.ofInt (cs : Int)))) 109 (upd ((v_ur (v_ur S0 107 (upd (S0 107) cl (p_h S0 pl))) 108 (upd ((v_ur S0 107 (upd (S0 107) cl (p_h S0 pl))) 108) cl (Int32.ofInt (cs : Int)))) 109) cl (Int32.ofInt (cs1 : Int)))) pl1 cs1 0 cl (Int32.ofInt 0) nc1 sg1 ov h1 o1 na1) R Q
            refine w_cv rfl (by decide) mt_X12_condition v_tyM rfl rfl rfl (Nat.le_of_ble_eq_true rfl) (Nat.le_of_ble_eq_true rfl) (Nat.le_of_ble_eq_true rfl) ?_
            show w_T L xs _ m_X12_condition 0 (lv_args 0 [.ref 100]) [] (p_S (v_ur (v_ur (v_ur S0 107 (upd (S0 107) cl (p_h S0 pl))) 108 (upd ((v_ur S0 107 (upd (S0 107) cl (p_h S0 pl))) 108) cl (Int32.ofInt (cs : Int)))) 109 (upd ((v_ur (v_ur S0 107 (upd (S0 107) cl (p_h S0 pl))) 108 (upd ((v_ur S0 107 (upd (S0 107) cl (p_h S0 pl))) 108) cl (Int32.ofInt (cs : Int)))) 109) cl (Int32.ofInt (cs1 : Int)))) pl1 cs1 0 cl (Int32.ofInt 0) nc1 sg1 ov h1 o1 na1) R _
            refine h_cond (S0 := (v_ur (v_ur (v_ur S0 107 (upd (S0 107) cl (p_h S0 pl))) 108 (upd ((v_ur S0 107 (upd (S0 107) cl (p_h S0 pl))) 108) cl (Int32.ofInt (cs : Int)))) 109 (upd ((v_ur (v_ur S0 107 (upd (S0 107) cl (p_h S0 pl))) 108 (upd ((v_ur S0 107 (upd (S0 107) cl (p_h S0 pl))) 108) cl (Int32.ofInt (cs : Int)))) 109) cl (Int32.ofInt (cs1 : Int))))) he (by omega) (by omega) (fun pl2 cs2 sk2 nc2 sg2 na2 o2 h2 l2 i2 j2 k2 => ?_) (fun pl2 cs2 sk2 b164 nc2 sg2 na2 o2 h2 hb164 j2 k2 => ?_)
            · obtain ⟨r1, r2, r3⟩ := p_I_of i2
              show w_T L xs (d + 7) m_X12_clause 167 [(2, .int (p_h S0 pl)), (0, .ref 100), (1, .int (Int32.ofInt 0))] [] (p_S (v_ur (v_ur (v_ur S0 107 (upd (S0 107) cl (p_h S0 pl))) 108 (upd ((v_ur S0 107 (upd (S0 107) cl (p_h S0 pl))) 108) cl (Int32.ofInt (cs : Int)))) 109 (upd ((v_ur (v_ur S0 107 (upd (S0 107) cl (p_h S0 pl))) 108 (upd ((v_ur S0 107 (upd (S0 107) cl (p_h S0 pl))) 108) cl (Int32.ofInt (cs : Int)))) 109) cl (Int32.ofInt (cs1 : Int)))) pl2 cs2 sk2 cl (Int32.ofInt 0) nc2 sg2 true h2 o2 na2) R Q
              refine w_st rfl (fun _ => rfl) ?_
              show w_T L xs (d + 7) m_X12_clause 168 [(2, .int (p_h S0 pl)), (0, .ref 100), (1, .int (Int32.ofInt 0))] [.ref 100] (p_S (v_ur (v_ur (v_ur S0 107 (upd (S0 107) cl (p_h S0 pl))) 108 (upd ((v_ur S0 107 (upd (S0 107) cl (p_h S0 pl))) 108) cl (Int32.ofInt (cs : Int)))) 109 (upd ((v_ur (v_ur S0 107 (upd (S0 107) cl (p_h S0 pl))) 108 (upd ((v_ur S0 107 (upd (S0 107) cl (p_h S0 pl))) 108) cl (Int32.ofInt (cs : Int)))) 109) cl (Int32.ofInt (cs1 : Int)))) pl2 cs2 sk2 cl (Int32.ofInt 0) nc2 sg2 true h2 o2 na2) R Q
              refine w_getr rfl v_tyM rfl ?_
              refine w_st rfl (fun _ => rfl) ?_
              show w_T L xs (d + 7) m_X12_clause 172 [(2, .int (p_h S0 pl)), (0, .ref 100), (1, .int (Int32.ofInt 0))] [.ref 100, .ref 111] (p_S (v_ur (v_ur (v_ur S0 107 (upd (S0 107) cl (p_h S0 pl))) 108 (upd ((v_ur S0 107 (upd (S0 107) cl (p_h S0 pl))) 108) cl (Int32.ofInt (cs : Int)))) 109 (upd ((v_ur (v_ur S0 107 (upd (S0 107) cl (p_h S0 pl))) 108 (upd ((v_ur S0 107 (upd (S0 107) cl (p_h S0 pl))) 108) cl (Int32.ofInt (cs : Int)))) 109) cl (Int32.ofInt (cs1 : Int)))) pl2 cs2 sk2 cl (Int32.ofInt 0) nc2 sg2 true h2 o2 na2) R Q
              refine w_get rfl v_tyM rfl ?_
              refine w_st rfl (fun _ => rfl) ?_
              show w_T L xs (d + 7) m_X12_clause 176 [(2, .int (p_h S0 pl)), (0, .ref 100), (1, .int (Int32.ofInt 0))] [.ref 100, .int (Int32.ofInt (cl : Int)), .ref 111] (p_S (v_ur (v_ur (v_ur S0 107 (upd (S0 107) cl (p_h S0 pl))) 108 (upd ((v_ur S0 107 (upd (S0 107) cl (p_h S0 pl))) 108) cl (Int32.ofInt (cs : Int)))) 109 (upd ((v_ur (v_ur S0 107 (upd (S0 107) cl (p_h S0 pl))) 108 (upd ((v_ur S0 107 (upd (S0 107) cl (p_h S0 pl))) 108) cl (Int32.ofInt (cs : Int)))) 109) cl (Int32.ofInt (cs1 : Int)))) pl2 cs2 sk2 cl (Int32.ofInt 0) nc2 sg2 true h2 o2 na2) R Q
              refine w_get rfl v_tyM rfl ?_
              show w_T L xs (d + 7) m_X12_clause 179 [(2, .int (p_h S0 pl)), (0, .ref 100), (1, .int (Int32.ofInt 0))] [.int (Int32.ofInt (cs2 : Int)), .int (Int32.ofInt (cl : Int)), .ref 111] (p_S (v_ur (v_ur (v_ur S0 107 (upd (S0 107) cl (p_h S0 pl))) 108 (upd ((v_ur S0 107 (upd (S0 107) cl (p_h S0 pl))) 108) cl (Int32.ofInt (cs : Int)))) 109 (upd ((v_ur (v_ur S0 107 (upd (S0 107) cl (p_h S0 pl))) 108 (upd ((v_ur S0 107 (upd (S0 107) cl (p_h S0 pl))) 108) cl (Int32.ofInt (cs : Int)))) 109) cl (Int32.ofInt (cs1 : Int)))) pl2 cs2 sk2 cl (Int32.ofInt 0) nc2 sg2 true h2 o2 na2) R Q
              refine w_iast rfl rfl (by rw [w_nat (by omega)]; omega) (by rw [w_nat (by omega)]; omega) ?_
              refine w_eqS (p_wor (by decide) (w_natn (by omega))) ?_
              refine w_st rfl (fun _ => rfl) ?_
              refine w_st rfl (fun _ => rfl) ?_
              show w_T L xs (d + 7) m_X12_clause 182 [(2, .int (p_h S0 pl)), (0, .ref 100), (1, .int (Int32.ofInt 0))] [.ref 100, .ref 100] (p_S (v_ur (v_ur (v_ur (v_ur S0 107 (upd (S0 107) cl (p_h S0 pl))) 108 (upd ((v_ur S0 107 (upd (S0 107) cl (p_h S0 pl))) 108) cl (Int32.ofInt (cs : Int)))) 109 (upd ((v_ur (v_ur S0 107 (upd (S0 107) cl (p_h S0 pl))) 108 (upd ((v_ur S0 107 (upd (S0 107) cl (p_h S0 pl))) 108) cl (Int32.ofInt (cs : Int)))) 109) cl (Int32.ofInt (cs1 : Int)))) 110 (upd ((v_ur (v_ur (v_ur S0 107 (upd (S0 107) cl (p_h S0 pl))) 108 (upd ((v_ur S0 107 (upd (S0 107) cl (p_h S0 pl))) 108) cl (Int32.ofInt (cs : Int)))) 109 (upd ((v_ur (v_ur S0 107 (upd (S0 107) cl (p_h S0 pl))) 108 (upd ((v_ur S0 107 (upd (S0 107) cl (p_h S0 pl))) 108) cl (Int32.ofInt (cs : Int)))) 109) cl (Int32.ofInt (cs1 : Int)))) 110) cl (Int32.ofInt (cs2 : Int)))) pl2 cs2 sk2 cl (Int32.ofInt 0) nc2 sg2 true h2 o2 na2) R Q
              refine w_get rfl v_tyM rfl ?_
              refine w_st rfl (fun _ => rfl) ?_
              refine w_st rfl (fun _ => rfl) ?_
              show w_T L xs (d + 7) m_X12_clause 187 [(2, .int (p_h S0 pl)), (0, .ref 100), (1, .int (Int32.ofInt 0))] [.int ((Int32.ofInt (cl : Int)) + (Int32.ofInt 1)), .ref 100] (p_S (v_ur (v_ur (v_ur (v_ur S0 107 (upd (S0 107) cl (p_h S0 pl))) 108 (upd ((v_ur S0 107 (upd (S0 107) cl (p_h S0 pl))) 108) cl (Int32.ofInt (cs : Int)))) 109 (upd ((v_ur (v_ur S0 107 (upd (S0 107) cl (p_h S0 pl))) 108 (upd ((v_ur S0 107 (upd (S0 107) cl (p_h S0 pl))) 108) cl (Int32.ofInt (cs : Int)))) 109) cl (Int32.ofInt (cs1 : Int)))) 110 (upd ((v_ur (v_ur (v_ur S0 107 (upd (S0 107) cl (p_h S0 pl))) 108 (upd ((v_ur S0 107 (upd (S0 107) cl (p_h S0 pl))) 108) cl (Int32.ofInt (cs : Int)))) 109 (upd ((v_ur (v_ur S0 107 (upd (S0 107) cl (p_h S0 pl))) 108 (upd ((v_ur S0 107 (upd (S0 107) cl (p_h S0 pl))) 108) cl (Int32.ofInt (cs : Int)))) 109) cl (Int32.ofInt (cs1 : Int)))) 110) cl (Int32.ofInt (cs2 : Int)))) pl2 cs2 sk2 cl (Int32.ofInt 0) nc2 sg2 true h2 o2 na2) R Q
              refine w_put rfl v_tyM rfl rfl rfl ?_
              refine w_eqS (p_wcl (w_inc _)) ?_
              show w_T L xs (d + 7) m_X12_clause 190 [(2, .int (p_h S0 pl)), (0, .ref 100), (1, .int (Int32.ofInt 0))] [] (p_S (v_ur (v_ur (v_ur (v_ur S0 107 (upd (S0 107) cl (p_h S0 pl))) 108 (upd ((v_ur S0 107 (upd (S0 107) cl (p_h S0 pl))) 108) cl (Int32.ofInt (cs : Int)))) 109 (upd ((v_ur (v_ur S0 107 (upd (S0 107) cl (p_h S0 pl))) 108 (upd ((v_ur S0 107 (upd (S0 107) cl (p_h S0 pl))) 108) cl (Int32.ofInt (cs : Int)))) 109) cl (Int32.ofInt (cs1 : Int)))) 110 (upd ((v_ur (v_ur (v_ur S0 107 (upd (S0 107) cl (p_h S0 pl))) 108 (upd ((v_ur S0 107 (upd (S0 107) cl (p_h S0 pl))) 108) cl (Int32.ofInt (cs : Int)))) 109 (upd ((v_ur (v_ur S0 107 (upd (S0 107) cl (p_h S0 pl))) 108 (upd ((v_ur S0 107 (upd (S0 107) cl (p_h S0 pl))) 108) cl (Int32.ofInt (cs : Int)))) 109) cl (Int32.ofInt (cs1 : Int)))) 110) cl (Int32.ofInt (cs2 : Int)))) pl2 cs2 sk2 (cl + 1) (Int32.ofInt 0) nc2 sg2 true h2 o2 na2) R Q
              refine w_ret rfl rfl ?_
              refine Kg _ _ _ _ _ _ _ _ _ _ (p_F_ur (p_F_ur (p_F_ur (p_F_ur (p_F_rf _) (by omega)) (by omega)) (by omega)) (by omega)) (p_Tw (p_Tw (p_Tw (p_Tw hT (a := 107) rfl) (a := 108) rfl) (a := 109) rfl) (a := 110) rfl) (p_Z_add (cs1 := cs1) hZ (fun k hk => ?_) ?_ ?_ ?_ (by omega) (by omega) (fun k hk => by rw [r2 k (by omega), q2 k hk]) (v_seg_c (fun j x1 x2 => r2 j (by omega)) q3) r3) (by omega) (by omega) (by omega) (by omega) (by omega)
              · have hne : ¬ k = cl := by omega
                simp [v_ur, upd, hne]
              · simp [v_ur, upd]
              · simp [v_ur, upd]
              · simp [v_ur, upd]
            · show w_T L xs (d + 7) m_X12_clause 167 [(2, .int (p_h S0 pl)), (0, .ref 100), (1, .int (Int32.ofInt 0))] [] (p_S (v_ur (v_ur (v_ur S0 107 (upd (S0 107) cl (p_h S0 pl))) 108 (upd ((v_ur S0 107 (upd (S0 107) cl (p_h S0 pl))) 108) cl (Int32.ofInt (cs : Int)))) 109 (upd ((v_ur (v_ur S0 107 (upd (S0 107) cl (p_h S0 pl))) 108 (upd ((v_ur S0 107 (upd (S0 107) cl (p_h S0 pl))) 108) cl (Int32.ofInt (cs : Int)))) 109) cl (Int32.ofInt (cs1 : Int)))) pl2 cs2 sk2 cl b164 nc2 sg2 false h2 o2 na2) R Q
              refine w_st rfl (fun _ => rfl) ?_
              show w_T L xs (d + 7) m_X12_clause 168 [(2, .int (p_h S0 pl)), (0, .ref 100), (1, .int (Int32.ofInt 0))] [.ref 100] (p_S (v_ur (v_ur (v_ur S0 107 (upd (S0 107) cl (p_h S0 pl))) 108 (upd ((v_ur S0 107 (upd (S0 107) cl (p_h S0 pl))) 108) cl (Int32.ofInt (cs : Int)))) 109 (upd ((v_ur (v_ur S0 107 (upd (S0 107) cl (p_h S0 pl))) 108 (upd ((v_ur S0 107 (upd (S0 107) cl (p_h S0 pl))) 108) cl (Int32.ofInt (cs : Int)))) 109) cl (Int32.ofInt (cs1 : Int)))) pl2 cs2 sk2 cl b164 nc2 sg2 false h2 o2 na2) R Q
              refine w_getr rfl v_tyM rfl ?_
              refine w_st rfl (fun _ => rfl) ?_
              show w_T L xs (d + 7) m_X12_clause 172 [(2, .int (p_h S0 pl)), (0, .ref 100), (1, .int (Int32.ofInt 0))] [.ref 100, .ref 111] (p_S (v_ur (v_ur (v_ur S0 107 (upd (S0 107) cl (p_h S0 pl))) 108 (upd ((v_ur S0 107 (upd (S0 107) cl (p_h S0 pl))) 108) cl (Int32.ofInt (cs : Int)))) 109 (upd ((v_ur (v_ur S0 107 (upd (S0 107) cl (p_h S0 pl))) 108 (upd ((v_ur S0 107 (upd (S0 107) cl (p_h S0 pl))) 108) cl (Int32.ofInt (cs : Int)))) 109) cl (Int32.ofInt (cs1 : Int)))) pl2 cs2 sk2 cl b164 nc2 sg2 false h2 o2 na2) R Q
              refine w_get rfl v_tyM rfl ?_
              refine w_st rfl (fun _ => rfl) ?_
              show w_T L xs (d + 7) m_X12_clause 176 [(2, .int (p_h S0 pl)), (0, .ref 100), (1, .int (Int32.ofInt 0))] [.ref 100, .int (Int32.ofInt (cl : Int)), .ref 111] (p_S (v_ur (v_ur (v_ur S0 107 (upd (S0 107) cl (p_h S0 pl))) 108 (upd ((v_ur S0 107 (upd (S0 107) cl (p_h S0 pl))) 108) cl (Int32.ofInt (cs : Int)))) 109 (upd ((v_ur (v_ur S0 107 (upd (S0 107) cl (p_h S0 pl))) 108 (upd ((v_ur S0 107 (upd (S0 107) cl (p_h S0 pl))) 108) cl (Int32.ofInt (cs : Int)))) 109) cl (Int32.ofInt (cs1 : Int)))) pl2 cs2 sk2 cl b164 nc2 sg2 false h2 o2 na2) R Q
              refine w_get rfl v_tyM rfl ?_
              show w_T L xs (d + 7) m_X12_clause 179 [(2, .int (p_h S0 pl)), (0, .ref 100), (1, .int (Int32.ofInt 0))] [.int (Int32.ofInt (cs2 : Int)), .int (Int32.ofInt (cl : Int)), .ref 111] (p_S (v_ur (v_ur (v_ur S0 107 (upd (S0 107) cl (p_h S0 pl))) 108 (upd ((v_ur S0 107 (upd (S0 107) cl (p_h S0 pl))) 108) cl (Int32.ofInt (cs : Int)))) 109 (upd ((v_ur (v_ur S0 107 (upd (S0 107) cl (p_h S0 pl))) 108 (upd ((v_ur S0 107 (upd (S0 107) cl (p_h S0 pl))) 108) cl (Int32.ofInt (cs : Int)))) 109) cl (Int32.ofInt (cs1 : Int)))) pl2 cs2 sk2 cl b164 nc2 sg2 false h2 o2 na2) R Q
              refine w_iast rfl rfl (by rw [w_nat (by omega)]; omega) (by rw [w_nat (by omega)]; omega) ?_
              refine w_eqS (p_wor (by decide) (w_natn (by omega))) ?_
              refine w_st rfl (fun _ => rfl) ?_
              refine w_st rfl (fun _ => rfl) ?_
              show w_T L xs (d + 7) m_X12_clause 182 [(2, .int (p_h S0 pl)), (0, .ref 100), (1, .int (Int32.ofInt 0))] [.ref 100, .ref 100] (p_S (v_ur (v_ur (v_ur (v_ur S0 107 (upd (S0 107) cl (p_h S0 pl))) 108 (upd ((v_ur S0 107 (upd (S0 107) cl (p_h S0 pl))) 108) cl (Int32.ofInt (cs : Int)))) 109 (upd ((v_ur (v_ur S0 107 (upd (S0 107) cl (p_h S0 pl))) 108 (upd ((v_ur S0 107 (upd (S0 107) cl (p_h S0 pl))) 108) cl (Int32.ofInt (cs : Int)))) 109) cl (Int32.ofInt (cs1 : Int)))) 110 (upd ((v_ur (v_ur (v_ur S0 107 (upd (S0 107) cl (p_h S0 pl))) 108 (upd ((v_ur S0 107 (upd (S0 107) cl (p_h S0 pl))) 108) cl (Int32.ofInt (cs : Int)))) 109 (upd ((v_ur (v_ur S0 107 (upd (S0 107) cl (p_h S0 pl))) 108 (upd ((v_ur S0 107 (upd (S0 107) cl (p_h S0 pl))) 108) cl (Int32.ofInt (cs : Int)))) 109) cl (Int32.ofInt (cs1 : Int)))) 110) cl (Int32.ofInt (cs2 : Int)))) pl2 cs2 sk2 cl b164 nc2 sg2 false h2 o2 na2) R Q
              refine w_get rfl v_tyM rfl ?_
              refine w_st rfl (fun _ => rfl) ?_
              refine w_st rfl (fun _ => rfl) ?_
              show w_T L xs (d + 7) m_X12_clause 187 [(2, .int (p_h S0 pl)), (0, .ref 100), (1, .int (Int32.ofInt 0))] [.int ((Int32.ofInt (cl : Int)) + (Int32.ofInt 1)), .ref 100] (p_S (v_ur (v_ur (v_ur (v_ur S0 107 (upd (S0 107) cl (p_h S0 pl))) 108 (upd ((v_ur S0 107 (upd (S0 107) cl (p_h S0 pl))) 108) cl (Int32.ofInt (cs : Int)))) 109 (upd ((v_ur (v_ur S0 107 (upd (S0 107) cl (p_h S0 pl))) 108 (upd ((v_ur S0 107 (upd (S0 107) cl (p_h S0 pl))) 108) cl (Int32.ofInt (cs : Int)))) 109) cl (Int32.ofInt (cs1 : Int)))) 110 (upd ((v_ur (v_ur (v_ur S0 107 (upd (S0 107) cl (p_h S0 pl))) 108 (upd ((v_ur S0 107 (upd (S0 107) cl (p_h S0 pl))) 108) cl (Int32.ofInt (cs : Int)))) 109 (upd ((v_ur (v_ur S0 107 (upd (S0 107) cl (p_h S0 pl))) 108 (upd ((v_ur S0 107 (upd (S0 107) cl (p_h S0 pl))) 108) cl (Int32.ofInt (cs : Int)))) 109) cl (Int32.ofInt (cs1 : Int)))) 110) cl (Int32.ofInt (cs2 : Int)))) pl2 cs2 sk2 cl b164 nc2 sg2 false h2 o2 na2) R Q
              refine w_put rfl v_tyM rfl rfl rfl ?_
              refine w_eqS (p_wcl (w_inc _)) ?_
              show w_T L xs (d + 7) m_X12_clause 190 [(2, .int (p_h S0 pl)), (0, .ref 100), (1, .int (Int32.ofInt 0))] [] (p_S (v_ur (v_ur (v_ur (v_ur S0 107 (upd (S0 107) cl (p_h S0 pl))) 108 (upd ((v_ur S0 107 (upd (S0 107) cl (p_h S0 pl))) 108) cl (Int32.ofInt (cs : Int)))) 109 (upd ((v_ur (v_ur S0 107 (upd (S0 107) cl (p_h S0 pl))) 108 (upd ((v_ur S0 107 (upd (S0 107) cl (p_h S0 pl))) 108) cl (Int32.ofInt (cs : Int)))) 109) cl (Int32.ofInt (cs1 : Int)))) 110 (upd ((v_ur (v_ur (v_ur S0 107 (upd (S0 107) cl (p_h S0 pl))) 108 (upd ((v_ur S0 107 (upd (S0 107) cl (p_h S0 pl))) 108) cl (Int32.ofInt (cs : Int)))) 109 (upd ((v_ur (v_ur S0 107 (upd (S0 107) cl (p_h S0 pl))) 108 (upd ((v_ur S0 107 (upd (S0 107) cl (p_h S0 pl))) 108) cl (Int32.ofInt (cs : Int)))) 109) cl (Int32.ofInt (cs1 : Int)))) 110) cl (Int32.ofInt (cs2 : Int)))) pl2 cs2 sk2 (cl + 1) b164 nc2 sg2 false h2 o2 na2) R Q
              refine w_ret rfl rfl ?_
              exact Kb _ _ _ _ _ _ _ _ _ _ _ _ (p_F_ur (p_F_ur (p_F_ur (p_F_ur (p_F_rf _) (by omega)) (by omega)) (by omega)) (by omega)) (p_Tw (p_Tw (p_Tw (p_Tw hT (a := 107) rfl) (a := 108) rfl) (a := 109) rfl) (a := 110) rfl) hb164 (by omega) (by omega) (by omega) (by omega)
          · show w_T L xs (d + 7) m_X12_clause 143 [(2, .int (p_h S0 pl)), (0, .ref 100), (1, .int (Int32.ofInt 0))] [] (p_S (v_ur (v_ur S0 107 (upd (S0 107) cl (p_h S0 pl))) 108 (upd ((v_ur S0 107 (upd (S0 107) cl (p_h S0 pl))) 108) cl (Int32.ofInt (cs : Int)))) pl1 cs1 sk1 cl b140 nc1 sg1 ov h1 o1 na1) R Q
            refine w_st rfl (fun _ => rfl) ?_
            show w_T L xs (d + 7) m_X12_clause 144 [(2, .int (p_h S0 pl)), (0, .ref 100), (1, .int (Int32.ofInt 0))] [.ref 100] (p_S (v_ur (v_ur S0 107 (upd (S0 107) cl (p_h S0 pl))) 108 (upd ((v_ur S0 107 (upd (S0 107) cl (p_h S0 pl))) 108) cl (Int32.ofInt (cs : Int)))) pl1 cs1 sk1 cl b140 nc1 sg1 ov h1 o1 na1) R Q
            refine w_getr rfl v_tyM rfl ?_
            refine w_st rfl (fun _ => rfl) ?_
            show w_T L xs (d + 7) m_X12_clause 148 [(2, .int (p_h S0 pl)), (0, .ref 100), (1, .int (Int32.ofInt 0))] [.ref 100, .ref 110] (p_S (v_ur (v_ur S0 107 (upd (S0 107) cl (p_h S0 pl))) 108 (upd ((v_ur S0 107 (upd (S0 107) cl (p_h S0 pl))) 108) cl (Int32.ofInt (cs : Int)))) pl1 cs1 sk1 cl b140 nc1 sg1 ov h1 o1 na1) R Q
            refine w_get rfl v_tyM rfl ?_
            refine w_st rfl (fun _ => rfl) ?_
            show w_T L xs (d + 7) m_X12_clause 152 [(2, .int (p_h S0 pl)), (0, .ref 100), (1, .int (Int32.ofInt 0))] [.ref 100, .int (Int32.ofInt (cl : Int)), .ref 110] (p_S (v_ur (v_ur S0 107 (upd (S0 107) cl (p_h S0 pl))) 108 (upd ((v_ur S0 107 (upd (S0 107) cl (p_h S0 pl))) 108) cl (Int32.ofInt (cs : Int)))) pl1 cs1 sk1 cl b140 nc1 sg1 ov h1 o1 na1) R Q
            refine w_get rfl v_tyM rfl ?_
            show w_T L xs (d + 7) m_X12_clause 155 [(2, .int (p_h S0 pl)), (0, .ref 100), (1, .int (Int32.ofInt 0))] [.int (Int32.ofInt (cs1 : Int)), .int (Int32.ofInt (cl : Int)), .ref 110] (p_S (v_ur (v_ur S0 107 (upd (S0 107) cl (p_h S0 pl))) 108 (upd ((v_ur S0 107 (upd (S0 107) cl (p_h S0 pl))) 108) cl (Int32.ofInt (cs : Int)))) pl1 cs1 sk1 cl b140 nc1 sg1 ov h1 o1 na1) R Q
            refine w_iast rfl rfl (by rw [w_nat (by omega)]; omega) (by rw [w_nat (by omega)]; omega) ?_
            refine w_eqS (p_wor (by decide) (w_natn (by omega))) ?_
            refine w_st rfl (fun _ => rfl) ?_
            show w_T L xs (d + 7) m_X12_clause 157 [(2, .int (p_h S0 pl)), (0, .ref 100), (1, .int (Int32.ofInt 0))] [.ref 100] (p_S (v_ur (v_ur (v_ur S0 107 (upd (S0 107) cl (p_h S0 pl))) 108 (upd ((v_ur S0 107 (upd (S0 107) cl (p_h S0 pl))) 108) cl (Int32.ofInt (cs : Int)))) 109 (upd ((v_ur (v_ur S0 107 (upd (S0 107) cl (p_h S0 pl))) 108 (upd ((v_ur S0 107 (upd (S0 107) cl (p_h S0 pl))) 108) cl (Int32.ofInt (cs : Int)))) 109) cl (Int32.ofInt (cs1 : Int)))) pl1 cs1 sk1 cl b140 nc1 sg1 ov h1 o1 na1) R Q
            refine w_cv rfl (by decide) mt_X12_isGood v_tyM rfl rfl rfl (Nat.le_of_ble_eq_true rfl) (Nat.le_of_ble_eq_true rfl) (Nat.le_of_ble_eq_true rfl) ?_
            show w_T L xs _ m_X12_isGood 0 (lv_args 0 [.ref 100]) [] (p_S (v_ur (v_ur (v_ur S0 107 (upd (S0 107) cl (p_h S0 pl))) 108 (upd ((v_ur S0 107 (upd (S0 107) cl (p_h S0 pl))) 108) cl (Int32.ofInt (cs : Int)))) 109 (upd ((v_ur (v_ur S0 107 (upd (S0 107) cl (p_h S0 pl))) 108 (upd ((v_ur S0 107 (upd (S0 107) cl (p_h S0 pl))) 108) cl (Int32.ofInt (cs : Int)))) 109) cl (Int32.ofInt (cs1 : Int)))) pl1 cs1 sk1 cl b140 nc1 sg1 ov h1 o1 na1) R _
            refine h_isGF hb140 ?_
            show w_T L xs (d + 7) m_X12_clause 160 [(2, .int (p_h S0 pl)), (0, .ref 100), (1, .int (Int32.ofInt 0))] [.int (Int32.ofInt 0)] (p_S (v_ur (v_ur (v_ur S0 107 (upd (S0 107) cl (p_h S0 pl))) 108 (upd ((v_ur S0 107 (upd (S0 107) cl (p_h S0 pl))) 108) cl (Int32.ofInt (cs : Int)))) 109 (upd ((v_ur (v_ur S0 107 (upd (S0 107) cl (p_h S0 pl))) 108 (upd ((v_ur S0 107 (upd (S0 107) cl (p_h S0 pl))) 108) cl (Int32.ofInt (cs : Int)))) 109) cl (Int32.ofInt (cs1 : Int)))) pl1 cs1 sk1 cl b140 nc1 sg1 ov h1 o1 na1) R Q
            refine w_st rfl (fun _ => rfl) ?_
            refine w_st rfl (fun _ => rfl) ?_
            show w_T L xs (d + 7) m_X12_clause 168 [(2, .int (p_h S0 pl)), (0, .ref 100), (1, .int (Int32.ofInt 0))] [.ref 100] (p_S (v_ur (v_ur (v_ur S0 107 (upd (S0 107) cl (p_h S0 pl))) 108 (upd ((v_ur S0 107 (upd (S0 107) cl (p_h S0 pl))) 108) cl (Int32.ofInt (cs : Int)))) 109 (upd ((v_ur (v_ur S0 107 (upd (S0 107) cl (p_h S0 pl))) 108 (upd ((v_ur S0 107 (upd (S0 107) cl (p_h S0 pl))) 108) cl (Int32.ofInt (cs : Int)))) 109) cl (Int32.ofInt (cs1 : Int)))) pl1 cs1 sk1 cl b140 nc1 sg1 ov h1 o1 na1) R Q
            refine w_getr rfl v_tyM rfl ?_
            refine w_st rfl (fun _ => rfl) ?_
            show w_T L xs (d + 7) m_X12_clause 172 [(2, .int (p_h S0 pl)), (0, .ref 100), (1, .int (Int32.ofInt 0))] [.ref 100, .ref 111] (p_S (v_ur (v_ur (v_ur S0 107 (upd (S0 107) cl (p_h S0 pl))) 108 (upd ((v_ur S0 107 (upd (S0 107) cl (p_h S0 pl))) 108) cl (Int32.ofInt (cs : Int)))) 109 (upd ((v_ur (v_ur S0 107 (upd (S0 107) cl (p_h S0 pl))) 108 (upd ((v_ur S0 107 (upd (S0 107) cl (p_h S0 pl))) 108) cl (Int32.ofInt (cs : Int)))) 109) cl (Int32.ofInt (cs1 : Int)))) pl1 cs1 sk1 cl b140 nc1 sg1 ov h1 o1 na1) R Q
            refine w_get rfl v_tyM rfl ?_
            refine w_st rfl (fun _ => rfl) ?_
            show w_T L xs (d + 7) m_X12_clause 176 [(2, .int (p_h S0 pl)), (0, .ref 100), (1, .int (Int32.ofInt 0))] [.ref 100, .int (Int32.ofInt (cl : Int)), .ref 111] (p_S (v_ur (v_ur (v_ur S0 107 (upd (S0 107) cl (p_h S0 pl))) 108 (upd ((v_ur S0 107 (upd (S0 107) cl (p_h S0 pl))) 108) cl (Int32.ofInt (cs : Int)))) 109 (upd ((v_ur (v_ur S0 107 (upd (S0 107) cl (p_h S0 pl))) 108 (upd ((v_ur S0 107 (upd (S0 107) cl (p_h S0 pl))) 108) cl (Int32.ofInt (cs : Int)))) 109) cl (Int32.ofInt (cs1 : Int)))) pl1 cs1 sk1 cl b140 nc1 sg1 ov h1 o1 na1) R Q
            refine w_get rfl v_tyM rfl ?_
            show w_T L xs (d + 7) m_X12_clause 179 [(2, .int (p_h S0 pl)), (0, .ref 100), (1, .int (Int32.ofInt 0))] [.int (Int32.ofInt (cs1 : Int)), .int (Int32.ofInt (cl : Int)), .ref 111] (p_S (v_ur (v_ur (v_ur S0 107 (upd (S0 107) cl (p_h S0 pl))) 108 (upd ((v_ur S0 107 (upd (S0 107) cl (p_h S0 pl))) 108) cl (Int32.ofInt (cs : Int)))) 109 (upd ((v_ur (v_ur S0 107 (upd (S0 107) cl (p_h S0 pl))) 108 (upd ((v_ur S0 107 (upd (S0 107) cl (p_h S0 pl))) 108) cl (Int32.ofInt (cs : Int)))) 109) cl (Int32.ofInt (cs1 : Int)))) pl1 cs1 sk1 cl b140 nc1 sg1 ov h1 o1 na1) R Q
            refine w_iast rfl rfl (by rw [w_nat (by omega)]; omega) (by rw [w_nat (by omega)]; omega) ?_
            refine w_eqS (p_wor (by decide) (w_natn (by omega))) ?_
            refine w_st rfl (fun _ => rfl) ?_
            refine w_st rfl (fun _ => rfl) ?_
            show w_T L xs (d + 7) m_X12_clause 182 [(2, .int (p_h S0 pl)), (0, .ref 100), (1, .int (Int32.ofInt 0))] [.ref 100, .ref 100] (p_S (v_ur (v_ur (v_ur (v_ur S0 107 (upd (S0 107) cl (p_h S0 pl))) 108 (upd ((v_ur S0 107 (upd (S0 107) cl (p_h S0 pl))) 108) cl (Int32.ofInt (cs : Int)))) 109 (upd ((v_ur (v_ur S0 107 (upd (S0 107) cl (p_h S0 pl))) 108 (upd ((v_ur S0 107 (upd (S0 107) cl (p_h S0 pl))) 108) cl (Int32.ofInt (cs : Int)))) 109) cl (Int32.ofInt (cs1 : Int)))) 110 (upd ((v_ur (v_ur (v_ur S0 107 (upd (S0 107) cl (p_h S0 pl))) 108 (upd ((v_ur S0 107 (upd (S0 107) cl (p_h S0 pl))) 108) cl (Int32.ofInt (cs : Int)))) 109 (upd ((v_ur (v_ur S0 107 (upd (S0 107) cl (p_h S0 pl))) 108 (upd ((v_ur S0 107 (upd (S0 107) cl (p_h S0 pl))) 108) cl (Int32.ofInt (cs : Int)))) 109) cl (Int32.ofInt (cs1 : Int)))) 110) cl (Int32.ofInt (cs1 : Int)))) pl1 cs1 sk1 cl b140 nc1 sg1 ov h1 o1 na1) R Q
            refine w_get rfl v_tyM rfl ?_
            refine w_st rfl (fun _ => rfl) ?_
            refine w_st rfl (fun _ => rfl) ?_
            show w_T L xs (d + 7) m_X12_clause 187 [(2, .int (p_h S0 pl)), (0, .ref 100), (1, .int (Int32.ofInt 0))] [.int ((Int32.ofInt (cl : Int)) + (Int32.ofInt 1)), .ref 100] (p_S (v_ur (v_ur (v_ur (v_ur S0 107 (upd (S0 107) cl (p_h S0 pl))) 108 (upd ((v_ur S0 107 (upd (S0 107) cl (p_h S0 pl))) 108) cl (Int32.ofInt (cs : Int)))) 109 (upd ((v_ur (v_ur S0 107 (upd (S0 107) cl (p_h S0 pl))) 108 (upd ((v_ur S0 107 (upd (S0 107) cl (p_h S0 pl))) 108) cl (Int32.ofInt (cs : Int)))) 109) cl (Int32.ofInt (cs1 : Int)))) 110 (upd ((v_ur (v_ur (v_ur S0 107 (upd (S0 107) cl (p_h S0 pl))) 108 (upd ((v_ur S0 107 (upd (S0 107) cl (p_h S0 pl))) 108) cl (Int32.ofInt (cs : Int)))) 109 (upd ((v_ur (v_ur S0 107 (upd (S0 107) cl (p_h S0 pl))) 108 (upd ((v_ur S0 107 (upd (S0 107) cl (p_h S0 pl))) 108) cl (Int32.ofInt (cs : Int)))) 109) cl (Int32.ofInt (cs1 : Int)))) 110) cl (Int32.ofInt (cs1 : Int)))) pl1 cs1 sk1 cl b140 nc1 sg1 ov h1 o1 na1) R Q
            refine w_put rfl v_tyM rfl rfl rfl ?_
            refine w_eqS (p_wcl (w_inc _)) ?_
            show w_T L xs (d + 7) m_X12_clause 190 [(2, .int (p_h S0 pl)), (0, .ref 100), (1, .int (Int32.ofInt 0))] [] (p_S (v_ur (v_ur (v_ur (v_ur S0 107 (upd (S0 107) cl (p_h S0 pl))) 108 (upd ((v_ur S0 107 (upd (S0 107) cl (p_h S0 pl))) 108) cl (Int32.ofInt (cs : Int)))) 109 (upd ((v_ur (v_ur S0 107 (upd (S0 107) cl (p_h S0 pl))) 108 (upd ((v_ur S0 107 (upd (S0 107) cl (p_h S0 pl))) 108) cl (Int32.ofInt (cs : Int)))) 109) cl (Int32.ofInt (cs1 : Int)))) 110 (upd ((v_ur (v_ur (v_ur S0 107 (upd (S0 107) cl (p_h S0 pl))) 108 (upd ((v_ur S0 107 (upd (S0 107) cl (p_h S0 pl))) 108) cl (Int32.ofInt (cs : Int)))) 109 (upd ((v_ur (v_ur S0 107 (upd (S0 107) cl (p_h S0 pl))) 108 (upd ((v_ur S0 107 (upd (S0 107) cl (p_h S0 pl))) 108) cl (Int32.ofInt (cs : Int)))) 109) cl (Int32.ofInt (cs1 : Int)))) 110) cl (Int32.ofInt (cs1 : Int)))) pl1 cs1 sk1 (cl + 1) b140 nc1 sg1 ov h1 o1 na1) R Q
            refine w_ret rfl rfl ?_
            exact Kb _ _ _ _ _ _ _ _ _ _ _ _ (p_F_ur (p_F_ur (p_F_ur (p_F_ur (p_F_rf _) (by omega)) (by omega)) (by omega)) (by omega)) (p_Tw (p_Tw (p_Tw (p_Tw hT (a := 107) rfl) (a := 108) rfl) (a := 109) rfl) (a := 110) rfl) hb140 (by omega) (by omega) (by omega) (by omega)
    · refine w_st rfl (fun _ => rfl) ?_
      refine w_st rfl (fun _ => rfl) ?_
      refine w_st rfl (fun _ => rfl) ?_
      show w_T L xs (d + 7) m_X12_clause 58 [(2, .int (p_h S0 pl)), (0, .ref 100), (1, .int (Int32.ofInt 0))] [.ref 100, .int (Int32.ofInt 4), .ref 100] (p_S S0 pl cs sk cl (Int32.ofInt 0) nc sg ov bh op na) R Q
      refine w_get rfl v_tyM rfl ?_
      show w_T L xs (d + 7) m_X12_clause 61 [(2, .int (p_h S0 pl)), (0, .ref 100), (1, .int (Int32.ofInt 0))] [.int (Int32.ofInt (pl : Int)), .int (Int32.ofInt 4), .ref 100] (p_S S0 pl cs sk cl (Int32.ofInt 0) nc sg ov bh op na) R Q
      refine w_cv rfl (by decide) mt_X12_wrongs v_tyM rfl rfl rfl (Nat.le_of_ble_eq_true rfl) (Nat.le_of_ble_eq_true rfl) (Nat.le_of_ble_eq_true rfl) ?_
      show w_T L xs _ m_X12_wrongs 0 (lv_args 0 [.ref 100, .int (Int32.ofInt 4), .int (Int32.ofInt (pl : Int))]) [] (p_S S0 pl cs sk cl (Int32.ofInt 0) nc sg ov bh op na) R _
      refine h_wr (by decide) (by decide) (by rw [w_nat (by omega)]; omega) (by rw [w_nat (by omega)]; omega) (fun b61 hb61 => ?_)
      refine w_st rfl (fun _ => rfl) ?_
      show w_T L xs (d + 7) m_X12_clause 65 [(2, .int (p_h S0 pl)), (0, .ref 100), (1, .int (Int32.ofInt 0))] [.ref 100] (p_S S0 pl cs sk cl b61 nc sg ov bh op na) R Q
      refine w_cv rfl (by decide) mt_X12_isGood v_tyM rfl rfl rfl (Nat.le_of_ble_eq_true rfl) (Nat.le_of_ble_eq_true rfl) (Nat.le_of_ble_eq_true rfl) ?_
      show w_T L xs _ m_X12_isGood 0 (lv_args 0 [.ref 100]) [] (p_S S0 pl cs sk cl b61 nc sg ov bh op na) R _
      refine h_isGF hb61 ?_
      show w_T L xs (d + 7) m_X12_clause 68 [(2, .int (p_h S0 pl)), (0, .ref 100), (1, .int (Int32.ofInt 0))] [.int (Int32.ofInt 0)] (p_S S0 pl cs sk cl b61 nc sg ov bh op na) R Q
      refine w_st rfl (fun _ => rfl) ?_
      show w_T L xs (d + 7) m_X12_clause 71 [(2, .int (p_h S0 pl)), (0, .ref 100), (1, .int (Int32.ofInt 0))] [] (p_S S0 pl cs sk cl b61 nc sg ov bh op na) R Q
      refine w_ret rfl rfl ?_
      exact Kb _ _ _ _ _ _ _ _ _ _ _ _ (p_F_rf _) hT hb61 (by omega) (by omega) (by omega) (by omega)
  · show w_T L xs (d + 7) m_X12_clause 22 [(2, .int (p_h S0 pl)), (0, .ref 100), (1, .int (Int32.ofInt 0))] [.int (Int32.ofInt 0)] (p_S S0 pl cs sk cl (Int32.ofInt 0) nc sg ov bh op na) R Q
    refine w_st rfl (fun _ => rfl) ?_
    refine w_st rfl (fun _ => rfl) ?_
    refine w_st rfl (fun _ => rfl) ?_
    refine w_st rfl (fun _ => rfl) ?_
    show w_T L xs (d + 7) m_X12_clause 28 [(2, .int (p_h S0 pl)), (0, .ref 100), (1, .int (Int32.ofInt 0))] [.ref 100, .int (Int32.ofInt 1), .ref 100] (p_S S0 pl cs sk cl (Int32.ofInt 0) nc sg ov bh op na) R Q
    refine w_get rfl v_tyM rfl ?_
    show w_T L xs (d + 7) m_X12_clause 31 [(2, .int (p_h S0 pl)), (0, .ref 100), (1, .int (Int32.ofInt 0))] [.int (Int32.ofInt (pl : Int)), .int (Int32.ofInt 1), .ref 100] (p_S S0 pl cs sk cl (Int32.ofInt 0) nc sg ov bh op na) R Q
    refine w_cv rfl (by decide) mt_X12_wrongs v_tyM rfl rfl rfl (Nat.le_of_ble_eq_true rfl) (Nat.le_of_ble_eq_true rfl) (Nat.le_of_ble_eq_true rfl) ?_
    show w_T L xs _ m_X12_wrongs 0 (lv_args 0 [.ref 100, .int (Int32.ofInt 1), .int (Int32.ofInt (pl : Int))]) [] (p_S S0 pl cs sk cl (Int32.ofInt 0) nc sg ov bh op na) R _
    refine h_wr (by decide) (by decide) (by rw [w_nat (by omega)]; omega) (by rw [w_nat (by omega)]; omega) (fun b31 hb31 => ?_)
    refine w_st rfl (fun _ => rfl) ?_
    refine w_st rfl (fun _ => rfl) ?_
    show w_T L xs (d + 7) m_X12_clause 65 [(2, .int (p_h S0 pl)), (0, .ref 100), (1, .int (Int32.ofInt 0))] [.ref 100] (p_S S0 pl cs sk cl b31 nc sg ov bh op na) R Q
    refine w_cv rfl (by decide) mt_X12_isGood v_tyM rfl rfl rfl (Nat.le_of_ble_eq_true rfl) (Nat.le_of_ble_eq_true rfl) (Nat.le_of_ble_eq_true rfl) ?_
    show w_T L xs _ m_X12_isGood 0 (lv_args 0 [.ref 100]) [] (p_S S0 pl cs sk cl b31 nc sg ov bh op na) R _
    refine h_isGF hb31 ?_
    show w_T L xs (d + 7) m_X12_clause 68 [(2, .int (p_h S0 pl)), (0, .ref 100), (1, .int (Int32.ofInt 0))] [.int (Int32.ofInt 0)] (p_S S0 pl cs sk cl b31 nc sg ov bh op na) R Q
    refine w_st rfl (fun _ => rfl) ?_
    show w_T L xs (d + 7) m_X12_clause 71 [(2, .int (p_h S0 pl)), (0, .ref 100), (1, .int (Int32.ofInt 0))] [] (p_S S0 pl cs sk cl b31 nc sg ov bh op na) R Q
    refine w_ret rfl rfl ?_
    exact Kb _ _ _ _ _ _ _ _ _ _ _ _ (p_F_rf _) hT hb31 (by omega) (by omega) (by omega) (by omega)
theorem h_clR (he : (S0 99 4).toInt ≤ 240) (hT : v_Tb v_ty S0 R) (hZ : p_Z S0 cl cs nc) (hb : cs ≤ pl) (hp : pl ≤ 240) (hsk : sk ≤ 240) (hcl : cl ≤ 12) (Kg : ∀ (S1 : v_Sf) (pl' cs' sk' : Nat) (nc' sg' na' : Nat → Int32) (o : Int32) (v' h' : Bool), p_F S0 S1 → v_Tb v_ty S1 R → p_Z S1 (cl + 1) cs' nc' → pl ≤ pl' → cs' ≤ pl' → pl' ≤ 240 → sk' ≤ 240 → cl < 12 → Q none (p_S S1 (pl') (cs') (sk') (cl + 1) (Int32.ofInt 0) (nc') (sg') (v') (h') o (na')) R) (Kb : ∀ (S1 : v_Sf) (pl' cs' sk' cl' : Nat) (b' : Int32) (nc' sg' na' : Nat → Int32) (o : Int32) (v' h' : Bool), p_F S0 S1 → v_Tb v_ty S1 R → b'.toInt < 0 → cs' ≤ 240 → pl' ≤ 240 → sk' ≤ 240 → cl' ≤ 16 → Q none (p_S S1 (pl') (cs') (sk') (cl') (b') (nc') (sg') (v') (h') o (na')) R) : w_T L xs (d + 7) m_X12_clause 0 (lv_args 0 [.ref 100, .int (Int32.ofInt 1)]) [] (p_S S0 pl cs sk cl (Int32.ofInt 0) nc sg ov bh op na) R Q := by
  refine w_st rfl (fun _ => rfl) ?_
  show w_T L xs (d + 7) m_X12_clause 1 [(0, .ref 100), (1, .int (Int32.ofInt 1))] [.ref 100] (p_S S0 pl cs sk cl (Int32.ofInt 0) nc sg ov bh op na) R Q
  refine w_cv rfl (by decide) mt_X12_here v_tyM rfl rfl rfl (Nat.le_of_ble_eq_true rfl) (Nat.le_of_ble_eq_true rfl) (Nat.le_of_ble_eq_true rfl) ?_
  show w_T L xs _ m_X12_here 0 (lv_args 0 [.ref 100]) [] (p_S S0 pl cs sk cl (Int32.ofInt 0) nc sg ov bh op na) R _
  refine h_here (by omega) ?_
  refine w_st rfl (fun _ => rfl) ?_
  refine w_st rfl (fun _ => rfl) ?_
  show w_T L xs (d + 7) m_X12_clause 6 [(2, .int (p_h S0 pl)), (0, .ref 100), (1, .int (Int32.ofInt 1))] [.int (Int32.ofInt 1)] (p_S S0 pl cs sk cl (Int32.ofInt 0) nc sg ov bh op na) R Q
  refine w_st rfl (fun _ => rfl) ?_
  refine w_st rfl (fun _ => rfl) ?_
  refine w_st rfl (fun _ => rfl) ?_
  show w_T L xs (d + 7) m_X12_clause 12 [(2, .int (p_h S0 pl)), (0, .ref 100), (1, .int (Int32.ofInt 1))] [.int (Int32.ofInt 40), .int (p_h S0 pl)] (p_S S0 pl cs sk cl (Int32.ofInt 0) nc sg ov bh op na) R Q
  refine w_br (P := (p_h S0 pl) = (Int32.ofInt 40)) rfl (fun _ => rfl) (fun h12 => ?_) (fun h12 => ?_)
  · have hlt := p_h_lt (S0 := S0) (pl := pl) (by rw [h12]; decide)
    refine w_st rfl (fun _ => rfl) ?_
    show w_T L xs (d + 7) m_X12_clause 38 [(2, .int (p_h S0 pl)), (0, .ref 100), (1, .int (Int32.ofInt 1))] [.ref 100] (p_S S0 pl cs sk cl (Int32.ofInt 0) nc sg ov bh op na) R Q
    refine w_get rfl v_tyM rfl ?_
    refine w_st rfl (fun _ => rfl) ?_
    show w_T L xs (d + 7) m_X12_clause 42 [(2, .int (p_h S0 pl)), (0, .ref 100), (1, .int (Int32.ofInt 1))] [.int (Int32.ofInt 1), .int (Int32.ofInt (cl : Int))] (p_S S0 pl cs sk cl (Int32.ofInt 0) nc sg ov bh op na) R Q
    refine w_st rfl (fun _ => rfl) ?_
    refine w_st rfl (fun _ => rfl) ?_
    refine w_st rfl (fun _ => rfl) ?_
    show w_T L xs (d + 7) m_X12_clause 52 [(2, .int (p_h S0 pl)), (0, .ref 100), (1, .int (Int32.ofInt 1))] [.int (Int32.ofInt 12), .int (Int32.ofInt (cl : Int))] (p_S S0 pl cs sk cl (Int32.ofInt 0) nc sg ov bh op na) R Q
    refine w_br (P := ¬ (Int32.ofInt (cl : Int)) = (Int32.ofInt 12)) rfl (fun _ => rfl) (fun h52 => ?_) (fun h52 => ?_)
    · have hcl3 : cl < 12 := by
        refine Nat.lt_of_le_of_ne hcl (fun e => h52 ?_)
        rw [e]
        rfl
      refine w_st rfl (fun _ => rfl) ?_
      show w_T L xs (d + 7) m_X12_clause 65 [(2, .int (p_h S0 pl)), (0, .ref 100), (1, .int (Int32.ofInt 1))] [.ref 100] (p_S S0 pl cs sk cl (Int32.ofInt 0) nc sg ov bh op na) R Q
      refine w_cv rfl (by decide) mt_X12_isGood v_tyM rfl rfl rfl (Nat.le_of_ble_eq_true rfl) (Nat.le_of_ble_eq_true rfl) (Nat.le_of_ble_eq_true rfl) ?_
      show w_T L xs _ m_X12_isGood 0 (lv_args 0 [.ref 100]) [] (p_S S0 pl cs sk cl (Int32.ofInt 0) nc sg ov bh op na) R _
      refine h_isGT ?_
      show w_T L xs (d + 7) m_X12_clause 68 [(2, .int (p_h S0 pl)), (0, .ref 100), (1, .int (Int32.ofInt 1))] [.int (Int32.ofInt 1)] (p_S S0 pl cs sk cl (Int32.ofInt 0) nc sg ov bh op na) R Q
      refine w_st rfl (fun _ => rfl) ?_
      refine w_st rfl (fun _ => rfl) ?_
      show w_T L xs (d + 7) m_X12_clause 73 [(2, .int (p_h S0 pl)), (0, .ref 100), (1, .int (Int32.ofInt 1))] [.ref 100] (p_S S0 pl cs sk cl (Int32.ofInt 0) nc sg ov bh op na) R Q
      refine w_getr rfl v_tyM rfl ?_
      refine w_st rfl (fun _ => rfl) ?_
      show w_T L xs (d + 7) m_X12_clause 77 [(2, .int (p_h S0 pl)), (0, .ref 100), (1, .int (Int32.ofInt 1))] [.ref 100, .ref 108] (p_S S0 pl cs sk cl (Int32.ofInt 0) nc sg ov bh op na) R Q
      refine w_get rfl v_tyM rfl ?_
      refine w_st rfl (fun _ => rfl) ?_
      show w_T L xs (d + 7) m_X12_clause 81 [(2, .int (p_h S0 pl)), (0, .ref 100), (1, .int (Int32.ofInt 1))] [.int (p_h S0 pl), .int (Int32.ofInt (cl : Int)), .ref 108] (p_S S0 pl cs sk cl (Int32.ofInt 0) nc sg ov bh op na) R Q
      refine w_iast rfl rfl (by rw [w_nat (by omega)]; omega) (by rw [w_nat (by omega)]; omega) ?_
      refine w_eqS (p_wor (by decide) (w_natn (by omega))) ?_
      refine w_st rfl (fun _ => rfl) ?_
      show w_T L xs (d + 7) m_X12_clause 83 [(2, .int (p_h S0 pl)), (0, .ref 100), (1, .int (Int32.ofInt 1))] [.ref 100] (p_S (v_ur S0 107 (upd (S0 107) cl (p_h S0 pl))) pl cs sk cl (Int32.ofInt 0) nc sg ov bh op na) R Q
      refine w_getr rfl v_tyM rfl ?_
      refine w_st rfl (fun _ => rfl) ?_
      show w_T L xs (d + 7) m_X12_clause 87 [(2, .int (p_h S0 pl)), (0, .ref 100), (1, .int (Int32.ofInt 1))] [.ref 100, .ref 109] (p_S (v_ur S0 107 (upd (S0 107) cl (p_h S0 pl))) pl cs sk cl (Int32.ofInt 0) nc sg ov bh op na) R Q
      refine w_get rfl v_tyM rfl ?_
      refine w_st rfl (fun _ => rfl) ?_
      show w_T L xs (d + 7) m_X12_clause 91 [(2, .int (p_h S0 pl)), (0, .ref 100), (1, .int (Int32.ofInt 1))] [.ref 100, .int (Int32.ofInt (cl : Int)), .ref 109] (p_S (v_ur S0 107 (upd (S0 107) cl (p_h S0 pl))) pl cs sk cl (Int32.ofInt 0) nc sg ov bh op na) R Q
      refine w_get rfl v_tyM rfl ?_
      show w_T L xs (d + 7) m_X12_clause 94 [(2, .int (p_h S0 pl)), (0, .ref 100), (1, .int (Int32.ofInt 1))] [.int (Int32.ofInt (cs : Int)), .int (Int32.ofInt (cl : Int)), .ref 109] (p_S (v_ur S0 107 (upd (S0 107) cl (p_h S0 pl))) pl cs sk cl (Int32.ofInt 0) nc sg ov bh op na) R Q
      refine w_iast rfl rfl (by rw [w_nat (by omega)]; omega) (by rw [w_nat (by omega)]; omega) ?_
      refine w_eqS (p_wor (by decide) (w_natn (by omega))) ?_
      refine w_st rfl (fun _ => rfl) ?_
      refine w_st rfl (fun _ => rfl) ?_
      show w_T L xs (d + 7) m_X12_clause 97 [(2, .int (p_h S0 pl)), (0, .ref 100), (1, .int (Int32.ofInt 1))] [.ref 100, .ref 100] (p_S (v_ur (v_ur S0 107 (upd (S0 107) cl (p_h S0 pl))) 108 (upd ((v_ur S0 107 (upd (S0 107) cl (p_h S0 pl))) 108) cl (Int32.ofInt (cs : Int)))) pl cs sk cl (Int32.ofInt 0) nc sg ov bh op na) R Q
      refine w_get rfl v_tyM rfl ?_
      refine w_st rfl (fun _ => rfl) ?_
      show w_T L xs (d + 7) m_X12_clause 101 [(2, .int (p_h S0 pl)), (0, .ref 100), (1, .int (Int32.ofInt 1))] [.int (Int32.ofInt 1), .int (Int32.ofInt (pl : Int)), .ref 100] (p_S (v_ur (v_ur S0 107 (upd (S0 107) cl (p_h S0 pl))) 108 (upd ((v_ur S0 107 (upd (S0 107) cl (p_h S0 pl))) 108) cl (Int32.ofInt (cs : Int)))) pl cs sk cl (Int32.ofInt 0) nc sg ov bh op na) R Q
      refine w_st rfl (fun _ => rfl) ?_
      refine w_st rfl (fun _ => rfl) ?_
      refine w_st rfl (fun _ => rfl) ?_
      refine w_st rfl (fun _ => rfl) ?_
      show w_T L xs (d + 7) m_X12_clause 110 [(2, .int (p_h S0 pl)), (0, .ref 100), (1, .int (Int32.ofInt 1))] [.int ((Int32.ofInt (pl : Int)) + (Int32.ofInt 0)), .ref 100] (p_S (v_ur (v_ur S0 107 (upd (S0 107) cl (p_h S0 pl))) 108 (upd ((v_ur S0 107 (upd (S0 107) cl (p_h S0 pl))) 108) cl (Int32.ofInt (cs : Int)))) pl cs sk cl (Int32.ofInt 0) nc sg ov bh op na) R Q
      refine w_put rfl v_tyM rfl rfl rfl ?_
      refine w_eqS (p_wpl (w_add0 _)) ?_
      refine w_st rfl (fun _ => rfl) ?_
      refine w_st rfl (fun _ => rfl) ?_
      show w_T L xs (d + 7) m_X12_clause 115 [(2, .int (p_h S0 pl)), (0, .ref 100), (1, .int (Int32.ofInt 1))] [.int (Int32.ofInt 0), .ref 100] (p_S (v_ur (v_ur S0 107 (upd (S0 107) cl (p_h S0 pl))) 108 (upd ((v_ur S0 107 (upd (S0 107) cl (p_h S0 pl))) 108) cl (Int32.ofInt (cs : Int)))) pl cs sk cl (Int32.ofInt 0) nc sg ov bh op na) R Q
      refine w_put rfl v_tyM rfl rfl rfl ?_
      refine w_eqS (p_wsk (k := 0) rfl) ?_
      refine w_st rfl (fun _ => rfl) ?_
      refine w_st rfl (fun _ => rfl) ?_
      show w_T L xs (d + 7) m_X12_clause 120 [(2, .int (p_h S0 pl)), (0, .ref 100), (1, .int (Int32.ofInt 1))] [.int (Int32.ofInt 0), .ref 100] (p_S (v_ur (v_ur S0 107 (upd (S0 107) cl (p_h S0 pl))) 108 (upd ((v_ur S0 107 (upd (S0 107) cl (p_h S0 pl))) 108) cl (Int32.ofInt (cs : Int)))) pl cs 0 cl (Int32.ofInt 0) nc sg ov bh op na) R Q
      refine w_put rfl v_tyM rfl rfl rfl ?_
      refine w_eqS p_wop ?_
      refine w_st rfl (fun _ => rfl) ?_
      show w_T L xs (d + 7) m_X12_clause 124 [(2, .int (p_h S0 pl)), (0, .ref 100), (1, .int (Int32.ofInt 1))] [.int (Int32.ofInt 1)] (p_S (v_ur (v_ur S0 107 (upd (S0 107) cl (p_h S0 pl))) 108 (upd ((v_ur S0 107 (upd (S0 107) cl (p_h S0 pl))) 108) cl (Int32.ofInt (cs : Int)))) pl cs 0 cl (Int32.ofInt 0) nc sg ov bh (Int32.ofInt 0) na) R Q
      refine w_st rfl (fun _ => rfl) ?_
      refine w_st rfl (fun _ => rfl) ?_
      show w_T L xs (d + 7) m_X12_clause 144 [(2, .int (p_h S0 pl)), (0, .ref 100), (1, .int (Int32.ofInt 1))] [.ref 100] (p_S (v_ur (v_ur S0 107 (upd (S0 107) cl (p_h S0 pl))) 108 (upd ((v_ur S0 107 (upd (S0 107) cl (p_h S0 pl))) 108) cl (Int32.ofInt (cs : Int)))) pl cs 0 cl (Int32.ofInt 0) nc sg ov bh (Int32.ofInt 0) na) R Q
      refine w_getr rfl v_tyM rfl ?_
      refine w_st rfl (fun _ => rfl) ?_
      show w_T L xs (d + 7) m_X12_clause 148 [(2, .int (p_h S0 pl)), (0, .ref 100), (1, .int (Int32.ofInt 1))] [.ref 100, .ref 110] (p_S (v_ur (v_ur S0 107 (upd (S0 107) cl (p_h S0 pl))) 108 (upd ((v_ur S0 107 (upd (S0 107) cl (p_h S0 pl))) 108) cl (Int32.ofInt (cs : Int)))) pl cs 0 cl (Int32.ofInt 0) nc sg ov bh (Int32.ofInt 0) na) R Q
      refine w_get rfl v_tyM rfl ?_
      refine w_st rfl (fun _ => rfl) ?_
      show w_T L xs (d + 7) m_X12_clause 152 [(2, .int (p_h S0 pl)), (0, .ref 100), (1, .int (Int32.ofInt 1))] [.ref 100, .int (Int32.ofInt (cl : Int)), .ref 110] (p_S (v_ur (v_ur S0 107 (upd (S0 107) cl (p_h S0 pl))) 108 (upd ((v_ur S0 107 (upd (S0 107) cl (p_h S0 pl))) 108) cl (Int32.ofInt (cs : Int)))) pl cs 0 cl (Int32.ofInt 0) nc sg ov bh (Int32.ofInt 0) na) R Q
      refine w_get rfl v_tyM rfl ?_
      show w_T L xs (d + 7) m_X12_clause 155 [(2, .int (p_h S0 pl)), (0, .ref 100), (1, .int (Int32.ofInt 1))] [.int (Int32.ofInt (cs : Int)), .int (Int32.ofInt (cl : Int)), .ref 110] (p_S (v_ur (v_ur S0 107 (upd (S0 107) cl (p_h S0 pl))) 108 (upd ((v_ur S0 107 (upd (S0 107) cl (p_h S0 pl))) 108) cl (Int32.ofInt (cs : Int)))) pl cs 0 cl (Int32.ofInt 0) nc sg ov bh (Int32.ofInt 0) na) R Q
      refine w_iast rfl rfl (by rw [w_nat (by omega)]; omega) (by rw [w_nat (by omega)]; omega) ?_
      refine w_eqS (p_wor (by decide) (w_natn (by omega))) ?_
      refine w_st rfl (fun _ => rfl) ?_
      show w_T L xs (d + 7) m_X12_clause 157 [(2, .int (p_h S0 pl)), (0, .ref 100), (1, .int (Int32.ofInt 1))] [.ref 100] (p_S (v_ur (v_ur (v_ur S0 107 (upd (S0 107) cl (p_h S0 pl))) 108 (upd ((v_ur S0 107 (upd (S0 107) cl (p_h S0 pl))) 108) cl (Int32.ofInt (cs : Int)))) 109 (upd ((v_ur (v_ur S0 107 (upd (S0 107) cl (p_h S0 pl))) 108 (upd ((v_ur S0 107 (upd (S0 107) cl (p_h S0 pl))) 108) cl (Int32.ofInt (cs : Int)))) 109) cl (Int32.ofInt (cs : Int)))) pl cs 0 cl (Int32.ofInt 0) nc sg ov bh (Int32.ofInt 0) na) R Q
      refine w_cv rfl (by decide) mt_X12_isGood v_tyM rfl rfl rfl (Nat.le_of_ble_eq_true rfl) (Nat.le_of_ble_eq_true rfl) (Nat.le_of_ble_eq_true rfl) ?_
      show w_T L xs _ m_X12_isGood 0 (lv_args 0 [.ref 100]) [] (p_S (v_ur (v_ur (v_ur S0 107 (upd (S0 107) cl (p_h S0 pl))) 108 (upd ((v_ur S0 107 (upd (S0 107) cl (p_h S0 pl))) 108) cl (Int32.ofInt (cs : Int)))) 109 (upd ((v_ur (v_ur S0 107 (upd (S0 107) cl (p_h S0 pl))) 108 (upd ((v_ur S0 107 (upd (S0 107) cl (p_h S0 pl))) 108) cl (Int32.ofInt (cs : Int)))) 109) cl (Int32.ofInt (cs : Int)))) pl cs 0 cl (Int32.ofInt 0) nc sg ov bh (Int32.ofInt 0) na) R _
      refine h_isGT ?_
      show w_T L xs (d + 7) m_X12_clause 160 [(2, .int (p_h S0 pl)), (0, .ref 100), (1, .int (Int32.ofInt 1))] [.int (Int32.ofInt 1)] (p_S (v_ur (v_ur (v_ur S0 107 (upd (S0 107) cl (p_h S0 pl))) 108 (upd ((v_ur S0 107 (upd (S0 107) cl (p_h S0 pl))) 108) cl (Int32.ofInt (cs : Int)))) 109 (upd ((v_ur (v_ur S0 107 (upd (S0 107) cl (p_h S0 pl))) 108 (upd ((v_ur S0 107 (upd (S0 107) cl (p_h S0 pl))) 108) cl (Int32.ofInt (cs : Int)))) 109) cl (Int32.ofInt (cs : Int)))) pl cs 0 cl (Int32.ofInt 0) nc sg ov bh (Int32.ofInt 0) na) R Q
      refine w_st rfl (fun _ => rfl) ?_
      refine w_st rfl (fun _ => rfl) ?_
      show w_T L xs (d + 7) m_X12_clause 164 [(2, .int (p_h S0 pl)), (0, .ref 100), (1, .int (Int32.ofInt 1))] [.ref 100] (p_S (v_ur (v_ur (v_ur S0 107 (upd (S0 107) cl (p_h S0 pl))) 108 (upd ((v_ur S0 107 (upd (S0 107) cl (p_h S0 pl))) 108) cl (Int32.ofInt (cs : Int)))) 109 (upd ((v_ur (v_ur S0 107 (upd (S0 107) cl (p_h S0 pl))) 108 (upd ((v_ur S0 107 (upd (S0 107) cl (p_h S0 pl))) 108) cl (Int32.ofInt (cs : Int)))) 109) cl (Int32.ofInt (cs : Int)))) pl cs 0 cl (Int32.ofInt 0) nc sg ov bh (Int32.ofInt 0) na) R Q
      refine w_cv rfl (by decide) mt_X12_condition v_tyM rfl rfl rfl (Nat.le_of_ble_eq_true rfl) (Nat.le_of_ble_eq_true rfl) (Nat.le_of_ble_eq_true rfl) ?_
      show w_T L xs _ m_X12_condition 0 (lv_args 0 [.ref 100]) [] (p_S (v_ur (v_ur (v_ur S0 107 (upd (S0 107) cl (p_h S0 pl))) 108 (upd ((v_ur S0 107 (upd (S0 107) cl (p_h S0 pl))) 108) cl (Int32.ofInt (cs : Int)))) 109 (upd ((v_ur (v_ur S0 107 (upd (S0 107) cl (p_h S0 pl))) 108 (upd ((v_ur S0 107 (upd (S0 107) cl (p_h S0 pl))) 108) cl (Int32.ofInt (cs : Int)))) 109) cl (Int32.ofInt (cs : Int)))) pl cs 0 cl (Int32.ofInt 0) nc sg ov bh (Int32.ofInt 0) na) R _
      refine h_cond (S0 := (v_ur (v_ur (v_ur S0 107 (upd (S0 107) cl (p_h S0 pl))) 108 (upd ((v_ur S0 107 (upd (S0 107) cl (p_h S0 pl))) 108) cl (Int32.ofInt (cs : Int)))) 109 (upd ((v_ur (v_ur S0 107 (upd (S0 107) cl (p_h S0 pl))) 108 (upd ((v_ur S0 107 (upd (S0 107) cl (p_h S0 pl))) 108) cl (Int32.ofInt (cs : Int)))) 109) cl (Int32.ofInt (cs : Int))))) he (by omega) (by omega) (fun pl2 cs2 sk2 nc2 sg2 na2 o2 h2 l2 i2 j2 k2 => ?_) (fun pl2 cs2 sk2 b164 nc2 sg2 na2 o2 h2 hb164 j2 k2 => ?_)
      · obtain ⟨r1, r2, r3⟩ := p_I_of i2
        show w_T L xs (d + 7) m_X12_clause 167 [(2, .int (p_h S0 pl)), (0, .ref 100), (1, .int (Int32.ofInt 1))] [] (p_S (v_ur (v_ur (v_ur S0 107 (upd (S0 107) cl (p_h S0 pl))) 108 (upd ((v_ur S0 107 (upd (S0 107) cl (p_h S0 pl))) 108) cl (Int32.ofInt (cs : Int)))) 109 (upd ((v_ur (v_ur S0 107 (upd (S0 107) cl (p_h S0 pl))) 108 (upd ((v_ur S0 107 (upd (S0 107) cl (p_h S0 pl))) 108) cl (Int32.ofInt (cs : Int)))) 109) cl (Int32.ofInt (cs : Int)))) pl2 cs2 sk2 cl (Int32.ofInt 0) nc2 sg2 true h2 o2 na2) R Q
        refine w_st rfl (fun _ => rfl) ?_
        show w_T L xs (d + 7) m_X12_clause 168 [(2, .int (p_h S0 pl)), (0, .ref 100), (1, .int (Int32.ofInt 1))] [.ref 100] (p_S (v_ur (v_ur (v_ur S0 107 (upd (S0 107) cl (p_h S0 pl))) 108 (upd ((v_ur S0 107 (upd (S0 107) cl (p_h S0 pl))) 108) cl (Int32.ofInt (cs : Int)))) 109 (upd ((v_ur (v_ur S0 107 (upd (S0 107) cl (p_h S0 pl))) 108 (upd ((v_ur S0 107 (upd (S0 107) cl (p_h S0 pl))) 108) cl (Int32.ofInt (cs : Int)))) 109) cl (Int32.ofInt (cs : Int)))) pl2 cs2 sk2 cl (Int32.ofInt 0) nc2 sg2 true h2 o2 na2) R Q
        refine w_getr rfl v_tyM rfl ?_
        refine w_st rfl (fun _ => rfl) ?_
        show w_T L xs (d + 7) m_X12_clause 172 [(2, .int (p_h S0 pl)), (0, .ref 100), (1, .int (Int32.ofInt 1))] [.ref 100, .ref 111] (p_S (v_ur (v_ur (v_ur S0 107 (upd (S0 107) cl (p_h S0 pl))) 108 (upd ((v_ur S0 107 (upd (S0 107) cl (p_h S0 pl))) 108) cl (Int32.ofInt (cs : Int)))) 109 (upd ((v_ur (v_ur S0 107 (upd (S0 107) cl (p_h S0 pl))) 108 (upd ((v_ur S0 107 (upd (S0 107) cl (p_h S0 pl))) 108) cl (Int32.ofInt (cs : Int)))) 109) cl (Int32.ofInt (cs : Int)))) pl2 cs2 sk2 cl (Int32.ofInt 0) nc2 sg2 true h2 o2 na2) R Q
        refine w_get rfl v_tyM rfl ?_
        refine w_st rfl (fun _ => rfl) ?_
        show w_T L xs (d + 7) m_X12_clause 176 [(2, .int (p_h S0 pl)), (0, .ref 100), (1, .int (Int32.ofInt 1))] [.ref 100, .int (Int32.ofInt (cl : Int)), .ref 111] (p_S (v_ur (v_ur (v_ur S0 107 (upd (S0 107) cl (p_h S0 pl))) 108 (upd ((v_ur S0 107 (upd (S0 107) cl (p_h S0 pl))) 108) cl (Int32.ofInt (cs : Int)))) 109 (upd ((v_ur (v_ur S0 107 (upd (S0 107) cl (p_h S0 pl))) 108 (upd ((v_ur S0 107 (upd (S0 107) cl (p_h S0 pl))) 108) cl (Int32.ofInt (cs : Int)))) 109) cl (Int32.ofInt (cs : Int)))) pl2 cs2 sk2 cl (Int32.ofInt 0) nc2 sg2 true h2 o2 na2) R Q
        refine w_get rfl v_tyM rfl ?_
        show w_T L xs (d + 7) m_X12_clause 179 [(2, .int (p_h S0 pl)), (0, .ref 100), (1, .int (Int32.ofInt 1))] [.int (Int32.ofInt (cs2 : Int)), .int (Int32.ofInt (cl : Int)), .ref 111] (p_S (v_ur (v_ur (v_ur S0 107 (upd (S0 107) cl (p_h S0 pl))) 108 (upd ((v_ur S0 107 (upd (S0 107) cl (p_h S0 pl))) 108) cl (Int32.ofInt (cs : Int)))) 109 (upd ((v_ur (v_ur S0 107 (upd (S0 107) cl (p_h S0 pl))) 108 (upd ((v_ur S0 107 (upd (S0 107) cl (p_h S0 pl))) 108) cl (Int32.ofInt (cs : Int)))) 109) cl (Int32.ofInt (cs : Int)))) pl2 cs2 sk2 cl (Int32.ofInt 0) nc2 sg2 true h2 o2 na2) R Q
        refine w_iast rfl rfl (by rw [w_nat (by omega)]; omega) (by rw [w_nat (by omega)]; omega) ?_
        refine w_eqS (p_wor (by decide) (w_natn (by omega))) ?_
        refine w_st rfl (fun _ => rfl) ?_
        refine w_st rfl (fun _ => rfl) ?_
        show w_T L xs (d + 7) m_X12_clause 182 [(2, .int (p_h S0 pl)), (0, .ref 100), (1, .int (Int32.ofInt 1))] [.ref 100, .ref 100] (p_S (v_ur (v_ur (v_ur (v_ur S0 107 (upd (S0 107) cl (p_h S0 pl))) 108 (upd ((v_ur S0 107 (upd (S0 107) cl (p_h S0 pl))) 108) cl (Int32.ofInt (cs : Int)))) 109 (upd ((v_ur (v_ur S0 107 (upd (S0 107) cl (p_h S0 pl))) 108 (upd ((v_ur S0 107 (upd (S0 107) cl (p_h S0 pl))) 108) cl (Int32.ofInt (cs : Int)))) 109) cl (Int32.ofInt (cs : Int)))) 110 (upd ((v_ur (v_ur (v_ur S0 107 (upd (S0 107) cl (p_h S0 pl))) 108 (upd ((v_ur S0 107 (upd (S0 107) cl (p_h S0 pl))) 108) cl (Int32.ofInt (cs : Int)))) 109 (upd ((v_ur (v_ur S0 107 (upd (S0 107) cl (p_h S0 pl))) 108 (upd ((v_ur S0 107 (upd (S0 107) cl (p_h S0 pl))) 108) cl (Int32.ofInt (cs : Int)))) 109) cl (Int32.ofInt (cs : Int)))) 110) cl (Int32.ofInt (cs2 : Int)))) pl2 cs2 sk2 cl (Int32.ofInt 0) nc2 sg2 true h2 o2 na2) R Q
        refine w_get rfl v_tyM rfl ?_
        refine w_st rfl (fun _ => rfl) ?_
        refine w_st rfl (fun _ => rfl) ?_
        show w_T L xs (d + 7) m_X12_clause 187 [(2, .int (p_h S0 pl)), (0, .ref 100), (1, .int (Int32.ofInt 1))] [.int ((Int32.ofInt (cl : Int)) + (Int32.ofInt 1)), .ref 100] (p_S (v_ur (v_ur (v_ur (v_ur S0 107 (upd (S0 107) cl (p_h S0 pl))) 108 (upd ((v_ur S0 107 (upd (S0 107) cl (p_h S0 pl))) 108) cl (Int32.ofInt (cs : Int)))) 109 (upd ((v_ur (v_ur S0 107 (upd (S0 107) cl (p_h S0 pl))) 108 (upd ((v_ur S0 107 (upd (S0 107) cl (p_h S0 pl))) 108) cl (Int32.ofInt (cs : Int)))) 109) cl (Int32.ofInt (cs : Int)))) 110 (upd ((v_ur (v_ur (v_ur S0 107 (upd (S0 107) cl (p_h S0 pl))) 108 (upd ((v_ur S0 107 (upd (S0 107) cl (p_h S0 pl))) 108) cl (Int32.ofInt (cs : Int)))) 109 (upd ((v_ur (v_ur S0 107 (upd (S0 107) cl (p_h S0 pl))) 108 (upd ((v_ur S0 107 (upd (S0 107) cl (p_h S0 pl))) 108) cl (Int32.ofInt (cs : Int)))) 109) cl (Int32.ofInt (cs : Int)))) 110) cl (Int32.ofInt (cs2 : Int)))) pl2 cs2 sk2 cl (Int32.ofInt 0) nc2 sg2 true h2 o2 na2) R Q
        refine w_put rfl v_tyM rfl rfl rfl ?_
        refine w_eqS (p_wcl (w_inc _)) ?_
        show w_T L xs (d + 7) m_X12_clause 190 [(2, .int (p_h S0 pl)), (0, .ref 100), (1, .int (Int32.ofInt 1))] [] (p_S (v_ur (v_ur (v_ur (v_ur S0 107 (upd (S0 107) cl (p_h S0 pl))) 108 (upd ((v_ur S0 107 (upd (S0 107) cl (p_h S0 pl))) 108) cl (Int32.ofInt (cs : Int)))) 109 (upd ((v_ur (v_ur S0 107 (upd (S0 107) cl (p_h S0 pl))) 108 (upd ((v_ur S0 107 (upd (S0 107) cl (p_h S0 pl))) 108) cl (Int32.ofInt (cs : Int)))) 109) cl (Int32.ofInt (cs : Int)))) 110 (upd ((v_ur (v_ur (v_ur S0 107 (upd (S0 107) cl (p_h S0 pl))) 108 (upd ((v_ur S0 107 (upd (S0 107) cl (p_h S0 pl))) 108) cl (Int32.ofInt (cs : Int)))) 109 (upd ((v_ur (v_ur S0 107 (upd (S0 107) cl (p_h S0 pl))) 108 (upd ((v_ur S0 107 (upd (S0 107) cl (p_h S0 pl))) 108) cl (Int32.ofInt (cs : Int)))) 109) cl (Int32.ofInt (cs : Int)))) 110) cl (Int32.ofInt (cs2 : Int)))) pl2 cs2 sk2 (cl + 1) (Int32.ofInt 0) nc2 sg2 true h2 o2 na2) R Q
        refine w_ret rfl rfl ?_
        refine Kg _ _ _ _ _ _ _ _ _ _ (p_F_ur (p_F_ur (p_F_ur (p_F_ur (p_F_rf _) (by omega)) (by omega)) (by omega)) (by omega)) (p_Tw (p_Tw (p_Tw (p_Tw hT (a := 107) rfl) (a := 108) rfl) (a := 109) rfl) (a := 110) rfl) (p_Z_add (cs1 := cs) hZ (fun k hk => ?_) ?_ ?_ ?_ (by omega) (by omega) (fun k hk => r2 k hk) (by rw [Nat.sub_self]; trivial) r3) (by omega) (by omega) (by omega) (by omega) (by omega)
        · have hne : ¬ k = cl := by omega
          simp [v_ur, upd, hne]
        · simp [v_ur, upd]
        · simp [v_ur, upd]
        · simp [v_ur, upd]
      · show w_T L xs (d + 7) m_X12_clause 167 [(2, .int (p_h S0 pl)), (0, .ref 100), (1, .int (Int32.ofInt 1))] [] (p_S (v_ur (v_ur (v_ur S0 107 (upd (S0 107) cl (p_h S0 pl))) 108 (upd ((v_ur S0 107 (upd (S0 107) cl (p_h S0 pl))) 108) cl (Int32.ofInt (cs : Int)))) 109 (upd ((v_ur (v_ur S0 107 (upd (S0 107) cl (p_h S0 pl))) 108 (upd ((v_ur S0 107 (upd (S0 107) cl (p_h S0 pl))) 108) cl (Int32.ofInt (cs : Int)))) 109) cl (Int32.ofInt (cs : Int)))) pl2 cs2 sk2 cl b164 nc2 sg2 false h2 o2 na2) R Q
        refine w_st rfl (fun _ => rfl) ?_
        show w_T L xs (d + 7) m_X12_clause 168 [(2, .int (p_h S0 pl)), (0, .ref 100), (1, .int (Int32.ofInt 1))] [.ref 100] (p_S (v_ur (v_ur (v_ur S0 107 (upd (S0 107) cl (p_h S0 pl))) 108 (upd ((v_ur S0 107 (upd (S0 107) cl (p_h S0 pl))) 108) cl (Int32.ofInt (cs : Int)))) 109 (upd ((v_ur (v_ur S0 107 (upd (S0 107) cl (p_h S0 pl))) 108 (upd ((v_ur S0 107 (upd (S0 107) cl (p_h S0 pl))) 108) cl (Int32.ofInt (cs : Int)))) 109) cl (Int32.ofInt (cs : Int)))) pl2 cs2 sk2 cl b164 nc2 sg2 false h2 o2 na2) R Q
        refine w_getr rfl v_tyM rfl ?_
        refine w_st rfl (fun _ => rfl) ?_
        show w_T L xs (d + 7) m_X12_clause 172 [(2, .int (p_h S0 pl)), (0, .ref 100), (1, .int (Int32.ofInt 1))] [.ref 100, .ref 111] (p_S (v_ur (v_ur (v_ur S0 107 (upd (S0 107) cl (p_h S0 pl))) 108 (upd ((v_ur S0 107 (upd (S0 107) cl (p_h S0 pl))) 108) cl (Int32.ofInt (cs : Int)))) 109 (upd ((v_ur (v_ur S0 107 (upd (S0 107) cl (p_h S0 pl))) 108 (upd ((v_ur S0 107 (upd (S0 107) cl (p_h S0 pl))) 108) cl (Int32.ofInt (cs : Int)))) 109) cl (Int32.ofInt (cs : Int)))) pl2 cs2 sk2 cl b164 nc2 sg2 false h2 o2 na2) R Q
        refine w_get rfl v_tyM rfl ?_
        refine w_st rfl (fun _ => rfl) ?_
        show w_T L xs (d + 7) m_X12_clause 176 [(2, .int (p_h S0 pl)), (0, .ref 100), (1, .int (Int32.ofInt 1))] [.ref 100, .int (Int32.ofInt (cl : Int)), .ref 111] (p_S (v_ur (v_ur (v_ur S0 107 (upd (S0 107) cl (p_h S0 pl))) 108 (upd ((v_ur S0 107 (upd (S0 107) cl (p_h S0 pl))) 108) cl (Int32.ofInt (cs : Int)))) 109 (upd ((v_ur (v_ur S0 107 (upd (S0 107) cl (p_h S0 pl))) 108 (upd ((v_ur S0 107 (upd (S0 107) cl (p_h S0 pl))) 108) cl (Int32.ofInt (cs : Int)))) 109) cl (Int32.ofInt (cs : Int)))) pl2 cs2 sk2 cl b164 nc2 sg2 false h2 o2 na2) R Q
        refine w_get rfl v_tyM rfl ?_
        show w_T L xs (d + 7) m_X12_clause 179 [(2, .int (p_h S0 pl)), (0, .ref 100), (1, .int (Int32.ofInt 1))] [.int (Int32.ofInt (cs2 : Int)), .int (Int32.ofInt (cl : Int)), .ref 111] (p_S (v_ur (v_ur (v_ur S0 107 (upd (S0 107) cl (p_h S0 pl))) 108 (upd ((v_ur S0 107 (upd (S0 107) cl (p_h S0 pl))) 108) cl (Int32.ofInt (cs : Int)))) 109 (upd ((v_ur (v_ur S0 107 (upd (S0 107) cl (p_h S0 pl))) 108 (upd ((v_ur S0 107 (upd (S0 107) cl (p_h S0 pl))) 108) cl (Int32.ofInt (cs : Int)))) 109) cl (Int32.ofInt (cs : Int)))) pl2 cs2 sk2 cl b164 nc2 sg2 false h2 o2 na2) R Q
        refine w_iast rfl rfl (by rw [w_nat (by omega)]; omega) (by rw [w_nat (by omega)]; omega) ?_
        refine w_eqS (p_wor (by decide) (w_natn (by omega))) ?_
        refine w_st rfl (fun _ => rfl) ?_
        refine w_st rfl (fun _ => rfl) ?_
        show w_T L xs (d + 7) m_X12_clause 182 [(2, .int (p_h S0 pl)), (0, .ref 100), (1, .int (Int32.ofInt 1))] [.ref 100, .ref 100] (p_S (v_ur (v_ur (v_ur (v_ur S0 107 (upd (S0 107) cl (p_h S0 pl))) 108 (upd ((v_ur S0 107 (upd (S0 107) cl (p_h S0 pl))) 108) cl (Int32.ofInt (cs : Int)))) 109 (upd ((v_ur (v_ur S0 107 (upd (S0 107) cl (p_h S0 pl))) 108 (upd ((v_ur S0 107 (upd (S0 107) cl (p_h S0 pl))) 108) cl (Int32.ofInt (cs : Int)))) 109) cl (Int32.ofInt (cs : Int)))) 110 (upd ((v_ur (v_ur (v_ur S0 107 (upd (S0 107) cl (p_h S0 pl))) 108 (upd ((v_ur S0 107 (upd (S0 107) cl (p_h S0 pl))) 108) cl (Int32.ofInt (cs : Int)))) 109 (upd ((v_ur (v_ur S0 107 (upd (S0 107) cl (p_h S0 pl))) 108 (upd ((v_ur S0 107 (upd (S0 107) cl (p_h S0 pl))) 108) cl (Int32.ofInt (cs : Int)))) 109) cl (Int32.ofInt (cs : Int)))) 110) cl (Int32.ofInt (cs2 : Int)))) pl2 cs2 sk2 cl b164 nc2 sg2 false h2 o2 na2) R Q
        refine w_get rfl v_tyM rfl ?_
        refine w_st rfl (fun _ => rfl) ?_
        refine w_st rfl (fun _ => rfl) ?_
        show w_T L xs (d + 7) m_X12_clause 187 [(2, .int (p_h S0 pl)), (0, .ref 100), (1, .int (Int32.ofInt 1))] [.int ((Int32.ofInt (cl : Int)) + (Int32.ofInt 1)), .ref 100] (p_S (v_ur (v_ur (v_ur (v_ur S0 107 (upd (S0 107) cl (p_h S0 pl))) 108 (upd ((v_ur S0 107 (upd (S0 107) cl (p_h S0 pl))) 108) cl (Int32.ofInt (cs : Int)))) 109 (upd ((v_ur (v_ur S0 107 (upd (S0 107) cl (p_h S0 pl))) 108 (upd ((v_ur S0 107 (upd (S0 107) cl (p_h S0 pl))) 108) cl (Int32.ofInt (cs : Int)))) 109) cl (Int32.ofInt (cs : Int)))) 110 (upd ((v_ur (v_ur (v_ur S0 107 (upd (S0 107) cl (p_h S0 pl))) 108 (upd ((v_ur S0 107 (upd (S0 107) cl (p_h S0 pl))) 108) cl (Int32.ofInt (cs : Int)))) 109 (upd ((v_ur (v_ur S0 107 (upd (S0 107) cl (p_h S0 pl))) 108 (upd ((v_ur S0 107 (upd (S0 107) cl (p_h S0 pl))) 108) cl (Int32.ofInt (cs : Int)))) 109) cl (Int32.ofInt (cs : Int)))) 110) cl (Int32.ofInt (cs2 : Int)))) pl2 cs2 sk2 cl b164 nc2 sg2 false h2 o2 na2) R Q
        refine w_put rfl v_tyM rfl rfl rfl ?_
        refine w_eqS (p_wcl (w_inc _)) ?_
        show w_T L xs (d + 7) m_X12_clause 190 [(2, .int (p_h S0 pl)), (0, .ref 100), (1, .int (Int32.ofInt 1))] [] (p_S (v_ur (v_ur (v_ur (v_ur S0 107 (upd (S0 107) cl (p_h S0 pl))) 108 (upd ((v_ur S0 107 (upd (S0 107) cl (p_h S0 pl))) 108) cl (Int32.ofInt (cs : Int)))) 109 (upd ((v_ur (v_ur S0 107 (upd (S0 107) cl (p_h S0 pl))) 108 (upd ((v_ur S0 107 (upd (S0 107) cl (p_h S0 pl))) 108) cl (Int32.ofInt (cs : Int)))) 109) cl (Int32.ofInt (cs : Int)))) 110 (upd ((v_ur (v_ur (v_ur S0 107 (upd (S0 107) cl (p_h S0 pl))) 108 (upd ((v_ur S0 107 (upd (S0 107) cl (p_h S0 pl))) 108) cl (Int32.ofInt (cs : Int)))) 109 (upd ((v_ur (v_ur S0 107 (upd (S0 107) cl (p_h S0 pl))) 108 (upd ((v_ur S0 107 (upd (S0 107) cl (p_h S0 pl))) 108) cl (Int32.ofInt (cs : Int)))) 109) cl (Int32.ofInt (cs : Int)))) 110) cl (Int32.ofInt (cs2 : Int)))) pl2 cs2 sk2 (cl + 1) b164 nc2 sg2 false h2 o2 na2) R Q
        refine w_ret rfl rfl ?_
        exact Kb _ _ _ _ _ _ _ _ _ _ _ _ (p_F_ur (p_F_ur (p_F_ur (p_F_ur (p_F_rf _) (by omega)) (by omega)) (by omega)) (by omega)) (p_Tw (p_Tw (p_Tw (p_Tw hT (a := 107) rfl) (a := 108) rfl) (a := 109) rfl) (a := 110) rfl) hb164 (by omega) (by omega) (by omega) (by omega)
    · refine w_st rfl (fun _ => rfl) ?_
      refine w_st rfl (fun _ => rfl) ?_
      refine w_st rfl (fun _ => rfl) ?_
      show w_T L xs (d + 7) m_X12_clause 58 [(2, .int (p_h S0 pl)), (0, .ref 100), (1, .int (Int32.ofInt 1))] [.ref 100, .int (Int32.ofInt 4), .ref 100] (p_S S0 pl cs sk cl (Int32.ofInt 0) nc sg ov bh op na) R Q
      refine w_get rfl v_tyM rfl ?_
      show w_T L xs (d + 7) m_X12_clause 61 [(2, .int (p_h S0 pl)), (0, .ref 100), (1, .int (Int32.ofInt 1))] [.int (Int32.ofInt (pl : Int)), .int (Int32.ofInt 4), .ref 100] (p_S S0 pl cs sk cl (Int32.ofInt 0) nc sg ov bh op na) R Q
      refine w_cv rfl (by decide) mt_X12_wrongs v_tyM rfl rfl rfl (Nat.le_of_ble_eq_true rfl) (Nat.le_of_ble_eq_true rfl) (Nat.le_of_ble_eq_true rfl) ?_
      show w_T L xs _ m_X12_wrongs 0 (lv_args 0 [.ref 100, .int (Int32.ofInt 4), .int (Int32.ofInt (pl : Int))]) [] (p_S S0 pl cs sk cl (Int32.ofInt 0) nc sg ov bh op na) R _
      refine h_wr (by decide) (by decide) (by rw [w_nat (by omega)]; omega) (by rw [w_nat (by omega)]; omega) (fun b61 hb61 => ?_)
      refine w_st rfl (fun _ => rfl) ?_
      show w_T L xs (d + 7) m_X12_clause 65 [(2, .int (p_h S0 pl)), (0, .ref 100), (1, .int (Int32.ofInt 1))] [.ref 100] (p_S S0 pl cs sk cl b61 nc sg ov bh op na) R Q
      refine w_cv rfl (by decide) mt_X12_isGood v_tyM rfl rfl rfl (Nat.le_of_ble_eq_true rfl) (Nat.le_of_ble_eq_true rfl) (Nat.le_of_ble_eq_true rfl) ?_
      show w_T L xs _ m_X12_isGood 0 (lv_args 0 [.ref 100]) [] (p_S S0 pl cs sk cl b61 nc sg ov bh op na) R _
      refine h_isGF hb61 ?_
      show w_T L xs (d + 7) m_X12_clause 68 [(2, .int (p_h S0 pl)), (0, .ref 100), (1, .int (Int32.ofInt 1))] [.int (Int32.ofInt 0)] (p_S S0 pl cs sk cl b61 nc sg ov bh op na) R Q
      refine w_st rfl (fun _ => rfl) ?_
      show w_T L xs (d + 7) m_X12_clause 71 [(2, .int (p_h S0 pl)), (0, .ref 100), (1, .int (Int32.ofInt 1))] [] (p_S S0 pl cs sk cl b61 nc sg ov bh op na) R Q
      refine w_ret rfl rfl ?_
      exact Kb _ _ _ _ _ _ _ _ _ _ _ _ (p_F_rf _) hT hb61 (by omega) (by omega) (by omega) (by omega)
  · refine w_st rfl (fun _ => rfl) ?_
    refine w_st rfl (fun _ => rfl) ?_
    refine w_st rfl (fun _ => rfl) ?_
    refine w_st rfl (fun _ => rfl) ?_
    show w_T L xs (d + 7) m_X12_clause 28 [(2, .int (p_h S0 pl)), (0, .ref 100), (1, .int (Int32.ofInt 1))] [.ref 100, .int (Int32.ofInt 1), .ref 100] (p_S S0 pl cs sk cl (Int32.ofInt 0) nc sg ov bh op na) R Q
    refine w_get rfl v_tyM rfl ?_
    show w_T L xs (d + 7) m_X12_clause 31 [(2, .int (p_h S0 pl)), (0, .ref 100), (1, .int (Int32.ofInt 1))] [.int (Int32.ofInt (pl : Int)), .int (Int32.ofInt 1), .ref 100] (p_S S0 pl cs sk cl (Int32.ofInt 0) nc sg ov bh op na) R Q
    refine w_cv rfl (by decide) mt_X12_wrongs v_tyM rfl rfl rfl (Nat.le_of_ble_eq_true rfl) (Nat.le_of_ble_eq_true rfl) (Nat.le_of_ble_eq_true rfl) ?_
    show w_T L xs _ m_X12_wrongs 0 (lv_args 0 [.ref 100, .int (Int32.ofInt 1), .int (Int32.ofInt (pl : Int))]) [] (p_S S0 pl cs sk cl (Int32.ofInt 0) nc sg ov bh op na) R _
    refine h_wr (by decide) (by decide) (by rw [w_nat (by omega)]; omega) (by rw [w_nat (by omega)]; omega) (fun b31 hb31 => ?_)
    refine w_st rfl (fun _ => rfl) ?_
    refine w_st rfl (fun _ => rfl) ?_
    show w_T L xs (d + 7) m_X12_clause 65 [(2, .int (p_h S0 pl)), (0, .ref 100), (1, .int (Int32.ofInt 1))] [.ref 100] (p_S S0 pl cs sk cl b31 nc sg ov bh op na) R Q
    refine w_cv rfl (by decide) mt_X12_isGood v_tyM rfl rfl rfl (Nat.le_of_ble_eq_true rfl) (Nat.le_of_ble_eq_true rfl) (Nat.le_of_ble_eq_true rfl) ?_
    show w_T L xs _ m_X12_isGood 0 (lv_args 0 [.ref 100]) [] (p_S S0 pl cs sk cl b31 nc sg ov bh op na) R _
    refine h_isGF hb31 ?_
    show w_T L xs (d + 7) m_X12_clause 68 [(2, .int (p_h S0 pl)), (0, .ref 100), (1, .int (Int32.ofInt 1))] [.int (Int32.ofInt 0)] (p_S S0 pl cs sk cl b31 nc sg ov bh op na) R Q
    refine w_st rfl (fun _ => rfl) ?_
    show w_T L xs (d + 7) m_X12_clause 71 [(2, .int (p_h S0 pl)), (0, .ref 100), (1, .int (Int32.ofInt 1))] [] (p_S S0 pl cs sk cl b31 nc sg ov bh op na) R Q
    refine w_ret rfl rfl ?_
    exact Kb _ _ _ _ _ _ _ _ _ _ _ _ (p_F_rf _) hT hb31 (by omega) (by omega) (by omega) (by omega)
end PK
