theorem g_out_in {i : Int32} {n : Nat} (h : g_out i n = false) : vp_in i n := by
  unfold g_out at h
  exact of_decide_eq_false h
theorem g_rf_cv (b sz : Nat) (o : Option Nat) : va_rf (o.map (g_ad b sz)) = g_cv b sz (va_rf o) := by cases o <;> rfl
def g_sw (ins : Instr) : Bool := match ins with
  | .tableswitch _ _ _ _ => true
  | .lookupswitch _ _ => true
  | _ => false
theorem g_stk_sw {ins : Instr} {z : Int} {st st' : List Value} (h : g_stk ins z st = some st') : g_sw ins = false := by
  unfold g_stk at h
  split at h <;> first | rfl | cases h
theorem g_lcl_sw {nL : Nat} {ins : Instr} {ls : g_Lc} {st : List Value} {q : g_Lc × List Value} (h : g_lcl nL ins ls st = some q) : g_sw ins = false := by
  unfold g_lcl at h
  split at h <;> first | rfl | cases h
theorem g_hp_sw {d L : Nat} {xs : Nat → Int32} {ins : Instr} {x y : Nat} {st : List Value} {σ : List g_Ce} {q : List Value × List g_Ce} (h : g_hp d L xs ins x y st σ = some q) : g_sw ins = false := by
  unfold g_hp at h
  split at h <;> first | rfl | cases h
def g_grow (σ σ' : List g_Ce) : Prop := σ.length ≤ σ'.length ∧ g_sl σ ≤ g_sl σ'
theorem g_grow_rf (σ : List g_Ce) : g_grow σ σ := ⟨Nat.le_refl _, Nat.le_refl _⟩
theorem g_grow_tr {a b c : List g_Ce} (h1 : g_grow a b) (h2 : g_grow b c) : g_grow a c := ⟨Nat.le_trans h1.1 h2.1, Nat.le_trans h1.2 h2.2⟩
theorem g_grow_set {σ : List g_Ce} {k : Nat} {c0 c : g_Ce} (h : σ[k]? = some c0) (hz : g_sz c0 = g_sz c) : g_grow σ (σ.set k c) := ⟨by simp, by rw [g_sl_set σ k c0 c h hz]; exact Nat.le_refl _⟩
theorem g_grow_app (σ : List g_Ce) (c : g_Ce) : g_grow σ (σ ++ [c]) := ⟨by simp, by rw [g_sl_app]; omega⟩
section GP
variable {p : Program} {l : Launch} {e : Env} {R : Room} {s : State} {m : MethodId} {args : Array Value} {below : List Frame} {meth : Method} {c : Code} {H : Heap} {locs : List Loc} {cells slots : Nat} {Q : State → Prop}
variable {code : ByteArray} {pc len d nL L : Nat} {xs : Nat → Int32} {lsA : Array Slot} {ls ls' : g_Lc} {ins : Instr} {z : Int} {st st' : List Value} {b sz x y : Nat} {own : String} {D : va_G} {dA : Nat → ClassId} {σ : List g_Ce}
theorem g_same (hH : g_Hp D b sz dA σ H) (hS : va_S (g_A sz) s.heap H locs) {g : JFrame}
    (kk : ∀ (H1 : Heap) (locs1 : List Loc), g_Hp D b sz dA σ H1 → va_S (g_A sz) s.heap H1 locs1 → W p l e R s m args below meth c H1 locs1 (cells + (σ.length - σ.length)) (slots + (g_sl σ - g_sl σ)) Q g) : W p l e R s m args below meth c H locs cells slots Q g := by
  have h := kk H locs hH hS
  rw [Nat.sub_self, Nat.sub_self] at h
  exact h
theorem g_sets {k : Nat} {c0 c1 : g_Ce} (hk : σ[k]? = some c0) (hz : g_sz c0 = g_sz c1) {g : JFrame}
    (kk : ∀ (H1 : Heap) (locs1 : List Loc), g_Hp D b sz dA (σ.set k c1) H1 → va_S (g_A sz) s.heap H1 locs1 → W p l e R s m args below meth c H1 locs1 (cells + ((σ.set k c1).length - σ.length)) (slots + (g_sl (σ.set k c1) - g_sl σ)) Q g) :
    ∀ (H1 : Heap) (locs1 : List Loc), g_Hp D b sz dA (σ.set k c1) H1 → va_S (g_A sz) s.heap H1 locs1 → W p l e R s m args below meth c H1 locs1 cells slots Q g := by
  intro H1 locs1 h1 h2
  have h := kk H1 locs1 h1 h2
  rw [List.length_set, g_sl_set σ k c0 c1 hk hz, Nat.sub_self, Nat.sub_self] at h
  exact h
theorem g_apps {c1 : g_Ce} {g : JFrame}
    (kk : ∀ (H1 : Heap) (locs1 : List Loc), g_Hp D b sz dA (σ ++ [c1]) H1 → va_S (g_A sz) s.heap H1 locs1 → W p l e R s m args below meth c H1 locs1 (cells + ((σ ++ [c1]).length - σ.length)) (slots + (g_sl (σ ++ [c1]) - g_sl σ)) Q g) :
    ∀ (H1 : Heap) (locs1 : List Loc), g_Hp D b sz dA (σ ++ [c1]) H1 → va_S (g_A sz) s.heap H1 locs1 → W p l e R s m args below meth c H1 locs1 (cells + 1) (slots + g_sz c1) Q g := by
  intro H1 locs1 h1 h2
  have h := kk H1 locs1 h1 h2
  rw [g_sl_app, List.length_append, List.length_singleton, Nat.add_sub_cancel_left, Nat.add_sub_cancel_left] at h
  exact h
set_option maxHeartbeats 4000000 in
theorem g_hp_ok {q : List Value × List g_Ce} (hx : p.tables.exec = Jvm.exec) (hb : c.code = code) (hml : c.maxLocals = nL) (hlA : lsA.size = nL) (hown : s.vm.findClass own = some m.cls) (hts : ∀ w ∈ g_wk, w.before args s = true) (hcl : g_clsIn) (hSt : g_St D dA s) (hX : va_X b L xs s s.heap) (hbs : b < sz) (hsz : sz ≤ s.heap.size) (hH : g_Hp D b sz dA σ H) (hS : va_S (g_A sz) s.heap H locs) (hdg : decode code pc = .ok (ins, len)) (hlen : len = g_len ins) (hlk : g_lkh own meth.name x y ins)
    (hd1 : d ≤ R.frames) (hd2 : d * 64 ≤ R.locals) (h : g_hp d L xs ins x y st σ = some q) (hr1 : cells + (q.2.length - σ.length) ≤ R.cells) (hr2 : slots + (g_sl q.2 - g_sl σ) ≤ R.slots)
    (kk : ∀ (H1 : Heap) (locs1 : List Loc), g_Hp D b sz dA q.2 H1 → va_S (g_A sz) s.heap H1 locs1 → W p l e R s m args below meth c H1 locs1 (cells + (q.2.length - σ.length)) (slots + (g_sl q.2 - g_sl σ)) Q (F0 m (pc + len) lsA (q.1.map (g_cv b sz)))) : W p l e R s m args below meth c H locs cells slots Q (F0 m pc lsA (st.map (g_cv b sz))) ∧ g_grow σ q.2 := by
  subst hlen
  unfold g_hp at h
  split at h
  · unfold g_gf at h
    split at h
    · split at h
      · rename_i hσ
        simp only [cond_eq_ite, beq_iff_eq] at h
        split at h
        · rename_i hc
          split at h
          · rename_i hv
            cases h
            subst hc
            exact ⟨g_get_ok hx hb hown hts hcl hSt hH hσ hv hdg hlk (g_same hH hS kk), g_grow_rf σ⟩
          · cases h
        · cases h
      · cases h
    · cases h
  · unfold g_pf at h
    split at h
    · split at h
      · rename_i hσ
        split at h
        · rename_i hc
          cases h
          obtain ⟨rfl, h1, h2, h3⟩ := hc
          exact ⟨g_put_ok hx hb hown hts hcl hSt hH hS hσ h1 h2 h3 hdg hlk (g_sets hσ (by rfl) kk), g_grow_set hσ (by rfl)⟩
        · cases h
      · cases h
    · cases h
  · cases h
    have hr1' : cells + 1 ≤ R.cells := by simpa using hr1
    have hr2' : slots + g_nf x ≤ R.slots := by
      have := hr2
      rw [g_sl_app, Nat.add_sub_cancel_left] at this
      exact this
    exact ⟨g_new_ok hx hb hown hts hcl hSt hH hS hlk hdg hr1' hr2' (g_apps kk), g_grow_app _ _⟩
  · unfold g_na at h
    split at h
    · split at h
      · rename_i hk
        split at h
        · rename_i hc
          cases h
          have hr1' : cells + 1 ≤ R.cells := by simpa using hr1
          have hr2' := hr2
          rw [g_sl_app, Nat.add_sub_cancel_left] at hr2'
          exact ⟨g_newa_ok hx hb hts hSt hH hS hk hlk hdg hc.1 hc.2 hr1' hr2' (g_apps kk), g_grow_app _ _⟩
        · cases h
      · cases h
    · cases h
  · unfold g_an at h
    split at h
    · split at h
      · rename_i hc
        cases h
        have hr1' : cells + 1 ≤ R.cells := by simpa using hr1
        have hr2' := hr2
        rw [g_sl_app, Nat.add_sub_cancel_left] at hr2'
        exact ⟨g_newq_ok hx hb hown hts hSt hH hS hlk hdg hc.1 hc.2 hr1' hr2' (g_apps kk), g_grow_app _ _⟩
      · cases h
    · cases h
  · unfold g_al at h
    split at h
    · cases h
      exact ⟨va_slen (b := b) hx hb hX (Nat.lt_of_lt_of_le hbs hsz) (show ¬ sz ≤ b by omega) hS hdg (g_same hH hS kk), g_grow_rf σ⟩
    · split at h
      · rename_i hσ
        split at h
        · rename_i ht
          cases h
          rename_i fz
          refine ⟨?_, g_grow_rf σ⟩
          cases fz
          · exact va_alen hx hb hSt.1 hH.1 _ _ (g_ws_at hσ) (g_tys_at hSt ht) rfl hdg (g_same hH hS kk)
          · exact va_alen hx hb hSt.1 hH.1 _ _ (g_ws_at hσ) (g_tys_at hSt ht) rfl hdg (g_same hH hS kk)
        · cases h
      · cases h
    · cases h
  · unfold g_ia at h
    split at h
    · rename_i i r
      cases hg : g_out i L <;> simp [hg] at h
      subst h
      exact ⟨va_sld (b := b) hx hb hX (Nat.lt_of_lt_of_le hbs hsz) (show ¬ sz ≤ b by omega) hS (g_out_in hg) hdg (g_same hH hS kk), g_grow_rf σ⟩
    · rename_i i a r
      split at h
      · rename_i n f hσ
        cases hg : g_out i n <;> simp [hg] at h
        subst h
        exact ⟨va_iald hx hb hSt.1 hH.1 _ 0 (g_ws_at hσ) (g_tys_at hSt (by decide)) (g_out_in hg) hdg (g_same hH hS kk), g_grow_rf σ⟩
      · cases h
    · cases h
  · unfold g_ba at h
    split at h
    · rename_i i a r
      split at h
      · rename_i n f hσ
        cases hg : g_out i n <;> simp [hg] at h
        subst h
        exact ⟨va_bald hx hb hSt.1 hH.1 _ 1 (g_ws_at hσ) (g_tys_at hSt (by decide)) (g_out_in hg) hdg (g_same hH hS kk), g_grow_rf σ⟩
      · rename_i n f hσ
        cases hg : g_out i n <;> simp [hg] at h
        subst h
        exact ⟨va_zald hx hb hSt.1 hH.1 _ 2 (g_ws_at hσ) (g_tys_at hSt (by decide)) (g_out_in hg) hdg (g_same hH hS kk), g_grow_rf σ⟩
      · cases h
    · cases h
  · unfold g_aa at h
    split at h
    · rename_i i a r
      split at h
      · rename_i n f hσ
        cases hg : g_out i n <;> simp [hg] at h
        subst h
        refine ⟨va_aldq hx hb hSt.1 hH.1 _ 3 (g_ws_at hσ) (g_tys_at hSt (by decide)) (g_out_in hg) hdg ?_, g_grow_rf σ⟩
        have h9 := g_same hH hS kk
        rw [List.map_cons, ← g_rf_cv] at h9
        exact h9
      · cases h
    · cases h
  · unfold g_is at h
    split at h
    · rename_i v i a r
      split at h
      · rename_i n f hσ
        cases hg : g_out i n <;> simp [hg] at h
        subst h
        exact ⟨g_iast_ok hx hb hSt hH hS hσ (g_out_in hg) hdg (g_sets hσ (by rfl) kk), g_grow_set hσ (by rfl)⟩
      · cases h
    · cases h
  · unfold g_bs at h
    split at h
    · rename_i v i a r
      split at h
      · rename_i n f hσ
        cases hg : g_out i n <;> simp [hg] at h
        subst h
        exact ⟨g_bast_ok hx hb hSt hH hS hσ (g_out_in hg) hdg (g_sets hσ (by rfl) kk), g_grow_set hσ (by rfl)⟩
      · rename_i n f hσ
        cases hg : g_out i n <;> simp [hg] at h
        subst h
        exact ⟨g_zast_ok hx hb hSt hH hS hσ (g_out_in hg) hdg (g_sets hσ (by rfl) kk), g_grow_set hσ (by rfl)⟩
      · cases h
    · cases h
  · unfold g_as at h
    split at h
    · rename_i v i a r
      split at h
      · rename_i n f hσ
        split at h
        · rename_i vs hv
          cases hg : g_out i n <;> simp [hg] at h
          subst h
          exact ⟨g_aast_ok hx hb hSt hH hS hσ hv (g_out_in hg) hdg (g_sets hσ (by rfl) kk), g_grow_set hσ (by rfl)⟩
        · cases h
      · cases h
    · cases h
  · have hct : ∀ r : List Value, ((r.map (g_cv b sz)).map fun v => v.category).sum = g_cat r := by
      intro r
      simp only [g_cat, List.map_map]
      congr 2
      funext v
      exact g_cv_cat b sz v
    unfold g_nv at h
    simp only [cond_eq_ite, beq_iff_eq] at h
    split at h
    · rename_i hc
      unfold g_cp at h
      split at h
      · split at h
        · rename_i hσ0
          split at h
          · rename_i hσ1
            split at h
            · rename_i hq
              obtain ⟨h1, h2, h3, h4, h5, h6, h7⟩ := hq
              cases h
              refine ⟨g_copy_ok hx hb (hml.trans hlA.symm) hown hts hSt hH hS hσ0 hσ1 h1 h2 h3 h4 h5 (hlk.1 hc) (by omega) ?_ hdg (g_sets hσ1 (by rfl) kk), g_grow_set hσ1 (by rfl)⟩
              rw [hct]
              have e2 : nativeFrameWords "java/lang/System" "arraycopy" 5 = 7 := by decide +kernel
              rw [e2]
              have : 64 ≤ d * 64 := by omega
              omega
            · cases h
          · cases h
        · cases h
      · cases h
    · split at h
      · rename_i hc
        unfold g_m2 at h
        split at h
        · split at h
          · rename_i hq
            cases h
            obtain ⟨w1, w2, -, -⟩ := hlk.2 (Or.inl hc)
            obtain ⟨u1, u2, u3⟩ := w2 hc
            have j1 : 64 ≤ d * 64 := by omega
            have j2 : 1 ≤ R.frames := by omega
            have j3 : cells ≤ R.cells := by omega
            have j4 : slots ≤ R.slots := by omega
            refine ⟨va_mmax hx hb (hml.trans hlA.symm) hown (hts _ u1) (hts _ u2) (hts _ w1) (hts _ u3) j2 ?_ j3 j4 hdg (g_same hH hS kk), g_grow_rf σ⟩
            rw [hct]
            omega
          · cases h
        · cases h
      · split at h
        · rename_i hc
          unfold g_m2 at h
          split at h
          · split at h
            · rename_i hq
              cases h
              obtain ⟨w1, -, w2, -⟩ := hlk.2 (Or.inr (Or.inl hc))
              obtain ⟨u1, u2, u3⟩ := w2 hc
              have j1 : 64 ≤ d * 64 := by omega
              have j2 : 1 ≤ R.frames := by omega
              have j3 : cells ≤ R.cells := by omega
              have j4 : slots ≤ R.slots := by omega
              refine ⟨va_mmin hx hb (hml.trans hlA.symm) hown (hts _ u1) (hts _ u2) (hts _ w1) (hts _ u3) j2 ?_ j3 j4 hdg (g_same hH hS kk), g_grow_rf σ⟩
              rw [hct]
              omega
            · cases h
          · cases h
        · split at h
          · rename_i hc
            unfold g_m1 at h
            split at h
            · split at h
              · rename_i hq
                cases h
                obtain ⟨w1, -, -, w2⟩ := hlk.2 (Or.inr (Or.inr hc))
                obtain ⟨u1, u2, u3⟩ := w2 hc
                have j1 : 64 ≤ d * 64 := by omega
                have j2 : 1 ≤ R.frames := by omega
                have j3 : cells ≤ R.cells := by omega
                have j4 : slots ≤ R.slots := by omega
                refine ⟨va_mabs hx hb (hml.trans hlA.symm) hown (hts _ u1) (hts _ u2) (hts _ w1) (hts _ u3) j2 ?_ j3 j4 hdg (g_same hH hS kk), g_grow_rf σ⟩
                rw [hct]
                omega
              · cases h
            · cases h
          · cases h
  · cases h
end GP
