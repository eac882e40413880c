set_option maxHeartbeats 2000000 in
theorem g_hp_grow {d L : Nat} {xs : Nat → Int32} {ins : Instr} {x y : Nat} {st : List Value} {σ : List g_Ce} {q : List Value × List g_Ce} (h : g_hp d L xs ins x y st σ = some q) : g_grow σ q.2 := by
  unfold g_hp at h
  split at h
  · unfold g_gf at h
    repeat' split at h
    all_goals first | (cases h; done) | skip
    all_goals (simp only [cond_eq_ite] at h; split at h <;> first | (cases h; done) | (cases h; exact g_grow_rf σ))
  · unfold g_pf at h
    repeat' split at h
    all_goals first | (cases h; done) | skip
    rename_i hσ _
    cases h
    exact g_grow_set hσ (by rfl)
  · cases h; exact g_grow_app _ _
  · unfold g_na at h
    repeat' split at h
    all_goals first | (cases h; done) | (cases h; exact g_grow_app _ _)
  · unfold g_an at h
    repeat' split at h
    all_goals first | (cases h; done) | (cases h; exact g_grow_app _ _)
  · unfold g_al at h
    repeat' split at h
    all_goals first | (cases h; done) | (cases h; exact g_grow_rf _)
  · unfold g_ia at h
    repeat' split at h
    all_goals first | (cases h; done) | (simp only [cond_eq_ite] at h; split at h <;> first | (cases h; done) | (cases h; exact g_grow_rf _))
  · unfold g_ba at h
    repeat' split at h
    all_goals first | (cases h; done) | (simp only [cond_eq_ite] at h; split at h <;> first | (cases h; done) | (cases h; exact g_grow_rf _))
  · unfold g_aa at h
    repeat' split at h
    all_goals first | (cases h; done) | (simp only [cond_eq_ite] at h; split at h <;> first | (cases h; done) | (cases h; exact g_grow_rf _))
  · unfold g_is at h
    repeat' split at h
    all_goals first | (cases h; done) | (simp only [cond_eq_ite] at h; split at h <;> first | (cases h; done) | (cases h; exact g_grow_set (by assumption) (by rfl)))
  · unfold g_bs at h
    repeat' split at h
    all_goals first | (cases h; done) | (simp only [cond_eq_ite] at h; split at h <;> first | (cases h; done) | (cases h; exact g_grow_set (by assumption) (by rfl)))
  · unfold g_as at h
    repeat' split at h
    all_goals first | (cases h; done) | (simp only [cond_eq_ite] at h; split at h <;> first | (cases h; done) | (cases h; exact g_grow_set (by assumption) (by rfl)))
  · unfold g_nv at h
    simp only [cond_eq_ite] at h
    split at h
    · unfold g_cp at h
      repeat' split at h
      all_goals first | (cases h; done) | skip
      cases h
      exact g_grow_set (by assumption) (by rfl)
    · split at h
      · unfold g_m2 at h
        repeat' split at h
        all_goals first | (cases h; done) | (cases h; exact g_grow_rf _)
      · split at h
        · unfold g_m2 at h
          repeat' split at h
          all_goals first | (cases h; done) | (cases h; exact g_grow_rf _)
        · split at h
          · unfold g_m1 at h
            repeat' split at h
            all_goals first | (cases h; done) | (cases h; exact g_grow_rf _)
          · cases h
  · cases h
theorem g_step_grow {d nL L : Nat} {xs : Nat → Int32} {en : g_En} {pc : Nat} {ls : g_Lc} {st : List Value} {σ : List g_Ce} {q : Nat × g_Lc × List Value × List g_Ce} (h : g_step d nL L xs en pc ls st σ = some q) : g_grow σ q.2.2.2 := by
  unfold g_step at h
  split at h
  · cases h; exact g_grow_rf σ
  · split at h
    · cases h; exact g_grow_rf σ
    · split at h
      · cases h; exact g_grow_rf σ
      · split at h
        · rename_i h2
          cases h
          exact g_hp_grow h2
        · cases h
set_option maxHeartbeats 2000000 in
theorem g_run_grow (mt : Nat → Option g_M) (L : Nat) (xs : Nat → Int32) : ∀ (n d : Nat) (M : g_M) (pc : Nat) (ls : g_Lc) (st : List Value) (σ : List g_Ce) (r : Option Value × List g_Ce), g_run mt L xs n d M pc ls st σ = some r → g_grow σ r.2 := by
  intro n
  induction n with
  | zero => intro d M pc ls st σ r h; simp [g_run] at h
  | succ n ih =>
    intro d M pc ls st σ r h
    unfold g_run at h
    split at h
    · split at h
      · exact ih _ _ _ _ _ _ _ h
      · cases h
    · split at h
      · rename_i hs
        exact g_grow_tr (g_step_grow hs) (ih _ _ _ _ _ _ _ h)
      · split at h
        · cases h; exact g_grow_rf σ
        · split at h
          · cases h
          · split at h
            · cases h
            · simp only [cond_eq_ite] at h
              split at h
              · split at h
                · exact ih _ _ _ _ _ _ _ h
                · cases h
              · split at h
                · cases h
                · split at h
                  · cases h
                  · split at h
                    · split at h
                      · cases h
                      · rename_i hw
                        exact g_grow_tr (ih _ _ _ _ _ _ _ hw) (ih _ _ _ _ _ _ _ h)
                    · cases h
def g_lkc0 (own : String) (i : Nat) (M' : g_M) (y : Nat) : Prop := (Cond.methodLink own i M'.2.1 ∈ g_wk ∨ ∃ h, Cond.methodLinkNest own i M'.2.1 h ∈ g_wn) ∧ Cond.initialized M'.2.1.cls ∈ g_wk ∧ (M'.2.1.cls ≠ "java/lang/invoke/MethodHandle" ∧ M'.2.1.cls ≠ "java/lang/invoke/VarHandle" ∧ (parseMethodDescriptor M'.2.1.desc).map (fun d => d.parameters.length) = some y)
def g_lkc (mt : Nat → Option g_M) (own : String) (x y : Nat) (ins : Instr) : Prop := match ins with
  | .invokestatic i => ∀ M', mt x = some M' → g_lkc0 own i M' y ∧ Cond.static M'.2.1 ∈ g_wk
  | .invokevirtual i => ∀ M', mt x = some M' → g_lkc0 own i M' y ∧ Cond.instanceMethod M'.2.1 ∈ g_wk ∧ Cond.selects M'.2.1.cls M'.2.1 M'.2.1 ∈ g_wk
  | .invokespecial i => (x = 99999 → Cond.methodLink own i objectInit ∈ g_wk ∧ Cond.instanceMethod objectInit ∈ g_wk ∧ Cond.code objectInit ⟨#[0xb1]⟩ 1 none ∈ g_wk) ∧ ∀ M', mt x = some M' → g_lkc0 own i M' y ∧ M'.2.1.name = "<init>" ∧ Cond.instanceMethod M'.2.1 ∈ g_wk ∧ M'.2.2.2.2.1 = none
  | _ => True
def g_eOk (mt : Nat → Option g_M) (M : g_M) (pc : Nat) (en : g_En) : Prop := decode M.2.2.1 pc = .ok en.1 ∧ (g_sw en.1.1 = false → en.1.2 = g_len en.1.1) ∧ g_kst M.1 en.2.2.2 en.1.1 ∧ (∀ off, g_off en.1.1 = some off → (pc : Int) + off = (en.2.1 : Int)) ∧ g_lkh M.1 M.2.1.name en.2.1 en.2.2.1 en.1.1 ∧ g_lkc mt M.1 en.2.1 en.2.2.1 en.1.1
def g_Mok (mt : Nat → Option g_M) (M : g_M) : Prop := plainName M.2.1.cls = true ∧ M.2.2.2.1 ≤ 45 ∧ Cond.code M.2.1 M.2.2.1 M.2.2.2.1 M.2.2.2.2.1 ∈ g_wk ∧ M.2.1.cls = M.1 ∧ ∀ pc en, M.2.2.2.2.2 pc = some en → g_eOk mt M pc en
def g_Fx (M : g_M) (D : va_G) (b sz : Nat) (dA : Nat → ClassId) (L : Nat) (xs : Nat → Int32) (p : Program) (s : State) (m : MethodId) (args : Array Value) (meth : Method) (c : Code) : Prop :=
  p.tables.exec = Jvm.exec ∧ c.code = M.2.2.1 ∧ c.maxLocals = M.2.2.2.1 ∧ s.vm.findClass M.1 = some m.cls ∧ (∀ w ∈ g_wk, w.before args s = true) ∧ g_St D dA s ∧ va_X b L xs s s.heap ∧ b < sz ∧ sz ≤ s.heap.size ∧ ((M.2.1.name = "<init>" → meth.name = "<init>") ∧ g_Str sz s)
theorem g_lkh_mn {own m1 m2 : String} (hm : m1 = "<init>" → m2 = "<init>") {x y : Nat} {ins : Instr} (h : g_lkh own m1 x y ins) : g_lkh own m2 x y ins := by
  unfold g_lkh at h ⊢
  split at h
  · exact h
  · obtain ⟨C, T, N, h1, h2, h3, h4⟩ := h
    exact ⟨C, T, N, h1, h2, h3, h4.imp id (fun ⟨a1, a2, a3, a4⟩ => ⟨a1, hm a2, a3, a4⟩)⟩
  · exact h
  · exact h
  · exact h
  · exact h
  · trivial
theorem g_off_len {ins : Instr} {off : Int} (h : g_off ins = some off) : g_sw ins = false ∧ g_len ins = 3 := by
  unfold g_off at h
  split at h <;> first | exact ⟨rfl, rfl⟩ | cases h
section GB
variable {p : Program} {l : Launch} {e : Env} {R : Room} {s : State} {m : MethodId} {args : Array Value} {below : List Frame} {meth : Method} {c : Code} {H : Heap} {locs : List Loc} {cells slots : Nat} {Q : State → Prop}
variable {mt : Nat → Option g_M} {M : g_M} {pc d L : Nat} {xs : Nat → Int32} {lsA : Array Slot} {ls : g_Lc} {st : List Value} {b sz : Nat} {D : va_G} {dA : Nat → ClassId} {σ : List g_Ce} {en : g_En}
set_option maxHeartbeats 2000000 in
theorem g_step_ok {q : Nat × g_Lc × List Value × List g_Ce} (hcl : g_clsIn) (hF : g_Fx M D b sz dA L xs p s m args meth c) (hE : g_eOk mt M pc en) (hl : lv_has lsA M.2.2.2.1 (g_cl2 b sz ls)) (hH : g_Hp D b sz dA σ H) (hS : va_S (g_A sz) s.heap H locs) (hd1 : d ≤ R.frames) (hd2 : d * 64 ≤ R.locals) (h : g_step d M.2.2.2.1 L xs en pc ls st σ = some q) (hr1 : cells + (q.2.2.2.length - σ.length) ≤ R.cells) (hr2 : slots + (g_sl q.2.2.2 - g_sl σ) ≤ R.slots)
    (kk : ∀ (lsB : Array Slot) (H1 : Heap) (locs1 : List Loc), lv_has lsB M.2.2.2.1 (g_cl2 b sz q.2.1) → g_Hp D b sz dA q.2.2.2 H1 → va_S (g_A sz) s.heap H1 locs1 → W p l e R s m args below meth c H1 locs1 (cells + (q.2.2.2.length - σ.length)) (slots + (g_sl q.2.2.2 - g_sl σ)) Q (F0 m q.1 lsB (q.2.2.1.map (g_cv b sz)))) : W p l e R s m args below meth c H locs cells slots Q (F0 m pc lsA (st.map (g_cv b sz))) := by
  obtain ⟨hx, hb, hml, hown, hts, hSt, hX, hbs, hsz, hnm, -⟩ := hF
  obtain ⟨e1, e2, e3, e4, e5, -⟩ := hE
  obtain ⟨⟨ins, len⟩, x, y, z⟩ := en
  dsimp only at e1 e2 e3 e4 e5
  unfold g_step at h
  dsimp only at h
  split at h
  · rename_i h1
    cases h
    exact g_stk_ok hx hb hown hts e1 (e2 (g_stk_sw h1)) e3 h1 (g_same hH hS (fun H1 locs1 h2 h3 => kk lsA H1 locs1 hl h2 h3))
  · split at h
    · rename_i q1 h1
      cases h
      exact g_lcl_ok hx hb e1 (e2 (g_lcl_sw h1)) hl h1 (fun lsB hB => g_same hH hS (fun H1 locs1 h2 h3 => kk lsB H1 locs1 hB h2 h3))
    · split at h
      · rename_i q1 h1
        cases h
        exact g_jmp_ok hx hb e1 (fun off ho => by rw [e2 (g_off_len ho).1, (g_off_len ho).2]) e4 h1 (g_same hH hS (fun H1 locs1 h2 h3 => kk lsA H1 locs1 hl h2 h3))
      · split at h
        · rename_i q1 h1
          cases h
          exact (g_hp_ok hx hb hml hl.1 hown hts hcl hSt hX hbs hsz hH hS e1 (e2 (g_hp_sw h1)) (g_lkh_mn hnm e5) hd1 hd2 h1 hr1 hr2 (fun H1 locs1 h2 h3 => kk lsA H1 locs1 hl h2 h3)).1
        · cases h
end GB
