section Prt44
/-! THE CLAIM OUT OF ONE WALK OF THE LAW'S BODY. Your part is whole_start (and what it stands on); all else here is the same for every law, but numbers. -/
noncomputable def R_law : String := "GustHomeLaw"
noncomputable def lw_P (b : Addr) (xs : List Int32) (args : Array Value) (s : State) : Prop := args = #[.ref b] ∧ s.IntsAt b xs ∧ xs.length ≤ 3072 ∧ (Jvm.Cond.and given_1 narrow_1).before args s = true
noncomputable def lw_Q (_ : Array Value) (s : State) (o : Outcome) (t : State) : Prop := o = .returned (some (.int 1)) ∧ Framed s o t [] 600000 7302250
noncomputable def lw_Z (below : List Frame) (a : Array Value) (s : State) : State → Prop := fun t => ∃ o, t.status = .running ∧ Ended t below o ∧ lw_Q a s o t
/-- the law's own end, with 1 on the stack, nothing written that was there before, its room as the claim has it -/
theorem lw_ret {p : Program} {l : Launch} {e : Env} {s : State} {m : MethodId} {below : List Frame} {meth : Method} {c : Code} {b : Nat} (hx : p.tables.exec = Jvm.exec) (hb : c.code = code) (hr : meth.sig.returnType = ret) (hlocks : meth.locks = false) {pc : Nat} {H : Heap} {ls : Array Slot} (hdg : decode code pc = .ok (.ireturn, 1)) : W p l e room_1 s m #[Value.ref b] below meth c H [] 600000 7302250 (lw_Z below #[Value.ref b] s) (F0 m pc ls [.int 1]) := by
  intro T hT X
  obtain ⟨fs, hret, hrun, hended, hW, hframe⟩ := X.leave (v := some (.int 1)) (hlocks := hlocks) (fun h => by rw [hr] at h; cases h)
  have hmeth' : T.vm.method? m = some meth := X.method'
  refine ⟨T.setFrames fs, ?_, .returned (some (.int 1)), hrun, hended, rfl, ⟨_, rfl⟩, hW, hframe⟩
  jvm_step X.here [X.here.top, hx, hb, hdg, hmeth', hr, ret, narrow_b1]
  (try refine ⟨rfl, ?_⟩); (try refine ⟨rfl, ?_⟩)
  first | (intro acts; rw [hret _ acts rfl rfl rfl]) | rw [hret _ _ rfl rfl rfl]
  exact Steps.refl _
/-- what holds at the law's entry: the machine, the code, the tables' words (any of lw_tbl by 'hts w (by decide +kernel)'), the script of L ints xs at the cell b, what the Statement gives of the start (any of its parts by flat_of_before) -/
noncomputable def lw_At (p : Program) (s : State) (m : MethodId) (meth : Method) (c : Code) (b L : Nat) (xs : Nat → Int32) : Prop :=
  p.tables.exec = Jvm.exec ∧ c.code = code ∧ meth.sig.returnType = ret ∧ c.maxLocals = 4 ∧ s.vm.findClass R_law = some m.cls ∧ (∀ w ∈ lw_tbl, w.before #[Value.ref b] s = true) ∧ va_X b L xs s s.heap ∧ b < s.heap.size ∧ meth.locks = false ∧ (Jvm.Cond.and given_1 narrow_1).before #[Value.ref b] s = true
noncomputable def q_law : g_M := (g_cn 13, x, code, 4, some .boolean, g_look2 ttL_law)
theorem g_Nw_start {b : Addr} {s : State} (hts : ∀ w ∈ lw_tbl, w.before #[Value.ref b] s = true) : g_Nw s := by
  intro w hw
  obtain ⟨h1, h2⟩ := List.mem_filter.mp hw
  have h3 := hts w h1
  cases w <;> first | exact va_Nw.of rfl h3 | (simp [g_isN] at h2)
theorem g_K_start {b : Addr} {s : State} (hts : ∀ w ∈ g_wk, w.before #[Value.ref b] s = true) (hao : va_AO "GustHome$Ward" s) : ∃ (D : va_G) (dA : Nat → ClassId), va_K D vwCl (g_tys dA) s := by
  have h : ∀ c : Nat, ∃ q : ClassId × (Nat → Nat), ∀ r : vw_C, vwCl[c]? = some r → u_Kn s r.1 r.2.1 r.2.2 q.1 q.2 := by
    intro c
    cases hc : vwCl[c]? with
    | none => exact ⟨((default : ClassId), fun _ => 0), fun r hr => by cases hr⟩
    | some r =>
      obtain ⟨C, T, N⟩ := r
      have hlt : c < 13 := (List.getElem?_eq_some_iff.mp hc).1
      have hi : Cond.instantiable C N ∈ g_wk := by
        match c, hlt, hc with
        | 0, _, hc => cases hc; exact g_wkB_in (k := 2) (j := 32) (by decide +kernel)
        | 1, _, hc => cases hc; exact g_wkB_in (k := 1) (j := 191) (by decide +kernel)
        | 2, _, hc => cases hc; exact g_wkB_in (k := 2) (j := 163) (by decide +kernel)
        | 3, _, hc => cases hc; exact g_wkB_in (k := 1) (j := 185) (by decide +kernel)
        | 4, _, hc => cases hc; exact g_wkB_in (k := 2) (j := 68) (by decide +kernel)
        | 5, _, hc => cases hc; exact g_wkB_in (k := 2) (j := 0) (by decide +kernel)
        | 6, _, hc => cases hc; exact g_wkB_in (k := 1) (j := 169) (by decide +kernel)
        | 7, _, hc => cases hc; exact g_wkB_in (k := 1) (j := 32) (by decide +kernel)
        | 8, _, hc => cases hc; exact g_wkB_in (k := 1) (j := 155) (by decide +kernel)
        | 9, _, hc => cases hc; exact g_wkB_in (k := 1) (j := 125) (by decide +kernel)
        | 10, _, hc => cases hc; exact g_wkB_in (k := 2) (j := 118) (by decide +kernel)
        | 11, _, hc => cases hc; exact g_wkB_in (k := 1) (j := 24) (by decide +kernel)
        | 12, _, hc => cases hc; exact g_wkB_in (k := 5) (j := 237) (by decide +kernel)
        | n + 13, h, _ => omega
      obtain ⟨cC, iS, hk⟩ := u_known (C := C) (T := T) (N := N) (n := N) hts (g_clsIn_ok c C T N hc) (hts _ hi)
      exact ⟨(cC, iS), fun r hr => by cases hr; exact hk⟩
  obtain ⟨c0, k0, p0, f0, l0, n0⟩ := Cond.arrayClass_spec (hts _ g_ac_int)
  obtain ⟨c1, k1, p1, f1, l1, n1⟩ := Cond.arrayClass_spec (hts _ g_ac_byte)
  obtain ⟨c2, k2, p2, f2, l2, n2⟩ := Cond.arrayClass_spec (hts _ g_ac_boolean)
  obtain ⟨p3, c3, k3, f3, -, l3, n3, e3⟩ := Cond.arrayOver_spec hao
  refine ⟨(fun c => (h c).choose.1, fun c => (h c).choose.2), fun k => match k with
    | 0 => c0
    | 1 => c1
    | 2 => c2
    | _ => c3, fun c q hq => (h c).choose_spec q hq, fun k q hk => ?_⟩
  match k, hk with
  | 0, hk => cases hk; exact ⟨fun n z => ⟨fun k h => (by cases h), k0, l0, p0, n0⟩, f0⟩
  | 1, hk => cases hk; exact ⟨fun n z => ⟨fun k h => (by cases h), k1, l1, p1, n1⟩, f1⟩
  | 2, hk => cases hk; exact ⟨fun n z => ⟨fun k h => (by cases h), k2, l2, p2, n2⟩, f2⟩
  | 3, hk => cases hk; exact ⟨fun n z => ⟨fun k h => (by cases h), k3, l3, p3, n3⟩, k3, p3, l3, n3, f3, e3⟩
  | m + 4, hk => cases hk
/-- what is owed of the pure machine -/
noncomputable def g_Owed (L : Nat) (xs : Nat → Int32) : Prop := ∃ n r, g_run g_mt L xs n 60 q_law 0 [(0, .ref 0)] [] [] = some r ∧ r.1 = some (.int 1) ∧ r.2.length ≤ 600000 ∧ g_sl r.2 ≤ 7302250
set_option maxHeartbeats 1000000 in
theorem g_start {p : Program} {e : Env} {s : State} {m : MethodId} {below : List Frame} {meth : Method} {c : Code} (l : Launch) {b L : Nat} {xs : Nat → Int32} (hrun : g_Owed L xs) (C0 : lw_At p s m meth c b L xs) : W p l e room_1 s m #[Value.ref b] below meth c s.heap [] 0 0 (lw_Z below #[Value.ref b] s) (entryFrame m ([Value.ref b] : List Value).toArray 4) := by
  obtain ⟨n, r, hr, h1, h2, h3⟩ := hrun
  obtain ⟨hx, hb, hret, hml, hown, hts0, hX, hbl, hlocks, hgv⟩ := C0
  have hts : ∀ w ∈ g_wk, w.before #[Value.ref b] s = true := fun w hw => hts0 w (List.mem_filter.mp hw).1
  have hao : va_AO "GustHome$Ward" s := va_AO.of (hts0 (Cond.arrayOver (.object "GustHome$Ward")) (g_tb_in 1 _ (List.mem_of_getElem? (i := 124) rfl)))
  obtain ⟨D, dA, hK⟩ := g_K_start hts hao
  have hSt : g_St D dA s := ⟨hK, g_Nw_start hts0, hao⟩
  have hStr : g_Str s.heap.size s := g_Str_start hts0 hgv
  have hl := lv_entry ([Value.ref b] : List Value) (n := 4) (Nat.le_of_ble_eq_true rfl)
  rw [lg_entry_eq]
  generalize (lg_sl [Value.ref b] ++ List.replicate (4 - (lg_sl [Value.ref b]).length) Slot.unset).toArray = ls at hl ⊢
  have hl : lv_has ls 4 (g_cl2 b s.heap.size [(0, .ref 0)]) := hl
  have hnm : x.name = "<init>" → meth.name = "<init>" := fun h => absurd h (by decide +kernel)
  refine g_body g_mt_ok g_clsIn_ok l D b s.heap.size dA L xs n 60 q_law 0 [(0, .ref 0)] [] [] r hr g_law_ok p e room_1 s m _ below meth c s.heap [] 0 0 _ ls ⟨hx, hb, hml, hown, hts, hSt, hX, hbl, Nat.le_refl _, hnm, hStr⟩ hl ⟨fun k q h => by simp [g_ws] at h, by simp⟩ va_S.rf (by decide) (by decide) ?_ ?_ ?_
  · show 0 + (r.2.length - 0) ≤ 600000
    omega
  · show 0 + (g_sl r.2 - 0) ≤ 7302250
    omega
  · intro pc' en st1 lsB H1 locs1 hE hrt hH1 hS1
    have hE1 := hE.1
    have hl1 := hE.2.1 (g_rt_sw hrt)
    rw [h1] at hrt
    obtain ⟨⟨ins, len⟩, x', y', z'⟩ := en
    dsimp only at hE1 hl1 hrt
    have key : ins = .ireturn ∧ st1 = [.int 1] := by
      have hrt2 : g_rt ins (some .boolean) st1 = some (some (.int 1)) := hrt
      unfold g_rt at hrt2
      split at hrt2 <;> first | (cases hrt2; exact ⟨rfl, rfl⟩) | (split at hrt2 <;> first | (cases hrt2; exact ⟨rfl, rfl⟩) | (cases hrt2; done)) | (cases hrt2; done)
    obtain ⟨rfl, rfl⟩ := key
    have hl1 : len = 1 := hl1
    subst hl1
    refine va_forget (fun q hq => hS1.2.2 q hq) (W.widen (k := 600000) (n := 7302250) ?_ ?_ (lw_ret hx hb hret hlocks hE1))
    · show 0 + (r.2.length - 0) ≤ 600000
      omega
    · show 0 + (g_sl r.2 - 0) ≤ 7302250
      omega
end Prt44
section Prt45
/-! what is owed of the pure machine -/
theorem v_w1_e : v_w1 = some (none, v_s1) := by
  have h := v_w1_ok
  rw [Bool.and_eq_true] at h
  have h1 := h.1
  unfold v_s1
  generalize v_w1 = w at h1 ⊢
  unfold v_isV at h1
  split at h1
  · rfl
  · cases h1
theorem v_w2_e : v_w2 = some (none, v_s0) := by
  have h1 := v_w2_ok
  unfold v_s0
  generalize v_w2 = w at h1 ⊢
  unfold v_isV at h1
  split at h1
  · rfl
  · cases h1
theorem v_s1_len : v_s1.length = 99 := by
  have h := v_w1_ok
  rw [Bool.and_eq_true] at h
  exact Nat.eq_of_beq_eq_true h.2
set_option maxRecDepth 20000 in
theorem p_owed (L : Nat) (hL : L ≤ 3072) (xs : Nat → Int32) : g_Owed L xs := by
  obtain ⟨n, r, S', R', h1, h2⟩ := l_loop (xs := xs) hL 512 0 v_S0 v_R0 (by omega) (by omega) v_S0_Tb v_S0_Op z_K0
  rw [← v_s0_mk] at h1
  have c1 : ∀ k, g_run g_mt L xs (3000 + k) 59 m_X11_init 0 [(0, .ref 1)] [] [.inr (11, g_df 11)] = some (none, v_s1) := fun k => g_run_m L xs k (g_rC_ok L xs _ _ _ _ _ _ _ _ v_w1_e)
  have c2 : ∀ k, g_run g_mt L xs (3000 + k) 59 m_X12_init 0 [(0, .ref 100)] [] (v_s1 ++ [.inr (12, g_df 12)]) = some (none, v_s0) := fun k => g_run_m L xs k (g_rC_ok L xs _ _ _ _ _ _ _ _ v_w2_e)
  refine ⟨3000 + (n + 10), (r, v_mk v_ty S' R'), ?_, h2, ?_, ?_⟩
  · show g_run g_mt L xs ((3000 + (n + 9)) + 1) 60 m_L_law 0 [(0, .ref 0)] [] [] = _
    rw [g_run_step (q := (3, [(0, .ref 0)], [.ref 1], [.inr (11, g_df 11)])) rfl rfl]
    show g_run g_mt L xs ((3000 + (n + 8)) + 1) 60 m_L_law 3 [(0, .ref 0)] [.ref 1] [.inr (11, g_df 11)] = _
    rw [g_run_step (q := (4, [(0, .ref 0)], [.ref 1, .ref 1], [.inr (11, g_df 11)])) rfl rfl]
    show g_run g_mt L xs ((3000 + (n + 7)) + 1) (59 + 1) m_L_law 4 [(0, .ref 0)] [.ref 1, .ref 1] [.inr (11, g_df 11)] = _
    rw [g_run_call (M' := m_X11_init) (q := ([.ref 1], [.ref 1])) (w := (none, v_s1)) rfl rfl rfl rfl rfl mt_X11_init rfl (Nat.le_of_ble_eq_true rfl) (Nat.le_of_ble_eq_true rfl) (c1 (n + 7))]
    show g_run g_mt L xs ((3000 + (n + 6)) + 1) 60 m_L_law 7 [(0, .ref 0)] [.ref 1] v_s1 = _
    rw [g_run_step (q := (8, [(1, .ref 1), (0, .ref 0)], [], v_s1)) rfl rfl]
    show g_run g_mt L xs ((3000 + (n + 5)) + 1) 60 m_L_law 8 [(1, .ref 1), (0, .ref 0)] [] v_s1 = _
    have hnew : g_step 60 m_L_law.2.2.2.1 L xs ((.new 10, 3), 12, 0, 1) 8 [(1, .ref 1), (0, .ref 0)] [] v_s1 = some (11, [(1, .ref 1), (0, .ref 0)], [.ref 100], v_s1 ++ [.inr (12, g_df 12)]) := by
      show some (11, _, [Value.ref (v_s1.length + 1)], _) = _
      rw [v_s1_len]
    rw [g_run_step rfl hnew]
    show g_run g_mt L xs ((3000 + (n + 4)) + 1) 60 m_L_law 11 [(1, .ref 1), (0, .ref 0)] [.ref 100] (v_s1 ++ [.inr (12, g_df 12)]) = _
    rw [g_run_step (q := (12, [(1, .ref 1), (0, .ref 0)], [.ref 100, .ref 100], v_s1 ++ [.inr (12, g_df 12)])) rfl rfl]
    show g_run g_mt L xs ((3000 + (n + 3)) + 1) (59 + 1) m_L_law 12 [(1, .ref 1), (0, .ref 0)] [.ref 100, .ref 100] (v_s1 ++ [.inr (12, g_df 12)]) = _
    rw [g_run_call (M' := m_X12_init) (q := ([.ref 100], [.ref 100])) (w := (none, v_s0)) rfl rfl rfl rfl rfl mt_X12_init rfl (Nat.le_of_ble_eq_true rfl) (Nat.le_of_ble_eq_true rfl) (c2 (n + 3))]
    show g_run g_mt L xs ((3000 + (n + 2)) + 1) 60 m_L_law 15 [(1, .ref 1), (0, .ref 0)] [.ref 100] v_s0 = _
    rw [g_run_step (q := (16, [(2, .ref 100), (1, .ref 1), (0, .ref 0)], [], v_s0)) rfl rfl]
    show g_run g_mt L xs ((3000 + (n + 1)) + 1) 60 m_L_law 16 [(2, .ref 100), (1, .ref 1), (0, .ref 0)] [] v_s0 = _
    rw [g_run_step (q := (17, [(2, .ref 100), (1, .ref 1), (0, .ref 0)], [.int (Int32.ofInt 0)], v_s0)) rfl rfl]
    show g_run g_mt L xs ((3000 + n) + 1) 60 m_L_law 17 [(2, .ref 100), (1, .ref 1), (0, .ref 0)] [.int (Int32.ofInt 0)] v_s0 = _
    rw [g_run_step (q := (18, [(3, .int (Int32.ofInt 0)), (2, .ref 100), (1, .ref 1), (0, .ref 0)], [], v_s0)) rfl rfl]
    have := h1 3000
    rw [Nat.add_comm n 3000] at this
    exact this
  · show (v_mk v_ty S' R').length ≤ 600000
    rw [v_mk_len]
    decide
  · show g_sl (v_mk v_ty S' R') ≤ 7302250
    rw [v_mk_sl]
    exact Nat.le_of_ble_eq_true v_mk_sl0
end Prt45
