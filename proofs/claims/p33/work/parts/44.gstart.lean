/-! THE CLAIM OUT OF ONE WALK OF THE LAW'S BODY. Your part is whole_start (and what it stands on); all else here is the same for every law, but numbers. -/
def R_law : String := "GustHomeLaw"
def lw_P (b : Addr) (xs : List Int32) (args : Array Value) (s : State) : Prop := args = #[.ref b] ∧ s.IntsAt b xs ∧ xs.length ≤ 3072 ∧ (Jvm.Cond.and given_1 narrow_1).before args s = true
def lw_Q (_ : Array Value) (s : State) (o : Outcome) (t : State) : Prop := o = .returned (some (.int 1)) ∧ Framed s o t [] 600000 7302250
def lw_Z (below : List Frame) (a : Array Value) (s : State) : State → Prop := fun t => ∃ o, t.status = .running ∧ Ended t below o ∧ lw_Q a s o t
/-- the law's own end, with 1 on the stack, nothing written that was there before, its room as the claim has it -/
theorem lw_ret {p : Program} {l : Launch} {e : Env} {s : State} {m : MethodId} {below : List Frame} {meth : Method} {c : Code} {b : Nat} (hx : p.tables.exec = Jvm.exec) (hb : c.code = code) (hr : meth.sig.returnType = ret) (hlocks : meth.locks = false) {pc : Nat} {H : Heap} {ls : Array Slot} (hdg : decode code pc = .ok (.ireturn, 1)) : W p l e room_1 s m #[Value.ref b] below meth c H [] 600000 7302250 (lw_Z below #[Value.ref b] s) (F0 m pc ls [.int 1]) := by
  intro T hT X
  obtain ⟨fs, hret, hrun, hended, hW, hframe⟩ := X.leave (v := some (.int 1)) (hlocks := hlocks) (fun h => by rw [hr] at h; cases h)
  have hmeth' : T.vm.method? m = some meth := X.method'
  refine ⟨T.setFrames fs, ?_, .returned (some (.int 1)), hrun, hended, rfl, ⟨_, rfl⟩, hW, hframe⟩
  jvm_step X.here [X.here.top, hx, hb, hdg, hmeth', hr, ret, narrow_b1]
  (try refine ⟨rfl, ?_⟩); (try refine ⟨rfl, ?_⟩)
  first | (intro acts; rw [hret _ acts rfl rfl rfl]) | rw [hret _ _ rfl rfl rfl]
  exact Steps.refl _
/-- what holds at the law's entry: the machine, the code, the tables' words (any of lw_tbl by 'hts w (by decide +kernel)'), the script of L ints xs at the cell b, what the Statement gives of the start (any of its parts by flat_of_before) -/
def lw_At (p : Program) (s : State) (m : MethodId) (meth : Method) (c : Code) (b L : Nat) (xs : Nat → Int32) : Prop :=
  p.tables.exec = Jvm.exec ∧ c.code = code ∧ meth.sig.returnType = ret ∧ c.maxLocals = 4 ∧ s.vm.findClass R_law = some m.cls ∧ (∀ w ∈ lw_tbl, w.before #[Value.ref b] s = true) ∧ va_X b L xs s s.heap ∧ b < s.heap.size ∧ meth.locks = false ∧ (Jvm.Cond.and given_1 narrow_1).before #[Value.ref b] s = true
noncomputable def q_law : g_M := (g_cn 13, x, code, 4, some .boolean, g_look2 ttL_law)
theorem g_Nw_start {b : Addr} {s : State} (hts : ∀ w ∈ lw_tbl, w.before #[Value.ref b] s = true) : g_Nw s := by
  intro w hw
  obtain ⟨h1, h2⟩ := List.mem_filter.mp hw
  have h3 := hts w h1
  cases w <;> first | exact va_Nw.of rfl h3 | (simp [g_isN] at h2)
theorem g_K_start {b : Addr} {s : State} (hts : ∀ w ∈ g_wk, w.before #[Value.ref b] s = true) (hao : va_AO "GustHome$Ward" s) : ∃ (D : va_G) (dA : Nat → ClassId), va_K D vwCl (g_tys dA) s := by
  have h : ∀ c : Nat, ∃ q : ClassId × (Nat → Nat), ∀ r : vw_C, vwCl[c]? = some r → u_Kn s r.1 r.2.1 r.2.2 q.1 q.2 := by
    intro c
    cases hc : vwCl[c]? with
    | none => exact ⟨((default : ClassId), fun _ => 0), fun r hr => by cases hr⟩
    | some r =>
      obtain ⟨C, T, N⟩ := r
      have hlt : c < 13 := (List.getElem?_eq_some_iff.mp hc).1
      have hi : Cond.instantiable C N ∈ g_wk := by
        match c, hlt, hc with
        | 0, _, hc => cases hc; exact g_wkB_in (k := 2) (j := 32) (by decide +kernel)
        | 1, _, hc => cases hc; exact g_wkB_in (k := 1) (j := 191) (by decide +kernel)
        | 2, _, hc => cases hc; exact g_wkB_in (k := 2) (j := 163) (by decide +kernel)
        | 3, _, hc => cases hc; exact g_wkB_in (k := 1) (j := 185) (by decide +kernel)
        | 4, _, hc => cases hc; exact g_wkB_in (k := 2) (j := 68) (by decide +kernel)
        | 5, _, hc => cases hc; exact g_wkB_in (k := 2) (j := 0) (by decide +kernel)
        | 6, _, hc => cases hc; exact g_wkB_in (k := 1) (j := 169) (by decide +kernel)
        | 7, _, hc => cases hc; exact g_wkB_in (k := 1) (j := 32) (by decide +kernel)
        | 8, _, hc => cases hc; exact g_wkB_in (k := 1) (j := 155) (by decide +kernel)
        | 9, _, hc => cases hc; exact g_wkB_in (k := 1) (j := 125) (by decide +kernel)
        | 10, _, hc => cases hc; exact g_wkB_in (k := 2) (j := 118) (by decide +kernel)
        | 11, _, hc => cases hc; exact g_wkB_in (k := 1) (j := 24) (by decide +kernel)
        | 12, _, hc => cases hc; exact g_wkB_in (k := 5) (j := 237) (by decide +kernel)
        | n + 13, h, _ => omega
      obtain ⟨cC, iS, hk⟩ := u_known (C := C) (T := T) (N := N) (n := N) hts (g_clsIn_ok c C T N hc) (hts _ hi)
      exact ⟨(cC, iS), fun r hr => by cases hr; exact hk⟩
  obtain ⟨c0, k0, p0, f0, l0, n0⟩ := Cond.arrayClass_spec (hts _ g_ac_int)
  obtain ⟨c1, k1, p1, f1, l1, n1⟩ := Cond.arrayClass_spec (hts _ g_ac_byte)
  obtain ⟨c2, k2, p2, f2, l2, n2⟩ := Cond.arrayClass_spec (hts _ g_ac_boolean)
  obtain ⟨p3, c3, k3, f3, -, l3, n3, e3⟩ := Cond.arrayOver_spec hao
  refine ⟨(fun c => (h c).choose.1, fun c => (h c).choose.2), fun k => match k with
    | 0 => c0
    | 1 => c1
    | 2 => c2
    | _ => c3, fun c q hq => (h c).choose_spec q hq, fun k q hk => ?_⟩
  match k, hk with
  | 0, hk => cases hk; exact ⟨fun n z => ⟨fun k h => (by cases h), k0, l0, p0, n0⟩, f0⟩
  | 1, hk => cases hk; exact ⟨fun n z => ⟨fun k h => (by cases h), k1, l1, p1, n1⟩, f1⟩
  | 2, hk => cases hk; exact ⟨fun n z => ⟨fun k h => (by cases h), k2, l2, p2, n2⟩, f2⟩
  | 3, hk => cases hk; exact ⟨fun n z => ⟨fun k h => (by cases h), k3, l3, p3, n3⟩, k3, p3, l3, n3, f3, e3⟩
  | m + 4, hk => cases hk
/-- what is owed of the pure machine -/
def g_Owed (L : Nat) (xs : Nat → Int32) : Prop := ∃ n r, g_run g_mt L xs n 60 q_law 0 [(0, .ref 0)] [] [] = some r ∧ r.1 = some (.int 1) ∧ r.2.length ≤ 600000 ∧ g_sl r.2 ≤ 7302250
set_option maxHeartbeats 1000000 in
theorem g_start {p : Program} {e : Env} {s : State} {m : MethodId} {below : List Frame} {meth : Method} {c : Code} (l : Launch) {b L : Nat} {xs : Nat → Int32} (hrun : g_Owed L xs) (C0 : lw_At p s m meth c b L xs) : W p l e room_1 s m #[Value.ref b] below meth c s.heap [] 0 0 (lw_Z below #[Value.ref b] s) (entryFrame m ([Value.ref b] : List Value).toArray 4) := by
  obtain ⟨n, r, hr, h1, h2, h3⟩ := hrun
  obtain ⟨hx, hb, hret, hml, hown, hts0, hX, hbl, hlocks, hgv⟩ := C0
  have hts : ∀ w ∈ g_wk, w.before #[Value.ref b] s = true := fun w hw => hts0 w (List.mem_filter.mp hw).1
  have hao : va_AO "GustHome$Ward" s := va_AO.of (hts0 (Cond.arrayOver (.object "GustHome$Ward")) (g_tb_in 1 _ (List.mem_of_getElem? (i := 124) rfl)))
  obtain ⟨D, dA, hK⟩ := g_K_start hts hao
  have hSt : g_St D dA s := ⟨hK, g_Nw_start hts0, hao⟩
  have hStr : g_Str s.heap.size s := g_Str_start hts0 hgv
  have hl := lv_entry ([Value.ref b] : List Value) (n := 4) (Nat.le_of_ble_eq_true rfl)
  rw [lg_entry_eq]
  generalize (lg_sl [Value.ref b] ++ List.replicate (4 - (lg_sl [Value.ref b]).length) Slot.unset).toArray = ls at hl ⊢
  have hl : lv_has ls 4 (g_cl2 b s.heap.size [(0, .ref 0)]) := hl
  have hnm : x.name = "<init>" → meth.name = "<init>" := fun h => absurd h (by decide +kernel)
  refine g_body g_mt_ok g_clsIn_ok l D b s.heap.size dA L xs n 60 q_law 0 [(0, .ref 0)] [] [] r hr g_law_ok p e room_1 s m _ below meth c s.heap [] 0 0 _ ls ⟨hx, hb, hml, hown, hts, hSt, hX, hbl, Nat.le_refl _, hnm, hStr⟩ hl ⟨fun k q h => by simp [g_ws] at h, by simp⟩ va_S.rf (by decide) (by decide) ?_ ?_ ?_
  · show 0 + (r.2.length - 0) ≤ 600000
    omega
  · show 0 + (g_sl r.2 - 0) ≤ 7302250
    omega
  · intro pc' en st1 lsB H1 locs1 hE hrt hH1 hS1
    have hE1 := hE.1
    have hl1 := hE.2.1 (g_rt_sw hrt)
    rw [h1] at hrt
    obtain ⟨⟨ins, len⟩, x', y', z'⟩ := en
    dsimp only at hE1 hl1 hrt
    have key : ins = .ireturn ∧ st1 = [.int 1] := by
      have hrt2 : g_rt ins (some .boolean) st1 = some (some (.int 1)) := hrt
      unfold g_rt at hrt2
      split at hrt2 <;> first | (cases hrt2; exact ⟨rfl, rfl⟩) | (split at hrt2 <;> first | (cases hrt2; exact ⟨rfl, rfl⟩) | (cases hrt2; done)) | (cases hrt2; done)
    obtain ⟨rfl, rfl⟩ := key
    have hl1 : len = 1 := hl1
    subst hl1
    refine va_forget (fun q hq => hS1.2.2 q hq) (W.widen (k := 600000) (n := 7302250) ?_ ?_ (lw_ret hx hb hret hlocks hE1))
    · show 0 + (r.2.length - 0) ≤ 600000
      omega
    · show 0 + (g_sl r.2 - 0) ≤ 7302250
      omega
