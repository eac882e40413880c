def g_Tok (mt : Nat → Option g_M) (M : g_M) : Prop := ∀ pc en, M.2.2.2.2.2 pc = some en → g_eOk mt M pc en
/-- a run of the pure machine is a run of the machine: a frame's body -/
def g_Body (mt : Nat → Option g_M) (l : Launch) (D : va_G) (b sz : Nat) (dA : Nat → ClassId) (L : Nat) (xs : Nat → Int32) (n : Nat) : Prop :=
  ∀ (d : Nat) (M : g_M) (pc : Nat) (ls : g_Lc) (st : List Value) (σ : List g_Ce) (r : Option Value × List g_Ce), g_run mt L xs n d M pc ls st σ = some r → g_Tok mt M →
    ∀ (p : Program) (e : Env) (R : Room) (s : State) (m : MethodId) (args : Array Value) (below : List Frame) (meth : Method) (c : Code) (H : Heap) (locs : List Loc) (cells slots : Nat) (Q : State → Prop) (lsA : Array Slot),
      g_Fx M D b sz dA L xs p s m args meth c → lv_has lsA M.2.2.2.1 (g_cl2 b sz ls) → g_Hp D b sz dA σ H → va_S (g_A sz) s.heap H locs → d ≤ R.frames → d * 64 ≤ R.locals → cells + (r.2.length - σ.length) ≤ R.cells → slots + (g_sl r.2 - g_sl σ) ≤ R.slots →
      (∀ (pc' : Nat) (en : g_En) (st1 : List Value) (lsB : Array Slot) (H1 : Heap) (locs1 : List Loc), g_eOk mt M pc' en → g_rt en.1.1 M.2.2.2.2.1 st1 = some r.1 → g_Hp D b sz dA r.2 H1 → va_S (g_A sz) s.heap H1 locs1 → W p l e R s m args below meth c H1 locs1 (cells + (r.2.length - σ.length)) (slots + (g_sl r.2 - g_sl σ)) Q (F0 m pc' lsB (st1.map (g_cv b sz)))) →
      W p l e R s m args below meth c H locs cells slots Q (F0 m pc lsA (st.map (g_cv b sz)))
theorem g_rt_sw {ins : Instr} {ret : Option FieldType} {st : List Value} {r : Option Value} (h : g_rt ins ret st = some r) : g_sw ins = false := by
  unfold g_rt at h
  split at h <;> first | rfl | cases h
section GR
variable {p : Program} {l : Launch} {e : Env} {R : Room} {s : State} {m : MethodId} {args : Array Value} {below : List Frame} {meth : Method} {c : Code} {H : Heap} {locs : List Loc} {cells slots : Nat} {Q : State → Prop}
variable {pc : Nat} {lsA : Array Slot} {b sz : Nat} {D : va_G} {dA : Nat → ClassId} {σ : List g_Ce} {code : ByteArray} {ins : Instr} {len : Nat} {ret : Option FieldType} {st : List Value} {r : Option Value}
set_option maxHeartbeats 1000000 in
theorem g_ret_ok (hx : p.tables.exec = Jvm.exec) (hb : c.code = code) (hr : meth.sig.returnType = ret) (hlocks : meth.locks = false) (hdg : decode code pc = .ok (ins, len)) (hlen : len = g_len ins) (h : g_rt ins ret st = some r) (hH : g_Hp D b sz dA σ H) (hS : va_S (g_A sz) s.heap H locs) :
    W p l e R s m args below meth c H locs cells slots (MQ below (g_Qc D b sz dA r σ) args s cells slots (g_A sz)) (F0 m pc lsA (st.map (g_cv b sz))) := by
  subst hlen
  unfold g_rt at h
  split at h
  · cases h
    exact W.iret hx hb hr (fun t ht hW => ⟨rfl, by rw [ht]; exact hH, hS.F ht⟩) hS.2.2 hdg hlocks
  · split at h
    · rename_i hn
      cases h
      exact W.zret hx hb hr hn (fun t ht hW => ⟨rfl, by rw [ht]; exact hH, hS.F ht⟩) hS.2.2 hdg hlocks
    · cases h
  · split at h
    · rename_i hn
      cases h
      exact W.zret hx hb hr hn (fun t ht hW => ⟨rfl, by rw [ht]; exact hH, hS.F ht⟩) hS.2.2 hdg hlocks
    · cases h
  · split at h
    · rename_i hn
      cases h
      exact W.zret hx hb hr hn (fun t ht hW => ⟨rfl, by rw [ht]; exact hH, hS.F ht⟩) hS.2.2 hdg hlocks
    · cases h
  · cases h
    exact W.aret hx hb hr (Or.inl ⟨_, rfl⟩) (Or.inr ⟨_, rfl⟩) (fun t ht hW => ⟨rfl, by rw [ht]; exact hH, hS.F ht⟩) hS.2.2 hdg hlocks
  · cases h
    exact W.aret hx hb hr (Or.inl ⟨_, rfl⟩) (Or.inl rfl) (fun t ht hW => ⟨rfl, by rw [ht]; exact hH, hS.F ht⟩) hS.2.2 hdg hlocks
  · cases h
    exact W.vret hx hb hr (fun t ht hW => ⟨rfl, by rw [ht]; exact hH, hS.F ht⟩) hS.2.2 hdg hlocks
  · cases h
end GR
set_option maxHeartbeats 1000000 in
theorem g_met {mt : Nat → Option g_M} {l : Launch} {D : va_G} {b sz : Nat} {dA : Nat → ClassId} {L : Nat} {xs : Nat → Int32} {n : Nat} (hB : g_Body mt l D b sz dA L xs n) {d : Nat} {M : g_M} (hM : g_Mok mt M) {as : List Value} (hlen : (lg_sl as).length ≤ M.2.2.2.1) {σ : List g_Ce} {r : Option Value × List g_Ce} (h : g_run mt L xs n d M 0 (lv_args 0 as) [] σ = some r) (hbs : b < sz) :
    Met l M.2.1 (g_wsM M) (g_rmd d (r.2.length - σ.length) (g_sl r.2 - g_sl σ)) (g_Pc D b sz dA L xs as σ) (g_Qc D b sz dA r.1 r.2) (r.2.length - σ.length) (g_sl r.2 - g_sl σ) (g_A sz) := by
  refine Met.ofW (cc := M.2.2.1) (maxL := M.2.2.2.1) (ret := M.2.2.2.2.1) hM.1 rfl ?_
  intro p e s m args below meth c s₁ B hml hv
  obtain ⟨rfl, hH, hSt, hX, hStr⟩ := hv
  have hts := atoms_spec (ws := g_wsM M) B.pre
  have hown : s.vm.findClass M.1 = some m.cls := by rw [← hM.2.2.2.1]; exact findClass_of_methodNamed B.named
  have hnm := (name_of_methodNamed B.named B.method).1
  have hl := lv_entry (as.map (g_cv b sz)) (n := M.2.2.2.1) (by rw [g_lgsl]; exact hlen)
  rw [lg_entry_eq]
  generalize (lg_sl (as.map (g_cv b sz)) ++ List.replicate (M.2.2.2.1 - (lg_sl (as.map (g_cv b sz))).length) Slot.unset).toArray = ls at hl ⊢
  rw [g_lvargs] at hl
  refine hB d M 0 (lv_args 0 as) [] σ r h hM.2.2.2.2 p e _ s m _ below meth c s.heap [] 0 0 _ ls ⟨B.exec, B.bytes, hml, hown, fun w hw => hts w (List.mem_cons_of_mem _ hw), hSt, hX, hbs, by rw [hH.2]; exact Nat.le_add_right _ _, ⟨fun h => by rw [hnm]; exact h, hStr⟩⟩ hl hH va_S.rf (Nat.le_refl _) (Nat.le_refl _) (by rw [Nat.zero_add]; exact Nat.le_refl _) (by rw [Nat.zero_add]; exact Nat.le_refl _) ?_
  intro pc' en st1 lsB H1 locs1 hE hrt hH1 hS1
  rw [Nat.zero_add, Nat.zero_add]
  exact g_ret_ok B.exec B.bytes B.returns B.notSynchronized hE.1 (hE.2.1 (g_rt_sw hrt)) hrt hH1 hS1
theorem g_oi_ok {k : Nat} {st rest : List Value} (h : g_oi k st = some rest) : k = 2 ∧ g_cat rest ≤ 8 ∧ ∃ a, st = .ref a :: rest := by
  unfold g_oi at h
  split at h
  · simp only [cond_eq_ite] at h
    split at h
    · rename_i hc
      cases h
      exact ⟨rfl, by simpa using hc, _, rfl⟩
    · cases h
  · cases h
theorem g_ki_ok {ins : Instr} {k : Nat} (h : g_ki ins = some k) : g_sw ins = false ∧ g_len ins = 3 := by
  unfold g_ki at h
  split at h <;> first | exact ⟨rfl, rfl⟩ | cases h
theorem g_ki_2 {ins : Instr} (h : g_ki ins = some 2) : ∃ i, ins = .invokespecial i := by
  unfold g_ki at h
  split at h <;> first | (cases h; done) | exact ⟨_, rfl⟩
theorem g_stkeq (b sz y : Nat) (st : List Value) : st.map (g_cv b sz) = (((st.take y).reverse).map (g_cv b sz)).reverse ++ (st.drop y).map (g_cv b sz) := by
  rw [← List.map_reverse, List.reverse_reverse, ← List.map_append, List.take_append_drop]
theorem g_asl (b sz y : Nat) (st : List Value) (h : y ≤ st.length) : (((st.take y).reverse).map (g_cv b sz)).length = y := by
  rw [List.length_map, List.length_reverse, List.length_take]
  omega
section GV
variable {p : Program} {l : Launch} {e : Env} {R : Room} {s : State} {m : MethodId} {args : Array Value} {below : List Frame} {meth : Method} {c : Code} {H : Heap} {locs : List Loc} {cells slots : Nat} {Q : State → Prop}
variable {mt : Nat → Option g_M} {M M' : g_M} {pc L x y k mc ms : Nat} {xs : Nat → Int32} {lsA : Array Slot} {b sz : Nat} {D : va_G} {dA : Nat → ClassId} {σ : List g_Ce} {ins : Instr} {st : List Value} {q : List Value × List Value} {rm : Room} {Qc : Array Value → State → Outcome → State → Prop}
set_option maxHeartbeats 1000000 in
theorem g_calls (hF : g_Fx M D b sz dA L xs p s m args meth c) (hMk : g_Mok mt M') (hM' : mt x = some M') (hl : lsA.size = M.2.2.2.1) (e1 : decode M.2.2.1 pc = .ok (ins, 3)) (e6 : g_lkc mt M.1 x y ins) (hk : g_ki ins = some k) (hq : g_cl k y M'.1 st σ = some q) (hcat : g_cat q.2 ≤ 8)
    (hH : g_Hp D b sz dA σ H) (hpre : PreS s H (g_Pc D b sz dA L xs q.1 σ) (q.1.map (g_cv b sz))) (hmet : Met l M'.2.1 (g_wsM M') rm (g_Pc D b sz dA L xs q.1 σ) Qc mc ms (g_A sz)) (hrc : rm.cells = mc) (hrs : rm.slots = ms) (hRR : rm.frames + 1 ≤ R.frames ∧ 8 + (M'.2.2.2.1 + 11) + rm.locals ≤ R.locals) (hfit : cells + mc ≤ R.cells ∧ slots + ms ≤ R.slots) :
    va_Run p l e R s m args below meth c H locs cells slots mc ms (F0 m pc lsA (st.map (g_cv b sz))) (q.2.map (g_cv b sz)) (Qc (q.1.map (g_cv b sz)).toArray) (g_A sz) := by
  obtain ⟨hx, hb, hml, hown, hts, hSt, -, -, -, -⟩ := hF
  have hCF : CallFix p m c M.2.2.1 M.2.2.2.1 s args g_wk M.1 := ⟨hx, hb, hml, hown, hts⟩
  have hroomW : 2 * (F0 m pc lsA (st.map (g_cv b sz))).monitorRoom + ((q.2.map (g_cv b sz)).map fun v => v.category).sum ≤ 8 := lv_room (by rw [g_catcv]; exact hcat)
  have hgw := g_good M' hMk.2.2.1
  unfold g_ki at hk
  split at hk
  · cases hk
    obtain ⟨⟨lk, hini, hd⟩, hst⟩ := e6 M' hM'
    simp only [g_cl] at hq
    simp only [cond_eq_ite] at hq
    split at hq
    · rename_i hyl
      have hyl : y ≤ st.length := by simpa using hyl
      cases hq
      rcases lk with lk | ⟨host, lk⟩
      · exact va_runS hCF hmet ⟨callB_of y hts hgw rfl hrc hrs (hts _ hini) (hts _ lk) hd hRR, hts _ hst⟩ hpre rfl (g_asl b sz y st hyl) hl (g_stkeq b sz y st) hroomW e1 hfit
      · exact va_runSN hCF hmet ⟨va_cnB y hts hgw rfl hrc hrs (hSt.2.1 _ lk) (hts _ hini) hd hRR, hts _ hst, trivial⟩ hpre rfl (g_asl b sz y st hyl) hl (g_stkeq b sz y st) hroomW e1 hfit
    · cases hq
  · cases hk
    obtain ⟨⟨lk, hini, hd⟩, hin, hsel⟩ := e6 M' hM'
    simp only [g_cl] at hq
    split at hq
    · rename_i a rest hdr
      split at hq
      · rename_i ci fs hσ
        split at hq
        · rename_i qc hqc
          split at hq
          · rename_i hcc
            obtain ⟨hco, hyl⟩ := hcc
            cases hq
            have hstk : st.map (g_cv b sz) = (((st.take y).reverse).map (g_cv b sz)).reverse ++ (.ref (sz + a) :: rest.map (g_cv b sz)) := by
              have e7 : (st.drop y).map (g_cv b sz) = .ref (sz + a) :: rest.map (g_cv b sz) := by rw [hdr]; rfl
              rw [← e7]
              exact g_stkeq b sz y st
            have hrecv : ∃ cellB : Cell, H[sz + a]? = some cellB ∧ cellB.vm.isStatics = false ∧ s.vm.findClass M'.2.1.cls = some cellB.cls := by
              obtain ⟨r', hr', cellV, k1, k2, k3, -⟩ := hH.1 a _ (g_ws_at hσ)
              have hcls := (hSt.1.1 ci qc hqc).2
              refine ⟨cellV, k1, by rw [k3]; rfl, ?_⟩
              rw [hMk.2.2.2.1, ← hco, k2]
              exact hcls.1
            have hpreV : PreV s H M'.2.1.cls (sz + a) (g_Pc D b sz dA L xs (.ref (a + 1) :: (st.take y).reverse) σ) (((st.take y).reverse).map (g_cv b sz)) := ⟨hpre.1, hrecv, hpre.2⟩
            rcases lk with lk | ⟨host, lk⟩
            · exact va_runV (C := M'.2.1.cls) (b := sz + a) hCF hmet ⟨callB_of y hts hgw rfl hrc hrs (hts _ hini) (hts _ lk) hd hRR, hts _ hin, hts _ hsel⟩ hpreV rfl (g_asl b sz y st hyl) hl hstk hroomW e1 hfit
            · exact va_runVN (C := M'.2.1.cls) (b := sz + a) hCF hmet ⟨va_cnB y hts hgw rfl hrc hrs (hSt.2.1 _ lk) (hts _ hini) hd hRR, hts _ hin, hts _ hsel⟩ hpreV rfl (g_asl b sz y st hyl) hl hstk hroomW e1 hfit
          · cases hq
        · cases hq
      · cases hq
    · cases hq
  · cases hk
    obtain ⟨⟨lk, hini, hd⟩, hin1, hin, hrn⟩ := e6.2 M' hM'
    simp only [g_cl] at hq
    split at hq
    · rename_i a rest hdr
      simp only [cond_eq_ite] at hq
      split at hq
      · rename_i hyl
        have hyl : y ≤ st.length := by simpa using hyl
        cases hq
        have hstk : st.map (g_cv b sz) = (((st.take y).reverse).map (g_cv b sz)).reverse ++ (.ref (g_ad b sz a) :: rest.map (g_cv b sz)) := by
          have e7 : (st.drop y).map (g_cv b sz) = .ref (g_ad b sz a) :: rest.map (g_cv b sz) := by rw [hdr]; rfl
          rw [← e7]
          exact g_stkeq b sz y st
        have hwE : g_wsM M' = Cond.code M'.2.1 M'.2.2.1 M'.2.2.2.1 none :: g_wk := by rw [g_wsM, hrn]
        rcases lk with lk | ⟨host, lk⟩
        · exact va_runI (b := g_ad b sz a) hCF hmet ⟨callB_of y hts hgw hwE hrc hrs (hts _ hini) (hts _ lk) hd hRR, hin1, hts _ hin⟩ hpre rfl (g_asl b sz y st hyl) hl hstk hroomW e1 hfit
        · exact va_runIN (b := g_ad b sz a) hCF hmet ⟨va_cnB y hts hgw hwE hrc hrs (hSt.2.1 _ lk) (hts _ hini) hd hRR, hin1, hts _ hin⟩ hpre rfl (g_asl b sz y st hyl) hl hstk hroomW e1 hfit
      · cases hq
    · cases hq
  · cases hk
end GV
set_option maxHeartbeats 1000000 in
theorem g_mac_ok {M : g_M} {D : va_G} {b sz : Nat} {dA : Nat → ClassId} {L : Nat} {xs : Nat → Int32} {p : Program} {l : Launch} {e : Env} {R : Room} {s : State} {m : MethodId} {args : Array Value} {below : List Frame} {meth : Method} {c : Code} {H : Heap} {locs : List Loc} {cells slots : Nat} {Q : State → Prop} {d pc : Nat} {ls : g_Lc} {st st' : List Value} {lsA : Array Slot} (hF : g_Fx M D b sz dA L xs p s m args meth c) (hm : g_mac d M pc ls st = some st') (hl : lv_has lsA M.2.2.2.1 (g_cl2 b sz ls)) (hS : va_S (g_A sz) s.heap H locs) (hd1 : d ≤ R.frames) (hd2 : d * 64 ≤ R.locals) (hc1 : cells ≤ R.cells) (hc2 : slots ≤ R.slots) (k : ∀ locs1 : List Loc, va_S (g_A sz) s.heap H locs1 → W p l e R s m args below meth c H locs1 cells slots Q (F0 m 20 lsA (st'.map (g_cv b sz)))) : W p l e R s m args below meth c H locs cells slots Q (F0 m pc lsA (st.map (g_cv b sz))) := by
  unfold g_mac at hm
  split at hm
  · rename_i hc9
    obtain ⟨m1, m2, m3, rfl, m5, m6⟩ := hc9
    split at hm
    · rename_i v hv
      cases hm
      have hst : st = [] := List.isEmpty_iff.mp m5
      subst hst
      obtain ⟨hx, hb, hml, hown, hts, hSt, hX, hbs, hsz, hnm, kA, vA, hJ, hR⟩ := hF
      rw [m3] at hb
      rw [m1] at hown
      have hCF : CallFix p m c cX5_readFactor M.2.2.2.1 s args g_wk RX5 := ⟨hx, hb, hml, hown, hts⟩
      obtain ⟨k9, hk9⟩ := g_get_at hv hl
      have hat : lsA[2]? = some (.val (.int v)) := lv_at hl k9 hk9
      refine va_ldcS hx hb hown hR (show decode cX5_readFactor 13 = .ok (.ldc 120, 2) by decide +kernel) ?_
      refine lv_iload_n hx hb (show decode cX5_readFactor 15 = .ok (.iload_n 2, 1) by decide +kernel) rfl hat ?_
      refine lv_i2c hx hb (show decode cX5_readFactor 16 = .ok (.i2c, 1) by decide +kernel) rfl ?_
      refine j_callW (va_runV (C := "java/lang/String") (b := kA) (As := [.int ((v.toUInt32 % 65536).toInt32)]) (rest := []) hCF (j_indexOf1 (l := l) (sz := sz) (kA := kA) (vA := vA) ((v.toUInt32 % 65536).toInt32)) ⟨callB_of 1 hts (j_good (j_in3 (j := 124) rfl rfl)) rfl rfl rfl (hts _ (j_in1 (j := 15) rfl rfl)) (hts _ (j_in3 (j := 121) rfl rfl)) (by decide) ⟨by show 3 + 1 ≤ R.frames; omega, by show 8 + (2 + 11) + 3 * 64 ≤ R.locals; omega⟩, hts _ (j_in3 (j := 122) rfl rfl), hts _ (j_in3 (j := 123) rfl rfl)⟩ (j_preV hJ hS) rfl rfl hl.1 rfl (lv_room (Nat.le_of_ble_eq_true rfl)) (show decode cX5_readFactor 17 = .ok (.invokevirtual 122, 3) by decide +kernel) ⟨hc1, hc2⟩) hS (fun locs1 hS1 => ?_)
      rw [j_lx_eq]
      exact k locs1 hS1
    · cases hm
  · cases hm
set_option maxHeartbeats 4000000 in
theorem g_body {mt : Nat → Option g_M} (hmt : ∀ μ M, mt μ = some M → g_Mok mt M) (hcl : g_clsIn) (l : Launch) (D : va_G) (b sz : Nat) (dA : Nat → ClassId) (L : Nat) (xs : Nat → Int32) : ∀ n, g_Body mt l D b sz dA L xs n := by
  intro n
  induction n with
  | zero =>
    intro d M pc ls st σ r h
    simp [g_run] at h
  | succ n ih =>
    intro d M pc ls st σ r h hM p e R s m args below meth c H locs cells slots Q lsA hF hl hH hS hd1 hd2 hr1 hr2 hret
    unfold g_run at h
    split at h
    · split at h
      · rename_i st' hmac
        exact g_mac_ok hF hmac hl hS hd1 hd2 (by omega) (by omega) (fun locs1 hS1 => ih _ _ _ _ _ _ _ h hM p e R s m args below meth c H locs1 cells slots Q lsA hF hl hH hS1 hd1 hd2 hr1 hr2 hret)
      · cases h
    · rename_i en hen
      have hE := hM pc en hen
      split at h
      · rename_i q hs
        obtain ⟨g11, g12⟩ := g_step_grow hs
        obtain ⟨g21, g22⟩ := g_run_grow _ _ _ _ _ _ _ _ _ _ _ h
        have ec : cells + (q.2.2.2.length - σ.length) + (r.2.length - q.2.2.2.length) = cells + (r.2.length - σ.length) := by omega
        have es : slots + (g_sl q.2.2.2 - g_sl σ) + (g_sl r.2 - g_sl q.2.2.2) = slots + (g_sl r.2 - g_sl σ) := by omega
        refine g_step_ok hcl hF hE hl hH hS hd1 hd2 hs (by omega) (by omega) (fun lsB H1 locs1 hlB hH1 hS1 => ?_)
        refine ih _ _ _ _ _ _ _ h hM p e R s m args below meth c H1 locs1 _ _ Q lsB hF hlB hH1 hS1 hd1 hd2 (by omega) (by omega) ?_
        rw [ec, es]
        exact hret
      · split at h
        · rename_i r0 hrt
          cases h
          have h9 := hret pc en st lsA H locs hE hrt hH hS
          rw [Nat.sub_self, Nat.sub_self] at h9
          exact h9
        · split at h
          · cases h
          · rename_i k hk
            obtain _ | d' := d
            · cases h
            · dsimp only at h
              have hki := g_ki_ok hk
              obtain ⟨⟨ins, len⟩, x, y, z⟩ := en
              have hl3 : len = 3 := (hE.2.1 hki.1).trans hki.2
              subst hl3
              dsimp only at h hk
              cases hxe : (x == 99999) with
              | true =>
                rw [hxe] at h
                dsimp only [cond_true] at h
                split at h
                · rename_i rest hoi
                  obtain ⟨rfl, hcat, a, rfl⟩ := g_oi_ok hoi
                  obtain ⟨i, rfl⟩ := g_ki_2 hk
                  obtain ⟨w1, w2, w3⟩ := hE.2.2.2.2.2.1 (by simpa using hxe)
                  have hF2 := hF
                  obtain ⟨hx, hb, hml, hown, hts, -⟩ := hF2
                  refine W.objInit hx hb hown (hts _ w1) (hts _ w2) (hts _ w3) rfl (by rw [hml]; exact hl.1) rfl hE.1 (by omega) (by
                    show 2 * 0 + ((rest.map (g_cv b sz)).map fun v => v.category).sum + 12 ≤ _
                    rw [g_catcv]
                    omega) ?_
                  exact ih _ _ _ _ _ _ _ h hM p e R s m args below meth c H locs cells slots Q lsA hF hl hH hS hd1 hd2 hr1 hr2 hret
                · cases h
              | false =>
                rw [hxe] at h
                dsimp only [cond_false] at h
                split at h
                · cases h
                · rename_i M' hM'
                  have hMk := hmt _ _ hM'
                  split at h
                  · cases h
                  · rename_i q hq
                    cases hcond : (decide (g_cat q.2 ≤ 8) && decide ((lg_sl q.1).length ≤ M'.2.2.2.1)) with
                    | false => rw [hcond] at h; cases h
                    | true =>
                      rw [hcond] at h
                      dsimp only [cond_true] at h
                      rw [Bool.and_eq_true, decide_eq_true_eq, decide_eq_true_eq] at hcond
                      obtain ⟨hcat, hlgs⟩ := hcond
                      split at h
                      · cases h
                      · rename_i w hw
                        obtain ⟨g11, g12⟩ := g_run_grow _ _ _ _ _ _ _ _ _ _ _ hw
                        obtain ⟨g21, g22⟩ := g_run_grow _ _ _ _ _ _ _ _ _ _ _ h
                        have ec : cells + (w.2.length - σ.length) + (r.2.length - w.2.length) = cells + (r.2.length - σ.length) := by omega
                        have es : slots + (g_sl w.2 - g_sl σ) + (g_sl r.2 - g_sl w.2) = slots + (g_sl r.2 - g_sl σ) := by omega
                        have hF2 := hF
                        obtain ⟨hx, hb, hml, hown, hts, hSt, hX, hbs, hsz, hnm, hStr⟩ := hF2
                        have hmet := g_met (l := l) ih hMk hlgs hw hbs
                        have hz45 := hMk.2.1
                        refine g_callW (g_calls hF hMk hM' hl.1 hE.1 hE.2.2.2.2.2 hk hq hcat hH (g_preS hSt hX hbs hsz hStr hH hS) hmet rfl rfl ⟨hd1, ?_⟩ ⟨by omega, by omega⟩) hS (fun H1 locs1 hH1 hS1 => ?_)
                        · show 8 + (M'.2.2.2.1 + 11) + d' * 64 ≤ R.locals
                          omega
                        · have e9 : (Option.map (g_cv b sz) w.1).toList ++ q.2.map (g_cv b sz) = (w.1.toList ++ q.2).map (g_cv b sz) := by
                            rw [List.map_append]
                            cases w.1 <;> rfl
                          rw [e9]
                          refine ih _ _ _ _ _ _ _ h hM p e R s m args below meth c H1 locs1 _ _ Q lsA hF hl hH1 hS1 hd1 hd2 (by omega) (by omega) ?_
                          rw [ec, es]
                          exact hret
