def g_len (ins : Instr) : Nat := match ins with
  | .bipush _ => 2
  | .sipush _ => 3
  | .ldc _ => 2
  | .ldc_w _ => 3
  | .ldc2_w _ => 3
  | .iload _ => 2
  | .aload _ => 2
  | .lload _ => 2
  | .istore _ => 2
  | .astore _ => 2
  | .iinc _ _ => 3
  | .getfield _ => 3
  | .putfield _ => 3
  | .new _ => 3
  | .newarray _ => 2
  | .anewarray _ => 3
  | .goto _ => 3
  | .ifCond _ _ => 3
  | .if_icmp _ _ => 3
  | .ifnull _ => 3
  | .ifnonnull _ => 3
  | .invokestatic _ => 3
  | .invokevirtual _ => 3
  | .invokespecial _ => 3
  | _ => 1
def g_off (ins : Instr) : Option Int := match ins with
  | .goto o => some o
  | .ifCond _ o => some o
  | .if_icmp _ o => some o
  | .ifnull o => some o
  | .ifnonnull o => some o
  | _ => none
def g_kst (own : String) (z : Int) (ins : Instr) : Prop := match ins with
  | .ldc i => Cond.constant own i (Int32.ofInt z) ∈ g_wk
  | .ldc_w i => Cond.constant own i (Int32.ofInt z) ∈ g_wk
  | .ldc2_w i => Cond.constantLong own i (Int64.ofInt z) ∈ g_wk
  | _ => True
def g_cl2 (b sz : Nat) (ls : g_Lc) : g_Lc := ls.map (fun q => (q.1, g_cv b sz q.2))
theorem g_get_at {b sz nL i : Nat} {ls : g_Lc} {lsA : Array Slot} {v : Value} (h : g_get ls i = some v) (hl : lv_has lsA nL (g_cl2 b sz ls)) : ∃ k : Nat, (g_cl2 b sz ls)[k]? = some (i, g_cv b sz v) := by
  unfold g_get at h
  obtain ⟨q, hq, rfl⟩ := Option.map_eq_some_iff.mp h
  have h1 : (q.1 == i) = true := List.find?_some (p := fun q : Nat × Value => q.1 == i) hq
  have h2 := List.mem_of_find?_eq_some hq
  have h3 : q.1 = i := by simpa using h1
  have h4 : (q.1, g_cv b sz q.2) ∈ g_cl2 b sz ls := List.mem_map.mpr ⟨q, h2, rfl⟩
  obtain ⟨k, hk⟩ := List.getElem?_of_mem h4
  exact ⟨k, by rw [hk, h3]⟩
theorem g_set_eq (b sz i : Nat) (ls : g_Lc) (v : Value) : (i, g_cv b sz v) :: (g_cl2 b sz ls).filter (fun q => !(q.1 == i) && !(q.1 + 1 == i && q.2.category == 2)) = g_cl2 b sz (g_set ls i v) := by
  simp only [g_cl2, g_set, List.map_cons, List.filter_map]
  congr 3
  funext q
  simp [Function.comp, g_cv_cat]
section GS
variable {p : Program} {l : Launch} {e : Env} {R : Room} {s : State} {m : MethodId} {args : Array Value} {below : List Frame} {meth : Method} {c : Code} {H : Heap} {locs : List Loc} {cells slots : Nat} {Q : State → Prop}
variable {code : ByteArray} {pc len : Nat} {lsA : Array Slot} {ls ls' : g_Lc} {ins : Instr} {z : Int} {st st' : List Value} {b sz nL : Nat} {own : String}
set_option maxHeartbeats 4000000 in
theorem g_stk_ok (hx : p.tables.exec = Jvm.exec) (hb : c.code = code) (hown : s.vm.findClass own = some m.cls) (hts : ∀ w ∈ g_wk, w.before args s = true) (hdg : decode code pc = .ok (ins, len)) (hlen : len = g_len ins) (hk : g_kst own z ins) (h : g_stk ins z st = some st')
    (kk : W p l e R s m args below meth c H locs cells slots Q (F0 m (pc + len) lsA (st'.map (g_cv b sz)))) : W p l e R s m args below meth c H locs cells slots Q (F0 m pc lsA (st.map (g_cv b sz))) := by
  subst hlen
  unfold g_stk at h
  split at h
  · cases h; exact lv_iconst hx hb hdg rfl kk
  · cases h; exact lv_bipush hx hb hdg rfl kk
  · cases h; exact lv_sipush hx hb hdg rfl kk
  · cases h; exact lv_lconst hx hb hdg rfl kk
  · cases h; exact lv_ldc hx hb hown (hts _ hk) hdg kk
  · cases h; exact lv_ldcw hx hb hown (hts _ hk) hdg kk
  · cases h; exact lv_ldc2 hx hb hown (hts _ hk) hdg kk
  · unfold g_i2 at h
    split at h
    · cases h; exact lv_iadd hx hb hdg kk
    · cases h
  · unfold g_i2 at h
    split at h
    · cases h; exact lv_isub hx hb hdg kk
    · cases h
  · unfold g_i2 at h
    split at h
    · cases h; exact lv_imul hx hb hdg kk
    · cases h
  · unfold g_i2 at h
    split at h
    · cases h; exact lv_iand hx hb hdg kk
    · cases h
  · unfold g_i2 at h
    split at h
    · cases h; exact lv_ior hx hb hdg kk
    · cases h
  · unfold g_i2 at h
    split at h
    · cases h; exact lv_ixor hx hb hdg kk
    · cases h
  · unfold g_i2 at h
    split at h
    · cases h; exact lv_ishl hx hb hdg kk
    · cases h
  · unfold g_i2 at h
    split at h
    · cases h; exact lv_ishr hx hb hdg kk
    · cases h
  · unfold g_i2 at h
    split at h
    · cases h; exact lv_iushr hx hb hdg rfl kk
    · cases h
  · unfold g_d2 at h
    split at h
    · split at h
      · cases h
      · rename_i hne
        cases h; exact lv_idiv hx hb hdg hne kk
    · cases h
  · unfold g_d2 at h
    split at h
    · split at h
      · cases h
      · rename_i hne
        cases h; exact lv_irem hx hb hdg hne kk
    · cases h
  · unfold g_i1 at h
    split at h
    · cases h; exact lv_ineg hx hb hdg kk
    · cases h
  · unfold g_i1 at h
    split at h
    · cases h; exact lv_i2l hx hb hdg rfl kk
    · cases h
  · unfold g_i1 at h
    split at h
    · cases h; exact lv_i2b hx hb hdg rfl kk
    · cases h
  · unfold g_i1 at h
    split at h
    · cases h; exact lv_i2c hx hb hdg rfl kk
    · cases h
  · unfold g_cm at h
    split at h
    · cases h; exact W.lcmp hx hb hdg kk
    · cases h
  · unfold g_dp at h
    split at h
    · split at h
      · rename_i hc
        cases h; exact lv_dup hx hb hdg (by rw [g_cv_cat]; exact hc) kk
      · cases h
    · cases h
  · unfold g_dd at h
    split at h
    · split at h
      · rename_i hc
        cases h; exact lv_dup2_11 hx hb hdg (by rw [g_cv_cat]; exact hc.1) (by rw [g_cv_cat]; exact hc.2) kk
      · cases h
    · cases h
  · unfold g_po at h
    split at h
    · split at h
      · rename_i hc
        cases h; exact lv_pop hx hb hdg (by rw [g_cv_cat]; exact hc) kk
      · cases h
    · cases h
  · cases h; exact lv_null hx hb hdg kk
  · cases h
set_option maxHeartbeats 4000000 in
theorem g_lcl_ok (hx : p.tables.exec = Jvm.exec) (hb : c.code = code) (hdg : decode code pc = .ok (ins, len)) (hlen : len = g_len ins) (hl : lv_has lsA nL (g_cl2 b sz ls)) (h : g_lcl nL ins ls st = some (ls', st'))
    (kk : ∀ lsB : Array Slot, lv_has lsB nL (g_cl2 b sz ls') → W p l e R s m args below meth c H locs cells slots Q (F0 m (pc + len) lsB (st'.map (g_cv b sz)))) : W p l e R s m args below meth c H locs cells slots Q (F0 m pc lsA (st.map (g_cv b sz))) := by
  subst hlen
  unfold g_lcl at h
  split at h
  · unfold g_ldi at h
    split at h
    · rename_i hg
      cases h
      obtain ⟨k, hk⟩ := g_get_at hg hl
      exact lv_iload hx hb hdg (lv_at hl k hk) (kk _ hl)
    · cases h
  · unfold g_ldi at h
    split at h
    · rename_i hg
      cases h
      obtain ⟨k, hk⟩ := g_get_at hg hl
      exact lv_iload_n hx hb hdg rfl (lv_at hl k hk) (kk _ hl)
    · cases h
  · unfold g_lda at h
    split at h
    · rename_i hg
      cases h
      obtain ⟨k, hk⟩ := g_get_at hg hl
      exact lv_aload hx hb hdg (lv_at hl k hk) (kk _ hl)
    · rename_i hg
      cases h
      obtain ⟨k, hk⟩ := g_get_at hg hl
      exact lv_aloadN hx hb hdg (lv_at hl k hk) (kk _ hl)
    · cases h
  · unfold g_lda at h
    split at h
    · rename_i hg
      cases h
      obtain ⟨k, hk⟩ := g_get_at hg hl
      exact lv_aload_n hx hb hdg rfl (lv_at hl k hk) (kk _ hl)
    · rename_i hg
      cases h
      obtain ⟨k, hk⟩ := g_get_at hg hl
      exact lv_aload_nN hx hb hdg rfl (lv_at hl k hk) (kk _ hl)
    · cases h
  · unfold g_ldl at h
    split at h
    · rename_i hg
      cases h
      obtain ⟨k, hk⟩ := g_get_at hg hl
      exact lv_lload hx hb hdg (lv_at hl k hk) (kk _ hl)
    · cases h
  · unfold g_ldl at h
    split at h
    · rename_i hg
      cases h
      obtain ⟨k, hk⟩ := g_get_at hg hl
      exact lv_lload_n hx hb hdg rfl (lv_at hl k hk) (kk _ hl)
    · cases h
  · unfold g_sti at h
    split at h
    · split at h
      · rename_i hn
        cases h
        exact lv_istore hx hb hdg hl hn (g_set_eq b sz _ _ (.int _)) (fun lsB hB => kk lsB hB)
      · cases h
    · cases h
  · unfold g_sti at h
    split at h
    · split at h
      · rename_i hn
        cases h
        exact lv_istore_n hx hb hdg rfl hl hn (g_set_eq b sz _ _ (.int _)) (fun lsB hB => kk lsB hB)
      · cases h
    · cases h
  · unfold g_sta at h
    split at h
    · split at h
      · rename_i hn
        cases h
        exact lv_astore hx hb hdg hl hn (g_set_eq b sz _ _ (.ref _)) (fun lsB hB => kk lsB hB)
      · cases h
    · split at h
      · rename_i hn
        cases h
        exact lv_astoreN hx hb hdg hl hn (g_set_eq b sz _ _ .null) (fun lsB hB => kk lsB hB)
      · cases h
    · cases h
  · unfold g_sta at h
    split at h
    · split at h
      · rename_i hn
        cases h
        exact lv_astore_n hx hb hdg rfl hl hn (g_set_eq b sz _ _ (.ref _)) (fun lsB hB => kk lsB hB)
      · cases h
    · split at h
      · rename_i hn
        cases h
        exact lv_astore_nN hx hb hdg rfl hl hn (g_set_eq b sz _ _ .null) (fun lsB hB => kk lsB hB)
      · cases h
    · cases h
  · unfold g_inc at h
    split at h
    · rename_i hg
      split at h
      · rename_i hn
        cases h
        obtain ⟨k, hk⟩ := g_get_at hg hl
        exact lv_iinc hx hb hdg hl hk rfl hn (g_set_eq b sz _ _ (.int _)) (fun lsB hB => kk lsB hB)
      · cases h
    · cases h
  · cases h
theorem g_tg_ok {o : Option Int} {r : List Value} {q : Nat × List Value} (h : g_tg pc o r = some q) : ∃ (off : Int), o = some off ∧ (pc : Int) + off = (q.1 : Int) ∧ q.2 = r := by
  unfold g_tg at h
  split at h
  · rename_i off
    split at h
    · rename_i t ht
      cases h
      exact ⟨off, rfl, ht, rfl⟩
    · cases h
  · cases h
set_option maxHeartbeats 4000000 in
theorem g_jmp_ok {x : Nat} {q : Nat × List Value} (hx : p.tables.exec = Jvm.exec) (hb : c.code = code) (hdg : decode code pc = .ok (ins, len)) (hlen : ∀ off, g_off ins = some off → len = 3) (hoff : ∀ off, g_off ins = some off → (pc : Int) + off = (x : Int)) (h : g_jmp ins pc x st = some q)
    (kk : W p l e R s m args below meth c H locs cells slots Q (F0 m q.1 lsA (q.2.map (g_cv b sz)))) : W p l e R s m args below meth c H locs cells slots Q (F0 m pc lsA (st.map (g_cv b sz))) := by
  unfold g_jmp at h
  split at h
  · cases hlen _ rfl; cases h; exact lv_goto hx hb hdg (hoff _ rfl) kk
  · cases hlen _ rfl
    unfold g_b1 at h
    split at h
    · cases h
      refine lv_if_eq hx hb hdg (hoff _ rfl) (fun hc => ?_) (fun hc => ?_)
      · simpa [hc] using kk
      · simpa [hc] using kk
    · cases h
  · cases hlen _ rfl
    unfold g_b1 at h
    split at h
    · cases h
      refine lv_if_ne hx hb hdg (hoff _ rfl) (fun hc => ?_) (fun hc => ?_)
      · simpa [hc] using kk
      · simpa [hc] using kk
    · cases h
  · cases hlen _ rfl
    unfold g_b1 at h
    split at h
    · cases h
      refine lv_if_lt hx hb hdg (hoff _ rfl) (fun hc => ?_) (fun hc => ?_)
      · simpa [hc] using kk
      · simpa [hc] using kk
    · cases h
  · cases hlen _ rfl
    unfold g_b1 at h
    split at h
    · cases h
      refine lv_if_ge hx hb hdg (hoff _ rfl) (fun hc => ?_) (fun hc => ?_)
      · simpa [hc] using kk
      · simpa [hc] using kk
    · cases h
  · cases hlen _ rfl
    unfold g_b1 at h
    split at h
    · cases h
      refine lv_if_gt hx hb hdg (hoff _ rfl) (fun hc => ?_) (fun hc => ?_)
      · simpa [hc] using kk
      · simpa [hc] using kk
    · cases h
  · cases hlen _ rfl
    unfold g_b1 at h
    split at h
    · cases h
      refine lv_if_le hx hb hdg (hoff _ rfl) (fun hc => ?_) (fun hc => ?_)
      · simpa [hc] using kk
      · simpa [hc] using kk
    · cases h
  · cases hlen _ rfl
    unfold g_b2 at h
    split at h
    · cases h
      refine lv_icmp_eq hx hb hdg (hoff _ rfl) (fun hc => ?_) (fun hc => ?_)
      · simpa [hc] using kk
      · simpa [hc] using kk
    · cases h
  · cases hlen _ rfl
    unfold g_b2 at h
    split at h
    · cases h
      refine lv_icmp_ne hx hb hdg (hoff _ rfl) (fun hc => ?_) (fun hc => ?_)
      · simpa [hc] using kk
      · simpa [hc] using kk
    · cases h
  · cases hlen _ rfl
    unfold g_b2 at h
    split at h
    · cases h
      refine lv_icmp_lt hx hb hdg (hoff _ rfl) (fun hc => ?_) (fun hc => ?_)
      · simpa [hc] using kk
      · simpa [hc] using kk
    · cases h
  · cases hlen _ rfl
    unfold g_b2 at h
    split at h
    · cases h
      refine lv_icmp_ge hx hb hdg (hoff _ rfl) (fun hc => ?_) (fun hc => ?_)
      · simpa [hc] using kk
      · simpa [hc] using kk
    · cases h
  · cases hlen _ rfl
    unfold g_b2 at h
    split at h
    · cases h
      refine lv_icmp_gt hx hb hdg (hoff _ rfl) (fun hc => ?_) (fun hc => ?_)
      · simpa [hc] using kk
      · simpa [hc] using kk
    · cases h
  · cases hlen _ rfl
    unfold g_b2 at h
    split at h
    · cases h
      refine lv_icmp_le hx hb hdg (hoff _ rfl) (fun hc => ?_) (fun hc => ?_)
      · simpa [hc] using kk
      · simpa [hc] using kk
    · cases h
  · cases hlen _ rfl
    unfold g_bn at h
    split at h
    · cases h; exact lv_ifnullN hx hb hdg (hoff _ rfl) kk
    · cases h; exact lv_ifnull hx hb hdg kk
    · cases h
  · cases hlen _ rfl
    unfold g_bn at h
    split at h
    · cases h; exact lv_ifnonnullN hx hb hdg kk
    · cases h; exact lv_ifnonnull hx hb hdg (hoff _ rfl) kk
    · cases h
  · split at h
    · obtain ⟨off, ho, ht, hr⟩ := g_tg_ok h
      rw [hr] at kk
      split at ho
      · rename_i hc
        cases ho
        exact lv_tableOut hx hb hdg hc ht kk
      · rename_i hc
        exact lv_tableIn hx hb hdg (fun z => hc (Or.inl z)) (fun z => hc (Or.inr z)) ho ht kk
    · cases h
  · split at h
    · split at h
      · rename_i hs
        obtain ⟨off, ho, ht, hr⟩ := g_tg_ok h
        rw [hr] at kk
        cases ho
        exact lv_lookup hx hb hdg hs rfl ht kk
      · cases h
    · cases h
  · cases h
end GS
