def g_sz (c : g_Ce) : Nat := match c with
  | .inl (_, n, _) => n
  | .inr (ci, _) => g_nf ci
def g_sl (σ : List g_Ce) : Nat := (σ.map g_sz).sum
theorem g_sl_app (σ : List g_Ce) (c : g_Ce) : g_sl (σ ++ [c]) = g_sl σ + g_sz c := by simp [g_sl]
theorem g_sl_set : ∀ (σ : List g_Ce) (k : Nat) (c0 c : g_Ce), σ[k]? = some c0 → g_sz c0 = g_sz c → g_sl (σ.set k c) = g_sl σ
  | [], k, c0, c, h, _ => by simp at h
  | a :: r, 0, c0, c, h, hz => by
    simp at h
    subst h
    simp [g_sl, hz]
  | a :: r, k + 1, c0, c, h, hz => by
    have h1 := g_sl_set r k c0 c (by simpa using h) hz
    simp only [g_sl, List.set_cons_succ, List.map_cons, List.sum_cons] at h1 ⊢
    omega
def g_lkf (own : String) (i x y : Nat) : Prop := ∃ (C : String) (T : u_T) (N : Nat), vwCl[x]? = some (C, T, N) ∧ y < N ∧ (T y).1 = C ∧ (Cond.fieldLink own i C (T y).2.1 (T y).2.2.1 ∈ g_wk ∨ ∃ h, Cond.fieldLinkNest own i C (T y).2.1 (T y).2.2.1 h ∈ g_wn)
def g_lkp (own mn : String) (i x y : Nat) : Prop := ∃ (C : String) (T : u_T) (N : Nat), vwCl[x]? = some (C, T, N) ∧ y < N ∧ (T y).1 = C ∧ (((T y).2.2.2 = false ∧ (Cond.fieldLink own i C (T y).2.1 (T y).2.2.1 ∈ g_wk ∨ ∃ h, Cond.fieldLinkNest own i C (T y).2.1 (T y).2.2.1 h ∈ g_wn)) ∨ ((T y).2.2.2 = true ∧ mn = "<init>" ∧ (T y).1 = own ∧ Cond.fieldLink own i C (T y).2.1 (T y).2.2.1 ∈ g_wk))
def g_lkn (own : String) (i x : Nat) : Prop := ∃ (C : String) (T : u_T) (N : Nat), vwCl[x]? = some (C, T, N) ∧ Cond.classLink own i C ∈ g_wk ∧ Cond.instantiable C N ∈ g_wk ∧ Cond.initialized C ∈ g_wk
def g_lkh (own mn : String) (x y : Nat) (ins : Instr) : Prop := match ins with
  | .getfield i => g_lkf own i x y
  | .putfield i => g_lkp own mn i x y
  | .new i => g_lkn own i x
  | .newarray t => Cond.arrayClass (newarray.typeOf t) ∈ g_wk
  | .anewarray i => Cond.classLink own i "GustHome$Ward" ∈ g_wk
  | .invokestatic i => (x = 99998 → Cond.methodLink own i arraycopyName ∈ g_wk ∧ Cond.native arraycopyName ∈ g_wk ∧ Cond.static arraycopyName ∈ g_wk ∧ Cond.initialized "java/lang/System" ∈ g_wk) ∧ ((x = 99997 ∨ x = 99996 ∨ x = 99995) → Cond.initialized "java/lang/Math" ∈ g_wk ∧ (x = 99997 → Cond.methodLink own i Lib.Math.max.name ∈ g_wk ∧ Cond.static Lib.Math.max.name ∈ g_wk ∧ Cond.code Lib.Math.max.name Lib.Math.max.code 2 (some .int) ∈ g_wk) ∧ (x = 99996 → Cond.methodLink own i Lib.Math.min.name ∈ g_wk ∧ Cond.static Lib.Math.min.name ∈ g_wk ∧ Cond.code Lib.Math.min.name Lib.Math.min.code 2 (some .int) ∈ g_wk) ∧ (x = 99995 → Cond.methodLink own i Lib.Math.abs.name ∈ g_wk ∧ Cond.static Lib.Math.abs.name ∈ g_wk ∧ Cond.code Lib.Math.abs.name Lib.Math.abs.code 1 (some .int) ∈ g_wk))
  | _ => True
def g_clsIn : Prop := ∀ (ci : Nat) (C : String) (T : u_T) (N : Nat), vwCl[ci]? = some (C, T, N) → ∀ w ∈ u_ws C T N, w ∈ g_wk
theorem g_fit (b sz : Nat) (ty : FieldType) (v : Value) (h : fits ty v = true) : fits ty (g_cv b sz v) = true := by
  cases v <;> cases ty <;> first | exact h | rfl
theorem g_nar (b sz : Nat) (ty : FieldType) (v : Value) (h : narrow ty v = v) : narrow ty (g_cv b sz v) = g_cv b sz v := by
  cases v <;> cases ty <;> first | exact h | rfl
theorem g_tys_at {D : va_G} {dA : Nat → ClassId} {s : State} (h : g_St D dA s) {t : Nat} (ht : t < 4) : (g_tys dA)[t]? = some (dA t, g_tt t) := by
  match t, ht with
  | 0, _ => rfl
  | 1, _ => rfl
  | 2, _ => rfl
  | 3, _ => rfl
section GH
variable {p : Program} {l : Launch} {e : Env} {R : Room} {s : State} {m : MethodId} {args : Array Value} {below : List Frame} {meth : Method} {c : Code} {H : Heap} {locs : List Loc} {cells slots : Nat} {Q : State → Prop}
variable {code : ByteArray} {pc : Nat} {lsA : Array Slot} {b sz : Nat} {own : String} {D : va_G} {dA : Nat → ClassId} {σ : List g_Ce} {rest : List Value}
theorem g_aS {H1 : Heap} {a k : Nat} (hS : va_S (g_A sz) s.heap H locs) (z : H1.size = H.size) (oq : ∀ q : Nat, q ≠ sz + a → H1[q]? = H[q]?) : va_S (g_A sz) s.heap H1 (locs ++ [⟨sz + a, k⟩]) := hS.put z oq (Nat.le_add_right sz a)
theorem g_nS {H1 : Heap} (hS : va_S (g_A sz) s.heap H locs) (z : H1.size = H.size + 1) (oq : ∀ q : Nat, q < H.size → H1[q]? = H[q]?) : va_S (g_A sz) s.heap H1 locs := ⟨Nat.le_trans hS.1 (by omega), fun x h1 h2 => (oq x (Nat.lt_of_lt_of_le h1 hS.1)).trans (hS.2.1 x h1 h2), hS.2.2⟩
set_option maxHeartbeats 1000000 in
theorem g_iast_ok (hx : p.tables.exec = Jvm.exec) (hb : c.code = code) (hSt : g_St D dA s) (hH : g_Hp D b sz dA σ H) (hS : va_S (g_A sz) s.heap H locs) {a n : Nat} {f : Nat → Int32} (ha : σ[a]? = some (.inl (0, n, .inl f))) {i v : Int32} (hin : vp_in i n) (hdg : decode code pc = .ok (.iastore, 1))
    (kk : ∀ (H1 : Heap) (locs1 : List Loc), g_Hp D b sz dA (σ.set a (.inl (0, n, .inl (upd f i.toNatClampNeg v)))) H1 → va_S (g_A sz) s.heap H1 locs1 → W p l e R s m args below meth c H1 locs1 cells slots Q (F0 m (pc + 1) lsA rest)) : W p l e R s m args below meth c H locs cells slots Q (F0 m pc lsA (.int v :: .int i :: .ref (sz + a) :: rest)) := by
  have hc := hH.1 a _ (g_ws_at ha)
  refine W.iast hx hb hc ((hSt.1.2 0 _ (g_tys_at hSt (by decide))).1 n (fun j => .int (f j))) (fun q => by cases q) (by show ¬ (i < 0 ∨ (arrV _ _ _).slots.size ≤ _); rw [arrV_size]; exact hin) rfl rfl hdg fun H1 e z oq => ?_
  refine kk H1 _ (g_Hp_set hH ha ?_ z oq) (g_aS hS z oq)
  show H1[sz + a]? = some (vp_cell _ _)
  rw [e, vp_cell_i, vp_cell_i, arrV_store]
  congr 2
  funext q
  by_cases hq : q = i.toNatClampNeg
  · subst hq
    simp [updV, upd]
  · simp [updV, upd, hq]
set_option maxHeartbeats 1000000 in
theorem g_bast_ok (hx : p.tables.exec = Jvm.exec) (hb : c.code = code) (hSt : g_St D dA s) (hH : g_Hp D b sz dA σ H) (hS : va_S (g_A sz) s.heap H locs) {a n : Nat} {f : Nat → Int32} (ha : σ[a]? = some (.inl (1, n, .inl f))) {i v : Int32} (hin : vp_in i n) (hdg : decode code pc = .ok (.bastore, 1))
    (kk : ∀ (H1 : Heap) (locs1 : List Loc), g_Hp D b sz dA (σ.set a (.inl (1, n, .inl (upd f i.toNatClampNeg (vp_nar .byte v))))) H1 → va_S (g_A sz) s.heap H1 locs1 → W p l e R s m args below meth c H1 locs1 cells slots Q (F0 m (pc + 1) lsA rest)) : W p l e R s m args below meth c H locs cells slots Q (F0 m pc lsA (.int v :: .int i :: .ref (sz + a) :: rest)) := by
  have hc := hH.1 a _ (g_ws_at ha)
  refine W.bast hx hb hc ((hSt.1.2 1 _ (g_tys_at hSt (by decide))).1 n (fun j => .int (f j))) (fun q => by cases q) (by show ¬ (i < 0 ∨ (arrV _ _ _).slots.size ≤ _); rw [arrV_size]; exact hin) rfl rfl hdg fun H1 e z oq => ?_
  refine kk H1 _ (g_Hp_set hH ha ?_ z oq) (g_aS hS z oq)
  show H1[sz + a]? = some (vp_cell _ _)
  rw [e, vp_cell_i, vp_cell_i, arrV_store]
  congr 2
  funext q
  by_cases hq : q = i.toNatClampNeg
  · subst hq
    simp [updV, upd, vp_nar]
    try rfl
  · simp [updV, upd, hq]
set_option maxHeartbeats 1000000 in
theorem g_zast_ok (hx : p.tables.exec = Jvm.exec) (hb : c.code = code) (hSt : g_St D dA s) (hH : g_Hp D b sz dA σ H) (hS : va_S (g_A sz) s.heap H locs) {a n : Nat} {f : Nat → Int32} (ha : σ[a]? = some (.inl (2, n, .inl f))) {i v : Int32} (hin : vp_in i n) (hdg : decode code pc = .ok (.bastore, 1))
    (kk : ∀ (H1 : Heap) (locs1 : List Loc), g_Hp D b sz dA (σ.set a (.inl (2, n, .inl (upd f i.toNatClampNeg (vp_nar .boolean v))))) H1 → va_S (g_A sz) s.heap H1 locs1 → W p l e R s m args below meth c H1 locs1 cells slots Q (F0 m (pc + 1) lsA rest)) : W p l e R s m args below meth c H locs cells slots Q (F0 m pc lsA (.int v :: .int i :: .ref (sz + a) :: rest)) := by
  have hc := hH.1 a _ (g_ws_at ha)
  refine W.zast hx hb hc ((hSt.1.2 2 _ (g_tys_at hSt (by decide))).1 n (fun j => .int (f j))) (fun q => by cases q) (by show ¬ (i < 0 ∨ (arrV _ _ _).slots.size ≤ _); rw [arrV_size]; exact hin) rfl rfl hdg fun H1 e z oq => ?_
  refine kk H1 _ (g_Hp_set hH ha ?_ z oq) (g_aS hS z oq)
  show H1[sz + a]? = some (vp_cell _ _)
  rw [e, vp_cell_i, vp_cell_i, arrV_store]
  congr 2
  funext q
  by_cases hq : q = i.toNatClampNeg
  · subst hq
    simp [updV, upd, vp_nar]
    try rfl
  · simp [updV, upd, hq]
set_option maxHeartbeats 1000000 in
theorem g_aast_ok (hx : p.tables.exec = Jvm.exec) (hb : c.code = code) (hSt : g_St D dA s) (hH : g_Hp D b sz dA σ H) (hS : va_S (g_A sz) s.heap H locs) {a v n : Nat} {f : Nat → Option Nat} {vs : List Value} (ha : σ[a]? = some (.inl (3, n, .inr f))) (hv : σ[v]? = some (.inr (9, vs))) {i : Int32} (hin : vp_in i n) (hdg : decode code pc = .ok (.aastore, 1))
    (kk : ∀ (H1 : Heap) (locs1 : List Loc), g_Hp D b sz dA (σ.set a (.inl (3, n, .inr (va_up f i.toNatClampNeg (some (v + 1)))))) H1 → va_S (g_A sz) s.heap H1 locs1 → W p l e R s m args below meth c H1 locs1 cells slots Q (F0 m (pc + 1) lsA rest)) : W p l e R s m args below meth c H locs cells slots Q (F0 m pc lsA (.ref (sz + v) :: .int i :: .ref (sz + a) :: rest)) := by
  have hlt : i.toNatClampNeg < n := Nat.not_le.mp fun q => hin (Or.inr q)
  have h0 : ¬ i < 0 := fun q => hin (Or.inl q)
  have hc := hH.1 a _ (g_ws_at ha)
  obtain ⟨r', hr', cellV, g1, g2, g3, -⟩ := hH.1 v _ (g_ws_at hv)
  have hcls := (hSt.1.1 9 (RX9, TX9, 5) rfl).2
  obtain ⟨kA, comp, k1, k2, k3, -⟩ := (hSt.1.2 3 _ (g_tys_at hSt (by decide))).2
  have hcomp : comp = D.1 9 := Option.some.inj (k3.symm.trans hcls.1)
  subst hcomp
  obtain ⟨kC, hkC, -⟩ := hcls.2
  refine W.aast hx hb hc (fun q h => by cases h) (fun h => by cases h) k1 k2 rfl hkC ⟨h0, by show _ < (arrV _ _ _).slots.size; rw [arrV_size]; exact hlt⟩ g1 (fun q h => by rw [g3] at h; cases h) (by rw [g2]; exact hkC) (by rw [g2]; exact va_assign hcls) rfl rfl hdg fun H1 e z oq => ?_
  refine kk H1 _ (g_Hp_set hH ha ?_ z oq) (g_aS hS z oq)
  show H1[sz + a]? = some (vp_cell _ _)
  rw [e, vp_cell_q, vp_cell_q, arrV_store]
  congr 2
  funext q
  by_cases hq : q = i.toNatClampNeg
  · subst hq
    simp [updV, va_up, va_rf, g_ad]
  · simp [updV, va_up, hq]
set_option maxHeartbeats 1000000 in
theorem g_put_ok (hx : p.tables.exec = Jvm.exec) (hb : c.code = code) (hown : s.vm.findClass own = some m.cls) (hts : ∀ w ∈ g_wk, w.before args s = true) (hcl : g_clsIn) (hSt : g_St D dA s) (hH : g_Hp D b sz dA σ H) (hS0 : va_S (g_A sz) s.heap H locs) {a ci y i : Nat} {fs : List Value} (ha : σ[a]? = some (.inr (ci, fs))) {v : Value} (hl : y < fs.length) (hn : narrow (g_ty ci y) v = v) (hfit : fits (g_ty ci y) v = true) (hdg : decode code pc = .ok (.putfield i, 3)) (hlk : g_lkp own meth.name i ci y)
    (kk : ∀ (H1 : Heap) (locs1 : List Loc), g_Hp D b sz dA (σ.set a (.inr (ci, fs.set y v))) H1 → va_S (g_A sz) s.heap H1 locs1 → W p l e R s m args below meth c H1 locs1 cells slots Q (F0 m (pc + 3) lsA rest)) : W p l e R s m args below meth c H locs cells slots Q (F0 m pc lsA (g_cv b sz v :: .ref (sz + a) :: rest)) := by
  obtain ⟨C, T, N, hc, hk, hdecl, hl2⟩ := hlk
  obtain ⟨hty, hnm, -⟩ := g_cls_ty ci C T N hc
  have hin := hcl ci C T N hc
  have hap := va_apart (own := own) hts hin (g_ty ci) hty hnm hSt.1 hc
  obtain ⟨r, h1, cell, q1, q2, q3, q4⟩ := hH.1 a _ (g_ws_at ha)
  have hr : r = (C, T, N) := Option.some.inj (h1.symm.trans hc)
  subst hr
  obtain ⟨hS, hfc, kC, hkC, hkind⟩ := hSt.1.1 ci _ hc
  obtain ⟨cf, kf, fi, f, hi, hsl⟩ := hS y hk
  have hlay := hts _ (hin _ (u_in_lay hk))
  have hst := (u_facts hfc hkC (u_lays hts hin hk) hi).1
  have hi2 : s.fieldFound? C (T y).2.1 (T y).2.2.1 = some (cf, kf, fi, f) := by rw [← hdecl]; exact hi
  have hl' : y < (fs.map (g_cv b sz)).length := by rw [List.length_map]; exact hl
  have fin : ∀ (H' : Heap), H'[sz + a]? = some (cell.setSlot f.slot (g_cv b sz v)) → va_at D vwCl (sz + a, g_ce b sz dA (.inr (ci, fs.set y v))) H' := by
    intro H' e1
    rw [hsl] at e1
    refine ⟨_, hc, ?_⟩
    have e2 := t_OB.to (V := updV (vp_V (fs.map (g_cv b sz))) y (g_cv b sz v)) (V' := vp_V ((fs.map (g_cv b sz)).set y (g_cv b sz v))) ⟨_, e1, q2, q3, t_set q4 hap hk (g_cv b sz v)⟩ (fun j _ => vp_updV_set hl' (g_cv b sz v) j)
    rw [← List.map_set] at e2
    exact e2
  rcases hl2 with ⟨hfin, hl2⟩ | ⟨hfin, hin2, hdo, hlink⟩
  · unfold u_lay at hlay
    rw [if_neg (by rw [hfin]; decide)] at hlay
    have h6 := u_store hfc hkC hkind hlay hi (hty y hk) (g_nar b sz _ v hn) (g_fit b sz _ v hfit)
    rcases hl2 with hlink | ⟨host, hlink⟩
    · refine W.putK hx hb (f := f) ⟨hown, hts _ hlink, ⟨_, _, _, hi2⟩, hst⟩ (by rw [q2]; exact h6) q1 q3 (by rw [hsl]; exact k2_hasslot (q4 y hk)) rfl rfl hdg fun H' e1 e2 e3 => ?_
      exact kk H' _ (g_Hp_set hH ha (fin H' e1) e2 e3) (g_aS hS0 e2 e3)
    · refine va_WputK hx hb (f := f) hown (va_Nw.use rfl (hSt.2.1 _ hlink)) hi2 hst (by rw [q2]; exact h6) q1 q3 (by rw [hsl]; exact k2_hasslot (q4 y hk)) rfl rfl hdg fun H' e1 e2 e3 => ?_
      exact kk H' _ (g_Hp_set hH ha (fin H' e1) e2 e3) (g_aS hS0 e2 e3)
  · unfold u_lay at hlay
    rw [if_pos hfin] at hlay
    have hcf : m.cls = cf := by
      obtain ⟨_, _, c', _, _, _, -, -, hf', -, -, -, hown2, -⟩ := Cond.laysFinal_spec hlay
      have e1 : c' = cf := by have := hi.symm.trans hf'; simp at this; exact this.1.symm
      rw [hdo] at hown2
      rw [← e1]; exact Option.some.inj (hown.symm.trans hown2)
    have h6 := u_fits hfc hkC hkind (Or.inr hlay) hi (hty y hk) (g_nar b sz _ v hn) (g_fit b sz _ v hfit)
    refine W.putFinK hx hb hown (hts _ hlink) hi2 hst hcf hin2 (by rw [q2]; exact h6) q1 q3 (by rw [hsl]; exact k2_hasslot (q4 y hk)) rfl rfl hdg fun H' e1 e2 e3 => ?_
    exact kk H' _ (g_Hp_set hH ha (fin H' e1) e2 e3) (g_aS hS0 e2 e3)
set_option maxHeartbeats 1000000 in
theorem g_get_ok (hx : p.tables.exec = Jvm.exec) (hb : c.code = code) (hown : s.vm.findClass own = some m.cls) (hts : ∀ w ∈ g_wk, w.before args s = true) (hcl : g_clsIn) (hSt : g_St D dA s) (hH : g_Hp D b sz dA σ H) {a ci y i : Nat} {fs : List Value} (ha : σ[a]? = some (.inr (ci, fs))) {v : Value} (hv : fs[y]? = some v) (hdg : decode code pc = .ok (.getfield i, 3)) (hlk : g_lkf own i ci y)
    (kk : W p l e R s m args below meth c H locs cells slots Q (F0 m (pc + 3) lsA (g_cv b sz v :: rest))) : W p l e R s m args below meth c H locs cells slots Q (F0 m pc lsA (.ref (sz + a) :: rest)) := by
  obtain ⟨C, T, N, hc, hk, hdecl, hl2⟩ := hlk
  have hin := hcl ci C T N hc
  have hv' : (fs.map (g_cv b sz))[y]? = some (g_cv b sz v) := by simp [hv]
  rcases hl2 with hlink | ⟨host, hlink⟩
  · exact va_get hx hb hts hin hown hSt.1 hH.1 a (g_ws_at ha) hc y hk (hts _ hlink) (fun q h => by rw [← hdecl]; exact h) hv' hdg kk
  · exact va_getN hx hb hts hin hown hSt.1 hH.1 a (g_ws_at ha) hc y hk (va_Nw.use rfl (hSt.2.1 _ hlink)) (fun q h => by rw [← hdecl]; exact h) hv' hdg kk
set_option maxHeartbeats 1000000 in
theorem g_new_ok (hx : p.tables.exec = Jvm.exec) (hb : c.code = code) (hown : s.vm.findClass own = some m.cls) (hts : ∀ w ∈ g_wk, w.before args s = true) (hcl : g_clsIn) (hSt : g_St D dA s) (hH : g_Hp D b sz dA σ H) (hS : va_S (g_A sz) s.heap H locs) {ci i : Nat} (hlk : g_lkn own i ci) (hdg : decode code pc = .ok (.new i, 3)) (hcells : cells + 1 ≤ R.cells) (hslots : slots + g_nf ci ≤ R.slots)
    (kk : ∀ (H1 : Heap) (locs1 : List Loc), g_Hp D b sz dA (σ ++ [.inr (ci, g_df ci)]) H1 → va_S (g_A sz) s.heap H1 locs1 → W p l e R s m args below meth c H1 locs1 (cells + 1) (slots + g_nf ci) Q (F0 m (pc + 3) lsA (.ref (sz + σ.length) :: rest))) : W p l e R s m args below meth c H locs cells slots Q (F0 m pc lsA rest) := by
  obtain ⟨C, T, N, hc, h1, h2, h3⟩ := hlk
  obtain ⟨hty, hnm, hN⟩ := g_cls_ty ci C T N hc
  subst hN
  have hin := hcl ci C T _ hc
  have hKn := hSt.1.1 ci _ hc
  refine W.newcK hx hb hown (hts _ h1) (hts _ h2) (hts _ h3) rfl hdg hcells hslots hKn.2.1 rfl fun H1 kC hkC e1 z1 o1 => ?_
  have hz := hH.2
  refine W.eq (g2 := F0 m (pc + 3) lsA (.ref (sz + σ.length) :: rest)) (by rw [← hz]) (kk H1 _ (g_Hp_app hH ?_ z1 o1) (g_nS hS z1 o1))
  rw [hz] at e1
  refine ⟨_, hc, (u_born (g_ty ci) hts hin hKn hkC e1 hty).to (fun j hj => ?_)⟩
  have hj' : j < g_nf ci := hj
  have e9 : ∀ v : Value, g_cv b sz (defaultValue (g_ty ci j)) = defaultValue (g_ty ci j) := fun _ => by cases g_ty ci j <;> rfl
  simp [vp_V, g_df, List.getD, hj', e9 .null]
set_option maxHeartbeats 1000000 in
theorem g_newa_ok (hx : p.tables.exec = Jvm.exec) (hb : c.code = code) (hts : ∀ w ∈ g_wk, w.before args s = true) (hSt : g_St D dA s) (hH : g_Hp D b sz dA σ H) (hS : va_S (g_A sz) s.heap H locs) {t : ArrayType} {k : Nat} (hk : g_tag t = some k) (hlk : Cond.arrayClass (newarray.typeOf t) ∈ g_wk) (hdg : decode code pc = .ok (.newarray t, 2)) {n : Int32} (hn : ¬ n < 0) (hb2 : n.toNatClampNeg ≤ 100000) (hcells : cells + 1 ≤ R.cells) (hslots : slots + n.toNatClampNeg ≤ R.slots)
    (kk : ∀ (H1 : Heap) (locs1 : List Loc), g_Hp D b sz dA (σ ++ [.inl (k, n.toNatClampNeg, .inl (fun _ => 0))]) H1 → va_S (g_A sz) s.heap H1 locs1 → W p l e R s m args below meth c H1 locs1 (cells + 1) (slots + n.toNatClampNeg) Q (F0 m (pc + 2) lsA (.ref (sz + σ.length) :: rest))) : W p l e R s m args below meth c H locs cells slots Q (F0 m pc lsA (.int n :: rest)) := by
  have hz := hH.2
  have hby : n.toNatClampNeg * componentBytes (newarray.typeOf t) ≤ 536870912 := by
    have : componentBytes (newarray.typeOf t) ≤ 8 := by cases t <;> decide
    have := Nat.mul_le_mul hb2 this
    omega
  refine va_newaK hx hb (hts _ hlk) rfl hdg rfl hn rfl hby hcells hslots rfl fun H1 cA e1 z1 o1 hAr hNm => ?_
  refine W.eq (g2 := F0 m (pc + 2) lsA (.ref (sz + σ.length) :: rest)) (by rw [← hz]) (kk H1 _ (g_Hp_app hH ?_ z1 o1) (g_nS hS z1 o1))
  rw [hz] at e1
  show H1[sz + σ.length]? = some (vp_cell _ _)
  rw [e1]
  have f0 := (hSt.1.2 0 _ (g_tys_at hSt (by decide))).2
  have f1 := (hSt.1.2 1 _ (g_tys_at hSt (by decide))).2
  have f2 := (hSt.1.2 2 _ (g_tys_at hSt (by decide))).2
  cases t <;> cases hk
  · have : cA = dA 2 := Option.some.inj (hNm.symm.trans f2)
    rw [this]; rfl
  · have : cA = dA 1 := Option.some.inj (hNm.symm.trans f1)
    rw [this]; rfl
  · have : cA = dA 0 := Option.some.inj (hNm.symm.trans f0)
    rw [this]; rfl
set_option maxHeartbeats 1000000 in
theorem g_newq_ok (hx : p.tables.exec = Jvm.exec) (hb : c.code = code) (hown : s.vm.findClass own = some m.cls) (hts : ∀ w ∈ g_wk, w.before args s = true) (hSt : g_St D dA s) (hH : g_Hp D b sz dA σ H) (hS : va_S (g_A sz) s.heap H locs) {i : Nat} (hlk : Cond.classLink own i "GustHome$Ward" ∈ g_wk) (hdg : decode code pc = .ok (.anewarray i, 3)) {n : Int32} (hn : ¬ n < 0) (hb2 : n.toNatClampNeg ≤ 100000) (hcells : cells + 1 ≤ R.cells) (hslots : slots + n.toNatClampNeg ≤ R.slots)
    (kk : ∀ (H1 : Heap) (locs1 : List Loc), g_Hp D b sz dA (σ ++ [.inl (3, n.toNatClampNeg, .inr (fun _ => none))]) H1 → va_S (g_A sz) s.heap H1 locs1 → W p l e R s m args below meth c H1 locs1 (cells + 1) (slots + n.toNatClampNeg) Q (F0 m (pc + 3) lsA (.ref (sz + σ.length) :: rest))) : W p l e R s m args below meth c H locs cells slots Q (F0 m pc lsA (.int n :: rest)) := by
  have hz := hH.2
  refine W.anew hx hb hown (hts _ hlk) (va_AO.use hSt.2.2) rfl hdg rfl hn (by omega) hcells hslots fun cA kA comp f1 f2 f3 f4 => ?_
  generalize hH1 : H.push ({ cls := cA, slots := Array.replicate n.toNatClampNeg .null, vm := .none } : Cell) = H1
  have z1 : H1.size = H.size + 1 := by rw [← hH1, Array.size_push]
  have e1 : H1[H.size]? = some (arrV cA n.toNatClampNeg (fun _ => .null)) := by rw [← hH1, Array.getElem?_push_size, ← arrV_new]
  have o1 : ∀ q : Nat, q < H.size → H1[q]? = H[q]? := fun q hq => by rw [← hH1, Array.getElem?_push, if_neg (Nat.ne_of_lt hq)]
  refine W.eq (g2 := F0 m (pc + 3) lsA (.ref (sz + σ.length) :: rest)) (by rw [← hz]) (kk H1 _ (g_Hp_app hH ?_ z1 o1) (g_nS hS z1 o1))
  rw [hz] at e1
  show H1[sz + σ.length]? = some (vp_cell _ _)
  rw [e1]
  obtain ⟨kA', comp', k1, k2, k3, k4⟩ := (hSt.1.2 3 _ (g_tys_at hSt (by decide))).2
  have : cA = dA 3 := Option.some.inj (f1.symm.trans k4)
  rw [this]
  rfl
set_option maxHeartbeats 1000000 in
theorem g_copy_ok (hx : p.tables.exec = Jvm.exec) (hb : c.code = code) (hml : c.maxLocals = lsA.size) (hown : s.vm.findClass own = some m.cls) (hts : ∀ w ∈ g_wk, w.before args s = true) (hSt : g_St D dA s) (hH : g_Hp D b sz dA σ H) (hS : va_S (g_A sz) s.heap H locs) {a a0 n0 n1 i : Nat} {f g : Nat → Int32} (ha0 : σ[a0]? = some (.inl (0, n0, .inl f))) (ha1 : σ[a]? = some (.inl (0, n1, .inl g)))
    {sp dp n : Int32} (h1 : ¬ sp < 0) (h2 : ¬ dp < 0) (h3 : ¬ n < 0) (h4 : sp.toNatClampNeg + n.toNatClampNeg ≤ n0) (h5 : dp.toNatClampNeg + n.toNatClampNeg ≤ n1) (hlk : Cond.methodLink own i arraycopyName ∈ g_wk ∧ Cond.native arraycopyName ∈ g_wk ∧ Cond.static arraycopyName ∈ g_wk ∧ Cond.initialized "java/lang/System" ∈ g_wk)
    (hframes : 1 ≤ R.frames) (hlocals : (rest.map fun v => v.category).sum + (nativeFrameWords "java/lang/System" "arraycopy" 5 + 11) ≤ R.locals) (hdg : decode code pc = .ok (.invokestatic i, 3))
    (kk : ∀ (H1 : Heap) (locs1 : List Loc), g_Hp D b sz dA (σ.set a (.inl (0, n1, .inl (va_cpy f g sp.toNatClampNeg dp.toNatClampNeg n.toNatClampNeg)))) H1 → va_S (g_A sz) s.heap H1 locs1 → W p l e R s m args below meth c H1 locs1 cells slots Q (F0 m (pc + 3) lsA rest)) : W p l e R s m args below meth c H locs cells slots Q (F0 m pc lsA (.int n :: .int dp :: .ref (sz + a) :: .int sp :: .ref (sz + a0) :: rest)) := by
  have nn : ∀ z : Int32, ¬ z < 0 → z.toInt = (z.toNatClampNeg : Int) := by
    intro z hz
    have hz0 : (0 : Int) ≤ z.toInt := by
      have := Int32.not_lt.mp hz
      simpa using Int32.le_iff_toInt_le.mp this
    show z.toInt = ((z.toInt.toNat : Nat) : Int)
    omega
  intro T hT X
  have hc0 : H[sz + a0]? = some (vp_cell (dA 0) (n0, .inl f)) := hH.1 a0 _ (g_ws_at ha0)
  have hc1 : H[sz + a]? = some (vp_cell (dA 0) (n1, .inl g)) := hH.1 a _ (g_ws_at ha1)
  have hT0 := (hSt.1.2 0 _ (g_tys_at hSt (by decide))).1
  obtain ⟨-, k0, hk0, cm0, hkk0⟩ := hT0 n0 (fun j => .int (f j))
  obtain ⟨-, k1, hk1, cm1, hkk1⟩ := hT0 n1 (fun j => .int (g j))
  obtain ⟨vm', X', step⟩ := X.arraycopy hx hown (hts _ hlk.1) (hts _ hlk.2.1) (hts _ hlk.2.2.1) (hts _ hlk.2.2.2) (src := sz + a0) (dst := sz + a) (cs := vp_cell (dA 0) (n0, .inl f)) (cd := vp_cell (dA 0) (n1, .inl g)) (srcPos := sp) (destPos := dp) (n := n) (by rw [hT]; exact hc0) (by rw [hT]; exact hc1)
    (fun _ h => by cases h) (fun _ h => by cases h) (fun h => by cases h) (fun h => by cases h) hk0 hk1 hkk0 hkk1 (by rfl) h1 h2 h3
    (by rw [nn sp h1, nn n h3]; show ¬ _ > ((arrV (dA 0) n0 (fun j => .int (f j))).slots.size : Int); rw [arrV_size]; omega)
    (by rw [nn dp h2, nn n h3]; show ¬ _ > ((arrV (dA 0) n1 (fun j => .int (g j))).slots.size : Int); rw [arrV_size]; omega)
    (fun vm₁ _ i hi => by
      have e : (vp_cell (dA 0) (n0, .inl f)).slots.getD (sp.toNatClampNeg + i) .null = .int (f (sp.toNatClampNeg + i)) := by
        show (arrV (dA 0) n0 (fun j => .int (f j))).slots.getD _ _ = _
        rw [Array.getD_eq_getD_getElem?, arrV_read _ _ (by omega)]
        rfl
      refine ⟨?_, ?_⟩
      · rw [e]
        rfl
      · rw [e]
        exact trivial)
    (g := F0 m pc lsA (.int n :: .int dp :: .ref (sz + a) :: .int sp :: .ref (sz + a0) :: rest)) rfl (by rw [hml]) (rest := rest) rfl (by rw [hb]; exact hdg) hframes (by show 2 * 0 + _ + _ ≤ _; omega)
  have e1 : copied (vp_cell (dA 0) (n0, .inl f)) (vp_cell (dA 0) (n1, .inl g)) sp dp n = vp_cell (dA 0) (n1, .inl (va_cpy f g sp.toNatClampNeg dp.toNatClampNeg n.toNatClampNeg)) := va_copied (fun z => .int z) (dA 0) (dA 0) f g h4
  rw [e1] at X' step
  have hl : sz + a < H.size := (Array.getElem?_eq_some_iff.mp hc1).1
  have hheap : ((T.setVm vm').setCell (sz + a) (vp_cell (dA 0) (n1, .inl (va_cpy f g sp.toNatClampNeg dp.toNatClampNeg n.toNatClampNeg)))).heap = H.setIfInBounds (sz + a) (vp_cell (dA 0) (n1, .inl (va_cpy f g sp.toNatClampNeg dp.toNatClampNeg n.toNatClampNeg))) := by rw [← hT]; rfl
  have oq : ∀ q : Nat, q ≠ sz + a → (H.setIfInBounds (sz + a) (vp_cell (dA 0) (n1, .inl (va_cpy f g sp.toNatClampNeg dp.toNatClampNeg n.toNatClampNeg))))[q]? = H[q]? := fun q hq => by simp [Array.getElem?_setIfInBounds, Ne.symm hq]
  obtain ⟨t, a1, b1⟩ := kk _ _ (g_Hp_set hH ha1 (show (H.setIfInBounds (sz + a) _)[sz + a]? = some _ by simp [Array.getElem?_setIfInBounds, hl]) (by simp) oq) ⟨by simp; exact hS.1, fun q g1 g2 => by
      rw [oq q (fun e => g2 (by rw [e]; exact Nat.le_add_right sz a))]
      exact hS.2.1 q g1 g2, fun q hq => by
      rcases List.mem_append.mp hq with h | h
      · exact hS.2.2 q h
      · obtain ⟨z, -, hz⟩ := List.mem_map.mp h
        rw [← hz]
        exact Nat.le_add_right sz a⟩ _ hheap X'
  exact ⟨t, step t a1, b1⟩
end GH
