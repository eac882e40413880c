def g_rmd (d mc ms : Nat) : Room := { frames := d, cells := mc, slots := ms, locals := d * 64 }
def g_wsM (M : g_M) : List Cond := Cond.code M.2.1 M.2.2.1 M.2.2.2.1 M.2.2.2.2.1 :: g_wk
def g_Pc (D : va_G) (b sz : Nat) (dA : Nat → ClassId) (L : Nat) (xs : Nat → Int32) (as : List Value) (σ : List g_Ce) : Array Value → State → Prop := va_Pc (as.map (g_cv b sz)) (fun U => g_Hp D b sz dA σ U.heap ∧ g_St D dA U ∧ va_X b L xs U U.heap ∧ g_Str sz U)
def g_Qc (D : va_G) (b sz : Nat) (dA : Nat → ClassId) (r : Option Value) (σ : List g_Ce) : Array Value → State → Outcome → State → Prop := fun _ st oc t => oc = .returned (r.map (g_cv b sz)) ∧ g_Hp D b sz dA σ t.heap ∧ va_F (g_A sz) st t
theorem g_lvargs (b sz : Nat) : ∀ (as : List Value) (i : Nat), lv_args i (as.map (g_cv b sz)) = g_cl2 b sz (lv_args i as)
  | [], _ => rfl
  | v :: vs, i => by
    show (i, g_cv b sz v) :: lv_args (if (g_cv b sz v).category = 2 then i + 2 else i + 1) (vs.map (g_cv b sz)) = (i, g_cv b sz v) :: g_cl2 b sz (lv_args (if v.category = 2 then i + 2 else i + 1) vs)
    rw [g_cv_cat, g_lvargs b sz vs]
theorem g_lgsl (b sz : Nat) : ∀ (as : List Value), (lg_sl (as.map (g_cv b sz))).length = (lg_sl as).length
  | [] => rfl
  | v :: vs => by
    have h := g_lgsl b sz vs
    simp only [lg_sl, List.map_cons, List.flatMap_cons, List.length_append, g_cv_cat] at h ⊢
    rw [h]
    split <;> rfl
theorem g_catcv (b sz : Nat) (r : List Value) : ((r.map (g_cv b sz)).map fun v => v.category).sum = g_cat r := by
  simp only [g_cat, List.map_map]
  congr 2
  funext v
  exact g_cv_cat b sz v
theorem g_good (M : g_M) (h : Cond.code M.2.1 M.2.2.1 M.2.2.2.1 M.2.2.2.2.1 ∈ g_wk) : GoodIn g_wk (g_wsM M) := by
  have k : ∀ w ∈ g_wk, w ∈ g_wk ∧ ((w.onTables && w.keeps) = true ∨ ∃ ty, w = .arrayClass ty) := fun w hw => ⟨hw, good_of_word (List.mem_filter.mp hw).2⟩
  intro w hw
  rcases List.mem_cons.mp hw with rfl | hw
  · exact k _ h
  · exact k w hw
section GC
variable {p : Program} {l : Launch} {e : Env} {R : Room} {s : State} {m : MethodId} {args : Array Value} {below : List Frame} {meth : Method} {c : Code} {H : Heap} {locs : List Loc} {cells slots : Nat} {Q : State → Prop}
variable {mt : Nat → Option g_M} {M : g_M} {pc d L : Nat} {xs : Nat → Int32} {lsA : Array Slot} {b sz : Nat} {D : va_G} {dA : Nat → ClassId} {σ : List g_Ce}
theorem g_callW {r : Option Value} {σ' : List g_Ce} {a : Array Value} {mc ms : Nat} {st0 rest : List Value} (hr : va_Run p l e R s m args below meth c H locs cells slots mc ms (F0 m pc lsA st0) rest (g_Qc D b sz dA r σ' a) (g_A sz)) (hS : va_S (g_A sz) s.heap H locs)
    (kk : ∀ (H1 : Heap) (locs1 : List Loc), g_Hp D b sz dA σ' H1 → va_S (g_A sz) s.heap H1 locs1 → W p l e R s m args below meth c H1 locs1 (cells + mc) (slots + ms) Q (F0 m (pc + 3) lsA ((r.map (g_cv b sz)).toList ++ rest))) : W p l e R s m args below meth c H locs cells slots Q (F0 m pc lsA st0) := by
  intro T hT X
  obtain ⟨v, st₀, t, T', L, h0, X', hL, e1, e2, ⟨hv, hp, hz, hk⟩, st⟩ := hr T hT X
  cases hv
  rw [h0] at hz hk
  obtain ⟨t2, a1, b1⟩ := kk T'.heap (locs ++ L) (by rw [e1]; exact hp)
    ⟨Nat.le_trans hS.1 (by rw [e1]; exact hz), fun q h1 h2 => by rw [e1, hk q (Nat.lt_of_lt_of_le h1 hS.1) h2]; exact hS.2.1 q h1 h2, fun q hq => by
      rcases List.mem_append.mp hq with h | h
      · exact hS.2.2 q h
      · exact hL q h⟩ T' rfl X'
  exact ⟨t2, st t2 a1, b1⟩
theorem g_X_moved {U : State} (hX : va_X b L xs s s.heap) (hbs : b < sz) (hsz : sz ≤ s.heap.size) (hS : va_S (g_A sz) s.heap H locs) (hU : U.heap = H) (hW : s.WarmedH U.vm) : va_X b L xs U U.heap := by
  obtain ⟨scr, h1, h2, h3, h4, h5⟩ := hX
  exact ⟨scr, by rw [hU, hS.2.1 b (Nat.lt_of_lt_of_le hbs hsz) (show ¬ sz ≤ b by omega)]; exact h1, State.isArrayOf_alike hW.alike h2, h3, h4, h5⟩
theorem g_blind (as : List Value) (σ : List g_Ce) : FrameBlind (g_Pc D b sz dA L xs as σ) := by
  intro a U g mk q
  obtain ⟨q0, q1, ⟨q2, q3, q4⟩, q5, q6⟩ := q
  refine ⟨q0, q1, ⟨va_K.moved (u := U) (U := U.calling g mk a) (Vm.Alike.refl U.vm) q2, g_Nw_same (s := U) (U := U.calling g mk a) rfl q3, va_AO.moved (u := U) (U := U.calling g mk a) (Vm.Alike.refl U.vm) q4⟩, ?_, g_Str_same (s := U) (U := U.calling g mk a) q6 rfl rfl⟩
  obtain ⟨scr, h1, h2, h3, h4, h5⟩ := q5
  exact ⟨scr, h1, State.isArrayOf_alike (s := U) (T := U.calling g mk a) (Vm.Alike.refl U.vm) h2, h3, h4, h5⟩
theorem g_preS {as : List Value} (hSt : g_St D dA s) (hX : va_X b L xs s s.heap) (hbs : b < sz) (hsz : sz ≤ s.heap.size) (hStr : g_Str sz s) (hH : g_Hp D b sz dA σ H) (hS : va_S (g_A sz) s.heap H locs) : PreS s H (g_Pc D b sz dA L xs as σ) (as.map (g_cv b sz)) :=
  ⟨g_blind as σ, fun U hU hW => ⟨rfl, by rw [hU]; exact hH, g_St_warm hW hSt, g_X_moved hX hbs hsz hS hU hW, g_Str_mv hStr hS hU hW⟩⟩
end GC
