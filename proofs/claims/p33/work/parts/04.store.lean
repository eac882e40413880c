/-! the pure store in the machine's heap -/
def g_wk : List Cond := lw_tbl.filter goodWord
def g_isN (w : Cond) : Bool := match w with
  | .fieldLinkNest _ _ _ _ _ _ => true
  | .methodLinkNest _ _ _ _ => true
  | _ => false
def g_wn : List Cond := lw_tbl.filter g_isN
def g_Nw (U : State) : Prop := ∀ w ∈ g_wn, va_Nw w U
theorem g_Nw_warm {s U : State} (hW : s.WarmedH U.vm) (h : g_Nw s) : g_Nw U := by
  intro w hw
  have h1 := h w hw
  have h2 : g_isN w = true := (List.mem_filter.mp hw).2
  cases w <;> first | exact va_Nw.warmF hW h1 | exact va_Nw.warmM hW h1 | (simp [g_isN] at h2)
theorem g_Nw_same {s U : State} (hv : s.vm = U.vm) (h : g_Nw s) : g_Nw U := by
  intro w hw
  have h1 := h w hw
  have h2 : g_isN w = true := (List.mem_filter.mp hw).2
  cases w <;> first | exact va_Nw.same rfl hv h1 | (simp [g_isN] at h2)
def g_ad (b sz k : Nat) : Nat := match k with
  | 0 => b
  | k + 1 => sz + k
def g_cv (b sz : Nat) (v : Value) : Value := match v with
  | .ref a => .ref (g_ad b sz a)
  | v => v
def g_ce (b sz : Nat) (dA : Nat → ClassId) (c : g_Ce) : va_E := match c with
  | .inl (t, n, .inl f) => .inl (dA t, n, .inl f)
  | .inl (t, n, .inr f) => .inl (dA t, n, .inr (.inr (.inr (.inr (fun j => (f j).map (g_ad b sz))))))
  | .inr (ci, fs) => .inr (ci, fs.map (g_cv b sz))
def g_ws (b sz : Nat) (dA : Nat → ClassId) (σ : List g_Ce) : va_W := σ.mapIdx (fun k c => (sz + k, g_ce b sz dA c))
def g_tys (dA : Nat → ClassId) : List (ClassId × FieldType) := [(dA 0, .int), (dA 1, .byte), (dA 2, .boolean), (dA 3, .object "GustHome$Ward")]
def g_A (sz : Nat) : Nat → Prop := fun q => sz ≤ q
def g_Hp (D : va_G) (b sz : Nat) (dA : Nat → ClassId) (σ : List g_Ce) (H : Heap) : Prop := va_P D vwCl (g_ws b sz dA σ) H ∧ H.size = sz + σ.length
theorem g_cv_cat (b sz : Nat) (v : Value) : (g_cv b sz v).category = v.category := by cases v <;> rfl
theorem g_ws_at {b sz : Nat} {dA : Nat → ClassId} {σ : List g_Ce} {k : Nat} {c : g_Ce} (h : σ[k]? = some c) : (g_ws b sz dA σ)[k]? = some (sz + k, g_ce b sz dA c) := by
  simp [g_ws, h]
theorem g_ws_D (b sz : Nat) (dA : Nat → ClassId) (σ : List g_Ce) : va_D (g_A sz) (g_ws b sz dA σ) := by
  have key : ∀ (k : Nat) (q : Nat × va_E), (g_ws b sz dA σ)[k]? = some q → q.1 = sz + k := by
    intro k q h
    simp only [g_ws, List.getElem?_mapIdx, Option.map_eq_some_iff] at h
    obtain ⟨c, -, rfl⟩ := h
    rfl
  refine ⟨fun i j x y hi hj hxy => ?_, fun k q h => ?_⟩
  · have h1 := key i x hi
    have h2 := key j y hj
    omega
  · show sz ≤ q.1
    rw [key k q h]
    omega
theorem g_ws_set {b sz : Nat} {dA : Nat → ClassId} {σ : List g_Ce} {k : Nat} {c : g_Ce} : (g_ws b sz dA σ).set k (sz + k, g_ce b sz dA c) = g_ws b sz dA (σ.set k c) := by
  apply List.ext_getElem?
  intro i
  simp only [g_ws, List.getElem?_set, List.getElem?_mapIdx, List.length_mapIdx]
  by_cases hk : k = i
  · subst hk
    by_cases hl : k < σ.length <;> simp [hl]
  · simp [hk]
theorem g_Hp_set {D : va_G} {b sz : Nat} {dA : Nat → ClassId} {σ : List g_Ce} {k : Nat} {c0 c : g_Ce} {H H1 : Heap} (h : g_Hp D b sz dA σ H) (hk : σ[k]? = some c0) (he : va_at D vwCl (sz + k, g_ce b sz dA c) H1) (z : H1.size = H.size) (oq : ∀ q : Nat, q ≠ sz + k → H1[q]? = H[q]?) : g_Hp D b sz dA (σ.set k c) H1 := by
  refine ⟨?_, by rw [z, List.length_set]; exact h.2⟩
  rw [← g_ws_set]
  exact h.1.set (g_ws_D b sz dA σ) (g_ws_at hk) he oq
theorem g_Hp_app {D : va_G} {b sz : Nat} {dA : Nat → ClassId} {σ : List g_Ce} {c : g_Ce} {H H1 : Heap} (h : g_Hp D b sz dA σ H) (he : va_at D vwCl (sz + σ.length, g_ce b sz dA c) H1) (z : H1.size = H.size + 1) (oq : ∀ q : Nat, q < H.size → H1[q]? = H[q]?) : g_Hp D b sz dA (σ ++ [c]) H1 := by
  refine ⟨?_, by rw [z, h.2]; simp; omega⟩
  have e : g_ws b sz dA (σ ++ [c]) = g_ws b sz dA σ ++ [(sz + σ.length, g_ce b sz dA c)] := by simp [g_ws, List.mapIdx_append]
  rw [e]
  refine (h.1.kept (fun k x hx => oq x.1 ((h.1 k x hx).lt))).app (fun k x hx => ?_)
  have hz : k < 1 := (List.getElem?_eq_some_iff.mp hx).1
  rw [show k = 0 by omega] at hx
  cases hx
  exact he
/-- what a frame's method knows of its own start -/
def g_St (D : va_G) (dA : Nat → ClassId) (U : State) : Prop := va_K D vwCl (g_tys dA) U ∧ g_Nw U ∧ va_AO "GustHome$Ward" U
theorem g_St_warm {D : va_G} {dA : Nat → ClassId} {s U : State} (hW : s.WarmedH U.vm) (h : g_St D dA s) : g_St D dA U := ⟨va_K.moved hW.alike h.1, g_Nw_warm hW h.2.1, va_AO.moved hW.alike h.2.2⟩
/-- the classes' own facts -/
theorem g_cls_ty : ∀ (ci : Nat) (C : String) (T : u_T) (N : Nat), vwCl[ci]? = some (C, T, N) → (∀ k, k < N → parseFieldDescriptor (T k).2.2.1 = some (g_ty ci k)) ∧ (∀ a, a < N → ∀ b, b < N → a ≠ b → (T a).2.1 ≠ (T b).2.1) ∧ N = g_nf ci := by
  intro ci C T N h
  match ci, h with
  | 0, h => cases h; exact ⟨tyX0_ok, nmX0, rfl⟩
  | 1, h => cases h; exact ⟨tyX1_ok, nmX1, rfl⟩
  | 2, h => cases h; exact ⟨tyX2_ok, nmX2, rfl⟩
  | 3, h => cases h; exact ⟨tyX3_ok, nmX3, rfl⟩
  | 4, h => cases h; exact ⟨tyX4_ok, nmX4, rfl⟩
  | 5, h => cases h; exact ⟨tyX5_ok, nmX5, rfl⟩
  | 6, h => cases h; exact ⟨tyX6_ok, nmX6, rfl⟩
  | 7, h => cases h; exact ⟨tyX7_ok, nmX7, rfl⟩
  | 8, h => cases h; exact ⟨tyX8_ok, nmX8, rfl⟩
  | 9, h => cases h; exact ⟨tyX9_ok, nmX9, rfl⟩
  | 10, h => cases h; exact ⟨tyX10_ok, nmX10, rfl⟩
  | 11, h => cases h; exact ⟨tyX11_ok, nmX11, rfl⟩
  | 12, h => cases h; exact ⟨tyX12_ok, nmX12, rfl⟩
  | n + 13, h => simp [vwCl] at h
