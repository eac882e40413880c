/-! the one String constant, and the flag that the JDK reads with it: old cells that nobody writes -/
def j_by : List Int32 := [115, 113, 116, 104, 100, 119, 111, 112, 108, 97, 110, 118, 117, 122, 109]
def j_B (sz kA vA : Nat) (U : State) : Prop := va_O "java/lang/String" kA (g_A sz) U U.heap ∧ va_OF "java/lang/String" "coder" "B" (.int 0) kA (g_A sz) U U.heap ∧ va_OF "java/lang/String" "value" "[B" (.ref vA) kA (g_A sz) U U.heap ∧ va_T .byte vA 15 (fun j => .int (j_by.getD j 0)) (g_A sz) U U.heap ∧ va_Z "java/lang/String" "COMPACT_STRINGS" "Z" (.int 1) (g_A sz) U U.heap
theorem j_B_mv {sz kA vA : Nat} {s U : State} {H : Heap} {locs : List Loc} (h : j_B sz kA vA s) (hS : va_S (g_A sz) s.heap H locs) (hU : U.heap = H) (hvm : s.vm.Alike U.vm) : j_B sz kA vA U := by
  obtain ⟨h1, h2, h3, h4, h5⟩ := h
  unfold j_B
  rw [hU]
  exact ⟨va_O.moved hvm (h1.kept hS.2.1), va_OF.moved hvm (h2.kept hS.2.1), va_OF.moved hvm (h3.kept hS.2.1), va_T.moved hvm (h4.kept hS.2.1), va_Z.moved hvm (h5.kept hS.2.1)⟩
def g_Str (sz : Nat) (U : State) : Prop := ∃ kA vA : Nat, j_B sz kA vA U ∧ vk_R "GustHome$Reader" 120 "sqthdwoplanvuzm" kA U
theorem g_Str_mv {sz : Nat} {s U : State} {H : Heap} {locs : List Loc} (h : g_Str sz s) (hS : va_S (g_A sz) s.heap H locs) (hU : U.heap = H) (hW : s.WarmedH U.vm) : g_Str sz U := by
  obtain ⟨kA, vA, h1, h2⟩ := h
  exact ⟨kA, vA, j_B_mv h1 hS hU hW.alike, vk_R.warm hW h2⟩
theorem j_B_same {sz kA vA : Nat} {s U : State} (h : j_B sz kA vA s) (hv : U.vm = s.vm) (hU : U.heap = s.heap) : j_B sz kA vA U := j_B_mv h va_S.rf hU (by rw [hv]; exact Vm.Alike.refl s.vm)
theorem g_Str_same {sz : Nat} {s U : State} (h : g_Str sz s) (hv : U.vm = s.vm) (hU : U.heap = s.heap) : g_Str sz U := by
  obtain ⟨kA, vA, h1, h2⟩ := h
  exact ⟨kA, vA, j_B_same h1 hv hU, vk_R.same hv h2⟩
