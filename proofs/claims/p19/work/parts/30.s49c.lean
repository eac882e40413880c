/-! nursed: the reference's rows -/
noncomputable def z_fN (V U : v_Sf) : Prop := ∀ a j, ¬ (a = 99 ∧ 27 ≤ j ∧ j ≤ 40 ∨ a = 114 ∨ a = 115 ∨ a = 154 ∨ a = 155) → U a j = V a j
noncomputable def z_Jn (n : Nat) (B : z_Gt) (V : v_Sf) (y : Int32) (U : v_Sf) : Prop := z_fN V U ∧ (y = if B.1 < 1000 then Int32.ofInt B.1 else Int32.ofInt 1000000000) ∧ (B.1 < 1000 → ∀ j, j < n → U 155 j = z_i (B.2 j)) ∧ 0 ≤ B.1 ∧ B.1 ≤ 1000
section NR
variable {n : Nat} {cst : Nat → Nat → Int} {V : v_Sf}
end NR
