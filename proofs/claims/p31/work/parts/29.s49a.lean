/-! rows of places by choices: all of them in their order, and a search with a bound (as in 45a, 45b, for any number of choices) -/
section GP
variable {K n : Nat} {ok : (Nat → Nat) → Nat → Prop} {co : (Nat → Nat) → Nat → Int}
/-! all rows by their numbers -/
end GP
