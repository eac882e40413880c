section PrtS44a
/-! what the class's readers leave alone -/
noncomputable def z_rc (e a : Nat) : Prop := a = 66 ∨ a = e ∨ a = e + 1 ∨ a = e + 2 ∨ a = e + 4 ∨ a = e + 5 ∨ a = e + 6 ∨ a = 74
section CLO
variable {Pr : v_Sf → Prop} {e : Nat}
theorem z_C_put (hp : ∀ S a i v, Pr S → z_rc e a → Pr (z_s S a i v)) (c v : Int32) {S : v_Sf} (h : Pr S) : Pr (g_X1_put e c v S) := by
  unfold g_X1_put
  split
  · exact hp _ _ _ _ (hp _ _ _ _ (hp _ _ _ _ h (by unfold z_rc; omega)) (by unfold z_rc; omega)) (by unfold z_rc; omega)
  · exact h
theorem z_C_land (hp : ∀ S a i v, Pr S → z_rc e a → Pr (z_s S a i v)) (c : Int32) {S : v_Sf} (h : Pr S) : Pr (g_X1_land e c S) := by
  unfold g_X1_land
  split
  · exact h
  · split
    · exact h
    · exact hp _ _ _ _ h (by unfold z_rc; omega)
theorem z_C_66 (hp : ∀ S a i v, Pr S → z_rc e a → Pr (z_s S a i v)) {S : v_Sf} (i : Nat) (v : Int32) (h : Pr S) : Pr (z_s S 66 i v) := hp _ _ _ _ h (by unfold z_rc; omega)
theorem z_C_fail (hp : ∀ S a i v, Pr S → z_rc e a → Pr (z_s S a i v)) (c b : Int32) {S : v_Sf} (h : Pr S) : Pr (g_X5_fail c b S) := by
  unfold g_X5_fail
  split
  · exact h
  · exact z_C_66 hp _ _ (z_C_66 hp _ _ h)
theorem z_C_expect (hp : ∀ S a i v, Pr S → z_rc e a → Pr (z_s S a i v)) (c : Int32) {S : v_Sf} (h : Pr S) : Pr (g_X5_expect c S) := by
  unfold g_X5_expect
  split
  · exact z_C_fail hp _ _ h
  · exact z_C_66 hp _ _ h
theorem z_C_opens (hp : ∀ S a i v, Pr S → z_rc e a → Pr (z_s S a i v)) (c : Int32) {S : v_Sf} (h : Pr S) : Pr (g_X5_opens c S) := by
  unfold g_X5_opens
  split
  · exact z_C_66 hp _ _ h
  · exact z_C_fail hp _ _ h
theorem z_C_num (hp : ∀ S a i v, Pr S → z_rc e a → Pr (z_s S a i v)) : ∀ (r k : Nat) (x : Int32) (S : v_Sf), Pr S → Pr (r_X5_readNumber_4 e r k x S) := by
  intro r
  induction r with
  | zero =>
    intro k x S h
    rw [r_X5_readNumber_4]
    exact z_C_put hp _ _ h
  | succ r ih =>
    intro k x S h
    rw [r_X5_readNumber_4]
    split
    · exact z_C_put hp _ _ h
    · split
      · exact z_C_put hp _ _ h
      · split
        · exact ih _ _ _ (z_C_66 hp _ _ h)
        · exact z_C_fail hp _ _ h
theorem z_C_fac (hp : ∀ S a i v, Pr S → z_rc e a → Pr (z_s S a i v)) {φ : Int32 → v_Sf → v_Sf} (hφ : ∀ a S, Pr S → Pr (φ a S)) (a : Int32) {S : v_Sf} (h : Pr S) : Pr (g_readFactorF e φ a S) := by
  have br : Pr (g_X5_expect (Int32.ofInt 93) (φ (a + Int32.ofInt 1) (g_X5_opens a S))) := z_C_expect hp _ (hφ _ _ (z_C_opens hp _ h))
  have lt : ∀ v u, Pr (z_s (g_X1_put e (Int32.ofInt 2) v S) 66 4 u) := fun v u => z_C_66 hp _ _ (z_C_put hp _ _ h)
  have nu : Pr (g_X5_readNumber e S) := z_C_num hp _ _ _ _ h
  unfold g_readFactorF F_readFactorF
  split
  · split
    · split
      · split
        · exact z_C_fail hp _ _ h
        · exact lt _ _
      · split
        · split
          · exact z_C_fail hp _ _ h
          · exact lt _ _
        · exact nu
    · split
      · exact z_C_opens hp _ h
      · exact br
  · split
    · split
      · exact z_C_fail hp _ _ h
      · split
        · exact z_C_fail hp _ _ h
        · exact nu
    · split
      · exact z_C_opens hp _ h
      · exact br
theorem z_C_trm (hp : ∀ S a i v, Pr S → z_rc e a → Pr (z_s S a i v)) {φ : Int32 → v_Sf → v_Sf} (hφ : ∀ a S, Pr S → Pr (φ a S)) (a : Int32) : ∀ (r k : Nat) (S : v_Sf), Pr S → Pr (r_readTermF_7 e φ a r k S) := by
  intro r
  induction r with
  | zero =>
    intro k S h
    rw [r_readTermF_7]
    exact h
  | succ r ih =>
    intro k S h
    have st : ∀ c v, Pr (r_readTermF_7 e φ a r (k + 1) (g_X1_put e c (Int32.ofInt 0) (g_readFactorF e φ a (z_s S 66 4 v)))) := fun c v => ih _ _ (z_C_put hp _ _ (z_C_fac hp hφ a (z_C_66 hp _ _ h)))
    rw [r_readTermF_7]
    split
    · exact st _ _
    · split
      · exact st _ _
      · split
        · exact h
        · exact st _ _
theorem z_C_term (hp : ∀ S a i v, Pr S → z_rc e a → Pr (z_s S a i v)) {φ : Int32 → v_Sf → v_Sf} (hφ : ∀ a S, Pr S → Pr (φ a S)) (a : Int32) {S : v_Sf} (h : Pr S) : Pr (g_readTermF e φ a S) := z_C_trm hp hφ a _ _ _ (z_C_fac hp hφ a h)
theorem z_C_sm (hp : ∀ S a i v, Pr S → z_rc e a → Pr (z_s S a i v)) {φ : Int32 → v_Sf → v_Sf} (hφ : ∀ a S, Pr S → Pr (φ a S)) (a : Int32) : ∀ (r k : Nat) (S : v_Sf), Pr S → Pr (r_readSumF_7 e φ a r k S) := by
  intro r
  induction r with
  | zero =>
    intro k S h
    rw [r_readSumF_7]
    exact h
  | succ r ih =>
    intro k S h
    have st : ∀ c v, Pr (r_readSumF_7 e φ a r (k + 1) (g_X1_put e c (Int32.ofInt 0) (g_readTermF e φ a (z_s S 66 4 v)))) := fun c v => ih _ _ (z_C_put hp _ _ (z_C_term hp hφ a (z_C_66 hp _ _ h)))
    rw [r_readSumF_7]
    split
    · exact st _ _
    · split
      · exact h
      · exact st _ _
theorem z_C_sum (hp : ∀ S a i v, Pr S → z_rc e a → Pr (z_s S a i v)) {φ : Int32 → v_Sf → v_Sf} (hφ : ∀ a S, Pr S → Pr (φ a S)) (a : Int32) {S : v_Sf} (h : Pr S) : Pr (g_readSumF e φ a S) := z_C_sm hp hφ a _ _ _ (z_C_term hp hφ a h)
theorem z_C_rdS (hp : ∀ S a i v, Pr S → z_rc e a → Pr (z_s S a i v)) : ∀ (f : Nat) (a : Int32) (S : v_Sf), Pr S → Pr (g_rdS e f a S) := by
  intro f
  induction f with
  | zero =>
    intro a S h
    rw [g_rdS]
    exact z_C_sum hp (fun _ _ h => h) a h
  | succ f ih =>
    intro a S h
    rw [g_rdS]
    exact z_C_sum hp ih a h
theorem z_C_brk (hp : ∀ S a i v, Pr S → z_rc e a → Pr (z_s S a i v)) {φ : Int32 → v_Sf → v_Sf} (hφ : ∀ a S, Pr S → Pr (φ a S)) (a : Int32) {S : v_Sf} (h : Pr S) : Pr (g_readBracketF e φ a S) := by
  unfold g_readBracketF F_readBracketF
  split
  · split
    · exact z_C_opens hp _ h
    · exact z_C_expect hp _ (hφ _ _ (z_C_opens hp _ h))
  · exact z_C_fail hp _ _ h
theorem z_C_tst (hp : ∀ S a i v, Pr S → z_rc e a → Pr (z_s S a i v)) {φS φT φC : Int32 → v_Sf → v_Sf} (hS : ∀ a S, Pr S → Pr (φS a S)) (hT : ∀ a S, Pr S → Pr (φT a S)) (hC : ∀ a S, Pr S → Pr (φC a S)) (a : Int32) {S : v_Sf} (h : Pr S) : Pr (g_readTestF e φS φT φC a S) := by
  have h1 := z_C_sum hp hS a h
  have cm : ∀ c v, Pr (g_X1_put e c (Int32.ofInt 0) (g_readSumF e φS a (z_s (g_readSumF e φS a S) 66 4 v))) := fun c v => z_C_put hp _ _ (z_C_sum hp hS a (z_C_66 hp _ _ h1))
  unfold g_readTestF F_readTestF
  split
  · split
    · split
      · exact cm _ _
      · split
        · exact cm _ _
        · split
          · exact cm _ _
          · exact z_C_fail hp _ _ h1
    · split
      · exact z_C_opens hp _ h
      · exact z_C_put hp _ _ (hT _ _ (z_C_opens hp _ h))
  · exact z_C_brk hp hC a h
theorem z_C_prt (hp : ∀ S a i v, Pr S → z_rc e a → Pr (z_s S a i v)) {φS φT φC : Int32 → v_Sf → v_Sf} (hS : ∀ a S, Pr S → Pr (φS a S)) (hT : ∀ a S, Pr S → Pr (φT a S)) (hC : ∀ a S, Pr S → Pr (φC a S)) (a : Int32) : ∀ (r k : Nat) (S : v_Sf), Pr S → Pr (r_readPartF_7 e φS φT φC a r k S) := by
  intro r
  induction r with
  | zero =>
    intro k S h
    rw [r_readPartF_7]
    exact h
  | succ r ih =>
    intro k S h
    rw [r_readPartF_7]
    split
    · exact h
    · exact ih _ _ (z_C_land hp _ (z_C_tst hp hS hT hC a (z_C_put hp _ _ (z_C_66 hp _ _ h))))
theorem z_C_part (hp : ∀ S a i v, Pr S → z_rc e a → Pr (z_s S a i v)) {φS φT φC : Int32 → v_Sf → v_Sf} (hS : ∀ a S, Pr S → Pr (φS a S)) (hT : ∀ a S, Pr S → Pr (φT a S)) (hC : ∀ a S, Pr S → Pr (φC a S)) (a : Int32) {S : v_Sf} (h : Pr S) : Pr (g_readPartF e φS φT φC a S) := z_C_prt hp hS hT hC a _ _ _ (z_C_tst hp hS hT hC a h)
theorem z_C_cnd (hp : ∀ S a i v, Pr S → z_rc e a → Pr (z_s S a i v)) {φS φT φC : Int32 → v_Sf → v_Sf} (hS : ∀ a S, Pr S → Pr (φS a S)) (hT : ∀ a S, Pr S → Pr (φT a S)) (hC : ∀ a S, Pr S → Pr (φC a S)) (a : Int32) : ∀ (r k : Nat) (S : v_Sf), Pr S → Pr (r_readConditionF_7 e φS φT φC a r k S) := by
  intro r
  induction r with
  | zero =>
    intro k S h
    rw [r_readConditionF_7]
    exact h
  | succ r ih =>
    intro k S h
    rw [r_readConditionF_7]
    split
    · exact h
    · exact ih _ _ (z_C_land hp _ (z_C_part hp hS hT hC a (z_C_put hp _ _ (z_C_66 hp _ _ h))))
theorem z_C_cond (hp : ∀ S a i v, Pr S → z_rc e a → Pr (z_s S a i v)) {φS φT φC : Int32 → v_Sf → v_Sf} (hS : ∀ a S, Pr S → Pr (φS a S)) (hT : ∀ a S, Pr S → Pr (φT a S)) (hC : ∀ a S, Pr S → Pr (φC a S)) (a : Int32) {S : v_Sf} (h : Pr S) : Pr (g_readConditionF e φS φT φC a S) := z_C_cnd hp hS hT hC a _ _ _ (z_C_part hp hS hT hC a h)
theorem z_C_rdX (hp : ∀ S a i v, Pr S → z_rc e a → Pr (z_s S a i v)) : ∀ f : Nat, (∀ a S, Pr S → Pr ((g_rdX e f).1 a S)) ∧ ∀ a S, Pr S → Pr ((g_rdX e f).2 a S) := by
  intro f
  induction f with
  | zero =>
    simp only [g_rdX]
    exact ⟨fun a S h => z_C_tst hp (fun _ _ h => h) (fun _ _ h => h) (fun _ _ h => h) a h, fun a S h => z_C_cond hp (fun _ _ h => h) (fun _ _ h => h) (fun _ _ h => h) a h⟩
  | succ f ih =>
    simp only [g_rdX]
    exact ⟨fun a S h => z_C_tst hp (z_C_rdS hp f) ih.1 ih.2 a h, fun a S h => z_C_cond hp (z_C_rdS hp f) ih.1 ih.2 a h⟩
theorem z_C_whole (hp : ∀ S a i v, Pr S → z_rc e a → Pr (z_s S a i v)) {S : v_Sf} (h : Pr S) : Pr (g_X5_readWhole e S) := by
  have h1 : Pr (g_X1_openCondition e S) := by
    unfold g_X1_openCondition
    split
    · exact h
    · exact hp _ _ _ _ h (by unfold z_rc; omega)
  have h2 : Pr (g_rdB6 e (Int32.ofInt 0) (g_X1_openCondition e S)) := z_C_brk hp (z_C_rdX hp 5).2 _ h1
  unfold g_X5_readWhole g_X1_closeClause
  split
  · exact z_C_put hp _ _ h2
  · exact hp _ _ _ _ (z_C_put hp _ _ h2) (by unfold z_rc; omega)
theorem z_C_open (hp : ∀ S a i v, Pr S → z_rc e a → Pr (z_s S a i v)) (c : Int32) {S : v_Sf} (h : Pr S) : Pr (g_X1_openClause e c S) := by
  unfold g_X1_openClause
  split
  · exact h
  · exact hp _ _ _ _ (hp _ _ _ _ h (by unfold z_rc; omega)) (by unfold z_rc; omega)
theorem z_C_rule (hp : ∀ S a i v, Pr S → z_rc e a → Pr (z_s S a i v)) {S : v_Sf} (h : Pr S) : Pr (g_X5_readRule e S) := by
  have k := z_C_whole hp (z_C_open hp (Int32.ofInt 114) h)
  unfold g_X5_readRule
  split
  · exact k
  · split
    · exact k
    · exact z_C_fail hp _ _ h
theorem z_C_clause (hp : ∀ S a i v, Pr S → z_rc e a → Pr (z_s S a i v)) {S : v_Sf} (h : Pr S) : Pr (g_X5_readClause e S) := by
  by_cases g1 : z_aln (f_X5_here S)
  · rw [z_rc_aln rfl g1]
    split
    · exact z_C_whole hp (z_C_open hp _ (z_C_66 hp _ _ h))
    · exact z_C_fail hp _ _ h
  · by_cases g2 : z_amt (f_X5_here S)
    · rw [z_rc_amt rfl g2]
      split
      · exact z_C_whole hp (z_C_put hp _ _ (z_C_rdS hp 6 _ _ (z_C_open hp _ (z_C_66 hp _ _ h))))
      · exact z_C_fail hp _ _ h
    · rw [z_rc_no rfl g1 g2]
      exact z_C_fail hp _ _ h
theorem z_C_text (hp : ∀ S a i v, Pr S → z_rc e a → Pr (z_s S a i v)) (x : Int32) : ∀ (r k : Nat) (S : v_Sf), Pr S → Pr (r_X5_readText_7 e x r k S).2 := by
  intro r
  induction r with
  | zero =>
    intro k S h
    rw [r_X5_readText_7]
    split <;> exact h
  | succ r ih =>
    intro k S h
    have k1 := z_C_rule hp h
    have k2 := z_C_clause hp h
    rw [r_X5_readText_7]
    split
    · split
      · exact ih _ _ (z_C_expect hp _ k1)
      · split <;> exact k1
    · split
      · exact ih _ _ (z_C_expect hp _ k2)
      · split <;> exact k2
theorem z_C_begin (hp : ∀ S a i v, Pr S → z_rc e a → Pr (z_s S a i v)) (m : Int32) {S : v_Sf} (h : Pr S) : Pr (g_X5_begin e m S) := z_C_66 hp _ _ (z_C_66 hp _ _ (z_C_66 hp _ _ (z_C_66 hp _ _ (hp _ _ _ _ (hp _ _ _ _ h (by unfold z_rc; omega)) (by unfold z_rc; omega)))))
theorem z_C_wrm (hp : ∀ S a i v, Pr S → z_rc e a → Pr (z_s S a i v)) (l : Int32) {S : v_Sf} (h : Pr S) : Pr (g_X5_writeMonth l S) := by
  unfold g_X5_writeMonth
  split
  · exact z_C_66 hp _ _ h
  · exact z_C_66 hp _ _ (hp _ _ _ _ (z_C_66 hp _ _ h) (by unfold z_rc; omega))
theorem z_C_rpl (hp : ∀ S a i v, Pr S → z_rc e a → Pr (z_s S a i v)) (x4 x5 : Int32) : ∀ (r : Nat) (x6 : Int32) (S : v_Sf), Pr S → Pr (r_X5_repeat_37 x4 x5 r x6 S) := by
  intro r
  induction r with
  | zero =>
    intro x6 S h
    rw [r_X5_repeat_37]
    exact z_C_66 hp _ _ h
  | succ r ih =>
    intro x6 S h
    rw [r_X5_repeat_37]
    split
    · exact z_C_66 hp _ _ h
    · split
      · exact z_C_66 hp _ _ h
      · exact ih _ _ (hp _ _ _ _ h (by unfold z_rc; omega))
theorem z_C_rpt (hp : ∀ S a i v, Pr S → z_rc e a → Pr (z_s S a i v)) (a b i : Int32) {S : v_Sf} (h : Pr S) : Pr (g_X5_repeat a b i S) := by
  unfold g_X5_repeat F_X5_repeat
  split
  · exact z_C_rpl hp _ _ _ _ _ h
  · exact z_C_fail hp _ _ h
theorem z_C_mZ (hp : ∀ S a i v, Pr S → z_rc e a → Pr (z_s S a i v)) {φ : Int32 → v_Sf → v_Sf} (hφ : ∀ a S, Pr S → Pr (φ a S)) (a : Int32) {S : v_Sf} (h : Pr S) : Pr (z_mZ φ a S) := by
  unfold z_mZ
  split
  · split
    · split
      · exact z_C_fail hp _ _ h
      · split
        · exact z_C_fail hp _ _ h
        · exact z_C_wrm hp _ h
    · exact z_C_wrm hp _ h
  · unfold g_readGroupF F_readGroupF
    split
    · exact z_C_expect hp _ (hφ _ _ (z_C_66 hp _ _ h))
    · exact z_C_fail hp _ _ h
theorem z_C_mW (hp : ∀ S a i v, Pr S → z_rc e a → Pr (z_s S a i v)) {φ : Int32 → v_Sf → v_Sf} (hφ : ∀ a S, Pr S → Pr (φ a S)) (a M t f : Int32) {S : v_Sf} (h : Pr S) : Pr (z_mW φ a M t f S) := by
  unfold z_mW
  split
  · exact z_C_mZ hp hφ a h
  · exact z_C_rpt hp _ _ _ (z_C_mZ hp hφ a h)
theorem z_C_mon (hp : ∀ S a i v, Pr S → z_rc e a → Pr (z_s S a i v)) {φ : Int32 → v_Sf → v_Sf} (hφ : ∀ a S, Pr S → Pr (φ a S)) (a : Int32) {S : v_Sf} (h : Pr S) : Pr (g_readMonthF φ a S) := by
  by_cases c : f_X5_here S < Int32.ofInt 50 ∨ Int32.ofInt 57 < f_X5_here S
  · rw [z_rm1 c]
    exact z_C_mW hp hφ _ _ _ _ h
  · rw [z_rm2 (fun q => c (Or.inl q)) (fun q => c (Or.inr q))]
    exact z_C_mW hp hφ _ _ _ _ (z_C_66 hp _ _ h)
theorem z_C_mns (hp : ∀ S a i v, Pr S → z_rc e a → Pr (z_s S a i v)) {φ : Int32 → v_Sf → v_Sf} (hφ : ∀ a S, Pr S → Pr (φ a S)) (a : Int32) : ∀ (r k : Nat) (S : v_Sf), Pr S → Pr (r_readMonthsF_2 φ a r k S) := by
  intro r
  induction r with
  | zero =>
    intro k S h
    rw [r_readMonthsF_2]
    exact h
  | succ r ih =>
    intro k S h
    have m := z_C_mon hp hφ a h
    rw [r_readMonthsF_2]
    split
    · exact m
    · split
      · exact ih _ _ m
      · exact m
theorem z_C_rdM (hp : ∀ S a i v, Pr S → z_rc e a → Pr (z_s S a i v)) : ∀ (f : Nat) (a : Int32) (S : v_Sf), Pr S → Pr (g_rdM f a S) := by
  intro f
  induction f with
  | zero =>
    intro a S h
    rw [g_rdM]
    exact z_C_mns hp (fun _ _ h => h) a _ _ _ h
  | succ f ih =>
    intro a S h
    rw [g_rdM]
    exact z_C_mns hp ih a _ _ _ h
end CLO
theorem z_rd_text {e : Nat} (m x : Int32) (S : v_Sf) : ∀ a, ¬ z_rc e a → g_X5_readText e m x S a = S a := by
  have hp : ∀ (X : v_Sf) a i v, (∀ b, ¬ z_rc e b → X b = S b) → z_rc e a → ∀ b, ¬ z_rc e b → z_s X a i v b = S b := fun X a i v h q b n => by
    have ne : b ≠ a := fun m => n (by rw [m]; exact q)
    rw [z_sr ne]
    exact h b n
  exact z_C_text (Pr := fun X => ∀ b, ¬ z_rc e b → X b = S b) hp x _ _ _ (z_C_begin (Pr := fun X => ∀ b, ¬ z_rc e b → X b = S b) hp m (fun _ _ => rfl))
theorem z_rd_tt {e : Nat} (m : Int32) (S : v_Sf) : ∀ a, ¬ z_rc e a → g_X5_readTimetable e m S a = S a := by
  have hp : ∀ (X : v_Sf) a i v, (∀ b, ¬ z_rc e b → X b = S b) → z_rc e a → ∀ b, ¬ z_rc e b → z_s X a i v b = S b := fun X a i v h q b n => by
    have ne : b ≠ a := fun m => n (by rw [m]; exact q)
    rw [z_sr ne]
    exact h b n
  have h1 : ∀ b, ¬ z_rc e b → g_rdM2 (Int32.ofInt 0) (g_X5_begin e m S) b = S b := z_C_rdM (Pr := fun X => ∀ b, ¬ z_rc e b → X b = S b) hp _ _ _ (z_C_begin (Pr := fun X => ∀ b, ¬ z_rc e b → X b = S b) hp m (fun _ _ => rfl))
  unfold g_X5_readTimetable
  split
  · exact h1
  · exact z_C_fail (Pr := fun X => ∀ b, ¬ z_rc e b → X b = S b) hp _ _ h1
end PrtS44a
section PrtS44b
/-! bits -/
theorem z_toN {x : Int32} (h : 0 ≤ x.toInt) : x.toBitVec.toNat = x.toInt.toNat := by
  have e := z_ofN h
  have e2 : x.toBitVec = BitVec.ofInt 32 ((x.toInt.toNat : Nat) : Int) := by
    conv => lhs; rw [← e]
    rfl
  rw [e2, BitVec.ofInt_natCast, BitVec.toNat_ofNat, Nat.mod_eq_of_lt]
  have := Int32.toInt_lt x
  omega
theorem z_ofT {x : Int32} (h : x.toBitVec.toNat < 2147483648) : x.toInt = (x.toBitVec.toNat : Int) := by
  have e : x = z_i x.toBitVec.toNat := by
    refine Int32.toBitVec_inj.mp (BitVec.eq_of_toNat_eq ?_)
    show _ = (BitVec.ofInt 32 ((x.toBitVec.toNat : Nat) : Int)).toNat
    rw [BitVec.ofInt_natCast, BitVec.toNat_ofNat, Nat.mod_eq_of_lt (by omega)]
  conv => lhs; rw [e]
  exact z_it3 h
theorem z_lsb0 (x : Int32) : (x &&& Int32.ofInt 1 = 0) ↔ x.toBitVec.getLsbD 0 = false := by
  have h : (x &&& Int32.ofInt 1).toBitVec.toNat = x.toBitVec.toNat % 2 := by
    rw [Int32.toBitVec_and, BitVec.toNat_and, show (Int32.ofInt 1).toBitVec.toNat = 1 from rfl, Nat.and_one_is_mod]
  have g : x.toBitVec.getLsbD 0 = decide (x.toBitVec.toNat % 2 = 1) := by
    rw [BitVec.getLsbD, Nat.testBit_zero]
  rw [g, decide_eq_false_iff_not]
  constructor
  · intro e
    rw [e] at h
    have h0 : (0 : Int32).toBitVec.toNat = 0 := rfl
    omega
  · intro e
    refine Int32.toBitVec_inj.mp (BitVec.eq_of_toNat_eq ?_)
    have h0 : (0 : Int32).toBitVec.toNat = 0 := rfl
    rw [h, h0]
    omega
theorem z_shr (b : Int32) {g : Nat} (hg : g < 12) : (b >>> (z_i g &&& 31)).toBitVec = b.toBitVec.sshiftRight g := by
  match g, hg with
  | 0, _ => rfl
  | 1, _ => rfl
  | 2, _ => rfl
  | 3, _ => rfl
  | 4, _ => rfl
  | 5, _ => rfl
  | 6, _ => rfl
  | 7, _ => rfl
  | 8, _ => rfl
  | 9, _ => rfl
  | 10, _ => rfl
  | 11, _ => rfl
theorem z_bitL (b : Int32) {g : Nat} (hg : g < 12) : z_bit b g ↔ b.toBitVec.getLsbD g = true := by
  unfold z_bit
  rw [z_lsb0, z_shr b hg, BitVec.getLsbD_sshiftRight]
  simp [show g < 32 by omega]
theorem z_one_all : ∀ g k : Fin 12, (Int32.ofInt 1 <<< (z_i g.val &&& 31)).toBitVec.getLsbD k.val = decide (k.val = g.val) := by decide +kernel
theorem z_one_n : ∀ g : Fin 12, (Int32.ofInt 1 <<< (z_i g.val &&& 31)).toBitVec.toNat = 2 ^ g.val := by decide +kernel
/-- one more is told -/
theorem z_told_or {n : Nat} {b : Int32} {T : v_Sf} {r i : Nat} (hn : n ≤ 12) (h : z_told n (2 ^ n - 1 : Nat) b (T r)) (hi : i < n) {v : Int32} (hv : ¬ v = 0) : z_told n (2 ^ n - 1 : Nat) (b ||| (Int32.ofInt 1 <<< (z_i i &&& 31))) (z_s T r i v r) := by
  obtain ⟨⟨h1, h2⟩, h3⟩ := h
  have hb := z_toN h1
  have h2n : 2 ^ n ≤ 2 ^ 12 := Nat.pow_le_pow_right (by decide) hn
  have hp : 1 ≤ 2 ^ n := Nat.one_le_two_pow
  have hlt : b.toBitVec.toNat < 2 ^ n := by
    rw [hb]
    omega
  have ho := z_one_n ⟨i, by omega⟩
  simp only at ho
  have hor : (b ||| (Int32.ofInt 1 <<< (z_i i &&& 31))).toBitVec.toNat < 2 ^ n := by
    rw [Int32.toBitVec_or, BitVec.toNat_or, ho]
    exact Nat.or_lt_two_pow hlt (Nat.pow_lt_pow_right (by decide) hi)
  have hI := z_ofT (x := b ||| (Int32.ofInt 1 <<< (z_i i &&& 31))) (by omega)
  refine ⟨⟨by omega, by omega⟩, fun g hg => ?_⟩
  rw [z_bitL _ (by omega), Int32.toBitVec_or, BitVec.getLsbD_or]
  have h1g := z_one_all ⟨i, by omega⟩ ⟨g, by omega⟩
  simp only at h1g
  rw [h1g]
  by_cases q : g = i
  · subst q
    rw [z_ss]
    simp [hv]
  · rw [z_sn (by omega), ← h3 g hg, z_bitL _ (by omega)]
    simp [q]
theorem z_within {x m : Int32} : (f_X11_within x m = 0) ↔ ¬ (0 ≤ x.toInt ∧ x.toInt ≤ m.toInt) := by
  have e0 : (0 : Int32).toInt = 0 := rfl
  unfold f_X11_within
  split
  · rename_i q
    have := z_ltI2.mp q
    exact ⟨fun _ => by omega, fun _ => by decide⟩
  · rename_i q
    have q' : ¬ x.toInt < (0 : Int32).toInt := fun n => q (z_ltI2.mpr n)
    split
    · rename_i r
      have := z_ltI2.mp r
      exact ⟨fun _ => by omega, fun _ => by decide⟩
    · rename_i r
      have r' : ¬ m.toInt < x.toInt := fun n => r (z_ltI2.mpr n)
      exact ⟨fun n => absurd n (by decide), fun n => absurd ⟨by omega, by omega⟩ n⟩
theorem z_in0 {x : Int32} {lo hi : Int} : (z_in x lo hi = 0) ↔ ¬ (lo ≤ x.toInt ∧ x.toInt ≤ hi) := by
  unfold z_in
  rw [z_pb0, decide_eq_false_iff_not]
/-! the relation of all -/
noncomputable def z_Tp (S T : v_Sf) : Prop := (∀ i, i < 260 → S 46 i = T 100 i &&& Int32.ofInt 255 ∧ -128 ≤ (T 100 i).toInt ∧ (T 100 i).toInt ≤ 127) ∧ S 45 1 = T 99 1 ∧ 0 ≤ (T 99 1).toInt ∧ (T 99 1).toInt ≤ 260
noncomputable def z_Ot (S T : v_Sf) : Prop := z_told 4 (2 ^ 4 - 1 : Nat) (S 86 0) (T 156) ∧ z_co 4 (S 87) (T 157) 0 7 ∧ z_co 4 (S 88) (T 158) 0 255 ∧ z_told 10 (2 ^ 10 - 1 : Nat) (S 0 13) (T 159) ∧ z_co 10 (S 31) (T 160) 0 1023 ∧ z_told 5 (2 ^ 5 - 1 : Nat) (S 94 0) (T 162) ∧ z_co 5 (S 95) (T 163) 0 99 ∧ z_co 5 (S 96) (T 164) 0 1023
/-- what is kept: State 11 against the second half of the reference's aside rows -/
noncomputable def z_Ks (S T : v_Sf) : Prop := z_told 12 4095 (S 11 0) (fun g => T 137 (12 + g)) ∧ z_co 12 (S 12) (fun g => T 138 (12 + g)) 0 99 ∧ (∀ g, g < 12 → ¬ T 137 (12 + g) = 0 → z_qr (S 13 g) (T 139 (12 + g))) ∧ z_co 12 (S 14) (fun g => T 140 (12 + g)) 0 9 ∧ z_co 12 (S 15) (fun g => T 141 (12 + g)) 0 5 ∧ z_co 12 (S 16) (fun g => T 142 (12 + g)) 0 9 ∧ z_co 12 (S 17) (fun g => T 143 (12 + g)) 0 1023 ∧ z_told 5 31 (S 11 7) (fun k => T 144 (5 + k)) ∧ z_co 5 (S 18) (fun k => T 145 (5 + k)) 0 9 ∧ z_co 5 (S 19) (fun k => T 146 (5 + k)) 0 10 ∧ z_co 6 (S 20) (fun w => T 147 (6 + w)) 0 47 ∧ (S 11 11 = T 148 1 ∧ 0 ≤ (T 148 1).toInt ∧ (T 148 1).toInt ≤ 9999) ∧ S 11 12 = T 149 1 ∧ S 11 13 = T 150 1 ∧ (S 11 14 = T 151 1 ∧ 0 ≤ (T 151 1).toInt ∧ (T 151 1).toInt ≤ 65535)
noncomputable def z_Kp (S T : v_Sf) : Prop := S 0 14 = T 99 92 ∧ (¬ T 99 92 = 0 → z_Ks S T)
noncomputable def z_Rel (c b : Nat) (S T : v_Sf) : Prop := (∃ nc, z_Bs c 1 nc S T) ∧ z_PX 1 S T ∧ z_Tp S T ∧ z_Kp S T ∧ z_Ot S T ∧ S b 7 = T 99 17 ∧ T 99 25 = 0
theorem z_Ks_f {S T S' T' : v_Sf} (h : z_Ks S T) (f : ∀ a j, 11 ≤ a ∧ a ≤ 20 → S' a j = S a j) (g : ∀ a j, 137 ≤ a ∧ a ≤ 151 ∧ 1 ≤ j → T' a j = T a j) : z_Ks S' T' := by
  have fr : ∀ a, 11 ≤ a ∧ a ≤ 20 → S' a = S a := fun a q => funext fun j => f a j q
  obtain ⟨a1, a2, a3, a4, a5, a6, a7, a8, a9, a10, a11, a12, a13, a14, a15⟩ := h
  refine ⟨?_, ?_, fun i hi q => ?_, ?_, ?_, ?_, ?_, ?_, ?_, ?_, ?_, ?_, ?_, ?_, ?_⟩
  · rw [fr 11 (by omega), show (fun i => T' 137 (12 + i)) = fun i => T 137 (12 + i) from funext fun i => g _ _ (by omega)]
    exact a1
  · rw [fr 12 (by omega), show (fun i => T' 138 (12 + i)) = fun i => T 138 (12 + i) from funext fun i => g _ _ (by omega)]
    exact a2
  · rw [g 137 _ (by omega)] at q
    rw [fr 13 (by omega), g 139 _ (by omega)]
    exact a3 i hi q
  · rw [fr 14 (by omega), show (fun i => T' 140 (12 + i)) = fun i => T 140 (12 + i) from funext fun i => g _ _ (by omega)]
    exact a4
  · rw [fr 15 (by omega), show (fun i => T' 141 (12 + i)) = fun i => T 141 (12 + i) from funext fun i => g _ _ (by omega)]
    exact a5
  · rw [fr 16 (by omega), show (fun i => T' 142 (12 + i)) = fun i => T 142 (12 + i) from funext fun i => g _ _ (by omega)]
    exact a6
  · rw [fr 17 (by omega), show (fun i => T' 143 (12 + i)) = fun i => T 143 (12 + i) from funext fun i => g _ _ (by omega)]
    exact a7
  · rw [fr 11 (by omega), show (fun i => T' 144 (5 + i)) = fun i => T 144 (5 + i) from funext fun i => g _ _ (by omega)]
    exact a8
  · rw [fr 18 (by omega), show (fun i => T' 145 (5 + i)) = fun i => T 145 (5 + i) from funext fun i => g _ _ (by omega)]
    exact a9
  · rw [fr 19 (by omega), show (fun i => T' 146 (5 + i)) = fun i => T 146 (5 + i) from funext fun i => g _ _ (by omega)]
    exact a10
  · rw [fr 20 (by omega), show (fun i => T' 147 (6 + i)) = fun i => T 147 (6 + i) from funext fun i => g _ _ (by omega)]
    exact a11
  · rw [fr 11 (by omega), g 148 1 (by omega)]
    exact a12
  · rw [fr 11 (by omega), g 149 1 (by omega)]
    exact a13
  · rw [fr 11 (by omega), g 150 1 (by omega)]
    exact a14
  · rw [fr 11 (by omega), g 151 1 (by omega)]
    exact a15
theorem z_Ot_f {S T S' T' : v_Sf} (h : z_Ot S T) (f : ∀ a j, (a = 86 ∧ j = 0 ∨ a = 87 ∨ a = 88 ∨ a = 0 ∧ j = 13 ∨ a = 31 ∨ a = 94 ∧ j = 0 ∨ a = 95 ∨ a = 96) → S' a j = S a j) (g : ∀ a j, (156 ≤ a ∧ a ≤ 160 ∨ 162 ≤ a ∧ a ≤ 164) → T' a j = T a j) : z_Ot S' T' := by
  have gr : ∀ a, (156 ≤ a ∧ a ≤ 160 ∨ 162 ≤ a ∧ a ≤ 164) → T' a = T a := fun a q => funext fun j => g a j q
  have fr : ∀ a, (a = 87 ∨ a = 88 ∨ a = 31 ∨ a = 95 ∨ a = 96) → S' a = S a := fun a q => funext fun j => f a j (by omega)
  unfold z_Ot
  rw [f 86 0 (by omega), fr 87 (by omega), fr 88 (by omega), f 0 13 (by omega), fr 31 (by omega), f 94 0 (by omega), fr 95 (by omega), fr 96 (by omega), gr 156 (by omega), gr 157 (by omega), gr 158 (by omega), gr 159 (by omega), gr 160 (by omega), gr 162 (by omega), gr 163 (by omega), gr 164 (by omega)]
  exact h
theorem z_Tp_f {S T S' T' : v_Sf} (h : z_Tp S T) (f1 : S' 46 = S 46) (f2 : S' 45 1 = S 45 1) (g1 : T' 100 = T 100) (g2 : T' 99 1 = T 99 1) : z_Tp S' T' := by
  unfold z_Tp
  rw [f1, f2, g1, g2]
  exact h
/-- the tape is empty -/
theorem z_Tp_0 {S T S' T' : v_Sf} (h : z_Tp S T) (f1 : S' 46 = S 46) (f2 : S' 45 1 = 0) (g1 : T' 100 = T 100) (g2 : T' 99 1 = 0) : z_Tp S' T' := by
  unfold z_Tp
  rw [f1, f2, g1, g2]
  exact ⟨h.1, rfl, by decide, by decide⟩
/-- all but the State's part as it was -/
theorem z_Rel_f {c b : Nat} {S T S' T' : v_Sf} (h : z_Rel c b S T) (hB : ∃ nc, z_Bs c 1 nc S' T') (hP : z_PX 1 S' T') (hT : z_Tp S' T') (f : ∀ a j, (11 ≤ a ∧ a ≤ 20 ∨ a = 86 ∧ j = 0 ∨ a = 87 ∨ a = 88 ∨ a = 0 ∨ a = 31 ∨ a = 94 ∧ j = 0 ∨ a = 95 ∨ a = 96 ∨ a = b ∧ j = 7) → S' a j = S a j) (g : ∀ a j, (a = 99 ∧ (j = 17 ∨ j = 25 ∨ j = 92) ∨ 137 ≤ a ∧ a ≤ 151 ∧ 1 ≤ j ∨ 156 ≤ a ∧ a ≤ 160 ∨ 162 ≤ a ∧ a ≤ 164) → T' a j = T a j) : z_Rel c b S' T' := by
  obtain ⟨h1, h2, h3, ⟨k1, k2⟩, h5, h6, h7⟩ := h
  refine ⟨hB, hP, hT, ⟨?_, fun q => ?_⟩, z_Ot_f h5 (fun a j q => f a j (by omega)) (fun a j q => g a j (by omega)), ?_, ?_⟩
  · rw [f 0 14 (by omega), g 99 92 (by omega)]
    exact k1
  · rw [g 99 92 (by omega)] at q
    exact z_Ks_f (k2 q) (fun a j q => f a j (by omega)) (fun a j q => g a j (by omega))
  · rw [f b 7 (by omega), g 99 17 (by omega)]
    exact h6
  · rw [g 99 25 (by omega)]
    exact h7
end PrtS44b
section PrtS44c
/-! plain calls: both sides -/
theorem z_Bs_f {c s nc : Nat} {S T S' T' : v_Sf} (h : z_Bs c s nc S T) (f : ∀ a, (s < a ∧ a ≤ s + 8 ∨ 33 ≤ a ∧ a ≤ 44 ∨ a = 48 ∨ c ≤ a ∧ a ≤ c + 6 ∧ a ≠ c + 3) → S' a = S a) (fs : ∀ j, (j = 0 ∨ j = 7 ∨ j = 11 ∨ j = 12 ∨ j = 13) → S' s j = S s j) (g : ∀ a j, (a = 99 ∧ (j = 16 ∨ j = 60 ∨ j = 61 ∨ j = 62) ∨ 101 ≤ a ∧ a ≤ 106 ∨ 116 ≤ a ∧ a ≤ 132 ∧ a ≠ 128) → T' a j = T a j) : z_Bs c s nc S' T' := by
  obtain ⟨⟨a1, a2, a3, a4, a5, a6, a7, a8, a9, a10, a12, a13, a14⟩, b1, b3, b4, b5⟩ := h
  have gr : ∀ a, (101 ≤ a ∧ a ≤ 106 ∨ 116 ≤ a ∧ a ≤ 132 ∧ a ≠ 128) → T' a = T a := fun a q => funext (fun j => g a j (by omega))
  have g99 : ∀ j, (j = 16 ∨ j = 60 ∨ j = 61 ∨ j = 62) → T' 99 j = T 99 j := fun j q => g 99 j (by omega)
  refine ⟨⟨?_, ?_, ?_, ?_, ?_, ?_, ?_, ?_, ?_, ?_, ?_, ?_, ?_⟩, ?_, ?_, ?_, ?_⟩
  · rw [fs 0 (by omega), gr 116 (by omega)]
    exact a1
  · rw [f (s + 1) (by omega), gr 117 (by omega)]
    exact a2
  · rw [f (s + 2) (by omega), gr 116 (by omega), gr 118 (by omega)]
    exact a3
  · rw [f (s + 3) (by omega), gr 119 (by omega)]
    exact a4
  · rw [f (s + 4) (by omega), gr 120 (by omega)]
    exact a5
  · rw [f (s + 5) (by omega), gr 121 (by omega)]
    exact a6
  · rw [f (s + 6) (by omega), gr 122 (by omega)]
    exact a7
  · rw [fs 7 (by omega), gr 129 (by omega)]
    exact a8
  · rw [f (s + 7) (by omega), gr 130 (by omega)]
    exact a9
  · rw [f (s + 8) (by omega), gr 131 (by omega)]
    exact a10
  · rw [fs 11 (by omega), g99 60 (by omega)]
    exact a12
  · rw [fs 12 (by omega), g99 61 (by omega)]
    exact a13
  · rw [fs 13 (by omega), g99 62 (by omega)]
    exact a14
  · intro w hw
    rw [f (33 + 2 * w) (by omega), f (33 + 2 * w + 1) (by omega), gr 127 (by omega), gr 123 (by omega), gr 124 (by omega), gr 125 (by omega), gr 126 (by omega)]
    exact b1 w hw
  · rw [f 48 (by omega), gr 132 (by omega)]
    exact b3
  · exact z_LawR_t b4 (f _ (by omega)) (f _ (by omega)) (f _ (by omega)) (f _ (by omega)) (f _ (by omega)) (f _ (by omega)) (fun a j q => g a j (by omega))
  · rw [g99 16 (by omega)]
    exact b5
theorem z_Bs_st {c nc : Nat} (hc : z_cd c) {S T S' T' : v_Sf} (h : z_Bs c 1 nc S T) (h1 : z_St 1 S' T') (f : ∀ a, (33 ≤ a ∧ a ≤ 44 ∨ a = 48 ∨ c ≤ a ∧ a ≤ c + 6 ∧ a ≠ c + 3) → S' a = S a) (g : ∀ a j, (a = 99 ∧ j = 16 ∨ 101 ≤ a ∧ a ≤ 106 ∨ 123 ≤ a ∧ a ≤ 127 ∨ a = 132) → T' a j = T a j) : z_Bs c 1 nc S' T' := by
  obtain ⟨_, b1, b3, b4, b5⟩ := h
  have gr : ∀ a, (101 ≤ a ∧ a ≤ 106 ∨ 123 ≤ a ∧ a ≤ 127 ∨ a = 132) → T' a = T a := fun a q => funext fun j => g a j (by omega)
  refine ⟨h1, fun w hw => ?_, ?_, z_LawR_t b4 (f _ (by omega)) (f _ (by omega)) (f _ (by omega)) (f _ (by omega)) (f _ (by omega)) (f _ (by omega)) (fun a j q => g a j (by omega)), ?_⟩
  · rw [f (33 + 2 * w) (by omega), f (33 + 2 * w + 1) (by omega), gr 127 (by omega), gr 123 (by omega), gr 124 (by omega), gr 125 (by omega), gr 126 (by omega)]
    exact b1 w hw
  · rw [f 48 (by omega), gr 132 (by omega)]
    exact b3
  · rw [g 99 16 (by omega)]
    exact b5
theorem z_seed_ok {c b : Nat} (hc : z_cd c) (hb : z_cd b) {S T : v_Sf} (h : z_Rel c b S T) (x : Int32) : f_X11_seed x S = f_X12_seed x T ∧ z_Rel c b (g_X11_seed x S) (g_X12_seed x T) := by
  have hcn := z_cdl hc
  have hbn := z_cdl hb
  unfold f_X11_seed g_X11_seed f_X12_seed g_X12_seed
  by_cases q : 0 ≤ x.toInt ∧ x.toInt ≤ 65535
  · have n1 : ¬ f_X11_within x (Int32.ofInt 65535) = 0 := fun m => z_within.mp m q
    have n2 : ¬ z_in x 0 65535 = 0 := fun m => z_in0.mp m q
    simp only [if_pos n1, if_pos n2]
    obtain ⟨⟨nc, hB⟩, hP, hT, _⟩ := id h
    refine ⟨trivial, z_Rel_f h ⟨nc, z_Bs_f hB (fun a q => z_sr (by omega)) (fun j q => z_sn (by omega)) (fun a j q => z_sn (by omega))⟩ ⟨?_, ?_, ?_⟩ (z_Tp_f hT (z_sr (by decide)) (z_sn (by omega)) (z_sr (by decide)) (z_sn (by omega))) (fun a j q => z_sn (by omega)) (fun a j q => z_sn (by omega))⟩
    · rw [z_sr (show (1 + 9 : Nat) ≠ 1 by decide), z_sr (show (128 : Nat) ≠ 99 by decide)]
      exact hP.1
    · intro w hw
      rw [z_sr (show (128 : Nat) ≠ 99 by decide), z_sr (show (127 : Nat) ≠ 99 by decide)]
      exact hP.2.1 w hw
    · rw [z_ss, z_ss]
      exact ⟨rfl, q⟩
  · have n1 : ¬ ¬ f_X11_within x (Int32.ofInt 65535) = 0 := fun m => m (z_within.mpr q)
    have n2 : ¬ ¬ z_in x 0 65535 = 0 := fun m => m (z_in0.mpr q)
    simp only [if_neg n1, if_neg n2]
    exact ⟨trivial, h⟩
theorem z_told_eq {S T : v_Sf} (h : z_St 1 S T) (g : Int32) : f_X7_hasGust 1 g S = f_X12_isTold g T := by
  by_cases q : 0 ≤ g.toInt ∧ g.toInt ≤ 11
  · obtain ⟨k, hk, rfl⟩ : ∃ k, k < 12 ∧ g = z_i k := ⟨g.toInt.toNat, by omega, (z_ofN q.1).symm⟩
    have e := z_hasG2 (s := 1) h hk
    have ek : (z_i k).toInt.toNat = k := z_iin (by omega)
    unfold f_X12_isTold
    rw [if_neg (fun m => z_in0.mp m q), ek]
    by_cases t : T 116 k = 0
    · rw [if_pos t]
      exact e.mpr t
    · rw [if_neg t]
      have n := fun m => t (e.mp m)
      unfold f_X7_hasGust at n ⊢
      split
      · rename_i r
        exact absurd r (by rw [z_ltI2]; have e0 : (0 : Int32).toInt = 0 := rfl; omega)
      · split
        · rename_i r
          exact absurd r (by rw [z_leI2]; have e0 : (Int32.ofInt 12).toInt = 12 := rfl; omega)
        · split
          · rename_i r1 r2 r3
            rw [if_neg r1, if_neg r2, if_pos r3] at n
            exact absurd rfl n
          · rfl
  · unfold f_X12_isTold
    rw [if_pos (z_in0.mpr q)]
    unfold f_X7_hasGust
    split
    · rfl
    · split
      · rfl
      · rename_i r1 r2
        have e0 : (0 : Int32).toInt = 0 := rfl
        have e12 : (Int32.ofInt 12).toInt = 12 := rfl
        rw [z_ltI2] at r1
        rw [z_leI2] at r2
        exact absurd ⟨by omega, by omega⟩ q
theorem z_name_ok {c b : Nat} (hc : z_cd c) (hb : z_cd b) {S T : v_Sf} (h : z_Rel c b S T) (g q : Int32) : f_X11_name g q S = f_X12_name g q T ∧ z_Rel c b (g_X11_name g q S) (g_X12_name g q T) := by
  have hcn := z_cdl hc
  have hbn := z_cdl hb
  obtain ⟨⟨nc, hB⟩, hP, hT, _⟩ := id h
  have et := z_told_eq hB.1 g
  unfold f_X11_name g_X11_name f_X12_name g_X12_name
  rw [et]
  by_cases t : f_X12_isTold g T = 0
  · simp only [if_pos t]
    exact ⟨trivial, h⟩
  · simp only [if_neg t]
    by_cases r : 0 ≤ q.toInt ∧ q.toInt ≤ 7
    · have n1 : ¬ f_X11_within q (Int32.ofInt 7) = 0 := fun m => z_within.mp m r
      have n2 : ¬ z_in q 0 7 = 0 := fun m => z_in0.mp m r
      simp only [if_pos n1, if_pos n2]
      obtain ⟨a1, a2, a3, a4, a5, a6, a7, a8, a9, a10, a12, a13, a14⟩ := id hB.1
      have hS : z_St 1 (z_s S 3 g.toInt.toNat q) (z_s T 118 g.toInt.toNat q) := by
        refine ⟨?_, ?_, fun k hk m => ?_, ?_, ?_, ?_, ?_, ?_, ?_, ?_, ?_, ?_, ?_⟩
        · rw [z_sn (by omega), z_sr (by decide)]
          exact a1
        · rw [z_sr (by decide), z_sr (by decide)]
          exact a2
        · rw [z_sr (show (116 : Nat) ≠ 118 by decide)] at m
          by_cases e : k = g.toInt.toNat
          · rw [e, show (1 + 2 : Nat) = 3 from rfl, z_ss, z_ss]
            exact Or.inr ⟨rfl, r⟩
          · rw [z_sn (by omega), z_sn (by omega)]
            exact a3 k hk m
        · rw [z_sr (by decide), z_sr (by decide)]
          exact a4
        · rw [z_sr (by decide), z_sr (by decide)]
          exact a5
        · rw [z_sr (by decide), z_sr (by decide)]
          exact a6
        · rw [z_sr (by decide), z_sr (by decide)]
          exact a7
        · rw [z_sn (by omega), z_sr (by decide)]
          exact a8
        · rw [z_sr (by decide), z_sr (by decide)]
          exact a9
        · rw [z_sr (by decide), z_sr (by decide)]
          exact a10
        · rw [z_sn (by omega), z_sn (by omega)]
          exact a12
        · rw [z_sn (by omega), z_sn (by omega)]
          exact a13
        · rw [z_sn (by omega), z_sn (by omega)]
          exact a14
      exact ⟨trivial, z_Rel_f h ⟨nc, z_Bs_st hc hB hS (fun a m => z_sr (by omega)) (fun a j m => z_sn (by omega))⟩ (z_PX_f hP (z_sr (by decide)) (z_sn (by omega)) (z_sr (by decide)) (z_sr (by decide)) (z_sn (by omega))) (z_Tp_f hT (z_sr (by decide)) (z_sn (by omega)) (z_sr (by decide)) (z_sn (by omega))) (fun a j m => z_sn (by omega)) (fun a j m => z_sn (by omega))⟩
    · have n1 : ¬ ¬ f_X11_within q (Int32.ofInt 7) = 0 := fun m => m (z_within.mpr r)
      have n2 : ¬ ¬ z_in q 0 7 = 0 := fun m => m (z_in0.mpr r)
      simp only [if_neg n1, if_neg n2]
      exact ⟨trivial, h⟩
theorem z_needs_ok {c b : Nat} (hc : z_cd c) (hb : z_cd b) {S T : v_Sf} (h : z_Rel c b S T) (l q : Int32) : f_X11_needs l q S = f_X12_needs l q T ∧ z_Rel c b (g_X11_needs l q S) (g_X12_needs l q T) := by
  have hcn := z_cdl hc
  have hbn := z_cdl hb
  obtain ⟨⟨nc, hB⟩, hP, hT, _⟩ := id h
  unfold f_X11_needs g_X11_needs f_X12_needs g_X12_needs f_X12_areHabits
  by_cases r1 : 0 ≤ l.toInt ∧ l.toInt ≤ 9
  · have n1 : ¬ f_X11_within l (Int32.ofInt 9) = 0 := fun m => z_within.mp m r1
    have n2 : ¬ z_in l 0 9 = 0 := fun m => z_in0.mp m r1
    simp only [if_neg n1, if_neg n2]
    by_cases r2 : 0 ≤ q.toInt ∧ q.toInt ≤ 1023
    · have n3 : ¬ f_X11_within q (Int32.ofInt 1023) = 0 := fun m => z_within.mp m r2
      have n4 : ¬ z_in q 0 1023 = 0 := fun m => z_in0.mp m r2
      simp only [if_neg n3, if_neg n4]
      have hx : (f_X12_has q l = 0) ↔ ((q >>> (l &&& 31)) &&& Int32.ofInt 1 = 0) := by
        unfold f_X12_has
        rcases z_and1 (q >>> (l &&& 31)) with e | e
        · rw [e]
          exact ⟨fun _ => rfl, fun _ => by decide⟩
        · rw [e]
          exact ⟨fun m => absurd m (by decide), fun m => absurd m (by decide)⟩
      by_cases r3 : (q >>> (l &&& 31)) &&& Int32.ofInt 1 = 0
      · simp only [if_pos r3, if_pos (hx.mpr r3)]
        obtain ⟨b0, b1, b3, b4, b5⟩ := id hB
        refine ⟨trivial, z_Rel_f h ⟨nc, ⟨?_, fun w hw => ?_, z_co_u b3 r2, ?_, ?_⟩⟩ (z_PX_f hP (z_sr (by decide)) (z_sn (by omega)) (z_sr (by decide)) (z_sr (by decide)) (z_sn (by omega))) (z_Tp_f hT (z_sr (by decide)) (z_sn (by omega)) (z_sr (by decide)) (z_sn (by omega))) (fun a j m => z_sn (by omega)) (fun a j m => z_sn (by omega))⟩
        · obtain ⟨a1, a2, a3, a4, a5, a6, a7, a8, a9, a10, a12, a13, a14⟩ := b0
          refine ⟨?_, ?_, ?_, ?_, ?_, ?_, ?_, ?_, ?_, ?_, ?_, ?_, ?_⟩
          · rw [z_sr (by decide), z_sr (by decide)]
            exact a1
          · rw [z_sr (by decide), z_sr (by decide)]
            exact a2
          · rw [z_sr (show (1 + 2 : Nat) ≠ 48 by decide), z_sr (show (116 : Nat) ≠ 132 by decide), z_sr (show (118 : Nat) ≠ 132 by decide)]
            exact a3
          · rw [z_sr (by decide), z_sr (by decide)]
            exact a4
          · rw [z_sr (by decide), z_sr (by decide)]
            exact a5
          · rw [z_sr (by decide), z_sr (by decide)]
            exact a6
          · rw [z_sr (by decide), z_sr (by decide)]
            exact a7
          · rw [z_sr (by decide), z_sr (by decide)]
            exact a8
          · rw [z_sr (by decide), z_sr (by decide)]
            exact a9
          · rw [z_sr (by decide), z_sr (by decide)]
            exact a10
          · rw [z_sr (by decide), z_sr (by decide)]
            exact a12
          · rw [z_sr (by decide), z_sr (by decide)]
            exact a13
          · rw [z_sr (by decide), z_sr (by decide)]
            exact a14
        · rw [z_sr (show 33 + 2 * w ≠ 48 by omega), z_sr (show 33 + 2 * w + 1 ≠ 48 by omega), z_sr (show 127 ≠ 132 by decide), z_sr (show 123 ≠ 132 by decide), z_sr (show 124 ≠ 132 by decide), z_sr (show 125 ≠ 132 by decide), z_sr (show 126 ≠ 132 by decide)]
          exact b1 w hw
        · exact z_LawR_t b4 (z_sr (by omega)) (z_sr (by omega)) (z_sr (by omega)) (z_sr (by omega)) (z_sr (by omega)) (z_sr (by omega)) (fun a j m => z_sn (by omega))
        · rw [z_sr (show 99 ≠ 132 by decide)]
          exact b5
      · simp only [if_neg r3, if_neg (fun m => r3 (hx.mp m))]
        exact ⟨trivial, h⟩
    · have n3 : f_X11_within q (Int32.ofInt 1023) = 0 := z_within.mpr r2
      have n4 : z_in q 0 1023 = 0 := z_in0.mpr r2
      simp only [if_pos n3, if_pos n4]
      exact ⟨trivial, h⟩
  · have n1 : f_X11_within l (Int32.ofInt 9) = 0 := z_within.mpr r1
    have n2 : z_in l 0 9 = 0 := z_in0.mpr r1
    simp only [if_pos n1, if_pos n2]
    exact ⟨trivial, h⟩
end PrtS44c
section PrtS44d
/-! plain calls: gust, habit, nurse, ward, moves, wind, home, house -/
theorem z_nar1 : u_nar 2 (Int32.ofInt 1) = Int32.ofInt 1 := by decide
theorem z_n1n : ¬ Int32.ofInt 1 = 0 := by decide
theorem z_andR {h m : Int32} (hh : 0 ≤ h.toInt ∧ h.toInt ≤ 1023) : 0 ≤ (h &&& m).toInt ∧ (h &&& m).toInt ≤ 1023 := by
  have hb := z_toN hh.1
  have le : (h &&& m).toBitVec.toNat ≤ h.toBitVec.toNat := by
    rw [Int32.toBitVec_and, BitVec.toNat_and]
    exact Nat.and_le_left
  have hI := z_ofT (x := h &&& m) (by omega)
  omega
theorem z_habit_ok {c b : Nat} (hc : z_cd c) (hb : z_cd b) {S T : v_Sf} (h : z_Rel c b S T) (g q a : Int32) : f_X11_habit g q a S = f_X12_habit g q a T ∧ z_Rel c b (g_X11_habit g q a S) (g_X12_habit g q a T) := by
  have hcn := z_cdl hc
  have hbn := z_cdl hb
  obtain ⟨⟨nc, hB⟩, hP, hT, _⟩ := id h
  have et := z_told_eq hB.1 g
  have key : ∀ k v, 0 ≤ v.toInt ∧ v.toInt ≤ 1023 → z_Rel c b (z_s S 7 k v) (z_s T 122 k v) := fun k v hv => z_Rel_f h ⟨nc, z_Bs_st hc hB (z_St_hab (Or.inl rfl) hB.1 k hv) (fun a m => z_sr (by omega)) (fun a j m => z_sn (by omega))⟩ (z_PX_f hP (z_sr (by decide)) (z_sn (by omega)) (z_sr (by decide)) (z_sr (by decide)) (z_sn (by omega))) (z_Tp_f hT (z_sr (by decide)) (z_sn (by omega)) (z_sr (by decide)) (z_sn (by omega))) (fun a j m => z_sn (by omega)) (fun a j m => z_sn (by omega))
  unfold f_X11_habit g_X11_habit f_X12_habit g_X12_habit
  rw [et]
  by_cases t : f_X12_isTold g T = 0
  · simp only [if_pos t]
    exact ⟨trivial, h⟩
  · simp only [if_neg t]
    have hg : 0 ≤ g.toInt ∧ g.toInt ≤ 11 := by
      refine Classical.byContradiction (fun m => t ?_)
      unfold f_X12_isTold
      rw [if_pos (z_in0.mpr m)]
      rfl
    have hb2 := hB.1.2.2.2.2.2.2.1 g.toInt.toNat (by omega)
    have e7 : S 7 g.toInt.toNat = T 122 g.toInt.toNat := hb2.1
    by_cases r : 0 ≤ q.toInt ∧ q.toInt ≤ 9
    · have n1 : ¬ f_X11_within q (Int32.ofInt 9) = 0 := fun m => z_within.mp m r
      have n2 : ¬ z_in q 0 9 = 0 := fun m => z_in0.mp m r
      simp only [if_pos n1, if_pos n2]
      refine ⟨trivial, ?_⟩
      rw [e7]
      by_cases a0 : a = 0
      · simp only [if_pos a0]
        exact key _ _ (z_andR hb2.2)
      · simp only [if_neg a0]
        exact key _ _ (z_orR hb2.2 r)
    · have n1 : ¬ ¬ f_X11_within q (Int32.ofInt 9) = 0 := fun m => m (z_within.mpr r)
      have n2 : ¬ ¬ z_in q 0 9 = 0 := fun m => m (z_in0.mpr r)
      simp only [if_neg n1, if_neg n2]
      exact ⟨trivial, h⟩
theorem z_nurse_ok {c b : Nat} (hc : z_cd c) (hb : z_cd b) {S T : v_Sf} (h : z_Rel c b S T) (k a : Int32) : f_X11_nurse k a S = f_X12_nurse k a T ∧ z_Rel c b (g_X11_nurse k a S) (g_X12_nurse k a T) := by
  have hcn := z_cdl hc
  have hbn := z_cdl hb
  obtain ⟨⟨nc, hB⟩, hP, hT, _⟩ := id h
  unfold f_X11_nurse g_X11_nurse f_X12_nurse g_X12_nurse
  by_cases r1 : 0 ≤ k.toInt ∧ k.toInt ≤ 4
  · have n1 : ¬ f_X11_within k (Int32.ofInt 4) = 0 := fun m => z_within.mp m r1
    have n2 : ¬ z_in k 0 4 = 0 := fun m => z_in0.mp m r1
    simp only [if_neg n1, if_neg n2]
    by_cases r2 : 0 ≤ a.toInt ∧ a.toInt ≤ 9
    · have n3 : ¬ f_X11_within a (Int32.ofInt 9) = 0 := fun m => z_within.mp m r2
      have n4 : ¬ z_in a 0 9 = 0 := fun m => z_in0.mp m r2
      simp only [if_pos n3, if_pos n4]
      obtain ⟨i, hi, rfl⟩ : ∃ i, i < 5 ∧ k = z_i i := ⟨k.toInt.toNat, by omega, (z_ofN r1.1).symm⟩
      have ei : (z_i i).toInt.toNat = i := z_iin (by omega)
      rw [ei, z_nar1]
      obtain ⟨a1, a2, a3, a4, a5, a6, a7, a8, a9, a10, a12, a13, a14⟩ := id hB.1
      have t5 := z_told_or (n := 5) (by decide) a8 hi z_n1n
      have hS : z_St 1 (z_s (z_s (z_s S 1 7 ((S 1 7) ||| ((Int32.ofInt 1) <<< (z_i i &&& 31)))) 8 i a) 9 i (Int32.ofInt 0)) (z_s (z_s (z_s T 129 i (Int32.ofInt 1)) 130 i a) 131 i (Int32.ofInt 0)) := by
        refine ⟨?_, ?_, ?_, ?_, ?_, ?_, ?_, ?_, ?_, ?_, ?_, ?_, ?_⟩
        · rw [z_sn (by omega), z_sn (by omega), z_sn (by omega), z_sr (by decide), z_sr (by decide), z_sr (by decide)]
          exact a1
        · rw [z_sr (by decide), z_sr (by decide), z_sr (by decide), z_sr (by decide), z_sr (by decide), z_sr (by decide)]
          exact a2
        · rw [z_sr (show (1 + 2 : Nat) ≠ 9 by decide), z_sr (show (1 + 2 : Nat) ≠ 8 by decide), z_sr (show (1 + 2 : Nat) ≠ 1 by decide), z_sr (show (116 : Nat) ≠ 131 by decide), z_sr (show (116 : Nat) ≠ 130 by decide), z_sr (show (116 : Nat) ≠ 129 by decide), z_sr (show (118 : Nat) ≠ 131 by decide), z_sr (show (118 : Nat) ≠ 130 by decide), z_sr (show (118 : Nat) ≠ 129 by decide)]
          exact a3
        · rw [z_sr (by decide), z_sr (by decide), z_sr (by decide), z_sr (by decide), z_sr (by decide), z_sr (by decide)]
          exact a4
        · rw [z_sr (by decide), z_sr (by decide), z_sr (by decide), z_sr (by decide), z_sr (by decide), z_sr (by decide)]
          exact a5
        · rw [z_sr (by decide), z_sr (by decide), z_sr (by decide), z_sr (by decide), z_sr (by decide), z_sr (by decide)]
          exact a6
        · rw [z_sr (by decide), z_sr (by decide), z_sr (by decide), z_sr (by decide), z_sr (by decide), z_sr (by decide)]
          exact a7
        · rw [z_sn (by omega), z_sn (by omega), z_ss, z_sr (by decide), z_sr (by decide)]
          exact t5
        · intro j hj
          have q := a9 j hj
          rw [z_sn (by omega), show (1 + 7 : Nat) = 8 from rfl, z_sn (a := 131) (by omega)]
          by_cases e : j = i
          · rw [e, z_ss, z_ss]
            exact ⟨rfl, r2⟩
          · rw [z_sn (by omega), z_sn (by omega), z_sn (by omega), z_sn (by omega)]
            exact q
        · intro j hj
          have q := a10 j hj
          rw [show (1 + 8 : Nat) = 9 from rfl]
          by_cases e : j = i
          · rw [e, z_ss, z_ss]
            exact ⟨rfl, by decide, by decide⟩
          · rw [z_sn (by omega), z_sn (by omega), z_sn (by omega), z_sn (by omega), z_sn (by omega), z_sn (by omega)]
            exact q
        · rw [z_sn (by omega), z_sn (by omega), z_sn (by omega), z_sr (by decide), z_sr (by decide), z_sr (by decide)]
          exact a12
        · rw [z_sn (by omega), z_sn (by omega), z_sn (by omega), z_sr (by decide), z_sr (by decide), z_sr (by decide)]
          exact a13
        · rw [z_sn (by omega), z_sn (by omega), z_sn (by omega), z_sr (by decide), z_sr (by decide), z_sr (by decide)]
          exact a14
      refine ⟨trivial, z_Rel_f h ⟨nc, z_Bs_st hc hB hS (fun a m => ?_) (fun a j m => ?_)⟩ (z_PX_f hP ?_ ?_ ?_ ?_ ?_) (z_Tp_f hT ?_ ?_ ?_ ?_) (fun a j m => ?_) (fun a j m => ?_)⟩
      · rw [z_sr (by omega), z_sr (by omega), z_sr (by omega)]
      · rw [z_sn (by omega), z_sn (by omega), z_sn (by omega)]
      · rw [z_sr (by decide), z_sr (by decide), z_sr (by decide)]
      · rw [z_sn (by omega), z_sn (by omega), z_sn (by omega)]
      · rw [z_sr (by decide), z_sr (by decide), z_sr (by decide)]
      · rw [z_sr (by decide), z_sr (by decide), z_sr (by decide)]
      · rw [z_sn (by omega), z_sn (by omega), z_sn (by omega)]
      · rw [z_sr (by decide), z_sr (by decide), z_sr (by decide)]
      · rw [z_sn (by omega), z_sn (by omega), z_sn (by omega)]
      · rw [z_sr (by decide), z_sr (by decide), z_sr (by decide)]
      · rw [z_sn (by omega), z_sn (by omega), z_sn (by omega)]
      · rw [z_sn (by omega), z_sn (by omega), z_sn (by omega)]
      · rw [z_sn (by omega), z_sn (by omega), z_sn (by omega)]
    · have n3 : ¬ ¬ f_X11_within a (Int32.ofInt 9) = 0 := fun m => m (z_within.mpr r2)
      have n4 : ¬ ¬ z_in a 0 9 = 0 := fun m => m (z_in0.mpr r2)
      simp only [if_neg n3, if_neg n4]
      exact ⟨trivial, h⟩
  · have n1 : f_X11_within k (Int32.ofInt 4) = 0 := z_within.mpr r1
    have n2 : z_in k 0 4 = 0 := z_in0.mpr r1
    simp only [if_pos n1, if_pos n2]
    exact ⟨trivial, h⟩
/-- winds, homes, houses -/
theorem z_Rel_o {c b : Nat} (hc : z_cd c) (hb : z_cd b) {S T S' T' : v_Sf} (h : z_Rel c b S T) (hO : z_Ot S' T') (f : ∀ a j, ¬ (a = 86 ∨ a = 87 ∨ a = 88 ∨ a = 0 ∧ j = 13 ∨ a = 31 ∨ a = 94 ∨ a = 95 ∨ a = 96) → S' a j = S a j) (g : ∀ a j, ¬ (156 ≤ a ∧ a ≤ 164) → T' a j = T a j) : z_Rel c b S' T' := by
  have hcn := z_cdl hc
  have hbn := z_cdl hb
  obtain ⟨⟨nc, hB⟩, hP, hT, ⟨k1, k2⟩, h5, h6, h7⟩ := h
  refine ⟨⟨nc, z_Bs_f hB (fun a q => funext fun j => f a j (by omega)) (fun j q => f 1 j (by omega)) (fun a j q => g a j (by omega))⟩, z_PX_f hP (funext fun j => f _ j (by omega)) (f _ _ (by omega)) (funext fun j => g _ _ (by omega)) (funext fun j => g _ _ (by omega)) (g _ _ (by omega)), z_Tp_f hT (funext fun j => f _ j (by omega)) (f _ _ (by omega)) (funext fun j => g _ _ (by omega)) (g _ _ (by omega)), ⟨?_, fun q => ?_⟩, hO, ?_, ?_⟩
  · rw [f 0 14 (by omega), g 99 92 (by omega)]
    exact k1
  · rw [g 99 92 (by omega)] at q
    exact z_Ks_f (k2 q) (fun a j q => f a j (by omega)) (fun a j q => g a j (by omega))
  · rw [f b 7 (by omega), g 99 17 (by omega)]
    exact h6
  · rw [g 99 25 (by omega)]
    exact h7
end PrtS44d
section PrtS44e
/-! plain calls: wind, home, house, ward, moves, gust -/
theorem z_wind_ok {c b : Nat} (hc : z_cd c) (hb : z_cd b) {S T : v_Sf} (h : z_Rel c b S T) (k q l : Int32) : f_X11_wind k q l S = f_X12_wind k q l T ∧ z_Rel c b (g_X11_wind k q l S) (g_X12_wind k q l T) := by
  unfold f_X11_wind g_X11_wind f_X12_wind g_X12_wind
  by_cases r0 : 0 ≤ k.toInt ∧ k.toInt ≤ 3
  · have a0 : ¬ f_X11_within k (Int32.ofInt 3) = 0 := fun m => z_within.mp m r0
    have b0 : ¬ z_in k 0 3 = 0 := fun m => z_in0.mp m r0
    simp only [if_neg a0, if_neg b0]
    by_cases r1 : 0 ≤ q.toInt ∧ q.toInt ≤ 7
    · have a1 : ¬ f_X11_within q (Int32.ofInt 7) = 0 := fun m => z_within.mp m r1
      have b1 : ¬ z_in q 0 7 = 0 := fun m => z_in0.mp m r1
      simp only [if_neg a1, if_neg b1]
      by_cases r2 : 0 ≤ l.toInt ∧ l.toInt ≤ 255
      · have a2 : ¬ f_X11_within l (Int32.ofInt 255) = 0 := fun m => z_within.mp m r2
        have b2 : ¬ z_in l 0 255 = 0 := fun m => z_in0.mp m r2
        simp only [if_pos a2, if_pos b2]
        obtain ⟨i, hi, rfl⟩ : ∃ i, i < 4 ∧ k = z_i i := ⟨k.toInt.toNat, by omega, (z_ofN r0.1).symm⟩
        have ei : (z_i i).toInt.toNat = i := z_iin (by omega)
        rw [ei, z_nar1]
        obtain ⟨o1, o2, o3, o4, o5, o6, o7, o8⟩ := id h.2.2.2.2.1
        refine ⟨trivial, z_Rel_o hc hb h ⟨?_, ?_, ?_, ?_, ?_, ?_, ?_, ?_⟩ (fun a j m => ?_) (fun a j m => ?_)⟩
        · rw [z_sn (by omega), z_sn (by omega), z_ss, z_sr (by decide), z_sr (by decide)]
          exact z_told_or (n := 4) (by decide) o1 hi z_n1n
        · intro j hj
          have q := o2 j hj
          by_cases e : j = i
          · rw [e, z_sn (by omega), z_ss, z_sn (by omega), z_ss]
            exact ⟨rfl, r1⟩
          · rw [z_sn (by omega), z_sn (by omega), z_sn (by omega), z_sn (by omega), z_sn (by omega), z_sn (by omega)]
            exact q
        · intro j hj
          have q := o3 j hj
          by_cases e : j = i
          · rw [e, z_ss, z_ss]
            exact ⟨rfl, r2⟩
          · rw [z_sn (by omega), z_sn (by omega), z_sn (by omega), z_sn (by omega), z_sn (by omega), z_sn (by omega)]
            exact q
        · rw [z_sn (by omega), z_sn (by omega), z_sn (by omega), z_sr (by decide), z_sr (by decide), z_sr (by decide)]
          exact o4
        · rw [z_sr (by decide), z_sr (by decide), z_sr (by decide), z_sr (by decide), z_sr (by decide), z_sr (by decide)]
          exact o5
        · rw [z_sn (by omega), z_sn (by omega), z_sn (by omega), z_sr (by decide), z_sr (by decide), z_sr (by decide)]
          exact o6
        · rw [z_sr (by decide), z_sr (by decide), z_sr (by decide), z_sr (by decide), z_sr (by decide), z_sr (by decide)]
          exact o7
        · rw [z_sr (by decide), z_sr (by decide), z_sr (by decide), z_sr (by decide), z_sr (by decide), z_sr (by decide)]
          exact o8
        · rw [z_sn (by omega), z_sn (by omega), z_sn (by omega)]
        · rw [z_sn (by omega), z_sn (by omega), z_sn (by omega)]
      · have a2 : ¬ ¬ f_X11_within l (Int32.ofInt 255) = 0 := fun m => m (z_within.mpr r2)
        have b2 : ¬ ¬ z_in l 0 255 = 0 := fun m => m (z_in0.mpr r2)
        simp only [if_neg a2, if_neg b2]
        exact ⟨trivial, h⟩
    · have a1 : f_X11_within q (Int32.ofInt 7) = 0 := z_within.mpr r1
      have b1 : z_in q 0 7 = 0 := z_in0.mpr r1
      simp only [if_pos a1, if_pos b1]
      exact ⟨trivial, h⟩
  · have a0 : f_X11_within k (Int32.ofInt 3) = 0 := z_within.mpr r0
    have b0 : z_in k 0 3 = 0 := z_in0.mpr r0
    simp only [if_pos a0, if_pos b0]
    exact ⟨trivial, h⟩
theorem z_home_ok {c b : Nat} (hc : z_cd c) (hb : z_cd b) {S T : v_Sf} (h : z_Rel c b S T) (k u : Int32) : f_X11_home k u S = f_X12_home k u T ∧ z_Rel c b (g_X11_home k u S) (g_X12_home k u T) := by
  unfold f_X11_home g_X11_home f_X12_home g_X12_home
  unfold f_X12_areHabits
  by_cases r0 : 0 ≤ k.toInt ∧ k.toInt ≤ 9
  · have a0 : ¬ f_X11_within k (Int32.ofInt 9) = 0 := fun m => z_within.mp m r0
    have b0 : ¬ z_in k 0 9 = 0 := fun m => z_in0.mp m r0
    simp only [if_neg a0, if_neg b0]
    by_cases r1 : 0 ≤ u.toInt ∧ u.toInt ≤ 1023
    · have a1 : ¬ f_X11_within u (Int32.ofInt 1023) = 0 := fun m => z_within.mp m r1
      have b1 : ¬ z_in u 0 1023 = 0 := fun m => z_in0.mp m r1
      simp only [if_pos a1, if_pos b1]
      obtain ⟨i, hi, rfl⟩ : ∃ i, i < 10 ∧ k = z_i i := ⟨k.toInt.toNat, by omega, (z_ofN r0.1).symm⟩
      have ei : (z_i i).toInt.toNat = i := z_iin (by omega)
      rw [ei, z_nar1]
      obtain ⟨o1, o2, o3, o4, o5, o6, o7, o8⟩ := id h.2.2.2.2.1
      refine ⟨trivial, z_Rel_o hc hb h ⟨?_, ?_, ?_, ?_, ?_, ?_, ?_, ?_⟩ (fun a j m => ?_) (fun a j m => ?_)⟩
      · rw [z_sn (by omega), z_sn (by omega), z_sr (by decide), z_sr (by decide)]
        exact o1
      · rw [z_sr (by decide), z_sr (by decide), z_sr (by decide), z_sr (by decide)]
        exact o2
      · rw [z_sr (by decide), z_sr (by decide), z_sr (by decide), z_sr (by decide)]
        exact o3
      · rw [z_sn (by omega), z_ss, z_sr (by decide)]
        exact z_told_or (n := 10) (by decide) o4 hi z_n1n
      · intro j hj
        have q := o5 j hj
        by_cases e : j = i
        · rw [e, z_ss, z_ss]
          exact ⟨rfl, r1⟩
        · rw [z_sn (by omega), z_sn (by omega), z_sn (by omega), z_sn (by omega)]
          exact q
      · rw [z_sn (by omega), z_sn (by omega), z_sr (by decide), z_sr (by decide)]
        exact o6
      · rw [z_sr (by decide), z_sr (by decide), z_sr (by decide), z_sr (by decide)]
        exact o7
      · rw [z_sr (by decide), z_sr (by decide), z_sr (by decide), z_sr (by decide)]
        exact o8
      · rw [z_sn (by omega), z_sn (by omega)]
      · rw [z_sn (by omega), z_sn (by omega)]
    · have a1 : ¬ ¬ f_X11_within u (Int32.ofInt 1023) = 0 := fun m => m (z_within.mpr r1)
      have b1 : ¬ ¬ z_in u 0 1023 = 0 := fun m => m (z_in0.mpr r1)
      simp only [if_neg a1, if_neg b1]
      exact ⟨trivial, h⟩
  · have a0 : f_X11_within k (Int32.ofInt 9) = 0 := z_within.mpr r0
    have b0 : z_in k 0 9 = 0 := z_in0.mpr r0
    simp only [if_pos a0, if_pos b0]
    exact ⟨trivial, h⟩
theorem z_house_ok {c b : Nat} (hc : z_cd c) (hb : z_cd b) {S T : v_Sf} (h : z_Rel c b S T) (k r u : Int32) : f_X11_house k r u S = f_X12_house k r u T ∧ z_Rel c b (g_X11_house k r u S) (g_X12_house k r u T) := by
  unfold f_X11_house g_X11_house f_X12_house g_X12_house
  unfold f_X12_areHabits
  by_cases r0 : 0 ≤ k.toInt ∧ k.toInt ≤ 4
  · have a0 : ¬ f_X11_within k (Int32.ofInt 4) = 0 := fun m => z_within.mp m r0
    have b0 : ¬ z_in k 0 4 = 0 := fun m => z_in0.mp m r0
    simp only [if_neg a0, if_neg b0]
    by_cases r1 : 0 ≤ r.toInt ∧ r.toInt ≤ 99
    · have a1 : ¬ f_X11_within r (Int32.ofInt 99) = 0 := fun m => z_within.mp m r1
      have b1 : ¬ z_in r 0 99 = 0 := fun m => z_in0.mp m r1
      simp only [if_neg a1, if_neg b1]
      by_cases r2 : 0 ≤ u.toInt ∧ u.toInt ≤ 1023
      · have a2 : ¬ f_X11_within u (Int32.ofInt 1023) = 0 := fun m => z_within.mp m r2
        have b2 : ¬ z_in u 0 1023 = 0 := fun m => z_in0.mp m r2
        simp only [if_pos a2, if_pos b2]
        obtain ⟨i, hi, rfl⟩ : ∃ i, i < 5 ∧ k = z_i i := ⟨k.toInt.toNat, by omega, (z_ofN r0.1).symm⟩
        have ei : (z_i i).toInt.toNat = i := z_iin (by omega)
        rw [ei, z_nar1]
        obtain ⟨o1, o2, o3, o4, o5, o6, o7, o8⟩ := id h.2.2.2.2.1
        refine ⟨trivial, z_Rel_o hc hb h ⟨?_, ?_, ?_, ?_, ?_, ?_, ?_, ?_⟩ (fun a j m => ?_) (fun a j m => ?_)⟩
        · rw [z_sn (by omega), z_sn (by omega), z_sn (by omega), z_sr (by decide), z_sr (by decide), z_sr (by decide)]
          exact o1
        · rw [z_sr (by decide), z_sr (by decide), z_sr (by decide), z_sr (by decide), z_sr (by decide), z_sr (by decide)]
          exact o2
        · rw [z_sr (by decide), z_sr (by decide), z_sr (by decide), z_sr (by decide), z_sr (by decide), z_sr (by decide)]
          exact o3
        · rw [z_sn (by omega), z_sn (by omega), z_sn (by omega), z_sr (by decide), z_sr (by decide), z_sr (by decide)]
          exact o4
        · rw [z_sr (by decide), z_sr (by decide), z_sr (by decide), z_sr (by decide), z_sr (by decide), z_sr (by decide)]
          exact o5
        · rw [z_sn (by omega), z_sn (by omega), z_ss, z_sr (by decide), z_sr (by decide)]
          exact z_told_or (n := 5) (by decide) o6 hi z_n1n
        · intro j hj
          have q := o7 j hj
          by_cases e : j = i
          · rw [e, z_sn (by omega), z_ss, z_sn (by omega), z_ss]
            exact ⟨rfl, r1⟩
          · rw [z_sn (by omega), z_sn (by omega), z_sn (by omega), z_sn (by omega), z_sn (by omega), z_sn (by omega)]
            exact q
        · intro j hj
          have q := o8 j hj
          by_cases e : j = i
          · rw [e, z_ss, z_ss]
            exact ⟨rfl, r2⟩
          · rw [z_sn (by omega), z_sn (by omega), z_sn (by omega), z_sn (by omega), z_sn (by omega), z_sn (by omega)]
            exact q
        · rw [z_sn (by omega), z_sn (by omega), z_sn (by omega)]
        · rw [z_sn (by omega), z_sn (by omega), z_sn (by omega)]
      · have a2 : ¬ ¬ f_X11_within u (Int32.ofInt 1023) = 0 := fun m => m (z_within.mpr r2)
        have b2 : ¬ ¬ z_in u 0 1023 = 0 := fun m => m (z_in0.mpr r2)
        simp only [if_neg a2, if_neg b2]
        exact ⟨trivial, h⟩
    · have a1 : f_X11_within r (Int32.ofInt 99) = 0 := z_within.mpr r1
      have b1 : z_in r 0 99 = 0 := z_in0.mpr r1
      simp only [if_pos a1, if_pos b1]
      exact ⟨trivial, h⟩
  · have a0 : f_X11_within k (Int32.ofInt 4) = 0 := z_within.mpr r0
    have b0 : z_in k 0 4 = 0 := z_in0.mpr r0
    simp only [if_pos a0, if_pos b0]
    exact ⟨trivial, h⟩
theorem z_moves_ok {c b : Nat} (hc : z_cd c) (hb : z_cd b) {S T : v_Sf} (h : z_Rel c b S T) (g w : Int32) : f_X11_moves g w S = f_X12_moves g w T ∧ z_Rel c b (g_X11_moves g w S) (g_X12_moves g w T) := by
  have hcn := z_cdl hc
  have hbn := z_cdl hb
  obtain ⟨⟨nc, hB⟩, hP, hT, _⟩ := id h
  have et := z_told_eq hB.1 g
  unfold f_X11_moves g_X11_moves f_X12_moves g_X12_moves f_X12_isWard
  rw [et]
  by_cases t : f_X12_isTold g T = 0
  · simp only [if_pos t]
    refine ⟨by split <;> rfl, ?_⟩
    split <;> exact h
  · simp only [if_neg t]
    have hg : 0 ≤ g.toInt ∧ g.toInt ≤ 11 := by
      refine Classical.byContradiction (fun m => t ?_)
      unfold f_X12_isTold
      rw [if_pos (z_in0.mpr m)]
      rfl
    by_cases r : 0 ≤ w.toInt ∧ w.toInt ≤ 5
    · have r' : 0 ≤ w.toInt ∧ w.toInt < ((6 : Nat) : Int) := by omega
      have n2 : ¬ z_in w 0 5 = 0 := fun m => z_in0.mp m r
      have wd := hB.1.2.2.2.2.1 g.toInt.toNat (by omega)
      have e5 : S 5 g.toInt.toNat = T 120 g.toInt.toNat := wd.1
      have my := z_many0 hB.1.1 hB.1.2.2.2.2.1 w
      have rm := (hB.2.1 w.toInt.toNat (by omega)).2.2.1
      simp only [if_pos r', if_neg n2, e5, my.2, rm]
      by_cases q : T 120 g.toInt.toNat = w
      · simp only [if_neg (not_not_intro q), if_pos q]
        exact ⟨trivial, h⟩
      · simp only [if_pos q, if_neg q]
        by_cases q2 : f_X12_manyIn w T < T 123 w.toInt.toNat
        · simp only [if_pos q2]
          obtain ⟨a1, a2, a3, a4, a5, a6, a7, a8, a9, a10, a12, a13, a14⟩ := id hB.1
          have hS : z_St 1 (z_s S 5 g.toInt.toNat w) (z_s T 120 g.toInt.toNat w) := by
            refine ⟨?_, ?_, ?_, ?_, z_co_u a5 r, ?_, ?_, ?_, ?_, ?_, ?_, ?_, ?_⟩
            · rw [z_sn (by omega), z_sr (by decide)]
              exact a1
            · rw [z_sr (by decide), z_sr (by decide)]
              exact a2
            · rw [z_sr (show (1 + 2 : Nat) ≠ 5 by decide), z_sr (show (116 : Nat) ≠ 120 by decide), z_sr (show (118 : Nat) ≠ 120 by decide)]
              exact a3
            · rw [z_sr (by decide), z_sr (by decide)]
              exact a4
            · rw [z_sr (by decide), z_sr (by decide)]
              exact a6
            · rw [z_sr (by decide), z_sr (by decide)]
              exact a7
            · rw [z_sn (by omega), z_sr (by decide)]
              exact a8
            · rw [z_sr (by decide), z_sr (by decide)]
              exact a9
            · rw [z_sr (by decide), z_sr (by decide)]
              exact a10
            · rw [z_sn (by omega), z_sn (by omega)]
              exact a12
            · rw [z_sn (by omega), z_sn (by omega)]
              exact a13
            · rw [z_sn (by omega), z_sn (by omega)]
              exact a14
          exact ⟨trivial, z_Rel_f h ⟨nc, z_Bs_st hc hB hS (fun a m => z_sr (by omega)) (fun a j m => z_sn (by omega))⟩ (z_PX_f hP (z_sr (by decide)) (z_sn (by omega)) (z_sr (by decide)) (z_sr (by decide)) (z_sn (by omega))) (z_Tp_f hT (z_sr (by decide)) (z_sn (by omega)) (z_sr (by decide)) (z_sn (by omega))) (fun a j m => z_sn (by omega)) (fun a j m => z_sn (by omega))⟩
        · simp only [if_neg q2]
          exact ⟨trivial, h⟩
    · have r' : ¬ (0 ≤ w.toInt ∧ w.toInt < ((6 : Nat) : Int)) := by omega
      have n2 : z_in w 0 5 = 0 := z_in0.mpr r
      simp only [if_neg r', if_pos n2]
      exact ⟨trivial, h⟩
end PrtS44e
section PrtS44f
/-! months, law, rules: the calls -/
noncomputable def z_B3 (s : Nat) (S T : v_Sf) : Prop := z_St s S T ∧ z_Wa S T ∧ z_co 10 (S 48) (T 132) 0 1023
theorem z_B3_f {s : Nat} {S T S' T' : v_Sf} (h : z_B3 s S T) (f : ∀ a, (s < a ∧ a ≤ s + 8 ∨ 33 ≤ a ∧ a ≤ 44 ∨ a = 48) → S' a = S a) (fs : ∀ j, (j = 0 ∨ j = 7 ∨ j = 11 ∨ j = 12 ∨ j = 13) → S' s j = S s j) (g : ∀ a j, (a = 99 ∧ (j = 60 ∨ j = 61 ∨ j = 62) ∨ 116 ≤ a ∧ a ≤ 132 ∧ a ≠ 128) → T' a j = T a j) : z_B3 s S' T' := by
  obtain ⟨⟨a1, a2, a3, a4, a5, a6, a7, a8, a9, a10, a12, a13, a14⟩, b1, b3⟩ := h
  have gr : ∀ a, (116 ≤ a ∧ a ≤ 132 ∧ a ≠ 128) → T' a = T a := fun a q => funext (fun j => g a j (by omega))
  have g99 : ∀ j, (j = 60 ∨ j = 61 ∨ j = 62) → T' 99 j = T 99 j := fun j q => g 99 j (by omega)
  refine ⟨⟨?_, ?_, ?_, ?_, ?_, ?_, ?_, ?_, ?_, ?_, ?_, ?_, ?_⟩, ?_, ?_⟩
  · rw [fs 0 (by omega), gr 116 (by omega)]
    exact a1
  · rw [f (s + 1) (by omega), gr 117 (by omega)]
    exact a2
  · rw [f (s + 2) (by omega), gr 116 (by omega), gr 118 (by omega)]
    exact a3
  · rw [f (s + 3) (by omega), gr 119 (by omega)]
    exact a4
  · rw [f (s + 4) (by omega), gr 120 (by omega)]
    exact a5
  · rw [f (s + 5) (by omega), gr 121 (by omega)]
    exact a6
  · rw [f (s + 6) (by omega), gr 122 (by omega)]
    exact a7
  · rw [fs 7 (by omega), gr 129 (by omega)]
    exact a8
  · rw [f (s + 7) (by omega), gr 130 (by omega)]
    exact a9
  · rw [f (s + 8) (by omega), gr 131 (by omega)]
    exact a10
  · rw [fs 11 (by omega), g99 60 (by omega)]
    exact a12
  · rw [fs 12 (by omega), g99 61 (by omega)]
    exact a13
  · rw [fs 13 (by omega), g99 62 (by omega)]
    exact a14
  · intro w hw
    rw [f (33 + 2 * w) (by omega), f (33 + 2 * w + 1) (by omega), gr 127 (by omega), gr 123 (by omega), gr 124 (by omega), gr 125 (by omega), gr 126 (by omega)]
    exact b1 w hw
  · rw [f 48 (by omega), gr 132 (by omega)]
    exact b3
theorem z_by_T {S T : v_Sf} (h : z_Tp S T) : z_by (S 46) := by
  intro i hi
  rw [(h.1 i hi).1]
  have e : (T 100 i &&& Int32.ofInt 255).toBitVec.toNat ≤ 255 := by
    rw [Int32.toBitVec_and, BitVec.toNat_and]
    exact Nat.and_le_right
  have := z_ofT (x := T 100 i &&& Int32.ofInt 255) (by omega)
  omega
theorem z_mons_rel {c b : Nat} (hc : z_cd c) (hb : z_cd b) {S T : v_Sf} (h : z_Rel c b S T) (m : Int32) : f_X11_months c b m S = f_X12_months m T ∧ z_Rel c b (g_X11_months c b m S) (g_X12_months m T) := by
  have hcn := z_cdl hc
  have hbn := z_cdl hb
  obtain ⟨⟨nc, hB⟩, hP, hT, _⟩ := id h
  obtain ⟨e1, ⟨e2, e3⟩, f1, f2⟩ := z_months_ok hc hb hB hP m
  refine ⟨e1, z_Rel_f h ⟨nc, e2⟩ e3 (z_Tp_f hT ?_ ?_ ?_ ?_) (fun a j q => ?_) (fun a j q => ?_)⟩
  · exact funext fun j => f1 _ _ (by unfold z_mcG z_mcB z_mc; omega)
  · exact f1 _ _ (by unfold z_mcG z_mcB z_mc; omega)
  · exact funext fun j => f2 _ _ (by unfold z_mmG z_mmB z_mm; omega)
  · exact f2 _ _ (by unfold z_mmG z_mmB z_mm; omega)
  · exact f1 _ _ (by unfold z_mcG z_mcB z_mc; omega)
  · exact f2 _ _ (by unfold z_mmG z_mmB z_mm; omega)
/-- what a text's reading leaves of the relation -/
theorem z_text_rel {c b e c' b' : Nat} (hc : z_cd c) (hb : z_cd b) (he : z_cd e) {S T S' T' : v_Sf} (h : z_Rel c b S T) (f : ∀ a j, ¬ z_rc e a → ¬ (a = 45 ∧ j = 1) → S' a j = S a j) (f45 : S' 45 1 = 0) (g : ∀ a j, ¬ (a = 99 ∧ (j = 1 ∨ j = 3 ∨ j = 4 ∨ j = 5 ∨ j = 6 ∨ j = 7 ∨ j = 8 ∨ j = 9 ∨ j = 16 ∨ j = 17 ∨ j = 24 ∨ j = 25)) → ¬ (101 ≤ a ∧ a ≤ 113) → T' a j = T a j) (g1 : T' 99 1 = 0) (g25 : T' 99 25 = 0) (hL : ∃ nc, z_LawR c' S' T' nc ∧ T' 99 16 = z_i nc) (h17 : S' b' 7 = T' 99 17) : z_Rel c' b' S' T' := by
  have hcn := z_cdl hc
  have hbn := z_cdl hb
  have hen := z_cdl he
  obtain ⟨⟨nc, hB⟩, hP, hT, ⟨k1, k2⟩, h5, h6, h7⟩ := h
  obtain ⟨nc', l1, l2⟩ := hL
  have b3 : z_B3 1 S' T' := z_B3_f ⟨hB.1, hB.2.1, hB.2.2.1⟩ (fun a q => funext fun j => f a j (by unfold z_rc; omega) (by omega)) (fun j q => f 1 j (by unfold z_rc; omega) (by omega)) (fun a j q => g a j (by omega) (by omega))
  refine ⟨⟨nc', b3.1, b3.2.1, b3.2.2, l1, l2⟩, z_PX_f hP (funext fun j => f _ j (by unfold z_rc; omega) (by omega)) (f _ _ (by unfold z_rc; omega) (by omega)) (funext fun j => g _ _ (by omega) (by omega)) (funext fun j => g _ _ (by omega) (by omega)) (g _ _ (by omega) (by omega)), z_Tp_0 hT (funext fun j => f _ j (by unfold z_rc; omega) (by omega)) f45 (funext fun j => g _ _ (by omega) (by omega)) g1, ⟨?_, fun q => ?_⟩, z_Ot_f h5 (fun a j q => f a j (by unfold z_rc; omega) (by omega)) (fun a j q => g a j (by omega) (by omega)), h17, g25⟩
  · rw [f 0 14 (by unfold z_rc; omega) (by omega), g 99 92 (by omega) (by omega)]
    exact k1
  · rw [g 99 92 (by omega) (by omega)] at q
    exact z_Ks_f (k2 q) (fun a j q => f a j (by unfold z_rc; omega) (by omega)) (fun a j q => g a j (by omega) (by omega))
theorem z_pos {n : Nat} (h : 1 ≤ n) (h2 : n ≤ 1000) : ¬ z_i n < 0 ∧ ¬ z_i n ≤ 0 := by
  rw [show (0 : Int32) = z_i 0 from rfl, z_ilt (by omega) (by omega), z_ile (by omega) (by omega)]
  omega
theorem z_law_rel {c b e : Nat} (hc : z_cd c) (hb : z_cd b) (he : z_cd e) (hec : e ≠ c) (heb : e ≠ b) {S T : v_Sf} (h : z_Rel c b S T) (a : Int32) : f_X11_law c e a S = f_X12_law a T ∧ (f_X11_law c e a S ≤ 0 → z_Rel c b (g_X11_law c e a S) (g_X12_law a T)) ∧ (¬ f_X11_law c e a S ≤ 0 → z_Rel e b (g_X11_law c e a S) (g_X12_law a T)) := by
  have hcn := z_cdl hc
  have hbn := z_cdl hb
  have hen := z_cdl he
  obtain ⟨⟨nc, hB⟩, hP, hT, hK, hO, h17, h25⟩ := id h
  have m1 : Int32.ofInt (-1) ≤ 0 := by decide
  unfold f_X11_law g_X11_law f_X12_law g_X12_law
  by_cases r : (1 ≤ a.toInt ∧ a.toInt ≤ 240) ∧ a ≤ T 99 1
  · obtain ⟨n, hn, rfl⟩ : ∃ n, (1 ≤ n ∧ n ≤ 240) ∧ a = z_i n := ⟨a.toInt.toNat, by omega, (z_ofN (by omega)).symm⟩
    have e1 : ¬ z_i n < Int32.ofInt 1 := by
      rw [show Int32.ofInt 1 = z_i 1 from rfl, z_ilt (by omega) (by omega)]
      omega
    have e2 : ¬ Int32.ofInt 240 < z_i n := by
      rw [show Int32.ofInt 240 = z_i 240 from rfl, z_ilt (by omega) (by omega)]
      omega
    have e3 : z_i n ≤ S 45 1 := by
      rw [hT.2.1]
      exact r.2
    have e4 : ¬ z_in (z_i n) 1 240 = 0 := fun m => z_in0.mp m r.1
    simp only [if_neg e1, if_neg e2, if_pos e3, if_neg e4, if_pos r.2, ite_self]
    have fS : ∀ x j, ¬ z_rc e x → ¬ (x = 45 ∧ j = 1) → g_X8_empty (g_X5_readText e (z_i n) (Int32.ofInt 1) S) x j = S x j := fun x j q1 q2 => by
      unfold g_X8_empty
      rw [z_sn q2, z_rd_text (e := e) _ _ S x q1]
    have f45 : g_X8_empty (g_X5_readText e (z_i n) (Int32.ofInt 1) S) 45 1 = 0 := by
      unfold g_X8_empty
      rw [z_ss]
      rfl
    have r45 : ∀ x j, x ≠ 45 → g_X8_empty (g_X5_readText e (z_i n) (Int32.ofInt 1) S) x j = g_X5_readText e (z_i n) (Int32.ofInt 1) S x j := fun x j q => z_sn (fun m => q m.1)
    have rb : S b 7 = g_X8_empty (g_X5_readText e (z_i n) (Int32.ofInt 1) S) b 7 := (fS b 7 (by unfold z_rc; omega) (by omega)).symm
    rcases z_law_ok he (z_by_T hT) (S := S) (T := T) (n := n) (fun i _ => rfl) (fun i hi => (hT.1 i hi).1.symm) hn.2 e3 h25 with ⟨g1, g2, g3, g4, g5⟩ | ⟨k, k1, k2, k3, k4, k5, k6, k7, k8⟩
    · have g1' : f_X12_takesText (z_i n) (Int32.ofInt 0) T < 0 := by
        rw [g2]
        exact g1
      have le : f_X5_readText e (z_i n) (Int32.ofInt 1) S ≤ 0 := by
        rw [z_leI2]
        have := z_ltI2.mp g1
        omega
      simp only [if_pos g1']
      refine ⟨g2.symm, fun _ => ?_, fun q => absurd le q⟩
      refine z_text_rel hc hb he h fS f45 (fun x j q1 q2 => g3 x j (by omega) (by omega)) g5 g4 ⟨nc, z_LawR_t hB.2.2.2.1 (funext fun j => fS _ j (by unfold z_rc; omega) (by omega)) (funext fun j => fS _ j (by unfold z_rc; omega) (by omega)) (funext fun j => fS _ j (by unfold z_rc; omega) (by omega)) (funext fun j => fS _ j (by unfold z_rc; omega) (by omega)) (funext fun j => fS _ j (by unfold z_rc; omega) (by omega)) (funext fun j => fS _ j (by unfold z_rc; omega) (by omega)) (fun x j q => g3 x j (by omega) (by omega)), ?_⟩ ?_
      · rw [g3 99 16 (by omega) (by omega)]
        exact hB.2.2.2.2
      · rw [← rb, g3 99 17 (by omega) (by omega)]
        exact h17
    · have np := z_pos k1 (by omega)
      rw [k3, k4]
      simp only [if_neg np.1]
      refine ⟨trivial, fun q => absurd q np.2, fun _ => ?_⟩
      refine z_text_rel hc hb he h fS f45 (fun x j q1 q2 => by rw [z_sn (by omega)]; exact k6 x j (by omega) (by omega) (by omega) (by omega)) (by rw [z_sn (by omega)]; exact k8) (by rw [z_sn (by omega)]; exact k7) ⟨k, z_LawR_t k5 (funext fun j => r45 _ j (by omega)) (funext fun j => r45 _ j (by omega)) (funext fun j => r45 _ j (by omega)) (funext fun j => r45 _ j (by omega)) (funext fun j => r45 _ j (by omega)) (funext fun j => r45 _ j (by omega)) (fun x j q => z_sn (by omega)), z_ss⟩ ?_
      rw [← rb, z_sn (by omega), k6 99 17 (by omega) (by omega) (by omega) (by omega)]
      exact h17
  · have eC : (if a < Int32.ofInt 1 then S else (if Int32.ofInt 240 < a then S else (if a ≤ S 45 1 then g_X8_empty (g_X5_readText e a (Int32.ofInt 1) S) else S))) = S ∧ (if a < Int32.ofInt 1 then Int32.ofInt (-1) else (if Int32.ofInt 240 < a then Int32.ofInt (-1) else (if a ≤ S 45 1 then (if f_X5_readText e a (Int32.ofInt 1) S ≤ 0 then f_X5_readText e a (Int32.ofInt 1) S else f_X5_readText e a (Int32.ofInt 1) S) else Int32.ofInt (-1)))) = Int32.ofInt (-1) := by
      by_cases q1 : a < Int32.ofInt 1
      · simp only [if_pos q1]
        exact ⟨trivial, trivial⟩
      · by_cases q2 : Int32.ofInt 240 < a
        · simp only [if_neg q1, if_pos q2]
          exact ⟨trivial, trivial⟩
        · have q3 : ¬ a ≤ S 45 1 := by
            intro m
            rw [hT.2.1] at m
            rw [z_ltI2, show (Int32.ofInt 1).toInt = 1 from rfl] at q1
            rw [z_ltI2, show (Int32.ofInt 240).toInt = 240 from rfl] at q2
            exact r ⟨⟨by omega, by omega⟩, m⟩
          simp only [if_neg q1, if_neg q2, if_neg q3]
          exact ⟨trivial, trivial⟩
    rw [eC.1, eC.2]
    by_cases q : z_in a 1 240 = 0
    · simp only [if_pos q]
      exact ⟨trivial, fun _ => h, fun m => absurd m1 m⟩
    · have q3 : ¬ a ≤ T 99 1 := by
        intro m
        refine r ⟨?_, m⟩
        exact Classical.byContradiction (fun z => q (z_in0.mpr z))
      simp only [if_neg q, if_neg q3]
      exact ⟨trivial, fun _ => h, fun m => absurd m1 m⟩
end PrtS44f
section PrtS44g
theorem z_rules_rel {c b e : Nat} (hc : z_cd c) (hb : z_cd b) (he : z_cd e) (hec : e ≠ c) (heb : e ≠ b) {S T : v_Sf} (h : z_Rel c b S T) (a : Int32) : f_X11_rules b e a S = f_X12_rules a T ∧ (f_X11_rules b e a S ≤ 0 → z_Rel c b (g_X11_rules b e a S) (g_X12_rules a T)) ∧ (¬ f_X11_rules b e a S ≤ 0 → z_Rel c e (g_X11_rules b e a S) (g_X12_rules a T)) := by
  have hcn := z_cdl hc
  have hbn := z_cdl hb
  have hen := z_cdl he
  obtain ⟨⟨nc, hB⟩, hP, hT, hK, hO, h17, h25⟩ := id h
  have m1 : Int32.ofInt (-1) ≤ 0 := by decide
  unfold f_X11_rules g_X11_rules f_X12_rules g_X12_rules
  by_cases r : (1 ≤ a.toInt ∧ a.toInt ≤ 240) ∧ a ≤ T 99 1
  · obtain ⟨n, hn, rfl⟩ : ∃ n, (1 ≤ n ∧ n ≤ 240) ∧ a = z_i n := ⟨a.toInt.toNat, by omega, (z_ofN (by omega)).symm⟩
    have e1 : ¬ z_i n < Int32.ofInt 1 := by
      rw [show Int32.ofInt 1 = z_i 1 from rfl, z_ilt (by omega) (by omega)]
      omega
    have e2 : ¬ Int32.ofInt 240 < z_i n := by
      rw [show Int32.ofInt 240 = z_i 240 from rfl, z_ilt (by omega) (by omega)]
      omega
    have e3 : z_i n ≤ S 45 1 := by
      rw [hT.2.1]
      exact r.2
    have e4 : ¬ z_in (z_i n) 1 240 = 0 := fun m => z_in0.mp m r.1
    simp only [if_neg e1, if_neg e2, if_pos e3, if_neg e4, if_pos r.2, ite_self]
    have fS : ∀ x j, ¬ z_rc e x → ¬ (x = 45 ∧ j = 1) → g_X8_empty (g_X5_readText e (z_i n) (Int32.ofInt 0) S) x j = S x j := fun x j q1 q2 => by
      unfold g_X8_empty
      rw [z_sn q2, z_rd_text (e := e) _ _ S x q1]
    have f45 : g_X8_empty (g_X5_readText e (z_i n) (Int32.ofInt 0) S) 45 1 = 0 := by
      unfold g_X8_empty
      rw [z_ss]
      rfl
    have r45 : ∀ x j, x ≠ 45 → g_X8_empty (g_X5_readText e (z_i n) (Int32.ofInt 0) S) x j = g_X5_readText e (z_i n) (Int32.ofInt 0) S x j := fun x j q => z_sn (fun m => q m.1)
    have rb : S b 7 = g_X8_empty (g_X5_readText e (z_i n) (Int32.ofInt 0) S) b 7 := (fS b 7 (by unfold z_rc; omega) (by omega)).symm
    rcases z_rul_ok he (z_by_T hT) (S := S) (T := T) (n := n) (fun i _ => rfl) (fun i hi => (hT.1 i hi).1.symm) hn.2 e3 h25 with ⟨g1, g2, g3, g4, g5⟩ | ⟨k, k1, k2, k3, k4, k5, k6, k7, k8⟩
    · have g1' : f_X12_takesText (z_i n) (Int32.ofInt 1) T < 0 := by
        rw [g2]
        exact g1
      have le : f_X5_readText e (z_i n) (Int32.ofInt 0) S ≤ 0 := by
        rw [z_leI2]
        have := z_ltI2.mp g1
        omega
      simp only [if_pos g1']
      refine ⟨g2.symm, fun _ => ?_, fun q => absurd le q⟩
      refine z_text_rel hc hb he h fS f45 (fun x j q1 q2 => g3 x j (by omega) (by omega)) g5 g4 ⟨nc, z_LawR_t hB.2.2.2.1 (funext fun j => fS _ j (by unfold z_rc; omega) (by omega)) (funext fun j => fS _ j (by unfold z_rc; omega) (by omega)) (funext fun j => fS _ j (by unfold z_rc; omega) (by omega)) (funext fun j => fS _ j (by unfold z_rc; omega) (by omega)) (funext fun j => fS _ j (by unfold z_rc; omega) (by omega)) (funext fun j => fS _ j (by unfold z_rc; omega) (by omega)) (fun x j q => g3 x j (by omega) (by omega)), ?_⟩ ?_
      · rw [g3 99 16 (by omega) (by omega)]
        exact hB.2.2.2.2
      · rw [← rb, g3 99 17 (by omega) (by omega)]
        exact h17
    · have np := z_pos k1 (by omega)
      rw [k3, k4]
      simp only [if_neg np.1]
      refine ⟨trivial, fun q => absurd q np.2, fun _ => ?_⟩
      refine z_text_rel hc hb he h fS f45 (fun x j q1 q2 => by rw [z_sn (by omega)]; exact k6 x j (by omega) (by omega) (by omega) (by omega)) (by rw [z_sn (by omega)]; exact k8) (by rw [z_sn (by omega)]; exact k7) ⟨nc, z_LawR_t hB.2.2.2.1 (funext fun j => fS _ j (by unfold z_rc; omega) (by omega)) (funext fun j => fS _ j (by unfold z_rc; omega) (by omega)) (funext fun j => fS _ j (by unfold z_rc; omega) (by omega)) (funext fun j => fS _ j (by unfold z_rc; omega) (by omega)) (funext fun j => fS _ j (by unfold z_rc; omega) (by omega)) (funext fun j => fS _ j (by unfold z_rc; omega) (by omega)) (fun x j q => by rw [z_sn (by omega)]; exact k6 x j (by omega) (by omega) (by omega) (by omega)), ?_⟩ ?_
      · rw [z_sn (by omega), k6 99 16 (by omega) (by omega) (by omega) (by omega)]
        exact hB.2.2.2.2
      · rw [z_ss, r45 _ _ (by omega)]
        exact k5
  · have eC : (if a < Int32.ofInt 1 then S else (if Int32.ofInt 240 < a then S else (if a ≤ S 45 1 then g_X8_empty (g_X5_readText e a (Int32.ofInt 0) S) else S))) = S ∧ (if a < Int32.ofInt 1 then Int32.ofInt (-1) else (if Int32.ofInt 240 < a then Int32.ofInt (-1) else (if a ≤ S 45 1 then (if f_X5_readText e a (Int32.ofInt 0) S ≤ 0 then f_X5_readText e a (Int32.ofInt 0) S else f_X5_readText e a (Int32.ofInt 0) S) else Int32.ofInt (-1)))) = Int32.ofInt (-1) := by
      by_cases q1 : a < Int32.ofInt 1
      · simp only [if_pos q1]
        exact ⟨trivial, trivial⟩
      · by_cases q2 : Int32.ofInt 240 < a
        · simp only [if_neg q1, if_pos q2]
          exact ⟨trivial, trivial⟩
        · have q3 : ¬ a ≤ S 45 1 := by
            intro m
            rw [hT.2.1] at m
            rw [z_ltI2, show (Int32.ofInt 1).toInt = 1 from rfl] at q1
            rw [z_ltI2, show (Int32.ofInt 240).toInt = 240 from rfl] at q2
            exact r ⟨⟨by omega, by omega⟩, m⟩
          simp only [if_neg q1, if_neg q2, if_neg q3]
          exact ⟨trivial, trivial⟩
    rw [eC.1, eC.2]
    by_cases q : z_in a 1 240 = 0
    · simp only [if_pos q]
      exact ⟨trivial, fun _ => h, fun m => absurd m1 m⟩
    · have q3 : ¬ a ≤ T 99 1 := by
        intro m
        refine r ⟨?_, m⟩
        exact Classical.byContradiction (fun z => q (z_in0.mpr z))
      simp only [if_neg q, if_neg q3]
      exact ⟨trivial, fun _ => h, fun m => absurd m1 m⟩
end PrtS44g
section PrtS44h
/-! timetable: the call -/
theorem z_St_f {s : Nat} {S T S' T' : v_Sf} (h : z_St s S T) (f : ∀ a, (s < a ∧ a ≤ s + 8) → S' a = S a) (fs : ∀ j, (j = 0 ∨ j = 7 ∨ j = 11 ∨ j = 12 ∨ j = 13) → S' s j = S s j) (g : ∀ a j, (a = 99 ∧ (j = 60 ∨ j = 61 ∨ j = 62) ∨ 116 ≤ a ∧ a ≤ 122 ∨ 129 ≤ a ∧ a ≤ 131) → T' a j = T a j) : z_St s S' T' := by
  obtain ⟨a1, a2, a3, a4, a5, a6, a7, a8, a9, a10, a12, a13, a14⟩ := h
  have gr : ∀ a, (116 ≤ a ∧ a ≤ 122 ∨ 129 ≤ a ∧ a ≤ 131) → T' a = T a := fun a q => funext (fun j => g a j (by omega))
  have g99 : ∀ j, (j = 60 ∨ j = 61 ∨ j = 62) → T' 99 j = T 99 j := fun j q => g 99 j (by omega)
  refine ⟨?_, ?_, ?_, ?_, ?_, ?_, ?_, ?_, ?_, ?_, ?_, ?_, ?_⟩
  · rw [fs 0 (by omega), gr 116 (by omega)]
    exact a1
  · rw [f (s + 1) (by omega), gr 117 (by omega)]
    exact a2
  · rw [f (s + 2) (by omega), gr 116 (by omega), gr 118 (by omega)]
    exact a3
  · rw [f (s + 3) (by omega), gr 119 (by omega)]
    exact a4
  · rw [f (s + 4) (by omega), gr 120 (by omega)]
    exact a5
  · rw [f (s + 5) (by omega), gr 121 (by omega)]
    exact a6
  · rw [f (s + 6) (by omega), gr 122 (by omega)]
    exact a7
  · rw [fs 7 (by omega), gr 129 (by omega)]
    exact a8
  · rw [f (s + 7) (by omega), gr 130 (by omega)]
    exact a9
  · rw [f (s + 8) (by omega), gr 131 (by omega)]
    exact a10
  · rw [fs 11 (by omega), g99 60 (by omega)]
    exact a12
  · rw [fs 12 (by omega), g99 61 (by omega)]
    exact a13
  · rw [fs 13 (by omega), g99 62 (by omega)]
    exact a14
theorem z_tab_f {c b e : Nat} (hc : z_cd c) (hb : z_cd b) (he : z_cd e) (hec : e ≠ c) (heb : e ≠ b) {S T S' T' : v_Sf} (h : z_Rel c b S T) (f : ∀ a j, ¬ z_rc e a → ¬ (a = 45 ∧ j = 1) → S' a j = S a j) (f45 : S' 45 1 = 0) (g : ∀ a j, ¬ (a = 99 ∧ (j = 1 ∨ j = 3 ∨ j = 4 ∨ j = 5 ∨ j = 64 ∨ j = 65 ∨ j = 66)) → ¬ (133 ≤ a ∧ a ≤ 136) → T' a j = T a j) (g1 : T' 99 1 = 0) : z_Rel c b S' T' := by
  have hcn := z_cdl hc
  have hbn := z_cdl hb
  have hen := z_cdl he
  obtain ⟨⟨nc, hB⟩, hP, hT, _⟩ := id h
  have fr : ∀ a, (a < 45 ∨ a = 46 ∨ a = 48 ∨ c ≤ a ∧ a ≤ c + 6) → S' a = S a := fun a q => funext fun j => f a j (by unfold z_rc; omega) (by omega)
  refine z_Rel_f h ⟨nc, z_Bs_f hB (fun a q => fr a (by omega)) (fun j q => by rw [fr 1 (by omega)]) (fun a j q => g a j (by omega) (by omega))⟩ (z_PX_f hP (fr _ (by omega)) (by rw [fr 1 (by omega)]) (funext fun j => g _ _ (by omega) (by omega)) (funext fun j => g _ _ (by omega) (by omega)) (g _ _ (by omega) (by omega))) (z_Tp_0 hT (fr _ (by omega)) f45 (funext fun j => g _ _ (by omega) (by omega)) g1) (fun a j q => f a j (by unfold z_rc; omega) (by omega)) (fun a j q => g a j (by omega) (by omega))
theorem z_learn_n {M : Nat} (h : M ≤ 48) : z_max (Int32.ofInt 0) (z_min (z_min (z_i M) (Int32.ofNat 49)) (Int32.ofNat 48)) = z_i M := by
  refine z_inj2 ?_
  rw [z_maxI, z_minI, z_minI, z_it3 (by omega), show (Int32.ofNat 49).toInt = 49 from rfl, show (Int32.ofNat 48).toInt = 48 from rfl, show (Int32.ofInt 0).toInt = 0 from rfl]
  omega
theorem z_learn_rel {c b wd M : Nat} (hc : z_cd c) (hb : z_cd b) (hw : wd < 6) (hM : 1 ≤ M ∧ M ≤ 48) {S T U : v_Sf} (h : z_Rel c b S T) (k1 : ∀ j, j < M → z_ls (S 74 j) (U 126 (48 * wd + j))) (k2 : U 127 wd = z_i M) (k3 : U 128 wd = Int32.ofInt 0) (k4 : ∀ a j, ¬ (a = 126 ∧ 48 * wd ≤ j ∧ j < 48 * wd + M) → ¬ ((a = 127 ∨ a = 128) ∧ j = wd) → U a j = T a j) : z_Rel c b (z_s (g_X9_learnFrom (33 + 2 * wd) (z_i M) S) 10 wd (Int32.ofInt 0)) U := by
  have hcn := z_cdl hc
  have hbn := z_cdl hb
  have eM : (z_i M).toInt.toNat = M := z_iin (by omega)
  have eI : (z_i M).toInt = (M : Int) := z_it3 (by omega)
  obtain ⟨⟨nc, hB⟩, hP, hT, _⟩ := id h
  unfold g_X9_learnFrom z_cp
  rw [z_learn_n hM.2, eM]
  generalize hV : v_ur (z_s S (33 + 2 * wd) 1 (z_i M)) (33 + 2 * wd + 1) _ = V
  have v1 : ∀ a j, ¬ (a = 33 + 2 * wd ∧ j = 1) → a ≠ 33 + 2 * wd + 1 → V a j = S a j := fun a j q1 q2 => by
    rw [← hV, v_ur_n _ _ q2, z_sn q1]
  have v2 : V (33 + 2 * wd) 1 = z_i M := by
    rw [← hV, v_ur_n _ _ (by omega), z_ss]
  have v3 : ∀ j, j < M → V (33 + 2 * wd + 1) j = S 74 j := fun j q => by
    rw [← hV, v_ur_s, if_pos q, z_sn (by omega)]
  clear hV
  have f1 : ∀ a j, ¬ (a = 33 + 2 * wd ∧ j = 1) → a ≠ 33 + 2 * wd + 1 → ¬ (a = 10 ∧ j = wd) → z_s V 10 wd (Int32.ofInt 0) a j = S a j := fun a j q1 q2 q3 => (z_sn q3).trans (v1 a j q1 q2)
  have f2 : z_s V 10 wd (Int32.ofInt 0) (33 + 2 * wd) 1 = z_i M := (z_sn (by omega)).trans v2
  have f3 : ∀ j, j < M → z_s V 10 wd (Int32.ofInt 0) (33 + 2 * wd + 1) j = S 74 j := fun j q => (z_sn (by omega)).trans (v3 j q)
  have f4 : z_s V 10 wd (Int32.ofInt 0) 10 wd = Int32.ofInt 0 := z_ss
  generalize z_s V 10 wd (Int32.ofInt 0) = S2 at f1 f2 f3 f4 ⊢
  have fr : ∀ a, (a < 33 ∧ a ≠ 10 ∨ 44 < a) → S2 a = S a := fun a q => funext fun j => f1 a j (by omega) (by omega) (by omega)
  have gr : ∀ a, (a ≠ 126 ∧ a ≠ 127 ∧ a ≠ 128) → U a = T a := fun a q => funext fun j => k4 a j (by omega) (by omega)
  refine z_Rel_f h ⟨nc, z_St_f hB.1 (fun a q => fr a (by omega)) (fun j q => by rw [fr 1 (by omega)]) (fun a j q => k4 a j (by omega) (by omega)), fun w hw2 => ?_, ?_, z_LawR_t hB.2.2.2.1 (fr _ (by omega)) (fr _ (by omega)) (fr _ (by omega)) (fr _ (by omega)) (fr _ (by omega)) (fr _ (by omega)) (fun a j q => k4 a j (by omega) (by omega)), ?_⟩ ⟨fun w hw2 => ?_, fun w hw2 => ?_, ?_⟩ (z_Tp_f hT (fr _ (by omega)) (by rw [fr 45 (by omega)]) (gr _ (by omega)) (k4 _ _ (by omega) (by omega))) (fun a j q => f1 a j (by omega) (by omega) (by omega)) (fun a j q => k4 a j (by omega) (by omega))
  · by_cases q : w = wd
    · subst q
      obtain ⟨a1, a2, a3, a4, a5, a6, a7⟩ := hB.2.1 w hw
      rw [f2, k2, f1 _ 2 (by omega) (by omega) (by omega), f1 _ 3 (by omega) (by omega) (by omega), f1 _ 4 (by omega) (by omega) (by omega), gr 123 (by omega), gr 124 (by omega), gr 125 (by omega), eI]
      refine ⟨rfl, by omega, a3, a4, a5, a6, fun j hj => ?_⟩
      rw [f3 j (by omega)]
      exact k1 j (by omega)
    · obtain ⟨a1, a2, a3, a4, a5, a6, a7⟩ := hB.2.1 w hw2
      rw [f1 _ 1 (by omega) (by omega) (by omega), f1 _ 2 (by omega) (by omega) (by omega), f1 _ 3 (by omega) (by omega) (by omega), f1 _ 4 (by omega) (by omega) (by omega), gr 123 (by omega), gr 124 (by omega), gr 125 (by omega), k4 127 w (by omega) (by omega)]
      refine ⟨a1, a2, a3, a4, a5, a6, fun j hj => ?_⟩
      have hj2 : j < 48 := by omega
      rw [f1 _ _ (by omega) (by omega) (by omega), k4 126 _ (by omega) (by omega)]
      exact a7 j hj
  · rw [fr 48 (by omega), gr 132 (by omega)]
    exact hB.2.2.1
  · rw [gr 99 (by omega)]
    exact hB.2.2.2.2
  · show S2 10 w = U 128 w ∧ _
    by_cases q : w = wd
    · subst q
      rw [f4, k3]
      exact ⟨rfl, by decide, by decide⟩
    · rw [f1 10 w (by omega) (by omega) (by omega), k4 128 w (by omega) (by omega)]
      exact hP.1 w hw2
  · by_cases q : w = wd
    · subst q
      rw [k3]
      exact Or.inl rfl
    · rw [k4 128 w (by omega) (by omega), k4 127 w (by omega) (by omega)]
      exact hP.2.1 w hw2
  · rw [fr 1 (by omega), gr 99 (by omega)]
    exact hP.2.2
theorem z_tt_rel {c b e : Nat} (hc : z_cd c) (hb : z_cd b) (he : z_cd e) (hec : e ≠ c) (heb : e ≠ b) {S T : v_Sf} (h : z_Rel c b S T) (w a : Int32) : f_X11_timetable e w a S = f_X12_timetable w a T ∧ z_Rel c b (g_X11_timetable e w a S) (g_X12_timetable w a T) := by
  have hcn := z_cdl hc
  have hbn := z_cdl hb
  have hen := z_cdl he
  obtain ⟨⟨nc, hB⟩, hP, hT, hK, hO, h17, h25⟩ := id h
  unfold f_X11_timetable g_X11_timetable f_X12_timetable g_X12_timetable
  by_cases r : (0 ≤ w.toInt ∧ w.toInt ≤ 5) ∧ (1 ≤ a.toInt ∧ a.toInt ≤ 60) ∧ a ≤ T 99 1
  · obtain ⟨n, hn, rfl⟩ : ∃ n, (1 ≤ n ∧ n ≤ 60) ∧ a = z_i n := ⟨a.toInt.toNat, by omega, (z_ofN (by omega)).symm⟩
    obtain ⟨wd, hwd, rfl⟩ : ∃ wd, wd < 6 ∧ w = z_i wd := ⟨w.toInt.toNat, by omega, (z_ofN (by omega)).symm⟩
    have ew : (z_i wd).toInt.toNat = wd := z_iin (by omega)
    have e0 : 0 ≤ (z_i wd).toInt ∧ (z_i wd).toInt < ((6 : Nat) : Int) := by omega
    have e1 : ¬ z_i n < Int32.ofInt 1 := by
      rw [show Int32.ofInt 1 = z_i 1 from rfl, z_ilt (by omega) (by omega)]
      omega
    have e2 : ¬ Int32.ofInt 60 < z_i n := by
      rw [show Int32.ofInt 60 = z_i 60 from rfl, z_ilt (by omega) (by omega)]
      omega
    have e3 : z_i n ≤ S 45 1 := by
      rw [hT.2.1]
      exact r.2.2
    simp only [if_pos e0, if_neg e1, if_neg e2, if_pos e3, ite_self, ew]
    have fS : ∀ x j, ¬ z_rc e x → ¬ (x = 45 ∧ j = 1) → g_X8_empty (g_X5_readTimetable e (z_i n) S) x j = S x j := fun x j q1 q2 => by
      unfold g_X8_empty
      rw [z_sn q2, z_rd_tt (e := e) _ S x q1]
    have f45 : g_X8_empty (g_X5_readTimetable e (z_i n) S) 45 1 = 0 := by
      unfold g_X8_empty
      rw [z_ss]
      rfl
    rcases z_tt_ok he (z_by_T hT) (S := S) (T := T) (n := n) (wd := wd) (fun i _ => rfl) (fun i hi => ⟨(hT.1 i hi).1.symm, (hT.1 i hi).2⟩) hn e3 r.2.2 hwd with ⟨g1, U, g2, g3, g4⟩ | ⟨M, U, k1, k2, k3, k4, k5, k6, k7, k8, k9⟩
    · have le : f_X5_readTimetable e (z_i n) S ≤ 0 := by
        rw [z_leI2]
        have := z_ltI2.mp g1
        omega
      rw [g2, if_pos le]
      exact ⟨rfl, z_tab_f hc hb he hec heb h fS f45 g3 g4⟩
    · have np := (z_pos k1 (by omega)).2
      rw [k4, k3, if_neg np]
      refine ⟨rfl, ?_⟩
      have hR : z_Rel c b (g_X8_empty (g_X5_readTimetable e (z_i n) S)) (fun x j => if x = 126 ∨ x = 127 ∨ x = 128 then T x j else U x j) := by
        refine z_tab_f hc hb he hec heb h fS f45 (fun x j q1 q2 => ?_) ?_
        · by_cases q : x = 126 ∨ x = 127 ∨ x = 128
          · simp only [if_pos q]
          · simp only [if_neg q]
            exact k8 x j q1 q2 (by omega) (by omega)
        · simp only [show ¬ (99 = 126 ∨ 99 = 127 ∨ 99 = 128) by omega, if_false]
          exact k9
      refine z_learn_rel hc hb hwd ⟨k1, k2⟩ hR (fun j hj => ?_) k6 k7 (fun x j q1 q2 => ?_)
      · rw [show g_X8_empty (g_X5_readTimetable e (z_i n) S) 74 j = g_X5_readTimetable e (z_i n) S 74 j from z_sn (by omega)]
        exact k5 j hj
      · by_cases q : x = 126 ∨ x = 127 ∨ x = 128
        · simp only [if_pos q]
          exact k8 x j (by omega) (by omega) q1 q2
        · simp only [if_neg q]
  · have eC : g_X11_timetable e w a S = S ∧ f_X11_timetable e w a S = Int32.ofInt (-1) := by
      unfold f_X11_timetable g_X11_timetable
      by_cases q0 : 0 ≤ w.toInt ∧ w.toInt < ((6 : Nat) : Int)
      · by_cases q1 : a < Int32.ofInt 1
        · simp only [if_pos q0, if_pos q1]
          exact ⟨trivial, trivial⟩
        · by_cases q2 : Int32.ofInt 60 < a
          · simp only [if_pos q0, if_neg q1, if_pos q2]
            exact ⟨trivial, trivial⟩
          · have q3 : ¬ a ≤ S 45 1 := by
              intro m
              rw [hT.2.1] at m
              rw [z_ltI2, show (Int32.ofInt 1).toInt = 1 from rfl] at q1
              rw [z_ltI2, show (Int32.ofInt 60).toInt = 60 from rfl] at q2
              exact r ⟨⟨by omega, by omega⟩, ⟨by omega, by omega⟩, m⟩
            simp only [if_pos q0, if_neg q1, if_neg q2, if_neg q3]
            exact ⟨trivial, trivial⟩
      · simp only [if_neg q0]
        exact ⟨trivial, trivial⟩
    have eM : F_X12_timetable w a T = (Int32.ofInt (-1), T) := by
      unfold F_X12_timetable f_X12_isWard
      by_cases q0 : z_in w 0 5 = 0
      · rw [if_pos q0]
      · by_cases q1 : z_in a 1 60 = 0
        · rw [if_neg q0, if_pos q1]
        · have q3 : ¬ a ≤ T 99 1 := by
            intro m
            refine r ⟨?_, ?_, m⟩
            · exact Classical.byContradiction (fun z => q0 (z_in0.mpr z))
            · exact Classical.byContradiction (fun z => q1 (z_in0.mpr z))
          rw [if_neg q0, if_neg q1, if_neg q3]
    have eC' := eC
    unfold f_X11_timetable g_X11_timetable at eC'
    rw [eC'.1, eC'.2, eM]
    exact ⟨rfl, h⟩
end PrtS44h
section PrtS44i
/-! gust, ward, feed -/
theorem z_co_w {n : Nat} {A B A' B' : Nat → Int32} {lo hi : Int} {i : Nat} {v : Int32} (h : z_co n A B lo hi) (hv : lo ≤ v.toInt ∧ v.toInt ≤ hi) (fA : ∀ j, A' j = if j = i then v else A j) (fB : ∀ j, B' j = if j = i then v else B j) : z_co n A' B' lo hi := by
  intro j hj
  rw [fA, fB]
  by_cases q : j = i
  · rw [if_pos q, if_pos q]
    exact ⟨rfl, hv⟩
  · rw [if_neg q, if_neg q]
    exact h j hj
/-- a State that has changed, all else as it was -/
theorem z_Rel_st {c b : Nat} (hc : z_cd c) (hb : z_cd b) {S T S' T' : v_Sf} (h : z_Rel c b S T) (h1 : z_St 1 S' T') (f : ∀ a j, ¬ (a = 1 ∧ j ≠ 14 ∨ 2 ≤ a ∧ a ≤ 9) → S' a j = S a j) (g : ∀ a j, ¬ (116 ≤ a ∧ a ≤ 122 ∨ 129 ≤ a ∧ a ≤ 131) → T' a j = T a j) : z_Rel c b S' T' := by
  have hcn := z_cdl hc
  have hbn := z_cdl hb
  obtain ⟨⟨nc, hB⟩, hP, hT, _⟩ := id h
  exact z_Rel_f h ⟨nc, z_Bs_st hc hB h1 (fun a q => funext fun j => f a j (by omega)) (fun a j q => g a j (by omega))⟩ (z_PX_f hP (funext fun j => f _ j (by omega)) (f _ _ (by omega)) (funext fun j => g _ _ (by omega)) (funext fun j => g _ _ (by omega)) (g _ _ (by omega))) (z_Tp_f hT (funext fun j => f _ _ (by omega)) (f _ _ (by omega)) (funext fun j => g _ _ (by omega)) (g _ _ (by omega))) (fun a j q => f a j (by omega)) (fun a j q => g a j (by omega))
theorem z_gust_ok {c b : Nat} (hc : z_cd c) (hb : z_cd b) {S T : v_Sf} (h : z_Rel c b S T) (g x y w l : Int32) : f_X11_gust g x y w l S = f_X12_gust g x y w l T ∧ z_Rel c b (g_X11_gust g x y w l S) (g_X12_gust g x y w l T) := by
  unfold f_X11_gust g_X11_gust f_X12_gust g_X12_gust f_X12_isWard
  by_cases r0 : 0 ≤ g.toInt ∧ g.toInt ≤ 11
  · have a0 : ¬ f_X11_within g (Int32.ofInt 11) = 0 := fun m => z_within.mp m r0
    have b0 : ¬ z_in g 0 11 = 0 := fun m => z_in0.mp m r0
    simp only [if_neg a0, if_neg b0]
    by_cases r1 : 0 ≤ x.toInt ∧ x.toInt ≤ 99
    · have a1 : ¬ f_X11_within x (Int32.ofInt 99) = 0 := fun m => z_within.mp m r1
      have b1 : ¬ z_in x 0 99 = 0 := fun m => z_in0.mp m r1
      simp only [if_neg a1, if_neg b1]
      by_cases r2 : 0 ≤ y.toInt ∧ y.toInt ≤ 9
      · have a2 : ¬ f_X11_within y (Int32.ofInt 9) = 0 := fun m => z_within.mp m r2
        have b2 : ¬ z_in y 0 9 = 0 := fun m => z_in0.mp m r2
        simp only [if_neg a2, if_neg b2]
        by_cases r3 : 0 ≤ w.toInt ∧ w.toInt ≤ 5
        · have a3 : ¬ f_X11_within w (Int32.ofInt 5) = 0 := fun m => z_within.mp m r3
          have b3 : ¬ z_in w 0 5 = 0 := fun m => z_in0.mp m r3
          simp only [if_neg a3, if_neg b3]
          by_cases r4 : 0 ≤ l.toInt ∧ l.toInt ≤ 9
          · have a4 : ¬ f_X11_within l (Int32.ofInt 9) = 0 := fun m => z_within.mp m r4
            have b4 : ¬ z_in l 0 9 = 0 := fun m => z_in0.mp m r4
            simp only [if_neg a4, if_pos b4]
            obtain ⟨i, hi, rfl⟩ : ∃ i, i < 12 ∧ g = z_i i := ⟨g.toInt.toNat, by omega, (z_ofN r0.1).symm⟩
            have ei : (z_i i).toInt.toNat = i := z_iin (by omega)
            rw [ei, z_nar1]
            refine ⟨trivial, ?_⟩
            obtain ⟨a1, a2, a3, a4, a5, a6, a7, a8, a9, a10, a12, a13, a14⟩ := id h.1.choose_spec.1
            have t12 := z_told_or (n := 12) (by decide) a1 hi z_n1n
            have fS : ∀ a j, ¬ (a = 1 ∧ j = 0 ∨ 2 ≤ a ∧ a ≤ 7) → (z_s (z_s (z_s (z_s (z_s (z_s (z_s S 1 0 ((S 1 0) ||| ((Int32.ofInt 1) <<< (z_i i &&& 31)))) 2 i x) 4 i y) 5 i w) 6 i l) 3 i (Int32.ofInt 8)) 7 i (Int32.ofInt 0)) a j = S a j := fun a j m => by rw [z_sn (by omega), z_sn (by omega), z_sn (by omega), z_sn (by omega), z_sn (by omega), z_sn (by omega), z_sn (by omega)]
            have fT : ∀ a j, ¬ (116 ≤ a ∧ a ≤ 122) → (z_s (z_s (z_s (z_s (z_s (z_s (z_s T 116 i (Int32.ofInt 1)) 117 i x) 118 i (Int32.ofInt (-1))) 119 i y) 120 i w) 121 i l) 122 i (Int32.ofInt 0)) a j = T a j := fun a j m => by rw [z_sn (by omega), z_sn (by omega), z_sn (by omega), z_sn (by omega), z_sn (by omega), z_sn (by omega), z_sn (by omega)]
            have s0 : (z_s (z_s (z_s (z_s (z_s (z_s (z_s S 1 0 ((S 1 0) ||| ((Int32.ofInt 1) <<< (z_i i &&& 31)))) 2 i x) 4 i y) 5 i w) 6 i l) 3 i (Int32.ofInt 8)) 7 i (Int32.ofInt 0)) 1 0 = (S 1 0) ||| ((Int32.ofInt 1) <<< (z_i i &&& 31)) := by simp [z_s_eq]
            have s2 : ∀ j, (z_s (z_s (z_s (z_s (z_s (z_s (z_s S 1 0 ((S 1 0) ||| ((Int32.ofInt 1) <<< (z_i i &&& 31)))) 2 i x) 4 i y) 5 i w) 6 i l) 3 i (Int32.ofInt 8)) 7 i (Int32.ofInt 0)) 2 j = if j = i then x else S 2 j := fun j => by simp [z_s_eq]
            have s3 : ∀ j, (z_s (z_s (z_s (z_s (z_s (z_s (z_s S 1 0 ((S 1 0) ||| ((Int32.ofInt 1) <<< (z_i i &&& 31)))) 2 i x) 4 i y) 5 i w) 6 i l) 3 i (Int32.ofInt 8)) 7 i (Int32.ofInt 0)) 3 j = if j = i then Int32.ofInt 8 else S 3 j := fun j => by simp [z_s_eq]
            have s4 : ∀ j, (z_s (z_s (z_s (z_s (z_s (z_s (z_s S 1 0 ((S 1 0) ||| ((Int32.ofInt 1) <<< (z_i i &&& 31)))) 2 i x) 4 i y) 5 i w) 6 i l) 3 i (Int32.ofInt 8)) 7 i (Int32.ofInt 0)) 4 j = if j = i then y else S 4 j := fun j => by simp [z_s_eq]
            have s5 : ∀ j, (z_s (z_s (z_s (z_s (z_s (z_s (z_s S 1 0 ((S 1 0) ||| ((Int32.ofInt 1) <<< (z_i i &&& 31)))) 2 i x) 4 i y) 5 i w) 6 i l) 3 i (Int32.ofInt 8)) 7 i (Int32.ofInt 0)) 5 j = if j = i then w else S 5 j := fun j => by simp [z_s_eq]
            have s6 : ∀ j, (z_s (z_s (z_s (z_s (z_s (z_s (z_s S 1 0 ((S 1 0) ||| ((Int32.ofInt 1) <<< (z_i i &&& 31)))) 2 i x) 4 i y) 5 i w) 6 i l) 3 i (Int32.ofInt 8)) 7 i (Int32.ofInt 0)) 6 j = if j = i then l else S 6 j := fun j => by simp [z_s_eq]
            have s7 : ∀ j, (z_s (z_s (z_s (z_s (z_s (z_s (z_s S 1 0 ((S 1 0) ||| ((Int32.ofInt 1) <<< (z_i i &&& 31)))) 2 i x) 4 i y) 5 i w) 6 i l) 3 i (Int32.ofInt 8)) 7 i (Int32.ofInt 0)) 7 j = if j = i then Int32.ofInt 0 else S 7 j := fun j => by simp [z_s_eq]
            have t6 : ∀ j, (z_s (z_s (z_s (z_s (z_s (z_s (z_s T 116 i (Int32.ofInt 1)) 117 i x) 118 i (Int32.ofInt (-1))) 119 i y) 120 i w) 121 i l) 122 i (Int32.ofInt 0)) 116 j = if j = i then Int32.ofInt 1 else T 116 j := fun j => by simp [z_s_eq]
            have t7 : ∀ j, (z_s (z_s (z_s (z_s (z_s (z_s (z_s T 116 i (Int32.ofInt 1)) 117 i x) 118 i (Int32.ofInt (-1))) 119 i y) 120 i w) 121 i l) 122 i (Int32.ofInt 0)) 117 j = if j = i then x else T 117 j := fun j => by simp [z_s_eq]
            have t8 : ∀ j, (z_s (z_s (z_s (z_s (z_s (z_s (z_s T 116 i (Int32.ofInt 1)) 117 i x) 118 i (Int32.ofInt (-1))) 119 i y) 120 i w) 121 i l) 122 i (Int32.ofInt 0)) 118 j = if j = i then Int32.ofInt (-1) else T 118 j := fun j => by simp [z_s_eq]
            have t9 : ∀ j, (z_s (z_s (z_s (z_s (z_s (z_s (z_s T 116 i (Int32.ofInt 1)) 117 i x) 118 i (Int32.ofInt (-1))) 119 i y) 120 i w) 121 i l) 122 i (Int32.ofInt 0)) 119 j = if j = i then y else T 119 j := fun j => by simp [z_s_eq]
            have t0 : ∀ j, (z_s (z_s (z_s (z_s (z_s (z_s (z_s T 116 i (Int32.ofInt 1)) 117 i x) 118 i (Int32.ofInt (-1))) 119 i y) 120 i w) 121 i l) 122 i (Int32.ofInt 0)) 120 j = if j = i then w else T 120 j := fun j => by simp [z_s_eq]
            have t1 : ∀ j, (z_s (z_s (z_s (z_s (z_s (z_s (z_s T 116 i (Int32.ofInt 1)) 117 i x) 118 i (Int32.ofInt (-1))) 119 i y) 120 i w) 121 i l) 122 i (Int32.ofInt 0)) 121 j = if j = i then l else T 121 j := fun j => by simp [z_s_eq]
            have t2 : ∀ j, (z_s (z_s (z_s (z_s (z_s (z_s (z_s T 116 i (Int32.ofInt 1)) 117 i x) 118 i (Int32.ofInt (-1))) 119 i y) 120 i w) 121 i l) 122 i (Int32.ofInt 0)) 122 j = if j = i then Int32.ofInt 0 else T 122 j := fun j => by simp [z_s_eq]
            have e6 : (z_s (z_s (z_s (z_s (z_s (z_s (z_s T 116 i (Int32.ofInt 1)) 117 i x) 118 i (Int32.ofInt (-1))) 119 i y) 120 i w) 121 i l) 122 i (Int32.ofInt 0)) 116 = z_s T 116 i (Int32.ofInt 1) 116 := funext fun j => by rw [t6, z_s_eq]; simp
            generalize (z_s (z_s (z_s (z_s (z_s (z_s (z_s S 1 0 ((S 1 0) ||| ((Int32.ofInt 1) <<< (z_i i &&& 31)))) 2 i x) 4 i y) 5 i w) 6 i l) 3 i (Int32.ofInt 8)) 7 i (Int32.ofInt 0)) = S' at *
            generalize (z_s (z_s (z_s (z_s (z_s (z_s (z_s T 116 i (Int32.ofInt 1)) 117 i x) 118 i (Int32.ofInt (-1))) 119 i y) 120 i w) 121 i l) 122 i (Int32.ofInt 0)) = T' at *
            refine z_Rel_st hc hb h ⟨?_, z_co_w a2 r1 s2 t7, fun k hk m => ?_, z_co_w a4 r2 s4 t9, z_co_w a5 r3 s5 t0, z_co_w a6 r4 s6 t1, z_co_w a7 (by decide) s7 t2, ?_, ?_, ?_, ?_, ?_, ?_⟩ (fun a j m => fS a j (by omega)) (fun a j m => fT a j (by omega))
            · rw [s0, e6]
              exact t12
            · rw [t6] at m
              rw [show (1 + 2 : Nat) = 3 from rfl, s3, t8]
              by_cases q : k = i
              · rw [if_pos q, if_pos q]
                exact Or.inl ⟨rfl, rfl⟩
              · rw [if_neg q] at m
                rw [if_neg q, if_neg q]
                exact a3 k hk m
            · rw [fS 1 7 (by omega), show T' 129 = T 129 from funext fun j => fT _ j (by omega)]
              exact a8
            · rw [show S' (1 + 7) = S (1 + 7) from funext fun j => fS _ j (by omega), show T' 130 = T 130 from funext fun j => fT _ j (by omega)]
              exact a9
            · rw [show S' (1 + 8) = S (1 + 8) from funext fun j => fS _ j (by omega), show T' 131 = T 131 from funext fun j => fT _ j (by omega)]
              exact a10
            · rw [fS 1 11 (by omega), fT 99 60 (by omega)]
              exact a12
            · rw [fS 1 12 (by omega), fT 99 61 (by omega)]
              exact a13
            · rw [fS 1 13 (by omega), fT 99 62 (by omega)]
              exact a14
          · have a4 : f_X11_within l (Int32.ofInt 9) = 0 := z_within.mpr r4
            have b4 : z_in l 0 9 = 0 := z_in0.mpr r4
            simp only [if_pos a4, if_neg (not_not_intro b4)]
            exact ⟨trivial, h⟩
        · have a3 : f_X11_within w (Int32.ofInt 5) = 0 := z_within.mpr r3
          have b3 : z_in w 0 5 = 0 := z_in0.mpr r3
          simp only [if_pos a3, if_pos b3]
          exact ⟨trivial, h⟩
      · have a2 : f_X11_within y (Int32.ofInt 9) = 0 := z_within.mpr r2
        have b2 : z_in y 0 9 = 0 := z_in0.mpr r2
        simp only [if_pos a2, if_pos b2]
        exact ⟨trivial, h⟩
    · have a1 : f_X11_within x (Int32.ofInt 99) = 0 := z_within.mpr r1
      have b1 : z_in x 0 99 = 0 := z_in0.mpr r1
      simp only [if_pos a1, if_pos b1]
      exact ⟨trivial, h⟩
  · have a0 : f_X11_within g (Int32.ofInt 11) = 0 := z_within.mpr r0
    have b0 : z_in g 0 11 = 0 := z_in0.mpr r0
    simp only [if_pos a0, if_pos b0]
    exact ⟨trivial, h⟩
theorem z_ward_ok {c b : Nat} (hc : z_cd c) (hb : z_cd b) {S T : v_Sf} (h : z_Rel c b S T) (w x y k : Int32) : f_X11_ward w x y k S = f_X12_ward w x y k T ∧ z_Rel c b (g_X11_ward w x y k S) (g_X12_ward w x y k T) := by
  have hcn := z_cdl hc
  have hbn := z_cdl hb
  obtain ⟨⟨nc, hB⟩, hP, hT, _⟩ := id h
  unfold f_X11_ward g_X11_ward f_X12_ward g_X12_ward f_X12_isWard
  by_cases r0 : 0 ≤ w.toInt ∧ w.toInt ≤ 5
  · have a0 : 0 ≤ w.toInt ∧ w.toInt < ((6 : Nat) : Int) := by omega
    have b0 : ¬ z_in w 0 5 = 0 := fun m => z_in0.mp m r0
    simp only [if_pos a0, if_neg b0]
    by_cases r1 : 0 ≤ x.toInt ∧ x.toInt ≤ 9
    · have a1 : ¬ f_X11_within x (Int32.ofInt 9) = 0 := fun m => z_within.mp m r1
      have b1 : ¬ z_in x 0 9 = 0 := fun m => z_in0.mp m r1
      simp only [if_neg a1, if_neg b1]
      by_cases r2 : 0 ≤ y.toInt ∧ y.toInt ≤ 9
      · have a2 : ¬ f_X11_within y (Int32.ofInt 9) = 0 := fun m => z_within.mp m r2
        have b2 : ¬ z_in y 0 9 = 0 := fun m => z_in0.mp m r2
        simp only [if_neg a2, if_neg b2]
        by_cases r3 : -1 ≤ k.toInt ∧ k.toInt ≤ 4
        · have b3 : ¬ z_in k (-1) 4 = 0 := fun m => z_in0.mp m r3
          obtain ⟨wd, hwd, rfl⟩ : ∃ wd, wd < 6 ∧ w = z_i wd := ⟨w.toInt.toNat, by omega, (z_ofN r0.1).symm⟩
          have ei : (z_i wd).toInt.toNat = wd := z_iin (by omega)
          have main : z_Rel c b (z_s (z_s (z_s S (33 + 2 * wd) 2 x) (33 + 2 * wd) 3 y) (33 + 2 * wd) 4 k) (z_s (z_s (z_s T 123 wd x) 124 wd y) 125 wd k) := by
            have f1 : ∀ a j, ¬ (a = 33 + 2 * wd ∧ (j = 2 ∨ j = 3 ∨ j = 4)) → (z_s (z_s (z_s S (33 + 2 * wd) 2 x) (33 + 2 * wd) 3 y) (33 + 2 * wd) 4 k) a j = S a j := fun a j m => by rw [z_sn (by omega), z_sn (by omega), z_sn (by omega)]
            have f2 : (z_s (z_s (z_s S (33 + 2 * wd) 2 x) (33 + 2 * wd) 3 y) (33 + 2 * wd) 4 k) (33 + 2 * wd) 2 = x := by rw [z_sn (by omega), z_sn (by omega), z_ss]
            have f3 : (z_s (z_s (z_s S (33 + 2 * wd) 2 x) (33 + 2 * wd) 3 y) (33 + 2 * wd) 4 k) (33 + 2 * wd) 3 = y := by rw [z_sn (by omega), z_ss]
            have f4 : (z_s (z_s (z_s S (33 + 2 * wd) 2 x) (33 + 2 * wd) 3 y) (33 + 2 * wd) 4 k) (33 + 2 * wd) 4 = k := z_ss
            have g1 : ∀ a j, ¬ ((a = 123 ∨ a = 124 ∨ a = 125) ∧ j = wd) → (z_s (z_s (z_s T 123 wd x) 124 wd y) 125 wd k) a j = T a j := fun a j m => by rw [z_sn (by omega), z_sn (by omega), z_sn (by omega)]
            have g2 : (z_s (z_s (z_s T 123 wd x) 124 wd y) 125 wd k) 123 wd = x := by rw [z_sn (by omega), z_sn (by omega), z_ss]
            have g3 : (z_s (z_s (z_s T 123 wd x) 124 wd y) 125 wd k) 124 wd = y := by rw [z_sn (by omega), z_ss]
            have g4 : (z_s (z_s (z_s T 123 wd x) 124 wd y) 125 wd k) 125 wd = k := z_ss
            generalize (z_s (z_s (z_s S (33 + 2 * wd) 2 x) (33 + 2 * wd) 3 y) (33 + 2 * wd) 4 k) = S' at *
            generalize (z_s (z_s (z_s T 123 wd x) 124 wd y) 125 wd k) = T' at *
            have fr : ∀ a, (a < 33 ∨ 44 ≤ a) → S' a = S a := fun a q => funext fun j => f1 a j (by omega)
            have gr : ∀ a, (a ≠ 123 ∧ a ≠ 124 ∧ a ≠ 125) → T' a = T a := fun a q => funext fun j => g1 a j (by omega)
            refine z_Rel_f h ⟨nc, z_St_f hB.1 (fun a q => fr a (by omega)) (fun j q => by rw [fr 1 (by omega)]) (fun a j q => g1 a j (by omega)), fun v hv => ?_, ?_, z_LawR_t hB.2.2.2.1 (fr _ (by omega)) (fr _ (by omega)) (fr _ (by omega)) (fr _ (by omega)) (fr _ (by omega)) (fr _ (by omega)) (fun a j q => g1 a j (by omega)), ?_⟩ (z_PX_f hP (fr _ (by omega)) (by rw [fr 1 (by omega)]) (gr _ (by omega)) (gr _ (by omega)) (by rw [gr 99 (by omega)])) (z_Tp_f hT (fr _ (by omega)) (by rw [fr 45 (by omega)]) (gr _ (by omega)) (by rw [gr 99 (by omega)])) (fun a j q => f1 a j (by omega)) (fun a j q => g1 a j (by omega))
            · obtain ⟨d1, d2, d3, d4, d5, d6, d7⟩ := hB.2.1 v hv
              by_cases q : v = wd
              · subst q
                rw [f1 _ 1 (by omega), gr 127 (by omega), f2, g2, f3, g3, f4, g4]
                refine ⟨d1, d2, rfl, rfl, rfl, r3, fun j hj => ?_⟩
                rw [f1 _ _ (by omega), gr 126 (by omega)]
                exact d7 j hj
              · rw [f1 _ 1 (by omega), f1 _ 2 (by omega), f1 _ 3 (by omega), f1 _ 4 (by omega), gr 127 (by omega), g1 123 v (by omega), g1 124 v (by omega), g1 125 v (by omega)]
                refine ⟨d1, d2, d3, d4, d5, d6, fun j hj => ?_⟩
                rw [f1 _ _ (by omega), gr 126 (by omega)]
                exact d7 j hj
            · rw [fr 48 (by omega), gr 132 (by omega)]
              exact hB.2.2.1
            · rw [gr 99 (by omega)]
              exact hB.2.2.2.2
          rw [ei]
          simp only [if_pos b3]
          by_cases k1 : k = Int32.ofInt (-1)
          · simp only [if_pos k1]
            exact ⟨trivial, main⟩
          · have k2 := z_ne k1
            have a3 : ¬ f_X11_within k (Int32.ofInt 4) = 0 := fun m => z_within.mp m (show 0 ≤ k.toInt ∧ k.toInt ≤ 4 by omega)
            simp only [if_neg k1, if_neg a3]
            exact ⟨trivial, main⟩
        · have b3 : ¬ ¬ z_in k (-1) 4 = 0 := fun m => m (z_in0.mpr r3)
          have k1 : ¬ k = Int32.ofInt (-1) := fun e => r3 (by rw [e]; decide)
          have a3 : f_X11_within k (Int32.ofInt 4) = 0 := z_within.mpr (show ¬ (0 ≤ k.toInt ∧ k.toInt ≤ 4) by omega)
          simp only [if_neg b3, if_neg k1, if_pos a3]
          exact ⟨trivial, h⟩
      · have a2 : f_X11_within y (Int32.ofInt 9) = 0 := z_within.mpr r2
        have b2 : z_in y 0 9 = 0 := z_in0.mpr r2
        simp only [if_pos a2, if_pos b2]
        exact ⟨trivial, h⟩
    · have a1 : f_X11_within x (Int32.ofInt 9) = 0 := z_within.mpr r1
      have b1 : z_in x 0 9 = 0 := z_in0.mpr r1
      simp only [if_pos a1, if_pos b1]
      exact ⟨trivial, h⟩
  · have a0 : ¬ (0 ≤ w.toInt ∧ w.toInt < ((6 : Nat) : Int)) := by omega
    have b0 : z_in w 0 5 = 0 := z_in0.mpr r0
    simp only [if_neg a0, if_pos b0, ite_self]
    exact ⟨trivial, h⟩
/-! feed -/
theorem z_byL_all : ∀ i : Fin 32, 8 ≤ i.val → (Int32.ofInt 255).toBitVec.getLsbD i.val = false := by decide +kernel
theorem z_byA (x : Int32) : u_nar 1 (x.toInt8.toInt32) &&& Int32.ofInt 255 = x &&& Int32.ofInt 255 := by
  have e : u_nar 1 (x.toInt8.toInt32) = x.toInt8.toInt32 := pk_vb x
  rw [e]
  refine Int32.toBitVec_inj.mp (BitVec.eq_of_getLsbD_eq fun i hi => ?_)
  rw [Int32.toBitVec_and, Int32.toBitVec_and, BitVec.getLsbD_and, BitVec.getLsbD_and]
  by_cases q : i < 8
  · have h1 : (x.toInt8.toInt32).toBitVec.getLsbD i = x.toBitVec.getLsbD i := by
      rw [Int8.toBitVec_toInt32, BitVec.getLsbD_signExtend, Int32.toBitVec_toInt8, BitVec.getLsbD_signExtend]
      simp [q, hi]
    rw [h1]
  · rw [z_byL_all ⟨i, hi⟩ (by simpa using q)]
    simp
theorem z_byR (x : Int32) : -128 ≤ (u_nar 1 (x.toInt8.toInt32)).toInt ∧ (u_nar 1 (x.toInt8.toInt32)).toInt ≤ 127 := by
  have e : u_nar 1 (x.toInt8.toInt32) = x.toInt8.toInt32 := pk_vb x
  rw [e, Int8.toInt_toInt32]
  have h1 := Int8.le_toInt x.toInt8
  have h2 := Int8.toInt_lt x.toInt8
  omega
theorem z_app {S T : v_Sf} (h : z_Tp S T) {n : Nat} (hn : T 99 1 = z_i n) (h4 : n + 4 ≤ 260) (w : Int32) : z_Tp (g_X8_append w S) (g_X12_push w T) ∧ g_X12_push w T 99 1 = z_i (n + 4) ∧ (∀ a j, ¬ (a = 45 ∧ j = 1 ∨ a = 46) → g_X8_append w S a j = S a j) ∧ (∀ a j, ¬ (a = 99 ∧ j = 1 ∨ a = 100) → g_X12_push w T a j = T a j) := by
  have hS : S 45 1 = z_i n := h.2.1.trans hn
  have e0 : (z_i n).toInt.toNat = n := z_iin (by omega)
  have e1 : (z_i (n + 1)).toInt.toNat = n + 1 := z_iin (by omega)
  have e2 : (z_i (n + 1 + 1)).toInt.toNat = n + 1 + 1 := z_iin (by omega)
  have e3 : (z_i (n + 1 + 1 + 1)).toInt.toNat = n + 1 + 1 + 1 := z_iin (by omega)
  have cc : ∀ k, k < 260 → ¬ Int32.ofNat 260 ≤ z_i k := fun k hk => by
    rw [show Int32.ofNat 260 = z_i 260 by decide, z_ile (by omega) (by omega)]
    omega
  unfold g_X8_append g_X12_push
  simp only [hS, hn, z_i1, if_neg (cc n (by omega)), if_neg (cc (n + 1) (by omega)), if_neg (cc (n + 1 + 1) (by omega)), if_neg (cc (n + 1 + 1 + 1) (by omega)), e0, e1, e2, e3]
  refine ⟨⟨fun i hi => ?_, ?_, ?_, ?_⟩, ?_, fun a j q => ?_, fun a j q => ?_⟩
  · simp only [z_s_eq]
    simp only [show ¬ (46 : Nat) = 45 by decide, show ¬ (100 : Nat) = 99 by decide, false_and, true_and, if_false]
    by_cases q3 : i = n + 1 + 1 + 1
    · simp only [if_pos q3]
      exact ⟨(z_byA _).symm, z_byR _⟩
    · simp only [if_neg q3]
      by_cases q2 : i = n + 1 + 1
      · simp only [if_pos q2]
        exact ⟨(z_byA _).symm, z_byR _⟩
      · simp only [if_neg q2]
        by_cases q1 : i = n + 1
        · simp only [if_pos q1]
          exact ⟨(z_byA _).symm, z_byR _⟩
        · simp only [if_neg q1]
          by_cases q0 : i = n
          · simp only [if_pos q0]
            exact ⟨(z_byA _).symm, z_byR _⟩
          · simp only [if_neg q0]
            exact h.1 i hi
  · rw [z_ss, z_ss]
  · rw [z_ss, z_it3 (by omega)]
    omega
  · rw [z_ss, z_it3 (by omega)]
    omega
  · rw [z_ss]
  · rw [z_sn (by omega), z_sn (by omega), z_sn (by omega), z_sn (by omega), z_sn (by omega), z_sn (by omega), z_sn (by omega), z_sn (by omega)]
  · rw [z_sn (by omega), z_sn (by omega), z_sn (by omega), z_sn (by omega), z_sn (by omega), z_sn (by omega), z_sn (by omega), z_sn (by omega)]
theorem z_feed_ok {c b : Nat} (hc : z_cd c) (hb : z_cd b) {S T : v_Sf} (h : z_Rel c b S T) (x y z k l : Int32) : f_X11_feed x y z k l S = f_X12_feed x y z k l T ∧ z_Rel c b (g_X11_feed x y z k l S) (g_X12_feed x y z k l T) := by
  have hcn := z_cdl hc
  have hbn := z_cdl hb
  obtain ⟨⟨nc, hB⟩, hP, hT, _⟩ := id h
  obtain ⟨n, hn2, hn⟩ : ∃ n, n ≤ 260 ∧ T 99 1 = z_i n := ⟨(T 99 1).toInt.toNat, by have h1 := hT.2.2.2; omega, (z_ofN hT.2.2.1).symm⟩
  have hS : S 45 1 = z_i n := hT.2.1.trans hn
  unfold f_X11_feed g_X11_feed f_X12_feed g_X12_feed f_X8_takes
  rw [hS, hn, show Int32.ofInt 20 = z_i 20 from rfl, z_iadd, show Int32.ofNat 260 = z_i 260 by decide, show Int32.ofInt 260 = z_i 260 from rfl]
  by_cases q : n + 20 ≤ 260
  · have q1 : ¬ z_i 260 < z_i (n + 20) := by
      rw [z_ilt (by omega) (by omega)]
      omega
    have q2 : z_i (n + 20) ≤ z_i 260 := by
      rw [z_ile (by omega) (by omega)]
      omega
    simp only [if_neg q1, if_pos q2, if_pos z_n1n]
    obtain ⟨h1, n1, f1, g1⟩ := z_app hT hn (by omega) x
    obtain ⟨h2, n2, f2, g2⟩ := z_app h1 n1 (by omega) y
    obtain ⟨h3, n3, f3, g3⟩ := z_app h2 n2 (by omega) z
    obtain ⟨h4, n4, f4, g4⟩ := z_app h3 n3 (by omega) k
    obtain ⟨h5, n5, f5, g5⟩ := z_app h4 n4 (by omega) l
    have F : ∀ a j, ¬ (a = 45 ∧ j = 1 ∨ a = 46) → g_X8_append l (g_X8_append k (g_X8_append z (g_X8_append y (g_X8_append x S)))) a j = S a j := fun a j m => (f5 a j m).trans ((f4 a j m).trans ((f3 a j m).trans ((f2 a j m).trans (f1 a j m))))
    have G : ∀ a j, ¬ (a = 99 ∧ j = 1 ∨ a = 100) → g_X12_push l (g_X12_push k (g_X12_push z (g_X12_push y (g_X12_push x T)))) a j = T a j := fun a j m => (g5 a j m).trans ((g4 a j m).trans ((g3 a j m).trans ((g2 a j m).trans (g1 a j m))))
    refine ⟨h5.2.1, z_Rel_f h ⟨nc, z_Bs_f hB (fun a q => funext fun j => F a j (by omega)) (fun j q => F _ _ (by omega)) (fun a j q => G a j (by omega))⟩ (z_PX_f hP (funext fun j => F _ _ (by omega)) (F _ _ (by omega)) (funext fun j => G _ _ (by omega)) (funext fun j => G _ _ (by omega)) (G _ _ (by omega))) h5 (fun a j q => F a j (by omega)) (fun a j q => G a j (by omega))⟩
  · have q1 : z_i 260 < z_i (n + 20) := by
      rw [z_ilt (by omega) (by omega)]
      omega
    have q2 : ¬ z_i (n + 20) ≤ z_i 260 := by
      rw [z_ile (by omega) (by omega)]
      omega
    simp only [if_pos q1, if_neg q2, if_neg (not_not_intro (show Int32.ofInt 0 = 0 from rfl))]
    exact ⟨trivial, h⟩
end PrtS44i
section PrtS44k
/-! gustIs, nurseIs, check -/
theorem z_tld {g : Int32} {T : v_Sf} (t : ¬ f_X12_isTold g T = 0) : (0 ≤ g.toInt ∧ g.toInt ≤ 11) ∧ ¬ T 116 g.toInt.toNat = 0 := by
  have hg : 0 ≤ g.toInt ∧ g.toInt ≤ 11 := by
    refine Classical.byContradiction (fun m => t ?_)
    unfold f_X12_isTold
    rw [if_pos (z_in0.mpr m)]
    rfl
  refine ⟨hg, fun m => t ?_⟩
  unfold f_X12_isTold
  rw [if_neg (fun q => z_in0.mp q hg), if_pos m]
  rfl
theorem z_gustIs_ok {c b : Nat} {S T : v_Sf} (h : z_Rel c b S T) (g x : Int32) : f_X11_gustIs g x S = f_X12_gustIs g x T := by
  obtain ⟨⟨nc, hB⟩, _⟩ := id h
  have et := z_told_eq hB.1 g
  unfold f_X11_gustIs f_X12_gustIs
  rw [et]
  by_cases t : f_X12_isTold g T = 0
  · rw [if_neg (not_not_intro t), if_neg (not_not_intro t)]
  · rw [if_pos t, if_pos t]
    obtain ⟨hg, tt⟩ := z_tld t
    have hk : g.toInt.toNat < 12 := by omega
    obtain ⟨a1, a2, a3, a4, a5, a6, a7, _⟩ := id hB.1
    have e2 : S 2 g.toInt.toNat = T 117 g.toInt.toNat := (a2 _ hk).1
    have e4 : S 4 g.toInt.toNat = T 119 g.toInt.toNat := (a4 _ hk).1
    have e5 : S 5 g.toInt.toNat = T 120 g.toInt.toNat := (a5 _ hk).1
    have e6 : S 6 g.toInt.toNat = T 121 g.toInt.toNat := (a6 _ hk).1
    have e7 : S 7 g.toInt.toNat = T 122 g.toInt.toNat := (a7 _ hk).1
    have e3 : (if ¬ (S 3 g.toInt.toNat) = (Int32.ofInt 8) then S 3 g.toInt.toNat else Int32.ofInt (-2)) = f_X12_orLess (T 118 g.toInt.toNat) := by
      have a3' : z_qr (S 3 g.toInt.toNat) (T 118 g.toInt.toNat) := a3 _ hk tt
      unfold f_X12_orLess
      rcases a3' with ⟨q1, q2⟩ | ⟨q1, q2⟩
      · rw [q1, q2]
        decide
      · rw [q1, if_pos, if_pos]
        · intro m
          rw [m] at q2
          exact absurd q2.1 (by decide)
        · intro m
          rw [m] at q2
          exact absurd q2.2 (by decide)
    rw [e2, e3, e4, e5, e6, e7]
theorem z_hasN2 {S T : v_Sf} (h : z_St 1 S T) (k : Int32) : f_X7_hasNurse 1 k S = f_X12_isThere k T := by
  by_cases q : 0 ≤ k.toInt ∧ k.toInt ≤ 4
  · obtain ⟨n, hn, rfl⟩ : ∃ n, n < 5 ∧ k = z_i n := ⟨k.toInt.toNat, by omega, (z_ofN q.1).symm⟩
    have e := z_hasN (s := 1) h.2.2.2.2.2.2.2.1 hn
    have ek : (z_i n).toInt.toNat = n := z_iin (by omega)
    unfold f_X12_isThere
    rw [if_neg (fun m => z_in0.mp m q), ek]
    by_cases t : T 129 n = 0
    · rw [if_pos t]
      exact e.mpr t
    · rw [if_neg t]
      have w := fun m => t (e.mp m)
      unfold f_X7_hasNurse at w ⊢
      split
      · rename_i r
        exact absurd r (by rw [z_ltI2]; have e0 : (0 : Int32).toInt = 0 := rfl; omega)
      · split
        · rename_i r
          exact absurd r (by rw [z_leI2]; have e0 : (Int32.ofInt 5).toInt = 5 := rfl; omega)
        · split
          · rename_i r1 r2 r3
            rw [if_neg r1, if_neg r2, if_pos r3] at w
            exact absurd rfl w
          · rfl
  · unfold f_X12_isThere
    rw [if_pos (z_in0.mpr q)]
    unfold f_X7_hasNurse
    split
    · rfl
    · split
      · rfl
      · rename_i r1 r2
        have e0 : (0 : Int32).toInt = 0 := rfl
        have e5 : (Int32.ofInt 5).toInt = 5 := rfl
        rw [z_ltI2] at r1
        rw [z_leI2] at r2
        exact absurd ⟨by omega, by omega⟩ q
theorem z_nurseIs_ok {c b : Nat} {S T : v_Sf} (h : z_Rel c b S T) (k x : Int32) : f_X11_nurseIs k x S = f_X12_nurseIs k x T := by
  obtain ⟨⟨nc, hB⟩, _⟩ := id h
  unfold f_X11_nurseIs f_X12_nurseIs
  rw [z_hasN2 hB.1 k]
  by_cases t : f_X12_isThere k T = 0
  · rw [if_neg (not_not_intro t), if_pos t]
  · rw [if_pos t, if_neg t]
    have hg : 0 ≤ k.toInt ∧ k.toInt ≤ 4 := by
      refine Classical.byContradiction (fun m => t ?_)
      unfold f_X12_isThere
      rw [if_pos (z_in0.mpr m)]
      rfl
    have e8 : S 8 k.toInt.toNat = T 130 k.toInt.toNat := (hB.1.2.2.2.2.2.2.2.2.1 _ (by omega)).1
    have e9 : S 9 k.toInt.toNat = T 131 k.toInt.toNat := (hB.1.2.2.2.2.2.2.2.2.2.1 _ (by omega)).1
    rw [e8, e9]
    by_cases x0 : x = Int32.ofInt 0
    · rw [if_pos x0, x0, if_neg (by decide), if_neg (by decide)]
    · rw [if_neg x0]
      by_cases x1 : x = Int32.ofInt 1
      · rw [if_pos x1, x1, if_neg (by decide), if_pos (by decide)]
      · rw [if_neg x1, if_pos]
        rw [z_in0]
        intro m
        have h0 := z_ne x0
        have h1 := z_ne x1
        omega
theorem z_nm1 {k : Nat} (hk : k < 2147483648) : ¬ z_i k = Int32.ofInt (-1) := by
  intro e
  have e2 := congrArg Int32.toInt e
  rw [z_it3 hk, show (Int32.ofInt (-1)).toInt = -1 from rfl] at e2
  omega
theorem z_check_e {x : Int32} {k : Nat} (hk : k < 12) (S : v_Sf) : ∀ r k', r_X11_check_27 x r k' (z_i k) S = (z_i k, g_X8_empty S) := by
  intro r k'
  cases r with
  | zero => rw [r_X11_check_27]
  | succ r => rw [r_X11_check_27, if_pos (z_nm1 (by omega))]
theorem z_check_l {S T T0 : v_Sf} (hS : z_St 1 S T) (hT : z_Tp S T) (x : Int32) (e0 : ∀ a, a ≠ 99 → T0 a = T a) : ∀ r k, k + r ≤ 12 → z_i (k + r) ≤ S 45 1 → r_X11_check_27 x r k (Int32.ofInt (-1)) S = ((r_X12_check_30 x r k T0).1, g_X8_empty S) ∧ (r_X12_check_30 x r k T0).2 = T0 := by
  intro r
  induction r with
  | zero =>
    intro k _ _
    rw [r_X11_check_27, r_X12_check_30]
    exact ⟨rfl, rfl⟩
  | succ r ih =>
    intro k hk hm
    have ih2 := ih (k + 1) (by omega) (by rw [show k + 1 + r = k + (r + 1) by omega]; exact hm)
    have h1 := z_hasG2 hS (g := k) (by omega)
    have ek : (z_i k).toInt.toNat = k := z_iin (by omega)
    have hlt : ¬ S 45 1 ≤ z_i k := by
      rw [z_leI2] at hm ⊢
      rw [z_it3 (by omega)] at hm ⊢
      omega
    have ea : f_X8_at (z_i k) S = f_X12_byteAt (z_i k) T0 := by
      unfold f_X8_at f_X12_byteAt
      rw [if_neg (by rw [show (0 : Int32) = z_i 0 from rfl, z_ilt (by omega) (by omega)]; omega), if_neg hlt, ek, e0 100 (by decide)]
      exact (hT.1 k (by omega)).1
    have e2 : S 2 k = T 117 k := (hS.2.1 k (by omega)).1
    rw [r_X11_check_27, r_X12_check_30, if_neg (not_not_intro rfl), ea, ek, e0 116 (by decide), e0 117 (by decide), e2]
    by_cases t : T 116 k = 0
    · rw [if_pos (h1.mpr t), if_pos t]
      by_cases q : f_X12_byteAt (z_i k) T0 = Int32.ofInt 0
      · rw [if_pos q, if_pos q]
        exact ih2
      · rw [if_neg q, if_neg q]
        exact ⟨z_check_e (by omega) S _ _, rfl⟩
    · rw [if_neg (fun m => t (h1.mp m)), if_neg t]
      by_cases q : f_X12_byteAt (z_i k) T0 = T 117 k
      · rw [if_pos q, if_pos q]
        exact ih2
      · rw [if_neg q, if_neg q]
        exact ⟨z_check_e (by omega) S _ _, rfl⟩
/-- the tape is emptied, all else as it was -/
theorem z_Rel_e {c b : Nat} (hc : z_cd c) (hb : z_cd b) {S T : v_Sf} (h : z_Rel c b S T) : z_Rel c b (g_X8_empty S) (z_s T 99 1 (Int32.ofInt 0)) := by
  have hcn := z_cdl hc
  have hbn := z_cdl hb
  obtain ⟨⟨nc, hB⟩, hP, hT, _⟩ := id h
  unfold g_X8_empty
  exact z_Rel_f h ⟨nc, z_Bs_f hB (fun a q => z_sr (by omega)) (fun j q => z_sn (by omega)) (fun a j q => z_sn (by omega))⟩ (z_PX_f hP (z_sr (by omega)) (z_sn (by omega)) (z_sr (by omega)) (z_sr (by omega)) (z_sn (by omega))) (z_Tp_0 hT (z_sr (by omega)) z_ss (z_sr (by omega)) z_ss) (fun a j q => z_sn (by omega)) (fun a j q => z_sn (by omega))
theorem z_check_ok {c b : Nat} (hc : z_cd c) (hb : z_cd b) {S T : v_Sf} (h : z_Rel c b S T) (x : Int32) : f_X11_check x S = f_X12_check x T ∧ z_Rel c b (g_X11_check x S) (g_X12_check x T) := by
  obtain ⟨⟨nc, hB⟩, hP, hT, _⟩ := id h
  unfold f_X11_check g_X11_check f_X12_check g_X12_check F_X11_check F_X12_check
  by_cases r : 0 ≤ x.toInt ∧ x.toInt ≤ 12
  · have n1 : ¬ f_X11_within x (Int32.ofInt 12) = 0 := fun m => z_within.mp m r
    have n2 : ¬ z_in x 0 12 = 0 := fun m => z_in0.mp m r
    rw [if_neg n1, if_neg n2, hT.2.1]
    by_cases q : x ≤ T 99 1
    · rw [if_pos q, if_pos q]
      obtain ⟨n, hn, rfl⟩ : ∃ n, n ≤ 12 ∧ x = z_i n := ⟨x.toInt.toNat, by omega, (z_ofN r.1).symm⟩
      have en : (z_i n).toInt.toNat = n := z_iin (by omega)
      obtain ⟨l1, l2⟩ := z_check_l hB.1 hT (z_i n) (T0 := z_s T 99 1 (Int32.ofInt 0)) (fun a m => z_sr m) n 0 (by omega) (by rw [Nat.zero_add, hT.2.1]; exact q)
      rw [en, Nat.sub_zero, l1, l2]
      exact ⟨rfl, z_Rel_e hc hb h⟩
    · rw [if_neg q, if_neg q]
      exact ⟨rfl, h⟩
  · have n1 : f_X11_within x (Int32.ofInt 12) = 0 := z_within.mpr r
    have n2 : z_in x 0 12 = 0 := z_in0.mpr r
    rw [if_pos n1, if_pos n2]
    exact ⟨rfl, h⟩
end PrtS44k
section PrtS44l
/-! a State copied -/
theorem z_cps {S : v_Sf} {a0 a j k : Nat} {m : Int32} (hm : m.toInt.toNat = k) (h : j < k) : z_cp S a0 a m a j = S a0 j := by rw [z_cp_eq, if_pos ⟨rfl, by omega⟩]
theorem z_cpn {S : v_Sf} {a0 a b j : Nat} {m : Int32} (h : b ≠ a) : z_cp S a0 a m b j = S b j := by rw [z_cp_eq, if_neg (fun q => h q.1)]
theorem z_copy {s t : Nat} (hd : s + 10 ≤ t ∨ t + 10 ≤ s) (S : v_Sf) : (∀ a j, ¬ (s ≤ a ∧ a ≤ s + 9) → g_X7_copy s t S a j = S a j) ∧ (∀ i j, (1 ≤ i ∧ i ≤ 6 ∧ j < 12 ∨ (i = 7 ∨ i = 8) ∧ j < 5 ∨ i = 9 ∧ j < 6) → g_X7_copy s t S (s + i) j = S (t + i) j) ∧ (∀ j, (j = 0 ∨ j = 7 ∨ 11 ≤ j ∧ j ≤ 14) → g_X7_copy s t S s j = S t j) := by
  have m12 : (Int32.ofInt 12).toInt.toNat = 12 := rfl
  have m5 : (Int32.ofInt 5).toInt.toNat = 5 := rfl
  have m6 : (Int32.ofInt 6).toInt.toNat = 6 := rfl
  unfold g_X7_copy
  generalize h1 : z_s S s 0 (S t 0) = A1
  generalize h2 : z_cp A1 (t + 1) (s + 1) (Int32.ofInt 12) = A2
  generalize h3 : z_cp A2 (t + 2) (s + 2) (Int32.ofInt 12) = A3
  generalize h4 : z_cp A3 (t + 3) (s + 3) (Int32.ofInt 12) = A4
  generalize h5 : z_cp A4 (t + 4) (s + 4) (Int32.ofInt 12) = A5
  generalize h6 : z_cp A5 (t + 5) (s + 5) (Int32.ofInt 12) = A6
  generalize h7 : z_cp A6 (t + 6) (s + 6) (Int32.ofInt 12) = A7
  generalize h8 : z_s A7 s 7 (A7 t 7) = A8
  generalize h9 : z_cp A8 (t + 7) (s + 7) (Int32.ofInt 5) = A9
  generalize h10 : z_cp A9 (t + 8) (s + 8) (Int32.ofInt 5) = A10
  generalize h11 : z_cp A10 (t + 9) (s + 9) (Int32.ofInt 6) = A11
  generalize h12 : z_s A11 s 11 (A11 t 11) = A12
  generalize h13 : z_s A12 s 12 (A12 t 12) = A13
  generalize h14 : z_s A13 s 13 (A13 t 13) = A14
  generalize h15 : z_s A14 s 14 (A14 t 14) = A15
  have f1 : ∀ a j, ¬ (s ≤ a ∧ a ≤ s + 9) → A1 a j = S a j := fun a j q => by rw [← h1, z_sn (by omega)]
  have f2 : ∀ a j, ¬ (s ≤ a ∧ a ≤ s + 9) → A2 a j = S a j := fun a j q => by rw [← h2, z_cpn (by omega), f1 a j q]
  have f3 : ∀ a j, ¬ (s ≤ a ∧ a ≤ s + 9) → A3 a j = S a j := fun a j q => by rw [← h3, z_cpn (by omega), f2 a j q]
  have f4 : ∀ a j, ¬ (s ≤ a ∧ a ≤ s + 9) → A4 a j = S a j := fun a j q => by rw [← h4, z_cpn (by omega), f3 a j q]
  have f5 : ∀ a j, ¬ (s ≤ a ∧ a ≤ s + 9) → A5 a j = S a j := fun a j q => by rw [← h5, z_cpn (by omega), f4 a j q]
  have f6 : ∀ a j, ¬ (s ≤ a ∧ a ≤ s + 9) → A6 a j = S a j := fun a j q => by rw [← h6, z_cpn (by omega), f5 a j q]
  have f7 : ∀ a j, ¬ (s ≤ a ∧ a ≤ s + 9) → A7 a j = S a j := fun a j q => by rw [← h7, z_cpn (by omega), f6 a j q]
  have f8 : ∀ a j, ¬ (s ≤ a ∧ a ≤ s + 9) → A8 a j = S a j := fun a j q => by rw [← h8, z_sn (by omega), f7 a j q]
  have f9 : ∀ a j, ¬ (s ≤ a ∧ a ≤ s + 9) → A9 a j = S a j := fun a j q => by rw [← h9, z_cpn (by omega), f8 a j q]
  have f10 : ∀ a j, ¬ (s ≤ a ∧ a ≤ s + 9) → A10 a j = S a j := fun a j q => by rw [← h10, z_cpn (by omega), f9 a j q]
  have f11 : ∀ a j, ¬ (s ≤ a ∧ a ≤ s + 9) → A11 a j = S a j := fun a j q => by rw [← h11, z_cpn (by omega), f10 a j q]
  have f12 : ∀ a j, ¬ (s ≤ a ∧ a ≤ s + 9) → A12 a j = S a j := fun a j q => by rw [← h12, z_sn (by omega), f11 a j q]
  have f13 : ∀ a j, ¬ (s ≤ a ∧ a ≤ s + 9) → A13 a j = S a j := fun a j q => by rw [← h13, z_sn (by omega), f12 a j q]
  have f14 : ∀ a j, ¬ (s ≤ a ∧ a ≤ s + 9) → A14 a j = S a j := fun a j q => by rw [← h14, z_sn (by omega), f13 a j q]
  have f15 : ∀ a j, ¬ (s ≤ a ∧ a ≤ s + 9) → A15 a j = S a j := fun a j q => by rw [← h15, z_sn (by omega), f14 a j q]
  refine ⟨f15, fun i j q => ?_, fun j q => ?_⟩
  · have q2 : i = 1 ∧ j < 12 ∨ i = 2 ∧ j < 12 ∨ i = 3 ∧ j < 12 ∨ i = 4 ∧ j < 12 ∨ i = 5 ∧ j < 12 ∨ i = 6 ∧ j < 12 ∨ i = 7 ∧ j < 5 ∨ i = 8 ∧ j < 5 ∨ i = 9 ∧ j < 6 := by omega
    rcases q2 with ⟨rfl, q2⟩ | ⟨rfl, q2⟩ | ⟨rfl, q2⟩ | ⟨rfl, q2⟩ | ⟨rfl, q2⟩ | ⟨rfl, q2⟩ | ⟨rfl, q2⟩ | ⟨rfl, q2⟩ | ⟨rfl, q2⟩
    · rw [← h15, z_sn (by omega), ← h14, z_sn (by omega), ← h13, z_sn (by omega), ← h12, z_sn (by omega), ← h11, z_cpn (by omega), ← h10, z_cpn (by omega), ← h9, z_cpn (by omega), ← h8, z_sn (by omega), ← h7, z_cpn (by omega), ← h6, z_cpn (by omega), ← h5, z_cpn (by omega), ← h4, z_cpn (by omega), ← h3, z_cpn (by omega), ← h2, z_cps m12 (by omega), f1 _ _ (by omega)]
    · rw [← h15, z_sn (by omega), ← h14, z_sn (by omega), ← h13, z_sn (by omega), ← h12, z_sn (by omega), ← h11, z_cpn (by omega), ← h10, z_cpn (by omega), ← h9, z_cpn (by omega), ← h8, z_sn (by omega), ← h7, z_cpn (by omega), ← h6, z_cpn (by omega), ← h5, z_cpn (by omega), ← h4, z_cpn (by omega), ← h3, z_cps m12 (by omega), f2 _ _ (by omega)]
    · rw [← h15, z_sn (by omega), ← h14, z_sn (by omega), ← h13, z_sn (by omega), ← h12, z_sn (by omega), ← h11, z_cpn (by omega), ← h10, z_cpn (by omega), ← h9, z_cpn (by omega), ← h8, z_sn (by omega), ← h7, z_cpn (by omega), ← h6, z_cpn (by omega), ← h5, z_cpn (by omega), ← h4, z_cps m12 (by omega), f3 _ _ (by omega)]
    · rw [← h15, z_sn (by omega), ← h14, z_sn (by omega), ← h13, z_sn (by omega), ← h12, z_sn (by omega), ← h11, z_cpn (by omega), ← h10, z_cpn (by omega), ← h9, z_cpn (by omega), ← h8, z_sn (by omega), ← h7, z_cpn (by omega), ← h6, z_cpn (by omega), ← h5, z_cps m12 (by omega), f4 _ _ (by omega)]
    · rw [← h15, z_sn (by omega), ← h14, z_sn (by omega), ← h13, z_sn (by omega), ← h12, z_sn (by omega), ← h11, z_cpn (by omega), ← h10, z_cpn (by omega), ← h9, z_cpn (by omega), ← h8, z_sn (by omega), ← h7, z_cpn (by omega), ← h6, z_cps m12 (by omega), f5 _ _ (by omega)]
    · rw [← h15, z_sn (by omega), ← h14, z_sn (by omega), ← h13, z_sn (by omega), ← h12, z_sn (by omega), ← h11, z_cpn (by omega), ← h10, z_cpn (by omega), ← h9, z_cpn (by omega), ← h8, z_sn (by omega), ← h7, z_cps m12 (by omega), f6 _ _ (by omega)]
    · rw [← h15, z_sn (by omega), ← h14, z_sn (by omega), ← h13, z_sn (by omega), ← h12, z_sn (by omega), ← h11, z_cpn (by omega), ← h10, z_cpn (by omega), ← h9, z_cps m5 (by omega), f8 _ _ (by omega)]
    · rw [← h15, z_sn (by omega), ← h14, z_sn (by omega), ← h13, z_sn (by omega), ← h12, z_sn (by omega), ← h11, z_cpn (by omega), ← h10, z_cps m5 (by omega), f9 _ _ (by omega)]
    · rw [← h15, z_sn (by omega), ← h14, z_sn (by omega), ← h13, z_sn (by omega), ← h12, z_sn (by omega), ← h11, z_cps m6 (by omega), f10 _ _ (by omega)]
  · have q2 : j = 0 ∨ j = 7 ∨ j = 11 ∨ j = 12 ∨ j = 13 ∨ j = 14 := by omega
    rcases q2 with rfl | rfl | rfl | rfl | rfl | rfl
    · rw [← h15, z_sn (by omega), ← h14, z_sn (by omega), ← h13, z_sn (by omega), ← h12, z_sn (by omega), ← h11, z_cpn (by omega), ← h10, z_cpn (by omega), ← h9, z_cpn (by omega), ← h8, z_sn (by omega), ← h7, z_cpn (by omega), ← h6, z_cpn (by omega), ← h5, z_cpn (by omega), ← h4, z_cpn (by omega), ← h3, z_cpn (by omega), ← h2, z_cpn (by omega), ← h1, z_ss]
    · rw [← h15, z_sn (by omega), ← h14, z_sn (by omega), ← h13, z_sn (by omega), ← h12, z_sn (by omega), ← h11, z_cpn (by omega), ← h10, z_cpn (by omega), ← h9, z_cpn (by omega), ← h8, z_ss, f7 _ _ (by omega)]
    · rw [← h15, z_sn (by omega), ← h14, z_sn (by omega), ← h13, z_sn (by omega), ← h12, z_ss, f11 _ _ (by omega)]
    · rw [← h15, z_sn (by omega), ← h14, z_sn (by omega), ← h13, z_ss, f12 _ _ (by omega)]
    · rw [← h15, z_sn (by omega), ← h14, z_ss, f13 _ _ (by omega)]
    · rw [← h15, z_ss, f14 _ _ (by omega)]
/-! laid aside, brought back -/
theorem z_imul (a b : Nat) : z_i a * z_i b = z_i (a * b) := by
  unfold z_i
  rw [← Int32.ofInt_mul, Int.natCast_mul]
theorem z_ix {n ρ k : Nat} (h : n * ρ + k < 2147483648) : ((Int32.ofInt (n : Int)) * (z_i ρ) + z_i k).toInt.toNat = n * ρ + k := by
  rw [show Int32.ofInt (n : Int) = z_i n from rfl, z_imul, z_iadd, z_iin h]
theorem z_la1 {ρ : Nat} (hr : ρ < 2) : ∀ (r k : Nat) (U0 : v_Sf), r + k = 12 → ∃ U, r_X12_laysAside_2 (z_i ρ) r k U0 = r_X12_laysAside_107 (z_i ρ) 5 0 U ∧ (∀ j, k ≤ j → j < 12 → U 137 (12 * ρ + j) = u_nar 2 (U0 116 j) ∧ U 138 (12 * ρ + j) = U0 117 j ∧ U 139 (12 * ρ + j) = U0 118 j ∧ U 140 (12 * ρ + j) = U0 119 j ∧ U 141 (12 * ρ + j) = U0 120 j ∧ U 142 (12 * ρ + j) = U0 121 j ∧ U 143 (12 * ρ + j) = U0 122 j) ∧ (∀ a j, ¬ (137 ≤ a ∧ a ≤ 143 ∧ 12 * ρ + k ≤ j ∧ j < 12 * ρ + 12) → U a j = U0 a j) := by
  intro r
  induction r with
  | zero =>
    intro k U0 hk
    exact ⟨U0, rfl, fun j h1 h2 => by omega, fun a j q => rfl⟩
  | succ r ih =>
    intro k U0 hk
    have ek : (z_i k).toInt.toNat = k := z_iin (by omega)
    have ex : ((Int32.ofInt 12) * (z_i ρ) + z_i k).toInt.toNat = 12 * ρ + k := z_ix (n := 12) (by omega)
    rw [r_X12_laysAside_2, ek, ex]
    obtain ⟨U, e, h1, h2⟩ := ih (k + 1) (z_s (z_s (z_s (z_s (z_s (z_s (z_s U0 137 (12 * ρ + k) (u_nar 2 (U0 116 k))) 138 (12 * ρ + k) (U0 117 k)) 139 (12 * ρ + k) (U0 118 k)) 140 (12 * ρ + k) (U0 119 k)) 141 (12 * ρ + k) (U0 120 k)) 142 (12 * ρ + k) (U0 121 k)) 143 (12 * ρ + k) (U0 122 k)) (by omega)
    refine ⟨U, e, fun j q1 q2 => ?_, fun a j q => ?_⟩
    · by_cases q : j = k
      · subst q
        refine ⟨?_, ?_, ?_, ?_, ?_, ?_, ?_⟩
        · rw [h2 _ _ (by omega), z_sn (by omega), z_sn (by omega), z_sn (by omega), z_sn (by omega), z_sn (by omega), z_sn (by omega), z_ss]
        · rw [h2 _ _ (by omega), z_sn (by omega), z_sn (by omega), z_sn (by omega), z_sn (by omega), z_sn (by omega), z_ss]
        · rw [h2 _ _ (by omega), z_sn (by omega), z_sn (by omega), z_sn (by omega), z_sn (by omega), z_ss]
        · rw [h2 _ _ (by omega), z_sn (by omega), z_sn (by omega), z_sn (by omega), z_ss]
        · rw [h2 _ _ (by omega), z_sn (by omega), z_sn (by omega), z_ss]
        · rw [h2 _ _ (by omega), z_sn (by omega), z_ss]
        · rw [h2 _ _ (by omega), z_ss]
      · obtain ⟨b0, b1, b2, b3, b4, b5, b6⟩ := h1 j (by omega) q2
        refine ⟨?_, ?_, ?_, ?_, ?_, ?_, ?_⟩
        · rw [b0, z_sn (by omega), z_sn (by omega), z_sn (by omega), z_sn (by omega), z_sn (by omega), z_sn (by omega), z_sn (by omega)]
        · rw [b1, z_sn (by omega), z_sn (by omega), z_sn (by omega), z_sn (by omega), z_sn (by omega), z_sn (by omega), z_sn (by omega)]
        · rw [b2, z_sn (by omega), z_sn (by omega), z_sn (by omega), z_sn (by omega), z_sn (by omega), z_sn (by omega), z_sn (by omega)]
        · rw [b3, z_sn (by omega), z_sn (by omega), z_sn (by omega), z_sn (by omega), z_sn (by omega), z_sn (by omega), z_sn (by omega)]
        · rw [b4, z_sn (by omega), z_sn (by omega), z_sn (by omega), z_sn (by omega), z_sn (by omega), z_sn (by omega), z_sn (by omega)]
        · rw [b5, z_sn (by omega), z_sn (by omega), z_sn (by omega), z_sn (by omega), z_sn (by omega), z_sn (by omega), z_sn (by omega)]
        · rw [b6, z_sn (by omega), z_sn (by omega), z_sn (by omega), z_sn (by omega), z_sn (by omega), z_sn (by omega), z_sn (by omega)]
    · rw [h2 a j (by omega), z_sn (by omega), z_sn (by omega), z_sn (by omega), z_sn (by omega), z_sn (by omega), z_sn (by omega), z_sn (by omega)]
theorem z_la2 {ρ : Nat} (hr : ρ < 2) : ∀ (r k : Nat) (U0 : v_Sf), r + k = 5 → ∃ U, r_X12_laysAside_107 (z_i ρ) r k U0 = r_X12_laysAside_168 (z_i ρ) 6 0 U ∧ (∀ j, k ≤ j → j < 5 → U 144 (5 * ρ + j) = u_nar 2 (U0 129 j) ∧ U 145 (5 * ρ + j) = U0 130 j ∧ U 146 (5 * ρ + j) = U0 131 j) ∧ (∀ a j, ¬ (144 ≤ a ∧ a ≤ 146 ∧ 5 * ρ + k ≤ j ∧ j < 5 * ρ + 5) → U a j = U0 a j) := by
  intro r
  induction r with
  | zero =>
    intro k U0 hk
    exact ⟨U0, rfl, fun j h1 h2 => by omega, fun a j q => rfl⟩
  | succ r ih =>
    intro k U0 hk
    have ek : (z_i k).toInt.toNat = k := z_iin (by omega)
    have ex : ((Int32.ofInt 5) * (z_i ρ) + z_i k).toInt.toNat = 5 * ρ + k := z_ix (n := 5) (by omega)
    rw [r_X12_laysAside_107, ek, ex]
    obtain ⟨U, e, h1, h2⟩ := ih (k + 1) (z_s (z_s (z_s U0 144 (5 * ρ + k) (u_nar 2 (U0 129 k))) 145 (5 * ρ + k) (U0 130 k)) 146 (5 * ρ + k) (U0 131 k)) (by omega)
    refine ⟨U, e, fun j q1 q2 => ?_, fun a j q => ?_⟩
    · by_cases q : j = k
      · subst q
        refine ⟨?_, ?_, ?_⟩
        · rw [h2 _ _ (by omega), z_sn (by omega), z_sn (by omega), z_ss]
        · rw [h2 _ _ (by omega), z_sn (by omega), z_ss]
        · rw [h2 _ _ (by omega), z_ss]
      · obtain ⟨b0, b1, b2⟩ := h1 j (by omega) q2
        refine ⟨?_, ?_, ?_⟩
        · rw [b0, z_sn (by omega), z_sn (by omega), z_sn (by omega)]
        · rw [b1, z_sn (by omega), z_sn (by omega), z_sn (by omega)]
        · rw [b2, z_sn (by omega), z_sn (by omega), z_sn (by omega)]
    · rw [h2 a j (by omega), z_sn (by omega), z_sn (by omega), z_sn (by omega)]
theorem z_la3 {ρ : Nat} (hr : ρ < 2) : ∀ (r k : Nat) (U0 : v_Sf), r + k = 6 → ∃ U, r_X12_laysAside_168 (z_i ρ) r k U0 = z_s (z_s (z_s (z_s U 148 ρ (U 99 60)) 149 ρ (U 99 61)) 150 ρ (U 99 62)) 151 ρ (U 99 2) ∧ (∀ j, k ≤ j → j < 6 → U 147 (6 * ρ + j) = U0 128 j) ∧ (∀ a j, ¬ (a = 147 ∧ 6 * ρ + k ≤ j ∧ j < 6 * ρ + 6) → U a j = U0 a j) := by
  intro r
  induction r with
  | zero =>
    intro k U0 hk
    refine ⟨U0, ?_, fun j h1 h2 => by omega, fun a j q => rfl⟩
    rw [r_X12_laysAside_168, z_iin (show ρ < 2147483648 by omega)]
  | succ r ih =>
    intro k U0 hk
    have ek : (z_i k).toInt.toNat = k := z_iin (by omega)
    have ex : ((Int32.ofInt 6) * (z_i ρ) + z_i k).toInt.toNat = 6 * ρ + k := z_ix (n := 6) (by omega)
    rw [r_X12_laysAside_168, ek, ex]
    obtain ⟨U, e, h1, h2⟩ := ih (k + 1) (z_s U0 147 (6 * ρ + k) (U0 128 k)) (by omega)
    refine ⟨U, e, fun j q1 q2 => ?_, fun a j q => ?_⟩
    · by_cases q : j = k
      · subst q
        rw [h2 _ _ (by omega), z_ss]
      · rw [h1 j (by omega) q2, z_sn (by omega)]
    · rw [h2 a j (by omega), z_sn (by omega)]
theorem z_bb1 {ρ : Nat} (hr : ρ < 2) : ∀ (r k : Nat) (U0 : v_Sf), r + k = 12 → ∃ U, r_X12_bringsBack_2 (z_i ρ) r k U0 = r_X12_bringsBack_107 (z_i ρ) 5 0 U ∧ (∀ j, k ≤ j → j < 12 → U 116 j = u_nar 2 (U0 137 (12 * ρ + j)) ∧ U 117 j = U0 138 (12 * ρ + j) ∧ U 118 j = U0 139 (12 * ρ + j) ∧ U 119 j = U0 140 (12 * ρ + j) ∧ U 120 j = U0 141 (12 * ρ + j) ∧ U 121 j = U0 142 (12 * ρ + j) ∧ U 122 j = U0 143 (12 * ρ + j)) ∧ (∀ a j, ¬ (116 ≤ a ∧ a ≤ 122 ∧ k ≤ j ∧ j < 12) → U a j = U0 a j) := by
  intro r
  induction r with
  | zero =>
    intro k U0 hk
    exact ⟨U0, rfl, fun j h1 h2 => by omega, fun a j q => rfl⟩
  | succ r ih =>
    intro k U0 hk
    have ek : (z_i k).toInt.toNat = k := z_iin (by omega)
    have ex : ((Int32.ofInt 12) * (z_i ρ) + z_i k).toInt.toNat = 12 * ρ + k := z_ix (n := 12) (by omega)
    rw [r_X12_bringsBack_2, ek, ex]
    obtain ⟨U, e, h1, h2⟩ := ih (k + 1) (z_s (z_s (z_s (z_s (z_s (z_s (z_s U0 116 k (u_nar 2 (U0 137 (12 * ρ + k)))) 117 k (U0 138 (12 * ρ + k))) 118 k (U0 139 (12 * ρ + k))) 119 k (U0 140 (12 * ρ + k))) 120 k (U0 141 (12 * ρ + k))) 121 k (U0 142 (12 * ρ + k))) 122 k (U0 143 (12 * ρ + k))) (by omega)
    refine ⟨U, e, fun j q1 q2 => ?_, fun a j q => ?_⟩
    · by_cases q : j = k
      · subst q
        refine ⟨?_, ?_, ?_, ?_, ?_, ?_, ?_⟩
        · rw [h2 _ _ (by omega), z_sn (by omega), z_sn (by omega), z_sn (by omega), z_sn (by omega), z_sn (by omega), z_sn (by omega), z_ss]
        · rw [h2 _ _ (by omega), z_sn (by omega), z_sn (by omega), z_sn (by omega), z_sn (by omega), z_sn (by omega), z_ss]
        · rw [h2 _ _ (by omega), z_sn (by omega), z_sn (by omega), z_sn (by omega), z_sn (by omega), z_ss]
        · rw [h2 _ _ (by omega), z_sn (by omega), z_sn (by omega), z_sn (by omega), z_ss]
        · rw [h2 _ _ (by omega), z_sn (by omega), z_sn (by omega), z_ss]
        · rw [h2 _ _ (by omega), z_sn (by omega), z_ss]
        · rw [h2 _ _ (by omega), z_ss]
      · obtain ⟨b0, b1, b2, b3, b4, b5, b6⟩ := h1 j (by omega) q2
        refine ⟨?_, ?_, ?_, ?_, ?_, ?_, ?_⟩
        · rw [b0, z_sn (by omega), z_sn (by omega), z_sn (by omega), z_sn (by omega), z_sn (by omega), z_sn (by omega), z_sn (by omega)]
        · rw [b1, z_sn (by omega), z_sn (by omega), z_sn (by omega), z_sn (by omega), z_sn (by omega), z_sn (by omega), z_sn (by omega)]
        · rw [b2, z_sn (by omega), z_sn (by omega), z_sn (by omega), z_sn (by omega), z_sn (by omega), z_sn (by omega), z_sn (by omega)]
        · rw [b3, z_sn (by omega), z_sn (by omega), z_sn (by omega), z_sn (by omega), z_sn (by omega), z_sn (by omega), z_sn (by omega)]
        · rw [b4, z_sn (by omega), z_sn (by omega), z_sn (by omega), z_sn (by omega), z_sn (by omega), z_sn (by omega), z_sn (by omega)]
        · rw [b5, z_sn (by omega), z_sn (by omega), z_sn (by omega), z_sn (by omega), z_sn (by omega), z_sn (by omega), z_sn (by omega)]
        · rw [b6, z_sn (by omega), z_sn (by omega), z_sn (by omega), z_sn (by omega), z_sn (by omega), z_sn (by omega), z_sn (by omega)]
    · rw [h2 a j (by omega), z_sn (by omega), z_sn (by omega), z_sn (by omega), z_sn (by omega), z_sn (by omega), z_sn (by omega), z_sn (by omega)]
theorem z_bb2 {ρ : Nat} (hr : ρ < 2) : ∀ (r k : Nat) (U0 : v_Sf), r + k = 5 → ∃ U, r_X12_bringsBack_107 (z_i ρ) r k U0 = r_X12_bringsBack_168 (z_i ρ) 6 0 U ∧ (∀ j, k ≤ j → j < 5 → U 129 j = u_nar 2 (U0 144 (5 * ρ + j)) ∧ U 130 j = U0 145 (5 * ρ + j) ∧ U 131 j = U0 146 (5 * ρ + j)) ∧ (∀ a j, ¬ (129 ≤ a ∧ a ≤ 131 ∧ k ≤ j ∧ j < 5) → U a j = U0 a j) := by
  intro r
  induction r with
  | zero =>
    intro k U0 hk
    exact ⟨U0, rfl, fun j h1 h2 => by omega, fun a j q => rfl⟩
  | succ r ih =>
    intro k U0 hk
    have ek : (z_i k).toInt.toNat = k := z_iin (by omega)
    have ex : ((Int32.ofInt 5) * (z_i ρ) + z_i k).toInt.toNat = 5 * ρ + k := z_ix (n := 5) (by omega)
    rw [r_X12_bringsBack_107, ek, ex]
    obtain ⟨U, e, h1, h2⟩ := ih (k + 1) (z_s (z_s (z_s U0 129 k (u_nar 2 (U0 144 (5 * ρ + k)))) 130 k (U0 145 (5 * ρ + k))) 131 k (U0 146 (5 * ρ + k))) (by omega)
    refine ⟨U, e, fun j q1 q2 => ?_, fun a j q => ?_⟩
    · by_cases q : j = k
      · subst q
        refine ⟨?_, ?_, ?_⟩
        · rw [h2 _ _ (by omega), z_sn (by omega), z_sn (by omega), z_ss]
        · rw [h2 _ _ (by omega), z_sn (by omega), z_ss]
        · rw [h2 _ _ (by omega), z_ss]
      · obtain ⟨b0, b1, b2⟩ := h1 j (by omega) q2
        refine ⟨?_, ?_, ?_⟩
        · rw [b0, z_sn (by omega), z_sn (by omega), z_sn (by omega)]
        · rw [b1, z_sn (by omega), z_sn (by omega), z_sn (by omega)]
        · rw [b2, z_sn (by omega), z_sn (by omega), z_sn (by omega)]
    · rw [h2 a j (by omega), z_sn (by omega), z_sn (by omega), z_sn (by omega)]
theorem z_bb3 {ρ : Nat} (hr : ρ < 2) : ∀ (r k : Nat) (U0 : v_Sf), r + k = 6 → ∃ U, r_X12_bringsBack_168 (z_i ρ) r k U0 = z_s (z_s (z_s (z_s U 99 60 (U 148 ρ)) 99 61 (U 149 ρ)) 99 62 (U 150 ρ)) 99 2 (U 151 ρ) ∧ (∀ j, k ≤ j → j < 6 → U 128 j = if U0 127 j ≤ U0 147 (6 * ρ + j) then Int32.ofInt 0 else U0 147 (6 * ρ + j)) ∧ (∀ a j, ¬ (a = 128 ∧ k ≤ j ∧ j < 6) → U a j = U0 a j) := by
  intro r
  induction r with
  | zero =>
    intro k U0 hk
    refine ⟨U0, ?_, fun j h1 h2 => by omega, fun a j q => rfl⟩
    rw [r_X12_bringsBack_168, z_iin (show ρ < 2147483648 by omega)]
  | succ r ih =>
    intro k U0 hk
    have ek : (z_i k).toInt.toNat = k := z_iin (by omega)
    have ex : ((Int32.ofInt 6) * (z_i ρ) + z_i k).toInt.toNat = 6 * ρ + k := z_ix (n := 6) (by omega)
    rw [r_X12_bringsBack_168, ek, ex]
    have key : ∀ v, (v = if U0 127 k ≤ U0 147 (6 * ρ + k) then Int32.ofInt 0 else U0 147 (6 * ρ + k)) → ∃ U, r_X12_bringsBack_168 (z_i ρ) r (k + 1) (z_s U0 128 k v) = z_s (z_s (z_s (z_s U 99 60 (U 148 ρ)) 99 61 (U 149 ρ)) 99 62 (U 150 ρ)) 99 2 (U 151 ρ) ∧ (∀ j, k ≤ j → j < 6 → U 128 j = if U0 127 j ≤ U0 147 (6 * ρ + j) then Int32.ofInt 0 else U0 147 (6 * ρ + j)) ∧ (∀ a j, ¬ (a = 128 ∧ k ≤ j ∧ j < 6) → U a j = U0 a j) := by
      intro v hv
      obtain ⟨U, e, h1, h2⟩ := ih (k + 1) (z_s U0 128 k v) (by omega)
      refine ⟨U, e, fun j q1 q2 => ?_, fun a j q => ?_⟩
      · by_cases q : j = k
        · subst q
          rw [h2 _ _ (by omega), z_ss, hv]
        · rw [h1 j (by omega) q2, z_sr (by decide), z_sr (by decide)]
      · rw [h2 a j (by omega), z_sn (by omega)]
    by_cases q : U0 127 k ≤ U0 147 (6 * ρ + k)
    · rw [if_pos q]
      exact key _ (by rw [if_pos q])
    · rw [if_neg q]
      exact key _ (by rw [if_neg q])
theorem z_la {ρ : Nat} (hr : ρ < 2) (T : v_Sf) : ∃ X, g_X12_laysAside (z_i ρ) T = X ∧ (∀ j, j < 12 → X 137 (12 * ρ + j) = u_nar 2 (T 116 j) ∧ X 138 (12 * ρ + j) = T 117 j ∧ X 139 (12 * ρ + j) = T 118 j ∧ X 140 (12 * ρ + j) = T 119 j ∧ X 141 (12 * ρ + j) = T 120 j ∧ X 142 (12 * ρ + j) = T 121 j ∧ X 143 (12 * ρ + j) = T 122 j) ∧ (∀ j, j < 5 → X 144 (5 * ρ + j) = u_nar 2 (T 129 j) ∧ X 145 (5 * ρ + j) = T 130 j ∧ X 146 (5 * ρ + j) = T 131 j) ∧ (∀ j, j < 6 → X 147 (6 * ρ + j) = T 128 j) ∧ (X 148 ρ = T 99 60 ∧ X 149 ρ = T 99 61 ∧ X 150 ρ = T 99 62 ∧ X 151 ρ = T 99 2) ∧ (∀ a j, ¬ (137 ≤ a ∧ a ≤ 143 ∧ 12 * ρ ≤ j ∧ j < 12 * ρ + 12 ∨ 144 ≤ a ∧ a ≤ 146 ∧ 5 * ρ ≤ j ∧ j < 5 * ρ + 5 ∨ a = 147 ∧ 6 * ρ ≤ j ∧ j < 6 * ρ + 6 ∨ 148 ≤ a ∧ a ≤ 151 ∧ j = ρ) → X a j = T a j) := by
  obtain ⟨U1, e1, a1, b1⟩ := z_la1 hr 12 0 T (by omega)
  obtain ⟨U2, e2, a2, b2⟩ := z_la2 hr 5 0 U1 (by omega)
  obtain ⟨U3, e3, a3, b3⟩ := z_la3 hr 6 0 U2 (by omega)
  refine ⟨_, rfl, ?_⟩
  unfold g_X12_laysAside F_X12_laysAside
  rw [show 12 - 0 = 12 from rfl, e1, e2, e3]
  refine ⟨fun j hj => ?_, fun j hj => ?_, fun j hj => ?_, ⟨?_, ?_, ?_, ?_⟩, fun a j q => ?_⟩
  · obtain ⟨c0, c1, c2, c3, c4, c5, c6⟩ := a1 j (by omega) hj
    refine ⟨?_, ?_, ?_, ?_, ?_, ?_, ?_⟩
    · rw [z_sn (by omega), z_sn (by omega), z_sn (by omega), z_sn (by omega), b3 _ _ (by omega), b2 _ _ (by omega), c0]
    · rw [z_sn (by omega), z_sn (by omega), z_sn (by omega), z_sn (by omega), b3 _ _ (by omega), b2 _ _ (by omega), c1]
    · rw [z_sn (by omega), z_sn (by omega), z_sn (by omega), z_sn (by omega), b3 _ _ (by omega), b2 _ _ (by omega), c2]
    · rw [z_sn (by omega), z_sn (by omega), z_sn (by omega), z_sn (by omega), b3 _ _ (by omega), b2 _ _ (by omega), c3]
    · rw [z_sn (by omega), z_sn (by omega), z_sn (by omega), z_sn (by omega), b3 _ _ (by omega), b2 _ _ (by omega), c4]
    · rw [z_sn (by omega), z_sn (by omega), z_sn (by omega), z_sn (by omega), b3 _ _ (by omega), b2 _ _ (by omega), c5]
    · rw [z_sn (by omega), z_sn (by omega), z_sn (by omega), z_sn (by omega), b3 _ _ (by omega), b2 _ _ (by omega), c6]
  · obtain ⟨c0, c1, c2⟩ := a2 j (by omega) hj
    refine ⟨?_, ?_, ?_⟩
    · rw [z_sn (by omega), z_sn (by omega), z_sn (by omega), z_sn (by omega), b3 _ _ (by omega), c0, b1 _ _ (by omega)]
    · rw [z_sn (by omega), z_sn (by omega), z_sn (by omega), z_sn (by omega), b3 _ _ (by omega), c1, b1 _ _ (by omega)]
    · rw [z_sn (by omega), z_sn (by omega), z_sn (by omega), z_sn (by omega), b3 _ _ (by omega), c2, b1 _ _ (by omega)]
  · rw [z_sn (by omega), z_sn (by omega), z_sn (by omega), z_sn (by omega), a3 j (by omega) hj, b2 _ _ (by omega), b1 _ _ (by omega)]
  · rw [z_sn (by omega), z_sn (by omega), z_sn (by omega), z_ss, b3 _ _ (by omega), b2 _ _ (by omega), b1 _ _ (by omega)]
  · rw [z_sn (by omega), z_sn (by omega), z_ss, b3 _ _ (by omega), b2 _ _ (by omega), b1 _ _ (by omega)]
  · rw [z_sn (by omega), z_ss, b3 _ _ (by omega), b2 _ _ (by omega), b1 _ _ (by omega)]
  · rw [z_ss, b3 _ _ (by omega), b2 _ _ (by omega), b1 _ _ (by omega)]
  · rw [z_sn (by omega), z_sn (by omega), z_sn (by omega), z_sn (by omega), b3 _ _ (by omega), b2 _ _ (by omega), b1 _ _ (by omega)]
theorem z_bb {ρ : Nat} (hr : ρ < 2) (T : v_Sf) : ∃ X, g_X12_bringsBack (z_i ρ) T = X ∧ (∀ j, j < 12 → X 116 j = u_nar 2 (T 137 (12 * ρ + j)) ∧ X 117 j = T 138 (12 * ρ + j) ∧ X 118 j = T 139 (12 * ρ + j) ∧ X 119 j = T 140 (12 * ρ + j) ∧ X 120 j = T 141 (12 * ρ + j) ∧ X 121 j = T 142 (12 * ρ + j) ∧ X 122 j = T 143 (12 * ρ + j)) ∧ (∀ j, j < 5 → X 129 j = u_nar 2 (T 144 (5 * ρ + j)) ∧ X 130 j = T 145 (5 * ρ + j) ∧ X 131 j = T 146 (5 * ρ + j)) ∧ (∀ j, j < 6 → X 128 j = if T 127 j ≤ T 147 (6 * ρ + j) then Int32.ofInt 0 else T 147 (6 * ρ + j)) ∧ (X 99 60 = T 148 ρ ∧ X 99 61 = T 149 ρ ∧ X 99 62 = T 150 ρ ∧ X 99 2 = T 151 ρ) ∧ (∀ a j, ¬ (116 ≤ a ∧ a ≤ 122 ∧ j < 12 ∨ 129 ≤ a ∧ a ≤ 131 ∧ j < 5 ∨ a = 128 ∧ j < 6 ∨ a = 99 ∧ (j = 2 ∨ 60 ≤ j ∧ j ≤ 62)) → X a j = T a j) := by
  obtain ⟨U1, e1, a1, b1⟩ := z_bb1 hr 12 0 T (by omega)
  obtain ⟨U2, e2, a2, b2⟩ := z_bb2 hr 5 0 U1 (by omega)
  obtain ⟨U3, e3, a3, b3⟩ := z_bb3 hr 6 0 U2 (by omega)
  refine ⟨_, rfl, ?_⟩
  unfold g_X12_bringsBack F_X12_bringsBack
  rw [show 12 - 0 = 12 from rfl, e1, e2, e3]
  refine ⟨fun j hj => ?_, fun j hj => ?_, fun j hj => ?_, ⟨?_, ?_, ?_, ?_⟩, fun a j q => ?_⟩
  · obtain ⟨c0, c1, c2, c3, c4, c5, c6⟩ := a1 j (by omega) hj
    refine ⟨?_, ?_, ?_, ?_, ?_, ?_, ?_⟩
    · rw [z_sn (by omega), z_sn (by omega), z_sn (by omega), z_sn (by omega), b3 _ _ (by omega), b2 _ _ (by omega), c0]
    · rw [z_sn (by omega), z_sn (by omega), z_sn (by omega), z_sn (by omega), b3 _ _ (by omega), b2 _ _ (by omega), c1]
    · rw [z_sn (by omega), z_sn (by omega), z_sn (by omega), z_sn (by omega), b3 _ _ (by omega), b2 _ _ (by omega), c2]
    · rw [z_sn (by omega), z_sn (by omega), z_sn (by omega), z_sn (by omega), b3 _ _ (by omega), b2 _ _ (by omega), c3]
    · rw [z_sn (by omega), z_sn (by omega), z_sn (by omega), z_sn (by omega), b3 _ _ (by omega), b2 _ _ (by omega), c4]
    · rw [z_sn (by omega), z_sn (by omega), z_sn (by omega), z_sn (by omega), b3 _ _ (by omega), b2 _ _ (by omega), c5]
    · rw [z_sn (by omega), z_sn (by omega), z_sn (by omega), z_sn (by omega), b3 _ _ (by omega), b2 _ _ (by omega), c6]
  · obtain ⟨c0, c1, c2⟩ := a2 j (by omega) hj
    refine ⟨?_, ?_, ?_⟩
    · rw [z_sn (by omega), z_sn (by omega), z_sn (by omega), z_sn (by omega), b3 _ _ (by omega), c0, b1 _ _ (by omega)]
    · rw [z_sn (by omega), z_sn (by omega), z_sn (by omega), z_sn (by omega), b3 _ _ (by omega), c1, b1 _ _ (by omega)]
    · rw [z_sn (by omega), z_sn (by omega), z_sn (by omega), z_sn (by omega), b3 _ _ (by omega), c2, b1 _ _ (by omega)]
  · rw [z_sn (by omega), z_sn (by omega), z_sn (by omega), z_sn (by omega), a3 j (by omega) hj, b2 127 _ (by omega), b2 147 _ (by omega), b1 127 _ (by omega), b1 147 _ (by omega)]
  · rw [z_sn (by omega), z_sn (by omega), z_sn (by omega), z_ss, b3 _ _ (by omega), b2 _ _ (by omega), b1 _ _ (by omega)]
  · rw [z_sn (by omega), z_sn (by omega), z_ss, b3 _ _ (by omega), b2 _ _ (by omega), b1 _ _ (by omega)]
  · rw [z_sn (by omega), z_ss, b3 _ _ (by omega), b2 _ _ (by omega), b1 _ _ (by omega)]
  · rw [z_ss, b3 _ _ (by omega), b2 _ _ (by omega), b1 _ _ (by omega)]
  · rw [z_sn (by omega), z_sn (by omega), z_sn (by omega), z_sn (by omega), b3 _ _ (by omega), b2 _ _ (by omega), b1 _ _ (by omega)]
end PrtS44l
section PrtS44m
/-! keep, undo -/
theorem z_co_c {n : Nat} {A B A' B' : Nat → Int32} {lo hi : Int} (h : z_co n A B lo hi) (f : ∀ j, j < n → A' j = A j) (g : ∀ j, j < n → B' j = B j) : z_co n A' B' lo hi := by
  intro j hj
  rw [f j hj, g j hj]
  exact h j hj
theorem z_told_c {n : Nat} {m : Int} {b b' : Int32} {I I' : Nat → Int32} (h : z_told n m b I) (f : b' = b) (g : ∀ j, j < n → I' j = I j) : z_told n m b' I' := by
  rw [f]
  refine ⟨h.1, fun j hj => ?_⟩
  rw [g j hj]
  exact h.2 j hj
noncomputable def z_B01 (T : v_Sf) : Prop := (∀ j, j < 12 → T 116 j = 0 ∨ T 116 j = Int32.ofInt 1) ∧ (∀ j, j < 5 → T 129 j = 0 ∨ T 129 j = Int32.ofInt 1) ∧ (∀ j, j < 24 → T 137 j = 0 ∨ T 137 j = Int32.ofInt 1) ∧ (∀ j, j < 10 → T 144 j = 0 ∨ T 144 j = Int32.ofInt 1)
theorem z_nar01 {v : Int32} (h : v = 0 ∨ v = Int32.ofInt 1) : u_nar 2 v = v := by
  rcases h with rfl | rfl
  · decide
  · decide
theorem z_ors0 (x : Int32) : x ||| Int32.ofInt 0 = x := by
  rw [show Int32.ofInt 0 = 0 by decide]
  exact Int32.or_zero
theorem z_one32 : ∀ g : Fin 12, ∀ k : Fin 32, (Int32.ofInt 1 <<< (z_i g.val &&& 31)).toBitVec.getLsbD k.val = decide (k.val = g.val) := by decide +kernel
/-- told things as bits -/
theorem z_bits_ok {n : Nat} (hn : n ≤ 12) {b : Int32} {I : Nat → Int32} (h : z_told n (2 ^ n - 1 : Nat) b I) (F : Nat → Nat → Int32 → Int32) (F0 : ∀ k x, F 0 k x = x) (F1 : ∀ r k x, k < n → F (r + 1) k x = if I k = 0 then F r (k + 1) (x ||| Int32.ofInt 0) else F r (k + 1) (x ||| (Int32.ofInt 1 <<< (z_i k &&& 31)))) : F n 0 (Int32.ofInt 0) = b := by
  have lp : ∀ (r k : Nat) (x : Int32), r + k = n → (∀ i, i < 32 → x.toBitVec.getLsbD i = decide (i < k ∧ ¬ I i = 0)) → F r k x = b := by
    intro r
    induction r with
    | zero =>
      intro k x hk hx
      obtain rfl : k = n := by omega
      rw [F0]
      refine Int32.toBitVec_inj.mp (BitVec.eq_of_getLsbD_eq fun i hi => ?_)
      rw [hx i hi]
      obtain ⟨⟨h1, h2⟩, h3⟩ := h
      have hb := z_toN h1
      have hp : 1 ≤ 2 ^ k := Nat.one_le_two_pow
      by_cases q : i < k
      · have e := h3 i q
        rw [z_bitL _ (by omega)] at e
        by_cases q2 : I i = 0
        · have n1 : ¬ b.toBitVec.getLsbD i = true := fun m => e.mp m q2
          rw [decide_eq_false (by simp [q2]), Bool.not_eq_true _ |>.mp n1]
        · rw [e.mpr q2, decide_eq_true ⟨q, q2⟩]
      · rw [decide_eq_false (fun m => q m.1)]
        symm
        rw [BitVec.getLsbD, Nat.testBit_lt_two_pow]
        have : 2 ^ k ≤ 2 ^ i := Nat.pow_le_pow_right (by decide) (by omega)
        omega
    | succ r ih =>
      intro k x hk hx
      rw [F1 r k x (by omega)]
      by_cases q : I k = 0
      · rw [if_pos q, z_ors0]
        refine ih (k + 1) x (by omega) (fun i hi => ?_)
        rw [hx i hi]
        by_cases e : i = k
        · rw [e, decide_eq_false (by omega), decide_eq_false (fun m => m.2 q)]
        · exact decide_eq_decide.mpr ⟨fun m => ⟨by omega, m.2⟩, fun m => ⟨by omega, m.2⟩⟩
      · rw [if_neg q]
        refine ih (k + 1) _ (by omega) (fun i hi => ?_)
        rw [Int32.toBitVec_or, BitVec.getLsbD_or, hx i hi]
        have o1 : (Int32.ofInt 1 <<< (z_i k &&& 31)).toBitVec.getLsbD i = decide (i = k) := z_one32 ⟨k, by omega⟩ ⟨i, hi⟩
        rw [o1]
        by_cases e : i = k
        · rw [e, decide_eq_true rfl, Bool.or_true, decide_eq_true ⟨by omega, q⟩]
        · rw [decide_eq_false e, Bool.or_false]
          exact decide_eq_decide.mpr ⟨fun m => ⟨by omega, m.2⟩, fun m => ⟨by omega, m.2⟩⟩
  exact lp n 0 _ (by omega) (fun i hi => by
    rw [decide_eq_false (fun m => Nat.not_lt_zero _ m.1), show (Int32.ofInt 0).toBitVec = 0#32 from rfl]
    simp)
theorem z_toldG {b : Int32} {T : v_Sf} (h : z_told 12 4095 b (T 116)) : f_X12_toldGusts T = b := by
  unfold f_X12_toldGusts F_X12_toldGusts
  rw [show 12 - 0 = 12 from rfl]
  refine z_bits_ok (n := 12) (by decide) h (r_X12_toldGusts_4 T) (fun k x => by rw [r_X12_toldGusts_4]) (fun r k x hk => ?_)
  rw [r_X12_toldGusts_4, z_iin (by omega)]
theorem z_np_all : ∀ i : Fin 4096, v_popN 32 i.val = v_popN 12 i.val := fun i => z_pgo 20 12 i.val i.isLt
theorem z_bc12_all : ∀ i : Fin 4096, f_J6_bitCount_0f7a4 (z_i i.val) = v_pop (z_i i.val) := fun i => by
  have e : (z_i i.val).toUInt32.toNat = i.val := by
    show (z_i i.val).toBitVec.toNat = i.val
    have b : (z_i i.val).toBitVec = BitVec.ofNat 32 i.val := BitVec.ofInt_natCast 32 i.val
    rw [b, BitVec.toNat_ofNat]
    exact Nat.mod_eq_of_lt (by have := i.isLt; omega)
  unfold v_pop
  rw [e, z_np_all i]
  exact z_bcb_all i
theorem z_bc12 {x : Int32} (h : 0 ≤ x.toInt ∧ x.toInt ≤ 4095) : f_J6_bitCount_0f7a4 x = v_pop x := by
  have e := z_ofN h.1
  have h2 : f_J6_bitCount_0f7a4 (z_i x.toInt.toNat) = v_pop (z_i x.toInt.toNat) := z_bc12_all ⟨x.toInt.toNat, by omega⟩
  rw [e] at h2
  exact h2
theorem z_keep_ok {c b : Nat} (hc : z_cd c) (hb : z_cd b) {S T : v_Sf} (h : z_Rel c b S T) (h01 : z_B01 T) : f_X11_keep S = f_X12_keep T ∧ z_Rel c b (g_X11_keep S) (g_X12_keep T) := by
  have hcn := z_cdl hc
  have hbn := z_cdl hb
  obtain ⟨⟨nc, hB⟩, hP, hT, hK, hO, h17, h25⟩ := id h
  obtain ⟨c1, c2, c3⟩ := z_copy (s := 11) (t := 1) (Or.inr (by decide)) S
  obtain ⟨X, eX, x1, x2, x3, ⟨x4, x5, x6, x7⟩, x8⟩ := z_la (ρ := 1) (by decide) (z_s T 99 92 (Int32.ofInt 1))
  have eX' : g_X12_laysAside (Int32.ofInt 1) (z_s T 99 92 (Int32.ofInt 1)) = X := eX
  unfold f_X11_keep g_X11_keep f_X12_keep g_X12_keep f_X12_sizeOf
  rw [eX']
  have gX : ∀ a j, ¬ (137 ≤ a ∧ a ≤ 151 ∧ 1 ≤ j) → ¬ (a = 99 ∧ j = 92) → X a j = T a j := fun a j q1 q2 => by rw [x8 a j (by omega), z_sn q2]
  have g92 : X 99 92 = Int32.ofInt 1 := by rw [x8 99 92 (by omega), z_ss]
  have tr : ∀ a j, ¬ (a = 99 ∧ j = 92) → z_s T 99 92 (Int32.ofInt 1) a j = T a j := fun a j q => z_sn q
  have ks : z_Ks (g_X7_copy 11 1 S) X := by
    obtain ⟨a1, a2, a3, a4, a5, a6, a7, a8, a9, a10, a12, a13, a14⟩ := hB.1
    obtain ⟨p1, p2, p3⟩ := hP
    have k1 : ∀ g, g < 12 → X 137 (12 + g) = T 116 g := fun g hg => by
      have := (x1 g hg).1
      rw [tr 116 g (by omega), z_nar01 (h01.1 g hg)] at this
      exact this
    have k2 : ∀ k, k < 5 → X 144 (5 + k) = T 129 k := fun k hk => by
      have := (x2 k hk).1
      rw [tr 129 k (by omega), z_nar01 (h01.2.1 k hk)] at this
      exact this
    refine ⟨z_told_c a1 (c3 0 (by omega)) k1, z_co_c a2 (fun j hj => c2 1 j (by omega)) (fun j hj => ((x1 j hj).2.1).trans (tr _ _ (by omega))), fun g hg q => ?_, z_co_c a4 (fun j hj => c2 3 j (by omega)) (fun j hj => ((x1 j hj).2.2.2.1).trans (tr _ _ (by omega))), z_co_c a5 (fun j hj => c2 4 j (by omega)) (fun j hj => ((x1 j hj).2.2.2.2.1).trans (tr _ _ (by omega))), z_co_c a6 (fun j hj => c2 5 j (by omega)) (fun j hj => ((x1 j hj).2.2.2.2.2.1).trans (tr _ _ (by omega))), z_co_c a7 (fun j hj => c2 6 j (by omega)) (fun j hj => ((x1 j hj).2.2.2.2.2.2).trans (tr _ _ (by omega))), z_told_c a8 (c3 7 (by omega)) k2, z_co_c a9 (fun j hj => c2 7 j (by omega)) (fun j hj => ((x2 j hj).2.1).trans (tr _ _ (by omega))), z_co_c a10 (fun j hj => c2 8 j (by omega)) (fun j hj => ((x2 j hj).2.2).trans (tr _ _ (by omega))), z_co_c p1 (fun j hj => c2 9 j (by omega)) (fun j hj => (x3 j hj).trans (tr _ _ (by omega))), ?_, ?_, ?_, ?_⟩
    · rw [k1 g hg] at q
      have e1 : g_X7_copy 11 1 S 13 g = S 3 g := c2 2 g (by omega)
      have e2 : X 139 (12 + g) = T 118 g := ((x1 g hg).2.2.1).trans (tr _ _ (by omega))
      rw [e1, e2]
      exact a3 g hg q
    · rw [c3 11 (by omega), x4, tr 99 60 (by omega)]
      exact a12
    · rw [c3 12 (by omega), x5, tr 99 61 (by omega)]
      exact a13
    · rw [c3 13 (by omega), x6, tr 99 62 (by omega)]
      exact a14
    · rw [c3 14 (by omega), x7, tr 99 2 (by omega)]
      exact p3
  have e116 : X 116 = T 116 := funext fun j => gX _ j (by omega) (by omega)
  have f1 : ∀ a j, ¬ (11 ≤ a ∧ a ≤ 20) → ¬ (a = 0 ∧ j = 14) → z_s (g_X7_copy 11 1 S) 0 14 (Int32.ofInt 1) a j = S a j := fun a j q1 q2 => by rw [z_sn q2, c1 a j (by omega)]
  refine ⟨?_, ⟨nc, z_Bs_f hB (fun a q => funext fun j => f1 a j (by omega) (by omega)) (fun j q => f1 1 j (by omega) (by omega)) (fun a j q => gX a j (by omega) (by omega))⟩, z_PX_f hP (funext fun j => f1 _ _ (by omega) (by omega)) (f1 _ _ (by omega) (by omega)) (funext fun j => gX _ _ (by omega) (by omega)) (funext fun j => gX _ _ (by omega) (by omega)) (gX _ _ (by omega) (by omega)), z_Tp_f hT (funext fun j => f1 _ _ (by omega) (by omega)) (f1 _ _ (by omega) (by omega)) (funext fun j => gX _ _ (by omega) (by omega)) (gX _ _ (by omega) (by omega)), ⟨?_, fun _ => z_Ks_f ks (fun a j q => z_sn (by omega)) (fun a j q => rfl)⟩, z_Ot_f hO (fun a j q => f1 a j (by omega) (by omega)) (fun a j q => gX a j (by omega) (by omega)), ?_, ?_⟩
  · rw [c1 1 0 (by omega), z_toldG (b := S 1 0) (by rw [e116]; exact hB.1.1)]
    exact z_bc12 hB.1.1.1
  · rw [z_ss, g92]
  · rw [f1 b 7 (by omega) (by omega), gX 99 17 (by omega) (by omega)]
    exact h17
  · rw [gX 99 25 (by omega) (by omega)]
    exact h25
theorem z_undo_l : ∀ (r k : Nat) (U : v_Sf), r + k = 6 → ∃ W, r_X11_undo_22 r k U = (Int32.ofInt 1, W) ∧ (∀ j, k ≤ j → j < 6 → W 10 j = if U 10 j < U (33 + 2 * j) 1 then U 10 j else Int32.ofInt 0) ∧ (∀ a j, ¬ (a = 10 ∧ k ≤ j ∧ j < 6) → W a j = U a j) := by
  intro r
  induction r with
  | zero =>
    intro k U hk
    exact ⟨U, rfl, fun j h1 h2 => by omega, fun a j q => rfl⟩
  | succ r ih =>
    intro k U hk
    have ek : (z_i k).toInt.toNat = k := z_iin (by omega)
    have e0 : 0 ≤ (z_i k).toInt ∧ (z_i k).toInt < ((6 : Nat) : Int) := by
      rw [z_it3 (by omega)]
      omega
    rw [r_X11_undo_22, if_pos e0, ek]
    by_cases q : U 10 k < U (33 + 2 * k) 1
    · rw [if_pos q]
      obtain ⟨W, e, h1, h2⟩ := ih (k + 1) U (by omega)
      refine ⟨W, e, fun j q1 q2 => ?_, fun a j q1 => h2 a j (by omega)⟩
      by_cases e3 : j = k
      · subst e3
        rw [h2 _ _ (by omega), if_pos q]
      · exact h1 j (by omega) q2
    · rw [if_neg q]
      obtain ⟨W, e, h1, h2⟩ := ih (k + 1) (z_s U 10 k (Int32.ofInt 0)) (by omega)
      refine ⟨W, e, fun j q1 q2 => ?_, fun a j q1 => by rw [h2 a j (by omega), z_sn (by omega)]⟩
      by_cases e3 : j = k
      · subst e3
        rw [h2 _ _ (by omega), if_neg q, z_ss]
      · rw [h1 j (by omega) q2, z_sn (by omega), z_sn (by omega)]
theorem z_undo_ok {c b : Nat} (hc : z_cd c) (hb : z_cd b) {S T : v_Sf} (h : z_Rel c b S T) (h01 : z_B01 T) : f_X11_undo S = f_X12_undo T ∧ z_Rel c b (g_X11_undo S) (g_X12_undo T) := by
  have hcn := z_cdl hc
  have hbn := z_cdl hb
  obtain ⟨⟨nc, hB⟩, hP, hT, ⟨hK1, hK2⟩, hO, h17, h25⟩ := id h
  unfold f_X11_undo g_X11_undo f_X12_undo g_X12_undo F_X11_undo
  rw [hK1]
  by_cases q : T 99 92 = 0
  · rw [if_neg (not_not_intro q), if_neg (not_not_intro q), if_neg (not_not_intro q)]
    exact ⟨rfl, h⟩
  · rw [if_pos q, if_pos q, if_pos q]
    obtain ⟨a1, a2, a3, a4, a5, a6, a7, a8, a9, a10, a11, a12, a13, a14, a15⟩ := hK2 q
    obtain ⟨c1, c2, c3⟩ := z_copy (s := 1) (t := 11) (Or.inl (by decide)) S
    obtain ⟨X, eX, x1, x2, x3, ⟨x4, x5, x6, x7⟩, x8⟩ := z_bb (ρ := 1) (by decide) T
    have eX' : g_X12_bringsBack (Int32.ofInt 1) T = X := eX
    obtain ⟨W, eW, w1, w2⟩ := z_undo_l 6 0 (g_X7_copy 1 11 S) (by omega)
    rw [eX', show 6 - 0 = 6 from rfl, eW]
    have fW : ∀ a j, ¬ (1 ≤ a ∧ a ≤ 10) → W a j = S a j := fun a j q1 => by rw [w2 a j (by omega), c1 a j (by omega)]
    have gX : ∀ a j, ¬ (116 ≤ a ∧ a ≤ 122 ∨ 128 ≤ a ∧ a ≤ 131 ∨ a = 99 ∧ (j = 2 ∨ 60 ≤ j ∧ j ≤ 62)) → X a j = T a j := fun a j q1 => x8 a j (by omega)
    have k1 : ∀ g, g < 12 → X 116 g = T 137 (12 + g) := fun g hg => by
      have := (x1 g hg).1
      rw [z_nar01 (h01.2.2.1 _ (by omega))] at this
      exact this
    have k2 : ∀ k, k < 5 → X 129 k = T 144 (5 + k) := fun k hk => by
      have := (x2 k hk).1
      rw [z_nar01 (h01.2.2.2 _ (by omega))] at this
      exact this
    have wc : ∀ i j, (1 ≤ i ∧ i ≤ 6 ∧ j < 12 ∨ (i = 7 ∨ i = 8) ∧ j < 5) → W (1 + i) j = S (11 + i) j := fun i j q1 => by rw [w2 _ _ (by omega), c2 i j (by omega)]
    have wo : ∀ j, (j = 0 ∨ j = 7 ∨ 11 ≤ j ∧ j ≤ 14) → W 1 j = S 11 j := fun j q1 => by rw [w2 _ _ (by omega), c3 j q1]
    have hS : z_St 1 W X := by
      refine ⟨z_told_c a1 (wo 0 (by omega)) k1, z_co_c a2 (fun j hj => wc 1 j (by omega)) (fun j hj => (x1 j hj).2.1), fun g hg m => ?_, z_co_c a4 (fun j hj => wc 3 j (by omega)) (fun j hj => (x1 j hj).2.2.2.1), z_co_c a5 (fun j hj => wc 4 j (by omega)) (fun j hj => (x1 j hj).2.2.2.2.1), z_co_c a6 (fun j hj => wc 5 j (by omega)) (fun j hj => (x1 j hj).2.2.2.2.2.1), z_co_c a7 (fun j hj => wc 6 j (by omega)) (fun j hj => (x1 j hj).2.2.2.2.2.2), z_told_c a8 (wo 7 (by omega)) k2, z_co_c a9 (fun j hj => wc 7 j (by omega)) (fun j hj => (x2 j hj).2.1), z_co_c a10 (fun j hj => wc 8 j (by omega)) (fun j hj => (x2 j hj).2.2), ?_, ?_, ?_⟩
      · rw [k1 g hg] at m
        have e1 : W (1 + 2) g = S 13 g := wc 2 g (by omega)
        have e2 : X 118 g = T 139 (12 + g) := (x1 g hg).2.2.1
        rw [e1, e2]
        exact a3 g hg m
      · rw [wo 11 (by omega), x4]
        exact a12
      · rw [wo 12 (by omega), x5]
        exact a13
      · rw [wo 13 (by omega), x6]
        exact a14
    have hPX : z_PX 1 W X := by
      have pl : ∀ w, w < 6 → W (1 + 9) w = X 128 w ∧ (X 128 w = 0 ∨ X 128 w = T 147 (6 + w) ∧ (T 147 (6 + w)).toInt < (T 127 w).toInt) := fun w hw => by
        have e1 : g_X7_copy 1 11 S 10 w = S 20 w := c2 9 w (by omega)
        have e2 : S 20 w = T 147 (6 + w) := (a11 w hw).1
        have e3 : S (33 + 2 * w) 1 = T 127 w := (hB.2.1 w hw).1
        have e4 : X 128 w = if T 127 w ≤ T 147 (6 + w) then Int32.ofInt 0 else T 147 (6 + w) := x3 w hw
        have e5 : W (1 + 9) w = if S 20 w < S (33 + 2 * w) 1 then S 20 w else Int32.ofInt 0 := by
          have := w1 w (by omega) hw
          rw [e1, c1 (33 + 2 * w) 1 (by omega)] at this
          exact this
        rw [e5, e4, e2, e3]
        by_cases m : T 147 (6 + w) < T 127 w
        · rw [if_pos m, if_neg (fun n => by rw [z_ltI2] at m; rw [z_leI2] at n; omega)]
          exact ⟨rfl, Or.inr ⟨rfl, z_ltI2.mp m⟩⟩
        · rw [if_neg m, if_pos (by rw [z_ltI2] at m; rw [z_leI2]; omega)]
          exact ⟨rfl, Or.inl rfl⟩
      refine ⟨fun w hw => ?_, fun w hw => ?_, ?_⟩
      · have hw2 : w < 6 := hw
        refine ⟨(pl w hw).1, ?_⟩
        rcases (pl w hw).2 with e | ⟨e, _⟩
        · rw [e]
          decide
        · rw [e]
          exact (a11 w hw).2
      · rw [gX 127 w (by omega)]
        rcases (pl w hw).2 with e | ⟨e, e2⟩
        · exact Or.inl e
        · right
          rw [e]
          exact e2
      · rw [wo 14 (by omega), x7]
        exact a15
    exact ⟨rfl, z_Rel_f h ⟨nc, z_Bs_st hc hB hS (fun a q => funext fun j => fW a j (by omega)) (fun a j q => gX a j (by omega))⟩ hPX (z_Tp_f hT (funext fun j => fW _ _ (by omega)) (fW _ _ (by omega)) (funext fun j => gX _ _ (by omega)) (gX _ _ (by omega))) (fun a j q => fW a j (by omega)) (fun a j q => gX a j (by omega))⟩
end PrtS44m
section PrtS44n
/-! tried: what it leaves as it was -/
theorem z_Ks_f2 {S T S' T' : v_Sf} (h : z_Ks S T) (f : ∀ a j, 11 ≤ a ∧ a ≤ 20 → S' a j = S a j) (g : ∀ a j, (137 ≤ a ∧ a ≤ 143 ∧ 12 ≤ j ∨ 144 ≤ a ∧ a ≤ 146 ∧ 5 ≤ j ∨ a = 147 ∧ 6 ≤ j ∨ 148 ≤ a ∧ a ≤ 151 ∧ 1 ≤ j) → T' a j = T a j) : z_Ks S' T' := by
  have fr : ∀ a, 11 ≤ a ∧ a ≤ 20 → S' a = S a := fun a q => funext fun j => f a j q
  obtain ⟨a1, a2, a3, a4, a5, a6, a7, a8, a9, a10, a11, a12, a13, a14, a15⟩ := h
  refine ⟨?_, ?_, fun i hi q => ?_, ?_, ?_, ?_, ?_, ?_, ?_, ?_, ?_, ?_, ?_, ?_, ?_⟩
  · rw [fr 11 (by omega), show (fun i => T' 137 (12 + i)) = fun i => T 137 (12 + i) from funext fun i => g _ _ (by omega)]
    exact a1
  · rw [fr 12 (by omega), show (fun i => T' 138 (12 + i)) = fun i => T 138 (12 + i) from funext fun i => g _ _ (by omega)]
    exact a2
  · rw [g 137 _ (by omega)] at q
    rw [fr 13 (by omega), g 139 _ (by omega)]
    exact a3 i hi q
  · rw [fr 14 (by omega), show (fun i => T' 140 (12 + i)) = fun i => T 140 (12 + i) from funext fun i => g _ _ (by omega)]
    exact a4
  · rw [fr 15 (by omega), show (fun i => T' 141 (12 + i)) = fun i => T 141 (12 + i) from funext fun i => g _ _ (by omega)]
    exact a5
  · rw [fr 16 (by omega), show (fun i => T' 142 (12 + i)) = fun i => T 142 (12 + i) from funext fun i => g _ _ (by omega)]
    exact a6
  · rw [fr 17 (by omega), show (fun i => T' 143 (12 + i)) = fun i => T 143 (12 + i) from funext fun i => g _ _ (by omega)]
    exact a7
  · rw [fr 11 (by omega), show (fun i => T' 144 (5 + i)) = fun i => T 144 (5 + i) from funext fun i => g _ _ (by omega)]
    exact a8
  · rw [fr 18 (by omega), show (fun i => T' 145 (5 + i)) = fun i => T 145 (5 + i) from funext fun i => g _ _ (by omega)]
    exact a9
  · rw [fr 19 (by omega), show (fun i => T' 146 (5 + i)) = fun i => T 146 (5 + i) from funext fun i => g _ _ (by omega)]
    exact a10
  · rw [fr 20 (by omega), show (fun i => T' 147 (6 + i)) = fun i => T 147 (6 + i) from funext fun i => g _ _ (by omega)]
    exact a11
  · rw [fr 11 (by omega), g 148 1 (by omega)]
    exact a12
  · rw [fr 11 (by omega), g 149 1 (by omega)]
    exact a13
  · rw [fr 11 (by omega), g 150 1 (by omega)]
    exact a14
  · rw [fr 11 (by omega), g 151 1 (by omega)]
    exact a15
theorem z_try {c b : Nat} (hc : z_cd c) (hb : z_cd b) {S T : v_Sf} (h : z_Rel c b S T) (h01 : z_B01 T) (m : Int32) : z_Rel c b (g_X0_go c b 21 m (g_X7_copy 21 1 S)) (g_X12_bringsBack (Int32.ofInt 0) (g_X12_go m (g_X12_laysAside (Int32.ofInt 0) T))) := by
  have hcn := z_cdl hc
  have hbn := z_cdl hb
  obtain ⟨⟨nc, hB⟩, hP, hT, ⟨hK1, hK2⟩, hO, h17, h25⟩ := id h
  obtain ⟨a1, a2, a3, a4, a5, a6, a7, a8, a9, a10, a12, a13, a14⟩ := id hB.1
  obtain ⟨p1, p2, p3⟩ := id hP
  obtain ⟨c1, c2, c3⟩ := z_copy (s := 21) (t := 1) (Or.inr (by decide)) S
  obtain ⟨L, eL, l1, l2, l3, ⟨l4, l5, l6, l7⟩, l8⟩ := z_la (ρ := 0) (by decide) T
  have eL' : g_X12_laysAside (Int32.ofInt 0) T = L := eL
  rw [eL']
  have gL : ∀ a j, ¬ (137 ≤ a ∧ a ≤ 151) → L a j = T a j := fun a j q => l8 a j (by omega)
  have rL : ∀ a, ¬ (137 ≤ a ∧ a ≤ 151) → L a = T a := fun a q => funext fun j => gL a j q
  have hBs : z_Bs c 21 nc (g_X7_copy 21 1 S) L := by
    refine ⟨⟨?_, ?_, fun g hg q => ?_, ?_, ?_, ?_, ?_, ?_, ?_, ?_, ?_, ?_, ?_⟩, fun w hw => ?_, ?_, z_LawR_t hB.2.2.2.1 (funext fun j => c1 _ j (by omega)) (funext fun j => c1 _ j (by omega)) (funext fun j => c1 _ j (by omega)) (funext fun j => c1 _ j (by omega)) (funext fun j => c1 _ j (by omega)) (funext fun j => c1 _ j (by omega)) (fun a j q => gL a j (by omega)), ?_⟩
    · exact z_told_c a1 (c3 0 (by omega)) (fun j _ => gL _ _ (by omega))
    · exact z_co_c a2 (fun j hj => c2 1 j (by omega)) (fun j _ => gL _ _ (by omega))
    · rw [gL 116 g (by omega)] at q
      have e1 : g_X7_copy 21 1 S (21 + 2) g = S (1 + 2) g := c2 2 g (by omega)
      rw [e1, gL 118 g (by omega)]
      exact a3 g hg q
    · exact z_co_c a4 (fun j hj => c2 3 j (by omega)) (fun j _ => gL _ _ (by omega))
    · exact z_co_c a5 (fun j hj => c2 4 j (by omega)) (fun j _ => gL _ _ (by omega))
    · exact z_co_c a6 (fun j hj => c2 5 j (by omega)) (fun j _ => gL _ _ (by omega))
    · exact z_co_c a7 (fun j hj => c2 6 j (by omega)) (fun j _ => gL _ _ (by omega))
    · exact z_told_c a8 (c3 7 (by omega)) (fun j _ => gL _ _ (by omega))
    · exact z_co_c a9 (fun j hj => c2 7 j (by omega)) (fun j _ => gL _ _ (by omega))
    · exact z_co_c a10 (fun j hj => c2 8 j (by omega)) (fun j _ => gL _ _ (by omega))
    · rw [c3 11 (by omega), gL 99 60 (by omega)]
      exact a12
    · rw [c3 12 (by omega), gL 99 61 (by omega)]
      exact a13
    · rw [c3 13 (by omega), gL 99 62 (by omega)]
      exact a14
    · rw [show g_X7_copy 21 1 S (33 + 2 * w) = S (33 + 2 * w) from funext fun j => c1 _ j (by omega), show g_X7_copy 21 1 S (33 + 2 * w + 1) = S (33 + 2 * w + 1) from funext fun j => c1 _ j (by omega), rL 127 (by omega), rL 123 (by omega), rL 124 (by omega), rL 125 (by omega), rL 126 (by omega)]
      exact hB.2.1 w hw
    · rw [show g_X7_copy 21 1 S 48 = S 48 from funext fun j => c1 _ j (by omega), rL 132 (by omega)]
      exact hB.2.2.1
    · rw [gL 99 16 (by omega)]
      exact hB.2.2.2.2
  have hPX : z_PX 21 (g_X7_copy 21 1 S) L := by
    refine ⟨z_co_c p1 (fun j hj => c2 9 j (by omega)) (fun j _ => gL _ _ (by omega)), fun w hw => ?_, ?_⟩
    · rw [gL 128 w (by omega), gL 127 w (by omega)]
      exact p2 w hw
    · rw [c3 14 (by omega), gL 99 2 (by omega)]
      exact p3
  obtain ⟨-, -, g3, g4⟩ := z_go_ok hc hb (Or.inr (Or.inr rfl)) hBs hPX m
  generalize g_X0_go c b 21 m (g_X7_copy 21 1 S) = G at g3 ⊢
  generalize g_X12_go m L = H at g4 ⊢
  obtain ⟨X, eX, x1, x2, x3, ⟨x4, x5, x6, x7⟩, x8⟩ := z_bb (ρ := 0) (by decide) H
  have eX' : g_X12_bringsBack (Int32.ofInt 0) H = X := eX
  rw [eX']
  have fG : ∀ a j, ¬ (21 ≤ a ∧ a ≤ 30) → ¬ (a = 51 ∨ a = 75 ∨ a = c + 3 ∨ a = b + 3) → G a j = S a j := fun a j q1 q2 => by rw [g3 a j (by unfold z_mcG z_mcB z_mc; omega), c1 a j (by omega)]
  have hH : ∀ a j, ¬ (a = 99 ∧ (j = 2 ∨ 27 ≤ j ∧ j ≤ 40 ∨ 60 ≤ j ∧ j ≤ 62 ∨ 70 ≤ j ∧ j ≤ 76) ∨ a = 114 ∨ a = 115 ∨ a = 117 ∨ a = 119 ∨ a = 122 ∨ a = 128 ∨ a = 131) → H a j = L a j := fun a j q => g4 a j (by unfold z_mmG z_mmB z_mm; omega)
  have gX : ∀ a j, ¬ (a = 99 ∧ (j = 2 ∨ 27 ≤ j ∧ j ≤ 40 ∨ 60 ≤ j ∧ j ≤ 62 ∨ 70 ≤ j ∧ j ≤ 76) ∨ a = 114 ∨ a = 115 ∨ 116 ≤ a ∧ a ≤ 122 ∨ 128 ≤ a ∧ a ≤ 131 ∨ 137 ≤ a ∧ a ≤ 143 ∧ j < 12 ∨ 144 ≤ a ∧ a ≤ 146 ∧ j < 5 ∨ a = 147 ∧ j < 6 ∨ 148 ≤ a ∧ a ≤ 151 ∧ j = 0) → X a j = T a j := fun a j q => by rw [x8 a j (by omega), hH a j (by omega), l8 a j (by omega)]
  have kk : ∀ g, g < 12 → X 116 g = T 116 g ∧ X 117 g = T 117 g ∧ X 118 g = T 118 g ∧ X 119 g = T 119 g ∧ X 120 g = T 120 g ∧ X 121 g = T 121 g ∧ X 122 g = T 122 g := fun g hg => by
    obtain ⟨b1, b2, b3, b4, b5, b6, b7⟩ := x1 g hg
    obtain ⟨d1, d2, d3, d4, d5, d6, d7⟩ := l1 g hg
    have n01 := z_nar01 (h01.1 g hg)
    refine ⟨?_, ?_, ?_, ?_, ?_, ?_, ?_⟩
    · rw [b1, hH _ _ (by omega), d1, n01, n01]
    · rw [b2, hH _ _ (by omega), d2]
    · rw [b3, hH _ _ (by omega), d3]
    · rw [b4, hH _ _ (by omega), d4]
    · rw [b5, hH _ _ (by omega), d5]
    · rw [b6, hH _ _ (by omega), d6]
    · rw [b7, hH _ _ (by omega), d7]
  have kn : ∀ k, k < 5 → X 129 k = T 129 k ∧ X 130 k = T 130 k ∧ X 131 k = T 131 k := fun k hk => by
    obtain ⟨b1, b2, b3⟩ := x2 k hk
    obtain ⟨d1, d2, d3⟩ := l2 k hk
    have n01 := z_nar01 (h01.2.1 k hk)
    refine ⟨?_, ?_, ?_⟩
    · rw [b1, hH _ _ (by omega), d1, n01, n01]
    · rw [b2, hH _ _ (by omega), d2]
    · rw [b3, hH _ _ (by omega), d3]
  have kp : ∀ w, w < 6 → X 128 w = T 128 w := fun w hw => by
    rw [x3 w hw, hH 127 w (by omega), hH 147 _ (by omega), gL 127 w (by omega), l3 w hw]
    split
    · rename_i q
      rcases p2 w hw with e | e
      · rw [e]
        rfl
      · rw [z_leI2] at q
        omega
    · rfl
  have m1 : X 99 60 = T 99 60 := by rw [x4, hH _ _ (by omega), l4]
  have m2 : X 99 61 = T 99 61 := by rw [x5, hH _ _ (by omega), l5]
  have m3 : X 99 62 = T 99 62 := by rw [x6, hH _ _ (by omega), l6]
  have m4 : X 99 2 = T 99 2 := by rw [x7, hH _ _ (by omega), l7]
  have rG : ∀ a, ¬ (21 ≤ a ∧ a ≤ 30) → ¬ (a = 51 ∨ a = 75 ∨ a = c + 3 ∨ a = b + 3) → G a = S a := fun a q1 q2 => funext fun j => fG a j q1 q2
  have rX : ∀ a, (100 ≤ a ∧ a ≤ 113 ∨ 123 ≤ a ∧ a ≤ 127 ∨ 132 ≤ a ∧ a ≤ 136) → X a = T a := fun a q => funext fun j => gX a j (by omega)
  refine ⟨⟨nc, ⟨?_, ?_, fun g hg q => ?_, ?_, ?_, ?_, ?_, ?_, ?_, ?_, ?_, ?_, ?_⟩, fun w hw => ?_, ?_, z_LawR_t hB.2.2.2.1 (rG _ (by omega) (by omega)) (rG _ (by omega) (by omega)) (rG _ (by omega) (by omega)) (rG _ (by omega) (by omega)) (rG _ (by omega) (by omega)) (rG _ (by omega) (by omega)) (fun a j q => gX a j (by omega)), ?_⟩, ⟨?_, fun w hw => ?_, ?_⟩, z_Tp_f hT (rG _ (by omega) (by omega)) (fG _ _ (by omega) (by omega)) (rX _ (by omega)) (gX _ _ (by omega)), ⟨?_, fun q => ?_⟩, z_Ot_f hO (fun a j q => fG a j (by omega) (by omega)) (fun a j q => gX a j (by omega)), ?_, ?_⟩
  · exact z_told_c a1 (fG _ _ (by omega) (by omega)) (fun j hj => (kk j hj).1)
  · exact z_co_c a2 (fun j hj => fG _ _ (by omega) (by omega)) (fun j hj => (kk j hj).2.1)
  · rw [(kk g hg).1] at q
    rw [fG _ _ (by omega) (by omega), (kk g hg).2.2.1]
    exact a3 g hg q
  · exact z_co_c a4 (fun j hj => fG _ _ (by omega) (by omega)) (fun j hj => (kk j hj).2.2.2.1)
  · exact z_co_c a5 (fun j hj => fG _ _ (by omega) (by omega)) (fun j hj => (kk j hj).2.2.2.2.1)
  · exact z_co_c a6 (fun j hj => fG _ _ (by omega) (by omega)) (fun j hj => (kk j hj).2.2.2.2.2.1)
  · exact z_co_c a7 (fun j hj => fG _ _ (by omega) (by omega)) (fun j hj => (kk j hj).2.2.2.2.2.2)
  · exact z_told_c a8 (fG _ _ (by omega) (by omega)) (fun j hj => (kn j hj).1)
  · exact z_co_c a9 (fun j hj => fG _ _ (by omega) (by omega)) (fun j hj => (kn j hj).2.1)
  · exact z_co_c a10 (fun j hj => fG _ _ (by omega) (by omega)) (fun j hj => (kn j hj).2.2)
  · rw [fG 1 11 (by omega) (by omega), m1]
    exact a12
  · rw [fG 1 12 (by omega) (by omega), m2]
    exact a13
  · rw [fG 1 13 (by omega) (by omega), m3]
    exact a14
  · rw [rG (33 + 2 * w) (by omega) (by omega), rG (33 + 2 * w + 1) (by omega) (by omega), rX 127 (by omega), rX 123 (by omega), rX 124 (by omega), rX 125 (by omega), rX 126 (by omega)]
    exact hB.2.1 w hw
  · rw [rG 48 (by omega) (by omega), rX 132 (by omega)]
    exact hB.2.2.1
  · rw [gX 99 16 (by omega)]
    exact hB.2.2.2.2
  · exact z_co_c p1 (fun j hj => fG _ _ (by omega) (by omega)) (fun j hj => kp j hj)
  · rw [kp w hw, rX 127 (by omega)]
    exact p2 w hw
  · rw [fG 1 14 (by omega) (by omega), m4]
    exact p3
  · rw [fG 0 14 (by omega) (by omega), gX 99 92 (by omega)]
    exact hK1
  · rw [gX 99 92 (by omega)] at q
    exact z_Ks_f2 (hK2 q) (fun a j q => fG a j (by omega) (by omega)) (fun a j q => gX a j (by omega))
  · rw [fG b 7 (by omega) (by omega), gX 99 17 (by omega)]
    exact h17
  · rw [gX 99 25 (by omega)]
    exact h25
theorem z_tried_rel {c b : Nat} (hc : z_cd c) (hb : z_cd b) {S T : v_Sf} (h : z_Rel c b S T) (h01 : z_B01 T) (m x : Int32) : z_Rel c b (g_X11_tried c b m x S) (g_X12_tried m x T) := by
  obtain ⟨⟨nc, hB⟩, _⟩ := id h
  have et := z_told_eq hB.1 (x - Int32.ofInt 10)
  have key := z_try hc hb h h01 m
  unfold g_X11_tried g_X12_tried
  rw [et]
  by_cases r : 1 ≤ m.toInt ∧ m.toInt ≤ 60
  · have q1 : ¬ m < Int32.ofInt 1 := by
      rw [z_ltI2, show (Int32.ofInt 1).toInt = 1 from rfl]
      omega
    have q2 : ¬ Int32.ofInt 60 < m := by
      rw [z_ltI2, show (Int32.ofInt 60).toInt = 60 from rfl]
      omega
    have q3 : ¬ z_in m 1 60 = 0 := fun n => z_in0.mp n r
    rw [if_neg q1, if_neg q2, if_neg q3]
    by_cases r2 : 0 ≤ x.toInt ∧ x.toInt ≤ 6
    · rw [if_pos (fun n => z_within.mp n r2), if_pos (fun n => z_in0.mp n r2)]
      exact key
    · rw [if_neg (not_not_intro (z_within.mpr r2)), if_neg (not_not_intro (z_in0.mpr r2))]
      by_cases t : f_X12_isTold (x - Int32.ofInt 10) T = 0
      · rw [if_neg (not_not_intro t), if_neg (not_not_intro t)]
        exact h
      · rw [if_pos t, if_pos t]
        exact key
  · have q3 : z_in m 1 60 = 0 := z_in0.mpr r
    rw [if_pos q3]
    by_cases q1 : m < Int32.ofInt 1
    · rw [if_pos q1]
      exact h
    · have q2 : Int32.ofInt 60 < m := by
        rw [z_ltI2, show (Int32.ofInt 1).toInt = 1 from rfl] at q1
        rw [z_ltI2, show (Int32.ofInt 60).toInt = 60 from rfl]
        omega
      rw [if_neg q1, if_pos q2]
      exact h
end PrtS44n
