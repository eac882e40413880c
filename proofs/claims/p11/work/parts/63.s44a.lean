/-! what the class's readers leave alone -/
noncomputable def z_rc (e a : Nat) : Prop := a = 66 ∨ a = e ∨ a = e + 1 ∨ a = e + 2 ∨ a = e + 4 ∨ a = e + 5 ∨ a = e + 6 ∨ a = 74
section CLO
variable {Pr : v_Sf → Prop} {e : Nat}
theorem z_C_put (hp : ∀ S a i v, Pr S → z_rc e a → Pr (z_s S a i v)) (c v : Int32) {S : v_Sf} (h : Pr S) : Pr (g_X1_put e c v S) := by
  unfold g_X1_put
  split
  · exact hp _ _ _ _ (hp _ _ _ _ (hp _ _ _ _ h (by unfold z_rc; omega)) (by unfold z_rc; omega)) (by unfold z_rc; omega)
  · exact h
theorem z_C_land (hp : ∀ S a i v, Pr S → z_rc e a → Pr (z_s S a i v)) (c : Int32) {S : v_Sf} (h : Pr S) : Pr (g_X1_land e c S) := by
  unfold g_X1_land
  split
  · exact h
  · split
    · exact h
    · exact hp _ _ _ _ h (by unfold z_rc; omega)
theorem z_C_66 (hp : ∀ S a i v, Pr S → z_rc e a → Pr (z_s S a i v)) {S : v_Sf} (i : Nat) (v : Int32) (h : Pr S) : Pr (z_s S 66 i v) := hp _ _ _ _ h (by unfold z_rc; omega)
theorem z_C_fail (hp : ∀ S a i v, Pr S → z_rc e a → Pr (z_s S a i v)) (c b : Int32) {S : v_Sf} (h : Pr S) : Pr (g_X5_fail c b S) := by
  unfold g_X5_fail
  split
  · exact h
  · exact z_C_66 hp _ _ (z_C_66 hp _ _ h)
theorem z_C_expect (hp : ∀ S a i v, Pr S → z_rc e a → Pr (z_s S a i v)) (c : Int32) {S : v_Sf} (h : Pr S) : Pr (g_X5_expect c S) := by
  unfold g_X5_expect
  split
  · exact z_C_fail hp _ _ h
  · exact z_C_66 hp _ _ h
theorem z_C_opens (hp : ∀ S a i v, Pr S → z_rc e a → Pr (z_s S a i v)) (c : Int32) {S : v_Sf} (h : Pr S) : Pr (g_X5_opens c S) := by
  unfold g_X5_opens
  split
  · exact z_C_66 hp _ _ h
  · exact z_C_fail hp _ _ h
theorem z_C_num (hp : ∀ S a i v, Pr S → z_rc e a → Pr (z_s S a i v)) : ∀ (r k : Nat) (x : Int32) (S : v_Sf), Pr S → Pr (r_X5_readNumber_4 e r k x S) := by
  intro r
  induction r with
  | zero =>
    intro k x S h
    rw [r_X5_readNumber_4]
    exact z_C_put hp _ _ h
  | succ r ih =>
    intro k x S h
    rw [r_X5_readNumber_4]
    split
    · exact z_C_put hp _ _ h
    · split
      · exact z_C_put hp _ _ h
      · split
        · exact ih _ _ _ (z_C_66 hp _ _ h)
        · exact z_C_fail hp _ _ h
theorem z_C_fac (hp : ∀ S a i v, Pr S → z_rc e a → Pr (z_s S a i v)) {φ : Int32 → v_Sf → v_Sf} (hφ : ∀ a S, Pr S → Pr (φ a S)) (a : Int32) {S : v_Sf} (h : Pr S) : Pr (g_readFactorF e φ a S) := by
  have br : Pr (g_X5_expect (Int32.ofInt 93) (φ (a + Int32.ofInt 1) (g_X5_opens a S))) := z_C_expect hp _ (hφ _ _ (z_C_opens hp _ h))
  have lt : ∀ v u, Pr (z_s (g_X1_put e (Int32.ofInt 2) v S) 66 4 u) := fun v u => z_C_66 hp _ _ (z_C_put hp _ _ h)
  have nu : Pr (g_X5_readNumber e S) := z_C_num hp _ _ _ _ h
  unfold g_readFactorF F_readFactorF
  split
  · split
    · split
      · split
        · exact z_C_fail hp _ _ h
        · exact lt _ _
      · split
        · split
          · exact z_C_fail hp _ _ h
          · exact lt _ _
        · exact nu
    · split
      · exact z_C_opens hp _ h
      · exact br
  · split
    · split
      · exact z_C_fail hp _ _ h
      · split
        · exact z_C_fail hp _ _ h
        · exact nu
    · split
      · exact z_C_opens hp _ h
      · exact br
theorem z_C_trm (hp : ∀ S a i v, Pr S → z_rc e a → Pr (z_s S a i v)) {φ : Int32 → v_Sf → v_Sf} (hφ : ∀ a S, Pr S → Pr (φ a S)) (a : Int32) : ∀ (r k : Nat) (S : v_Sf), Pr S → Pr (r_readTermF_7 e φ a r k S) := by
  intro r
  induction r with
  | zero =>
    intro k S h
    rw [r_readTermF_7]
    exact h
  | succ r ih =>
    intro k S h
    have st : ∀ c v, Pr (r_readTermF_7 e φ a r (k + 1) (g_X1_put e c (Int32.ofInt 0) (g_readFactorF e φ a (z_s S 66 4 v)))) := fun c v => ih _ _ (z_C_put hp _ _ (z_C_fac hp hφ a (z_C_66 hp _ _ h)))
    rw [r_readTermF_7]
    split
    · exact st _ _
    · split
      · exact st _ _
      · split
        · exact h
        · exact st _ _
theorem z_C_term (hp : ∀ S a i v, Pr S → z_rc e a → Pr (z_s S a i v)) {φ : Int32 → v_Sf → v_Sf} (hφ : ∀ a S, Pr S → Pr (φ a S)) (a : Int32) {S : v_Sf} (h : Pr S) : Pr (g_readTermF e φ a S) := z_C_trm hp hφ a _ _ _ (z_C_fac hp hφ a h)
theorem z_C_sm (hp : ∀ S a i v, Pr S → z_rc e a → Pr (z_s S a i v)) {φ : Int32 → v_Sf → v_Sf} (hφ : ∀ a S, Pr S → Pr (φ a S)) (a : Int32) : ∀ (r k : Nat) (S : v_Sf), Pr S → Pr (r_readSumF_7 e φ a r k S) := by
  intro r
  induction r with
  | zero =>
    intro k S h
    rw [r_readSumF_7]
    exact h
  | succ r ih =>
    intro k S h
    have st : ∀ c v, Pr (r_readSumF_7 e φ a r (k + 1) (g_X1_put e c (Int32.ofInt 0) (g_readTermF e φ a (z_s S 66 4 v)))) := fun c v => ih _ _ (z_C_put hp _ _ (z_C_term hp hφ a (z_C_66 hp _ _ h)))
    rw [r_readSumF_7]
    split
    · exact st _ _
    · split
      · exact h
      · exact st _ _
theorem z_C_sum (hp : ∀ S a i v, Pr S → z_rc e a → Pr (z_s S a i v)) {φ : Int32 → v_Sf → v_Sf} (hφ : ∀ a S, Pr S → Pr (φ a S)) (a : Int32) {S : v_Sf} (h : Pr S) : Pr (g_readSumF e φ a S) := z_C_sm hp hφ a _ _ _ (z_C_term hp hφ a h)
theorem z_C_rdS (hp : ∀ S a i v, Pr S → z_rc e a → Pr (z_s S a i v)) : ∀ (f : Nat) (a : Int32) (S : v_Sf), Pr S → Pr (g_rdS e f a S) := by
  intro f
  induction f with
  | zero =>
    intro a S h
    rw [g_rdS]
    exact z_C_sum hp (fun _ _ h => h) a h
  | succ f ih =>
    intro a S h
    rw [g_rdS]
    exact z_C_sum hp ih a h
theorem z_C_brk (hp : ∀ S a i v, Pr S → z_rc e a → Pr (z_s S a i v)) {φ : Int32 → v_Sf → v_Sf} (hφ : ∀ a S, Pr S → Pr (φ a S)) (a : Int32) {S : v_Sf} (h : Pr S) : Pr (g_readBracketF e φ a S) := by
  unfold g_readBracketF F_readBracketF
  split
  · split
    · exact z_C_opens hp _ h
    · exact z_C_expect hp _ (hφ _ _ (z_C_opens hp _ h))
  · exact z_C_fail hp _ _ h
theorem z_C_tst (hp : ∀ S a i v, Pr S → z_rc e a → Pr (z_s S a i v)) {φS φT φC : Int32 → v_Sf → v_Sf} (hS : ∀ a S, Pr S → Pr (φS a S)) (hT : ∀ a S, Pr S → Pr (φT a S)) (hC : ∀ a S, Pr S → Pr (φC a S)) (a : Int32) {S : v_Sf} (h : Pr S) : Pr (g_readTestF e φS φT φC a S) := by
  have h1 := z_C_sum hp hS a h
  have cm : ∀ c v, Pr (g_X1_put e c (Int32.ofInt 0) (g_readSumF e φS a (z_s (g_readSumF e φS a S) 66 4 v))) := fun c v => z_C_put hp _ _ (z_C_sum hp hS a (z_C_66 hp _ _ h1))
  unfold g_readTestF F_readTestF
  split
  · split
    · split
      · exact cm _ _
      · split
        · exact cm _ _
        · split
          · exact cm _ _
          · exact z_C_fail hp _ _ h1
    · split
      · exact z_C_opens hp _ h
      · exact z_C_put hp _ _ (hT _ _ (z_C_opens hp _ h))
  · exact z_C_brk hp hC a h
theorem z_C_prt (hp : ∀ S a i v, Pr S → z_rc e a → Pr (z_s S a i v)) {φS φT φC : Int32 → v_Sf → v_Sf} (hS : ∀ a S, Pr S → Pr (φS a S)) (hT : ∀ a S, Pr S → Pr (φT a S)) (hC : ∀ a S, Pr S → Pr (φC a S)) (a : Int32) : ∀ (r k : Nat) (S : v_Sf), Pr S → Pr (r_readPartF_7 e φS φT φC a r k S) := by
  intro r
  induction r with
  | zero =>
    intro k S h
    rw [r_readPartF_7]
    exact h
  | succ r ih =>
    intro k S h
    rw [r_readPartF_7]
    split
    · exact h
    · exact ih _ _ (z_C_land hp _ (z_C_tst hp hS hT hC a (z_C_put hp _ _ (z_C_66 hp _ _ h))))
theorem z_C_part (hp : ∀ S a i v, Pr S → z_rc e a → Pr (z_s S a i v)) {φS φT φC : Int32 → v_Sf → v_Sf} (hS : ∀ a S, Pr S → Pr (φS a S)) (hT : ∀ a S, Pr S → Pr (φT a S)) (hC : ∀ a S, Pr S → Pr (φC a S)) (a : Int32) {S : v_Sf} (h : Pr S) : Pr (g_readPartF e φS φT φC a S) := z_C_prt hp hS hT hC a _ _ _ (z_C_tst hp hS hT hC a h)
theorem z_C_cnd (hp : ∀ S a i v, Pr S → z_rc e a → Pr (z_s S a i v)) {φS φT φC : Int32 → v_Sf → v_Sf} (hS : ∀ a S, Pr S → Pr (φS a S)) (hT : ∀ a S, Pr S → Pr (φT a S)) (hC : ∀ a S, Pr S → Pr (φC a S)) (a : Int32) : ∀ (r k : Nat) (S : v_Sf), Pr S → Pr (r_readConditionF_7 e φS φT φC a r k S) := by
  intro r
  induction r with
  | zero =>
    intro k S h
    rw [r_readConditionF_7]
    exact h
  | succ r ih =>
    intro k S h
    rw [r_readConditionF_7]
    split
    · exact h
    · exact ih _ _ (z_C_land hp _ (z_C_part hp hS hT hC a (z_C_put hp _ _ (z_C_66 hp _ _ h))))
theorem z_C_cond (hp : ∀ S a i v, Pr S → z_rc e a → Pr (z_s S a i v)) {φS φT φC : Int32 → v_Sf → v_Sf} (hS : ∀ a S, Pr S → Pr (φS a S)) (hT : ∀ a S, Pr S → Pr (φT a S)) (hC : ∀ a S, Pr S → Pr (φC a S)) (a : Int32) {S : v_Sf} (h : Pr S) : Pr (g_readConditionF e φS φT φC a S) := z_C_cnd hp hS hT hC a _ _ _ (z_C_part hp hS hT hC a h)
theorem z_C_rdX (hp : ∀ S a i v, Pr S → z_rc e a → Pr (z_s S a i v)) : ∀ f : Nat, (∀ a S, Pr S → Pr ((g_rdX e f).1 a S)) ∧ ∀ a S, Pr S → Pr ((g_rdX e f).2 a S) := by
  intro f
  induction f with
  | zero =>
    simp only [g_rdX]
    exact ⟨fun a S h => z_C_tst hp (fun _ _ h => h) (fun _ _ h => h) (fun _ _ h => h) a h, fun a S h => z_C_cond hp (fun _ _ h => h) (fun _ _ h => h) (fun _ _ h => h) a h⟩
  | succ f ih =>
    simp only [g_rdX]
    exact ⟨fun a S h => z_C_tst hp (z_C_rdS hp f) ih.1 ih.2 a h, fun a S h => z_C_cond hp (z_C_rdS hp f) ih.1 ih.2 a h⟩
theorem z_C_whole (hp : ∀ S a i v, Pr S → z_rc e a → Pr (z_s S a i v)) {S : v_Sf} (h : Pr S) : Pr (g_X5_readWhole e S) := by
  have h1 : Pr (g_X1_openCondition e S) := by
    unfold g_X1_openCondition
    split
    · exact h
    · exact hp _ _ _ _ h (by unfold z_rc; omega)
  have h2 : Pr (g_rdB6 e (Int32.ofInt 0) (g_X1_openCondition e S)) := z_C_brk hp (z_C_rdX hp 5).2 _ h1
  unfold g_X5_readWhole g_X1_closeClause
  split
  · exact z_C_put hp _ _ h2
  · exact hp _ _ _ _ (z_C_put hp _ _ h2) (by unfold z_rc; omega)
theorem z_C_open (hp : ∀ S a i v, Pr S → z_rc e a → Pr (z_s S a i v)) (c : Int32) {S : v_Sf} (h : Pr S) : Pr (g_X1_openClause e c S) := by
  unfold g_X1_openClause
  split
  · exact h
  · exact hp _ _ _ _ (hp _ _ _ _ h (by unfold z_rc; omega)) (by unfold z_rc; omega)
theorem z_C_rule (hp : ∀ S a i v, Pr S → z_rc e a → Pr (z_s S a i v)) {S : v_Sf} (h : Pr S) : Pr (g_X5_readRule e S) := by
  have k := z_C_whole hp (z_C_open hp (Int32.ofInt 114) h)
  unfold g_X5_readRule
  split
  · exact k
  · split
    · exact k
    · exact z_C_fail hp _ _ h
theorem z_C_clause (hp : ∀ S a i v, Pr S → z_rc e a → Pr (z_s S a i v)) {S : v_Sf} (h : Pr S) : Pr (g_X5_readClause e S) := by
  by_cases g1 : z_aln (f_X5_here S)
  · rw [z_rc_aln rfl g1]
    split
    · exact z_C_whole hp (z_C_open hp _ (z_C_66 hp _ _ h))
    · exact z_C_fail hp _ _ h
  · by_cases g2 : z_amt (f_X5_here S)
    · rw [z_rc_amt rfl g2]
      split
      · exact z_C_whole hp (z_C_put hp _ _ (z_C_rdS hp 6 _ _ (z_C_open hp _ (z_C_66 hp _ _ h))))
      · exact z_C_fail hp _ _ h
    · rw [z_rc_no rfl g1 g2]
      exact z_C_fail hp _ _ h
theorem z_C_text (hp : ∀ S a i v, Pr S → z_rc e a → Pr (z_s S a i v)) (x : Int32) : ∀ (r k : Nat) (S : v_Sf), Pr S → Pr (r_X5_readText_7 e x r k S).2 := by
  intro r
  induction r with
  | zero =>
    intro k S h
    rw [r_X5_readText_7]
    split <;> exact h
  | succ r ih =>
    intro k S h
    have k1 := z_C_rule hp h
    have k2 := z_C_clause hp h
    rw [r_X5_readText_7]
    split
    · split
      · exact ih _ _ (z_C_expect hp _ k1)
      · split <;> exact k1
    · split
      · exact ih _ _ (z_C_expect hp _ k2)
      · split <;> exact k2
theorem z_C_begin (hp : ∀ S a i v, Pr S → z_rc e a → Pr (z_s S a i v)) (m : Int32) {S : v_Sf} (h : Pr S) : Pr (g_X5_begin e m S) := z_C_66 hp _ _ (z_C_66 hp _ _ (z_C_66 hp _ _ (z_C_66 hp _ _ (hp _ _ _ _ (hp _ _ _ _ h (by unfold z_rc; omega)) (by unfold z_rc; omega)))))
theorem z_C_wrm (hp : ∀ S a i v, Pr S → z_rc e a → Pr (z_s S a i v)) (l : Int32) {S : v_Sf} (h : Pr S) : Pr (g_X5_writeMonth l S) := by
  unfold g_X5_writeMonth
  split
  · exact z_C_66 hp _ _ h
  · exact z_C_66 hp _ _ (hp _ _ _ _ (z_C_66 hp _ _ h) (by unfold z_rc; omega))
theorem z_C_rpl (hp : ∀ S a i v, Pr S → z_rc e a → Pr (z_s S a i v)) (x4 x5 : Int32) : ∀ (r : Nat) (x6 : Int32) (S : v_Sf), Pr S → Pr (r_X5_repeat_37 x4 x5 r x6 S) := by
  intro r
  induction r with
  | zero =>
    intro x6 S h
    rw [r_X5_repeat_37]
    exact z_C_66 hp _ _ h
  | succ r ih =>
    intro x6 S h
    rw [r_X5_repeat_37]
    split
    · exact z_C_66 hp _ _ h
    · split
      · exact z_C_66 hp _ _ h
      · exact ih _ _ (hp _ _ _ _ h (by unfold z_rc; omega))
theorem z_C_rpt (hp : ∀ S a i v, Pr S → z_rc e a → Pr (z_s S a i v)) (a b i : Int32) {S : v_Sf} (h : Pr S) : Pr (g_X5_repeat a b i S) := by
  unfold g_X5_repeat F_X5_repeat
  split
  · exact z_C_rpl hp _ _ _ _ _ h
  · exact z_C_fail hp _ _ h
theorem z_C_mZ (hp : ∀ S a i v, Pr S → z_rc e a → Pr (z_s S a i v)) {φ : Int32 → v_Sf → v_Sf} (hφ : ∀ a S, Pr S → Pr (φ a S)) (a : Int32) {S : v_Sf} (h : Pr S) : Pr (z_mZ φ a S) := by
  unfold z_mZ
  split
  · split
    · split
      · exact z_C_fail hp _ _ h
      · split
        · exact z_C_fail hp _ _ h
        · exact z_C_wrm hp _ h
    · exact z_C_wrm hp _ h
  · unfold g_readGroupF F_readGroupF
    split
    · exact z_C_expect hp _ (hφ _ _ (z_C_66 hp _ _ h))
    · exact z_C_fail hp _ _ h
theorem z_C_mW (hp : ∀ S a i v, Pr S → z_rc e a → Pr (z_s S a i v)) {φ : Int32 → v_Sf → v_Sf} (hφ : ∀ a S, Pr S → Pr (φ a S)) (a M t f : Int32) {S : v_Sf} (h : Pr S) : Pr (z_mW φ a M t f S) := by
  unfold z_mW
  split
  · exact z_C_mZ hp hφ a h
  · exact z_C_rpt hp _ _ _ (z_C_mZ hp hφ a h)
theorem z_C_mon (hp : ∀ S a i v, Pr S → z_rc e a → Pr (z_s S a i v)) {φ : Int32 → v_Sf → v_Sf} (hφ : ∀ a S, Pr S → Pr (φ a S)) (a : Int32) {S : v_Sf} (h : Pr S) : Pr (g_readMonthF φ a S) := by
  by_cases c : f_X5_here S < Int32.ofInt 50 ∨ Int32.ofInt 57 < f_X5_here S
  · rw [z_rm1 c]
    exact z_C_mW hp hφ _ _ _ _ h
  · rw [z_rm2 (fun q => c (Or.inl q)) (fun q => c (Or.inr q))]
    exact z_C_mW hp hφ _ _ _ _ (z_C_66 hp _ _ h)
theorem z_C_mns (hp : ∀ S a i v, Pr S → z_rc e a → Pr (z_s S a i v)) {φ : Int32 → v_Sf → v_Sf} (hφ : ∀ a S, Pr S → Pr (φ a S)) (a : Int32) : ∀ (r k : Nat) (S : v_Sf), Pr S → Pr (r_readMonthsF_2 φ a r k S) := by
  intro r
  induction r with
  | zero =>
    intro k S h
    rw [r_readMonthsF_2]
    exact h
  | succ r ih =>
    intro k S h
    have m := z_C_mon hp hφ a h
    rw [r_readMonthsF_2]
    split
    · exact m
    · split
      · exact ih _ _ m
      · exact m
theorem z_C_rdM (hp : ∀ S a i v, Pr S → z_rc e a → Pr (z_s S a i v)) : ∀ (f : Nat) (a : Int32) (S : v_Sf), Pr S → Pr (g_rdM f a S) := by
  intro f
  induction f with
  | zero =>
    intro a S h
    rw [g_rdM]
    exact z_C_mns hp (fun _ _ h => h) a _ _ _ h
  | succ f ih =>
    intro a S h
    rw [g_rdM]
    exact z_C_mns hp ih a _ _ _ h
end CLO
theorem z_rd_text {e : Nat} (m x : Int32) (S : v_Sf) : ∀ a, ¬ z_rc e a → g_X5_readText e m x S a = S a := by
  have hp : ∀ (X : v_Sf) a i v, (∀ b, ¬ z_rc e b → X b = S b) → z_rc e a → ∀ b, ¬ z_rc e b → z_s X a i v b = S b := fun X a i v h q b n => by
    have ne : b ≠ a := fun m => n (by rw [m]; exact q)
    rw [z_sr ne]
    exact h b n
  exact z_C_text (Pr := fun X => ∀ b, ¬ z_rc e b → X b = S b) hp x _ _ _ (z_C_begin (Pr := fun X => ∀ b, ¬ z_rc e b → X b = S b) hp m (fun _ _ => rfl))
theorem z_rd_tt {e : Nat} (m : Int32) (S : v_Sf) : ∀ a, ¬ z_rc e a → g_X5_readTimetable e m S a = S a := by
  have hp : ∀ (X : v_Sf) a i v, (∀ b, ¬ z_rc e b → X b = S b) → z_rc e a → ∀ b, ¬ z_rc e b → z_s X a i v b = S b := fun X a i v h q b n => by
    have ne : b ≠ a := fun m => n (by rw [m]; exact q)
    rw [z_sr ne]
    exact h b n
  have h1 : ∀ b, ¬ z_rc e b → g_rdM2 (Int32.ofInt 0) (g_X5_begin e m S) b = S b := z_C_rdM (Pr := fun X => ∀ b, ¬ z_rc e b → X b = S b) hp _ _ _ (z_C_begin (Pr := fun X => ∀ b, ¬ z_rc e b → X b = S b) hp m (fun _ _ => rfl))
  unfold g_X5_readTimetable
  split
  · exact h1
  · exact z_C_fail (Pr := fun X => ∀ b, ¬ z_rc e b → X b = S b) hp _ _ h1
