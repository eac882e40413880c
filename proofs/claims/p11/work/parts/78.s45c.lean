/-! letting go: the class's search -/
noncomputable def z_adj (a b : Int32) : Prop := ((a - b) &&& (Int32.ofInt 7)) ≤ Int32.ofInt 1 ∨ ((a - b) &&& (Int32.ofInt 7)) = Int32.ofInt 7
/-- what the search reads and never changes -/
noncomputable def z_Bse (n : Nat) (p : Nat → Int) (G : Nat → Int32) (cg : Nat → Nat → Prop) (lm : Nat → Int) (S : v_Sf) : Prop := n ≤ 6 ∧ S 86 5 = z_i n ∧ (∀ i, 0 ≤ p i ∧ p i ≤ 99) ∧ (∀ k, 0 ≤ lm k ∧ lm k ≤ 255) ∧ (∀ i, i ≤ n → S 91 i = Int32.ofInt (z_sf p (n - i) i)) ∧ ∀ i, i < n → S 2 ((S 90 i).toInt.toNat) = Int32.ofInt (p i) ∧ S 6 ((S 90 i).toInt.toNat) = G i ∧ ∀ k, k < 4 → (cg i k ↔ ¬ f_X11_isIn (S 86 0) (z_i k) = 0 ∧ ¬ S 3 ((S 90 i).toInt.toNat) = Int32.ofInt 8 ∧ z_adj (S 3 ((S 90 i).toInt.toNat)) (S 87 k)) ∧ (cg i k → S 88 k = Int32.ofInt (lm k))
noncomputable def z_Ic (n : Nat) (p : Nat → Int) (i : Nat) (x : Nat → Nat) (B : z_Bt) (S U : v_Sf) : Prop := (∀ a j, ¬ (a = 86 ∧ (j = 9 ∨ j = 10) ∨ a = 89 ∨ a = 92 ∨ a = 93) → U a j = S a j) ∧ (∀ j, j < i → U 92 j = z_i (x j)) ∧ (∀ k, k < 4 → U 89 k = Int32.ofInt (z_ld p x k i)) ∧ U 86 9 = Int32.ofInt B.1 ∧ U 86 10 = Int32.ofInt B.2.1 ∧ (0 ≤ B.1 → ∀ j, j < n → U 93 j = z_i (B.2.2 j)) ∧ (-1 ≤ B.1 ∧ B.1 ≤ 6 ∧ -1 ≤ B.2.1 ∧ B.2.1 ≤ 600)
theorem z_sg_b {p : Nat → Int} (hp : ∀ i, 0 ≤ p i ∧ p i ≤ 99) (x : Nat → Nat) : ∀ i : Nat, 0 ≤ z_sg p x i ∧ z_sg p x i ≤ 99 * (i : Int) := by
  intro i
  induction i with
  | zero => exact ⟨Int.le_refl 0, Int.le_refl 0⟩
  | succ i ih =>
    rw [z_sg]
    have := hp i
    push_cast
    split <;> omega
theorem z_ld_b {p : Nat → Int} (hp : ∀ i, 0 ≤ p i ∧ p i ≤ 99) (x : Nat → Nat) (k : Nat) : ∀ i : Nat, 0 ≤ z_ld p x k i ∧ z_ld p x k i ≤ 99 * (i : Int) := by
  intro i
  induction i with
  | zero => exact ⟨Int.le_refl 0, Int.le_refl 0⟩
  | succ i ih =>
    rw [z_ld]
    have := hp i
    push_cast
    split <;> omega
theorem z_sf_b {p : Nat → Int} (hp : ∀ i, 0 ≤ p i ∧ p i ≤ 99) : ∀ (r i : Nat), 0 ≤ z_sf p r i ∧ z_sf p r i ≤ 99 * (r : Int) := by
  intro r
  induction r with
  | zero => intro i; exact ⟨Int.le_refl 0, Int.le_refl 0⟩
  | succ r ih =>
    intro i
    rw [z_sf]
    have := hp i
    have := ih (i + 1)
    push_cast
    omega
theorem z_oia (a b : Int) : Int32.ofInt a + Int32.ofInt b = Int32.ofInt (a + b) := (Int32.ofInt_add a b).symm
theorem z_ois (a b : Int) : Int32.ofInt a - Int32.ofInt b = Int32.ofInt (a - b) := (Int32.ofInt_sub a b).symm
theorem z_oil {a b : Int} (ha : -2000 ≤ a ∧ a ≤ 2000) (hb : -2000 ≤ b ∧ b ≤ 2000) : (Int32.ofInt a < Int32.ofInt b) ↔ a < b := by rw [z_ltI2, q_ofr (by omega) (by omega), q_ofr (by omega) (by omega)]
theorem z_oile {a b : Int} (ha : -2000 ≤ a ∧ a ≤ 2000) (hb : -2000 ≤ b ∧ b ≤ 2000) : (Int32.ofInt a ≤ Int32.ofInt b) ↔ a ≤ b := by rw [z_leI2, q_ofr (by omega) (by omega), q_ofr (by omega) (by omega)]
theorem z_oie {a b : Int} (ha : -2000 ≤ a ∧ a ≤ 2000) (hb : -2000 ≤ b ∧ b ≤ 2000) : (Int32.ofInt a = Int32.ofInt b) ↔ a = b := by
  constructor
  · intro h
    have := congrArg Int32.toInt h
    rw [q_ofr (by omega) (by omega), q_ofr (by omega) (by omega)] at this
    exact this
  · intro h
    rw [h]
theorem z_mb {U : v_Sf} {B1 B2 A C : Int} (h1 : U 86 9 = Int32.ofInt B1) (h2 : U 86 10 = Int32.ofInt B2) (r : -2000 ≤ B1 ∧ B1 ≤ 2000 ∧ -2000 ≤ B2 ∧ B2 ≤ 2000 ∧ -2000 ≤ A ∧ A ≤ 2000 ∧ -2000 ≤ C ∧ C ≤ 2000) : (¬ f_X10_mayBeat (Int32.ofInt A) (Int32.ofInt C) U = 0) ↔ (B1 < A ∨ A = B1 ∧ B2 < C) := by
  unfold f_X10_mayBeat
  rw [h1, h2]
  by_cases q1 : B1 < A
  · rw [if_pos ((z_oil (by omega) (by omega)).mpr q1)]
    exact ⟨fun _ => Or.inl q1, fun _ => by decide⟩
  · rw [if_neg (fun m => q1 ((z_oil (by omega) (by omega)).mp m))]
    by_cases q2 : A = B1
    · rw [if_neg (not_not_intro ((z_oie (by omega) (by omega)).mpr q2))]
      by_cases q3 : C ≤ B2
      · rw [if_pos ((z_oile (by omega) (by omega)).mpr q3)]
        exact ⟨fun m => absurd rfl m, fun m => by omega⟩
      · rw [if_neg (fun m => q3 ((z_oile (by omega) (by omega)).mp m))]
        exact ⟨fun _ => Or.inr ⟨q2, by omega⟩, fun _ => by decide⟩
    · rw [if_pos (fun m => q2 ((z_oie (by omega) (by omega)).mp m))]
      exact ⟨fun m => absurd rfl m, fun m => by omega⟩
theorem z_carr {U : v_Sf} {k : Nat} {g : Int32} (hk : k < 4) : (¬ f_X10_carries (z_i k) g U = 0) ↔ (¬ f_X11_isIn (U 86 0) (z_i k) = 0 ∧ ¬ U 3 g.toInt.toNat = Int32.ofInt 8 ∧ z_adj (U 3 g.toInt.toNat) (U 87 k)) ∧ ¬ U 88 k < U 89 k + U 2 g.toInt.toNat := by
  have ek : (z_i k).toInt.toNat = k := z_iin (by omega)
  have n0 : ¬ (¬ Int32.ofInt 0 = 0) := not_not_intro rfl
  unfold f_X10_carries z_adj
  rw [ek]
  by_cases q1 : f_X11_isIn (U 86 0) (z_i k) = 0
  · rw [if_pos q1]
    exact ⟨fun m => absurd m n0, fun m => absurd q1 m.1.1⟩
  · rw [if_neg q1]
    by_cases q2 : U 3 g.toInt.toNat = Int32.ofInt 8
    · rw [if_neg (not_not_intro q2)]
      exact ⟨fun m => absurd m n0, fun m => absurd q2 m.1.2.1⟩
    · rw [if_pos q2]
      by_cases q3 : ((U 3 g.toInt.toNat - U 87 k) &&& (Int32.ofInt 7)) ≤ Int32.ofInt 1
      · rw [if_pos q3]
        by_cases q4 : U 88 k < U 89 k + U 2 g.toInt.toNat
        · rw [if_pos q4]
          exact ⟨fun m => absurd m n0, fun m => absurd q4 m.2⟩
        · rw [if_neg q4]
          exact ⟨fun _ => ⟨⟨q1, q2, Or.inl q3⟩, q4⟩, fun _ => by decide⟩
      · rw [if_neg q3]
        by_cases q5 : ((U 3 g.toInt.toNat - U 87 k) &&& (Int32.ofInt 7)) = Int32.ofInt 7
        · rw [if_neg (not_not_intro q5)]
          by_cases q4 : U 88 k < U 89 k + U 2 g.toInt.toNat
          · rw [if_pos q4]
            exact ⟨fun m => absurd m n0, fun m => absurd q4 m.2⟩
          · rw [if_neg q4]
            exact ⟨fun _ => ⟨⟨q1, q2, Or.inr q5⟩, q4⟩, fun _ => by decide⟩
        · rw [if_pos q5]
          exact ⟨fun m => absurd m n0, fun m => m.1.2.2.elim (fun z => absurd z q3) (fun z => absurd z q5)⟩
section SR
variable {n : Nat} {p : Nat → Int} {G : Nat → Int32} {cg : Nat → Nat → Prop} {lm : Nat → Int} {S : v_Sf}
/-- where the others of its gale are -/
theorem z_wog {x : Nat → Nat} {i : Nat} {B : z_Bt} {U : v_Sf} (hb : z_Bse n p G cg lm S) (hi : i < n) (I : z_Ic n p i x B S U) : ∀ (r k : Nat), k + r = i → ((∀ l, k ≤ l → l < i → ¬ G l = G i) ∧ r_X10_windOfGale_2 (z_i i) U r k = Int32.ofInt (-1)) ∨ ∃ l, k ≤ l ∧ l < i ∧ G l = G i ∧ r_X10_windOfGale_2 (z_i i) U r k = z_i (x l) := by
  obtain ⟨h6, hn, hp, hlm, hs, hw⟩ := hb
  obtain ⟨i1, i2, i3, i4, i5, i6, i7⟩ := I
  have ei : (z_i i).toInt.toNat = i := z_iin (by omega)
  intro r
  induction r with
  | zero =>
    intro k hk
    left
    refine ⟨fun l h1 h2 => by omega, ?_⟩
    rw [r_X10_windOfGale_2]
  | succ r ih =>
    intro k hk
    have ek : (z_i k).toInt.toNat = k := z_iin (by omega)
    rw [r_X10_windOfGale_2, if_neg (by rw [show Int32.ofInt 6 = z_i 6 from rfl, z_ile (by omega) (by omega)]; omega), ek, ei, i1 90 k (by omega), i1 90 i (by omega), i1 6 _ (by omega), i1 6 _ (by omega), (hw k (by omega)).2.1, (hw i hi).2.1]
    by_cases q : G k = G i
    · rw [if_neg (not_not_intro q)]
      right
      exact ⟨k, Nat.le_refl k, by omega, q, i2 k (by omega)⟩
    · rw [if_pos q]
      rcases ih (k + 1) (by omega) with ⟨a, b⟩ | ⟨l, a1, a2, a3, a4⟩
      · left
        refine ⟨fun l h1 h2 => ?_, b⟩
        by_cases e : l = k
        · rw [e]
          exact q
        · exact a l (by omega) h2
      · right
        exact ⟨l, by omega, a2, a3, a4⟩
theorem z_wog2 {x : Nat → Nat} {i : Nat} {B : z_Bt} {U : v_Sf} (hb : z_Bse n p G cg lm S) (hi : i < n) (I : z_Ic n p i x B S U) (v : z_vp p (fun l j => G l = G j) cg lm x i) {c : Nat} (hc : c ≤ 4) : (f_X10_windOfGale (z_i i) U = Int32.ofInt (-1) ∨ f_X10_windOfGale (z_i i) U = z_i c) ↔ ∀ l, l < i → G l = G i → x l = c := by
  have h6 := hb.1
  have ei : (z_i i).toInt.toNat = i := z_iin (by omega)
  unfold f_X10_windOfGale F_X10_windOfGale
  rw [ei, Nat.sub_zero]
  rcases z_wog hb hi I i 0 (by omega) with ⟨a, b⟩ | ⟨l, -, a2, a3, a4⟩
  · rw [b]
    exact ⟨fun _ l hl hg => absurd hg (a l (by omega) hl), fun _ => Or.inl rfl⟩
  · rw [a4]
    have xl : x l < 5 := by
      rcases v.1 l a2 with e | e
      · omega
      · omega
    constructor
    · rintro (e | e) l' hl' hg'
      · exact absurd e (z_nm1 (by omega))
      · have e2 := congrArg (fun z => z.toInt.toNat) e
        simp only [z_iin (show x l < 2147483648 by omega), z_iin (show c < 2147483648 by omega)] at e2
        rw [← e2]
        rcases Nat.lt_trichotomy l l' with q | q | q
        · exact (v.2.1 l' l hl' q (a3.trans hg'.symm)).symm
        · rw [q]
        · exact v.2.1 l l' a2 q (hg'.trans a3.symm)
    · intro h
      right
      rw [h l a2 a3]
/-- one wind after the other -/
theorem z_st96 {φ : Int32 → Int32 → Int32 → v_Sf → v_Sf} {r i : Nat} (hb : z_Bse n p G cg lm S) (hi : i + (r + 1) = n) {x : Nat → Nat} (v : z_vp p (fun l j => G l = G j) cg lm x i) {x6 : Int32} (hx6 : ∀ c, c ≤ 4 → ((x6 = Int32.ofInt (-1) ∨ x6 = z_i c) ↔ ∀ l, l < i → G l = G i → x l = c)) (hφ : ∀ (y : Nat → Nat) (C : z_Bt) (V : v_Sf), z_vp p (fun l j => G l = G j) cg lm y (i + 1) → z_Ic n p (i + 1) y C S V → z_Ic n p (i + 1) y (z_fd n p (fun l j => G l = G j) cg lm r (i + 1) y C) S (φ (z_i (i + 1)) (Int32.ofInt (z_gn y (i + 1))) (Int32.ofInt (z_sg p y (i + 1))) V)) {k : Nat} (hk : k < 4) (q : Nat) {B : z_Bt} {U : v_Sf} (I : z_Ic n p i x B S U) : ∃ W, r_sendFromF_96 φ (z_i i) (Int32.ofInt (z_gn x i)) (Int32.ofInt (z_sg p x i)) (Int32.ofInt (p i)) x6 (q + 1) k U = r_sendFromF_96 φ (z_i i) (Int32.ofInt (z_gn x i)) (Int32.ofInt (z_sg p x i)) (Int32.ofInt (p i)) x6 q (k + 1) W ∧ z_Ic n p i x (z_fd n p (fun l j => G l = G j) cg lm r (i + 1) (z_u5 x i k) B) S W := by
  obtain ⟨h6, hn, hp, hlm, hs, hw⟩ := id hb
  obtain ⟨i1, i2, i3, i4, i5, i6, i7⟩ := id I
  have ei : (z_i i).toInt.toNat = i := z_iin (by omega)
  have ek : (z_i k).toInt.toNat = k := z_iin (by omega)
  have hc := z_carr (U := U) (g := U 90 i) hk
  obtain ⟨w1, w2, w3⟩ := hw i (by omega)
  obtain ⟨w3, w4⟩ := w3 k hk
  rw [i1 90 i (by omega), i1 86 0 (by omega), i1 3 _ (by omega), i1 87 _ (by omega), i1 88 _ (by omega), i1 2 _ (by omega), w1, i3 k hk, ← w3, z_oia] at hc
  have hv := z_vpu v (c := k) (Or.inr hk)
  have hld := z_ld_b hp x k i
  have hpi := hp i
  have hlk := hlm k
  have hc2 : (¬ f_X10_carries (z_i k) (S 90 i) U = 0) ↔ cg i k ∧ z_ld p x k i + p i ≤ lm k := by
    rw [hc]
    constructor
    · rintro ⟨a, b⟩
      rw [w4 a, z_oil (by omega) (by omega)] at b
      exact ⟨a, by omega⟩
    · rintro ⟨a, b⟩
      refine ⟨a, ?_⟩
      rw [w4 a, z_oil (by omega) (by omega)]
      omega
  rw [r_sendFromF_96, ek, ei, i1 90 i (by omega)]
  have h1 := hx6 k (by omega)
  by_cases vk : z_vp p (fun l j => G l = G j) cg lm (z_u5 x i k) (i + 1)
  · obtain ⟨a1, a2⟩ := hv.mp vk
    have a2 : cg i k ∧ z_ld p x k i + p i ≤ lm k := a2.elim (fun z => by omega) id
    have c1 := hc2.mpr a2
    have x1 := h1.mpr a1
    have key : ∀ (X Y : v_Sf), (if x6 = Int32.ofInt (-1) then (if f_X10_carries (z_i k) (S 90 i) U = 0 then X else Y) else (if ¬ x6 = z_i k then X else (if f_X10_carries (z_i k) (S 90 i) U = 0 then X else Y))) = Y := by
      intro X Y
      by_cases e : x6 = Int32.ofInt (-1)
      · rw [if_pos e, if_neg c1]
      · have e2 : x6 = z_i k := x1.resolve_left e
        rw [if_neg e, if_neg (not_not_intro e2), if_neg c1]
    rw [key]
    have V1 : z_Ic n p (i + 1) (z_u5 x i k) B S (z_s (z_s U 92 i (z_i k)) 89 k ((U 89 k) + (Int32.ofInt (p i)))) := by
      refine ⟨fun a j m => ?_, fun j hj => ?_, fun c hcc => ?_, ?_, ?_, fun m j hj => ?_, i7⟩
      · rw [z_sn (by omega), z_sn (by omega)]
        exact i1 a j m
      · by_cases e : j = i
        · rw [e, z_u5s, z_sn (by omega), z_ss]
        · rw [z_u5n e, z_sn (by omega), z_sn (by omega)]
          exact i2 j (by omega)
      · rw [z_ldu]
        by_cases e : c = k
        · rw [e, z_ss, i3 k hk, z_oia, if_pos rfl]
        · rw [if_neg (fun m => e m.symm), z_sn (by omega), z_sn (by omega), Int.add_zero]
          exact i3 c hcc
      · rw [z_sn (by omega), z_sn (by omega)]
        exact i4
      · rw [z_sn (by omega), z_sn (by omega)]
        exact i5
      · rw [z_sn (by omega), z_sn (by omega)]
        exact i6 m j hj
    have V2 := hφ _ _ _ vk V1
    rw [z_gnu, if_neg (show ¬ k = 4 by omega), z_sgu, if_neg (show ¬ k = 4 by omega)] at V2
    rw [show z_i i + Int32.ofInt 1 = z_i (i + 1) from z_i1 i, z_oia, z_oia]
    obtain ⟨j1, j2, j3, j4, j5, j6, j7⟩ := V2
    refine ⟨_, rfl, fun a j m => ?_, fun j hj => ?_, fun c hcc => ?_, ?_, ?_, fun m j hj => ?_, j7⟩
    · rw [z_sn (by omega)]
      exact j1 a j m
    · have e := j2 j (by omega)
      rw [z_u5n (by omega)] at e
      rw [z_sn (by omega)]
      exact e
    · have e := j3 c hcc
      rw [z_ldu] at e
      by_cases q2 : c = k
      · rw [q2] at e ⊢
        rw [if_pos rfl] at e
        rw [z_ss, e, z_ois, Int.add_sub_cancel]
      · rw [if_neg (fun m => q2 m.symm), Int.add_zero] at e
        rw [z_sn (by omega)]
        exact e
    · rw [z_sn (by omega)]
      exact j4
    · rw [z_sn (by omega)]
      exact j5
    · rw [z_sn (by omega)]
      exact j6 m j hj
  · rw [z_fd_inv (fun i => (hp i).1) r (i + 1) _ B (by omega) vk]
    have key : ∀ (X Y : v_Sf), (if x6 = Int32.ofInt (-1) then (if f_X10_carries (z_i k) (S 90 i) U = 0 then X else Y) else (if ¬ x6 = z_i k then X else (if f_X10_carries (z_i k) (S 90 i) U = 0 then X else Y))) = X := by
      intro X Y
      by_cases c0 : f_X10_carries (z_i k) (S 90 i) U = 0
      · by_cases e : x6 = Int32.ofInt (-1)
        · rw [if_pos e, if_pos c0]
        · rw [if_neg e, if_pos c0, ite_self]
      · have n1 : ¬ (x6 = Int32.ofInt (-1) ∨ x6 = z_i k) := fun m => vk (hv.mpr ⟨h1.mp m, Or.inr (hc2.mp c0)⟩)
        rw [if_neg (fun m => n1 (Or.inl m)), if_pos (fun m => n1 (Or.inr m))]
    rw [key]
    exact ⟨U, rfl, I⟩
theorem z_st96_0 {φ : Int32 → Int32 → Int32 → v_Sf → v_Sf} {r i : Nat} (hb : z_Bse n p G cg lm S) (hi : i + (r + 1) = n) {x : Nat → Nat} (v : z_vp p (fun l j => G l = G j) cg lm x i) {x6 : Int32} (hx6 : ∀ c, c ≤ 4 → ((x6 = Int32.ofInt (-1) ∨ x6 = z_i c) ↔ ∀ l, l < i → G l = G i → x l = c)) (hφ : ∀ (y : Nat → Nat) (C : z_Bt) (V : v_Sf), z_vp p (fun l j => G l = G j) cg lm y (i + 1) → z_Ic n p (i + 1) y C S V → z_Ic n p (i + 1) y (z_fd n p (fun l j => G l = G j) cg lm r (i + 1) y C) S (φ (z_i (i + 1)) (Int32.ofInt (z_gn y (i + 1))) (Int32.ofInt (z_sg p y (i + 1))) V)) (k : Nat) {B : z_Bt} {U : v_Sf} (I : z_Ic n p i x B S U) : z_Ic n p i x (z_fd n p (fun l j => G l = G j) cg lm r (i + 1) (z_u5 x i 4) B) S (r_sendFromF_96 φ (z_i i) (Int32.ofInt (z_gn x i)) (Int32.ofInt (z_sg p x i)) (Int32.ofInt (p i)) x6 0 k U) := by
  obtain ⟨h6, hn, hp, hlm, hs, hw⟩ := id hb
  obtain ⟨i1, i2, i3, i4, i5, i6, i7⟩ := id I
  have ei : (z_i i).toInt.toNat = i := z_iin (by omega)
  have hv := z_vpu v (c := 4) (Or.inl rfl)
  have h1 := hx6 4 (by omega)
  rw [r_sendFromF_96, ei]
  by_cases vk : z_vp p (fun l j => G l = G j) cg lm (z_u5 x i 4) (i + 1)
  · have x1 := h1.mpr (hv.mp vk).1
    have key : ∀ (X Y : v_Sf), (if x6 = Int32.ofInt (-1) then Y else (if ¬ x6 = Int32.ofInt 4 then X else Y)) = Y := by
      intro X Y
      by_cases e : x6 = Int32.ofInt (-1)
      · rw [if_pos e]
      · have e2 : x6 = Int32.ofInt 4 := x1.resolve_left e
        rw [if_neg e, if_neg (not_not_intro e2)]
    rw [key]
    have V1 : z_Ic n p (i + 1) (z_u5 x i 4) B S (z_s U 92 i (Int32.ofInt 4)) := by
      refine ⟨fun a j m => ?_, fun j hj => ?_, fun c hcc => ?_, ?_, ?_, fun m j hj => ?_, i7⟩
      · rw [z_sn (by omega)]
        exact i1 a j m
      · by_cases e : j = i
        · rw [e, z_u5s, z_ss]
          rfl
        · rw [z_u5n e, z_sn (by omega)]
          exact i2 j (by omega)
      · rw [z_ldu, if_neg (by omega), z_sn (by omega), Int.add_zero]
        exact i3 c hcc
      · rw [z_sn (by omega)]
        exact i4
      · rw [z_sn (by omega)]
        exact i5
      · rw [z_sn (by omega)]
        exact i6 m j hj
    have V2 := hφ _ _ _ vk V1
    rw [z_gnu, if_pos rfl, z_sgu, if_pos rfl, Int.add_zero, Int.add_zero] at V2
    rw [show z_i i + Int32.ofInt 1 = z_i (i + 1) from z_i1 i]
    obtain ⟨j1, j2, j3, j4, j5, j6, j7⟩ := V2
    refine ⟨j1, fun j hj => ?_, fun c hcc => ?_, j4, j5, j6, j7⟩
    · have e := j2 j (by omega)
      rw [z_u5n (by omega)] at e
      exact e
    · have e := j3 c hcc
      rw [z_ldu, if_neg (by omega), Int.add_zero] at e
      exact e
  · rw [z_fd_inv (fun i => (hp i).1) r (i + 1) _ B (by omega) vk]
    have n1 : ¬ (x6 = Int32.ofInt (-1) ∨ x6 = z_i 4) := fun m => vk (hv.mpr ⟨h1.mp m, Or.inl rfl⟩)
    rw [if_neg (fun m => n1 (Or.inl m)), if_pos (show ¬ x6 = Int32.ofInt 4 from fun m => n1 (Or.inr m))]
    exact I
theorem z_srch (hb : z_Bse n p G cg lm S) : ∀ (r i f : Nat) (x : Nat → Nat) (B : z_Bt) (U : v_Sf), i + r = n → r ≤ f → z_vp p (fun l j => G l = G j) cg lm x i → z_Ic n p i x B S U → z_Ic n p i x (z_fd n p (fun l j => G l = G j) cg lm r i x B) S (g_sendN f (z_i i) (Int32.ofInt (z_gn x i)) (Int32.ofInt (z_sg p x i)) U) := by
  obtain ⟨h6, hn, hp, hlm, hs, hw⟩ := id hb
  intro r
  induction r with
  | zero =>
    intro i f x B U hi hf v I
    obtain rfl : i = n := by omega
    obtain ⟨i1, i2, i3, i4, i5, i6, i7⟩ := id I
    have ei : (z_i i).toInt.toNat = i := z_iin (by omega)
    obtain ⟨φ, hφ⟩ : ∃ φ, g_sendN f = g_sendFromF φ := by
      cases f with
      | zero => exact ⟨_, rfl⟩
      | succ f => exact ⟨_, rfl⟩
    have g1 := z_gn_b x i
    have g2 := z_sg_b hp x i
    rw [hφ]
    unfold g_sendFromF F_sendFromF
    have s1 := hs i (Nat.le_refl i)
    rw [Nat.sub_self, z_sf] at s1
    have e5 : U 86 5 = Int32.ofInt (i : Int) := (i1 86 5 (by omega)).trans hn
    rw [if_neg (by rw [show Int32.ofInt 6 = z_i 6 from rfl, z_ilt (by omega) (by omega)]; omega), ei, i1 91 i (by omega), s1, e5, show z_i i = Int32.ofInt (i : Int) from rfl, z_oia, z_ois, z_oia]
    have mb := z_mb (A := z_gn x i + (i : Int) - (i : Int)) (C := z_sg p x i + 0) i4 i5 (by omega)
    rw [z_fd, z_stp]
    by_cases q : z_bet B (z_gn x i) (z_sg p x i)
    · rw [if_pos (mb.mpr (by rw [Int.add_sub_cancel, Int.add_zero]; exact q)), if_pos ((z_oile (by omega) (by omega)).mpr (Int.le_refl _)), if_pos ⟨v, q⟩]
      refine ⟨fun a j m => ?_, fun j hj => ?_, fun c hcc => ?_, ?_, ?_, fun m j hj => ?_, ?_⟩
      · rw [z_cpn (by omega), z_sn (by omega), z_sn (by omega)]
        exact i1 a j m
      · rw [z_cpn (by omega), z_sn (by omega), z_sn (by omega)]
        exact i2 j hj
      · rw [z_cpn (by omega), z_sn (by omega), z_sn (by omega)]
        exact i3 c hcc
      · rw [z_cpn (by omega), z_sn (by omega), z_ss]
      · rw [z_cpn (by omega), z_ss]
      · rw [z_cps (k := 6) rfl (by omega), z_sn (by omega), z_sn (by omega)]
        exact i2 j hj
      · show -1 ≤ z_gn x i ∧ z_gn x i ≤ 6 ∧ -1 ≤ z_sg p x i ∧ z_sg p x i ≤ 600
        omega
    · have m1 : ¬ (¬ f_X10_mayBeat (Int32.ofInt (z_gn x i + (i : Int) - (i : Int))) (Int32.ofInt (z_sg p x i + 0)) U = 0) := fun m => q (by have := mb.mp m; rw [Int.add_sub_cancel, Int.add_zero] at this; exact this)
      rw [if_neg m1, if_neg (fun m => q m.2)]
      exact I
  | succ r ih =>
    intro i f x B U hi hf v I
    obtain ⟨i1, i2, i3, i4, i5, i6, i7⟩ := id I
    have ei : (z_i i).toInt.toNat = i := z_iin (by omega)
    obtain ⟨f, rfl⟩ : ∃ f', f = f' + 1 := ⟨f - 1, by omega⟩
    have g1 := z_gn_b x i
    have g2 := z_sg_b hp x i
    have g3 := z_sf_b hp (r + 1) i
    rw [show g_sendN (f + 1) = g_sendFromF (g_sendN f) from rfl]
    unfold g_sendFromF F_sendFromF
    have s1 := hs i (by omega)
    rw [show n - i = r + 1 by omega] at s1
    have e5 : U 86 5 = Int32.ofInt (n : Int) := (i1 86 5 (by omega)).trans hn
    have e90 : U 90 i = S 90 i := i1 90 i (by omega)
    have e2 : U 2 ((S 90 i).toInt.toNat) = Int32.ofInt (p i) := (i1 2 _ (by omega)).trans (hw i (by omega)).1
    rw [if_neg (by rw [show Int32.ofInt 6 = z_i 6 from rfl, z_ilt (by omega) (by omega)]; omega), ei, i1 91 i (by omega), s1, e5, e90, e2]
    have mb := z_mb (A := z_gn x i + (n : Int) - (i : Int)) (C := z_sg p x i + z_sf p (r + 1) i) i4 i5 (by omega)
    have hA : z_gn x i + (n : Int) - (i : Int) = z_gn x i + ((r + 1 : Nat) : Int) := by omega
    have eA : Int32.ofInt (z_gn x i) + Int32.ofInt (n : Int) - z_i i = Int32.ofInt (z_gn x i + (n : Int) - (i : Int)) := by rw [show z_i i = Int32.ofInt (i : Int) from rfl, z_oia, z_ois]
    rw [eA, z_oia]
    by_cases q : z_bet B (z_gn x i + ((r + 1 : Nat) : Int)) (z_sg p x i + z_sf p (r + 1) i)
    · rw [if_pos (mb.mpr (by rw [hA]; exact q)), if_neg (by rw [show Int32.ofInt (n : Int) = z_i n from rfl, z_ile (by omega) (by omega)]; omega), if_pos (by rw [show Int32.ofInt 6 = z_i 6 from rfl, z_ilt (by omega) (by omega)]; omega)]
      have hx6 : ∀ c, c ≤ 4 → ((f_X10_windOfGale (z_i i) U = Int32.ofInt (-1) ∨ f_X10_windOfGale (z_i i) U = z_i c) ↔ ∀ l, l < i → G l = G i → x l = c) := fun c hc => z_wog2 hb (by omega) I v hc
      have hφ : ∀ (y : Nat → Nat) (C : z_Bt) (V : v_Sf), z_vp p (fun l j => G l = G j) cg lm y (i + 1) → z_Ic n p (i + 1) y C S V → z_Ic n p (i + 1) y (z_fd n p (fun l j => G l = G j) cg lm r (i + 1) y C) S (g_sendN f (z_i (i + 1)) (Int32.ofInt (z_gn y (i + 1))) (Int32.ofInt (z_sg p y (i + 1))) V) := fun y C V vy Iy => ih (i + 1) f y C V (by omega) (by omega) vy Iy
      generalize f_X10_windOfGale (z_i i) U = x6 at hx6 ⊢
      rw [show 4 - 0 = 4 from rfl]
      obtain ⟨W0, E0, I0⟩ := z_st96 hb hi v hx6 hφ (k := 0) (by omega) 3 I
      obtain ⟨W1, E1, I1⟩ := z_st96 hb hi v hx6 hφ (k := 1) (by omega) 2 I0
      obtain ⟨W2, E2, I2⟩ := z_st96 hb hi v hx6 hφ (k := 2) (by omega) 1 I1
      obtain ⟨W3, E3, I3⟩ := z_st96 hb hi v hx6 hφ (k := 3) (by omega) 0 I2
      have I4 := z_st96_0 hb hi v hx6 hφ 4 I3
      rw [E0, E1, E2, E3, z_fd]
      exact I4
    · rw [if_neg (fun m => q (by have := mb.mp m; rw [hA] at this; exact this)), z_fd_bnd (fun i => (hp i).1) (r + 1) i x B hi q]
      exact I
end SR
