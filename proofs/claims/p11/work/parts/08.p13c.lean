/-! what stands at a place of a code, opcode by opcode (a quick check instead of decode) -/
noncomputable def g_By (code : ByteArray) (p : Nat) : Nat := match code.data.toList[p]? with
  | some b => b.toNat
  | none => 256
theorem r_by {code : ByteArray} {p o : Nat} (h : g_By code p = o) (ho : o < 256) : ∃ hp : p < code.size, (code[p]'hp).toNat = o := by
  obtain ⟨⟨l⟩⟩ := code
  unfold g_By at h
  have h : (match l[p]? with | some b => b.toNat | none => 256) = o := h
  cases e : l[p]? with
  | none =>
    rw [e] at h
    have h : 256 = o := h
    omega
  | some b =>
    rw [e] at h
    have h : b.toNat = o := h
    obtain ⟨hp, hb⟩ := List.getElem?_eq_some_iff.mp e
    refine ⟨hp, ?_⟩
    show (l[p]'hp).toNat = o
    rw [hb]
    exact h
theorem r_lt (code : ByteArray) (p : Nat) : g_By code p ≤ 256 := by
  unfold g_By
  split
  · rename_i b _
    have := b.toNat_lt
    omega
  · exact Nat.le_refl _
theorem r_bind {α β : Type} {x : Decoder α} {f : α → Decoder β} {code : ByteArray} {p p' : Nat} {a : α} (h : x.runAt code p = .ok (a, p')) : (x >>= f).runAt code p = (f a).runAt code p' := by
  show Except.bind (x.runAt code p) (fun q => (f q.1).runAt code q.2) = _
  rw [h]
  rfl
theorem r_map {α β : Type} {x : Decoder α} {f : α → β} {code : ByteArray} {p p' : Nat} {a : α} (h : x.runAt code p = .ok (a, p')) : (f <$> x).runAt code p = .ok (f a, p') := by
  show Except.bind (x.runAt code p) (fun q => .ok (f q.1, q.2)) = _
  rw [h]
  rfl
theorem r_u1 {code : ByteArray} {p o : Nat} (h : g_By code p = o) (ho : o < 256) : (Reader.u1 : Decoder Nat).runAt code p = .ok (o, p + 1) := by
  obtain ⟨hp, e⟩ := r_by h ho
  show (ReaderT.run (if h : p < code.size then (do set (p + 1); pure (code[p]'h).toNat : Decoder Nat) else throw (HasTruncated.truncated p)) code).run p = _
  rw [dif_pos hp]
  show Except.ok ((code[p]'hp).toNat, p + 1) = _
  rw [e]
theorem r_u2 {code : ByteArray} {p a b : Nat} (h1 : g_By code p = a) (h2 : g_By code (p + 1) = b) (ha : a < 256) (hb : b < 256) : (Reader.u2 : Decoder Nat).runAt code p = .ok (a * 256 + b, p + 2) := (r_bind (r_u1 h1 ha)).trans ((r_bind (r_u1 h2 hb)).trans rfl)
theorem r_s1 {code : ByteArray} {p a : Nat} (h1 : g_By code p = a) (ha : a < 256) : (Reader.s1 : Decoder Int).runAt code p = .ok (Reader.signed 8 a, p + 1) := r_map (r_u1 h1 ha)
theorem r_s2 {code : ByteArray} {p a b : Nat} (h1 : g_By code p = a) (h2 : g_By code (p + 1) = b) (ha : a < 256) (hb : b < 256) : (Reader.s2 : Decoder Int).runAt code p = .ok (Reader.signed 16 (a * 256 + b), p + 2) := r_map (r_u2 h1 h2 ha hb)
theorem r_dec {code : ByteArray} {pc k : Nat} {i : Instr} (e : (Decoder.instr pc).runAt code pc = .ok (i, pc + k)) : decode code pc = .ok (i, k) := by
  show Except.bind ((Decoder.instr pc).runAt code pc) (fun q => .ok (q.1, q.2 - pc)) = _
  rw [e]
  show Except.ok (i, pc + k - pc) = _
  rw [Nat.add_sub_cancel_left]
section GD
variable {code : ByteArray} {pc a b : Nat}
theorem gd_aaload (h0 : g_By code pc = 50) : decode code pc = .ok (.aaload, 1) := r_dec ((r_bind (r_u1 h0 (by decide))).trans (rfl))
theorem gd_aastore (h0 : g_By code pc = 83) : decode code pc = .ok (.aastore, 1) := r_dec ((r_bind (r_u1 h0 (by decide))).trans (rfl))
theorem gd_aconst_null (h0 : g_By code pc = 1) : decode code pc = .ok (.aconst_null, 1) := r_dec ((r_bind (r_u1 h0 (by decide))).trans (rfl))
theorem gd_areturn (h0 : g_By code pc = 176) : decode code pc = .ok (.areturn, 1) := r_dec ((r_bind (r_u1 h0 (by decide))).trans (rfl))
theorem gd_arraylength (h0 : g_By code pc = 190) : decode code pc = .ok (.arraylength, 1) := r_dec ((r_bind (r_u1 h0 (by decide))).trans (rfl))
theorem gd_baload (h0 : g_By code pc = 51) : decode code pc = .ok (.baload, 1) := r_dec ((r_bind (r_u1 h0 (by decide))).trans (rfl))
theorem gd_bastore (h0 : g_By code pc = 84) : decode code pc = .ok (.bastore, 1) := r_dec ((r_bind (r_u1 h0 (by decide))).trans (rfl))
theorem gd_dup (h0 : g_By code pc = 89) : decode code pc = .ok (.dup, 1) := r_dec ((r_bind (r_u1 h0 (by decide))).trans (rfl))
theorem gd_dup2 (h0 : g_By code pc = 92) : decode code pc = .ok (.dup2, 1) := r_dec ((r_bind (r_u1 h0 (by decide))).trans (rfl))
theorem gd_i2b (h0 : g_By code pc = 145) : decode code pc = .ok (.i2b, 1) := r_dec ((r_bind (r_u1 h0 (by decide))).trans (rfl))
theorem gd_i2c (h0 : g_By code pc = 146) : decode code pc = .ok (.i2c, 1) := r_dec ((r_bind (r_u1 h0 (by decide))).trans (rfl))
theorem gd_i2l (h0 : g_By code pc = 133) : decode code pc = .ok (.i2l, 1) := r_dec ((r_bind (r_u1 h0 (by decide))).trans (rfl))
theorem gd_iadd (h0 : g_By code pc = 96) : decode code pc = .ok (.iadd, 1) := r_dec ((r_bind (r_u1 h0 (by decide))).trans (rfl))
theorem gd_iaload (h0 : g_By code pc = 46) : decode code pc = .ok (.iaload, 1) := r_dec ((r_bind (r_u1 h0 (by decide))).trans (rfl))
theorem gd_iand (h0 : g_By code pc = 126) : decode code pc = .ok (.iand, 1) := r_dec ((r_bind (r_u1 h0 (by decide))).trans (rfl))
theorem gd_iastore (h0 : g_By code pc = 79) : decode code pc = .ok (.iastore, 1) := r_dec ((r_bind (r_u1 h0 (by decide))).trans (rfl))
theorem gd_idiv (h0 : g_By code pc = 108) : decode code pc = .ok (.idiv, 1) := r_dec ((r_bind (r_u1 h0 (by decide))).trans (rfl))
theorem gd_imul (h0 : g_By code pc = 104) : decode code pc = .ok (.imul, 1) := r_dec ((r_bind (r_u1 h0 (by decide))).trans (rfl))
theorem gd_ineg (h0 : g_By code pc = 116) : decode code pc = .ok (.ineg, 1) := r_dec ((r_bind (r_u1 h0 (by decide))).trans (rfl))
theorem gd_ior (h0 : g_By code pc = 128) : decode code pc = .ok (.ior, 1) := r_dec ((r_bind (r_u1 h0 (by decide))).trans (rfl))
theorem gd_irem (h0 : g_By code pc = 112) : decode code pc = .ok (.irem, 1) := r_dec ((r_bind (r_u1 h0 (by decide))).trans (rfl))
theorem gd_ireturn (h0 : g_By code pc = 172) : decode code pc = .ok (.ireturn, 1) := r_dec ((r_bind (r_u1 h0 (by decide))).trans (rfl))
theorem gd_ishl (h0 : g_By code pc = 120) : decode code pc = .ok (.ishl, 1) := r_dec ((r_bind (r_u1 h0 (by decide))).trans (rfl))
theorem gd_ishr (h0 : g_By code pc = 122) : decode code pc = .ok (.ishr, 1) := r_dec ((r_bind (r_u1 h0 (by decide))).trans (rfl))
theorem gd_isub (h0 : g_By code pc = 100) : decode code pc = .ok (.isub, 1) := r_dec ((r_bind (r_u1 h0 (by decide))).trans (rfl))
theorem gd_iushr (h0 : g_By code pc = 124) : decode code pc = .ok (.iushr, 1) := r_dec ((r_bind (r_u1 h0 (by decide))).trans (rfl))
theorem gd_ixor (h0 : g_By code pc = 130) : decode code pc = .ok (.ixor, 1) := r_dec ((r_bind (r_u1 h0 (by decide))).trans (rfl))
theorem gd_lcmp (h0 : g_By code pc = 148) : decode code pc = .ok (.lcmp, 1) := r_dec ((r_bind (r_u1 h0 (by decide))).trans (rfl))
theorem gd_pop (h0 : g_By code pc = 87) : decode code pc = .ok (.pop, 1) := r_dec ((r_bind (r_u1 h0 (by decide))).trans (rfl))
theorem gd_return_ (h0 : g_By code pc = 177) : decode code pc = .ok (.return_, 1) := r_dec ((r_bind (r_u1 h0 (by decide))).trans (rfl))
theorem gd_aload_n0 (h0 : g_By code pc = 42) : decode code pc = .ok (.aload_n 0, 1) := r_dec ((r_bind (r_u1 h0 (by decide))).trans (rfl))
theorem gd_aload_n1 (h0 : g_By code pc = 43) : decode code pc = .ok (.aload_n 1, 1) := r_dec ((r_bind (r_u1 h0 (by decide))).trans (rfl))
theorem gd_aload_n2 (h0 : g_By code pc = 44) : decode code pc = .ok (.aload_n 2, 1) := r_dec ((r_bind (r_u1 h0 (by decide))).trans (rfl))
theorem gd_aload_n3 (h0 : g_By code pc = 45) : decode code pc = .ok (.aload_n 3, 1) := r_dec ((r_bind (r_u1 h0 (by decide))).trans (rfl))
theorem gd_astore_n0 (h0 : g_By code pc = 75) : decode code pc = .ok (.astore_n 0, 1) := r_dec ((r_bind (r_u1 h0 (by decide))).trans (rfl))
theorem gd_astore_n1 (h0 : g_By code pc = 76) : decode code pc = .ok (.astore_n 1, 1) := r_dec ((r_bind (r_u1 h0 (by decide))).trans (rfl))
theorem gd_astore_n2 (h0 : g_By code pc = 77) : decode code pc = .ok (.astore_n 2, 1) := r_dec ((r_bind (r_u1 h0 (by decide))).trans (rfl))
theorem gd_astore_n3 (h0 : g_By code pc = 78) : decode code pc = .ok (.astore_n 3, 1) := r_dec ((r_bind (r_u1 h0 (by decide))).trans (rfl))
theorem gd_iload_n0 (h0 : g_By code pc = 26) : decode code pc = .ok (.iload_n 0, 1) := r_dec ((r_bind (r_u1 h0 (by decide))).trans (rfl))
theorem gd_iload_n1 (h0 : g_By code pc = 27) : decode code pc = .ok (.iload_n 1, 1) := r_dec ((r_bind (r_u1 h0 (by decide))).trans (rfl))
theorem gd_iload_n2 (h0 : g_By code pc = 28) : decode code pc = .ok (.iload_n 2, 1) := r_dec ((r_bind (r_u1 h0 (by decide))).trans (rfl))
theorem gd_iload_n3 (h0 : g_By code pc = 29) : decode code pc = .ok (.iload_n 3, 1) := r_dec ((r_bind (r_u1 h0 (by decide))).trans (rfl))
theorem gd_istore_n0 (h0 : g_By code pc = 59) : decode code pc = .ok (.istore_n 0, 1) := r_dec ((r_bind (r_u1 h0 (by decide))).trans (rfl))
theorem gd_istore_n1 (h0 : g_By code pc = 60) : decode code pc = .ok (.istore_n 1, 1) := r_dec ((r_bind (r_u1 h0 (by decide))).trans (rfl))
theorem gd_istore_n2 (h0 : g_By code pc = 61) : decode code pc = .ok (.istore_n 2, 1) := r_dec ((r_bind (r_u1 h0 (by decide))).trans (rfl))
theorem gd_istore_n3 (h0 : g_By code pc = 62) : decode code pc = .ok (.istore_n 3, 1) := r_dec ((r_bind (r_u1 h0 (by decide))).trans (rfl))
theorem gd_lload_n0 (h0 : g_By code pc = 30) : decode code pc = .ok (.lload_n 0, 1) := r_dec ((r_bind (r_u1 h0 (by decide))).trans (rfl))
theorem gd_lload_n1 (h0 : g_By code pc = 31) : decode code pc = .ok (.lload_n 1, 1) := r_dec ((r_bind (r_u1 h0 (by decide))).trans (rfl))
theorem gd_lload_n2 (h0 : g_By code pc = 32) : decode code pc = .ok (.lload_n 2, 1) := r_dec ((r_bind (r_u1 h0 (by decide))).trans (rfl))
theorem gd_lload_n3 (h0 : g_By code pc = 33) : decode code pc = .ok (.lload_n 3, 1) := r_dec ((r_bind (r_u1 h0 (by decide))).trans (rfl))
theorem gd_lconst0 (h0 : g_By code pc = 9) : decode code pc = .ok (.lconst 0, 1) := r_dec ((r_bind (r_u1 h0 (by decide))).trans (rfl))
theorem gd_lconst1 (h0 : g_By code pc = 10) : decode code pc = .ok (.lconst 1, 1) := r_dec ((r_bind (r_u1 h0 (by decide))).trans (rfl))
theorem gd_iconst0 (h0 : g_By code pc = 2) : decode code pc = .ok (.iconst (-1), 1) := r_dec ((r_bind (r_u1 h0 (by decide))).trans (rfl))
theorem gd_iconst1 (h0 : g_By code pc = 3) : decode code pc = .ok (.iconst (0), 1) := r_dec ((r_bind (r_u1 h0 (by decide))).trans (rfl))
theorem gd_iconst2 (h0 : g_By code pc = 4) : decode code pc = .ok (.iconst (1), 1) := r_dec ((r_bind (r_u1 h0 (by decide))).trans (rfl))
theorem gd_iconst3 (h0 : g_By code pc = 5) : decode code pc = .ok (.iconst (2), 1) := r_dec ((r_bind (r_u1 h0 (by decide))).trans (rfl))
theorem gd_iconst4 (h0 : g_By code pc = 6) : decode code pc = .ok (.iconst (3), 1) := r_dec ((r_bind (r_u1 h0 (by decide))).trans (rfl))
theorem gd_iconst5 (h0 : g_By code pc = 7) : decode code pc = .ok (.iconst (4), 1) := r_dec ((r_bind (r_u1 h0 (by decide))).trans (rfl))
theorem gd_iconst6 (h0 : g_By code pc = 8) : decode code pc = .ok (.iconst (5), 1) := r_dec ((r_bind (r_u1 h0 (by decide))).trans (rfl))
theorem gd_aload (h0 : g_By code pc = 25) (h1 : g_By code (pc + 1) = a) (ha : a < 256) : decode code pc = .ok (.aload a, 2) := r_dec ((r_bind (r_u1 h0 (by decide))).trans ((r_bind (r_u1 h1 ha)).trans rfl))
theorem gd_astore (h0 : g_By code pc = 58) (h1 : g_By code (pc + 1) = a) (ha : a < 256) : decode code pc = .ok (.astore a, 2) := r_dec ((r_bind (r_u1 h0 (by decide))).trans ((r_bind (r_u1 h1 ha)).trans rfl))
theorem gd_iload (h0 : g_By code pc = 21) (h1 : g_By code (pc + 1) = a) (ha : a < 256) : decode code pc = .ok (.iload a, 2) := r_dec ((r_bind (r_u1 h0 (by decide))).trans ((r_bind (r_u1 h1 ha)).trans rfl))
theorem gd_istore (h0 : g_By code pc = 54) (h1 : g_By code (pc + 1) = a) (ha : a < 256) : decode code pc = .ok (.istore a, 2) := r_dec ((r_bind (r_u1 h0 (by decide))).trans ((r_bind (r_u1 h1 ha)).trans rfl))
theorem gd_lload (h0 : g_By code pc = 22) (h1 : g_By code (pc + 1) = a) (ha : a < 256) : decode code pc = .ok (.lload a, 2) := r_dec ((r_bind (r_u1 h0 (by decide))).trans ((r_bind (r_u1 h1 ha)).trans rfl))
theorem gd_ldc (h0 : g_By code pc = 18) (h1 : g_By code (pc + 1) = a) (ha : a < 256) : decode code pc = .ok (.ldc a, 2) := r_dec ((r_bind (r_u1 h0 (by decide))).trans ((r_bind (r_u1 h1 ha)).trans rfl))
theorem gd_getfield (h0 : g_By code pc = 180) (h1 : g_By code (pc + 1) = a) (h2 : g_By code (pc + 2) = b) (ha : a < 256) (hb : b < 256) : decode code pc = .ok (.getfield (a * 256 + b), 3) := r_dec ((r_bind (r_u1 h0 (by decide))).trans ((r_bind (r_u2 h1 h2 ha hb)).trans rfl))
theorem gd_putfield (h0 : g_By code pc = 181) (h1 : g_By code (pc + 1) = a) (h2 : g_By code (pc + 2) = b) (ha : a < 256) (hb : b < 256) : decode code pc = .ok (.putfield (a * 256 + b), 3) := r_dec ((r_bind (r_u1 h0 (by decide))).trans ((r_bind (r_u2 h1 h2 ha hb)).trans rfl))
theorem gd_invokevirtual (h0 : g_By code pc = 182) (h1 : g_By code (pc + 1) = a) (h2 : g_By code (pc + 2) = b) (ha : a < 256) (hb : b < 256) : decode code pc = .ok (.invokevirtual (a * 256 + b), 3) := r_dec ((r_bind (r_u1 h0 (by decide))).trans ((r_bind (r_u2 h1 h2 ha hb)).trans rfl))
theorem gd_invokespecial (h0 : g_By code pc = 183) (h1 : g_By code (pc + 1) = a) (h2 : g_By code (pc + 2) = b) (ha : a < 256) (hb : b < 256) : decode code pc = .ok (.invokespecial (a * 256 + b), 3) := r_dec ((r_bind (r_u1 h0 (by decide))).trans ((r_bind (r_u2 h1 h2 ha hb)).trans rfl))
theorem gd_invokestatic (h0 : g_By code pc = 184) (h1 : g_By code (pc + 1) = a) (h2 : g_By code (pc + 2) = b) (ha : a < 256) (hb : b < 256) : decode code pc = .ok (.invokestatic (a * 256 + b), 3) := r_dec ((r_bind (r_u1 h0 (by decide))).trans ((r_bind (r_u2 h1 h2 ha hb)).trans rfl))
theorem gd_new (h0 : g_By code pc = 187) (h1 : g_By code (pc + 1) = a) (h2 : g_By code (pc + 2) = b) (ha : a < 256) (hb : b < 256) : decode code pc = .ok (.new (a * 256 + b), 3) := r_dec ((r_bind (r_u1 h0 (by decide))).trans ((r_bind (r_u2 h1 h2 ha hb)).trans rfl))
theorem gd_anewarray (h0 : g_By code pc = 189) (h1 : g_By code (pc + 1) = a) (h2 : g_By code (pc + 2) = b) (ha : a < 256) (hb : b < 256) : decode code pc = .ok (.anewarray (a * 256 + b), 3) := r_dec ((r_bind (r_u1 h0 (by decide))).trans ((r_bind (r_u2 h1 h2 ha hb)).trans rfl))
theorem gd_ldc_w (h0 : g_By code pc = 19) (h1 : g_By code (pc + 1) = a) (h2 : g_By code (pc + 2) = b) (ha : a < 256) (hb : b < 256) : decode code pc = .ok (.ldc_w (a * 256 + b), 3) := r_dec ((r_bind (r_u1 h0 (by decide))).trans ((r_bind (r_u2 h1 h2 ha hb)).trans rfl))
theorem gd_ldc2_w (h0 : g_By code pc = 20) (h1 : g_By code (pc + 1) = a) (h2 : g_By code (pc + 2) = b) (ha : a < 256) (hb : b < 256) : decode code pc = .ok (.ldc2_w (a * 256 + b), 3) := r_dec ((r_bind (r_u1 h0 (by decide))).trans ((r_bind (r_u2 h1 h2 ha hb)).trans rfl))
theorem gd_sipush (h0 : g_By code pc = 17) (h1 : g_By code (pc + 1) = a) (h2 : g_By code (pc + 2) = b) (ha : a < 256) (hb : b < 256) : decode code pc = .ok (.sipush (Reader.signed 16 (a * 256 + b)), 3) := r_dec ((r_bind (r_u1 h0 (by decide))).trans ((r_bind (r_s2 h1 h2 ha hb)).trans rfl))
theorem gd_goto (h0 : g_By code pc = 167) (h1 : g_By code (pc + 1) = a) (h2 : g_By code (pc + 2) = b) (ha : a < 256) (hb : b < 256) : decode code pc = .ok (.goto (Reader.signed 16 (a * 256 + b)), 3) := r_dec ((r_bind (r_u1 h0 (by decide))).trans ((r_bind (r_s2 h1 h2 ha hb)).trans rfl))
theorem gd_ifnull (h0 : g_By code pc = 198) (h1 : g_By code (pc + 1) = a) (h2 : g_By code (pc + 2) = b) (ha : a < 256) (hb : b < 256) : decode code pc = .ok (.ifnull (Reader.signed 16 (a * 256 + b)), 3) := r_dec ((r_bind (r_u1 h0 (by decide))).trans ((r_bind (r_s2 h1 h2 ha hb)).trans rfl))
theorem gd_ifnonnull (h0 : g_By code pc = 199) (h1 : g_By code (pc + 1) = a) (h2 : g_By code (pc + 2) = b) (ha : a < 256) (hb : b < 256) : decode code pc = .ok (.ifnonnull (Reader.signed 16 (a * 256 + b)), 3) := r_dec ((r_bind (r_u1 h0 (by decide))).trans ((r_bind (r_s2 h1 h2 ha hb)).trans rfl))
theorem gd_bipush (h0 : g_By code pc = 16) (h1 : g_By code (pc + 1) = a) (ha : a < 256) : decode code pc = .ok (.bipush (Reader.signed 8 a), 2) := r_dec ((r_bind (r_u1 h0 (by decide))).trans ((r_bind (r_s1 h1 ha)).trans rfl))
theorem gd_iinc (h0 : g_By code pc = 132) (h1 : g_By code (pc + 1) = a) (h2 : g_By code (pc + 2) = b) (ha : a < 256) (hb : b < 256) : decode code pc = .ok (.iinc a (Reader.signed 8 b), 3) := r_dec ((r_bind (r_u1 h0 (by decide))).trans ((r_bind (r_u1 h1 ha)).trans ((r_bind (r_s1 h2 hb)).trans rfl)))
theorem gd_ifCond_eq (h0 : g_By code pc = 153) (h1 : g_By code (pc + 1) = a) (h2 : g_By code (pc + 2) = b) (ha : a < 256) (hb : b < 256) : decode code pc = .ok (.ifCond .eq (Reader.signed 16 (a * 256 + b)), 3) := r_dec ((r_bind (r_u1 h0 (by decide))).trans ((r_bind (r_s2 h1 h2 ha hb)).trans rfl))
theorem gd_if_icmp_eq (h0 : g_By code pc = 159) (h1 : g_By code (pc + 1) = a) (h2 : g_By code (pc + 2) = b) (ha : a < 256) (hb : b < 256) : decode code pc = .ok (.if_icmp .eq (Reader.signed 16 (a * 256 + b)), 3) := r_dec ((r_bind (r_u1 h0 (by decide))).trans ((r_bind (r_s2 h1 h2 ha hb)).trans rfl))
theorem gd_ifCond_ne (h0 : g_By code pc = 154) (h1 : g_By code (pc + 1) = a) (h2 : g_By code (pc + 2) = b) (ha : a < 256) (hb : b < 256) : decode code pc = .ok (.ifCond .ne (Reader.signed 16 (a * 256 + b)), 3) := r_dec ((r_bind (r_u1 h0 (by decide))).trans ((r_bind (r_s2 h1 h2 ha hb)).trans rfl))
theorem gd_if_icmp_ne (h0 : g_By code pc = 160) (h1 : g_By code (pc + 1) = a) (h2 : g_By code (pc + 2) = b) (ha : a < 256) (hb : b < 256) : decode code pc = .ok (.if_icmp .ne (Reader.signed 16 (a * 256 + b)), 3) := r_dec ((r_bind (r_u1 h0 (by decide))).trans ((r_bind (r_s2 h1 h2 ha hb)).trans rfl))
theorem gd_ifCond_lt (h0 : g_By code pc = 155) (h1 : g_By code (pc + 1) = a) (h2 : g_By code (pc + 2) = b) (ha : a < 256) (hb : b < 256) : decode code pc = .ok (.ifCond .lt (Reader.signed 16 (a * 256 + b)), 3) := r_dec ((r_bind (r_u1 h0 (by decide))).trans ((r_bind (r_s2 h1 h2 ha hb)).trans rfl))
theorem gd_if_icmp_lt (h0 : g_By code pc = 161) (h1 : g_By code (pc + 1) = a) (h2 : g_By code (pc + 2) = b) (ha : a < 256) (hb : b < 256) : decode code pc = .ok (.if_icmp .lt (Reader.signed 16 (a * 256 + b)), 3) := r_dec ((r_bind (r_u1 h0 (by decide))).trans ((r_bind (r_s2 h1 h2 ha hb)).trans rfl))
theorem gd_ifCond_ge (h0 : g_By code pc = 156) (h1 : g_By code (pc + 1) = a) (h2 : g_By code (pc + 2) = b) (ha : a < 256) (hb : b < 256) : decode code pc = .ok (.ifCond .ge (Reader.signed 16 (a * 256 + b)), 3) := r_dec ((r_bind (r_u1 h0 (by decide))).trans ((r_bind (r_s2 h1 h2 ha hb)).trans rfl))
theorem gd_if_icmp_ge (h0 : g_By code pc = 162) (h1 : g_By code (pc + 1) = a) (h2 : g_By code (pc + 2) = b) (ha : a < 256) (hb : b < 256) : decode code pc = .ok (.if_icmp .ge (Reader.signed 16 (a * 256 + b)), 3) := r_dec ((r_bind (r_u1 h0 (by decide))).trans ((r_bind (r_s2 h1 h2 ha hb)).trans rfl))
theorem gd_ifCond_gt (h0 : g_By code pc = 157) (h1 : g_By code (pc + 1) = a) (h2 : g_By code (pc + 2) = b) (ha : a < 256) (hb : b < 256) : decode code pc = .ok (.ifCond .gt (Reader.signed 16 (a * 256 + b)), 3) := r_dec ((r_bind (r_u1 h0 (by decide))).trans ((r_bind (r_s2 h1 h2 ha hb)).trans rfl))
theorem gd_if_icmp_gt (h0 : g_By code pc = 163) (h1 : g_By code (pc + 1) = a) (h2 : g_By code (pc + 2) = b) (ha : a < 256) (hb : b < 256) : decode code pc = .ok (.if_icmp .gt (Reader.signed 16 (a * 256 + b)), 3) := r_dec ((r_bind (r_u1 h0 (by decide))).trans ((r_bind (r_s2 h1 h2 ha hb)).trans rfl))
theorem gd_ifCond_le (h0 : g_By code pc = 158) (h1 : g_By code (pc + 1) = a) (h2 : g_By code (pc + 2) = b) (ha : a < 256) (hb : b < 256) : decode code pc = .ok (.ifCond .le (Reader.signed 16 (a * 256 + b)), 3) := r_dec ((r_bind (r_u1 h0 (by decide))).trans ((r_bind (r_s2 h1 h2 ha hb)).trans rfl))
theorem gd_if_icmp_le (h0 : g_By code pc = 164) (h1 : g_By code (pc + 1) = a) (h2 : g_By code (pc + 2) = b) (ha : a < 256) (hb : b < 256) : decode code pc = .ok (.if_icmp .le (Reader.signed 16 (a * 256 + b)), 3) := r_dec ((r_bind (r_u1 h0 (by decide))).trans ((r_bind (r_s2 h1 h2 ha hb)).trans rfl))
theorem gd_newarray_boolean (h0 : g_By code pc = 188) (h1 : g_By code (pc + 1) = 4) : decode code pc = .ok (.newarray .boolean, 2) := r_dec ((r_bind (r_u1 h0 (by decide))).trans ((r_bind (r_u1 h1 (by decide))).trans rfl))
theorem gd_newarray_char (h0 : g_By code pc = 188) (h1 : g_By code (pc + 1) = 5) : decode code pc = .ok (.newarray .char, 2) := r_dec ((r_bind (r_u1 h0 (by decide))).trans ((r_bind (r_u1 h1 (by decide))).trans rfl))
theorem gd_newarray_float (h0 : g_By code pc = 188) (h1 : g_By code (pc + 1) = 6) : decode code pc = .ok (.newarray .float, 2) := r_dec ((r_bind (r_u1 h0 (by decide))).trans ((r_bind (r_u1 h1 (by decide))).trans rfl))
theorem gd_newarray_double (h0 : g_By code pc = 188) (h1 : g_By code (pc + 1) = 7) : decode code pc = .ok (.newarray .double, 2) := r_dec ((r_bind (r_u1 h0 (by decide))).trans ((r_bind (r_u1 h1 (by decide))).trans rfl))
theorem gd_newarray_byte (h0 : g_By code pc = 188) (h1 : g_By code (pc + 1) = 8) : decode code pc = .ok (.newarray .byte, 2) := r_dec ((r_bind (r_u1 h0 (by decide))).trans ((r_bind (r_u1 h1 (by decide))).trans rfl))
theorem gd_newarray_short (h0 : g_By code pc = 188) (h1 : g_By code (pc + 1) = 9) : decode code pc = .ok (.newarray .short, 2) := r_dec ((r_bind (r_u1 h0 (by decide))).trans ((r_bind (r_u1 h1 (by decide))).trans rfl))
theorem gd_newarray_int (h0 : g_By code pc = 188) (h1 : g_By code (pc + 1) = 10) : decode code pc = .ok (.newarray .int, 2) := r_dec ((r_bind (r_u1 h0 (by decide))).trans ((r_bind (r_u1 h1 (by decide))).trans rfl))
theorem gd_newarray_long (h0 : g_By code pc = 188) (h1 : g_By code (pc + 1) = 11) : decode code pc = .ok (.newarray .long, 2) := r_dec ((r_bind (r_u1 h0 (by decide))).trans ((r_bind (r_u1 h1 (by decide))).trans rfl))
end GD
noncomputable def g_co : Jvm.ClassFile.Cond → Nat
  | .eq => 0
  | .ne => 1
  | .lt => 2
  | .ge => 3
  | .gt => 4
  | .le => 5
noncomputable def g_at : Jvm.ClassFile.ArrayType → Nat
  | .boolean => 4
  | .char => 5
  | .float => 6
  | .double => 7
  | .byte => 8
  | .short => 9
  | .int => 10
  | .long => 11
noncomputable def g_h1 (t : List UInt8) : Nat := match t with
  | a :: _ => a.toNat
  | [] => 256
noncomputable def g_h2 (t : List UInt8) : Nat := match t with
  | _ :: b :: _ => b.toNat
  | _ => 256
noncomputable def g_fd1 (code : ByteArray) (pc : Nat) (o : Nat) (t : List UInt8) (i : Instr) (len : Nat) : Bool := match i with
  | .aaload => Nat.beq o 50 && Nat.beq len 1
  | .aastore => Nat.beq o 83 && Nat.beq len 1
  | .aconst_null => Nat.beq o 1 && Nat.beq len 1
  | .areturn => Nat.beq o 176 && Nat.beq len 1
  | .arraylength => Nat.beq o 190 && Nat.beq len 1
  | .baload => Nat.beq o 51 && Nat.beq len 1
  | .bastore => Nat.beq o 84 && Nat.beq len 1
  | .dup => Nat.beq o 89 && Nat.beq len 1
  | .dup2 => Nat.beq o 92 && Nat.beq len 1
  | .i2b => Nat.beq o 145 && Nat.beq len 1
  | .i2c => Nat.beq o 146 && Nat.beq len 1
  | .i2l => Nat.beq o 133 && Nat.beq len 1
  | .iadd => Nat.beq o 96 && Nat.beq len 1
  | .iaload => Nat.beq o 46 && Nat.beq len 1
  | .iand => Nat.beq o 126 && Nat.beq len 1
  | .iastore => Nat.beq o 79 && Nat.beq len 1
  | .idiv => Nat.beq o 108 && Nat.beq len 1
  | .imul => Nat.beq o 104 && Nat.beq len 1
  | .ineg => Nat.beq o 116 && Nat.beq len 1
  | .ior => Nat.beq o 128 && Nat.beq len 1
  | .irem => Nat.beq o 112 && Nat.beq len 1
  | .ireturn => Nat.beq o 172 && Nat.beq len 1
  | .ishl => Nat.beq o 120 && Nat.beq len 1
  | .ishr => Nat.beq o 122 && Nat.beq len 1
  | .isub => Nat.beq o 100 && Nat.beq len 1
  | .iushr => Nat.beq o 124 && Nat.beq len 1
  | .ixor => Nat.beq o 130 && Nat.beq len 1
  | .lcmp => Nat.beq o 148 && Nat.beq len 1
  | .pop => Nat.beq o 87 && Nat.beq len 1
  | .return_ => Nat.beq o 177 && Nat.beq len 1
  | .aload_n n => Nat.beq o (42 + n.val) && Nat.beq len 1
  | .astore_n n => Nat.beq o (75 + n.val) && Nat.beq len 1
  | .iload_n n => Nat.beq o (26 + n.val) && Nat.beq len 1
  | .istore_n n => Nat.beq o (59 + n.val) && Nat.beq len 1
  | .lload_n n => Nat.beq o (30 + n.val) && Nat.beq len 1
  | .lconst n => Nat.beq o (9 + n.val) && Nat.beq len 1
  | .iconst n => decide (n = ((o : Nat) : Int) - 3) && (Nat.ble 2 o && (Nat.ble o 8 && Nat.beq len 1))
  | .aload n => Nat.beq o 25 && (Nat.beq (g_h1 t) n && (Nat.blt n 256 && Nat.beq len 2))
  | .astore n => Nat.beq o 58 && (Nat.beq (g_h1 t) n && (Nat.blt n 256 && Nat.beq len 2))
  | .iload n => Nat.beq o 21 && (Nat.beq (g_h1 t) n && (Nat.blt n 256 && Nat.beq len 2))
  | .istore n => Nat.beq o 54 && (Nat.beq (g_h1 t) n && (Nat.blt n 256 && Nat.beq len 2))
  | .lload n => Nat.beq o 22 && (Nat.beq (g_h1 t) n && (Nat.blt n 256 && Nat.beq len 2))
  | .ldc n => Nat.beq o 18 && (Nat.beq (g_h1 t) n && (Nat.blt n 256 && Nat.beq len 2))
  | .getfield n => Nat.beq o 180 && (Nat.beq (g_h1 t * 256 + g_h2 t) n && (Nat.blt (g_h1 t) 256 && (Nat.blt (g_h2 t) 256 && Nat.beq len 3)))
  | .putfield n => Nat.beq o 181 && (Nat.beq (g_h1 t * 256 + g_h2 t) n && (Nat.blt (g_h1 t) 256 && (Nat.blt (g_h2 t) 256 && Nat.beq len 3)))
  | .invokevirtual n => Nat.beq o 182 && (Nat.beq (g_h1 t * 256 + g_h2 t) n && (Nat.blt (g_h1 t) 256 && (Nat.blt (g_h2 t) 256 && Nat.beq len 3)))
  | .invokespecial n => Nat.beq o 183 && (Nat.beq (g_h1 t * 256 + g_h2 t) n && (Nat.blt (g_h1 t) 256 && (Nat.blt (g_h2 t) 256 && Nat.beq len 3)))
  | .invokestatic n => Nat.beq o 184 && (Nat.beq (g_h1 t * 256 + g_h2 t) n && (Nat.blt (g_h1 t) 256 && (Nat.blt (g_h2 t) 256 && Nat.beq len 3)))
  | .new n => Nat.beq o 187 && (Nat.beq (g_h1 t * 256 + g_h2 t) n && (Nat.blt (g_h1 t) 256 && (Nat.blt (g_h2 t) 256 && Nat.beq len 3)))
  | .anewarray n => Nat.beq o 189 && (Nat.beq (g_h1 t * 256 + g_h2 t) n && (Nat.blt (g_h1 t) 256 && (Nat.blt (g_h2 t) 256 && Nat.beq len 3)))
  | .ldc_w n => Nat.beq o 19 && (Nat.beq (g_h1 t * 256 + g_h2 t) n && (Nat.blt (g_h1 t) 256 && (Nat.blt (g_h2 t) 256 && Nat.beq len 3)))
  | .ldc2_w n => Nat.beq o 20 && (Nat.beq (g_h1 t * 256 + g_h2 t) n && (Nat.blt (g_h1 t) 256 && (Nat.blt (g_h2 t) 256 && Nat.beq len 3)))
  | .sipush n => Nat.beq o 17 && (decide (Reader.signed 16 (g_h1 t * 256 + g_h2 t) = n) && (Nat.blt (g_h1 t) 256 && (Nat.blt (g_h2 t) 256 && Nat.beq len 3)))
  | .goto n => Nat.beq o 167 && (decide (Reader.signed 16 (g_h1 t * 256 + g_h2 t) = n) && (Nat.blt (g_h1 t) 256 && (Nat.blt (g_h2 t) 256 && Nat.beq len 3)))
  | .ifnull n => Nat.beq o 198 && (decide (Reader.signed 16 (g_h1 t * 256 + g_h2 t) = n) && (Nat.blt (g_h1 t) 256 && (Nat.blt (g_h2 t) 256 && Nat.beq len 3)))
  | .ifnonnull n => Nat.beq o 199 && (decide (Reader.signed 16 (g_h1 t * 256 + g_h2 t) = n) && (Nat.blt (g_h1 t) 256 && (Nat.blt (g_h2 t) 256 && Nat.beq len 3)))
  | .bipush n => Nat.beq o 16 && (decide (Reader.signed 8 (g_h1 t) = n) && (Nat.blt (g_h1 t) 256 && Nat.beq len 2))
  | .iinc m n => Nat.beq o 132 && (Nat.beq (g_h1 t) m && (decide (Reader.signed 8 (g_h2 t) = n) && (Nat.blt m 256 && (Nat.blt (g_h2 t) 256 && Nat.beq len 3))))
  | .ifCond c n => Nat.beq o (153 + g_co c) && (decide (Reader.signed 16 (g_h1 t * 256 + g_h2 t) = n) && (Nat.blt (g_h1 t) 256 && (Nat.blt (g_h2 t) 256 && Nat.beq len 3)))
  | .if_icmp c n => Nat.beq o (159 + g_co c) && (decide (Reader.signed 16 (g_h1 t * 256 + g_h2 t) = n) && (Nat.blt (g_h1 t) 256 && (Nat.blt (g_h2 t) 256 && Nat.beq len 3)))
  | .newarray n => Nat.beq o 188 && (Nat.beq (g_h1 t) (g_at n) && Nat.beq len 2)
  | i => decide (decode code pc = .ok (i, len))
noncomputable def g_fd (code : ByteArray) (pc : Nat) (i : Instr) (len : Nat) : Bool := match code.data.toList.drop pc with
  | [] => false
  | o :: t => g_fd1 code pc o.toNat t i len
theorem g_fd_ob {code : ByteArray} {pc : Nat} {o : UInt8} {t : List UInt8} (h : code.data.toList.drop pc = o :: t) : g_By code pc = o.toNat ∧ g_By code (pc + 1) = g_h1 t ∧ g_By code (pc + 2) = g_h2 t := by
  have e : ∀ k, code.data.toList[pc + k]? = (o :: t)[k]? := fun k => by rw [← h, List.getElem?_drop]
  unfold g_By g_h1 g_h2
  refine ⟨?_, ?_, ?_⟩
  · rw [show pc = pc + 0 from rfl, e 0]
    rfl
  · rw [e 1]
    cases t <;> rfl
  · rw [e 2]
    cases t with
    | nil => rfl
    | cons a t => cases t <;> rfl
theorem g_fd1_ok {code : ByteArray} {pc len o : Nat} {t : List UInt8} {i : Instr} (e0 : g_By code pc = o) (e1 : g_By code (pc + 1) = g_h1 t) (e2 : g_By code (pc + 2) = g_h2 t) (h : g_fd1 code pc o t i len = true) : decode code pc = .ok (i, len) := by
  rw [← e0] at h
  unfold g_fd1 at h
  rw [← e1, ← e2] at h
  split at h
  · simp only [Bool.and_eq_true, Nat.beq_eq, Nat.ble_eq, Nat.blt_eq, decide_eq_true_eq] at h
    rw [h.2]
    exact gd_aaload h.1
  · simp only [Bool.and_eq_true, Nat.beq_eq, Nat.ble_eq, Nat.blt_eq, decide_eq_true_eq] at h
    rw [h.2]
    exact gd_aastore h.1
  · simp only [Bool.and_eq_true, Nat.beq_eq, Nat.ble_eq, Nat.blt_eq, decide_eq_true_eq] at h
    rw [h.2]
    exact gd_aconst_null h.1
  · simp only [Bool.and_eq_true, Nat.beq_eq, Nat.ble_eq, Nat.blt_eq, decide_eq_true_eq] at h
    rw [h.2]
    exact gd_areturn h.1
  · simp only [Bool.and_eq_true, Nat.beq_eq, Nat.ble_eq, Nat.blt_eq, decide_eq_true_eq] at h
    rw [h.2]
    exact gd_arraylength h.1
  · simp only [Bool.and_eq_true, Nat.beq_eq, Nat.ble_eq, Nat.blt_eq, decide_eq_true_eq] at h
    rw [h.2]
    exact gd_baload h.1
  · simp only [Bool.and_eq_true, Nat.beq_eq, Nat.ble_eq, Nat.blt_eq, decide_eq_true_eq] at h
    rw [h.2]
    exact gd_bastore h.1
  · simp only [Bool.and_eq_true, Nat.beq_eq, Nat.ble_eq, Nat.blt_eq, decide_eq_true_eq] at h
    rw [h.2]
    exact gd_dup h.1
  · simp only [Bool.and_eq_true, Nat.beq_eq, Nat.ble_eq, Nat.blt_eq, decide_eq_true_eq] at h
    rw [h.2]
    exact gd_dup2 h.1
  · simp only [Bool.and_eq_true, Nat.beq_eq, Nat.ble_eq, Nat.blt_eq, decide_eq_true_eq] at h
    rw [h.2]
    exact gd_i2b h.1
  · simp only [Bool.and_eq_true, Nat.beq_eq, Nat.ble_eq, Nat.blt_eq, decide_eq_true_eq] at h
    rw [h.2]
    exact gd_i2c h.1
  · simp only [Bool.and_eq_true, Nat.beq_eq, Nat.ble_eq, Nat.blt_eq, decide_eq_true_eq] at h
    rw [h.2]
    exact gd_i2l h.1
  · simp only [Bool.and_eq_true, Nat.beq_eq, Nat.ble_eq, Nat.blt_eq, decide_eq_true_eq] at h
    rw [h.2]
    exact gd_iadd h.1
  · simp only [Bool.and_eq_true, Nat.beq_eq, Nat.ble_eq, Nat.blt_eq, decide_eq_true_eq] at h
    rw [h.2]
    exact gd_iaload h.1
  · simp only [Bool.and_eq_true, Nat.beq_eq, Nat.ble_eq, Nat.blt_eq, decide_eq_true_eq] at h
    rw [h.2]
    exact gd_iand h.1
  · simp only [Bool.and_eq_true, Nat.beq_eq, Nat.ble_eq, Nat.blt_eq, decide_eq_true_eq] at h
    rw [h.2]
    exact gd_iastore h.1
  · simp only [Bool.and_eq_true, Nat.beq_eq, Nat.ble_eq, Nat.blt_eq, decide_eq_true_eq] at h
    rw [h.2]
    exact gd_idiv h.1
  · simp only [Bool.and_eq_true, Nat.beq_eq, Nat.ble_eq, Nat.blt_eq, decide_eq_true_eq] at h
    rw [h.2]
    exact gd_imul h.1
  · simp only [Bool.and_eq_true, Nat.beq_eq, Nat.ble_eq, Nat.blt_eq, decide_eq_true_eq] at h
    rw [h.2]
    exact gd_ineg h.1
  · simp only [Bool.and_eq_true, Nat.beq_eq, Nat.ble_eq, Nat.blt_eq, decide_eq_true_eq] at h
    rw [h.2]
    exact gd_ior h.1
  · simp only [Bool.and_eq_true, Nat.beq_eq, Nat.ble_eq, Nat.blt_eq, decide_eq_true_eq] at h
    rw [h.2]
    exact gd_irem h.1
  · simp only [Bool.and_eq_true, Nat.beq_eq, Nat.ble_eq, Nat.blt_eq, decide_eq_true_eq] at h
    rw [h.2]
    exact gd_ireturn h.1
  · simp only [Bool.and_eq_true, Nat.beq_eq, Nat.ble_eq, Nat.blt_eq, decide_eq_true_eq] at h
    rw [h.2]
    exact gd_ishl h.1
  · simp only [Bool.and_eq_true, Nat.beq_eq, Nat.ble_eq, Nat.blt_eq, decide_eq_true_eq] at h
    rw [h.2]
    exact gd_ishr h.1
  · simp only [Bool.and_eq_true, Nat.beq_eq, Nat.ble_eq, Nat.blt_eq, decide_eq_true_eq] at h
    rw [h.2]
    exact gd_isub h.1
  · simp only [Bool.and_eq_true, Nat.beq_eq, Nat.ble_eq, Nat.blt_eq, decide_eq_true_eq] at h
    rw [h.2]
    exact gd_iushr h.1
  · simp only [Bool.and_eq_true, Nat.beq_eq, Nat.ble_eq, Nat.blt_eq, decide_eq_true_eq] at h
    rw [h.2]
    exact gd_ixor h.1
  · simp only [Bool.and_eq_true, Nat.beq_eq, Nat.ble_eq, Nat.blt_eq, decide_eq_true_eq] at h
    rw [h.2]
    exact gd_lcmp h.1
  · simp only [Bool.and_eq_true, Nat.beq_eq, Nat.ble_eq, Nat.blt_eq, decide_eq_true_eq] at h
    rw [h.2]
    exact gd_pop h.1
  · simp only [Bool.and_eq_true, Nat.beq_eq, Nat.ble_eq, Nat.blt_eq, decide_eq_true_eq] at h
    rw [h.2]
    exact gd_return_ h.1
  · simp only [Bool.and_eq_true, Nat.beq_eq, Nat.ble_eq, Nat.blt_eq, decide_eq_true_eq] at h
    rename_i n
    rw [h.2]
    obtain ⟨v, hv⟩ := n
    match v, hv, h.1 with
    | 0, _, h1 => exact gd_aload_n0 h1
    | 1, _, h1 => exact gd_aload_n1 h1
    | 2, _, h1 => exact gd_aload_n2 h1
    | 3, _, h1 => exact gd_aload_n3 h1
    | k + 4, hv, _ => exact absurd hv (by omega)
  · simp only [Bool.and_eq_true, Nat.beq_eq, Nat.ble_eq, Nat.blt_eq, decide_eq_true_eq] at h
    rename_i n
    rw [h.2]
    obtain ⟨v, hv⟩ := n
    match v, hv, h.1 with
    | 0, _, h1 => exact gd_astore_n0 h1
    | 1, _, h1 => exact gd_astore_n1 h1
    | 2, _, h1 => exact gd_astore_n2 h1
    | 3, _, h1 => exact gd_astore_n3 h1
    | k + 4, hv, _ => exact absurd hv (by omega)
  · simp only [Bool.and_eq_true, Nat.beq_eq, Nat.ble_eq, Nat.blt_eq, decide_eq_true_eq] at h
    rename_i n
    rw [h.2]
    obtain ⟨v, hv⟩ := n
    match v, hv, h.1 with
    | 0, _, h1 => exact gd_iload_n0 h1
    | 1, _, h1 => exact gd_iload_n1 h1
    | 2, _, h1 => exact gd_iload_n2 h1
    | 3, _, h1 => exact gd_iload_n3 h1
    | k + 4, hv, _ => exact absurd hv (by omega)
  · simp only [Bool.and_eq_true, Nat.beq_eq, Nat.ble_eq, Nat.blt_eq, decide_eq_true_eq] at h
    rename_i n
    rw [h.2]
    obtain ⟨v, hv⟩ := n
    match v, hv, h.1 with
    | 0, _, h1 => exact gd_istore_n0 h1
    | 1, _, h1 => exact gd_istore_n1 h1
    | 2, _, h1 => exact gd_istore_n2 h1
    | 3, _, h1 => exact gd_istore_n3 h1
    | k + 4, hv, _ => exact absurd hv (by omega)
  · simp only [Bool.and_eq_true, Nat.beq_eq, Nat.ble_eq, Nat.blt_eq, decide_eq_true_eq] at h
    rename_i n
    rw [h.2]
    obtain ⟨v, hv⟩ := n
    match v, hv, h.1 with
    | 0, _, h1 => exact gd_lload_n0 h1
    | 1, _, h1 => exact gd_lload_n1 h1
    | 2, _, h1 => exact gd_lload_n2 h1
    | 3, _, h1 => exact gd_lload_n3 h1
    | k + 4, hv, _ => exact absurd hv (by omega)
  · simp only [Bool.and_eq_true, Nat.beq_eq, Nat.ble_eq, Nat.blt_eq, decide_eq_true_eq] at h
    rename_i n
    rw [h.2]
    obtain ⟨v, hv⟩ := n
    match v, hv, h.1 with
    | 0, _, h1 => exact gd_lconst0 h1
    | 1, _, h1 => exact gd_lconst1 h1
    | k + 2, hv, _ => exact absurd hv (by omega)
  · simp only [Bool.and_eq_true, Nat.beq_eq, Nat.ble_eq, Nat.blt_eq, decide_eq_true_eq] at h
    obtain ⟨h1, h2, h3, h4⟩ := h
    rw [h4, h1]
    generalize e : g_By code pc = o at h2 h3 ⊢
    match o, e, h2, h3 with
    | 0, _, h2, _ => exact absurd h2 (by decide)
    | 1, _, h2, _ => exact absurd h2 (by decide)
    | 2, e, _, _ => exact gd_iconst0 e
    | 3, e, _, _ => exact gd_iconst1 e
    | 4, e, _, _ => exact gd_iconst2 e
    | 5, e, _, _ => exact gd_iconst3 e
    | 6, e, _, _ => exact gd_iconst4 e
    | 7, e, _, _ => exact gd_iconst5 e
    | 8, e, _, _ => exact gd_iconst6 e
    | k + 9, _, _, h3 => exact absurd h3 (by omega)
  · simp only [Bool.and_eq_true, Nat.beq_eq, Nat.ble_eq, Nat.blt_eq, decide_eq_true_eq] at h
    obtain ⟨h1, h2, h3, h4⟩ := h
    rw [h4]
    exact gd_aload h1 h2 h3
  · simp only [Bool.and_eq_true, Nat.beq_eq, Nat.ble_eq, Nat.blt_eq, decide_eq_true_eq] at h
    obtain ⟨h1, h2, h3, h4⟩ := h
    rw [h4]
    exact gd_astore h1 h2 h3
  · simp only [Bool.and_eq_true, Nat.beq_eq, Nat.ble_eq, Nat.blt_eq, decide_eq_true_eq] at h
    obtain ⟨h1, h2, h3, h4⟩ := h
    rw [h4]
    exact gd_iload h1 h2 h3
  · simp only [Bool.and_eq_true, Nat.beq_eq, Nat.ble_eq, Nat.blt_eq, decide_eq_true_eq] at h
    obtain ⟨h1, h2, h3, h4⟩ := h
    rw [h4]
    exact gd_istore h1 h2 h3
  · simp only [Bool.and_eq_true, Nat.beq_eq, Nat.ble_eq, Nat.blt_eq, decide_eq_true_eq] at h
    obtain ⟨h1, h2, h3, h4⟩ := h
    rw [h4]
    exact gd_lload h1 h2 h3
  · simp only [Bool.and_eq_true, Nat.beq_eq, Nat.ble_eq, Nat.blt_eq, decide_eq_true_eq] at h
    obtain ⟨h1, h2, h3, h4⟩ := h
    rw [h4]
    exact gd_ldc h1 h2 h3
  · simp only [Bool.and_eq_true, Nat.beq_eq, Nat.ble_eq, Nat.blt_eq, decide_eq_true_eq] at h
    obtain ⟨h1, h2, h3, h4, h5⟩ := h
    rw [h5, ← h2]
    exact gd_getfield h1 rfl rfl h3 h4
  · simp only [Bool.and_eq_true, Nat.beq_eq, Nat.ble_eq, Nat.blt_eq, decide_eq_true_eq] at h
    obtain ⟨h1, h2, h3, h4, h5⟩ := h
    rw [h5, ← h2]
    exact gd_putfield h1 rfl rfl h3 h4
  · simp only [Bool.and_eq_true, Nat.beq_eq, Nat.ble_eq, Nat.blt_eq, decide_eq_true_eq] at h
    obtain ⟨h1, h2, h3, h4, h5⟩ := h
    rw [h5, ← h2]
    exact gd_invokevirtual h1 rfl rfl h3 h4
  · simp only [Bool.and_eq_true, Nat.beq_eq, Nat.ble_eq, Nat.blt_eq, decide_eq_true_eq] at h
    obtain ⟨h1, h2, h3, h4, h5⟩ := h
    rw [h5, ← h2]
    exact gd_invokespecial h1 rfl rfl h3 h4
  · simp only [Bool.and_eq_true, Nat.beq_eq, Nat.ble_eq, Nat.blt_eq, decide_eq_true_eq] at h
    obtain ⟨h1, h2, h3, h4, h5⟩ := h
    rw [h5, ← h2]
    exact gd_invokestatic h1 rfl rfl h3 h4
  · simp only [Bool.and_eq_true, Nat.beq_eq, Nat.ble_eq, Nat.blt_eq, decide_eq_true_eq] at h
    obtain ⟨h1, h2, h3, h4, h5⟩ := h
    rw [h5, ← h2]
    exact gd_new h1 rfl rfl h3 h4
  · simp only [Bool.and_eq_true, Nat.beq_eq, Nat.ble_eq, Nat.blt_eq, decide_eq_true_eq] at h
    obtain ⟨h1, h2, h3, h4, h5⟩ := h
    rw [h5, ← h2]
    exact gd_anewarray h1 rfl rfl h3 h4
  · simp only [Bool.and_eq_true, Nat.beq_eq, Nat.ble_eq, Nat.blt_eq, decide_eq_true_eq] at h
    obtain ⟨h1, h2, h3, h4, h5⟩ := h
    rw [h5, ← h2]
    exact gd_ldc_w h1 rfl rfl h3 h4
  · simp only [Bool.and_eq_true, Nat.beq_eq, Nat.ble_eq, Nat.blt_eq, decide_eq_true_eq] at h
    obtain ⟨h1, h2, h3, h4, h5⟩ := h
    rw [h5, ← h2]
    exact gd_ldc2_w h1 rfl rfl h3 h4
  · simp only [Bool.and_eq_true, Nat.beq_eq, Nat.ble_eq, Nat.blt_eq, decide_eq_true_eq] at h
    obtain ⟨h1, h2, h3, h4, h5⟩ := h
    rw [h5, ← h2]
    exact gd_sipush h1 rfl rfl h3 h4
  · simp only [Bool.and_eq_true, Nat.beq_eq, Nat.ble_eq, Nat.blt_eq, decide_eq_true_eq] at h
    obtain ⟨h1, h2, h3, h4, h5⟩ := h
    rw [h5, ← h2]
    exact gd_goto h1 rfl rfl h3 h4
  · simp only [Bool.and_eq_true, Nat.beq_eq, Nat.ble_eq, Nat.blt_eq, decide_eq_true_eq] at h
    obtain ⟨h1, h2, h3, h4, h5⟩ := h
    rw [h5, ← h2]
    exact gd_ifnull h1 rfl rfl h3 h4
  · simp only [Bool.and_eq_true, Nat.beq_eq, Nat.ble_eq, Nat.blt_eq, decide_eq_true_eq] at h
    obtain ⟨h1, h2, h3, h4, h5⟩ := h
    rw [h5, ← h2]
    exact gd_ifnonnull h1 rfl rfl h3 h4
  · simp only [Bool.and_eq_true, Nat.beq_eq, Nat.ble_eq, Nat.blt_eq, decide_eq_true_eq] at h
    obtain ⟨h1, h2, h3, h4⟩ := h
    rw [h4, ← h2]
    exact gd_bipush h1 rfl h3
  · simp only [Bool.and_eq_true, Nat.beq_eq, Nat.ble_eq, Nat.blt_eq, decide_eq_true_eq] at h
    obtain ⟨h1, h2, h3, h4, h5, h6⟩ := h
    rw [h6, ← h3]
    exact gd_iinc h1 h2 rfl h4 h5
  · simp only [Bool.and_eq_true, Nat.beq_eq, Nat.ble_eq, Nat.blt_eq, decide_eq_true_eq] at h
    rename_i c n
    obtain ⟨h1, h2, h3, h4, h5⟩ := h
    rw [h5, ← h2]
    cases c
    · exact gd_ifCond_eq h1 rfl rfl h3 h4
    · exact gd_ifCond_ne h1 rfl rfl h3 h4
    · exact gd_ifCond_lt h1 rfl rfl h3 h4
    · exact gd_ifCond_ge h1 rfl rfl h3 h4
    · exact gd_ifCond_gt h1 rfl rfl h3 h4
    · exact gd_ifCond_le h1 rfl rfl h3 h4
  · simp only [Bool.and_eq_true, Nat.beq_eq, Nat.ble_eq, Nat.blt_eq, decide_eq_true_eq] at h
    rename_i c n
    obtain ⟨h1, h2, h3, h4, h5⟩ := h
    rw [h5, ← h2]
    cases c
    · exact gd_if_icmp_eq h1 rfl rfl h3 h4
    · exact gd_if_icmp_ne h1 rfl rfl h3 h4
    · exact gd_if_icmp_lt h1 rfl rfl h3 h4
    · exact gd_if_icmp_ge h1 rfl rfl h3 h4
    · exact gd_if_icmp_gt h1 rfl rfl h3 h4
    · exact gd_if_icmp_le h1 rfl rfl h3 h4
  · simp only [Bool.and_eq_true, Nat.beq_eq, Nat.ble_eq, Nat.blt_eq, decide_eq_true_eq] at h
    rename_i t
    obtain ⟨h1, h2, h3⟩ := h
    rw [h3]
    cases t
    · exact gd_newarray_boolean h1 h2
    · exact gd_newarray_char h1 h2
    · exact gd_newarray_float h1 h2
    · exact gd_newarray_double h1 h2
    · exact gd_newarray_byte h1 h2
    · exact gd_newarray_short h1 h2
    · exact gd_newarray_int h1 h2
    · exact gd_newarray_long h1 h2
  · exact of_decide_eq_true h
theorem g_fd_ok {code : ByteArray} {pc len : Nat} {i : Instr} (h : g_fd code pc i len = true) : decode code pc = .ok (i, len) := by
  unfold g_fd at h
  cases e : code.data.toList.drop pc with
  | nil =>
    rw [e] at h
    cases h
  | cons o t =>
    rw [e] at h
    obtain ⟨e0, e1, e2⟩ := g_fd_ob e
    exact g_fd1_ok e0 e1 e2 h
noncomputable def g_cF (oc : Nat) (ini : Bool) (code : ByteArray) (q : Nat × g_En) : Bool :=
  g_fd code q.1 q.2.1.1 q.2.1.2 && ((g_sw q.2.1.1 || q.2.1.2 == g_len q.2.1.1) && ((match g_off q.2.1.1 with
    | some off => decide ((q.1 : Int) + off = (q.2.2.1 : Int))
    | none => true) && g_cL oc ini q.2.1.1 q.2.2.1 q.2.2.2.1 q.2.2.2.2))
theorem g_cF_ok {oc : Nat} {ini : Bool} {code : ByteArray} {q : Nat × g_En} (h : g_cF oc ini code q = true) : g_cE oc ini code q = true := by
  unfold g_cF at h
  unfold g_cE
  rw [Bool.and_eq_true] at h ⊢
  exact ⟨decide_eq_true (g_fd_ok h.1), h.2⟩
theorem g_cF_l {oc : Nat} {ini : Bool} {code : ByteArray} {l : List (Nat × g_En)} (h : l.all (g_cF oc ini code) = true) : l.all (g_cE oc ini code) = true := List.all_eq_true.mpr (fun q hq => g_cF_ok (List.all_eq_true.mp h q hq))
theorem g_cF_ll {oc : Nat} {ini : Bool} {code : ByteArray} {l : List (Nat × List (Nat × g_En))} (h : l.all (fun r => r.2.all (g_cF oc ini code)) = true) : l.all (fun r => r.2.all (g_cE oc ini code)) = true := List.all_eq_true.mpr (fun r hr => g_cF_l (List.all_eq_true.mp h r hr))
