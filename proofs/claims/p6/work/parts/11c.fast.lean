/-! ===== decoding by the instruction (laid by a program) ===== -/
section FD
variable {cc : ByteArray} {pc : Nat}
theorem fd_u1 {p : Nat} (h : p < cc.size) : (ClassFile.Reader.u1 : ClassFile.Decoder Nat) cc p = .ok (cc[p].toNat, p + 1) := by
  show (dite (p < cc.size) (fun h => ((do set (p + 1); pure cc[p].toNat) : ClassFile.Decoder Nat)) (fun _ => throw (ClassFile.HasTruncated.truncated p))) cc p = _
  rw [dif_pos h]; rfl
theorem fd_uo {p o : Nat} (h : p < cc.size) (e : cc[p].toNat = o) : (ClassFile.Reader.u1 : ClassFile.Decoder Nat) cc p = .ok (o, p + 1) := by rw [fd_u1 h, e]
theorem fd_bo {α β : Type} {x : ClassFile.Decoder α} {f : α → ClassFile.Decoder β} {a : α} {s s' : Nat} (h : x cc s = .ok (a, s')) : (x >>= f) cc s = f a cc s' := by
  have e : (x >>= f) cc s = Except.bind (x cc s) (fun p => f p.1 cc p.2) := rfl
  rw [e, h]; rfl
theorem fd_mp {α β : Type} {x : ClassFile.Decoder α} {f : α → β} {a : α} {s s' : Nat} (h : x cc s = .ok (a, s')) : (f <$> x) cc s = .ok (f a, s') := by
  have e : (f <$> x) cc s = Except.bind (x cc s) (fun p => .ok (f p.1, p.2)) := rfl
  rw [e, h]; rfl
theorem fd_u2 {p : Nat} (h : p < cc.size) (h1 : p + 1 < cc.size) : (ClassFile.Reader.u2 : ClassFile.Decoder Nat) cc p = .ok (cc[p].toNat * 256 + cc[p + 1].toNat, p + 1 + 1) := by
  show ((ClassFile.Reader.u1 >>= fun hi => ClassFile.Reader.u1 >>= fun lo => pure (hi * 256 + lo)) : ClassFile.Decoder Nat) cc p = _
  exact (fd_bo (fd_u1 h)).trans ((fd_bo (fd_u1 h1)).trans rfl)
theorem fd_s1 {p : Nat} (h : p < cc.size) : (ClassFile.Reader.s1 : ClassFile.Decoder Int) cc p = .ok (ClassFile.Reader.signed 8 cc[p].toNat, p + 1) := fd_mp (fd_u1 h)
theorem fd_s2 {p : Nat} (h : p < cc.size) (h1 : p + 1 < cc.size) : (ClassFile.Reader.s2 : ClassFile.Decoder Int) cc p = .ok (ClassFile.Reader.signed 16 (cc[p].toNat * 256 + cc[p + 1].toNat), p + 1 + 1) := fd_mp (fd_u2 h h1)
theorem fd_dec {i : Instr} {n : Nat} (h : (ClassFile.Decoder.instr pc) cc pc = .ok (i, n)) : decode cc pc = .ok (i, n - pc) := by
  have e : decode cc pc = Except.bind ((ClassFile.Decoder.instr pc) cc pc) (fun p => .ok (p.1, p.2 - pc)) := rfl
  rw [e, h]; rfl
theorem fd_dr {α : Type} : ∀ (l : List α) (n : Nat) (b : α) (t : List α), l.drop n = b :: t → l.drop (n + 1) = t
  | [], n, b, t, h => by rw [List.drop_nil] at h; cases h
  | x :: l, 0, b, t, h => by
    have h : x :: l = b :: t := h
    cases h; rfl
  | _ :: l, n + 1, b, t, h => fd_dr l n b t h
theorem fd_by {p : Nat} {b : UInt8} {t : List UInt8} (h : cc.data.toList.drop p = b :: t) : ∃ h : p < cc.size, cc[p].toNat = b.toNat := by
  cases cc with
  | mk d =>
    have h : d.toList.drop p = b :: t := h
    have hl : p < d.toList.length := by
      rcases Nat.lt_or_ge p d.toList.length with q | q
      · exact q
      · rw [List.drop_eq_nil_of_le q] at h; cases h
    have hs : p < d.size := by rw [← Array.length_toList]; exact hl
    refine ⟨hs, ?_⟩
    rw [List.drop_eq_getElem_cons hl] at h
    have e : d.toList[p] = b := (List.cons.inj h).1
    show d[p].toNat = b.toNat
    rw [← e, Array.getElem_toList]
theorem fd_nb1 {b : UInt8} {n k : Nat} (e : n = b.toNat) (h : Nat.beq b.toNat k = true) : n = k := e.trans (Nat.eq_of_beq_eq_true h)
theorem dc_iaload (h : pc < cc.size) (e : cc[pc].toNat = 46) : (ClassFile.Decoder.instr pc) cc pc = .ok (.iaload, pc + 1) := by
  refine (fd_bo (fd_uo h e)).trans ?_
  rfl
theorem dc_laload (h : pc < cc.size) (e : cc[pc].toNat = 47) : (ClassFile.Decoder.instr pc) cc pc = .ok (.laload, pc + 1) := by
  refine (fd_bo (fd_uo h e)).trans ?_
  rfl
theorem dc_aaload (h : pc < cc.size) (e : cc[pc].toNat = 50) : (ClassFile.Decoder.instr pc) cc pc = .ok (.aaload, pc + 1) := by
  refine (fd_bo (fd_uo h e)).trans ?_
  rfl
theorem dc_baload (h : pc < cc.size) (e : cc[pc].toNat = 51) : (ClassFile.Decoder.instr pc) cc pc = .ok (.baload, pc + 1) := by
  refine (fd_bo (fd_uo h e)).trans ?_
  rfl
theorem dc_iastore (h : pc < cc.size) (e : cc[pc].toNat = 79) : (ClassFile.Decoder.instr pc) cc pc = .ok (.iastore, pc + 1) := by
  refine (fd_bo (fd_uo h e)).trans ?_
  rfl
theorem dc_lastore (h : pc < cc.size) (e : cc[pc].toNat = 80) : (ClassFile.Decoder.instr pc) cc pc = .ok (.lastore, pc + 1) := by
  refine (fd_bo (fd_uo h e)).trans ?_
  rfl
theorem dc_aastore (h : pc < cc.size) (e : cc[pc].toNat = 83) : (ClassFile.Decoder.instr pc) cc pc = .ok (.aastore, pc + 1) := by
  refine (fd_bo (fd_uo h e)).trans ?_
  rfl
theorem dc_bastore (h : pc < cc.size) (e : cc[pc].toNat = 84) : (ClassFile.Decoder.instr pc) cc pc = .ok (.bastore, pc + 1) := by
  refine (fd_bo (fd_uo h e)).trans ?_
  rfl
theorem dc_pop (h : pc < cc.size) (e : cc[pc].toNat = 87) : (ClassFile.Decoder.instr pc) cc pc = .ok (.pop, pc + 1) := by
  refine (fd_bo (fd_uo h e)).trans ?_
  rfl
theorem dc_dup (h : pc < cc.size) (e : cc[pc].toNat = 89) : (ClassFile.Decoder.instr pc) cc pc = .ok (.dup, pc + 1) := by
  refine (fd_bo (fd_uo h e)).trans ?_
  rfl
theorem dc_dup2 (h : pc < cc.size) (e : cc[pc].toNat = 92) : (ClassFile.Decoder.instr pc) cc pc = .ok (.dup2, pc + 1) := by
  refine (fd_bo (fd_uo h e)).trans ?_
  rfl
theorem dc_iadd (h : pc < cc.size) (e : cc[pc].toNat = 96) : (ClassFile.Decoder.instr pc) cc pc = .ok (.iadd, pc + 1) := by
  refine (fd_bo (fd_uo h e)).trans ?_
  rfl
theorem dc_isub (h : pc < cc.size) (e : cc[pc].toNat = 100) : (ClassFile.Decoder.instr pc) cc pc = .ok (.isub, pc + 1) := by
  refine (fd_bo (fd_uo h e)).trans ?_
  rfl
theorem dc_imul (h : pc < cc.size) (e : cc[pc].toNat = 104) : (ClassFile.Decoder.instr pc) cc pc = .ok (.imul, pc + 1) := by
  refine (fd_bo (fd_uo h e)).trans ?_
  rfl
theorem dc_idiv (h : pc < cc.size) (e : cc[pc].toNat = 108) : (ClassFile.Decoder.instr pc) cc pc = .ok (.idiv, pc + 1) := by
  refine (fd_bo (fd_uo h e)).trans ?_
  rfl
theorem dc_irem (h : pc < cc.size) (e : cc[pc].toNat = 112) : (ClassFile.Decoder.instr pc) cc pc = .ok (.irem, pc + 1) := by
  refine (fd_bo (fd_uo h e)).trans ?_
  rfl
theorem dc_ineg (h : pc < cc.size) (e : cc[pc].toNat = 116) : (ClassFile.Decoder.instr pc) cc pc = .ok (.ineg, pc + 1) := by
  refine (fd_bo (fd_uo h e)).trans ?_
  rfl
theorem dc_ishl (h : pc < cc.size) (e : cc[pc].toNat = 120) : (ClassFile.Decoder.instr pc) cc pc = .ok (.ishl, pc + 1) := by
  refine (fd_bo (fd_uo h e)).trans ?_
  rfl
theorem dc_lshl (h : pc < cc.size) (e : cc[pc].toNat = 121) : (ClassFile.Decoder.instr pc) cc pc = .ok (.lshl, pc + 1) := by
  refine (fd_bo (fd_uo h e)).trans ?_
  rfl
theorem dc_ishr (h : pc < cc.size) (e : cc[pc].toNat = 122) : (ClassFile.Decoder.instr pc) cc pc = .ok (.ishr, pc + 1) := by
  refine (fd_bo (fd_uo h e)).trans ?_
  rfl
theorem dc_lshr (h : pc < cc.size) (e : cc[pc].toNat = 123) : (ClassFile.Decoder.instr pc) cc pc = .ok (.lshr, pc + 1) := by
  refine (fd_bo (fd_uo h e)).trans ?_
  rfl
theorem dc_iushr (h : pc < cc.size) (e : cc[pc].toNat = 124) : (ClassFile.Decoder.instr pc) cc pc = .ok (.iushr, pc + 1) := by
  refine (fd_bo (fd_uo h e)).trans ?_
  rfl
theorem dc_iand (h : pc < cc.size) (e : cc[pc].toNat = 126) : (ClassFile.Decoder.instr pc) cc pc = .ok (.iand, pc + 1) := by
  refine (fd_bo (fd_uo h e)).trans ?_
  rfl
theorem dc_land (h : pc < cc.size) (e : cc[pc].toNat = 127) : (ClassFile.Decoder.instr pc) cc pc = .ok (.land, pc + 1) := by
  refine (fd_bo (fd_uo h e)).trans ?_
  rfl
theorem dc_ior (h : pc < cc.size) (e : cc[pc].toNat = 128) : (ClassFile.Decoder.instr pc) cc pc = .ok (.ior, pc + 1) := by
  refine (fd_bo (fd_uo h e)).trans ?_
  rfl
theorem dc_lor (h : pc < cc.size) (e : cc[pc].toNat = 129) : (ClassFile.Decoder.instr pc) cc pc = .ok (.lor, pc + 1) := by
  refine (fd_bo (fd_uo h e)).trans ?_
  rfl
theorem dc_i2l (h : pc < cc.size) (e : cc[pc].toNat = 133) : (ClassFile.Decoder.instr pc) cc pc = .ok (.i2l, pc + 1) := by
  refine (fd_bo (fd_uo h e)).trans ?_
  rfl
theorem dc_l2i (h : pc < cc.size) (e : cc[pc].toNat = 136) : (ClassFile.Decoder.instr pc) cc pc = .ok (.l2i, pc + 1) := by
  refine (fd_bo (fd_uo h e)).trans ?_
  rfl
theorem dc_i2b (h : pc < cc.size) (e : cc[pc].toNat = 145) : (ClassFile.Decoder.instr pc) cc pc = .ok (.i2b, pc + 1) := by
  refine (fd_bo (fd_uo h e)).trans ?_
  rfl
theorem dc_lcmp (h : pc < cc.size) (e : cc[pc].toNat = 148) : (ClassFile.Decoder.instr pc) cc pc = .ok (.lcmp, pc + 1) := by
  refine (fd_bo (fd_uo h e)).trans ?_
  rfl
theorem dc_ireturn (h : pc < cc.size) (e : cc[pc].toNat = 172) : (ClassFile.Decoder.instr pc) cc pc = .ok (.ireturn, pc + 1) := by
  refine (fd_bo (fd_uo h e)).trans ?_
  rfl
theorem dc_lreturn (h : pc < cc.size) (e : cc[pc].toNat = 173) : (ClassFile.Decoder.instr pc) cc pc = .ok (.lreturn, pc + 1) := by
  refine (fd_bo (fd_uo h e)).trans ?_
  rfl
theorem dc_areturn (h : pc < cc.size) (e : cc[pc].toNat = 176) : (ClassFile.Decoder.instr pc) cc pc = .ok (.areturn, pc + 1) := by
  refine (fd_bo (fd_uo h e)).trans ?_
  rfl
theorem dc_return_ (h : pc < cc.size) (e : cc[pc].toNat = 177) : (ClassFile.Decoder.instr pc) cc pc = .ok (.return_, pc + 1) := by
  refine (fd_bo (fd_uo h e)).trans ?_
  rfl
theorem dc_arraylength (h : pc < cc.size) (e : cc[pc].toNat = 190) : (ClassFile.Decoder.instr pc) cc pc = .ok (.arraylength, pc + 1) := by
  refine (fd_bo (fd_uo h e)).trans ?_
  rfl
theorem dc_athrow (h : pc < cc.size) (e : cc[pc].toNat = 191) : (ClassFile.Decoder.instr pc) cc pc = .ok (.athrow, pc + 1) := by
  refine (fd_bo (fd_uo h e)).trans ?_
  rfl
theorem dc_aconst_null (h : pc < cc.size) (e : cc[pc].toNat = 1) : (ClassFile.Decoder.instr pc) cc pc = .ok (.aconst_null, pc + 1) := by
  refine (fd_bo (fd_uo h e)).trans ?_
  rfl
theorem dc_iload_n0 (h : pc < cc.size) (e : cc[pc].toNat = 26) : (ClassFile.Decoder.instr pc) cc pc = .ok (.iload_n 0, pc + 1) := by
  refine (fd_bo (fd_uo h e)).trans ?_
  rfl
theorem dc_iload_n1 (h : pc < cc.size) (e : cc[pc].toNat = 27) : (ClassFile.Decoder.instr pc) cc pc = .ok (.iload_n 1, pc + 1) := by
  refine (fd_bo (fd_uo h e)).trans ?_
  rfl
theorem dc_iload_n2 (h : pc < cc.size) (e : cc[pc].toNat = 28) : (ClassFile.Decoder.instr pc) cc pc = .ok (.iload_n 2, pc + 1) := by
  refine (fd_bo (fd_uo h e)).trans ?_
  rfl
theorem dc_iload_n3 (h : pc < cc.size) (e : cc[pc].toNat = 29) : (ClassFile.Decoder.instr pc) cc pc = .ok (.iload_n 3, pc + 1) := by
  refine (fd_bo (fd_uo h e)).trans ?_
  rfl
theorem dc_lload_n0 (h : pc < cc.size) (e : cc[pc].toNat = 30) : (ClassFile.Decoder.instr pc) cc pc = .ok (.lload_n 0, pc + 1) := by
  refine (fd_bo (fd_uo h e)).trans ?_
  rfl
theorem dc_lload_n1 (h : pc < cc.size) (e : cc[pc].toNat = 31) : (ClassFile.Decoder.instr pc) cc pc = .ok (.lload_n 1, pc + 1) := by
  refine (fd_bo (fd_uo h e)).trans ?_
  rfl
theorem dc_lload_n2 (h : pc < cc.size) (e : cc[pc].toNat = 32) : (ClassFile.Decoder.instr pc) cc pc = .ok (.lload_n 2, pc + 1) := by
  refine (fd_bo (fd_uo h e)).trans ?_
  rfl
theorem dc_lload_n3 (h : pc < cc.size) (e : cc[pc].toNat = 33) : (ClassFile.Decoder.instr pc) cc pc = .ok (.lload_n 3, pc + 1) := by
  refine (fd_bo (fd_uo h e)).trans ?_
  rfl
theorem dc_aload_n0 (h : pc < cc.size) (e : cc[pc].toNat = 42) : (ClassFile.Decoder.instr pc) cc pc = .ok (.aload_n 0, pc + 1) := by
  refine (fd_bo (fd_uo h e)).trans ?_
  rfl
theorem dc_aload_n1 (h : pc < cc.size) (e : cc[pc].toNat = 43) : (ClassFile.Decoder.instr pc) cc pc = .ok (.aload_n 1, pc + 1) := by
  refine (fd_bo (fd_uo h e)).trans ?_
  rfl
theorem dc_aload_n2 (h : pc < cc.size) (e : cc[pc].toNat = 44) : (ClassFile.Decoder.instr pc) cc pc = .ok (.aload_n 2, pc + 1) := by
  refine (fd_bo (fd_uo h e)).trans ?_
  rfl
theorem dc_aload_n3 (h : pc < cc.size) (e : cc[pc].toNat = 45) : (ClassFile.Decoder.instr pc) cc pc = .ok (.aload_n 3, pc + 1) := by
  refine (fd_bo (fd_uo h e)).trans ?_
  rfl
theorem dc_istore_n0 (h : pc < cc.size) (e : cc[pc].toNat = 59) : (ClassFile.Decoder.instr pc) cc pc = .ok (.istore_n 0, pc + 1) := by
  refine (fd_bo (fd_uo h e)).trans ?_
  rfl
theorem dc_istore_n1 (h : pc < cc.size) (e : cc[pc].toNat = 60) : (ClassFile.Decoder.instr pc) cc pc = .ok (.istore_n 1, pc + 1) := by
  refine (fd_bo (fd_uo h e)).trans ?_
  rfl
theorem dc_istore_n2 (h : pc < cc.size) (e : cc[pc].toNat = 61) : (ClassFile.Decoder.instr pc) cc pc = .ok (.istore_n 2, pc + 1) := by
  refine (fd_bo (fd_uo h e)).trans ?_
  rfl
theorem dc_istore_n3 (h : pc < cc.size) (e : cc[pc].toNat = 62) : (ClassFile.Decoder.instr pc) cc pc = .ok (.istore_n 3, pc + 1) := by
  refine (fd_bo (fd_uo h e)).trans ?_
  rfl
theorem dc_lstore_n0 (h : pc < cc.size) (e : cc[pc].toNat = 63) : (ClassFile.Decoder.instr pc) cc pc = .ok (.lstore_n 0, pc + 1) := by
  refine (fd_bo (fd_uo h e)).trans ?_
  rfl
theorem dc_lstore_n1 (h : pc < cc.size) (e : cc[pc].toNat = 64) : (ClassFile.Decoder.instr pc) cc pc = .ok (.lstore_n 1, pc + 1) := by
  refine (fd_bo (fd_uo h e)).trans ?_
  rfl
theorem dc_lstore_n2 (h : pc < cc.size) (e : cc[pc].toNat = 65) : (ClassFile.Decoder.instr pc) cc pc = .ok (.lstore_n 2, pc + 1) := by
  refine (fd_bo (fd_uo h e)).trans ?_
  rfl
theorem dc_lstore_n3 (h : pc < cc.size) (e : cc[pc].toNat = 66) : (ClassFile.Decoder.instr pc) cc pc = .ok (.lstore_n 3, pc + 1) := by
  refine (fd_bo (fd_uo h e)).trans ?_
  rfl
theorem dc_astore_n0 (h : pc < cc.size) (e : cc[pc].toNat = 75) : (ClassFile.Decoder.instr pc) cc pc = .ok (.astore_n 0, pc + 1) := by
  refine (fd_bo (fd_uo h e)).trans ?_
  rfl
theorem dc_astore_n1 (h : pc < cc.size) (e : cc[pc].toNat = 76) : (ClassFile.Decoder.instr pc) cc pc = .ok (.astore_n 1, pc + 1) := by
  refine (fd_bo (fd_uo h e)).trans ?_
  rfl
theorem dc_astore_n2 (h : pc < cc.size) (e : cc[pc].toNat = 77) : (ClassFile.Decoder.instr pc) cc pc = .ok (.astore_n 2, pc + 1) := by
  refine (fd_bo (fd_uo h e)).trans ?_
  rfl
theorem dc_astore_n3 (h : pc < cc.size) (e : cc[pc].toNat = 78) : (ClassFile.Decoder.instr pc) cc pc = .ok (.astore_n 3, pc + 1) := by
  refine (fd_bo (fd_uo h e)).trans ?_
  rfl
theorem dc_lconst0 (h : pc < cc.size) (e : cc[pc].toNat = 9) : (ClassFile.Decoder.instr pc) cc pc = .ok (.lconst 0, pc + 1) := by
  refine (fd_bo (fd_uo h e)).trans ?_
  rfl
theorem dc_lconst1 (h : pc < cc.size) (e : cc[pc].toNat = 10) : (ClassFile.Decoder.instr pc) cc pc = .ok (.lconst 1, pc + 1) := by
  refine (fd_bo (fd_uo h e)).trans ?_
  rfl
theorem dc_iconst0 (h : pc < cc.size) (e : cc[pc].toNat = 2) : (ClassFile.Decoder.instr pc) cc pc = .ok (.iconst (-1), pc + 1) := by
  refine (fd_bo (fd_uo h e)).trans ?_
  rfl
theorem dc_iconst1 (h : pc < cc.size) (e : cc[pc].toNat = 3) : (ClassFile.Decoder.instr pc) cc pc = .ok (.iconst 0, pc + 1) := by
  refine (fd_bo (fd_uo h e)).trans ?_
  rfl
theorem dc_iconst2 (h : pc < cc.size) (e : cc[pc].toNat = 4) : (ClassFile.Decoder.instr pc) cc pc = .ok (.iconst 1, pc + 1) := by
  refine (fd_bo (fd_uo h e)).trans ?_
  rfl
theorem dc_iconst3 (h : pc < cc.size) (e : cc[pc].toNat = 5) : (ClassFile.Decoder.instr pc) cc pc = .ok (.iconst 2, pc + 1) := by
  refine (fd_bo (fd_uo h e)).trans ?_
  rfl
theorem dc_iconst4 (h : pc < cc.size) (e : cc[pc].toNat = 6) : (ClassFile.Decoder.instr pc) cc pc = .ok (.iconst 3, pc + 1) := by
  refine (fd_bo (fd_uo h e)).trans ?_
  rfl
theorem dc_iconst5 (h : pc < cc.size) (e : cc[pc].toNat = 7) : (ClassFile.Decoder.instr pc) cc pc = .ok (.iconst 4, pc + 1) := by
  refine (fd_bo (fd_uo h e)).trans ?_
  rfl
theorem dc_iconst6 (h : pc < cc.size) (e : cc[pc].toNat = 8) : (ClassFile.Decoder.instr pc) cc pc = .ok (.iconst 5, pc + 1) := by
  refine (fd_bo (fd_uo h e)).trans ?_
  rfl
theorem dc_ldc (h : pc < cc.size) (h1 : pc + 1 < cc.size) (e : cc[pc].toNat = 18) : (ClassFile.Decoder.instr pc) cc pc = .ok (.ldc cc[pc + 1].toNat, pc + 1 + 1) := by
  refine (fd_bo (fd_uo h e)).trans ?_
  show (ClassFile.Reader.u1 >>= fun a => pure (Instr.ldc a)) cc (pc + 1) = _
  exact (fd_bo (fd_u1 h1)).trans rfl
theorem dc_iload (h : pc < cc.size) (h1 : pc + 1 < cc.size) (e : cc[pc].toNat = 21) : (ClassFile.Decoder.instr pc) cc pc = .ok (.iload cc[pc + 1].toNat, pc + 1 + 1) := by
  refine (fd_bo (fd_uo h e)).trans ?_
  show (ClassFile.Reader.u1 >>= fun a => pure (Instr.iload a)) cc (pc + 1) = _
  exact (fd_bo (fd_u1 h1)).trans rfl
theorem dc_lload (h : pc < cc.size) (h1 : pc + 1 < cc.size) (e : cc[pc].toNat = 22) : (ClassFile.Decoder.instr pc) cc pc = .ok (.lload cc[pc + 1].toNat, pc + 1 + 1) := by
  refine (fd_bo (fd_uo h e)).trans ?_
  show (ClassFile.Reader.u1 >>= fun a => pure (Instr.lload a)) cc (pc + 1) = _
  exact (fd_bo (fd_u1 h1)).trans rfl
theorem dc_aload (h : pc < cc.size) (h1 : pc + 1 < cc.size) (e : cc[pc].toNat = 25) : (ClassFile.Decoder.instr pc) cc pc = .ok (.aload cc[pc + 1].toNat, pc + 1 + 1) := by
  refine (fd_bo (fd_uo h e)).trans ?_
  show (ClassFile.Reader.u1 >>= fun a => pure (Instr.aload a)) cc (pc + 1) = _
  exact (fd_bo (fd_u1 h1)).trans rfl
theorem dc_istore (h : pc < cc.size) (h1 : pc + 1 < cc.size) (e : cc[pc].toNat = 54) : (ClassFile.Decoder.instr pc) cc pc = .ok (.istore cc[pc + 1].toNat, pc + 1 + 1) := by
  refine (fd_bo (fd_uo h e)).trans ?_
  show (ClassFile.Reader.u1 >>= fun a => pure (Instr.istore a)) cc (pc + 1) = _
  exact (fd_bo (fd_u1 h1)).trans rfl
theorem dc_lstore (h : pc < cc.size) (h1 : pc + 1 < cc.size) (e : cc[pc].toNat = 55) : (ClassFile.Decoder.instr pc) cc pc = .ok (.lstore cc[pc + 1].toNat, pc + 1 + 1) := by
  refine (fd_bo (fd_uo h e)).trans ?_
  show (ClassFile.Reader.u1 >>= fun a => pure (Instr.lstore a)) cc (pc + 1) = _
  exact (fd_bo (fd_u1 h1)).trans rfl
theorem dc_astore (h : pc < cc.size) (h1 : pc + 1 < cc.size) (e : cc[pc].toNat = 58) : (ClassFile.Decoder.instr pc) cc pc = .ok (.astore cc[pc + 1].toNat, pc + 1 + 1) := by
  refine (fd_bo (fd_uo h e)).trans ?_
  show (ClassFile.Reader.u1 >>= fun a => pure (Instr.astore a)) cc (pc + 1) = _
  exact (fd_bo (fd_u1 h1)).trans rfl
theorem dc_bipush (h : pc < cc.size) (h1 : pc + 1 < cc.size) (e : cc[pc].toNat = 16) : (ClassFile.Decoder.instr pc) cc pc = .ok (.bipush (ClassFile.Reader.signed 8 cc[pc + 1].toNat), pc + 1 + 1) := by
  refine (fd_bo (fd_uo h e)).trans ?_
  show (ClassFile.Reader.s1 >>= fun a => pure (Instr.bipush a)) cc (pc + 1) = _
  exact (fd_bo (fd_s1 h1)).trans rfl
theorem dc_sipush (h : pc < cc.size) (h1 : pc + 1 < cc.size) (h2 : pc + 1 + 1 < cc.size) (e : cc[pc].toNat = 17) : (ClassFile.Decoder.instr pc) cc pc = .ok (.sipush (ClassFile.Reader.signed 16 (cc[pc + 1].toNat * 256 + cc[pc + 1 + 1].toNat)), pc + 1 + 1 + 1) := by
  refine (fd_bo (fd_uo h e)).trans ?_
  show (ClassFile.Reader.s2 >>= fun a => pure (Instr.sipush a)) cc (pc + 1) = _
  exact (fd_bo (fd_s2 h1 h2)).trans rfl
theorem dc_ldc_w (h : pc < cc.size) (h1 : pc + 1 < cc.size) (h2 : pc + 1 + 1 < cc.size) (e : cc[pc].toNat = 19) : (ClassFile.Decoder.instr pc) cc pc = .ok (.ldc_w (cc[pc + 1].toNat * 256 + cc[pc + 1 + 1].toNat), pc + 1 + 1 + 1) := by
  refine (fd_bo (fd_uo h e)).trans ?_
  show (ClassFile.Reader.u2 >>= fun a => pure (Instr.ldc_w a)) cc (pc + 1) = _
  exact (fd_bo (fd_u2 h1 h2)).trans rfl
theorem dc_ldc2_w (h : pc < cc.size) (h1 : pc + 1 < cc.size) (h2 : pc + 1 + 1 < cc.size) (e : cc[pc].toNat = 20) : (ClassFile.Decoder.instr pc) cc pc = .ok (.ldc2_w (cc[pc + 1].toNat * 256 + cc[pc + 1 + 1].toNat), pc + 1 + 1 + 1) := by
  refine (fd_bo (fd_uo h e)).trans ?_
  show (ClassFile.Reader.u2 >>= fun a => pure (Instr.ldc2_w a)) cc (pc + 1) = _
  exact (fd_bo (fd_u2 h1 h2)).trans rfl
theorem dc_getstatic (h : pc < cc.size) (h1 : pc + 1 < cc.size) (h2 : pc + 1 + 1 < cc.size) (e : cc[pc].toNat = 178) : (ClassFile.Decoder.instr pc) cc pc = .ok (.getstatic (cc[pc + 1].toNat * 256 + cc[pc + 1 + 1].toNat), pc + 1 + 1 + 1) := by
  refine (fd_bo (fd_uo h e)).trans ?_
  show (ClassFile.Reader.u2 >>= fun a => pure (Instr.getstatic a)) cc (pc + 1) = _
  exact (fd_bo (fd_u2 h1 h2)).trans rfl
theorem dc_putstatic (h : pc < cc.size) (h1 : pc + 1 < cc.size) (h2 : pc + 1 + 1 < cc.size) (e : cc[pc].toNat = 179) : (ClassFile.Decoder.instr pc) cc pc = .ok (.putstatic (cc[pc + 1].toNat * 256 + cc[pc + 1 + 1].toNat), pc + 1 + 1 + 1) := by
  refine (fd_bo (fd_uo h e)).trans ?_
  show (ClassFile.Reader.u2 >>= fun a => pure (Instr.putstatic a)) cc (pc + 1) = _
  exact (fd_bo (fd_u2 h1 h2)).trans rfl
theorem dc_getfield (h : pc < cc.size) (h1 : pc + 1 < cc.size) (h2 : pc + 1 + 1 < cc.size) (e : cc[pc].toNat = 180) : (ClassFile.Decoder.instr pc) cc pc = .ok (.getfield (cc[pc + 1].toNat * 256 + cc[pc + 1 + 1].toNat), pc + 1 + 1 + 1) := by
  refine (fd_bo (fd_uo h e)).trans ?_
  show (ClassFile.Reader.u2 >>= fun a => pure (Instr.getfield a)) cc (pc + 1) = _
  exact (fd_bo (fd_u2 h1 h2)).trans rfl
theorem dc_putfield (h : pc < cc.size) (h1 : pc + 1 < cc.size) (h2 : pc + 1 + 1 < cc.size) (e : cc[pc].toNat = 181) : (ClassFile.Decoder.instr pc) cc pc = .ok (.putfield (cc[pc + 1].toNat * 256 + cc[pc + 1 + 1].toNat), pc + 1 + 1 + 1) := by
  refine (fd_bo (fd_uo h e)).trans ?_
  show (ClassFile.Reader.u2 >>= fun a => pure (Instr.putfield a)) cc (pc + 1) = _
  exact (fd_bo (fd_u2 h1 h2)).trans rfl
theorem dc_invokevirtual (h : pc < cc.size) (h1 : pc + 1 < cc.size) (h2 : pc + 1 + 1 < cc.size) (e : cc[pc].toNat = 182) : (ClassFile.Decoder.instr pc) cc pc = .ok (.invokevirtual (cc[pc + 1].toNat * 256 + cc[pc + 1 + 1].toNat), pc + 1 + 1 + 1) := by
  refine (fd_bo (fd_uo h e)).trans ?_
  show (ClassFile.Reader.u2 >>= fun a => pure (Instr.invokevirtual a)) cc (pc + 1) = _
  exact (fd_bo (fd_u2 h1 h2)).trans rfl
theorem dc_invokespecial (h : pc < cc.size) (h1 : pc + 1 < cc.size) (h2 : pc + 1 + 1 < cc.size) (e : cc[pc].toNat = 183) : (ClassFile.Decoder.instr pc) cc pc = .ok (.invokespecial (cc[pc + 1].toNat * 256 + cc[pc + 1 + 1].toNat), pc + 1 + 1 + 1) := by
  refine (fd_bo (fd_uo h e)).trans ?_
  show (ClassFile.Reader.u2 >>= fun a => pure (Instr.invokespecial a)) cc (pc + 1) = _
  exact (fd_bo (fd_u2 h1 h2)).trans rfl
theorem dc_invokestatic (h : pc < cc.size) (h1 : pc + 1 < cc.size) (h2 : pc + 1 + 1 < cc.size) (e : cc[pc].toNat = 184) : (ClassFile.Decoder.instr pc) cc pc = .ok (.invokestatic (cc[pc + 1].toNat * 256 + cc[pc + 1 + 1].toNat), pc + 1 + 1 + 1) := by
  refine (fd_bo (fd_uo h e)).trans ?_
  show (ClassFile.Reader.u2 >>= fun a => pure (Instr.invokestatic a)) cc (pc + 1) = _
  exact (fd_bo (fd_u2 h1 h2)).trans rfl
theorem dc_new (h : pc < cc.size) (h1 : pc + 1 < cc.size) (h2 : pc + 1 + 1 < cc.size) (e : cc[pc].toNat = 187) : (ClassFile.Decoder.instr pc) cc pc = .ok (.new (cc[pc + 1].toNat * 256 + cc[pc + 1 + 1].toNat), pc + 1 + 1 + 1) := by
  refine (fd_bo (fd_uo h e)).trans ?_
  show (ClassFile.Reader.u2 >>= fun a => pure (Instr.new a)) cc (pc + 1) = _
  exact (fd_bo (fd_u2 h1 h2)).trans rfl
theorem dc_anewarray (h : pc < cc.size) (h1 : pc + 1 < cc.size) (h2 : pc + 1 + 1 < cc.size) (e : cc[pc].toNat = 189) : (ClassFile.Decoder.instr pc) cc pc = .ok (.anewarray (cc[pc + 1].toNat * 256 + cc[pc + 1 + 1].toNat), pc + 1 + 1 + 1) := by
  refine (fd_bo (fd_uo h e)).trans ?_
  show (ClassFile.Reader.u2 >>= fun a => pure (Instr.anewarray a)) cc (pc + 1) = _
  exact (fd_bo (fd_u2 h1 h2)).trans rfl
theorem dc_checkcast (h : pc < cc.size) (h1 : pc + 1 < cc.size) (h2 : pc + 1 + 1 < cc.size) (e : cc[pc].toNat = 192) : (ClassFile.Decoder.instr pc) cc pc = .ok (.checkcast (cc[pc + 1].toNat * 256 + cc[pc + 1 + 1].toNat), pc + 1 + 1 + 1) := by
  refine (fd_bo (fd_uo h e)).trans ?_
  show (ClassFile.Reader.u2 >>= fun a => pure (Instr.checkcast a)) cc (pc + 1) = _
  exact (fd_bo (fd_u2 h1 h2)).trans rfl
theorem dc_ifCond_eq (h : pc < cc.size) (h1 : pc + 1 < cc.size) (h2 : pc + 1 + 1 < cc.size) (e : cc[pc].toNat = 153) : (ClassFile.Decoder.instr pc) cc pc = .ok (.ifCond .eq (ClassFile.Reader.signed 16 (cc[pc + 1].toNat * 256 + cc[pc + 1 + 1].toNat)), pc + 1 + 1 + 1) := by
  refine (fd_bo (fd_uo h e)).trans ?_
  show (ClassFile.Reader.s2 >>= fun a => pure (Instr.ifCond .eq a)) cc (pc + 1) = _
  exact (fd_bo (fd_s2 h1 h2)).trans rfl
theorem dc_ifCond_ne (h : pc < cc.size) (h1 : pc + 1 < cc.size) (h2 : pc + 1 + 1 < cc.size) (e : cc[pc].toNat = 154) : (ClassFile.Decoder.instr pc) cc pc = .ok (.ifCond .ne (ClassFile.Reader.signed 16 (cc[pc + 1].toNat * 256 + cc[pc + 1 + 1].toNat)), pc + 1 + 1 + 1) := by
  refine (fd_bo (fd_uo h e)).trans ?_
  show (ClassFile.Reader.s2 >>= fun a => pure (Instr.ifCond .ne a)) cc (pc + 1) = _
  exact (fd_bo (fd_s2 h1 h2)).trans rfl
theorem dc_ifCond_lt (h : pc < cc.size) (h1 : pc + 1 < cc.size) (h2 : pc + 1 + 1 < cc.size) (e : cc[pc].toNat = 155) : (ClassFile.Decoder.instr pc) cc pc = .ok (.ifCond .lt (ClassFile.Reader.signed 16 (cc[pc + 1].toNat * 256 + cc[pc + 1 + 1].toNat)), pc + 1 + 1 + 1) := by
  refine (fd_bo (fd_uo h e)).trans ?_
  show (ClassFile.Reader.s2 >>= fun a => pure (Instr.ifCond .lt a)) cc (pc + 1) = _
  exact (fd_bo (fd_s2 h1 h2)).trans rfl
theorem dc_ifCond_ge (h : pc < cc.size) (h1 : pc + 1 < cc.size) (h2 : pc + 1 + 1 < cc.size) (e : cc[pc].toNat = 156) : (ClassFile.Decoder.instr pc) cc pc = .ok (.ifCond .ge (ClassFile.Reader.signed 16 (cc[pc + 1].toNat * 256 + cc[pc + 1 + 1].toNat)), pc + 1 + 1 + 1) := by
  refine (fd_bo (fd_uo h e)).trans ?_
  show (ClassFile.Reader.s2 >>= fun a => pure (Instr.ifCond .ge a)) cc (pc + 1) = _
  exact (fd_bo (fd_s2 h1 h2)).trans rfl
theorem dc_ifCond_gt (h : pc < cc.size) (h1 : pc + 1 < cc.size) (h2 : pc + 1 + 1 < cc.size) (e : cc[pc].toNat = 157) : (ClassFile.Decoder.instr pc) cc pc = .ok (.ifCond .gt (ClassFile.Reader.signed 16 (cc[pc + 1].toNat * 256 + cc[pc + 1 + 1].toNat)), pc + 1 + 1 + 1) := by
  refine (fd_bo (fd_uo h e)).trans ?_
  show (ClassFile.Reader.s2 >>= fun a => pure (Instr.ifCond .gt a)) cc (pc + 1) = _
  exact (fd_bo (fd_s2 h1 h2)).trans rfl
theorem dc_ifCond_le (h : pc < cc.size) (h1 : pc + 1 < cc.size) (h2 : pc + 1 + 1 < cc.size) (e : cc[pc].toNat = 158) : (ClassFile.Decoder.instr pc) cc pc = .ok (.ifCond .le (ClassFile.Reader.signed 16 (cc[pc + 1].toNat * 256 + cc[pc + 1 + 1].toNat)), pc + 1 + 1 + 1) := by
  refine (fd_bo (fd_uo h e)).trans ?_
  show (ClassFile.Reader.s2 >>= fun a => pure (Instr.ifCond .le a)) cc (pc + 1) = _
  exact (fd_bo (fd_s2 h1 h2)).trans rfl
theorem dc_if_icmp_eq (h : pc < cc.size) (h1 : pc + 1 < cc.size) (h2 : pc + 1 + 1 < cc.size) (e : cc[pc].toNat = 159) : (ClassFile.Decoder.instr pc) cc pc = .ok (.if_icmp .eq (ClassFile.Reader.signed 16 (cc[pc + 1].toNat * 256 + cc[pc + 1 + 1].toNat)), pc + 1 + 1 + 1) := by
  refine (fd_bo (fd_uo h e)).trans ?_
  show (ClassFile.Reader.s2 >>= fun a => pure (Instr.if_icmp .eq a)) cc (pc + 1) = _
  exact (fd_bo (fd_s2 h1 h2)).trans rfl
theorem dc_if_icmp_ne (h : pc < cc.size) (h1 : pc + 1 < cc.size) (h2 : pc + 1 + 1 < cc.size) (e : cc[pc].toNat = 160) : (ClassFile.Decoder.instr pc) cc pc = .ok (.if_icmp .ne (ClassFile.Reader.signed 16 (cc[pc + 1].toNat * 256 + cc[pc + 1 + 1].toNat)), pc + 1 + 1 + 1) := by
  refine (fd_bo (fd_uo h e)).trans ?_
  show (ClassFile.Reader.s2 >>= fun a => pure (Instr.if_icmp .ne a)) cc (pc + 1) = _
  exact (fd_bo (fd_s2 h1 h2)).trans rfl
theorem dc_if_icmp_lt (h : pc < cc.size) (h1 : pc + 1 < cc.size) (h2 : pc + 1 + 1 < cc.size) (e : cc[pc].toNat = 161) : (ClassFile.Decoder.instr pc) cc pc = .ok (.if_icmp .lt (ClassFile.Reader.signed 16 (cc[pc + 1].toNat * 256 + cc[pc + 1 + 1].toNat)), pc + 1 + 1 + 1) := by
  refine (fd_bo (fd_uo h e)).trans ?_
  show (ClassFile.Reader.s2 >>= fun a => pure (Instr.if_icmp .lt a)) cc (pc + 1) = _
  exact (fd_bo (fd_s2 h1 h2)).trans rfl
theorem dc_if_icmp_ge (h : pc < cc.size) (h1 : pc + 1 < cc.size) (h2 : pc + 1 + 1 < cc.size) (e : cc[pc].toNat = 162) : (ClassFile.Decoder.instr pc) cc pc = .ok (.if_icmp .ge (ClassFile.Reader.signed 16 (cc[pc + 1].toNat * 256 + cc[pc + 1 + 1].toNat)), pc + 1 + 1 + 1) := by
  refine (fd_bo (fd_uo h e)).trans ?_
  show (ClassFile.Reader.s2 >>= fun a => pure (Instr.if_icmp .ge a)) cc (pc + 1) = _
  exact (fd_bo (fd_s2 h1 h2)).trans rfl
theorem dc_if_icmp_gt (h : pc < cc.size) (h1 : pc + 1 < cc.size) (h2 : pc + 1 + 1 < cc.size) (e : cc[pc].toNat = 163) : (ClassFile.Decoder.instr pc) cc pc = .ok (.if_icmp .gt (ClassFile.Reader.signed 16 (cc[pc + 1].toNat * 256 + cc[pc + 1 + 1].toNat)), pc + 1 + 1 + 1) := by
  refine (fd_bo (fd_uo h e)).trans ?_
  show (ClassFile.Reader.s2 >>= fun a => pure (Instr.if_icmp .gt a)) cc (pc + 1) = _
  exact (fd_bo (fd_s2 h1 h2)).trans rfl
theorem dc_if_icmp_le (h : pc < cc.size) (h1 : pc + 1 < cc.size) (h2 : pc + 1 + 1 < cc.size) (e : cc[pc].toNat = 164) : (ClassFile.Decoder.instr pc) cc pc = .ok (.if_icmp .le (ClassFile.Reader.signed 16 (cc[pc + 1].toNat * 256 + cc[pc + 1 + 1].toNat)), pc + 1 + 1 + 1) := by
  refine (fd_bo (fd_uo h e)).trans ?_
  show (ClassFile.Reader.s2 >>= fun a => pure (Instr.if_icmp .le a)) cc (pc + 1) = _
  exact (fd_bo (fd_s2 h1 h2)).trans rfl
theorem dc_if_acmp_eq (h : pc < cc.size) (h1 : pc + 1 < cc.size) (h2 : pc + 1 + 1 < cc.size) (e : cc[pc].toNat = 165) : (ClassFile.Decoder.instr pc) cc pc = .ok (.if_acmp .eq (ClassFile.Reader.signed 16 (cc[pc + 1].toNat * 256 + cc[pc + 1 + 1].toNat)), pc + 1 + 1 + 1) := by
  refine (fd_bo (fd_uo h e)).trans ?_
  show (ClassFile.Reader.s2 >>= fun a => pure (Instr.if_acmp .eq a)) cc (pc + 1) = _
  exact (fd_bo (fd_s2 h1 h2)).trans rfl
theorem dc_if_acmp_ne (h : pc < cc.size) (h1 : pc + 1 < cc.size) (h2 : pc + 1 + 1 < cc.size) (e : cc[pc].toNat = 166) : (ClassFile.Decoder.instr pc) cc pc = .ok (.if_acmp .ne (ClassFile.Reader.signed 16 (cc[pc + 1].toNat * 256 + cc[pc + 1 + 1].toNat)), pc + 1 + 1 + 1) := by
  refine (fd_bo (fd_uo h e)).trans ?_
  show (ClassFile.Reader.s2 >>= fun a => pure (Instr.if_acmp .ne a)) cc (pc + 1) = _
  exact (fd_bo (fd_s2 h1 h2)).trans rfl
theorem dc_goto (h : pc < cc.size) (h1 : pc + 1 < cc.size) (h2 : pc + 1 + 1 < cc.size) (e : cc[pc].toNat = 167) : (ClassFile.Decoder.instr pc) cc pc = .ok (.goto (ClassFile.Reader.signed 16 (cc[pc + 1].toNat * 256 + cc[pc + 1 + 1].toNat)), pc + 1 + 1 + 1) := by
  refine (fd_bo (fd_uo h e)).trans ?_
  show (ClassFile.Reader.s2 >>= fun a => pure (Instr.goto a)) cc (pc + 1) = _
  exact (fd_bo (fd_s2 h1 h2)).trans rfl
theorem dc_ifnull (h : pc < cc.size) (h1 : pc + 1 < cc.size) (h2 : pc + 1 + 1 < cc.size) (e : cc[pc].toNat = 198) : (ClassFile.Decoder.instr pc) cc pc = .ok (.ifnull (ClassFile.Reader.signed 16 (cc[pc + 1].toNat * 256 + cc[pc + 1 + 1].toNat)), pc + 1 + 1 + 1) := by
  refine (fd_bo (fd_uo h e)).trans ?_
  show (ClassFile.Reader.s2 >>= fun a => pure (Instr.ifnull a)) cc (pc + 1) = _
  exact (fd_bo (fd_s2 h1 h2)).trans rfl
theorem dc_ifnonnull (h : pc < cc.size) (h1 : pc + 1 < cc.size) (h2 : pc + 1 + 1 < cc.size) (e : cc[pc].toNat = 199) : (ClassFile.Decoder.instr pc) cc pc = .ok (.ifnonnull (ClassFile.Reader.signed 16 (cc[pc + 1].toNat * 256 + cc[pc + 1 + 1].toNat)), pc + 1 + 1 + 1) := by
  refine (fd_bo (fd_uo h e)).trans ?_
  show (ClassFile.Reader.s2 >>= fun a => pure (Instr.ifnonnull a)) cc (pc + 1) = _
  exact (fd_bo (fd_s2 h1 h2)).trans rfl
theorem dc_iinc (h : pc < cc.size) (h1 : pc + 1 < cc.size) (h2 : pc + 1 + 1 < cc.size) (e : cc[pc].toNat = 132) : (ClassFile.Decoder.instr pc) cc pc = .ok (.iinc cc[pc + 1].toNat (ClassFile.Reader.signed 8 cc[pc + 1 + 1].toNat), pc + 1 + 1 + 1) := by
  refine (fd_bo (fd_uo h e)).trans ?_
  show (ClassFile.Reader.u1 >>= fun a => ClassFile.Reader.s1 >>= fun b => pure (Instr.iinc a b)) cc (pc + 1) = _
  exact (fd_bo (fd_u1 h1)).trans ((fd_bo (fd_s1 h2)).trans rfl)
/-! what is looked at -/
def fd_f0 (o : Nat) (l : List UInt8) : Bool := match l with
  | b :: _ => Nat.beq b.toNat o
  | [] => false
def fd_f1 (o k : Nat) (l : List UInt8) : Bool := match l with
  | b :: c :: _ => Nat.beq b.toNat o && Nat.beq c.toNat k
  | _ => false
def fd_f2 (o k : Nat) (l : List UInt8) : Bool := match l with
  | b :: c :: d :: _ => Nat.beq b.toNat o && Nat.beq (c.toNat * 256 + d.toNat) k
  | _ => false
def fd_g1 (o : Nat) (z : Int) (l : List UInt8) : Bool := match l with
  | b :: c :: _ => Nat.beq b.toNat o && decide (ClassFile.Reader.signed 8 c.toNat = z)
  | _ => false
def fd_g2 (o : Nat) (z : Int) (l : List UInt8) : Bool := match l with
  | b :: c :: d :: _ => Nat.beq b.toNat o && decide (ClassFile.Reader.signed 16 (c.toNat * 256 + d.toNat) = z)
  | _ => false
def fd_gi (k : Nat) (z : Int) (l : List UInt8) : Bool := match l with
  | b :: c :: d :: _ => Nat.beq b.toNat 132 && (Nat.beq c.toNat k && decide (ClassFile.Reader.signed 8 d.toNat = z))
  | _ => false
def fd_fi (z : Int) (l : List UInt8) : Bool := decide (-1 ≤ z ∧ z ≤ 5) && fd_f0 (z + 3).toNat l
def fd_co (c : ClassFile.Cond) : Nat := match c with
  | .eq => 0
  | .ne => 1
  | .lt => 2
  | .ge => 3
  | .gt => 4
  | .le => 5
def fd_ac (c : ClassFile.ACond) : Nat := match c with
  | .eq => 0
  | .ne => 1
variable {l : List UInt8}
theorem dk0 {o : Nat} {i : Instr} (hc : ∀ h : pc < cc.size, cc[pc].toNat = o → (ClassFile.Decoder.instr pc) cc pc = .ok (i, pc + 1)) (h : cc.data.toList.drop pc = l) (hk : fd_f0 o l = true) : decode cc pc = .ok (i, 1) := by
  match l, h, hk with
  | b :: t, h, hk =>
    obtain ⟨q, e⟩ := fd_by h
    rw [fd_dec (hc q (fd_nb1 e hk)), Nat.add_sub_cancel_left]
theorem dk1 {o k : Nat} {C : Nat → Instr} (hc : ∀ (h : pc < cc.size) (h1 : pc + 1 < cc.size), cc[pc].toNat = o → (ClassFile.Decoder.instr pc) cc pc = .ok (C cc[pc + 1].toNat, pc + 1 + 1)) (h : cc.data.toList.drop pc = l) (hk : fd_f1 o k l = true) : decode cc pc = .ok (C k, 2) := by
  match l, h, hk with
  | b :: c :: t, h, hk =>
    obtain ⟨k1, k2⟩ := (Bool.and_eq_true _ _ ▸ hk : _ ∧ _)
    obtain ⟨q, e⟩ := fd_by h
    obtain ⟨q1, e1⟩ := fd_by (fd_dr _ _ _ _ h)
    rw [fd_dec (hc q q1 (fd_nb1 e k1)), fd_nb1 e1 k2, Nat.add_assoc, Nat.add_sub_cancel_left]
theorem dk1s {o : Nat} {z : Int} {C : Int → Instr} (hc : ∀ (h : pc < cc.size) (h1 : pc + 1 < cc.size), cc[pc].toNat = o → (ClassFile.Decoder.instr pc) cc pc = .ok (C (ClassFile.Reader.signed 8 cc[pc + 1].toNat), pc + 1 + 1)) (h : cc.data.toList.drop pc = l) (hk : fd_g1 o z l = true) : decode cc pc = .ok (C z, 2) := by
  match l, h, hk with
  | b :: c :: t, h, hk =>
    obtain ⟨k1, k2⟩ := (Bool.and_eq_true _ _ ▸ hk : _ ∧ _)
    obtain ⟨q, e⟩ := fd_by h
    obtain ⟨q1, e1⟩ := fd_by (fd_dr _ _ _ _ h)
    rw [fd_dec (hc q q1 (fd_nb1 e k1)), e1, of_decide_eq_true k2, Nat.add_assoc, Nat.add_sub_cancel_left]
theorem dk2 {o k : Nat} {C : Nat → Instr} (hc : ∀ (h : pc < cc.size) (h1 : pc + 1 < cc.size) (h2 : pc + 1 + 1 < cc.size), cc[pc].toNat = o → (ClassFile.Decoder.instr pc) cc pc = .ok (C (cc[pc + 1].toNat * 256 + cc[pc + 1 + 1].toNat), pc + 1 + 1 + 1)) (h : cc.data.toList.drop pc = l) (hk : fd_f2 o k l = true) : decode cc pc = .ok (C k, 3) := by
  match l, h, hk with
  | b :: c :: d :: t, h, hk =>
    obtain ⟨k1, k2⟩ := (Bool.and_eq_true _ _ ▸ hk : _ ∧ _)
    obtain ⟨q, e⟩ := fd_by h
    have hd := fd_dr _ _ _ _ h
    obtain ⟨q1, e1⟩ := fd_by hd
    obtain ⟨q2, e2⟩ := fd_by (fd_dr _ _ _ _ hd)
    rw [fd_dec (hc q q1 q2 (fd_nb1 e k1)), e1, e2, Nat.eq_of_beq_eq_true k2, Nat.add_assoc, Nat.add_assoc, Nat.add_sub_cancel_left]
theorem dk2s {o : Nat} {z : Int} {C : Int → Instr} (hc : ∀ (h : pc < cc.size) (h1 : pc + 1 < cc.size) (h2 : pc + 1 + 1 < cc.size), cc[pc].toNat = o → (ClassFile.Decoder.instr pc) cc pc = .ok (C (ClassFile.Reader.signed 16 (cc[pc + 1].toNat * 256 + cc[pc + 1 + 1].toNat)), pc + 1 + 1 + 1)) (h : cc.data.toList.drop pc = l) (hk : fd_g2 o z l = true) : decode cc pc = .ok (C z, 3) := by
  match l, h, hk with
  | b :: c :: d :: t, h, hk =>
    obtain ⟨k1, k2⟩ := (Bool.and_eq_true _ _ ▸ hk : _ ∧ _)
    obtain ⟨q, e⟩ := fd_by h
    have hd := fd_dr _ _ _ _ h
    obtain ⟨q1, e1⟩ := fd_by hd
    obtain ⟨q2, e2⟩ := fd_by (fd_dr _ _ _ _ hd)
    rw [fd_dec (hc q q1 q2 (fd_nb1 e k1)), e1, e2, of_decide_eq_true k2, Nat.add_assoc, Nat.add_assoc, Nat.add_sub_cancel_left]
theorem dki {k : Nat} {z : Int} (h : cc.data.toList.drop pc = l) (hk : fd_gi k z l = true) : decode cc pc = .ok (.iinc k z, 3) := by
  match l, h, hk with
  | b :: c :: d :: t, h, hk =>
    obtain ⟨k1, k2⟩ := (Bool.and_eq_true _ _ ▸ hk : _ ∧ _)
    obtain ⟨k2, k3⟩ := (Bool.and_eq_true _ _ ▸ k2 : _ ∧ _)
    obtain ⟨q, e⟩ := fd_by h
    have hd := fd_dr _ _ _ _ h
    obtain ⟨q1, e1⟩ := fd_by hd
    obtain ⟨q2, e2⟩ := fd_by (fd_dr _ _ _ _ hd)
    rw [fd_dec (dc_iinc q q1 q2 (fd_nb1 e k1)), fd_nb1 e1 k2, e2, of_decide_eq_true k3, Nat.add_assoc, Nat.add_assoc, Nat.add_sub_cancel_left]
def fd_fk (cc : ByteArray) (x : mj_E) (l : List UInt8) : Bool := match x.1 with
  | .iaload => fd_f0 46 l
  | .laload => fd_f0 47 l
  | .aaload => fd_f0 50 l
  | .baload => fd_f0 51 l
  | .iastore => fd_f0 79 l
  | .lastore => fd_f0 80 l
  | .aastore => fd_f0 83 l
  | .bastore => fd_f0 84 l
  | .pop => fd_f0 87 l
  | .dup => fd_f0 89 l
  | .dup2 => fd_f0 92 l
  | .iadd => fd_f0 96 l
  | .isub => fd_f0 100 l
  | .imul => fd_f0 104 l
  | .idiv => fd_f0 108 l
  | .irem => fd_f0 112 l
  | .ineg => fd_f0 116 l
  | .ishl => fd_f0 120 l
  | .lshl => fd_f0 121 l
  | .ishr => fd_f0 122 l
  | .lshr => fd_f0 123 l
  | .iushr => fd_f0 124 l
  | .iand => fd_f0 126 l
  | .land => fd_f0 127 l
  | .ior => fd_f0 128 l
  | .lor => fd_f0 129 l
  | .i2l => fd_f0 133 l
  | .l2i => fd_f0 136 l
  | .i2b => fd_f0 145 l
  | .lcmp => fd_f0 148 l
  | .ireturn => fd_f0 172 l
  | .lreturn => fd_f0 173 l
  | .areturn => fd_f0 176 l
  | .return_ => fd_f0 177 l
  | .arraylength => fd_f0 190 l
  | .athrow => fd_f0 191 l
  | .aconst_null => fd_f0 1 l
  | .iload_n k => fd_f0 (26 + k.val) l
  | .lload_n k => fd_f0 (30 + k.val) l
  | .aload_n k => fd_f0 (42 + k.val) l
  | .istore_n k => fd_f0 (59 + k.val) l
  | .lstore_n k => fd_f0 (63 + k.val) l
  | .astore_n k => fd_f0 (75 + k.val) l
  | .lconst k => fd_f0 (9 + k.val) l
  | .iconst z => fd_fi z l
  | .ldc k => fd_f1 18 k l
  | .iload k => fd_f1 21 k l
  | .lload k => fd_f1 22 k l
  | .aload k => fd_f1 25 k l
  | .istore k => fd_f1 54 k l
  | .lstore k => fd_f1 55 k l
  | .astore k => fd_f1 58 k l
  | .bipush z => fd_g1 16 z l
  | .sipush z => fd_g2 17 z l
  | .ldc_w k => fd_f2 19 k l
  | .ldc2_w k => fd_f2 20 k l
  | .getstatic k => fd_f2 178 k l
  | .putstatic k => fd_f2 179 k l
  | .getfield k => fd_f2 180 k l
  | .putfield k => fd_f2 181 k l
  | .invokevirtual k => fd_f2 182 k l
  | .invokespecial k => fd_f2 183 k l
  | .invokestatic k => fd_f2 184 k l
  | .new k => fd_f2 187 k l
  | .anewarray k => fd_f2 189 k l
  | .checkcast k => fd_f2 192 k l
  | .ifCond c z => fd_g2 (153 + fd_co c) z l
  | .if_icmp c z => fd_g2 (159 + fd_co c) z l
  | .if_acmp c z => fd_g2 (165 + fd_ac c) z l
  | .goto z => fd_g2 167 z l
  | .ifnull z => fd_g2 198 z l
  | .ifnonnull z => fd_g2 199 z l
  | .iinc k z => fd_gi k z l
  | _ => decide (decode cc x.2.1 = .ok (x.1, mj_lx x))
set_option maxHeartbeats 4000000 in
theorem fd_fk_s : ∀ {x : mj_E}, x.2.1 = pc → cc.data.toList.drop pc = l → fd_fk cc x l = true → decode cc x.2.1 = .ok (x.1, mj_lx x) := by
  rintro ⟨i, p, aux, im⟩ e h hk
  obtain rfl : p = pc := e
  cases i with
  | iaload =>
    have hk : fd_f0 46 l = true := hk
    exact dk0 dc_iaload h hk
  | laload =>
    have hk : fd_f0 47 l = true := hk
    exact dk0 dc_laload h hk
  | aaload =>
    have hk : fd_f0 50 l = true := hk
    exact dk0 dc_aaload h hk
  | baload =>
    have hk : fd_f0 51 l = true := hk
    exact dk0 dc_baload h hk
  | iastore =>
    have hk : fd_f0 79 l = true := hk
    exact dk0 dc_iastore h hk
  | lastore =>
    have hk : fd_f0 80 l = true := hk
    exact dk0 dc_lastore h hk
  | aastore =>
    have hk : fd_f0 83 l = true := hk
    exact dk0 dc_aastore h hk
  | bastore =>
    have hk : fd_f0 84 l = true := hk
    exact dk0 dc_bastore h hk
  | pop =>
    have hk : fd_f0 87 l = true := hk
    exact dk0 dc_pop h hk
  | dup =>
    have hk : fd_f0 89 l = true := hk
    exact dk0 dc_dup h hk
  | dup2 =>
    have hk : fd_f0 92 l = true := hk
    exact dk0 dc_dup2 h hk
  | iadd =>
    have hk : fd_f0 96 l = true := hk
    exact dk0 dc_iadd h hk
  | isub =>
    have hk : fd_f0 100 l = true := hk
    exact dk0 dc_isub h hk
  | imul =>
    have hk : fd_f0 104 l = true := hk
    exact dk0 dc_imul h hk
  | idiv =>
    have hk : fd_f0 108 l = true := hk
    exact dk0 dc_idiv h hk
  | irem =>
    have hk : fd_f0 112 l = true := hk
    exact dk0 dc_irem h hk
  | ineg =>
    have hk : fd_f0 116 l = true := hk
    exact dk0 dc_ineg h hk
  | ishl =>
    have hk : fd_f0 120 l = true := hk
    exact dk0 dc_ishl h hk
  | lshl =>
    have hk : fd_f0 121 l = true := hk
    exact dk0 dc_lshl h hk
  | ishr =>
    have hk : fd_f0 122 l = true := hk
    exact dk0 dc_ishr h hk
  | lshr =>
    have hk : fd_f0 123 l = true := hk
    exact dk0 dc_lshr h hk
  | iushr =>
    have hk : fd_f0 124 l = true := hk
    exact dk0 dc_iushr h hk
  | iand =>
    have hk : fd_f0 126 l = true := hk
    exact dk0 dc_iand h hk
  | land =>
    have hk : fd_f0 127 l = true := hk
    exact dk0 dc_land h hk
  | ior =>
    have hk : fd_f0 128 l = true := hk
    exact dk0 dc_ior h hk
  | lor =>
    have hk : fd_f0 129 l = true := hk
    exact dk0 dc_lor h hk
  | i2l =>
    have hk : fd_f0 133 l = true := hk
    exact dk0 dc_i2l h hk
  | l2i =>
    have hk : fd_f0 136 l = true := hk
    exact dk0 dc_l2i h hk
  | i2b =>
    have hk : fd_f0 145 l = true := hk
    exact dk0 dc_i2b h hk
  | lcmp =>
    have hk : fd_f0 148 l = true := hk
    exact dk0 dc_lcmp h hk
  | ireturn =>
    have hk : fd_f0 172 l = true := hk
    exact dk0 dc_ireturn h hk
  | lreturn =>
    have hk : fd_f0 173 l = true := hk
    exact dk0 dc_lreturn h hk
  | areturn =>
    have hk : fd_f0 176 l = true := hk
    exact dk0 dc_areturn h hk
  | return_ =>
    have hk : fd_f0 177 l = true := hk
    exact dk0 dc_return_ h hk
  | arraylength =>
    have hk : fd_f0 190 l = true := hk
    exact dk0 dc_arraylength h hk
  | athrow =>
    have hk : fd_f0 191 l = true := hk
    exact dk0 dc_athrow h hk
  | aconst_null =>
    have hk : fd_f0 1 l = true := hk
    exact dk0 dc_aconst_null h hk
  | iload_n k =>
    have hk : fd_f0 (26 + k.val) l = true := hk
    match k, hk with
    | ⟨0, _⟩, hk => exact dk0 dc_iload_n0 h hk
    | ⟨1, _⟩, hk => exact dk0 dc_iload_n1 h hk
    | ⟨2, _⟩, hk => exact dk0 dc_iload_n2 h hk
    | ⟨3, _⟩, hk => exact dk0 dc_iload_n3 h hk
  | lload_n k =>
    have hk : fd_f0 (30 + k.val) l = true := hk
    match k, hk with
    | ⟨0, _⟩, hk => exact dk0 dc_lload_n0 h hk
    | ⟨1, _⟩, hk => exact dk0 dc_lload_n1 h hk
    | ⟨2, _⟩, hk => exact dk0 dc_lload_n2 h hk
    | ⟨3, _⟩, hk => exact dk0 dc_lload_n3 h hk
  | aload_n k =>
    have hk : fd_f0 (42 + k.val) l = true := hk
    match k, hk with
    | ⟨0, _⟩, hk => exact dk0 dc_aload_n0 h hk
    | ⟨1, _⟩, hk => exact dk0 dc_aload_n1 h hk
    | ⟨2, _⟩, hk => exact dk0 dc_aload_n2 h hk
    | ⟨3, _⟩, hk => exact dk0 dc_aload_n3 h hk
  | istore_n k =>
    have hk : fd_f0 (59 + k.val) l = true := hk
    match k, hk with
    | ⟨0, _⟩, hk => exact dk0 dc_istore_n0 h hk
    | ⟨1, _⟩, hk => exact dk0 dc_istore_n1 h hk
    | ⟨2, _⟩, hk => exact dk0 dc_istore_n2 h hk
    | ⟨3, _⟩, hk => exact dk0 dc_istore_n3 h hk
  | lstore_n k =>
    have hk : fd_f0 (63 + k.val) l = true := hk
    match k, hk with
    | ⟨0, _⟩, hk => exact dk0 dc_lstore_n0 h hk
    | ⟨1, _⟩, hk => exact dk0 dc_lstore_n1 h hk
    | ⟨2, _⟩, hk => exact dk0 dc_lstore_n2 h hk
    | ⟨3, _⟩, hk => exact dk0 dc_lstore_n3 h hk
  | astore_n k =>
    have hk : fd_f0 (75 + k.val) l = true := hk
    match k, hk with
    | ⟨0, _⟩, hk => exact dk0 dc_astore_n0 h hk
    | ⟨1, _⟩, hk => exact dk0 dc_astore_n1 h hk
    | ⟨2, _⟩, hk => exact dk0 dc_astore_n2 h hk
    | ⟨3, _⟩, hk => exact dk0 dc_astore_n3 h hk
  | lconst k =>
    have hk : fd_f0 (9 + k.val) l = true := hk
    match k, hk with
    | ⟨0, _⟩, hk => exact dk0 dc_lconst0 h hk
    | ⟨1, _⟩, hk => exact dk0 dc_lconst1 h hk
  | iconst z =>
    have hk : fd_fi z l = true := hk
    obtain ⟨k1, k2⟩ := (Bool.and_eq_true _ _ ▸ hk : _ ∧ _)
    have k1 := of_decide_eq_true k1
    have : z = -1 ∨ z = 0 ∨ z = 1 ∨ z = 2 ∨ z = 3 ∨ z = 4 ∨ z = 5 := by omega
    rcases this with rfl | rfl | rfl | rfl | rfl | rfl | rfl
    · exact dk0 dc_iconst0 h k2
    · exact dk0 dc_iconst1 h k2
    · exact dk0 dc_iconst2 h k2
    · exact dk0 dc_iconst3 h k2
    · exact dk0 dc_iconst4 h k2
    · exact dk0 dc_iconst5 h k2
    · exact dk0 dc_iconst6 h k2
  | ldc k =>
    have hk : fd_f1 18 k l = true := hk
    exact dk1 (C := Instr.ldc) dc_ldc h hk
  | iload k =>
    have hk : fd_f1 21 k l = true := hk
    exact dk1 (C := Instr.iload) dc_iload h hk
  | lload k =>
    have hk : fd_f1 22 k l = true := hk
    exact dk1 (C := Instr.lload) dc_lload h hk
  | aload k =>
    have hk : fd_f1 25 k l = true := hk
    exact dk1 (C := Instr.aload) dc_aload h hk
  | istore k =>
    have hk : fd_f1 54 k l = true := hk
    exact dk1 (C := Instr.istore) dc_istore h hk
  | lstore k =>
    have hk : fd_f1 55 k l = true := hk
    exact dk1 (C := Instr.lstore) dc_lstore h hk
  | astore k =>
    have hk : fd_f1 58 k l = true := hk
    exact dk1 (C := Instr.astore) dc_astore h hk
  | bipush z =>
    have hk : fd_g1 16 z l = true := hk
    exact dk1s (C := Instr.bipush) dc_bipush h hk
  | sipush z =>
    have hk : fd_g2 17 z l = true := hk
    exact dk2s (C := Instr.sipush) dc_sipush h hk
  | ldc_w k =>
    have hk : fd_f2 19 k l = true := hk
    exact dk2 (C := Instr.ldc_w) dc_ldc_w h hk
  | ldc2_w k =>
    have hk : fd_f2 20 k l = true := hk
    exact dk2 (C := Instr.ldc2_w) dc_ldc2_w h hk
  | getstatic k =>
    have hk : fd_f2 178 k l = true := hk
    exact dk2 (C := Instr.getstatic) dc_getstatic h hk
  | putstatic k =>
    have hk : fd_f2 179 k l = true := hk
    exact dk2 (C := Instr.putstatic) dc_putstatic h hk
  | getfield k =>
    have hk : fd_f2 180 k l = true := hk
    exact dk2 (C := Instr.getfield) dc_getfield h hk
  | putfield k =>
    have hk : fd_f2 181 k l = true := hk
    exact dk2 (C := Instr.putfield) dc_putfield h hk
  | invokevirtual k =>
    have hk : fd_f2 182 k l = true := hk
    exact dk2 (C := Instr.invokevirtual) dc_invokevirtual h hk
  | invokespecial k =>
    have hk : fd_f2 183 k l = true := hk
    exact dk2 (C := Instr.invokespecial) dc_invokespecial h hk
  | invokestatic k =>
    have hk : fd_f2 184 k l = true := hk
    exact dk2 (C := Instr.invokestatic) dc_invokestatic h hk
  | new k =>
    have hk : fd_f2 187 k l = true := hk
    exact dk2 (C := Instr.new) dc_new h hk
  | anewarray k =>
    have hk : fd_f2 189 k l = true := hk
    exact dk2 (C := Instr.anewarray) dc_anewarray h hk
  | checkcast k =>
    have hk : fd_f2 192 k l = true := hk
    exact dk2 (C := Instr.checkcast) dc_checkcast h hk
  | ifCond c z =>
    have hk : fd_g2 (153 + fd_co c) z l = true := hk
    cases c with
    | eq => exact dk2s (C := Instr.ifCond .eq) dc_ifCond_eq h hk
    | ne => exact dk2s (C := Instr.ifCond .ne) dc_ifCond_ne h hk
    | lt => exact dk2s (C := Instr.ifCond .lt) dc_ifCond_lt h hk
    | ge => exact dk2s (C := Instr.ifCond .ge) dc_ifCond_ge h hk
    | gt => exact dk2s (C := Instr.ifCond .gt) dc_ifCond_gt h hk
    | le => exact dk2s (C := Instr.ifCond .le) dc_ifCond_le h hk
  | if_icmp c z =>
    have hk : fd_g2 (159 + fd_co c) z l = true := hk
    cases c with
    | eq => exact dk2s (C := Instr.if_icmp .eq) dc_if_icmp_eq h hk
    | ne => exact dk2s (C := Instr.if_icmp .ne) dc_if_icmp_ne h hk
    | lt => exact dk2s (C := Instr.if_icmp .lt) dc_if_icmp_lt h hk
    | ge => exact dk2s (C := Instr.if_icmp .ge) dc_if_icmp_ge h hk
    | gt => exact dk2s (C := Instr.if_icmp .gt) dc_if_icmp_gt h hk
    | le => exact dk2s (C := Instr.if_icmp .le) dc_if_icmp_le h hk
  | if_acmp c z =>
    have hk : fd_g2 (165 + fd_ac c) z l = true := hk
    cases c with
    | eq => exact dk2s (C := Instr.if_acmp .eq) dc_if_acmp_eq h hk
    | ne => exact dk2s (C := Instr.if_acmp .ne) dc_if_acmp_ne h hk
  | goto z =>
    have hk : fd_g2 167 z l = true := hk
    exact dk2s (C := Instr.goto) dc_goto h hk
  | ifnull z =>
    have hk : fd_g2 198 z l = true := hk
    exact dk2s (C := Instr.ifnull) dc_ifnull h hk
  | ifnonnull z =>
    have hk : fd_g2 199 z l = true := hk
    exact dk2s (C := Instr.ifnonnull) dc_ifnonnull h hk
  | iinc k z =>
    have hk : fd_gi k z l = true := hk
    exact dki h hk
  | _ => exact of_decide_eq_true hk
/-- a method's list against its bytes, both walked once -/
def fd_fa (T : Nat → mj_T) (own : String) (ret : Option FieldType) (nL : Nat) (ini : Bool) (cc : ByteArray) (full : List mj_E) : List mj_E → Nat → List UInt8 → Bool
  | [], _, _ => true
  | x :: t, pc, l => Nat.beq x.2.1 pc && (fd_fk cc x l && (mj_cx T own ret nL ini full x && ((!t.isEmpty || mj_ends x.1) && fd_fa T own ret nL ini cc full t (pc + mj_lx x) (l.drop (mj_lx x)))))
theorem fd_fa_ca {T : Nat → mj_T} {own : String} {ret : Option FieldType} {nL : Nat} {ini : Bool} {full : List mj_E} : ∀ (t : List mj_E) (i pc : Nat) (l : List UInt8), full.drop i = t → cc.data.toList.drop pc = l → fd_fa T own ret nL ini cc full t pc l = true → mj_ca T own ret nL ini cc full i t = true
  | [], _, _, _, _, _, _ => rfl
  | x :: t, i, pc, l, hf, hl, h => by
    have h : (Nat.beq x.2.1 pc && (fd_fk cc x l && (mj_cx T own ret nL ini full x && ((!t.isEmpty || mj_ends x.1) && fd_fa T own ret nL ini cc full t (pc + mj_lx x) (l.drop (mj_lx x)))))) = true := h
    rw [Bool.and_eq_true, Bool.and_eq_true, Bool.and_eq_true, Bool.and_eq_true] at h
    obtain ⟨h1, h2, h3, h4, h5⟩ := h
    have h1 := Nat.eq_of_beq_eq_true h1
    have hd := fd_fk_s h1 hl h2
    have ht := fd_dr _ _ _ _ hf
    have hl2 : cc.data.toList.drop (pc + mj_lx x) = l.drop (mj_lx x) := by rw [← hl, List.drop_drop]
    have ih := fd_fa_ca t (i + 1) (pc + mj_lx x) (l.drop (mj_lx x)) ht hl2 h5
    have hn : (mj_ends x.1 || decide (mj_pc full (i + 1) = x.2.1 + mj_lx x)) = true := by
      cases t with
      | nil =>
        have h4 : (false || mj_ends x.1) = true := h4
        rw [Bool.false_or] at h4
        rw [h4]; rfl
      | cons y t =>
        have h6 : (Nat.beq y.2.1 (pc + mj_lx x) && _) = true := h5
        have h7 := Nat.eq_of_beq_eq_true (Bool.and_eq_true _ _ ▸ h6 : _ ∧ _).1
        have h8 : full[i + 1]? = some y := by
          have : (full.drop (i + 1))[0]? = some y := by rw [ht]; rfl
          rw [List.getElem?_drop, Nat.add_zero] at this
          exact this
        have h9 : mj_pc full (i + 1) = y.2.1 := by unfold mj_pc; rw [h8]
        rw [h9, h7, h1, decide_eq_true rfl, Bool.or_true]
    show (mj_cb T own ret nL ini cc full i x && mj_ca T own ret nL ini cc full (i + 1) t) = true
    unfold mj_cb
    rw [decide_eq_true hd, hn, h3, ih]; rfl
theorem fd_fa_0 {T : Nat → mj_T} {own : String} {ret : Option FieldType} {nL : Nat} {ini : Bool} {full : List mj_E} (h : fd_fa T own ret nL ini cc full full 0 cc.data.toList = true) : mj_ca T own ret nL ini cc full 0 full = true := fd_fa_ca full 0 0 _ (List.drop_zero ..) (List.drop_zero ..) h
end FD
