/-! ===== one instruction of the symbolic run is one of the small machine (laid by a program) ===== -/
set_option maxHeartbeats 4000000 in
theorem sx_st_s {q : sx_q} {K : sx_K} (hK : sx_ks q K) : sx_ks q (sx_st K) := by
  intro y d rest L st cb sb fs h Y hk w L' st' G M Q Z hz hL hS hF hH hY
  cases rest with
  | nil => cases hk
  | cons x rest =>
    obtain ⟨ins, pc, aux, imm⟩ := x
    have go : ∀ {w1 : sx_w} {rest1 : List mj_E} {L1 : sx_L} {L1' : mj_L} {st1 : List sx_V} {st1' : List mj_V} {cb1 sb1 : Nat} {h1 : sx_H} {Y1 : sx_Y} {G1 : mj_G} {M1 : mj_M}, sx_up w w1 → K y d rest1 L1 st1 cb1 sb1 fs h1 Y1 = true → sx_RL w1 L1 L1' → sx_RS w1 st1 st1' → sx_RH w1 h1 G1 M1 → sx_RY w1 Y1 → Z rest1 L1' st1' G1 M1 cb1 sb1 := fun u k1 k2 k3 k4 k5 => hK _ _ _ _ _ _ _ _ _ _ k1 _ _ _ _ _ Q Z hz k2 k3 (hF.up u) k4 k5
    cases ins
    case iload_n k =>
      have hk : (sx_ldi L k.val fun v => K y d rest L (.inl v :: st) cb sb fs h Y) = true := hk
      refine hz.1 _ _ _ _ _ _ _ ?_
      obtain ⟨x, z, h1, h2, hk⟩ := sx_ldi_s hk hL
      show mj_ldi L' k.val (fun v => Z rest L' (v :: st') G M cb sb)
      unfold mj_ldi
      rw [h1]
      exact go sx_up.rf hk hL (hS.c h2.v) hH hY
    case iload k =>
      have hk : (sx_ldi L k fun v => K y d rest L (.inl v :: st) cb sb fs h Y) = true := hk
      refine hz.1 _ _ _ _ _ _ _ ?_
      obtain ⟨x, z, h1, h2, hk⟩ := sx_ldi_s hk hL
      show mj_ldi L' k (fun v => Z rest L' (v :: st') G M cb sb)
      unfold mj_ldi
      rw [h1]
      exact go sx_up.rf hk hL (hS.c h2.v) hH hY
    case lload_n k =>
      have hk : (sx_ldl L k.val fun v => K y d rest L (.inr (.inl v) :: st) cb sb fs h Y) = true := hk
      refine hz.1 _ _ _ _ _ _ _ ?_
      obtain ⟨x, h1, hk⟩ := sx_ldl_s hk hL
      show mj_ldl L' k.val (fun v => Z rest L' (v :: st') G M cb sb)
      unfold mj_ldl
      rw [h1]
      exact go sx_up.rf hk hL (hS.c sx_RV.l) hH hY
    case lload k =>
      have hk : (sx_ldl L k fun v => K y d rest L (.inr (.inl v) :: st) cb sb fs h Y) = true := hk
      refine hz.1 _ _ _ _ _ _ _ ?_
      obtain ⟨x, h1, hk⟩ := sx_ldl_s hk hL
      show mj_ldl L' k (fun v => Z rest L' (v :: st') G M cb sb)
      unfold mj_ldl
      rw [h1]
      exact go sx_up.rf hk hL (hS.c sx_RV.l) hH hY
    case aload_n k =>
      have hk : (sx_lda L k.val fun v => K y d rest L (.inr (.inr v) :: st) cb sb fs h Y) = true := hk
      refine hz.1 _ _ _ _ _ _ _ ?_
      obtain ⟨x, z, h1, h2, hk⟩ := sx_lda_s hk hL
      show mj_lda L' k.val (fun v => Z rest L' (v :: st') G M cb sb)
      unfold mj_lda
      rw [h1]
      exact go sx_up.rf hk hL (hS.c h2.v) hH hY
    case aload k =>
      have hk : (sx_lda L k fun v => K y d rest L (.inr (.inr v) :: st) cb sb fs h Y) = true := hk
      refine hz.1 _ _ _ _ _ _ _ ?_
      obtain ⟨x, z, h1, h2, hk⟩ := sx_lda_s hk hL
      show mj_lda L' k (fun v => Z rest L' (v :: st') G M cb sb)
      unfold mj_lda
      rw [h1]
      exact go sx_up.rf hk hL (hS.c h2.v) hH hY
    case istore_n k =>
      have hk : (sx_i1 st fun z st => K y d rest (sx_s1 L k.val (.inl z)) st cb sb fs h Y) = true := hk
      refine hz.1 _ _ _ _ _ _ _ ?_
      obtain ⟨x, t, z, t', rfl, hx, hS, hk⟩ := sx_i1_s hk hS
      exact go sx_up.rf hk (sx_s1_s hL hx.v) hS hH hY
    case istore k =>
      have hk : (sx_i1 st fun z st => K y d rest (sx_s1 L k (.inl z)) st cb sb fs h Y) = true := hk
      refine hz.1 _ _ _ _ _ _ _ ?_
      obtain ⟨x, t, z, t', rfl, hx, hS, hk⟩ := sx_i1_s hk hS
      exact go sx_up.rf hk (sx_s1_s hL hx.v) hS hH hY
    case astore_n k =>
      have hk : (sx_r1 st fun z st => K y d rest (sx_s1 L k.val (.inr (.inr z))) st cb sb fs h Y) = true := hk
      refine hz.1 _ _ _ _ _ _ _ ?_
      obtain ⟨x, t, z, t', rfl, hx, hS, hk⟩ := sx_r1_s hk hS
      exact go sx_up.rf hk (sx_s1_s hL hx.v) hS hH hY
    case astore k =>
      have hk : (sx_r1 st fun z st => K y d rest (sx_s1 L k (.inr (.inr z))) st cb sb fs h Y) = true := hk
      refine hz.1 _ _ _ _ _ _ _ ?_
      obtain ⟨x, t, z, t', rfl, hx, hS, hk⟩ := sx_r1_s hk hS
      exact go sx_up.rf hk (sx_s1_s hL hx.v) hS hH hY
    case iinc k c =>
      have hk : (sx_ldi L k fun v => sx_iv Y v fun lo hi => sx_ai Y (lo + c) (hi + c) (fun v Y => K y d rest (sx_s1 L k (.inl v)) st cb sb fs h Y) false) = true := hk
      refine hz.1 _ _ _ _ _ _ _ ?_
      obtain ⟨x, z, h1, h2, hk⟩ := sx_ldi_s hk hL
      obtain ⟨lo, hi, hk, h3, h4⟩ := sx_iv_s hk hY h2
      show mj_ldi L' k (fun v => mj_i1 [v] fun z _ => (mj_in (z + c) ∧ Z rest (mj_s1 L' k (.inl (z + c))) st' G M cb sb) ∨ ∀ q, mj_in q → q = (Int32.ofInt z + Int32.ofInt c).toInt → Z rest (mj_s1 L' k (.inl q)) st' G M cb sb)
      unfold mj_ldi
      rw [h1]
      rcases sx_ai_s (z := z + c) hk hY (by omega) (by omega) with ⟨u0, w', x', Y', u1, u2, u3, u4⟩ | hk
      · exact Or.inl ⟨u0, go u1.1 u4 (sx_s1_s (hL.up u1.1) u3.v) (hS.up u1.1) (hH.up u1) u2⟩
      · cases hk
    case iconst z =>
      have hk : (K y d rest L (.inl (.inl z) :: st) cb sb fs h Y) = true := hk
      refine hz.1 _ _ _ _ _ _ _ ?_
      exact go sx_up.rf hk hL (hS.c (sx_RI.v rfl)) hH hY
    case bipush z =>
      have hk : (K y d rest L (.inl (.inl z) :: st) cb sb fs h Y) = true := hk
      refine hz.1 _ _ _ _ _ _ _ ?_
      exact go sx_up.rf hk hL (hS.c (sx_RI.v rfl)) hH hY
    case sipush z =>
      have hk : (K y d rest L (.inl (.inl z) :: st) cb sb fs h Y) = true := hk
      refine hz.1 _ _ _ _ _ _ _ ?_
      exact go sx_up.rf hk hL (hS.c (sx_RI.v rfl)) hH hY
    case ldc k =>
      have hk : (K y d rest L (.inl (.inl imm) :: st) cb sb fs h Y) = true := hk
      refine hz.1 _ _ _ _ _ _ _ ?_
      exact go sx_up.rf hk hL (hS.c (sx_RI.v rfl)) hH hY
    case ldc2_w k =>
      have hk : (K y d rest L (.inr (.inl (Int64.ofInt imm)) :: st) cb sb fs h Y) = true := hk
      refine hz.1 _ _ _ _ _ _ _ ?_
      exact go sx_up.rf hk hL (hS.c sx_RV.l) hH hY
    case lconst z =>
      have hk : (K y d rest L (.inr (.inl (Int64.ofNat z.val)) :: st) cb sb fs h Y) = true := hk
      refine hz.1 _ _ _ _ _ _ _ ?_
      exact go sx_up.rf hk hL (hS.c sx_RV.l) hH hY
    case aconst_null =>
      have hk : (K y d rest L (.inr (.inr none) :: st) cb sb fs h Y) = true := hk
      refine hz.1 _ _ _ _ _ _ _ ?_
      exact go sx_up.rf hk hL (hS.c (sx_RO.v (x := none) rfl)) hH hY
    case iadd =>
      have hk : (sx_op2 Y st sx_fadd fun v Y st => K y d rest L (.inl v :: st) cb sb fs h Y) = true := hk
      refine hz.1 _ _ _ _ _ _ _ ?_
      exact sx_op2_s (k' := fun st => Z rest L' st G M cb sb) hk hS hY sx_fadd_s (fun w' x z Y' t t' u1 u2 u3 u4 u5 => go u1.1 u5 (hL.up u1.1) (u4.c u3.v) (hH.up u1) u2)
    case isub =>
      have hk : (sx_op2 Y st sx_fsub fun v Y st => K y d rest L (.inl v :: st) cb sb fs h Y) = true := hk
      refine hz.1 _ _ _ _ _ _ _ ?_
      exact sx_op2_s (k' := fun st => Z rest L' st G M cb sb) hk hS hY sx_fsub_s (fun w' x z Y' t t' u1 u2 u3 u4 u5 => go u1.1 u5 (hL.up u1.1) (u4.c u3.v) (hH.up u1) u2)
    case imul =>
      have hk : (sx_op2 Y st sx_fmul fun v Y st => K y d rest L (.inl v :: st) cb sb fs h Y) = true := hk
      refine hz.1 _ _ _ _ _ _ _ ?_
      exact sx_op2_s (k' := fun st => Z rest L' st G M cb sb) hk hS hY sx_fmul_s (fun w' x z Y' t t' u1 u2 u3 u4 u5 => go u1.1 u5 (hL.up u1.1) (u4.c u3.v) (hH.up u1) u2)
    case iand =>
      have hk : (cond (Nat.beq y 900) (sx_opc y d rest L st cb sb fs h Y K) (sx_bit Y st true (fun x y => x &&& y) fun v Y st => K y d rest L (.inl v :: st) cb sb fs h Y)) = true := hk
      refine hz.1 _ _ _ _ _ _ _ ?_
      cases hy9 : Nat.beq y 900 with
      | true =>
        rw [hy9] at hk
        have hy9 := sx_beq hy9
        have hk : sx_opc y d rest L st cb sb fs h Y K = true := hk
        unfold sx_opc at hk
        obtain ⟨hfe, hk2⟩ := sx_nd hk
        have hfs : fs = [] := by cases fs with
          | nil => rfl
          | cons _ _ => cases hfe
        obtain ⟨v, t, zv, t', rfl, hv, hS, hk2⟩ := sx_i1_s hk2 hS
        obtain ⟨x, t, z, t', rfl, hx, hS3, hk2⟩ := sx_i1_s hk2 hS
        rw [hfs] at hF
        obtain ⟨hF1, s1, s2, s3, s4, s5⟩ := hF
        match x, hx, hk2 with
        | .inr 0, hx, hk2 =>
          have hk3 := sx_kn_s hk2 hY hv
          obtain ⟨g1, hk4⟩ := sx_cd hk3
          have g1 : zv = 63 := sx_eq_iff.mp g1
          intro z2 hz2 hz3
          rw [g1, ← hx.2, s4 0 (by decide), ← s5] at hz3
          exact go sx_up.rf hk4 hL (hS3.c (sx_RI.v (x := .inr 7) (z := z2) ⟨by omega, by rw [s4 7 (by decide), hz3]⟩)) hH hY
        | .inr (i + 1), hx, hk2 => cases hk2
        | .inl i, hx, hk2 => cases hk2
      | false =>
        rw [hy9] at hk
        dsimp only [cond_false] at hk
        exact sx_bit_s (k' := fun st => Z rest L' st G M cb sb) hk hS hY (fun _ => sx_and_in) (fun w' x z Y' t t' u1 u2 u3 u4 u5 => go u1.1 u5 (hL.up u1.1) (u4.c u3.v) (hH.up u1) u2)
    case ior =>
      have hk : (sx_bit Y st false (fun x y => x ||| y) fun v Y st => K y d rest L (.inl v :: st) cb sb fs h Y) = true := hk
      refine hz.1 _ _ _ _ _ _ _ ?_
      exact sx_bit_s (k' := fun st => Z rest L' st G M cb sb) hk hS hY (fun q => by cases q) (fun w' x z Y' t t' u1 u2 u3 u4 u5 => go u1.1 u5 (hL.up u1.1) (u4.c u3.v) (hH.up u1) u2)
    case ishl =>
      have hk : (sx_bit Y st false (fun x y => x <<< (y &&& 31)) fun v Y st => K y d rest L (.inl v :: st) cb sb fs h Y) = true := hk
      refine hz.1 _ _ _ _ _ _ _ ?_
      exact sx_bit_s (k' := fun st => Z rest L' st G M cb sb) hk hS hY (fun q => by cases q) (fun w' x z Y' t t' u1 u2 u3 u4 u5 => go u1.1 u5 (hL.up u1.1) (u4.c u3.v) (hH.up u1) u2)
    case ishr =>
      have hk : (sx_bit Y st false (fun x y => x >>> (y &&& 31)) fun v Y st => K y d rest L (.inl v :: st) cb sb fs h Y) = true := hk
      refine hz.1 _ _ _ _ _ _ _ ?_
      exact sx_bit_s (k' := fun st => Z rest L' st G M cb sb) hk hS hY (fun q => by cases q) (fun w' x z Y' t t' u1 u2 u3 u4 u5 => go u1.1 u5 (hL.up u1.1) (u4.c u3.v) (hH.up u1) u2)
    case iushr =>
      have hk : (sx_bit Y st false (fun x y => (x.toUInt32 >>> (y.toUInt32 &&& Int32.toUInt32 31)).toInt32) fun v Y st => K y d rest L (.inl v :: st) cb sb fs h Y) = true := hk
      refine hz.1 _ _ _ _ _ _ _ ?_
      exact sx_bit_s (k' := fun st => Z rest L' st G M cb sb) hk hS hY (fun q => by cases q) (fun w' x z Y' t t' u1 u2 u3 u4 u5 => go u1.1 u5 (hL.up u1.1) (u4.c u3.v) (hH.up u1) u2)
    case ineg =>
      have hk : (sx_un Y st (fun x => -x) fun v Y st => K y d rest L (.inl v :: st) cb sb fs h Y) = true := hk
      refine hz.1 _ _ _ _ _ _ _ ?_
      exact sx_un_s (k' := fun st => Z rest L' st G M cb sb) hk hS hY (fun w' x z Y' t t' u1 u2 u3 u4 u5 => go u1.1 u5 (hL.up u1.1) (u4.c u3.v) (hH.up u1) u2)
    case i2b =>
      have hk : (sx_un Y st (fun x => x.toInt8.toInt32) fun v Y st => K y d rest L (.inl v :: st) cb sb fs h Y) = true := hk
      refine hz.1 _ _ _ _ _ _ _ ?_
      exact sx_un_s (k' := fun st => Z rest L' st G M cb sb) hk hS hY (fun w' x z Y' t t' u1 u2 u3 u4 u5 => go u1.1 u5 (hL.up u1.1) (u4.c u3.v) (hH.up u1) u2)
    case dup =>
      have hk : (sx_c1 st fun v st => K y d rest L (v :: v :: st) cb sb fs h Y) = true := hk
      refine hz.1 _ _ _ _ _ _ _ ?_
      obtain ⟨x, t, v, t', rfl, hx, hv, hS, hk⟩ := sx_c1_s hk hS
      exact sx_c1_i (k := fun v st => Z rest L' (v :: v :: st) G M cb sb) hv (go sx_up.rf hk hL ((hS.c hx).c hx) hH hY)
    case dup2 =>
      have hk : (sx_c1 st fun v st => sx_c1 st fun w st => K y d rest L (v :: w :: v :: w :: st) cb sb fs h Y) = true := hk
      refine hz.1 _ _ _ _ _ _ _ ?_
      obtain ⟨x, t, v, t', rfl, hx, hv, hS, hk⟩ := sx_c1_s hk hS
      obtain ⟨x2, t, v2, t', rfl, hx2, hv2, hS, hk⟩ := sx_c1_s hk hS
      exact sx_c1_i (k := fun v st => mj_c1 st fun w st => Z rest L' (v :: w :: v :: w :: st) G M cb sb) hv (sx_c1_i (k := fun u st => Z rest L' (v :: u :: v :: u :: st) G M cb sb) hv2 (go sx_up.rf hk hL ((((hS.c hx2).c hx).c hx2).c hx) hH hY))
    case pop =>
      have hk : (sx_c1 st fun _ st => K y d rest L st cb sb fs h Y) = true := hk
      refine hz.1 _ _ _ _ _ _ _ ?_
      obtain ⟨x, t, v, t', rfl, hx, hv, hS, hk⟩ := sx_c1_s hk hS
      exact sx_c1_i (k := fun _ st => Z rest L' st G M cb sb) hv (go sx_up.rf hk hL hS hH hY)
    case ifCond c o =>
      have hk : (sx_i1 st fun z st => sx_br c Y z (.inl (.ofNat 0)) (fun Y => K y d ((sx_full y).drop (mj_hd aux)) L st cb sb fs h Y) (fun Y => K y d rest L st cb sb fs h Y)) = true := hk
      refine hz.1 _ _ _ _ _ _ _ ?_
      obtain ⟨x, t, z, t', rfl, hx, hS, hk⟩ := sx_i1_s hk hS
      exact sx_br_s hk hY hx (zy := 0) rfl (fun Y' u1 u2 => go sx_up.rf u2 hL hS hH u1) (fun Y' u1 u2 => go sx_up.rf u2 hL hS hH u1)
    case if_icmp c o =>
      have hk : (sx_i1 st fun v st => sx_i1 st fun z st => sx_br c Y z v (fun Y => K y d ((sx_full y).drop (mj_hd aux)) L st cb sb fs h Y) (fun Y => K y d rest L st cb sb fs h Y)) = true := hk
      refine hz.1 _ _ _ _ _ _ _ ?_
      obtain ⟨v, t, zv, t', rfl, hv, hS, hk⟩ := sx_i1_s hk hS
      obtain ⟨x, t, z, t', rfl, hx, hS, hk⟩ := sx_i1_s hk hS
      exact sx_br_s hk hY hx hv (fun Y' u1 u2 => go sx_up.rf u2 hL hS hH u1) (fun Y' u1 u2 => go sx_up.rf u2 hL hS hH u1)
    case ifnull o =>
      have hk : (sx_r1 st fun z st => match z with
            | none => K y d ((sx_full y).drop (mj_hd aux)) L st cb sb fs h Y
            | some _ => K y d rest L st cb sb fs h Y) = true := hk
      refine hz.1 _ _ _ _ _ _ _ ?_
      obtain ⟨x, t, z, t', rfl, hx, hS2, hk⟩ := sx_r1_s hk hS
      cases x with
      | none =>
        obtain rfl : z = none := hx
        exact ⟨fun _ => go sx_up.rf hk hL hS2 hH hY, fun q => absurd rfl q⟩
      | some i =>
        obtain ⟨-, rfl⟩ := hx
        exact ⟨(fun q => by cases q), fun _ => go sx_up.rf hk hL hS2 hH hY⟩
    case ifnonnull o =>
      have hk : (sx_r1 st fun z st => match z with
            | some _ => K y d ((sx_full y).drop (mj_hd aux)) L st cb sb fs h Y
            | none => K y d rest L st cb sb fs h Y) = true := hk
      refine hz.1 _ _ _ _ _ _ _ ?_
      obtain ⟨x, t, z, t', rfl, hx, hS2, hk⟩ := sx_r1_s hk hS
      cases x with
      | none =>
        obtain rfl : z = none := hx
        exact ⟨fun q => absurd rfl q, fun _ => go sx_up.rf hk hL hS2 hH hY⟩
      | some i =>
        obtain ⟨-, rfl⟩ := hx
        exact ⟨fun _ => go sx_up.rf hk hL hS2 hH hY, fun q => absurd (fun e => by cases e) q⟩
    case goto o =>
      have hk : (K y d ((sx_full y).drop (mj_hd aux)) L st cb sb fs h Y) = true := hk
      refine hz.1 _ _ _ _ _ _ _ ?_
      exact go sx_up.rf hk hL hS hH hY
    case getfield k =>
      have hk : (!aux.isEmpty && (Nat.blt (mj_hd aux) 49 && sx_get (mj_hd aux) (mj_h1 aux) st h fun st => K y d rest L st cb sb fs h Y)) = true := hk
      refine hz.1 _ _ _ _ _ _ _ ?_
      obtain ⟨h0, hk⟩ := sx_nd hk
      have hne : aux ≠ [] := fun q => by rw [q] at h0; cases h0
      obtain ⟨h49, hk⟩ := sx_nd hk
      have n49 := sx_blt h49
      exact ⟨hne, fun e => absurd (show mj_hd aux = 49 from e) (by omega), fun _ => sx_get_s (k' := fun st => Z rest L' st G M cb sb) hk hS hH (fun t t' u1 u2 => go sx_up.rf u1 hL u2 hH hY)⟩
    case putfield k =>
      have hk : (!aux.isEmpty && sx_put (mj_hd aux) (mj_h1 aux) Y st h fun st h => K y d rest L st cb sb fs h Y) = true := hk
      refine hz.1 _ _ _ _ _ _ _ ?_
      obtain ⟨h0, hk⟩ := sx_nd hk
      have hne : aux ≠ [] := fun q => by rw [q] at h0; cases h0
      exact ⟨hne, sx_put_s (k' := fun st M => Z rest L' st G M cb sb) hk hS hH hY (fun t t' h' M' u1 u2 u3 => go sx_up.rf u1 hL u2 u3 hY)⟩
    case iaload =>
      have hk : (cond (Nat.beq y 900) (sx_scl y d rest L st cb sb fs h Y K) (sx_ix Y st h fun _ t k c Y st => cond (Nat.beq (Nat.mod t 1000) 100) (K y d rest L (.inl (sx_g c.2.2.1 k) :: st) cb sb fs h Y) false)) = true := hk
      cases hy9 : Nat.beq y 900 with
      | true =>
        rw [hy9] at hk
        have hy9 := sx_beq hy9
        have hk : sx_scl y d rest L st cb sb fs h Y K = true := hk
        unfold sx_scl at hk
        obtain ⟨hfe, hk2⟩ := sx_nd hk
        have hfs : fs = [] := by cases fs with
          | nil => rfl
          | cons _ _ => cases hfe
        obtain ⟨x, t, z, t', rfl, hx, hS, hk2⟩ := sx_i1_s hk2 hS
        obtain ⟨i, t, t', rfl, hi, hS3, hk2⟩ := sx_a1_s hk2 hS
        have hk2 := sx_kn_s hk2 hY hx
        rw [hfs] at hF
        obtain ⟨hF1, s1, s2, s3, s4, s5⟩ := hF
        obtain ⟨lo, hi', hk2, l1, l2⟩ := sx_iv_s hk2 hY (x := .inr 6) (z := q.2 6) ⟨by omega, s4 6 (by decide)⟩
        obtain ⟨hc, hk3⟩ := sx_cd hk2
        obtain ⟨g1, hc⟩ := sx_nd hc
        obtain ⟨g2, hc⟩ := sx_nd hc
        obtain ⟨g3, g4⟩ := sx_nd hc
        have g1 := sx_beq g1
        subst g1
        have g2 : 0 ≤ z := sx_le_iff.mp g2
        have g3 : z < lo := by
          rw [Bool.not_eq_true'] at g3
          exact sx_le_no (x := lo) (y := z) (by rw [g3]; exact Bool.false_ne_true)
        have g4 := sx_blt g4
        rw [s2]
        exact (hz.2 hfs hy9).2.1 pc aux imm rest L' t' G M cb sb z g2 (by omega) (go sx_up.rf hk3 hL (hS3.c (sx_RI.v (x := .inr z.toNat) (z := q.2 z.toNat) ⟨by omega, s4 _ (by omega)⟩)) hH hY)
      | false =>
        rw [hy9] at hk
        dsimp only [cond_false] at hk
        refine hz.1 _ _ _ _ _ _ _ ?_
        obtain ⟨i, z, Y', t, t', rfl, hi, hY', hS, z0, z1, z2, hk⟩ := sx_ix_s hk hS hY
        obtain ⟨c1, c2, c3⟩ := hH.2.2.1 i (by rw [hH.1]; exact hi)
        obtain ⟨d1, d2, d3⟩ := c3 _ z2
        obtain ⟨ht, hk⟩ := sx_cd hk
        exact ⟨_, _, c1, sx_beq ht, z0, z1, go sx_up.rf hk hL (hS.c d1.v) hH hY'⟩
    case baload =>
      have hk : (sx_ix Y st h fun _ t k c Y st => cond (Nat.beq (Nat.mod t 1000) 101 || Nat.beq (Nat.mod t 1000) 102) (K y d rest L (.inl (sx_g c.2.2.1 k) :: st) cb sb fs h Y) false) = true := hk
      refine hz.1 _ _ _ _ _ _ _ ?_
      obtain ⟨i, z, Y', t, t', rfl, hi, hY', hS, z0, z1, z2, hk⟩ := sx_ix_s hk hS hY
      obtain ⟨c1, c2, c3⟩ := hH.2.2.1 i (by rw [hH.1]; exact hi)
      obtain ⟨d1, d2, d3⟩ := c3 _ z2
      obtain ⟨ht, hk⟩ := sx_cd hk
      rw [Bool.or_eq_true] at ht
      rcases ht with ht | ht
      · exact Or.inl ⟨_, _, c1, sx_beq ht, z0, z1, go sx_up.rf hk hL (hS.c d1.v) hH hY'⟩
      · exact Or.inr ⟨_, _, c1, sx_beq ht, z0, z1, go sx_up.rf hk hL (hS.c d1.v) hH hY'⟩
    case laload =>
      have hk : (sx_ix Y st h fun _ t k c Y st => cond (Nat.beq (Nat.mod t 1000) 103) (K y d rest L (.inr (.inl (sx_g c.2.2.2.1 k)) :: st) cb sb fs h Y) false) = true := hk
      refine hz.1 _ _ _ _ _ _ _ ?_
      obtain ⟨i, z, Y', t, t', rfl, hi, hY', hS, z0, z1, z2, hk⟩ := sx_ix_s hk hS hY
      obtain ⟨c1, c2, c3⟩ := hH.2.2.1 i (by rw [hH.1]; exact hi)
      obtain ⟨d1, d2, d3⟩ := c3 _ z2
      obtain ⟨ht, hk⟩ := sx_cd hk
      exact ⟨_, _, c1, sx_beq ht, z0, z1, go sx_up.rf hk hL (hS.c (by rw [← d2]; exact sx_RV.l)) hH hY'⟩
    case aaload =>
      have hk : (sx_ix Y st h fun _ t k c Y st => cond (Nat.beq (Nat.mod t 1000) (100 + mj_hd aux)) (K y d rest L (.inr (.inr (sx_g c.2.2.2.2 k)) :: st) cb sb fs h Y) false) = true := hk
      refine hz.1 _ _ _ _ _ _ _ ?_
      obtain ⟨i, z, Y', t, t', rfl, hi, hY', hS, z0, z1, z2, hk⟩ := sx_ix_s hk hS hY
      obtain ⟨c1, c2, c3⟩ := hH.2.2.1 i (by rw [hH.1]; exact hi)
      obtain ⟨d1, d2, d3⟩ := c3 _ z2
      obtain ⟨ht, hk⟩ := sx_cd hk
      exact ⟨_, _, c1, sx_beq ht, z0, z1, fun b hb => go sx_up.rf hk hL (hS.c (sx_RO.v (hb ▸ d3))) hH hY', fun hb => go sx_up.rf hk hL (hS.c (sx_RO.v (hb ▸ d3))) hH hY'⟩
    case iastore =>
      have hk : (sx_i1 st fun z st => sx_ix Y st h fun i t k _ Y st => cond (Nat.beq (Nat.mod t 1000) 100 && Nat.blt t 900000) (sx_p0 h i k z fun h => K y d rest L st cb sb fs h Y) false) = true := hk
      refine hz.1 _ _ _ _ _ _ _ ?_
      obtain ⟨x, t, zx, t', rfl, hx, hS, hk⟩ := sx_i1_s hk hS
      obtain ⟨i, z, Y', t, t', rfl, hi, hY', hS, z0, z1, z2, hk⟩ := sx_ix_s hk hS hY
      obtain ⟨c1, c2, c3⟩ := hH.2.2.1 i (by rw [hH.1]; exact hi)
      obtain ⟨d1, d2, d3⟩ := c3 _ z2
      obtain ⟨ht, hk⟩ := sx_cd hk
      obtain ⟨ht, h9⟩ := sx_nd ht
      obtain ⟨h', u1, u2⟩ := sx_p0_s hk hH hi hx
      exact ⟨_, _, c1, sx_beq ht, sx_blt h9, z0, z1, go sx_up.rf u2 hL hS u1 hY'⟩
    case bastore =>
      have hk : (sx_i1 st fun z st => sx_ix Y st h fun i t k _ Y st => cond (Nat.blt t 900000) (cond (Nat.beq (Nat.mod t 1000) 101) (sx_iv Y z fun a b => cond (sx_eq a b) (sx_fi (mj_nb a) fun z => sx_p0 h i k (.inl z) fun h => K y d rest L st cb sb fs h Y) (sx_ff Y fun z Y => sx_p0 h i k z fun h => K y d rest L st cb sb fs h Y)) (cond (Nat.beq (Nat.mod t 1000) 102 && sx_tf Y z) (sx_p0 h i k z fun h => K y d rest L st cb sb fs h Y) false)) false) = true := hk
      refine hz.1 _ _ _ _ _ _ _ ?_
      obtain ⟨x, t, zx, t', rfl, hx, hS, hk⟩ := sx_i1_s hk hS
      obtain ⟨i, z, Y', t, t', rfl, hi, hY', hS, z0, z1, z2, hk⟩ := sx_ix_s hk hS hY
      obtain ⟨c1, c2, c3⟩ := hH.2.2.1 i (by rw [hH.1]; exact hi)
      obtain ⟨d1, d2, d3⟩ := c3 _ z2
      obtain ⟨ht, hk⟩ := sx_cd hk
      cases e1 : Nat.beq (Nat.mod (sx_g h.2 i).1 1000) 101 with
      | true =>
        rw [e1] at hk
        dsimp only [cond_true] at hk
        obtain ⟨a, b, hk, h3, h4⟩ := sx_iv_s hk hY' hx
        cases e2 : sx_eq a b with
        | true =>
          rw [e2] at hk
          dsimp only [cond_true] at hk
          have e2 := sx_eq_iff.mp e2
          rw [sx_fi_eq] at hk
          obtain ⟨h', u1, u2⟩ := sx_p0_s (z := mj_nb zx) hk hH hi (by show mj_nb a = mj_nb zx; rw [show a = zx by omega])
          exact Or.inl ⟨_, _, c1, sx_beq e1, sx_blt ht, z0, z1, go sx_up.rf u2 hL hS u1 hY'⟩
        | false =>
          rw [e2] at hk
          obtain ⟨w', x', Y2, v1, v2, v3, v4⟩ := sx_ff_s (z := mj_nb zx) hk hY' (mj_rng _)
          obtain ⟨h', u1, u2⟩ := sx_p0_s v4 (hH.up v1) (Nat.lt_of_lt_of_le hi v1.1.2.2.1) v3
          rw [v1.1.2.2.2 i hi] at u1
          exact Or.inl ⟨_, _, c1, sx_beq e1, sx_blt ht, z0, z1, go v1.1 u2 (hL.up v1.1) (hS.up v1.1) u1 v2⟩
      | false =>
        rw [e1] at hk
        dsimp only [cond_false] at hk
        obtain ⟨hb, hk⟩ := sx_cd hk
        obtain ⟨hb, hb2⟩ := sx_nd hb
        obtain ⟨h', u1, u2⟩ := sx_p0_s hk hH hi hx
        exact Or.inr ⟨sx_tf_s hb2 hY' hx, _, _, c1, sx_beq hb, sx_blt ht, z0, z1, go sx_up.rf u2 hL hS u1 hY'⟩
    case lastore =>
      have hk : (sx_l1 st fun z st => sx_ix Y st h fun i t k _ Y st => cond (Nat.beq (Nat.mod t 1000) 103 && Nat.blt t 900000) (sx_p1 h i k z fun h => K y d rest L st cb sb fs h Y) false) = true := hk
      refine hz.1 _ _ _ _ _ _ _ ?_
      obtain ⟨x, t, t', rfl, hS, hk⟩ := sx_l1_s hk hS
      obtain ⟨i, z, Y', t, t', rfl, hi, hY', hS, z0, z1, z2, hk⟩ := sx_ix_s hk hS hY
      obtain ⟨c1, c2, c3⟩ := hH.2.2.1 i (by rw [hH.1]; exact hi)
      obtain ⟨d1, d2, d3⟩ := c3 _ z2
      obtain ⟨ht, hk⟩ := sx_cd hk
      obtain ⟨ht, h9⟩ := sx_nd ht
      obtain ⟨h', u1, u2⟩ := sx_p1_s hk hH hi
      exact ⟨_, _, c1, sx_beq ht, sx_blt h9, z0, z1, go sx_up.rf u2 hL hS u1 hY'⟩
    case aastore =>
      have hk : (sx_r1 st fun z st => sx_ix Y st h fun i t k _ Y st => cond (Nat.beq (Nat.mod t 1000) (100 + mj_hd aux) && Nat.blt t 900000) (match z with
            | none => sx_p2 h i k none fun h => K y d rest L st cb sb fs h Y
            | some b => sx_cl h b fun tb _ _ _ _ => cond (Nat.beq (mj_hd aux) 6 && Nat.beq (Nat.mod tb 1000) 7) (sx_p2 h i k (some b) fun h => K y d rest L st cb sb fs h Y) false) false) = true := hk
      refine hz.1 _ _ _ _ _ _ _ ?_
      obtain ⟨x, t, r, t', rfl, hx, hS, hk⟩ := sx_r1_s hk hS
      obtain ⟨i, z, Y', t, t', rfl, hi, hY', hS, z0, z1, z2, hk⟩ := sx_ix_s hk hS hY
      obtain ⟨c1, c2, c3⟩ := hH.2.2.1 i (by rw [hH.1]; exact hi)
      obtain ⟨d1, d2, d3⟩ := c3 _ z2
      obtain ⟨ht, hk⟩ := sx_cd hk
      obtain ⟨ht, h9⟩ := sx_nd ht
      have hS2 := hS
      cases x with
      | none =>
        obtain ⟨h', u1, u2⟩ := sx_p2_s hk hH hi hx
        obtain rfl : r = none := hx
        exact ⟨_, _, c1, sx_beq ht, sx_blt h9, z0, z1, (fun b hb => by cases hb), go sx_up.rf u2 hL hS2 u1 hY'⟩
      | some b =>
        have hk := (sx_cl_eq _ _ _).symm.trans hk
        obtain ⟨hb, hk⟩ := sx_cd hk
        obtain ⟨hb, hb2⟩ := sx_nd hb
        obtain ⟨h', u1, u2⟩ := sx_p2_s hk hH hi hx
        obtain ⟨hbl, rfl⟩ := hx
        obtain ⟨e1, e2, e3⟩ := hH.2.2.1 b (by rw [hH.1]; exact hbl)
        exact ⟨_, _, c1, sx_beq ht, sx_blt h9, z0, z1, (fun b' hb' => by cases hb'; exact Or.inl ⟨sx_beq hb, _, _, e1, sx_beq hb2, trivial⟩), go sx_up.rf u2 hL hS2 u1 hY'⟩
    case tableswitch df lo hi offs =>
      have hk : (sx_i1 st fun z st => sx_iv Y z fun a b => (cond (sx_le lo a) true (K y d ((sx_full y).drop (mj_hd aux)) L st cb sb fs h (sx_rf1 .lt Y z a b lo lo)) && cond (sx_le b hi) true (K y d ((sx_full y).drop (mj_hd aux)) L st cb sb fs h (sx_rf1 .gt Y z a b hi hi))) && sx_swt Y a b (fun t Y => K y d ((sx_full y).drop t) L st cb sb fs h Y) z lo (aux.drop 1)) = true := hk
      refine hz.1 _ _ _ _ _ _ _ ?_
      obtain ⟨x, t, z, t', rfl, hx, hS, hk⟩ := sx_i1_s hk hS
      obtain ⟨a, b, hk, h1, h2⟩ := sx_iv_s hk hY hx
      obtain ⟨hk, hk3⟩ := sx_nd hk
      obtain ⟨hk1, hk2⟩ := sx_nd hk
      refine ⟨fun q => ?_, sx_swt_s hY hx h1 h2 (fun t Y' u1 u2 => go sx_up.rf u2 hL hS hH u1) _ _ hk3⟩
      rcases q with q | q
      · exact go sx_up.rf (sx_cf hk1 (fun e => by have := sx_le_iff.mp e; omega)) hL hS hH (sx_rf1_s (q := lo) hY hx q h1 h2 (Int.le_refl _) (Int.le_refl _))
      · exact go sx_up.rf (sx_cf hk2 (fun e => by have := sx_le_iff.mp e; omega)) hL hS hH (sx_rf1_s (q := hi) (c := .gt) hY hx q h1 h2 (Int.le_refl _) (Int.le_refl _))
    case arraylength =>
      have hk : (cond (Nat.beq y 900) (sx_sln y d rest L st cb sb fs h Y K) (sx_a1 st fun i st => sx_cl h i fun t n _ _ _ => cond (Nat.ble 100 (Nat.mod t 1000) && (Nat.blt (Nat.mod t 1000) 107 && Nat.ble n 4096)) (K y d rest L (.inl (.inl (.ofNat n)) :: st) cb sb fs h Y) false)) = true := hk
      cases hy9 : Nat.beq y 900 with
      | true =>
        rw [hy9] at hk
        have hy9 := sx_beq hy9
        have hk : sx_sln y d rest L st cb sb fs h Y K = true := hk
        unfold sx_sln at hk
        obtain ⟨hfe, hk2⟩ := sx_nd hk
        have hfs : fs = [] := by cases fs with
          | nil => rfl
          | cons _ _ => cases hfe
        obtain ⟨i, t, t', rfl, hi, hS3, hk2⟩ := sx_a1_s hk2 hS
        obtain ⟨g1, hk3⟩ := sx_cd hk2
        have g1 := sx_beq g1
        subst g1
        rw [hfs] at hF
        obtain ⟨hF1, s1, s2, s3, s4, s5⟩ := hF
        rw [s2]
        exact (hz.2 hfs hy9).2.2 pc aux imm rest L' t' G M cb sb (go sx_up.rf hk3 hL (hS3.c (sx_RI.v (x := .inr 6) (z := q.2 6) ⟨by omega, s4 6 (by decide)⟩)) hH hY)
      | false =>
        rw [hy9] at hk
        dsimp only [cond_false] at hk
        refine hz.1 _ _ _ _ _ _ _ ?_
        obtain ⟨i, t, t', rfl, hi, hS, hk⟩ := sx_a1_s hk hS
        rw [sx_cl_eq] at hk
        obtain ⟨hc, hk⟩ := sx_cd hk
        obtain ⟨g1, hc⟩ := sx_nd hc
        obtain ⟨g2, g3⟩ := sx_nd hc
        obtain ⟨c1, c2, c3⟩ := hH.2.2.1 i (by rw [hH.1]; exact hi)
        have g1 : 100 ≤ (sx_g h.2 i).1 % 1000 := sx_ble g1
        have g2 : (sx_g h.2 i).1 % 1000 < 107 := sx_blt g2
        have g3 := sx_ble g3
        exact ⟨_, _, (sx_g h.2 i).1 % 1000 - 100, c1, by omega, by omega, ⟨by omega, by omega⟩, go sx_up.rf hk hL (hS.c (sx_RI.v rfl)) hH hY⟩
    case newarray k =>
      have hk : (sx_i1 st fun z st => sx_kn Y z fun z => cond (sx_le (.ofNat 0) z && (Nat.ble z.toNat 4096 && (Nat.ble 1 cb && (Nat.ble z.toNat sb && Nat.blt (mj_hd aux) 4)))) (sx_nw h (1100 + mj_hd aux) z.toNat fun i h => K y d rest L (.inr (.inr (some i)) :: st) (cb - 1) (sb - z.toNat) fs h Y) false) = true := hk
      refine hz.1 _ _ _ _ _ _ _ ?_
      obtain ⟨x, t, z, t', rfl, hx, hS, hk⟩ := sx_i1_s hk hS
      have hk := sx_kn_s hk hY hx
      obtain ⟨hc, hk⟩ := sx_cd hk
      obtain ⟨g1, hc⟩ := sx_nd hc
      obtain ⟨g2, hc⟩ := sx_nd hc
      obtain ⟨g3, hc⟩ := sx_nd hc
      obtain ⟨g4, g5⟩ := sx_nd hc
      have g1 : 0 ≤ z := sx_le_iff.mp g1
      have g2 := sx_ble g2
      have g5 := sx_blt g5
      refine ⟨g1, by omega, sx_ble g3, sx_ble g4, 1100 + mj_hd aux, (by show (1100 + mj_hd aux) % 1000 = 100 + mj_hd aux; omega), fun a ha => ?_⟩
      obtain ⟨h', u1, u2⟩ := sx_nw_s hk hH (by omega) ha
      exact go sx_wn_up u2 (hL.up sx_wn_up) ((hS.up sx_wn_up).c sx_wn_top.v) u1 hY.wn
    case anewarray k =>
      have hk : (sx_i1 st fun z st => sx_kn Y z fun z => cond (sx_le (.ofNat 0) z && (Nat.ble z.toNat 4096 && (Nat.ble 1 cb && (Nat.ble z.toNat sb && Nat.blt (mj_hd aux) 7)))) (sx_nw h (1100 + mj_hd aux) z.toNat fun i h => K y d rest L (.inr (.inr (some i)) :: st) (cb - 1) (sb - z.toNat) fs h Y) false) = true := hk
      refine hz.1 _ _ _ _ _ _ _ ?_
      obtain ⟨x, t, z, t', rfl, hx, hS, hk⟩ := sx_i1_s hk hS
      have hk := sx_kn_s hk hY hx
      obtain ⟨hc, hk⟩ := sx_cd hk
      obtain ⟨g1, hc⟩ := sx_nd hc
      obtain ⟨g2, hc⟩ := sx_nd hc
      obtain ⟨g3, hc⟩ := sx_nd hc
      obtain ⟨g4, g5⟩ := sx_nd hc
      have g1 : 0 ≤ z := sx_le_iff.mp g1
      have g2 := sx_ble g2
      have g5 := sx_blt g5
      refine ⟨g1, by omega, sx_ble g3, sx_ble g4, 1100 + mj_hd aux, (by show (1100 + mj_hd aux) % 1000 = 100 + mj_hd aux; omega), fun a ha => ?_⟩
      obtain ⟨h', u1, u2⟩ := sx_nw_s hk hH (by omega) ha
      exact go sx_wn_up u2 (hL.up sx_wn_up) ((hS.up sx_wn_up).c sx_wn_top.v) u1 hY.wn
    case multianewarray k k2 =>
      have hk : (sx_i1 st fun z st => sx_i1 st fun v st => sx_kn Y z fun z => sx_kn Y v fun v => cond (sx_le (.ofNat 0) z && (sx_le (.ofNat 0) v && (Nat.ble z.toNat 1000 && (Nat.ble v.toNat 1000 && (Nat.ble (1 + v.toNat) cb && Nat.ble (v.toNat + v.toNat * z.toNat) sb))))) (sx_nw h 1104 v.toNat fun i h => sx_rws 1100 z.toNat v.toNat h fun h => sx_cl h i fun t n a b c => sx_rfs (i + 1) v.toNat c fun c => sx_pt h i (t, n, a, b, c) fun h => K y d rest L (.inr (.inr (some i)) :: st) (cb - (1 + v.toNat)) (sb - (v.toNat + v.toNat * z.toNat)) fs h Y) false) = true := hk
      refine hz.1 _ _ _ _ _ _ _ ?_
      obtain ⟨x, t, z, t', rfl, hx, hS, hk⟩ := sx_i1_s hk hS
      obtain ⟨v, t, zv, t', rfl, hv, hS, hk⟩ := sx_i1_s hk hS
      have hk := sx_kn_s (sx_kn_s hk hY hx) hY hv
      obtain ⟨hc, hk⟩ := sx_cd hk
      obtain ⟨g1, hc⟩ := sx_nd hc
      obtain ⟨g2, hc⟩ := sx_nd hc
      obtain ⟨g3, hc⟩ := sx_nd hc
      obtain ⟨g4, hc⟩ := sx_nd hc
      obtain ⟨g5, g6⟩ := sx_nd hc
      have g1 : 0 ≤ z := sx_le_iff.mp g1
      have g2 : 0 ≤ zv := sx_le_iff.mp g2
      have g3 := sx_ble g3
      have g4 := sx_ble g4
      refine ⟨g1, by omega, g2, by omega, sx_ble g5, sx_ble g6, 1104, 1100, by decide, by decide, fun a ha => ?_⟩
      obtain ⟨h', u1, u2⟩ := sx_mul_s (k := fun i h => K y d rest L (.inr (.inr (some i)) :: t) (cb - (1 + zv.toNat)) (sb - (zv.toNat + zv.toNat * z.toNat)) fs h Y) hk hH ha
      exact go sx_wn_up u2 (hL.up sx_wn_up) ((hS.up sx_wn_up).c (sx_RO.v (by rw [Nat.add_comm 1]; exact sx_wn_top))) u1 hY.wn
    case new k =>
      have hk : (cond (!aux.isEmpty && (Nat.ble 1 cb && (Nat.ble (mj_h1 aux) sb && Nat.blt (mj_hd aux) 90))) (sx_nw h (1001 + mj_hd aux) 0 fun i h => K y d rest L (.inr (.inr (some i)) :: st) (cb - 1) (sb - mj_h1 aux) fs h Y) false) = true := hk
      refine hz.1 _ _ _ _ _ _ _ ?_
      obtain ⟨hc, hk⟩ := sx_cd hk
      obtain ⟨h0, hc⟩ := sx_nd hc
      obtain ⟨g3, hc⟩ := sx_nd hc
      obtain ⟨g4, g5⟩ := sx_nd hc
      have g5 := sx_blt g5
      have hne : aux ≠ [] := fun q => by rw [q] at h0; cases h0
      refine ⟨hne, sx_ble g3, sx_ble g4, 1001 + mj_hd aux, (by show (1001 + mj_hd aux) % 1000 = mj_hd aux + 1; omega), fun a ha => ?_⟩
      obtain ⟨h', u1, u2⟩ := sx_nw_s hk hH (by omega) ha
      exact go sx_wn_up u2 (hL.up sx_wn_up) ((hS.up sx_wn_up).c sx_wn_top.v) u1 hY.wn
    case invokevirtual k =>
      have hk : (!aux.isEmpty && sx_pop (mj_h1 aux) [] st fun As st => sx_a1 st fun a st => sx_cl h a fun t _ _ _ _ => cond (Nat.beq (Nat.mod t 1000) (mj_h2 aux + 1)) (sx_call K y d rest L st cb sb fs h Y (mj_hd aux) (.inr (.inr (some a)) :: As)) false) = true := hk
      refine hz.1 _ _ _ _ _ _ _ ?_
      obtain ⟨h0, hk⟩ := sx_nd hk
      have hne : aux ≠ [] := fun q => by rw [q] at h0; cases h0
      refine ⟨hne, sx_pop_s _ hk rfl hS (fun A t A' t' hA hS hk => ?_)⟩
      obtain ⟨i, t, t2, rfl, hi, hS, hk⟩ := sx_a1_s hk hS
      rw [sx_cl_eq] at hk
      obtain ⟨ht, hk⟩ := sx_cd hk
      obtain ⟨c1, c2, c3⟩ := hH.2.2.1 i (by rw [hH.1]; exact hi)
      exact ⟨_, _, c1, sx_beq ht, sx_call_s hK hk hz hL hS (hA.c (sx_RO.v ⟨hi, rfl⟩)) hF hH hY⟩
    case invokestatic k =>
      match aux, hk with
      | [], hk =>
        have hk : (cond (Nat.beq y 900) (sx_tl K y d rest L st cb sb fs h Y) false) = true := hk
        obtain ⟨hy, hk⟩ := sx_cd hk
        have hy := sx_beq hy
        subst hy
        cases fs with
        | cons f fs => cases hk
        | nil =>
          have hk : sx_told K 900 d rest L st cb sb [] h Y = true := hk
          unfold sx_told at hk
          obtain ⟨x1, t, o1, t', rfl, -, hS, hk⟩ := sx_r1_s hk hS
          obtain ⟨x2, t, z2, t', rfl, -, hS, hk⟩ := sx_i1_s hk hS
          obtain ⟨x3, t, z3, t', rfl, -, hS, hk⟩ := sx_i1_s hk hS
          obtain ⟨i, t, t', rfl, hi, hS, hk⟩ := sx_a1_s hk hS
          rw [sx_cl_eq] at hk
          obtain ⟨a1, a2, a3⟩ := hH.2.2.1 i (by rw [hH.1]; exact hi)
          have a4 := (a3 1 (by decide)).2.2
          split at hk
          · cases hk
          · rename_i b hb
            rw [hb] at a4
            obtain ⟨hbl, a4⟩ := a4
            rw [sx_cl_eq] at hk
            obtain ⟨b1, b2, b3⟩ := hH.2.2.1 b (by rw [hH.1]; exact hbl)
            have b4 := (b3 0 (by decide)).2.2
            split at hk
            · cases hk
            · rename_i c hc
              rw [hc] at b4
              obtain ⟨hcl, b4⟩ := b4
              rw [sx_cl_eq] at hk
              obtain ⟨c1, c2, c3⟩ := hH.2.2.1 c (by rw [hH.1]; exact hcl)
              have hk := sx_kn_s hk hY (c3 4 (by decide)).1
              obtain ⟨hc, hk⟩ := sx_cd hk
              obtain ⟨g1, hc⟩ := sx_nd hc
              obtain ⟨g2, hc⟩ := sx_nd hc
              obtain ⟨g3, hc⟩ := sx_nd hc
              obtain ⟨g4, hc⟩ := sx_nd hc
              obtain ⟨g5, hc⟩ := sx_nd hc
              obtain ⟨g6, g7⟩ := sx_nd hc
              exact (hz.2 rfl rfl).1 k pc imm rest L' t' G M cb sb o1 z2 z3 _ _ _ _ _ _ _ _ _ a1 (sx_beq g1) a4 b1 (sx_beq g2) b4 c1 (sx_beq g3) (sx_eq_iff.mp g4) (by rw [← sx_cat_s hS]; exact sx_ble g5) (sx_ble g6) (sx_ble g7) (go sx_up.rf hk hL (hS.c (sx_RI.v rfl)) hH hY)
      | [f, v], hk =>
        refine hz.1 _ _ _ _ _ _ _ ?_
        exact sx_lib_s (k := fun st h => K y d rest L st cb sb fs h Y) (k' := fun st M => Z rest L' st G M cb sb) hk hS hH hY (fun t t' h' M' u1 u2 u3 => go sx_up.rf u1 hL u2 u3 hY)
      | [f], hk =>
        refine hz.1 _ _ _ _ _ _ _ ?_
        exact ⟨List.cons_ne_nil _ _, sx_pop_s (k := fun As st => sx_call K y d rest L st cb sb fs h Y (mj_hd [f]) As) _ hk rfl hS (fun A t A' t' hA hS hk => sx_call_s hK hk hz hL hS hA hF hH hY)⟩
      | f :: v :: v2 :: aux, hk =>
        refine hz.1 _ _ _ _ _ _ _ ?_
        exact ⟨List.cons_ne_nil _ _, sx_pop_s (k := fun As st => sx_call K y d rest L st cb sb fs h Y (mj_hd (f :: v :: v2 :: aux)) As) _ hk rfl hS (fun A t A' t' hA hS hk => sx_call_s hK hk hz hL hS hA hF hH hY)⟩
    case invokespecial k =>
      refine hz.1 _ _ _ _ _ _ _ ?_
      match aux, hk with
      | [], hk =>
        have hk : (sx_a1 st fun _ st => cond (Nat.ble (sx_cat st) 8) (K y d rest L st cb sb fs h Y) false) = true := hk
        obtain ⟨i, t, t', rfl, hi, hS, hk⟩ := sx_a1_s hk hS
        obtain ⟨h8, hk⟩ := sx_cd hk
        exact ⟨by rw [← sx_cat_s hS]; exact sx_ble h8, go sx_up.rf hk hL hS hH hY⟩
      | f :: aux, hk =>
        refine sx_pop_s (k := fun As st => sx_a1 st fun a st => sx_cl h a fun t _ _ _ _ => cond (Nat.beq (Nat.mod t 1000) (mj_h2 (f :: aux) + 1)) (sx_call K y d rest L st cb sb fs h Y f (.inr (.inr (some a)) :: As)) false) _ hk rfl hS (fun A t A' t' hA hS hk => ?_)
        obtain ⟨i, t, t2, rfl, hi, hS, hk⟩ := sx_a1_s hk hS
        rw [sx_cl_eq] at hk
        obtain ⟨ht, hk⟩ := sx_cd hk
        obtain ⟨c1, c2, c3⟩ := hH.2.2.1 i (by rw [hH.1]; exact hi)
        exact ⟨_, _, c1, sx_beq ht, sx_call_s hK hk hz hL hS (hA.c (sx_RO.v ⟨hi, rfl⟩)) hF hH hY⟩
    case ireturn =>
      have hk : (sx_i1 st fun z st => st.isEmpty && ((cond (sx_eq imm (.ofNat 1)) (sx_tf Y z) true) && sx_back K fs h Y (some (.inl z)))) = true := hk
      refine hz.1 _ _ _ _ _ _ _ ?_
      obtain ⟨x, t, z, t', rfl, hx, hS, hk⟩ := sx_i1_s hk hS
      obtain ⟨he, hk2⟩ := sx_nd hk
      obtain ⟨hb, hk3⟩ := sx_nd hk2
      obtain rfl : t = [] := by cases t with
        | nil => rfl
        | cons _ _ => cases he
      obtain rfl : t' = [] := hS
      refine ⟨rfl, fun q => ?_, sx_back_s hK hk3 ⟨_, rfl, hx.v⟩ hF hH hY⟩
      exact sx_tf_s (sx_ct hb (sx_eq_iff.mpr q)) hY hx
    case return_ =>
      have hk : (st.isEmpty && sx_back K fs h Y none) = true := hk
      refine hz.1 _ _ _ _ _ _ _ ?_
      obtain ⟨he, hk3⟩ := sx_nd hk
      obtain rfl : st = [] := by cases st with
        | nil => rfl
        | cons _ _ => cases he
      obtain rfl : st' = [] := hS
      exact ⟨rfl, sx_back_s hK hk3 rfl hF hH hY⟩
    all_goals cases hk
theorem sx_ex_s {q : sx_q} : ∀ n, sx_ks q (sx_ex n)
  | 0 => fun _ _ _ _ _ _ _ _ _ _ h => by cases h
  | n + 1 => sx_st_s (sx_ex_s n)
