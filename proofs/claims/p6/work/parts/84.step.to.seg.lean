section
/-! ===== the step ===== -/
theorem ab_recv {G : mj_G} {t n j : Nat} {o : Option Nat} (h : ab_rt G (t, n) o) (hc : t % 1000 = j + 1) (hj : j ≠ 0 ∨ t ≠ 1) : ∃ a, o = some a ∧ (G a).1 % 1000 = j + 1 := by
  rcases h with g | g | g | g
  · rw [show t = 0 from g.1] at hc; simp at hc
  · rw [show t = 1 from g.1] at hc hj
    have : j = 0 := by omega
    rcases hj with hj | hj
    · exact absurd this hj
    · exact absurd rfl hj
  · obtain ⟨a, g1, g2⟩ := g.2
    exact ⟨a, g1, by rw [← hc, show t = 50 from g.1, g2]⟩
  · obtain ⟨a, g1, g2⟩ := g.2.2.2
    exact ⟨a, g1, by rw [g2]; exact hc⟩
set_option maxHeartbeats 8000000 in
theorem ab_st_s {c : ab_co} {id : Nat} {G : mj_G} {M0 : mj_M} {w0 wA : ab_wd} {A : Option (List (ab_I × Nat))} {K : ab_K} (hK : ab_ks c G M0 w0 wA A K) (hok : ∀ j, j < id → ab_ok (ab_tb j)) (g1 : w0.1 = (ab_p c).1.length) (g2 : w0.2.2.1 = (ab_p c).2.1.length) : ab_ks c G M0 w0 wA A (ab_st c id K) := by
  intro y d i rest L st fs Y R m E hk w L' st' M Q Z dd cb sb hd hz hi hL hS hF hY hR hM hE hI hFm hu huA
  cases rest with
  | nil => cases hk
  | cons x rest =>
    have hi' : rest = (ab_full y).drop (Nat.succ i) := by
      have h1 : ((ab_full y).drop i).drop 1 = rest := by rw [← hi]; rfl
      rw [List.drop_drop] at h1
      rw [← h1]
    obtain ⟨ins, pc, aux, imm⟩ := x
    have go : ∀ {w1 : ab_wd} {i1 : Nat} {rest1 : List mj_E} {L1 : ab_L} {L1' : mj_L} {st1 : List ab_V} {st1' : List mj_V} {Y1 : ab_Y} {R1 : ab_R} {m1 : ab_m} {E1 : ab_E} {M1 : mj_M}, ab_up w w1 → K y d i1 rest1 L1 st1 fs Y1 R1 m1 E1 = true → rest1 = (ab_full y).drop i1 → ab_RL w1 L1 L1' → ab_RS w1 st1 st1' → ab_RY w1 Y1 → ab_RR w1 G R1 → ab_RM w1 M1 m1 → ab_RE w1 E1 → ab_Inv G M1 → ab_frm (ab_w c) G M0 M1 → Z rest1 L1' st1' G M1 cb sb := fun u k1 k2 k3 k4 k5 k6 k7 k8 k9 k10 => hK _ _ _ _ _ _ _ _ _ _ _ k1 _ _ _ _ Q Z dd cb sb hd hz k2 k3 k4 (hF.up u) k5 k6 k7 k8 k9 k10 (hu.tr u) (huA.tr u)
    cases ins
    case iload_n k =>
      have hk : (ab_ldi L k.val fun v => K y d (Nat.succ i) rest L (.inl (ab_nr Y v) :: st) fs Y R m E) = true := hk
      refine hz.1 _ _ _ _ _ _ _ ?_
      obtain ⟨x, z, h1, h2, hk⟩ := ab_ldi_s hk hL
      show mj_ldi L' k.val (fun v => Z rest L' (v :: st') G M cb sb)
      unfold mj_ldi
      rw [h1]
      exact go ab_up.rf hk hi' hL (hS.c (ab_nr_s hY h2).v) hY hR hM hE hI hFm
    case iload k =>
      have hk : (ab_ldi L k fun v => K y d (Nat.succ i) rest L (.inl (ab_nr Y v) :: st) fs Y R m E) = true := hk
      refine hz.1 _ _ _ _ _ _ _ ?_
      obtain ⟨x, z, h1, h2, hk⟩ := ab_ldi_s hk hL
      show mj_ldi L' k (fun v => Z rest L' (v :: st') G M cb sb)
      unfold mj_ldi
      rw [h1]
      exact go ab_up.rf hk hi' hL (hS.c (ab_nr_s hY h2).v) hY hR hM hE hI hFm
    case lload_n k =>
      have hk : (ab_ldl L k.val (K y d (Nat.succ i) rest L (.inr (.inl ()) :: st) fs Y R m E)) = true := hk
      refine hz.1 _ _ _ _ _ _ _ ?_
      obtain ⟨z, h1, hk⟩ := ab_ldl_s hk hL
      show mj_ldl L' k.val (fun v => Z rest L' (v :: st') G M cb sb)
      unfold mj_ldl
      rw [h1]
      exact go ab_up.rf hk hi' hL (hS.c ab_RV.l) hY hR hM hE hI hFm
    case lload k =>
      have hk : (ab_ldl L k (K y d (Nat.succ i) rest L (.inr (.inl ()) :: st) fs Y R m E)) = true := hk
      refine hz.1 _ _ _ _ _ _ _ ?_
      obtain ⟨z, h1, hk⟩ := ab_ldl_s hk hL
      show mj_ldl L' k (fun v => Z rest L' (v :: st') G M cb sb)
      unfold mj_ldl
      rw [h1]
      exact go ab_up.rf hk hi' hL (hS.c ab_RV.l) hY hR hM hE hI hFm
    case aload_n k =>
      have hk : (ab_lda L k.val fun v => K y d (Nat.succ i) rest L (.inr (.inr v) :: st) fs Y R m E) = true := hk
      refine hz.1 _ _ _ _ _ _ _ ?_
      obtain ⟨r, h1, h2, hk⟩ := ab_lda_s hk hL
      show mj_lda L' k.val (fun v => Z rest L' (v :: st') G M cb sb)
      unfold mj_lda
      rw [h1]
      exact go ab_up.rf hk hi' hL (hS.c (ab_RV.r h2 rfl)) hY hR hM hE hI hFm
    case aload k =>
      have hk : (ab_lda L k fun v => K y d (Nat.succ i) rest L (.inr (.inr v) :: st) fs Y R m E) = true := hk
      refine hz.1 _ _ _ _ _ _ _ ?_
      obtain ⟨r, h1, h2, hk⟩ := ab_lda_s hk hL
      show mj_lda L' k (fun v => Z rest L' (v :: st') G M cb sb)
      unfold mj_lda
      rw [h1]
      exact go ab_up.rf hk hi' hL (hS.c (ab_RV.r h2 rfl)) hY hR hM hE hI hFm
    case istore_n k =>
      have hk : (ab_i1 st fun z st => K y d (Nat.succ i) rest (ab_s1 L k.val (.inl z)) st fs Y R m E) = true := hk
      refine hz.1 _ _ _ _ _ _ _ ?_
      obtain ⟨x, t, z, t', rfl, hx, hS, hk⟩ := ab_i1_s hk hS
      exact go ab_up.rf hk hi' (ab_s1_s hL hx.v) hS hY hR hM hE hI hFm
    case istore k =>
      have hk : (ab_i1 st fun z st => K y d (Nat.succ i) rest (ab_s1 L k (.inl z)) st fs Y R m E) = true := hk
      refine hz.1 _ _ _ _ _ _ _ ?_
      obtain ⟨x, t, z, t', rfl, hx, hS, hk⟩ := ab_i1_s hk hS
      exact go ab_up.rf hk hi' (ab_s1_s hL hx.v) hS hY hR hM hE hI hFm
    case lstore_n k =>
      have hk : (ab_l1 st fun st => K y d (Nat.succ i) rest (ab_s2 L k.val (.inr (.inl ()))) st fs Y R m E) = true := hk
      refine hz.1 _ _ _ _ _ _ _ ?_
      obtain ⟨t, z, t', rfl, hS, hk⟩ := ab_l1_s hk hS
      exact go ab_up.rf hk hi' (ab_s2_s hL ab_RV.l) hS hY hR hM hE hI hFm
    case lstore k =>
      have hk : (ab_l1 st fun st => K y d (Nat.succ i) rest (ab_s2 L k (.inr (.inl ()))) st fs Y R m E) = true := hk
      refine hz.1 _ _ _ _ _ _ _ ?_
      obtain ⟨t, z, t', rfl, hS, hk⟩ := ab_l1_s hk hS
      exact go ab_up.rf hk hi' (ab_s2_s hL ab_RV.l) hS hY hR hM hE hI hFm
    case astore_n k =>
      have hk : (ab_r1 st fun z st => K y d (Nat.succ i) rest (ab_s1 L k.val (.inr (.inr z))) st fs Y R m E) = true := hk
      refine hz.1 _ _ _ _ _ _ _ ?_
      obtain ⟨r, t, t', rfl, hr, hS, hk⟩ := ab_r1_s hk hS
      exact go ab_up.rf hk hi' (ab_s1_s hL (ab_RV.r hr rfl)) hS hY hR hM hE hI hFm
    case astore k =>
      have hk : (ab_r1 st fun z st => K y d (Nat.succ i) rest (ab_s1 L k (.inr (.inr z))) st fs Y R m E) = true := hk
      refine hz.1 _ _ _ _ _ _ _ ?_
      obtain ⟨r, t, t', rfl, hr, hS, hk⟩ := ab_r1_s hk hS
      exact go ab_up.rf hk hi' (ab_s1_s hL (ab_RV.r hr rfl)) hS hY hR hM hE hI hFm
    case iinc k z =>
      have hk : (ab_ldi L k fun v => ab_add Y v (.inl z) fun v Y => K y d (Nat.succ i) rest (ab_s1 L k (.inl v)) st fs Y R m E) = true := hk
      refine hz.1 _ _ _ _ _ _ _ ?_
      obtain ⟨x, zx, h1, h2, hk⟩ := ab_ldi_s hk hL
      show mj_ldi L' k (fun v => mj_i1 [v] fun q _ => (mj_in (q + z) ∧ Z rest (mj_s1 L' k (.inl (q + z))) st' G M cb sb) ∨ ∀ q', mj_in q' → q' = (Int32.ofInt q + Int32.ofInt z).toInt → Z rest (mj_s1 L' k (.inl q')) st' G M cb sb)
      unfold mj_ldi
      rw [h1]
      rcases ab_add_s (zy := z) hk hY h2 rfl with ⟨u0, w', v, Y', u1, u2, u3, u4⟩ | hk
      · exact Or.inl ⟨u0, go u1.1 u4 hi' (ab_s1_s (hL.up u1.1) u3.v) (hS.up u1.1) u2 (hR.ey u1) (hM.up u1.1) (hE.up u1.1) hI hFm⟩
      · refine Or.inr (fun q' hq _ => ?_)
        obtain ⟨w', v, Y', u1, u2, u3, u4⟩ := hk q' hq
        exact go u1.1 u4 hi' (ab_s1_s (hL.up u1.1) u3.v) (hS.up u1.1) u2 (hR.ey u1) (hM.up u1.1) (hE.up u1.1) hI hFm
    case iconst z =>
      have hk : (K y d (Nat.succ i) rest L (.inl (.inl z) :: st) fs Y R m E) = true := hk
      refine hz.1 _ _ _ _ _ _ _ ?_
      exact go ab_up.rf hk hi' hL (hS.c (ab_RI.v (x := .inl z) rfl)) hY hR hM hE hI hFm
    case bipush z =>
      have hk : (K y d (Nat.succ i) rest L (.inl (.inl z) :: st) fs Y R m E) = true := hk
      refine hz.1 _ _ _ _ _ _ _ ?_
      exact go ab_up.rf hk hi' hL (hS.c (ab_RI.v (x := .inl z) rfl)) hY hR hM hE hI hFm
    case sipush z =>
      have hk : (K y d (Nat.succ i) rest L (.inl (.inl z) :: st) fs Y R m E) = true := hk
      refine hz.1 _ _ _ _ _ _ _ ?_
      exact go ab_up.rf hk hi' hL (hS.c (ab_RI.v (x := .inl z) rfl)) hY hR hM hE hI hFm
    case ldc k =>
      have hk : (K y d (Nat.succ i) rest L (.inl (.inl imm) :: st) fs Y R m E) = true := hk
      refine hz.1 _ _ _ _ _ _ _ ?_
      exact go ab_up.rf hk hi' hL (hS.c (ab_RI.v (x := .inl imm) rfl)) hY hR hM hE hI hFm
    case ldc_w k =>
      have hk : (K y d (Nat.succ i) rest L (.inl (.inl imm) :: st) fs Y R m E) = true := hk
      refine hz.1 _ _ _ _ _ _ _ ?_
      exact go ab_up.rf hk hi' hL (hS.c (ab_RI.v (x := .inl imm) rfl)) hY hR hM hE hI hFm
    case ldc2_w k =>
      have hk : (K y d (Nat.succ i) rest L (.inr (.inl ()) :: st) fs Y R m E) = true := hk
      refine hz.1 _ _ _ _ _ _ _ ?_
      exact go ab_up.rf hk hi' hL (hS.c ab_RV.l) hY hR hM hE hI hFm
    case lconst z =>
      have hk : (K y d (Nat.succ i) rest L (.inr (.inl ()) :: st) fs Y R m E) = true := hk
      refine hz.1 _ _ _ _ _ _ _ ?_
      exact go ab_up.rf hk hi' hL (hS.c ab_RV.l) hY hR hM hE hI hFm
    case aconst_null =>
      have hk : (K y d (Nat.succ i) rest L (.inr (.inr R.length) :: st) fs Y (R ++ [(1, 0)]) m E) = true := hk
      refine hz.1 _ _ _ _ _ _ _ ?_
      obtain ⟨w1, u1, u2, u3, u4⟩ := ab_nw_s (q := (1, 0)) (o := none) hR (Or.inr (Or.inl ⟨rfl, rfl⟩))
      exact go u1.1 hk hi' (hL.up u1.1) ((hS.up u1.1).c (ab_RV.r u3 u4)) (hY.er u1) u2 (hM.up u1.1) (hE.up u1.1) hI hFm
    case iadd =>
      have hk : (ab_i1 st fun v st => ab_i1 st fun u st => ab_add Y u v fun q Y => K y d (Nat.succ i) rest L (.inl q :: st) fs Y R m E) = true := hk
      refine hz.1 _ _ _ _ _ _ _ ?_
      obtain ⟨y2, t, zy, t', rfl, hy, hS, hk⟩ := ab_i1_s hk hS
      obtain ⟨x2, t, zx, t', rfl, hx, hS, hk⟩ := ab_i1_s hk hS
      rcases ab_add_s hk hY hx hy with ⟨u0, w', v, Y', u1, u2, u3, u4⟩ | hk
      · exact Or.inl ⟨u0, go u1.1 u4 hi' (hL.up u1.1) ((hS.up u1.1).c u3.v) u2 (hR.ey u1) (hM.up u1.1) (hE.up u1.1) hI hFm⟩
      · refine Or.inr (fun q' hq _ => ?_)
        obtain ⟨w', v, Y', u1, u2, u3, u4⟩ := hk q' hq
        exact go u1.1 u4 hi' (hL.up u1.1) ((hS.up u1.1).c u3.v) u2 (hR.ey u1) (hM.up u1.1) (hE.up u1.1) hI hFm
    case isub =>
      have hk : (ab_i1 st fun v st => ab_i1 st fun u st => ab_sub Y u v fun q Y => K y d (Nat.succ i) rest L (.inl q :: st) fs Y R m E) = true := hk
      refine hz.1 _ _ _ _ _ _ _ ?_
      obtain ⟨y2, t, zy, t', rfl, hy, hS, hk⟩ := ab_i1_s hk hS
      obtain ⟨x2, t, zx, t', rfl, hx, hS, hk⟩ := ab_i1_s hk hS
      rcases ab_sub_s hk hY hx hy with ⟨u0, w', v, Y', u1, u2, u3, u4⟩ | hk
      · exact Or.inl ⟨u0, go u1.1 u4 hi' (hL.up u1.1) ((hS.up u1.1).c u3.v) u2 (hR.ey u1) (hM.up u1.1) (hE.up u1.1) hI hFm⟩
      · refine Or.inr (fun q' hq _ => ?_)
        obtain ⟨w', v, Y', u1, u2, u3, u4⟩ := hk q' hq
        exact go u1.1 u4 hi' (hL.up u1.1) ((hS.up u1.1).c u3.v) u2 (hR.ey u1) (hM.up u1.1) (hE.up u1.1) hI hFm
    case imul =>
      have hk : (ab_i1 st fun v st => ab_i1 st fun u st => ab_mul Y u v fun q Y => K y d (Nat.succ i) rest L (.inl q :: st) fs Y R m E) = true := hk
      refine hz.1 _ _ _ _ _ _ _ ?_
      obtain ⟨y2, t, zy, t', rfl, hy, hS, hk⟩ := ab_i1_s hk hS
      obtain ⟨x2, t, zx, t', rfl, hx, hS, hk⟩ := ab_i1_s hk hS
      rcases ab_mul_s hk hY hx hy with ⟨u0, w', v, Y', u1, u2, u3, u4⟩ | hk
      · exact Or.inl ⟨u0, go u1.1 u4 hi' (hL.up u1.1) ((hS.up u1.1).c u3.v) u2 (hR.ey u1) (hM.up u1.1) (hE.up u1.1) hI hFm⟩
      · refine Or.inr (fun q' hq _ => ?_)
        obtain ⟨w', v, Y', u1, u2, u3, u4⟩ := hk q' hq
        exact go u1.1 u4 hi' (hL.up u1.1) ((hS.up u1.1).c u3.v) u2 (hR.ey u1) (hM.up u1.1) (hE.up u1.1) hI hFm
    case idiv =>
      have hk : (ab_dv Y st false fun q Y st => K y d (Nat.succ i) rest L (.inl q :: st) fs Y R m E) = true := hk
      refine hz.1 _ _ _ _ _ _ _ ?_
      exact ab_dv_s (k' := fun st => Z rest L' st G M cb sb) hk hS hY ⟨fun q => (by cases q), fun _ => rfl⟩ (fun w' x z Y' t t' u1 u2 u3 u4 u5 => go u1.1 u5 hi' (hL.up u1.1) (u4.c u3.v) u2 (hR.ey u1) (hM.up u1.1) (hE.up u1.1) hI hFm)
    case irem =>
      have hk : (ab_dv Y st true fun q Y st => K y d (Nat.succ i) rest L (.inl q :: st) fs Y R m E) = true := hk
      refine hz.1 _ _ _ _ _ _ _ ?_
      exact ab_dv_s (k' := fun st => Z rest L' st G M cb sb) hk hS hY ⟨fun _ => rfl, fun q => by cases q⟩ (fun w' x z Y' t t' u1 u2 u3 u4 u5 => go u1.1 u5 hi' (hL.up u1.1) (u4.c u3.v) u2 (hR.ey u1) (hM.up u1.1) (hE.up u1.1) hI hFm)
    case iand =>
      have hk : (ab_bit Y E st true (fun x y => x &&& y) fun v Y E st => K y d (Nat.succ i) rest L (.inl v :: st) fs Y R m E) = true := hk
      refine hz.1 _ _ _ _ _ _ _ ?_
      exact ab_bit_s (k' := fun st => Z rest L' st G M cb sb) hk hS hY hE (fun q => rfl) (fun w' x z Y' E' t t' u1 u2 u3 u4 u5 u6 => go u1.1 u6 hi' (hL.up u1.1) (u5.c u3.v) u2 (hR.ey u1) (hM.up u1.1) u4 hI hFm)
    case ior =>
      have hk : (ab_bit Y E st false (fun x y => x ||| y) fun v Y E st => K y d (Nat.succ i) rest L (.inl v :: st) fs Y R m E) = true := hk
      refine hz.1 _ _ _ _ _ _ _ ?_
      exact ab_bit_s (k' := fun st => Z rest L' st G M cb sb) hk hS hY hE (fun q => by cases q) (fun w' x z Y' E' t t' u1 u2 u3 u4 u5 u6 => go u1.1 u6 hi' (hL.up u1.1) (u5.c u3.v) u2 (hR.ey u1) (hM.up u1.1) u4 hI hFm)
    case ishl =>
      have hk : (ab_bit Y E st false (fun x y => x <<< (y &&& 31)) fun v Y E st => K y d (Nat.succ i) rest L (.inl v :: st) fs Y R m E) = true := hk
      refine hz.1 _ _ _ _ _ _ _ ?_
      exact ab_bit_s (k' := fun st => Z rest L' st G M cb sb) hk hS hY hE (fun q => by cases q) (fun w' x z Y' E' t t' u1 u2 u3 u4 u5 u6 => go u1.1 u6 hi' (hL.up u1.1) (u5.c u3.v) u2 (hR.ey u1) (hM.up u1.1) u4 hI hFm)
    case ishr =>
      have hk : (ab_bit Y E st false (fun x y => x >>> (y &&& 31)) fun v Y E st => K y d (Nat.succ i) rest L (.inl v :: st) fs Y R m E) = true := hk
      refine hz.1 _ _ _ _ _ _ _ ?_
      exact ab_bit_s (k' := fun st => Z rest L' st G M cb sb) hk hS hY hE (fun q => by cases q) (fun w' x z Y' E' t t' u1 u2 u3 u4 u5 u6 => go u1.1 u6 hi' (hL.up u1.1) (u5.c u3.v) u2 (hR.ey u1) (hM.up u1.1) u4 hI hFm)
    case iushr =>
      have hk : (ab_bit Y E st false (fun x y => (x.toUInt32 >>> (y.toUInt32 &&& Int32.toUInt32 31)).toInt32) fun v Y E st => K y d (Nat.succ i) rest L (.inl v :: st) fs Y R m E) = true := hk
      refine hz.1 _ _ _ _ _ _ _ ?_
      exact ab_bit_s (k' := fun st => Z rest L' st G M cb sb) hk hS hY hE (fun q => by cases q) (fun w' x z Y' E' t t' u1 u2 u3 u4 u5 u6 => go u1.1 u6 hi' (hL.up u1.1) (u5.c u3.v) u2 (hR.ey u1) (hM.up u1.1) u4 hI hFm)
    case ineg =>
      have hk : (ab_un Y st true (fun x => -x) fun v Y st => K y d (Nat.succ i) rest L (.inl v :: st) fs Y R m E) = true := hk
      refine hz.1 _ _ _ _ _ _ _ ?_
      exact ab_un_s (k' := fun st => Z rest L' st G M cb sb) hk hS hY ⟨fun _ => rfl, fun q => by cases q⟩ (fun w' x z Y' t t' u1 u2 u3 u4 u5 => go u1.1 u5 hi' (hL.up u1.1) (u4.c u3.v) u2 (hR.ey u1) (hM.up u1.1) (hE.up u1.1) hI hFm)
    case i2b =>
      have hk : (ab_un Y st false (fun x => x.toInt8.toInt32) fun v Y st => K y d (Nat.succ i) rest L (.inl v :: st) fs Y R m E) = true := hk
      refine hz.1 _ _ _ _ _ _ _ ?_
      exact ab_un_s (k' := fun st => Z rest L' st G M cb sb) hk hS hY ⟨fun q => (by cases q), fun _ => rfl⟩ (fun w' x z Y' t t' u1 u2 u3 u4 u5 => go u1.1 u5 hi' (hL.up u1.1) (u4.c u3.v) u2 (hR.ey u1) (hM.up u1.1) (hE.up u1.1) hI hFm)
    case lor =>
      have hk : (ab_l1 st fun st => ab_l1 st fun st => K y d (Nat.succ i) rest L (.inr (.inl ()) :: st) fs Y R m E) = true := hk
      refine hz.1 _ _ _ _ _ _ _ ?_
      obtain ⟨t, z1, t', rfl, hS, hk⟩ := ab_l1_s hk hS
      obtain ⟨t, z2, t', rfl, hS, hk⟩ := ab_l1_s hk hS
      exact go ab_up.rf hk hi' hL (hS.c ab_RV.l) hY hR hM hE hI hFm
    case land =>
      have hk : (ab_l1 st fun st => ab_l1 st fun st => K y d (Nat.succ i) rest L (.inr (.inl ()) :: st) fs Y R m E) = true := hk
      refine hz.1 _ _ _ _ _ _ _ ?_
      obtain ⟨t, z1, t', rfl, hS, hk⟩ := ab_l1_s hk hS
      obtain ⟨t, z2, t', rfl, hS, hk⟩ := ab_l1_s hk hS
      exact go ab_up.rf hk hi' hL (hS.c ab_RV.l) hY hR hM hE hI hFm
    case lshl =>
      have hk : (ab_i1 st fun _ st => ab_l1 st fun st => K y d (Nat.succ i) rest L (.inr (.inl ()) :: st) fs Y R m E) = true := hk
      refine hz.1 _ _ _ _ _ _ _ ?_
      obtain ⟨x2, t, zx, t', rfl, hx, hS, hk⟩ := ab_i1_s hk hS
      obtain ⟨t, z2, t', rfl, hS, hk⟩ := ab_l1_s hk hS
      exact go ab_up.rf hk hi' hL (hS.c ab_RV.l) hY hR hM hE hI hFm
    case lshr =>
      have hk : (ab_i1 st fun _ st => ab_l1 st fun st => K y d (Nat.succ i) rest L (.inr (.inl ()) :: st) fs Y R m E) = true := hk
      refine hz.1 _ _ _ _ _ _ _ ?_
      obtain ⟨x2, t, zx, t', rfl, hx, hS, hk⟩ := ab_i1_s hk hS
      obtain ⟨t, z2, t', rfl, hS, hk⟩ := ab_l1_s hk hS
      exact go ab_up.rf hk hi' hL (hS.c ab_RV.l) hY hR hM hE hI hFm
    case lcmp =>
      have hk : (ab_l1 st fun st => ab_l1 st fun st => ab_fr Y (.negSucc 0) (.ofNat 1) [] fun v Y => K y d (Nat.succ i) rest L (.inl v :: st) fs Y R m E) = true := hk
      refine hz.1 _ _ _ _ _ _ _ ?_
      obtain ⟨t, z1, t', rfl, hS, hk⟩ := ab_l1_s hk hS
      obtain ⟨t, z2, t', rfl, hS, hk⟩ := ab_l1_s hk hS
      intro z hz1 hz2
      have hb : (-1 : Int) ≤ z ∧ z ≤ 1 := by
        rw [hz2]
        unfold lg_cmp
        repeat' split
        all_goals decide
      obtain ⟨w', v, Y', u1, u2, u3, u4⟩ := ab_fr_s (z := z) hk hY (show (-1 : Int) ≤ z from hb.1) (show z ≤ (1 : Int) from hb.2) (fun r hr => by cases hr)
      exact go u1.1 u4 hi' (hL.up u1.1) ((hS.up u1.1).c u3.v) u2 (hR.ey u1) (hM.up u1.1) (hE.up u1.1) hI hFm
    case i2l =>
      have hk : (ab_i1 st fun _ st => K y d (Nat.succ i) rest L (.inr (.inl ()) :: st) fs Y R m E) = true := hk
      refine hz.1 _ _ _ _ _ _ _ ?_
      obtain ⟨x2, t, zx, t', rfl, hx, hS, hk⟩ := ab_i1_s hk hS
      exact go ab_up.rf hk hi' hL (hS.c ab_RV.l) hY hR hM hE hI hFm
    case l2i =>
      have hk : (ab_l1 st fun st => ab_ff Y fun v Y => K y d (Nat.succ i) rest L (.inl v :: st) fs Y R m E) = true := hk
      refine hz.1 _ _ _ _ _ _ _ ?_
      obtain ⟨t, z1, t', rfl, hS, hk⟩ := ab_l1_s hk hS
      intro z hz1 _
      obtain ⟨w', v, Y', u1, u2, u3, u4⟩ := ab_ff_s hk hY hz1
      exact go u1.1 u4 hi' (hL.up u1.1) ((hS.up u1.1).c u3.v) u2 (hR.ey u1) (hM.up u1.1) (hE.up u1.1) hI hFm
    case dup =>
      have hk : (ab_v1 st fun v st => K y d (Nat.succ i) rest L (v :: v :: st) fs Y R m E) = true := hk
      refine hz.1 _ _ _ _ _ _ _ ?_
      obtain ⟨x2, t, v, t', rfl, c1, hv, hS, hk⟩ := ab_v1_s hk hS
      exact c1 (fun v st => Z rest L' (v :: v :: st) G M cb sb) (go ab_up.rf hk hi' hL ((hS.c hv).c hv) hY hR hM hE hI hFm)
    case dup2 =>
      have hk : (ab_v1 st fun v st => ab_v1 st fun q st => K y d (Nat.succ i) rest L (v :: q :: v :: q :: st) fs Y R m E) = true := hk
      refine hz.1 _ _ _ _ _ _ _ ?_
      obtain ⟨x2, t, v, t', rfl, c1, hv, hS, hk⟩ := ab_v1_s hk hS
      obtain ⟨x3, t, v3, t', rfl, c2, hv3, hS, hk⟩ := ab_v1_s hk hS
      exact c1 (fun v st => mj_c1 st fun q st => Z rest L' (v :: q :: v :: q :: st) G M cb sb) (c2 (fun q st => Z rest L' (v :: q :: v :: q :: st) G M cb sb) (go ab_up.rf hk hi' hL ((((hS.c hv3).c hv).c hv3).c hv) hY hR hM hE hI hFm))
    case pop =>
      have hk : (ab_v1 st fun _ st => K y d (Nat.succ i) rest L st fs Y R m E) = true := hk
      refine hz.1 _ _ _ _ _ _ _ ?_
      obtain ⟨x2, t, v, t', rfl, c1, hv, hS, hk⟩ := ab_v1_s hk hS
      exact c1 (fun _ st => Z rest L' st G M cb sb) (go ab_up.rf hk hi' hL hS hY hR hM hE hI hFm)
    case ifCond cd off =>
      have hk : (ab_i1 st fun z st => ab_br cd Y z (.inl (.ofNat 0)) (fun Y => K y d (mj_hd aux) ((ab_full y).drop (mj_hd aux)) L st fs Y R m E) (fun Y => K y d (Nat.succ i) rest L st fs Y R m E)) = true := hk
      refine hz.1 _ _ _ _ _ _ _ ?_
      obtain ⟨x2, t, zx, t', rfl, hx, hS, hk⟩ := ab_i1_s hk hS
      exact ab_br_s (y := .inl (.ofNat 0)) (zy := 0) hk hY hx rfl (fun Y1 u1 u2 => go ab_up.rf u2 rfl hL hS u1 hR hM hE hI hFm) (fun Y1 u1 u2 => go ab_up.rf u2 hi' hL hS u1 hR hM hE hI hFm)
    case if_icmp cd off =>
      have hk : (ab_i1 st fun v st => ab_i1 st fun z st => ab_br cd Y z v (fun Y => K y d (mj_hd aux) ((ab_full y).drop (mj_hd aux)) L st fs Y R m E) (fun Y => K y d (Nat.succ i) rest L st fs Y R m E)) = true := hk
      refine hz.1 _ _ _ _ _ _ _ ?_
      obtain ⟨y2, t, zy, t', rfl, hy, hS, hk⟩ := ab_i1_s hk hS
      obtain ⟨x2, t, zx, t', rfl, hx, hS, hk⟩ := ab_i1_s hk hS
      exact ab_br_s hk hY hx hy (fun Y1 u1 u2 => go ab_up.rf u2 rfl hL hS u1 hR hM hE hI hFm) (fun Y1 u1 u2 => go ab_up.rf u2 hi' hL hS u1 hR hM hE hI hFm)
    case ifnull off =>
      have hk : (ab_r1 st fun z st => ab_tg R z fun t _ => cond (Nat.beq t 0 || Nat.beq t 1) (K y d (mj_hd aux) ((ab_full y).drop (mj_hd aux)) L st fs Y (cond (Nat.beq t 0) (R.set z (1, 0)) R) m E) true && cond (Nat.beq t 1) true (K y d (Nat.succ i) rest L st fs Y (cond (Nat.beq t 0) (R.set z (50, 0)) R) m E)) = true := hk
      refine hz.1 _ _ _ _ _ _ _ ?_
      obtain ⟨r, t, t', rfl, hr, hS, hk⟩ := ab_r1_s hk hS
      obtain ⟨tg, n, e1, hk, e2, e3⟩ := ab_tg_s hk hR
      obtain ⟨hk1, hk2⟩ := sx_nd hk
      have nul : w.2.2.2 r = none → (Nat.beq tg 0 || Nat.beq tg 1) = true ∧ ab_RR w G (cond (Nat.beq tg 0) (R.set r (1, 0)) R) := fun e => by
        rw [e] at e2
        rcases e2 with g | g | g | g
        · rw [show tg = 0 from g.1]
          exact ⟨rfl, hR.set (q := (1, 0)) (by rw [e]; exact Or.inr (Or.inl ⟨rfl, rfl⟩))⟩
        · rw [show tg = 1 from g.1]; exact ⟨rfl, hR⟩
        · obtain ⟨a, g1, -⟩ := g.2; cases g1
        · obtain ⟨a, g1, -⟩ := g.2.2.2; cases g1
      have non : w.2.2.2 r ≠ none → (Nat.beq tg 1) ≠ true ∧ ab_RR w G (cond (Nat.beq tg 0) (R.set r (50, 0)) R) := fun e => by
        rcases e2 with g | g | g | g
        · rw [show tg = 0 from g.1]
          rcases g.2 with g | g
          · exact absurd g e
          · exact ⟨by decide, hR.set (q := (50, 0)) (Or.inr (Or.inr (Or.inl ⟨rfl, g⟩)))⟩
        · exact absurd g.2 e
        · rw [show tg = 50 from g.1]; exact ⟨by decide, hR⟩
        · have g0 : tg ≠ 0 := g.1
          have g1 : tg ≠ 1 := g.2.1
          have b0 : Nat.beq tg 0 = false := by cases q : Nat.beq tg 0 with
            | true => exact absurd (sx_beq q) g0
            | false => rfl
          rw [b0]
          exact ⟨fun q => g1 (sx_beq q), hR⟩
      refine ⟨fun q => ?_, fun q => ?_⟩
      · obtain ⟨n1, n2⟩ := nul q
        exact go ab_up.rf (sx_ct hk1 n1) rfl hL hS hY n2 hM hE hI hFm
      · obtain ⟨n1, n2⟩ := non q
        exact go ab_up.rf (sx_cf hk2 n1) hi' hL hS hY n2 hM hE hI hFm
    case ifnonnull off =>
      have hk : (ab_r1 st fun z st => ab_tg R z fun t _ => cond (Nat.beq t 1) true (K y d (mj_hd aux) ((ab_full y).drop (mj_hd aux)) L st fs Y (cond (Nat.beq t 0) (R.set z (50, 0)) R) m E) && cond (Nat.beq t 0 || Nat.beq t 1) (K y d (Nat.succ i) rest L st fs Y (cond (Nat.beq t 0) (R.set z (1, 0)) R) m E) true) = true := hk
      refine hz.1 _ _ _ _ _ _ _ ?_
      obtain ⟨r, t, t', rfl, hr, hS, hk⟩ := ab_r1_s hk hS
      obtain ⟨tg, n, e1, hk, e2, e3⟩ := ab_tg_s hk hR
      obtain ⟨hk1, hk2⟩ := sx_nd hk
      have nul : w.2.2.2 r = none → (Nat.beq tg 0 || Nat.beq tg 1) = true ∧ ab_RR w G (cond (Nat.beq tg 0) (R.set r (1, 0)) R) := fun e => by
        rw [e] at e2
        rcases e2 with g | g | g | g
        · rw [show tg = 0 from g.1]
          exact ⟨rfl, hR.set (q := (1, 0)) (by rw [e]; exact Or.inr (Or.inl ⟨rfl, rfl⟩))⟩
        · rw [show tg = 1 from g.1]; exact ⟨rfl, hR⟩
        · obtain ⟨a, g1, -⟩ := g.2; cases g1
        · obtain ⟨a, g1, -⟩ := g.2.2.2; cases g1
      have non : w.2.2.2 r ≠ none → (Nat.beq tg 1) ≠ true ∧ ab_RR w G (cond (Nat.beq tg 0) (R.set r (50, 0)) R) := fun e => by
        rcases e2 with g | g | g | g
        · rw [show tg = 0 from g.1]
          rcases g.2 with g | g
          · exact absurd g e
          · exact ⟨by decide, hR.set (q := (50, 0)) (Or.inr (Or.inr (Or.inl ⟨rfl, g⟩)))⟩
        · exact absurd g.2 e
        · rw [show tg = 50 from g.1]; exact ⟨by decide, hR⟩
        · have g0 : tg ≠ 0 := g.1
          have g1 : tg ≠ 1 := g.2.1
          have b0 : Nat.beq tg 0 = false := by cases q : Nat.beq tg 0 with
            | true => exact absurd (sx_beq q) g0
            | false => rfl
          rw [b0]
          exact ⟨fun q => g1 (sx_beq q), hR⟩
      refine ⟨fun q => ?_, fun q => ?_⟩
      · obtain ⟨n1, n2⟩ := non q
        exact go ab_up.rf (sx_cf hk1 n1) rfl hL hS hY n2 hM hE hI hFm
      · obtain ⟨n1, n2⟩ := nul (Classical.not_not.mp q)
        exact go ab_up.rf (sx_ct hk2 n1) hi' hL hS hY n2 hM hE hI hFm
    case if_acmp cd off =>
      refine hz.1 _ _ _ _ _ _ _ ?_
      have hk : (ab_r1 st fun b st => ab_r1 st fun a st => ab_tg R a fun ta na => ab_tg R b fun tb nb => cond (Nat.ble 900000 tb && (Nat.beq (Nat.mod tb 1000) 50 && Nat.beq nb 0)) (cond (Nat.beq ta tb && Nat.beq na 0) (ab_aq cd (K y d (mj_hd aux) ((ab_full y).drop (mj_hd aux)) L st fs Y R m E) (K y d (Nat.succ i) rest L st fs Y R m E)) (cond (Nat.beq ta 0 || Nat.beq ta 50) (ab_aq cd (K y d (mj_hd aux) ((ab_full y).drop (mj_hd aux)) L st fs Y (R.set a (tb, 0)) m E && K y d (Nat.succ i) rest L st fs Y R m E) (K y d (mj_hd aux) ((ab_full y).drop (mj_hd aux)) L st fs Y R m E && K y d (Nat.succ i) rest L st fs Y (R.set a (tb, 0)) m E)) (cond (Nat.beq ta 1 || Nat.ble 900000 ta && Nat.beq (Nat.mod ta 1000) 50) (ab_aq cd (K y d (Nat.succ i) rest L st fs Y R m E) (K y d (mj_hd aux) ((ab_full y).drop (mj_hd aux)) L st fs Y R m E)) false))) false) = true := hk
      obtain ⟨b, t, t', rfl, hb, hS, hk⟩ := ab_r1_s hk hS
      obtain ⟨a, t, t', rfl, ha, hS, hk⟩ := ab_r1_s hk hS
      obtain ⟨ta, na, e1, hk, e2, -⟩ := ab_tg_s hk hR
      obtain ⟨tb, nb, f1, hk, f2, -⟩ := ab_tg_s hk hR
      obtain ⟨hc, hk⟩ := sx_cd hk
      obtain ⟨c1, hc⟩ := sx_nd hc
      obtain ⟨c2, c3⟩ := sx_nd hc
      have c1 := sx_ble c1
      have c2 : tb % 1000 = 50 := sx_beq c2
      have c3 := sx_beq c3
      obtain ⟨pb, b1, b2⟩ := ab_rt_a f2 (by omega) (by omega) (by omega)
      rw [c3] at b2
      have jmp : K y d (mj_hd aux) ((ab_full y).drop (mj_hd aux)) L t fs Y R m E = true → Z ((ab_full y).drop (mj_hd aux)) L' t' G M cb sb := fun h => go ab_up.rf h rfl hL hS hY hR hM hE hI hFm
      have nxt : K y d (Nat.succ i) rest L t fs Y R m E = true → Z rest L' t' G M cb sb := fun h => go ab_up.rf h hi' hL hS hY hR hM hE hI hFm
      show mj_br (mj_rc cd (w.2.2.2 a) (w.2.2.2 b)) (Z ((ab_full y).drop (mj_hd aux)) L' t' G M cb sb) (Z rest L' t' G M cb sb)
      cases h1 : (Nat.beq ta tb && Nat.beq na 0) with
      | true =>
        rw [h1] at hk
        dsimp only [cond_true] at hk
        obtain ⟨i1, i2⟩ := sx_nd h1
        have i1 := sx_beq i1
        have i2 := sx_beq i2
        obtain ⟨pa, a1, a2⟩ := ab_rt_a e2 (by omega) (by omega) (by omega)
        have e : pa = pb := hI.2.2.2.1 pa pb (by rw [a2, i1]; exact c2) (by rw [a2, b2, i1, i2])
        have e : w.2.2.2 a = w.2.2.2 b := by rw [a1, b1, e]
        cases cd with
        | eq => exact ⟨fun _ => jmp hk, fun q => absurd e q⟩
        | ne => exact ⟨fun q => absurd e q, fun _ => nxt hk⟩
      | false =>
        rw [h1] at hk
        dsimp only [cond_false] at hk
        cases h2 : (Nat.beq ta 0 || Nat.beq ta 50) with
        | true =>
          rw [h2] at hk
          dsimp only [cond_true] at hk
          have hset : w.2.2.2 a = w.2.2.2 b → ab_RR w G (R.set a (tb, 0)) := fun e => hR.set (q := (tb, 0)) (by rw [e, b1]; exact Or.inr (Or.inr (Or.inr ⟨by show tb ≠ 0; omega, by show tb ≠ 1; omega, by show tb ≠ 50; omega, pb, rfl, b2⟩)))
          cases cd with
          | eq =>
            obtain ⟨k1, k2⟩ := sx_nd hk
            exact ⟨fun e => go ab_up.rf k1 rfl hL hS hY (hset e) hM hE hI hFm, fun _ => nxt k2⟩
          | ne =>
            obtain ⟨k1, k2⟩ := sx_nd hk
            exact ⟨fun _ => jmp k1, fun q => go ab_up.rf k2 hi' hL hS hY (hset (Classical.not_not.mp q)) hM hE hI hFm⟩
        | false =>
          rw [h2] at hk
          dsimp only [cond_false] at hk
          obtain ⟨h3, hk⟩ := sx_cd hk
          have hne : w.2.2.2 a ≠ w.2.2.2 b := fun e => by
            rw [e, b1] at e2
            rw [Bool.or_eq_true] at h3
            rcases h3 with h3 | h3
            · rw [sx_beq h3] at e2
              rcases e2 with g | g | g | g
              · exact absurd (show (1 : Nat) = 0 from g.1) (by decide)
              · cases g.2
              · exact absurd (show (1 : Nat) = 50 from g.1) (by decide)
              · exact absurd rfl g.2.1
            · obtain ⟨k1, k2⟩ := sx_nd h3
              have k1 := sx_ble k1
              obtain ⟨pa, a1, a2⟩ := ab_rt_a e2 (by omega) (by omega) (by omega)
              cases a1
              rw [b2] at a2
              have q1 : tb = ta := (Prod.mk.inj a2).1
              have q2 : 0 = na := (Prod.mk.inj a2).2
              rw [← q1, ← q2] at h1
              rw [show Nat.beq tb tb = true from Nat.beq_refl tb] at h1
              cases h1
          cases cd with
          | eq => exact ⟨fun q => absurd q hne, fun _ => nxt hk⟩
          | ne => exact ⟨fun _ => jmp hk, fun q => absurd hne q⟩
    case goto off =>
      have hk : (K y d (mj_hd aux) ((ab_full y).drop (mj_hd aux)) L st fs Y R m E) = true := hk
      refine hz.1 _ _ _ _ _ _ _ ?_
      exact go ab_up.rf hk rfl hL hS hY hR hM hE hI hFm
    case getstatic k =>
      have hk : (!aux.isEmpty && K y d (Nat.succ i) rest L (.inr (.inr R.length) :: st) fs Y (R ++ [mj_wt (mj_hd aux)]) m E) = true := hk
      refine hz.1 _ _ _ _ _ _ _ ?_
      obtain ⟨ha, hk⟩ := sx_nd hk
      refine ⟨fun q => (by rw [show aux = [] from q] at ha; cases ha), fun a hga => ?_⟩
      have ht : (mj_wt (mj_hd aux)).1 ≠ 0 ∧ (mj_wt (mj_hd aux)).1 ≠ 1 ∧ (mj_wt (mj_hd aux)).1 ≠ 50 := by
        unfold mj_wt
        cases Nat.blt (mj_hd aux) 24 with
        | true => exact ⟨by show 900050 + 1000 * _ ≠ 0; omega, by show 900050 + 1000 * _ ≠ 1; omega, by show 900050 + 1000 * _ ≠ 50; omega⟩
        | false => exact ⟨by show (900105 : Nat) ≠ 0; decide, by show (900105 : Nat) ≠ 1; decide, by show (900105 : Nat) ≠ 50; decide⟩
      obtain ⟨w1, u1, u2, u3, u4⟩ := ab_nw_s (q := mj_wt (mj_hd aux)) (o := some a) hR (Or.inr (Or.inr (Or.inr ⟨ht.1, ht.2.1, ht.2.2, a, rfl, hga⟩)))
      exact go u1.1 hk hi' (hL.up u1.1) ((hS.up u1.1).c (ab_RV.r u3 u4)) (hY.er u1) u2 (hM.up u1.1) (hE.up u1.1) hI hFm
    case getfield k =>
      have hk : (!aux.isEmpty && cond (Nat.beq (mj_hd aux) 49) (ab_gw (mj_h1 aux) st Y R fun st R => K y d (Nat.succ i) rest L st fs Y R m E) (ab_get c y i (mj_hd aux) (mj_h1 aux) st Y R m fun st Y R m => K y d (Nat.succ i) rest L st fs Y R m E)) = true := hk
      refine hz.1 _ _ _ _ _ _ _ ?_
      obtain ⟨ha, hk⟩ := sx_nd hk
      refine ⟨fun q => (by rw [show aux = [] from q] at ha; cases ha), fun q => ?_, fun q => ?_⟩
      · rw [show Nat.beq (mj_hd aux) 49 = true by rw [show mj_hd aux = 49 from q]; rfl] at hk
        dsimp only [cond_true] at hk
        exact ab_gw_s (M := M) (k' := fun st => Z rest L' st G M cb sb) hk hS hR hI (fun t t' R' u1 u2 u3 => go ab_up.rf u3 hi' hL u2 hY u1 hM hE hI hFm)
      · have b0 : Nat.beq (mj_hd aux) 49 = false := by cases q2 : Nat.beq (mj_hd aux) 49 with
          | true => exact absurd (sx_beq q2) q
          | false => rfl
        rw [b0] at hk
        dsimp only [cond_false] at hk
        exact ab_get_s (k' := fun st => Z rest L' st G M cb sb) hk hS hY hR hM hI (fun w' t t' Y' R' m' u1 u2 u3 u4 u5 u6 => go u1 u6 hi' (hL.up u1) u5 u2 u3 u4 (hE.up u1) hI hFm)
    case putfield k =>
      have hk : (!aux.isEmpty && ab_put c (mj_hd aux) (mj_h1 aux) st Y R m fun st Y m => K y d (Nat.succ i) rest L st fs Y R m E) = true := hk
      refine hz.1 _ _ _ _ _ _ _ ?_
      obtain ⟨ha, hk⟩ := sx_nd hk
      refine ⟨fun q => (by rw [show aux = [] from q] at ha; cases ha), ?_⟩
      exact ab_put_s (k' := fun st M => Z rest L' st G M cb sb) hk hS hY hR hM hI hFm (fun w' t t' Y' m' M' u1 u2 u3 u4 u5 u6 u7 => go u1.1 u7 hi' (hL.up u1.1) u6 u2 (hR.ey u1) u3 (hE.up u1.1) u4 u5)
    case iaload =>
      have hk : (ab_ix Y st R fun r t x st => cond (Nat.beq (Nat.mod t 1000) 100) (ab_rdi Y R m r x fun v Y m => ab_psh c y i Y v fun v Y => K y d (Nat.succ i) rest L (.inl v :: st) fs Y R m E) false) = true := hk
      refine hz.1 _ _ _ _ _ _ _ ?_
      obtain ⟨r, tg, n, x2, z, s, s', rfl, e1, e2, hx, z0, z1, hS, hk⟩ := ab_ix_s hk hS hY hR
      obtain ⟨hc, hk⟩ := sx_cd hk
      have hc : tg % 1000 = 100 + 0 := sx_beq hc
      obtain ⟨a, a1, a2⟩ := ab_ar e2 hc
      obtain ⟨-, a', b1, w1, v, Y1, m1, u1, u2, u3, u4, u5⟩ := ab_rdi_s hk hY hR hM hI hx z0
      have ea : a' = a := Option.some.inj (b1.symm.trans a1)
      subst ea
      obtain ⟨x', Y2, o1, o2, o3⟩ := ab_psh_s u5 u2 u4
      rw [b1]
      exact ⟨tg, n, a2, hc, z0, z1, go u1.1 o3 hi' (hL.up u1.1) ((hS.up u1.1).c o2.v) o1 (hR.ey u1) u3 (hE.up u1.1) hI hFm⟩
    case baload =>
      have hk : (ab_ix Y st R fun r t x st => cond (Nat.beq (Nat.mod t 1000) 101 || Nat.beq (Nat.mod t 1000) 102) (ab_rdi Y R m r x fun v Y m => K y d (Nat.succ i) rest L (.inl v :: st) fs Y R m E) false) = true := hk
      refine hz.1 _ _ _ _ _ _ _ ?_
      obtain ⟨r, tg, n, x2, z, s, s', rfl, e1, e2, hx, z0, z1, hS, hk⟩ := ab_ix_s hk hS hY hR
      obtain ⟨hc, hk⟩ := sx_cd hk
      rw [Bool.or_eq_true] at hc
      rcases hc with hc | hc
      · have hc : tg % 1000 = 100 + 1 := sx_beq hc
        obtain ⟨a, a1, a2⟩ := ab_ar e2 hc
        obtain ⟨-, a', b1, w1, v, Y1, m1, u1, u2, u3, u4, u5⟩ := ab_rdi_s hk hY hR hM hI hx z0
        have ea : a' = a := Option.some.inj (b1.symm.trans a1)
        subst ea
        rw [b1]
        exact Or.inl ⟨tg, n, a2, hc, z0, z1, go u1.1 u5 hi' (hL.up u1.1) ((hS.up u1.1).c u4.v) u2 (hR.ey u1) u3 (hE.up u1.1) hI hFm⟩
      · have hc : tg % 1000 = 100 + 2 := sx_beq hc
        obtain ⟨a, a1, a2⟩ := ab_ar e2 hc
        obtain ⟨-, a', b1, w1, v, Y1, m1, u1, u2, u3, u4, u5⟩ := ab_rdi_s hk hY hR hM hI hx z0
        have ea : a' = a := Option.some.inj (b1.symm.trans a1)
        subst ea
        rw [b1]
        exact Or.inr ⟨tg, n, a2, hc, z0, z1, go u1.1 u5 hi' (hL.up u1.1) ((hS.up u1.1).c u4.v) u2 (hR.ey u1) u3 (hE.up u1.1) hI hFm⟩
    case laload =>
      have hk : (ab_ix Y st R fun _ t _ st => cond (Nat.beq (Nat.mod t 1000) 103) (K y d (Nat.succ i) rest L (.inr (.inl ()) :: st) fs Y R m E) false) = true := hk
      refine hz.1 _ _ _ _ _ _ _ ?_
      obtain ⟨r, tg, n, x2, z, s, s', rfl, e1, e2, hx, z0, z1, hS, hk⟩ := ab_ix_s hk hS hY hR
      obtain ⟨hc, hk⟩ := sx_cd hk
      have hc : tg % 1000 = 100 + 3 := sx_beq hc
      obtain ⟨a, a1, a2⟩ := ab_ar e2 hc
      rw [a1]
      exact ⟨tg, n, a2, hc, z0, z1, go ab_up.rf hk hi' hL (hS.c ab_RV.l) hY hR hM hE hI hFm⟩
    case aaload =>
      have hk : (ab_ix Y st R fun r t v st => cond (Nat.beq (Nat.mod t 1000) (100 + mj_hd aux)) (ab_rdr Y R m r v fun u R m => K y d (Nat.succ i) rest L (.inr (.inr u) :: st) fs Y R m E) false) = true := hk
      refine hz.1 _ _ _ _ _ _ _ ?_
      obtain ⟨r, tg, n, x2, z, s, s', rfl, e1, e2, hx, z0, z1, hS, hk⟩ := ab_ix_s hk hS hY hR
      obtain ⟨hc, hk⟩ := sx_cd hk
      have hc : tg % 1000 = 100 + mj_hd aux := sx_beq hc
      obtain ⟨a, a1, a2⟩ := ab_ar e2 hc
      obtain ⟨-, a', b1, w1, v, R1, m1, u1, u2, u3, u4, u5, u6⟩ := ab_rdr_s hk hY hR hM hI hx z0
      have ea : a' = a := Option.some.inj (b1.symm.trans a1)
      subst ea
      rw [b1]
      refine ⟨tg, n, a2, hc, z0, z1, fun b hb => ?_, fun hb => ?_⟩
      · exact go u1.1 u6 hi' (hL.up u1.1) ((hS.up u1.1).c (ab_RV.r u4 (by rw [← u5, hb]))) (hY.er u1) u2 u3 (hE.up u1.1) hI hFm
      · exact go u1.1 u6 hi' (hL.up u1.1) ((hS.up u1.1).c (ab_RV.r u4 (by rw [← u5, hb]))) (hY.er u1) u2 u3 (hE.up u1.1) hI hFm
    case iastore =>
      have hk : (ab_i1 st fun z st => ab_ix Y st R fun r t x st => cond (Nat.beq (Nat.mod t 1000) 100) (ab_wri (ab_w c) Y R m r x z fun Y m => K y d (Nat.succ i) rest L st fs Y R m E) false) = true := hk
      refine hz.1 _ _ _ _ _ _ _ ?_
      obtain ⟨v2, t, zv, t', rfl, hv, hS, hk⟩ := ab_i1_s hk hS
      obtain ⟨r, tg, n, x2, z, s, s', rfl, e1, e2, hx, z0, z1, hS, hk⟩ := ab_ix_s hk hS hY hR
      obtain ⟨hc, hk⟩ := sx_cd hk
      have hc : tg % 1000 = 100 + 0 := sx_beq hc
      obtain ⟨t2, n2, a, b0, b1, b2, b3, b4, b5, w1, Y1, m1, u1, u2, u3, u4⟩ := ab_wri_s hk hY hR hM hI hFm hx z0 hv
      rw [e1] at b0
      cases b0
      rw [b1]
      exact ⟨tg, n, b2, hc, b3, z0, z1, go u1.1 u4 hi' (hL.up u1.1) (hS.up u1.1) u2 (hR.ey u1) u3 (hE.up u1.1) b4 b5⟩
    case bastore =>
      have hk : (ab_i1 st fun z st => ab_ix Y st R fun r t x st => cond (Nat.beq (Nat.mod t 1000) 101) (ab_iv Y z fun a b => cond (sx_le (.negSucc 127) a && sx_le b (.ofNat 127)) (ab_wri (ab_w c) Y R m r x z fun Y m => K y d (Nat.succ i) rest L st fs Y R m E) (ab_fr Y (.negSucc 127) (.ofNat 127) [] fun z Y => ab_wri (ab_w c) Y R m r x z fun Y m => K y d (Nat.succ i) rest L st fs Y R m E)) (cond (Nat.beq (Nat.mod t 1000) 102 && ab_tf Y z) (ab_wri (ab_w c) Y R m r x z fun Y m => K y d (Nat.succ i) rest L st fs Y R m E) false)) = true := hk
      refine hz.1 _ _ _ _ _ _ _ ?_
      obtain ⟨v2, t, zv, t', rfl, hv, hS, hk⟩ := ab_i1_s hk hS
      obtain ⟨r, tg, n, x2, z, s, s', rfl, e1, e2, hx, z0, z1, hS, hk⟩ := ab_ix_s hk hS hY hR
      cases hc : Nat.beq (Nat.mod tg 1000) 101 with
      | true =>
        rw [hc] at hk
        dsimp only [cond_true] at hk
        have hc : tg % 1000 = 100 + 1 := sx_beq hc
        obtain ⟨lo, hi9, hk, l1, l2⟩ := ab_iv_s hk hY hv
        refine Or.inl ?_
        cases hb : (sx_le (.negSucc 127) lo && sx_le hi9 (.ofNat 127)) with
        | true =>
          rw [hb] at hk
          dsimp only [cond_true] at hk
          obtain ⟨q1, q2⟩ := sx_nd hb
          have q1 : (-128 : Int) ≤ lo := sx_le_iff.mp q1
          have q2 : hi9 ≤ (127 : Int) := sx_le_iff.mp q2
          obtain ⟨t2, n2, a, b0, b1, b2, b3, b4, b5, w1, Y1, m1, u1, u2, u3, u4⟩ := ab_wri_s hk hY hR hM hI hFm hx z0 hv
          rw [e1] at b0
          cases b0
          rw [b1]
          refine ⟨tg, n, b2, hc, b3, z0, z1, ?_⟩
          rw [ab_nb1 (z := zv) (by omega) (by omega)]
          exact go u1.1 u4 hi' (hL.up u1.1) (hS.up u1.1) u2 (hR.ey u1) u3 (hE.up u1.1) b4 b5
        | false =>
          rw [hb] at hk
          dsimp only [cond_false] at hk
          have nb := ab_nb (z := zv)
          obtain ⟨w9, v9, Y9, k1, k2, k3, hk⟩ := ab_fr_s (z := mj_nb zv) hk hY (show (-128 : Int) ≤ _ from nb.1) (show _ ≤ (127 : Int) from nb.2) (fun r hr => by cases hr)
          obtain ⟨t2, n2, a, b0, b1, b2, b3, b4, b5, w1, Y1, m1, u1, u2, u3, u4⟩ := ab_wri_s hk k2 (hR.ey k1) (hM.up k1.1) hI hFm (hx.up k1.1) z0 k3
          rw [e1] at b0
          cases b0
          rw [k1.2] at b1
          rw [b1]
          exact ⟨tg, n, b2, hc, b3, z0, z1, go (k1.1.tr u1.1) u4 hi' ((hL.up k1.1).up u1.1) ((hS.up k1.1).up u1.1) u2 ((hR.ey k1).ey u1) u3 ((hE.up k1.1).up u1.1) b4 b5⟩
      | false =>
        rw [hc] at hk
        dsimp only [cond_false] at hk
        obtain ⟨hc, hk⟩ := sx_cd hk
        obtain ⟨hc, hb⟩ := sx_nd hc
        have hc : tg % 1000 = 100 + 2 := sx_beq hc
        obtain ⟨t2, n2, a, b0, b1, b2, b3, b4, b5, w1, Y1, m1, u1, u2, u3, u4⟩ := ab_wri_s hk hY hR hM hI hFm hx z0 hv
        rw [e1] at b0
        cases b0
        rw [b1]
        exact Or.inr ⟨ab_tf_s hb hY hv, tg, n, b2, hc, b3, z0, z1, go u1.1 u4 hi' (hL.up u1.1) (hS.up u1.1) u2 (hR.ey u1) u3 (hE.up u1.1) b4 b5⟩
    case lastore =>
      have hk : (ab_l1 st fun st => ab_ix Y st R fun _ t _ st => cond (Nat.beq (Nat.mod t 1000) 103 && (Nat.blt t 900000 && !Nat.beq t 55103)) (K y d (Nat.succ i) rest L st fs Y R m E) false) = true := hk
      refine hz.1 _ _ _ _ _ _ _ ?_
      obtain ⟨t, zl, t', rfl, hS, hk⟩ := ab_l1_s hk hS
      obtain ⟨r, tg, n, x2, z, s, s', rfl, e1, e2, hx, z0, z1, hS, hk⟩ := ab_ix_s hk hS hY hR
      obtain ⟨hc, hk⟩ := sx_cd hk
      obtain ⟨hc, h9⟩ := sx_nd hc
      obtain ⟨h9, h99⟩ := sx_nd h9
      have hc : tg % 1000 = 100 + 3 := sx_beq hc
      obtain ⟨a, a1, a2⟩ := ab_ar e2 hc
      rw [a1]
      exact ⟨tg, n, a2, hc, sx_blt h9, z0, z1, go (M1 := mj_p1 M a z.toNat zl) ab_up.rf hk hi' hL hS hY hR hM hE (hI.p1 (by rw [a2]; intro e; have e : tg = 55103 := e; rw [e] at h99; exact absurd h99 (by decide))) hFm⟩
    case aastore =>
      have hk : (ab_r1 st fun u st => ab_ix Y st R fun r t v st => cond (Nat.beq (Nat.mod t 1000) (100 + mj_hd aux) && (Nat.beq (mj_hd aux) 5 || Nat.beq (mj_hd aux) 6)) (ab_tg R u fun tu _ => cond (Nat.beq tu 0 || (Nat.beq tu 1 || (Nat.beq (mj_hd aux) 5 && Nat.beq (Nat.mod tu 1000) 50 || Nat.beq (mj_hd aux) 6 && Nat.beq (Nat.mod tu 1000) 7))) (cond (Nat.beq tu 0 && !Nat.beq (mj_hd aux) 5) false (ab_wrr (ab_w c) Y R m r v u fun Y m => K y d (Nat.succ i) rest L st fs Y R m E)) false) false) = true := hk
      refine hz.1 _ _ _ _ _ _ _ ?_
      obtain ⟨u9, t, t', rfl, hu9, hS, hk⟩ := ab_r1_s hk hS
      obtain ⟨r, tg, n, x2, z, s, s', rfl, e1, e2, hx, z0, z1, hS, hk⟩ := ab_ix_s hk hS hY hR
      obtain ⟨hc, hk⟩ := sx_cd hk
      obtain ⟨hc, h56⟩ := sx_nd hc
      have hc : tg % 1000 = 100 + mj_hd aux := sx_beq hc
      obtain ⟨tu, nu, f1, hk, f2, -⟩ := ab_tg_s hk hR
      obtain ⟨hcu, hk⟩ := sx_cd hk
      cases h0 : (Nat.beq tu 0 && !Nat.beq (mj_hd aux) 5) with
      | true => rw [h0] at hk; cases hk
      | false =>
        rw [h0] at hk
        dsimp only [cond_false] at hk
        obtain ⟨-, t2, n2, a, b0, b1, b2, b3, b4, b5, w1, Y1, m1, u1, u2, u3, u4⟩ := ab_wrr_s hk hY hR hM hI hFm hx z0
        rw [e1] at b0
        cases b0
        rw [b1]
        refine ⟨tg, n, b2, hc, b3, z0, z1, fun b hb => ?_, go u1.1 u4 hi' (hL.up u1.1) (hS.up u1.1) u2 (hR.ey u1) u3 (hE.up u1.1) b4 b5⟩
        rw [hb] at f2
        have w5 : (G b).1 % 1000 = 50 → mj_hd aux = 5 → (mj_hd aux = 6 ∧ mj_is G b 7 fun _ _ => True) ∨ (mj_hd aux = 5 ∧ mj_is G b 50 fun _ _ => True) := fun q1 q2 => Or.inr ⟨q2, (G b).1, (G b).2, rfl, q1, trivial⟩
        rw [Bool.or_eq_true, Bool.or_eq_true, Bool.or_eq_true] at hcu
        rcases hcu with g | g | g | g
        · have g := sx_beq g
          rw [g] at h0 f2
          have h5 : mj_hd aux = 5 := by
            cases q : Nat.beq (mj_hd aux) 5 with
            | true => exact sx_beq q
            | false => rw [q] at h0; cases h0
          rcases f2 with v | v | v | v
          · rcases v.2 with v | ⟨b', v1, v2⟩
            · cases v
            · cases v1; exact w5 v2 h5
          · cases v.2
          · exact absurd (show (0 : Nat) = 50 from v.1) (by decide)
          · exact absurd rfl v.1
        · have g := sx_beq g
          rw [g] at f2
          rcases f2 with v | v | v | v
          · exact absurd (show (1 : Nat) = 0 from v.1) (by decide)
          · cases v.2
          · exact absurd (show (1 : Nat) = 50 from v.1) (by decide)
          · exact absurd rfl v.2.1
        · obtain ⟨g1, g2⟩ := sx_nd g
          have g2 : tu % 1000 = 50 := sx_beq g2
          rcases f2 with v | v | v | v
          · rw [show tu = 0 from v.1] at g2; simp at g2
          · cases v.2
          · obtain ⟨b', v1, v2⟩ := v.2; cases v1; exact w5 v2 (sx_beq g1)
          · obtain ⟨b', v1, v2⟩ := v.2.2.2; cases v1; exact w5 (by rw [v2]; exact g2) (sx_beq g1)
        · obtain ⟨g1, g2⟩ := sx_nd g
          have g2 : tu % 1000 = 7 := sx_beq g2
          obtain ⟨b', v1, v2⟩ := ab_rt_a f2 (fun q => by rw [q] at g2; simp at g2) (fun q => by rw [q] at g2; simp at g2) (fun q => by rw [q] at g2; simp at g2)
          cases v1
          exact Or.inl ⟨sx_beq g1, tu, nu, v2, g2, trivial⟩
    case tableswitch df lo hi9 offs =>
      have hk : (ab_i1 st fun z st => ab_iv Y z fun a b => (cond (sx_le lo a) true (ab_rf1 .lt Y z lo lo fun Y => K y d (mj_hd aux) ((ab_full y).drop (mj_hd aux)) L st fs Y R m E) && cond (sx_le b hi9) true (ab_rf1 .gt Y z hi9 hi9 fun Y => K y d (mj_hd aux) ((ab_full y).drop (mj_hd aux)) L st fs Y R m E)) && ab_swt Y z a b (fun t Y => K y d t ((ab_full y).drop t) L st fs Y R m E) lo (aux.drop 1)) = true := hk
      refine hz.1 _ _ _ _ _ _ _ ?_
      obtain ⟨x2, t, z, t', rfl, hx, hS, hk⟩ := ab_i1_s hk hS
      obtain ⟨a, b, hk, l1, l2⟩ := ab_iv_s hk hY hx
      obtain ⟨hk, hk3⟩ := sx_nd hk
      obtain ⟨hk1, hk2⟩ := sx_nd hk
      refine ⟨fun q => ?_, ab_swt_s (k' := fun t9 => Z ((ab_full y).drop t9) L' t' G M cb sb) hY hx l1 l2 (fun t9 Y1 u1 u2 => go ab_up.rf u2 rfl hL hS u1 hR hM hE hI hFm) _ _ hk3⟩
      rcases q with q | q
      · have hk1 := sx_cf hk1 (fun g => by have := sx_le_iff.mp g; omega)
        obtain ⟨Y1, u1, u2⟩ := ab_rf1_s (cd := .lt) hk1 hY hx (show z < lo from q) (Int.le_refl _) (Int.le_refl _)
        exact go ab_up.rf u2 rfl hL hS u1 hR hM hE hI hFm
      · have hk2 := sx_cf hk2 (fun g => by have := sx_le_iff.mp g; omega)
        obtain ⟨Y1, u1, u2⟩ := ab_rf1_s (cd := .gt) hk2 hY hx (show hi9 < z from q) (Int.le_refl _) (Int.le_refl _)
        exact go ab_up.rf u2 rfl hL hS u1 hR hM hE hI hFm
    case arraylength =>
      have hk : (ab_r1 st fun r st => ab_tg R r fun t n => cond (Nat.ble 100 (Nat.mod t 1000) && (Nat.blt (Nat.mod t 1000) 107 && Nat.ble n 4096)) (K y d (Nat.succ i) rest L (.inl (.inl (.ofNat n)) :: st) fs Y R m E) false) = true := hk
      refine hz.1 _ _ _ _ _ _ _ ?_
      obtain ⟨r, t, t', rfl, hr, hS, hk⟩ := ab_r1_s hk hS
      obtain ⟨tg, n, e1, hk, e2, -⟩ := ab_tg_s hk hR
      obtain ⟨hc, hk⟩ := sx_cd hk
      obtain ⟨c1, hc⟩ := sx_nd hc
      obtain ⟨c2, c3⟩ := sx_nd hc
      have c1 : 100 ≤ tg % 1000 := sx_ble c1
      have c2 : tg % 1000 < 107 := sx_blt c2
      have c3 := sx_ble c3
      obtain ⟨a, a1, a2⟩ := ab_ar (j := tg % 1000 - 100) e2 (by omega)
      rw [a1]
      exact ⟨tg, n, tg % 1000 - 100, a2, by omega, by omega, ⟨by omega, by omega⟩, go ab_up.rf hk hi' hL (hS.c (ab_RI.v (x := .inl (.ofNat n)) rfl)) hY hR hM hE hI hFm⟩
    case invokevirtual k =>
      have hk : (!aux.isEmpty && ab_pop (mj_h1 aux) [] st fun As st => ab_r1 st fun a st => ab_tg R a fun t _ => cond (Nat.beq (Nat.mod t 1000) (mj_h2 aux + 1) && !Nat.beq t 1) (ab_call c id K y d (Nat.succ i) rest L st fs Y R m E (mj_hd aux) (.inr (.inr a) :: As)) false) = true := hk
      refine hz.1 _ _ _ _ _ _ _ ?_
      obtain ⟨ha, hk⟩ := sx_nd hk
      refine ⟨fun q => (by rw [show aux = [] from q] at ha; cases ha), ab_pop_s _ _ _ _ _ _ _ hk (show ab_RS w [] [] from rfl) hS (fun As t As' t' hk hA hS2 => ?_)⟩
      obtain ⟨r, t, t', rfl, hr, hS2, hk⟩ := ab_r1_s hk hS2
      obtain ⟨tg, n, e1, hk, e2, -⟩ := ab_tg_s hk hR
      obtain ⟨hc, hk⟩ := sx_cd hk
      obtain ⟨hc, hb9⟩ := sx_nd hc
      have hc : tg % 1000 = mj_h2 aux + 1 := sx_beq hc
      have ho := ab_recv e2 hc (Or.inr (fun q => by rw [q] at hb9; cases hb9))
      obtain ⟨a, a1, a2⟩ := ho
      have hcc := ab_call_s (cb := cb) (sb := sb) hK hok hk hd hz hi' hL hS2 (hA.c (ab_RV.r hr a1)) hF hY hR hM hE hI hFm hu huA
      rw [a1]
      exact ⟨(G a).1, (G a).2, rfl, a2, hcc⟩
    case invokestatic k =>
      match aux, hk with
      | [], hk => cases hk
      | [f, _], hk =>
        have hk : (ab_lib c f st Y R m fun st Y m => K y d (Nat.succ i) rest L st fs Y R m E) = true := hk
        refine hz.1 _ _ _ _ _ _ _ ?_
        exact ab_lib_s (k' := fun st M => Z rest L' st G M cb sb) hk hS hY hR hM hI hFm (fun w' t t' Y' m' M' u1 u2 u3 u4 u5 u6 u7 => go u1.1 u7 hi' (hL.up u1.1) u6 u2 (hR.ey u1) u3 (hE.up u1.1) u4 u5)
      | [f], hk =>
        have hk : (ab_pop (mj_h1 [f]) [] st fun As st => ab_call c id K y d (Nat.succ i) rest L st fs Y R m E (mj_hd [f]) As) = true := hk
        refine hz.1 _ _ _ _ _ _ _ ?_
        refine ⟨List.cons_ne_nil _ _, ab_pop_s _ _ _ _ _ _ _ hk (show ab_RS w [] [] from rfl) hS (fun As t As' t' hk hA hS2 => ab_call_s (cb := cb) (sb := sb) hK hok hk hd hz hi' hL hS2 hA hF hY hR hM hE hI hFm hu huA)⟩
      | f :: g :: p :: aux, hk =>
        have hk : (ab_pop (mj_h1 (f :: g :: p :: aux)) [] st fun As st => ab_call c id K y d (Nat.succ i) rest L st fs Y R m E (mj_hd (f :: g :: p :: aux)) As) = true := hk
        refine hz.1 _ _ _ _ _ _ _ ?_
        refine ⟨List.cons_ne_nil _ _, ab_pop_s _ _ _ _ _ _ _ hk (show ab_RS w [] [] from rfl) hS (fun As t As' t' hk hA hS2 => ab_call_s (cb := cb) (sb := sb) hK hok hk hd hz hi' hL hS2 hA hF hY hR hM hE hI hFm hu huA)⟩
    case invokespecial k =>
      match aux, hk with
      | [], hk => cases hk
      | f :: aux, hk =>
        have hk : (ab_pop (mj_h1 (f :: aux)) [] st fun As st => ab_r1 st fun a st => ab_tg R a fun t _ => cond (Nat.beq (Nat.mod t 1000) (mj_h2 (f :: aux) + 1) && !Nat.beq t 1) (ab_call c id K y d (Nat.succ i) rest L st fs Y R m E f (.inr (.inr a) :: As)) false) = true := hk
        refine hz.1 _ _ _ _ _ _ _ ?_
        refine ab_pop_s _ _ _ _ _ _ _ hk (show ab_RS w [] [] from rfl) hS (fun As t As' t' hk hA hS2 => ?_)
        obtain ⟨r, t, t', rfl, hr, hS2, hk⟩ := ab_r1_s hk hS2
        obtain ⟨tg, n, e1, hk, e2, -⟩ := ab_tg_s hk hR
        obtain ⟨hc, hk⟩ := sx_cd hk
        obtain ⟨hc, hb9⟩ := sx_nd hc
        have hc : tg % 1000 = mj_h2 (f :: aux) + 1 := sx_beq hc
        have ho := ab_recv e2 hc (Or.inr (fun q => by rw [q] at hb9; cases hb9))
        obtain ⟨a, a1, a2⟩ := ho
        have hcc := ab_call_s (cb := cb) (sb := sb) hK hok hk hd hz hi' hL hS2 (hA.c (ab_RV.r hr a1)) hF hY hR hM hE hI hFm hu huA
        rw [a1]
        exact ⟨(G a).1, (G a).2, rfl, a2, hcc⟩
    case ireturn =>
      have hk : (ab_i1 st fun z st => st.isEmpty && cond (sx_eq imm (.ofNat 1)) (ab_tf Y z && ab_spl Y z fun z Y => ab_ret c K fs Y R m E (some (.inl (.inl z)))) (ab_ret c K fs Y R m E (some (.inl z)))) = true := hk
      refine hz.1 _ _ _ _ _ _ _ ?_
      obtain ⟨x2, t, z, t', rfl, hx, hS, hk⟩ := ab_i1_s hk hS
      obtain ⟨he, hk⟩ := sx_nd hk
      have ht : t = [] := by cases t with
        | nil => rfl
        | cons _ _ => cases he
      rw [ht] at hS
      cases hm : sx_eq imm (.ofNat 1) with
      | true =>
        rw [hm] at hk
        obtain ⟨k1, k2⟩ := sx_nd hk
        obtain ⟨Y1, u1, u2⟩ := ab_spl_s k2 hY hx
        exact ⟨hS, fun _ => ab_tf_s k1 hY hx, ab_ret_s hK g1 g2 u2 ⟨_, rfl, z, rfl, rfl⟩ hF u1 hR hM hE hI hFm hu huA⟩
      | false =>
        rw [hm] at hk
        refine ⟨hS, fun q => ?_, ab_ret_s hK g1 g2 hk ⟨_, rfl, z, rfl, hx⟩ hF hY hR hM hE hI hFm hu huA⟩
        rw [Bool.eq_false_iff] at hm
        exact absurd (sx_eq_iff.mpr q) hm
    case areturn =>
      have hk : (ab_r1 st fun z st => st.isEmpty && ab_ret c K fs Y R m E (some (.inr (.inr z)))) = true := hk
      refine hz.1 _ _ _ _ _ _ _ ?_
      obtain ⟨r, t, t', rfl, hr, hS, hk⟩ := ab_r1_s hk hS
      obtain ⟨he, hk⟩ := sx_nd hk
      have ht : t = [] := by cases t with
        | nil => rfl
        | cons _ _ => cases he
      rw [ht] at hS
      exact ⟨hS, ab_ret_s hK g1 g2 hk ⟨_, rfl, hr, rfl⟩ hF hY hR hM hE hI hFm hu huA⟩
    case return_ =>
      have hk : (st.isEmpty && ab_ret c K fs Y R m E none) = true := hk
      refine hz.1 _ _ _ _ _ _ _ ?_
      obtain ⟨he, hk⟩ := sx_nd hk
      have ht : st = [] := by cases st with
        | nil => rfl
        | cons _ _ => cases he
      rw [ht] at hS
      exact ⟨hS, ab_ret_s hK g1 g2 (r' := none) hk rfl hF hY hR hM hE hI hFm hu huA⟩
    all_goals cases hk
end
section
/-! ===== a contract whose runs are checked holds ===== -/
theorem ab_sp_s {c : ab_co} {id : Nat} {G : mj_G} {M0 : mj_M} {w0 wA : ab_wd} {A : Option (List (ab_I × Nat))} {K : ab_K} (hK : ab_ks c G M0 w0 wA A K) (g1 : w0.1 = (ab_p c).1.length) (g2 : w0.2.2.1 = (ab_p c).2.1.length) (hA : ∀ A', A = some A' → ∀ q ∈ A', ∃ z, ab_RI wA q.1 z) : ab_ks c G M0 w0 wA A (ab_sp c A K) := by
  intro y d i rest L st fs Y R m E hk w L' st' M Q Z dd cb sb hd hz hi hL hS hF hY hR hM hE hI hFm hu huA
  cases fs with
  | nil =>
    unfold ab_sp at hk
    dsimp only at hk
    cases hc : (ab_c c).any (fun b => Nat.beq b.1 i) with
    | true =>
      rw [hc] at hk
      obtain ⟨e1, e2⟩ := hz.2 rfl
      rw [hi, e1]
      exact ab_arr_s hk g1 g2 hA e2 hL hS hY hR hM hI hFm hu huA
    | false =>
      rw [hc] at hk
      exact hK _ _ _ _ _ _ _ _ _ _ _ hk w L' st' M Q Z dd cb sb hd hz hi hL hS hF hY hR hM hE hI hFm hu huA
  | cons f fs => exact hK _ _ _ _ _ _ _ _ _ _ _ hk w L' st' M Q Z dd cb sb hd hz hi hL hS hF hY hR hM hE hI hFm hu huA
theorem ab_ex_s {c : ab_co} {id : Nat} {G : mj_G} {M0 : mj_M} {w0 wA : ab_wd} {A : Option (List (ab_I × Nat))} (hok : ∀ j, j < id → ab_ok (ab_tb j)) (g1 : w0.1 = (ab_p c).1.length) (g2 : w0.2.2.1 = (ab_p c).2.1.length) (hA : ∀ A', A = some A' → ∀ q ∈ A', ∃ z, ab_RI wA q.1 z) : ∀ n, ab_ks c G M0 w0 wA A (ab_ex c id A n)
  | 0 => fun _ _ _ _ _ _ _ _ _ _ _ h => by cases h
  | n + 1 => ab_sp_s (id := id) (ab_st_s (ab_ex_s hok g1 g2 hA n) hok g1 g2) g1 g2 hA
theorem ab_RL_RS {w : ab_wd} : ∀ {L : ab_L} {av : List mj_V}, (∀ v ∈ L, v ≠ none) → ab_RL w L (av.map some) → ab_RS w (ab_dv1 L) av
  | [], [], _, _ => rfl
  | [], _ :: _, _, h => by cases h
  | none :: _, _, hn, _ => absurd rfl (hn none List.mem_cons_self)
  | some x :: t, [], _, h => by obtain ⟨v, L', e, -⟩ := h; cases e
  | some x :: t, v :: av, hn, h => by
    obtain ⟨v', L', e, h1, h2⟩ := h
    cases e
    exact ⟨v, av, rfl, h1, ab_RL_RS (fun v hv => hn v (List.mem_cons_of_mem _ hv)) h2⟩
/-- all of a contract's checks -/
def ab_ckd (c : ab_co) (id : Nat) : Prop := (ab_p c).2.2.2.all Option.isSome = true ∧ ab_ce c id = true ∧ ∀ b ∈ ab_c c, ab_cc c id b = true
theorem ab_ok_of {c : ab_co} {id : Nat} (h : ab_ckd c id) (hok : ∀ j, j < id → ab_ok (ab_tb j)) : ab_ok c := by
  obtain ⟨ha, he, hc⟩ := h
  intro dd hd G M w0 av Q hY hR hM hL hI hQ
  have g1 : w0.1 = (ab_p c).1.length := hY.1
  have g2 : w0.2.2.1 = (ab_p c).2.1.length := hR.1
  have hav : ab_RS w0 (ab_dv1 (ab_p c).2.2.2) av := ab_RL_RS (fun v hv e => by
    have := List.all_eq_true.mp ha v hv
    rw [e] at this; cases this) hL
  obtain ⟨e1, e2⟩ := sx_nd he
  refine ⟨by rw [← ab_wd_s hav]; exact sx_ble e1, ?_⟩
  intro Z hZ
  have hret : ∀ r M', ab_Inv G M' → ab_frm (ab_w c) G M M' → (∃ po ∈ ab_o c, ab_ph w0 G po r M') → Q r G M' := hQ
  -- the cuts, by their measures
  have cut : ∀ (b : ab_cu), b ∈ ab_c c → ∀ wb Lb Mb cb sb, ab_gam c G M w0 b wb Lb Mb → Z ((ab_full (ab_y c)).drop b.1) Lb [] G Mb cb sb := by
    intro b0 hb0
    have key : ∀ l : List Nat, l.length = b0.2.2.length → ∀ b ∈ ab_c c, ∀ wb Lb Mb cb sb, ab_mz wb b.2.2 = l → ab_gam c G M w0 b wb Lb Mb → Z ((ab_full (ab_y c)).drop b.1) Lb [] G Mb cb sb := by
      refine ab_lx_wf _ b0.2.2.length (fun l hl ih b hb wb Lb Mb cb sb hm hg => ?_)
      have hk := hc b hb
      unfold ab_cc at hk
      obtain ⟨k0, hk⟩ := sx_nd hk
      obtain ⟨k1, k2⟩ := sx_nd k0
      obtain ⟨p1, p2, p3, p4, p5, p6, p7⟩ := hg
      have hA : ∀ A', some b.2.2 = some A' → ∀ q ∈ A', ∃ z, ab_RI wb q.1 z := fun A' e q hq => by
        cases e
        have := List.all_eq_true.mp k1 q hq
        rcases q with ⟨z | ⟨i, a, d⟩, s⟩
        · exact ⟨z, rfl⟩
        · exact ⟨_, by rw [p1.1]; exact sx_blt this, rfl⟩
      have hst := ab_st_s (A := some b.2.2) (wA := wb) (M0 := M) (G := G) (ab_ex_s (c := c) (id := id) hok g1 g2 hA 8000) hok g1 g2
      refine hst _ _ _ _ _ _ _ _ _ _ _ hk wb Lb [] Mb Q Z dd cb sb hd ⟨hZ, fun _ => ⟨rfl, fun b' hb' wb' Lb' Mb' cb' sb' hg' hlt => ?_⟩⟩ rfl p4 rfl hret p1 p2 p3 (fun e he => by cases he) p5 p6 p7 ab_up.rf
      have hlen : b'.2.2.length = b0.2.2.length := by
        have q1 := sx_beq (List.all_eq_true.mp k2 b' hb')
        have q2 := sx_beq (List.all_eq_true.mp k2 b0 hb0)
        omega
      have hlt := hlt _ rfl
      rw [hm] at hlt
      exact ih _ (by unfold ab_mz; rw [List.length_map]; exact hlen) hlt b' hb' wb' Lb' Mb' cb' sb' rfl hg'
    intro wb Lb Mb cb sb hg
    exact key _ (by unfold ab_mz; rw [List.length_map]) b0 hb0 wb Lb Mb cb sb rfl hg
  have hst := ab_st_s (A := none) (wA := w0) (M0 := M) (G := G) (ab_ex_s (c := c) (id := id) hok g1 g2 (fun A' e => by cases e) 8000) hok g1 g2
  exact hst _ _ _ _ _ _ _ _ _ _ _ e2 w0 _ [] M Q Z dd _ _ hd ⟨hZ, fun _ => ⟨rfl, fun b hb wb Lb Mb cb sb hg _ => cut b hb wb Lb Mb cb sb hg⟩⟩ rfl (ab_en_s _ hav) rfl hret hY hR hM (fun e he => by cases he) hI ab_frm.rf ab_up.rf ab_up.rf
end
section
/-! ===== a contract that is checked up to some cuts ===== -/
/-- as ab_ok_of, but where some cuts are left: what comes from there on is told by hX -/
theorem ab_seg {c : ab_co} {id : Nat} (ex : Nat → Bool) (ha : (ab_p c).2.2.2.all Option.isSome = true) (he : ab_ce c id = true) (hc : ∀ b ∈ ab_c c, (ex b.1 || ab_cc c id b) = true) (hlen : ∀ b ∈ ab_c c, ∀ b' ∈ ab_c c, b'.2.2.length = b.2.2.length) (hok : ∀ j, j < id → ab_ok (ab_tb j)) {dd : Nat} (hd : ab_h c ≤ dd) {G : mj_G} {M : mj_M} {w0 : ab_wd} {av : List mj_V} {Q : mj_P} (hY : ab_RY w0 (ab_p c).1) (hR : ab_RR w0 G (ab_p c).2.1) (hM : ab_RM w0 M (ab_mk (ab_p c).2.2.1)) (hL : ab_RL w0 (ab_p c).2.2.2 (av.map some)) (hI : ab_Inv G M) (hQ : ∀ r M', ab_Inv G M' → ab_frm (ab_w c) G M M' → (∃ po ∈ ab_o c, ab_ph w0 G po r M') → Q r G M') (hX : ∀ b ∈ ab_c c, ex b.1 = true → ∀ wb Lb Mb cb sb, ab_gam c G M w0 b wb Lb Mb → mj_W sx_ms (mj_R mj_tab dd) (ab_full (ab_y c)) Q ((ab_full (ab_y c)).drop b.1) Lb [] G Mb cb sb) : mj_R mj_tab (dd + 1) (ab_y c) av G M Q := by
  have g1 : w0.1 = (ab_p c).1.length := hY.1
  have g2 : w0.2.2.1 = (ab_p c).2.1.length := hR.1
  have hav : ab_RS w0 (ab_dv1 (ab_p c).2.2.2) av := ab_RL_RS (fun v hv e => by
    have := List.all_eq_true.mp ha v hv
    rw [e] at this; cases this) hL
  obtain ⟨e1, e2⟩ := sx_nd he
  refine ⟨by rw [← ab_wd_s hav]; exact sx_ble e1, ?_⟩
  intro Z hZ
  have hret : ∀ r M', ab_Inv G M' → ab_frm (ab_w c) G M M' → (∃ po ∈ ab_o c, ab_ph w0 G po r M') → Q r G M' := hQ
  -- the cuts, by their measures
  have cut : ∀ (b : ab_cu), b ∈ ab_c c → ∀ wb Lb Mb cb sb, ab_gam c G M w0 b wb Lb Mb → Z ((ab_full (ab_y c)).drop b.1) Lb [] G Mb cb sb := by
    intro b0 hb0
    have key : ∀ l : List Nat, l.length = b0.2.2.length → ∀ b ∈ ab_c c, ∀ wb Lb Mb cb sb, ab_mz wb b.2.2 = l → ab_gam c G M w0 b wb Lb Mb → Z ((ab_full (ab_y c)).drop b.1) Lb [] G Mb cb sb := by
      refine ab_lx_wf _ b0.2.2.length (fun l hl ih b hb wb Lb Mb cb sb hm hg => ?_)
      have hk := hc b hb
      cases hex : ex b.1 with
      | true => exact hX b hb hex wb Lb Mb cb sb hg Z hZ
      | false =>
      rw [hex, Bool.false_or] at hk
      unfold ab_cc at hk
      obtain ⟨k0, hk⟩ := sx_nd hk
      obtain ⟨k1, k2⟩ := sx_nd k0
      obtain ⟨p1, p2, p3, p4, p5, p6, p7⟩ := hg
      have hA : ∀ A', some b.2.2 = some A' → ∀ q ∈ A', ∃ z, ab_RI wb q.1 z := fun A' e q hq => by
        cases e
        have := List.all_eq_true.mp k1 q hq
        rcases q with ⟨z | ⟨i, a, d⟩, s⟩
        · exact ⟨z, rfl⟩
        · exact ⟨_, by rw [p1.1]; exact sx_blt this, rfl⟩
      have hst := ab_st_s (A := some b.2.2) (wA := wb) (M0 := M) (G := G) (ab_ex_s (c := c) (id := id) hok g1 g2 hA 8000) hok g1 g2
      refine hst _ _ _ _ _ _ _ _ _ _ _ hk wb Lb [] Mb Q Z dd cb sb hd ⟨hZ, fun _ => ⟨rfl, fun b' hb' wb' Lb' Mb' cb' sb' hg' hlt => ?_⟩⟩ rfl p4 rfl hret p1 p2 p3 (fun e he => by cases he) p5 p6 p7 ab_up.rf
      have hlen : b'.2.2.length = b0.2.2.length := by
        exact hlen b0 hb0 b' hb'
      have hlt := hlt _ rfl
      rw [hm] at hlt
      exact ih _ (by unfold ab_mz; rw [List.length_map]; exact hlen) hlt b' hb' wb' Lb' Mb' cb' sb' rfl hg'
    intro wb Lb Mb cb sb hg
    exact key _ (by unfold ab_mz; rw [List.length_map]) b0 hb0 wb Lb Mb cb sb rfl hg
  have hst := ab_st_s (A := none) (wA := w0) (M0 := M) (G := G) (ab_ex_s (c := c) (id := id) hok g1 g2 (fun A' e => by cases e) 8000) hok g1 g2
  exact hst _ _ _ _ _ _ _ _ _ _ _ e2 w0 _ [] M Q Z dd _ _ hd ⟨hZ, fun _ => ⟨rfl, fun b hb wb Lb Mb cb sb hg _ => cut b hb wb Lb Mb cb sb hg⟩⟩ rfl (ab_en_s _ hav) rfl hret hY hR hM (fun e he => by cases he) hI ab_frm.rf ab_up.rf ab_up.rf
end
