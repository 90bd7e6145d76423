/-! ===== fields, arrays, the library, calls, what comes back, arrivals ===== -/
theorem ab_obj {t ci : Nat} (h : ((Nat.beq t (1001 + ci) || (Nat.beq t 2010 && Nat.beq ci 9)) && Nat.blt ci 90) = true) : t ≠ 0 ∧ t ≠ 1 ∧ t ≠ 50 ∧ t % 1000 = ci + 1 ∧ t < 900000 := by
  obtain ⟨h1, h2⟩ := sx_nd h
  have h2 := sx_blt h2
  rcases (Bool.or_eq_true _ _).mp h1 with h1 | h1
  · have h1 : t = 1001 + ci := sx_beq h1
    omega
  · obtain ⟨h1, h3⟩ := sx_nd h1
    have h1 : t = 2010 := sx_beq h1
    have h3 : ci = 9 := sx_beq h3
    omega
theorem ab_RV.r {w : ab_wd} {u : Nat} {o : Option Nat} (hu : u < w.2.2.1) (e : w.2.2.2 u = o) : ab_RV w (.inr (.inr u)) (.inr (.inr o)) := ⟨hu, by rw [e]⟩
theorem ab_get_s {c : ab_co} {y i ci fk : Nat} {st : List ab_V} {Y : ab_Y} {R : ab_R} {m : ab_m} {k : List ab_V → ab_Y → ab_R → ab_m → Bool} {w : ab_wd} {st' : List mj_V} {G : mj_G} {M : mj_M} {k' : List mj_V → Prop} (h : ab_get c y i ci fk st Y R m k = true) (hS : ab_RS w st st') (hY : ab_RY w Y) (hR : ab_RR w G R) (hM : ab_RM w M m) (hI : ab_Inv G M) (kk : ∀ w' t t' Y' R' m', ab_up w w' → ab_RY w' Y' → ab_RR w' G R' → ab_RM w' M m' → ab_RS w' t t' → k t Y' R' m' = true → k' t') : mj_get ci fk st' G M k' := by
  obtain ⟨r, t, t', rfl, hr, hS, h⟩ := ab_r1_s h hS
  obtain ⟨tg, n, e1, h, e2, -⟩ := ab_tg_s h hR
  obtain ⟨hc, h⟩ := sx_cd h
  obtain ⟨n1, n2, n3, n4, n5⟩ := ab_obj hc
  obtain ⟨a, a1, a2⟩ := ab_rt_a e2 n1 n2 n3
  rw [a1]
  refine ⟨tg, n, a2, n4, ?_⟩
  split at h
  · rename_i e
    rw [e]
    obtain ⟨-, a', b1, w1, v, Y1, m1, u1, u2, u3, u4, u5⟩ := ab_rdi_s h hY hR hM hI (z := Int.ofNat fk) rfl (Int.natCast_nonneg fk)
    have ea : a' = a := Option.some.inj (b1.symm.trans a1)
    subst ea
    obtain ⟨x', Y2, o1, o2, o3⟩ := ab_psh_s u5 u2 u4
    exact kk w1 _ _ Y2 R m1 u1.1 o1 (hR.ey u1) u3 ((hS.up u1.1).c o2.v) o3
  · rename_i e
    rw [e]
    exact kk w _ _ Y R m ab_up.rf hY hR hM (hS.c ab_RV.l) h
  · rename_i x1 x2
    obtain ⟨-, a', b1, w1, v, R1, m1, u1, u2, u3, u4, u5, u6⟩ := ab_rdr_s h hY hR hM hI (z := Int.ofNat fk) rfl (Int.natCast_nonneg fk)
    have ea : a' = a := Option.some.inj (b1.symm.trans a1)
    subst ea
    have u5 : M.2.2 a' fk = w1.2.2.2 v := u5
    have hg : mj_rf (M.2.2 a' fk) fun v => k' (v :: t') := ⟨fun b hb => kk w1 _ _ Y R1 m1 u1.1 (hY.er u1) u2 u3 ((hS.up u1.1).c (ab_RV.r u4 (by rw [← u5, hb]))) u6, fun hb => kk w1 _ _ Y R1 m1 u1.1 (hY.er u1) u2 u3 ((hS.up u1.1).c (ab_RV.r u4 (by rw [← u5, hb]))) u6⟩
    split
    · rename_i e; exact absurd e x1
    · rename_i e; exact absurd e x2
    · exact hg
theorem ab_gw_x {fk T n a u : Nat} {G : mj_G} {k' : List mj_V → Prop} {t' : List mj_V} (eq : (T - 900050) / 1000 = u) (hG : G a = (T, n)) (ht : T % 1000 = 50) (h0 : fk = 0 → k' (.inr (.inl (mj_wc.getD u 0)) :: t')) (h1 : ∀ m, fk = m + 1 → k' (.inl (mj_ww.getD u 0) :: t')) : mj_gw fk (.inr (.inr (some a)) :: t') G k' := by
  subst eq
  refine ⟨T, n, hG, ht, ?_⟩
  cases fk with
  | zero => exact h0 rfl
  | succ m => exact h1 m rfl
theorem ab_gw_s {fk : Nat} {st : List ab_V} {Y : ab_Y} {R : ab_R} {k : List ab_V → ab_R → Bool} {w : ab_wd} {st' : List mj_V} {G : mj_G} {M : mj_M} {k' : List mj_V → Prop} (h : ab_gw fk st Y R k = true) (hS : ab_RS w st st') (hR : ab_RR w G R) (hI : ab_Inv G M) (kk : ∀ t t' R', ab_RR w G R' → ab_RS w t t' → k t R' = true → k' t') : mj_gw fk st' G k' := by
  obtain ⟨r, t, t', rfl, hr, hS, h⟩ := ab_r1_s h hS
  obtain ⟨tg, n, e1, h, e2, -⟩ := ab_tg_s h hR
  obtain ⟨hc, h⟩ := sx_cd h
  have hc : tg % 1000 = 50 := sx_beq hc
  have hw : ∃ a, w.2.2.2 r = some a ∧ (G a).1 % 1000 = 50 ∧ (tg = 50 ∨ (G a).1 = tg) := by
    rcases e2 with g | g | g | g
    · rw [show tg = 0 from g.1] at hc; simp at hc
    · rw [show tg = 1 from g.1] at hc; simp at hc
    · obtain ⟨a, g1, g2⟩ := g.2; exact ⟨a, g1, g2, Or.inl g.1⟩
    · obtain ⟨a, g1, g2⟩ := g.2.2.2; exact ⟨a, g1, by rw [g2]; exact hc, Or.inr (by rw [g2])⟩
  obtain ⟨a, a1, a2, a3⟩ := hw
  obtain ⟨q, hq, hG⟩ := hI.2.2.1 a a2
  obtain ⟨T, hT⟩ : ∃ T, T = 900050 + 1000 * q := ⟨_, rfl⟩
  have eq : (T - 900050) / 1000 = q := by omega
  have t1 : T % 1000 = 50 := by omega
  have t2 : T ≠ 0 := by omega
  have t3 : T ≠ 1 := by omega
  have t4 : T ≠ 50 := by omega
  rw [← hT] at hG
  rw [a1]
  refine ab_gw_x (eq := eq) hG t1 (fun e => ?_) (fun u e => ?_)
  · subst e
    exact kk _ _ R hR (hS.c ab_RV.l) h
  · subst e
    have vw : ab_RV w (.inl (.inl (mj_ww.getD q 0))) (.inl (mj_ww.getD q 0)) := ⟨_, rfl, rfl⟩
    cases h5 : Nat.beq tg 50 with
    | true =>
      rw [h5] at h
      have h : (List.range 24).all (fun q => sx_fi (mj_ww.getD q 0) fun z => sx_fn (900050 + 1000 * q) fun t9 => k (.inl (.inl z) :: t) (R.set r (t9, 0))) = true := h
      rw [List.all_eq_true] at h
      have h := h q (List.mem_range.mpr hq)
      rw [sx_fi_eq] at h
      generalize 900050 + 1000 * q = T2 at h hT
      subst hT
      rw [sx_fn_eq] at h
      refine kk _ _ _ (hR.set (q := (T, 0)) ?_) (hS.c vw) h
      rw [a1]
      exact Or.inr (Or.inr (Or.inr ⟨t2, t3, t4, a, rfl, hG⟩))
    | false =>
      rw [h5] at h
      have et : tg = T := by
        rcases a3 with g | g
        · rw [g] at h5; cases h5
        · rw [hG] at g; exact g.symm
      rw [et, eq] at h
      have h : (sx_fi (mj_ww.getD q 0) fun z => k (.inl (.inl z) :: t) R) = true := h
      rw [sx_fi_eq] at h
      exact kk _ _ R hR (hS.c vw) h
theorem ab_put_s {c : ab_co} {ci fk : Nat} {st : List ab_V} {Y : ab_Y} {R : ab_R} {m : ab_m} {k : List ab_V → ab_Y → ab_m → Bool} {w : ab_wd} {st' : List mj_V} {G : mj_G} {M0 M : mj_M} {k' : List mj_V → mj_M → Prop} (h : ab_put c ci fk st Y R m k = true) (hS : ab_RS w st st') (hY : ab_RY w Y) (hR : ab_RR w G R) (hM : ab_RM w M m) (hI : ab_Inv G M) (hF : ab_frm (ab_w c) G M0 M) (kk : ∀ w' t t' Y' m' M', ab_ey w w' → ab_RY w' Y' → ab_RM w' M' m' → ab_Inv G M' → ab_frm (ab_w c) G M0 M' → ab_RS w' t t' → k t Y' m' = true → k' t' M') : mj_put ci fk st' G M k' := by
  unfold ab_put at h
  unfold mj_put
  split at h
  · rename_i e
    rw [e]
    obtain ⟨x, t, z, t', rfl, hx, hS, h⟩ := ab_i1_s h hS
    obtain ⟨r, t, t', rfl, hr, hS, h⟩ := ab_r1_s h hS
    obtain ⟨tg, n, e1, h, e2, -⟩ := ab_tg_s h hR
    obtain ⟨hc, h⟩ := sx_cd h
    obtain ⟨hc, hb⟩ := sx_nd hc
    obtain ⟨n1, n2, n3, n4, n5⟩ := ab_obj hc
    obtain ⟨a, a1, a2⟩ := ab_rt_a e2 n1 n2 n3
    obtain ⟨t2, m2, a', -, b1, b2, b3, b4, b5, w1, Y1, m1, u1, u2, u3, u4⟩ := ab_wri_s h hY hR hM hI hF (z := Int.ofNat fk) rfl (Int.natCast_nonneg fk) hx
    have ea : a' = a := Option.some.inj (b1.symm.trans a1)
    subst ea
    rw [b1]
    refine ⟨tg, n, a2, n4, n5, fun q => ?_, kk w1 _ _ Y1 m1 _ u1 u2 u3 b4 b5 (hS.up u1.1) u4⟩
    rw [q] at hb
    exact ab_tf_s hb hY hx
  · rename_i e
    rw [e]
    obtain ⟨t, z, t', rfl, hS, h⟩ := ab_l1_s h hS
    obtain ⟨r, t, t', rfl, hr, hS, h⟩ := ab_r1_s h hS
    obtain ⟨tg, n, e1, h, e2, -⟩ := ab_tg_s h hR
    obtain ⟨hc, h⟩ := sx_cd h
    obtain ⟨n1, n2, n3, n4, n5⟩ := ab_obj hc
    obtain ⟨a, a1, a2⟩ := ab_rt_a e2 n1 n2 n3
    rw [a1]
    exact ⟨tg, n, a2, n4, n5, kk w _ _ Y m (mj_p1 M a fk z) ab_ey.rf hY hM (hI.p1 (by rw [a2]; intro e; have e : tg = 55103 := e; have q2 := sx_blt (sx_nd hc).2; omega)) hF hS h⟩
  · rename_i x1 x2
    obtain ⟨u, t, t', rfl, hu, hS, h⟩ := ab_r1_s h hS
    obtain ⟨r, t, t', rfl, hr, hS, h⟩ := ab_r1_s h hS
    obtain ⟨tg, n, e1, h, e2, -⟩ := ab_tg_s h hR
    obtain ⟨hc, h⟩ := sx_cd h
    obtain ⟨n1, n2, n3, n4, n5⟩ := ab_obj hc
    obtain ⟨a, a1, a2⟩ := ab_rt_a e2 n1 n2 n3
    obtain ⟨-, t2, m2, a', -, b1, b2, b3, b4, b5, w1, Y1, m1, u1, u2, u3, u4⟩ := ab_wrr_s h hY hR hM hI hF (z := Int.ofNat fk) rfl (Int.natCast_nonneg fk)
    have ea : a' = a := Option.some.inj (b1.symm.trans a1)
    subst ea
    rw [b1]
    split
    · rename_i e; exact absurd e x1
    · rename_i e; exact absurd e x2
    · exact ⟨tg, n, a2, n4, n5, kk w1 _ _ Y1 m1 _ u1 u2 u3 b4 b5 (hS.up u1.1) u4⟩
theorem ab_ix_s {Y : ab_Y} {st : List ab_V} {R : ab_R} {k : Nat → Nat → ab_I → List ab_V → Bool} {w : ab_wd} {st' : List mj_V} {G : mj_G} (h : ab_ix Y st R k = true) (hS : ab_RS w st st') (hY : ab_RY w Y) (hR : ab_RR w G R) : ∃ r t n x z s s', st' = .inl z :: .inr (.inr (w.2.2.2 r)) :: s' ∧ ab_nR R r = some (t, n) ∧ ab_rt G (t, n) (w.2.2.2 r) ∧ ab_RI w x z ∧ 0 ≤ z ∧ z < (n : Int) ∧ ab_RS w s s' ∧ k r t x s = true := by
  obtain ⟨x, t, z, t', rfl, hx, hS, h⟩ := ab_i1_s h hS
  obtain ⟨r, t, t', rfl, hr, hS, h⟩ := ab_r1_s h hS
  obtain ⟨tg, n, e1, h, e2, -⟩ := ab_tg_s h hR
  obtain ⟨lo, hi, h, l1, l2⟩ := ab_iv_s h hY hx
  obtain ⟨hc, h⟩ := sx_cd h
  obtain ⟨c1, c2⟩ := sx_nd hc
  have c1 : 0 ≤ lo := sx_le_iff.mp c1
  rw [Bool.not_eq_true', Bool.eq_false_iff] at c2
  have c2 : hi < (n : Int) := sx_le_no c2
  exact ⟨r, tg, n, x, z, t, t', rfl, e1, e2, hx, by omega, by omega, hS, h⟩
theorem ab_ar {G : mj_G} {t n j : Nat} {o : Option Nat} (h : ab_rt G (t, n) o) (ht : t % 1000 = 100 + j) : ∃ a, o = some a ∧ G a = (t, n) := ab_rt_a h (fun e => by rw [e] at ht; simp at ht; omega) (fun e => by rw [e] at ht; simp at ht; omega) (fun e => by rw [e] at ht; simp at ht; omega)
theorem ab_cpc_s {t sp t2 dp : Nat} : ∀ (n : Nat), ab_cpc t sp t2 dp n = true → ∀ q, q < n → (ab_rg t2 (dp + q)).1 ≤ (ab_rg t (sp + q)).1 ∧ (ab_rg t (sp + q)).2 ≤ (ab_rg t2 (dp + q)).2
  | 0, _, q, hq => by omega
  | n + 1, h, q, hq => by
    unfold ab_cpc at h
    obtain ⟨h1, h2⟩ := sx_nd h
    obtain ⟨h3, h4⟩ := sx_nd h1
    by_cases e : q = n
    · subst e; exact ⟨sx_le_iff.mp h3, sx_le_iff.mp h4⟩
    · exact ab_cpc_s n h2 q (by omega)
theorem ab_lib_s {c : ab_co} {f : Nat} {st : List ab_V} {Y : ab_Y} {R : ab_R} {m : ab_m} {k : List ab_V → ab_Y → ab_m → Bool} {w : ab_wd} {st' : List mj_V} {G : mj_G} {M0 M : mj_M} {k' : List mj_V → mj_M → Prop} (h : ab_lib c f st Y R m k = true) (hS : ab_RS w st st') (hY : ab_RY w Y) (hR : ab_RR w G R) (hM : ab_RM w M m) (hI : ab_Inv G M) (hF : ab_frm (ab_w c) G M0 M) (kk : ∀ w' t t' Y' m' M', ab_ey w w' → ab_RY w' Y' → ab_RM w' M' m' → ab_Inv G M' → ab_frm (ab_w c) G M0 M' → ab_RS w' t t' → k t Y' m' = true → k' t' M') : mj_lib f st' G M k' := by
  have fin : ∀ {t : List ab_V} {t' : List mj_V} {z : Int}, ab_RS w t t' → ab_ok3 w (fun v Y => k (.inl v :: t) Y m) z → k' (.inl z :: t') M := fun {t t' z} hS h => by
    obtain ⟨w1, v, Y1, u1, u2, u3, u4⟩ := h
    exact kk w1 _ _ Y1 m M u1 u2 (hM.up u1.1) hI hF ((hS.up u1.1).c u3.v) u4
  unfold ab_lib at h
  split at h
  · obtain ⟨y, t, zy, t', rfl, hy, hS, h⟩ := ab_i1_s h hS
    obtain ⟨x, t, zx, t', rfl, hx, hS, h⟩ := ab_i1_s h hS
    obtain ⟨h8, h⟩ := sx_cd h
    refine ⟨by rw [← ab_cat_s hS]; exact sx_ble h8, fun z h1 h2 => ?_⟩
    cases g1 : ab_ge Y x y (.ofNat 0) with
    | true =>
      rw [g1] at h
      have g1 : zy + 0 ≤ zx := ab_ge_s hY g1 hx hy
      rw [h2 (by omega)]
      exact fin hS (ab_here hY hx h)
    | false =>
      rw [g1] at h
      dsimp only [cond_false] at h
      cases g2 : ab_ge Y y x (.ofNat 0) with
      | true =>
        rw [g2] at h
        have g2 : zx + 0 ≤ zy := ab_ge_s hY g2 hy hx
        have e : z = zy := by
          by_cases q : zx < zy
          · exact h1 q
          · rw [h2 q]; omega
        rw [e]
        exact fin hS (ab_here hY hy h)
      | false =>
        rw [g2] at h
        dsimp only [cond_false] at h
        obtain ⟨a, b, h, l1, l2⟩ := ab_iv_s h hY hx
        obtain ⟨p, q, h, l3, l4⟩ := ab_iv_s h hY hy
        have m1 := ab_mx_s b q
        refine fin hS (ab_fr_s h hY ?_ ?_ (fun r hr => by cases hr))
        · by_cases q : zx < zy
          · rw [h1 q]; rcases ab_mx_or a p with g | g <;> rw [g] <;> omega
          · rw [h2 q]; rcases ab_mx_or a p with g | g <;> rw [g] <;> omega
        · by_cases q : zx < zy
          · rw [h1 q]; omega
          · rw [h2 q]; omega
  · obtain ⟨y, t, zy, t', rfl, hy, hS, h⟩ := ab_i1_s h hS
    obtain ⟨x, t, zx, t', rfl, hx, hS, h⟩ := ab_i1_s h hS
    obtain ⟨h8, h⟩ := sx_cd h
    refine ⟨by rw [← ab_cat_s hS]; exact sx_ble h8, fun z h1 h2 => ?_⟩
    cases g1 : ab_ge Y y x (.ofNat 0) with
    | true =>
      rw [g1] at h
      have g1 : zx + 0 ≤ zy := ab_ge_s hY g1 hy hx
      rw [h2 (by omega)]
      exact fin hS (ab_here hY hx h)
    | false =>
      rw [g1] at h
      dsimp only [cond_false] at h
      cases g2 : ab_ge Y x y (.ofNat 0) with
      | true =>
        rw [g2] at h
        have g2 : zy + 0 ≤ zx := ab_ge_s hY g2 hx hy
        have e : z = zy := by
          by_cases q : zy < zx
          · exact h1 q
          · rw [h2 q]; omega
        rw [e]
        exact fin hS (ab_here hY hy h)
      | false =>
        rw [g2] at h
        dsimp only [cond_false] at h
        obtain ⟨a, b, h, l1, l2⟩ := ab_iv_s h hY hx
        obtain ⟨p, q, h, l3, l4⟩ := ab_iv_s h hY hy
        have m1 := ab_mn_s a p
        refine fin hS (ab_fr_s h hY ?_ ?_ (fun r hr => by cases hr))
        · by_cases q : zy < zx
          · rw [h1 q]; omega
          · rw [h2 q]; omega
        · by_cases q' : zy < zx
          · rw [h1 q']; rcases ab_mn_or b q with g | g <;> rw [g] <;> omega
          · rw [h2 q']; rcases ab_mn_or b q with g | g <;> rw [g] <;> omega
  · obtain ⟨x, t, zx, t', rfl, hx, hS, h⟩ := ab_i1_s h hS
    obtain ⟨h8, h⟩ := sx_cd h
    refine ⟨by rw [← ab_cat_s hS]; exact sx_ble h8, fun z h0 h1 h2 => ?_⟩
    obtain ⟨a, b, h, l1, l2⟩ := ab_iv_s h hY hx
    cases g1 : sx_le (.ofNat 0) a with
    | true =>
      rw [g1] at h
      have g1 : 0 ≤ a := sx_le_iff.mp g1
      rw [h1 (by omega)]
      exact fin hS (ab_here hY hx h)
    | false =>
      rw [g1] at h
      dsimp only [cond_false] at h
      cases g2 : sx_le a ab_lo with
      | true => rw [g2] at h; exact fin hS (ab_ff_s h hY h0)
      | false =>
        rw [g2] at h
        dsimp only [cond_false] at h
        have g2 : -2147483648 < a := sx_le_no (x := a) (y := ab_lo) (by rw [g2]; exact Bool.false_ne_true)
        have h00 := h0.1
        have m1 := ab_mx_s (-a) b
        by_cases hn : 0 ≤ zx
        · have e := h1 hn
          refine fin hS (ab_fr_s h hY ?_ (by omega) (fun r hr => by cases hr))
          cases g3 : sx_le (.ofNat 0) b with
          | true => show (0 : Int) ≤ z; omega
          | false =>
            have : b < 0 := sx_le_no (x := .ofNat 0) (y := b) (by rw [g3]; exact Bool.false_ne_true)
            omega
        · by_cases hm : zx = -2147483648
          · omega
          · have e := h2 (by omega) hm
            refine fin hS (ab_fr_s h hY ?_ (by omega) (fun r hr => by cases hr))
            cases g3 : sx_le (.ofNat 0) b with
            | true => show (0 : Int) ≤ z; omega
            | false => show -b ≤ z; omega
  · obtain ⟨n, t, zn, t', rfl, hn, hS, h⟩ := ab_i1_s h hS
    obtain ⟨dp, t, zd, t', rfl, hd, hS, h⟩ := ab_i1_s h hS
    obtain ⟨b, t, t', rfl, hb, hS, h⟩ := ab_r1_s h hS
    obtain ⟨sp, t, zs, t', rfl, hs, hS, h⟩ := ab_i1_s h hS
    obtain ⟨a, t, t', rfl, ha, hS, h⟩ := ab_r1_s h hS
    have h := ab_kn_s (ab_kn_s (ab_kn_s h hY hn) hY hd) hY hs
    obtain ⟨ta, na, e1, h, e2, -⟩ := ab_tg_s h hR
    obtain ⟨tb, nb, f1, h, f2, -⟩ := ab_tg_s h hR
    obtain ⟨hc, h⟩ := sx_cd h
    obtain ⟨c1, hc⟩ := sx_nd hc
    obtain ⟨c2, hc⟩ := sx_nd hc
    obtain ⟨c3, hc⟩ := sx_nd hc
    obtain ⟨c4, hc⟩ := sx_nd hc
    obtain ⟨c5, hc⟩ := sx_nd hc
    obtain ⟨c6, hc⟩ := sx_nd hc
    obtain ⟨c7, hc⟩ := sx_nd hc
    obtain ⟨c8, hc⟩ := sx_nd hc
    obtain ⟨c9, hc⟩ := sx_nd hc
    obtain ⟨c10, c11⟩ := sx_nd hc
    have c1 : ta % 1000 = 100 + 0 := sx_beq c1
    have c2 : tb % 1000 = 100 + 0 := sx_beq c2
    have c4 : 0 ≤ zs := sx_le_iff.mp c4
    have c5 : 0 ≤ zd := sx_le_iff.mp c5
    have c6 : 1 ≤ zn := sx_le_iff.mp c6
    have c7 := sx_ble c7
    have c8 := sx_ble c8
    obtain ⟨aa, a1, a2⟩ := ab_ar e2 c1
    obtain ⟨bb, b1, b2⟩ := ab_ar f2 c2
    rw [a1, b1]
    have cov : ∀ q, zd.toNat ≤ q → q < zd.toNat + zn.toNat → ab_cov (ab_w c) tb q := fun q q1 q2 => by
      have := ab_cw_s (z := (q : Int)) c11 (by omega) (by omega)
      exact this
    have hM' : ∀ x q, ¬ (x = bb ∧ zd.toNat ≤ q ∧ q < zd.toNat + zn.toNat) → (mj_cp0 M aa bb zs.toNat zd.toNat zn.toNat).1 x q = M.1 x q := fun x q hq => if_neg hq
    have hI' : ab_Inv G (mj_cp0 M aa bb zs.toNat zd.toNat zn.toNat) := by
      refine ⟨fun x q => ?_, hI.2⟩
      by_cases e : x = bb ∧ zd.toNat ≤ q ∧ q < zd.toNat + zn.toNat
      · rw [show (mj_cp0 M aa bb zs.toNat zd.toNat zn.toNat).1 x q = M.1 aa (zs.toNat + (q - zd.toNat)) from if_pos e]
        have g := ab_cpc_s _ c10 (q - zd.toNat) (by omega)
        have g2 := hI.1 aa (zs.toNat + (q - zd.toNat))
        rw [a2] at g2
        rw [e.1, b2]
        rw [show zd.toNat + (q - zd.toNat) = q by omega] at g
        exact ⟨Int.le_trans g.1 g2.1, Int.le_trans g2.2 g.2⟩
      · rw [hM' x q e]; exact hI.1 x q
    have hW : ab_frm [(tb, zd.toNat, zd.toNat + zn.toNat - 1)] G M (mj_cp0 M aa bb zs.toNat zd.toNat zn.toNat) := fun x q hq => by
      refine ⟨hM' x q (fun e => hq ⟨_, List.mem_cons_self, ?_, ?_, ?_⟩), rfl⟩
      · rw [e.1, b2]
      · exact e.2.1
      · show q ≤ zd.toNat + zn.toNat - 1; omega
    refine ⟨ta, na, a2, c1, tb, nb, b2, c2, sx_blt c3, c4, c5, by omega, by omega, by omega, by rw [← ab_cat_s hS]; exact sx_ble c9, kk w _ _ Y _ _ ab_ey.rf hY (ab_kw_s hY hR hM hW) hI' (fun x q hq => ?_) hS h⟩
    have := hF x q hq
    refine ⟨(hM' x q (fun e => hq ?_)).trans this.1, this.2⟩
    rw [e.1, b2]
    exact cov q e.2.1 e.2.2
  · obtain ⟨n, t, zn, t', rfl, hn, hS, h⟩ := ab_i1_s h hS
    obtain ⟨dp, t, zd, t', rfl, hd, hS, h⟩ := ab_i1_s h hS
    obtain ⟨b, t, t', rfl, hb, hS, h⟩ := ab_r1_s h hS
    obtain ⟨sp, t, zs, t', rfl, hs, hS, h⟩ := ab_i1_s h hS
    obtain ⟨a, t, t', rfl, ha, hS, h⟩ := ab_r1_s h hS
    have h := ab_kn_s (ab_kn_s (ab_kn_s h hY hn) hY hd) hY hs
    obtain ⟨ta, na, e1, h, e2, -⟩ := ab_tg_s h hR
    obtain ⟨tb, nb, f1, h, f2, -⟩ := ab_tg_s h hR
    obtain ⟨hc, h⟩ := sx_cd h
    obtain ⟨c1, hc⟩ := sx_nd hc
    obtain ⟨c2, hc⟩ := sx_nd hc
    obtain ⟨c3, hc⟩ := sx_nd hc
    obtain ⟨c4, hc⟩ := sx_nd hc
    obtain ⟨c5, hc⟩ := sx_nd hc
    obtain ⟨c6, hc⟩ := sx_nd hc
    obtain ⟨c7, hc⟩ := sx_nd hc
    obtain ⟨c8, c9⟩ := sx_nd hc
    have c1 : ta % 1000 = 100 + 3 := sx_beq c1
    have c2 : tb % 1000 = 100 + 3 := sx_beq c2
    have c4 : 0 ≤ zs := sx_le_iff.mp c4
    have c5 : 0 ≤ zd := sx_le_iff.mp c5
    have c6 : 0 ≤ zn := sx_le_iff.mp c6
    have c7 := sx_ble c7
    have c8 := sx_ble c8
    obtain ⟨aa, a1, a2⟩ := ab_ar e2 c1
    obtain ⟨bb, b1, b2⟩ := ab_ar f2 c2
    rw [a1, b1]
    obtain ⟨c3, c33⟩ := sx_nd c3
    have hI' : ab_Inv G (mj_cp1 M aa bb zs.toNat zd.toNat zn.toNat) := ⟨hI.1, hI.2.1, hI.2.2.1, hI.2.2.2.1, fun x k hx hk => (if_neg (fun e => by
      rw [e.1, b2] at hx
      have hx : tb = 55103 := hx
      rw [hx] at c33
      exact absurd c33 (by decide))).trans (hI.2.2.2.2 x k hx hk)⟩
    exact ⟨ta, na, a2, c1, tb, nb, b2, c2, sx_blt c3, c4, c5, c6, by omega, by omega, by rw [← ab_cat_s hS]; exact sx_ble c9, kk w _ _ Y _ (mj_cp1 M aa bb zs.toNat zd.toNat zn.toNat) ab_ey.rf hY hM hI' hF hS h⟩
  · cases h
