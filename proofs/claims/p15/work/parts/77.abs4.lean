/-! ===== writing ===== -/
theorem ab_dj_s {Y : ab_Y} {x y : ab_I} {w : ab_wd} {zx zy : Int} (hY : ab_RY w Y) (h : ab_dj Y x y = true) (hx : ab_RI w x zx) (hy : ab_RI w y zy) : zx ≠ zy := by
  intro he
  unfold ab_dj at h
  rw [Bool.or_eq_true, Bool.or_eq_true] at h
  rcases h with h | h | h
  · have : zy + 1 ≤ zx := ab_ge_s hY h hx hy
    omega
  · have : zx + 1 ≤ zy := ab_ge_s hY h hy hx
    omega
  · have md : ∀ {a : Nat} {b z v : Int}, Int.ofNat a * v + b = z → (!sx_eq ((z - b) % Int.ofNat a) (.ofNat 0)) = true → False := fun {a b z v} e q => by
      rw [Bool.not_eq_true', Bool.eq_false_iff] at q
      refine q (sx_eq_iff.mpr ?_)
      rw [show z - b = Int.ofNat a * v by omega]
      exact Int.mul_emod_right _ _
    rcases x with p | ⟨i, a, b⟩ <;> rcases y with q | ⟨j, c, d⟩
    · cases h
    · have e1 : p = zx := hx
      exact md (by rw [e1, he]; exact hy.2) h
    · have e1 : q = zy := hy
      exact md (by rw [e1, ← he]; exact hx.2) h
    · obtain ⟨h1, h⟩ := sx_nd h
      obtain ⟨h2, h3⟩ := sx_nd h
      rw [Bool.not_eq_true', Bool.eq_false_iff] at h3
      refine h3 (sx_eq_iff.mpr ?_)
      have e1 := hx.2
      have e2 := hy.2
      rw [← sx_beq h1, ← sx_beq h2] at e2
      omega
/-- behind a write at (a, j): all else as it was -/
def ab_wr1 (M M' : mj_M) (a j : Nat) : Prop := ∀ x k, ¬ (x = a ∧ k = j) → M'.1 x k = M.1 x k ∧ M'.2.2 x k = M.2.2 x k
theorem ab_tag_ne {w : ab_wd} {G : mj_G} {M : mj_M} {t2 n2 t a a2 r2 : Nat} (hI : ab_Inv G M) (h : ab_rt G (t2, n2) (w.2.2.2 r2)) (h2 : w.2.2.2 r2 = some a2) (hne : t2 ≠ t) (ht : t < 900000) (hG : (G a).1 = t) : a2 ≠ a := by
  intro e
  subst e
  rw [h2] at h
  have w50 : (G a2).1 % 1000 = 50 → False := fun q => by
    obtain ⟨k, -, hk⟩ := hI.2.2.1 a2 q
    rw [hk] at hG
    have hG : 900050 + 1000 * k = t := hG
    omega
  rcases h with h | h | h | h
  · rcases h.2 with g | ⟨b, g1, g2⟩
    · cases g
    · cases g1; exact w50 g2
  · cases h.2
  · obtain ⟨b, g1, g2⟩ := h.2
    cases g1; exact w50 g2
  · obtain ⟨b, g1, g2⟩ := h.2.2.2
    cases g1
    rw [g2] at hG
    exact hne hG
theorem ab_hv.keep {w : ab_wd} {M M' : mj_M} {a j a2 k2 : Nat} {v : ab_V} (hw : ab_wr1 M M' a j) (hne : ¬ (a2 = a ∧ k2 = j)) (h : ab_hv w M a2 k2 v) : ab_hv w M' a2 k2 v := by
  obtain ⟨e1, e2⟩ := hw a2 k2 hne
  rcases v with x | x | u
  · show ab_RI w x (M'.1 a2 k2)
    rw [e1]; exact h
  · trivial
  · show u < w.2.2.1 ∧ M'.2.2 a2 k2 = w.2.2.2 u
    rw [e2]; exact h
theorem ab_kl_s {R : ab_R} {t n r a : Nat} {x : ab_I} {v : Option ab_I} {G : mj_G} {M M' : mj_M} {z : Int} (hI : ab_Inv G M) (ht : t < 900000) (hG : G a = (t, n)) (h0 : 0 ≤ z) (hw : ab_wr1 M M' a z.toNat) : ∀ (m : ab_m) (Y : ab_Y) (k : ab_m → ab_Y → Bool) (w : ab_wd), ab_kl R t r x v m Y k = true → ab_RY w Y → ab_RR w G R → ab_RM w M m → ab_RI w x z → w.2.2.2 r = some a → (∀ u, v = some u → ab_RI w u (M'.1 a z.toNat)) → ∃ w' m' Y', ab_ey w w' ∧ ab_RY w' Y' ∧ ab_RM w' M' m' ∧ k m' Y' = true
  | [], Y, k, w, h, hY, _, _, _, _, _ => ⟨w, [], Y, ab_ey.rf, hY, (fun e he => by cases he), h⟩
  | (r2, x2, v2) :: rest, Y, k, w, h, hY, hR, hM, hx, ha, hv => by
    unfold ab_kl at h
    obtain ⟨t2, n2, e1, h, e2, e3⟩ := ab_tg_s h hR
    obtain ⟨g0, a2, z2, g1, g2, g4, g3⟩ := hM _ List.mem_cons_self
    dsimp only at g0 g1 g2 g3
    have hM' : ab_RM w M rest := fun e he => hM e (List.mem_cons_of_mem _ he)
    cases hc : (!Nat.beq t2 t || ab_dj Y x2 x) with
    | true =>
      rw [hc] at h
      dsimp only [cond_true] at h
      have hne : ¬ (a2 = a ∧ z2.toNat = z.toNat) := by
        rw [Bool.or_eq_true] at hc
        rcases hc with hc | hc
        · rw [Bool.not_eq_true', Bool.eq_false_iff] at hc
          have : t2 ≠ t := fun q => hc (by rw [q]; exact Nat.beq_refl t)
          exact fun q => ab_tag_ne hI e2 g1 this ht (by rw [hG]) q.1
        · have := ab_dj_s hY hc g2 hx
          exact fun q => by omega
      obtain ⟨w', m', Y', u1, u2, u3, u4⟩ := ab_kl_s hI ht hG h0 hw rest Y _ w h hY hR hM' hx ha hv
      refine ⟨w', (r2, x2, v2) :: m', Y', u1, u2, fun e he => ?_, u4⟩
      rcases List.mem_cons.mp he with rfl | he
      · exact (show ab_e1 w M' (r2, x2, v2) from ⟨g0, a2, z2, g1, g2, g4, g3.keep hw hne⟩).up u1.1
      · exact u3 e he
    | false =>
      rw [hc] at h
      dsimp only [cond_false] at h
      cases hk : (ab_wk t && (Nat.beq r2 r && !ab_sm Y x2 x)) with
      | false =>
        rw [hk] at h
        exact ab_kl_s hI ht hG h0 hw rest Y k w h hY hR hM' hx ha hv
      | true =>
        rw [hk] at h
        dsimp only [cond_true] at h
        cases v with
        | none => exact ab_kl_s hI ht hG h0 hw rest Y k w h hY hR hM' hx ha hv
        | some v =>
          rcases v2 with u | u
          · dsimp only at h
            have hvv := hv v rfl
            have g3 : ab_RI w u (M.1 a2 z2.toNat) := g3
            obtain ⟨p, q, h, l1, l2⟩ := ab_iv_s h hY hvv
            obtain ⟨c, d, h, l3, l4⟩ := ab_iv_s h hY g3
            have m1 := ab_mn_s p c
            have m2 := ab_mx_s q d
            have hb : ab_mn p c ≤ M'.1 a2 z2.toNat ∧ M'.1 a2 z2.toNat ≤ ab_mx q d := by
              by_cases e : a2 = a ∧ z2.toNat = z.toNat
              · rw [e.1, e.2]; omega
              · rw [(hw a2 _ e).1]; omega
            obtain ⟨w1, q1, Y1, u1, u2, u3, u4⟩ := ab_fr_s h hY hb.1 hb.2 (fun r hr => by cases hr)
            obtain ⟨w', m', Y', o1, o2, o3, o4⟩ := ab_kl_s hI ht hG h0 hw rest Y1 _ w1 u4 u2 (hR.ey u1) (hM'.up u1.1) (hx.up u1.1) (by rw [u1.2]; exact ha) (fun u e => (hv u e).up u1.1)
            refine ⟨w', (r2, x2, .inl q1) :: m', Y', u1.tr o1, o2, fun e he => ?_, o4⟩
            rcases List.mem_cons.mp he with rfl | he
            · exact (show ab_e1 w1 M' (r2, x2, .inl q1) from ⟨Nat.lt_of_lt_of_le g0 u1.1.2.2.1, a2, z2, by rw [u1.2]; exact g1, g2.up u1.1, g4, u3⟩).up o1.1
            · exact o3 e he
          · exact ab_kl_s hI ht hG h0 hw rest Y k w h hY hR hM' hx ha hv
theorem ab_fa_s {t a : Nat} {b lo hi : Int} : ∀ (n : Nat) (x : Int), ab_fa t a b lo hi n x = true → ∀ u, x ≤ u → u < x + n → (ab_rg t (Int.ofNat a * u + b).toNat).1 ≤ lo ∧ hi ≤ (ab_rg t (Int.ofNat a * u + b).toNat).2
  | 0, x, _, u, h1, h2 => by omega
  | n + 1, x, h, u, h1, h2 => by
    unfold ab_fa at h
    obtain ⟨h3, h4⟩ := sx_nd h
    obtain ⟨h5, h6⟩ := sx_nd h3
    rw [sx_fi_eq] at h4
    by_cases e : u = x
    · subst e; exact ⟨sx_le_iff.mp h5, sx_le_iff.mp h6⟩
    · exact ab_fa_s n _ h4 u (by omega) (by omega)
theorem ab_fc_s {t a : Nat} {b : Int} {t2 a2 : Nat} {b2 : Int} : ∀ (n : Nat) (x : Int), ab_fc t a b t2 a2 b2 n x = true → ∀ u, x ≤ u → u < x + n → (ab_rg t (Int.ofNat a * u + b).toNat).1 ≤ (ab_rg t2 (Int.ofNat a2 * u + b2).toNat).1 ∧ (ab_rg t2 (Int.ofNat a2 * u + b2).toNat).2 ≤ (ab_rg t (Int.ofNat a * u + b).toNat).2
  | 0, x, _, u, h1, h2 => by omega
  | n + 1, x, h, u, h1, h2 => by
    unfold ab_fc at h
    obtain ⟨h3, h4⟩ := sx_nd h
    obtain ⟨h5, h6⟩ := sx_nd h3
    rw [sx_fi_eq] at h4
    by_cases e : u = x
    · subst e; exact ⟨sx_le_iff.mp h5, sx_le_iff.mp h6⟩
    · exact ab_fc_s n _ h4 u (by omega) (by omega)
theorem ab_ft_s {Y : ab_Y} {R : ab_R} {m : ab_m} {t : Nat} {x v : ab_I} {w : ab_wd} {G : mj_G} {M : mj_M} {z zv : Int} (h : ab_ft Y R m t x v = true) (hY : ab_RY w Y) (hR : ab_RR w G R) (hM : ab_RM w M m) (hI : ab_Inv G M) (hx : ab_RI w x z) (hv : ab_RI w v zv) : (ab_rg t z.toNat).1 ≤ zv ∧ zv ≤ (ab_rg t z.toNat).2 := by
  rcases x with p | ⟨i, a, b⟩
  · have e : p = z := hx
    rw [e] at h
    obtain ⟨h1, h2⟩ := sx_nd h
    have h1 : _ + 0 ≤ zv := ab_ge_s (y := .inl (ab_rg t z.toNat).1) hY h1 hv rfl
    exact ⟨by omega, ab_le_s hY h2 hv⟩
  · unfold ab_ft at h
    dsimp only at h
    cases hp : ab_per t with
    | true =>
      rw [hp] at h
      dsimp only [cond_true] at h
      cases hq : ab_ny Y i with
      | none => rw [hq] at h; cases h
      | some q =>
        rw [hq] at h
        dsimp only at h
        obtain ⟨-, h⟩ := sx_cd h
        obtain ⟨lo, hi, h, l1, l2⟩ := ab_iv_s h hY hv
        obtain ⟨b1, b2, -⟩ := hY.2 i q hq
        rw [Bool.or_eq_true] at h
        rcases h with h | h
        · have g := ab_fa_s _ _ h (w.2.1 i) b1 (by omega)
          rw [hx.2] at g
          omega
        · obtain ⟨e, he, h⟩ := List.any_eq_true.mp h
          obtain ⟨g0, a2, z2, g1, g2, g4, g3⟩ := hM e he
          obtain ⟨r2, x2, v2⟩ := e
          rcases x2 with p2 | ⟨i2, f2, d2⟩
          · cases h
          · rcases v2 with v2 | v2
            · dsimp only at h g1 g2 g3
              obtain ⟨k1, h⟩ := sx_nd h
              obtain ⟨k2, h⟩ := sx_nd h
              obtain ⟨t2, n2, e1, h, e2, e3⟩ := ab_tg_s h hR
              obtain ⟨k3, h⟩ := sx_nd h
              obtain ⟨k4, h⟩ := sx_nd h
              have k3 := sx_blt k3
              rw [Bool.not_eq_true', Bool.eq_false_iff] at k4
              obtain ⟨a3, o1, o2⟩ := ab_rt_a e2 (by omega) (by omega) (fun q => k4 (by rw [q]; rfl))
              have ea : a3 = a2 := Option.some.inj (o1.symm.trans g1)
              rw [ea] at o2
              have g3 : ab_RI w v2 (M.1 a2 z2.toNat) := g3
              have ev : zv = M.1 a2 z2.toNat := ab_RI.fn hv (ab_ie_s k2 g3)
              have hb := hI.1 a2 z2.toNat
              rw [o2] at hb
              dsimp only at hb
              have g := ab_fc_s _ _ h (w.2.1 i) b1 (by omega)
              have ez := g2.2
              rw [sx_beq k1] at ez
              rw [hx.2, ez] at g
              rw [ev]
              omega
            · cases h
    | false =>
      rw [hp] at h
      dsimp only [cond_false] at h
      obtain ⟨h1, h⟩ := sx_cd h
      obtain ⟨h2, h3⟩ := sx_nd h
      rw [ab_rg_arr hp h1]
      have h2 : _ + 0 ≤ zv := ab_ge_s (y := .inl (ab_rga t).1) hY h2 hv rfl
      exact ⟨by omega, ab_le_s hY h3 hv⟩
theorem ab_cw_s {W : List (Nat × Nat × Nat)} {t : Nat} {lo hi z : Int} (h : ab_cw W t lo hi = true) (h1 : lo ≤ z) (h2 : z ≤ hi) : ab_cov W t z.toNat := by
  obtain ⟨q, hq, h⟩ := List.any_eq_true.mp h
  obtain ⟨h3, h⟩ := sx_nd h
  obtain ⟨h4, h5⟩ := sx_nd h
  have h4 : (q.2.1 : Int) ≤ lo := sx_le_iff.mp h4
  have h5 : hi ≤ (q.2.2 : Int) := sx_le_iff.mp h5
  exact ⟨q, hq, sx_beq h3, by omega, by omega⟩
theorem ab_p0_w {M : mj_M} {a j : Nat} {z : Int} : ab_wr1 M (mj_p0 M a j z) a j := fun x k h => ⟨if_neg h, rfl⟩
theorem ab_p2_w {M : mj_M} {a j : Nat} {o : Option Nat} : ab_wr1 M (mj_p2 M a j o) a j := fun x k h => ⟨rfl, if_neg h⟩
theorem ab_frm.wr {W : List (Nat × Nat × Nat)} {G : mj_G} {M0 M M' : mj_M} {a j : Nat} (h : ab_frm W G M0 M) (hw : ab_wr1 M M' a j) (hc : ab_cov W (G a).1 j) : ab_frm W G M0 M' := fun x k hn => by
  have hne : ¬ (x = a ∧ k = j) := fun q => hn (by rw [q.1, q.2]; exact hc)
  obtain ⟨e1, e2⟩ := hw x k hne
  rw [e1, e2]
  exact h x k hn
theorem ab_Inv.p0 {G : mj_G} {M : mj_M} {a j : Nat} {z : Int} (h : ab_Inv G M) (hz : (ab_rg (G a).1 j).1 ≤ z ∧ z ≤ (ab_rg (G a).1 j).2) : ab_Inv G (mj_p0 M a j z) := by
  refine ⟨fun x k => ?_, h.2⟩
  show _ ≤ (if x = a ∧ k = j then z else M.1 x k) ∧ (if x = a ∧ k = j then z else M.1 x k) ≤ _
  by_cases e : x = a ∧ k = j
  · rw [if_pos e, e.1, e.2]; exact hz
  · rw [if_neg e]; exact h.1 x k
theorem ab_Inv.p2 {G : mj_G} {M : mj_M} {a j : Nat} {o : Option Nat} {q : Nat × Nat} (h : ab_Inv G M) (hq : ab_rf (G a).1 j = some q) (ho : ab_rt G q o) : ab_Inv G (mj_p2 M a j o) := by
  refine ⟨h.1, fun x k p hp hk => ?_, h.2.2⟩
  show ab_rt G p (if x = a ∧ k = j then o else M.2.2 x k)
  by_cases e : x = a ∧ k = j
  · rw [if_pos e]
    rw [e.1, e.2, hq] at hp
    cases hp; exact ho
  · rw [if_neg e]; exact h.2.1 x k p hp hk
theorem ab_Inv.p1 {G : mj_G} {M : mj_M} {a j : Nat} {z : Int64} (h : ab_Inv G M) (hne : (G a).1 ≠ 55103) : ab_Inv G (mj_p1 M a j z) := ⟨h.1, h.2.1, h.2.2.1, h.2.2.2.1, fun x k hx hk => (if_neg (fun e => hne (by rw [← e.1]; exact hx))).trans (h.2.2.2.2 x k hx hk)⟩
theorem ab_t9 {t : Nat} (h : Nat.blt 1 t = true) (h2 : (!Nat.beq t 50) = true) : t ≠ 0 ∧ t ≠ 1 ∧ t ≠ 50 := by
  have := sx_blt h
  rw [Bool.not_eq_true', Bool.eq_false_iff] at h2
  exact ⟨by omega, by omega, fun q => h2 (by rw [q]; rfl)⟩
theorem ab_wri_s {W : List (Nat × Nat × Nat)} {Y : ab_Y} {R : ab_R} {m : ab_m} {r : Nat} {x v : ab_I} {k : ab_Y → ab_m → Bool} {w : ab_wd} {G : mj_G} {M0 M : mj_M} {z zv : Int} (h : ab_wri W Y R m r x v k = true) (hY : ab_RY w Y) (hR : ab_RR w G R) (hM : ab_RM w M m) (hI : ab_Inv G M) (hF : ab_frm W G M0 M) (hx : ab_RI w x z) (h0 : 0 ≤ z) (hv : ab_RI w v zv) : ∃ t n a, ab_nR R r = some (t, n) ∧ w.2.2.2 r = some a ∧ G a = (t, n) ∧ t < 900000 ∧ ab_Inv G (mj_p0 M a z.toNat zv) ∧ ab_frm W G M0 (mj_p0 M a z.toNat zv) ∧ ∃ w' Y' m', ab_ey w w' ∧ ab_RY w' Y' ∧ ab_RM w' (mj_p0 M a z.toNat zv) m' ∧ k Y' m' = true := by
  unfold ab_wri at h
  obtain ⟨t, n, e1, h, e2, e3⟩ := ab_tg_s h hR
  obtain ⟨lo, hi, h, l1, l2⟩ := ab_iv_s h hY hx
  obtain ⟨hc, h⟩ := sx_cd h
  obtain ⟨c1, hc⟩ := sx_nd hc
  obtain ⟨c2, hc⟩ := sx_nd hc
  obtain ⟨c3, hc⟩ := sx_nd hc
  obtain ⟨c4, c5⟩ := sx_nd hc
  obtain ⟨n1, n2, n3⟩ := ab_t9 c2 c3
  obtain ⟨a, a1, a2⟩ := ab_rt_a e2 n1 n2 n3
  have c1 := sx_blt c1
  have hb := ab_ft_s c5 hY hR hM hI hx hv
  have hz : (mj_p0 M a z.toNat zv).1 a z.toNat = zv := if_pos ⟨rfl, rfl⟩
  obtain ⟨w', m', Y', u1, u2, u3, u4⟩ := ab_kl_s (M' := mj_p0 M a z.toNat zv) hI c1 a2 h0 ab_p0_w m Y _ w h hY hR hM hx a1 (fun u e => by cases e; rw [hz]; exact hv)
  refine ⟨t, n, a, e1, a1, a2, c1, hI.p0 (by rw [a2]; exact hb), hF.wr ab_p0_w (by rw [a2]; exact ab_cw_s c4 l1 l2), w', Y', _, u1, u2, fun e he => ?_, u4⟩
  rcases List.mem_cons.mp he with rfl | he
  · refine ⟨Nat.lt_of_lt_of_le e3 u1.1.2.2.1, a, z, by show w'.2.2.2 r = some a; rw [u1.2]; exact a1, hx.up u1.1, h0, ?_⟩
    show ab_RI w' v ((mj_p0 M a z.toNat zv).1 a z.toNat)
    rw [hz]; exact hv.up u1.1
  · exact u3 e he
theorem ab_wrr_s {W : List (Nat × Nat × Nat)} {Y : ab_Y} {R : ab_R} {m : ab_m} {r u : Nat} {x : ab_I} {k : ab_Y → ab_m → Bool} {w : ab_wd} {G : mj_G} {M0 M : mj_M} {z : Int} (h : ab_wrr W Y R m r x u k = true) (hY : ab_RY w Y) (hR : ab_RR w G R) (hM : ab_RM w M m) (hI : ab_Inv G M) (hF : ab_frm W G M0 M) (hx : ab_RI w x z) (h0 : 0 ≤ z) : u < w.2.2.1 ∧ ∃ t n a, ab_nR R r = some (t, n) ∧ w.2.2.2 r = some a ∧ G a = (t, n) ∧ t < 900000 ∧ ab_Inv G (mj_p2 M a z.toNat (w.2.2.2 u)) ∧ ab_frm W G M0 (mj_p2 M a z.toNat (w.2.2.2 u)) ∧ ∃ w' Y' m', ab_ey w w' ∧ ab_RY w' Y' ∧ ab_RM w' (mj_p2 M a z.toNat (w.2.2.2 u)) m' ∧ k Y' m' = true := by
  unfold ab_wrr at h
  obtain ⟨t, n, e1, h, e2, e3⟩ := ab_tg_s h hR
  obtain ⟨tu, nu, f1, h, f2, f3⟩ := ab_tg_s h hR
  obtain ⟨lo, hi, h, l1, l2⟩ := ab_iv_s h hY hx
  obtain ⟨hc, h⟩ := sx_cd h
  obtain ⟨c1, hc⟩ := sx_nd hc
  obtain ⟨c2, hc⟩ := sx_nd hc
  obtain ⟨c3, hc⟩ := sx_nd hc
  obtain ⟨c4, c5⟩ := sx_nd hc
  obtain ⟨n1, n2, n3⟩ := ab_t9 c2 c3
  obtain ⟨a, a1, a2⟩ := ab_rt_a e2 n1 n2 n3
  have c1 := sx_blt c1
  cases hf : ab_rf t lo.toNat with
  | none => rw [hf] at h; cases h
  | some q =>
    rw [hf] at h
    dsimp only at h
    obtain ⟨c6, h⟩ := sx_cd h
    have hq : ab_rf (G a).1 z.toNat = some q := by
      rw [a2]
      cases hb : Nat.ble 100 (Nat.mod t 1000) with
      | true =>
        have hb : 100 ≤ t % 1000 := sx_ble hb
        rw [ab_rf_arr hb] at hf ⊢
        exact hf
      | false =>
        rw [hb] at c5
        have k1 := sx_eq_iff.mp c5
        rw [show z = lo by omega]; exact hf
    have hz : (mj_p2 M a z.toNat (w.2.2.2 u)).2.2 a z.toNat = w.2.2.2 u := if_pos ⟨rfl, rfl⟩
    obtain ⟨w', m', Y', u1, u2, u3, u4⟩ := ab_kl_s (M' := mj_p2 M a z.toNat (w.2.2.2 u)) hI c1 a2 h0 ab_p2_w m Y _ w h hY hR hM hx a1 (fun u e => by cases e)
    refine ⟨f3, t, n, a, e1, a1, a2, c1, hI.p2 hq (ab_ts_s c6 f2), hF.wr ab_p2_w (by rw [a2]; exact ab_cw_s c4 l1 l2), w', Y', _, u1, u2, fun e he => ?_, u4⟩
    rcases List.mem_cons.mp he with rfl | he
    · refine ⟨Nat.lt_of_lt_of_le e3 u1.1.2.2.1, a, z, by show w'.2.2.2 r = some a; rw [u1.2]; exact a1, hx.up u1.1, h0, Nat.lt_of_lt_of_le f3 u1.1.2.2.1, ?_⟩
      rw [hz, u1.2]
    · exact u3 e he
