/-! ===== contracts: what comes back; calls; arrivals ===== -/
def ab_xh (w : ab_wd) (X : ab_X) (z : Int) : Prop := match X with
  | .inl c => z = c
  | .inr (.inl (j, b)) => z = w.2.1 j + b
  | .inr (.inr (lo, hi, rel)) => lo ≤ z ∧ z ≤ hi ∧ ∀ j d, rel = some (j, d) → w.2.1 j + d ≤ z
def ab_rh (w : ab_wd) (G : mj_G) (p : Option (ab_X ⊕ (Unit ⊕ (Nat × Nat)))) (r : Option mj_V) : Prop := match p with
  | none => r = none
  | some (.inl X) => ∃ z, r = some (.inl z) ∧ ab_xh w X z
  | some (.inr (.inl _)) => ∃ l, r = some (.inr (.inl l))
  | some (.inr (.inr q)) => ∃ o, r = some (.inr (.inr o)) ∧ ab_rt G q o
def ab_ph (w : ab_wd) (G : mj_G) (po : ab_po) (r : Option mj_V) (M : mj_M) : Prop := ab_rh w G po.1 r ∧ ∀ e ∈ po.2, ∃ a, w.2.2.2 e.1 = some a ∧ ab_xh w e.2.2 (M.1 a e.2.1)
/-- a contract holds -/
def ab_ok (c : ab_co) : Prop := ∀ dd, ab_h c ≤ dd → ∀ (G : mj_G) (M : mj_M) (w : ab_wd) (av : List mj_V) (Q : mj_P), ab_RY w (ab_p c).1 → ab_RR w G (ab_p c).2.1 → ab_RM w M (ab_mk (ab_p c).2.2.1) → ab_RL w (ab_p c).2.2.2 (av.map some) → ab_Inv G M → (∀ r M', ab_Inv G M' → ab_frm (ab_w c) G M M' → (∃ po ∈ ab_o c, ab_ph w G po r M') → Q r G M') → mj_R mj_tab (dd + 1) (ab_y c) av G M Q
theorem ab_xi_s {sg : ab_sg} {Y : ab_Y} {X : ab_X} {k : ab_I → ab_Y → Bool} {w wp : ab_wd} {z : Int} (h : ab_xi sg Y X k = true) (hY : ab_RY w Y) (hs : ab_so w sg) (hp : ∀ i x z, sx_nt sg i = some x → ab_RI w x z → wp.2.1 i = z) (hx : ab_xh wp X z) : ab_ok3 w k z := by
  rcases X with c | ⟨j, b⟩ | ⟨lo, hi, rel⟩
  · exact ab_hc hY (show c = z from (show z = c from hx).symm) h
  · unfold ab_xi at h
    dsimp only at h
    have hx : z = wp.2.1 j + b := hx
    cases hq : sx_nt sg j with
    | none => rw [hq] at h; cases h
    | some t =>
      rw [hq] at h
      obtain ⟨zt, ht⟩ := hs j t hq
      have e := hp j t zt hq ht
      rcases t with p | ⟨i, a, q⟩
      · dsimp only at h
        rw [sx_fi_eq] at h
        have ep : p = zt := ht
        exact ab_hc hY (show p + b = z by omega) h
      · have et := ht.2
        exact ab_hs hY ht.1 (by omega) (ab_c1_s h)
  · obtain ⟨h1, h2, h3⟩ := hx
    have nil : ab_fr Y lo hi [] k = true → ab_ok3 w k z := fun h => ab_fr_s h hY h1 h2 (fun r hr => by cases hr)
    rcases rel with _ | ⟨j, d⟩
    · exact nil h
    · unfold ab_xi at h
      dsimp only at h
      have h3 := h3 j d rfl
      cases hq : sx_nt sg j with
      | none => rw [hq] at h; cases h
      | some t =>
        rw [hq] at h
        obtain ⟨zt, ht⟩ := hs j t hq
        have e := hp j t zt hq ht
        rcases t with p | ⟨i, a, q⟩
        · dsimp only at h
          have ep : p = zt := ht
          refine ab_fr_s h hY ?_ h2 (fun r hr => by cases hr)
          rcases ab_mx_or lo (p + d) with g | g <;> rw [g] <;> omega
        · have et := ht.2
          have hi' := ht.1
          clear ht hq
          split at h
          · rename_i eq1
            cases eq1
          · rename_i eq1
            cases eq1
          · rename_i i' q' eq1
            cases eq1
            rw [sx_fi_eq] at h
            refine ab_fr_s h hY h1 h2 (fun r hr => ?_)
            have er : r = (i, q + d) := by simpa using hr
            subst er
            have h4 : Int.ofNat 1 * w.2.1 i = w.2.1 i := Int.one_mul _
            exact ⟨hi', by show w.2.1 i + (q + d) ≤ z; omega⟩
          · exact nil h
theorem ab_pi_s {sg : ab_sg} {rf : ab_rr} {wp : ab_wd} {M' : mj_M} : ∀ (ms : List (Nat × Nat × ab_X)) (Y : ab_Y) (m : ab_m) (k : ab_Y → ab_m → Bool) (w : ab_wd), ab_pi sg rf ms Y m k = true → ab_RY w Y → ab_RM w M' m → ab_so w sg → (∀ i x z, sx_nt sg i = some x → ab_RI w x z → wp.2.1 i = z) → (∀ j u, sx_nt rf j = some u → u < w.2.2.1 ∧ wp.2.2.2 j = w.2.2.2 u) → (∀ e ∈ ms, ∃ a, wp.2.2.2 e.1 = some a ∧ ab_xh wp e.2.2 (M'.1 a e.2.1)) → ∃ w' Y' m', ab_ey w w' ∧ ab_RY w' Y' ∧ ab_RM w' M' m' ∧ k Y' m' = true
  | [], Y, m, k, w, h, hY, hM, _, _, _, _ => ⟨w, Y, m, ab_ey.rf, hY, hM, h⟩
  | (r, x, X) :: t, Y, m, k, w, h, hY, hM, hs, hp, hr, hms => by
    unfold ab_pi at h
    cases hq : sx_nt rf r with
    | none => rw [hq] at h; cases h
    | some r' =>
      rw [hq] at h
      dsimp only at h
      obtain ⟨a, a1, a2⟩ := hms _ List.mem_cons_self
      obtain ⟨k1, k2⟩ := hr r r' hq
      obtain ⟨w1, v, Y1, u1, u2, u3, u4⟩ := ab_xi_s h hY hs hp a2
      have hp1 : ∀ i x z, sx_nt sg i = some x → ab_RI w1 x z → wp.2.1 i = z := fun i x z h1 h2 => by
        obtain ⟨z0, h3⟩ := hs i x h1
        rw [ab_RI.fn h2 (h3.up u1.1)]
        exact hp i x z0 h1 h3
      obtain ⟨w2, Y2, m2, o1, o2, o3, o4⟩ := ab_pi_s t Y1 _ k w1 u4 u2 (fun e he => by
        rcases List.mem_cons.mp he with rfl | he
        · exact ⟨Nat.lt_of_lt_of_le k1 u1.1.2.2.1, a, Int.ofNat x, by show w1.2.2.2 r' = some a; rw [u1.2, ← k2]; exact a1, rfl, Int.natCast_nonneg x, u3⟩
        · exact (hM e he).up u1.1) (hs.up u1.1) hp1 (fun j u hj => ⟨Nat.lt_of_lt_of_le (hr j u hj).1 u1.1.2.2.1, by rw [u1.2]; exact (hr j u hj).2⟩) (fun e he => hms e (List.mem_cons_of_mem _ he))
      exact ⟨w2, Y2, m2, u1.tr o1, o2, o3, o4⟩
def ab_ov (w : ab_wd) (r : Option ab_V) (r' : Option mj_V) : Prop := match r with
  | none => r' = none
  | some v => ∃ v', r' = some v' ∧ ab_RV w v v'
theorem ab_ri_s {sg : ab_sg} {Y : ab_Y} {R : ab_R} {p : Option (ab_X ⊕ (Unit ⊕ (Nat × Nat)))} {k : Option ab_V → ab_Y → ab_R → Bool} {w wp : ab_wd} {G : mj_G} {r : Option mj_V} (h : ab_ri sg Y R p k = true) (hY : ab_RY w Y) (hR : ab_RR w G R) (hs : ab_so w sg) (hp : ∀ i x z, sx_nt sg i = some x → ab_RI w x z → wp.2.1 i = z) (hr : ab_rh wp G p r) : ∃ w' rv Y' R', ab_up w w' ∧ ab_RY w' Y' ∧ ab_RR w' G R' ∧ ab_ov w' rv r ∧ k rv Y' R' = true := by
  rcases p with _ | X | l | q
  · exact ⟨w, none, Y, R, ab_up.rf, hY, hR, hr, h⟩
  · obtain ⟨z, rfl, hx⟩ := hr
    have h : ab_xi sg Y X (fun v Y => k (some (.inl v)) Y R) = true := h
    obtain ⟨w1, v, Y1, u1, u2, u3, u4⟩ := ab_xi_s h hY hs hp hx
    exact ⟨w1, some (.inl v), Y1, R, u1.1, u2, hR.ey u1, ⟨_, rfl, z, rfl, u3⟩, u4⟩
  · obtain ⟨l, rfl⟩ := hr
    exact ⟨w, some (.inr (.inl ())), Y, R, ab_up.rf, hY, hR, ⟨_, rfl, l, rfl⟩, h⟩
  · obtain ⟨o, rfl, ho⟩ := hr
    obtain ⟨w1, u1, u2, u3, u4⟩ := ab_nw_s hR ho
    exact ⟨w1, some (.inr (.inr R.length)), Y, R ++ [q], u1.1, hY.er u1, u2, ⟨_, rfl, u3, by rw [u4]⟩, h⟩
theorem ab_kw_s {W : List (Nat × Nat × Nat)} {Y : ab_Y} {R : ab_R} {m : ab_m} {w : ab_wd} {G : mj_G} {M M' : mj_M} (hY : ab_RY w Y) (hR : ab_RR w G R) (hM : ab_RM w M m) (hF : ab_frm W G M M') : ab_RM w M' (ab_kw W Y R m) := by
  intro e he
  obtain ⟨he, h⟩ := List.mem_filter.mp he
  obtain ⟨g0, a, z, g1, g2, g4, g3⟩ := hM e he
  obtain ⟨t, n, e1, h, e2, e3⟩ := ab_tg_s h hR
  obtain ⟨c1, h⟩ := sx_nd h
  obtain ⟨c2, h⟩ := sx_nd h
  obtain ⟨n1, n2, n3⟩ := ab_t9 c1 c2
  obtain ⟨a', a1, a2⟩ := ab_rt_a e2 n1 n2 n3
  have ea : a' = a := Option.some.inj (a1.symm.trans g1)
  rw [ea] at a2
  obtain ⟨lo, hi, h, l1, l2⟩ := ab_iv_s h hY g2
  have hn : ¬ ab_cov W (G a).1 z.toNat := by
    rintro ⟨q, hq, q1, q2, q3⟩
    rw [Bool.not_eq_true', Bool.eq_false_iff] at h
    refine h (List.any_eq_true.mpr ⟨q, hq, ?_⟩)
    rw [a2] at q1
    have q1 : q.1 = t := q1
    rw [Bool.and_eq_true, Bool.and_eq_true, sx_le_iff, sx_le_iff, q1]
    exact ⟨Nat.beq_refl t, by show lo ≤ (q.2.2 : Int); omega, by show (q.2.1 : Int) ≤ hi; omega⟩
  obtain ⟨f1, f2⟩ := hF a z.toNat hn
  refine ⟨g0, a, z, g1, g2, g4, ?_⟩
  obtain ⟨r, x, v⟩ := e
  rcases v with v | v | v
  · show ab_RI w v (M'.1 a z.toNat)
    rw [f1]; exact g3
  · trivial
  · show v < w.2.2.1 ∧ M'.2.2 a z.toNat = w.2.2.2 v
    rw [f2]; exact g3
theorem ab_cov_all {W W' : List (Nat × Nat × Nat)} (h : W.all (fun e => ab_cw W' e.1 (.ofNat e.2.1) (.ofNat e.2.2)) = true) {t k : Nat} (hc : ab_cov W t k) : ab_cov W' t k := by
  obtain ⟨q, hq, q1, q2, q3⟩ := hc
  have h1 := List.all_eq_true.mp h q hq
  have h2 := ab_cw_s (z := (k : Int)) h1 (by show (q.2.1 : Int) ≤ (k : Int); omega) (by show (k : Int) ≤ (q.2.2 : Int); omega)
  rw [q1] at h2
  exact h2
theorem ab_xx_s {Y : ab_Y} {x : ab_I} {X : ab_X} {w w0 : ab_wd} {z : Int} (h : ab_xx Y x X = true) (hk : ab_xk w0.1 X = true) (hY : ab_RY w Y) (hu : ab_up w0 w) (hx : ab_RI w x z) : ab_xh w0 X z := by
  have rig : ∀ {j : Nat} {b : Int}, j < w0.1 → ab_RI w (.inr (j, 1, b)) (w0.2.1 j + b) := fun {j b} hj => by
    refine ⟨Nat.lt_of_lt_of_le hj hu.1, ?_⟩
    rw [hu.2.1 j hj]
    have : Int.ofNat 1 * w0.2.1 j = w0.2.1 j := Int.one_mul _
    omega
  rcases X with c | ⟨j, b⟩ | ⟨lo, hi, rel⟩
  · exact ab_sm_s (y := .inl c) hY h hx rfl
  · exact ab_sm_s hY h hx (rig (sx_blt hk))
  · unfold ab_xx at h
    dsimp only at h
    obtain ⟨h1, h⟩ := sx_nd h
    obtain ⟨h2, h3⟩ := sx_nd h
    have h1 : lo + 0 ≤ z := ab_ge_s (y := .inl lo) hY h1 hx rfl
    refine ⟨by omega, ab_le_s hY h2 hx, fun j d e => ?_⟩
    subst e
    have g := ab_ge_s hY h3 hx (rig (b := .ofNat 0) (sx_blt hk))
    have g : w0.2.1 j + 0 + d ≤ z := g
    omega
theorem ab_pm_s {R : ab_R} {w0 : ab_wd} {G : mj_G} {M : mj_M} (hI : ab_Inv G M) : ∀ (ms : List (Nat × Nat × ab_X)) (Y : ab_Y) (m : ab_m) (w : ab_wd), ab_pm R ms Y m = true → ms.all (fun e => Nat.blt e.1 w0.2.2.1 && ab_xk w0.1 e.2.2) = true → ab_RY w Y → ab_RR w G R → ab_RM w M m → ab_up w0 w → ∀ e ∈ ms, ∃ a, w0.2.2.2 e.1 = some a ∧ ab_xh w0 e.2.2 (M.1 a e.2.1)
  | [], _, _, _, _, _, _, _, _, _, e, he => by cases he
  | (r, x, X) :: t, Y, m, w, h, hk, hY, hR, hM, hu, e, he => by
    unfold ab_pm at h
    rw [List.all_cons, Bool.and_eq_true, Bool.and_eq_true] at hk
    obtain ⟨hr', a, a1, w1, v, Y1, m1, u1, u2, u3, u4, u5⟩ := ab_rdi_s h hY hR hM hI (z := Int.ofNat x) rfl (Int.natCast_nonneg x)
    obtain ⟨h1, h2⟩ := sx_nd u5
    rcases List.mem_cons.mp he with rfl | he
    · refine ⟨a, ?_, ab_xx_s h1 hk.1.2 u2 (hu.tr u1.1) u4⟩
      rw [← hu.2.2.2 r (sx_blt hk.1.1)]; exact a1
    · exact ab_pm_s hI t Y1 m1 w1 h2 hk.2 u2 (hR.ey u1) u3 (hu.tr u1.1) e he
theorem ab_pr_s {Y : ab_Y} {R : ab_R} {p : Option (ab_X ⊕ (Unit ⊕ (Nat × Nat)))} {r : Option ab_V} {r' : Option mj_V} {w w0 : ab_wd} {G : mj_G} (h : ab_pr Y R p r = true) (hk : ab_k0 w0.1 p = true) (hY : ab_RY w Y) (hR : ab_RR w G R) (hu : ab_up w0 w) (hr : ab_ov w r r') : ab_rh w0 G p r' := by
  rcases p with _ | X | l | q
  · rcases r with _ | v
    · exact hr
    · cases h
  · rcases r with _ | v | v
    · cases h
    · obtain ⟨v', rfl, z, rfl, hz⟩ := hr
      exact ⟨z, rfl, ab_xx_s h hk hY hu hz⟩
    · cases h
  · rcases r with _ | v | v | v
    · cases h
    · cases h
    · obtain ⟨v', rfl, z, rfl⟩ := hr
      exact ⟨z, rfl⟩
    · cases h
  · rcases r with _ | v | v | v
    · cases h
    · cases h
    · cases h
    · obtain ⟨v', rfl, h1, rfl⟩ := hr
      have h : ab_tg R v (fun t n => ab_ts q (t, n)) = true := h
      obtain ⟨t, n, -, h, e2, -⟩ := ab_tg_s h hR
      exact ⟨_, rfl, ab_ts_s h e2⟩
/-! measures -/
def ab_m1 (z : Int) (s : Nat) : Nat := match s with
  | 0 => z.toNat
  | 1 => (2147483648 - z).toNat
  | _ => (z + 2147483648).toNat
def ab_mz (w : ab_wd) (A : List (ab_I × Nat)) : List Nat := A.map (fun q => ab_m1 (ab_ev w q.1) q.2)
def ab_lx : List Nat → List Nat → Prop
  | x :: xs, y :: ys => x < y ∨ (x = y ∧ ab_lx xs ys)
  | _, _ => False
theorem ab_lx_wf (P : List Nat → Prop) : ∀ (n : Nat), (∀ l, l.length = n → (∀ l', l'.length = n → ab_lx l' l → P l') → P l) → ∀ l, l.length = n → P l
  | 0, h, l, hl => h l hl (fun l' _ q => by
    cases l with
    | nil => cases l' <;> cases q
    | cons _ _ => simp at hl)
  | n + 1, h, l, hl => by
    have key : ∀ (x : Nat) (t : List Nat), t.length = n → P (x :: t) := by
      intro x
      induction x using Nat.strongRecOn with
      | _ x ihx =>
        refine ab_lx_wf (fun t => P (x :: t)) n (fun t ht iht => ?_)
        refine h (x :: t) (by simp [ht]) (fun l' hl' q => ?_)
        cases l' with
        | nil => simp at hl'
        | cons y t' =>
          have ht' : t'.length = n := by simpa using hl'
          rcases q with q | ⟨q1, q2⟩
          · exact ihx y q t' ht'
          · subst q1; exact iht t' ht' q2
    cases l with
    | nil => simp at hl
    | cons x t => exact key x t (by simpa using hl)
theorem ab_gm_s {Y : ab_Y} {u v : ab_I} {du dv : Nat} {w : ab_wd} {zu zv : Int} (h : ab_gm Y u du v dv = true) (hY : ab_RY w Y) (hu : ab_RI w u zu) (hv : ab_RI w v zv) : ab_m1 zv dv < ab_m1 zu du := by
  unfold ab_gm at h
  split at h
  · obtain ⟨h1, h2⟩ := sx_nd h
    have h1 : zv + 1 ≤ zu := ab_ge_s hY h1 hu hv
    have h2 : (0 : Int) + 0 ≤ zv := ab_ge_s (y := .inl (.ofNat 0)) hY h2 hv rfl
    show zv.toNat < zu.toNat
    omega
  · obtain ⟨h1, h2⟩ := sx_nd h
    have h1 : zu + 1 ≤ zv := ab_ge_s hY h1 hv hu
    have h2 : zu ≤ 2147483647 := ab_le_s hY h2 hu
    show (2147483648 - zv).toNat < (2147483648 - zu).toNat
    omega
  · obtain ⟨h1, h2⟩ := sx_nd h
    have h1 : zv + 1 ≤ zu := ab_ge_s hY h1 hu hv
    have h2 : (-2147483648 : Int) + 0 ≤ zv := ab_ge_s (y := .inl (.negSucc 2147483647)) hY h2 hv rfl
    show (zv + 2147483648).toNat < (zu + 2147483648).toNat
    omega
  · split at h
    · rename_i z
      have e : (z : Int) = zv := hv
      have h2 : zu ≤ 2147483647 - (z : Int) := ab_le_s hY h hu
      show zv.toNat < (2147483648 - zu).toNat
      omega
    · cases h
  · split at h
    · rename_i z
      have e : (z : Int) = zv := hv
      have h2 : ((z : Int) + -2147483647) + 0 ≤ zu := ab_ge_s (y := .inl (Int.ofNat z + Int.negSucc 2147483646)) hY h hu rfl
      show zv.toNat < (zu + 2147483648).toNat
      omega
    · cases h
  · split at h
    · rename_i z
      have e : (z : Int) = zu := hu
      obtain ⟨h1, h2⟩ := sx_nd h
      have h1 := sx_ble h1
      have h2 : (2147483649 - (z : Int)) + 0 ≤ zv := ab_ge_s (y := .inl (Int.ofNat 2147483649 - Int.ofNat z)) hY h2 hv rfl
      show (2147483648 - zv).toNat < zu.toNat
      omega
    · cases h
  · split at h
    · rename_i z
      have e : (z : Int) = zu := hu
      obtain ⟨h1, h2⟩ := sx_nd h
      have h1 := sx_ble h1
      have h2 : zv ≤ (z : Int) - 2147483649 := ab_le_s hY h2 hv
      show (zv + 2147483648).toNat < zu.toNat
      omega
    · cases h
  · cases h
theorem ab_ld_s {Y : ab_Y} {sg : ab_sg} {rf : ab_rr} {P : ab_pt} {w wA : ab_wd} (hY : ab_RY w Y) (hs : ab_so w sg) (hu : ab_up wA w) : ∀ (A B : List (ab_I × Nat)), ab_ld Y sg A B = true → (∀ q ∈ A, ∃ z, ab_RI wA q.1 z) → ab_lx (ab_mz (ab_wp P sg rf w) B) (ab_mz wA A)
  | [], _, h, _ => by cases h
  | _ :: _, [], h, _ => by cases h
  | (u, du) :: A, (v, dv) :: B, h, hA => by
    unfold ab_ld at h
    cases hv : ab_sv sg v with
    | none => rw [hv] at h; cases h
    | some v' =>
      rw [hv] at h
      dsimp only at h
      obtain ⟨zu, hzu⟩ := hA _ List.mem_cons_self
      have hzu : ab_RI wA u zu := hzu
      have hvz : ∃ zv, ab_RI w v' zv ∧ ab_ev (ab_wp P sg rf w) v = zv := by
        rcases v with z | ⟨i, a, b⟩
        · have hv : some (Sum.inl z) = some v' := hv
          cases hv
          exact ⟨z, rfl, rfl⟩
        · unfold ab_sv at hv
          dsimp only at hv
          cases hq : sx_nt sg i with
          | none => rw [hq] at hv; cases hv
          | some t =>
            rw [hq] at hv
            have hv : some (ab_cp a b t) = some v' := hv
            cases hv
            obtain ⟨zt, ht⟩ := hs i t hq
            refine ⟨_, ab_cp_s ht, ?_⟩
            show Int.ofNat a * (ab_wp P sg rf w).2.1 i + b = _
            rw [ab_wp_r hq ht]
      obtain ⟨zv, hzv, ev⟩ := hvz
      show ab_lx (ab_m1 (ab_ev (ab_wp P sg rf w) v) dv :: ab_mz (ab_wp P sg rf w) B) (ab_m1 (ab_ev wA u) du :: ab_mz wA A)
      rw [ev, hzu.ev]
      cases hg : ab_gm Y u du v' dv with
      | true => exact Or.inl (ab_gm_s hg hY (hzu.up hu) hzv)
      | false =>
        rw [hg] at h
        dsimp only [cond_false] at h
        obtain ⟨hc, h⟩ := sx_cd h
        obtain ⟨c1, c2⟩ := sx_nd hc
        refine Or.inr ⟨?_, ab_ld_s hY hs hu A B h (fun q hq => hA q (List.mem_cons_of_mem _ hq))⟩
        rw [sx_beq c1, ab_sm_s hY c2 (hzu.up hu) hzv]
