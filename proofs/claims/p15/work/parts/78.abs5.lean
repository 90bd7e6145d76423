/-! ===== patterns ===== -/
theorem ab_nt_set {β : Type} : ∀ (L : List (Option β)) (i j : Nat) (x : Option β), sx_nt (L.set i x) j = if j = i ∧ i < L.length then x else sx_nt L j
  | [], i, j, x => by simp [sx_nt]
  | y :: t, 0, 0, x => by simp [sx_nt]
  | y :: t, 0, j + 1, x => by simp [sx_nt]
  | y :: t, i + 1, 0, x => by simp [sx_nt]
  | y :: t, i + 1, j + 1, x => by
    show sx_nt (t.set i x) j = _
    rw [ab_nt_set t i j x]
    simp [sx_nt]
theorem ab_nt_lt {β : Type} : ∀ {L : List (Option β)} {i : Nat} {x : β}, sx_nt L i = some x → i < L.length
  | [], _, _, h => by cases h
  | _ :: _, 0, _, _ => Nat.succ_pos _
  | _ :: t, i + 1, _, h => Nat.succ_lt_succ (ab_nt_lt (L := t) h)
def ab_ev (w : ab_wd) (x : ab_I) : Int := match x with
  | .inl z => z
  | .inr (i, a, b) => Int.ofNat a * w.2.1 i + b
theorem ab_RI.ev {w : ab_wd} {x : ab_I} {z : Int} (h : ab_RI w x z) : ab_ev w x = z := by
  rcases x with p | ⟨i, a, b⟩
  · exact h
  · exact h.2
def ab_ls {β : Type} (l l' : List (Option β)) : Prop := ∀ i x, sx_nt l i = some x → sx_nt l' i = some x
theorem ab_ls.rf {β : Type} {l : List (Option β)} : ab_ls l l := fun _ _ h => h
theorem ab_ls.tr {β : Type} {l l' l'' : List (Option β)} (h : ab_ls l l') (h' : ab_ls l' l'') : ab_ls l l'' := fun i x q => h' i x (h i x q)
theorem ab_ls.set {β : Type} {l : List (Option β)} {i : Nat} {x : β} (h : sx_nt l i = none) : ab_ls l (l.set i (some x)) := fun j y hj => by
  rw [ab_nt_set]
  by_cases e : j = i ∧ i < l.length
  · rw [e.1, h] at hj; cases hj
  · rw [if_neg e]; exact hj
def ab_so (w : ab_wd) (sg : ab_sg) : Prop := ∀ i x, sx_nt sg i = some x → ∃ z, ab_RI w x z
def ab_ro (w : ab_wd) (G : mj_G) (Rp : ab_R) (rf : ab_rr) : Prop := ∀ j u, sx_nt rf j = some u → u < w.2.2.1 ∧ ∀ q, ab_nR Rp j = some q → ab_rt G q (w.2.2.2 u)
theorem ab_so.up {w w' : ab_wd} {sg : ab_sg} (u : ab_up w w') (h : ab_so w sg) : ab_so w' sg := fun i x hx => by
  obtain ⟨z, hz⟩ := h i x hx
  exact ⟨z, hz.up u⟩
theorem ab_ro.up {w w' : ab_wd} {G : mj_G} {Rp : ab_R} {rf : ab_rr} (u : ab_up w w') (h : ab_ro w G Rp rf) : ab_ro w' G Rp rf := fun j v hv => by
  obtain ⟨h1, h2⟩ := h j v hv
  exact ⟨Nat.lt_of_lt_of_le h1 u.2.2.1, fun q hq => by rw [u.2.2.2 v h1]; exact h2 q hq⟩
/-- what a pattern's value stands for -/
def ab_bd (sg : ab_sg) (rf : ab_rr) (w : ab_wd) (p : ab_V) (v : mj_V) : Prop := match p with
  | .inl (.inl z) => v = .inl z
  | .inl (.inr (i, a, b)) => ∃ x zx, sx_nt sg i = some x ∧ ab_RI w x zx ∧ v = .inl (Int.ofNat a * zx + b)
  | .inr (.inl _) => ∃ z, v = .inr (.inl z)
  | .inr (.inr j) => ∃ u, sx_nt rf j = some u ∧ u < w.2.2.1 ∧ v = .inr (.inr (w.2.2.2 u))
theorem ab_bd.up {sg sg' : ab_sg} {rf rf' : ab_rr} {w w' : ab_wd} {p : ab_V} {v : mj_V} (h1 : ab_ls sg sg') (h2 : ab_ls rf rf') (u : ab_up w w') (h : ab_bd sg rf w p v) : ab_bd sg' rf' w' p v := by
  rcases p with (z | ⟨i, a, b⟩) | l | j
  · exact h
  · obtain ⟨x, zx, g1, g2, g3⟩ := h
    exact ⟨x, zx, h1 i x g1, g2.up u, g3⟩
  · exact h
  · obtain ⟨q, g1, g2, g3⟩ := h
    exact ⟨q, h2 j q g1, Nat.lt_of_lt_of_le g2 u.2.2.1, by rw [u.2.2.2 q g2]; exact g3⟩
theorem ab_cp_s {w : ab_wd} {a : Nat} {b zt : Int} {t : ab_I} (h : ab_RI w t zt) : ab_RI w (ab_cp a b t) (Int.ofNat a * zt + b) := by
  rcases t with z | ⟨i, f, q⟩
  · show Int.ofNat a * z + b = _
    rw [show z = zt from h]
  · refine ⟨h.1, ?_⟩
    rw [← h.2, Int.mul_add, ← Int.mul_assoc]
    show Int.ofNat a * Int.ofNat f * w.2.1 i + (Int.ofNat a * q + b) = _
    omega
theorem ab_mv_s {Rp : ab_R} {Y : ab_Y} {R : ab_R} {p u : ab_V} {sg : ab_sg} {rf : ab_rr} {k : ab_sg → ab_rr → Bool} {w : ab_wd} {G : mj_G} {v : mj_V} (h : ab_mv Rp Y R p u sg rf k = true) (hY : ab_RY w Y) (hR : ab_RR w G R) (hv : ab_RV w u v) (hs : ab_so w sg) (hr : ab_ro w G Rp rf) : ∃ sg' rf', ab_ls sg sg' ∧ ab_ls rf rf' ∧ ab_so w sg' ∧ ab_ro w G Rp rf' ∧ ab_bd sg' rf' w p v ∧ k sg' rf' = true := by
  rcases p with (z | ⟨i, a, b⟩) | l | j
  · rcases u with x | u
    · obtain ⟨zv, rfl, hx⟩ := hv
      unfold ab_mv at h
      dsimp only at h
      obtain ⟨lo, hi, h, l1, l2⟩ := ab_iv_s h hY hx
      obtain ⟨hc, h⟩ := sx_cd h
      obtain ⟨c1, c2⟩ := sx_nd hc
      have c1 := sx_eq_iff.mp c1
      have c2 := sx_eq_iff.mp c2
      exact ⟨sg, rf, ab_ls.rf, ab_ls.rf, hs, hr, (by show _ = _; rw [show zv = z by omega]), h⟩
    · cases h
  · rcases u with x | u
    · obtain ⟨zv, rfl, hx⟩ := hv
      unfold ab_mv at h
      dsimp only at h
      cases hq : sx_nt sg i with
      | some t =>
        rw [hq] at h
        obtain ⟨hc, h⟩ := sx_cd h
        obtain ⟨zt, ht⟩ := hs i t hq
        have e := ab_sm_s hY hc (ab_cp_s ht) hx
        exact ⟨sg, rf, ab_ls.rf, ab_ls.rf, hs, hr, ⟨t, zt, hq, ht, by rw [e]⟩, h⟩
      | none =>
        rw [hq] at h
        obtain ⟨hc, h⟩ := sx_cd h
        obtain ⟨c1, hc⟩ := sx_nd hc
        obtain ⟨c2, c3⟩ := sx_nd hc
        have c1 := sx_beq c1
        have c2 : b = 0 := sx_eq_iff.mp c2
        have c3 := sx_blt c3
        refine ⟨_, rf, ab_ls.set hq, ab_ls.rf, fun j y hj => ?_, hr, ⟨x, zv, by rw [ab_nt_set, if_pos ⟨rfl, c3⟩], hx, ?_⟩, h⟩
        · rw [ab_nt_set] at hj
          by_cases e : j = i ∧ i < sg.length
          · rw [if_pos e] at hj; cases hj; exact ⟨zv, hx⟩
          · rw [if_neg e] at hj; exact hs j y hj
        · rw [c1, c2]
          show Sum.inl zv = Sum.inl ((1 : Int) * zv + 0)
          rw [show (1 : Int) * zv + 0 = zv by omega]
    · cases h
  · rcases u with x | u | u
    · cases h
    · exact ⟨sg, rf, ab_ls.rf, ab_ls.rf, hs, hr, hv, h⟩
    · cases h
  · rcases u with x | u | u
    · cases h
    · cases h
    · obtain ⟨hu, rfl⟩ := hv
      unfold ab_mv at h
      dsimp only at h
      cases hq : sx_nt rf j with
      | some t =>
        rw [hq] at h
        obtain ⟨hc, h⟩ := sx_cd h
        have e := sx_beq hc
        exact ⟨sg, rf, ab_ls.rf, ab_ls.rf, hs, hr, ⟨t, hq, by rw [← e]; exact hu, by rw [← e]⟩, h⟩
      | none =>
        rw [hq] at h
        dsimp only at h
        cases hp : ab_nR Rp j with
        | none => rw [hp] at h; cases h
        | some p =>
          rw [hp] at h
          cases hg : ab_nR R u with
          | none => rw [hg] at h; cases h
          | some q =>
            rw [hg] at h
            dsimp only at h
            obtain ⟨hc, h⟩ := sx_cd h
            obtain ⟨c1, c2⟩ := sx_nd hc
            have c2 := sx_blt c2
            refine ⟨sg, _, ab_ls.rf, ab_ls.set hq, hs, fun j' y hj => ?_, ⟨u, by rw [ab_nt_set, if_pos ⟨rfl, c2⟩], hu, rfl⟩, h⟩
            rw [ab_nt_set] at hj
            by_cases e : j' = j ∧ j < rf.length
            · rw [if_pos e] at hj
              cases hj
              refine ⟨hu, fun q' hq' => ?_⟩
              rw [e.1, hp] at hq'
              cases hq'
              exact ab_ts_s c1 (hR.2 u q hg)
            · rw [if_neg e] at hj; exact hr j' y hj
def ab_bl (sg : ab_sg) (rf : ab_rr) (w : ab_wd) : ab_L → mj_L → Prop
  | [], L => L = []
  | none :: s, L => ∃ v L', L = v :: L' ∧ ab_bl sg rf w s L'
  | some x :: s, L => ∃ v L', L = some v :: L' ∧ ab_bd sg rf w x v ∧ ab_bl sg rf w s L'
theorem ab_bl.up {sg sg' : ab_sg} {rf rf' : ab_rr} {w w' : ab_wd} (h1 : ab_ls sg sg') (h2 : ab_ls rf rf') (u : ab_up w w') : ∀ {s : ab_L} {L : mj_L}, ab_bl sg rf w s L → ab_bl sg' rf' w' s L
  | [], _, h => h
  | none :: _, _, h => by
    obtain ⟨v, t, g1, g2⟩ := h
    exact ⟨v, t, g1, g2.up h1 h2 u⟩
  | some _ :: _, _, h => by
    obtain ⟨v, t, g1, g2, g3⟩ := h
    exact ⟨v, t, g1, g2.up h1 h2 u, g3.up h1 h2 u⟩
theorem ab_mvs_s {Rp : ab_R} {Y : ab_Y} {R : ab_R} {w : ab_wd} {G : mj_G} (hY : ab_RY w Y) (hR : ab_RR w G R) : ∀ (ps us : ab_L) (sg : ab_sg) (rf : ab_rr) (k : ab_sg → ab_rr → Bool) (L : mj_L), ab_mvs Rp Y R ps us sg rf k = true → ab_RL w us L → ab_so w sg → ab_ro w G Rp rf → ∃ sg' rf', ab_ls sg sg' ∧ ab_ls rf rf' ∧ ab_so w sg' ∧ ab_ro w G Rp rf' ∧ ab_bl sg' rf' w ps L ∧ k sg' rf' = true
  | [], [], sg, rf, k, L, h, hL, hs, hr => ⟨sg, rf, ab_ls.rf, ab_ls.rf, hs, hr, hL, h⟩
  | [], _ :: _, _, _, _, _, h, _, _, _ => by cases h
  | none :: ps, [], _, _, _, _, h, _, _, _ => by cases h
  | some _ :: ps, [], _, _, _, _, h, _, _, _ => by cases h
  | some _ :: ps, none :: _, _, _, _, _, h, _, _, _ => by cases h
  | none :: ps, u :: us, sg, rf, k, L, h, hL, hs, hr => by
    obtain ⟨v, L', e1, e2⟩ : ∃ v L', L = v :: L' ∧ ab_RL w us L' := by
      cases u with
      | none => exact hL
      | some u => obtain ⟨v, L', g1, -, g2⟩ := hL; exact ⟨some v, L', g1, g2⟩
    obtain ⟨sg', rf', g1, g2, g3, g4, g5, g6⟩ := ab_mvs_s hY hR ps us sg rf k L' h e2 hs hr
    exact ⟨sg', rf', g1, g2, g3, g4, ⟨v, L', e1, g5⟩, g6⟩
  | some p :: ps, some u :: us, sg, rf, k, L, h, hL, hs, hr => by
    obtain ⟨v, L', e1, e2, e3⟩ := hL
    obtain ⟨s1, r1, g1, g2, g3, g4, g5, g6⟩ := ab_mv_s h hY hR e2 hs hr
    obtain ⟨s2, r2, o1, o2, o3, o4, o5, o6⟩ := ab_mvs_s hY hR ps us s1 r1 k L' g6 e3 g3 g4
    exact ⟨s2, r2, g1.tr o1, g2.tr o2, o3, o4, ⟨v, L', e1, g5.up o1 o2 ab_up.rf, o5⟩, o6⟩
def ab_bm (sg : ab_sg) (rf : ab_rr) (w : ab_wd) (M : mj_M) (e : Nat × Nat × ab_V) : Prop := ∃ u a, sx_nt rf e.1 = some u ∧ u < w.2.2.1 ∧ w.2.2.2 u = some a ∧ match e.2.2 with
  | .inl p => ab_bd sg rf w (.inl p) (.inl (M.1 a e.2.1))
  | .inr (.inl _) => True
  | .inr (.inr j) => ab_bd sg rf w (.inr (.inr j)) (.inr (.inr (M.2.2 a e.2.1)))
theorem ab_bm.up {sg sg' : ab_sg} {rf rf' : ab_rr} {w w' : ab_wd} {M : mj_M} {e : Nat × Nat × ab_V} (h1 : ab_ls sg sg') (h2 : ab_ls rf rf') (u : ab_up w w') (h : ab_bm sg rf w M e) : ab_bm sg' rf' w' M e := by
  obtain ⟨q, a, g1, g2, g3, g4⟩ := h
  refine ⟨q, a, h2 _ q g1, Nat.lt_of_lt_of_le g2 u.2.2.1, by rw [u.2.2.2 q g2]; exact g3, ?_⟩
  rcases e with ⟨r, x, p | l | j⟩
  · exact ab_bd.up h1 h2 u g4
  · trivial
  · exact ab_bd.up h1 h2 u g4
theorem ab_mms_s {Rp : ab_R} {G : mj_G} {M : mj_M} (hI : ab_Inv G M) : ∀ (mp : List (Nat × Nat × ab_V)) (Y : ab_Y) (R : ab_R) (m : ab_m) (sg : ab_sg) (rf : ab_rr) (k : ab_sg → ab_rr → ab_Y → ab_R → ab_m → Bool) (w : ab_wd), ab_mms Rp mp Y R m sg rf k = true → ab_RY w Y → ab_RR w G R → ab_RM w M m → ab_so w sg → ab_ro w G Rp rf → ∃ sg' rf' w' Y' R' m', ab_up w w' ∧ ab_RY w' Y' ∧ ab_RR w' G R' ∧ ab_RM w' M m' ∧ ab_ls sg sg' ∧ ab_ls rf rf' ∧ ab_so w' sg' ∧ ab_ro w' G Rp rf' ∧ (∀ e ∈ mp, ab_bm sg' rf' w' M e) ∧ k sg' rf' Y' R' m' = true
  | [], Y, R, m, sg, rf, k, w, h, hY, hR, hM, hs, hr => ⟨sg, rf, w, Y, R, m, ab_up.rf, hY, hR, hM, ab_ls.rf, ab_ls.rf, hs, hr, (fun e he => by cases he), h⟩
  | (r, x, .inr (.inl _)) :: t, _, _, _, _, _, _, _, h, _, _, _, _, _ => by cases h
  | (r, x, .inl p) :: t, Y, R, m, sg, rf, k, w, h, hY, hR, hM, hs, hr => by
    unfold ab_mms at h
    cases hq : sx_nt rf r with
    | none => rw [hq] at h; cases h
    | some r' =>
      rw [hq] at h
      dsimp only at h
      obtain ⟨hr', a, a1, w1, v, Y1, m1, u1, u2, u3, u4, u5⟩ := ab_rdi_s h hY hR hM hI (z := Int.ofNat x) rfl (Int.natCast_nonneg x)
      have u4 : ab_RI w1 v (M.1 a x) := u4
      obtain ⟨s2, r2, g1, g2, g3, g4, g5, g6⟩ := ab_mv_s (v := .inl (M.1 a x)) u5 u2 (hR.ey u1) ⟨_, rfl, u4⟩ (hs.up u1.1) (hr.up u1.1)
      obtain ⟨s3, r3, w3, Y3, R3, m3, o1, o2, o3, o4, o5, o6, o7, o8, o9, o10⟩ := ab_mms_s hI t Y1 R m1 s2 r2 k w1 g6 u2 (hR.ey u1) u3 g3 g4
      refine ⟨s3, r3, w3, Y3, R3, m3, u1.1.tr o1, o2, o3, o4, g1.tr o5, g2.tr o6, o7, o8, fun e he => ?_, o10⟩
      rcases List.mem_cons.mp he with rfl | he
      · exact ab_bm.up o5 o6 o1 (show ab_bm s2 r2 w1 M (r, x, .inl p) from ⟨r', a, g2 _ _ hq, Nat.lt_of_lt_of_le hr' u1.1.2.2.1, by rw [u1.2]; exact a1, g5⟩)
      · exact o9 e he
  | (r, x, .inr (.inr j)) :: t, Y, R, m, sg, rf, k, w, h, hY, hR, hM, hs, hr => by
    unfold ab_mms at h
    cases hq : sx_nt rf r with
    | none => rw [hq] at h; cases h
    | some r' =>
      rw [hq] at h
      dsimp only at h
      obtain ⟨hr', a, a1, w1, v, R1, m1, u1, u2, u3, u4, u5, u6⟩ := ab_rdr_s h hY hR hM hI (z := Int.ofNat x) rfl (Int.natCast_nonneg x)
      have u5 : M.2.2 a x = w1.2.2.2 v := u5
      obtain ⟨s2, r2, g1, g2, g3, g4, g5, g6⟩ := ab_mv_s (v := .inr (.inr (M.2.2 a x))) u6 (hY.er u1) u2 ⟨u4, by rw [u5]⟩ (hs.up u1.1) (hr.up u1.1)
      obtain ⟨s3, r3, w3, Y3, R3, m3, o1, o2, o3, o4, o5, o6, o7, o8, o9, o10⟩ := ab_mms_s hI t Y R1 m1 s2 r2 k w1 g6 (hY.er u1) u2 u3 g3 g4
      refine ⟨s3, r3, w3, Y3, R3, m3, u1.1.tr o1, o2, o3, o4, g1.tr o5, g2.tr o6, o7, o8, fun e he => ?_, o10⟩
      rcases List.mem_cons.mp he with rfl | he
      · exact ab_bm.up o5 o6 o1 (show ab_bm s2 r2 w1 M (r, x, .inr (.inr j)) from ⟨r', a, g2 _ _ hq, Nat.lt_of_lt_of_le hr' u1.1.2.2.1, by rw [u1.1.2.2.2 r' hr']; exact a1, g5⟩)
      · exact o9 e he
theorem ab_mb_s {Y : ab_Y} {sg0 : ab_sg} {w : ab_wd} (hY : ab_RY w Y) (hs : ab_so w sg0) : ∀ (Yp : ab_Y) (sg : ab_sg), ab_mb Y sg0 Yp sg = true → ab_so w sg → Yp.length = sg.length ∧ ∀ i q, ab_ny Yp i = some q → ∃ x z, sx_nt sg i = some x ∧ ab_RI w x z ∧ q.1 ≤ z ∧ z ≤ q.2.1 ∧ ∀ r ∈ q.2.2, ∃ y zy, sx_nt sg0 r.1 = some y ∧ ab_RI w y zy ∧ zy + r.2 ≤ z
  | [], [], _, _ => ⟨rfl, fun i q h => by cases h⟩
  | [], _ :: _, h, _ => by cases h
  | (lo, hi, rel) :: t, [], h, _ => by cases h
  | (lo, hi, rel) :: t, none :: g, h, _ => by cases h
  | (lo, hi, rel) :: t, some x :: g, h, hg => by
    unfold ab_mb at h
    obtain ⟨h1, h⟩ := sx_nd h
    obtain ⟨h2, h⟩ := sx_nd h
    obtain ⟨h3, h⟩ := sx_nd h
    obtain ⟨e1, e2⟩ := ab_mb_s hY hs t g h (fun i x hx => hg (i + 1) x hx)
    obtain ⟨z, hz⟩ := hg 0 x rfl
    refine ⟨by simp [e1], fun i q hq => ?_⟩
    cases i with
    | zero =>
      cases hq
      have h1 : lo + 0 ≤ z := ab_ge_s (y := .inl lo) hY h1 hz rfl
      refine ⟨x, z, rfl, hz, by show lo ≤ z; omega, ab_le_s hY h2 hz, fun r hr => ?_⟩
      have h4 := List.all_eq_true.mp h3 r hr
      cases hy : sx_nt sg0 r.1 with
      | none => rw [hy] at h4; cases h4
      | some y =>
        rw [hy] at h4
        obtain ⟨zy, hzy⟩ := hs r.1 y hy
        exact ⟨y, zy, rfl, hzy, ab_ge_s hY h4 hz hzy⟩
    | succ i => exact e2 i q hq
/-- the world of a pattern -/
def ab_wp (P : ab_pt) (sg : ab_sg) (rf : ab_rr) (w : ab_wd) : ab_wd := (P.1.length, fun i => match sx_nt sg i with
  | some x => ab_ev w x
  | none => 0, P.2.1.length, fun j => match sx_nt rf j with
  | some u => w.2.2.2 u
  | none => none)
theorem ab_wp_r {P : ab_pt} {sg : ab_sg} {rf : ab_rr} {w : ab_wd} {i : Nat} {x : ab_I} {z : Int} (h : sx_nt sg i = some x) (hz : ab_RI w x z) : (ab_wp P sg rf w).2.1 i = z := by
  show (match sx_nt sg i with | some x => ab_ev w x | none => 0) = z
  rw [h]; exact hz.ev
theorem ab_wp_s {P : ab_pt} {sg : ab_sg} {rf : ab_rr} {w : ab_wd} {j u : Nat} (h : sx_nt rf j = some u) : (ab_wp P sg rf w).2.2.2 j = w.2.2.2 u := by
  show (match sx_nt rf j with | some u => w.2.2.2 u | none => none) = _
  rw [h]
theorem ab_bd_RV {P : ab_pt} {sg : ab_sg} {rf : ab_rr} {w : ab_wd} {p : ab_V} {v : mj_V} (h1 : sg.length = P.1.length) (h2 : rf.length = P.2.1.length) (h : ab_bd sg rf w p v) : ab_RV (ab_wp P sg rf w) p v := by
  rcases p with (z | ⟨i, a, b⟩) | l | j
  · exact ⟨z, h, rfl⟩
  · obtain ⟨x, zx, g1, g2, g3⟩ := h
    refine ⟨_, g3, by show i < P.1.length; rw [← h1]; exact ab_nt_lt g1, ?_⟩
    rw [ab_wp_r g1 g2]
  · exact h
  · obtain ⟨u, g1, g2, g3⟩ := h
    exact ⟨by show j < P.2.1.length; rw [← h2]; exact ab_nt_lt g1, by rw [ab_wp_s g1]; exact g3⟩
theorem ab_bl_RL {P : ab_pt} {sg : ab_sg} {rf : ab_rr} {w : ab_wd} (h1 : sg.length = P.1.length) (h2 : rf.length = P.2.1.length) : ∀ {s : ab_L} {L : mj_L}, ab_bl sg rf w s L → ab_RL (ab_wp P sg rf w) s L
  | [], _, h => h
  | none :: _, _, h => by
    obtain ⟨v, t, g1, g2⟩ := h
    exact ⟨v, t, g1, ab_bl_RL h1 h2 g2⟩
  | some _ :: _, _, h => by
    obtain ⟨v, t, g1, g2, g3⟩ := h
    exact ⟨v, t, g1, ab_bd_RV h1 h2 g2, ab_bl_RL h1 h2 g3⟩
theorem ab_mt_s {P : ab_pt} {us : ab_L} {sg : ab_sg} {rf : ab_rr} {Y : ab_Y} {R : ab_R} {m : ab_m} {k : ab_sg → ab_rr → ab_Y → ab_R → ab_m → Bool} {w : ab_wd} {G : mj_G} {M : mj_M} {L : mj_L} (h : ab_mt P us sg rf Y R m k = true) (hY : ab_RY w Y) (hR : ab_RR w G R) (hM : ab_RM w M m) (hI : ab_Inv G M) (hL : ab_RL w us L) (hs : ab_so w sg) (hr : ab_ro w G P.2.1 rf) :
    ∃ sg' rf' w' Y' R' m', ab_up w w' ∧ ab_RY w' Y' ∧ ab_RR w' G R' ∧ ab_RM w' M m' ∧ ab_ls sg sg' ∧ ab_ls rf rf' ∧ ab_so w' sg' ∧ ab_ro w' G P.2.1 rf' ∧ ab_RY (ab_wp P sg' rf' w') P.1 ∧ ab_RR (ab_wp P sg' rf' w') G P.2.1 ∧ ab_RM (ab_wp P sg' rf' w') M (ab_mk P.2.2.1) ∧ ab_RL (ab_wp P sg' rf' w') P.2.2.2 L ∧ P.1.length = sg'.length ∧ rf'.length = P.2.1.length ∧ k sg' rf' Y' R' m' = true := by
  unfold ab_mt at h
  obtain ⟨s1, r1, g1, g2, g3, g4, g5, h⟩ := ab_mvs_s hY hR _ _ _ _ _ L h hL hs hr
  obtain ⟨s2, r2, w2, Y2, R2, m2, o1, o2, o3, o4, o5, o6, o7, o8, o9, h⟩ := ab_mms_s hI _ _ _ _ _ _ _ w h hY hR hM g3 g4
  obtain ⟨hc, h⟩ := sx_cd h
  obtain ⟨c1, hc⟩ := sx_nd hc
  obtain ⟨c2, c3⟩ := sx_nd hc
  have c3 := sx_beq c3
  obtain ⟨e1, e2⟩ := ab_mb_s o2 o7 _ _ c1 o7
  refine ⟨s2, r2, w2, Y2, R2, m2, o1, o2, o3, o4, g1.tr o5, g2.tr o6, o7, o8, ⟨rfl, fun i q hq => ?_⟩, ⟨rfl, fun j q hq => ?_⟩, fun e he => ?_, ab_bl_RL e1.symm c3 (g5.up o5 o6 o1), e1, c3, h⟩
  · obtain ⟨x, z, f1, f2, f3, f4, f5⟩ := e2 i q hq
    unfold ab_q1
    rw [ab_wp_r f1 f2]
    refine ⟨f3, f4, fun r hr => ?_⟩
    obtain ⟨y, zy, k1, k2, k3⟩ := f5 r hr
    rw [ab_wp_r k1 k2]
    exact ⟨by show r.1 < P.1.length; rw [e1]; exact ab_nt_lt k1, k3⟩
  · have hj : j < r2.length := by rw [c3]; exact ab_nR_lt hq
    have hb : ∃ u, sx_nt r2 j = some u := by
      have key : ∀ (l : ab_rr) (j : Nat), l.all Option.isSome = true → j < l.length → ∃ u, sx_nt l j = some u := by
        intro l
        induction l with
        | nil => intro j _ hj; simp at hj
        | cons y t ih =>
          intro j ha hj
          rw [List.all_cons, Bool.and_eq_true] at ha
          cases j with
          | zero =>
            cases y with
            | none => cases ha.1
            | some u => exact ⟨u, rfl⟩
          | succ j => exact ih j ha.2 (by simp at hj; omega)
      exact key r2 j c2 hj
    obtain ⟨u, hu⟩ := hb
    rw [ab_wp_s hu]
    exact (o8 j u hu).2 q hq
  · obtain ⟨e0, he0, rfl⟩ := List.mem_map.mp he
    obtain ⟨u, a, f1, f2, f3, f4⟩ := o9 e0 he0
    obtain ⟨r, x, p⟩ := e0
    refine ⟨by show r < P.2.1.length; rw [← c3]; exact ab_nt_lt f1, a, Int.ofNat x, by rw [ab_wp_s f1]; exact f3, rfl, Int.natCast_nonneg x, ?_⟩
    rcases p with p | l | j
    · obtain ⟨z, q1, q2⟩ := ab_bd_RV (P := P) e1.symm c3 f4
      cases q1
      exact q2
    · trivial
    · obtain ⟨q1, q2⟩ := ab_bd_RV (P := P) e1.symm c3 f4
      refine ⟨q1, ?_⟩
      have q2 : (Sum.inr (Sum.inr (M.2.2 a x)) : mj_V) = .inr (.inr ((ab_wp P s2 r2 w2).2.2.2 j)) := q2
      exact Sum.inr.inj (Sum.inr.inj q2)
