section
/-! ===== cells: what is known of them, reading, writing ===== -/
/-- the reference's reserved words -/
def ab_rsv (k : Nat) : Int64 := List.getD [Int64.ofNat 1953462126, Int64.ofNat 512736126322, Int64.ofNat 6449508, Int64.ofNat 1852138852, Int64.ofNat 1835625580, Int64.ofNat 108243533981541, Int64.ofNat 439854918756, Int64.ofNat 1836021349, Int64.ofNat 1718186856, Int64.ofNat 8097881601010983781, Int64.ofNat 7103860, Int64.ofNat 7562593, Int64.ofNat 28530, Int64.ofNat 6385252, Int64.ofNat 7237492, Int64.ofNat 495673373285, Int64.ofNat 32765899399459961, Int64.ofNat 1886350948, Int64.ofNat 483006772069, Int64.ofNat 1885432164, Int64.ofNat 6582905, Int64.ofNat 1818588275, Int64.ofNat 444300879214, Int64.ofNat 482854658917] k 0
def ab_Inv (G : mj_G) (M : mj_M) : Prop := (∀ a k, (ab_rg (G a).1 k).1 ≤ M.1 a k ∧ M.1 a k ≤ (ab_rg (G a).1 k).2) ∧ (∀ a k q, ab_rf (G a).1 k = some q → (100 ≤ (G a).1 % 1000 → k < (G a).2) → ab_rt G q (M.2.2 a k)) ∧ (∀ a, (G a).1 % 1000 = 50 → ∃ k, k < 24 ∧ G a = (900050 + 1000 * k, 0)) ∧ (∀ a b, (G a).1 % 1000 = 50 → G a = G b → a = b) ∧ (∀ a k, (G a).1 = 55103 → k < 24 → M.2.1 a k = ab_rsv k)
def ab_cov (W : List (Nat × Nat × Nat)) (t k : Nat) : Prop := ∃ q ∈ W, q.1 = t ∧ q.2.1 ≤ k ∧ k ≤ q.2.2
def ab_frm (W : List (Nat × Nat × Nat)) (G : mj_G) (M0 M : mj_M) : Prop := ∀ a k, ¬ ab_cov W (G a).1 k → M.1 a k = M0.1 a k ∧ M.2.2 a k = M0.2.2 a k
theorem ab_frm.rf {W : List (Nat × Nat × Nat)} {G : mj_G} {M : mj_M} : ab_frm W G M M := fun _ _ _ => ⟨rfl, rfl⟩
theorem ab_frm.tr {W : List (Nat × Nat × Nat)} {G : mj_G} {M M' M'' : mj_M} (h : ab_frm W G M M') (h' : ab_frm W G M' M'') : ab_frm W G M M'' := fun a k hc => ⟨(h' a k hc).1.trans (h a k hc).1, (h' a k hc).2.trans (h a k hc).2⟩
def ab_inr (q : Int × Int) : Prop := -2147483648 ≤ q.1 ∧ q.2 ≤ 2147483647
theorem ab_inc {b : Bool} {x y : Int × Int} (h1 : ab_inr x) (h2 : ab_inr y) : ab_inr (cond b x y) := by cases b <;> assumption
theorem ab_rg_in (t k : Nat) : ab_inr (ab_rg t k) := by
  have hs : ∀ k, ab_inr (ab_s k) := fun k => by
    unfold ab_s
    repeat' first | exact ⟨by decide, by decide⟩ | apply ab_inc
  unfold ab_rg
  refine ab_inc ?_ (ab_inc ?_ ?_)
  · unfold ab_rgp
    repeat' first | exact hs _ | exact ⟨by decide, by decide⟩ | apply ab_inc
  · unfold ab_rga
    repeat' first | exact ⟨by decide, by decide⟩ | apply ab_inc
  · unfold ab_rgo
    repeat' first | exact ⟨by decide, by decide⟩ | apply ab_inc
theorem ab_Inv.mj {G : mj_G} {M : mj_M} (h : ab_Inv G M) (a k : Nat) : mj_in (M.1 a k) := by
  have h1 := h.1 a k
  have h2 := ab_rg_in (G a).1 k
  unfold ab_inr at h2
  exact ⟨by omega, by omega⟩
theorem ab_tg_s {R : ab_R} {r : Nat} {k : Nat → Nat → Bool} {w : ab_wd} {G : mj_G} (h : ab_tg R r k = true) (hR : ab_RR w G R) : ∃ t n, ab_nR R r = some (t, n) ∧ k t n = true ∧ ab_rt G (t, n) (w.2.2.2 r) ∧ r < w.2.2.1 := by
  unfold ab_tg at h
  cases hq : ab_nR R r with
  | none => rw [hq] at h; cases h
  | some q =>
    rw [hq] at h
    exact ⟨q.1, q.2, rfl, h, hR.2 r q hq, by rw [hR.1]; exact ab_nR_lt hq⟩
theorem ab_rt_a {G : mj_G} {t n : Nat} {o : Option Nat} (h : ab_rt G (t, n) o) (h0 : t ≠ 0) (h1 : t ≠ 1) (h5 : t ≠ 50) : ∃ a, o = some a ∧ G a = (t, n) := by
  rcases h with h | h | h | h
  · exact absurd h.1 h0
  · exact absurd h.1 h1
  · exact absurd h.1 h5
  · exact h.2.2.2
theorem ab_ts_s {G : mj_G} {p q : Nat × Nat} {o : Option Nat} (h : ab_ts p q = true) (hq : ab_rt G q o) : ab_rt G p o := by
  have w50 : q.1 % 1000 = 50 → ∃ a, o = some a ∧ (G a).1 % 1000 = 50 := fun e => by
    rcases hq with g | g | g | g
    · rw [g.1] at e; simp at e
    · rw [g.1] at e; simp at e
    · exact g.2
    · obtain ⟨a, g1, g2⟩ := g.2.2.2
      exact ⟨a, g1, by rw [g2]; exact e⟩
  unfold ab_ts at h
  rw [Bool.or_eq_true, Bool.or_eq_true] at h
  rcases h with h | h | h
  · obtain ⟨h1, h2⟩ := sx_nd h
    have e : p = q := Prod.ext (sx_beq h1) (sx_beq h2)
    rw [e]; exact hq
  · obtain ⟨h1, h2⟩ := sx_nd h
    refine Or.inl ⟨sx_beq h1, ?_⟩
    rw [Bool.or_eq_true, Bool.or_eq_true] at h2
    rcases h2 with h2 | h2 | h2
    · rcases hq with g | g | g | g
      · exact g.2
      · exact absurd (sx_beq h2) (by rw [g.1]; decide)
      · exact absurd (sx_beq h2) (by rw [g.1]; decide)
      · exact absurd (sx_beq h2) g.1
    · rcases hq with g | g | g | g
      · exact absurd (sx_beq h2) (by rw [g.1]; decide)
      · exact Or.inl g.2
      · exact absurd (sx_beq h2) (by rw [g.1]; decide)
      · exact absurd (sx_beq h2) g.2.1
    · exact Or.inr (w50 (sx_beq h2))
  · obtain ⟨h1, h2⟩ := sx_nd h
    exact Or.inr (Or.inr (Or.inl ⟨sx_beq h1, w50 (sx_beq h2)⟩))
theorem ab_lk_s {Y : ab_Y} {r : Nat} {x : ab_I} {v : ab_V} {w : ab_wd} {M : mj_M} {z : Int} (hY : ab_RY w Y) (hx : ab_RI w x z) : ∀ (m : ab_m), ab_lk Y r x m = some v → ab_RM w M m → r < w.2.2.1 ∧ ∃ a, w.2.2.2 r = some a ∧ ab_hv w M a z.toNat v
  | [], h, _ => by cases h
  | (r2, x2, v2) :: t, h, hM => by
    unfold ab_lk at h
    cases hc : (Nat.beq r2 r && ab_sm Y x2 x) with
    | false => rw [hc] at h; exact ab_lk_s hY hx t h (fun e he => hM e (List.mem_cons_of_mem _ he))
    | true =>
      rw [hc] at h
      have h : some v2 = some v := h
      cases h
      obtain ⟨h1, h2⟩ := sx_nd hc
      obtain ⟨g0, a, z2, g1, g2, g4, g3⟩ := hM _ List.mem_cons_self
      have e := sx_beq h1
      have e2 := ab_sm_s hY h2 g2 hx
      dsimp only at g0 g1 g3
      rw [e] at g0 g1
      rw [e2] at g3
      exact ⟨g0, a, g1, g3⟩
theorem ab_hln_s {t a : Nat} {b : Int} {k : Int → Int → Bool} : ∀ (n : Nat) (x l h : Int), ab_hln t a b n x l h k = true → ∃ l' h', k l' h' = true ∧ l' ≤ l ∧ h ≤ h' ∧ ∀ u, x ≤ u → u < x + n → l' ≤ (ab_rg t (Int.ofNat a * u + b).toNat).1 ∧ (ab_rg t (Int.ofNat a * u + b).toNat).2 ≤ h'
  | 0, x, l, h, hk => ⟨l, h, hk, Int.le_refl _, Int.le_refl _, fun u h1 h2 => by omega⟩
  | n + 1, x, l, h, hk => by
    unfold ab_hln at hk
    rw [sx_fi_eq, sx_fi_eq, sx_fi_eq] at hk
    obtain ⟨l', h', g1, g2, g3, g4⟩ := ab_hln_s n _ _ _ hk
    have m1 := ab_mn_s l (ab_rg t (Int.ofNat a * x + b).toNat).1
    have m2 := ab_mx_s h (ab_rg t (Int.ofNat a * x + b).toNat).2
    refine ⟨l', h', g1, by omega, by omega, fun u h1 h2 => ?_⟩
    by_cases e : u = x
    · subst e; exact ⟨by omega, by omega⟩
    · exact g4 u (by omega) (by omega)
theorem ab_rg_arr {t : Nat} (h : ab_per t = false) (h2 : Nat.ble 100 (Nat.mod t 1000) = true) (k : Nat) : ab_rg t k = ab_rga t := by
  unfold ab_rg
  rw [h, h2]
  rfl
theorem ab_hl_s {Y : ab_Y} {t : Nat} {x : ab_I} {k : Int → Int → Bool} {w : ab_wd} {z v : Int} (h : ab_hl Y t x k = true) (hY : ab_RY w Y) (hx : ab_RI w x z) (hv : (ab_rg t z.toNat).1 ≤ v ∧ v ≤ (ab_rg t z.toNat).2) : ∃ lo hi, k lo hi = true ∧ lo ≤ v ∧ v ≤ hi := by
  rcases x with p | ⟨i, a, b⟩
  · have e : p = z := hx
    rw [e] at h
    exact ⟨_, _, h, hv.1, hv.2⟩
  · unfold ab_hl at h
    dsimp only at h
    cases hp : ab_per t with
    | true =>
      rw [hp] at h
      dsimp only [cond_true] at h
      cases hq : ab_ny Y i with
      | none => rw [hq] at h; cases h
      | some q =>
        rw [hq] at h
        dsimp only at h
        obtain ⟨-, h⟩ := sx_cd h
        obtain ⟨l', h', g1, -, -, g4⟩ := ab_hln_s _ _ _ _ h
        obtain ⟨b1, b2, -⟩ := hY.2 i q hq
        have g5 := g4 (w.2.1 i) b1 (by omega)
        rw [hx.2] at g5
        exact ⟨l', h', g1, by omega, by omega⟩
    | false =>
      rw [hp] at h
      dsimp only [cond_false] at h
      obtain ⟨h1, h⟩ := sx_cd h
      rw [ab_rg_arr hp h1] at hv
      exact ⟨_, _, h, hv.1, hv.2⟩
theorem ab_nof {t : Nat} (h : (Nat.beq t 0 || (Nat.beq t 1 || Nat.beq (Nat.mod t 1000) 50)) = false) : t ≠ 0 ∧ t ≠ 1 ∧ t ≠ 50 := by
  refine ⟨fun e => ?_, fun e => ?_, fun e => ?_⟩ <;> (rw [e] at h; cases h)
theorem ab_rdi_s {Y : ab_Y} {R : ab_R} {m : ab_m} {r : Nat} {x : ab_I} {k : ab_I → ab_Y → ab_m → Bool} {w : ab_wd} {G : mj_G} {M : mj_M} {z : Int} (h : ab_rdi Y R m r x k = true) (hY : ab_RY w Y) (hR : ab_RR w G R) (hM : ab_RM w M m) (hI : ab_Inv G M) (hx : ab_RI w x z) (h0 : 0 ≤ z) : r < w.2.2.1 ∧ ∃ a, w.2.2.2 r = some a ∧ ∃ w' v Y' m', ab_ey w w' ∧ ab_RY w' Y' ∧ ab_RM w' M m' ∧ ab_RI w' v (M.1 a z.toNat) ∧ k v Y' m' = true := by
  unfold ab_rdi at h
  cases hl : ab_lk Y r x m with
  | some v =>
    rw [hl] at h
    obtain ⟨g0, a, g1, g2⟩ := ab_lk_s hY hx m hl hM
    rcases v with v | v
    · exact ⟨g0, a, g1, w, v, Y, m, ab_ey.rf, hY, hM, g2, h⟩
    · cases h
  | none =>
    rw [hl] at h
    dsimp only at h
    obtain ⟨t, n, e1, h, e2, e3⟩ := ab_tg_s h hR
    cases hc : (Nat.beq t 0 || (Nat.beq t 1 || Nat.beq (Nat.mod t 1000) 50)) with
    | true => rw [hc] at h; cases h
    | false =>
      rw [hc] at h
      dsimp only [cond_false] at h
      obtain ⟨n1, n2, n3⟩ := ab_nof hc
      obtain ⟨a, a1, a2⟩ := ab_rt_a e2 n1 n2 n3
      have hb := hI.1 a z.toNat
      rw [a2] at hb
      obtain ⟨lo, hi, h, l1, l2⟩ := ab_hl_s h hY hx hb
      obtain ⟨w', v, Y', u1, u2, u3, u4⟩ := ab_fr_s h hY l1 l2 (fun r hr => by cases hr)
      refine ⟨e3, a, a1, w', v, Y', _, u1, u2, fun e he => ?_, u3, u4⟩
      rcases List.mem_cons.mp he with rfl | he
      · exact ⟨Nat.lt_of_lt_of_le e3 u1.1.2.2.1, a, z, by show w'.2.2.2 r = some a; rw [u1.1.2.2.2 r e3]; exact a1, hx.up u1.1, h0, u3⟩
      · exact (hM e he).up u1.1
theorem ab_nw_s {w : ab_wd} {G : mj_G} {R : ab_R} {q : Nat × Nat} {o : Option Nat} (hR : ab_RR w G R) (h : ab_rt G q o) : ∃ w', ab_er w w' ∧ ab_RR w' G (R ++ [q]) ∧ R.length < w'.2.2.1 ∧ w'.2.2.2 R.length = o := by
  have hz : (if w.2.2.1 = w.2.2.1 then o else w.2.2.2 w.2.2.1) = o := if_pos rfl
  refine ⟨(w.1, w.2.1, w.2.2.1 + 1, fun i => if i = w.2.2.1 then o else w.2.2.2 i), ⟨⟨Nat.le_refl _, fun _ _ => rfl, Nat.le_succ _, fun i hi => if_neg (Nat.ne_of_lt hi)⟩, rfl, rfl⟩, ⟨?_, fun i r hr => ?_⟩, ?_, ?_⟩
  · rw [List.length_append, ← hR.1]; rfl
  · rcases ab_nR_app R q i r hr with ⟨e1, e2⟩ | e1
    · rw [← hR.1] at e1
      subst e1
      subst e2
      show ab_rt G r (if w.2.2.1 = w.2.2.1 then o else w.2.2.2 w.2.2.1)
      rw [hz]; exact h
    · show ab_rt G r (if i = w.2.2.1 then o else w.2.2.2 i)
      rw [if_neg (by have := ab_nR_lt e1; rw [← hR.1] at this; omega)]
      exact hR.2 i r e1
  · show R.length < w.2.2.1 + 1
    rw [hR.1]; exact Nat.lt_succ_self _
  · show (if R.length = w.2.2.1 then o else w.2.2.2 R.length) = o
    rw [if_pos hR.1.symm]
theorem ab_rf_arr {t : Nat} (h : 100 ≤ t % 1000) (k : Nat) : ab_rf t k = ab_rfa t := by
  unfold ab_rf
  rw [show Nat.ble 100 (Nat.mod t 1000) = true from Nat.ble_eq.mpr h]
  rfl
theorem ab_rdr_s {Y : ab_Y} {R : ab_R} {m : ab_m} {r : Nat} {x : ab_I} {k : Nat → ab_R → ab_m → Bool} {w : ab_wd} {G : mj_G} {M : mj_M} {z : Int} (h : ab_rdr Y R m r x k = true) (hY : ab_RY w Y) (hR : ab_RR w G R) (hM : ab_RM w M m) (hI : ab_Inv G M) (hx : ab_RI w x z) (h0 : 0 ≤ z) : r < w.2.2.1 ∧ ∃ a, w.2.2.2 r = some a ∧ ∃ w' u R' m', ab_er w w' ∧ ab_RR w' G R' ∧ ab_RM w' M m' ∧ u < w'.2.2.1 ∧ M.2.2 a z.toNat = w'.2.2.2 u ∧ k u R' m' = true := by
  unfold ab_rdr at h
  cases hl : ab_lk Y r x m with
  | some v =>
    rw [hl] at h
    obtain ⟨g0, a, g1, g2⟩ := ab_lk_s hY hx m hl hM
    rcases v with v | v | u
    · cases h
    · cases h
    · exact ⟨g0, a, g1, w, u, R, m, ab_er.rf, hR, hM, g2.1, g2.2, h⟩
  | none =>
    rw [hl] at h
    dsimp only at h
    obtain ⟨t, n, e1, h, e2, e3⟩ := ab_tg_s h hR
    cases hc : (Nat.beq t 0 || (Nat.beq t 1 || Nat.beq (Nat.mod t 1000) 50)) with
    | true => rw [hc] at h; cases h
    | false =>
      rw [hc] at h
      dsimp only [cond_false] at h
      obtain ⟨n1, n2, n3⟩ := ab_nof hc
      obtain ⟨a, a1, a2⟩ := ab_rt_a e2 n1 n2 n3
      obtain ⟨lo, hi, h, l1, l2⟩ := ab_iv_s h hY hx
      obtain ⟨hk, h⟩ := sx_cd h
      cases hf : ab_rf t lo.toNat with
      | none => rw [hf] at h; cases h
      | some q =>
        rw [hf] at h
        dsimp only at h
        have hq : ab_rf (G a).1 z.toNat = some q ∧ (100 ≤ (G a).1 % 1000 → z.toNat < (G a).2) := by
          rw [a2]
          cases hb : Nat.ble 100 (Nat.mod t 1000) with
          | true =>
            rw [hb] at hk
            have hb : 100 ≤ t % 1000 := sx_ble hb
            obtain ⟨k1, k2⟩ := sx_nd hk
            have k1 : 0 ≤ lo := sx_le_iff.mp k1
            rw [Bool.not_eq_true', Bool.eq_false_iff] at k2
            have k2 : hi < (n : Int) := sx_le_no k2
            rw [ab_rf_arr hb] at hf ⊢
            exact ⟨hf, fun _ => by show z.toNat < n; omega⟩
          | false =>
            rw [hb] at hk
            have k1 := sx_eq_iff.mp hk
            have e : z = lo := by omega
            rw [e]
            refine ⟨hf, fun q => ?_⟩
            have hb := Nat.ble_eq.mpr (show 100 ≤ t % 1000 from q)
            rw [show Nat.ble 100 (t % 1000) = Nat.ble 100 (Nat.mod t 1000) from rfl] at hb
            simp_all
        have hr := hI.2.1 a z.toNat q hq.1 hq.2
        obtain ⟨w', u1, u2, u3, u4⟩ := ab_nw_s hR hr
        refine ⟨e3, a, a1, w', R.length, _, _, u1, u2, fun e he => ?_, u3, u4.symm, h⟩
        rcases List.mem_cons.mp he with rfl | he
        · exact ⟨Nat.lt_of_lt_of_le e3 u1.1.2.2.1, a, z, by show w'.2.2.2 r = some a; rw [u1.1.2.2.2 r e3]; exact a1, hx.up u1.1, h0, u3, u4.symm⟩
        · exact (hM e he).up u1.1
end
section
/-! ===== writing ===== -/
theorem ab_dj_s {Y : ab_Y} {x y : ab_I} {w : ab_wd} {zx zy : Int} (hY : ab_RY w Y) (h : ab_dj Y x y = true) (hx : ab_RI w x zx) (hy : ab_RI w y zy) : zx ≠ zy := by
  intro he
  unfold ab_dj at h
  rw [Bool.or_eq_true, Bool.or_eq_true] at h
  rcases h with h | h | h
  · have : zy + 1 ≤ zx := ab_ge_s hY h hx hy
    omega
  · have : zx + 1 ≤ zy := ab_ge_s hY h hy hx
    omega
  · have md : ∀ {a : Nat} {b z v : Int}, Int.ofNat a * v + b = z → (!sx_eq ((z - b) % Int.ofNat a) (.ofNat 0)) = true → False := fun {a b z v} e q => by
      rw [Bool.not_eq_true', Bool.eq_false_iff] at q
      refine q (sx_eq_iff.mpr ?_)
      rw [show z - b = Int.ofNat a * v by omega]
      exact Int.mul_emod_right _ _
    rcases x with p | ⟨i, a, b⟩ <;> rcases y with q | ⟨j, c, d⟩
    · cases h
    · have e1 : p = zx := hx
      exact md (by rw [e1, he]; exact hy.2) h
    · have e1 : q = zy := hy
      exact md (by rw [e1, ← he]; exact hx.2) h
    · obtain ⟨h1, h⟩ := sx_nd h
      obtain ⟨h2, h3⟩ := sx_nd h
      rw [Bool.not_eq_true', Bool.eq_false_iff] at h3
      refine h3 (sx_eq_iff.mpr ?_)
      have e1 := hx.2
      have e2 := hy.2
      rw [← sx_beq h1, ← sx_beq h2] at e2
      omega
/-- behind a write at (a, j): all else as it was -/
def ab_wr1 (M M' : mj_M) (a j : Nat) : Prop := ∀ x k, ¬ (x = a ∧ k = j) → M'.1 x k = M.1 x k ∧ M'.2.2 x k = M.2.2 x k
theorem ab_tag_ne {w : ab_wd} {G : mj_G} {M : mj_M} {t2 n2 t a a2 r2 : Nat} (hI : ab_Inv G M) (h : ab_rt G (t2, n2) (w.2.2.2 r2)) (h2 : w.2.2.2 r2 = some a2) (hne : t2 ≠ t) (ht : t < 900000) (hG : (G a).1 = t) : a2 ≠ a := by
  intro e
  subst e
  rw [h2] at h
  have w50 : (G a2).1 % 1000 = 50 → False := fun q => by
    obtain ⟨k, -, hk⟩ := hI.2.2.1 a2 q
    rw [hk] at hG
    have hG : 900050 + 1000 * k = t := hG
    omega
  rcases h with h | h | h | h
  · rcases h.2 with g | ⟨b, g1, g2⟩
    · cases g
    · cases g1; exact w50 g2
  · cases h.2
  · obtain ⟨b, g1, g2⟩ := h.2
    cases g1; exact w50 g2
  · obtain ⟨b, g1, g2⟩ := h.2.2.2
    cases g1
    rw [g2] at hG
    exact hne hG
theorem ab_hv.keep {w : ab_wd} {M M' : mj_M} {a j a2 k2 : Nat} {v : ab_V} (hw : ab_wr1 M M' a j) (hne : ¬ (a2 = a ∧ k2 = j)) (h : ab_hv w M a2 k2 v) : ab_hv w M' a2 k2 v := by
  obtain ⟨e1, e2⟩ := hw a2 k2 hne
  rcases v with x | x | u
  · show ab_RI w x (M'.1 a2 k2)
    rw [e1]; exact h
  · trivial
  · show u < w.2.2.1 ∧ M'.2.2 a2 k2 = w.2.2.2 u
    rw [e2]; exact h
theorem ab_kl_s {R : ab_R} {t n r a : Nat} {x : ab_I} {v : Option ab_I} {G : mj_G} {M M' : mj_M} {z : Int} (hI : ab_Inv G M) (ht : t < 900000) (hG : G a = (t, n)) (h0 : 0 ≤ z) (hw : ab_wr1 M M' a z.toNat) : ∀ (m : ab_m) (Y : ab_Y) (k : ab_m → ab_Y → Bool) (w : ab_wd), ab_kl R t r x v m Y k = true → ab_RY w Y → ab_RR w G R → ab_RM w M m → ab_RI w x z → w.2.2.2 r = some a → (∀ u, v = some u → ab_RI w u (M'.1 a z.toNat)) → ∃ w' m' Y', ab_ey w w' ∧ ab_RY w' Y' ∧ ab_RM w' M' m' ∧ k m' Y' = true
  | [], Y, k, w, h, hY, _, _, _, _, _ => ⟨w, [], Y, ab_ey.rf, hY, (fun e he => by cases he), h⟩
  | (r2, x2, v2) :: rest, Y, k, w, h, hY, hR, hM, hx, ha, hv => by
    unfold ab_kl at h
    obtain ⟨t2, n2, e1, h, e2, e3⟩ := ab_tg_s h hR
    obtain ⟨g0, a2, z2, g1, g2, g4, g3⟩ := hM _ List.mem_cons_self
    dsimp only at g0 g1 g2 g3
    have hM' : ab_RM w M rest := fun e he => hM e (List.mem_cons_of_mem _ he)
    cases hc : (!Nat.beq t2 t || ab_dj Y x2 x) with
    | true =>
      rw [hc] at h
      dsimp only [cond_true] at h
      have hne : ¬ (a2 = a ∧ z2.toNat = z.toNat) := by
        rw [Bool.or_eq_true] at hc
        rcases hc with hc | hc
        · rw [Bool.not_eq_true', Bool.eq_false_iff] at hc
          have : t2 ≠ t := fun q => hc (by rw [q]; exact Nat.beq_refl t)
          exact fun q => ab_tag_ne hI e2 g1 this ht (by rw [hG]) q.1
        · have := ab_dj_s hY hc g2 hx
          exact fun q => by omega
      obtain ⟨w', m', Y', u1, u2, u3, u4⟩ := ab_kl_s hI ht hG h0 hw rest Y _ w h hY hR hM' hx ha hv
      refine ⟨w', (r2, x2, v2) :: m', Y', u1, u2, fun e he => ?_, u4⟩
      rcases List.mem_cons.mp he with rfl | he
      · exact (show ab_e1 w M' (r2, x2, v2) from ⟨g0, a2, z2, g1, g2, g4, g3.keep hw hne⟩).up u1.1
      · exact u3 e he
    | false =>
      rw [hc] at h
      dsimp only [cond_false] at h
      cases hk : (ab_wk t && (Nat.beq r2 r && !ab_sm Y x2 x)) with
      | false =>
        rw [hk] at h
        exact ab_kl_s hI ht hG h0 hw rest Y k w h hY hR hM' hx ha hv
      | true =>
        rw [hk] at h
        dsimp only [cond_true] at h
        cases v with
        | none => exact ab_kl_s hI ht hG h0 hw rest Y k w h hY hR hM' hx ha hv
        | some v =>
          rcases v2 with u | u
          · dsimp only at h
            have hvv := hv v rfl
            have g3 : ab_RI w u (M.1 a2 z2.toNat) := g3
            obtain ⟨p, q, h, l1, l2⟩ := ab_iv_s h hY hvv
            obtain ⟨c, d, h, l3, l4⟩ := ab_iv_s h hY g3
            have m1 := ab_mn_s p c
            have m2 := ab_mx_s q d
            have hb : ab_mn p c ≤ M'.1 a2 z2.toNat ∧ M'.1 a2 z2.toNat ≤ ab_mx q d := by
              by_cases e : a2 = a ∧ z2.toNat = z.toNat
              · rw [e.1, e.2]; omega
              · rw [(hw a2 _ e).1]; omega
            obtain ⟨w1, q1, Y1, u1, u2, u3, u4⟩ := ab_fr_s h hY hb.1 hb.2 (fun r hr => by cases hr)
            obtain ⟨w', m', Y', o1, o2, o3, o4⟩ := ab_kl_s hI ht hG h0 hw rest Y1 _ w1 u4 u2 (hR.ey u1) (hM'.up u1.1) (hx.up u1.1) (by rw [u1.2]; exact ha) (fun u e => (hv u e).up u1.1)
            refine ⟨w', (r2, x2, .inl q1) :: m', Y', u1.tr o1, o2, fun e he => ?_, o4⟩
            rcases List.mem_cons.mp he with rfl | he
            · exact (show ab_e1 w1 M' (r2, x2, .inl q1) from ⟨Nat.lt_of_lt_of_le g0 u1.1.2.2.1, a2, z2, by rw [u1.2]; exact g1, g2.up u1.1, g4, u3⟩).up o1.1
            · exact o3 e he
          · exact ab_kl_s hI ht hG h0 hw rest Y k w h hY hR hM' hx ha hv
theorem ab_fa_s {t a : Nat} {b lo hi : Int} : ∀ (n : Nat) (x : Int), ab_fa t a b lo hi n x = true → ∀ u, x ≤ u → u < x + n → (ab_rg t (Int.ofNat a * u + b).toNat).1 ≤ lo ∧ hi ≤ (ab_rg t (Int.ofNat a * u + b).toNat).2
  | 0, x, _, u, h1, h2 => by omega
  | n + 1, x, h, u, h1, h2 => by
    unfold ab_fa at h
    obtain ⟨h3, h4⟩ := sx_nd h
    obtain ⟨h5, h6⟩ := sx_nd h3
    rw [sx_fi_eq] at h4
    by_cases e : u = x
    · subst e; exact ⟨sx_le_iff.mp h5, sx_le_iff.mp h6⟩
    · exact ab_fa_s n _ h4 u (by omega) (by omega)
theorem ab_fc_s {t a : Nat} {b : Int} {t2 a2 : Nat} {b2 : Int} : ∀ (n : Nat) (x : Int), ab_fc t a b t2 a2 b2 n x = true → ∀ u, x ≤ u → u < x + n → (ab_rg t (Int.ofNat a * u + b).toNat).1 ≤ (ab_rg t2 (Int.ofNat a2 * u + b2).toNat).1 ∧ (ab_rg t2 (Int.ofNat a2 * u + b2).toNat).2 ≤ (ab_rg t (Int.ofNat a * u + b).toNat).2
  | 0, x, _, u, h1, h2 => by omega
  | n + 1, x, h, u, h1, h2 => by
    unfold ab_fc at h
    obtain ⟨h3, h4⟩ := sx_nd h
    obtain ⟨h5, h6⟩ := sx_nd h3
    rw [sx_fi_eq] at h4
    by_cases e : u = x
    · subst e; exact ⟨sx_le_iff.mp h5, sx_le_iff.mp h6⟩
    · exact ab_fc_s n _ h4 u (by omega) (by omega)
theorem ab_ft_s {Y : ab_Y} {R : ab_R} {m : ab_m} {t : Nat} {x v : ab_I} {w : ab_wd} {G : mj_G} {M : mj_M} {z zv : Int} (h : ab_ft Y R m t x v = true) (hY : ab_RY w Y) (hR : ab_RR w G R) (hM : ab_RM w M m) (hI : ab_Inv G M) (hx : ab_RI w x z) (hv : ab_RI w v zv) : (ab_rg t z.toNat).1 ≤ zv ∧ zv ≤ (ab_rg t z.toNat).2 := by
  rcases x with p | ⟨i, a, b⟩
  · have e : p = z := hx
    rw [e] at h
    obtain ⟨h1, h2⟩ := sx_nd h
    have h1 : _ + 0 ≤ zv := ab_ge_s (y := .inl (ab_rg t z.toNat).1) hY h1 hv rfl
    exact ⟨by omega, ab_le_s hY h2 hv⟩
  · unfold ab_ft at h
    dsimp only at h
    cases hp : ab_per t with
    | true =>
      rw [hp] at h
      dsimp only [cond_true] at h
      cases hq : ab_ny Y i with
      | none => rw [hq] at h; cases h
      | some q =>
        rw [hq] at h
        dsimp only at h
        obtain ⟨-, h⟩ := sx_cd h
        obtain ⟨lo, hi, h, l1, l2⟩ := ab_iv_s h hY hv
        obtain ⟨b1, b2, -⟩ := hY.2 i q hq
        rw [Bool.or_eq_true] at h
        rcases h with h | h
        · have g := ab_fa_s _ _ h (w.2.1 i) b1 (by omega)
          rw [hx.2] at g
          omega
        · obtain ⟨e, he, h⟩ := List.any_eq_true.mp h
          obtain ⟨g0, a2, z2, g1, g2, g4, g3⟩ := hM e he
          obtain ⟨r2, x2, v2⟩ := e
          rcases x2 with p2 | ⟨i2, f2, d2⟩
          · cases h
          · rcases v2 with v2 | v2
            · dsimp only at h g1 g2 g3
              obtain ⟨k1, h⟩ := sx_nd h
              obtain ⟨k2, h⟩ := sx_nd h
              obtain ⟨t2, n2, e1, h, e2, e3⟩ := ab_tg_s h hR
              obtain ⟨k3, h⟩ := sx_nd h
              obtain ⟨k4, h⟩ := sx_nd h
              have k3 := sx_blt k3
              rw [Bool.not_eq_true', Bool.eq_false_iff] at k4
              obtain ⟨a3, o1, o2⟩ := ab_rt_a e2 (by omega) (by omega) (fun q => k4 (by rw [q]; rfl))
              have ea : a3 = a2 := Option.some.inj (o1.symm.trans g1)
              rw [ea] at o2
              have g3 : ab_RI w v2 (M.1 a2 z2.toNat) := g3
              have ev : zv = M.1 a2 z2.toNat := ab_RI.fn hv (ab_ie_s k2 g3)
              have hb := hI.1 a2 z2.toNat
              rw [o2] at hb
              dsimp only at hb
              have g := ab_fc_s _ _ h (w.2.1 i) b1 (by omega)
              have ez := g2.2
              rw [sx_beq k1] at ez
              rw [hx.2, ez] at g
              rw [ev]
              omega
            · cases h
    | false =>
      rw [hp] at h
      dsimp only [cond_false] at h
      obtain ⟨h1, h⟩ := sx_cd h
      obtain ⟨h2, h3⟩ := sx_nd h
      rw [ab_rg_arr hp h1]
      have h2 : _ + 0 ≤ zv := ab_ge_s (y := .inl (ab_rga t).1) hY h2 hv rfl
      exact ⟨by omega, ab_le_s hY h3 hv⟩
theorem ab_cw_s {W : List (Nat × Nat × Nat)} {t : Nat} {lo hi z : Int} (h : ab_cw W t lo hi = true) (h1 : lo ≤ z) (h2 : z ≤ hi) : ab_cov W t z.toNat := by
  obtain ⟨q, hq, h⟩ := List.any_eq_true.mp h
  obtain ⟨h3, h⟩ := sx_nd h
  obtain ⟨h4, h5⟩ := sx_nd h
  have h4 : (q.2.1 : Int) ≤ lo := sx_le_iff.mp h4
  have h5 : hi ≤ (q.2.2 : Int) := sx_le_iff.mp h5
  exact ⟨q, hq, sx_beq h3, by omega, by omega⟩
theorem ab_p0_w {M : mj_M} {a j : Nat} {z : Int} : ab_wr1 M (mj_p0 M a j z) a j := fun x k h => ⟨if_neg h, rfl⟩
theorem ab_p2_w {M : mj_M} {a j : Nat} {o : Option Nat} : ab_wr1 M (mj_p2 M a j o) a j := fun x k h => ⟨rfl, if_neg h⟩
theorem ab_frm.wr {W : List (Nat × Nat × Nat)} {G : mj_G} {M0 M M' : mj_M} {a j : Nat} (h : ab_frm W G M0 M) (hw : ab_wr1 M M' a j) (hc : ab_cov W (G a).1 j) : ab_frm W G M0 M' := fun x k hn => by
  have hne : ¬ (x = a ∧ k = j) := fun q => hn (by rw [q.1, q.2]; exact hc)
  obtain ⟨e1, e2⟩ := hw x k hne
  rw [e1, e2]
  exact h x k hn
theorem ab_Inv.p0 {G : mj_G} {M : mj_M} {a j : Nat} {z : Int} (h : ab_Inv G M) (hz : (ab_rg (G a).1 j).1 ≤ z ∧ z ≤ (ab_rg (G a).1 j).2) : ab_Inv G (mj_p0 M a j z) := by
  refine ⟨fun x k => ?_, h.2⟩
  show _ ≤ (if x = a ∧ k = j then z else M.1 x k) ∧ (if x = a ∧ k = j then z else M.1 x k) ≤ _
  by_cases e : x = a ∧ k = j
  · rw [if_pos e, e.1, e.2]; exact hz
  · rw [if_neg e]; exact h.1 x k
theorem ab_Inv.p2 {G : mj_G} {M : mj_M} {a j : Nat} {o : Option Nat} {q : Nat × Nat} (h : ab_Inv G M) (hq : ab_rf (G a).1 j = some q) (ho : ab_rt G q o) : ab_Inv G (mj_p2 M a j o) := by
  refine ⟨h.1, fun x k p hp hk => ?_, h.2.2⟩
  show ab_rt G p (if x = a ∧ k = j then o else M.2.2 x k)
  by_cases e : x = a ∧ k = j
  · rw [if_pos e]
    rw [e.1, e.2, hq] at hp
    cases hp; exact ho
  · rw [if_neg e]; exact h.2.1 x k p hp hk
theorem ab_Inv.p1 {G : mj_G} {M : mj_M} {a j : Nat} {z : Int64} (h : ab_Inv G M) (hne : (G a).1 ≠ 55103) : ab_Inv G (mj_p1 M a j z) := ⟨h.1, h.2.1, h.2.2.1, h.2.2.2.1, fun x k hx hk => (if_neg (fun e => hne (by rw [← e.1]; exact hx))).trans (h.2.2.2.2 x k hx hk)⟩
theorem ab_t9 {t : Nat} (h : Nat.blt 1 t = true) (h2 : (!Nat.beq t 50) = true) : t ≠ 0 ∧ t ≠ 1 ∧ t ≠ 50 := by
  have := sx_blt h
  rw [Bool.not_eq_true', Bool.eq_false_iff] at h2
  exact ⟨by omega, by omega, fun q => h2 (by rw [q]; rfl)⟩
theorem ab_wri_s {W : List (Nat × Nat × Nat)} {Y : ab_Y} {R : ab_R} {m : ab_m} {r : Nat} {x v : ab_I} {k : ab_Y → ab_m → Bool} {w : ab_wd} {G : mj_G} {M0 M : mj_M} {z zv : Int} (h : ab_wri W Y R m r x v k = true) (hY : ab_RY w Y) (hR : ab_RR w G R) (hM : ab_RM w M m) (hI : ab_Inv G M) (hF : ab_frm W G M0 M) (hx : ab_RI w x z) (h0 : 0 ≤ z) (hv : ab_RI w v zv) : ∃ t n a, ab_nR R r = some (t, n) ∧ w.2.2.2 r = some a ∧ G a = (t, n) ∧ t < 900000 ∧ ab_Inv G (mj_p0 M a z.toNat zv) ∧ ab_frm W G M0 (mj_p0 M a z.toNat zv) ∧ ∃ w' Y' m', ab_ey w w' ∧ ab_RY w' Y' ∧ ab_RM w' (mj_p0 M a z.toNat zv) m' ∧ k Y' m' = true := by
  unfold ab_wri at h
  obtain ⟨t, n, e1, h, e2, e3⟩ := ab_tg_s h hR
  obtain ⟨lo, hi, h, l1, l2⟩ := ab_iv_s h hY hx
  obtain ⟨hc, h⟩ := sx_cd h
  obtain ⟨c1, hc⟩ := sx_nd hc
  obtain ⟨c2, hc⟩ := sx_nd hc
  obtain ⟨c3, hc⟩ := sx_nd hc
  obtain ⟨c4, c5⟩ := sx_nd hc
  obtain ⟨n1, n2, n3⟩ := ab_t9 c2 c3
  obtain ⟨a, a1, a2⟩ := ab_rt_a e2 n1 n2 n3
  have c1 := sx_blt c1
  have hb := ab_ft_s c5 hY hR hM hI hx hv
  have hz : (mj_p0 M a z.toNat zv).1 a z.toNat = zv := if_pos ⟨rfl, rfl⟩
  obtain ⟨w', m', Y', u1, u2, u3, u4⟩ := ab_kl_s (M' := mj_p0 M a z.toNat zv) hI c1 a2 h0 ab_p0_w m Y _ w h hY hR hM hx a1 (fun u e => by cases e; rw [hz]; exact hv)
  refine ⟨t, n, a, e1, a1, a2, c1, hI.p0 (by rw [a2]; exact hb), hF.wr ab_p0_w (by rw [a2]; exact ab_cw_s c4 l1 l2), w', Y', _, u1, u2, fun e he => ?_, u4⟩
  rcases List.mem_cons.mp he with rfl | he
  · refine ⟨Nat.lt_of_lt_of_le e3 u1.1.2.2.1, a, z, by show w'.2.2.2 r = some a; rw [u1.2]; exact a1, hx.up u1.1, h0, ?_⟩
    show ab_RI w' v ((mj_p0 M a z.toNat zv).1 a z.toNat)
    rw [hz]; exact hv.up u1.1
  · exact u3 e he
theorem ab_wrr_s {W : List (Nat × Nat × Nat)} {Y : ab_Y} {R : ab_R} {m : ab_m} {r u : Nat} {x : ab_I} {k : ab_Y → ab_m → Bool} {w : ab_wd} {G : mj_G} {M0 M : mj_M} {z : Int} (h : ab_wrr W Y R m r x u k = true) (hY : ab_RY w Y) (hR : ab_RR w G R) (hM : ab_RM w M m) (hI : ab_Inv G M) (hF : ab_frm W G M0 M) (hx : ab_RI w x z) (h0 : 0 ≤ z) : u < w.2.2.1 ∧ ∃ t n a, ab_nR R r = some (t, n) ∧ w.2.2.2 r = some a ∧ G a = (t, n) ∧ t < 900000 ∧ ab_Inv G (mj_p2 M a z.toNat (w.2.2.2 u)) ∧ ab_frm W G M0 (mj_p2 M a z.toNat (w.2.2.2 u)) ∧ ∃ w' Y' m', ab_ey w w' ∧ ab_RY w' Y' ∧ ab_RM w' (mj_p2 M a z.toNat (w.2.2.2 u)) m' ∧ k Y' m' = true := by
  unfold ab_wrr at h
  obtain ⟨t, n, e1, h, e2, e3⟩ := ab_tg_s h hR
  obtain ⟨tu, nu, f1, h, f2, f3⟩ := ab_tg_s h hR
  obtain ⟨lo, hi, h, l1, l2⟩ := ab_iv_s h hY hx
  obtain ⟨hc, h⟩ := sx_cd h
  obtain ⟨c1, hc⟩ := sx_nd hc
  obtain ⟨c2, hc⟩ := sx_nd hc
  obtain ⟨c3, hc⟩ := sx_nd hc
  obtain ⟨c4, c5⟩ := sx_nd hc
  obtain ⟨n1, n2, n3⟩ := ab_t9 c2 c3
  obtain ⟨a, a1, a2⟩ := ab_rt_a e2 n1 n2 n3
  have c1 := sx_blt c1
  cases hf : ab_rf t lo.toNat with
  | none => rw [hf] at h; cases h
  | some q =>
    rw [hf] at h
    dsimp only at h
    obtain ⟨c6, h⟩ := sx_cd h
    have hq : ab_rf (G a).1 z.toNat = some q := by
      rw [a2]
      cases hb : Nat.ble 100 (Nat.mod t 1000) with
      | true =>
        have hb : 100 ≤ t % 1000 := sx_ble hb
        rw [ab_rf_arr hb] at hf ⊢
        exact hf
      | false =>
        rw [hb] at c5
        have k1 := sx_eq_iff.mp c5
        rw [show z = lo by omega]; exact hf
    have hz : (mj_p2 M a z.toNat (w.2.2.2 u)).2.2 a z.toNat = w.2.2.2 u := if_pos ⟨rfl, rfl⟩
    obtain ⟨w', m', Y', u1, u2, u3, u4⟩ := ab_kl_s (M' := mj_p2 M a z.toNat (w.2.2.2 u)) hI c1 a2 h0 ab_p2_w m Y _ w h hY hR hM hx a1 (fun u e => by cases e)
    refine ⟨f3, t, n, a, e1, a1, a2, c1, hI.p2 hq (ab_ts_s c6 f2), hF.wr ab_p2_w (by rw [a2]; exact ab_cw_s c4 l1 l2), w', Y', _, u1, u2, fun e he => ?_, u4⟩
    rcases List.mem_cons.mp he with rfl | he
    · refine ⟨Nat.lt_of_lt_of_le e3 u1.1.2.2.1, a, z, by show w'.2.2.2 r = some a; rw [u1.2]; exact a1, hx.up u1.1, h0, Nat.lt_of_lt_of_le f3 u1.1.2.2.1, ?_⟩
      rw [hz, u1.2]
    · exact u3 e he
end
section
/-! ===== patterns ===== -/
theorem ab_nt_set {β : Type} : ∀ (L : List (Option β)) (i j : Nat) (x : Option β), sx_nt (L.set i x) j = if j = i ∧ i < L.length then x else sx_nt L j
  | [], i, j, x => by simp [sx_nt]
  | y :: t, 0, 0, x => by simp [sx_nt]
  | y :: t, 0, j + 1, x => by simp [sx_nt]
  | y :: t, i + 1, 0, x => by simp [sx_nt]
  | y :: t, i + 1, j + 1, x => by
    show sx_nt (t.set i x) j = _
    rw [ab_nt_set t i j x]
    simp [sx_nt]
theorem ab_nt_lt {β : Type} : ∀ {L : List (Option β)} {i : Nat} {x : β}, sx_nt L i = some x → i < L.length
  | [], _, _, h => by cases h
  | _ :: _, 0, _, _ => Nat.succ_pos _
  | _ :: t, i + 1, _, h => Nat.succ_lt_succ (ab_nt_lt (L := t) h)
def ab_ev (w : ab_wd) (x : ab_I) : Int := match x with
  | .inl z => z
  | .inr (i, a, b) => Int.ofNat a * w.2.1 i + b
theorem ab_RI.ev {w : ab_wd} {x : ab_I} {z : Int} (h : ab_RI w x z) : ab_ev w x = z := by
  rcases x with p | ⟨i, a, b⟩
  · exact h
  · exact h.2
def ab_ls {β : Type} (l l' : List (Option β)) : Prop := ∀ i x, sx_nt l i = some x → sx_nt l' i = some x
theorem ab_ls.rf {β : Type} {l : List (Option β)} : ab_ls l l := fun _ _ h => h
theorem ab_ls.tr {β : Type} {l l' l'' : List (Option β)} (h : ab_ls l l') (h' : ab_ls l' l'') : ab_ls l l'' := fun i x q => h' i x (h i x q)
theorem ab_ls.set {β : Type} {l : List (Option β)} {i : Nat} {x : β} (h : sx_nt l i = none) : ab_ls l (l.set i (some x)) := fun j y hj => by
  rw [ab_nt_set]
  by_cases e : j = i ∧ i < l.length
  · rw [e.1, h] at hj; cases hj
  · rw [if_neg e]; exact hj
def ab_so (w : ab_wd) (sg : ab_sg) : Prop := ∀ i x, sx_nt sg i = some x → ∃ z, ab_RI w x z
def ab_ro (w : ab_wd) (G : mj_G) (Rp : ab_R) (rf : ab_rr) : Prop := ∀ j u, sx_nt rf j = some u → u < w.2.2.1 ∧ ∀ q, ab_nR Rp j = some q → ab_rt G q (w.2.2.2 u)
theorem ab_so.up {w w' : ab_wd} {sg : ab_sg} (u : ab_up w w') (h : ab_so w sg) : ab_so w' sg := fun i x hx => by
  obtain ⟨z, hz⟩ := h i x hx
  exact ⟨z, hz.up u⟩
theorem ab_ro.up {w w' : ab_wd} {G : mj_G} {Rp : ab_R} {rf : ab_rr} (u : ab_up w w') (h : ab_ro w G Rp rf) : ab_ro w' G Rp rf := fun j v hv => by
  obtain ⟨h1, h2⟩ := h j v hv
  exact ⟨Nat.lt_of_lt_of_le h1 u.2.2.1, fun q hq => by rw [u.2.2.2 v h1]; exact h2 q hq⟩
/-- what a pattern's value stands for -/
def ab_bd (sg : ab_sg) (rf : ab_rr) (w : ab_wd) (p : ab_V) (v : mj_V) : Prop := match p with
  | .inl (.inl z) => v = .inl z
  | .inl (.inr (i, a, b)) => ∃ x zx, sx_nt sg i = some x ∧ ab_RI w x zx ∧ v = .inl (Int.ofNat a * zx + b)
  | .inr (.inl _) => ∃ z, v = .inr (.inl z)
  | .inr (.inr j) => ∃ u, sx_nt rf j = some u ∧ u < w.2.2.1 ∧ v = .inr (.inr (w.2.2.2 u))
theorem ab_bd.up {sg sg' : ab_sg} {rf rf' : ab_rr} {w w' : ab_wd} {p : ab_V} {v : mj_V} (h1 : ab_ls sg sg') (h2 : ab_ls rf rf') (u : ab_up w w') (h : ab_bd sg rf w p v) : ab_bd sg' rf' w' p v := by
  rcases p with (z | ⟨i, a, b⟩) | l | j
  · exact h
  · obtain ⟨x, zx, g1, g2, g3⟩ := h
    exact ⟨x, zx, h1 i x g1, g2.up u, g3⟩
  · exact h
  · obtain ⟨q, g1, g2, g3⟩ := h
    exact ⟨q, h2 j q g1, Nat.lt_of_lt_of_le g2 u.2.2.1, by rw [u.2.2.2 q g2]; exact g3⟩
theorem ab_cp_s {w : ab_wd} {a : Nat} {b zt : Int} {t : ab_I} (h : ab_RI w t zt) : ab_RI w (ab_cp a b t) (Int.ofNat a * zt + b) := by
  rcases t with z | ⟨i, f, q⟩
  · show Int.ofNat a * z + b = _
    rw [show z = zt from h]
  · refine ⟨h.1, ?_⟩
    rw [← h.2, Int.mul_add, ← Int.mul_assoc]
    show Int.ofNat a * Int.ofNat f * w.2.1 i + (Int.ofNat a * q + b) = _
    omega
theorem ab_mv_s {Rp : ab_R} {Y : ab_Y} {R : ab_R} {p u : ab_V} {sg : ab_sg} {rf : ab_rr} {k : ab_sg → ab_rr → Bool} {w : ab_wd} {G : mj_G} {v : mj_V} (h : ab_mv Rp Y R p u sg rf k = true) (hY : ab_RY w Y) (hR : ab_RR w G R) (hv : ab_RV w u v) (hs : ab_so w sg) (hr : ab_ro w G Rp rf) : ∃ sg' rf', ab_ls sg sg' ∧ ab_ls rf rf' ∧ ab_so w sg' ∧ ab_ro w G Rp rf' ∧ ab_bd sg' rf' w p v ∧ k sg' rf' = true := by
  rcases p with (z | ⟨i, a, b⟩) | l | j
  · rcases u with x | u
    · obtain ⟨zv, rfl, hx⟩ := hv
      unfold ab_mv at h
      dsimp only at h
      obtain ⟨lo, hi, h, l1, l2⟩ := ab_iv_s h hY hx
      obtain ⟨hc, h⟩ := sx_cd h
      obtain ⟨c1, c2⟩ := sx_nd hc
      have c1 := sx_eq_iff.mp c1
      have c2 := sx_eq_iff.mp c2
      exact ⟨sg, rf, ab_ls.rf, ab_ls.rf, hs, hr, (by show _ = _; rw [show zv = z by omega]), h⟩
    · cases h
  · rcases u with x | u
    · obtain ⟨zv, rfl, hx⟩ := hv
      unfold ab_mv at h
      dsimp only at h
      cases hq : sx_nt sg i with
      | some t =>
        rw [hq] at h
        obtain ⟨hc, h⟩ := sx_cd h
        obtain ⟨zt, ht⟩ := hs i t hq
        have e := ab_sm_s hY hc (ab_cp_s ht) hx
        exact ⟨sg, rf, ab_ls.rf, ab_ls.rf, hs, hr, ⟨t, zt, hq, ht, by rw [e]⟩, h⟩
      | none =>
        rw [hq] at h
        obtain ⟨hc, h⟩ := sx_cd h
        obtain ⟨c1, hc⟩ := sx_nd hc
        obtain ⟨c2, c3⟩ := sx_nd hc
        have c1 := sx_beq c1
        have c2 : b = 0 := sx_eq_iff.mp c2
        have c3 := sx_blt c3
        refine ⟨_, rf, ab_ls.set hq, ab_ls.rf, fun j y hj => ?_, hr, ⟨x, zv, by rw [ab_nt_set, if_pos ⟨rfl, c3⟩], hx, ?_⟩, h⟩
        · rw [ab_nt_set] at hj
          by_cases e : j = i ∧ i < sg.length
          · rw [if_pos e] at hj; cases hj; exact ⟨zv, hx⟩
          · rw [if_neg e] at hj; exact hs j y hj
        · rw [c1, c2]
          show Sum.inl zv = Sum.inl ((1 : Int) * zv + 0)
          rw [show (1 : Int) * zv + 0 = zv by omega]
    · cases h
  · rcases u with x | u | u
    · cases h
    · exact ⟨sg, rf, ab_ls.rf, ab_ls.rf, hs, hr, hv, h⟩
    · cases h
  · rcases u with x | u | u
    · cases h
    · cases h
    · obtain ⟨hu, rfl⟩ := hv
      unfold ab_mv at h
      dsimp only at h
      cases hq : sx_nt rf j with
      | some t =>
        rw [hq] at h
        obtain ⟨hc, h⟩ := sx_cd h
        have e := sx_beq hc
        exact ⟨sg, rf, ab_ls.rf, ab_ls.rf, hs, hr, ⟨t, hq, by rw [← e]; exact hu, by rw [← e]⟩, h⟩
      | none =>
        rw [hq] at h
        dsimp only at h
        cases hp : ab_nR Rp j with
        | none => rw [hp] at h; cases h
        | some p =>
          rw [hp] at h
          cases hg : ab_nR R u with
          | none => rw [hg] at h; cases h
          | some q =>
            rw [hg] at h
            dsimp only at h
            obtain ⟨hc, h⟩ := sx_cd h
            obtain ⟨c1, c2⟩ := sx_nd hc
            have c2 := sx_blt c2
            refine ⟨sg, _, ab_ls.rf, ab_ls.set hq, hs, fun j' y hj => ?_, ⟨u, by rw [ab_nt_set, if_pos ⟨rfl, c2⟩], hu, rfl⟩, h⟩
            rw [ab_nt_set] at hj
            by_cases e : j' = j ∧ j < rf.length
            · rw [if_pos e] at hj
              cases hj
              refine ⟨hu, fun q' hq' => ?_⟩
              rw [e.1, hp] at hq'
              cases hq'
              exact ab_ts_s c1 (hR.2 u q hg)
            · rw [if_neg e] at hj; exact hr j' y hj
def ab_bl (sg : ab_sg) (rf : ab_rr) (w : ab_wd) : ab_L → mj_L → Prop
  | [], L => L = []
  | none :: s, L => ∃ v L', L = v :: L' ∧ ab_bl sg rf w s L'
  | some x :: s, L => ∃ v L', L = some v :: L' ∧ ab_bd sg rf w x v ∧ ab_bl sg rf w s L'
theorem ab_bl.up {sg sg' : ab_sg} {rf rf' : ab_rr} {w w' : ab_wd} (h1 : ab_ls sg sg') (h2 : ab_ls rf rf') (u : ab_up w w') : ∀ {s : ab_L} {L : mj_L}, ab_bl sg rf w s L → ab_bl sg' rf' w' s L
  | [], _, h => h
  | none :: _, _, h => by
    obtain ⟨v, t, g1, g2⟩ := h
    exact ⟨v, t, g1, g2.up h1 h2 u⟩
  | some _ :: _, _, h => by
    obtain ⟨v, t, g1, g2, g3⟩ := h
    exact ⟨v, t, g1, g2.up h1 h2 u, g3.up h1 h2 u⟩
theorem ab_mvs_s {Rp : ab_R} {Y : ab_Y} {R : ab_R} {w : ab_wd} {G : mj_G} (hY : ab_RY w Y) (hR : ab_RR w G R) : ∀ (ps us : ab_L) (sg : ab_sg) (rf : ab_rr) (k : ab_sg → ab_rr → Bool) (L : mj_L), ab_mvs Rp Y R ps us sg rf k = true → ab_RL w us L → ab_so w sg → ab_ro w G Rp rf → ∃ sg' rf', ab_ls sg sg' ∧ ab_ls rf rf' ∧ ab_so w sg' ∧ ab_ro w G Rp rf' ∧ ab_bl sg' rf' w ps L ∧ k sg' rf' = true
  | [], [], sg, rf, k, L, h, hL, hs, hr => ⟨sg, rf, ab_ls.rf, ab_ls.rf, hs, hr, hL, h⟩
  | [], _ :: _, _, _, _, _, h, _, _, _ => by cases h
  | none :: ps, [], _, _, _, _, h, _, _, _ => by cases h
  | some _ :: ps, [], _, _, _, _, h, _, _, _ => by cases h
  | some _ :: ps, none :: _, _, _, _, _, h, _, _, _ => by cases h
  | none :: ps, u :: us, sg, rf, k, L, h, hL, hs, hr => by
    obtain ⟨v, L', e1, e2⟩ : ∃ v L', L = v :: L' ∧ ab_RL w us L' := by
      cases u with
      | none => exact hL
      | some u => obtain ⟨v, L', g1, -, g2⟩ := hL; exact ⟨some v, L', g1, g2⟩
    obtain ⟨sg', rf', g1, g2, g3, g4, g5, g6⟩ := ab_mvs_s hY hR ps us sg rf k L' h e2 hs hr
    exact ⟨sg', rf', g1, g2, g3, g4, ⟨v, L', e1, g5⟩, g6⟩
  | some p :: ps, some u :: us, sg, rf, k, L, h, hL, hs, hr => by
    obtain ⟨v, L', e1, e2, e3⟩ := hL
    obtain ⟨s1, r1, g1, g2, g3, g4, g5, g6⟩ := ab_mv_s h hY hR e2 hs hr
    obtain ⟨s2, r2, o1, o2, o3, o4, o5, o6⟩ := ab_mvs_s hY hR ps us s1 r1 k L' g6 e3 g3 g4
    exact ⟨s2, r2, g1.tr o1, g2.tr o2, o3, o4, ⟨v, L', e1, g5.up o1 o2 ab_up.rf, o5⟩, o6⟩
def ab_bm (sg : ab_sg) (rf : ab_rr) (w : ab_wd) (M : mj_M) (e : Nat × Nat × ab_V) : Prop := ∃ u a, sx_nt rf e.1 = some u ∧ u < w.2.2.1 ∧ w.2.2.2 u = some a ∧ match e.2.2 with
  | .inl p => ab_bd sg rf w (.inl p) (.inl (M.1 a e.2.1))
  | .inr (.inl _) => True
  | .inr (.inr j) => ab_bd sg rf w (.inr (.inr j)) (.inr (.inr (M.2.2 a e.2.1)))
theorem ab_bm.up {sg sg' : ab_sg} {rf rf' : ab_rr} {w w' : ab_wd} {M : mj_M} {e : Nat × Nat × ab_V} (h1 : ab_ls sg sg') (h2 : ab_ls rf rf') (u : ab_up w w') (h : ab_bm sg rf w M e) : ab_bm sg' rf' w' M e := by
  obtain ⟨q, a, g1, g2, g3, g4⟩ := h
  refine ⟨q, a, h2 _ q g1, Nat.lt_of_lt_of_le g2 u.2.2.1, by rw [u.2.2.2 q g2]; exact g3, ?_⟩
  rcases e with ⟨r, x, p | l | j⟩
  · exact ab_bd.up h1 h2 u g4
  · trivial
  · exact ab_bd.up h1 h2 u g4
theorem ab_mms_s {Rp : ab_R} {G : mj_G} {M : mj_M} (hI : ab_Inv G M) : ∀ (mp : List (Nat × Nat × ab_V)) (Y : ab_Y) (R : ab_R) (m : ab_m) (sg : ab_sg) (rf : ab_rr) (k : ab_sg → ab_rr → ab_Y → ab_R → ab_m → Bool) (w : ab_wd), ab_mms Rp mp Y R m sg rf k = true → ab_RY w Y → ab_RR w G R → ab_RM w M m → ab_so w sg → ab_ro w G Rp rf → ∃ sg' rf' w' Y' R' m', ab_up w w' ∧ ab_RY w' Y' ∧ ab_RR w' G R' ∧ ab_RM w' M m' ∧ ab_ls sg sg' ∧ ab_ls rf rf' ∧ ab_so w' sg' ∧ ab_ro w' G Rp rf' ∧ (∀ e ∈ mp, ab_bm sg' rf' w' M e) ∧ k sg' rf' Y' R' m' = true
  | [], Y, R, m, sg, rf, k, w, h, hY, hR, hM, hs, hr => ⟨sg, rf, w, Y, R, m, ab_up.rf, hY, hR, hM, ab_ls.rf, ab_ls.rf, hs, hr, (fun e he => by cases he), h⟩
  | (r, x, .inr (.inl _)) :: t, _, _, _, _, _, _, _, h, _, _, _, _, _ => by cases h
  | (r, x, .inl p) :: t, Y, R, m, sg, rf, k, w, h, hY, hR, hM, hs, hr => by
    unfold ab_mms at h
    cases hq : sx_nt rf r with
    | none => rw [hq] at h; cases h
    | some r' =>
      rw [hq] at h
      dsimp only at h
      obtain ⟨hr', a, a1, w1, v, Y1, m1, u1, u2, u3, u4, u5⟩ := ab_rdi_s h hY hR hM hI (z := Int.ofNat x) rfl (Int.natCast_nonneg x)
      have u4 : ab_RI w1 v (M.1 a x) := u4
      obtain ⟨s2, r2, g1, g2, g3, g4, g5, g6⟩ := ab_mv_s (v := .inl (M.1 a x)) u5 u2 (hR.ey u1) ⟨_, rfl, u4⟩ (hs.up u1.1) (hr.up u1.1)
      obtain ⟨s3, r3, w3, Y3, R3, m3, o1, o2, o3, o4, o5, o6, o7, o8, o9, o10⟩ := ab_mms_s hI t Y1 R m1 s2 r2 k w1 g6 u2 (hR.ey u1) u3 g3 g4
      refine ⟨s3, r3, w3, Y3, R3, m3, u1.1.tr o1, o2, o3, o4, g1.tr o5, g2.tr o6, o7, o8, fun e he => ?_, o10⟩
      rcases List.mem_cons.mp he with rfl | he
      · exact ab_bm.up o5 o6 o1 (show ab_bm s2 r2 w1 M (r, x, .inl p) from ⟨r', a, g2 _ _ hq, Nat.lt_of_lt_of_le hr' u1.1.2.2.1, by rw [u1.2]; exact a1, g5⟩)
      · exact o9 e he
  | (r, x, .inr (.inr j)) :: t, Y, R, m, sg, rf, k, w, h, hY, hR, hM, hs, hr => by
    unfold ab_mms at h
    cases hq : sx_nt rf r with
    | none => rw [hq] at h; cases h
    | some r' =>
      rw [hq] at h
      dsimp only at h
      obtain ⟨hr', a, a1, w1, v, R1, m1, u1, u2, u3, u4, u5, u6⟩ := ab_rdr_s h hY hR hM hI (z := Int.ofNat x) rfl (Int.natCast_nonneg x)
      have u5 : M.2.2 a x = w1.2.2.2 v := u5
      obtain ⟨s2, r2, g1, g2, g3, g4, g5, g6⟩ := ab_mv_s (v := .inr (.inr (M.2.2 a x))) u6 (hY.er u1) u2 ⟨u4, by rw [u5]⟩ (hs.up u1.1) (hr.up u1.1)
      obtain ⟨s3, r3, w3, Y3, R3, m3, o1, o2, o3, o4, o5, o6, o7, o8, o9, o10⟩ := ab_mms_s hI t Y R1 m1 s2 r2 k w1 g6 (hY.er u1) u2 u3 g3 g4
      refine ⟨s3, r3, w3, Y3, R3, m3, u1.1.tr o1, o2, o3, o4, g1.tr o5, g2.tr o6, o7, o8, fun e he => ?_, o10⟩
      rcases List.mem_cons.mp he with rfl | he
      · exact ab_bm.up o5 o6 o1 (show ab_bm s2 r2 w1 M (r, x, .inr (.inr j)) from ⟨r', a, g2 _ _ hq, Nat.lt_of_lt_of_le hr' u1.1.2.2.1, by rw [u1.1.2.2.2 r' hr']; exact a1, g5⟩)
      · exact o9 e he
theorem ab_mb_s {Y : ab_Y} {sg0 : ab_sg} {w : ab_wd} (hY : ab_RY w Y) (hs : ab_so w sg0) : ∀ (Yp : ab_Y) (sg : ab_sg), ab_mb Y sg0 Yp sg = true → ab_so w sg → Yp.length = sg.length ∧ ∀ i q, ab_ny Yp i = some q → ∃ x z, sx_nt sg i = some x ∧ ab_RI w x z ∧ q.1 ≤ z ∧ z ≤ q.2.1 ∧ ∀ r ∈ q.2.2, ∃ y zy, sx_nt sg0 r.1 = some y ∧ ab_RI w y zy ∧ zy + r.2 ≤ z
  | [], [], _, _ => ⟨rfl, fun i q h => by cases h⟩
  | [], _ :: _, h, _ => by cases h
  | (lo, hi, rel) :: t, [], h, _ => by cases h
  | (lo, hi, rel) :: t, none :: g, h, _ => by cases h
  | (lo, hi, rel) :: t, some x :: g, h, hg => by
    unfold ab_mb at h
    obtain ⟨h1, h⟩ := sx_nd h
    obtain ⟨h2, h⟩ := sx_nd h
    obtain ⟨h3, h⟩ := sx_nd h
    obtain ⟨e1, e2⟩ := ab_mb_s hY hs t g h (fun i x hx => hg (i + 1) x hx)
    obtain ⟨z, hz⟩ := hg 0 x rfl
    refine ⟨by simp [e1], fun i q hq => ?_⟩
    cases i with
    | zero =>
      cases hq
      have h1 : lo + 0 ≤ z := ab_ge_s (y := .inl lo) hY h1 hz rfl
      refine ⟨x, z, rfl, hz, by show lo ≤ z; omega, ab_le_s hY h2 hz, fun r hr => ?_⟩
      have h4 := List.all_eq_true.mp h3 r hr
      cases hy : sx_nt sg0 r.1 with
      | none => rw [hy] at h4; cases h4
      | some y =>
        rw [hy] at h4
        obtain ⟨zy, hzy⟩ := hs r.1 y hy
        exact ⟨y, zy, rfl, hzy, ab_ge_s hY h4 hz hzy⟩
    | succ i => exact e2 i q hq
/-- the world of a pattern -/
def ab_wp (P : ab_pt) (sg : ab_sg) (rf : ab_rr) (w : ab_wd) : ab_wd := (P.1.length, fun i => match sx_nt sg i with
  | some x => ab_ev w x
  | none => 0, P.2.1.length, fun j => match sx_nt rf j with
  | some u => w.2.2.2 u
  | none => none)
theorem ab_wp_r {P : ab_pt} {sg : ab_sg} {rf : ab_rr} {w : ab_wd} {i : Nat} {x : ab_I} {z : Int} (h : sx_nt sg i = some x) (hz : ab_RI w x z) : (ab_wp P sg rf w).2.1 i = z := by
  show (match sx_nt sg i with | some x => ab_ev w x | none => 0) = z
  rw [h]; exact hz.ev
theorem ab_wp_s {P : ab_pt} {sg : ab_sg} {rf : ab_rr} {w : ab_wd} {j u : Nat} (h : sx_nt rf j = some u) : (ab_wp P sg rf w).2.2.2 j = w.2.2.2 u := by
  show (match sx_nt rf j with | some u => w.2.2.2 u | none => none) = _
  rw [h]
theorem ab_bd_RV {P : ab_pt} {sg : ab_sg} {rf : ab_rr} {w : ab_wd} {p : ab_V} {v : mj_V} (h1 : sg.length = P.1.length) (h2 : rf.length = P.2.1.length) (h : ab_bd sg rf w p v) : ab_RV (ab_wp P sg rf w) p v := by
  rcases p with (z | ⟨i, a, b⟩) | l | j
  · exact ⟨z, h, rfl⟩
  · obtain ⟨x, zx, g1, g2, g3⟩ := h
    refine ⟨_, g3, by show i < P.1.length; rw [← h1]; exact ab_nt_lt g1, ?_⟩
    rw [ab_wp_r g1 g2]
  · exact h
  · obtain ⟨u, g1, g2, g3⟩ := h
    exact ⟨by show j < P.2.1.length; rw [← h2]; exact ab_nt_lt g1, by rw [ab_wp_s g1]; exact g3⟩
theorem ab_bl_RL {P : ab_pt} {sg : ab_sg} {rf : ab_rr} {w : ab_wd} (h1 : sg.length = P.1.length) (h2 : rf.length = P.2.1.length) : ∀ {s : ab_L} {L : mj_L}, ab_bl sg rf w s L → ab_RL (ab_wp P sg rf w) s L
  | [], _, h => h
  | none :: _, _, h => by
    obtain ⟨v, t, g1, g2⟩ := h
    exact ⟨v, t, g1, ab_bl_RL h1 h2 g2⟩
  | some _ :: _, _, h => by
    obtain ⟨v, t, g1, g2, g3⟩ := h
    exact ⟨v, t, g1, ab_bd_RV h1 h2 g2, ab_bl_RL h1 h2 g3⟩
theorem ab_mt_s {P : ab_pt} {us : ab_L} {sg : ab_sg} {rf : ab_rr} {Y : ab_Y} {R : ab_R} {m : ab_m} {k : ab_sg → ab_rr → ab_Y → ab_R → ab_m → Bool} {w : ab_wd} {G : mj_G} {M : mj_M} {L : mj_L} (h : ab_mt P us sg rf Y R m k = true) (hY : ab_RY w Y) (hR : ab_RR w G R) (hM : ab_RM w M m) (hI : ab_Inv G M) (hL : ab_RL w us L) (hs : ab_so w sg) (hr : ab_ro w G P.2.1 rf) :
    ∃ sg' rf' w' Y' R' m', ab_up w w' ∧ ab_RY w' Y' ∧ ab_RR w' G R' ∧ ab_RM w' M m' ∧ ab_ls sg sg' ∧ ab_ls rf rf' ∧ ab_so w' sg' ∧ ab_ro w' G P.2.1 rf' ∧ ab_RY (ab_wp P sg' rf' w') P.1 ∧ ab_RR (ab_wp P sg' rf' w') G P.2.1 ∧ ab_RM (ab_wp P sg' rf' w') M (ab_mk P.2.2.1) ∧ ab_RL (ab_wp P sg' rf' w') P.2.2.2 L ∧ P.1.length = sg'.length ∧ rf'.length = P.2.1.length ∧ k sg' rf' Y' R' m' = true := by
  unfold ab_mt at h
  obtain ⟨s1, r1, g1, g2, g3, g4, g5, h⟩ := ab_mvs_s hY hR _ _ _ _ _ L h hL hs hr
  obtain ⟨s2, r2, w2, Y2, R2, m2, o1, o2, o3, o4, o5, o6, o7, o8, o9, h⟩ := ab_mms_s hI _ _ _ _ _ _ _ w h hY hR hM g3 g4
  obtain ⟨hc, h⟩ := sx_cd h
  obtain ⟨c1, hc⟩ := sx_nd hc
  obtain ⟨c2, c3⟩ := sx_nd hc
  have c3 := sx_beq c3
  obtain ⟨e1, e2⟩ := ab_mb_s o2 o7 _ _ c1 o7
  refine ⟨s2, r2, w2, Y2, R2, m2, o1, o2, o3, o4, g1.tr o5, g2.tr o6, o7, o8, ⟨rfl, fun i q hq => ?_⟩, ⟨rfl, fun j q hq => ?_⟩, fun e he => ?_, ab_bl_RL e1.symm c3 (g5.up o5 o6 o1), e1, c3, h⟩
  · obtain ⟨x, z, f1, f2, f3, f4, f5⟩ := e2 i q hq
    unfold ab_q1
    rw [ab_wp_r f1 f2]
    refine ⟨f3, f4, fun r hr => ?_⟩
    obtain ⟨y, zy, k1, k2, k3⟩ := f5 r hr
    rw [ab_wp_r k1 k2]
    exact ⟨by show r.1 < P.1.length; rw [e1]; exact ab_nt_lt k1, k3⟩
  · have hj : j < r2.length := by rw [c3]; exact ab_nR_lt hq
    have hb : ∃ u, sx_nt r2 j = some u := by
      have key : ∀ (l : ab_rr) (j : Nat), l.all Option.isSome = true → j < l.length → ∃ u, sx_nt l j = some u := by
        intro l
        induction l with
        | nil => intro j _ hj; simp at hj
        | cons y t ih =>
          intro j ha hj
          rw [List.all_cons, Bool.and_eq_true] at ha
          cases j with
          | zero =>
            cases y with
            | none => cases ha.1
            | some u => exact ⟨u, rfl⟩
          | succ j => exact ih j ha.2 (by simp at hj; omega)
      exact key r2 j c2 hj
    obtain ⟨u, hu⟩ := hb
    rw [ab_wp_s hu]
    exact (o8 j u hu).2 q hq
  · obtain ⟨e0, he0, rfl⟩ := List.mem_map.mp he
    obtain ⟨u, a, f1, f2, f3, f4⟩ := o9 e0 he0
    obtain ⟨r, x, p⟩ := e0
    refine ⟨by show r < P.2.1.length; rw [← c3]; exact ab_nt_lt f1, a, Int.ofNat x, by rw [ab_wp_s f1]; exact f3, rfl, Int.natCast_nonneg x, ?_⟩
    rcases p with p | l | j
    · obtain ⟨z, q1, q2⟩ := ab_bd_RV (P := P) e1.symm c3 f4
      cases q1
      exact q2
    · trivial
    · obtain ⟨q1, q2⟩ := ab_bd_RV (P := P) e1.symm c3 f4
      refine ⟨q1, ?_⟩
      have q2 : (Sum.inr (Sum.inr (M.2.2 a x)) : mj_V) = .inr (.inr ((ab_wp P s2 r2 w2).2.2.2 j)) := q2
      exact Sum.inr.inj (Sum.inr.inj q2)
end
section
/-! ===== contracts: what comes back; calls; arrivals ===== -/
def ab_xh (w : ab_wd) (X : ab_X) (z : Int) : Prop := match X with
  | .inl c => z = c
  | .inr (.inl (j, b)) => z = w.2.1 j + b
  | .inr (.inr (lo, hi, rel)) => lo ≤ z ∧ z ≤ hi ∧ ∀ j d, rel = some (j, d) → w.2.1 j + d ≤ z
def ab_rh (w : ab_wd) (G : mj_G) (p : Option (ab_X ⊕ (Unit ⊕ (Nat × Nat)))) (r : Option mj_V) : Prop := match p with
  | none => r = none
  | some (.inl X) => ∃ z, r = some (.inl z) ∧ ab_xh w X z
  | some (.inr (.inl _)) => ∃ l, r = some (.inr (.inl l))
  | some (.inr (.inr q)) => ∃ o, r = some (.inr (.inr o)) ∧ ab_rt G q o
def ab_ph (w : ab_wd) (G : mj_G) (po : ab_po) (r : Option mj_V) (M : mj_M) : Prop := ab_rh w G po.1 r ∧ ∀ e ∈ po.2, ∃ a, w.2.2.2 e.1 = some a ∧ ab_xh w e.2.2 (M.1 a e.2.1)
/-- a contract holds -/
def ab_ok (c : ab_co) : Prop := ∀ dd, ab_h c ≤ dd → ∀ (G : mj_G) (M : mj_M) (w : ab_wd) (av : List mj_V) (Q : mj_P), ab_RY w (ab_p c).1 → ab_RR w G (ab_p c).2.1 → ab_RM w M (ab_mk (ab_p c).2.2.1) → ab_RL w (ab_p c).2.2.2 (av.map some) → ab_Inv G M → (∀ r M', ab_Inv G M' → ab_frm (ab_w c) G M M' → (∃ po ∈ ab_o c, ab_ph w G po r M') → Q r G M') → mj_R mj_tab (dd + 1) (ab_y c) av G M Q
theorem ab_xi_s {sg : ab_sg} {Y : ab_Y} {X : ab_X} {k : ab_I → ab_Y → Bool} {w wp : ab_wd} {z : Int} (h : ab_xi sg Y X k = true) (hY : ab_RY w Y) (hs : ab_so w sg) (hp : ∀ i x z, sx_nt sg i = some x → ab_RI w x z → wp.2.1 i = z) (hx : ab_xh wp X z) : ab_ok3 w k z := by
  rcases X with c | ⟨j, b⟩ | ⟨lo, hi, rel⟩
  · exact ab_hc hY (show c = z from (show z = c from hx).symm) h
  · unfold ab_xi at h
    dsimp only at h
    have hx : z = wp.2.1 j + b := hx
    cases hq : sx_nt sg j with
    | none => rw [hq] at h; cases h
    | some t =>
      rw [hq] at h
      obtain ⟨zt, ht⟩ := hs j t hq
      have e := hp j t zt hq ht
      rcases t with p | ⟨i, a, q⟩
      · dsimp only at h
        rw [sx_fi_eq] at h
        have ep : p = zt := ht
        exact ab_hc hY (show p + b = z by omega) h
      · have et := ht.2
        exact ab_hs hY ht.1 (by omega) (ab_c1_s h)
  · obtain ⟨h1, h2, h3⟩ := hx
    have nil : ab_fr Y lo hi [] k = true → ab_ok3 w k z := fun h => ab_fr_s h hY h1 h2 (fun r hr => by cases hr)
    rcases rel with _ | ⟨j, d⟩
    · exact nil h
    · unfold ab_xi at h
      dsimp only at h
      have h3 := h3 j d rfl
      cases hq : sx_nt sg j with
      | none => rw [hq] at h; cases h
      | some t =>
        rw [hq] at h
        obtain ⟨zt, ht⟩ := hs j t hq
        have e := hp j t zt hq ht
        rcases t with p | ⟨i, a, q⟩
        · dsimp only at h
          have ep : p = zt := ht
          refine ab_fr_s h hY ?_ h2 (fun r hr => by cases hr)
          rcases ab_mx_or lo (p + d) with g | g <;> rw [g] <;> omega
        · have et := ht.2
          have hi' := ht.1
          clear ht hq
          split at h
          · rename_i eq1
            cases eq1
          · rename_i eq1
            cases eq1
          · rename_i i' q' eq1
            cases eq1
            rw [sx_fi_eq] at h
            refine ab_fr_s h hY h1 h2 (fun r hr => ?_)
            have er : r = (i, q + d) := by simpa using hr
            subst er
            have h4 : Int.ofNat 1 * w.2.1 i = w.2.1 i := Int.one_mul _
            exact ⟨hi', by show w.2.1 i + (q + d) ≤ z; omega⟩
          · exact nil h
theorem ab_pi_s {sg : ab_sg} {rf : ab_rr} {wp : ab_wd} {M' : mj_M} : ∀ (ms : List (Nat × Nat × ab_X)) (Y : ab_Y) (m : ab_m) (k : ab_Y → ab_m → Bool) (w : ab_wd), ab_pi sg rf ms Y m k = true → ab_RY w Y → ab_RM w M' m → ab_so w sg → (∀ i x z, sx_nt sg i = some x → ab_RI w x z → wp.2.1 i = z) → (∀ j u, sx_nt rf j = some u → u < w.2.2.1 ∧ wp.2.2.2 j = w.2.2.2 u) → (∀ e ∈ ms, ∃ a, wp.2.2.2 e.1 = some a ∧ ab_xh wp e.2.2 (M'.1 a e.2.1)) → ∃ w' Y' m', ab_ey w w' ∧ ab_RY w' Y' ∧ ab_RM w' M' m' ∧ k Y' m' = true
  | [], Y, m, k, w, h, hY, hM, _, _, _, _ => ⟨w, Y, m, ab_ey.rf, hY, hM, h⟩
  | (r, x, X) :: t, Y, m, k, w, h, hY, hM, hs, hp, hr, hms => by
    unfold ab_pi at h
    cases hq : sx_nt rf r with
    | none => rw [hq] at h; cases h
    | some r' =>
      rw [hq] at h
      dsimp only at h
      obtain ⟨a, a1, a2⟩ := hms _ List.mem_cons_self
      obtain ⟨k1, k2⟩ := hr r r' hq
      obtain ⟨w1, v, Y1, u1, u2, u3, u4⟩ := ab_xi_s h hY hs hp a2
      have hp1 : ∀ i x z, sx_nt sg i = some x → ab_RI w1 x z → wp.2.1 i = z := fun i x z h1 h2 => by
        obtain ⟨z0, h3⟩ := hs i x h1
        rw [ab_RI.fn h2 (h3.up u1.1)]
        exact hp i x z0 h1 h3
      obtain ⟨w2, Y2, m2, o1, o2, o3, o4⟩ := ab_pi_s t Y1 _ k w1 u4 u2 (fun e he => by
        rcases List.mem_cons.mp he with rfl | he
        · exact ⟨Nat.lt_of_lt_of_le k1 u1.1.2.2.1, a, Int.ofNat x, by show w1.2.2.2 r' = some a; rw [u1.2, ← k2]; exact a1, rfl, Int.natCast_nonneg x, u3⟩
        · exact (hM e he).up u1.1) (hs.up u1.1) hp1 (fun j u hj => ⟨Nat.lt_of_lt_of_le (hr j u hj).1 u1.1.2.2.1, by rw [u1.2]; exact (hr j u hj).2⟩) (fun e he => hms e (List.mem_cons_of_mem _ he))
      exact ⟨w2, Y2, m2, u1.tr o1, o2, o3, o4⟩
def ab_ov (w : ab_wd) (r : Option ab_V) (r' : Option mj_V) : Prop := match r with
  | none => r' = none
  | some v => ∃ v', r' = some v' ∧ ab_RV w v v'
theorem ab_ri_s {sg : ab_sg} {Y : ab_Y} {R : ab_R} {p : Option (ab_X ⊕ (Unit ⊕ (Nat × Nat)))} {k : Option ab_V → ab_Y → ab_R → Bool} {w wp : ab_wd} {G : mj_G} {r : Option mj_V} (h : ab_ri sg Y R p k = true) (hY : ab_RY w Y) (hR : ab_RR w G R) (hs : ab_so w sg) (hp : ∀ i x z, sx_nt sg i = some x → ab_RI w x z → wp.2.1 i = z) (hr : ab_rh wp G p r) : ∃ w' rv Y' R', ab_up w w' ∧ ab_RY w' Y' ∧ ab_RR w' G R' ∧ ab_ov w' rv r ∧ k rv Y' R' = true := by
  rcases p with _ | X | l | q
  · exact ⟨w, none, Y, R, ab_up.rf, hY, hR, hr, h⟩
  · obtain ⟨z, rfl, hx⟩ := hr
    have h : ab_xi sg Y X (fun v Y => k (some (.inl v)) Y R) = true := h
    obtain ⟨w1, v, Y1, u1, u2, u3, u4⟩ := ab_xi_s h hY hs hp hx
    exact ⟨w1, some (.inl v), Y1, R, u1.1, u2, hR.ey u1, ⟨_, rfl, z, rfl, u3⟩, u4⟩
  · obtain ⟨l, rfl⟩ := hr
    exact ⟨w, some (.inr (.inl ())), Y, R, ab_up.rf, hY, hR, ⟨_, rfl, l, rfl⟩, h⟩
  · obtain ⟨o, rfl, ho⟩ := hr
    obtain ⟨w1, u1, u2, u3, u4⟩ := ab_nw_s hR ho
    exact ⟨w1, some (.inr (.inr R.length)), Y, R ++ [q], u1.1, hY.er u1, u2, ⟨_, rfl, u3, by rw [u4]⟩, h⟩
theorem ab_kw_s {W : List (Nat × Nat × Nat)} {Y : ab_Y} {R : ab_R} {m : ab_m} {w : ab_wd} {G : mj_G} {M M' : mj_M} (hY : ab_RY w Y) (hR : ab_RR w G R) (hM : ab_RM w M m) (hF : ab_frm W G M M') : ab_RM w M' (ab_kw W Y R m) := by
  intro e he
  obtain ⟨he, h⟩ := List.mem_filter.mp he
  obtain ⟨g0, a, z, g1, g2, g4, g3⟩ := hM e he
  obtain ⟨t, n, e1, h, e2, e3⟩ := ab_tg_s h hR
  obtain ⟨c1, h⟩ := sx_nd h
  obtain ⟨c2, h⟩ := sx_nd h
  obtain ⟨n1, n2, n3⟩ := ab_t9 c1 c2
  obtain ⟨a', a1, a2⟩ := ab_rt_a e2 n1 n2 n3
  have ea : a' = a := Option.some.inj (a1.symm.trans g1)
  rw [ea] at a2
  obtain ⟨lo, hi, h, l1, l2⟩ := ab_iv_s h hY g2
  have hn : ¬ ab_cov W (G a).1 z.toNat := by
    rintro ⟨q, hq, q1, q2, q3⟩
    rw [Bool.not_eq_true', Bool.eq_false_iff] at h
    refine h (List.any_eq_true.mpr ⟨q, hq, ?_⟩)
    rw [a2] at q1
    have q1 : q.1 = t := q1
    rw [Bool.and_eq_true, Bool.and_eq_true, sx_le_iff, sx_le_iff, q1]
    exact ⟨Nat.beq_refl t, by show lo ≤ (q.2.2 : Int); omega, by show (q.2.1 : Int) ≤ hi; omega⟩
  obtain ⟨f1, f2⟩ := hF a z.toNat hn
  refine ⟨g0, a, z, g1, g2, g4, ?_⟩
  obtain ⟨r, x, v⟩ := e
  rcases v with v | v | v
  · show ab_RI w v (M'.1 a z.toNat)
    rw [f1]; exact g3
  · trivial
  · show v < w.2.2.1 ∧ M'.2.2 a z.toNat = w.2.2.2 v
    rw [f2]; exact g3
theorem ab_cov_all {W W' : List (Nat × Nat × Nat)} (h : W.all (fun e => ab_cw W' e.1 (.ofNat e.2.1) (.ofNat e.2.2)) = true) {t k : Nat} (hc : ab_cov W t k) : ab_cov W' t k := by
  obtain ⟨q, hq, q1, q2, q3⟩ := hc
  have h1 := List.all_eq_true.mp h q hq
  have h2 := ab_cw_s (z := (k : Int)) h1 (by show (q.2.1 : Int) ≤ (k : Int); omega) (by show (k : Int) ≤ (q.2.2 : Int); omega)
  rw [q1] at h2
  exact h2
theorem ab_xx_s {Y : ab_Y} {x : ab_I} {X : ab_X} {w w0 : ab_wd} {z : Int} (h : ab_xx Y x X = true) (hk : ab_xk w0.1 X = true) (hY : ab_RY w Y) (hu : ab_up w0 w) (hx : ab_RI w x z) : ab_xh w0 X z := by
  have rig : ∀ {j : Nat} {b : Int}, j < w0.1 → ab_RI w (.inr (j, 1, b)) (w0.2.1 j + b) := fun {j b} hj => by
    refine ⟨Nat.lt_of_lt_of_le hj hu.1, ?_⟩
    rw [hu.2.1 j hj]
    have : Int.ofNat 1 * w0.2.1 j = w0.2.1 j := Int.one_mul _
    omega
  rcases X with c | ⟨j, b⟩ | ⟨lo, hi, rel⟩
  · exact ab_sm_s (y := .inl c) hY h hx rfl
  · exact ab_sm_s hY h hx (rig (sx_blt hk))
  · unfold ab_xx at h
    dsimp only at h
    obtain ⟨h1, h⟩ := sx_nd h
    obtain ⟨h2, h3⟩ := sx_nd h
    have h1 : lo + 0 ≤ z := ab_ge_s (y := .inl lo) hY h1 hx rfl
    refine ⟨by omega, ab_le_s hY h2 hx, fun j d e => ?_⟩
    subst e
    have g := ab_ge_s hY h3 hx (rig (b := .ofNat 0) (sx_blt hk))
    have g : w0.2.1 j + 0 + d ≤ z := g
    omega
theorem ab_pm_s {R : ab_R} {w0 : ab_wd} {G : mj_G} {M : mj_M} (hI : ab_Inv G M) : ∀ (ms : List (Nat × Nat × ab_X)) (Y : ab_Y) (m : ab_m) (w : ab_wd), ab_pm R ms Y m = true → ms.all (fun e => Nat.blt e.1 w0.2.2.1 && ab_xk w0.1 e.2.2) = true → ab_RY w Y → ab_RR w G R → ab_RM w M m → ab_up w0 w → ∀ e ∈ ms, ∃ a, w0.2.2.2 e.1 = some a ∧ ab_xh w0 e.2.2 (M.1 a e.2.1)
  | [], _, _, _, _, _, _, _, _, _, e, he => by cases he
  | (r, x, X) :: t, Y, m, w, h, hk, hY, hR, hM, hu, e, he => by
    unfold ab_pm at h
    rw [List.all_cons, Bool.and_eq_true, Bool.and_eq_true] at hk
    obtain ⟨hr', a, a1, w1, v, Y1, m1, u1, u2, u3, u4, u5⟩ := ab_rdi_s h hY hR hM hI (z := Int.ofNat x) rfl (Int.natCast_nonneg x)
    obtain ⟨h1, h2⟩ := sx_nd u5
    rcases List.mem_cons.mp he with rfl | he
    · refine ⟨a, ?_, ab_xx_s h1 hk.1.2 u2 (hu.tr u1.1) u4⟩
      rw [← hu.2.2.2 r (sx_blt hk.1.1)]; exact a1
    · exact ab_pm_s hI t Y1 m1 w1 h2 hk.2 u2 (hR.ey u1) u3 (hu.tr u1.1) e he
theorem ab_pr_s {Y : ab_Y} {R : ab_R} {p : Option (ab_X ⊕ (Unit ⊕ (Nat × Nat)))} {r : Option ab_V} {r' : Option mj_V} {w w0 : ab_wd} {G : mj_G} (h : ab_pr Y R p r = true) (hk : ab_k0 w0.1 p = true) (hY : ab_RY w Y) (hR : ab_RR w G R) (hu : ab_up w0 w) (hr : ab_ov w r r') : ab_rh w0 G p r' := by
  rcases p with _ | X | l | q
  · rcases r with _ | v
    · exact hr
    · cases h
  · rcases r with _ | v | v
    · cases h
    · obtain ⟨v', rfl, z, rfl, hz⟩ := hr
      exact ⟨z, rfl, ab_xx_s h hk hY hu hz⟩
    · cases h
  · rcases r with _ | v | v | v
    · cases h
    · cases h
    · obtain ⟨v', rfl, z, rfl⟩ := hr
      exact ⟨z, rfl⟩
    · cases h
  · rcases r with _ | v | v | v
    · cases h
    · cases h
    · cases h
    · obtain ⟨v', rfl, h1, rfl⟩ := hr
      have h : ab_tg R v (fun t n => ab_ts q (t, n)) = true := h
      obtain ⟨t, n, -, h, e2, -⟩ := ab_tg_s h hR
      exact ⟨_, rfl, ab_ts_s h e2⟩
/-! measures -/
def ab_m1 (z : Int) (s : Nat) : Nat := match s with
  | 0 => z.toNat
  | 1 => (2147483648 - z).toNat
  | _ => (z + 2147483648).toNat
def ab_mz (w : ab_wd) (A : List (ab_I × Nat)) : List Nat := A.map (fun q => ab_m1 (ab_ev w q.1) q.2)
def ab_lx : List Nat → List Nat → Prop
  | x :: xs, y :: ys => x < y ∨ (x = y ∧ ab_lx xs ys)
  | _, _ => False
theorem ab_lx_wf (P : List Nat → Prop) : ∀ (n : Nat), (∀ l, l.length = n → (∀ l', l'.length = n → ab_lx l' l → P l') → P l) → ∀ l, l.length = n → P l
  | 0, h, l, hl => h l hl (fun l' _ q => by
    cases l with
    | nil => cases l' <;> cases q
    | cons _ _ => simp at hl)
  | n + 1, h, l, hl => by
    have key : ∀ (x : Nat) (t : List Nat), t.length = n → P (x :: t) := by
      intro x
      induction x using Nat.strongRecOn with
      | _ x ihx =>
        refine ab_lx_wf (fun t => P (x :: t)) n (fun t ht iht => ?_)
        refine h (x :: t) (by simp [ht]) (fun l' hl' q => ?_)
        cases l' with
        | nil => simp at hl'
        | cons y t' =>
          have ht' : t'.length = n := by simpa using hl'
          rcases q with q | ⟨q1, q2⟩
          · exact ihx y q t' ht'
          · subst q1; exact iht t' ht' q2
    cases l with
    | nil => simp at hl
    | cons x t => exact key x t (by simpa using hl)
theorem ab_gm_s {Y : ab_Y} {u v : ab_I} {du dv : Nat} {w : ab_wd} {zu zv : Int} (h : ab_gm Y u du v dv = true) (hY : ab_RY w Y) (hu : ab_RI w u zu) (hv : ab_RI w v zv) : ab_m1 zv dv < ab_m1 zu du := by
  unfold ab_gm at h
  split at h
  · obtain ⟨h1, h2⟩ := sx_nd h
    have h1 : zv + 1 ≤ zu := ab_ge_s hY h1 hu hv
    have h2 : (0 : Int) + 0 ≤ zv := ab_ge_s (y := .inl (.ofNat 0)) hY h2 hv rfl
    show zv.toNat < zu.toNat
    omega
  · obtain ⟨h1, h2⟩ := sx_nd h
    have h1 : zu + 1 ≤ zv := ab_ge_s hY h1 hv hu
    have h2 : zu ≤ 2147483647 := ab_le_s hY h2 hu
    show (2147483648 - zv).toNat < (2147483648 - zu).toNat
    omega
  · obtain ⟨h1, h2⟩ := sx_nd h
    have h1 : zv + 1 ≤ zu := ab_ge_s hY h1 hu hv
    have h2 : (-2147483648 : Int) + 0 ≤ zv := ab_ge_s (y := .inl (.negSucc 2147483647)) hY h2 hv rfl
    show (zv + 2147483648).toNat < (zu + 2147483648).toNat
    omega
  · split at h
    · rename_i z
      have e : (z : Int) = zv := hv
      have h2 : zu ≤ 2147483647 - (z : Int) := ab_le_s hY h hu
      show zv.toNat < (2147483648 - zu).toNat
      omega
    · cases h
  · split at h
    · rename_i z
      have e : (z : Int) = zv := hv
      have h2 : ((z : Int) + -2147483647) + 0 ≤ zu := ab_ge_s (y := .inl (Int.ofNat z + Int.negSucc 2147483646)) hY h hu rfl
      show zv.toNat < (zu + 2147483648).toNat
      omega
    · cases h
  · split at h
    · rename_i z
      have e : (z : Int) = zu := hu
      obtain ⟨h1, h2⟩ := sx_nd h
      have h1 := sx_ble h1
      have h2 : (2147483649 - (z : Int)) + 0 ≤ zv := ab_ge_s (y := .inl (Int.ofNat 2147483649 - Int.ofNat z)) hY h2 hv rfl
      show (2147483648 - zv).toNat < zu.toNat
      omega
    · cases h
  · split at h
    · rename_i z
      have e : (z : Int) = zu := hu
      obtain ⟨h1, h2⟩ := sx_nd h
      have h1 := sx_ble h1
      have h2 : zv ≤ (z : Int) - 2147483649 := ab_le_s hY h2 hv
      show (zv + 2147483648).toNat < zu.toNat
      omega
    · cases h
  · cases h
theorem ab_ld_s {Y : ab_Y} {sg : ab_sg} {rf : ab_rr} {P : ab_pt} {w wA : ab_wd} (hY : ab_RY w Y) (hs : ab_so w sg) (hu : ab_up wA w) : ∀ (A B : List (ab_I × Nat)), ab_ld Y sg A B = true → (∀ q ∈ A, ∃ z, ab_RI wA q.1 z) → ab_lx (ab_mz (ab_wp P sg rf w) B) (ab_mz wA A)
  | [], _, h, _ => by cases h
  | _ :: _, [], h, _ => by cases h
  | (u, du) :: A, (v, dv) :: B, h, hA => by
    unfold ab_ld at h
    cases hv : ab_sv sg v with
    | none => rw [hv] at h; cases h
    | some v' =>
      rw [hv] at h
      dsimp only at h
      obtain ⟨zu, hzu⟩ := hA _ List.mem_cons_self
      have hzu : ab_RI wA u zu := hzu
      have hvz : ∃ zv, ab_RI w v' zv ∧ ab_ev (ab_wp P sg rf w) v = zv := by
        rcases v with z | ⟨i, a, b⟩
        · have hv : some (Sum.inl z) = some v' := hv
          cases hv
          exact ⟨z, rfl, rfl⟩
        · unfold ab_sv at hv
          dsimp only at hv
          cases hq : sx_nt sg i with
          | none => rw [hq] at hv; cases hv
          | some t =>
            rw [hq] at hv
            have hv : some (ab_cp a b t) = some v' := hv
            cases hv
            obtain ⟨zt, ht⟩ := hs i t hq
            refine ⟨_, ab_cp_s ht, ?_⟩
            show Int.ofNat a * (ab_wp P sg rf w).2.1 i + b = _
            rw [ab_wp_r hq ht]
      obtain ⟨zv, hzv, ev⟩ := hvz
      show ab_lx (ab_m1 (ab_ev (ab_wp P sg rf w) v) dv :: ab_mz (ab_wp P sg rf w) B) (ab_m1 (ab_ev wA u) du :: ab_mz wA A)
      rw [ev, hzu.ev]
      cases hg : ab_gm Y u du v' dv with
      | true => exact Or.inl (ab_gm_s hg hY (hzu.up hu) hzv)
      | false =>
        rw [hg] at h
        dsimp only [cond_false] at h
        obtain ⟨hc, h⟩ := sx_cd h
        obtain ⟨c1, c2⟩ := sx_nd hc
        refine Or.inr ⟨?_, ab_ld_s hY hs hu A B h (fun q hq => hA q (List.mem_cons_of_mem _ hq))⟩
        rw [sx_beq c1, ab_sm_s hY c2 (hzu.up hu) hzv]
end
section
/-! ===== one instruction of the abstract run is one of the small machine ===== -/
section ABS
variable (c : ab_co) (id : Nat) (G : mj_G) (M0 : mj_M) (w0 wA : ab_wd) (A : Option (List (ab_I × Nat)))
def ab_gam (b : ab_cu) (wb : ab_wd) (Lb : mj_L) (Mb : mj_M) : Prop := ab_RY wb b.2.1.1 ∧ ab_RR wb G b.2.1.2.1 ∧ ab_RM wb Mb (ab_mk b.2.1.2.2.1) ∧ ab_RL wb b.2.1.2.2.2 Lb ∧ ab_Inv G Mb ∧ ab_frm (ab_w c) G M0 Mb ∧ ab_up w0 wb
def ab_ih (Z : mj_S) : Prop := ∀ b ∈ ab_c c, ∀ wb Lb Mb cb sb, ab_gam c G M0 w0 b wb Lb Mb → (∀ A', A = some A' → ab_lx (ab_mz wb b.2.2) (ab_mz wA A')) → Z ((ab_full (ab_y c)).drop b.1) Lb [] G Mb cb sb
def ab_cz (fs : List ab_F) (y dd : Nat) (Q : mj_P) (Z : mj_S) : Prop := (∀ rest L st G M cb sb, mj_x sx_ms (mj_R mj_tab dd) (ab_full y) Q Z 1 rest L st G M cb sb → Z rest L st G M cb sb) ∧ (fs = [] → y = ab_y c ∧ ab_ih c G M0 w0 wA A Z)
def ab_RF (w : ab_wd) : List ab_F → mj_P → Prop
  | [], Q => ∀ r M, ab_Inv G M → ab_frm (ab_w c) G M0 M → (∃ po ∈ ab_o c, ab_ph w0 G po r M) → Q r G M
  | (y, d, i, rest, L, st) :: fs, Q => ∃ (L' : mj_L) (st' : List mj_V) (Q' : mj_P) (Z : mj_S) (dd cb sb : Nat), d ≤ dd ∧ ab_cz c G M0 w0 wA A fs y dd Q' Z ∧ rest = (ab_full y).drop i ∧ ab_RL w L L' ∧ ab_RS w st st' ∧ ab_RF w fs Q' ∧ ∀ r M, Z rest L' (mj_ret r st') G M cb sb → Q r G M
theorem ab_RF.up {c : ab_co} {G : mj_G} {M0 : mj_M} {w0 wA : ab_wd} {A : Option (List (ab_I × Nat))} {w w' : ab_wd} (u : ab_up w w') : ∀ {fs : List ab_F} {Q : mj_P}, ab_RF c G M0 w0 wA A w fs Q → ab_RF c G M0 w0 wA A w' fs Q
  | [], _, h => h
  | (_, _, _, _, _, _) :: _, _, h => by
    obtain ⟨L', st', Q', Z, dd, cb, sb, h1, h2, h3, h4, h5, h6, h7⟩ := h
    exact ⟨L', st', Q', Z, dd, cb, sb, h1, h2, h3, h4.up u, h5.up u, h6.up u, h7⟩
def ab_Sem (y d i : Nat) (rest : List mj_E) (L : ab_L) (st : List ab_V) (fs : List ab_F) (Y : ab_Y) (R : ab_R) (m : ab_m) (E : ab_E) : Prop := ∀ (w : ab_wd) (L' : mj_L) (st' : List mj_V) (M : mj_M) (Q : mj_P) (Z : mj_S) (dd cb sb : Nat), d ≤ dd → ab_cz c G M0 w0 wA A fs y dd Q Z → rest = (ab_full y).drop i → ab_RL w L L' → ab_RS w st st' → ab_RF c G M0 w0 wA A w fs Q → ab_RY w Y → ab_RR w G R → ab_RM w M m → ab_RE w E → ab_Inv G M → ab_frm (ab_w c) G M0 M → ab_up w0 w → ab_up wA w → Z rest L' st' G M cb sb
def ab_ks (K : ab_K) : Prop := ∀ y d i rest L st fs Y R m E, K y d i rest L st fs Y R m E = true → ab_Sem c G M0 w0 wA A y d i rest L st fs Y R m E
end ABS
theorem ab_RS.c {w : ab_wd} {x : ab_V} {v : mj_V} {t : List ab_V} {t' : List mj_V} (hS : ab_RS w t t') (hv : ab_RV w x v) : ab_RS w (x :: t) (v :: t') := ⟨v, t', rfl, hv, hS⟩
theorem ab_RI.v {w : ab_wd} {x : ab_I} {z : Int} (h : ab_RI w x z) : ab_RV w (.inl x) (.inl z) := ⟨z, rfl, h⟩
theorem ab_RV.l {w : ab_wd} {x : Int64} : ab_RV w (.inr (.inl ())) (.inr (.inl x)) := ⟨x, rfl⟩
theorem ab_i1_s {st : List ab_V} {k : ab_I → List ab_V → Bool} {w : ab_wd} {st' : List mj_V} (h : ab_i1 st k = true) (hS : ab_RS w st st') : ∃ x t z t', st' = .inl z :: t' ∧ ab_RI w x z ∧ ab_RS w t t' ∧ k x t = true := by
  unfold ab_i1 at h
  split at h
  · obtain ⟨v, t', rfl, ⟨z, rfl, hz⟩, h3⟩ := hS
    exact ⟨_, _, z, t', rfl, hz, h3, h⟩
  · cases h
theorem ab_l1_s {st : List ab_V} {k : List ab_V → Bool} {w : ab_wd} {st' : List mj_V} (h : ab_l1 st k = true) (hS : ab_RS w st st') : ∃ t z t', st' = .inr (.inl z) :: t' ∧ ab_RS w t t' ∧ k t = true := by
  unfold ab_l1 at h
  split at h
  · obtain ⟨v, t', rfl, ⟨z, rfl⟩, h3⟩ := hS
    exact ⟨_, z, t', rfl, h3, h⟩
  · cases h
theorem ab_r1_s {st : List ab_V} {k : Nat → List ab_V → Bool} {w : ab_wd} {st' : List mj_V} (h : ab_r1 st k = true) (hS : ab_RS w st st') : ∃ r t t', st' = .inr (.inr (w.2.2.2 r)) :: t' ∧ r < w.2.2.1 ∧ ab_RS w t t' ∧ k r t = true := by
  unfold ab_r1 at h
  split at h
  · obtain ⟨v, t', rfl, ⟨h1, rfl⟩, h3⟩ := hS
    exact ⟨_, _, t', rfl, h1, h3, h⟩
  · cases h
theorem ab_v1_s {st : List ab_V} {k : ab_V → List ab_V → Bool} {w : ab_wd} {st' : List mj_V} (h : ab_v1 st k = true) (hS : ab_RS w st st') : ∃ x t v t', st' = v :: t' ∧ (∀ k' : mj_V → List mj_V → Prop, k' v t' → mj_c1 (v :: t') k') ∧ ab_RV w x v ∧ ab_RS w t t' ∧ k x t = true := by
  unfold ab_v1 at h
  split at h
  · rename_i x t
    obtain ⟨v, t', rfl, ⟨z, rfl, hz⟩, h3⟩ := hS
    exact ⟨.inl x, t, _, t', rfl, fun k' q => q, ⟨z, rfl, hz⟩, h3, h⟩
  · rename_i x t
    obtain ⟨v, t', rfl, ⟨h1, rfl⟩, h3⟩ := hS
    exact ⟨.inr (.inr x), t, _, t', rfl, fun k' q => q, ⟨h1, rfl⟩, h3, h⟩
  · cases h
theorem ab_nt_RL {w : ab_wd} : ∀ {L : ab_L} {L' : mj_L} {i : Nat} {x : ab_V}, ab_RL w L L' → sx_nt L i = some x → ∃ v, mj_nt L' i = some v ∧ ab_RV w x v
  | [], _, _, _, _, h => by cases h
  | none :: _, _, 0, _, _, h => by cases h
  | some y :: _, _, 0, _, hL, h => by
    obtain ⟨v, t, rfl, h1, h2⟩ := hL
    cases h
    exact ⟨v, rfl, h1⟩
  | none :: _, _, i + 1, _, hL, h => by
    obtain ⟨v, t, rfl, h2⟩ := hL
    exact ab_nt_RL (i := i) h2 h
  | some y :: _, _, i + 1, _, hL, h => by
    obtain ⟨v, t, rfl, h1, h2⟩ := hL
    exact ab_nt_RL (i := i) h2 h
theorem ab_ldi_s {L : ab_L} {i : Nat} {k : ab_I → Bool} {w : ab_wd} {L' : mj_L} (h : ab_ldi L i k = true) (hL : ab_RL w L L') : ∃ x z, mj_nt L' i = some (.inl z) ∧ ab_RI w x z ∧ k x = true := by
  unfold ab_ldi at h
  split at h
  · rename_i x hx
    obtain ⟨v, h1, z, rfl, h2⟩ := ab_nt_RL hL hx
    exact ⟨x, z, h1, h2, h⟩
  · cases h
theorem ab_ldl_s {L : ab_L} {i : Nat} {k : Bool} {w : ab_wd} {L' : mj_L} (h : ab_ldl L i k = true) (hL : ab_RL w L L') : ∃ z, mj_nt L' i = some (.inr (.inl z)) ∧ k = true := by
  unfold ab_ldl at h
  split at h
  · rename_i x hx
    obtain ⟨v, h1, z, rfl⟩ := ab_nt_RL hL hx
    exact ⟨z, h1, h⟩
  · cases h
theorem ab_lda_s {L : ab_L} {i : Nat} {k : Nat → Bool} {w : ab_wd} {L' : mj_L} (h : ab_lda L i k = true) (hL : ab_RL w L L') : ∃ r, mj_nt L' i = some (.inr (.inr (w.2.2.2 r))) ∧ r < w.2.2.1 ∧ k r = true := by
  unfold ab_lda at h
  split at h
  · rename_i x hx
    obtain ⟨v, h1, h2, rfl⟩ := ab_nt_RL hL hx
    exact ⟨x, h1, h2, h⟩
  · cases h
theorem ab_set_RL {w : ab_wd} {x : Option ab_V} {v : Option mj_V} (hx : ∀ y, x = some y → ∃ u, v = some u ∧ ab_RV w y u) : ∀ {L : ab_L} {L' : mj_L} (i : Nat), ab_RL w L L' → ab_RL w (L.set i x) (L'.set i v)
  | [], _, i, h => by
    have e : _ = [] := h
    rw [e]; rfl
  | none :: t, _, 0, h => by
    obtain ⟨u, t', rfl, h2⟩ := h
    cases x with
    | none => exact ⟨v, t', rfl, h2⟩
    | some y =>
      obtain ⟨u', rfl, hu⟩ := hx y rfl
      exact ⟨u', t', rfl, hu, h2⟩
  | some y0 :: t, _, 0, h => by
    obtain ⟨u, t', rfl, h1, h2⟩ := h
    cases x with
    | none => exact ⟨v, t', rfl, h2⟩
    | some y =>
      obtain ⟨u', rfl, hu⟩ := hx y rfl
      exact ⟨u', t', rfl, hu, h2⟩
  | none :: t, _, i + 1, h => by
    obtain ⟨u, t', rfl, h2⟩ := h
    exact ⟨u, _, rfl, ab_set_RL hx i h2⟩
  | some y0 :: t, _, i + 1, h => by
    obtain ⟨u, t', rfl, h1, h2⟩ := h
    exact ⟨u, _, rfl, h1, ab_set_RL hx i h2⟩
/-- what is spoilt in the machine need not be known in the run -/
theorem ab_weak_RL {w : ab_wd} : ∀ {L : ab_L} {L' : mj_L} (j : Nat), ab_RL w L L' → (∀ y, sx_nt L j = some y → False) → ab_RL w L (L'.set j none)
  | [], _, j, h, _ => by
    have e : _ = [] := h
    rw [e]; rfl
  | none :: t, _, 0, h, _ => by
    obtain ⟨u, t', rfl, h2⟩ := h
    exact ⟨none, t', rfl, h2⟩
  | some y0 :: t, _, 0, h, hn => (hn y0 rfl).elim
  | none :: t, _, j + 1, h, hn => by
    obtain ⟨u, t', rfl, h2⟩ := h
    exact ⟨u, _, rfl, ab_weak_RL j h2 hn⟩
  | some y0 :: t, _, j + 1, h, hn => by
    obtain ⟨u, t', rfl, h1, h2⟩ := h
    exact ⟨u, _, rfl, h1, ab_weak_RL j h2 hn⟩
theorem ab_kll_s {w : ab_wd} {L : ab_L} {L' : mj_L} (hL : ab_RL w L L') (i : Nat) : ab_RL w (ab_kll L i) (mj_kl L' i) := by
  cases i with
  | zero => exact hL
  | succ j =>
    unfold ab_kll mj_kl
    dsimp only
    cases hq : sx_nt L j with
    | some x =>
      obtain ⟨v, h1, h2⟩ := ab_nt_RL hL hq
      rw [h1]
      rcases x with x | x | x
      · obtain ⟨z, rfl, -⟩ := h2; exact hL
      · obtain ⟨z, rfl⟩ := h2; exact ab_set_RL (fun y e => by cases e) j hL
      · obtain ⟨-, rfl⟩ := h2; exact hL
    | none =>
      dsimp only
      have hn : ∀ y, sx_nt L j = some y → False := fun y e => by rw [hq] at e; cases e
      split
      · exact ab_weak_RL j hL hn
      · exact hL
theorem ab_s1_s {w : ab_wd} {L : ab_L} {L' : mj_L} {i : Nat} {x : ab_V} {v : mj_V} (hL : ab_RL w L L') (hv : ab_RV w x v) : ab_RL w (ab_s1 L i x) (mj_s1 L' i v) := ab_set_RL (fun y e => by cases e; exact ⟨v, rfl, hv⟩) i (ab_kll_s hL i)
theorem ab_s2_s {w : ab_wd} {L : ab_L} {L' : mj_L} {i : Nat} {x : ab_V} {v : mj_V} (hL : ab_RL w L L') (hv : ab_RV w x v) : ab_RL w (ab_s2 L i x) (mj_s2 L' i v) := ab_set_RL (fun y e => by cases e) (i + 1) (ab_s1_s hL hv)
theorem ab_cat_s {w : ab_wd} : ∀ {st : List ab_V} {st' : List mj_V}, ab_RS w st st' → ab_cat st = mj_cat st'
  | [], _, h => by
    have e : _ = [] := h
    rw [e]; rfl
  | x :: t, _, h => by
    obtain ⟨v, t', rfl, h1, h2⟩ := h
    have ih := ab_cat_s h2
    rcases x with x | x | x
    · obtain ⟨z, rfl, -⟩ := h1; show 1 + ab_cat t = 1 + mj_cat t'; rw [ih]
    · obtain ⟨z, rfl⟩ := h1; show 2 + ab_cat t = 2 + mj_cat t'; rw [ih]
    · obtain ⟨-, rfl⟩ := h1; show 1 + ab_cat t = 1 + mj_cat t'; rw [ih]
theorem ab_wd_s {w : ab_wd} : ∀ {st : List ab_V} {st' : List mj_V}, ab_RS w st st' → ab_cat st = mj_wd st'
  | [], _, h => by
    have e : _ = [] := h
    rw [e]; rfl
  | x :: t, _, h => by
    obtain ⟨v, t', rfl, h1, h2⟩ := h
    have ih := ab_wd_s h2
    rcases x with x | x | x
    · obtain ⟨z, rfl, -⟩ := h1; show 1 + ab_cat t = 1 + mj_wd t'; rw [ih]
    · obtain ⟨z, rfl⟩ := h1; show 2 + ab_cat t = 2 + mj_wd t'; rw [ih]
    · obtain ⟨-, rfl⟩ := h1; show 1 + ab_cat t = 1 + mj_wd t'; rw [ih]
theorem ab_rep_s {w : ab_wd} : ∀ n : Nat, ab_RL w (List.replicate n none) (List.replicate n none)
  | 0 => rfl
  | n + 1 => ⟨none, _, rfl, ab_rep_s n⟩
theorem ab_en_s {w : ab_wd} : ∀ {st : List ab_V} {st' : List mj_V} (n : Nat), ab_RS w st st' → ab_RL w (ab_en st n) (mj_en st' n)
  | [], _, n, h => by
    have e : _ = [] := h
    rw [e]; exact ab_rep_s n
  | x :: t, _, n, h => by
    obtain ⟨v, t', rfl, h1, h2⟩ := h
    rcases x with x | x | x
    · obtain ⟨z, rfl, hz⟩ := h1; exact ⟨_, _, rfl, ⟨z, rfl, hz⟩, ab_en_s (n - 1) h2⟩
    · obtain ⟨z, rfl⟩ := h1; exact ⟨_, _, rfl, ⟨z, rfl⟩, none, _, rfl, ab_en_s (n - 2) h2⟩
    · obtain ⟨hz, rfl⟩ := h1; exact ⟨_, _, rfl, ⟨hz, rfl⟩, ab_en_s (n - 1) h2⟩
theorem ab_RS_RL {w : ab_wd} : ∀ {st : List ab_V} {st' : List mj_V}, ab_RS w st st' → ab_RL w (st.map some) (st'.map some)
  | [], _, h => by
    have e : _ = [] := h
    rw [e]; rfl
  | x :: t, _, h => by
    obtain ⟨v, t', rfl, h1, h2⟩ := h
    exact ⟨v, _, rfl, h1, ab_RS_RL h2⟩
theorem ab_pop_s {w : ab_wd} : ∀ (n : Nat) (acc st : List ab_V) (acc' st' : List mj_V) (k : List ab_V → List ab_V → Bool) (k' : List mj_V → List mj_V → Prop), ab_pop n acc st k = true → ab_RS w acc acc' → ab_RS w st st' → (∀ As t As' t', k As t = true → ab_RS w As As' → ab_RS w t t' → k' As' t') → mj_pop n acc' st' k'
  | 0, acc, st, acc', st', k, k', h, h1, h2, kk => kk _ _ _ _ h h1 h2
  | n + 1, acc, [], acc', st', k, k', h, h1, h2, kk => by cases h
  | n + 1, acc, v :: st, acc', st', k, k', h, h1, h2, kk => by
    obtain ⟨v', t', rfl, g1, g2⟩ := h2
    exact ab_pop_s n (v :: acc) st (v' :: acc') t' k k' h ⟨v', acc', rfl, g1, h1⟩ g2 kk
end
