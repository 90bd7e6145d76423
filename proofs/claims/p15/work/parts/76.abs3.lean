/-! ===== cells: what is known of them, reading, writing ===== -/
/-- the reference's reserved words -/
def ab_rsv (k : Nat) : Int64 := List.getD [Int64.ofNat 1953462126, Int64.ofNat 512736126322, Int64.ofNat 6449508, Int64.ofNat 1852138852, Int64.ofNat 1835625580, Int64.ofNat 108243533981541, Int64.ofNat 439854918756, Int64.ofNat 1836021349, Int64.ofNat 1718186856, Int64.ofNat 8097881601010983781, Int64.ofNat 7103860, Int64.ofNat 7562593, Int64.ofNat 28530, Int64.ofNat 6385252, Int64.ofNat 7237492, Int64.ofNat 495673373285, Int64.ofNat 32765899399459961, Int64.ofNat 1886350948, Int64.ofNat 483006772069, Int64.ofNat 1885432164, Int64.ofNat 6582905, Int64.ofNat 1818588275, Int64.ofNat 444300879214, Int64.ofNat 482854658917] k 0
def ab_Inv (G : mj_G) (M : mj_M) : Prop := (∀ a k, (ab_rg (G a).1 k).1 ≤ M.1 a k ∧ M.1 a k ≤ (ab_rg (G a).1 k).2) ∧ (∀ a k q, ab_rf (G a).1 k = some q → (100 ≤ (G a).1 % 1000 → k < (G a).2) → ab_rt G q (M.2.2 a k)) ∧ (∀ a, (G a).1 % 1000 = 50 → ∃ k, k < 24 ∧ G a = (900050 + 1000 * k, 0)) ∧ (∀ a b, (G a).1 % 1000 = 50 → G a = G b → a = b) ∧ (∀ a k, (G a).1 = 55103 → k < 24 → M.2.1 a k = ab_rsv k)
def ab_cov (W : List (Nat × Nat × Nat)) (t k : Nat) : Prop := ∃ q ∈ W, q.1 = t ∧ q.2.1 ≤ k ∧ k ≤ q.2.2
def ab_frm (W : List (Nat × Nat × Nat)) (G : mj_G) (M0 M : mj_M) : Prop := ∀ a k, ¬ ab_cov W (G a).1 k → M.1 a k = M0.1 a k ∧ M.2.2 a k = M0.2.2 a k
theorem ab_frm.rf {W : List (Nat × Nat × Nat)} {G : mj_G} {M : mj_M} : ab_frm W G M M := fun _ _ _ => ⟨rfl, rfl⟩
theorem ab_frm.tr {W : List (Nat × Nat × Nat)} {G : mj_G} {M M' M'' : mj_M} (h : ab_frm W G M M') (h' : ab_frm W G M' M'') : ab_frm W G M M'' := fun a k hc => ⟨(h' a k hc).1.trans (h a k hc).1, (h' a k hc).2.trans (h a k hc).2⟩
def ab_inr (q : Int × Int) : Prop := -2147483648 ≤ q.1 ∧ q.2 ≤ 2147483647
theorem ab_inc {b : Bool} {x y : Int × Int} (h1 : ab_inr x) (h2 : ab_inr y) : ab_inr (cond b x y) := by cases b <;> assumption
theorem ab_rg_in (t k : Nat) : ab_inr (ab_rg t k) := by
  have hs : ∀ k, ab_inr (ab_s k) := fun k => by
    unfold ab_s
    repeat' first | exact ⟨by decide, by decide⟩ | apply ab_inc
  unfold ab_rg
  refine ab_inc ?_ (ab_inc ?_ ?_)
  · unfold ab_rgp
    repeat' first | exact hs _ | exact ⟨by decide, by decide⟩ | apply ab_inc
  · unfold ab_rga
    repeat' first | exact ⟨by decide, by decide⟩ | apply ab_inc
  · unfold ab_rgo
    repeat' first | exact ⟨by decide, by decide⟩ | apply ab_inc
theorem ab_Inv.mj {G : mj_G} {M : mj_M} (h : ab_Inv G M) (a k : Nat) : mj_in (M.1 a k) := by
  have h1 := h.1 a k
  have h2 := ab_rg_in (G a).1 k
  unfold ab_inr at h2
  exact ⟨by omega, by omega⟩
theorem ab_tg_s {R : ab_R} {r : Nat} {k : Nat → Nat → Bool} {w : ab_wd} {G : mj_G} (h : ab_tg R r k = true) (hR : ab_RR w G R) : ∃ t n, ab_nR R r = some (t, n) ∧ k t n = true ∧ ab_rt G (t, n) (w.2.2.2 r) ∧ r < w.2.2.1 := by
  unfold ab_tg at h
  cases hq : ab_nR R r with
  | none => rw [hq] at h; cases h
  | some q =>
    rw [hq] at h
    exact ⟨q.1, q.2, rfl, h, hR.2 r q hq, by rw [hR.1]; exact ab_nR_lt hq⟩
theorem ab_rt_a {G : mj_G} {t n : Nat} {o : Option Nat} (h : ab_rt G (t, n) o) (h0 : t ≠ 0) (h1 : t ≠ 1) (h5 : t ≠ 50) : ∃ a, o = some a ∧ G a = (t, n) := by
  rcases h with h | h | h | h
  · exact absurd h.1 h0
  · exact absurd h.1 h1
  · exact absurd h.1 h5
  · exact h.2.2.2
theorem ab_ts_s {G : mj_G} {p q : Nat × Nat} {o : Option Nat} (h : ab_ts p q = true) (hq : ab_rt G q o) : ab_rt G p o := by
  have w50 : q.1 % 1000 = 50 → ∃ a, o = some a ∧ (G a).1 % 1000 = 50 := fun e => by
    rcases hq with g | g | g | g
    · rw [g.1] at e; simp at e
    · rw [g.1] at e; simp at e
    · exact g.2
    · obtain ⟨a, g1, g2⟩ := g.2.2.2
      exact ⟨a, g1, by rw [g2]; exact e⟩
  unfold ab_ts at h
  rw [Bool.or_eq_true, Bool.or_eq_true] at h
  rcases h with h | h | h
  · obtain ⟨h1, h2⟩ := sx_nd h
    have e : p = q := Prod.ext (sx_beq h1) (sx_beq h2)
    rw [e]; exact hq
  · obtain ⟨h1, h2⟩ := sx_nd h
    refine Or.inl ⟨sx_beq h1, ?_⟩
    rw [Bool.or_eq_true, Bool.or_eq_true] at h2
    rcases h2 with h2 | h2 | h2
    · rcases hq with g | g | g | g
      · exact g.2
      · exact absurd (sx_beq h2) (by rw [g.1]; decide)
      · exact absurd (sx_beq h2) (by rw [g.1]; decide)
      · exact absurd (sx_beq h2) g.1
    · rcases hq with g | g | g | g
      · exact absurd (sx_beq h2) (by rw [g.1]; decide)
      · exact Or.inl g.2
      · exact absurd (sx_beq h2) (by rw [g.1]; decide)
      · exact absurd (sx_beq h2) g.2.1
    · exact Or.inr (w50 (sx_beq h2))
  · obtain ⟨h1, h2⟩ := sx_nd h
    exact Or.inr (Or.inr (Or.inl ⟨sx_beq h1, w50 (sx_beq h2)⟩))
theorem ab_lk_s {Y : ab_Y} {r : Nat} {x : ab_I} {v : ab_V} {w : ab_wd} {M : mj_M} {z : Int} (hY : ab_RY w Y) (hx : ab_RI w x z) : ∀ (m : ab_m), ab_lk Y r x m = some v → ab_RM w M m → r < w.2.2.1 ∧ ∃ a, w.2.2.2 r = some a ∧ ab_hv w M a z.toNat v
  | [], h, _ => by cases h
  | (r2, x2, v2) :: t, h, hM => by
    unfold ab_lk at h
    cases hc : (Nat.beq r2 r && ab_sm Y x2 x) with
    | false => rw [hc] at h; exact ab_lk_s hY hx t h (fun e he => hM e (List.mem_cons_of_mem _ he))
    | true =>
      rw [hc] at h
      have h : some v2 = some v := h
      cases h
      obtain ⟨h1, h2⟩ := sx_nd hc
      obtain ⟨g0, a, z2, g1, g2, g4, g3⟩ := hM _ List.mem_cons_self
      have e := sx_beq h1
      have e2 := ab_sm_s hY h2 g2 hx
      dsimp only at g0 g1 g3
      rw [e] at g0 g1
      rw [e2] at g3
      exact ⟨g0, a, g1, g3⟩
theorem ab_hln_s {t a : Nat} {b : Int} {k : Int → Int → Bool} : ∀ (n : Nat) (x l h : Int), ab_hln t a b n x l h k = true → ∃ l' h', k l' h' = true ∧ l' ≤ l ∧ h ≤ h' ∧ ∀ u, x ≤ u → u < x + n → l' ≤ (ab_rg t (Int.ofNat a * u + b).toNat).1 ∧ (ab_rg t (Int.ofNat a * u + b).toNat).2 ≤ h'
  | 0, x, l, h, hk => ⟨l, h, hk, Int.le_refl _, Int.le_refl _, fun u h1 h2 => by omega⟩
  | n + 1, x, l, h, hk => by
    unfold ab_hln at hk
    rw [sx_fi_eq, sx_fi_eq, sx_fi_eq] at hk
    obtain ⟨l', h', g1, g2, g3, g4⟩ := ab_hln_s n _ _ _ hk
    have m1 := ab_mn_s l (ab_rg t (Int.ofNat a * x + b).toNat).1
    have m2 := ab_mx_s h (ab_rg t (Int.ofNat a * x + b).toNat).2
    refine ⟨l', h', g1, by omega, by omega, fun u h1 h2 => ?_⟩
    by_cases e : u = x
    · subst e; exact ⟨by omega, by omega⟩
    · exact g4 u (by omega) (by omega)
theorem ab_rg_arr {t : Nat} (h : ab_per t = false) (h2 : Nat.ble 100 (Nat.mod t 1000) = true) (k : Nat) : ab_rg t k = ab_rga t := by
  unfold ab_rg
  rw [h, h2]
  rfl
theorem ab_hl_s {Y : ab_Y} {t : Nat} {x : ab_I} {k : Int → Int → Bool} {w : ab_wd} {z v : Int} (h : ab_hl Y t x k = true) (hY : ab_RY w Y) (hx : ab_RI w x z) (hv : (ab_rg t z.toNat).1 ≤ v ∧ v ≤ (ab_rg t z.toNat).2) : ∃ lo hi, k lo hi = true ∧ lo ≤ v ∧ v ≤ hi := by
  rcases x with p | ⟨i, a, b⟩
  · have e : p = z := hx
    rw [e] at h
    exact ⟨_, _, h, hv.1, hv.2⟩
  · unfold ab_hl at h
    dsimp only at h
    cases hp : ab_per t with
    | true =>
      rw [hp] at h
      dsimp only [cond_true] at h
      cases hq : ab_ny Y i with
      | none => rw [hq] at h; cases h
      | some q =>
        rw [hq] at h
        dsimp only at h
        obtain ⟨-, h⟩ := sx_cd h
        obtain ⟨l', h', g1, -, -, g4⟩ := ab_hln_s _ _ _ _ h
        obtain ⟨b1, b2, -⟩ := hY.2 i q hq
        have g5 := g4 (w.2.1 i) b1 (by omega)
        rw [hx.2] at g5
        exact ⟨l', h', g1, by omega, by omega⟩
    | false =>
      rw [hp] at h
      dsimp only [cond_false] at h
      obtain ⟨h1, h⟩ := sx_cd h
      rw [ab_rg_arr hp h1] at hv
      exact ⟨_, _, h, hv.1, hv.2⟩
theorem ab_nof {t : Nat} (h : (Nat.beq t 0 || (Nat.beq t 1 || Nat.beq (Nat.mod t 1000) 50)) = false) : t ≠ 0 ∧ t ≠ 1 ∧ t ≠ 50 := by
  refine ⟨fun e => ?_, fun e => ?_, fun e => ?_⟩ <;> (rw [e] at h; cases h)
theorem ab_rdi_s {Y : ab_Y} {R : ab_R} {m : ab_m} {r : Nat} {x : ab_I} {k : ab_I → ab_Y → ab_m → Bool} {w : ab_wd} {G : mj_G} {M : mj_M} {z : Int} (h : ab_rdi Y R m r x k = true) (hY : ab_RY w Y) (hR : ab_RR w G R) (hM : ab_RM w M m) (hI : ab_Inv G M) (hx : ab_RI w x z) (h0 : 0 ≤ z) : r < w.2.2.1 ∧ ∃ a, w.2.2.2 r = some a ∧ ∃ w' v Y' m', ab_ey w w' ∧ ab_RY w' Y' ∧ ab_RM w' M m' ∧ ab_RI w' v (M.1 a z.toNat) ∧ k v Y' m' = true := by
  unfold ab_rdi at h
  cases hl : ab_lk Y r x m with
  | some v =>
    rw [hl] at h
    obtain ⟨g0, a, g1, g2⟩ := ab_lk_s hY hx m hl hM
    rcases v with v | v
    · exact ⟨g0, a, g1, w, v, Y, m, ab_ey.rf, hY, hM, g2, h⟩
    · cases h
  | none =>
    rw [hl] at h
    dsimp only at h
    obtain ⟨t, n, e1, h, e2, e3⟩ := ab_tg_s h hR
    cases hc : (Nat.beq t 0 || (Nat.beq t 1 || Nat.beq (Nat.mod t 1000) 50)) with
    | true => rw [hc] at h; cases h
    | false =>
      rw [hc] at h
      dsimp only [cond_false] at h
      obtain ⟨n1, n2, n3⟩ := ab_nof hc
      obtain ⟨a, a1, a2⟩ := ab_rt_a e2 n1 n2 n3
      have hb := hI.1 a z.toNat
      rw [a2] at hb
      obtain ⟨lo, hi, h, l1, l2⟩ := ab_hl_s h hY hx hb
      obtain ⟨w', v, Y', u1, u2, u3, u4⟩ := ab_fr_s h hY l1 l2 (fun r hr => by cases hr)
      refine ⟨e3, a, a1, w', v, Y', _, u1, u2, fun e he => ?_, u3, u4⟩
      rcases List.mem_cons.mp he with rfl | he
      · exact ⟨Nat.lt_of_lt_of_le e3 u1.1.2.2.1, a, z, by show w'.2.2.2 r = some a; rw [u1.1.2.2.2 r e3]; exact a1, hx.up u1.1, h0, u3⟩
      · exact (hM e he).up u1.1
theorem ab_nw_s {w : ab_wd} {G : mj_G} {R : ab_R} {q : Nat × Nat} {o : Option Nat} (hR : ab_RR w G R) (h : ab_rt G q o) : ∃ w', ab_er w w' ∧ ab_RR w' G (R ++ [q]) ∧ R.length < w'.2.2.1 ∧ w'.2.2.2 R.length = o := by
  have hz : (if w.2.2.1 = w.2.2.1 then o else w.2.2.2 w.2.2.1) = o := if_pos rfl
  refine ⟨(w.1, w.2.1, w.2.2.1 + 1, fun i => if i = w.2.2.1 then o else w.2.2.2 i), ⟨⟨Nat.le_refl _, fun _ _ => rfl, Nat.le_succ _, fun i hi => if_neg (Nat.ne_of_lt hi)⟩, rfl, rfl⟩, ⟨?_, fun i r hr => ?_⟩, ?_, ?_⟩
  · rw [List.length_append, ← hR.1]; rfl
  · rcases ab_nR_app R q i r hr with ⟨e1, e2⟩ | e1
    · rw [← hR.1] at e1
      subst e1
      subst e2
      show ab_rt G r (if w.2.2.1 = w.2.2.1 then o else w.2.2.2 w.2.2.1)
      rw [hz]; exact h
    · show ab_rt G r (if i = w.2.2.1 then o else w.2.2.2 i)
      rw [if_neg (by have := ab_nR_lt e1; rw [← hR.1] at this; omega)]
      exact hR.2 i r e1
  · show R.length < w.2.2.1 + 1
    rw [hR.1]; exact Nat.lt_succ_self _
  · show (if R.length = w.2.2.1 then o else w.2.2.2 R.length) = o
    rw [if_pos hR.1.symm]
theorem ab_rf_arr {t : Nat} (h : 100 ≤ t % 1000) (k : Nat) : ab_rf t k = ab_rfa t := by
  unfold ab_rf
  rw [show Nat.ble 100 (Nat.mod t 1000) = true from Nat.ble_eq.mpr h]
  rfl
theorem ab_rdr_s {Y : ab_Y} {R : ab_R} {m : ab_m} {r : Nat} {x : ab_I} {k : Nat → ab_R → ab_m → Bool} {w : ab_wd} {G : mj_G} {M : mj_M} {z : Int} (h : ab_rdr Y R m r x k = true) (hY : ab_RY w Y) (hR : ab_RR w G R) (hM : ab_RM w M m) (hI : ab_Inv G M) (hx : ab_RI w x z) (h0 : 0 ≤ z) : r < w.2.2.1 ∧ ∃ a, w.2.2.2 r = some a ∧ ∃ w' u R' m', ab_er w w' ∧ ab_RR w' G R' ∧ ab_RM w' M m' ∧ u < w'.2.2.1 ∧ M.2.2 a z.toNat = w'.2.2.2 u ∧ k u R' m' = true := by
  unfold ab_rdr at h
  cases hl : ab_lk Y r x m with
  | some v =>
    rw [hl] at h
    obtain ⟨g0, a, g1, g2⟩ := ab_lk_s hY hx m hl hM
    rcases v with v | v | u
    · cases h
    · cases h
    · exact ⟨g0, a, g1, w, u, R, m, ab_er.rf, hR, hM, g2.1, g2.2, h⟩
  | none =>
    rw [hl] at h
    dsimp only at h
    obtain ⟨t, n, e1, h, e2, e3⟩ := ab_tg_s h hR
    cases hc : (Nat.beq t 0 || (Nat.beq t 1 || Nat.beq (Nat.mod t 1000) 50)) with
    | true => rw [hc] at h; cases h
    | false =>
      rw [hc] at h
      dsimp only [cond_false] at h
      obtain ⟨n1, n2, n3⟩ := ab_nof hc
      obtain ⟨a, a1, a2⟩ := ab_rt_a e2 n1 n2 n3
      obtain ⟨lo, hi, h, l1, l2⟩ := ab_iv_s h hY hx
      obtain ⟨hk, h⟩ := sx_cd h
      cases hf : ab_rf t lo.toNat with
      | none => rw [hf] at h; cases h
      | some q =>
        rw [hf] at h
        dsimp only at h
        have hq : ab_rf (G a).1 z.toNat = some q ∧ (100 ≤ (G a).1 % 1000 → z.toNat < (G a).2) := by
          rw [a2]
          cases hb : Nat.ble 100 (Nat.mod t 1000) with
          | true =>
            rw [hb] at hk
            have hb : 100 ≤ t % 1000 := sx_ble hb
            obtain ⟨k1, k2⟩ := sx_nd hk
            have k1 : 0 ≤ lo := sx_le_iff.mp k1
            rw [Bool.not_eq_true', Bool.eq_false_iff] at k2
            have k2 : hi < (n : Int) := sx_le_no k2
            rw [ab_rf_arr hb] at hf ⊢
            exact ⟨hf, fun _ => by show z.toNat < n; omega⟩
          | false =>
            rw [hb] at hk
            have k1 := sx_eq_iff.mp hk
            have e : z = lo := by omega
            rw [e]
            refine ⟨hf, fun q => ?_⟩
            have hb := Nat.ble_eq.mpr (show 100 ≤ t % 1000 from q)
            rw [show Nat.ble 100 (t % 1000) = Nat.ble 100 (Nat.mod t 1000) from rfl] at hb
            simp_all
        have hr := hI.2.1 a z.toNat q hq.1 hq.2
        obtain ⟨w', u1, u2, u3, u4⟩ := ab_nw_s hR hr
        refine ⟨e3, a, a1, w', R.length, _, _, u1, u2, fun e he => ?_, u3, u4.symm, h⟩
        rcases List.mem_cons.mp he with rfl | he
        · exact ⟨Nat.lt_of_lt_of_le e3 u1.1.2.2.1, a, z, by show w'.2.2.2 r = some a; rw [u1.1.2.2.2 r e3]; exact a1, hx.up u1.1, h0, u3, u4.symm⟩
        · exact (hM e he).up u1.1
