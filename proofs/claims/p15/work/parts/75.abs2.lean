/-! ===== new signs, arithmetic, comparisons ===== -/
theorem ab_q1.up {w w' : ab_wd} {i : Nat} {q : ab_S} (u : ab_up w w') (hi : i < w.1) (h : ab_q1 w i q) : ab_q1 w' i q := by
  obtain ⟨h1, h2, h3⟩ := h
  unfold ab_q1
  rw [u.2.1 i hi]
  refine ⟨h1, h2, fun r hr => ?_⟩
  obtain ⟨g1, g2⟩ := h3 r hr
  exact ⟨Nat.lt_of_lt_of_le g1 u.1, by rw [u.2.1 _ g1]; exact g2⟩
def ab_ok3 (w : ab_wd) (k : ab_I → ab_Y → Bool) (z : Int) : Prop := ∃ w' v Y', ab_ey w w' ∧ ab_RY w' Y' ∧ ab_RI w' v z ∧ k v Y' = true
theorem ab_fr_s {Y : ab_Y} {lo hi z : Int} {rel : List (Nat × Int)} {k : ab_I → ab_Y → Bool} {w : ab_wd} (h : ab_fr Y lo hi rel k = true) (hY : ab_RY w Y) (h1 : lo ≤ z) (h2 : z ≤ hi) (hr : ∀ r ∈ rel, r.1 < w.1 ∧ w.2.1 r.1 + r.2 ≤ z) : ab_ok3 w k z := by
  unfold ab_fr at h
  rw [sx_fi_eq, sx_fi_eq] at h
  cases he : sx_eq lo hi with
  | true =>
    rw [he] at h
    have := sx_eq_iff.mp he
    exact ⟨w, .inl lo, Y, ab_ey.rf, hY, (by show lo = z; omega), h⟩
  | false =>
    rw [he] at h
    have u : ab_up w (w.1 + 1, fun i => if i = w.1 then z else w.2.1 i, w.2.2) := ⟨Nat.le_succ _, fun i hi => if_neg (Nat.ne_of_lt hi), Nat.le_refl _, fun _ _ => rfl⟩
    have hz : (if w.1 = w.1 then z else w.2.1 w.1) = z := if_pos rfl
    refine ⟨(w.1 + 1, fun i => if i = w.1 then z else w.2.1 i, w.2.2), .inr (Y.length, 1, .ofNat 0), Y ++ [(lo, hi, rel)], ⟨u, rfl⟩, ⟨?_, fun i r hni => ?_⟩, ⟨?_, ?_⟩, h⟩
    · rw [List.length_append, ← hY.1]; rfl
    · rcases ab_ny_app Y _ i r hni with ⟨e1, e2⟩ | e1
      · rw [← hY.1] at e1
        subst e1
        subst e2
        refine ⟨?_, ?_, fun r hr1 => ?_⟩
        · show lo ≤ (if w.1 = w.1 then z else w.2.1 w.1); rw [hz]; exact h1
        · show (if w.1 = w.1 then z else w.2.1 w.1) ≤ hi; rw [hz]; exact h2
        · obtain ⟨g1, g2⟩ := hr r hr1
          refine ⟨Nat.lt_succ_of_lt g1, ?_⟩
          show (if r.1 = w.1 then z else w.2.1 r.1) + r.2 ≤ (if w.1 = w.1 then z else w.2.1 w.1)
          rw [hz, if_neg (Nat.ne_of_lt g1)]; exact g2
      · exact (hY.2 i r e1).up u (by rw [hY.1]; exact ab_ny_lt e1)
    · show Y.length < w.1 + 1
      rw [hY.1]; exact Nat.lt_succ_self _
    · show Int.ofNat 1 * (if Y.length = w.1 then z else w.2.1 Y.length) + Int.ofNat 0 = z
      rw [if_pos hY.1.symm]
      show (1 : Int) * z + 0 = z
      omega
theorem ab_ff_s {Y : ab_Y} {z : Int} {k : ab_I → ab_Y → Bool} {w : ab_wd} (h : ab_ff Y k = true) (hY : ab_RY w Y) (hz : mj_in z) : ab_ok3 w k z :=
  ab_fr_s h hY (show (-2147483648 : Int) ≤ z from hz.1) (show z ≤ (2147483647 : Int) from by have := hz.2; omega) (fun r hr => by cases hr)
theorem ab_c1_s {i a : Nat} {b : Int} {k : ab_I → Bool} (h : ab_c1 i a b k = true) : k (.inr (i, a, b)) = true := by
  unfold ab_c1 at h
  rw [sx_fi_eq, sx_fn_eq] at h
  exact h
theorem ab_rel1_s {w : ab_wd} {x : ab_I} {d zx z : Int} (hx : ab_RI w x zx) (h : zx + d ≤ z) : ∀ r ∈ ab_rel1 x d, r.1 < w.1 ∧ w.2.1 r.1 + r.2 ≤ z := by
  intro r hr
  unfold ab_rel1 at hr
  split at hr
  · rename_i i b
    have e : r = (i, b + d) := by simpa using hr
    subst e
    have h2 : Int.ofNat 1 * w.2.1 i + b = zx := hx.2
    have h3 : Int.ofNat 1 * w.2.1 i = w.2.1 i := Int.one_mul _
    exact ⟨hx.1, by show w.2.1 i + (b + d) ≤ z; omega⟩
  · cases hr
def ab_ok2 (w : ab_wd) (k : ab_I → ab_Y → Bool) (z : Int) : Prop := (mj_in z ∧ ab_ok3 w k z) ∨ ∀ z, mj_in z → ab_ok3 w k z
theorem ab_here {w : ab_wd} {Y : ab_Y} {k : ab_I → ab_Y → Bool} {v : ab_I} {z : Int} (hY : ab_RY w Y) (hv : ab_RI w v z) (h : k v Y = true) : ab_ok3 w k z := ⟨w, v, Y, ab_ey.rf, hY, hv, h⟩
theorem ab_hc {w : ab_wd} {Y : ab_Y} {k : ab_I → ab_Y → Bool} {v z : Int} (hY : ab_RY w Y) (e : v = z) (h : k (.inl v) Y = true) : ab_ok3 w k z := ⟨w, .inl v, Y, ab_ey.rf, hY, e, h⟩
theorem ab_hs {w : ab_wd} {Y : ab_Y} {k : ab_I → ab_Y → Bool} {i a : Nat} {b z : Int} (hY : ab_RY w Y) (hi : i < w.1) (e : Int.ofNat a * w.2.1 i + b = z) (h : k (.inr (i, a, b)) Y = true) : ab_ok3 w k z := ⟨w, .inr (i, a, b), Y, ab_ey.rf, hY, ⟨hi, e⟩, h⟩
theorem ab_add_s {Y : ab_Y} {x y : ab_I} {k : ab_I → ab_Y → Bool} {w : ab_wd} {zx zy : Int} (h : ab_add Y x y k = true) (hY : ab_RY w Y) (hx : ab_RI w x zx) (hy : ab_RI w y zy) : ab_ok2 w k (zx + zy) := by
  unfold ab_add at h
  obtain ⟨a, b, h, ha, hb⟩ := ab_iv_s h hY hx
  obtain ⟨c, d, h, hc, hd⟩ := ab_iv_s h hY hy
  cases hin : sx_in (a + c) (b + d) with
  | false =>
    rw [hin] at h
    exact Or.inr (fun z hz => ab_ff_s h hY hz)
  | true =>
    rw [hin] at h
    dsimp only [cond_true] at h
    refine Or.inl ⟨sx_in_of hin (by omega) (by omega), ?_⟩
    rcases x with p | ⟨i, f, p⟩ <;> rcases y with q | ⟨j, g, q⟩
    · dsimp only at h
      rw [sx_fi_eq] at h
      have e1 : p = zx := hx
      have e2 : q = zy := hy
      exact ab_hc hY (show p + q = zx + zy by omega) h
    · have e1 : p = zx := hx
      exact ab_hs hY hy.1 (by have := hy.2; omega) (ab_c1_s h)
    · have e1 : q = zy := hy
      exact ab_hs hY hx.1 (by have := hx.2; omega) (ab_c1_s h)
    · dsimp only at h
      cases hij : Nat.beq i j with
      | true =>
        rw [hij] at h
        dsimp only [cond_true] at h
        have e := sx_beq hij
        refine ab_hs hY hx.1 ?_ (ab_c1_s h)
        have h1 := hx.2
        have h2 := hy.2
        rw [← e] at h2
        have h3 : Int.ofNat (f + g) * w.2.1 i = Int.ofNat f * w.2.1 i + Int.ofNat g * w.2.1 i := by
          rw [← Int.add_mul]; rfl
        omega
      | false =>
        rw [hij] at h
        dsimp only [cond_false] at h
        refine ab_fr_s h hY (by omega) (by omega) ?_
        cases hf : Nat.beq f 1 with
        | true => exact ab_rel1_s hx (by omega)
        | false => exact ab_rel1_s hy (by omega)
theorem ab_sub_s {Y : ab_Y} {x y : ab_I} {k : ab_I → ab_Y → Bool} {w : ab_wd} {zx zy : Int} (h : ab_sub Y x y k = true) (hY : ab_RY w Y) (hx : ab_RI w x zx) (hy : ab_RI w y zy) : ab_ok2 w k (zx - zy) := by
  unfold ab_sub at h
  obtain ⟨a, b, h, ha, hb⟩ := ab_iv_s h hY hx
  obtain ⟨c, d, h, hc, hd⟩ := ab_iv_s h hY hy
  cases hin : sx_in (a - d) (b - c) with
  | false =>
    rw [hin] at h
    exact Or.inr (fun z hz => ab_ff_s h hY hz)
  | true =>
    rw [hin] at h
    dsimp only [cond_true] at h
    refine Or.inl ⟨sx_in_of hin (by omega) (by omega), ?_⟩
    rcases x with p | ⟨i, f, p⟩ <;> rcases y with q | ⟨j, g, q⟩
    · dsimp only at h
      rw [sx_fi_eq] at h
      have e1 : p = zx := hx
      have e2 : q = zy := hy
      exact ab_hc hY (show p - q = zx - zy by omega) h
    · exact ab_fr_s h hY (by omega) (by omega) (fun r hr => by cases hr)
    · have e1 : q = zy := hy
      exact ab_hs hY hx.1 (by have := hx.2; omega) (ab_c1_s h)
    · dsimp only at h
      cases hij : (Nat.beq i j && Nat.ble g f) with
      | true =>
        rw [hij] at h
        dsimp only [cond_true] at h
        obtain ⟨e, hgf⟩ := sx_nd hij
        have e := sx_beq e
        have hgf := sx_ble hgf
        have h1 := hx.2
        have h2 := hy.2
        rw [← e] at h2
        cases hfg : Nat.beq f g with
        | true =>
          rw [hfg] at h
          dsimp only [cond_true] at h
          rw [sx_fi_eq] at h
          have e2 := sx_beq hfg
          rw [← e2] at h2
          exact ab_hc hY (show p - q = zx - zy by omega) h
        | false =>
          rw [hfg] at h
          dsimp only [cond_false] at h
          refine ab_hs hY hx.1 ?_ (ab_c1_s h)
          have h3 : Int.ofNat (f - g) * w.2.1 i = Int.ofNat f * w.2.1 i - Int.ofNat g * w.2.1 i := by
            rw [← Int.sub_mul]
            congr 1
            simp only [Int.ofNat_eq_natCast]; omega
          omega
      | false =>
        rw [hij] at h
        dsimp only [cond_false] at h
        exact ab_fr_s h hY (by omega) (by omega) (ab_rel1_s hx (by omega))
theorem ab_mb1 {a b x y : Int} (h1 : a ≤ x) (h2 : x ≤ b) : (a * y ≤ x * y ∨ b * y ≤ x * y) ∧ (x * y ≤ a * y ∨ x * y ≤ b * y) := by
  rcases Int.le_total 0 y with hy | hy
  · exact ⟨Or.inl (Int.mul_le_mul_of_nonneg_right h1 hy), Or.inr (Int.mul_le_mul_of_nonneg_right h2 hy)⟩
  · exact ⟨Or.inr (Int.mul_le_mul_of_nonpos_right h2 hy), Or.inl (Int.mul_le_mul_of_nonpos_right h1 hy)⟩
theorem ab_mul_s {Y : ab_Y} {x y : ab_I} {k : ab_I → ab_Y → Bool} {w : ab_wd} {zx zy : Int} (h : ab_mul Y x y k = true) (hY : ab_RY w Y) (hx : ab_RI w x zx) (hy : ab_RI w y zy) : ab_ok2 w k (zx * zy) := by
  unfold ab_mul at h
  obtain ⟨a, b, h, ha, hb⟩ := ab_iv_s h hY hx
  obtain ⟨c, d, h, hc, hd⟩ := ab_iv_s h hY hy
  rw [sx_fi_eq, sx_fi_eq] at h
  have hlo : ab_mn (ab_mn (a * c) (a * d)) (ab_mn (b * c) (b * d)) ≤ zx * zy ∧ zx * zy ≤ ab_mx (ab_mx (a * c) (a * d)) (ab_mx (b * c) (b * d)) := by
    obtain ⟨m1, m2⟩ := ab_mb1 (y := zy) ha hb
    obtain ⟨n1, n2⟩ := ab_mb1 (y := a) hc hd
    obtain ⟨o1, o2⟩ := ab_mb1 (y := b) hc hd
    rw [Int.mul_comm c a, Int.mul_comm d a, Int.mul_comm zy a] at n1 n2
    rw [Int.mul_comm c b, Int.mul_comm d b, Int.mul_comm zy b] at o1 o2
    have p1 := ab_mn_s (a * c) (a * d)
    have p2 := ab_mn_s (b * c) (b * d)
    have p3 := ab_mn_s (ab_mn (a * c) (a * d)) (ab_mn (b * c) (b * d))
    have q1 := ab_mx_s (a * c) (a * d)
    have q2 := ab_mx_s (b * c) (b * d)
    have q3 := ab_mx_s (ab_mx (a * c) (a * d)) (ab_mx (b * c) (b * d))
    omega
  generalize ab_mn (ab_mn (a * c) (a * d)) (ab_mn (b * c) (b * d)) = lo at h hlo
  generalize ab_mx (ab_mx (a * c) (a * d)) (ab_mx (b * c) (b * d)) = hi at h hlo
  cases hin : sx_in lo hi with
  | false =>
    rw [hin] at h
    exact Or.inr (fun z hz => ab_ff_s h hY hz)
  | true =>
    rw [hin] at h
    dsimp only [cond_true] at h
    refine Or.inl ⟨sx_in_of hin hlo.1 hlo.2, ?_⟩
    have fr : ab_fr Y lo hi [] k = true → ab_ok3 w k (zx * zy) := fun h => ab_fr_s h hY hlo.1 hlo.2 (fun r hr => by cases hr)
    rcases x with p | ⟨i, f, p⟩ <;> rcases y with q | ⟨j, g, q⟩
    · dsimp only at h
      rw [sx_fi_eq] at h
      have e1 : p = zx := hx
      have e2 : q = zy := hy
      exact ab_hc hY (show p * q = zx * zy by rw [e1, e2]) h
    · cases p with
      | negSucc p => exact fr h
      | ofNat p =>
        dsimp only at h
        have e1 : Int.ofNat p = zx := hx
        cases hp : Nat.ble 1 p with
        | false => rw [hp] at h; exact fr h
        | true =>
          rw [hp] at h
          dsimp only [cond_true] at h
          refine ab_hs hY hy.1 ?_ (ab_c1_s h)
          have h2 := hy.2
          have h3 : Int.ofNat (g * p) * w.2.1 j = Int.ofNat p * (Int.ofNat g * w.2.1 j) := by
            rw [← Int.mul_assoc, Int.mul_comm (Int.ofNat p)]; rfl
          rw [h3, ← Int.mul_add, h2, e1]
    · cases q with
      | negSucc q => exact fr h
      | ofNat q =>
        dsimp only at h
        have e1 : Int.ofNat q = zy := hy
        cases hq : Nat.ble 1 q with
        | false => rw [hq] at h; exact fr h
        | true =>
          rw [hq] at h
          dsimp only [cond_true] at h
          refine ab_hs hY hx.1 ?_ (ab_c1_s h)
          have h2 := hx.2
          have h3 : Int.ofNat (f * q) * w.2.1 i = Int.ofNat q * (Int.ofNat f * w.2.1 i) := by
            rw [← Int.mul_assoc, Int.mul_comm (Int.ofNat q)]; rfl
          rw [h3, ← Int.mul_add, h2, e1, Int.mul_comm]
    · exact fr h
/-! comparisons -/
theorem ab_may_s {c : ClassFile.Cond} {Y : ab_Y} {x y : ab_I} {w : ab_wd} {zx zy : Int} (hY : ab_RY w Y) (hx : ab_RI w x zx) (hy : ab_RI w y zy) (h : mj_cc c zx zy) : ab_may c Y x y = true := by
  cases c <;> simp only [mj_cc] at h <;> simp only [ab_may] <;> rw [Bool.not_eq_true', Bool.eq_false_iff] <;> intro q
  · rw [Bool.or_eq_true] at q
    rcases q with q | q
    · have : zy + 1 ≤ zx := ab_ge_s hY q hx hy
      omega
    · have : zx + 1 ≤ zy := ab_ge_s hY q hy hx
      omega
  · exact h (ab_sm_s hY q hx hy)
  · have : zy + 0 ≤ zx := ab_ge_s hY q hx hy
    omega
  · have : zx + 1 ≤ zy := ab_ge_s hY q hy hx
    omega
  · have : zx + 0 ≤ zy := ab_ge_s hY q hy hx
    omega
  · have : zy + 1 ≤ zx := ab_ge_s hY q hx hy
    omega
theorem ab_rfn_s {cd : ClassFile.Cond} {lo hi b c d v q : Int} {k : Int → Int → Bool} (h : ab_rfn cd lo hi b c d k = true) (hc : mj_cc cd (v + b) q) (h1 : lo ≤ v) (h2 : v ≤ hi) (h3 : c ≤ q) (h4 : q ≤ d) : ∃ l h', l ≤ v ∧ v ≤ h' ∧ k l h' = true := by
  cases cd <;> simp only [mj_cc] at hc <;> simp only [ab_rfn] at h
  · rw [sx_fi_eq, sx_fi_eq] at h
    refine ⟨_, _, ?_, ?_, h⟩
    · rcases ab_mx_or lo (c - b) with e | e <;> rw [e] <;> omega
    · rcases ab_mn_or hi (d - b) with e | e <;> rw [e] <;> omega
  · cases e : sx_eq c d with
    | false => rw [e] at h; exact ⟨_, _, h1, h2, h⟩
    | true =>
      rw [e] at h
      dsimp only [cond_true] at h
      rw [sx_fi_eq, sx_fi_eq] at h
      have e := sx_eq_iff.mp e
      refine ⟨_, _, ?_, ?_, h⟩
      · cases e2 : sx_eq lo (c - b) with
        | true => have := sx_eq_iff.mp e2; simp only [cond_true]; omega
        | false => simp only [cond_false]; omega
      · cases e2 : sx_eq hi (c - b) with
        | true => have := sx_eq_iff.mp e2; simp only [cond_true]; omega
        | false => simp only [cond_false]; omega
  · rw [sx_fi_eq] at h
    refine ⟨_, _, h1, ?_, h⟩
    rcases ab_mn_or hi (d - 1 - b) with e | e <;> rw [e] <;> omega
  · rw [sx_fi_eq] at h
    refine ⟨_, _, ?_, h2, h⟩
    rcases ab_mx_or lo (c - b) with e | e <;> rw [e] <;> omega
  · rw [sx_fi_eq] at h
    refine ⟨_, _, ?_, h2, h⟩
    rcases ab_mx_or lo (c + 1 - b) with e | e <;> rw [e] <;> omega
  · rw [sx_fi_eq] at h
    refine ⟨_, _, h1, ?_, h⟩
    rcases ab_mn_or hi (d - b) with e | e <;> rw [e] <;> omega
theorem ab_rf1_s {cd : ClassFile.Cond} {Y : ab_Y} {x : ab_I} {c d z q : Int} {k : ab_Y → Bool} {w : ab_wd} (h : ab_rf1 cd Y x c d k = true) (hY : ab_RY w Y) (hx : ab_RI w x z) (hc : mj_cc cd z q) (h3 : c ≤ q) (h4 : q ≤ d) : ∃ Y', ab_RY w Y' ∧ k Y' = true := by
  rcases x with p | ⟨i, a, b⟩
  · exact ⟨Y, hY, h⟩
  · unfold ab_rf1 at h
    dsimp only at h
    cases ha : Nat.beq a 1 with
    | false => rw [ha] at h; exact ⟨Y, hY, h⟩
    | true =>
      rw [ha] at h
      dsimp only [cond_true] at h
      cases hq : ab_ny Y i with
      | none => rw [hq] at h; exact ⟨Y, hY, h⟩
      | some r =>
        rw [hq] at h
        dsimp only at h
        obtain ⟨b1, b2, b3⟩ := hY.2 i r hq
        have e : w.2.1 i + b = z := by
          have := hx.2
          rw [sx_beq ha] at this
          have h1 : Int.ofNat 1 * w.2.1 i = w.2.1 i := Int.one_mul _
          omega
        rw [← e] at hc
        obtain ⟨l, h', u1, u2, u3⟩ := ab_rfn_s h hc b1 b2 h3 h4
        have hle := sx_le_iff.mpr (Int.le_trans u1 u2)
        rw [hle] at u3
        exact ⟨Y.set i (l, h', r.2.2), hY.set (q := (l, h', r.2.2)) ⟨u1, u2, b3⟩, u3⟩
theorem ab_sr_s {Y : ab_Y} {i j : Nat} {d : Int} {k : ab_Y → Bool} {w : ab_wd} (h : ab_sr Y i j d k = true) (hY : ab_RY w Y) (hi : i < w.1) (hd : w.2.1 i + d ≤ w.2.1 j) : ∃ Y', ab_RY w Y' ∧ k Y' = true := by
  have two : ab_sr.ab_sr2 Y i j d k = true → ∃ Y', ab_RY w Y' ∧ k Y' = true := fun h => by
    unfold ab_sr.ab_sr2 at h
    cases hq : ab_ny Y j with
    | none => rw [hq] at h; exact ⟨Y, hY, h⟩
    | some q =>
      rw [hq] at h
      dsimp only at h
      rw [sx_fi_eq] at h
      obtain ⟨b1, b2, b3⟩ := hY.2 j q hq
      refine ⟨_, hY.set (q := (q.1, q.2.1, (i, d) :: q.2.2.filter (fun r => !Nat.beq r.1 i))) ⟨b1, b2, fun r hr => ?_⟩, h⟩
      rcases List.mem_cons.mp hr with rfl | hr
      · exact ⟨hi, hd⟩
      · exact b3 r (List.mem_filter.mp hr).1
  unfold ab_sr at h
  cases e : Nat.beq i j with
  | true => rw [e] at h; exact ⟨Y, hY, h⟩
  | false =>
    rw [e] at h
    dsimp only [cond_false] at h
    cases hl : ab_lb Y 12 j i with
    | none => rw [hl] at h; exact two h
    | some z =>
      rw [hl] at h
      dsimp only at h
      cases hz : sx_le d z with
      | true => rw [hz] at h; exact ⟨Y, hY, h⟩
      | false => rw [hz] at h; exact two h
theorem ab_st2_s {cd : ClassFile.Cond} {Y : ab_Y} {x y : ab_I} {zx zy : Int} {k : ab_Y → Bool} {w : ab_wd} (h : ab_st2 cd Y x y k = true) (hY : ab_RY w Y) (hx : ab_RI w x zx) (hy : ab_RI w y zy) (hc : mj_cc cd zx zy) : ∃ Y', ab_RY w Y' ∧ k Y' = true := by
  unfold ab_st2 at h
  split at h
  · rename_i i b j d
    have ex : w.2.1 i + b = zx := by
      have := hx.2
      have h1 : Int.ofNat 1 * w.2.1 i = w.2.1 i := Int.one_mul _
      omega
    have ey : w.2.1 j + d = zy := by
      have := hy.2
      have h1 : Int.ofNat 1 * w.2.1 j = w.2.1 j := Int.one_mul _
      omega
    cases cd <;> simp only [mj_cc] at hc <;> dsimp only at h
    · exact ⟨Y, hY, h⟩
    · exact ⟨Y, hY, h⟩
    · exact ab_sr_s h hY hx.1 (by omega)
    · exact ab_sr_s h hY hy.1 (by omega)
    · exact ab_sr_s h hY hy.1 (by omega)
    · exact ab_sr_s h hY hx.1 (by omega)
  · exact ⟨Y, hY, h⟩
theorem ab_br1_s {cd : ClassFile.Cond} {Y : ab_Y} {x y : ab_I} {a b c d zx zy : Int} {k : ab_Y → Bool} {w : ab_wd} (h : ab_br1 cd Y x y a b c d k = true) (hY : ab_RY w Y) (hx : ab_RI w x zx) (hy : ab_RI w y zy) (hc : mj_cc cd zx zy) (h1 : a ≤ zx) (h2 : zx ≤ b) (h3 : c ≤ zy) (h4 : zy ≤ d) : ∃ Y', ab_RY w Y' ∧ k Y' = true := by
  have h := sx_ct h (ab_may_s hY hx hy hc)
  obtain ⟨Y1, hY1, h⟩ := ab_rf1_s h hY hx hc h3 h4
  obtain ⟨Y2, hY2, h⟩ := ab_rf1_s h hY1 hy (sx_swp_s hc) h1 h2
  exact ab_st2_s h hY2 hx hy hc
theorem ab_br_s {cd : ClassFile.Cond} {Y : ab_Y} {x y : ab_I} {zx zy : Int} {k k' : ab_Y → Bool} {w : ab_wd} {A B : Prop} (h : ab_br cd Y x y k k' = true) (hY : ab_RY w Y) (hx : ab_RI w x zx) (hy : ab_RI w y zy) (kk : ∀ Y', ab_RY w Y' → k Y' = true → A) (kk' : ∀ Y', ab_RY w Y' → k' Y' = true → B) : mj_br (mj_cc cd zx zy) A B := by
  obtain ⟨a, b, h, h1, h2⟩ := ab_iv_s h hY hx
  obtain ⟨c, d, h, h3, h4⟩ := ab_iv_s h hY hy
  obtain ⟨ha, hb⟩ := sx_nd h
  refine ⟨fun q => ?_, fun q => ?_⟩
  · obtain ⟨Y', u1, u2⟩ := ab_br1_s ha hY hx hy q h1 h2 h3 h4
    exact kk Y' u1 u2
  · obtain ⟨Y', u1, u2⟩ := ab_br1_s hb hY hx hy (sx_neg_s q) h1 h2 h3 h4
    exact kk' Y' u1 u2
theorem ab_all_s {k : Int → Bool} {z : Int} : ∀ (n : Nat) (lo : Int), ab_all n lo k = true → lo ≤ z → z < lo + n → k z = true
  | 0, lo, _, h1, h2 => by omega
  | n + 1, lo, h, h1, h2 => by
    unfold ab_all at h
    rw [Bool.and_eq_true, sx_fi_eq] at h
    by_cases e : z = lo
    · rw [e]; exact h.1
    · exact ab_all_s n (lo + 1) h.2 (by omega) (by omega)
theorem ab_spl_s {Y : ab_Y} {x : ab_I} {k : Int → ab_Y → Bool} {w : ab_wd} {z : Int} (h : ab_spl Y x k = true) (hY : ab_RY w Y) (hx : ab_RI w x z) : ∃ Y', ab_RY w Y' ∧ k z Y' = true := by
  rcases x with p | ⟨i, a, b⟩
  · exact ⟨Y, hY, by rw [← (show p = z from hx)]; exact h⟩
  · unfold ab_spl at h
    dsimp only at h
    cases hq : ab_ny Y i with
    | none => rw [hq] at h; cases h
    | some q =>
      rw [hq] at h
      dsimp only at h
      obtain ⟨-, h⟩ := sx_cd h
      obtain ⟨b1, b2, b3⟩ := hY.2 i q hq
      have h := ab_all_s (z := w.2.1 i) _ _ h b1 (by omega)
      rw [sx_fi_eq, hx.2] at h
      exact ⟨_, hY.set (q := (w.2.1 i, w.2.1 i, q.2.2)) ⟨Int.le_refl _, Int.le_refl _, b3⟩, h⟩
