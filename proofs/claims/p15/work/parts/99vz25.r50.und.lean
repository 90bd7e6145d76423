/-! ===== bids that can be undone ===== -/
def lq_hs (U : Nat → Int) : Nat → (Nat → Int) → Prop
  | 0, B => lq_ct B 96 ≤ 40
  | z + 1, B => lq_ct B 96 ≤ 40 ∧ lq_hs U z (rv_up B (12 * U (3 * z) + U (3 * z + 1)).toNat (U (3 * z + 2)))
theorem lq_hs.ct {U B : Nat → Int} : ∀ {z : Nat}, lq_hs U z B → lq_ct B 96 ≤ 40
  | 0, h => h
  | _ + 1, h => h.1
theorem lq_hs.cg {U U' : Nat → Int} : ∀ {z : Nat} {B B' : Nat → Int}, lq_hs U z B → (∀ i, i < 3 * z → U' i = U i) → (∀ i, i < 96 → B' i = B i) → lq_hs U' z B'
  | 0, B, B', h, _, hb => by
    show lq_ct B' 96 ≤ 40
    rw [lq_ct_cg 96 hb]; exact h
  | z + 1, B, B', h, hu, hb => by
    refine ⟨by rw [lq_ct_cg 96 hb]; exact h.1, ?_⟩
    rw [hu (3 * z) (by omega), hu (3 * z + 1) (by omega), hu (3 * z + 2) (by omega)]
    refine lq_hs.cg h.2 (fun i hi => hu i (by omega)) (fun i hi => ?_)
    by_cases e : i = (12 * U (3 * z) + U (3 * z + 1)).toNat
    · rw [e, rv_up_s, rv_up_s]
    · rw [rv_up_n e, rv_up_n e]; exact hb i hi
theorem lq_hs.z {U B : Nat → Int} (h : lq_ct B 96 ≤ 40) : lq_hs U 0 B := by
  unfold lq_hs; exact h
theorem lq_hs.s {U B : Nat → Int} {z : Nat} (h : lq_ct B 96 ≤ 40) (h2 : lq_hs U z (rv_up B (12 * U (3 * z) + U (3 * z + 1)).toNat (U (3 * z + 2)))) : lq_hs U (z + 1) B := ⟨h, h2⟩
theorem lq_hs.t {U B : Nat → Int} {z : Nat} (h : lq_hs U (z + 1) B) : lq_hs U z (rv_up B (12 * U (3 * z) + U (3 * z + 1)).toNat (U (3 * z + 2))) := h.2
theorem lq_hs.sh {U : Nat → Int} {z : Nat} : ∀ {B : Nat → Int}, lq_hs U (z + 1) B → lq_hs (fun i => U (i + 3)) z B := by
  induction z with
  | zero => intro B h; exact lq_hs.z (lq_hs.ct h)
  | succ z ih =>
    intro B h
    refine lq_hs.s (lq_hs.ct h) ?_
    have h2 := ih (lq_hs.t h)
    have e1 : 3 * (z + 1) + 1 = 3 * z + 1 + 3 := by omega
    have e2 : 3 * (z + 1) + 2 = 3 * z + 2 + 3 := by omega
    rw [e1, e2] at h2
    exact h2
def lq_UA (G : mj_G) (w : Nat → Nat) : Prop := G (w 121) = (1009, 0) ∧ G (w 122) = (39100, 8) ∧ G (w 123) = (40100, 8) ∧ G (w 124) = (41100, 8) ∧ G (w 344) = (57100, 24)
def lq_UB (M : mj_M) (w : Nat → Nat) (x m : Nat) : Prop := M.2.2 x 5 = some (w 121) ∧ M.2.2 (w 121) 0 = some (w 122) ∧ M.2.2 (w 121) 1 = some (w 123) ∧ M.2.2 (w 121) 2 = some (w 124) ∧ M.2.2 m 27 = some (w 344)
/-- the reference's undone, z of them -/
def lq_Uz (U H : Nat → Int) (z : Nat) : Prop := z ≤ 8 ∧ lq_hs U z (fun i => H (88 + i)) ∧ (∀ i, i < z → (0 ≤ U (3 * i) ∧ U (3 * i) < H 0) ∧ (0 ≤ U (3 * i + 1) ∧ U (3 * i + 1) < 12) ∧ (0 ≤ U (3 * i + 2) ∧ U (3 * i + 2) ≤ 999))
/-- the class's, alike -/
def lq_Uc (M : mj_M) (w : Nat → Nat) (z : Nat) : Prop := M.1 (w 121) 3 = (z : Int) ∧ ∀ i, i < z → M.1 (w 122) i = M.1 (w 344) (3 * i) ∧ M.1 (w 123) i = M.1 (w 344) (3 * i + 1) ∧ M.1 (w 124) i = M.1 (w 344) (3 * i + 2)
def lq_U (G : mj_G) (M : mj_M) (x m s : Nat) (w : Nat → Nat) : Prop := lq_UA G w ∧ lq_UB M w x m ∧ ∃ z : Nat, M.1 m 28 = (z : Int) ∧ lq_Uz (M.1 (w 344)) (M.1 s) z ∧ lq_Uc M w z
abbrev lq_Uo (W : List (Nat × Nat × Nat)) : Prop := ∀ q ∈ W, q.1 ≠ 39100 ∧ q.1 ≠ 40100 ∧ q.1 ≠ 41100 ∧ q.1 ≠ 57100 ∧ ¬ (q.1 = 1009 ∧ q.2.1 < 3) ∧ ¬ (q.1 = 1011 ∧ q.2.1 ≤ 5 ∧ 5 ≤ q.2.2) ∧ ¬ (q.1 = 1012 ∧ q.2.1 ≤ 27 ∧ 27 ≤ q.2.2)
abbrev lq_Uk (W : List (Nat × Nat × Nat)) : Prop := lq_Uo W ∧ ∀ q ∈ W, ¬ (q.1 = 1009 ∧ q.2.1 ≤ 3) ∧ ¬ (q.1 = 1012 ∧ q.2.1 ≤ 28 ∧ 28 ≤ q.2.2) ∧ ¬ (q.1 = 51100 ∧ q.2.1 < 184)
theorem lq_Uz.cg {U U' H H' : Nat → Int} {z : Nat} (h : lq_Uz U H z) (hu : ∀ i, i < 3 * z → U' i = U i) (h0 : H' 0 = H 0) (hb : ∀ i, i < 96 → H' (88 + i) = H (88 + i)) : lq_Uz U' H' z := by
  obtain ⟨h1, h2, h3⟩ := h
  refine ⟨h1, h2.cg hu hb, fun i hi => ?_⟩
  rw [hu (3 * i) (by omega), hu (3 * i + 1) (by omega), hu (3 * i + 2) (by omega), h0]
  exact h3 i hi
theorem lq_Uz.no {U H : Nat → Int} (h : lq_ct (fun i => H (88 + i)) 96 ≤ 40) : lq_Uz U H 0 := ⟨by decide, h, fun i hi => absurd hi (Nat.not_lt_zero i)⟩
section UG
variable {G : mj_G} {M M' : mj_M} {w : Nat → Nat} {x m s z : Nat} {W : List (Nat × Nat × Nat)}
theorem lq_UB.go (h : lq_UB M w x m) (hA : lq_UA G w) (gx : G x = (1011, 0)) (gm : G m = (1012, 0)) (f : ab_frm W G M M') (c : lq_Uo W) : lq_UB M' w x m := by
  obtain ⟨b1, b2, b3, b4, b5⟩ := h
  have hu : ∀ k, k < 3 → M'.2.2 (w 121) k = M.2.2 (w 121) k := fun k hk => (f _ k (by
    rw [hA.1]; rintro ⟨r, hr, e1, e2, e3⟩; exact (c r hr).2.2.2.2.1 ⟨e1, by omega⟩)).2
  refine ⟨(f _ _ ?_).2.trans b1, (hu 0 (by decide)).trans b2, (hu 1 (by decide)).trans b3, (hu 2 (by decide)).trans b4, (f _ _ ?_).2.trans b5⟩
  · rw [gx]; rintro ⟨r, hr, e1, e2, e3⟩; exact (c r hr).2.2.2.2.2.1 ⟨e1, e2, e3⟩
  · rw [gm]; rintro ⟨r, hr, e1, e2, e3⟩; exact (c r hr).2.2.2.2.2.2 ⟨e1, e2, e3⟩
/-- the arrays are as they were -/
theorem lq_UA.ar (hA : lq_UA G w) (f : ab_frm W G M M') (c : lq_Uo W) : M'.1 (w 122) = M.1 (w 122) ∧ M'.1 (w 123) = M.1 (w 123) ∧ M'.1 (w 124) = M.1 (w 124) ∧ M'.1 (w 344) = M.1 (w 344) := by
  refine ⟨funext fun k => (f _ k ?_).1, funext fun k => (f _ k ?_).1, funext fun k => (f _ k ?_).1, funext fun k => (f _ k ?_).1⟩
  · rw [hA.2.1]; rintro ⟨r, hr, e1, -⟩; exact (c r hr).1 e1
  · rw [hA.2.2.1]; rintro ⟨r, hr, e1, -⟩; exact (c r hr).2.1 e1
  · rw [hA.2.2.2.1]; rintro ⟨r, hr, e1, -⟩; exact (c r hr).2.2.1 e1
  · rw [hA.2.2.2.2]; rintro ⟨r, hr, e1, -⟩; exact (c r hr).2.2.2.1 e1
theorem lq_U.go (h : lq_U G M x m s w) (gx : G x = (1011, 0)) (gm : G m = (1012, 0)) (gs : G s = (51100, 537)) (f : ab_frm W G M M') (c : lq_Uk W) : lq_U G M' x m s w := by
  obtain ⟨hA, hB, z, z1, z2, z3, z4⟩ := h
  obtain ⟨a1, a2, a3, a4⟩ := hA.ar f c.1
  have es : ∀ k, k < 184 → M'.1 s k = M.1 s k := fun k hk => (f _ k (by
    rw [gs]; rintro ⟨r, hr, e1, e2, e3⟩; exact (c.2 r hr).2.2 ⟨e1, by omega⟩)).1
  refine ⟨hA, hB.go hA gx gm f c.1, z, (f _ _ ?_).1.trans z1, z2.cg (fun i _ => by rw [a4]) (es 0 (by decide)) (fun i hi => es _ (by omega)), (f _ _ ?_).1.trans z3, fun i hi => ?_⟩
  · rw [gm]; rintro ⟨r, hr, e1, e2, e3⟩; exact (c.2 r hr).2.1 ⟨e1, e2, e3⟩
  · rw [hA.1]; rintro ⟨r, hr, e1, e2, e3⟩; exact (c.2 r hr).1 ⟨e1, e2⟩
  · rw [a1, a2, a3, a4]; exact z4 i hi
theorem lq_U.mv (h : lq_U G M x m s w) (e1 : M'.1 = M.1) (e2 : M'.2.2 = M.2.2) : lq_U G M' x m s w := by
  unfold lq_U lq_UB lq_Uc; rw [e1, e2]; exact h
end UG
/-! ===== what offer and undo do ===== -/
/-- a bid is set on the class's side -/
def lq_sb (w : Nat → Nat) (p t v : Nat) (n : Int) (M M' : mj_M) : Prop := M'.2 = M.2 ∧ (∀ a, a ≠ w p → a ≠ w (p + 12 + t) → M'.1 a = M.1 a) ∧ (∀ k, k ≠ 5 → M'.1 (w p) k = M.1 (w p) k) ∧ M'.1 (w p) 5 = M.1 (w p) 5 - (if 0 < M.1 (w (p + 12 + t)) v then 1 else 0) + (if 0 < n then 1 else 0) ∧ M'.1 (w (p + 12 + t)) = rv_up (M.1 (w (p + 12 + t))) v n
/-- how many are kept, by how much they move -/
def lq_zs (z z' h : Nat) : Prop := (z < 8 ∧ z' = z ∧ h = 0) ∨ (z = 8 ∧ z' = 7 ∧ h = 1)
/-- one more to be undone, the class's -/
def lq_kp (w : Nat → Nat) (z' h : Nat) (k o b : Int) (M M' : mj_M) : Prop := M'.2 = M.2 ∧ (∀ a, a ≠ w 121 → a ≠ w 122 → a ≠ w 123 → a ≠ w 124 → M'.1 a = M.1 a) ∧ M'.1 (w 121) 3 = ((z' + 1 : Nat) : Int) ∧ (∀ i, i < z' → M'.1 (w 122) i = M.1 (w 122) (i + h) ∧ M'.1 (w 123) i = M.1 (w 123) (i + h) ∧ M'.1 (w 124) i = M.1 (w 124) (i + h)) ∧ M'.1 (w 122) z' = k ∧ M'.1 (w 123) z' = o ∧ M'.1 (w 124) z' = b
/-- an offer of the reference -/
def lq_ro (w : Nat → Nat) (m s z' h j : Nat) (k o n : Int) (M M' : mj_M) : Prop := M'.2 = M.2 ∧ (∀ a, a ≠ m → a ≠ w 344 → a ≠ s → M'.1 a = M.1 a) ∧ M'.1 m 28 = ((z' + 1 : Nat) : Int) ∧ (∀ i, i < 3 * z' → M'.1 (w 344) i = M.1 (w 344) (i + 3 * h)) ∧ M'.1 (w 344) (3 * z') = k ∧ M'.1 (w 344) (3 * z' + 1) = o ∧ M'.1 (w 344) (3 * z' + 2) = M.1 s j ∧ M'.1 s = rv_up (M.1 s) j n
def lq_ok (H : Nat → Int) (k o n : Int) : Prop := (0 ≤ k ∧ k < H 0) ∧ (0 ≤ o ∧ o ≤ 11) ∧ (0 ≤ n ∧ n ≤ 999) ∧ ¬ (H (12 * k + o + 88).toNat = 0 ∧ 0 < n ∧ 40 ≤ lq_ct (fun i => H (88 + i)) 96)
/-- the reference's bids with one of them set -/
theorem lq_ct_s {H : Nat → Int} {j : Nat} {n : Int} (h1 : 88 ≤ j) (h2 : j < 184) : lq_ct (fun i => rv_up H j n (88 + i)) 96 = lq_ct (fun i => H (88 + i)) 96 - (if 0 < H j then 1 else 0) + (if 0 < n then 1 else 0) := by
  have k := lq_ct_up (f := fun i => H (88 + i)) (g := fun i => rv_up H j n (88 + i)) (j := j - 88) (fun i hi => rv_up_n (by omega)) 96 (by omega)
  have e : 88 + (j - 88) = j := by omega
  simp only [e, rv_up_s] at k
  exact k
/-- what a PLAIN's bids are within -/
def rv_r6 (H : Nat → Int) (o : Nat) : Prop := rv_r4 H o ∧ (∀ t v, t < 8 → v < 12 → 0 ≤ H (o + (88 + 12 * t + v)) ∧ H (o + (88 + 12 * t + v)) ≤ 999 ∧ ((t : Int) < H o ∨ H (o + (88 + 12 * t + v)) = 0)) ∧ lq_ct (fun i => H (o + (88 + i))) 96 ≤ 40
theorem rv_r6.cg {H H' : Nat → Int} {o o' : Nat} (h : rv_r6 H o) (e : ∀ k, k < 184 → H' (o' + k) = H (o + k)) : rv_r6 H' o' := by
  obtain ⟨h1, h2, h3⟩ := h
  have e0 : H' o' = H o := e 0 (by decide)
  refine ⟨h1.cg (fun k hk => e k (by omega)), fun t v ht hv => ?_, ?_⟩
  · rw [e0, e _ (by omega)]; exact h2 t v ht hv
  · rw [lq_ct_cg (g := fun i => H (o + (88 + i))) 96 (fun i hi => e _ (by omega))]; exact h3
theorem rv_r6.of {H PL WA : Nat → Int} {TO BI : Nat → Nat → Int} (h : rv_H H PL WA TO BI) (r : rv_ps PL WA TO BI) : rv_r6 H 0 := by
  refine ⟨rv_r4.of h r, fun t v ht hv => ?_, ?_⟩
  · rw [Nat.zero_add, (h.2.2.2.2.2.2 t v ht hv).1, h.1]; exact r.2.2.2.2.2.2.2.1 t v ht hv
  · have a := r.2.1.2
    rw [r.2.2.2.2.2.2.2.2] at a
    unfold rv_ct at a
    rw [lq_ct_cg (g := fun i => BI (i / 12) (i % 12)) 96 (fun i hi => by
      have := (h.2.2.2.2.2.2 (i / 12) (i % 12) (by omega) (by omega)).1
      rw [show 88 + 12 * (i / 12) + i % 12 = 0 + (88 + i) by omega] at this
      exact this)]
    exact a
theorem rv_r6.set {H : Nat → Int} {j : Nat} {n : Int} (h : rv_r6 H 0) (h1 : 88 ≤ j) (h2 : j < 184) (hn : 0 ≤ n ∧ n ≤ 999) (ht : (((j - 88) / 12 : Nat) : Int) < H 0) (hc : lq_ct (fun i => rv_up H j n (88 + i)) 96 ≤ 40) : rv_r6 (rv_up H j n) 0 := by
  obtain ⟨a1, a2, a3⟩ := h
  have n0 : rv_up H j n 0 = H 0 := rv_up_n (by omega)
  refine ⟨a1.cg (fun k hk => rv_up_n (by omega)), fun t v ht2 hv => ?_, ?_⟩
  · rw [n0]
    by_cases e : 0 + (88 + 12 * t + v) = j
    · rw [e, rv_up_s]; exact ⟨hn.1, hn.2, Or.inl (by omega)⟩
    · rw [rv_up_n e]; exact a2 t v ht2 hv
  · rw [lq_ct_cg (g := fun i => rv_up H j n (88 + i)) 96 (fun i hi => by rw [Nat.zero_add])]; exact hc
