section
/-! ===== bids that can be undone ===== -/
def lq_hs (U : Nat → Int) : Nat → (Nat → Int) → Prop
  | 0, B => lq_ct B 96 ≤ 40
  | z + 1, B => lq_ct B 96 ≤ 40 ∧ lq_hs U z (rv_up B (12 * U (3 * z) + U (3 * z + 1)).toNat (U (3 * z + 2)))
theorem lq_hs.ct {U B : Nat → Int} : ∀ {z : Nat}, lq_hs U z B → lq_ct B 96 ≤ 40
  | 0, h => h
  | _ + 1, h => h.1
theorem lq_hs.cg {U U' : Nat → Int} : ∀ {z : Nat} {B B' : Nat → Int}, lq_hs U z B → (∀ i, i < 3 * z → U' i = U i) → (∀ i, i < 96 → B' i = B i) → lq_hs U' z B'
  | 0, B, B', h, _, hb => by
    show lq_ct B' 96 ≤ 40
    rw [lq_ct_cg 96 hb]; exact h
  | z + 1, B, B', h, hu, hb => by
    refine ⟨by rw [lq_ct_cg 96 hb]; exact h.1, ?_⟩
    rw [hu (3 * z) (by omega), hu (3 * z + 1) (by omega), hu (3 * z + 2) (by omega)]
    refine lq_hs.cg h.2 (fun i hi => hu i (by omega)) (fun i hi => ?_)
    by_cases e : i = (12 * U (3 * z) + U (3 * z + 1)).toNat
    · rw [e, rv_up_s, rv_up_s]
    · rw [rv_up_n e, rv_up_n e]; exact hb i hi
theorem lq_hs.z {U B : Nat → Int} (h : lq_ct B 96 ≤ 40) : lq_hs U 0 B := by
  unfold lq_hs; exact h
theorem lq_hs.s {U B : Nat → Int} {z : Nat} (h : lq_ct B 96 ≤ 40) (h2 : lq_hs U z (rv_up B (12 * U (3 * z) + U (3 * z + 1)).toNat (U (3 * z + 2)))) : lq_hs U (z + 1) B := ⟨h, h2⟩
theorem lq_hs.t {U B : Nat → Int} {z : Nat} (h : lq_hs U (z + 1) B) : lq_hs U z (rv_up B (12 * U (3 * z) + U (3 * z + 1)).toNat (U (3 * z + 2))) := h.2
theorem lq_hs.sh {U : Nat → Int} {z : Nat} : ∀ {B : Nat → Int}, lq_hs U (z + 1) B → lq_hs (fun i => U (i + 3)) z B := by
  induction z with
  | zero => intro B h; exact lq_hs.z (lq_hs.ct h)
  | succ z ih =>
    intro B h
    refine lq_hs.s (lq_hs.ct h) ?_
    have h2 := ih (lq_hs.t h)
    have e1 : 3 * (z + 1) + 1 = 3 * z + 1 + 3 := by omega
    have e2 : 3 * (z + 1) + 2 = 3 * z + 2 + 3 := by omega
    rw [e1, e2] at h2
    exact h2
def lq_UA (G : mj_G) (w : Nat → Nat) : Prop := G (w 121) = (1009, 0) ∧ G (w 122) = (39100, 8) ∧ G (w 123) = (40100, 8) ∧ G (w 124) = (41100, 8) ∧ G (w 344) = (57100, 24)
def lq_UB (M : mj_M) (w : Nat → Nat) (x m : Nat) : Prop := M.2.2 x 5 = some (w 121) ∧ M.2.2 (w 121) 0 = some (w 122) ∧ M.2.2 (w 121) 1 = some (w 123) ∧ M.2.2 (w 121) 2 = some (w 124) ∧ M.2.2 m 27 = some (w 344)
/-- the reference's undone, z of them -/
def lq_Uz (U H : Nat → Int) (z : Nat) : Prop := z ≤ 8 ∧ lq_hs U z (fun i => H (88 + i)) ∧ (∀ i, i < z → (0 ≤ U (3 * i) ∧ U (3 * i) < H 0) ∧ (0 ≤ U (3 * i + 1) ∧ U (3 * i + 1) < 12) ∧ (0 ≤ U (3 * i + 2) ∧ U (3 * i + 2) ≤ 999))
/-- the class's, alike -/
def lq_Uc (M : mj_M) (w : Nat → Nat) (z : Nat) : Prop := M.1 (w 121) 3 = (z : Int) ∧ ∀ i, i < z → M.1 (w 122) i = M.1 (w 344) (3 * i) ∧ M.1 (w 123) i = M.1 (w 344) (3 * i + 1) ∧ M.1 (w 124) i = M.1 (w 344) (3 * i + 2)
def lq_U (G : mj_G) (M : mj_M) (x m s : Nat) (w : Nat → Nat) : Prop := lq_UA G w ∧ lq_UB M w x m ∧ ∃ z : Nat, M.1 m 28 = (z : Int) ∧ lq_Uz (M.1 (w 344)) (M.1 s) z ∧ lq_Uc M w z
abbrev lq_Uo (W : List (Nat × Nat × Nat)) : Prop := ∀ q ∈ W, q.1 ≠ 39100 ∧ q.1 ≠ 40100 ∧ q.1 ≠ 41100 ∧ q.1 ≠ 57100 ∧ ¬ (q.1 = 1009 ∧ q.2.1 < 3) ∧ ¬ (q.1 = 1011 ∧ q.2.1 ≤ 5 ∧ 5 ≤ q.2.2) ∧ ¬ (q.1 = 1012 ∧ q.2.1 ≤ 27 ∧ 27 ≤ q.2.2)
abbrev lq_Uk (W : List (Nat × Nat × Nat)) : Prop := lq_Uo W ∧ ∀ q ∈ W, ¬ (q.1 = 1009 ∧ q.2.1 ≤ 3) ∧ ¬ (q.1 = 1012 ∧ q.2.1 ≤ 28 ∧ 28 ≤ q.2.2) ∧ ¬ (q.1 = 51100 ∧ q.2.1 < 184)
theorem lq_Uz.cg {U U' H H' : Nat → Int} {z : Nat} (h : lq_Uz U H z) (hu : ∀ i, i < 3 * z → U' i = U i) (h0 : H' 0 = H 0) (hb : ∀ i, i < 96 → H' (88 + i) = H (88 + i)) : lq_Uz U' H' z := by
  obtain ⟨h1, h2, h3⟩ := h
  refine ⟨h1, h2.cg hu hb, fun i hi => ?_⟩
  rw [hu (3 * i) (by omega), hu (3 * i + 1) (by omega), hu (3 * i + 2) (by omega), h0]
  exact h3 i hi
theorem lq_Uz.no {U H : Nat → Int} (h : lq_ct (fun i => H (88 + i)) 96 ≤ 40) : lq_Uz U H 0 := ⟨by decide, h, fun i hi => absurd hi (Nat.not_lt_zero i)⟩
section UG
variable {G : mj_G} {M M' : mj_M} {w : Nat → Nat} {x m s z : Nat} {W : List (Nat × Nat × Nat)}
theorem lq_UB.go (h : lq_UB M w x m) (hA : lq_UA G w) (gx : G x = (1011, 0)) (gm : G m = (1012, 0)) (f : ab_frm W G M M') (c : lq_Uo W) : lq_UB M' w x m := by
  obtain ⟨b1, b2, b3, b4, b5⟩ := h
  have hu : ∀ k, k < 3 → M'.2.2 (w 121) k = M.2.2 (w 121) k := fun k hk => (f _ k (by
    rw [hA.1]; rintro ⟨r, hr, e1, e2, e3⟩; exact (c r hr).2.2.2.2.1 ⟨e1, by omega⟩)).2
  refine ⟨(f _ _ ?_).2.trans b1, (hu 0 (by decide)).trans b2, (hu 1 (by decide)).trans b3, (hu 2 (by decide)).trans b4, (f _ _ ?_).2.trans b5⟩
  · rw [gx]; rintro ⟨r, hr, e1, e2, e3⟩; exact (c r hr).2.2.2.2.2.1 ⟨e1, e2, e3⟩
  · rw [gm]; rintro ⟨r, hr, e1, e2, e3⟩; exact (c r hr).2.2.2.2.2.2 ⟨e1, e2, e3⟩
/-- the arrays are as they were -/
theorem lq_UA.ar (hA : lq_UA G w) (f : ab_frm W G M M') (c : lq_Uo W) : M'.1 (w 122) = M.1 (w 122) ∧ M'.1 (w 123) = M.1 (w 123) ∧ M'.1 (w 124) = M.1 (w 124) ∧ M'.1 (w 344) = M.1 (w 344) := by
  refine ⟨funext fun k => (f _ k ?_).1, funext fun k => (f _ k ?_).1, funext fun k => (f _ k ?_).1, funext fun k => (f _ k ?_).1⟩
  · rw [hA.2.1]; rintro ⟨r, hr, e1, -⟩; exact (c r hr).1 e1
  · rw [hA.2.2.1]; rintro ⟨r, hr, e1, -⟩; exact (c r hr).2.1 e1
  · rw [hA.2.2.2.1]; rintro ⟨r, hr, e1, -⟩; exact (c r hr).2.2.1 e1
  · rw [hA.2.2.2.2]; rintro ⟨r, hr, e1, -⟩; exact (c r hr).2.2.2.1 e1
theorem lq_U.go (h : lq_U G M x m s w) (gx : G x = (1011, 0)) (gm : G m = (1012, 0)) (gs : G s = (51100, 537)) (f : ab_frm W G M M') (c : lq_Uk W) : lq_U G M' x m s w := by
  obtain ⟨hA, hB, z, z1, z2, z3, z4⟩ := h
  obtain ⟨a1, a2, a3, a4⟩ := hA.ar f c.1
  have es : ∀ k, k < 184 → M'.1 s k = M.1 s k := fun k hk => (f _ k (by
    rw [gs]; rintro ⟨r, hr, e1, e2, e3⟩; exact (c.2 r hr).2.2 ⟨e1, by omega⟩)).1
  refine ⟨hA, hB.go hA gx gm f c.1, z, (f _ _ ?_).1.trans z1, z2.cg (fun i _ => by rw [a4]) (es 0 (by decide)) (fun i hi => es _ (by omega)), (f _ _ ?_).1.trans z3, fun i hi => ?_⟩
  · rw [gm]; rintro ⟨r, hr, e1, e2, e3⟩; exact (c.2 r hr).2.1 ⟨e1, e2, e3⟩
  · rw [hA.1]; rintro ⟨r, hr, e1, e2, e3⟩; exact (c.2 r hr).1 ⟨e1, e2⟩
  · rw [a1, a2, a3, a4]; exact z4 i hi
theorem lq_U.mv (h : lq_U G M x m s w) (e1 : M'.1 = M.1) (e2 : M'.2.2 = M.2.2) : lq_U G M' x m s w := by
  unfold lq_U lq_UB lq_Uc; rw [e1, e2]; exact h
end UG
/-! ===== what offer and undo do ===== -/
/-- a bid is set on the class's side -/
def lq_sb (w : Nat → Nat) (p t v : Nat) (n : Int) (M M' : mj_M) : Prop := M'.2 = M.2 ∧ (∀ a, a ≠ w p → a ≠ w (p + 12 + t) → M'.1 a = M.1 a) ∧ (∀ k, k ≠ 5 → M'.1 (w p) k = M.1 (w p) k) ∧ M'.1 (w p) 5 = M.1 (w p) 5 - (if 0 < M.1 (w (p + 12 + t)) v then 1 else 0) + (if 0 < n then 1 else 0) ∧ M'.1 (w (p + 12 + t)) = rv_up (M.1 (w (p + 12 + t))) v n
/-- how many are kept, by how much they move -/
def lq_zs (z z' h : Nat) : Prop := (z < 8 ∧ z' = z ∧ h = 0) ∨ (z = 8 ∧ z' = 7 ∧ h = 1)
/-- one more to be undone, the class's -/
def lq_kp (w : Nat → Nat) (z' h : Nat) (k o b : Int) (M M' : mj_M) : Prop := M'.2 = M.2 ∧ (∀ a, a ≠ w 121 → a ≠ w 122 → a ≠ w 123 → a ≠ w 124 → M'.1 a = M.1 a) ∧ M'.1 (w 121) 3 = ((z' + 1 : Nat) : Int) ∧ (∀ i, i < z' → M'.1 (w 122) i = M.1 (w 122) (i + h) ∧ M'.1 (w 123) i = M.1 (w 123) (i + h) ∧ M'.1 (w 124) i = M.1 (w 124) (i + h)) ∧ M'.1 (w 122) z' = k ∧ M'.1 (w 123) z' = o ∧ M'.1 (w 124) z' = b
/-- an offer of the reference -/
def lq_ro (w : Nat → Nat) (m s z' h j : Nat) (k o n : Int) (M M' : mj_M) : Prop := M'.2 = M.2 ∧ (∀ a, a ≠ m → a ≠ w 344 → a ≠ s → M'.1 a = M.1 a) ∧ M'.1 m 28 = ((z' + 1 : Nat) : Int) ∧ (∀ i, i < 3 * z' → M'.1 (w 344) i = M.1 (w 344) (i + 3 * h)) ∧ M'.1 (w 344) (3 * z') = k ∧ M'.1 (w 344) (3 * z' + 1) = o ∧ M'.1 (w 344) (3 * z' + 2) = M.1 s j ∧ M'.1 s = rv_up (M.1 s) j n
def lq_ok (H : Nat → Int) (k o n : Int) : Prop := (0 ≤ k ∧ k < H 0) ∧ (0 ≤ o ∧ o ≤ 11) ∧ (0 ≤ n ∧ n ≤ 999) ∧ ¬ (H (12 * k + o + 88).toNat = 0 ∧ 0 < n ∧ 40 ≤ lq_ct (fun i => H (88 + i)) 96)
/-- the reference's bids with one of them set -/
theorem lq_ct_s {H : Nat → Int} {j : Nat} {n : Int} (h1 : 88 ≤ j) (h2 : j < 184) : lq_ct (fun i => rv_up H j n (88 + i)) 96 = lq_ct (fun i => H (88 + i)) 96 - (if 0 < H j then 1 else 0) + (if 0 < n then 1 else 0) := by
  have k := lq_ct_up (f := fun i => H (88 + i)) (g := fun i => rv_up H j n (88 + i)) (j := j - 88) (fun i hi => rv_up_n (by omega)) 96 (by omega)
  have e : 88 + (j - 88) = j := by omega
  simp only [e, rv_up_s] at k
  exact k
/-- what a PLAIN's bids are within -/
def rv_r6 (H : Nat → Int) (o : Nat) : Prop := rv_r4 H o ∧ (∀ t v, t < 8 → v < 12 → 0 ≤ H (o + (88 + 12 * t + v)) ∧ H (o + (88 + 12 * t + v)) ≤ 999 ∧ ((t : Int) < H o ∨ H (o + (88 + 12 * t + v)) = 0)) ∧ lq_ct (fun i => H (o + (88 + i))) 96 ≤ 40
theorem rv_r6.cg {H H' : Nat → Int} {o o' : Nat} (h : rv_r6 H o) (e : ∀ k, k < 184 → H' (o' + k) = H (o + k)) : rv_r6 H' o' := by
  obtain ⟨h1, h2, h3⟩ := h
  have e0 : H' o' = H o := e 0 (by decide)
  refine ⟨h1.cg (fun k hk => e k (by omega)), fun t v ht hv => ?_, ?_⟩
  · rw [e0, e _ (by omega)]; exact h2 t v ht hv
  · rw [lq_ct_cg (g := fun i => H (o + (88 + i))) 96 (fun i hi => e _ (by omega))]; exact h3
theorem rv_r6.of {H PL WA : Nat → Int} {TO BI : Nat → Nat → Int} (h : rv_H H PL WA TO BI) (r : rv_ps PL WA TO BI) : rv_r6 H 0 := by
  refine ⟨rv_r4.of h r, fun t v ht hv => ?_, ?_⟩
  · rw [Nat.zero_add, (h.2.2.2.2.2.2 t v ht hv).1, h.1]; exact r.2.2.2.2.2.2.2.1 t v ht hv
  · have a := r.2.1.2
    rw [r.2.2.2.2.2.2.2.2] at a
    unfold rv_ct at a
    rw [lq_ct_cg (g := fun i => BI (i / 12) (i % 12)) 96 (fun i hi => by
      have := (h.2.2.2.2.2.2 (i / 12) (i % 12) (by omega) (by omega)).1
      rw [show 88 + 12 * (i / 12) + i % 12 = 0 + (88 + i) by omega] at this
      exact this)]
    exact a
theorem rv_r6.set {H : Nat → Int} {j : Nat} {n : Int} (h : rv_r6 H 0) (h1 : 88 ≤ j) (h2 : j < 184) (hn : 0 ≤ n ∧ n ≤ 999) (ht : (((j - 88) / 12 : Nat) : Int) < H 0) (hc : lq_ct (fun i => rv_up H j n (88 + i)) 96 ≤ 40) : rv_r6 (rv_up H j n) 0 := by
  obtain ⟨a1, a2, a3⟩ := h
  have n0 : rv_up H j n 0 = H 0 := rv_up_n (by omega)
  refine ⟨a1.cg (fun k hk => rv_up_n (by omega)), fun t v ht2 hv => ?_, ?_⟩
  · rw [n0]
    by_cases e : 0 + (88 + 12 * t + v) = j
    · rw [e, rv_up_s]; exact ⟨hn.1, hn.2, Or.inl (by omega)⟩
    · rw [rv_up_n e]; exact a2 t v ht2 hv
  · rw [lq_ct_cg (g := fun i => rv_up H j n (88 + i)) 96 (fun i hi => by rw [Nat.zero_add])]; exact hc
end
section
/-! ===== setBid, keep, offer, undo of the class (laid by a program) ===== -/
theorem r_X3_setBid {G : mj_G} {M : mj_M} {x p q : Nat} {w : Nat → Nat} {Q : mj_P} {d : Nat} (gx : G x = (1011, 0)) (hA : lq_A G w) (hB : lq_B M w x) (hN : lq_N M w p q) {t v n : Int} (t1 : 0 ≤ t) (t2 : t < 8) (v1 : 0 ≤ v) (v2 : v < 12) (c1 : -1000 ≤ M.1 (w p) 5) (c2 : M.1 (w p) 5 ≤ 1000) (h : ∀ M', lq_sb w p t.toNat v.toNat n M M' → Q none G M') : mj_R mj_tab (d + 1) 47 [.inr (.inr (some (w p))), .inl t, .inl v, .inl n] G M Q := by
  obtain ⟨gpl, gna, gta, gba, gwa, gtr, gbr, itr, ibr, p0, p1, p2, p3, rt, rb⟩ := lq_K hA hB hN.pin.1
  have gnw := hA.2.2.1
  have gr := gbr t.toNat (by omega)
  have npr : w p ≠ w (p + 12 + t.toNat) := hn_ne gpl gr (by decide)
  refine ⟨Nat.le_of_ble_eq_true rfl, ?_⟩
  show wz d mt_X3_setBid.2.2.2.2.1 Q mt_X3_setBid.2.2.2.2.1 [some (.inr (.inr (some (w p)))), some (.inl t), some (.inl v), some (.inl n)] [] G M _ _
  refine w_aln rfl ?_
  refine w_gr gpl rfl (by decide) rfl (p2) ?_
  refine w_iln rfl ?_
  refine w_aald gba rfl (by show (0 : Int) ≤ t; omega) (by show t < ((8 : Nat) : Int); omega) (rb _ (by show t.toNat < 8; omega)) ?_
  refine w_iln rfl ?_
  refine w_iald (v := (M.1 (w (p + 12 + t.toNat)) v.toNat)) (gbr _ (by show t.toNat < 8; omega)) rfl (by show (0 : Int) ≤ v; omega) (by show v < ((12 : Nat) : Int); omega) (rfl) ?_
  refine w_ifle (fun c1 => ?_) (fun c1 => ?_)
  · skip
    refine w_iln rfl ?_
    refine w_ifle (fun c2 => ?_) (fun c2 => ?_)
    · skip
      refine w_aln rfl ?_
      refine w_gr gpl rfl (by decide) rfl (p2) ?_
      refine w_iln rfl ?_
      refine w_aald gba rfl (by show (0 : Int) ≤ t; omega) (by show t < ((8 : Nat) : Int); omega) (rb _ (by show t.toNat < 8; omega)) ?_
      refine w_iln rfl ?_
      refine w_iln rfl ?_
      refine w_iast (gbr _ (by show t.toNat < 8; omega)) rfl (by decide) (by show (0 : Int) ≤ v; omega) (by show v < ((12 : Nat) : Int); omega) ?_
      refine w_ret (h _ ⟨rfl, fun a a1 a2 => (wz_c a2).trans (rfl), fun k hk => (hn_n (Or.inl npr)).trans (rfl), ?_, ?_⟩)
      · have e5 : (mj_p0 M (w (p + 12 + t.toNat)) v.toNat n).1 (w p) 5 = (M.1 (w p) 5) := (hn_n (Or.inl npr)).trans (rfl)
        rw [e5]
        (repeat' split) <;> omega
      · funext k
        by_cases e : k = v.toNat
        · subst e; rw [rv_up_s]; exact hn_s
        · rw [rv_up_n e]; exact (hn_n (Or.inr e)).trans (rfl)
    · skip
      refine w_aln rfl ?_
      refine w_dupr ?_
      refine w_gi gpl rfl (by decide) rfl (rfl) ?_
      refine w_ic ?_
      refine w_add ⟨by show (-2147483648 : Int) ≤ (M.1 (w p) 5) + 1; omega, by show (M.1 (w p) 5) + 1 < (2147483648 : Int); omega⟩ ?_
      refine w_pi gpl rfl (by decide) rfl (fun q => by cases q) ?_
      refine w_aln rfl ?_
      refine w_gr gpl rfl (by decide) rfl (p2) ?_
      refine w_iln rfl ?_
      refine w_aald gba rfl (by show (0 : Int) ≤ t; omega) (by show t < ((8 : Nat) : Int); omega) (rb _ (by show t.toNat < 8; omega)) ?_
      refine w_iln rfl ?_
      refine w_iln rfl ?_
      refine w_iast (gbr _ (by show t.toNat < 8; omega)) rfl (by decide) (by show (0 : Int) ≤ v; omega) (by show v < ((12 : Nat) : Int); omega) ?_
      refine w_ret (h _ ⟨rfl, fun a a1 a2 => (wz_c a2).trans ((wz_c a1).trans (rfl)), fun k hk => (hn_n (Or.inl npr)).trans ((hn_n (Or.inr hk)).trans (rfl)), ?_, ?_⟩)
      · have e5 : (mj_p0 (mj_p0 M (w p) 5 ((M.1 (w p) 5) + 1)) (w (p + 12 + t.toNat)) v.toNat n).1 (w p) 5 = (M.1 (w p) 5) + 1 := (hn_n (Or.inl npr)).trans (hn_s)
        rw [e5]
        (repeat' split) <;> omega
      · funext k
        by_cases e : k = v.toNat
        · subst e; rw [rv_up_s]; exact hn_s
        · rw [rv_up_n e]; exact (hn_n (Or.inr e)).trans ((hn_n (Or.inl (Ne.symm npr))).trans (rfl))
  · skip
    refine w_aln rfl ?_
    refine w_dupr ?_
    refine w_gi gpl rfl (by decide) rfl (rfl) ?_
    refine w_ic ?_
    refine w_sub ⟨by show (-2147483648 : Int) ≤ (M.1 (w p) 5) - 1; omega, by show (M.1 (w p) 5) - 1 < (2147483648 : Int); omega⟩ ?_
    refine w_pi gpl rfl (by decide) rfl (fun q => by cases q) ?_
    refine w_iln rfl ?_
    refine w_ifle (fun c3 => ?_) (fun c3 => ?_)
    · skip
      refine w_aln rfl ?_
      refine w_gr gpl rfl (by decide) rfl (p2) ?_
      refine w_iln rfl ?_
      refine w_aald gba rfl (by show (0 : Int) ≤ t; omega) (by show t < ((8 : Nat) : Int); omega) (rb _ (by show t.toNat < 8; omega)) ?_
      refine w_iln rfl ?_
      refine w_iln rfl ?_
      refine w_iast (gbr _ (by show t.toNat < 8; omega)) rfl (by decide) (by show (0 : Int) ≤ v; omega) (by show v < ((12 : Nat) : Int); omega) ?_
      refine w_ret (h _ ⟨rfl, fun a a1 a2 => (wz_c a2).trans ((wz_c a1).trans (rfl)), fun k hk => (hn_n (Or.inl npr)).trans ((hn_n (Or.inr hk)).trans (rfl)), ?_, ?_⟩)
      · have e5 : (mj_p0 (mj_p0 M (w p) 5 ((M.1 (w p) 5) - 1)) (w (p + 12 + t.toNat)) v.toNat n).1 (w p) 5 = (M.1 (w p) 5) - 1 := (hn_n (Or.inl npr)).trans (hn_s)
        rw [e5]
        (repeat' split) <;> omega
      · funext k
        by_cases e : k = v.toNat
        · subst e; rw [rv_up_s]; exact hn_s
        · rw [rv_up_n e]; exact (hn_n (Or.inr e)).trans ((hn_n (Or.inl (Ne.symm npr))).trans (rfl))
    · skip
      refine w_aln rfl ?_
      refine w_dupr ?_
      refine w_gi gpl rfl (by decide) rfl (hn_s) ?_
      refine w_ic ?_
      refine w_add ⟨by show (-2147483648 : Int) ≤ ((M.1 (w p) 5) - 1) + 1; omega, by show ((M.1 (w p) 5) - 1) + 1 < (2147483648 : Int); omega⟩ ?_
      refine w_pi gpl rfl (by decide) rfl (fun q => by cases q) ?_
      refine w_aln rfl ?_
      refine w_gr gpl rfl (by decide) rfl (p2) ?_
      refine w_iln rfl ?_
      refine w_aald gba rfl (by show (0 : Int) ≤ t; omega) (by show t < ((8 : Nat) : Int); omega) (rb _ (by show t.toNat < 8; omega)) ?_
      refine w_iln rfl ?_
      refine w_iln rfl ?_
      refine w_iast (gbr _ (by show t.toNat < 8; omega)) rfl (by decide) (by show (0 : Int) ≤ v; omega) (by show v < ((12 : Nat) : Int); omega) ?_
      refine w_ret (h _ ⟨rfl, fun a a1 a2 => (wz_c a2).trans ((wz_c a1).trans ((wz_c a1).trans (rfl))), fun k hk => (hn_n (Or.inl npr)).trans ((hn_n (Or.inr hk)).trans ((hn_n (Or.inr hk)).trans (rfl))), ?_, ?_⟩)
      · have e5 : (mj_p0 (mj_p0 (mj_p0 M (w p) 5 ((M.1 (w p) 5) - 1)) (w p) 5 (((M.1 (w p) 5) - 1) + 1)) (w (p + 12 + t.toNat)) v.toNat n).1 (w p) 5 = ((M.1 (w p) 5) - 1) + 1 := (hn_n (Or.inl npr)).trans (hn_s)
        rw [e5]
        (repeat' split) <;> omega
      · funext k
        by_cases e : k = v.toNat
        · subst e; rw [rv_up_s]; exact hn_s
        · rw [rv_up_n e]; exact (hn_n (Or.inr e)).trans ((hn_n (Or.inl (Ne.symm npr))).trans ((hn_n (Or.inl (Ne.symm npr))).trans (rfl)))
theorem r_keep2 {G : mj_G} {M : mj_M} {x m : Nat} {w : Nat → Nat} {Q : mj_P} {d : Nat} (hUA : lq_UA G w) (hUB : lq_UB M w x m) {k o b : Int} {z : Nat} (hz : z < 8) (z3 : M.1 (w 121) 3 = (z : Int)) (cb sb : Nat) (h : ∀ M', lq_kp w z 0 k o b M M' → Q none G M') : wz d mt_X8_keep.2.2.2.2.1 Q (mt_X8_keep.2.2.2.2.1.drop 31) [some (.inr (.inr (some (w 121)))), some (.inl k), some (.inl o), some (.inl b)] [] G M cb sb := by
  obtain ⟨gud, gut, gum, gub, gun⟩ := id hUA
  have tz : ((z : Int)).toNat = z := by omega
  refine w_aln rfl ?_
  refine w_gr gud rfl (by decide) rfl (hUB.2.1) ?_
  refine w_aln rfl ?_
  refine w_gi gud rfl (by decide) rfl (z3) ?_
  refine w_iln rfl ?_
  refine w_iast gut rfl (by decide) (by show (0 : Int) ≤ ((z : Nat) : Int); omega) (by show ((z : Nat) : Int) < ((8 : Nat) : Int); omega) ?_
  refine w_aln rfl ?_
  refine w_gr gud rfl (by decide) rfl (hUB.2.2.1) ?_
  refine w_aln rfl ?_
  refine w_gi gud rfl (by decide) rfl ((hn_n (Or.inl (hn_ne gud gut (by decide)))).trans (z3)) ?_
  refine w_iln rfl ?_
  refine w_iast gum rfl (by decide) (by show (0 : Int) ≤ ((z : Nat) : Int); omega) (by show ((z : Nat) : Int) < ((8 : Nat) : Int); omega) ?_
  refine w_aln rfl ?_
  refine w_gr gud rfl (by decide) rfl (hUB.2.2.2.1) ?_
  refine w_aln rfl ?_
  refine w_gi gud rfl (by decide) rfl ((hn_n (Or.inl (hn_ne gud gum (by decide)))).trans ((hn_n (Or.inl (hn_ne gud gut (by decide)))).trans (z3))) ?_
  refine w_iln rfl ?_
  refine w_iast gub rfl (by decide) (by show (0 : Int) ≤ ((z : Nat) : Int); omega) (by show ((z : Nat) : Int) < ((8 : Nat) : Int); omega) ?_
  refine w_aln rfl ?_
  refine w_dupr ?_
  refine w_gi gud rfl (by decide) rfl ((hn_n (Or.inl (hn_ne gud gub (by decide)))).trans ((hn_n (Or.inl (hn_ne gud gum (by decide)))).trans ((hn_n (Or.inl (hn_ne gud gut (by decide)))).trans (z3)))) ?_
  refine w_ic ?_
  refine w_add ⟨by show (-2147483648 : Int) ≤ ((z : Nat) : Int) + 1; omega, by show ((z : Nat) : Int) + 1 < (2147483648 : Int); omega⟩ ?_
  refine w_pi gud rfl (by decide) rfl (fun q => by cases q) ?_
  rw [tz]
  refine w_ret (h _ ⟨rfl, fun a a1 a2 a3 a4 => (wz_c a1).trans ((wz_c a4).trans ((wz_c a3).trans (wz_c a2))), ?_, fun i hi => ⟨?_, ?_, ?_⟩, ?_, ?_, ?_⟩)
  · exact hn_s.trans (by omega)
  · exact (hn_n (Or.inl (hn_ne gut gud (by decide)))).trans ((hn_n (Or.inl (hn_ne gut gub (by decide)))).trans ((hn_n (Or.inl (hn_ne gut gum (by decide)))).trans ((hn_n (Or.inr (by omega))).trans (rfl))))
  · exact (hn_n (Or.inl (hn_ne gum gud (by decide)))).trans ((hn_n (Or.inl (hn_ne gum gub (by decide)))).trans ((hn_n (Or.inr (by omega))).trans ((hn_n (Or.inl (hn_ne gum gut (by decide)))).trans (rfl))))
  · exact (hn_n (Or.inl (hn_ne gub gud (by decide)))).trans ((hn_n (Or.inr (by omega))).trans ((hn_n (Or.inl (hn_ne gub gum (by decide)))).trans ((hn_n (Or.inl (hn_ne gub gut (by decide)))).trans (rfl))))
  · exact (hn_n (Or.inl (hn_ne gut gud (by decide)))).trans ((hn_n (Or.inl (hn_ne gut gub (by decide)))).trans ((hn_n (Or.inl (hn_ne gut gum (by decide)))).trans (hn_s)))
  · exact (hn_n (Or.inl (hn_ne gum gud (by decide)))).trans ((hn_n (Or.inl (hn_ne gum gub (by decide)))).trans (hn_s))
  · exact (hn_n (Or.inl (hn_ne gub gud (by decide)))).trans (hn_s)
theorem lq_c1 {M : mj_M} {a x : Nat} (h : x ≠ a) : (mj_cp0 M a a 1 0 7).1 x = M.1 x := funext fun _ => if_neg (fun e => h e.1)
theorem lq_c2 {M : mj_M} {a i : Nat} (h : i < 7) : (mj_cp0 M a a 1 0 7).1 a i = M.1 a (i + 1) := (if_pos ⟨rfl, Nat.zero_le i, by omega⟩).trans (by rw [Nat.sub_zero, Nat.add_comm])
theorem r_X8_keep {G : mj_G} {M : mj_M} {x m : Nat} {w : Nat → Nat} {Q : mj_P} {d : Nat} (hUA : lq_UA G w) (hUB : lq_UB M w x m) {k o b : Int} {z : Nat} (hz : z ≤ 8) (z3 : M.1 (w 121) 3 = (z : Int)) (h : ∀ z' h' M', lq_zs z z' h' → lq_kp w z' h' k o b M M' → Q none G M') : mj_R mj_tab (d + 1) 87 [.inr (.inr (some (w 121))), .inl k, .inl o, .inl b] G M Q := by
  obtain ⟨gud, gut, gum, gub, gun⟩ := id hUA
  refine ⟨Nat.le_of_ble_eq_true rfl, ?_⟩
  show wz d mt_X8_keep.2.2.2.2.1 Q mt_X8_keep.2.2.2.2.1 [some (.inr (.inr (some (w 121)))), some (.inl k), some (.inl o), some (.inl b)] [] G M _ _
  refine w_aln rfl ?_
  refine w_gi gud rfl (by decide) rfl z3 ?_
  refine w_bp ?_
  refine w_cmlt (fun c => ?_) (fun c => ?_)
  · exact r_keep2 hUA hUB (by omega) z3 _ _ (fun M' hk => h z 0 M' (Or.inl ⟨by omega, rfl, rfl⟩) hk)
  · have e8 : z = 8 := by omega
    subst e8
    refine w_aln rfl ?_
    refine w_gr gud rfl (by decide) rfl hUB.2.1 ?_
    refine w_ic ?_
    refine w_aln rfl ?_
    refine w_gr gud rfl (by decide) rfl hUB.2.1 ?_
    refine w_ic ?_
    refine w_bp ?_
    refine w_cp0 gut rfl gut rfl (by decide) (by decide) (by decide) (by decide) (by decide) (by decide) (Nat.le_of_ble_eq_true rfl) ?_
    refine w_aln rfl ?_
    refine w_gr gud rfl (by decide) rfl hUB.2.2.1 ?_
    refine w_ic ?_
    refine w_aln rfl ?_
    refine w_gr gud rfl (by decide) rfl hUB.2.2.1 ?_
    refine w_ic ?_
    refine w_bp ?_
    refine w_cp0 gum rfl gum rfl (by decide) (by decide) (by decide) (by decide) (by decide) (by decide) (Nat.le_of_ble_eq_true rfl) ?_
    refine w_aln rfl ?_
    refine w_gr gud rfl (by decide) rfl hUB.2.2.2.1 ?_
    refine w_ic ?_
    refine w_aln rfl ?_
    refine w_gr gud rfl (by decide) rfl hUB.2.2.2.1 ?_
    refine w_ic ?_
    refine w_bp ?_
    refine w_cp0 gub rfl gub rfl (by decide) (by decide) (by decide) (by decide) (by decide) (by decide) (Nat.le_of_ble_eq_true rfl) ?_
    refine w_aln rfl ?_
    refine w_bp ?_
    refine w_pi gud rfl (by decide) rfl (fun q => by cases q) ?_
    have n2 : w 122 ≠ w 121 := hn_ne gut gud (by decide)
    have n3 : w 123 ≠ w 121 := hn_ne gum gud (by decide)
    have n4 : w 124 ≠ w 121 := hn_ne gub gud (by decide)
    have n23 : w 122 ≠ w 123 := hn_ne gut gum (by decide)
    have n24 : w 122 ≠ w 124 := hn_ne gut gub (by decide)
    have n34 : w 123 ≠ w 124 := hn_ne gum gub (by decide)
    refine r_keep2 (M := mj_p0 (mj_cp0 (mj_cp0 (mj_cp0 M (w 122) (w 122) 1 0 7) (w 123) (w 123) 1 0 7) (w 124) (w 124) 1 0 7) (w 121) 3 7) (z := 7) hUA hUB (by decide) hn_s _ _ (fun M' hk => h 7 1 M' (Or.inr ⟨rfl, rfl, rfl⟩) ?_)
    obtain ⟨k1, k2, k3, k4, k5⟩ := hk
    refine ⟨k1, fun a a1 a2 a3 a4 => (k2 a a1 a2 a3 a4).trans ((wz_c a1).trans ((lq_c1 a4).trans ((lq_c1 a3).trans (lq_c1 a2)))), k3, fun i hi => ?_, k5⟩
    obtain ⟨q1, q2, q3⟩ := k4 i hi
    refine ⟨q1.trans ((hn_n (Or.inl n2)).trans ?_), q2.trans ((hn_n (Or.inl n3)).trans ?_), q3.trans ((hn_n (Or.inl n4)).trans ?_)⟩
    · exact (congrFun (lq_c1 n24) i).trans ((congrFun (lq_c1 n23) i).trans (lq_c2 hi))
    · exact (congrFun (lq_c1 n34) i).trans ((lq_c2 hi).trans (congrFun (lq_c1 (Ne.symm n23)) _))
    · exact (lq_c2 hi).trans ((congrFun (lq_c1 (Ne.symm n34)) _).trans (congrFun (lq_c1 (Ne.symm n24)) _))
theorem lq_rB {H : Nat → Int} {w : Nat → Nat} {p t v j : Nat} {M : mj_M} (h : rv_G6 H 0 w p M) (ht : t < 8) (hv : v < 12) (e : j = 88 + 12 * t + v) : M.1 (w (p + 12 + t)) v = H j := by
  subst e; rw [← h.2.1 t v ht hv, Nat.zero_add]
set_option maxRecDepth 100000 in
theorem r_X11_offer5 {G : mj_G} {M : mj_M} {x m s p q : Nat} {w : Nat → Nat} {Q : mj_P} {d : Nat} (gx : G x = (1011, 0)) (hA : lq_A G w) (hB : lq_B M w x) (hN : lq_N M w p q) (hUA : lq_UA G w) (hUB : lq_UB M w x m) (hG6 : rv_G6 (M.1 s) 0 w p M) (b0 : 0 ≤ M.1 s 0 ∧ M.1 s 0 ≤ 8) {z1 z2 z3 : Int} {z : Nat} (hz : z ≤ 8) (zu : M.1 (w 121) 3 = (z : Int)) (h0 : ¬ lq_ok (M.1 s) z1 z2 z3 → Q (some (.inl 0)) G M) (h1 : lq_ok (M.1 s) z1 z2 z3 → ∀ z' h' M1 M2, lq_zs z z' h' → lq_kp w z' h' z1 z2 (M.1 s (12 * z1 + z2 + 88).toNat) M M1 → lq_sb w p z1.toNat z2.toNat z3 M1 M2 → Q (some (.inl 1)) G M2) : mj_R mj_tab (d + 3) 136 [.inr (.inr (some x)), .inl z1, .inl z2, .inl z3] G M Q := by
  obtain ⟨gpl, gna, gta, gba, gwa, gtr, gbr, itr, ibr, p0, p1, p2, p3, rt, rb⟩ := lq_K hA hB hN.pin.1
  have gnw := hA.2.2.1
  obtain ⟨gud, gut, gum, gub, gun⟩ := id hUA
  have hG := hG6.1
  have hG5 := hG6
  have cb5 := lq_ct_b (fun i => M.1 s (0 + (88 + i))) 96
  have c5 := hG6.2.2
  have e5 : lq_ct (fun i => M.1 s (0 + (88 + i))) 96 = lq_ct (fun i => M.1 s (88 + i)) 96 := lq_ct_cg 96 (fun i _ => by rw [Nat.zero_add])
  refine ⟨Nat.le_of_ble_eq_true rfl, ?_⟩
  show wz (d + 2) mt_X11_offer.2.2.2.2.1 Q mt_X11_offer.2.2.2.2.1 [some (.inr (.inr (some x))), some (.inl z1), some (.inl z2), some (.inl z3), none] [] G M _ _
  refine w_aln rfl ?_
  refine w_iln rfl ?_
  refine w_cv (st := []) rfl gx rfl (Nat.le_of_ble_eq_true rfl) (fun kk h => h) ⟨Nat.le_of_ble_eq_true rfl, ?_⟩
  show wz (d + 1) mt_X11_isTown.2.2.2.2.1 _ mt_X11_isTown.2.2.2.2.1 [some (.inr (.inr (some x))), some (.inl z1)] [] _ _ _ _
  refine w_iln rfl ?_
  refine w_iflt (fun c1 => ?_) (fun c1 => ?_)
  · skip
    refine w_ic ?_
    refine w_iret (fun _ => Or.inl rfl) ?_
    refine w_ifeq (fun c2 => ?_) (fun c2 => ?_)
    · skip
      refine w_ic ?_
      exact w_iret (fun _ => Or.inl rfl) (h0 (by unfold lq_ok; omega))
    · exfalso; omega
  · skip
    refine w_iln rfl ?_
    refine w_aln rfl ?_
    refine w_gr gx rfl (by decide) rfl (hB.2.1) ?_
    refine w_gr gnw rfl (by decide) rfl (hN.1) ?_
    refine w_gi gpl rfl (by decide) rfl (hG.1.symm) ?_
    refine w_cmge (fun c3 => ?_) (fun c3 => ?_)
    · skip
      refine w_ic ?_
      refine w_iret (fun _ => Or.inl rfl) ?_
      refine w_ifeq (fun c4 => ?_) (fun c4 => ?_)
      · skip
        refine w_ic ?_
        exact w_iret (fun _ => Or.inl rfl) (h0 (by unfold lq_ok; omega))
      · exfalso; omega
    · skip
      refine w_ic ?_
      refine w_goto ?_
      refine w_iret (fun _ => Or.inr rfl) ?_
      refine w_ifeq (fun c5 => ?_) (fun c5 => ?_)
      · exfalso; omega
      · skip
        refine w_iln rfl ?_
        refine w_cs (st := []) rfl (Nat.le_of_ble_eq_true rfl) (fun kk h => h) ⟨Nat.le_of_ble_eq_true rfl, ?_⟩
        show wz (d + 1) mt_X11_isMonth.2.2.2.2.1 _ mt_X11_isMonth.2.2.2.2.1 [some (.inl z2)] [] _ _ _ _
        refine w_iln rfl ?_
        refine w_iflt (fun c6 => ?_) (fun c6 => ?_)
        · skip
          refine w_ic ?_
          refine w_iret (fun _ => Or.inl rfl) ?_
          refine w_ifeq (fun c7 => ?_) (fun c7 => ?_)
          · skip
            refine w_ic ?_
            exact w_iret (fun _ => Or.inl rfl) (h0 (by unfold lq_ok; omega))
          · exfalso; omega
        · skip
          refine w_iln rfl ?_
          refine w_bp ?_
          refine w_cmge (fun c8 => ?_) (fun c8 => ?_)
          · skip
            refine w_ic ?_
            refine w_iret (fun _ => Or.inl rfl) ?_
            refine w_ifeq (fun c9 => ?_) (fun c9 => ?_)
            · skip
              refine w_ic ?_
              exact w_iret (fun _ => Or.inl rfl) (h0 (by unfold lq_ok; omega))
            · exfalso; omega
          · skip
            refine w_ic ?_
            refine w_goto ?_
            refine w_iret (fun _ => Or.inr rfl) ?_
            refine w_ifeq (fun c10 => ?_) (fun c10 => ?_)
            · exfalso; omega
            · skip
              refine w_iln rfl ?_
              refine w_iflt (fun c11 => ?_) (fun c11 => ?_)
              · skip
                refine w_ic ?_
                exact w_iret (fun _ => Or.inl rfl) (h0 (by unfold lq_ok; omega))
              · skip
                refine w_iln rfl ?_
                refine w_sp ?_
                refine w_cmle (fun c12 => ?_) (fun c12 => ?_)
                · skip
                  refine w_aln rfl ?_
                  refine w_gr gx rfl (by decide) rfl (hB.2.1) ?_
                  refine w_gr gnw rfl (by decide) rfl (hN.1) ?_
                  refine w_gr gpl rfl (by decide) rfl (p2) ?_
                  refine w_iln rfl ?_
                  refine w_aald gba rfl (by show (0 : Int) ≤ z1; omega) (by show z1 < ((8 : Nat) : Int); omega) (rb _ (by show z1.toNat < 8; omega)) ?_
                  refine w_iln rfl ?_
                  refine w_iald (v := (M.1 s (12 * z1 + z2 + 88).toNat)) (gbr _ (by show z1.toNat < 8; omega)) rfl (by show (0 : Int) ≤ z2; omega) (by show z2 < ((12 : Nat) : Int); omega) (lq_rB hG5 (by show z1.toNat < 8; omega) (by show z2.toNat < 12; omega) (by show (12 * z1 + z2 + 88).toNat = 88 + 12 * z1.toNat + z2.toNat; omega)) ?_
                  refine w_is ?_
                  show wz _ _ _ _ [some (.inr (.inr (some x))), some (.inl z1), some (.inl z2), some (.inl z3), some (.inl (M.1 s (12 * z1 + z2 + 88).toNat))] _ _ _ _ _
                  refine w_il rfl ?_
                  refine w_ifne (fun c13 => ?_) (fun c13 => ?_)
                  · skip
                    refine w_aln rfl ?_
                    refine w_gr gx rfl (by decide) rfl (hUB.1) ?_
                    refine w_iln rfl ?_
                    refine w_iln rfl ?_
                    refine w_il rfl ?_
                    refine w_cv (st := []) rfl gud rfl (Nat.le_of_ble_eq_true rfl) (fun kk h => h) (r_X8_keep (d := d + 1) hUA hUB hz zu (fun z9 h9 M1 hzs hk => ?_))
                    refine w_aln rfl ?_
                    refine w_gr gx rfl (by decide) rfl ((congrFun (congrFun (congrArg Prod.snd hk.1) _) _).trans (hB.2.1)) ?_
                    refine w_gr gnw rfl (by decide) rfl ((congrFun (congrFun (congrArg Prod.snd hk.1) _) _).trans (hN.1)) ?_
                    refine w_iln rfl ?_
                    refine w_iln rfl ?_
                    refine w_iln rfl ?_
                    have hB1 : lq_B M1 w x := by unfold lq_B; rw [hk.1]; exact hB
                    have hN1 : lq_N M1 w p q := by unfold lq_N; rw [hk.1]; exact hN
                    have f5 : M1.1 (w p) 5 = M.1 (w p) 5 := congrFun (hk.2.1 _ (hn_ne gpl gud (by decide)) (hn_ne gpl gut (by decide)) (hn_ne gpl gum (by decide)) (hn_ne gpl gub (by decide))) 5
                    refine w_cv (st := []) rfl gpl rfl (Nat.le_of_ble_eq_true rfl) (fun kk h => h) (r_X3_setBid (M := M1) (d := d + 1) gx hA hB1 hN1 (by omega) (by omega) (by omega) (by omega) (by omega) (by omega) (fun M2 hs => ?_))
                    refine w_ic ?_
                    exact w_iret (fun _ => Or.inr rfl) (h1 (by unfold lq_ok; omega) z9 h9 M1 M2 hzs hk hs)
                  · skip
                    refine w_iln rfl ?_
                    refine w_ifle (fun c14 => ?_) (fun c14 => ?_)
                    · skip
                      refine w_aln rfl ?_
                      refine w_gr gx rfl (by decide) rfl (hUB.1) ?_
                      refine w_iln rfl ?_
                      refine w_iln rfl ?_
                      refine w_il rfl ?_
                      refine w_cv (st := []) rfl gud rfl (Nat.le_of_ble_eq_true rfl) (fun kk h => h) (r_X8_keep (d := d + 1) hUA hUB hz zu (fun z9 h9 M1 hzs hk => ?_))
                      refine w_aln rfl ?_
                      refine w_gr gx rfl (by decide) rfl ((congrFun (congrFun (congrArg Prod.snd hk.1) _) _).trans (hB.2.1)) ?_
                      refine w_gr gnw rfl (by decide) rfl ((congrFun (congrFun (congrArg Prod.snd hk.1) _) _).trans (hN.1)) ?_
                      refine w_iln rfl ?_
                      refine w_iln rfl ?_
                      refine w_iln rfl ?_
                      have hB1 : lq_B M1 w x := by unfold lq_B; rw [hk.1]; exact hB
                      have hN1 : lq_N M1 w p q := by unfold lq_N; rw [hk.1]; exact hN
                      have f5 : M1.1 (w p) 5 = M.1 (w p) 5 := congrFun (hk.2.1 _ (hn_ne gpl gud (by decide)) (hn_ne gpl gut (by decide)) (hn_ne gpl gum (by decide)) (hn_ne gpl gub (by decide))) 5
                      refine w_cv (st := []) rfl gpl rfl (Nat.le_of_ble_eq_true rfl) (fun kk h => h) (r_X3_setBid (M := M1) (d := d + 1) gx hA hB1 hN1 (by omega) (by omega) (by omega) (by omega) (by omega) (by omega) (fun M2 hs => ?_))
                      refine w_ic ?_
                      exact w_iret (fun _ => Or.inr rfl) (h1 (by unfold lq_ok; omega) z9 h9 M1 M2 hzs hk hs)
                    · skip
                      refine w_aln rfl ?_
                      refine w_gr gx rfl (by decide) rfl (hB.2.1) ?_
                      refine w_gr gnw rfl (by decide) rfl (hN.1) ?_
                      refine w_gi gpl rfl (by decide) rfl (rfl) ?_
                      refine w_bp ?_
                      refine w_cmlt (fun c15 => ?_) (fun c15 => ?_)
                      · skip
                        refine w_aln rfl ?_
                        refine w_gr gx rfl (by decide) rfl (hUB.1) ?_
                        refine w_iln rfl ?_
                        refine w_iln rfl ?_
                        refine w_il rfl ?_
                        refine w_cv (st := []) rfl gud rfl (Nat.le_of_ble_eq_true rfl) (fun kk h => h) (r_X8_keep (d := d + 1) hUA hUB hz zu (fun z9 h9 M1 hzs hk => ?_))
                        refine w_aln rfl ?_
                        refine w_gr gx rfl (by decide) rfl ((congrFun (congrFun (congrArg Prod.snd hk.1) _) _).trans (hB.2.1)) ?_
                        refine w_gr gnw rfl (by decide) rfl ((congrFun (congrFun (congrArg Prod.snd hk.1) _) _).trans (hN.1)) ?_
                        refine w_iln rfl ?_
                        refine w_iln rfl ?_
                        refine w_iln rfl ?_
                        have hB1 : lq_B M1 w x := by unfold lq_B; rw [hk.1]; exact hB
                        have hN1 : lq_N M1 w p q := by unfold lq_N; rw [hk.1]; exact hN
                        have f5 : M1.1 (w p) 5 = M.1 (w p) 5 := congrFun (hk.2.1 _ (hn_ne gpl gud (by decide)) (hn_ne gpl gut (by decide)) (hn_ne gpl gum (by decide)) (hn_ne gpl gub (by decide))) 5
                        refine w_cv (st := []) rfl gpl rfl (Nat.le_of_ble_eq_true rfl) (fun kk h => h) (r_X3_setBid (M := M1) (d := d + 1) gx hA hB1 hN1 (by omega) (by omega) (by omega) (by omega) (by omega) (by omega) (fun M2 hs => ?_))
                        refine w_ic ?_
                        exact w_iret (fun _ => Or.inr rfl) (h1 (by unfold lq_ok; omega) z9 h9 M1 M2 hzs hk hs)
                      · skip
                        refine w_ic ?_
                        exact w_iret (fun _ => Or.inl rfl) (h0 (by unfold lq_ok; omega))
                · skip
                  refine w_ic ?_
                  exact w_iret (fun _ => Or.inl rfl) (h0 (by unfold lq_ok; omega))
theorem r_X11_undo5 {G : mj_G} {M : mj_M} {x m s p q : Nat} {w : Nat → Nat} {Q : mj_P} {d : Nat} (gx : G x = (1011, 0)) (hA : lq_A G w) (hB : lq_B M w x) (hN : lq_N M w p q) (hUA : lq_UA G w) (hUB : lq_UB M w x m) {z : Nat} (hz : z ≤ 8) (zu : M.1 (w 121) 3 = (z : Int)) (c1 : -900 ≤ M.1 (w p) 5) (c2 : M.1 (w p) 5 ≤ 900) (hb : ∀ i, i < z → (0 ≤ M.1 (w 122) i ∧ M.1 (w 122) i < 8) ∧ (0 ≤ M.1 (w 123) i ∧ M.1 (w 123) i < 12)) (h0 : z = 0 → Q (some (.inl (-1))) G M) (h1 : ∀ y, z = y + 1 → ∀ M2, lq_sb w p (M.1 (w 122) y).toNat (M.1 (w 123) y).toNat (M.1 (w 124) y) (mj_p0 M (w 121) 3 (y : Int)) M2 → Q (some (.inl (y : Int))) G M2) : mj_R mj_tab (d + 3) 154 [.inr (.inr (some x))] G M Q := by
  obtain ⟨gpl, gna, gta, gba, gwa, gtr, gbr, itr, ibr, p0, p1, p2, p3, rt, rb⟩ := lq_K hA hB hN.pin.1
  have gnw := hA.2.2.1
  obtain ⟨gud, gut, gum, gub, gun⟩ := id hUA
  refine ⟨Nat.le_of_ble_eq_true rfl, ?_⟩
  show wz (d + 2) mt_X11_undo.2.2.2.2.1 Q mt_X11_undo.2.2.2.2.1 [some (.inr (.inr (some x)))] [] G M _ _
  refine w_aln rfl ?_
  refine w_gr gx rfl (by decide) rfl hUB.1 ?_
  refine w_aln rfl ?_
  refine w_gr gx rfl (by decide) rfl hB.2.1 ?_
  refine w_gr gnw rfl (by decide) rfl hN.1 ?_
  refine w_cv (st := []) rfl gud rfl (Nat.le_of_ble_eq_true rfl) (fun kk h => h) ⟨Nat.le_of_ble_eq_true rfl, ?_⟩
  show wz (d + 1) mt_X8_back.2.2.2.2.1 _ mt_X8_back.2.2.2.2.1 [some (.inr (.inr (some (w 121)))), some (.inr (.inr (some (w p))))] [] _ _ _ _
  refine w_aln rfl ?_
  refine w_gi gud rfl (by decide) rfl zu ?_
  refine w_ifgt (fun c => ?_) (fun c => ?_)
  · obtain ⟨y, rfl⟩ : ∃ y, z = y + 1 := ⟨z - 1, by omega⟩
    have by_ := hb y (by omega)
    have ty : ((y : Int)).toNat = y := by omega
    refine w_aln rfl ?_
    refine w_dupr ?_
    refine w_gi gud rfl (by decide) rfl zu ?_
    refine w_ic ?_
    refine w_sub ⟨by omega, by omega⟩ ?_
    rw [show (((y + 1 : Nat) : Int) - 1) = (y : Int) by omega]
    refine w_pi gud rfl (by decide) rfl (fun q => by cases q) ?_
    refine w_aln rfl ?_
    refine w_aln rfl ?_
    refine w_gr gud rfl (by decide) rfl hUB.2.1 ?_
    refine w_aln rfl ?_
    refine w_gi gud rfl (by decide) rfl hn_s ?_
    refine w_iald (v := M.1 (w 122) y) gut rfl (by omega) (by show (y : Int) < ((8 : Nat) : Int); omega) (by rw [ty]; exact hn_n (Or.inl (hn_ne gut gud (by decide)))) ?_
    refine w_aln rfl ?_
    refine w_gr gud rfl (by decide) rfl hUB.2.2.1 ?_
    refine w_aln rfl ?_
    refine w_gi gud rfl (by decide) rfl hn_s ?_
    refine w_iald (v := M.1 (w 123) y) gum rfl (by omega) (by show (y : Int) < ((8 : Nat) : Int); omega) (by rw [ty]; exact hn_n (Or.inl (hn_ne gum gud (by decide)))) ?_
    refine w_aln rfl ?_
    refine w_gr gud rfl (by decide) rfl hUB.2.2.2.1 ?_
    refine w_aln rfl ?_
    refine w_gi gud rfl (by decide) rfl hn_s ?_
    refine w_iald (v := M.1 (w 124) y) gub rfl (by omega) (by show (y : Int) < ((8 : Nat) : Int); omega) (by rw [ty]; exact hn_n (Or.inl (hn_ne gub gud (by decide)))) ?_
    refine w_cv (st := []) rfl gpl rfl (Nat.le_of_ble_eq_true rfl) (fun kk h => h) (r_X3_setBid (M := mj_p0 M (w 121) 3 (y : Int)) (d := d) gx hA hB hN by_.1.1 by_.1.2 by_.2.1 by_.2.2 ?_ ?_ (fun M2 hs => ?_))
    · rw [show (mj_p0 M (w 121) 3 (y : Int)).1 (w p) 5 = M.1 (w p) 5 from hn_n (Or.inl (hn_ne gpl gud (by decide)))]; omega
    · rw [show (mj_p0 M (w 121) 3 (y : Int)).1 (w p) 5 = M.1 (w p) 5 from hn_n (Or.inl (hn_ne gpl gud (by decide)))]; omega
    · refine w_aln rfl ?_
      refine w_gi gud rfl (by decide) rfl (v := (y : Int)) ((congrFun (hs.2.1 _ (hn_ne gud gpl (by decide)) (hn_ne gud (gbr _ (by omega)) (by decide))) 3).trans hn_s) ?_
      refine w_iret (fun q => by cases q) ?_
      exact w_iret (fun q => by cases q) (h1 y rfl M2 hs)
  · refine w_ic ?_
    refine w_iret (fun q => by cases q) ?_
    exact w_iret (fun q => by cases q) (h0 (by omega))
end
section
/-! ===== bidMany, offer, undo, worth, must of the reference: bids (laid by a program) ===== -/
theorem r_bm1 {G : mj_G} {M : mj_M} {m s : Nat} {Q : mj_P} {d : Nat} (gm : G m = (1012, 0)) (gs : G s = (51100, 537)) (m6 : M.2.2 m 6 = some s) : ∀ (j i : Nat) (cb sb : Nat), i + j = 96 → Q (some (.inl (lq_ct (fun i => M.1 s (88 + i)) 96))) G M → wz d mt_X12_bidMany.2.2.2.2.1 Q (mt_X12_bidMany.2.2.2.2.1.drop 4) [some (.inr (.inr (some m))), some (.inl (lq_ct (fun i => M.1 s (88 + i)) i)), some (.inl (i : Int))] [] G M cb sb := by
  intro j
  induction j with
  | zero =>
    intro i cb sb e h
    have e : i = 96 := by omega
    subst e
    refine w_iln rfl ?_
    refine w_bp ?_
    refine w_cmge (fun c => ?_) (fun c => by exfalso; omega)
    refine w_iln rfl ?_
    exact w_iret (fun q => by cases q) h
  | succ j ih =>
    intro i cb sb e h
    have b := lq_ct_b (fun i => M.1 s (88 + i)) i
    have ti : ((88 : Int) + (i : Int)).toNat = 88 + i := by omega
    refine w_iln rfl ?_
    refine w_bp ?_
    refine w_cmge (fun c => by exfalso; omega) (fun c => ?_)
    refine w_iln rfl ?_
    refine w_aln rfl ?_
    refine w_gr gm rfl (by decide) rfl m6 ?_
    refine w_bp ?_
    refine w_iln rfl ?_
    refine w_add ⟨by omega, by omega⟩ ?_
    refine w_iald (v := M.1 s (88 + i)) gs rfl (by omega) (by show (88 : Int) + (i : Int) < ((537 : Nat) : Int); omega) (by rw [ti]) ?_
    refine w_ifle (fun c2 => ?_) (fun c2 => ?_)
    · refine w_ic ?_
      refine w_add ⟨by omega, by omega⟩ ?_
      refine w_isn ?_
      refine w_ii rfl ⟨by omega, by omega⟩ ?_
      refine w_goto ?_
      have e1 : lq_ct (fun i => M.1 s (88 + i)) i + 0 = lq_ct (fun i => M.1 s (88 + i)) (i + 1) := by
        show _ = lq_ct (fun i => M.1 s (88 + i)) i + (if 0 < M.1 s (88 + i) then 1 else 0)
        rw [if_neg (by omega)]
      rw [e1]
      exact ih (i + 1) _ _ (by omega) h
    · refine w_ic ?_
      refine w_goto ?_
      refine w_add ⟨by omega, by omega⟩ ?_
      refine w_isn ?_
      refine w_ii rfl ⟨by omega, by omega⟩ ?_
      refine w_goto ?_
      have e1 : lq_ct (fun i => M.1 s (88 + i)) i + 1 = lq_ct (fun i => M.1 s (88 + i)) (i + 1) := by
        show _ = lq_ct (fun i => M.1 s (88 + i)) i + (if 0 < M.1 s (88 + i) then 1 else 0)
        rw [if_pos c2]
      rw [e1]
      exact ih (i + 1) _ _ (by omega) h
theorem r_X12_bidMany {G : mj_G} {M : mj_M} {m s : Nat} {Q : mj_P} {d : Nat} (gm : G m = (1012, 0)) (gs : G s = (51100, 537)) (m6 : M.2.2 m 6 = some s) (h : Q (some (.inl (lq_ct (fun i => M.1 s (88 + i)) 96))) G M) : mj_R mj_tab (d + 1) 166 [.inr (.inr (some m))] G M Q := by
  refine ⟨Nat.le_of_ble_eq_true rfl, ?_⟩
  show wz d mt_X12_bidMany.2.2.2.2.1 Q mt_X12_bidMany.2.2.2.2.1 [some (.inr (.inr (some m))), none, none] [] G M _ _
  refine w_ic ?_
  refine w_isn ?_
  refine w_ic ?_
  refine w_isn ?_
  exact r_bm1 gm gs m6 96 0 _ _ (by decide) h
theorem r_of1 {G : mj_G} {M0 : mj_M} {m un : Nat} {Q : mj_P} {d : Nat} {k o n : Int} (gm : G m = (1012, 0)) (gu : G un = (57100, 24)) (m27 : M0.2.2 m 27 = some un) : ∀ (f i : Nat) (M : mj_M) (cb sb : Nat), i + f = 21 → M.2 = M0.2 → (∀ a, a ≠ un → M.1 a = M0.1 a) → (∀ j, j < i → M.1 un j = M0.1 un (j + 3)) → (∀ j, i ≤ j → M.1 un j = M0.1 un j) → (∀ M' cb sb, M'.2 = M0.2 → (∀ a, a ≠ un → M'.1 a = M0.1 a) → (∀ j, j < 21 → M'.1 un j = M0.1 un (j + 3)) → wz d mt_X12_offer.2.2.2.2.1 Q (mt_X12_offer.2.2.2.2.1.drop 49) [some (.inr (.inr (some m))), some (.inl k), some (.inl o), some (.inl n), some (.inl 21)] [] G M' cb sb) → wz d mt_X12_offer.2.2.2.2.1 Q (mt_X12_offer.2.2.2.2.1.drop 34) [some (.inr (.inr (some m))), some (.inl k), some (.inl o), some (.inl n), some (.inl (i : Int))] [] G M cb sb := by
  intro f
  induction f with
  | zero =>
    intro i M cb sb e h2 h1 h3 h4 h
    have e : i = 21 := by omega
    subst e
    refine w_il rfl ?_
    refine w_bp ?_
    refine w_cmge (fun c => ?_) (fun c => by exfalso; omega)
    exact h M _ _ h2 h1 h3
  | succ f ih =>
    intro i M cb sb e h2 h1 h3 h4 h
    have ti : ((i : Int)).toNat = i := by omega
    have ti3 : ((i : Int) + 3).toNat = i + 3 := by omega
    refine w_il rfl ?_
    refine w_bp ?_
    refine w_cmge (fun c => by exfalso; omega) (fun c => ?_)
    refine w_aln rfl ?_
    refine w_gr gm rfl (by decide) rfl (by rw [h2]; exact m27) ?_
    refine w_il rfl ?_
    refine w_aln rfl ?_
    refine w_gr gm rfl (by decide) rfl (by rw [h2]; exact m27) ?_
    refine w_il rfl ?_
    refine w_ic ?_
    refine w_add ⟨by omega, by omega⟩ ?_
    refine w_iald (v := M0.1 un (i + 3)) gu rfl (by omega) (by show (i : Int) + 3 < ((24 : Nat) : Int); omega) (by rw [ti3]; exact h4 _ (by omega)) ?_
    refine w_iast gu rfl (by decide) (by omega) (by show (i : Int) < ((24 : Nat) : Int); omega) ?_
    refine w_ii rfl ⟨by omega, by omega⟩ ?_
    refine w_goto ?_
    rw [ti]
    refine ih (i + 1) _ _ _ (by omega) h2 (fun a a1 => (wz_c a1).trans (h1 a a1)) (fun j hj => ?_) (fun j hj => (hn_n (Or.inr (by omega))).trans (h4 j (by omega))) h
    rcases Nat.lt_or_ge j i with q | q
    · exact (hn_n (Or.inr (by omega))).trans (h3 j q)
    · rw [show j = i by omega]; exact hn_s
theorem r_of2 {G : mj_G} {M : mj_M} {m s : Nat} {w : Nat → Nat} {Q : mj_P} {d : Nat} {k o n : Int} {v4 : Option mj_V} (gm : G m = (1012, 0)) (gs : G s = (51100, 537)) (gu : G (w 344) = (57100, 24)) (m6 : M.2.2 m 6 = some s) (m27 : M.2.2 m 27 = some (w 344)) {z j : Nat} (hz : z < 8) (z3 : M.1 m 28 = (z : Int)) (k1 : 0 ≤ k) (k2 : k < 8) (o1 : 0 ≤ o) (o2 : o < 12) (hj : j = (12 * k + o + 88).toNat) (cb sb : Nat) (h : ∀ M', lq_ro w m s z 0 j k o n M M' → Q (some (.inl 1)) G M') : wz (d + 1) mt_X12_offer.2.2.2.2.1 Q (mt_X12_offer.2.2.2.2.1.drop 52) [some (.inr (.inr (some m))), some (.inl k), some (.inl o), some (.inl n), v4] [] G M cb sb := by
  have nm : w 344 ≠ m := hn_ne gu gm (by decide)
  have ns : w 344 ≠ s := hn_ne gu gs (by decide)
  have sm : s ≠ m := hn_ne gs gm (by decide)
  have e0 : ((3 : Int) * (z : Int)).toNat = 3 * z := by omega
  have e1 : ((3 : Int) * (z : Int) + 1).toNat = 3 * z + 1 := by omega
  have e2 : ((3 : Int) * (z : Int) + 2).toNat = 3 * z + 2 := by omega
  have ej : ((88 : Int) + 12 * k + o).toNat = j := by omega
  refine w_aln rfl ?_
  refine w_gr gm rfl (by decide) rfl m27 ?_
  refine w_ic ?_
  refine w_aln rfl ?_
  refine w_gi gm rfl (by decide) rfl z3 ?_
  refine w_mul ⟨by omega, by omega⟩ ?_
  refine w_iln rfl ?_
  refine w_iast gu rfl (by decide) (by omega) (by show (3 : Int) * (z : Int) < ((24 : Nat) : Int); omega) ?_
  rw [e0]
  refine w_aln rfl ?_
  refine w_gr gm rfl (by decide) rfl m27 ?_
  refine w_ic ?_
  refine w_aln rfl ?_
  refine w_gi gm rfl (by decide) rfl ((hn_n (Or.inl (Ne.symm nm))).trans z3) ?_
  refine w_mul ⟨by omega, by omega⟩ ?_
  refine w_ic ?_
  refine w_add ⟨by omega, by omega⟩ ?_
  refine w_iln rfl ?_
  refine w_iast gu rfl (by decide) (by omega) (by show (3 : Int) * (z : Int) + 1 < ((24 : Nat) : Int); omega) ?_
  rw [e1]
  refine w_aln rfl ?_
  refine w_gr gm rfl (by decide) rfl m27 ?_
  refine w_ic ?_
  refine w_aln rfl ?_
  refine w_gi gm rfl (by decide) rfl ((hn_n (Or.inl (Ne.symm nm))).trans ((hn_n (Or.inl (Ne.symm nm))).trans z3)) ?_
  refine w_mul ⟨by omega, by omega⟩ ?_
  refine w_ic ?_
  refine w_add ⟨by omega, by omega⟩ ?_
  refine w_aln rfl ?_
  refine w_iln rfl ?_
  refine w_iln rfl ?_
  refine w_cv (st := [.inl ((3 : Int) * (z : Int) + 2), .inr (.inr (some (w 344)))]) rfl gm rfl (Nat.le_of_ble_eq_true rfl) (fun kk h => h) ⟨Nat.le_of_ble_eq_true rfl, ?_⟩
  show wz d mt_X12_bidOf.2.2.2.2.1 _ mt_X12_bidOf.2.2.2.2.1 [some (.inr (.inr (some m))), some (.inl k), some (.inl o)] [] _ _ _ _
  refine w_aln rfl ?_
  refine w_gr gm rfl (by decide) rfl m6 ?_
  refine w_bp ?_
  refine w_bp ?_
  refine w_iln rfl ?_
  refine w_mul ⟨by omega, by omega⟩ ?_
  refine w_add ⟨by omega, by omega⟩ ?_
  refine w_iln rfl ?_
  refine w_add ⟨by omega, by omega⟩ ?_
  refine w_iald (v := M.1 s j) gs rfl (by omega) (by show (88 : Int) + 12 * k + o < ((537 : Nat) : Int); omega) (by rw [ej]; exact (hn_n (Or.inl (Ne.symm ns))).trans (hn_n (Or.inl (Ne.symm ns)))) ?_
  refine w_iret (fun q => by cases q) ?_
  refine w_iast gu rfl (by decide) (by omega) (by show (3 : Int) * (z : Int) + 2 < ((24 : Nat) : Int); omega) ?_
  rw [e2]
  refine w_aln rfl ?_
  refine w_dupr ?_
  refine w_gi gm rfl (by decide) rfl ((hn_n (Or.inl (Ne.symm nm))).trans ((hn_n (Or.inl (Ne.symm nm))).trans ((hn_n (Or.inl (Ne.symm nm))).trans z3))) ?_
  refine w_ic ?_
  refine w_add ⟨by omega, by omega⟩ ?_
  refine w_pi gm rfl (by decide) rfl (fun q => by cases q) ?_
  refine w_aln rfl ?_
  refine w_gr gm rfl (by decide) rfl m6 ?_
  refine w_bp ?_
  refine w_bp ?_
  refine w_iln rfl ?_
  refine w_mul ⟨by omega, by omega⟩ ?_
  refine w_add ⟨by omega, by omega⟩ ?_
  refine w_iln rfl ?_
  refine w_add ⟨by omega, by omega⟩ ?_
  refine w_iln rfl ?_
  refine w_iast gs rfl (by decide) (by omega) (by show (88 : Int) + 12 * k + o < ((537 : Nat) : Int); omega) ?_
  rw [ej]
  refine w_ic ?_
  refine w_iret (fun _ => Or.inr rfl) (h _ ⟨rfl, fun a a1 a2 a3 => (wz_c a3).trans ((wz_c a1).trans ((wz_c a2).trans ((wz_c a2).trans (wz_c a2)))), ?_, fun i hi => ?_, ?_, ?_, ?_, ?_⟩)
  · exact (hn_n (Or.inl (Ne.symm sm))).trans (hn_s.trans (by omega))
  · exact (hn_n (Or.inl ns)).trans ((hn_n (Or.inl nm)).trans ((hn_n (Or.inr (by omega))).trans ((hn_n (Or.inr (by omega))).trans (hn_n (Or.inr (by omega))))))
  · exact (hn_n (Or.inl ns)).trans ((hn_n (Or.inl nm)).trans ((hn_n (Or.inr (by omega))).trans ((hn_n (Or.inr (by omega))).trans hn_s)))
  · exact (hn_n (Or.inl ns)).trans ((hn_n (Or.inl nm)).trans ((hn_n (Or.inr (by omega))).trans hn_s))
  · exact (hn_n (Or.inl ns)).trans ((hn_n (Or.inl nm)).trans hn_s)
  · funext i
    by_cases e : i = j
    · subst e; rw [rv_up_s]; exact hn_s
    · rw [rv_up_n e]
      exact (hn_n (Or.inr e)).trans ((hn_n (Or.inl sm)).trans ((hn_n (Or.inl (Ne.symm ns))).trans ((hn_n (Or.inl (Ne.symm ns))).trans (hn_n (Or.inl (Ne.symm ns))))))
set_option maxRecDepth 100000 in
theorem r_X12_offer5 {G : mj_G} {M : mj_M} {m s : Nat} {w : Nat → Nat} {Q : mj_P} {d : Nat} {z1 z2 z3 : Int} (gm : G m = (1012, 0)) (gs : G s = (51100, 537)) (gu : G (w 344) = (57100, 24)) (m6 : M.2.2 m 6 = some s) (m27 : M.2.2 m 27 = some (w 344)) (b0 : 0 ≤ M.1 s 0 ∧ M.1 s 0 ≤ 8) (hc : (lq_ct (fun i => M.1 s (88 + i)) 96) ≤ 40) {z : Nat} (hz : z ≤ 8) (zu : M.1 m 28 = (z : Int)) (h0 : ¬ lq_ok (M.1 s) z1 z2 z3 → Q (some (.inl 0)) G (mj_p0 M m 0 0)) (h1 : lq_ok (M.1 s) z1 z2 z3 → ∀ z' h' M', lq_zs z z' h' → lq_ro w m s z' h' (12 * z1 + z2 + 88).toNat z1 z2 z3 M M' → Q (some (.inl 1)) G M') : mj_R mj_tab (d + 3) 220 [.inr (.inr (some m)), .inl z1, .inl z2, .inl z3] G M Q := by
  have sm : s ≠ m := hn_ne gs gm (by decide)
  have um : w 344 ≠ m := hn_ne gu gm (by decide)
  have es : (mj_p0 M m 0 0).1 s = M.1 s := wz_c sm
  refine ⟨Nat.le_of_ble_eq_true rfl, ?_⟩
  show wz (d + 2) mt_X12_offer.2.2.2.2.1 Q mt_X12_offer.2.2.2.2.1 [some (.inr (.inr (some m))), some (.inl z1), some (.inl z2), some (.inl z3), none] [] G M _ _
  refine w_aln rfl ?_
  refine w_ic ?_
  refine w_pi gm rfl (by decide) rfl (fun q => by cases q) ?_
  refine w_aln rfl ?_
  refine w_iln rfl ?_
  refine w_cv (st := []) rfl gm rfl (Nat.le_of_ble_eq_true rfl) (fun kk h => h) ⟨Nat.le_of_ble_eq_true rfl, ?_⟩
  show wz (d + 1) mt_X12_isTown.2.2.2.2.1 _ mt_X12_isTown.2.2.2.2.1 [some (.inr (.inr (some m))), some (.inl z1)] [] _ _ _ _
  refine w_iln rfl ?_
  refine w_ic ?_
  refine w_aln rfl ?_
  refine w_gr gm rfl (by decide) rfl (m6) ?_
  refine w_ic ?_
  refine w_iald (v := (M.1 s 0)) gs rfl (by show (0 : Int) ≤ 0; omega) (by show 0 < ((537 : Nat) : Int); omega) ((hn_n (Or.inl (hn_ne gs gm (by decide)))).trans (congrArg (M.1 s) (by show (0 : Int).toNat = 0; omega))) ?_
  refine w_ic ?_
  refine w_sub ⟨by show (-2147483648 : Int) ≤ (M.1 s 0) - 1; omega, by show (M.1 s 0) - 1 < (2147483648 : Int); omega⟩ ?_
  refine w_cs (st := []) rfl (Nat.le_of_ble_eq_true rfl) (fun kk h => h) ⟨Nat.le_of_ble_eq_true rfl, ?_⟩
  show wz (d) mt_X12_isIn.2.2.2.2.1 _ mt_X12_isIn.2.2.2.2.1 [some (.inl z1), some (.inl 0), some (.inl ((M.1 s 0) - 1))] [] _ _ _ _
  refine w_iln rfl ?_
  refine w_iln rfl ?_
  refine w_cmlt (fun c1 => ?_) (fun c1 => ?_)
  · skip
    refine w_ic ?_
    refine w_iret (fun _ => Or.inl rfl) ?_
    refine w_iret (fun _ => Or.inl rfl) ?_
    refine w_ifeq (fun c2 => ?_) (fun c2 => ?_)
    · skip
      refine w_ic ?_
      exact w_iret (fun _ => Or.inl rfl) (h0 (by unfold lq_ok; omega))
    · exfalso; omega
  · skip
    refine w_iln rfl ?_
    refine w_iln rfl ?_
    refine w_cmgt (fun c3 => ?_) (fun c3 => ?_)
    · skip
      refine w_ic ?_
      refine w_iret (fun _ => Or.inl rfl) ?_
      refine w_iret (fun _ => Or.inl rfl) ?_
      refine w_ifeq (fun c4 => ?_) (fun c4 => ?_)
      · skip
        refine w_ic ?_
        exact w_iret (fun _ => Or.inl rfl) (h0 (by unfold lq_ok; omega))
      · exfalso; omega
    · skip
      refine w_ic ?_
      refine w_goto ?_
      refine w_iret (fun _ => Or.inr rfl) ?_
      refine w_iret (fun _ => Or.inr rfl) ?_
      refine w_ifeq (fun c5 => ?_) (fun c5 => ?_)
      · exfalso; omega
      · skip
        refine w_iln rfl ?_
        refine w_cs (st := []) rfl (Nat.le_of_ble_eq_true rfl) (fun kk h => h) ⟨Nat.le_of_ble_eq_true rfl, ?_⟩
        show wz (d + 1) mt_X12_isMonth.2.2.2.2.1 _ mt_X12_isMonth.2.2.2.2.1 [some (.inl z2)] [] _ _ _ _
        refine w_iln rfl ?_
        refine w_ic ?_
        refine w_bp ?_
        refine w_cs (st := []) rfl (Nat.le_of_ble_eq_true rfl) (fun kk h => h) ⟨Nat.le_of_ble_eq_true rfl, ?_⟩
        show wz (d) mt_X12_isIn.2.2.2.2.1 _ mt_X12_isIn.2.2.2.2.1 [some (.inl z2), some (.inl 0), some (.inl 11)] [] _ _ _ _
        refine w_iln rfl ?_
        refine w_iln rfl ?_
        refine w_cmlt (fun c6 => ?_) (fun c6 => ?_)
        · skip
          refine w_ic ?_
          refine w_iret (fun _ => Or.inl rfl) ?_
          refine w_iret (fun _ => Or.inl rfl) ?_
          refine w_ifeq (fun c7 => ?_) (fun c7 => ?_)
          · skip
            refine w_ic ?_
            exact w_iret (fun _ => Or.inl rfl) (h0 (by unfold lq_ok; omega))
          · exfalso; omega
        · skip
          refine w_iln rfl ?_
          refine w_iln rfl ?_
          refine w_cmgt (fun c8 => ?_) (fun c8 => ?_)
          · skip
            refine w_ic ?_
            refine w_iret (fun _ => Or.inl rfl) ?_
            refine w_iret (fun _ => Or.inl rfl) ?_
            refine w_ifeq (fun c9 => ?_) (fun c9 => ?_)
            · skip
              refine w_ic ?_
              exact w_iret (fun _ => Or.inl rfl) (h0 (by unfold lq_ok; omega))
            · exfalso; omega
          · skip
            refine w_ic ?_
            refine w_goto ?_
            refine w_iret (fun _ => Or.inr rfl) ?_
            refine w_iret (fun _ => Or.inr rfl) ?_
            refine w_ifeq (fun c10 => ?_) (fun c10 => ?_)
            · exfalso; omega
            · skip
              refine w_iln rfl ?_
              refine w_ic ?_
              refine w_sp ?_
              refine w_cs (st := []) rfl (Nat.le_of_ble_eq_true rfl) (fun kk h => h) ⟨Nat.le_of_ble_eq_true rfl, ?_⟩
              show wz (d + 1) mt_X12_isIn.2.2.2.2.1 _ mt_X12_isIn.2.2.2.2.1 [some (.inl z3), some (.inl 0), some (.inl 999)] [] _ _ _ _
              refine w_iln rfl ?_
              refine w_iln rfl ?_
              refine w_cmlt (fun c11 => ?_) (fun c11 => ?_)
              · skip
                refine w_ic ?_
                refine w_iret (fun _ => Or.inl rfl) ?_
                refine w_ifeq (fun c12 => ?_) (fun c12 => ?_)
                · skip
                  refine w_ic ?_
                  exact w_iret (fun _ => Or.inl rfl) (h0 (by unfold lq_ok; omega))
                · exfalso; omega
              · skip
                refine w_iln rfl ?_
                refine w_iln rfl ?_
                refine w_cmgt (fun c13 => ?_) (fun c13 => ?_)
                · skip
                  refine w_ic ?_
                  refine w_iret (fun _ => Or.inl rfl) ?_
                  refine w_ifeq (fun c14 => ?_) (fun c14 => ?_)
                  · skip
                    refine w_ic ?_
                    exact w_iret (fun _ => Or.inl rfl) (h0 (by unfold lq_ok; omega))
                  · exfalso; omega
                · skip
                  refine w_ic ?_
                  refine w_goto ?_
                  refine w_iret (fun _ => Or.inr rfl) ?_
                  refine w_ifeq (fun c15 => ?_) (fun c15 => ?_)
                  · exfalso; omega
                  · skip
                    refine w_iln rfl ?_
                    refine w_ifle (fun c16 => ?_) (fun c16 => ?_)
                    · skip
                      refine w_aln rfl ?_
                      refine w_gi gm rfl (by decide) rfl ((hn_n (Or.inr (by decide))).trans zu) ?_
                      refine w_bp ?_
                      refine w_cmne (fun c17 => ?_) (fun c17 => ?_)
                      · skip
                        exact r_of2 (M := mj_p0 M m 0 0) (d := d + 1) gm gs gu m6 m27 (z := z) (by omega) ((hn_n (Or.inr (by decide))).trans zu) (by omega) (by omega) (by omega) (by omega) rfl _ _ (fun M' hr => h1 (by unfold lq_ok; omega) z 0 M' (Or.inl ⟨by omega, rfl, rfl⟩) (by
                          obtain ⟨q1, q2, q3, q4, q5, q6, q7, q8⟩ := hr
                          exact ⟨q1, fun a a1 a2 a3 => (q2 a a1 a2 a3).trans (wz_c a1), q3, fun i hi => (q4 i hi).trans (hn_n (Or.inl um)), q5, q6, q7.trans (by rw [es]), by rw [q8, es]⟩))
                      · skip
                        refine w_ic ?_
                        refine w_is ?_
                        show wz _ _ _ _ [some (.inr (.inr (some m))), some (.inl z1), some (.inl z2), some (.inl z3), some (.inl 0)] _ _ _ _ _
                        have e8 : z = 8 := by omega
                        subst e8
                        refine r_of1 (M0 := mj_p0 M m 0 0) gm gu m27 21 0 _ _ _ (by decide) rfl (fun _ _ => rfl) (fun j hj => absurd hj (Nat.not_lt_zero j)) (fun _ _ => rfl) (fun M1 cb sb g2 g1 g3 => ?_)
                        refine w_aln rfl ?_
                        refine w_bp ?_
                        refine w_pi gm rfl (by decide) rfl (fun q => by cases q) ?_
                        have es1 : (mj_p0 M1 m 28 7).1 s = M.1 s := (wz_c sm).trans ((g1 s (hn_ne gs gu (by decide))).trans es)
                        exact r_of2 (M := mj_p0 M1 m 28 7) (d := d + 1) gm gs gu (by show M1.2.2 m 6 = _; rw [g2]; exact m6) (by show M1.2.2 m 27 = _; rw [g2]; exact m27) (z := 7) (by decide) hn_s (by omega) (by omega) (by omega) (by omega) rfl _ _ (fun M' hr => h1 (by unfold lq_ok; omega) 7 1 M' (Or.inr ⟨rfl, rfl, rfl⟩) (by
                          obtain ⟨q1, q2, q3, q4, q5, q6, q7, q8⟩ := hr
                          exact ⟨q1.trans g2, fun a a1 a2 a3 => (q2 a a1 a2 a3).trans ((wz_c a1).trans ((g1 a a2).trans (wz_c a1))), q3, fun i hi => (q4 i hi).trans ((hn_n (Or.inl um)).trans ((g3 i (by omega)).trans (hn_n (Or.inl um)))), q5, q6, q7.trans (by rw [es1]), by rw [q8, es1]⟩))
                    · skip
                      refine w_aln rfl ?_
                      refine w_iln rfl ?_
                      refine w_iln rfl ?_
                      refine w_cv (st := []) rfl gm rfl (Nat.le_of_ble_eq_true rfl) (fun kk h => h) ⟨Nat.le_of_ble_eq_true rfl, ?_⟩
                      show wz (d + 1) mt_X12_bidOf.2.2.2.2.1 _ mt_X12_bidOf.2.2.2.2.1 [some (.inr (.inr (some m))), some (.inl z1), some (.inl z2)] [] _ _ _ _
                      refine w_aln rfl ?_
                      refine w_gr gm rfl (by decide) rfl (m6) ?_
                      refine w_bp ?_
                      refine w_bp ?_
                      refine w_iln rfl ?_
                      refine w_mul ⟨by show (-2147483648 : Int) ≤ 12 * z1; omega, by show 12 * z1 < (2147483648 : Int); omega⟩ ?_
                      refine w_add ⟨by show (-2147483648 : Int) ≤ 88 + (12 * z1); omega, by show 88 + (12 * z1) < (2147483648 : Int); omega⟩ ?_
                      refine w_iln rfl ?_
                      refine w_add ⟨by show (-2147483648 : Int) ≤ (88 + (12 * z1)) + z2; omega, by show (88 + (12 * z1)) + z2 < (2147483648 : Int); omega⟩ ?_
                      refine w_iald (v := (M.1 s (12 * z1 + z2 + 88).toNat)) gs rfl (by show (0 : Int) ≤ (88 + (12 * z1)) + z2; omega) (by show (88 + (12 * z1)) + z2 < ((537 : Nat) : Int); omega) ((hn_n (Or.inl (hn_ne gs gm (by decide)))).trans (congrArg (M.1 s) (by show ((88 + (12 * z1)) + z2).toNat = (12 * z1 + z2 + 88).toNat; omega))) ?_
                      refine w_iret (fun q => by cases q) ?_
                      refine w_ifne (fun c18 => ?_) (fun c18 => ?_)
                      · skip
                        refine w_aln rfl ?_
                        refine w_gi gm rfl (by decide) rfl ((hn_n (Or.inr (by decide))).trans zu) ?_
                        refine w_bp ?_
                        refine w_cmne (fun c19 => ?_) (fun c19 => ?_)
                        · skip
                          exact r_of2 (M := mj_p0 M m 0 0) (d := d + 1) gm gs gu m6 m27 (z := z) (by omega) ((hn_n (Or.inr (by decide))).trans zu) (by omega) (by omega) (by omega) (by omega) rfl _ _ (fun M' hr => h1 (by unfold lq_ok; omega) z 0 M' (Or.inl ⟨by omega, rfl, rfl⟩) (by
                            obtain ⟨q1, q2, q3, q4, q5, q6, q7, q8⟩ := hr
                            exact ⟨q1, fun a a1 a2 a3 => (q2 a a1 a2 a3).trans (wz_c a1), q3, fun i hi => (q4 i hi).trans (hn_n (Or.inl um)), q5, q6, q7.trans (by rw [es]), by rw [q8, es]⟩))
                        · skip
                          refine w_ic ?_
                          refine w_is ?_
                          show wz _ _ _ _ [some (.inr (.inr (some m))), some (.inl z1), some (.inl z2), some (.inl z3), some (.inl 0)] _ _ _ _ _
                          have e8 : z = 8 := by omega
                          subst e8
                          refine r_of1 (M0 := mj_p0 M m 0 0) gm gu m27 21 0 _ _ _ (by decide) rfl (fun _ _ => rfl) (fun j hj => absurd hj (Nat.not_lt_zero j)) (fun _ _ => rfl) (fun M1 cb sb g2 g1 g3 => ?_)
                          refine w_aln rfl ?_
                          refine w_bp ?_
                          refine w_pi gm rfl (by decide) rfl (fun q => by cases q) ?_
                          have es1 : (mj_p0 M1 m 28 7).1 s = M.1 s := (wz_c sm).trans ((g1 s (hn_ne gs gu (by decide))).trans es)
                          exact r_of2 (M := mj_p0 M1 m 28 7) (d := d + 1) gm gs gu (by show M1.2.2 m 6 = _; rw [g2]; exact m6) (by show M1.2.2 m 27 = _; rw [g2]; exact m27) (z := 7) (by decide) hn_s (by omega) (by omega) (by omega) (by omega) rfl _ _ (fun M' hr => h1 (by unfold lq_ok; omega) 7 1 M' (Or.inr ⟨rfl, rfl, rfl⟩) (by
                            obtain ⟨q1, q2, q3, q4, q5, q6, q7, q8⟩ := hr
                            exact ⟨q1.trans g2, fun a a1 a2 a3 => (q2 a a1 a2 a3).trans ((wz_c a1).trans ((g1 a a2).trans (wz_c a1))), q3, fun i hi => (q4 i hi).trans ((hn_n (Or.inl um)).trans ((g3 i (by omega)).trans (hn_n (Or.inl um)))), q5, q6, q7.trans (by rw [es1]), by rw [q8, es1]⟩))
                      · skip
                        refine w_aln rfl ?_
                        refine w_cv (st := []) rfl gm rfl (Nat.le_of_ble_eq_true rfl) (fun kk h => h) (r_X12_bidMany (M := mj_p0 M m 0 0) (d := d + 1) gm gs m6 ?_)
                        rw [es]
                        refine w_bp ?_
                        refine w_cmne (fun c20 => ?_) (fun c20 => ?_)
                        · skip
                          refine w_aln rfl ?_
                          refine w_gi gm rfl (by decide) rfl ((hn_n (Or.inr (by decide))).trans zu) ?_
                          refine w_bp ?_
                          refine w_cmne (fun c21 => ?_) (fun c21 => ?_)
                          · skip
                            exact r_of2 (M := mj_p0 M m 0 0) (d := d + 1) gm gs gu m6 m27 (z := z) (by omega) ((hn_n (Or.inr (by decide))).trans zu) (by omega) (by omega) (by omega) (by omega) rfl _ _ (fun M' hr => h1 (by unfold lq_ok; omega) z 0 M' (Or.inl ⟨by omega, rfl, rfl⟩) (by
                              obtain ⟨q1, q2, q3, q4, q5, q6, q7, q8⟩ := hr
                              exact ⟨q1, fun a a1 a2 a3 => (q2 a a1 a2 a3).trans (wz_c a1), q3, fun i hi => (q4 i hi).trans (hn_n (Or.inl um)), q5, q6, q7.trans (by rw [es]), by rw [q8, es]⟩))
                          · skip
                            refine w_ic ?_
                            refine w_is ?_
                            show wz _ _ _ _ [some (.inr (.inr (some m))), some (.inl z1), some (.inl z2), some (.inl z3), some (.inl 0)] _ _ _ _ _
                            have e8 : z = 8 := by omega
                            subst e8
                            refine r_of1 (M0 := mj_p0 M m 0 0) gm gu m27 21 0 _ _ _ (by decide) rfl (fun _ _ => rfl) (fun j hj => absurd hj (Nat.not_lt_zero j)) (fun _ _ => rfl) (fun M1 cb sb g2 g1 g3 => ?_)
                            refine w_aln rfl ?_
                            refine w_bp ?_
                            refine w_pi gm rfl (by decide) rfl (fun q => by cases q) ?_
                            have es1 : (mj_p0 M1 m 28 7).1 s = M.1 s := (wz_c sm).trans ((g1 s (hn_ne gs gu (by decide))).trans es)
                            exact r_of2 (M := mj_p0 M1 m 28 7) (d := d + 1) gm gs gu (by show M1.2.2 m 6 = _; rw [g2]; exact m6) (by show M1.2.2 m 27 = _; rw [g2]; exact m27) (z := 7) (by decide) hn_s (by omega) (by omega) (by omega) (by omega) rfl _ _ (fun M' hr => h1 (by unfold lq_ok; omega) 7 1 M' (Or.inr ⟨rfl, rfl, rfl⟩) (by
                              obtain ⟨q1, q2, q3, q4, q5, q6, q7, q8⟩ := hr
                              exact ⟨q1.trans g2, fun a a1 a2 a3 => (q2 a a1 a2 a3).trans ((wz_c a1).trans ((g1 a a2).trans (wz_c a1))), q3, fun i hi => (q4 i hi).trans ((hn_n (Or.inl um)).trans ((g3 i (by omega)).trans (hn_n (Or.inl um)))), q5, q6, q7.trans (by rw [es1]), by rw [q8, es1]⟩))
                        · skip
                          refine w_ic ?_
                          exact w_iret (fun _ => Or.inl rfl) (h0 (by unfold lq_ok; omega))
theorem r_X12_undo5 {G : mj_G} {M : mj_M} {m s : Nat} {w : Nat → Nat} {Q : mj_P} {d : Nat} (gm : G m = (1012, 0)) (gs : G s = (51100, 537)) (gu : G (w 344) = (57100, 24)) (m6 : M.2.2 m 6 = some s) (m27 : M.2.2 m 27 = some (w 344)) {z : Nat} (hz : z ≤ 8) (zu : M.1 m 28 = (z : Int)) (hb : ∀ i, i < z → (0 ≤ M.1 (w 344) (3 * i) ∧ M.1 (w 344) (3 * i) < 8) ∧ (0 ≤ M.1 (w 344) (3 * i + 1) ∧ M.1 (w 344) (3 * i + 1) < 12)) (h0 : z = 0 → Q (some (.inl (-1))) G (mj_p0 M m 0 0)) (h1 : ∀ y, z = y + 1 → Q (some (.inl (y : Int))) G (mj_p0 (mj_p0 (mj_p0 M m 0 0) m 28 (y : Int)) s (88 + 12 * M.1 (w 344) (3 * y) + M.1 (w 344) (3 * y + 1)).toNat (M.1 (w 344) (3 * y + 2)))) : mj_R mj_tab (d + 1) 253 [.inr (.inr (some m))] G M Q := by
  have um : w 344 ≠ m := hn_ne gu gm (by decide)
  have sm : s ≠ m := hn_ne gs gm (by decide)
  refine ⟨Nat.le_of_ble_eq_true rfl, ?_⟩
  show wz d mt_X12_undo.2.2.2.2.1 Q mt_X12_undo.2.2.2.2.1 [some (.inr (.inr (some m)))] [] G M _ _
  refine w_aln rfl ?_
  refine w_ic ?_
  refine w_pi gm rfl (by decide) rfl (fun q => by cases q) ?_
  refine w_aln rfl ?_
  refine w_gi gm rfl (by decide) rfl ((hn_n (Or.inr (by decide))).trans zu) ?_
  refine w_ifne (fun c => ?_) (fun c => ?_)
  · obtain ⟨y, rfl⟩ : ∃ y, z = y + 1 := ⟨z - 1, by omega⟩
    have by_ := hb y (by omega)
    have e0 : ((3 : Int) * (y : Int)).toNat = 3 * y := by omega
    have e1 : ((3 : Int) * (y : Int) + 1).toNat = 3 * y + 1 := by omega
    have e2 : ((3 : Int) * (y : Int) + 2).toNat = 3 * y + 2 := by omega
    have fu : ∀ i, (mj_p0 (mj_p0 M m 0 0) m 28 (y : Int)).1 (w 344) i = M.1 (w 344) i := fun i => (hn_n (Or.inl um)).trans (hn_n (Or.inl um))
    refine w_aln rfl ?_
    refine w_dupr ?_
    refine w_gi gm rfl (by decide) rfl ((hn_n (Or.inr (by decide))).trans zu) ?_
    refine w_ic ?_
    refine w_sub ⟨by omega, by omega⟩ ?_
    rw [show (((y + 1 : Nat) : Int) - 1) = (y : Int) by omega]
    refine w_pi gm rfl (by decide) rfl (fun q => by cases q) ?_
    refine w_aln rfl ?_
    refine w_gr gm rfl (by decide) rfl m6 ?_
    refine w_bp ?_
    refine w_bp ?_
    refine w_aln rfl ?_
    refine w_gr gm rfl (by decide) rfl m27 ?_
    refine w_ic ?_
    refine w_aln rfl ?_
    refine w_gi gm rfl (by decide) rfl hn_s ?_
    refine w_mul ⟨by omega, by omega⟩ ?_
    refine w_iald (v := M.1 (w 344) (3 * y)) gu rfl (by omega) (by show (3 : Int) * (y : Int) < ((24 : Nat) : Int); omega) (by rw [e0]; exact fu _) ?_
    refine w_mul ⟨by omega, by omega⟩ ?_
    refine w_add ⟨by omega, by omega⟩ ?_
    refine w_aln rfl ?_
    refine w_gr gm rfl (by decide) rfl m27 ?_
    refine w_ic ?_
    refine w_aln rfl ?_
    refine w_gi gm rfl (by decide) rfl hn_s ?_
    refine w_mul ⟨by omega, by omega⟩ ?_
    refine w_ic ?_
    refine w_add ⟨by omega, by omega⟩ ?_
    refine w_iald (v := M.1 (w 344) (3 * y + 1)) gu rfl (by omega) (by show (3 : Int) * (y : Int) + 1 < ((24 : Nat) : Int); omega) (by rw [e1]; exact fu _) ?_
    refine w_add ⟨by omega, by omega⟩ ?_
    refine w_aln rfl ?_
    refine w_gr gm rfl (by decide) rfl m27 ?_
    refine w_ic ?_
    refine w_aln rfl ?_
    refine w_gi gm rfl (by decide) rfl hn_s ?_
    refine w_mul ⟨by omega, by omega⟩ ?_
    refine w_ic ?_
    refine w_add ⟨by omega, by omega⟩ ?_
    refine w_iald (v := M.1 (w 344) (3 * y + 2)) gu rfl (by omega) (by show (3 : Int) * (y : Int) + 2 < ((24 : Nat) : Int); omega) (by rw [e2]; exact fu _) ?_
    refine w_iast gs rfl (by decide) (by omega) (by show (88 : Int) + 12 * M.1 (w 344) (3 * y) + M.1 (w 344) (3 * y + 1) < ((537 : Nat) : Int); omega) ?_
    refine w_aln rfl ?_
    refine w_gi gm rfl (by decide) rfl ((hn_n (Or.inl (Ne.symm sm))).trans hn_s) ?_
    exact w_iret (fun q => by cases q) (h1 y rfl)
  · refine w_ic ?_
    exact w_iret (fun q => by cases q) (h0 (by omega))
end
